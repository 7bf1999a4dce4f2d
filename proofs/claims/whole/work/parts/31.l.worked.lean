/-! A PART HAS BEEN WORKED; the world of a tick -/
/-- what a tick of n leaves alone -/
def h_WI (C M : ax_V) (U : Int → Int) (k : Nat) (n b : Int) (V0 V : ax_V) : Prop :=
  (g_fr [150, 151, 152, 153, 154, 155] V0 V ∧ (∀ f, ¬ f = 10 → V 150 f = V0 150 f) ∧ ax_g V) ∧ (∀ i, ¬ (b ≤ i ∧ i < b + g_T C M U n) → V 155 i = V0 155 i) ∧ (∀ x, 26 * n + 26 ≤ x → V 152 x = V0 152 x ∧ V 153 x = V0 153 x) ∧ (∀ q, 0 ≤ q → q < (M 222 26) → n < M 250 q → V 151 q = V0 151 q) ∧ (∀ a, 0 ≤ a → a < (M 222 55) → n < M 267 a → V 154 a = V0 154 a) ∧ h_AS C M U k n b (V 155) ∧ V 150 10 ≤ V0 150 10
def h_WA (C M : ax_V) (n : Int) (V : ax_V) : Prop := ∀ a, 0 ≤ a → a < (M 222 55) → M 267 a = n → C 558 a ≤ V 154 a ∧ V 154 a < C 558 a + M 269 a
section Worked
variable {C0 M0 P V V0 W : ax_V} {F G Hh S U J Im : Int → Int} {n q e a b : Int} {k : Nat} {s t : Int → Prop} {R : h_R}
theorem h_AS.eq (hX : h_X C0 M0 P F G Hh S U J Im) : ∀ (k : Nat) (n b b' : Int) (f f' : Int → Int), h_N M0 U J n → h_AS C0 M0 U k n b f → (∀ i, 0 ≤ i → i < g_T C0 M0 U n → f' (b' + i) = f (b + i)) → h_AS C0 M0 U k n b' f' := by
  intro k
  induction k with
  | zero => intro _ _ _ _ _ _ _ _; exact trivial
  | succ k ih =>
    intro n b b' f f' hn h e
    have T : g_T C0 M0 U n = g_ll M0 n 26 + g_ca M0 n ((M0 222 55)).toNat + g_cp C0 M0 U n ((M0 222 26)).toNat := rfl
    have l0 := (g_ll_b M0 n 26).1
    have c0 := (g_ca_b M0 n ((M0 222 55)).toNat).1
    have p0 := g_cp_0 (C0 := C0) (M0 := M0) (n := n) (fun x => (hX.UJ.1 x).1) ((M0 222 26)).toNat
    refine ⟨fun a a1 an => ?_, fun q q1 qn o => ?_⟩
    · have z := hX.a5 hn (a := (a : Int)) (by omega) (by omega) an
      rw [Int.toNat_natCast] at z
      rw [e _ (by omega) (by omega)]
      exact h.1 a a1 an
    · have z := hX.c5 hn (q := (q : Int)) (by omega) (by omega) qn
      rw [Int.toNat_natCast] at z
      have sb := hX.sub hn (q := (q : Int)) (by omega) (by omega) qn o
      have t := hX.t sb.1
      have v := sb.2.2
      refine ih _ _ _ f f' sb.1 (h.2 q q1 qn o) (fun i i0 i1 => ?_)
      rw [Int.add_assoc, Int.add_assoc]
      exact e _ (by omega) (by omega)
/-- one step -/
theorem h_AS.step (hX : h_X C0 M0 P F G Hh S U J Im) (hn : h_N M0 U J n) {f f' : Int → Int} (h : h_AS C0 M0 U (k + 1) n b f) (ha : ∀ a, 0 ≤ a → a < (M0 222 55) → M0 267 a = n → f' (b + (g_cp C0 M0 U n ((M0 222 26)).toNat + g_ca M0 n a.toNat)) = f (b + (g_cp C0 M0 U n ((M0 222 26)).toNat + g_ca M0 n a.toNat)) ∨ (0 ≤ f' (b + (g_cp C0 M0 U n ((M0 222 26)).toNat + g_ca M0 n a.toNat)) ∧ f' (b + (g_cp C0 M0 U n ((M0 222 26)).toNat + g_ca M0 n a.toNat)) < M0 269 a)) (hc : ∀ q, 0 ≤ q → q < (M0 222 26) → M0 250 q = n → M0 241 q = 22 → h_AS C0 M0 U k (C0 520 q) (b + g_cp C0 M0 U n q.toNat) f' ∨ ∀ i, 0 ≤ i → i < g_vl C0 M0 U q → f' (b + (g_cp C0 M0 U n q.toNat + i)) = f (b + (g_cp C0 M0 U n q.toNat + i))) : h_AS C0 M0 U (k + 1) n b f' := by
  refine ⟨fun a a1 an => ?_, fun q q1 qn o => ?_⟩
  · have z := ha (a : Int) (by omega) (by omega) an
    rw [Int.toNat_natCast] at z
    rcases z with z | z
    · rw [z]; exact h.1 a a1 an
    · exact z
  · have z := hc (q : Int) (by omega) (by omega) qn o
    rw [Int.toNat_natCast] at z
    rcases z with z | z
    · exact z
    · have sb := hX.sub hn (q := (q : Int)) (by omega) (by omega) qn o
      have t := hX.t sb.1
      have v := sb.2.2
      refine h_AS.eq hX _ _ _ _ _ _ sb.1 (h.2 q q1 qn o) (fun i i0 i1 => ?_)
      rw [Int.add_assoc]
      exact z i i0 (by omega)
/-- the first memory -/
theorem h_AS.first (hX : h_X C0 M0 P F G Hh S U J Im) : ∀ (k : Nat) (m : Int), h_N M0 U J m → h_AS C0 M0 U k m (300 * m) (P 515) := by
  intro k
  induction k with
  | zero => intro _ _; exact trivial
  | succ k ih =>
    intro m hm
    have fm := (hX.dn hm).2.2.2.2.1
    refine ⟨fun a a1 an => ?_, fun q q1 qn o => ?_⟩
    · rw [fm.2.1 a a1 an]
      have := (hX.hS.au (a := (a : Int)) (by omega) (by omega)).2.2.1
      omega
    · have sb := hX.sub hm (q := (q : Int)) (by omega) (by omega) qn o
      have t := hX.t sb.1
      have v := sb.2.2
      refine h_AS.eq hX _ _ _ _ _ _ sb.1 (ih _ sb.1) (fun i i0 i1 => ?_)
      rw [Int.add_assoc]
      exact (fm.2.2 q q1 qn).2 o i i0 (by omega)
set_option maxHeartbeats 1000000 in
theorem h_IR.worked (hX : h_X C0 M0 P F G Hh S U J Im) (hn : h_N M0 U J n) (h : h_IR C0 M0 U F S k n b V0 V s R) (te : ∀ v, t v ↔ (s v ∨ v = q)) (q0 : 0 ≤ q) (q1 : q < (M0 222 26)) (qn : M0 250 q = n) (ac : h_ac M0 S n (R []) q) (noend : ∀ v, 3072 ≤ v → ¬ s v) (new : ¬ s q)
    (f2 : ∀ x, 0 ≤ x → x < (M0 222 26) → M0 250 x = n → ¬ x = q → W 151 x = V 151 x) (f3 : W 151 q = R [] 0 q ∧ (F q = 1 → R [] 0 q = 0 ∨ R [] 0 q = 1)) (fl : ∀ y, 0 ≤ y → y < 26 → W 152 (26 * n + y) = V 152 (26 * n + y) ∧ W 153 (26 * n + y) = V 153 (26 * n + y)) (fs : ∀ a, 0 ≤ a → a < (M0 222 55) → M0 267 a = n → W 154 a = V 154 a) (fm : ∀ i, 0 ≤ i → ¬ (g_cp C0 M0 U n q.toNat ≤ i ∧ i < g_cp C0 M0 U n q.toNat + g_vl C0 M0 U q) → W 155 (b + i) = V 155 (b + i)) (fk : ∀ i j, h_sub C0 M0 U k q i j → M0 241 q = 6 → W 155 (b + (g_cp C0 M0 U n q.toNat + i)) = V 155 (b + (g_cp C0 M0 U n q.toNat + i))) (f8 : ∀ i j, h_sub C0 M0 U k q i j → ¬ M0 241 q = 6 → W 155 (b + (g_cp C0 M0 U n q.toNat + i)) = R [] 8 (g_sp C0 M0 U n q.toNat + j)) (f6 : ∀ x, x < 700 → (W 150 10 ≤ x ↔ (V 150 10 ≤ x ∨ ((M0 241 q = 10 ∨ M0 241 q = 11) ∧ R [] 0 (M0 246 q) = 0 ∧ M0 243 q ≤ x) ∨ (M0 241 q = 22 ∧ R [q] 4 0 ≤ x)))) : h_IR C0 M0 U F S k n b V0 W t R := by
  have hS := hX.hS
  have sm := hS.small
  have nn := hn.1
  have cq := hX.c5 hn q0 q1 qn
  obtain ⟨i1, i2, i3, i4, i5, i6⟩ := h
  have big : ∀ v, ¬ v = q → (t v ↔ s v) := fun v hv => by rw [te]; exact ⟨fun z => by rcases z with z | z; exact z; exact absurd z hv, fun z => Or.inl z⟩
  refine ⟨fun x x0 x1 xn xs xa => ?_, i2.keep hS (fun e a b => (big _ (by omega)).mp) fl, i3.keep (fun a x y => big _ (by omega)) fs, fun e x i j e0 e1 en ea eb sb => ?_, i5.keep (fun l x y => big _ (by omega)) (fun a x y => big _ (by omega)) (fun i hi => fm i (by omega) (by omega)), fun x hx => ?_⟩
  · by_cases xq : x = q
    · rw [xq]; exact f3
    · rw [f2 x x0 x1 xn xq]
      exact i1 x x0 x1 xn ((big x xq).mp xs) xa
  · have u := i4 e x i j e0 e1 en ea eb sb
    have xx := hS.eq e0 e1 en ea eb
    have aub : ¬ M0 263 e = -1 → 0 ≤ M0 263 e := fun z => by
      rcases hS.st e0 e1 with y | y
      · exact absurd y.2.1 z
      · exact y.2.1.1
    by_cases xq : x = q
    · rw [xq] at ea eb sb u ⊢
      by_cases o6 : M0 241 q = 6
      · refine u.to (fun z => big _ (by have := aub z; omega)) (fun _ => big _ (by omega)) (fun z => absurd o6 z) (fun z => big _ (by have := aub z; omega)) (fun x z => ?_)
        rw [fk i j sb o6]; exact z
      · have nw : ¬ (¬ M0 263 e = -1 ∧ t (5120 + M0 263 e)) := fun z => by
          have a0 := aub z.1
          exact noend _ (by omega) ((big _ (by omega)).mp z.2)
        have dn : (M0 241 q = 6 ∧ t (3072 + q)) ∨ (¬ M0 241 q = 6 ∧ t q) := Or.inr ⟨o6, (te q).mpr (Or.inr rfl)⟩
        exact ⟨fun z => absurd z nw, fun _ _ => f8 i j sb o6, fun _ z => absurd dn z, fun _ z => absurd dn z⟩
    · have bi := hX.sb hn xx.1.1 xx.1.2 xx.2 sb
      have cx := hX.c5 hn xx.1.1 xx.1.2 xx.2
      have cd := hX.cd q0 q1 qn xx.1.1 xx.1.2 xx.2 xq
      refine u.to (fun z => big _ (by have := aub z; omega)) (fun _ => big _ (by omega)) (fun _ => big _ xq) (fun z => big _ (by have := aub z; omega)) (fun x z => ?_)
      rw [fm _ (by omega) (by omega)]; exact z
  · rw [f6 x hx, i6 x hx]
    constructor
    · rintro ((z | ⟨y, y0, y1, y2, y3⟩ | ⟨y, y0, y1, y2, y3⟩) | z | z)
      · exact Or.inl z
      · exact Or.inr (Or.inl ⟨y, y0, y1, (te _).mpr (Or.inl y2), y3⟩)
      · exact Or.inr (Or.inr ⟨y, y0, y1, (te _).mpr (Or.inl y2), y3⟩)
      · exact Or.inr (Or.inl ⟨q, ⟨q0, q1⟩, qn, (te _).mpr (Or.inr rfl), ac, z⟩)
      · exact Or.inr (Or.inr ⟨q, ⟨q0, q1⟩, qn, (te _).mpr (Or.inr rfl), ac, z⟩)
    · rintro (z | ⟨y, y0, y1, y2, y3⟩ | ⟨y, y0, y1, y2, y3⟩)
      · exact Or.inl (Or.inl z)
      · rcases (te _).mp y2 with y2 | y2
        · exact Or.inl (Or.inr (Or.inl ⟨y, y0, y1, y2, y3⟩))
        · rw [y2] at y3; exact Or.inr (Or.inl y3.2)
      · rcases (te _).mp y2 with y2 | y2
        · exact Or.inl (Or.inr (Or.inr ⟨y, y0, y1, y2, y3⟩))
        · rw [y2] at y3; exact Or.inr (Or.inr y3.2)
/-- what a part that is no call leaves behind -/
theorem h_W.sum {cell : Int} (h : h_W M0 V q cell W) : (∀ c, ¬ c = 150 → ¬ c = 155 → W c = V c) ∧ (∀ f, ¬ f = 10 → W 150 f = V 150 f) ∧ (∀ i, ¬ (M0 241 q = 19 ∧ i = cell) → W 155 i = V 155 i) ∧ (M0 241 q = 19 → W 155 cell = 1) ∧ ∀ x, W 150 10 ≤ x ↔ (V 150 10 ≤ x ∨ ((M0 241 q = 10 ∨ M0 241 q = 11) ∧ (if M0 246 q < 0 then 0 else V 151 (M0 246 q)) = 0 ∧ M0 243 q ≤ x)) := by
  rcases h with ⟨o, e⟩ | ⟨o, z, e⟩ | ⟨o, z, e⟩
  · rw [e]
    refine ⟨fun c _ z => ax_u_ne z, fun f _ => by rw [ax_u_ne (by decide)], fun i hi => ax_u_k (fun z => hi ⟨o, z⟩), fun _ => ax_u_s _ _ _ _, fun x => ?_⟩
    rw [ax_u_ne (by decide)]
    exact ⟨fun y => Or.inl y, fun y => by rcases y with y | y; exact y; exact absurd o (by have := y.1; omega)⟩
  · rw [e]
    refine ⟨fun c z _ => ax_u_ne z, fun f hf => ax_u_k hf, fun i _ => by rw [ax_u_ne (by decide)], fun y => by omega, fun x => ?_⟩
    rw [ax_u_s]
    constructor
    · intro y
      by_cases w : M0 243 q < V 150 10
      · rw [if_pos w] at y; exact Or.inr ⟨o, z, y⟩
      · rw [if_neg w] at y; exact Or.inl y
    · intro y
      by_cases w : M0 243 q < V 150 10
      · rw [if_pos w]
        rcases y with y | y
        · omega
        · exact y.2.2
      · rw [if_neg w]
        rcases y with y | y
        · exact y
        · have := y.2.2; omega
  · rw [e]
    exact ⟨fun c _ _ => rfl, fun f _ => rfl, fun i _ => rfl, fun y => absurd y o, fun x => ⟨fun y => Or.inl y, fun y => by rcases y with y | y; exact y; exact (z ⟨y.1, y.2.1⟩).elim⟩⟩
theorem h_W.g {cell : Int} (hS : g_S C0 M0) (q0 : 0 ≤ q) (q1 : q < (M0 222 26)) (hg : ax_g V) (h : h_W M0 V q cell W) : ax_g W := by
  rcases h with ⟨o, e⟩ | ⟨o, z, e⟩ | ⟨o, z, e⟩
  · rw [e]; exact ax_u_g hg ⟨by omega, by omega⟩
  · rw [e]
    refine ax_u_g hg ?_
    have d := ((hS.p q0 q1).2.2.2.2.2.2.1.2.2.2.2.2.1 (by omega)).2
    split
    · exact ⟨by omega, by omega⟩
    · exact hg _ _
  · rw [e]; exact hg
end Worked
