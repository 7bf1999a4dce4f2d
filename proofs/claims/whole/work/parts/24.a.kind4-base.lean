/-! FAULTS 4: clocks. 0 stands for the base, -1 for any, 2 * l + 1 for where l holds, 2 * l + 2 for where it doesn't -/
def g_cc (n m : Int) : Int := if m ≤ 0 then m - 1 else 52 * n + m - 1
theorem g_cc_eq {n x y : Int} (hn : 0 ≤ n) (hx : -1 ≤ x) (hy : -1 ≤ y) : g_cc n x = g_cc n y ↔ x = y := by
  unfold g_cc
  split <;> split <;> omega
theorem g_cc_f {n x : Int} (hn : 0 ≤ n) (hx : -1 ≤ x) : g_cc n x = -2 ↔ x = -1 := by
  unfold g_cc
  split <;> omega
theorem g_cc_b {n x : Int} (hn : 0 ≤ n) (hx : -1 ≤ x) : g_cc n x = -1 ↔ x = 0 := by
  unfold g_cc
  split <;> omega
theorem g_cc_r {n x : Int} (hn : 0 ≤ n ∧ n < 8) (hx : -1 ≤ x ∧ x ≤ 52) : ax_rg (g_cc n x) := by
  unfold g_cc
  split <;> exact ⟨by omega, by omega⟩
/-- the parts of a part, one behind the other -/
def g_kd (M : ax_V) (q : Int) (k : Nat) : Int := if M 241 q = 22 then e_arg M q k else if k = 0 then M 245 q else if k = 1 then M 246 q else if k = 2 then M 247 q else -1
/-- what they are on together -/
def g_jn (M : ax_V) (f : Int → Int) (q : Int) : Nat → Int
  | 0 => -1
  | k + 1 => if g_jn M f q k = -1 then (if g_kd M q k = -1 then -1 else f (g_kd M q k)) else g_jn M f q k
def g_kf (M : ax_V) (f : Int → Int) (q : Int) : Int :=
  if M 241 q = 0 ∨ M 241 q = 1 then -1 else if M 241 q = 2 ∨ M 241 q = 3 ∨ M 241 q = 21 then M 235 (26 * M 250 q + M 248 q) else if M 241 q = 20 then 2 * M 248 q + 2 - M 249 q else if M 241 q = 22 then (if g_jn M f q 700 = -1 then (if M 248 q = -1 then 0 else M 235 (26 * M 250 q + M 248 q)) else g_jn M f q 700) else g_jn M f q 700
def g_bd (M : ax_V) (f : Int → Int) (x c t : Int) : Prop := ¬ f x = -1 ∧ ¬ f x = c ∧ M 242 x ≤ t
/-- what is blamed at a part -/
def g_b4 (M : ax_V) (f : Int → Int) (q t : Int) : Prop :=
  (M 241 q = 20 ∧ g_bd M f (M 245 q) (M 235 (26 * M 250 q + M 248 q)) t) ∨ (M 241 q = 21 ∧ (g_bd M f (M 245 q) (2 * M 248 q + 1) t ∨ g_bd M f (M 246 q) (2 * M 248 q + 2) t)) ∨ (¬ M 241 q = 20 ∧ ¬ M 241 q = 21 ∧ ∃ k : Nat, 0 ≤ g_kd M q k ∧ g_bd M f (g_kd M q k) (g_jn M f q 700) t) ∨ (M 241 q = 22 ∧ ¬ M 248 q = -1 ∧ ¬ g_jn M f q 700 = -1 ∧ ¬ M 235 (26 * M 250 q + M 248 q) = g_jn M f q 700 ∧ M 244 q ≤ t)
section Clock
variable {C0 M0 : ax_V} {q : Int} {f f' : Int → Int}
theorem g_jn_st (M : ax_V) {k : Nat} (h : ¬ g_jn M f q k = -1) : ∀ m : Nat, g_jn M f q (k + m) = g_jn M f q k := by
  intro m
  induction m with
  | zero => rfl
  | succ m ih =>
    show (if g_jn M f q (k + m) = -1 then _ else g_jn M f q (k + m)) = _
    rw [if_neg (by rw [ih]; exact h), ih]
theorem g_jn_en (M : ax_V) {K : Nat} (h : ∀ k, K ≤ k → g_kd M q k = -1) : ∀ m : Nat, g_jn M f q (K + m) = g_jn M f q K := by
  intro m
  induction m with
  | zero => rfl
  | succ m ih =>
    show (if g_jn M f q (K + m) = -1 then (if g_kd M q (K + m) = -1 then -1 else f (g_kd M q (K + m))) else g_jn M f q (K + m)) = _
    rw [if_pos (h (K + m) (by omega)), ih]
    by_cases z : g_jn M f q K = -1
    · rw [if_pos z, z]
    · rw [if_neg z]
theorem g_jn_fr (M : ax_V) : ∀ k : Nat, g_jn M f q k = -1 → ∀ x : Nat, x < k → ¬ g_kd M q x = -1 → f (g_kd M q x) = -1 := by
  intro k
  induction k with
  | zero => intro _ x hx; omega
  | succ k ih =>
    intro h x hx hk
    have e : g_jn M f q (k + 1) = if g_jn M f q k = -1 then (if g_kd M q k = -1 then -1 else f (g_kd M q k)) else g_jn M f q k := rfl
    rw [e] at h
    by_cases z : g_jn M f q k = -1
    · rw [if_pos z] at h
      by_cases y : x = k
      · rw [y] at hk ⊢; rw [if_neg hk] at h; exact h
      · exact ih z x (by omega) hk
    · rw [if_neg z] at h; exact absurd h z
theorem g_jn_b (M : ax_V) (hb : ∀ k : Nat, ¬ g_kd M q k = -1 → -1 ≤ f (g_kd M q k) ∧ f (g_kd M q k) ≤ 52) : ∀ k : Nat, -1 ≤ g_jn M f q k ∧ g_jn M f q k ≤ 52 := by
  intro k
  induction k with
  | zero => exact ⟨(by decide : (-1 : Int) ≤ -1), (by decide : (-1 : Int) ≤ 52)⟩
  | succ k ih =>
    show -1 ≤ (if g_jn M f q k = -1 then (if g_kd M q k = -1 then -1 else f (g_kd M q k)) else g_jn M f q k) ∧ (if g_jn M f q k = -1 then (if g_kd M q k = -1 then -1 else f (g_kd M q k)) else g_jn M f q k) ≤ 52
    by_cases z : g_jn M f q k = -1
    · rw [if_pos z]
      by_cases y : g_kd M q k = -1
      · rw [if_pos y]; omega
      · rw [if_neg y]; exact hb k y
    · rw [if_neg z]; exact ih
theorem g_jn_cg (M : ax_V) (h : ∀ k : Nat, ¬ g_kd M q k = -1 → f (g_kd M q k) = f' (g_kd M q k)) : ∀ k : Nat, g_jn M f q k = g_jn M f' q k := by
  intro k
  induction k with
  | zero => rfl
  | succ k ih =>
    show (if g_jn M f q k = -1 then (if g_kd M q k = -1 then -1 else f (g_kd M q k)) else g_jn M f q k) = (if g_jn M f' q k = -1 then (if g_kd M q k = -1 then -1 else f' (g_kd M q k)) else g_jn M f' q k)
    rw [ih]
    by_cases y : g_kd M q k = -1
    · rw [if_pos y, if_pos y]
    · rw [if_neg y, if_neg y, h k y]
theorem g_S.kidn (hS : g_S C0 M0) (q0 : 0 ≤ q) (q1 : q < (M0 222 26)) {x : Int} (hx : e_kid M0 q x) : M0 250 x = M0 250 q := by
  have hB := hS.2.2.2.2.1
  have xq := ((hS.p q0 q1).2.2.2.2.2.2.2.2.2.2 x hx).1
  rcases hB.2.2.2.2.2.1.1 q q0 q1 with ⟨e, e0, e1, e2, e3⟩ | ⟨t, e0, e1, e2, e3⟩
  · have fx := (hB.2.1 e e0 e1).2.2.2.2.2.1
    have a := fx.2.2 q e2 e3
    have b := fx.2.2 x (a.2.2.2.1 x hx) (by omega)
    rw [a.1.1, b.1.1]
  · have fx := (hB.2.2.2.2.1 t e0 e1).2.2.2.2.2.2.2
    have a := fx.2.2 q e2 e3
    have b := fx.2.2 x (a.2.2.2.1 x hx) (by omega)
    rw [a.1.1, b.1.1]
/-- the parts of a part: K of them -/
theorem g_S.kids (hS : g_S C0 M0) (q0 : 0 ≤ q) (q1 : q < (M0 222 26)) : ∃ K : Nat, K ≤ 700 ∧ (∀ k, K ≤ k → g_kd M0 q k = -1) ∧ (∀ k, k < K → (0 ≤ g_kd M0 q k ∧ g_kd M0 q k < q) ∧ C0 522 (g_kd M0 q k) = g_kd M0 q (k + 1) ∧ M0 250 (g_kd M0 q k) = M0 250 q) ∧ C0 521 q = g_kd M0 q 0 := by
  by_cases o : M0 241 q = 22
  · obtain ⟨K, K7, KE, KA⟩ := hS.args q0 q1 o
    have e : ∀ k, g_kd M0 q k = e_arg M0 q k := fun k => if_pos o
    refine ⟨K, by omega, fun k hk => ?_, fun k hk => ?_, ?_⟩
    · obtain ⟨m, rfl⟩ : ∃ m, k = K + m := ⟨k - K, by omega⟩
      rw [e]
      clear hk
      induction m with
      | zero => exact KE
      | succ m ih =>
        show (if e_arg M0 q (K + m) = -1 then -1 else _) = -1
        rw [if_pos ih]
    · have a := KA k hk
      rw [e, e]
      exact ⟨a.1, a.2.1, hS.kidn q0 q1 ⟨a.1.1, Or.inr ⟨o, k, rfl⟩⟩⟩
    · rw [e]; exact (hS.p q0 q1).2.2.2.2.2.2.2.1
  · have kd := hS.kid q0 q1 o
    have e : ∀ k : Nat, g_kd M0 q k = if k = 0 then M0 245 q else if k = 1 then M0 246 q else if k = 2 then M0 247 q else -1 := fun k => if_neg o
    have e0 : g_kd M0 q 0 = M0 245 q := (e 0).trans (if_pos rfl)
    have e1 : g_kd M0 q 1 = M0 246 q := (e 1).trans (by rw [if_neg (by decide), if_pos rfl])
    have e2 : g_kd M0 q 2 = M0 247 q := (e 2).trans (by rw [if_neg (by decide), if_neg (by decide), if_pos rfl])
    have e3 : ∀ k, 3 ≤ k → g_kd M0 q k = -1 := fun k hk => (e k).trans (by rw [if_neg (by omega), if_neg (by omega), if_neg (by omega)])
    have na : 0 ≤ M0 245 q → M0 250 (M0 245 q) = M0 250 q := fun z => hS.kidn q0 q1 ⟨z, Or.inl ⟨o, Or.inl rfl⟩⟩
    have nb : 0 ≤ M0 246 q → M0 250 (M0 246 q) = M0 250 q := fun z => hS.kidn q0 q1 ⟨z, Or.inl ⟨o, Or.inr (Or.inl rfl)⟩⟩
    have nc : 0 ≤ M0 247 q → M0 250 (M0 247 q) = M0 250 q := fun z => hS.kidn q0 q1 ⟨z, Or.inl ⟨o, Or.inr (Or.inr rfl)⟩⟩
    have ar := hS.ar q0 q1
    obtain ⟨K, hK, a1⟩ : ∃ K : Nat, K ≤ 3 ∧ ((0 < K ↔ 0 ≤ M0 245 q) ∧ (1 < K ↔ 0 ≤ M0 246 q) ∧ (2 < K ↔ 0 ≤ M0 247 q)) := by
      rcases ar with z | z | z | z | z
      · exact ⟨0, by omega, by omega, by omega, by omega⟩
      · exact ⟨1, by omega, by omega, by omega, by omega⟩
      · exact ⟨2, by omega, by omega, by omega, by omega⟩
      · exact ⟨3, by omega, by omega, by omega, by omega⟩
      · omega
    refine ⟨K, by omega, fun k hk => ?_, fun k hk => ?_, by rw [e0]; exact kd.1⟩
    · by_cases k3 : 3 ≤ k
      · exact e3 k k3
      · have : k = 0 ∨ k = 1 ∨ k = 2 := by omega
        rcases this with z | z | z <;> subst z
        · rw [e0]; omega
        · rw [e1]; omega
        · rw [e2]; omega
    · have : k = 0 ∨ k = 1 ∨ k = 2 := by omega
      rcases this with z | z | z <;> subst z
      · rw [e0, e1]; exact ⟨⟨by omega, by omega⟩, kd.2.2.2.2.1 (by omega), na (by omega)⟩
      · rw [e1, e2]; exact ⟨⟨by omega, by omega⟩, kd.2.2.2.2.2.1 (by omega), nb (by omega)⟩
      · rw [e2, e3 3 (by decide)]; exact ⟨⟨by omega, by omega⟩, kd.2.2.2.2.2.2 (by omega), nc (by omega)⟩
theorem g_S.kidb (hS : g_S C0 M0) (q0 : 0 ≤ q) (q1 : q < (M0 222 26)) {k : Nat} (h : ¬ g_kd M0 q k = -1) : 0 ≤ g_kd M0 q k ∧ g_kd M0 q k < q := by
  obtain ⟨K, K7, KE, KA, -⟩ := hS.kids q0 q1
  by_cases z : K ≤ k
  · exact absurd (KE k z) h
  · exact (KA k (by omega)).1
/-- clocks of letters -/
theorem g_S.ck (hS : g_S C0 M0) {n l : Int} (n0 : 0 ≤ n) (n1 : n < (M0 222 86)) (l0 : 0 ≤ l) (l1 : l < 26) : C0 536 (26 * n + l) = g_cc n (M0 235 (26 * n + l)) ∧ 0 ≤ M0 235 (26 * n + l) ∧ M0 235 (26 * n + l) ≤ 52 := by
  have f := (hS.l n0 n1 l0 l1).2.2.2.1
  unfold g_cc
  rcases f with ⟨a, b⟩ | ⟨a, b, c, e⟩
  · rw [if_pos (by omega)]; omega
  · rw [if_neg (by omega)]; omega
theorem g_S.pl (hS : g_S C0 M0) (q0 : 0 ≤ q) (q1 : q < (M0 222 26)) (o : M0 241 q = 2 ∨ M0 241 q = 3 ∨ M0 241 q = 20 ∨ M0 241 q = 21 ∨ (M0 241 q = 22 ∧ ¬ M0 248 q = -1)) : 0 ≤ M0 248 q ∧ M0 248 q < 26 := by
  have t := (hS.p q0 q1).2.2.2.2.2.2.1
  rcases o with o | o | o | o | o
  · exact (t.2.2.1 (Or.inl o)).1
  · exact (t.2.2.1 (Or.inr (Or.inl o))).1
  · exact (t.2.2.2.1 o).1
  · exact (t.2.2.1 (Or.inr (Or.inr o))).1
  · have := (t.2.2.2.2.2.2 o.1).2.1; omega
theorem g_kf_cg (hS : g_S C0 M0) (q0 : 0 ≤ q) (q1 : q < (M0 222 26)) (h : ∀ x, 0 ≤ x → x < q → f x = f' x) : g_kf M0 f q = g_kf M0 f' q := by
  unfold g_kf
  rw [g_jn_cg M0 (f' := f') (fun k z => h _ (hS.kidb q0 q1 z).1 (hS.kidb q0 q1 z).2)]
theorem g_kf_b (hS : g_S C0 M0) (q0 : 0 ≤ q) (q1 : q < (M0 222 26)) (h : ∀ x, 0 ≤ x → x < q → -1 ≤ f x ∧ f x ≤ 52) : -1 ≤ g_kf M0 f q ∧ g_kf M0 f q ≤ 52 := by
  have pn := (hS.pnode q0 q1).1
  have j := g_jn_b M0 (f := f) (q := q) (fun k z => h _ (hS.kidb q0 q1 z).1 (hS.kidb q0 q1 z).2) 700
  have ck : (M0 241 q = 2 ∨ M0 241 q = 3 ∨ M0 241 q = 20 ∨ M0 241 q = 21 ∨ (M0 241 q = 22 ∧ ¬ M0 248 q = -1)) → 0 ≤ M0 235 (26 * M0 250 q + M0 248 q) ∧ M0 235 (26 * M0 250 q + M0 248 q) ≤ 52 := fun o => (hS.ck pn.1 pn.2 (hS.pl q0 q1 o).1 (hS.pl q0 q1 o).2).2
  unfold g_kf
  by_cases o1 : M0 241 q = 0 ∨ M0 241 q = 1
  · rw [if_pos o1]; omega
  · rw [if_neg o1]
    by_cases o2 : M0 241 q = 2 ∨ M0 241 q = 3 ∨ M0 241 q = 21
    · rw [if_pos o2]; have := ck (by omega); omega
    · rw [if_neg o2]
      by_cases o3 : M0 241 q = 20
      · rw [if_pos o3]
        have a := hS.pl q0 q1 (by omega)
        have b := ((hS.p q0 q1).2.2.2.2.2.2.1.2.2.2.1 o3).2.1
        omega
      · rw [if_neg o3]
        by_cases o4 : M0 241 q = 22
        · rw [if_pos o4]
          by_cases z : g_jn M0 f q 700 = -1
          · rw [if_pos z]
            by_cases y : M0 248 q = -1
            · rw [if_pos y]; omega
            · rw [if_neg y]; have := ck (Or.inr (Or.inr (Or.inr (Or.inr ⟨o4, y⟩)))); omega
          · rw [if_neg z]; exact j
        · rw [if_neg o4]; exact j
/-- the clocks of all parts -/
def g_G (M : ax_V) (G : Int → Int) : Prop := ∀ q, 0 ≤ q → q < (M 222 26) → G q = g_kf M G q ∧ (-1 ≤ G q ∧ G q ≤ 52)
theorem g_S.G (hS : g_S C0 M0) : ∃ G, g_G M0 G := by
  have p0 := hS.2.2.1.1
  have key : ∀ m : Nat, (m : Int) ≤ (M0 222 26) → ∃ G : Int → Int, ∀ q, 0 ≤ q → q < (m : Int) → G q = g_kf M0 G q ∧ (-1 ≤ G q ∧ G q ≤ 52) := by
    intro m
    induction m with
    | zero => intro _; exact ⟨fun _ => 0, fun q a b => by omega⟩
    | succ m ih =>
      intro hm
      obtain ⟨F, hF⟩ := ih (by omega)
      have vb := g_kf_b hS (q := (m : Int)) (by omega) (by omega) (fun x x0 x1 => (hF x x0 x1).2)
      obtain ⟨G, G1, G2⟩ : ∃ G : Int → Int, G (m : Int) = g_kf M0 F (m : Int) ∧ ∀ x, ¬ x = (m : Int) → G x = F x := ⟨fun x => if x = (m : Int) then g_kf M0 F (m : Int) else F x, if_pos rfl, fun x h => if_neg h⟩
      refine ⟨G, fun q a b => ?_⟩
      have cg : g_kf M0 F q = g_kf M0 G q := g_kf_cg hS a (by omega) (fun x x0 x1 => (G2 x (by omega)).symm)
      by_cases w : q = (m : Int)
      · rw [← cg, w, G1]
        exact ⟨rfl, vb⟩
      · rw [← cg, G2 q w]
        exact hF q a (by omega)
  obtain ⟨F, hF⟩ := key ((M0 222 26)).toNat (by omega)
  exact ⟨F, fun q a b => hF q a (by omega)⟩
theorem g_b4_cg (hS : g_S C0 M0) (q0 : 0 ≤ q) (q1 : q < (M0 222 26)) (h : ∀ x, 0 ≤ x → x < q → f x = f' x) (t : Int) : g_b4 M0 f q t ↔ g_b4 M0 f' q t := by
  have ar := hS.ar q0 q1
  have j := g_jn_cg M0 (f := f) (f' := f') (q := q) (fun k z => h _ (hS.kidb q0 q1 z).1 (hS.kidb q0 q1 z).2) 700
  have go : ∀ f f' : Int → Int, (∀ x, 0 ≤ x → x < q → f x = f' x) → g_jn M0 f q 700 = g_jn M0 f' q 700 → g_b4 M0 f q t → g_b4 M0 f' q t := by
    intro f f' h j
    unfold g_b4 g_bd
    rw [j]
    rintro (⟨o, z⟩ | ⟨o, z⟩ | ⟨o, o2, k, k0, z⟩ | z)
    · have kd := hS.kid q0 q1 (by omega)
      have a0 : 0 ≤ M0 245 q := by rcases ar with z | z | z | z | z <;> omega
      rw [h _ a0 kd.2.1.2] at z
      exact Or.inl ⟨o, z⟩
    · have kd := hS.kid q0 q1 (by omega)
      have a0 : 0 ≤ M0 245 q ∧ 0 ≤ M0 246 q := by rcases ar with z | z | z | z | z <;> omega
      rw [h _ a0.1 kd.2.1.2, h _ a0.2 kd.2.2.1.2] at z
      exact Or.inr (Or.inl ⟨o, z⟩)
    · rw [h _ k0 (hS.kidb q0 q1 (by omega)).2] at z
      exact Or.inr (Or.inr (Or.inl ⟨o, o2, k, k0, z⟩))
    · exact Or.inr (Or.inr (Or.inr z))
  exact ⟨go f f' h j, go f' f (fun x a b => (h x a b).symm) j.symm⟩
end Clock
