/-! THE MODEL'S TICK: what is kept -/
section ModelJ
variable {d : Nat} {C0 M0 P V V0 V1 W X X' : ax_V} {F G Hh S U J Im : Int → Int} {n q e a b c lv f g m l fl x st z : Int} {k : Nat} {s t u s' : Int → Prop} {R : h_R} {Φ : Int → ax_V → Prop} {Ψ Θ : ax_V → Prop}
/-- what is remembered afterwards has its sort -/
theorem h_MS6 (hX : h_X C0 M0 P F G Hh S U J Im) (hn : h_N M0 U J n) (hR : h_TK C0 M0 U S Im (k + 1) n R) (hm : h_MS C0 M0 U F (k + 1) n (R [] 5)) (t0 : ∀ q, h_ac M0 S n (R []) q → F q = 1 → R [] 0 q = 0 ∨ R [] 0 q = 1) (t1 : ∀ y, 0 ≤ y → y < 26 → ¬ M0 232 (26 * n + y) = 0 → ¬ R [] 2 y = 0 → M0 233 (26 * n + y) = 1 → R [] 1 y = 0 ∨ R [] 1 y = 1) (t8 : ∀ q, 0 ≤ q → q < (M0 222 26) → M0 250 q = n → M0 241 q = 22 → h_ac M0 S n (R []) q → h_MS C0 M0 U F k (C0 520 q) (R [q] 6)) : h_MS C0 M0 U F (k + 1) n (R [] 6) := by
  have hS := hX.hS
  have nn := hn.1
  refine ⟨fun q q1 qn o f1 => ?_, fun l l1 hl ty => ?_, fun a a1 an => ?_, fun q q1 qn o => ?_⟩
  · have q0 : 0 ≤ (q : Int) := by omega
    have q1' : (q : Int) < (M0 222 26) := by omega
    obtain ⟨e, ee, en, ea, eb⟩ := hX.ine q0 q1' qn (Or.inl o)
    have sb : h_sub C0 M0 U k (q : Int) 0 0 := Or.inl ⟨Or.inl o, rfl, rfl⟩
    have bj := (hX.sb hn q0 q1' qn sb).2
    have r := hR.2.2.2.2.2.1 e q 0 ee.1 ee.2 en ea eb bj.1 bj.2
    have r1 := r.1 0 (by rw [if_neg (by omega)])
    have r2 := r.2
    rw [Int.add_zero, Int.toNat_natCast] at r1 r2
    by_cases z : h_rn M0 (R []) (M0 263 e) 0 (R [] 3 (M0 263 e)) (M0 264 e)
    · exact Or.inl (r1.2.2.1 z)
    · rw [r1.2.2.2 z]
      by_cases ac : h_ac M0 S n (R []) (q : Int)
      · rw [r2.1 ac, if_pos o]
        have a0 := h_ar_a hS q0 q1' (by omega)
        have ka : e_kid M0 (q : Int) (M0 245 (q : Int)) := ⟨a0, Or.inl ⟨by omega, Or.inl rfl⟩⟩
        have aa := h_kid (Hh := Hh) (F := F) hS hX.ok hX.hG hX.hT hX.n4 nn.1 nn.2 (fun y y0 y1 k0 => (hX.pr hn hR hm y0 y1 k0).1) q0 q1' qn ac ka (fun z => by omega)
        refine t0 _ aa ?_
        rw [← (hX.hF q q0 q1').1.2.2.2.2.2 (Or.inl o)]; exact f1
      · rw [r2.2 ac]
        by_cases y : h_rn M0 (R []) (M0 263 e) 1 (R [] 5 (h_sa M0 n (M0 263 e))) (M0 264 e)
        · exact Or.inl (r1.1 y)
        · rw [r1.2.1 y]; exact hm.1 q q1 qn o f1
  · have k0 : ¬ M0 232 (26 * n + (l : Int)) = 0 := fun z => hl ((hS.l nn.1 nn.2 (l := (l : Int)) (by omega) (by omega)).2.1 z).2.2
    have r := hR.2.2.2.2.1 (l : Int) (by omega) (by omega) hl
    rw [Int.toNat_natCast] at r
    by_cases z : R [] 2 (l : Int) = 0
    · rw [r.2 z]; exact hm.2.1 l l1 hl ty
    · rw [r.1 z]; exact t1 (l : Int) (by omega) (by omega) k0 z ty
  · exact (hX.st hR hm (a : Int) (by omega) (by omega) an).2.2
  · have q0 : 0 ≤ (q : Int) := by omega
    have q1' : (q : Int) < (M0 222 26) := by omega
    have sb := hX.sub hn q0 q1' qn o
    have tt := hX.t sb.1
    obtain ⟨e, ee, en, ea, eb⟩ := hX.ine q0 q1' qn (Or.inr (Or.inr o))
    have r := fun j j0 j1 => hR.2.2.2.2.2.1 e q j ee.1 ee.2 en ea eb j0 (show j < g_vl C0 M0 U (q : Int) by rw [sb.2.2, tt.2]; exact j1)
    have r1 := fun j j0 j1 => (r j j0 j1).1 _ rfl
    rw [Int.toNat_natCast] at r r1
    by_cases z : h_rn M0 (R []) (M0 263 e) 0 (R [] 3 (M0 263 e)) (M0 264 e)
    · refine h_MS.eq hX _ _ _ _ sb.1 ((hX.im sb.1).2 k) (fun j j0 j1 => ?_)
      have u := (r1 j j0 j1).2.2.1 z
      rw [if_pos o] at u; exact u
    · by_cases ac : h_ac M0 S n (R []) (q : Int)
      · refine h_MS.eq hX _ _ _ _ sb.1 (t8 q q0 q1' qn o ac) (fun j j0 j1 => ?_)
        have u := (r j j0 j1).2.1 ac
        rw [if_neg (by omega), if_neg (by omega)] at u
        exact ((r1 j j0 j1).2.2.2 z).trans u
      · by_cases y : h_rn M0 (R []) (M0 263 e) 1 (R [] 5 (h_sa M0 n (M0 263 e))) (M0 264 e)
        · refine h_MS.eq hX _ _ _ _ sb.1 ((hX.im sb.1).2 k) (fun j j0 j1 => ?_)
          have u := (r1 j j0 j1).1 y
          rw [if_pos o] at u
          exact (((r1 j j0 j1).2.2.2 z).trans ((r j j0 j1).2.2 ac)).trans u
        · refine h_MS.eq hX _ _ _ _ sb.1 (hm.2.2.2 q q1 qn o) (fun j j0 j1 => ?_)
          exact (((r1 j j0 j1).2.2.2 z).trans ((r j j0 j1).2.2 ac)).trans ((r1 j j0 j1).2.1 y)
/-- a cell of what comes then is written, and one code more -/
theorem h_J.cell (hX : h_X C0 M0 P F G Hh S U J Im) (hn : h_N M0 U J n) (h : h_J C0 M0 U F S k n b lv V0 V s R) {w : Int} (hw : 3072 ≤ w) (te : ∀ v, t v ↔ (s v ∨ v = w)) (fr : g_fr [292] V W) (c1 : ∀ l, 0 ≤ l → l < 26 → ¬ M0 236 (26 * n + l) = 0 → (t (4096 + 26 * n + l) → W 292 (b + g_ll M0 n l.toNat) = R [] 6 (g_ll M0 n l.toNat)) ∧ (¬ t (4096 + 26 * n + l) → W 292 (b + g_ll M0 n l.toNat) = R [] 5 (g_ll M0 n l.toNat))) (c2 : ∀ a, 0 ≤ a → a < (M0 222 55) → M0 267 a = n → (t (5120 + a) → W 292 (b + h_sa M0 n a) = R [] 6 (h_sa M0 n a)) ∧ (¬ t (5120 + a) → W 292 (b + h_sa M0 n a) = R [] 5 (h_sa M0 n a))) (c3 : ∀ e q j, 0 ≤ e → e < (M0 222 44) → M0 258 e = n → M0 261 e ≤ q → q ≤ M0 262 e → 0 ≤ j → j < g_vl C0 M0 U q → h_stg M0 t e q (fun t => W 292 (b + (g_sp C0 M0 U n q.toNat + j)) = R [] t (g_sp C0 M0 U n q.toNat + j))) : h_J C0 M0 U F S k n b lv V0 W t R := by
  have hS := hX.hS
  have sm := hS.small
  obtain ⟨j1, j2, j3, j4, j5, j6, j8, j9⟩ := h
  have big : ∀ v, v < 3072 → (t v ↔ s v) := fun v hv => by rw [te]; exact ⟨fun z => by rcases z with z | z; exact z; omega, fun z => Or.inl z⟩
  have ef : h_fl W = h_fl V := by unfold h_fl; rw [fr 222 (by decide)]
  have aub : ∀ e, 0 ≤ e → e < (M0 222 44) → ¬ M0 263 e = -1 → 0 ≤ M0 263 e ∧ M0 263 e < (M0 222 55) := fun e e0 e1 z => by
    rcases hS.st e0 e1 with y | y
    · exact absurd y.2.1 z
    · exact y.2.1
  have ch : ∀ e, 0 ≤ e → e < (M0 222 44) → ((M0 263 e = -1 ∨ t (2048 + M0 263 e)) ↔ (M0 263 e = -1 ∨ s (2048 + M0 263 e))) := fun e e0 e1 => by
    by_cases z : M0 263 e = -1
    · exact ⟨fun _ => Or.inl z, fun _ => Or.inl z⟩
    · rw [big _ (by have := aub e e0 e1 z; omega)]
  refine ⟨fun q q0 q1 qn sq ac => by rw [fr 296 (by decide)]; exact j1 q q0 q1 qn ((big _ (by omega)).mp sq) ac, by unfold h_J2 h_mt; rw [fr 293 (by decide), fr 294 (by decide), fr 295 (by decide)]; exact j2, fun a a0 a1 an z => by rw [fr 298 (by decide)]; exact j3 a a0 a1 an ((big _ (by omega)).mp z), ⟨by rw [fr 291 (by decide)]; exact j4.1, by rw [fr 291 (by decide)]; exact j4.2.1, fun e q j e0 e1 en ea eb jb0 jb1 nw => ?_⟩, ⟨c1, c2, c3⟩, fun x hx => ?_, fun q q0 q1 qn o sq ac => j8 q q0 q1 qn o ((big _ (by omega)).mp sq) ac, fun e q e0 e1 ea eb sq au => ?_⟩
  · have qq := hS.eq e0 e1 en ea eb
    rw [ch e e0 e1, fr 291 (by decide)]
    exact j4.2.2 e q j e0 e1 en ea eb jb0 jb1 (fun o y => nw o ((big _ (by omega)).mpr y))
  · rw [ef, j6 x hx]
    constructor
    · rintro (y | ⟨q, qb, y1, y2, y3⟩ | ⟨q, qb, y1, y2, y3⟩)
      · exact Or.inl y
      · exact Or.inr (Or.inl ⟨q, qb, y1, (te _).mpr (Or.inl y2), y3⟩)
      · exact Or.inr (Or.inr ⟨q, qb, y1, (te _).mpr (Or.inl y2), y3⟩)
    · rintro (y | ⟨q, qb, y1, y2, y3⟩ | ⟨q, qb, y1, y2, y3⟩)
      · exact Or.inl y
      · exact Or.inr (Or.inl ⟨q, qb, y1, (big _ (by omega)).mp y2, y3⟩)
      · exact Or.inr (Or.inr ⟨q, qb, y1, (big _ (by omega)).mp y2, y3⟩)
  · have f1 := (hS.2.2.2.2.1.2.1 e e0 e1).2.2.2.2.2.1.1
    have ab := aub e e0 e1 au
    exact (te _).mpr (Or.inl (j9 e q e0 e1 ea eb ((big _ (by omega)).mp sq) au))
/-- a delay takes in what it is given -/
theorem h_J.kept (hX : h_X C0 M0 P F G Hh S U J Im) (hn : h_N M0 U J n) (hR : h_TK C0 M0 U S Im (k + 1) n R) (hm : h_MS C0 M0 U F (k + 1) n (R [] 5)) (h : h_J C0 M0 U F S k n b lv V0 V s R) (te : ∀ v, t v ↔ (s v ∨ v = 3072 + q)) (q0 : 0 ≤ q) (q1 : q < (M0 222 26)) (qn : M0 250 q = n) (o : M0 241 q = 6) (sa : h_ac M0 S n (R []) q → s (M0 245 q)) (chs : ∀ a, 0 ≤ a → a < (M0 222 55) → M0 267 a = n → s (2048 + a)) (n5 : ∀ v, 4096 ≤ v → ¬ s v) (hW : (¬ h_ac M0 S n (R []) q → W = V) ∧ (h_ac M0 S n (R []) q → W = ax_u V 292 (b + g_sp C0 M0 U n q.toNat) (V 296 (701 * lv + M0 245 q)))) : h_J C0 M0 U F S k n b lv V0 W t R := by
  have hS := hX.hS
  have sm := hS.small
  have nn := hn.1
  have hN := hS.2.1
  have sp := hX.sp hn q0 q1 qn
  have vq : g_vl C0 M0 U q = 1 := if_pos (Or.inl o)
  have big : ∀ v, ¬ v = 3072 + q → (t v ↔ s v) := fun v hv => by rw [te]; exact ⟨fun z => by rcases z with z | z; exact z; exact absurd z hv, fun z => Or.inl z⟩
  have fr : g_fr [292] V W := fun c z => by
    by_cases ac : h_ac M0 S n (R []) q
    · rw [hW.2 ac]; exact ax_u_ne (by simp at z; exact z)
    · rw [hW.1 ac]
  have km : ∀ i, ¬ i = g_sp C0 M0 U n q.toNat → W 292 (b + i) = V 292 (b + i) := fun i z => by
    by_cases ac : h_ac M0 S n (R []) q
    · rw [hW.2 ac]; exact ax_u_k (by omega)
    · rw [hW.1 ac]
  obtain ⟨j5a, j5b, j5c⟩ := h.2.2.2.2.1
  have aub : ∀ e, 0 ≤ e → e < (M0 222 44) → ¬ M0 263 e = -1 → (0 ≤ M0 263 e ∧ M0 263 e < (M0 222 55)) ∧ (M0 258 e = n → M0 267 (M0 263 e) = n) := fun e e0 e1 z => by
    rcases hS.st e0 e1 with y | y
    · exact absurd y.2.1 z
    · exact ⟨y.2.1, fun en => y.2.2.2.2.2.2.trans en⟩
  refine h.cell hX hn (w := 3072 + q) (by omega) te fr (fun l l0 l1 hl => ?_) (fun a a0 a1 an => ?_) (fun e x j e0 e1 en ea eb jb0 jb1 => ?_)
  · have u := (hX.l5 hn l0 l1 hl).2
    have c := (g_ca_b M0 n ((M0 222 55)).toNat).1
    rw [big _ (by omega), km _ (by omega)]; exact j5a l l0 l1 hl
  · have u := (hX.a5 hn a0 a1 an).2
    have e : h_sa M0 n a = g_ll M0 n 26 + g_ca M0 n a.toNat := rfl
    rw [big _ (by omega), km _ (by omega)]; exact j5b a a0 a1 an
  · have xx := hS.eq e0 e1 en ea eb
    have u := j5c e x j e0 e1 en ea eb jb0 jb1
    by_cases w : x = q
    · rw [w] at ea eb u jb1 ⊢
      have j0 : j = 0 := by omega
      have rr := (hR.2.2.2.2.2.1 e q j e0 e1 en ea eb jb0 jb1).2
      have nu : ¬ (¬ M0 263 e = -1 ∧ s (5120 + M0 263 e)) := fun y => n5 _ (by have := (aub e e0 e1 y.1).1; omega) y.2
      have nt : ¬ (¬ M0 263 e = -1 ∧ t (5120 + M0 263 e)) := fun y => nu ⟨y.1, (big _ (by have := (aub e e0 e1 y.1).1; omega)).mp y.2⟩
      have val : W 292 (b + (g_sp C0 M0 U n q.toNat + j)) = R [] 8 (g_sp C0 M0 U n q.toNat + j) := by
        by_cases ac : h_ac M0 S n (R []) q
        · have a0 := h_ar_a hS q0 q1 (by omega)
          have ka : e_kid M0 q (M0 245 q) := ⟨a0, Or.inl ⟨by omega, Or.inl rfl⟩⟩
          have aa := h_kid (Hh := Hh) (F := F) hS hX.ok hX.hG hX.hT hX.n4 nn.1 nn.2 (fun y y0 y1 k0 => (hX.pr hn hR hm y0 y1 k0).1) q0 q1 qn ac ka (fun z => by omega)
          have ax := hX.acn aa
          have v := (h.1 _ ax.1.1 ax.1.2 ax.2 (sa ac) aa).1
          rw [rr.1 ac, if_pos o, hW.2 ac, j0, Int.add_zero, ax_u_s]
          exact v
        · rw [hW.1 ac]
          by_cases y : (M0 241 q = 6 ∧ s (3072 + q)) ∨ (¬ M0 241 q = 6 ∧ s q)
          · exact u.2.1 nu y
          · rw [rr.2 ac]
            refine u.2.2.1 nu y ?_
            by_cases au : M0 263 e = -1
            · exact Or.inl au
            · have c := aub e e0 e1 au
              exact Or.inr (chs _ c.1.1 c.1.2 (c.2 en))
      have dn : (M0 241 q = 6 ∧ t (3072 + q)) ∨ (¬ M0 241 q = 6 ∧ t q) := Or.inl ⟨o, (te _).mpr (Or.inr rfl)⟩
      exact ⟨fun z => absurd z nt, fun _ _ => val, fun _ z => absurd dn z, fun _ z => absurd dn z⟩
    · have sd := hX.sd (U := U) q0 q1 qn xx.1.1 xx.1.2 xx.2 w
      refine u.to (fun z => big _ (by have := (aub e e0 e1 z).1; omega)) (fun _ => big _ (by omega)) (fun _ => big _ (by omega)) (fun z => big _ (by have := (aub e e0 e1 z).1; omega)) (fun y z => ?_)
      rw [km _ (by omega)]; exact z
/-- a letter's last value -/
theorem h_J.lastM (hX : h_X C0 M0 P F G Hh S U J Im) (hn : h_N M0 U J n) (hR : h_TK C0 M0 U S Im (k + 1) n R) (h : h_J C0 M0 U F S k n b lv V0 V s R) (te : ∀ v, t v ↔ (s v ∨ v = 4096 + 26 * n + l)) (l0 : 0 ≤ l) (l1 : l < 26) (hl : ¬ M0 236 (26 * n + l) = 0) (new : ¬ s (4096 + 26 * n + l)) (dn : ¬ V 295 (26 * lv + l) = 0) (hW : (V 294 (26 * lv + l) = 0 → W = V) ∧ (¬ V 294 (26 * lv + l) = 0 → W = ax_u V 292 (b + g_ll M0 n l.toNat) (V 293 (26 * lv + l)))) : h_J C0 M0 U F S k n b lv V0 W t R := by
  have hS := hX.hS
  have sm := hS.small
  have nn := hn.1
  have hN := hS.2.1
  have cl := (hX.l5 hn l0 l1 hl).2
  have c0 := (g_ca_b M0 n ((M0 222 55)).toNat).1
  have big : ∀ v, ¬ v = 4096 + 26 * n + l → (t v ↔ s v) := fun v hv => by rw [te]; exact ⟨fun z => by rcases z with z | z; exact z; exact absurd z hv, fun z => Or.inl z⟩
  have fr : g_fr [292] V W := fun c z => by
    by_cases ac : V 294 (26 * lv + l) = 0
    · rw [hW.1 ac]
    · rw [hW.2 ac]; exact ax_u_ne (by simp at z; exact z)
  have km : ∀ i, ¬ i = g_ll M0 n l.toNat → W 292 (b + i) = V 292 (b + i) := fun i z => by
    by_cases ac : V 294 (26 * lv + l) = 0
    · rw [hW.1 ac]
    · rw [hW.2 ac]; exact ax_u_k (by omega)
  have rd := h.2.1.1 l l0 l1 dn
  have rl := hR.2.2.2.2.1 l l0 l1 hl
  obtain ⟨j5a, j5b, j5c⟩ := h.2.2.2.2.1
  have aub : ∀ e, 0 ≤ e → e < (M0 222 44) → ¬ M0 263 e = -1 → 0 ≤ M0 263 e ∧ M0 263 e < (M0 222 55) := fun e e0 e1 z => by
    rcases hS.st e0 e1 with y | y
    · exact absurd y.2.1 z
    · exact y.2.1
  refine h.cell hX hn (w := 4096 + 26 * n + l) (by omega) te fr (fun l' l0' l1' hl' => ?_) (fun a a0 a1 an => ?_) (fun e x j e0 e1 en ea eb jb0 jb1 => ?_)
  · by_cases w : l' = l
    · rw [w]
      refine ⟨fun _ => ?_, fun z => absurd ((te _).mpr (Or.inr rfl)) z⟩
      by_cases ac : V 294 (26 * lv + l) = 0
      · rw [hW.1 ac, rl.2 (by rw [← rd.1]; exact ac)]
        exact (j5a l l0 l1 hl).2 new
      · have r2 : ¬ R [] 2 l = 0 := by rw [← rd.1]; exact ac
        rw [hW.2 ac, ax_u_s, rl.1 r2]
        exact (rd.2 r2).1
    · have ld := h_ld l0 hl l0' hl' w
      rw [big _ (by omega), km _ (by omega)]
      exact j5a l' l0' l1' hl'
  · have u := (hX.a5 hn a0 a1 an).2
    have e : h_sa M0 n a = g_ll M0 n 26 + g_ca M0 n a.toNat := rfl
    have c2 := (g_ca_b M0 n a.toNat).1
    rw [big _ (by omega), km _ (by omega)]; exact j5b a a0 a1 an
  · have xx := hS.eq e0 e1 en ea eb
    have sp := hX.sp hn xx.1.1 xx.1.2 xx.2
    refine (j5c e x j e0 e1 en ea eb jb0 jb1).to (fun z => big _ (by have := aub e e0 e1 z; omega)) (fun _ => big _ (by omega)) (fun _ => big _ (by omega)) (fun z => big _ (by have := aub e e0 e1 z; omega)) (fun y z => ?_)
    rw [km _ (by omega)]; exact z
/-- all that is not worked -/
theorem h_J.skipAll (hX : h_X C0 M0 P F G Hh S U J Im) (hn : h_N M0 U J n) (hR : h_TK C0 M0 U S Im (k + 1) n R) (h : h_J C0 M0 U F S k n b lv V0 V s R) {Q : Int → Prop} (hQ : ∀ q, Q q → ((0 ≤ q ∧ q < (M0 222 26)) ∧ M0 250 q = n) ∧ ¬ h_ac M0 S n (R []) q ∧ ∀ e, 0 ≤ e → e < (M0 222 44) → M0 261 e ≤ q → q ≤ M0 262 e → (¬ M0 263 e = -1 → s (2048 + M0 263 e)) ∧ ¬ (¬ M0 263 e = -1 ∧ s (5120 + M0 263 e))) (te : ∀ v, t v ↔ (s v ∨ Q v)) : h_J C0 M0 U F S k n b lv V0 V t R := by
  have hS := hX.hS
  have sm := hS.small
  have key : ∀ N : Nat, ∃ u : Int → Prop, (∀ v, u v ↔ (s v ∨ (Q v ∧ v < (N : Int)))) ∧ h_J C0 M0 U F S k n b lv V0 V u R := by
    intro N
    induction N with
    | zero => exact ⟨s, fun v => ⟨fun z => Or.inl z, fun z => by rcases z with z | z; exact z; have := (hQ v z.1).1.1.1; omega⟩, h⟩
    | succ N ih =>
      obtain ⟨u, ue, hu⟩ := ih
      by_cases q : Q (N : Int)
      · obtain ⟨qq, no, w4⟩ := hQ _ q
        obtain ⟨u', ue'⟩ : ∃ u' : Int → Prop, ∀ v, u' v ↔ (u v ∨ v = (N : Int)) := ⟨_, fun _ => Iff.rfl⟩
        refine ⟨u', fun v => ?_, hu.skip hX hn hR ue' qq.1.1 qq.1.2 qq.2 (fun e e0 e1 ea eb => ?_) no⟩
        · rw [ue', ue]
          constructor
          · rintro ((z | z) | z)
            · exact Or.inl z
            · exact Or.inr ⟨z.1, by omega⟩
            · exact Or.inr ⟨by rw [z]; exact q, by omega⟩
          · rintro (z | z)
            · exact Or.inl (Or.inl z)
            · by_cases w : v = (N : Int)
              · exact Or.inr w
              · exact Or.inl (Or.inr ⟨z.1, by omega⟩)
        · have w := w4 e e0 e1 ea eb
          refine ⟨fun y => (ue _).mpr (Or.inl (w.1 y)), fun y => w.2 ⟨y.1, ?_⟩⟩
          rcases (ue _).mp y.2 with r | r
          · exact r
          · have q2 := (hQ _ r.1).1.1
            have : 0 ≤ M0 263 e := by
              rcases hS.st e0 e1 with y' | y'
              · exact absurd y'.2.1 y.1
              · exact y'.2.1.1
            omega
      · refine ⟨u, fun v => ?_, hu⟩
        rw [ue]
        constructor
        · rintro (z | z)
          · exact Or.inl z
          · exact Or.inr ⟨z.1, by omega⟩
        · rintro (z | z)
          · exact Or.inl z
          · have w : ¬ v = (N : Int) := fun w => q (by rw [← w]; exact z.1)
            exact Or.inr ⟨z.1, by omega⟩
  obtain ⟨u, ue, hu⟩ := key ((M0 222 26)).toNat
  refine hu.of (fun v => ?_)
  rw [te, ue]
  exact ⟨fun z => by rcases z with z | z; exact Or.inl z; exact Or.inr ⟨z, by have := (hQ v z).1.1; omega⟩, fun z => by rcases z with z | z; exact Or.inl z; exact Or.inr z.1⟩
/-- all delays that take in nothing -/
theorem h_J.keptAll (hX : h_X C0 M0 P F G Hh S U J Im) (hn : h_N M0 U J n) (hR : h_TK C0 M0 U S Im (k + 1) n R) (hm : h_MS C0 M0 U F (k + 1) n (R [] 5)) (h : h_J C0 M0 U F S k n b lv V0 V s R) {Q : Int → Prop} (hQ : ∀ q, Q q → ((0 ≤ q ∧ q < (M0 222 26)) ∧ M0 250 q = n) ∧ M0 241 q = 6 ∧ ¬ h_ac M0 S n (R []) q) (chs : ∀ a, 0 ≤ a → a < (M0 222 55) → M0 267 a = n → s (2048 + a)) (n5 : ∀ v, 4096 ≤ v → ¬ s v) (te : ∀ v, t v ↔ (s v ∨ Q (v - 3072))) : h_J C0 M0 U F S k n b lv V0 V t R := by
  have hS := hX.hS
  have sm := hS.small
  have key : ∀ N : Nat, ∃ u : Int → Prop, (∀ v, u v ↔ (s v ∨ (Q (v - 3072) ∧ v - 3072 < (N : Int)))) ∧ h_J C0 M0 U F S k n b lv V0 V u R := by
    intro N
    induction N with
    | zero => exact ⟨s, fun v => ⟨fun z => Or.inl z, fun z => by rcases z with z | z; exact z; have := (hQ _ z.1).1.1.1; omega⟩, h⟩
    | succ N ih =>
      obtain ⟨u, ue, hu⟩ := ih
      by_cases q : Q (N : Int)
      · obtain ⟨qq, o, no⟩ := hQ _ q
        obtain ⟨u', ue'⟩ : ∃ u' : Int → Prop, ∀ v, u' v ↔ (u v ∨ v = 3072 + (N : Int)) := ⟨_, fun _ => Iff.rfl⟩
        refine ⟨u', fun v => ?_, hu.kept hX hn hR hm ue' qq.1.1 qq.1.2 qq.2 o (fun z => absurd z no) (fun a a0 a1 an => (ue _).mpr (Or.inl (chs a a0 a1 an))) (fun v hv z => ?_) ⟨fun _ => rfl, fun z => absurd z no⟩⟩
        · rw [ue', ue]
          constructor
          · rintro ((z | z) | z)
            · exact Or.inl z
            · exact Or.inr ⟨z.1, by omega⟩
            · have e : v - 3072 = (N : Int) := by omega
              exact Or.inr ⟨by rw [e]; exact q, by omega⟩
          · rintro (z | z)
            · exact Or.inl (Or.inl z)
            · by_cases w : v - 3072 = (N : Int)
              · exact Or.inr (by omega)
              · exact Or.inl (Or.inr ⟨z.1, by omega⟩)
        · rcases (ue v).mp z with y | y
          · exact n5 v hv y
          · have := (hQ _ y.1).1.1; omega
      · refine ⟨u, fun v => ?_, hu⟩
        rw [ue]
        constructor
        · rintro (z | z)
          · exact Or.inl z
          · exact Or.inr ⟨z.1, by omega⟩
        · rintro (z | z)
          · exact Or.inl z
          · have w : ¬ v - 3072 = (N : Int) := fun w => q (by rw [← w]; exact z.1)
            exact Or.inr ⟨z.1, by omega⟩
  obtain ⟨u, ue, hu⟩ := key ((M0 222 26)).toNat
  refine hu.of (fun v => ?_)
  rw [te, ue]
  exact ⟨fun z => by rcases z with z | z; exact Or.inl z; exact Or.inr ⟨z, by have := (hQ _ z).1.1; omega⟩, fun z => by rcases z with z | z; exact Or.inl z; exact Or.inr z.1⟩
end ModelJ
