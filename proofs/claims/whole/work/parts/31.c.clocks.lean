/-! CLOCKS in a tick -/
section Clocks
variable {C0 M0 : ax_V} {F G Hh S U Im : Int → Int} {n q e : Int} {s : Int → Prop}
theorem g_S.dsc (hS : g_S C0 M0) {Q : Int → Prop} (rt : ∀ f w, g_X M0 f w → Q w) (kd : ∀ p x, 0 ≤ p → p < (M0 222 26) → e_kid M0 p x → Q p → Q x) (q0 : 0 ≤ q) (q1 : q < (M0 222 26)) : Q q := by
  have key : ∀ (k : Nat) (q : Int), 0 ≤ q → q < (M0 222 26) → (M0 222 26) - q ≤ (k : Int) → Q q := by
    intro k
    induction k with
    | zero => exact fun q a b c => by omega
    | succ k ih =>
      intro q a b c
      obtain ⟨f, w, hX, x, y⟩ := hS.Xin a b
      by_cases z : q = w
      · rw [z]; exact rt f w hX
      · obtain ⟨nn, st, tr, m, fx⟩ := hS.Xx hX
        have f1 := fx.1
        obtain ⟨p, pw, pk⟩ := hS.Xp hX ⟨x, by omega⟩
        exact kd p q (by omega) (by omega) pk (ih p (by omega) (by omega) (by omega))
  exact key ((M0 222 26) - q).toNat q q0 q1 (by omega)
theorem g_S.Snn (hS : g_S C0 M0) (hT : g_ST M0 G S) (q0 : 0 ≤ q) (q1 : q < (M0 222 26)) : 0 ≤ S q := by
  have hB := hS.2.2.2.2.1
  refine hS.dsc (Q := fun q => 0 ≤ S q) (fun f w hX => ?_) (fun p x p0 p1 k h => ?_) q0 q1
  · rcases hX with ⟨e, e0, -, ew⟩ | ⟨m, m0, -, ew⟩
    · rw [ew, hT.1 e e0.1 e0.2]
      have fe := hB.2.1 e e0.1 e0.2
      have fe3 := fe.2.2.1
      have nd := hS.node e0.1 e0.2
      have lf := (fe.2.2.2.2.2.2 (M0 259 e) (by omega) (by omega)).2.1
      have ck := (hS.ck nd.1 nd.2.1 lf.1 lf.2).2
      unfold g_ec
      split <;> omega
    · rw [ew, hT.2.1 m m0.1 m0.2]; decide
  · show 0 ≤ S x
    rw [hT.2.2.1 p x p0 p1 k]
    have nd := (hS.pnode p0 p1).1
    unfold g_dm
    by_cases o20 : M0 241 p = 20
    · rw [if_pos o20]
      have l := hS.pl p0 p1 (by omega)
      have ck := (hS.ck nd.1 nd.2 l.1 l.2).2
      omega
    · rw [if_neg o20]
      by_cases o21 : M0 241 p = 21
      · rw [if_pos o21]
        have l := hS.pl p0 p1 (by omega)
        split <;> omega
      · rw [if_neg o21]; exact h
/-- what lies in an automaton is on the base -/
theorem g_S.S0 (hS : g_S C0 M0) (hT : g_ST M0 G S) (q0 : 0 ≤ q) (q1 : q < (M0 222 26)) (st : ¬ C0 525 q = -1) : S q = 0 := by
  have hB := hS.2.2.2.2.1
  refine hS.dsc (Q := fun q => ¬ C0 525 q = -1 → S q = 0) (fun f w hX => ?_) (fun p x p0 p1 k h z => ?_) q0 q1 st
  · rcases hX with ⟨e, e0, -, ew⟩ | ⟨m, m0, -, ew⟩
    · intro z
      have fe := hB.2.1 e e0.1 e0.2
      have fx := fe.2.2.2.2.2.1
      have sw := (fx.2.2 w (by rw [ew]; exact fx.1.2.1) (by omega)).1.2.1
      rw [ew, hT.1 e e0.1 e0.2]
      unfold g_ec
      rw [if_neg (fun y => z (by rw [sw]; exact (hS.ea e0.1 e0.2).mpr y))]
    · intro _
      rw [ew, hT.2.1 m m0.1 m0.2]
  · show S x = 0
    obtain ⟨f, w, hX, a, b⟩ := hS.Xin p0 p1
    obtain ⟨nn, st, tr, m, fx⟩ := hS.Xx hX
    have u := hS.Xk hX ⟨a, b⟩ k
    have fp := fx.2.2 p a b
    have fq := fx.2.2 x u.1 (by omega)
    have zp : ¬ st = -1 := by rw [← fq.1.2.1]; exact z
    have o := fp.2.1 zp
    rw [hT.2.2.1 p x p0 p1 k]
    unfold g_dm
    rw [if_neg o.1, if_neg o.2]
    exact h (by rw [fp.1.2.1]; exact zp)
/-- parts that say themselves what they are on -/
theorem g_S.Sown (hS : g_S C0 M0) (hG : g_G M0 G) (hT : g_ST M0 G S) (n4 : ∀ t, t < 700 → ¬ g_FA C0 M0 F G Hh 4 t) (q0 : 0 ≤ q) (q1 : q < (M0 222 26)) : ((M0 241 q = 2 ∨ M0 241 q = 3 ∨ M0 241 q = 21 ∨ (M0 241 q = 22 ∧ ¬ M0 248 q = -1)) → S q = M0 235 (26 * M0 250 q + M0 248 q)) ∧ (M0 241 q = 20 → S q = 2 * M0 248 q + 2 - M0 249 q) := by
  have nd := (hS.pnode q0 q1).1
  have g := (hG q q0 q1).1
  have own : ¬ G q = -1 → S q = G q := hT.2.2.2 q q0 q1
  have dt := (hS.p q0 q1).2.2.2.2.2.2.1
  refine ⟨fun o => ?_, fun o => ?_⟩
  · have l := hS.pl q0 q1 (by omega)
    have ck := (hS.ck nd.1 nd.2 l.1 l.2).2
    have e : G q = M0 235 (26 * M0 250 q + M0 248 q) := by
      rw [g]
      unfold g_kf
      by_cases o23 : M0 241 q = 2 ∨ M0 241 q = 3 ∨ M0 241 q = 21
      · rw [if_neg (by omega), if_pos o23]
      · have o22 : M0 241 q = 22 ∧ ¬ M0 248 q = -1 := by omega
        rw [if_neg (by omega), if_neg o23, if_neg (by omega), if_pos o22.1]
        by_cases j : g_jn M0 G q 700 = -1
        · rw [if_pos j, if_neg o22.2]
        · rw [if_neg j]
          refine Classical.byContradiction fun z => n4 699 (by decide) ((g_FA4 699).mpr ⟨M0 250 q, nd, Or.inr (Or.inl ⟨q, ⟨q0, q1⟩, rfl, Or.inl (Or.inr (Or.inr (Or.inr ⟨o22.1, o22.2, j, fun y => z y.symm, ?_⟩)))⟩)⟩)
          rcases hS.let q0 q1 with y | y
          · exact absurd y o22.2
          · have := y.2.2; omega
    rw [own (by rw [e]; omega), e]
  · have e : G q = 2 * M0 248 q + 2 - M0 249 q := by
      rw [g]
      unfold g_kf
      rw [if_neg (by omega), if_neg (by omega), if_pos o]
    have d4 := dt.2.2.2.1 o
    rw [own (by rw [e]; omega), e]
/-- what the steps so far warrant -/
theorem g_SQ.eb (hS : g_S C0 M0) (n0 : 0 ≤ n) {f : Int → Int} {F0 p k : Int} (h : g_SQ C0 M0 f F0 p n) (hk : k ≤ p) (e0 : 0 ≤ e) (e1 : e < (M0 222 44)) (z : g_st f F0 k (1024 + e)) : g_eb C0 M0 (g_st f F0 k) n e ∧ M0 258 e = n ∧ ∀ q, M0 261 e ≤ q → q ≤ M0 262 e → C0 526 q = 0 → g_st f F0 k q := by
  have sm := hS.small
  obtain ⟨j, j0, j1⟩ := z
  have u := (h j j0.1 (by omega)).2.1
  rw [j1] at u
  have mono : ∀ v, g_st f F0 j v → g_st f F0 k v := fun v z => by obtain ⟨i, i0, i1⟩ := z; exact ⟨i, ⟨i0.1, by omega⟩, i1⟩
  rcases u with ⟨q, ev, q0, -⟩ | ⟨e', ev, e'0, en, eb, ew⟩ | ⟨a, ev, a0, an, -⟩ | ⟨q, ev, q0, -⟩ | ⟨l, ev, l0, -⟩ | ⟨a, ev, a0, an, -⟩
  · omega
  · have ee : e' = e := by omega
    rw [ee] at eb en ew
    exact ⟨eb.mono mono, en, fun q a b c => mono _ (ew q a b c)⟩
  · omega
  · omega
  · omega
  · omega
theorem g_SQ.ab (hS : g_S C0 M0) (n0 : 0 ≤ n) {f : Int → Int} {F0 p k a : Int} (h : g_SQ C0 M0 f F0 p n) (hk : k ≤ p) (a0 : 0 ≤ a) (a1 : a < (M0 222 55)) (z : g_st f F0 k (2048 + a)) : g_ab C0 M0 (g_st f F0 k) n a ∧ M0 267 a = n ∧ ∀ m q, 0 ≤ m → m < (M0 222 60) → M0 271 m = a → ¬ M0 273 m = 0 → M0 276 m ≤ q → q ≤ M0 277 m → g_st f F0 k q := by
  have sm := hS.small
  obtain ⟨j, j0, j1⟩ := z
  have u := (h j j0.1 (by omega)).2.1
  rw [j1] at u
  have mono : ∀ v, g_st f F0 j v → g_st f F0 k v := fun v z => by obtain ⟨i, i0, i1⟩ := z; exact ⟨i, ⟨i0.1, by omega⟩, i1⟩
  rcases u with ⟨q, ev, q0, -⟩ | ⟨e', ev, e'0, -⟩ | ⟨a', ev, a'0, an, ab, aw⟩ | ⟨q, ev, q0, -⟩ | ⟨l, ev, l0, -⟩ | ⟨a', ev, a'0, an, -⟩
  · omega
  · omega
  · have ee : a' = a := by omega
    rw [ee] at ab an aw
    exact ⟨ab.mono mono, an, fun m q x y z u v w => mono _ (aw m q x y z u v w)⟩
  · omega
  · omega
  · omega
/-- a ready letter's clock is ready -/
theorem g_S.rck (hS : g_S C0 M0) (ok : g_N2 M0) (n0 : 0 ≤ n) (n1 : n < (M0 222 86)) (cl : ∀ e, 0 ≤ e → e < (M0 222 44) → s (1024 + e) → g_eb C0 M0 s n e) {y : Int} (y0 : 0 ≤ y) (y1 : y < 26) (r : g_rd M0 s n y) (c : ¬ M0 235 (26 * n + y) = 0) : g_rd M0 s n ((M0 235 (26 * n + y) - 1) / 2) := by
  have f := hS.l n0 n1 y0 y1
  have k3 : M0 232 (26 * n + y) = 3 := by
    rcases f.2.2.2.1 with v | v
    · exact absurd v.1 c
    · exact v.1
  have tp := (f.2.2.1 (by omega)).2.1
  have ck := (hS.ck n0 n1 y0 y1).2
  obtain ⟨e, i, a1, a2, a3⟩ : ∃ e i, g_of M0 e i ∧ M0 258 e = n ∧ M0 265 i = y := Classical.byContradiction fun z => ok.2 n 699 n0 n1 (by decide) (Or.inr (Or.inr (Or.inr (Or.inr (Or.inl ⟨y, ⟨y0, y1⟩, Or.inr k3, z, by omega⟩)))))
  rcases r with r | r
  · omega
  · have eb := cl e a1.1.1 a1.1.2 (r.2 e i a1 a2 a3)
    exact eb.1 _ (by omega) (by omega) (Or.inr ⟨i, a1, by rw [a2, a3]; exact c, by rw [a2, a3]⟩)
/-- a part that may be worked: its clock's letter is ready -/
theorem g_S.pck (hS : g_S C0 M0) (ok : g_N2 M0) (hT : g_ST M0 G S) (hr : ∀ q, -1 ≤ S q ∧ S q ≤ 52) (n0 : 0 ≤ n) (n1 : n < (M0 222 86)) (hcl : ∀ e i, g_of M0 e i → M0 235 (26 * M0 258 e + M0 265 i) = M0 235 (26 * M0 258 e + M0 265 (M0 259 e))) (cl : ∀ e, 0 ≤ e → e < (M0 222 44) → s (1024 + e) → g_eb C0 M0 s n e) (e0 : 0 ≤ e) (e1 : e < (M0 222 44)) (en : M0 258 e = n) (eb : g_eb C0 M0 s n e) (qa : M0 261 e ≤ q) (qb : q ≤ M0 262 e) (lt : C0 526 q = 0) (z : ¬ S q = 0) : g_rd M0 s n ((S q - 1) / 2) := by
  have hB := hS.2.2.2.2.1
  have fe := hB.2.1 e e0 e1
  have fx := fe.2.2.2.2.2.1
  have fx1 := fx.1
  have key : ∀ (k : Nat) (q : Int), M0 261 e ≤ q → q ≤ M0 262 e → M0 262 e - q ≤ (k : Int) → C0 526 q = 0 → ¬ S q = 0 → g_rd M0 s n ((S q - 1) / 2) := by
    intro k
    induction k with
    | zero => ?_
    | succ k ih => ?_
    all_goals
      intro q qa qb qk lt z
      have q0 : 0 ≤ q := by omega
      have q1 : q < (M0 222 26) := by omega
      by_cases w : q = M0 262 e
      · rw [w, hT.1 e e0 e1] at z ⊢
        unfold g_ec at *
        by_cases au : M0 263 e = -1
        · rw [if_pos au] at z ⊢
          have fe3 := fe.2.2.1
          have ofe : g_of M0 e (M0 259 e) := ⟨⟨e0, e1⟩, by omega, by omega⟩
          have il := hS.ofl ofe
          have sl := hS.slot il.1 il.2
          rw [hS.eoe ofe, en] at sl
          rw [en] at z ⊢
          have ck := (hS.ck n0 n1 sl.2.1.1 sl.2.1.2).2
          exact eb.1 _ (by omega) (by omega) (Or.inr ⟨M0 259 e, ofe, by rw [en]; exact z, by rw [en]⟩)
        · rw [if_neg au] at z; exact absurd rfl z
      · first
        | omega
        | obtain ⟨p, pw, pk⟩ := hS.Xp (q := q) (Or.inl ⟨e, ⟨e0, e1⟩, rfl, rfl⟩) ⟨qa, by omega⟩
          have p0 : 0 ≤ p := by omega
          have p1 : p < (M0 222 26) := by omega
          have ll := ((hS.p p0 p1).2.2.2.2.2.2.2.2.2.2 q pk).2
          have lp : C0 526 p = 0 ∧ ¬ M0 241 p = 6 := by
            by_cases o6 : M0 241 p = 6
            · rw [if_pos o6] at ll; omega
            · rw [if_neg o6] at ll; exact ⟨by omega, o6⟩
          have pn : M0 250 p = n := by rw [(fx.2.2 p (by omega) pw.2).1.1]; exact en
          have hd : ∀ y, M0 248 p = y → ¬ M0 241 p = 3 → g_en C0 M0 e y := fun y hy h3 => Or.inl ⟨p, ⟨by omega, pw.2⟩, lp.1, h3, hy⟩
          have dm := hT.2.2.1 p q p0 p1 pk
          rw [dm] at z ⊢
          unfold g_dm at z ⊢
          by_cases o20 : M0 241 p = 20
          · rw [if_pos o20, pn] at z ⊢
            have l := hS.pl p0 p1 (by omega)
            exact hS.rck ok n0 n1 cl l.1 l.2 (eb.1 _ l.1 l.2 (hd _ rfl (by omega))) z
          · rw [if_neg o20] at z ⊢
            by_cases o21 : M0 241 p = 21
            · rw [if_pos o21] at z ⊢
              have l := hS.pl p0 p1 (by omega)
              have g := eb.1 _ l.1 l.2 (hd _ rfl (by omega))
              split
              · rw [show (2 * M0 248 p + 1 - 1) / 2 = M0 248 p by omega]; exact g
              · rw [show (2 * M0 248 p + 2 - 1) / 2 = M0 248 p by omega]; exact g
            · rw [if_neg o21] at z ⊢
              exact ih p (by omega) pw.2 (by omega) lp.1 z
  exact key (M0 262 e - q).toNat q qa qb (by omega) lt z
end Clocks
