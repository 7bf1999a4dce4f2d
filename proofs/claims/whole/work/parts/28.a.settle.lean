/-! WHAT PARTS ARE ON, settled -/
/-- the X's -/
def g_X (M : ax_V) (f w : Int) : Prop := (∃ e, (0 ≤ e ∧ e < (M 222 44)) ∧ f = M 261 e ∧ w = M 262 e) ∨ ∃ m, (0 ≤ m ∧ m < (M 222 60)) ∧ f = M 276 m ∧ w = M 277 m
section Settle
variable {C0 M0 : ax_V} {q p x f w : Int} {F G S : Int → Int}
theorem g_S.Xx (hS : g_S C0 M0) (h : g_X M0 f w) : ∃ n s tr m, f_x C0 M0 f w n s tr m := by
  have B := hS.2.2.2.2.1
  rcases h with ⟨e, e0, e1, e2⟩ | ⟨m, e0, e1, e2⟩
  · exact ⟨_, _, _, _, by rw [e1, e2]; exact (B.2.1 e e0.1 e0.2).2.2.2.2.2.1⟩
  · exact ⟨_, _, _, _, by rw [e1, e2]; exact (B.2.2.2.2.1 m e0.1 e0.2).2.2.2.2.2.2.2⟩
theorem g_S.Xin (hS : g_S C0 M0) (q0 : 0 ≤ q) (q1 : q < (M0 222 26)) : ∃ f w, g_X M0 f w ∧ f ≤ q ∧ q ≤ w := by
  rcases hS.2.2.2.2.1.2.2.2.2.2.1.1 q q0 q1 with ⟨e, e0, e1, e2, e3⟩ | ⟨m, e0, e1, e2, e3⟩
  · exact ⟨_, _, Or.inl ⟨e, ⟨e0, e1⟩, rfl, rfl⟩, e2, e3⟩
  · exact ⟨_, _, Or.inr ⟨m, ⟨e0, e1⟩, rfl, rfl⟩, e2, e3⟩
theorem g_S.X1 (hS : g_S C0 M0) {f' w' : Int} (h : g_X M0 f w) (h' : g_X M0 f' w') (a : f ≤ q ∧ q ≤ w) (b : f' ≤ q ∧ q ≤ w') : f = f' ∧ w = w' := by
  obtain ⟨o1, o2, o3⟩ := hS.2.2.2.2.1.2.2.2.2.2.1.2.2.1
  rcases h with ⟨e, e0, e1, e2⟩ | ⟨m, e0, e1, e2⟩
  · rcases h' with ⟨e', f0, f1, f2⟩ | ⟨m, f0, f1, f2⟩
    · by_cases z : e = e'
      · rw [e1, e2, f1, f2, z]; exact ⟨rfl, rfl⟩
      · by_cases y : e < e'
        · have := o1 e e' e0.1 y f0.2; omega
        · have := o1 e' e f0.1 (by omega) e0.2; omega
    · have := o3 e m e0.1 e0.2 f0.1 f0.2; omega
  · rcases h' with ⟨e, f0, f1, f2⟩ | ⟨m', f0, f1, f2⟩
    · have := o3 e m f0.1 f0.2 e0.1 e0.2; omega
    · by_cases z : m = m'
      · rw [e1, e2, f1, f2, z]; exact ⟨rfl, rfl⟩
      · by_cases y : m < m'
        · have := o2 m m' e0.1 y f0.2; omega
        · have := o2 m' m f0.1 (by omega) e0.2; omega
/-- a part of a part lies in its X, ahead of the whole -/
theorem g_S.Xk (hS : g_S C0 M0) (h : g_X M0 f w) (a : f ≤ p ∧ p ≤ w) (k : e_kid M0 p x) : f ≤ x ∧ x < p := by
  obtain ⟨n, s, tr, m, fx⟩ := hS.Xx h
  have f1 := fx.1
  exact ⟨(fx.2.2 p a.1 a.2).2.2.2.1 x k, ((hS.p (q := p) (by omega) (by omega)).2.2.2.2.2.2.2.2.2.2 x k).1⟩
theorem g_S.Xr (hS : g_S C0 M0) (h : g_X M0 f w) (p0 : 0 ≤ p) (p1 : p < (M0 222 26)) : ¬ e_kid M0 p w := fun k => by
  obtain ⟨f', w', h', a, b⟩ := hS.Xin p0 p1
  have u := hS.Xk h' ⟨a, b⟩ k
  obtain ⟨n, s, tr, m, fx⟩ := hS.Xx h
  have f1 := fx.1
  have := hS.X1 (q := w) h h' ⟨f1.2.1, Int.le_refl _⟩ ⟨u.1, by omega⟩
  omega
/-- a part that is no whole belongs to one part -/
theorem g_S.Xp (hS : g_S C0 M0) (h : g_X M0 f w) (a : f ≤ q ∧ q < w) : ∃ p, (q < p ∧ p ≤ w) ∧ e_kid M0 p q := by
  obtain ⟨n, s, tr, m, fx⟩ := hS.Xx h
  have f1 := fx.1
  obtain ⟨-, p, p1, p2, p3⟩ := (fx.2.2 q a.1 (by omega)).2.2.2.2 a.2
  have := (hS.Xk h ⟨p2, p1⟩ p3.1).2
  exact ⟨p, ⟨this, p1⟩, p3.1⟩
theorem g_S.par1 (hS : g_S C0 M0) {p' : Int} (p0 : 0 ≤ p) (p1 : p < (M0 222 26)) (p0' : 0 ≤ p') (p1' : p' < (M0 222 26)) (k : e_kid M0 p x) (k' : e_kid M0 p' x) : p = p' := by
  obtain ⟨f, w, h, a, b⟩ := hS.Xin p0 p1
  obtain ⟨f', w', h', a', b'⟩ := hS.Xin p0' p1'
  have u := hS.Xk h ⟨a, b⟩ k
  have u' := hS.Xk h' ⟨a', b'⟩ k'
  have e := hS.X1 (q := x) h h' ⟨u.1, by omega⟩ ⟨u'.1, by omega⟩
  obtain ⟨n, s, tr, m, fx⟩ := hS.Xx h
  obtain ⟨-, v, v1, v2, v3⟩ := (fx.2.2 x u.1 (by omega)).2.2.2.2 (by omega)
  rw [v3.2 p a (by omega) k, v3.2 p' (by omega) (by omega) k']
theorem e_kid_kd (M : ax_V) (q x : Int) : e_kid M q x ↔ (0 ≤ x ∧ ∃ k : Nat, g_kd M q k = x) := by
  unfold e_kid g_kd
  by_cases o : M 241 q = 22
  · simp only [o, if_true]
    constructor
    · rintro ⟨x0, z | z⟩
      · exact absurd trivial z.1
      · exact ⟨x0, z.2⟩
    · rintro ⟨x0, z⟩
      exact ⟨x0, Or.inr ⟨trivial, z⟩⟩
  · simp only [o, if_false]
    constructor
    · rintro ⟨x0, z | z⟩
      · rcases z.2 with z | z | z
        · exact ⟨x0, 0, by simp; exact z⟩
        · exact ⟨x0, 1, by simp; exact z⟩
        · exact ⟨x0, 2, by simp; exact z⟩
      · exact absurd z.1 id
    · rintro ⟨x0, k, z⟩
      refine ⟨x0, Or.inl ⟨id, ?_⟩⟩
      by_cases k0 : k = 0
      · rw [if_pos k0] at z; exact Or.inl z
      · by_cases k1 : k = 1
        · rw [if_neg k0, if_pos k1] at z; exact Or.inr (Or.inl z)
        · by_cases k2 : k = 2
          · rw [if_neg k0, if_neg k1, if_pos k2] at z; exact Or.inr (Or.inr z)
          · rw [if_neg k0, if_neg k1, if_neg k2] at z; omega
theorem e_kid_abc {M : ax_V} {p x : Int} (k : e_kid M p x) (o : ¬ M 241 p = 22) : 0 ≤ x ∧ (M 245 p = x ∨ M 246 p = x ∨ M 247 p = x) := by
  rcases k with ⟨x0, k | k⟩
  · exact ⟨x0, k.2⟩
  · exact absurd k.1 o
/-- a part with parts of its own is no leaf -/
theorem g_S.leaf (hS : g_S C0 M0) (p0 : 0 ≤ p) (p1 : p < (M0 222 26)) (k : e_kid M0 p x) : 4 ≤ M0 241 p := by
  have ar := hS.ar p0 p1
  unfold e_ar at ar
  by_cases o : M0 241 p = 22
  · omega
  · have k2 := e_kid_abc k o
    omega
/-- what a part asks of a part of its own -/
def g_dm (M : ax_V) (v p x : Int) : Int := if M 241 p = 20 then M 235 (26 * M 250 p + M 248 p) else if M 241 p = 21 then (if x = M 245 p then 2 * M 248 p + 1 else 2 * M 248 p + 2) else v
def g_ST (M : ax_V) (G S : Int → Int) : Prop := (∀ e, 0 ≤ e → e < (M 222 44) → S (M 262 e) = g_ec M e) ∧ (∀ m, 0 ≤ m → m < (M 222 60) → S (M 277 m) = 0) ∧ (∀ p x, 0 ≤ p → p < (M 222 26) → e_kid M p x → S x = g_dm M (S p) p x) ∧ ∀ q, 0 ≤ q → q < (M 222 26) → ¬ G q = -1 → S q = G q
/-- clean: what a part is on is what is asked -/
theorem g_S.dm (hS : g_S C0 M0) (hG : g_G M0 G) {H : Int → Int} (n4 : ∀ t, t < 700 → ¬ g_FA C0 M0 F G H 4 t) (p0 : 0 ≤ p) (p1 : p < (M0 222 26)) (k : e_kid M0 p x) (z : ¬ G x = -1) : G x = g_dm M0 (G p) p x ∧ (¬ M0 241 p = 20 → ¬ M0 241 p = 21 → G p = G x) := by
  have nd := (hS.pnode p0 p1).1
  have xp := ((hS.p p0 p1).2.2.2.2.2.2.2.2.2.2 x k).1
  have bx := (hS.p (q := x) k.1 (by omega)).2.2.1
  have no : ¬ g_b4 M0 G p 699 := fun y => n4 699 (by decide) ((g_FA4 699).mpr ⟨M0 250 p, nd, Or.inr (Or.inl ⟨p, ⟨p0, p1⟩, rfl, Or.inl y⟩)⟩)
  have ar := hS.ar p0 p1
  unfold g_dm
  by_cases o20 : M0 241 p = 20
  · rw [if_pos o20]
    have k2 := e_kid_abc k (by omega)
    have e : x = M0 245 p := by
      unfold e_ar at ar
      omega
    refine ⟨Classical.byContradiction fun y => no (Or.inl ⟨o20, ?_⟩), fun y => absurd o20 y⟩
    rw [← e]; exact ⟨z, y, by omega⟩
  · rw [if_neg o20]
    by_cases o21 : M0 241 p = 21
    · rw [if_pos o21]
      refine ⟨?_, fun _ y => absurd o21 y⟩
      by_cases e : x = M0 245 p
      · rw [if_pos e]
        refine Classical.byContradiction fun y => no (Or.inr (Or.inl ⟨o21, Or.inl ?_⟩))
        rw [← e]; exact ⟨z, y, by omega⟩
      · rw [if_neg e]
        have k2 := e_kid_abc k (by omega)
        have e2 : x = M0 246 p := by
          unfold e_ar at ar
          omega
        refine Classical.byContradiction fun y => no (Or.inr (Or.inl ⟨o21, Or.inr ?_⟩))
        rw [← e2]; exact ⟨z, y, by omega⟩
    · rw [if_neg o21]
      obtain ⟨x0, i, hi⟩ := (e_kid_kd M0 p x).mp k
      have e : G x = g_jn M0 G p 700 := Classical.byContradiction fun y => no (Or.inr (Or.inr (Or.inl ⟨o20, o21, i, by omega, by rw [hi]; exact ⟨z, y, by omega⟩⟩)))
      have gp := (hG p p0 p1).1
      have e2 : G p = g_jn M0 G p 700 := by
        rw [gp]
        unfold g_kf
        rw [e] at z
        have lf := hS.leaf p0 p1 k
        rw [if_neg (show ¬ (M0 241 p = 0 ∨ M0 241 p = 1) by omega), if_neg (show ¬ (M0 241 p = 2 ∨ M0 241 p = 3 ∨ M0 241 p = 21) by omega), if_neg o20]
        by_cases o22 : M0 241 p = 22
        · rw [if_pos o22, if_neg z]
        · rw [if_neg o22]
      rw [e2, e]
      exact ⟨rfl, fun _ _ => rfl⟩
/-- parts in an automaton are on the base, if on anything -/
theorem g_S.jn0 {K : Nat} (hk : ∀ k, k < K → ¬ g_kd M0 q k = -1 → G (g_kd M0 q k) = -1 ∨ G (g_kd M0 q k) = 0) : g_jn M0 G q K = -1 ∨ g_jn M0 G q K = 0 := by
  induction K with
  | zero => exact Or.inl rfl
  | succ K ih =>
    have es : g_jn M0 G q (K + 1) = if g_jn M0 G q K = -1 then (if g_kd M0 q K = -1 then -1 else G (g_kd M0 q K)) else g_jn M0 G q K := rfl
    rw [es]
    rcases ih (fun k a b => hk k (by omega) b) with e | e
    · rw [if_pos e]
      by_cases y : g_kd M0 q K = -1
      · rw [if_pos y]; exact Or.inl rfl
      · rw [if_neg y]; exact hk K (by omega) y
    · rw [if_neg (by omega)]; exact Or.inr e
theorem g_S.G0 (hS : g_S C0 M0) (hG : g_G M0 G) {H : Int → Int} (n4 : ∀ t, t < 700 → ¬ g_FA C0 M0 F G H 4 t) : ∀ (j : Nat) (q : Int), q < (j : Int) → 0 ≤ q → q < (M0 222 26) → ¬ C0 525 q = -1 → G q = -1 ∨ G q = 0 := by
  intro j
  induction j with
  | zero => exact fun q a b => by omega
  | succ j ih =>
    intro q a q0 q1 st
    have nd := (hS.pnode q0 q1).1
    have no : ¬ g_p4 C0 M0 q 699 := fun y => n4 699 (by decide) ((g_FA4 699).mpr ⟨M0 250 q, nd, Or.inr (Or.inl ⟨q, ⟨q0, q1⟩, rfl, Or.inr y⟩)⟩)
    obtain ⟨f, w, h, a1, b1⟩ := hS.Xin q0 q1
    obtain ⟨n, s, tr, m, fx⟩ := hS.Xx h
    have fq := fx.2.2 q a1 b1
    have fx1 := fx.1
    have o2x := fq.2.1 (by rw [← fq.1.2.1]; exact st)
    have sp := hS.let q0 q1
    have jn : g_jn M0 G q 700 = -1 ∨ g_jn M0 G q 700 = 0 := g_S.jn0 (fun k _ y => by
      have b := hS.kidb q0 q1 y
      have kd : e_kid M0 q (g_kd M0 q k) := (e_kid_kd _ _ _).mpr ⟨b.1, k, rfl⟩
      have fk := hS.Xk h ⟨a1, b1⟩ kd
      refine ih _ (by omega) b.1 (by omega) ?_
      rw [(fx.2.2 _ fk.1 (by omega)).1.2.1, ← fq.1.2.1]; exact st)
    rw [(hG q q0 q1).1]
    unfold g_kf
    by_cases o01 : M0 241 q = 0 ∨ M0 241 q = 1
    · rw [if_pos o01]; exact Or.inl rfl
    · rw [if_neg o01]
      by_cases o23 : M0 241 q = 2 ∨ M0 241 q = 3 ∨ M0 241 q = 21
      · rw [if_pos o23]
        refine Or.inr (Classical.byContradiction fun y => no ⟨st, by omega, y, ?_⟩)
        have := hS.pl q0 q1 (by omega)
        rcases sp with z | z
        · omega
        · have := z.2.2; omega
      · rw [if_neg o23, if_neg o2x.1]
        by_cases o22 : M0 241 q = 22
        · rw [if_pos o22]
          rcases jn with e | e
          · rw [if_pos e]
            by_cases l : M0 248 q = -1
            · rw [if_pos l]; exact Or.inr rfl
            · rw [if_neg l]
              refine Or.inr (Classical.byContradiction fun y => no ⟨st, Or.inr (Or.inr ⟨o22, l⟩), y, ?_⟩)
              rcases sp with z | z
              · exact absurd z l
              · have := z.2.2; omega
          · rw [if_neg (by omega)]; exact Or.inr e
        · rw [if_neg o22]; exact jn
/-- there is a settling -/
theorem g_S.ST (hS : g_S C0 M0) (hG : g_G M0 G) {H : Int → Int} (n4 : ∀ t, t < 700 → ¬ g_FA C0 M0 F G H 4 t) : ∃ S, g_ST M0 G S ∧ ∀ q, -1 ≤ S q ∧ S q ≤ 52 := by
  have hB := hS.2.2.2.2.1
  have key : ∀ j : Nat, ∃ S : Int → Int, (∀ q, -1 ≤ S q ∧ S q ≤ 52) ∧ ∀ q, 0 ≤ q → q < (M0 222 26) → (M0 222 26) - q ≤ (j : Int) → (∀ e, 0 ≤ e → e < (M0 222 44) → M0 262 e = q → S q = g_ec M0 e) ∧ (∀ m, 0 ≤ m → m < (M0 222 60) → M0 277 m = q → S q = 0) ∧ (∀ p, 0 ≤ p → p < (M0 222 26) → e_kid M0 p q → S q = g_dm M0 (S p) p q) ∧ (¬ G q = -1 → S q = G q) := by
    intro j
    induction j with
    | zero => exact ⟨fun _ => 0, fun q => ⟨show (-1 : Int) ≤ 0 by decide, show (0 : Int) ≤ 52 by decide⟩, fun q a b c => by omega⟩
    | succ j ih =>
      obtain ⟨S, hb, hs⟩ := ih
      obtain ⟨x, ex⟩ : ∃ x : Int, x = (M0 222 26) - (j : Int) - 1 := ⟨_, rfl⟩
      have put : ∀ v : Int, (-1 ≤ v ∧ v ≤ 52) → (0 ≤ x → x < (M0 222 26) → (∀ e, 0 ≤ e → e < (M0 222 44) → M0 262 e = x → v = g_ec M0 e) ∧ (∀ m, 0 ≤ m → m < (M0 222 60) → M0 277 m = x → v = 0) ∧ (∀ p, 0 ≤ p → p < (M0 222 26) → e_kid M0 p x → v = g_dm M0 (S p) p x) ∧ (¬ G x = -1 → v = G x)) → ∃ S : Int → Int, (∀ q, -1 ≤ S q ∧ S q ≤ 52) ∧ ∀ q, 0 ≤ q → q < (M0 222 26) → (M0 222 26) - q ≤ ((j + 1 : Nat) : Int) → (∀ e, 0 ≤ e → e < (M0 222 44) → M0 262 e = q → S q = g_ec M0 e) ∧ (∀ m, 0 ≤ m → m < (M0 222 60) → M0 277 m = q → S q = 0) ∧ (∀ p, 0 ≤ p → p < (M0 222 26) → e_kid M0 p q → S q = g_dm M0 (S p) p q) ∧ (¬ G q = -1 → S q = G q) := by
        intro v vb hv
        refine ⟨fun i => if i = x then v else S i, fun q => ?_, fun q q0 q1 qj => ?_⟩
        · show -1 ≤ (if q = x then v else S q) ∧ (if q = x then v else S q) ≤ 52
          by_cases e : q = x
          · rw [if_pos e]; exact vb
          · rw [if_neg e]; exact hb q
        have pk : ∀ p, 0 ≤ p → p < (M0 222 26) → e_kid M0 p q → q < p := fun p a b k => ((hS.p a b).2.2.2.2.2.2.2.2.2.2 q k).1
        by_cases e : q = x
        · rw [e]
          rw [e] at q0 q1 pk
          obtain ⟨v1, v2, v3, v4⟩ := hv q0 q1
          simp only [if_true]
          refine ⟨v1, v2, fun p a b k => ?_, v4⟩
          rw [if_neg (by have := pk p a b k; omega)]
          exact v3 p a b k
        · obtain ⟨v1, v2, v3, v4⟩ := hs q q0 q1 (by omega)
          simp only [if_neg e]
          refine ⟨v1, v2, fun p a b k => ?_, v4⟩
          rw [if_neg (by have := pk p a b k; omega)]
          exact v3 p a b k
      by_cases x0 : 0 ≤ x
      · by_cases x1 : x < (M0 222 26)
        · obtain ⟨f, w, h, a, b⟩ := hS.Xin x0 x1
          obtain ⟨n, s, tr, m, fx⟩ := hS.Xx h
          have fx1 := fx.1
          have er : ∀ e, 0 ≤ e → e < (M0 222 44) → M0 262 e = x → f = M0 261 e ∧ w = x := fun e e0 e1 e2 => by
            have fe := (hB.2.1 e e0 e1).2.2.2.2.2.1.1
            have := hS.X1 (q := x) h (Or.inl ⟨e, ⟨e0, e1⟩, rfl, rfl⟩) ⟨a, b⟩ ⟨by omega, by omega⟩
            omega
          have tr1 : ∀ m, 0 ≤ m → m < (M0 222 60) → M0 277 m = x → f = M0 276 m ∧ w = x := fun m e0 e1 e2 => by
            have fe := (hB.2.2.2.2.1 m e0 e1).2.2.2.2.2.2.2.1
            have := hS.X1 (q := x) h (Or.inr ⟨m, ⟨e0, e1⟩, rfl, rfl⟩) ⟨a, b⟩ ⟨by omega, by omega⟩
            omega
          have ecb : ∀ e, 0 ≤ e → e < (M0 222 44) → -1 ≤ g_ec M0 e ∧ g_ec M0 e ≤ 52 := fun e e0 e1 => by
            have fe := hB.2.1 e e0 e1
            have fe3 := fe.2.2.1
            have nd := hS.node e0 e1
            have lf := (fe.2.2.2.2.2.2 (M0 259 e) (by omega) (by omega)).2.1
            have ck := (hS.ck nd.1 nd.2.1 lf.1 lf.2).2
            unfold g_ec
            split <;> omega
          have dmb : ∀ p, 0 ≤ p → p < (M0 222 26) → -1 ≤ g_dm M0 (S p) p x ∧ g_dm M0 (S p) p x ≤ 52 := fun p a1 a2 => by
            have nd := (hS.pnode a1 a2).1
            have b := hb p
            unfold g_dm
            by_cases o20 : M0 241 p = 20
            · rw [if_pos o20]
              have l := hS.pl a1 a2 (by omega)
              have ck := (hS.ck nd.1 nd.2 l.1 l.2).2
              omega
            · rw [if_neg o20]
              by_cases o21 : M0 241 p = 21
              · rw [if_pos o21]
                have l := hS.pl a1 a2 (by omega)
                split <;> omega
              · rw [if_neg o21]; exact b
          by_cases g : G x = -1
          · rcases h with ⟨e, e0, ee, ew⟩ | ⟨m2, e0, ee, ew⟩
            · by_cases z : x = w
              · refine put (g_ec M0 e) (ecb e e0.1 e0.2) (fun _ _ => ⟨fun e' a1 a2 a3 => ?_, fun m' a1 a2 a3 => ?_, fun p a1 a2 k => ?_, fun y => absurd g y⟩)
                · have o1 := hB.2.2.2.2.2.1.2.2.1.1
                  have fe := (hB.2.1 e e0.1 e0.2).2.2.2.2.2.1.1
                  have fe' := (hB.2.1 e' a1 a2).2.2.2.2.2.1.1
                  have : e' = e := by
                    by_cases y : e' < e
                    · have := o1 e' e a1 y e0.2; omega
                    · by_cases y2 : e < e'
                      · have := o1 e e' e0.1 y2 a2; omega
                      · omega
                  rw [this]
                · have o3 := hB.2.2.2.2.2.1.2.2.1.2.2 e m' e0.1 e0.2 a1 a2
                  have fe := (hB.2.1 e e0.1 e0.2).2.2.2.2.2.1.1
                  have fm := (hB.2.2.2.2.1 m' a1 a2).2.2.2.2.2.2.2.1
                  omega
                · rw [z] at k
                  exact absurd k (hS.Xr (Or.inl ⟨e, e0, ee, ew⟩) a1 a2)
              · obtain ⟨p, pw, pk⟩ := hS.Xp (q := x) (Or.inl ⟨e, e0, ee, ew⟩) ⟨a, by omega⟩
                exact put (g_dm M0 (S p) p x) (dmb p (by omega) (by omega)) (fun _ _ => ⟨fun e' a1 a2 a3 => absurd (er e' a1 a2 a3).2 (by omega), fun m' a1 a2 a3 => absurd (tr1 m' a1 a2 a3).2 (by omega), fun p' a1 a2 k => by rw [hS.par1 (p := p) (p' := p') (by omega) (by omega) a1 a2 pk k], fun y => absurd g y⟩)
            · by_cases z : x = w
              · refine put 0 (by decide) (fun _ _ => ⟨fun e' a1 a2 a3 => ?_, fun m' a1 a2 a3 => rfl, fun p a1 a2 k => ?_, fun y => absurd g y⟩)
                · have o3 := hB.2.2.2.2.2.1.2.2.1.2.2 e' m2 a1 a2 e0.1 e0.2
                  have fe := (hB.2.1 e' a1 a2).2.2.2.2.2.1.1
                  have fm := (hB.2.2.2.2.1 m2 e0.1 e0.2).2.2.2.2.2.2.2.1
                  omega
                · rw [z] at k
                  exact absurd k (hS.Xr (Or.inr ⟨m2, e0, ee, ew⟩) a1 a2)
              · obtain ⟨p, pw, pk⟩ := hS.Xp (q := x) (Or.inr ⟨m2, e0, ee, ew⟩) ⟨a, by omega⟩
                exact put (g_dm M0 (S p) p x) (dmb p (by omega) (by omega)) (fun _ _ => ⟨fun e' a1 a2 a3 => absurd (er e' a1 a2 a3).2 (by omega), fun m' a1 a2 a3 => absurd (tr1 m' a1 a2 a3).2 (by omega), fun p' a1 a2 k => by rw [hS.par1 (p := p) (p' := p') (by omega) (by omega) a1 a2 pk k], fun y => absurd g y⟩)
          · refine put (G x) (hG x x0 x1).2 (fun _ _ => ⟨fun e e0 e1 e2 => ?_, fun m' e0 e1 e2 => ?_, fun p a1 a2 k => ?_, fun _ => rfl⟩)
            · have nd := hS.node e0 e1
              have fe := hB.2.1 e e0 e1
              have fe3 := fe.2.2.1
              have ofe : g_of M0 e (M0 259 e) := ⟨⟨e0, e1⟩, by omega, by omega⟩
              have bx := (hS.p (q := x) x0 x1).2.2.1
              have n0 : ¬ (g_e4 M0 G e 699 ∨ g_s4 C0 M0 e 699) := fun y => n4 699 (by decide) ((g_FA4 699).mpr ⟨M0 258 e, ⟨nd.1, nd.2.1⟩, Or.inr (Or.inr ⟨e, ⟨e0, e1⟩, rfl, y⟩)⟩)
              have c1 : G x = M0 235 (26 * M0 258 e + M0 265 (M0 259 e)) := Classical.byContradiction fun y => n0 (Or.inl (Or.inr (by rw [e2]; exact ⟨g, y, by omega⟩)))
              unfold g_ec
              by_cases au : M0 263 e = -1
              · rw [if_pos au]; exact c1
              · rw [if_neg au]
                have il := hS.ofl ofe
                have pl := (hS.h il.1 il.2).2.2.2
                have c0 : M0 235 (26 * M0 258 e + M0 265 (M0 259 e)) = 0 := Classical.byContradiction fun y => n0 (Or.inr ⟨fun y2 => au ((hS.ea e0 e1).mp y2), M0 259 e, ofe, y, by omega⟩)
                rw [c1, c0]
            · have ft := hB.2.2.2.2.1 m' e0 e1
              have tm := hS.tr e0 e1
              have fx := ft.2.2.2.2.2.2.2
              have st := (fx.2.2 x (by rw [← e2]; exact fx.1.2.1) (by omega)).1.2.1
              have := hS.G0 hG n4 (x + 1).toNat x (by omega) x0 x1 (by rw [st]; omega)
              omega
            · obtain ⟨d1, d2⟩ := hS.dm hG n4 a1 a2 k g
              have px := ((hS.p a1 a2).2.2.2.2.2.2.2.2.2.2 x k).1
              rw [d1]
              unfold g_dm
              by_cases o20 : M0 241 p = 20
              · rw [if_pos o20, if_pos o20]
              · rw [if_neg o20, if_neg o20]
                by_cases o21 : M0 241 p = 21
                · rw [if_pos o21, if_pos o21]
                · rw [if_neg o21, if_neg o21]
                  have e := d2 o20 o21
                  exact ((hs p a1 a2 (by omega)).2.2.2 (by rw [e]; exact g)).symm
        · exact put 0 (by decide) (fun a b => absurd b x1)
      · exact put 0 (by decide) (fun a b => absurd a x0)
  have p0 := hS.2.2.1.1
  obtain ⟨S, hb, hs⟩ := key ((M0 222 26)).toNat
  refine ⟨S, ⟨fun e e0 e1 => ?_, fun m e0 e1 => ?_, fun p x a b k => ?_, fun q a b => (hs q a b (by omega)).2.2.2⟩, hb⟩
  · have fe := (hB.2.1 e e0 e1).2.2.2.2.2.1.1
    exact (hs _ (by omega) fe.2.2 (by omega)).1 e e0 e1 rfl
  · have fe := (hB.2.2.2.2.1 m e0 e1).2.2.2.2.2.2.2.1
    exact (hs _ (by omega) fe.2.2 (by omega)).2.1 m e0 e1 rfl
  · have px := ((hS.p a b).2.2.2.2.2.2.2.2.2.2 x k).1
    exact (hs x k.1 (by omega) (by have := k.1; omega)).2.2.1 p a b k
end Settle
