/-! FAULTS 3 AND ON: there is none of kind 2 -/
def g_N2 (M : ax_V) : Prop := (M 222 73) = -1 ∧ ∀ n t, 0 ≤ n → n < (M 222 86) → t < 700 → ¬ g_v2 M n t
section After2
variable {C0 M0 : ax_V} {q : Int}
theorem g_S.op (hS : g_S C0 M0) (q0 : 0 ≤ q) (q1 : q < (M0 222 26)) : (0 ≤ M0 241 q ∧ M0 241 q ≤ 22) ∧ C0 517 q = e_op (M0 241 q) := by
  have e := hS.p q0 q1
  refine ⟨?_, e.1⟩
  rcases e.2.2.2.2.2.1 with z | z | z | z | z <;> omega
/-- the parts of a part, for all but calls -/
theorem g_S.kid (hS : g_S C0 M0) (q0 : 0 ≤ q) (q1 : q < (M0 222 26)) (o : ¬ M0 241 q = 22) : C0 521 q = M0 245 q ∧ (-1 ≤ M0 245 q ∧ M0 245 q < q) ∧ (-1 ≤ M0 246 q ∧ M0 246 q < q) ∧ (-1 ≤ M0 247 q ∧ M0 247 q < q) ∧ (0 ≤ M0 245 q → C0 522 (M0 245 q) = M0 246 q) ∧ (0 ≤ M0 246 q → C0 522 (M0 246 q) = M0 247 q) ∧ (0 ≤ M0 247 q → C0 522 (M0 247 q) = -1) := by
  obtain ⟨u1, u2, u3, u4, u5, u6, u7, u8, u9, u10, u11⟩ := hS.p q0 q1
  have k := u9 o
  have ba : 0 ≤ M0 245 q → M0 245 q < q := fun z => (u11 _ ⟨z, Or.inl ⟨o, Or.inl rfl⟩⟩).1
  have bb : 0 ≤ M0 246 q → M0 246 q < q := fun z => (u11 _ ⟨z, Or.inl ⟨o, Or.inr (Or.inl rfl)⟩⟩).1
  have bc : 0 ≤ M0 247 q → M0 247 q < q := fun z => (u11 _ ⟨z, Or.inl ⟨o, Or.inr (Or.inr rfl)⟩⟩).1
  have lo : (-1 ≤ M0 245 q ∧ -1 ≤ M0 246 q) ∧ -1 ≤ M0 247 q := by rcases u6 with z | z | z | z | z <;> omega
  refine ⟨u8, ⟨lo.1.1, ?_⟩, ⟨lo.1.2, ?_⟩, ⟨lo.2, ?_⟩, k.1, k.2.1, k.2.2⟩
  · by_cases z : 0 ≤ M0 245 q
    · exact ba z
    · omega
  · by_cases z : 0 ≤ M0 246 q
    · exact bb z
    · omega
  · by_cases z : 0 ≤ M0 247 q
    · exact bc z
    · omega
/-- which of them there are -/
theorem g_S.ar (hS : g_S C0 M0) (q0 : 0 ≤ q) (q1 : q < (M0 222 26)) : e_ar M0 q := (hS.p q0 q1).2.2.2.2.2.1
/-- the arguments of a call -/
theorem g_S.args (hS : g_S C0 M0) (q0 : 0 ≤ q) (q1 : q < (M0 222 26)) (o : M0 241 q = 22) : ∃ K : Nat, (K : Int) ≤ 700 ∧ e_arg M0 q K = -1 ∧ ∀ k : Nat, k < K → (0 ≤ e_arg M0 q k ∧ e_arg M0 q k < q) ∧ C0 522 (e_arg M0 q k) = e_arg M0 q (k + 1) ∧ M0 252 (e_arg M0 q k) = e_arg M0 q (k + 1) ∧ M0 242 q ≤ M0 242 (e_arg M0 q k) := by
  have hp := hS.p q0 q1
  have p0 := hS.2.2.1.1
  have hat := hS.2.2.2.2.2.2.2
  have ge := e_arg_ge hp o
  obtain ⟨u1, u2, u3, u4, u5, u6, u7, u8, u9, u10, u11⟩ := hp
  have st : ∀ k : Nat, 0 ≤ e_arg M0 q k → (0 ≤ e_arg M0 q k ∧ e_arg M0 q k < q) ∧ C0 522 (e_arg M0 q k) = e_arg M0 q (k + 1) ∧ M0 252 (e_arg M0 q k) = e_arg M0 q (k + 1) ∧ M0 242 q ≤ M0 242 (e_arg M0 q k) := by
    intro k z
    have a := u10 o k z
    have b := (u11 _ ⟨z, Or.inr ⟨o, k, rfl⟩⟩).1
    have e : e_arg M0 q (k + 1) = M0 252 (e_arg M0 q k) := by
      show (if e_arg M0 q k = -1 then -1 else M0 252 (e_arg M0 q k)) = _
      rw [if_neg (by omega)]
    exact ⟨⟨z, b⟩, by rw [e]; exact a.1, e.symm, a.2.2⟩
  have key : ∀ m : Nat, (∃ K : Nat, K ≤ m ∧ e_arg M0 q K = -1 ∧ ∀ k : Nat, k < K → 0 ≤ e_arg M0 q k) ∨ ∀ k : Nat, k ≤ m → (k : Int) ≤ e_arg M0 q k := by
    intro m
    induction m with
    | zero =>
      by_cases w : e_arg M0 q 0 = -1
      · exact Or.inl ⟨0, Nat.le_refl _, w, fun k z => absurd z (Nat.not_lt_zero _)⟩
      · refine Or.inr (fun k z => ?_)
        have : k = 0 := by omega
        rw [this]; have := ge 0; omega
    | succ m ih =>
      rcases ih with ⟨K, a, b⟩ | ih
      · exact Or.inl ⟨K, by omega, b⟩
      · by_cases w : e_arg M0 q (m + 1) = -1
        · exact Or.inl ⟨m + 1, Nat.le_refl _, w, fun k z => by have := ih k (by omega); omega⟩
        · refine Or.inr (fun k z => ?_)
          by_cases y : k = m + 1
          · have z0 := ih m (Nat.le_refl _)
            have a := u10 o m (by omega)
            have e := (st m (by omega)).2.2.1
            rw [y]
            have := ge (m + 1)
            rcases a.2.1 with x | x
            · omega
            · omega
          · exact ih k (by omega)
  rcases key 700 with ⟨K, a, b, c⟩ | h
  · exact ⟨K, by omega, b, fun k z => st k (c k z)⟩
  · have z := h 700 (Nat.le_refl _)
    have := (st 700 (by omega)).1
    omega
theorem g_N2.bp (ok : g_N2 M0) (hS : g_S C0 M0) (q0 : 0 ≤ q) (q1 : q < (M0 222 26)) (t : Int) (ht : t < 700) : ¬ g_bp M0 q t := fun z => ok.2 (M0 250 q) t (hS.pnode q0 q1).1.1 (hS.pnode q0 q1).1.2 ht (Or.inr (Or.inr (Or.inl ⟨q, ⟨q0, q1⟩, rfl, z⟩)))
/-- a call's node is told ahead -/
theorem g_N2.call (ok : g_N2 M0) (hS : g_S C0 M0) (q0 : 0 ≤ q) (q1 : q < (M0 222 26)) (o : M0 241 q = 22) : 0 ≤ C0 520 q ∧ C0 520 q < M0 250 q := by
  have t7 := (hS.p q0 q1).2.2.2.2.2.2.1.2.2.2.2.2.2 o
  rcases t7.2.2.2.2 with ⟨z1, z2⟩ | ⟨z1, z2, -⟩
  · exact absurd (Or.inr (Or.inr (Or.inr ⟨o, Or.inl ⟨z2, by have := t7.1.2; omega⟩⟩))) (ok.bp hS q0 q1 699 (by decide))
  · exact ⟨z1, z2⟩
/-- letters in parts are told; those of clocks are truths -/
theorem g_N2.told (ok : g_N2 M0) (hS : g_S C0 M0) (q0 : 0 ≤ q) (q1 : q < (M0 222 26)) (o : M0 241 q = 2 ∨ M0 241 q = 3) : ¬ M0 232 (26 * M0 250 q + M0 248 q) = 0 := by
  have t3 := (hS.p q0 q1).2.2.2.2.2.2.1.2.2.1
  have pn := (hS.pnode q0 q1).1
  intro z
  rcases o with o | o
  · exact ok.bp hS q0 q1 699 (by decide) (Or.inl ⟨o, z, by have := (t3 (Or.inl o)).2.2.2.1; omega⟩)
  · have u := t3 (Or.inr (Or.inl o))
    have f := hS.l pn.1 pn.2 u.1.1 u.1.2
    exact ok.bp hS q0 q1 699 (by decide) (Or.inr (Or.inl ⟨o, (f.2.1 z).2.2, by have := u.2.2.2.1; omega⟩))
theorem g_N2.truth (ok : g_N2 M0) (hS : g_S C0 M0) (q0 : 0 ≤ q) (q1 : q < (M0 222 26)) (o : M0 241 q = 20 ∨ M0 241 q = 21 ∨ (M0 241 q = 22 ∧ ¬ M0 248 q = -1)) : ¬ g_nt M0 (26 * M0 250 q + M0 248 q) := by
  have t := (hS.p q0 q1).2.2.2.2.2.2.1
  intro z
  rcases o with o | o | o
  · exact ok.bp hS q0 q1 699 (by decide) (Or.inr (Or.inr (Or.inl ⟨Or.inl o, z, by have := (t.2.2.2.1 o).2.2.2.2.1; omega⟩)))
  · exact ok.bp hS q0 q1 699 (by decide) (Or.inr (Or.inr (Or.inl ⟨Or.inr o, z, by have := (t.2.2.1 (Or.inr (Or.inr o))).2.2.2.1; omega⟩)))
  · have u := t.2.2.2.2.2.2 o.1
    exact ok.bp hS q0 q1 699 (by decide) (Or.inr (Or.inr (Or.inr ⟨o.1, Or.inr ⟨o.2, z, by have := (u.2.2.2.1 (by omega)).2.2; omega⟩⟩)))
/-- heads are told, and no inputs; they don't clash -/
theorem g_N2.head (ok : g_N2 M0) (hS : g_S C0 M0) {i : Int} (i0 : 0 ≤ i) (i1 : i < (M0 222 52)) : (M0 232 (26 * M0 258 (g_eo M0 i) + M0 265 i) = 2 ∨ M0 232 (26 * M0 258 (g_eo M0 i) + M0 265 i) = 3) ∧ ¬ g_c2 M0 i := by
  obtain ⟨si, si2, si3, -⟩ := hS.slot i0 i1
  have f := (hS.l si3.1 si3.2 si2.1 si2.2).1
  have pl := (hS.h i0 i1).2.2.2
  have no : ¬ g_bl M0 i 699 := fun z => ok.2 _ 699 si3.1 si3.2 (by decide) (Or.inr (Or.inr (Or.inr (Or.inl ⟨g_eo M0 i, i, hS.eo i0 i1, rfl, z⟩))))
  refine ⟨?_, fun z => no ⟨Or.inr (Or.inr z), by omega⟩⟩
  by_cases z0 : M0 232 (26 * M0 258 (g_eo M0 i) + M0 265 i) = 0
  · exact absurd ⟨Or.inl z0, by omega⟩ no
  · by_cases z1 : M0 232 (26 * M0 258 (g_eo M0 i) + M0 265 i) = 1
    · exact absurd ⟨Or.inr (Or.inl z1), by omega⟩ no
    · omega
/-- sorts of told letters -/
theorem g_S.sort (hS : g_S C0 M0) {n l : Int} (n0 : 0 ≤ n) (n1 : n < (M0 222 86)) (l0 : 0 ≤ l) (l1 : l < 26) (k : ¬ M0 232 (26 * n + l) = 0) : C0 535 (26 * n + l) = M0 233 (26 * n + l) ∧ (M0 233 (26 * n + l) = 0 ∨ M0 233 (26 * n + l) = 1) := by
  have f := (hS.l n0 n1 l0 l1).2.2.1 k
  exact ⟨f.2.2.1, f.2.2.2⟩
/-- the flows of a node -/
theorem g_S.fl (hS : g_S C0 M0) {n : Int} (n0 : 0 ≤ n) (n1 : n < (M0 222 86)) : f_f C0 M0 n := hS.2.2.2.1.2.1.1 n n0 n1
theorem g_S.inp (hS : g_S C0 M0) {n i : Int} (n0 : 0 ≤ n) (n1 : n < (M0 222 86)) (i0 : 0 ≤ i) (i1 : i < M0 227 n) : C0 506 (26 * n + i) = 26 * n + M0 230 (26 * n + i) ∧ (0 ≤ M0 230 (26 * n + i) ∧ M0 230 (26 * n + i) < 26) ∧ (C0 535 (26 * n + M0 230 (26 * n + i)) = M0 233 (26 * n + M0 230 (26 * n + i))) ∧ (M0 233 (26 * n + M0 230 (26 * n + i)) = 0 ∨ M0 233 (26 * n + M0 230 (26 * n + i)) = 1) ∧ i < 26 := by
  have f := hS.fl n0 n1
  have a := f.2.2.2.2.1 i i0 i1
  have b := hS.sort n0 n1 a.2.1.1 a.2.1.2 (by omega)
  have c := (f_cn_le M0 n 26).2
  have d := f.2.2.2.1
  have e1 := f.2.1.2
  have e2 := f.2.2.1.2
  exact ⟨a.1, a.2.1, b.1, b.2, by omega⟩
theorem g_S.outp (hS : g_S C0 M0) {n i : Int} (n0 : 0 ≤ n) (n1 : n < (M0 222 86)) (i0 : 0 ≤ i) (i1 : i < M0 228 n) : C0 507 (26 * n + i) = 26 * n + M0 231 (26 * n + i) ∧ (0 ≤ M0 231 (26 * n + i) ∧ M0 231 (26 * n + i) < 26) ∧ (C0 535 (26 * n + M0 231 (26 * n + i)) = M0 233 (26 * n + M0 231 (26 * n + i))) ∧ (M0 233 (26 * n + M0 231 (26 * n + i)) = 0 ∨ M0 233 (26 * n + M0 231 (26 * n + i)) = 1) ∧ i < 26 := by
  have f := hS.fl n0 n1
  have a := f.2.2.2.2.2.1 i i0 i1
  have b := hS.sort n0 n1 a.2.1.1 a.2.1.2 (by omega)
  have c := (f_cn_le M0 n 26).2
  have d := f.2.2.2.1
  have e1 := f.1.2
  have e2 := f.2.2.1.2
  exact ⟨a.1, a.2.1, b.1, b.2, by omega⟩
theorem g_N2.out (ok : g_N2 M0) (hS : g_S C0 M0) {n : Int} (n0 : 0 ≤ n) (n1 : n < (M0 222 86)) : 1 ≤ M0 228 n := hS.2.2.2.2.2.2.1 ok.1 n n0 n1
/-- heads of a part: it is the whole X of an equation with so many letters -/
theorem g_S.whole (hS : g_S C0 M0) (q0 : 0 ≤ q) (q1 : q < (M0 222 26)) {m : Int} (hm : 1 ≤ m) : C0 527 q = m ↔ ∃ e, (0 ≤ e ∧ e < (M0 222 44)) ∧ M0 262 e = q ∧ M0 260 e = m := by
  have hB := hS.2.2.2.2.1
  constructor
  · intro z
    rcases hB.2.2.2.2.2.1.1 q q0 q1 with ⟨e, e0, e1, e2, e3⟩ | ⟨t, e0, e1, e2, e3⟩
    · have fx := (hB.2.1 e e0 e1).2.2.2.2.2.1
      by_cases w : q = M0 262 e
      · have := fx.2.1.2
        rw [← w] at this
        exact ⟨e, ⟨e0, e1⟩, w.symm, by omega⟩
      · have := (fx.2.2 q e2 e3).2.2.2.2 (by omega)
        omega
    · have fx := (hB.2.2.2.2.1 t e0 e1).2.2.2.2.2.2.2
      by_cases w : q = M0 277 t
      · have := fx.2.1.2
        rw [← w] at this
        omega
      · have := (fx.2.2 q e2 e3).2.2.2.2 (by omega)
        omega
  · rintro ⟨e, e0, e1, e2⟩
    have := (hB.2.1 e e0.1 e0.2).2.2.2.2.2.1.2.1.2
    rw [e1] at this
    omega
end After2
/-! TYPES of parts: v is what q gives, where its parts give f -/
def g_tv (C M : ax_V) (f : Int → Int) (q v : Int) : Prop :=
  ((M 241 q = 0 ∨ M 241 q = 4 ∨ (7 ≤ M 241 q ∧ M 241 q ≤ 11)) → v = 0) ∧ ((M 241 q = 1 ∨ M 241 q = 5 ∨ (12 ≤ M 241 q ∧ M 241 q ≤ 17)) → v = 1) ∧ ((M 241 q = 2 ∨ M 241 q = 3) → v = M 233 (26 * M 250 q + M 248 q)) ∧ (M 241 q = 18 → v = f (M 246 q)) ∧ (M 241 q = 22 → v = M 233 (26 * C 520 q + M 231 (26 * C 520 q))) ∧ ((M 241 q = 6 ∨ M 241 q = 19 ∨ M 241 q = 20 ∨ M 241 q = 21) → v = f (M 245 q))
/-- what its parts must give -/
def g_ml (M : ax_V) (f : Int → Int) (q : Int) : List (Int × Int) :=
  if M 241 q = 4 then [(M 245 q, 0)] else if M 241 q = 5 then [(M 245 q, 1)] else if (7 ≤ M 241 q ∧ M 241 q ≤ 11) ∨ M 241 q = 14 ∨ M 241 q = 15 then [(M 245 q, 0), (M 246 q, 0)] else if M 241 q = 12 ∨ M 241 q = 13 ∨ M 241 q = 19 ∨ M 241 q = 21 then [(M 246 q, f (M 245 q))] else if M 241 q = 16 ∨ M 241 q = 17 then [(M 245 q, 1), (M 246 q, 1)] else if M 241 q = 18 then [(M 245 q, 1), (M 247 q, f (M 246 q))] else []
/-- a call that doesn't fit -/
def g_b3c (C M : ax_V) (f : Int → Int) (q t : Int) : Prop := ∃ K : Nat, (e_arg M q K = -1 ∧ ∀ k : Nat, k < K → 0 ≤ e_arg M q k) ∧ ((¬ (K : Int) = M 227 (C 520 q) ∧ M 242 q ≤ t) ∨ ((K : Int) = M 227 (C 520 q) ∧ ∃ k : Nat, k < K ∧ ¬ f (e_arg M q k) = M 233 (26 * C 520 q + M 230 (26 * C 520 q + (k : Int))) ∧ M 242 (e_arg M q k) ≤ t) ∨ (¬ M 228 (C 520 q) = 1 ∧ ¬ C 527 q = M 228 (C 520 q) ∧ M 242 q ≤ t))
def g_b3 (C M : ax_V) (f : Int → Int) (q t : Int) : Prop := (∃ x, x ∈ g_ml M f q ∧ ¬ f x.1 = x.2 ∧ M 242 x.1 ≤ t) ∨ (M 241 q = 22 ∧ g_b3c C M f q t)
def g_b3e (C M : ax_V) (f : Int → Int) (e t : Int) : Prop := (M 260 e = 1 ∧ ¬ f (M 262 e) = M 233 (26 * M 258 e + M 265 (M 259 e)) ∧ M 242 (M 262 e) ≤ t) ∨ (¬ M 260 e = 1 ∧ ¬ (M 241 (M 262 e) = 22 ∧ M 228 (C 520 (M 262 e)) = M 260 e ∧ ∀ i, 0 ≤ i → i < M 260 e → M 233 (26 * M 258 e + M 265 (M 259 e + i)) = M 233 (26 * C 520 (M 262 e) + M 231 (26 * C 520 (M 262 e) + i))) ∧ M 242 (M 262 e) ≤ t)
section Types
variable {C0 M0 : ax_V}
theorem g_tv.eq {f f' : Int → Int} {q v v' : Int} (hS : g_S C0 M0) (q0 : 0 ≤ q) (q1 : q < (M0 222 26)) (h : g_tv C0 M0 f q v) (h' : g_tv C0 M0 f' q v') (k : ∀ x, 0 ≤ x → x < q → f x = f' x) : v = v' := by
  obtain ⟨a1, a2, a3, a4, a5, a6⟩ := h
  obtain ⟨b1, b2, b3, b4, b5, b6⟩ := h'
  have o := (hS.op q0 q1).1
  have ar := hS.ar q0 q1
  by_cases w : M0 241 q = 22
  · rw [a5 w, b5 w]
  · have kd := hS.kid q0 q1 w
    by_cases w1 : M0 241 q = 0 ∨ M0 241 q = 4 ∨ (7 ≤ M0 241 q ∧ M0 241 q ≤ 11)
    · rw [a1 w1, b1 w1]
    · by_cases w2 : M0 241 q = 1 ∨ M0 241 q = 5 ∨ (12 ≤ M0 241 q ∧ M0 241 q ≤ 17)
      · rw [a2 w2, b2 w2]
      · by_cases w3 : M0 241 q = 2 ∨ M0 241 q = 3
        · rw [a3 w3, b3 w3]
        · by_cases w4 : M0 241 q = 18
          · rw [a4 w4, b4 w4]
            exact k _ (by rcases ar with z | z | z | z | z <;> omega) kd.2.2.1.2
          · have w5 : M0 241 q = 6 ∨ M0 241 q = 19 ∨ M0 241 q = 20 ∨ M0 241 q = 21 := by omega
            rw [a6 w5, b6 w5]
            exact k _ (by rcases ar with z | z | z | z | z <;> omega) kd.2.1.2
theorem g_tv.all {f f' : Int → Int} (hS : g_S C0 M0) : ∀ (m : Nat), (m : Int) ≤ (M0 222 26) → (∀ q, 0 ≤ q → q < (m : Int) → g_tv C0 M0 f q (f q)) → (∀ q, 0 ≤ q → q < (m : Int) → g_tv C0 M0 f' q (f' q)) → ∀ q, 0 ≤ q → q < (m : Int) → f q = f' q := by
  intro m
  induction m with
  | zero => intro _ _ _ q a b; omega
  | succ m ih =>
    intro hm h h' q a b
    by_cases w : q = (m : Int)
    · rw [w]
      exact (h _ (by omega) (by omega)).eq hS (by omega) (by omega) (h' _ (by omega) (by omega)) (fun x x0 x1 => ih (by omega) (fun y y0 y1 => h y y0 (by omega)) (fun y y0 y1 => h' y y0 (by omega)) x x0 x1)
    · exact ih (by omega) (fun y y0 y1 => h y y0 (by omega)) (fun y y0 y1 => h' y y0 (by omega)) q a (by omega)
/-- f may be changed at q: its parts lie ahead -/
theorem g_tv.up {f : Int → Int} {q v : Int} (hS : g_S C0 M0) (q0 : 0 ≤ q) (q1 : q < (M0 222 26)) (h : g_tv C0 M0 f q v) {f' : Int → Int} (k : ∀ x, 0 ≤ x → x < q → f' x = f x) : g_tv C0 M0 f' q v := by
  obtain ⟨a1, a2, a3, a4, a5, a6⟩ := h
  have ar := hS.ar q0 q1
  refine ⟨a1, a2, a3, fun w => ?_, a5, fun w => ?_⟩
  · have kd := hS.kid q0 q1 (by omega)
    rw [k _ (by rcases ar with z | z | z | z | z <;> omega) kd.2.2.1.2]; exact a4 w
  · have kd := hS.kid q0 q1 (by omega)
    rw [k _ (by rcases ar with z | z | z | z | z <;> omega) kd.2.1.2]; exact a6 w
/-- what it gives is 0 or 1 -/
theorem g_tv.b {f : Int → Int} {q v : Int} (hS : g_S C0 M0) (ok : g_N2 M0) (q0 : 0 ≤ q) (q1 : q < (M0 222 26)) (h : g_tv C0 M0 f q v) (k : ∀ x, 0 ≤ x → x < q → f x = 0 ∨ f x = 1) : v = 0 ∨ v = 1 := by
  obtain ⟨a1, a2, a3, a4, a5, a6⟩ := h
  have o := (hS.op q0 q1).1
  have ar := hS.ar q0 q1
  have pn := (hS.pnode q0 q1).1
  by_cases w : M0 241 q = 22
  · rw [a5 w]
    have c := ok.call hS q0 q1 w
    have u := hS.outp (n := C0 520 q) (i := 0) c.1 (by omega) (by decide) (by have := ok.out hS (n := C0 520 q) c.1 (by omega); omega)
    rw [show 26 * C0 520 q + 0 = 26 * C0 520 q by omega] at u
    exact u.2.2.2.1
  · have kd := hS.kid q0 q1 w
    by_cases w1 : M0 241 q = 0 ∨ M0 241 q = 4 ∨ (7 ≤ M0 241 q ∧ M0 241 q ≤ 11)
    · exact Or.inl (a1 w1)
    · by_cases w2 : M0 241 q = 1 ∨ M0 241 q = 5 ∨ (12 ≤ M0 241 q ∧ M0 241 q ≤ 17)
      · exact Or.inr (a2 w2)
      · by_cases w3 : M0 241 q = 2 ∨ M0 241 q = 3
        · rw [a3 w3]
          have t3 := (hS.p q0 q1).2.2.2.2.2.2.1.2.2.1 (by omega)
          exact (hS.sort pn.1 pn.2 t3.1.1 t3.1.2 (ok.told hS q0 q1 w3)).2
        · by_cases w4 : M0 241 q = 18
          · rw [a4 w4]
            exact k _ (by rcases ar with z | z | z | z | z <;> omega) kd.2.2.1.2
          · rw [a6 (by omega)]
            exact k _ (by rcases ar with z | z | z | z | z <;> omega) kd.2.1.2
end Types
