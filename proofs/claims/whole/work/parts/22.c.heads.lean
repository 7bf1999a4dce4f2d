/-! THE LETTERS OF EQUATIONS: each belongs to one equation -/
section HeadsOf
variable {C M : ax_V}
/-- one equation behind the other -/
theorem g_S.hd (h : g_S C M) {e : Int} (e0 : 0 ≤ e) (e1 : e + 1 < (M 222 44)) : M 259 (e + 1) = M 259 e + M 260 e := by
  have u1 := (h.2.2.2.2.1.2.1 e e0 (by omega)).2.1
  have u2 := (h.2.2.2.2.1.2.1 (e + 1) (by omega) e1).2.1
  omega
theorem g_S.mono (h : g_S C M) : ∀ (k : Nat) (e : Int), 0 ≤ e → e + (k : Int) + 1 < (M 222 44) → M 259 e + M 260 e ≤ M 259 (e + (k : Int) + 1) := by
  intro k
  induction k with
  | zero => intro e e0 e1; rw [show e + ((0 : Nat) : Int) + 1 = e + 1 by omega, h.hd e0 (by omega)]; exact Int.le_refl _
  | succ k ih =>
    intro e e0 e1
    have u := ih e e0 (by omega)
    have v := h.hd (e := e + (k : Int) + 1) (by omega) (by omega)
    have w := (h.2.2.2.2.1.2.1 (e + (k : Int) + 1) (by omega) (by omega)).2.2.1
    rw [show e + ((k + 1 : Nat) : Int) + 1 = e + (k : Int) + 1 + 1 by omega]
    omega
theorem g_S.lt (h : g_S C M) {e e' : Int} (e0 : 0 ≤ e) (e1 : e < e') (e2 : e' < (M 222 44)) : M 259 e + M 260 e ≤ M 259 e' := by
  have := h.mono (e' - e - 1).toNat e e0 (by omega)
  rw [show e + (((e' - e - 1).toNat : Nat) : Int) + 1 = e' by omega] at this
  exact this
def g_of (M : ax_V) (e i : Int) : Prop := (0 ≤ e ∧ e < (M 222 44)) ∧ M 259 e ≤ i ∧ i < M 259 e + M 260 e
theorem g_S.of1 (h : g_S C M) {e e' i : Int} (a : g_of M e i) (b : g_of M e' i) : e = e' := by
  obtain ⟨a1, a2, a3⟩ := a
  obtain ⟨b1, b2, b3⟩ := b
  rcases Int.lt_trichotomy e e' with w | w | w
  · have := h.lt a1.1 w b1.2; omega
  · exact w
  · have := h.lt b1.1 w a1.2; omega
theorem g_S.cov (h : g_S C M) : ∀ (k : Nat), (k : Int) < (M 222 44) → ∀ i, 0 ≤ i → i < M 259 (k : Int) + M 260 (k : Int) → ∃ e, g_of M e i := by
  intro k
  induction k with
  | zero =>
    intro hk i i0 i1
    have z := h.2.2.2.2.1.2.2.2.2.2.1.2.2.2.2.2.2.1 (by omega)
    rw [show ((0 : Nat) : Int) = 0 from rfl] at i1
    exact ⟨0, ⟨by omega, by omega⟩, by omega, i1⟩
  | succ k ih =>
    intro hk i i0 i1
    by_cases w : i < M 259 (k : Int) + M 260 (k : Int)
    · exact ih (by omega) i i0 w
    · have v := h.hd (e := (k : Int)) (by omega) (by omega)
      rw [show ((k + 1 : Nat) : Int) = (k : Int) + 1 by omega] at i1 hk
      exact ⟨(k : Int) + 1, ⟨by omega, hk⟩, by omega, i1⟩
theorem g_S.last (h : g_S C M) (he : 0 < (M 222 44)) : M 259 ((M 222 44) - 1) + M 260 ((M 222 44) - 1) = (M 222 52) := by
  have u := (h.2.2.2.2.1.2.1 ((M 222 44) - 1) (by omega) (by omega)).2.1
  have v := h.2.2.2.2.1.1.2.2.2.2.2.1
  rw [show (M 222 44) - 1 + 1 = (M 222 44) by omega] at u
  rcases v with v | v
  · omega
  · omega
theorem g_S.ex (h : g_S C M) {i : Int} (i0 : 0 ≤ i) (i1 : i < (M 222 52)) : ∃ e, g_of M e i := by
  have he : 0 < (M 222 44) := by
    rcases Int.lt_or_le 0 (M 222 44) with w | w
    · exact w
    · have e0 := h.2.2.2.2.1.1.1.2.1
      have := h.2.2.2.2.1.2.2.2.2.2.1.2.2.2.2.2.2.2 (by omega)
      omega
  have := h.cov ((M 222 44) - 1).toNat (by omega) i i0
  rw [show ((((M 222 44) - 1).toNat : Nat) : Int) = (M 222 44) - 1 by omega, h.last he] at this
  exact this i1
/-- the equation of a letter -/
noncomputable def g_eo (M : ax_V) (i : Int) : Int := (Classical.epsilon (fun e : Int => g_of M e i) : Int)
theorem g_S.eo (h : g_S C M) {i : Int} (i0 : 0 ≤ i) (i1 : i < (M 222 52)) : g_of M (g_eo M i) i := Classical.epsilon_spec (h.ex i0 i1)
theorem g_S.eoe (h : g_S C M) {e i : Int} (a : g_of M e i) : g_eo M i = e := h.of1 (Classical.epsilon_spec (p := fun e : Int => g_of M e i) ⟨e, a⟩) a
theorem g_S.ofl (h : g_S C M) {e i : Int} (a : g_of M e i) : 0 ≤ i ∧ i < (M 222 52) := by
  have u := (h.2.2.2.2.1.2.1 e a.1.1 a.1.2).2.2.1
  exact ⟨by have := a.2.1; omega, by have := a.2.2; omega⟩
theorem g_S.eoM (h : g_S C M) {i j : Int} (i0 : 0 ≤ i) (ij : i ≤ j) (j1 : j < (M 222 52)) : g_eo M i ≤ g_eo M j := by
  have a := h.eo i0 (by omega : i < (M 222 52))
  have b := h.eo (by omega : 0 ≤ j) j1
  rcases Int.lt_or_le (g_eo M j) (g_eo M i) with w | w
  · have := h.lt b.1.1 w a.1.2
    have := a.2.1; have := b.2.2; omega
  · exact w
/-- what the class has of a letter of an equation -/
theorem g_S.h (h : g_S C M) {i : Int} (i0 : 0 ≤ i) (i1 : i < (M 222 52)) : f_h C M (M 258 (g_eo M i)) i := by
  have a := h.eo i0 i1
  exact (h.2.2.2.2.1.2.1 _ a.1.1 a.1.2).2.2.2.2.2.2 i a.2.1 a.2.2
theorem g_S.node (h : g_S C M) {e : Int} (e0 : 0 ≤ e) (e1 : e < (M 222 44)) : 0 ≤ M 258 e ∧ M 258 e < (M 222 86) ∧ C 509 (M 258 e) ≤ e ∧ e < C 509 (M 258 e + 1) := by
  have a := (h.2.2.2.2.1.2.1 e e0 e1).1
  have b := h.2.2.2.2.1.2.2.2.2.2.2.2.1 e e0 e1
  have hn := h.2.1
  have hf := h.2.2.2.2.2.1
  have w : M 258 e < (M 222 10) := by
    rcases Int.lt_or_le (M 258 e) (M 222 10) with w | w
    · exact w
    · have e' : M 258 e = (M 222 86) := by omega
      rw [e'] at b
      have := b.1; omega
  exact ⟨a.1, by omega, b.1, b.2 w⟩
theorem g_S.slot (h : g_S C M) {i : Int} (i0 : 0 ≤ i) (i1 : i < (M 222 52)) : C 554 i = 26 * M 258 (g_eo M i) + M 265 i ∧ (0 ≤ M 265 i ∧ M 265 i < 26) ∧ (0 ≤ M 258 (g_eo M i) ∧ M 258 (g_eo M i) < (M 222 86)) ∧ (0 ≤ C 554 i ∧ C 554 i < 208) := by
  have a := h.eo i0 i1
  have b := h.h i0 i1
  have c := h.node a.1.1 a.1.2
  have hn := h.2.1
  refine ⟨b.1, b.2.1, ⟨c.1, c.2.1⟩, ?_⟩
  rw [b.1]
  have := b.2.1
  omega
/-- the state of an equation, and its automaton -/
theorem g_S.st (h : g_S C M) {e : Int} (e0 : 0 ≤ e) (e1 : e < (M 222 44)) : (C 551 e = -1 ∧ M 263 e = -1 ∧ M 264 e = -1) ∨ ((0 ≤ C 551 e ∧ C 551 e < 350 ∧ C 551 e < (C 556 1)) ∧ (0 ≤ M 263 e ∧ M 263 e < (M 222 55)) ∧ C 563 (C 551 e) = M 263 e ∧ 0 ≤ M 264 e ∧ C 551 e = C 558 (M 263 e) + M 264 e ∧ C 551 e < C 558 (M 263 e + 1) ∧ M 267 (M 263 e) = M 258 e) := by
  have hB := h.2.2.2.2.1
  have hc := hB.1
  rcases (hB.2.1 e e0 e1).2.2.2.2.1 with z | ⟨z1, z2, z3, z4, z5, z6, z7⟩
  · exact Or.inl z
  · have hA : M 263 e < (M 222 55) := by have := hc.2.2.1.1; omega
    have a := hB.2.2.1 _ z1 hA
    have a3 := a.2.2.1
    have s2 := hc.2.2.2.1
    have hat := h.2.2.2.2.2.2.2.2
    exact Or.inr ⟨⟨by omega, by omega, by omega⟩, ⟨z1, hA⟩, (a.2.2.2.2.2 _ (by omega) z5).1, z3, z4, z5, z7⟩
end HeadsOf
