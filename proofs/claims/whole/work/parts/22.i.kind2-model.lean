/-! THE MODEL, FAULTS 2: what its small methods give -/
section Kind2M
variable {d : Nat} {M0 C0 M : ax_V} {Φ : Int → ax_V → Prop} {Ψ Θ : ax_V → Prop}
/-- the equation's tables are as they were -/
def g_mE (M0 M : ax_V) : Prop := (∀ c, (258 ≤ c ∧ c ≤ 266) → M c = M0 c) ∧ M 222 44 = M0 222 44
theorem s_hasLeft {e l : Int} (hS : g_S C0 M0) (hg : ax_g M) (hm : g_mE M0 M) (he : 0 ≤ e ∧ e < (M0 222 44)) (rl : ax_rg l) (h : Φ (@ax_b (∃ i, g_of M0 e i ∧ M0 265 i = l) (Classical.propDecidable _)) M) : ax_I ay_lay (d + 1) q_Model_hasLeft [.ref 222, ax_i e, ax_i l] M Φ Θ := by
  have fe := (hS.2.2.2.2.1.2.1 e he.1 he.2).2.2.1
  have hat := hS.2.2.2.2.2.2.2
  have hc1 := hS.2.2.2.2.1.1.1
  have hc2 := hS.2.2.2.2.1.1.2.1
  have m259 : M 259 = M0 259 := hm.1 259 (by decide)
  have m260 : M 260 = M0 260 := hm.1 260 (by decide)
  have m265 : M 265 = M0 265 := hm.1 265 (by decide)
  have b : 0 ≤ e ∧ e < 351 := ⟨he.1, by omega⟩
  have re : ax_rg e := ⟨by omega, by omega⟩
  refine r_Model_hasLeft hg re rl ⟨b, ?_⟩
  rw [m259]
  refine ax_for (I := fun i V => V = M ∧ (M0 259 e ≤ i ∧ i ≤ M0 259 e + M0 260 e) ∧ ∀ k, M0 259 e ≤ k → k < i → ¬ M0 265 k = l) (K := fun i V => k_Model_hasLeft_7 d e l i V Φ Θ) (hi := M0 259 e + M0 260 e) (fun i V w hI next => ?_) (fun i V w hI => ?_) _ M ⟨rfl, ⟨Int.le_refl _, by omega⟩, fun k a b => by omega⟩
  · obtain ⟨eV, hi, hk⟩ := hI
    subst eV
    refine r_Model_hasLeft_7 hg re rl ⟨by omega, by omega⟩ ⟨b, b, ?_⟩
    rw [m259, m260, m265]
    refine ⟨⟨by omega, by omega⟩, fun q => by omega, fun _ => ⟨⟨by omega, by omega⟩, fun q => ?_, fun q => next V ⟨rfl, ⟨by omega, by omega⟩, fun k a z => ?_⟩⟩⟩
    · rw [show @ax_b (∃ i, g_of M0 e i ∧ M0 265 i = l) (Classical.propDecidable _) = 1 from if_pos ⟨i, ⟨he, hi.1, w⟩, q⟩] at h
      exact h
    · by_cases y : k = i
      · rw [y]; exact q
      · exact hk k a (by omega)
  · obtain ⟨eV, hi, hk⟩ := hI
    subst eV
    refine r_Model_hasLeft_7 hg re rl ⟨by omega, by omega⟩ ⟨b, b, ?_⟩
    rw [m259, m260, m265]
    refine ⟨⟨by omega, by omega⟩, fun _ => ?_, fun q => by omega⟩
    rw [show @ax_b (∃ i, g_of M0 e i ∧ M0 265 i = l) (Classical.propDecidable _) = 0 from if_neg (fun ⟨k, k0, k1⟩ => hk k k0.2.1 (by have := k0.2.2; omega) k1)] at h
    exact h
theorem s_isLeft {n l : Int} (hS : g_S C0 M0) (hg : ax_g M) (hm : g_mE M0 M) (rn : ax_rg n) (rl : ax_rg l) (h : Φ (@ax_b (∃ e i, g_of M0 e i ∧ M0 258 e = n ∧ M0 265 i = l) (Classical.propDecidable _)) M) : ax_I ay_lay (d + 2) q_Model_isLeft [.ref 222, ax_i n, ax_i l] M Φ Θ := by
  have hat := hS.2.2.2.2.2.2.2
  have hc1 := hS.2.2.2.2.1.1.1
  have m258 : M 258 = M0 258 := hm.1 258 (by decide)
  refine r_Model_isLeft hg rn rl ?_
  refine ax_for (I := fun e V => V = M ∧ (0 ≤ e ∧ e ≤ (M0 222 44)) ∧ ∀ k i, k < e → g_of M0 k i → ¬ (M0 258 k = n ∧ M0 265 i = l)) (K := fun e V => k_Model_isLeft_2 (d + 1) n l e V Φ Θ) (hi := (M0 222 44)) (fun e V w hI next => ?_) (fun e V w hI => ?_) 0 M ⟨rfl, ⟨Int.le_refl _, by omega⟩, fun k i a b => by have := b.1.1; omega⟩
  · obtain ⟨eV, he, hk⟩ := hI
    subst eV
    refine r_Model_isLeft_2 hg rn rl ⟨by omega, by omega⟩ ?_
    rw [hm.2, m258]
    refine ⟨fun q => by omega, fun _ => ⟨⟨by omega, by omega⟩, fun q => s_hasLeft hS hg hm ⟨he.1, w⟩ rl ?_, fun q => next V ⟨rfl, ⟨by omega, by omega⟩, fun k i a z => ?_⟩⟩⟩
    · by_cases z : ∃ i, g_of M0 e i ∧ M0 265 i = l
      · rw [show @ax_b (∃ i, g_of M0 e i ∧ M0 265 i = l) (Classical.propDecidable _) = 1 from if_pos z]
        refine ⟨fun k => absurd k (by decide), fun _ => ?_⟩
        obtain ⟨i, i0, i1⟩ := z
        rw [show @ax_b (∃ e i, g_of M0 e i ∧ M0 258 e = n ∧ M0 265 i = l) (Classical.propDecidable _) = 1 from if_pos ⟨e, i, i0, q, i1⟩] at h
        exact h
      · rw [show @ax_b (∃ i, g_of M0 e i ∧ M0 265 i = l) (Classical.propDecidable _) = 0 from if_neg z]
        refine ⟨fun _ => next V ⟨rfl, ⟨by omega, by omega⟩, fun k i a y => ?_⟩, fun k => absurd rfl k⟩
        by_cases x : k = e
        · rw [x] at y ⊢; exact fun u => z ⟨i, y, u.2⟩
        · exact hk k i (by omega) y
    · by_cases x : k = e
      · rw [x]; exact fun u => q u.1
      · exact hk k i (by omega) z
  · obtain ⟨eV, he, hk⟩ := hI
    subst eV
    refine r_Model_isLeft_2 hg rn rl ⟨by omega, by omega⟩ ?_
    rw [hm.2]
    refine ⟨fun _ => ?_, fun q => by omega⟩
    rw [show @ax_b (∃ e i, g_of M0 e i ∧ M0 258 e = n ∧ M0 265 i = l) (Classical.propDecidable _) = 0 from if_neg (fun ⟨k, i, k0, k1, k2⟩ => hk k i (by have := k0.1.2; omega) k0 ⟨k1, k2⟩)] at h
    exact h
theorem s_isIn {a s l : Int} (hS : g_S C0 M0) (hg : ax_g M) (hm : g_mE M0 M) (ra : ax_rg a) (rs : ax_rg s) (rl : ax_rg l) (h : Φ (@ax_b (g_in M0 a s l) (Classical.propDecidable _)) M) : ax_I ay_lay (d + 2) q_Model_isIn [.ref 222, ax_i a, ax_i s, ax_i l] M Φ Θ := by
  have hat := hS.2.2.2.2.2.2.2
  have hc1 := hS.2.2.2.2.1.1.1
  have m263 : M 263 = M0 263 := hm.1 263 (by decide)
  have m264 : M 264 = M0 264 := hm.1 264 (by decide)
  refine r_Model_isIn hg ra rs rl ?_
  refine ax_for (I := fun e V => V = M ∧ (0 ≤ e ∧ e ≤ (M0 222 44)) ∧ ∀ k i, k < e → g_of M0 k i → ¬ (M0 263 k = a ∧ M0 264 k = s ∧ M0 265 i = l)) (K := fun e V => k_Model_isIn_3 (d + 1) a s l e V Φ Θ) (hi := (M0 222 44)) (fun e V w hI next => ?_) (fun e V w hI => ?_) 0 M ⟨rfl, ⟨Int.le_refl _, by omega⟩, fun k i a b => by have := b.1.1; omega⟩
  · obtain ⟨eV, he, hk⟩ := hI
    subst eV
    have nx : (∀ i, g_of M0 e i → ¬ (M0 263 e = a ∧ M0 264 e = s ∧ M0 265 i = l)) → k_Model_isIn_3 (d + 1) a s l (e + 1) V Φ Θ := fun z => next V ⟨rfl, ⟨by omega, by omega⟩, fun k i x y => by
      by_cases u : k = e
      · rw [u] at y ⊢; exact z i y
      · exact hk k i (by omega) y⟩
    refine r_Model_isIn_3 hg ra rs rl ⟨by omega, by omega⟩ ?_
    rw [hm.2, m263, m264]
    refine ⟨fun q => by omega, fun _ => ⟨⟨by omega, by omega⟩, fun q => ⟨⟨by omega, by omega⟩, fun q2 => s_hasLeft hS hg hm ⟨he.1, w⟩ rl ?_, fun q2 => nx (fun i _ u => q2 u.2.1)⟩, fun q => nx (fun i _ u => q u.1)⟩⟩
    by_cases z : ∃ i, g_of M0 e i ∧ M0 265 i = l
    · rw [show @ax_b (∃ i, g_of M0 e i ∧ M0 265 i = l) (Classical.propDecidable _) = 1 from if_pos z]
      refine ⟨fun k => absurd k (by decide), fun _ => ?_⟩
      obtain ⟨i, i0, i1⟩ := z
      rw [show @ax_b (g_in M0 a s l) (Classical.propDecidable _) = 1 from if_pos ⟨e, i, i0, q, q2, i1⟩] at h
      exact h
    · rw [show @ax_b (∃ i, g_of M0 e i ∧ M0 265 i = l) (Classical.propDecidable _) = 0 from if_neg z]
      exact ⟨fun _ => nx (fun i y u => z ⟨i, y, u.2.2⟩), fun k => absurd rfl k⟩
  · obtain ⟨eV, he, hk⟩ := hI
    subst eV
    refine r_Model_isIn_3 hg ra rs rl ⟨by omega, by omega⟩ ?_
    rw [hm.2]
    refine ⟨fun _ => ?_, fun q => by omega⟩
    rw [show @ax_b (g_in M0 a s l) (Classical.propDecidable _) = 0 from if_neg (fun ⟨k, i, k0, k1⟩ => hk k i (by have := k0.1.2; omega) k0 k1)] at h
    exact h
theorem s_ownerOf {i : Int} (hS : g_S C0 M0) (hg : ax_g M) (hm : g_mE M0 M) (i0 : 0 ≤ i) (i1 : i < (M0 222 52)) (h : Φ (g_eo M0 i) M) : ax_I ay_lay (d + 1) q_Model_ownerOf [.ref 222, ax_i i] M Φ Θ := by
  have hat := hS.2.2.2.2.2.2.2
  have hc1 := hS.2.2.2.2.1.1.1
  have hc2 := hS.2.2.2.2.1.1.2.1
  have m259 : M 259 = M0 259 := hm.1 259 (by decide)
  have m260 : M 260 = M0 260 := hm.1 260 (by decide)
  have ho := hS.eo i0 i1
  have ri : ax_rg i := ⟨by omega, by omega⟩
  refine r_Model_ownerOf hg ri ?_
  refine ax_for (I := fun e V => V = M ∧ (0 ≤ e ∧ e ≤ g_eo M0 i)) (K := fun e V => k_Model_ownerOf_2 d i e V Φ Θ) (hi := g_eo M0 i) (fun e V w hI next => ?_) (fun e V w hI => ?_) 0 M ⟨rfl, Int.le_refl _, ho.1.1⟩
  · obtain ⟨eV, he⟩ := hI
    subst eV
    have le := ho.1.2
    have fe := (hS.2.2.2.2.1.2.1 e he.1 (by omega)).2.2.1
    have lt := hS.lt he.1 w le
    have l2 := ho.2.1
    refine r_Model_ownerOf_2 hg ri ⟨by omega, by omega⟩ ?_
    rw [hm.2, m259, m260]
    exact ⟨fun q => by omega, fun _ => ⟨⟨by omega, by omega⟩, fun q => next V ⟨rfl, by omega, by omega⟩, fun q => ⟨⟨by omega, by omega⟩, ⟨by omega, by omega⟩, ⟨by omega, by omega⟩, fun q2 => next V ⟨rfl, by omega, by omega⟩, fun q2 => by omega⟩⟩⟩
  · obtain ⟨eV, he⟩ := hI
    subst eV
    have ee : e = g_eo M0 i := by omega
    have le := ho.1.2
    have fe := (hS.2.2.2.2.1.2.1 e he.1 (by omega)).2.2.1
    rw [← ee] at ho h
    have l2 := ho.2
    refine r_Model_ownerOf_2 hg ri ⟨by omega, by omega⟩ ?_
    rw [hm.2, m259, m260]
    exact ⟨fun q => by omega, fun _ => ⟨⟨by omega, by omega⟩, fun q => by omega, fun q => ⟨⟨by omega, by omega⟩, ⟨by omega, by omega⟩, ⟨by omega, by omega⟩, fun q2 => by omega, fun q2 => h⟩⟩⟩
/-- it clashes with one ahead of it, as the model sees it -/
def g_c2 (M : ax_V) (i : Int) : Prop := ∃ j, (0 ≤ j ∧ j < i) ∧ M 265 j = M 265 i ∧ M 258 (g_eo M j) = M 258 (g_eo M i) ∧ (M 263 (g_eo M j) = -1 ∨ ¬ M 263 (g_eo M j) = M 263 (g_eo M i) ∨ M 264 (g_eo M j) = M 264 (g_eo M i))
theorem s_isSecond {i : Int} (hS : g_S C0 M0) (hg : ax_g M) (hm : g_mE M0 M) (i0 : 0 ≤ i) (i1 : i < (M0 222 52)) (h : Φ (@ax_b (g_c2 M0 i) (Classical.propDecidable _)) M) : ax_I ay_lay (d + 2) q_Model_isSecond [.ref 222, ax_i (g_eo M0 i), ax_i i] M Φ Θ := by
  have hat := hS.2.2.2.2.2.2.2
  have hc1 := hS.2.2.2.2.1.1.1
  have hc2 := hS.2.2.2.2.1.1.2.1
  have m258 : M 258 = M0 258 := hm.1 258 (by decide)
  have m263 : M 263 = M0 263 := hm.1 263 (by decide)
  have m264 : M 264 = M0 264 := hm.1 264 (by decide)
  have m265 : M 265 = M0 265 := hm.1 265 (by decide)
  have ho := hS.eo i0 i1
  have ho1 := ho.1
  obtain ⟨e, ee⟩ : ∃ e : Int, e = g_eo M0 i := ⟨_, rfl⟩
  rw [← ee] at ho1 ⊢
  have re : ax_rg e := ⟨by omega, by omega⟩
  have ri : ax_rg i := ⟨by omega, by omega⟩
  refine r_Model_isSecond hg re ri ?_
  have yes : g_c2 M0 i → Φ 1 M := fun z => by rw [show @ax_b (g_c2 M0 i) (Classical.propDecidable _) = 1 from if_pos z] at h; exact h
  refine ax_for (I := fun j V => V = M ∧ (0 ≤ j ∧ j ≤ i) ∧ ∀ k, 0 ≤ k → k < j → ¬ (M0 265 k = M0 265 i ∧ M0 258 (g_eo M0 k) = M0 258 e ∧ (M0 263 (g_eo M0 k) = -1 ∨ ¬ M0 263 (g_eo M0 k) = M0 263 e ∨ M0 264 (g_eo M0 k) = M0 264 e))) (K := fun j V => ∀ y, ax_y y → k_Model_isSecond_2 (d + 1) e i j y V Φ Θ) (hi := i) (fun j V w hI next y hy => ?_) (fun j V w hI y hy => ?_) 0 M ⟨rfl, ⟨Int.le_refl _, i0⟩, fun k a b => by omega⟩ none ax_y_n
  · obtain ⟨eV, hj, hk⟩ := hI
    subst eV
    have hoj := (hS.eo hj.1 (by omega : j < (M0 222 52))).1
    have nx : ¬ (M0 265 j = M0 265 i ∧ M0 258 (g_eo M0 j) = M0 258 e ∧ (M0 263 (g_eo M0 j) = -1 ∨ ¬ M0 263 (g_eo M0 j) = M0 263 e ∨ M0 264 (g_eo M0 j) = M0 264 e)) → ∀ y, ax_y y → k_Model_isSecond_2 (d + 1) e i (j + 1) y V Φ Θ := fun z => next V ⟨rfl, ⟨by omega, by omega⟩, fun k x u => by
      by_cases v : k = j
      · rw [v]; exact z
      · exact hk k x (by omega)⟩
    have ys : (M0 265 j = M0 265 i ∧ M0 258 (g_eo M0 j) = M0 258 e ∧ (M0 263 (g_eo M0 j) = -1 ∨ ¬ M0 263 (g_eo M0 j) = M0 263 e ∨ M0 264 (g_eo M0 j) = M0 264 e)) → Φ 1 V := fun z => yes ⟨j, ⟨hj.1, w⟩, by rw [← ee]; exact z⟩
    refine r_Model_isSecond_2 hg re ri ⟨by omega, by omega⟩ hy ?_
    rw [m265]
    refine ⟨fun q => by omega, fun _ => ⟨⟨by omega, by omega⟩, ⟨by omega, by omega⟩, fun q => s_ownerOf hS hg hm hj.1 (by omega) ?_, fun q => nx (fun z => q z.1) y hy⟩⟩
    rw [m258, m263, m264]
    have b1 : 0 ≤ g_eo M0 j ∧ g_eo M0 j < 351 := ⟨by omega, by omega⟩
    have b2 : 0 ≤ e ∧ e < 351 := ⟨by omega, by omega⟩
    exact ⟨b1, b2, fun q2 => ⟨b1, fun q3 => ys ⟨q, q2, Or.inl q3⟩, fun q3 => ⟨b1, b2, fun q4 => ⟨b1, b2, fun q5 => ys ⟨q, q2, Or.inr (Or.inr q5)⟩, fun q5 => nx (fun z => by rcases z.2.2 with u | u | u; exact q3 u; exact u q4; exact q5 u) _ (ax_y_i _)⟩, fun q4 => ys ⟨q, q2, Or.inr (Or.inl q4)⟩⟩⟩, fun q2 => nx (fun z => q2 z.2.1) _ (ax_y_i _)⟩
  · obtain ⟨eV, hj, hk⟩ := hI
    subst eV
    have ej : j = i := by omega
    refine r_Model_isSecond_2 hg re ri ⟨by omega, by omega⟩ hy ⟨fun _ => ?_, fun q => by omega⟩
    rw [show @ax_b (g_c2 M0 i) (Classical.propDecidable _) = 0 from if_neg (fun ⟨k, k0, k1⟩ => hk k k0.1 (by omega) (by rw [ee]; exact k1))] at h
    exact h
end Kind2M
