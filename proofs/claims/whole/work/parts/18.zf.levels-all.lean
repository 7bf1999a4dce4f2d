/-! EVERY LEVEL -/
section AllLevels
variable {B r k : Nat} {C M : ax_V}
/-- the class's and the model's way from readK to what the character asks for -/
theorem e_K.lift {q1 q3 : Nat} {v1 v3 : List Value} {d1 d3 : Nat} (h : e_out e_dig B r d1 q1 v1 d3 q3 v3 C M) (hc : ∀ (Φ : Int → ax_V → Prop) (Θ : ax_V → Prop), ax_I (az_W B (az_ER B r)) d1 q1 v1 C (fun x V => Φ x V) Θ → ax_I (az_W B (az_ER B r)) (20 * k + 10) q_Reader_readK [.ref r] C Φ Θ) (hm : ∀ x M', (x = 0 ∨ x = 1) → ax_Ie ay_lay d3 q3 v3 M x M' → ax_Ie ay_lay (20 * k + 12) q_Model_readK [.ref 222] M x M') : e_out e_dig B r (20 * k + 10) q_Reader_readK [.ref r] (20 * k + 12) q_Model_readK [.ref 222] C M :=
  h.lift (fun p C' a => hc _ _ a) (fun C' a => ax_Xe.ofI (hc _ _ (a.kI (Nat.le_refl _) (fun _ => rfl)))) hm
set_option maxHeartbeats 2000000 in
theorem e_K.all (ihK : ∀ k' : Nat, k = k' + 1 → e_K B r k') (ihX : ∀ k' : Nat, k = k' + 1 → e_X B r k') : e_K B r k := by
  intro C M h hk
  have hs := h.see
  have ci := h.ci
  have mi := h.mi
  obtain ⟨hgC, hgM⟩ := id h.1
  have a1 := h.2.2.1.1
  have ad := h.2.2.1.2.2.1
  have at4 := h.2.2.1.2.2.2.1
  have hsz := h.2.1.2.2.1
  have eno : e_no C M C M := ⟨h.1, a1.1, e_fC.rf _ _, e_fM.rf _ _⟩
  -- readK goes on
  have cS : ∀ (Φ : Int → ax_V → Prop) (Θ : ax_V → Prop), ¬ m_isL M → ¬ m_isD M → ¬ m_isN M → ((m_see M = 33 → ax_I (az_W B (az_ER B r)) (20 * k + 9) q_Reader_readBehind [.ref r, ax_i 5] C (fun x V => Φ x V) Θ) ∧ (m_see M = 40 → ax_I (az_W B (az_ER B r)) (20 * k + 9) q_Reader_readWithin [.ref r] C (fun x V => Φ x V) Θ) ∧ (m_see M = 45 → ax_I (az_W B (az_ER B r)) (20 * k + 9) q_Reader_readBehind [.ref r, ax_i 4] C (fun x V => Φ x V) Θ) ∧ (m_see M = 91 → ax_I (az_W B (az_ER B r)) (20 * k + 9) q_Reader_readMerge [.ref r] C (fun x V => Φ x V) Θ) ∧ (m_see M = 126 → ax_I (az_W B (az_ER B r)) (20 * k + 9) q_Reader_readBehind [.ref r, ax_i 6] C (fun x V => Φ x V) Θ)) → (m_see M = 33 ∨ m_see M = 40 ∨ m_see M = 45 ∨ m_see M = 91 ∨ m_see M = 126) → ax_I (az_W B (az_ER B r)) (20 * k + 10) q_Reader_readK [.ref r] C Φ Θ := by
    intro Φ Θ n1 n2 n3 hh hv
    refine r_Reader_readK hgC (t_look hgC ci (t_isLetter hgC (c_see_rg hgC) (ax_b_n (by rw [hs]; exact n1) (t_isDigit hgC (c_see_rg hgC) (ax_b_n (by rw [hs]; exact n2) (t_isName hgC (c_see_rg hgC) (ax_b_n (by rw [hs]; exact n3) ?_)))))))
    rw [hs]
    exact ⟨hh.1, fun z => by rcases hv with q | q | q | q | q <;> omega, hh.2.1, hh.2.2.1, hh.2.2.2.1, hh.2.2.2.2, fun q1 q2 q3 q4 q5 q6 => by rcases hv with q | q | q | q | q <;> omega⟩
  by_cases c1 : m_isL M
  · have := e_letter (B := B) (r := r) (dc := 20 * k + 6) (dm := 20 * k + 8) h c1
    exact this
  by_cases c2 : m_isD M
  · exact e_number (B := B) (r := r) (dc := 20 * k + 6) (dm := 20 * k + 7) h c2
  by_cases c3 : m_isN M
  · have c3' : 65 ≤ m_see M ∧ m_see M ≤ 72 := c3
    by_cases wT : (M 222 71) = 0
    · have wM : (C 600 10) = 0 := by rw [at4.1]; exact wT
      clear at4
      by_cases k0 : k = 0
      · have hlt := h.lt (by omega)
        have a2 := h.2.2.1.2.1
        obtain ⟨w, fd1, fd2, fd3, fd4⟩ := t_find (B := B) (d := 20 * k + 7) (E := az_ER B r) (C := C) (M := M) (n := (M 222 10)) (v := m_see M) hgC (m_see_rg hgM) ⟨by omega, by omega⟩ h.2.2.2.2.1
        have h0 : e_R (c_on C 1) (m_on M 1) := h.on (by omega) (by omega)
        obtain ⟨hgC0, hgM0⟩ := id h0.1
        have hs0 := h0.see
        have cd0 : (c_on C 1) 600 11 = (C 600 11) := by simp [c_on, ax_u]
        have md0 : (m_on M 1) 222 69 = (M 222 69) := by simp [m_on, ax_u]
        have ma0 := h0.2.2.1.1
        have mz0 : (m_on M 1) 222 68 = (M 222 68) + 1 := by simp [m_on, ax_u]
        refine Or.inr (Or.inl ⟨c_on C 1, m_on M 1, ax_Xe.ofI (r_Reader_readK hgC (t_look hgC ci (t_isLetter hgC (c_see_rg hgC) (ax_b_n (by rw [hs]; exact c1) (t_isDigit hgC (c_see_rg hgC) (ax_b_n (by rw [hs]; exact c2) (t_isName hgC (c_see_rg hgC) (ax_b_y (by rw [hs]; exact c3) (r_Reader_readCall hgC ⟨fun _ => r_Reader_readCall_16 hgC (hgC _ _) ax_y_n ax_y_n ax_y_n ax_y_n ax_y_n (t_look hgC ci ?_), fun z => absurd wM z⟩))))))))), r_Model_readK hgM (s_see hgM mi ⟨fun z => by omega, fun _ => ⟨fun z => by omega, fun _ => ⟨fun z => by omega, fun _ => ⟨fun z => by omega, fun _ => ⟨fun z => by omega, fun _ => s_isName hgM mi (ax_b_y c3 (r_Model_readCall hgM ⟨fun _ => s_see hgM mi ?_, fun z => absurd wT z⟩))⟩⟩⟩⟩⟩), h0.1, ma0.1, (e_mvC.on C 1).fr, (e_mvM.on M 1).fr⟩)
        · rw [hs, a2.1]
          refine fd4 _ _ ⟨⟨by omega, by omega⟩, fun V3 e3 => ?_⟩
          rw [show V3 = c_on C 1 from e3]
          exact t_look hgC0 h0.ci ⟨fun _ => t_deepen hgC0 (by omega) (fun z => by omega) (fun _ => rfl), fun _ => t_refuse hgC0 rfl⟩
        · refine ⟨⟨by omega, by omega⟩, fun V2 e2 => ?_⟩
          rw [show V2 = m_on M 1 from e2]
          exact s_see hgM0 h0.mi ⟨fun _ => s_open hgM0 ⟨by decide, by decide⟩ ⟨by omega, by omega⟩ ⟨by omega, by omega⟩ (fun z => by omega) (fun _ => ⟨fun _ => ⟨Or.inl rfl, rfl, rfl⟩, fun z => absurd rfl z⟩), fun _ => ⟨Or.inl rfl, rfl, rfl⟩⟩
      · obtain ⟨k', ek⟩ : ∃ k' : Nat, k = k' + 1 := ⟨k - 1, by omega⟩
        refine e_K.lift (e_call (ihX k' ek) h (by omega) c3 wT) (fun Φ Θ hh => r_Reader_readK hgC (t_look hgC ci (t_isLetter hgC (c_see_rg hgC) (ax_b_n (by rw [hs]; exact c1) (t_isDigit hgC (c_see_rg hgC) (ax_b_n (by rw [hs]; exact c2) (t_isName hgC (c_see_rg hgC) (ax_b_y (by rw [hs]; exact c3) (ax_I.mono hh (by omega) (fun _ _ _ _ q => q) (fun _ _ q => q)))))))))) (fun x M' hx hh => r_Model_readK hgM (s_see hgM mi ⟨fun z => by omega, fun _ => ⟨fun z => by omega, fun _ => ⟨fun z => by omega, fun _ => ⟨fun z => by omega, fun _ => ⟨fun z => by omega, fun _ => s_isName hgM mi (ax_b_y c3 (hh.k (by omega) (fun _ _ => ⟨hx, rfl, rfl⟩)))⟩⟩⟩⟩⟩))
    · have wM : ¬ (C 600 10) = 0 := by rw [at4.1]; exact wT
      clear at4
      exact Or.inr (Or.inl ⟨C, M, ax_Xe.ofI (r_Reader_readK hgC (t_look hgC ci (t_isLetter hgC (c_see_rg hgC) (ax_b_n (by rw [hs]; exact c1) (t_isDigit hgC (c_see_rg hgC) (ax_b_n (by rw [hs]; exact c2) (t_isName hgC (c_see_rg hgC) (ax_b_y (by rw [hs]; exact c3) (r_Reader_readCall hgC ⟨fun z => absurd z wM, fun _ => t_refuse hgC rfl⟩))))))))), r_Model_readK hgM (s_see hgM mi ⟨fun z => by omega, fun _ => ⟨fun z => by omega, fun _ => ⟨fun z => by omega, fun _ => ⟨fun z => by omega, fun _ => ⟨fun z => by omega, fun _ => s_isName hgM mi (ax_b_y c3 (r_Model_readCall hgM ⟨fun z => absurd z wT, fun _ => ⟨Or.inl rfl, rfl, rfl⟩⟩))⟩⟩⟩⟩⟩), eno⟩)
  by_cases c4 : m_see M = 84 ∨ m_see M = 85
  · exact e_word (B := B) (r := r) (dc := 20 * k + 6) (dm := 20 * k + 7) h c4
  by_cases c5 : m_see M = 39
  · exact e_last (B := B) (r := r) (dc := 20 * k + 6) (dm := 20 * k + 7) h c5
  by_cases c6 : m_see M = 33
  · have nA : ¬ m_isA M := fun z => by have := z.1; omega
    have nA' : ¬ c_isA C := fun z => nA (h.isA.mp z)
    by_cases k0 : k = 0
    · exact Or.inr (Or.inl ⟨C, M, ax_Xe.ofI (cS _ _ c1 c2 c3 ⟨fun _ => r_Reader_readBehind hgC (by decide) (t_atArrow hgC ci (ax_b_n nA' ⟨fun z => absurd z (by decide), fun _ => t_deepen hgC (by omega) (fun z => by omega) (fun _ => rfl)⟩)), fun z => by omega, fun z => by omega, fun z => by omega, fun z => by omega⟩ (Or.inl c6)), r_Model_readK hgM (s_see hgM mi ⟨fun z => by omega, fun _ => ⟨fun _ => r_Model_readPrefix hgM (by decide) (s_open hgM ⟨by decide, by decide⟩ ⟨by omega, by omega⟩ ⟨by omega, by omega⟩ (fun z => by omega) (fun _ => ⟨fun _ => ⟨Or.inl rfl, rfl, rfl⟩, fun z => absurd rfl z⟩)), fun z => absurd c6 z⟩⟩), eno⟩)
    · obtain ⟨k', ek⟩ : ∃ k' : Nat, k = k' + 1 := ⟨k - 1, by omega⟩
      refine e_K.lift (e_behind (oc := 5) (ihK k' ek) h (by omega) (Or.inr (Or.inl rfl)) nA (fun z => absurd z (by decide)) (by omega)) (fun Φ Θ hh => cS Φ Θ c1 c2 c3 ⟨fun _ => ax_I.mono hh (by omega) (fun _ _ _ _ q => q) (fun _ _ q => q), fun z => by omega, fun z => by omega, fun z => by omega, fun z => by omega⟩ (Or.inl c6)) (fun x M' hx hh => r_Model_readK hgM (s_see hgM mi ⟨fun z => by omega, fun _ => ⟨fun _ => hh.k (by omega) (fun _ _ => ⟨hx, rfl, rfl⟩), fun z => absurd c6 z⟩⟩))
  by_cases c7 : m_see M = 126
  · have nA : ¬ m_isA M := fun z => by have := z.1; omega
    have nA' : ¬ c_isA C := fun z => nA (h.isA.mp z)
    by_cases wT : (M 222 71) = 0
    · have wM : (C 600 10) = 0 := by rw [at4.1]; exact wT
      clear at4
      by_cases k0 : k = 0
      · exact Or.inr (Or.inl ⟨C, M, ax_Xe.ofI (cS _ _ c1 c2 c3 ⟨fun z => by omega, fun z => by omega, fun z => by omega, fun z => by omega, fun _ => r_Reader_readBehind hgC (by decide) (t_atArrow hgC ci (ax_b_n nA' ⟨fun _ => ⟨fun _ => t_deepen hgC (by omega) (fun z => by omega) (fun _ => rfl), fun z => absurd wM z⟩, fun z => absurd rfl z⟩))⟩ (Or.inr (Or.inr (Or.inr (Or.inr c7))))), r_Model_readK hgM (s_see hgM mi ⟨fun z => by omega, fun _ => ⟨fun z => by omega, fun _ => ⟨fun _ => ⟨fun _ => r_Model_readPrefix hgM (by decide) (s_open hgM ⟨by decide, by decide⟩ ⟨by omega, by omega⟩ ⟨by omega, by omega⟩ (fun z => by omega) (fun _ => ⟨fun _ => ⟨fun _ => ⟨rfl, rfl⟩, fun z => absurd rfl z⟩, fun z => absurd rfl z⟩)), fun z => absurd wT z⟩, fun z => absurd c7 z⟩⟩⟩), eno⟩)
      · obtain ⟨k', ek⟩ : ∃ k' : Nat, k = k' + 1 := ⟨k - 1, by omega⟩
        refine e_K.lift (e_behind (oc := 6) (ihK k' ek) h (by omega) (Or.inr (Or.inr rfl)) nA (fun _ => wT) (by omega)) (fun Φ Θ hh => cS Φ Θ c1 c2 c3 ⟨fun z => by omega, fun z => by omega, fun z => by omega, fun z => by omega, fun _ => ax_I.mono hh (by omega) (fun _ _ _ _ q => q) (fun _ _ q => q)⟩ (Or.inr (Or.inr (Or.inr (Or.inr c7))))) (fun x M' hx hh => r_Model_readK hgM (s_see hgM mi ⟨fun z => by omega, fun _ => ⟨fun z => by omega, fun _ => ⟨fun _ => ⟨fun _ => hh.k (by omega) (fun _ _ => (by rcases hx with q | q; (subst q; exact ⟨fun _ => ⟨rfl, rfl⟩, fun z => absurd rfl z⟩); (subst q; exact ⟨fun z => absurd z (by decide), fun _ => ⟨rfl, rfl⟩⟩))), fun z => absurd wT z⟩, fun z => absurd c7 z⟩⟩⟩))
    · have wM : ¬ (C 600 10) = 0 := by rw [at4.1]; exact wT
      clear at4
      exact Or.inr (Or.inl ⟨C, M, ax_Xe.ofI (cS _ _ c1 c2 c3 ⟨fun z => by omega, fun z => by omega, fun z => by omega, fun z => by omega, fun _ => r_Reader_readBehind hgC (by decide) (t_atArrow hgC ci (ax_b_n nA' ⟨fun _ => ⟨fun z => absurd z wM, fun _ => t_refuse hgC rfl⟩, fun z => absurd rfl z⟩))⟩ (Or.inr (Or.inr (Or.inr (Or.inr c7))))), r_Model_readK hgM (s_see hgM mi ⟨fun z => by omega, fun _ => ⟨fun z => by omega, fun _ => ⟨fun _ => ⟨fun z => absurd z wT, fun _ => ⟨rfl, rfl⟩⟩, fun z => absurd c7 z⟩⟩⟩), eno⟩)
  by_cases c8 : m_see M = 45
  · by_cases wA : m_isA M
    · have wA' : c_isA C := h.isA.mpr wA
      exact Or.inr (Or.inl ⟨C, M, ax_Xe.ofI (cS _ _ c1 c2 c3 ⟨fun z => by omega, fun z => by omega, fun _ => r_Reader_readBehind hgC (by decide) (t_atArrow hgC ci (ax_b_y wA' (t_refuse hgC rfl))), fun z => by omega, fun z => by omega⟩ (Or.inr (Or.inr (Or.inl c8)))), r_Model_readK hgM (s_see hgM mi ⟨fun _ => s_isArrow hgM mi (ax_b_y wA ⟨rfl, rfl⟩), fun z => absurd c8 z⟩), eno⟩)
    · have nA' : ¬ c_isA C := fun z => wA (h.isA.mp z)
      by_cases k0 : k = 0
      · exact Or.inr (Or.inl ⟨C, M, ax_Xe.ofI (cS _ _ c1 c2 c3 ⟨fun z => by omega, fun z => by omega, fun _ => r_Reader_readBehind hgC (by decide) (t_atArrow hgC ci (ax_b_n nA' ⟨fun z => absurd z (by decide), fun _ => t_deepen hgC (by omega) (fun z => by omega) (fun _ => rfl)⟩)), fun z => by omega, fun z => by omega⟩ (Or.inr (Or.inr (Or.inl c8)))), r_Model_readK hgM (s_see hgM mi ⟨fun _ => s_isArrow hgM mi (ax_b_n wA (r_Model_readPrefix hgM (by decide) (s_open hgM ⟨by decide, by decide⟩ ⟨by omega, by omega⟩ ⟨by omega, by omega⟩ (fun z => by omega) (fun _ => ⟨fun _ => ⟨fun _ => ⟨rfl, rfl⟩, fun z => absurd rfl z⟩, fun z => absurd rfl z⟩)))), fun z => absurd c8 z⟩), eno⟩)
      · obtain ⟨k', ek⟩ : ∃ k' : Nat, k = k' + 1 := ⟨k - 1, by omega⟩
        refine e_K.lift (e_behind (oc := 4) (ihK k' ek) h (by omega) (Or.inl rfl) wA (fun z => absurd z (by decide)) (by omega)) (fun Φ Θ hh => cS Φ Θ c1 c2 c3 ⟨fun z => by omega, fun z => by omega, fun _ => ax_I.mono hh (by omega) (fun _ _ _ _ q => q) (fun _ _ q => q), fun z => by omega, fun z => by omega⟩ (Or.inr (Or.inr (Or.inl c8)))) (fun x M' hx hh => r_Model_readK hgM (s_see hgM mi ⟨fun _ => s_isArrow hgM mi (ax_b_n wA (hh.k (by omega) (fun _ _ => (by rcases hx with q | q; (subst q; exact ⟨fun _ => ⟨rfl, rfl⟩, fun z => absurd rfl z⟩); (subst q; exact ⟨fun z => absurd z (by decide), fun _ => ⟨rfl, rfl⟩⟩))))), fun z => absurd c8 z⟩))
  by_cases c9 : m_see M = 40
  · by_cases k0 : k = 0
    · refine Or.inr (Or.inl ⟨C, M, ax_Xe.ofI (cS _ _ c1 c2 c3 ⟨fun z => by omega, fun _ => r_Reader_readWithin hgC (t_deepen hgC (by omega) (fun z => by omega) (fun _ => rfl)), fun z => by omega, fun z => by omega, fun z => by omega⟩ (Or.inr (Or.inl c9))), ?_, eno⟩)
      exact r_Model_readK hgM (s_see hgM mi ⟨fun z => by omega, fun _ => ⟨fun z => by omega, fun _ => ⟨fun z => by omega, fun _ => ⟨fun _ => r_Model_readBracket hgM (s_open hgM ⟨by decide, by decide⟩ ⟨by omega, by omega⟩ ⟨by omega, by omega⟩ (fun z => by omega) (fun _ => ⟨fun _ => ⟨Or.inl rfl, rfl, rfl⟩, fun z => absurd rfl z⟩)), fun z => absurd c9 z⟩⟩⟩⟩)
    · obtain ⟨k', ek⟩ : ∃ k' : Nat, k = k' + 1 := ⟨k - 1, by omega⟩
      have key := e_within (C := C) (M := M) (ihX k' ek) h (by omega) (by omega)
      refine e_K.lift key (fun Φ Θ hh => cS Φ Θ c1 c2 c3 ⟨fun z => by omega, fun _ => ax_I.mono hh (by omega) (fun _ _ _ _ q => q) (fun _ _ q => q), fun z => by omega, fun z => by omega, fun z => by omega⟩ (Or.inr (Or.inl c9))) (fun x M' hx hh => ?_)
      exact r_Model_readK hgM (s_see hgM mi ⟨fun z => by omega, fun _ => ⟨fun z => by omega, fun _ => ⟨fun z => by omega, fun _ => ⟨fun _ => hh.k (by omega) (fun _ _ => ⟨hx, rfl, rfl⟩), fun z => absurd c9 z⟩⟩⟩⟩)
  by_cases c10 : m_see M = 91
  · have a6 := h.2.2.1.2.2.2.2.2.1
    by_cases wT : (M 222 70) = 0
    · have wM : (C 600 9) = -1 := by rcases a6 with z | z; exact z.2; omega
      clear a6
      by_cases k0 : k = 0
      · exact Or.inr (Or.inl ⟨C, M, ax_Xe.ofI (cS _ _ c1 c2 c3 ⟨fun z => by omega, fun z => by omega, fun z => by omega, fun _ => r_Reader_readMerge hgC ⟨fun _ => r_Reader_readMerge_17 hgC (hgC _ _) ax_y_n ax_y_n ax_y_n ax_y_n (t_deepen hgC (by omega) (fun z => by omega) (fun _ => rfl)), fun z => absurd wM z⟩, fun z => by omega⟩ (Or.inr (Or.inr (Or.inr (Or.inl c10))))), r_Model_readK hgM (s_see hgM mi ⟨fun z => by omega, fun _ => ⟨fun z => by omega, fun _ => ⟨fun z => by omega, fun _ => ⟨fun z => by omega, fun _ => ⟨fun _ => r_Model_readMerge hgM ⟨fun _ => s_open hgM ⟨by decide, by decide⟩ ⟨by omega, by omega⟩ ⟨by omega, by omega⟩ (fun z => by omega) (fun _ => ⟨fun _ => ⟨Or.inl rfl, rfl, rfl⟩, fun z => absurd rfl z⟩), fun z => absurd wT z⟩, fun z => absurd c10 z⟩⟩⟩⟩⟩), eno⟩)
      · obtain ⟨k', ek⟩ : ∃ k' : Nat, k = k' + 1 := ⟨k - 1, by omega⟩
        refine e_K.lift (e_merge (ihX k' ek) h (by omega) (by omega) wT) (fun Φ Θ hh => cS Φ Θ c1 c2 c3 ⟨fun z => by omega, fun z => by omega, fun z => by omega, fun _ => ax_I.mono hh (by omega) (fun _ _ _ _ q => q) (fun _ _ q => q), fun z => by omega⟩ (Or.inr (Or.inr (Or.inr (Or.inl c10))))) (fun x M' hx hh => r_Model_readK hgM (s_see hgM mi ⟨fun z => by omega, fun _ => ⟨fun z => by omega, fun _ => ⟨fun z => by omega, fun _ => ⟨fun z => by omega, fun _ => ⟨fun _ => hh.k (by omega) (fun _ _ => ⟨hx, rfl, rfl⟩), fun z => absurd c10 z⟩⟩⟩⟩⟩))
    · have wM : ¬ (C 600 9) = -1 := by rcases a6 with z | z; exact absurd z.1 wT; omega
      clear a6
      exact Or.inr (Or.inl ⟨C, M, ax_Xe.ofI (cS _ _ c1 c2 c3 ⟨fun z => by omega, fun z => by omega, fun z => by omega, fun _ => r_Reader_readMerge hgC ⟨fun z => absurd z wM, fun _ => t_refuse hgC rfl⟩, fun z => by omega⟩ (Or.inr (Or.inr (Or.inr (Or.inl c10))))), r_Model_readK hgM (s_see hgM mi ⟨fun z => by omega, fun _ => ⟨fun z => by omega, fun _ => ⟨fun z => by omega, fun _ => ⟨fun z => by omega, fun _ => ⟨fun _ => r_Model_readMerge hgM ⟨fun z => absurd z wT, fun _ => ⟨Or.inl rfl, rfl, rfl⟩⟩, fun z => absurd c10 z⟩⟩⟩⟩⟩), eno⟩)
  · exact e_refused (B := B) (r := r) (dc := 20 * k + 6) (dm := 20 * k + 7) h c1 c2 c3 ⟨c6, c5, c9, c8, c10, c7, fun z => c4 (Or.inl z), fun z => c4 (Or.inr z)⟩
/-- expressions are read alike -/
theorem e_all (B r : Nat) : ∀ k : Nat, e_K B r k ∧ e_Cc B r k ∧ e_X B r k := by
  intro k
  induction k with
  | zero =>
    have hK : e_K B r 0 := e_K.all (fun k' z => by omega) (fun k' z => by omega)
    have hC : e_Cc B r 0 := e_readC hK (fun k' z => by omega)
    exact ⟨hK, hC, e_readX hC (fun k' z => by omega)⟩
  | succ k ih =>
    have s1 : ∀ k' : Nat, k + 1 = k' + 1 → k = k' := fun k' z => by omega
    have hK : e_K B r (k + 1) := e_K.all (fun k' z => s1 k' z ▸ ih.1) (fun k' z => s1 k' z ▸ ih.2.2)
    have hC : e_Cc B r (k + 1) := e_readC hK (fun k' z => s1 k' z ▸ ih.2.1)
    exact ⟨hK, hC, e_readX hC (fun k' z => s1 k' z ▸ ih.2.2)⟩
end AllLevels
