/-! CALLS, whole -/
section CallWhole
variable {B r k : Nat} {C M : ax_V}
set_option maxHeartbeats 2000000 in
theorem e_call (ih : e_X B r k) (h : e_R C M) (hk : (M 222 69) + ((k : Int) + 1) = 20) (hv : m_isN M) (hT : (M 222 71) = 0) : e_out e_dig B r (20 * k + 29) q_Reader_readCall [.ref r] (20 * k + 31) q_Model_readCall [.ref 222] C M := by
  have hv' : 65 ≤ m_see M ∧ m_see M ≤ 72 := hv
  have hlt := h.lt (by omega)
  have ci := h.ci
  have mi := h.mi
  have hs := h.see
  obtain ⟨hgC, hgM⟩ := id h.1
  obtain ⟨⟨a1, a1b, a1c⟩, a2, a3, a4, a5, -, a7⟩ := id h.2.2.1
  have hM0 : (C 600 10) = 0 := by rw [a4.1]; exact hT
  clear a4
  obtain ⟨p1, p2, p3⟩ := id h.2.2.2.1
  have hsz := h.2.1.2.2.1
  obtain ⟨w, fd1, fd2, fd3, fd4⟩ := t_find (B := B) (d := 20 * k + 27) (E := az_ER B r) (C := C) (M := M) (n := (M 222 10)) (v := m_see M) hgC (m_see_rg hgM) ⟨by omega, by omega⟩ h.2.2.2.2.1
  have rw0 : ax_rg w := ⟨by omega, by omega⟩
  have h0 : e_R (c_on C 1) (m_on M 1) := h.on (by omega) (by omega)
  obtain ⟨hgC0, hgM0⟩ := id h0.1
  have hs0 := h0.see
  have ca0 : (c_on C 1) 600 6 = (C 600 6) + 1 := by simp [c_on, ax_u]
  have ma0 : (m_on M 1) 222 68 = (M 222 68) + 1 := by simp [m_on, ax_u]
  have cd0 : (c_on C 1) 600 11 = (C 600 11) := by simp [c_on, ax_u]
  have md0 : (m_on M 1) 222 69 = (M 222 69) := by simp [m_on, ax_u]
  have sz0 : (m_on M 1) 222 3 = (M 222 3) := by simp [m_on, ax_u]
  have hclA : ∀ (Φ : Int → ax_V → Prop) (Θ : ax_V → Prop), ax_I (az_W B (az_ER B r)) (20 * k + 28) q_Reader_look [.ref r] (c_on C 1) (fun r4 V4 => ((r4 = 40 → ax_N (az_W B (az_ER B r)) (20 * k + 28) q_Reader_deepen [.ref r] V4 (fun V5 => ax_rg ((V5 600 6) + 1) ∧ (∀ V6, V6 = ax_u V5 600 6 ((V5 600 6) + 1) → k_Reader_readCall_77 B r (20 * k + 28) (C 600 6) w (-1) (-1) 0 none V6 Φ Θ)) Θ) ∧ (¬ r4 = 40 → ax_N (az_W B (az_ER B r)) (20 * k + 28) q_Reader_refuse [.ref r] V4 (fun V7 => ax_N (az_W B (az_ER B r)) (20 * k + 28) q_Reader_deepen [.ref r] V7 (fun V8 => ax_rg ((V8 600 6) + 1) ∧ (∀ V9, V9 = ax_u V8 600 6 ((V8 600 6) + 1) → k_Reader_readCall_77 B r (20 * k + 28) (C 600 6) w (-1) (-1) 0 none V9 Φ Θ)) Θ) Θ))) Θ → ax_I (az_W B (az_ER B r)) (20 * k + 29) q_Reader_readCall [.ref r] C Φ Θ := by
    intro Φ Θ hh
    refine r_Reader_readCall hgC ⟨fun _ => r_Reader_readCall_16 hgC (hgC _ _) ax_y_n ax_y_n ax_y_n ax_y_n ax_y_n (t_look hgC ci ?_), fun z => absurd hM0 z⟩
    rw [hs, a2.1]
    refine fd4 _ _ ⟨⟨by omega, by omega⟩, fun V3 e3 => ?_⟩
    rw [show V3 = c_on C 1 from e3]
    exact hh
  by_cases w40 : m_see (m_on M 1) = 40
  · have hlt0 := h0.lt (by omega)
    obtain ⟨C1, eC1⟩ : ∃ X : ax_V, X = ax_u (ax_u (c_on C 1) 600 11 ((C 600 11) + 1)) 600 6 ((C 600 6) + 2) := ⟨_, rfl⟩
    obtain ⟨M1, eM1⟩ : ∃ X : ax_V, X = ax_u (ax_u (m_on M 1) 222 69 ((M 222 69) + 1)) 222 68 ((M 222 68) + 2) := ⟨_, rfl⟩
    have x1 : e_mvC C C1 := by rw [eC1]; exact ((e_mvC.on C 1).u (by decide)).u (by decide)
    have y1 : e_mvM M M1 := by rw [eM1]; exact ((e_mvM.on M 1).u (by decide)).u (by decide)
    have x2 : ax_g C1 := by rw [eC1]; exact ax_u_g (ax_u_g hgC0 ⟨by omega, by omega⟩) ⟨by omega, by omega⟩
    have y0 : ax_g M1 := by rw [eM1]; exact ax_u_g (ax_u_g hgM0 ⟨by omega, by omega⟩) ⟨by omega, by omega⟩
    have x3 : (C1 600 6) = (C 600 6) + 2 := by rw [eC1]; simp [ax_u]
    have x4 : (C1 600 11) = (C 600 11) + 1 := by rw [eC1]; simp [ax_u]
    have x5 : (C1 600 12) = (C 600 12) + 0 := by rw [eC1]; simp [c_on, ax_u]
    have x6 : (C1 600 13) = (C 600 13) + 0 := by rw [eC1]; simp [c_on, ax_u]
    have y2 : (M1 222 68) = (M 222 68) + 2 := by rw [eM1]; simp [ax_u]
    have y3 : (M1 222 69) = (M 222 69) + 1 := by rw [eM1]; simp [ax_u]
    have y4 : (M1 222 72) = (M 222 72) + 0 := by rw [eM1]; simp [m_on, ax_u]
    have y5 : (M1 222 26) = (M 222 26) := y1.2 26 (by decide) (by decide) (by decide) (by decide)
    have y6 : (M1 222 3) = (M 222 3) := y1.2 3 (by decide) (by decide) (by decide) (by decide)
    have h1 : e_R C1 M1 := h.in (w := 2) (by omega) (by omega) (by omega) x1 y1 ⟨x2, y0⟩ x3 x4 x5 x6 y2 y3 y4 (Or.inl rfl) (Or.inl rfl)
    have hs1 := h1.see
    have ci1 := h1.ci
    have mi1 := h1.mi
    have hcl : ∀ (Φ : Int → ax_V → Prop) (Θ : ax_V → Prop), k_Reader_readCall_77 B r (20 * k + 28) (C 600 6) w (-1) (-1) 0 none C1 Φ Θ → ax_I (az_W B (az_ER B r)) (20 * k + 29) q_Reader_readCall [.ref r] C Φ Θ := by
      intro Φ Θ hh
      refine hclA Φ Θ (t_look hgC0 h0.ci ⟨fun _ => t_deepen hgC0 (by omega) (fun _ => ?_) (fun z => by omega), fun z => absurd (by rw [hs0]; exact w40) z⟩)
      have e1 : (ax_u (c_on C 1) 600 11 ((c_on C 1) 600 11 + 1)) 600 6 = (C 600 6) + 1 := by rw [← ca0]; simp [ax_u]
      rw [e1]
      refine ⟨⟨by omega, by omega⟩, fun V6 e6 => ?_⟩
      rw [e6, cd0, show (C 600 6) + 1 + 1 = (C 600 6) + 2 by omega, ← eC1]
      exact hh
    have hml : ∀ (Φ : Int → ax_V → Prop) (Θ : ax_V → Prop), (m_see M1 = 41 → k_Model_readCall_75 (20 * k + 30) (M 222 68) (m_see M) (M 222 72) (-1) (-1) 0 none M1 Φ Θ) → (¬ m_see M1 = 41 → k_Model_readCall_75 (20 * k + 30) (M 222 68) (m_see M) (M 222 72) (-1) (-1) 1 none M1 Φ Θ) → ax_I ay_lay (20 * k + 31) q_Model_readCall [.ref 222] M Φ Θ := by
      intro Φ Θ hh1 hh2
      refine r_Model_readCall hgM ⟨fun _ => s_see hgM mi ⟨⟨by omega, by omega⟩, fun V2 e2 => ?_⟩, fun z => absurd hT z⟩
      rw [show V2 = m_on M 1 from e2]
      refine s_see hgM0 h0.mi ⟨fun _ => s_open hgM0 ⟨by decide, by decide⟩ ⟨by omega, by omega⟩ ⟨by omega, by omega⟩ (fun _ => ⟨fun z => absurd z (by decide), fun _ => ?_⟩) (fun z => by omega), fun z => absurd w40 z⟩
      rw [md0, ma0, show (M 222 68) + 1 + 1 = (M 222 68) + 2 by omega, ← eM1]
      refine s_see y0 mi1 ?_
      rw [y4, Int.add_zero]
      exact ⟨hh1, hh2⟩
    have mg := e_mig.none h h1 x1 y1 (by omega)
    have x6' : (C1 600 13) = (C 600 13) := by omega
    have k77 : ∀ (Φ : Int → ax_V → Prop) (Θ : ax_V → Prop), (¬ m_see M1 = 41) → ax_I (az_W B (az_ER B r)) (20 * k + 28) q_Reader_readX [.ref r] C1 (fun r2 V2 => k_Reader_readCall_77 B r (20 * k + 28) (C 600 6) w r2 r2 1 (some (ax_i r2)) V2 Φ Θ) Θ → k_Reader_readCall_77 B r (20 * k + 28) (C 600 6) w (-1) (-1) 0 none C1 Φ Θ := fun Φ Θ z hh => r_Reader_readCall_77 x2 (hgC _ _) rw0 (by decide) (by decide) (by decide) ax_y_n ⟨fun q => absurd q (by decide), fun _ => t_look x2 ci1 ⟨fun q => absurd (by rw [← hs1]; exact q) z, fun _ => ⟨fun _ => ax_I.mono hh (Nat.le_refl _) (fun x V' _ _ q => ⟨fun q => absurd q (by decide), fun _ => q⟩) (fun _ _ q => q), fun q => absurd q (by decide)⟩⟩⟩
    have k75 : ∀ (Φ : Int → ax_V → Prop) (Θ : ax_V → Prop), ax_I ay_lay (20 * k + 30) q_Model_readX [.ref 222] M1 (fun r12 V12 => ((r12 = 0 → Φ 0 V12) ∧ (¬ r12 = 0 → k_Model_readCall_115 (20 * k + 30) (M 222 68) (m_see M) (M 222 72) (V12 222 74) (some (ax_i (-1))) (some (ax_i 1)) none V12 Φ Θ))) Θ → k_Model_readCall_75 (20 * k + 30) (M 222 68) (m_see M) (M 222 72) (-1) (-1) 1 none M1 Φ Θ := fun Φ Θ hh => r_Model_readCall_75 y0 (hgM _ _) (m_see_rg hgM) (hgM _ _) (by decide) (by decide) (by decide) ax_y_n ⟨fun q => absurd q (by decide), fun _ => ax_I.mono hh (Nat.le_refl _) (fun x V' _ _ q => ⟨q.1, fun z => ⟨fun _ => q.2 z, fun z2 => absurd rfl z2⟩⟩) (fun _ _ q => q)⟩
    by_cases w41 : m_see M1 = 41
    · rcases e_callEnd (B := B) (r := r) (k := k) h hlt rw0 (m_see_rg hgM) fd1 mg (f := -1) (l := -1) (Or.inl ⟨rfl, rfl, fun _ z => z⟩) (by decide) (by decide) (by omega) (by omega) x6' w41 hT with ⟨N, C', M', ea, eb, ec⟩ | ⟨C', M', ea, eb, ec⟩
      · exact Or.inl ⟨N, C', M', hcl _ _ (r_Reader_readCall_77 x2 (hgC _ _) rw0 (by decide) (by decide) (by decide) ax_y_n ⟨fun q => absurd q (by decide), fun _ => t_look x2 ci1 ⟨fun _ => ea _ _ _ (ax_y_i _) (ax_y_i _) ax_y_n _ _ ⟨rfl, rfl⟩, fun q => absurd (by rw [hs1]; exact w41) q⟩⟩), hml _ _ (fun _ => eb _ ax_y_n _ _ ⟨rfl, rfl⟩) (fun q => absurd w41 q), ec⟩
      · exact Or.inr (Or.inl ⟨C', M', ax_Xe.ofI (hcl _ _ (r_Reader_readCall_77 x2 (hgC _ _) rw0 (by decide) (by decide) (by decide) ax_y_n ⟨fun q => absurd q (by decide), fun _ => t_look x2 ci1 ⟨fun _ => ea _ _ _ (ax_y_i _) (ax_y_i _) ax_y_n _ _ rfl, fun q => absurd (by rw [hs1]; exact w41) q⟩⟩)), hml _ _ (fun _ => eb _ ax_y_n _ _ ⟨rfl, rfl⟩) (fun q => absurd w41 q), ec⟩)
    · rcases ih C1 M1 h1 (by omega) with ⟨t, C3, M3, ja, jb, ok⟩ | ⟨C3, M3, ja, jb, no⟩ | ⟨t, C3, M3, ja, jb, hf, dg⟩
      · have hR3 := ok.1
        have r4 := ok.2.2.2.1
        have r5 := hR3.2.2.2.1
        have r6 := ok.2.2.2.2.2.1
        have r7 := ok.2.2.2.2.2.2.1
        have eR : (fun q => (fun _ : Int => False) q ∨ q = t) = (fun q => q = t) := by funext q; simp
        have mg3 := mg.part ok
        rw [eR] at mg3
        have cn3 : e_cn C3 M3 t t (fun q => q = t) (C 600 13) := e_cn.one (by omega) ok.2.2.2.2.1.1 ok.2.2.2.2.1.2.1 (by rw [ok.2.2.2.2.1.2.2, x6'])
        rcases e_args (C := C) (M := M) ih (x1 := (M 222 68)) (x2 := w) (x3 := (M 222 72)) (v2 := m_see M) (hgM _ _) rw0 (m_see_rg hgM) (hgM _ _) ((M3 222 3) - (M3 222 68)).toNat C3 M3 t t 1 _ mg3 cn3 (by omega) (by omega) r4.1.symm (by omega) (by omega) (by decide) (by omega) (Nat.le_refl _) with ⟨l', C5, M5, R', b1, b2, b3, b4, b5, b6, b7, b8, b9⟩ | ⟨C5, M5, b1, b2, b3⟩
        · rcases e_callEnd (B := B) (r := r) (k := k) h hlt rw0 (m_see_rg hgM) fd1 b1 b2 (by omega) b7 (by omega) (by omega) b5 b6 hT with ⟨N, C', M', ea, eb, ec⟩ | ⟨C', M', ea, eb, ec⟩
          · refine Or.inl ⟨N, C', M', hcl _ _ (k77 _ _ w41 (ja.k (by omega) (fun _ _ => ?_))), hml _ _ (fun q => absurd q w41) (fun _ => k75 _ _ (jb.k (by omega) (fun _ _ => ⟨fun q => absurd q (by decide), fun _ => ?_⟩))), ec⟩
            · rw [a1] at ea ⊢
              exact b8 _ (ax_y_i _) _ _ (fun z4 z5 z6 hz4 hz5 hz6 => ea z4 z5 z6 hz4 hz5 hz6 _ _ ⟨rfl, rfl⟩)
            · rw [← r4.1]
              exact b9 _ _ _ (ax_y_i _) (ax_y_i _) ax_y_n _ _ (fun z7 hz7 => eb z7 hz7 _ _ ⟨rfl, rfl⟩)
          · refine Or.inr (Or.inl ⟨C', M', ax_Xe.ofI (hcl _ _ (k77 _ _ w41 (ja.k (by omega) (fun _ _ => ?_)))), hml _ _ (fun q => absurd q w41) (fun _ => k75 _ _ (jb.k (by omega) (fun _ _ => ⟨fun q => absurd q (by decide), fun _ => ?_⟩))), ec⟩)
            · rw [a1] at ea ⊢
              exact b8 _ (ax_y_i _) _ _ (fun z4 z5 z6 hz4 hz5 hz6 => ea z4 z5 z6 hz4 hz5 hz6 _ _ rfl)
            · rw [← r4.1]
              exact b9 _ _ _ (ax_y_i _) (ax_y_i _) ax_y_n _ _ (fun z7 hz7 => eb z7 hz7 _ _ ⟨rfl, rfl⟩)
        · refine Or.inr (Or.inl ⟨C5, M5, ax_Xe.ofI (hcl _ _ (k77 _ _ w41 (ja.k (by omega) (fun _ _ => ?_)))), hml _ _ (fun q => absurd q w41) (fun _ => k75 _ _ (jb.k (by omega) (fun _ _ => ⟨fun q => absurd q (by decide), fun _ => ?_⟩))), b1⟩)
          · rw [a1]
            exact b2 _ (ax_y_i _) _ _ rfl
          · rw [← r4.1]
            exact b3 _ _ _ (ax_y_i _) (ax_y_i _) ax_y_n _ _ ⟨rfl, rfl⟩
      · exact Or.inr (Or.inl ⟨C3, M3, ax_Xe.ofI (hcl _ _ (k77 _ _ w41 (ja.kI (by omega) (fun _ => rfl)))), hml _ _ (fun q => absurd q w41) (fun _ => k75 _ _ (jb.k (by omega) (fun _ _ => ⟨fun _ => ⟨rfl, rfl⟩, fun z => absurd rfl z⟩))), no.1, no.2.1, x1.fr.tr no.2.2.1 (by omega), y1.fr.tr no.2.2.2 (by omega)⟩)
      · have ci3 := e_half.ci h1 hf
        have nn := dg.ne
        have f4 := hf.2.1
        have f5 := hf.2.2.1
        have rt : ax_rg t := ⟨by omega, by omega⟩
        refine Or.inr (Or.inl ⟨C3, M3, ax_Xe.ofI (hcl _ _ (k77 _ _ w41 (ja.k (by omega) (fun hg3 _ => ?_)))), hml _ _ (fun q => absurd q w41) (fun _ => k75 _ _ (jb.k (by omega) (fun _ _ => ⟨fun _ => ⟨rfl, rfl⟩, fun z => absurd rfl z⟩))), hf.1.1, hf.1.2.1, x1.fr.tr hf.1.2.2.1 (by omega), y1.fr.tr hf.1.2.2.2 (by omega)⟩)
        exact r_Reader_readCall_77 hg3 (hgC _ _) rw0 rt rt (by decide) (ax_y_i _) ⟨fun q => absurd q (by decide), fun _ => t_look hg3 ci3 ⟨fun q => absurd q nn.2.2.1, fun _ => ⟨fun q => absurd q (by decide), fun _ => t_expect hg3 (by decide) ci3 (fun q => absurd q nn.1) (fun _ => rfl)⟩⟩⟩
  · refine Or.inr (Or.inl ⟨c_on C 1, m_on M 1, ax_Xe.ofI (hclA _ _ (t_look hgC0 h0.ci ⟨fun z => absurd (by rw [← hs0]; exact z) w40, fun _ => t_refuse hgC0 rfl⟩)), ?_, h0.1, h0.2.2.1.1.1, (e_mvC.on C 1).fr, (e_mvM.on M 1).fr⟩)
    refine r_Model_readCall hgM ⟨fun _ => s_see hgM mi ⟨⟨by omega, by omega⟩, fun V2 e2 => ?_⟩, fun z => absurd hT z⟩
    rw [show V2 = m_on M 1 from e2]
    exact s_see hgM0 h0.mi ⟨fun z => absurd z w40, fun _ => ⟨rfl, rfl⟩⟩
end CallWhole
