/-! [l, a, b] -/
section Merge
variable {B r : Nat} {C M : ax_V}
theorem e_bad.ne {C : ax_V} (h : e_bad C) : ¬ c_see C = 44 ∧ ¬ c_see C = 93 ∧ ¬ c_see C = 41 ∧ ¬ c_see C = 59 := by
  rcases h with ⟨u, v⟩ | ⟨u, -⟩
  · exact ⟨by omega, by omega, by omega, by omega⟩
  · exact ⟨by omega, by omega, by omega, by omega⟩
set_option maxHeartbeats 2000000 in
theorem e_merge {k : Nat} (ih : e_X B r k) (h : e_R C M) (hk : (M 222 69) + ((k : Int) + 1) = 20) (hv : ¬ m_see M = 0) (hau : (M 222 70) = 0) : e_out e_dig B r (20 * k + 29) q_Reader_readMerge [.ref r] (20 * k + 31) q_Model_readMerge [.ref 222] C M := by
  have hlt := h.lt hv
  have ci := h.ci
  have mi := h.mi
  obtain ⟨hgC, hgM⟩ := id h.1
  obtain ⟨⟨a1, a1b, a1c⟩, a2, a3, -, a5, a6, a7⟩ := id h.2.2.1
  have hst : (C 600 9) = -1 := by rcases a6 with z | z; exact z.2; omega
  clear a6
  obtain ⟨p1, p2, p3⟩ := id h.2.2.2.1
  have hsz := h.2.1.2.2.1
  obtain ⟨C1, eC1⟩ : ∃ X : ax_V, X = ax_u (ax_u C 600 11 ((C 600 11) + 1)) 600 6 ((C 600 6) + 1) := ⟨_, rfl⟩
  obtain ⟨M1, eM1⟩ : ∃ X : ax_V, X = ax_u (ax_u M 222 69 ((M 222 69) + 1)) 222 68 ((M 222 68) + 1) := ⟨_, rfl⟩
  have x1 : e_mvC C C1 := by rw [eC1]; exact ((e_mvC.rf C).u (by decide)).u (by decide)
  have y1 : e_mvM M M1 := by rw [eM1]; exact ((e_mvM.rf M).u (by decide)).u (by decide)
  have x2 : ax_g C1 := by rw [eC1]; exact ax_u_g (ax_u_g hgC ⟨by omega, by omega⟩) ⟨by omega, by omega⟩
  have y0 : ax_g M1 := by rw [eM1]; exact ax_u_g (ax_u_g hgM ⟨by omega, by omega⟩) ⟨by omega, by omega⟩
  have x3 : (C1 600 6) = (C 600 6) + 1 := by rw [eC1]; simp [ax_u]
  have x4 : (C1 600 11) = (C 600 11) + 1 := by rw [eC1]; simp [ax_u]
  have x5 : (C1 600 12) = (C 600 12) + 0 := by rw [eC1]; simp [ax_u]
  have x6 : (C1 600 13) = (C 600 13) + 0 := by rw [eC1]; simp [ax_u]
  have y2 : (M1 222 68) = (M 222 68) + 1 := by rw [eM1]; simp [ax_u]
  have y3 : (M1 222 69) = (M 222 69) + 1 := by rw [eM1]; simp [ax_u]
  have y4 : (M1 222 72) = (M 222 72) + 0 := by rw [eM1]; simp [ax_u]
  have y5 : (M1 222 26) = (M 222 26) := y1.2 26 (by decide) (by decide) (by decide) (by decide)
  have x8 : (C1 600 8) = (C 600 8) := x1.2 8 (by decide) (by decide) (by decide) (by decide)
  have h1 : e_R C1 M1 := h.in (w := 1) (by omega) (by omega) (by omega) x1 y1 ⟨x2, y0⟩ x3 x4 x5 x6 y2 y3 y4 (Or.inl rfl) (Or.inl rfl)
  have hs1 := h1.see
  have hcl : ∀ (Φ : Int → ax_V → Prop) (Θ : ax_V → Prop), ax_I (az_W B (az_ER B r)) (20 * k + 28) q_Reader_takeLetter [.ref r] C1 (fun r3 V3 => ax_N (az_W B (az_ER B r)) (20 * k + 28) q_Reader_expect [.ref r, ax_i 44] V3 (fun V4 => ax_I (az_W B (az_ER B r)) (20 * k + 28) q_Reader_readX [.ref r] V4 (fun r5 V5 => ax_N (az_W B (az_ER B r)) (20 * k + 28) q_Reader_expect [.ref r, ax_i 44] V5 (fun V6 => ax_I (az_W B (az_ER B r)) (20 * k + 28) q_Reader_readX [.ref r] V6 (fun r7 V7 => ax_N (az_W B (az_ER B r)) (20 * k + 28) q_Reader_expect [.ref r, ax_i 93] V7 (fun V8 => ax_rg ((V8 600 11) - 1) ∧ (∀ V9, V9 = ax_u V8 600 11 ((V8 600 11) - 1) → ax_I (az_W B (az_ER B r)) (20 * k + 28) q_Reader_addPart [.ref r, ax_i 21, ax_i (C 600 6), ax_i ((C 600 6) + 1), ax_i r3] V9 (fun r10 V10 => (0 ≤ r10 ∧ r10 < 700) ∧ (∀ V11, V11 = ax_u V10 521 r10 r5 → (0 ≤ r5 ∧ r5 < 700) ∧ (∀ V12, V12 = ax_u V11 522 r5 r7 → Φ r10 V12))) Θ)) Θ) Θ) Θ) Θ) Θ) Θ → ax_I (az_W B (az_ER B r)) (20 * k + 29) q_Reader_readMerge [.ref r] C Φ Θ := by
    intro Φ Θ hh
    refine r_Reader_readMerge hgC ⟨fun _ => r_Reader_readMerge_17 hgC (hgC _ _) ax_y_n ax_y_n ax_y_n ax_y_n (t_deepen hgC (by omega) (fun _ => ?_) (fun z => by omega)), fun z => absurd hst z⟩
    have e1 : (ax_u C 600 11 ((C 600 11) + 1)) 600 6 = (C 600 6) := by simp [ax_u]
    rw [e1]
    refine ⟨⟨by omega, by omega⟩, fun V2 e2 => ?_⟩
    rw [e2, ← eC1]
    exact hh
  have hml : ∀ (Φ : Int → ax_V → Prop), ax_I ay_lay (20 * k + 30) q_Model_takeLetter [.ref 222] M1 (fun r2 V2 => ((r2 = -1 → Φ 0 V2) ∧ (¬ r2 = -1 → ax_I ay_lay (20 * k + 30) q_Model_want [.ref 222, ax_i 44] V2 (fun r3 V3 => ((r3 = 0 → Φ 0 V3) ∧ (¬ r3 = 0 → ax_I ay_lay (20 * k + 30) q_Model_readX [.ref 222] V3 (fun r4 V4 => ((r4 = 0 → Φ 0 V4) ∧ (¬ r4 = 0 → ax_I ay_lay (20 * k + 30) q_Model_want [.ref 222, ax_i 44] V4 (fun r5 V5 => ((r5 = 0 → Φ 0 V5) ∧ (¬ r5 = 0 → ax_I ay_lay (20 * k + 30) q_Model_readX [.ref 222] V5 (fun r6 V6 => ((r6 = 0 → Φ 0 V6) ∧ (¬ r6 = 0 → ax_I ay_lay (20 * k + 30) q_Model_want [.ref 222, ax_i 93] V6 (fun r7 V7 => ((r7 = 0 → Φ 0 V7) ∧ (¬ r7 = 0 → ax_rg ((V7 222 69) - 1) ∧ (∀ V8, V8 = ax_u V7 222 69 ((V7 222 69) - 1) → ax_I ay_lay (20 * k + 30) q_Model_makePart [.ref 222, ax_i 21, ax_i (M 222 68), ax_i (V4 222 74), ax_i (V8 222 74), ax_i (-1)] V8 (fun r9 V9 => (0 ≤ r9 ∧ r9 < 701) ∧ (∀ V10, V10 = ax_u V9 248 r9 r2 → (0 ≤ r9 ∧ r9 < 701) ∧ (∀ V11, V11 = ax_u V10 244 r9 (M1 222 68) → Φ 1 V11))) (fun _ => False))))) (fun _ => False)))) (fun _ => False)))) (fun _ => False)))) (fun _ => False)))) (fun _ => False)))) (fun _ => False) → ax_I ay_lay (20 * k + 31) q_Model_readMerge [.ref 222] M Φ (fun _ => False) := by
    intro Φ hh
    refine r_Model_readMerge hgM ⟨fun _ => s_open hgM ⟨by decide, by decide⟩ ⟨by omega, by omega⟩ ⟨by omega, by omega⟩ (fun _ => ⟨fun z => absurd z (by decide), fun _ => ?_⟩) (fun z => by omega), fun z => absurd hau z⟩
    rw [← eM1]
    exact hh
  by_cases hl : m_isL M1
  · have hl' : 97 ≤ m_see M1 ∧ m_see M1 ≤ 122 := hl
    have hlt1 := h1.lt (by omega)
    have hat1 := h1.2.2.1.1
    have hsz1 := h1.2.1.2.2.1
    have h2 : e_R (c_on C1 1) (m_on M1 1) := h1.on (by omega) (by omega)
    obtain ⟨hgC2, hgM2⟩ := id h2.1
    have hs2 := h2.see
    have hat2 := h2.2.2.1.1
    have na2 : (m_on M1 1) 222 68 = (M1 222 68) + 1 := by simp [m_on, ax_u]
    have hcl2 : ∀ (Φ : Int → ax_V → Prop) (Θ : ax_V → Prop), ax_N (az_W B (az_ER B r)) (20 * k + 28) q_Reader_expect [.ref r, ax_i 44] (c_on C1 1) (fun V4 => ax_I (az_W B (az_ER B r)) (20 * k + 28) q_Reader_readX [.ref r] V4 (fun r5 V5 => ax_N (az_W B (az_ER B r)) (20 * k + 28) q_Reader_expect [.ref r, ax_i 44] V5 (fun V6 => ax_I (az_W B (az_ER B r)) (20 * k + 28) q_Reader_readX [.ref r] V6 (fun r7 V7 => ax_N (az_W B (az_ER B r)) (20 * k + 28) q_Reader_expect [.ref r, ax_i 93] V7 (fun V8 => ax_rg ((V8 600 11) - 1) ∧ (∀ V9, V9 = ax_u V8 600 11 ((V8 600 11) - 1) → ax_I (az_W B (az_ER B r)) (20 * k + 28) q_Reader_addPart [.ref r, ax_i 21, ax_i (C 600 6), ax_i ((C 600 6) + 1), ax_i ((C1 600 8) * 26 + (c_see C1 - 97))] V9 (fun r10 V10 => (0 ≤ r10 ∧ r10 < 700) ∧ (∀ V11, V11 = ax_u V10 521 r10 r5 → (0 ≤ r5 ∧ r5 < 700) ∧ (∀ V12, V12 = ax_u V11 522 r5 r7 → Φ r10 V12))) Θ)) Θ) Θ) Θ) Θ) Θ → ax_I (az_W B (az_ER B r)) (20 * k + 29) q_Reader_readMerge [.ref r] C Φ Θ := fun Φ Θ hh => hcl Φ Θ (t_takeLetter x2 h1.ci ⟨by omega, by omega⟩ (fun _ => hh) (fun z => absurd (by rw [hs1]; exact hl') z))
    by_cases w1 : m_see (m_on M1 1) = 44
    · have hlt2 := h2.lt (by omega)
      have hsz2 := h2.2.1.2.2.1
      have h3 : e_R (c_on (c_on C1 1) 1) (m_on (m_on M1 1) 1) := h2.on (by omega) (by omega)
      have na3 : (m_on (m_on M1 1) 1) 222 68 = (M1 222 68) + 2 := by simp [m_on, ax_u]; omega
      have np3 : (m_on (m_on M1 1) 1) 222 26 = (M 222 26) := by rw [← y5]; simp [m_on, ax_u]
      have nd3 : (m_on (m_on M1 1) 1) 222 69 = (M1 222 69) := by simp [m_on, ax_u]
      have nb3 : (m_on (m_on M1 1) 1) 222 72 = (M1 222 72) := by simp [m_on, ax_u]
      have nl3 : (c_on (c_on C1 1) 1) 600 13 = (C1 600 13) := by simp [c_on, ax_u]
      have mvC3 := (x1.tr (e_mvC.on C1 1)).tr (e_mvC.on _ 1)
      have mvM3 := (y1.tr (e_mvM.on M1 1)).tr (e_mvM.on _ 1)
      have mid := e_mid.none h h3 mvC3 mvM3 (by omega)
      have mp3 : (M 222 26) ≤ (m_on (m_on M1 1) 1) 222 26 := by omega
      rcases ih _ _ h3 (by omega) with ⟨s, C4, M4, ja, jb, ok⟩ | ⟨C4, M4, ja, jb, no⟩ | ⟨s, C4, M4, ja, jb, hf, dg⟩
      · have hR4 := ok.1
        obtain ⟨hgC4, hgM4⟩ := id hR4.1
        have hs4 := hR4.see
        have hat4 := hR4.2.2.1.1
        have hsz4 := hR4.2.1.2.2.1
        have r4 := ok.2.2.2.1
        have r5 := hR4.2.2.2.1
        have r6 := ok.2.2.2.2.2.1
        have r7 := ok.2.2.2.2.2.2.1
        by_cases w2 : m_see M4 = 44
        · have hlt4 := hR4.lt (by omega)
          have h5 : e_R (c_on C4 1) (m_on M4 1) := hR4.on (by omega) (by omega)
          have na5 : (m_on M4 1) 222 68 = (M4 222 68) + 1 := by simp [m_on, ax_u]
          have np5 : (m_on M4 1) 222 26 = (M4 222 26) := by simp [m_on, ax_u]
          have nd5 : (m_on M4 1) 222 69 = (M4 222 69) := by simp [m_on, ax_u]
          have nb5 : (m_on M4 1) 222 72 = (M4 222 72) := by simp [m_on, ax_u]
          have nl5 : (c_on C4 1) 600 13 = (C4 600 13) := by simp [c_on, ax_u]
          have mid2 := (mid.part ok).mv h5 (e_mvC.on C4 1) (e_mvM.on M4 1) (by omega)
          have fC5 := (mvC3.fr.tr ok.2.1 mp3).tr (e_mvC.on C4 1).fr (Int.le_refl _)
          have fM5 := (mvM3.fr.tr ok.2.2.1 mp3).tr (e_mvM.on M4 1).fr (Int.le_refl _)
          rcases ih _ _ h5 (by omega) with ⟨t, C6, M6, la, lb, ok2⟩ | ⟨C6, M6, la, lb, no2⟩ | ⟨t, C6, M6, la, lb, hf2, dg2⟩
          · have hR6 := ok2.1
            obtain ⟨hgC6, hgM6⟩ := id hR6.1
            have hs6 := hR6.see
            have s1 := hR6.2.2.1.1
            have s3 := hR6.2.2.1.2.2.1
            have s5 := hR6.2.2.1.2.2.2.2.1
            have s7 := hR6.2.2.1.2.2.2.2.2.2
            have ssz := hR6.2.1.2.2.1
            have u4 := ok2.2.2.2.1
            have u5 := hR6.2.2.2.1
            have u6 := ok2.2.2.2.2.2.1
            have u7 := ok2.2.2.2.2.2.2.1
            by_cases w3 : m_see M6 = 93
            · have hlt6 := hR6.lt (by omega)
              obtain ⟨C8, eC8⟩ : ∃ X : ax_V, X = ax_u (c_on C6 1) 600 11 ((C6 600 11) - 1) := ⟨_, rfl⟩
              obtain ⟨M8, eM8⟩ : ∃ X : ax_V, X = ax_u (m_on M6 1) 222 69 ((M6 222 69) - 1) := ⟨_, rfl⟩
              have hgC8 : ax_g C8 := by rw [eC8]; exact ax_u_g (ax_u_g hgC6 ⟨by omega, by omega⟩) ⟨by omega, by omega⟩
              have hgM8 : ax_g M8 := by rw [eM8]; exact ax_u_g (ax_u_g hgM6 ⟨by omega, by omega⟩) ⟨by omega, by omega⟩
              have z1 : e_mvC C6 C8 := by rw [eC8]; exact ((e_mvC.rf C6).u (by decide)).u (by decide)
              have v1 : e_mvM M6 M8 := by rw [eM8]; exact ((e_mvM.rf M6).u (by decide)).u (by decide)
              have z3 : (C8 600 6) = (C6 600 6) + 1 := by rw [eC8]; simp [c_on, ax_u]
              have z4 : (C8 600 11) = (C6 600 11) - 1 := by rw [eC8]; simp [ax_u]
              have z5 : (C8 600 12) = (C6 600 12) := by rw [eC8]; simp [c_on, ax_u]
              have z6 : (C8 600 13) = (C6 600 13) := by rw [eC8]; simp [c_on, ax_u]
              have v2 : (M8 222 68) = (M6 222 68) + 1 := by rw [eM8]; simp [m_on, ax_u]
              have v3 : (M8 222 69) = (M6 222 69) - 1 := by rw [eM8]; simp [ax_u]
              have v4 : (M8 222 72) = (M6 222 72) := by rw [eM8]; simp [m_on, ax_u]
              have v5 : (M8 222 26) = (M6 222 26) := v1.2 26 (by decide) (by decide) (by decide) (by decide)
              have v6 : (M8 222 74) = t := by rw [v1.2 74 (by decide) (by decide) (by decide) (by decide)]; exact u4.1.symm
              have h8 : e_R C8 M8 := hR6.mv ⟨hgC8, hgM8⟩ z1 v1 ⟨by omega, by omega, by omega⟩ ⟨by omega, by omega, by omega⟩ ⟨by omega, by omega, by omega⟩ ⟨by omega, by omega⟩
              have c8 : (C8 516 0) = (M8 222 26) := h8.2.2.2.1.1
              have n8 : (M8 222 10) = (M 222 10) := by
                have e1 := fM5.2.2 10 (by decide) (by decide) (by decide) (by decide) (by decide) (by decide)
                have e2 := ok2.2.2.1.2.2 10 (by decide) (by decide) (by decide) (by decide) (by decide) (by decide)
                rw [v1.2 10 (by decide) (by decide) (by decide) (by decide), e2, e1]
              have mid3 := (mid2.part ok2).mv h8 z1 v1 (by omega)
              obtain ⟨sl, esl⟩ : ∃ x : Int, x = (C1 600 8) * 26 + (c_see C1 - 97) := ⟨_, rfl⟩
              have rsl : ax_rg sl := ⟨by omega, by omega⟩
              have rs : ax_rg s := ⟨by omega, by omega⟩
              have rt : ax_rg t := ⟨by omega, by omega⟩
              obtain ⟨C9, eC9⟩ : ∃ X : ax_V, X = ax_u (ax_u (c_mk C8 21 (C 600 6) ((C 600 6) + 1) sl) 521 (M8 222 26) s) 522 s t := ⟨_, rfl⟩
              obtain ⟨M9, eM9⟩ : ∃ X : ax_V, X = ax_u (ax_u (m_mk M8 21 (M 222 68) s t (-1)) 248 (M8 222 26) (m_see M1 - 97)) 244 (M8 222 26) (M1 222 68) := ⟨_, rfl⟩
              have hgC9 : ax_g C9 := by rw [eC9]; exact ax_u_g (ax_u_g (c_mk_g hgC8 (by decide) (hgC _ _) ⟨by omega, by omega⟩ rsl ⟨by omega, by omega⟩) rs) rt
              have hgM9 : ax_g M9 := by rw [eM9]; exact ax_u_g (ax_u_g (m_mk_g hgM8 (by decide) (hgM _ _) rs rt (by decide) ⟨by omega, by omega⟩) ⟨by omega, by omega⟩) ⟨by omega, by omega⟩
              have lt1 : C8 526 s = ax_b (0 < (C8 600 13)) := by
                rw [z1.1 526 (by decide), ok2.2.1.2.1 526 s (by decide) (by decide) (by omega), (e_mvC.on C4 1).1 526 (by decide), ok.2.2.2.2.1.2.2]
                rw [z6, u7.2.2, nl5, r7.2.2]
              have lt2 : C8 526 t = ax_b (0 < (C8 600 13)) := by
                rw [z1.1 526 (by decide), ok2.2.2.2.2.1.2.2, z6, u7.2.2]
              have nx : C8 522 t = -1 := by rw [z1.1 522 (by decide)]; exact ok2.2.2.2.2.1.1
              obtain ⟨-, -, -, b4, b5, -, -, b8, -⟩ := c_mk_at (C := C8) (o := 21) (f := (C 600 6)) (a := (C 600 6) + 1) (w := sl) rfl
              rw [c8] at b4 b5 b8
              obtain ⟨-, -, d3, -, -, -, -, -, -, -, -, d12, -⟩ := m_mk_at (M := M8) (o := 21) (f := (M 222 68)) (x := s) (y := t) (z := -1) rfl
              have fin : e_ok C M C9 M9 (M8 222 26) := by
                refine mid3.close2 (om := 21) (oc := 21) (f := (M 222 68)) (a := (C 600 6) + 1) (w := sl) (s := s) (t := t) (fun x => ⟨fun z => ?_, fun z => ?_⟩) (by omega) ⟨by omega, by omega, by omega⟩ (Or.inr (Or.inr rfl)) rfl ⟨by omega, by omega⟩ ⟨by omega, by omega⟩ rsl ⟨hgC9, hgM9⟩ (fun c q z => ?_) ?_ ?_ (fun c q z => ?_) lt1 lt2 ?_ (Int.le_refl _) (e_opk.au hau (by decide))
                · rcases z with (z | z) | z
                  · exact z.elim
                  · exact Or.inl z
                  · exact Or.inr z
                · rcases z with z | z
                  · exact Or.inl (Or.inr z)
                  · exact Or.inr z
                · rw [eC9, ax_u_o (fun y => z ⟨y.1, Or.inl y.2⟩), a1]
                · rw [eC9]; exact ax_u_s _ _ _ _
                · rw [eC9, ax_u_k (by omega), ax_u_ne (c' := 522) (by decide), (c_mk_f (C := C8)).2.1 522 t (by decide) (by decide) (by omega)]
                  exact nx
                · rw [eM9, ax_u_o (fun y => z ⟨y.2, Or.inr (Or.inl y.1)⟩), ax_u_o (fun y => z ⟨y.2, Or.inr (Or.inr (Or.inl y.1))⟩)]
                · have e1 : M9 241 (M8 222 26) = 21 := by rw [eM9, ax_u_ne (c' := 241) (by decide), ax_u_ne (c' := 241) (by decide)]; exact d3
                  have e2 : M9 248 (M8 222 26) = m_see M1 - 97 := by rw [eM9, ax_u_ne (c' := 248) (by decide)]; exact ax_u_s _ _ _ _
                  have e3 : M9 244 (M8 222 26) = (M1 222 68) := by rw [eM9]; exact ax_u_s _ _ _ _
                  have e4 : M9 250 (M8 222 26) = (M 222 10) := by rw [eM9, ax_u_ne (c' := 250) (by decide), ax_u_ne (c' := 250) (by decide), d12]; exact n8
                  have g1 : C9 520 (M8 222 26) = sl := by rw [eC9, ax_u_ne (c' := 520) (by decide), ax_u_ne (c' := 520) (by decide)]; exact b5
                  have g2 : C9 519 (M8 222 26) = (C 600 6) + 1 := by rw [eC9, ax_u_ne (c' := 519) (by decide), ax_u_ne (c' := 519) (by decide)]; exact b4
                  have g3 : C9 523 (M8 222 26) = -1 := by rw [eC9, ax_u_ne (c' := 523) (by decide), ax_u_ne (c' := 523) (by decide)]; exact b8
                  unfold e_dt
                  rw [e1, e2, e3, e4, g1, g2, g3]
                  exact ⟨fun q => by rcases q with q | q <;> omega, fun q => by omega, fun _ => ⟨⟨by omega, by omega⟩, by omega, by omega, ⟨by omega, by omega⟩, rfl⟩, fun q => by omega, fun q => by omega, fun q => by omega, fun q => by omega⟩
              refine Or.inl ⟨(M8 222 26), C9, M9, ?_, ?_, fin⟩
              · refine hcl2 _ _ (t_expect hgC2 (by decide) h2.ci (fun _ => ja.k (by omega) (fun _ _ => t_expect hgC4 (by decide) hR4.ci (fun _ => la.k (by omega) (fun _ _ => t_expect hgC6 (by decide) hR6.ci (fun _ => ?_) (fun z => absurd (by rw [hs6]; exact w3) z))) (fun z => absurd (by rw [hs4]; exact w2) z))) (fun z => absurd (by rw [hs2]; exact w1) z))
                have e1 : (c_on C6 1) 600 11 = (C6 600 11) := by simp [c_on, ax_u]
                rw [e1]
                refine ⟨⟨by omega, by omega⟩, fun V9 e9 => ?_⟩
                rw [e9, ← eC8, ← esl]
                refine t_addPart hgC8 (by decide) (hgC _ _) ⟨by omega, by omega⟩ rsl ⟨by omega, by omega⟩ ?_
                rw [c8]
                exact ⟨⟨by omega, by omega⟩, fun V11 e11 => ⟨⟨by omega, by omega⟩, fun V12 e12 => ⟨rfl, by rw [e12, e11, eC9]⟩⟩⟩
              · refine hml _ (s_takeLetter y0 h1.mi (fun _ => ⟨fun z => by omega, fun _ => s_want hgM2 (by decide) h2.mi (fun _ => ⟨fun z => absurd z (by decide), fun _ => jb.k (by omega) (fun _ _ => ⟨fun z => absurd z (by decide), fun _ => s_want hgM4 (by decide) hR4.mi (fun _ => ⟨fun z => absurd z (by decide), fun _ => lb.k (by omega) (fun _ _ => ⟨fun z => absurd z (by decide), fun _ => s_want hgM6 (by decide) hR6.mi (fun _ => ⟨fun z => absurd z (by decide), fun _ => ?_⟩) (fun z => absurd w3 z)⟩)⟩) (fun z => absurd w2 z)⟩)⟩) (fun z => absurd w1 z)⟩) (fun z => absurd hl z))
                have e1 : (m_on M6 1) 222 69 = (M6 222 69) := by simp [m_on, ax_u]
                rw [e1]
                refine ⟨⟨by omega, by omega⟩, fun V8 e8 => ?_⟩
                rw [e8, ← eM8, v6, ← r4.1]
                exact s_makePart hgM8 (by decide) (hgM _ _) rs rt (by decide) ⟨by omega, by omega⟩ ⟨⟨by omega, by omega⟩, fun V10 e10 => ⟨⟨by omega, by omega⟩, fun V11 e11 => ⟨rfl, by rw [e11, e10, eM9]⟩⟩⟩
            · exact Or.inr (Or.inl ⟨C6, M6, ax_Xe.ofI (hcl2 _ _ (t_expect hgC2 (by decide) h2.ci (fun _ => ja.k (by omega) (fun _ _ => t_expect hgC4 (by decide) hR4.ci (fun _ => la.k (by omega) (fun _ _ => t_expect hgC6 (by decide) hR6.ci (fun z => absurd (by rw [← hs6]; exact z) w3) (fun _ => rfl))) (fun z => absurd (by rw [hs4]; exact w2) z))) (fun z => absurd (by rw [hs2]; exact w1) z))), hml _ (s_takeLetter y0 h1.mi (fun _ => ⟨fun z => by omega, fun _ => s_want hgM2 (by decide) h2.mi (fun _ => ⟨fun z => absurd z (by decide), fun _ => jb.k (by omega) (fun _ _ => ⟨fun z => absurd z (by decide), fun _ => s_want hgM4 (by decide) hR4.mi (fun _ => ⟨fun z => absurd z (by decide), fun _ => lb.k (by omega) (fun _ _ => ⟨fun z => absurd z (by decide), fun _ => s_want hgM6 (by decide) hR6.mi (fun z => absurd z w3) (fun _ => ⟨fun _ => ⟨rfl, rfl⟩, fun z => absurd rfl z⟩)⟩)⟩) (fun z => absurd w2 z)⟩)⟩) (fun z => absurd w1 z)⟩) (fun z => absurd hl z)), hR6.1, s1.1, fC5.tr ok2.2.1 (by omega), fM5.tr ok2.2.2.1 (by omega)⟩)
          · exact Or.inr (Or.inl ⟨C6, M6, ax_Xe.ofI (hcl2 _ _ (t_expect hgC2 (by decide) h2.ci (fun _ => ja.k (by omega) (fun _ _ => t_expect hgC4 (by decide) hR4.ci (fun _ => la.kI (by omega) (fun _ => rfl)) (fun z => absurd (by rw [hs4]; exact w2) z))) (fun z => absurd (by rw [hs2]; exact w1) z))), hml _ (s_takeLetter y0 h1.mi (fun _ => ⟨fun z => by omega, fun _ => s_want hgM2 (by decide) h2.mi (fun _ => ⟨fun z => absurd z (by decide), fun _ => jb.k (by omega) (fun _ _ => ⟨fun z => absurd z (by decide), fun _ => s_want hgM4 (by decide) hR4.mi (fun _ => ⟨fun z => absurd z (by decide), fun _ => lb.k (by omega) (fun _ _ => ⟨fun _ => ⟨rfl, rfl⟩, fun z => absurd rfl z⟩)⟩) (fun z => absurd w2 z)⟩)⟩) (fun z => absurd w1 z)⟩) (fun z => absurd hl z)), no2.1, no2.2.1, fC5.tr no2.2.2.1 (by omega), fM5.tr no2.2.2.2 (by omega)⟩)
          · exact Or.inr (Or.inl ⟨C6, M6, ax_Xe.ofI (hcl2 _ _ (t_expect hgC2 (by decide) h2.ci (fun _ => ja.k (by omega) (fun _ _ => t_expect hgC4 (by decide) hR4.ci (fun _ => la.k (by omega) (fun _ _ => t_expect hf2.1.1.1 (by decide) (e_half.ci h5 hf2) (fun z => absurd z dg2.ne.2.1) (fun _ => rfl))) (fun z => absurd (by rw [hs4]; exact w2) z))) (fun z => absurd (by rw [hs2]; exact w1) z))), hml _ (s_takeLetter y0 h1.mi (fun _ => ⟨fun z => by omega, fun _ => s_want hgM2 (by decide) h2.mi (fun _ => ⟨fun z => absurd z (by decide), fun _ => jb.k (by omega) (fun _ _ => ⟨fun z => absurd z (by decide), fun _ => s_want hgM4 (by decide) hR4.mi (fun _ => ⟨fun z => absurd z (by decide), fun _ => lb.k (by omega) (fun _ _ => ⟨fun _ => ⟨rfl, rfl⟩, fun z => absurd rfl z⟩)⟩) (fun z => absurd w2 z)⟩)⟩) (fun z => absurd w1 z)⟩) (fun z => absurd hl z)), hf2.1.1, hf2.1.2.1, fC5.tr hf2.1.2.2.1 (by omega), fM5.tr hf2.1.2.2.2 (by omega)⟩)
        · exact Or.inr (Or.inl ⟨C4, M4, ax_Xe.ofI (hcl2 _ _ (t_expect hgC2 (by decide) h2.ci (fun _ => ja.k (by omega) (fun _ _ => t_expect hgC4 (by decide) hR4.ci (fun z => absurd (by rw [← hs4]; exact z) w2) (fun _ => rfl))) (fun z => absurd (by rw [hs2]; exact w1) z))), hml _ (s_takeLetter y0 h1.mi (fun _ => ⟨fun z => by omega, fun _ => s_want hgM2 (by decide) h2.mi (fun _ => ⟨fun z => absurd z (by decide), fun _ => jb.k (by omega) (fun _ _ => ⟨fun z => absurd z (by decide), fun _ => s_want hgM4 (by decide) hR4.mi (fun z => absurd z w2) (fun _ => ⟨fun _ => ⟨rfl, rfl⟩, fun z => absurd rfl z⟩)⟩)⟩) (fun z => absurd w1 z)⟩) (fun z => absurd hl z)), hR4.1, hat4.1, mvC3.fr.tr ok.2.1 mp3, mvM3.fr.tr ok.2.2.1 mp3⟩)
      · exact Or.inr (Or.inl ⟨C4, M4, ax_Xe.ofI (hcl2 _ _ (t_expect hgC2 (by decide) h2.ci (fun _ => ja.kI (by omega) (fun _ => rfl)) (fun z => absurd (by rw [hs2]; exact w1) z))), hml _ (s_takeLetter y0 h1.mi (fun _ => ⟨fun z => by omega, fun _ => s_want hgM2 (by decide) h2.mi (fun _ => ⟨fun z => absurd z (by decide), fun _ => jb.k (by omega) (fun _ _ => ⟨fun _ => ⟨rfl, rfl⟩, fun z => absurd rfl z⟩)⟩) (fun z => absurd w1 z)⟩) (fun z => absurd hl z)), no.1, no.2.1, mvC3.fr.tr no.2.2.1 mp3, mvM3.fr.tr no.2.2.2 mp3⟩)
      · exact Or.inr (Or.inl ⟨C4, M4, ax_Xe.ofI (hcl2 _ _ (t_expect hgC2 (by decide) h2.ci (fun _ => ja.k (by omega) (fun _ _ => t_expect hf.1.1.1 (by decide) (e_half.ci h3 hf) (fun z => absurd z dg.ne.1) (fun _ => rfl))) (fun z => absurd (by rw [hs2]; exact w1) z))), hml _ (s_takeLetter y0 h1.mi (fun _ => ⟨fun z => by omega, fun _ => s_want hgM2 (by decide) h2.mi (fun _ => ⟨fun z => absurd z (by decide), fun _ => jb.k (by omega) (fun _ _ => ⟨fun _ => ⟨rfl, rfl⟩, fun z => absurd rfl z⟩)⟩) (fun z => absurd w1 z)⟩) (fun z => absurd hl z)), hf.1.1, hf.1.2.1, mvC3.fr.tr hf.1.2.2.1 mp3, mvM3.fr.tr hf.1.2.2.2 mp3⟩)
    · exact Or.inr (Or.inl ⟨c_on C1 1, m_on M1 1, ax_Xe.ofI (hcl2 _ _ (t_expect hgC2 (by decide) h2.ci (fun z => absurd (by rw [← hs2]; exact z) w1) (fun _ => rfl))), hml _ (s_takeLetter y0 h1.mi (fun _ => ⟨fun z => by omega, fun _ => s_want hgM2 (by decide) h2.mi (fun z => absurd z w1) (fun _ => ⟨fun _ => ⟨rfl, rfl⟩, fun z => absurd rfl z⟩)⟩) (fun z => absurd hl z)), h2.1, hat2.1, (x1.tr (e_mvC.on C1 1)).fr, (y1.tr (e_mvM.on M1 1)).fr⟩)
  · exact Or.inr (Or.inl ⟨C1, M1, ax_Xe.ofI (hcl _ _ (t_takeLetter x2 h1.ci ⟨by omega, by omega⟩ (fun z => absurd (by rw [hs1] at z; exact z) hl) (fun _ => rfl))), hml _ (s_takeLetter y0 h1.mi (fun z => absurd z hl) (fun _ => ⟨fun _ => ⟨rfl, rfl⟩, fun z => absurd rfl z⟩)), h1.1, h1.2.2.1.1.1, x1.fr, y1.fr⟩)
end Merge
