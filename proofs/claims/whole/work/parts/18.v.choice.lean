/-! a ? b : c -/
section Choice
variable {B r k : Nat}
set_option maxHeartbeats 2000000 in
theorem e_readC (hK : e_K B r k) (ihC : ∀ k' : Nat, k = k' + 1 → e_Cc B r k') : e_Cc B r k := by
  intro C M h hk
  obtain ⟨hgC, hgM⟩ := id h.1
  have hd0 := h.2.2.1.2.2.1
  have hb0 := h.2.2.1.2.2.2.2.1
  have hl0 := h.2.2.1.2.2.2.2.2.2
  have p0 := h.2.2.2.1
  rcases e_ranked hK 5 0 (by omega) (by omega) C M h hk with ⟨p, C1, M1, ia, ib, ok⟩ | ⟨C1, M1, ia, ib, no⟩ | ⟨p, C1, M1, ia, ib, hf, dg⟩
  · have hR := ok.1
    have mi := hR.mi
    have ci := hR.ci
    have hs := hR.see
    obtain ⟨hgC1, hgM1⟩ := id hR.1
    have hsz := hR.2.1.2.2.1
    have hat := hR.2.2.1.1
    have hd1 := hR.2.2.1.2.2.1
    have hb1 := hR.2.2.1.2.2.2.2.1
    have hl1 := hR.2.2.1.2.2.2.2.2.2
    have q4 := ok.2.2.2.1
    have q5 := hR.2.2.2.1
    have q7 := ok.2.2.2.2.2.2.1
    have q6 := ok.2.2.2.2.2.1
    have msz : (M1 222 3) = (M 222 3) := ok.2.2.1.2.2 3 (by decide) (by decide) (by decide) (by decide) (by decide) (by decide)
    have rp : ax_rg p := ⟨by omega, by omega⟩
    by_cases w63 : m_see M1 = 63
    · have hlt := hR.lt (by omega)
      by_cases hk0 : k = 0
      · refine Or.inr (Or.inl ⟨C1, M1, ax_Xe.ofI (r_Reader_readC hgC (ax_Ie.k ia (by omega) (fun _ _ => t_look hgC1 ci ⟨fun _ => t_deepen hgC1 (by omega) (fun z => by omega) (fun _ => rfl), fun z => absurd (by rw [hs]; exact w63) z⟩))), r_Model_readC hgM (ax_Ie.k ib (by omega) (fun _ _ => ⟨fun z => absurd z (by decide), fun _ => s_see hgM1 mi ⟨fun _ => r_Model_readChoice hgM1 (s_open hgM1 ⟨by decide, by decide⟩ ⟨by omega, by omega⟩ ⟨by omega, by omega⟩ (fun z => by omega) (fun _ => ⟨fun _ => ⟨fun _ => ⟨rfl, rfl⟩, fun z => absurd rfl z⟩, fun z => absurd rfl z⟩)), fun z => absurd w63 z⟩⟩)), hR.1, hat.1, ok.2.1, ok.2.2.1⟩)
      · obtain ⟨k', ek⟩ : ∃ k' : Nat, k = k' + 1 := ⟨k - 1, by omega⟩
        have ihC' := ihC k' ek
        obtain ⟨C2, eC2⟩ : ∃ X : ax_V, X = ax_u (ax_u C1 600 11 ((C1 600 11) + 1)) 600 6 ((C1 600 6) + 1) := ⟨_, rfl⟩
        obtain ⟨M2, eM2⟩ : ∃ X : ax_V, X = ax_u (ax_u M1 222 69 ((M1 222 69) + 1)) 222 68 ((M1 222 68) + 1) := ⟨_, rfl⟩
        have x1 : e_mvC C1 C2 := by rw [eC2]; exact ((e_mvC.rf C1).u (by decide)).u (by decide)
        have y1 : e_mvM M1 M2 := by rw [eM2]; exact ((e_mvM.rf M1).u (by decide)).u (by decide)
        have x2 : ax_g C2 := by rw [eC2]; exact ax_u_g (ax_u_g hgC1 ⟨by omega, by omega⟩) ⟨by omega, by omega⟩
        have y0 : ax_g M2 := by rw [eM2]; exact ax_u_g (ax_u_g hgM1 ⟨by omega, by omega⟩) ⟨by omega, by omega⟩
        have x3 : (C2 600 6) = (C1 600 6) + 1 := by rw [eC2]; simp [ax_u]
        have x4 : (C2 600 11) = (C1 600 11) + 1 := by rw [eC2]; simp [ax_u]
        have x5 : (C2 600 12) = (C1 600 12) + 0 := by rw [eC2]; simp [ax_u]
        have x6 : (C2 600 13) = (C1 600 13) + 0 := by rw [eC2]; simp [ax_u]
        have y2 : (M2 222 68) = (M1 222 68) + 1 := by rw [eM2]; simp [ax_u]
        have y3 : (M2 222 69) = (M1 222 69) + 1 := by rw [eM2]; simp [ax_u]
        have y4 : (M2 222 72) = (M1 222 72) + 0 := by rw [eM2]; simp [ax_u]
        have y5 : (M2 222 26) = (M1 222 26) := y1.2 26 (by decide) (by decide) (by decide) (by decide)
        have y6 : (M2 222 3) = (M1 222 3) := y1.2 3 (by decide) (by decide) (by decide) (by decide)
        have h2 : e_R C2 M2 := hR.in (w := 1) (by omega) (by omega) (by omega) x1 y1 ⟨x2, y0⟩ x3 x4 x5 x6 y2 y3 y4 (Or.inl rfl) (Or.inl rfl)
        have mid1 := e_mid.first h ok h2 x1 y1 (by omega)
        have hcl : ∀ (Φ : Int → ax_V → Prop) (Θ : ax_V → Prop), ax_I (az_W B (az_ER B r)) (20 * k + 17) q_Reader_readC [.ref r] C2 (fun r5 V5 => ax_N (az_W B (az_ER B r)) (20 * k + 17) q_Reader_expect [.ref r, ax_i 58] V5 (fun V6 => ax_I (az_W B (az_ER B r)) (20 * k + 17) q_Reader_readC [.ref r] V6 (fun r7 V7 => ax_rg ((V7 600 11) - 1) ∧ (∀ V8, V8 = ax_u V7 600 11 ((V7 600 11) - 1) → ax_I (az_W B (az_ER B r)) (20 * k + 17) q_Reader_join [.ref r, ax_i 18, ax_i (C1 600 6), ax_i p, ax_i r5, ax_i r7] V8 (fun r9 V9 => Φ r9 V9) Θ)) Θ) Θ) Θ → ax_I (az_W B (az_ER B r)) (20 * k + 18) q_Reader_readC [.ref r] C Φ Θ := by
          intro Φ Θ hh
          refine r_Reader_readC hgC (ax_Ie.k ia (by omega) (fun _ _ => t_look hgC1 ci ⟨fun _ => t_deepen hgC1 (by omega) (fun _ => ?_) (fun z => by omega), fun z => absurd (by rw [hs]; exact w63) z⟩))
          have e1 : (ax_u C1 600 11 ((C1 600 11) + 1)) 600 6 = (C1 600 6) := by simp [ax_u]
          rw [e1]
          refine ⟨⟨by omega, by omega⟩, fun V4 e4 => ?_⟩
          rw [e4, ← eC2]
          exact hh
        have hml : ∀ (Φ : Int → ax_V → Prop), (Φ 0 = Φ 0) → ax_I ay_lay (20 * k + 17) q_Model_readC [.ref 222] M2 (fun r2 V2 => ((r2 = 0 → Φ 0 V2) ∧ (¬ r2 = 0 → ax_I ay_lay (20 * k + 17) q_Model_want [.ref 222, ax_i 58] V2 (fun r3 V3 => ((r3 = 0 → Φ 0 V3) ∧ (¬ r3 = 0 → ax_I ay_lay (20 * k + 17) q_Model_readC [.ref 222] V3 (fun r4 V4 => ((r4 = 0 → Φ 0 V4) ∧ (¬ r4 = 0 → ax_rg ((V4 222 69) - 1) ∧ (∀ V5, V5 = ax_u V4 222 69 ((V4 222 69) - 1) → (0 ≤ (M1 222 74) ∧ (M1 222 74) < 701) ∧ ax_I ay_lay (20 * k + 17) q_Model_makePart [.ref 222, ax_i 18, ax_i (V5 242 (M1 222 74)), ax_i (M1 222 74), ax_i (V2 222 74), ax_i (V5 222 74)] V5 (fun r6 V6 => ((r6 < 0 → Φ 0 V6) ∧ (0 ≤ r6 → Φ 1 V6))) (fun _ => False))))) (fun _ => False)))) (fun _ => False)))) (fun _ => False) → ax_I ay_lay (20 * k + 19) q_Model_readC [.ref 222] M Φ (fun _ => False) := by
          intro Φ _ hh
          refine r_Model_readC hgM (ax_Ie.k ib (by omega) (fun _ _ => ⟨fun z => absurd z (by decide), fun _ => s_see hgM1 mi ⟨fun _ => r_Model_readChoice hgM1 (s_open hgM1 ⟨by decide, by decide⟩ ⟨by omega, by omega⟩ ⟨by omega, by omega⟩ (fun _ => ⟨fun z => absurd z (by decide), fun _ => ?_⟩) (fun z => by omega)), fun z => absurd w63 z⟩⟩))
          rw [← eM2]
          refine ax_I.mono hh (Nat.le_refl _) (fun x V' hg hx w => ⟨fun z => ⟨fun _ => w.1 z, fun q => absurd rfl q⟩, fun z => ax_I.mono (w.2 z) (Nat.le_refl _) (fun x V' hg hx w => ⟨fun z => ⟨fun _ => w.1 z, fun q => absurd rfl q⟩, fun z => ax_I.mono (w.2 z) (Nat.le_refl _) (fun x V' hg hx w => ⟨fun z => ⟨fun _ => w.1 z, fun q => absurd rfl q⟩, fun z => ⟨(w.2 z).1, fun V5 e5 => ⟨((w.2 z).2 V5 e5).1, ax_I.mono ((w.2 z).2 V5 e5).2 (Nat.le_refl _) (fun x V' hg hx w => ⟨fun z => ⟨fun _ => w.1 z, fun q => absurd rfl q⟩, fun z => ⟨fun q => absurd q (by decide), fun _ => w.2 z⟩⟩) (fun _ _ q => q)⟩⟩⟩) (fun _ _ q => q)⟩) (fun _ _ q => q)⟩) (fun _ _ q => q)
        have fC2 := ok.2.1.tr x1.fr (Int.le_refl _)
        have fM2 := ok.2.2.1.tr y1.fr (Int.le_refl _)
        rcases ihC' C2 M2 h2 (by omega) with ⟨p2, C3, M3, ja, jb, ok2⟩ | ⟨C3, M3, ja, jb, no2⟩ | ⟨p2, C3, M3, ja, jb, hf2, dg2⟩
        · have hR3 := ok2.1
          obtain ⟨hgC3, hgM3⟩ := id hR3.1
          have hs3 := hR3.see
          have hat3 := hR3.2.2.1.1
          have hsz3 := hR3.2.1.2.2.1
          have r4 := ok2.2.2.2.1
          have r5 := hR3.2.2.2.1
          have r6 := ok2.2.2.2.2.2.1
          have r7 := ok2.2.2.2.2.2.2.1
          by_cases w58 : m_see M3 = 58
          · have hlt3 := hR3.lt (by omega)
            have h4 : e_R (c_on C3 1) (m_on M3 1) := hR3.on (by omega) (by omega)
            have na : (m_on M3 1) 222 68 = (M3 222 68) + 1 := by simp [m_on, ax_u]
            have np : (m_on M3 1) 222 26 = (M3 222 26) := by simp [m_on, ax_u]
            have nd : (m_on M3 1) 222 69 = (M3 222 69) := by simp [m_on, ax_u]
            have nb : (m_on M3 1) 222 72 = (M3 222 72) := by simp [m_on, ax_u]
            have nz : (m_on M3 1) 222 3 = (M3 222 3) := by simp [m_on, ax_u]
            have ca : (c_on C3 1) 600 6 = (C3 600 6) + 1 := by simp [c_on, ax_u]
            have cl : (c_on C3 1) 600 13 = (C3 600 13) := by simp [c_on, ax_u]
            have cd : (c_on C3 1) 600 11 = (C3 600 11) := by simp [c_on, ax_u]
            have cp : (c_on C3 1) 600 12 = (C3 600 12) := by simp [c_on, ax_u]
            have mid3 := (mid1.part ok2).mv h4 (e_mvC.on C3 1) (e_mvM.on M3 1) (by omega)
            have fC4 := (fC2.tr ok2.2.1 (by omega)).tr (e_mvC.on C3 1).fr (Int.le_refl _)
            have fM4 := (fM2.tr ok2.2.2.1 (by omega)).tr (e_mvM.on M3 1).fr (Int.le_refl _)
            have hcl4 : ∀ (Φ : Int → ax_V → Prop) (Θ : ax_V → Prop), ax_I (az_W B (az_ER B r)) (20 * k + 17) q_Reader_readC [.ref r] (c_on C3 1) (fun r7 V7 => ax_rg ((V7 600 11) - 1) ∧ (∀ V8, V8 = ax_u V7 600 11 ((V7 600 11) - 1) → ax_I (az_W B (az_ER B r)) (20 * k + 17) q_Reader_join [.ref r, ax_i 18, ax_i (C1 600 6), ax_i p, ax_i p2, ax_i r7] V8 (fun r9 V9 => Φ r9 V9) Θ)) Θ → ax_I (az_W B (az_ER B r)) (20 * k + 18) q_Reader_readC [.ref r] C Φ Θ := fun Φ Θ hh => hcl Φ Θ (ja.k (by omega) (fun _ _ => t_expect hgC3 (by decide) hR3.ci (fun _ => hh) (fun z => absurd (by rw [hs3]; exact w58) z)))
            have hml4 : ∀ (Φ : Int → ax_V → Prop), ax_I ay_lay (20 * k + 17) q_Model_readC [.ref 222] (m_on M3 1) (fun r4 V4 => ((r4 = 0 → Φ 0 V4) ∧ (¬ r4 = 0 → ax_rg ((V4 222 69) - 1) ∧ (∀ V5, V5 = ax_u V4 222 69 ((V4 222 69) - 1) → (0 ≤ (M1 222 74) ∧ (M1 222 74) < 701) ∧ ax_I ay_lay (20 * k + 17) q_Model_makePart [.ref 222, ax_i 18, ax_i (V5 242 (M1 222 74)), ax_i (M1 222 74), ax_i (M3 222 74), ax_i (V5 222 74)] V5 (fun r6 V6 => ((r6 < 0 → Φ 0 V6) ∧ (0 ≤ r6 → Φ 1 V6))) (fun _ => False))))) (fun _ => False) → ax_I ay_lay (20 * k + 19) q_Model_readC [.ref 222] M Φ (fun _ => False) := fun Φ hh => hml Φ rfl (jb.k (by omega) (fun _ _ => ⟨fun z => absurd z (by decide), fun _ => s_want hgM3 (by decide) hR3.mi (fun _ => ⟨fun z => absurd z (by decide), fun _ => hh⟩) (fun z => absurd w58 z)⟩))
            rcases ihC' _ _ h4 (by omega) with ⟨p3, C5, M5, la, lb, ok3⟩ | ⟨C5, M5, la, lb, no3⟩ | ⟨p3, C5, M5, la, lb, hf3, dg3⟩
            · have hR5 := ok3.1
              obtain ⟨hgC5, hgM5⟩ := id hR5.1
              have s1 := hR5.2.2.1.1
              have s3 := hR5.2.2.1.2.2.1
              have s5 := hR5.2.2.1.2.2.2.2.1
              have s7 := hR5.2.2.1.2.2.2.2.2.2
              have ssz := hR5.2.1.2.2.1
              have u4 := ok3.2.2.2.1
              have u5 := hR5.2.2.2.1
              have u6 := ok3.2.2.2.2.2.1
              have u7 := ok3.2.2.2.2.2.2.1
              obtain ⟨C6, eC6⟩ : ∃ X : ax_V, X = ax_u C5 600 11 ((C5 600 11) - 1) := ⟨_, rfl⟩
              obtain ⟨M6, eM6⟩ : ∃ X : ax_V, X = ax_u M5 222 69 ((M5 222 69) - 1) := ⟨_, rfl⟩
              have hgC6 : ax_g C6 := by rw [eC6]; exact ax_u_g hgC5 ⟨by omega, by omega⟩
              have hgM6 : ax_g M6 := by rw [eM6]; exact ax_u_g hgM5 ⟨by omega, by omega⟩
              have z1 : e_mvC C5 C6 := by rw [eC6]; exact (e_mvC.rf C5).u (by decide)
              have v1 : e_mvM M5 M6 := by rw [eM6]; exact (e_mvM.rf M5).u (by decide)
              have z3 : (C6 600 6) = (C5 600 6) := by rw [eC6]; simp [ax_u]
              have z4 : (C6 600 11) = (C5 600 11) - 1 := by rw [eC6]; simp [ax_u]
              have z5 : (C6 600 12) = (C5 600 12) := by rw [eC6]; simp [ax_u]
              have z6 : (C6 600 13) = (C5 600 13) := by rw [eC6]; simp [ax_u]
              have v2 : (M6 222 68) = (M5 222 68) := by rw [eM6]; simp [ax_u]
              have v3 : (M6 222 69) = (M5 222 69) - 1 := by rw [eM6]; simp [ax_u]
              have v4 : (M6 222 72) = (M5 222 72) := by rw [eM6]; simp [ax_u]
              have v5 : (M6 222 26) = (M5 222 26) := v1.2 26 (by decide) (by decide) (by decide) (by decide)
              have v6 : (M6 222 74) = p3 := by rw [v1.2 74 (by decide) (by decide) (by decide) (by decide)]; exact u4.1.symm
              have h6 : e_R C6 M6 := hR5.mv ⟨hgC6, hgM6⟩ z1 v1 ⟨by omega, by omega, by omega⟩ ⟨by omega, by omega, by omega⟩ ⟨by omega, by omega, by omega⟩ ⟨by omega, by omega⟩
              have c6 : (C6 516 0) = (M6 222 26) := h6.2.2.2.1.1
              have mid5 := (mid3.part ok3).mv h6 z1 v1 (by omega)
              have bp := (h6.2.2.2.2.2 p (by omega) (by omega)).2
              obtain ⟨M7, eM7⟩ : ∃ X : ax_V, X = m_mk M6 18 (M6 242 p) p p2 p3 := ⟨_, rfl⟩
              obtain ⟨C7, eC7⟩ : ∃ X : ax_V, X = c_join C6 18 (C1 600 6) p p2 p3 := ⟨_, rfl⟩
              have hgM7 : ax_g M7 := by rw [eM7]; exact m_mk_g hgM6 (by decide) (hgM6 _ _) rp ⟨by omega, by omega⟩ ⟨by omega, by omega⟩ ⟨by omega, by omega⟩
              have hgC7 : ax_g C7 := by rw [eC7]; exact c_join_g hgC6 (by decide) (hgC1 _ _) rp ⟨by omega, by omega⟩ ⟨by omega, by omega⟩ ⟨by omega, by omega⟩
              have eC7' : C7 = ax_u (ax_u (ax_u (c_mk C6 18 (M6 242 p) (C1 600 6) 0) 521 (M6 222 26) p) 522 p p2) 522 p2 p3 := by rw [eC7]; unfold c_join; rw [c6, bp.1]
              have n3 : C6 522 p3 = -1 := by rw [z1.1 522 (by decide)]; exact ok3.2.2.2.2.1.1
              have lt1 : C6 526 p = ax_b (0 < (C6 600 13)) := by
                rw [z1.1 526 (by decide), ok3.2.1.2.1 526 p (by decide) (by decide) (by omega), (e_mvC.on C3 1).1 526 (by decide), ok2.2.1.2.1 526 p (by decide) (by decide) (by omega), x1.1 526 (by decide), ok.2.2.2.2.1.2.2]
                rw [z6, u7.2.2, cl, r7.2.2, x6, q7.2.2, Int.add_zero]
              have lt2 : C6 526 p2 = ax_b (0 < (C6 600 13)) := by
                rw [z1.1 526 (by decide), ok3.2.1.2.1 526 p2 (by decide) (by decide) (by omega), (e_mvC.on C3 1).1 526 (by decide), ok2.2.2.2.2.1.2.2]
                rw [z6, u7.2.2, cl, r7.2.2]
              have lt3 : C6 526 p3 = ax_b (0 < (C6 600 13)) := by
                rw [z1.1 526 (by decide), ok3.2.2.2.2.1.2.2, z6, u7.2.2]
              have fin : e_ok C M C7 M7 (M6 222 26) := by
                refine mid5.close3 (f := M6 242 p) (a := (C1 600 6)) (w := 0) (s := p) (t := p2) (v := p3) (fun x => or_assoc) (by omega) (by omega) ⟨by omega, by omega, by omega⟩ bp.2.1 (hgC1 _ _) (by decide) ⟨hgC7, hgM7⟩ (fun c q z => ?_) ?_ ?_ ?_ (fun c q => by rw [eM7]) lt1 lt2 lt3 (mid5.2.2.2.1.2.2.2.2 p (by omega) (by omega)).2.2.2.2.1
                · rw [eC7', ax_u_o (fun y => z ⟨y.1, Or.inr (Or.inl y.2)⟩), ax_u_o (fun y => z ⟨y.1, Or.inl y.2⟩)]
                · rw [eC7', ax_u_k (by omega), ax_u_s]
                · rw [eC7']; exact ax_u_s _ _ _ _
                · rw [eC7', ax_u_k (by omega), ax_u_k (by omega), ax_u_ne (c' := 522) (by decide), (c_mk_f (C := C6)).2.1 522 p3 (by decide) (by decide) (by omega)]
                  exact n3
              refine Or.inl ⟨(M6 222 26), C7, M7, hcl4 _ _ (la.k (by omega) (fun _ _ => ⟨⟨by omega, by omega⟩, fun V8 e8 => ?_⟩)), hml4 _ (lb.k (by omega) (fun _ _ => ⟨fun z => absurd z (by decide), fun _ => ⟨⟨by omega, by omega⟩, fun V8 e8 => ?_⟩⟩)), fin⟩
              · rw [e8, ← eC6]
                exact t_join hgC6 (by decide) (hgC1 _ _) ⟨by omega, by omega⟩ ⟨by omega, by omega⟩ ⟨by omega, by omega⟩ ⟨by omega, by omega⟩ ⟨c6, eC7.symm⟩
              · rw [e8, ← eM6, v6, ← q4.1, ← r4.1]
                exact ⟨⟨by omega, by omega⟩, s_makePart hgM6 (by decide) (hgM6 _ _) rp ⟨by omega, by omega⟩ ⟨by omega, by omega⟩ ⟨by omega, by omega⟩ ⟨fun z => by omega, fun _ => ⟨rfl, eM7.symm⟩⟩⟩
            · exact Or.inr (Or.inl ⟨C5, M5, ax_Xe.ofI (hcl4 _ _ (la.kI (by omega) (fun _ => rfl))), hml4 _ (lb.k (by omega) (fun _ _ => ⟨fun _ => ⟨rfl, rfl⟩, fun z => absurd rfl z⟩)), no3.1, no3.2.1, fC4.tr no3.2.2.1 (by omega), fM4.tr no3.2.2.2 (by omega)⟩)
            · obtain ⟨⟨hg5, f1, f2, f3⟩, f4, f5, f6⟩ := id hf3
              have ci5 := e_half.ci h4 hf3
              have hd3 := hR3.2.2.1.2.2.1.1
              have hb3 := hR3.2.2.1.2.2.2.2.1.1
              have hd2 := h2.2.2.1.2.2.1
              obtain ⟨C6, eC6⟩ : ∃ X : ax_V, X = ax_u C5 600 11 ((C5 600 11) - 1) := ⟨_, rfl⟩
              have hgC6 : ax_g C6 := by rw [eC6]; exact ax_u_g hg5.1 ⟨by omega, by omega⟩
              have z1 : e_mvC C5 C6 := by rw [eC6]; exact (e_mvC.rf C5).u (by decide)
              have z3 : (C6 600 6) = (C5 600 6) := by rw [eC6]; simp [ax_u]
              have z4 : (C6 600 11) = (C5 600 11) - 1 := by rw [eC6]; simp [ax_u]
              have z5 : (C6 600 12) = (C5 600 12) := by rw [eC6]; simp [ax_u]
              have z6 : (C6 600 13) = (C5 600 13) := by rw [eC6]; simp [ax_u]
              have c6 : (C6 516 0) = (C5 516 0) := by rw [z1.1 516 (by decide)]
              obtain ⟨C7, eC7⟩ : ∃ X : ax_V, X = c_join C6 18 (C1 600 6) p p2 p3 := ⟨_, rfl⟩
              have hgC7 : ax_g C7 := by rw [eC7]; exact c_join_g hgC6 (by decide) (hgC1 _ _) rp ⟨by omega, by omega⟩ ⟨by omega, by omega⟩ ⟨by omega, by omega⟩
              obtain ⟨b1, -, -, -, -, -, -, -, -, -, -, -, b13, b14, b15, b16⟩ := c_mk_at (C := C6) (o := 18) (f := C6 518 p) (a := (C1 600 6)) (w := 0) rfl
              have v1 : (C7 516 0) = (C6 516 0) + 1 := by rw [eC7]; unfold c_join; rw [ax_u_ne (c' := 516) (by decide), ax_u_ne (c' := 516) (by decide), ax_u_ne (c' := 516) (by decide)]; exact b1
              have v2 : (C7 600 6) = (C6 600 6) := by rw [eC7]; unfold c_join; rw [ax_u_ne (c' := 600) (by decide), ax_u_ne (c' := 600) (by decide), ax_u_ne (c' := 600) (by decide)]; exact b13
              have v3 : (C7 600 11) = (C6 600 11) := by rw [eC7]; unfold c_join; rw [ax_u_ne (c' := 600) (by decide), ax_u_ne (c' := 600) (by decide), ax_u_ne (c' := 600) (by decide)]; exact b14
              have v4 : (C7 600 12) = (C6 600 12) := by rw [eC7]; unfold c_join; rw [ax_u_ne (c' := 600) (by decide), ax_u_ne (c' := 600) (by decide), ax_u_ne (c' := 600) (by decide)]; exact b15
              have v5 : (C7 600 13) = (C6 600 13) := by rw [eC7]; unfold c_join; rw [ax_u_ne (c' := 600) (by decide), ax_u_ne (c' := 600) (by decide), ax_u_ne (c' := 600) (by decide)]; exact b16
              have fC7 : e_fC C6 C7 (M 222 26) := by
                rw [eC7]; unfold c_join
                exact ((((c_mk_f.mono (by omega)).tr (e_fC.ua (by decide) (by omega)) (Int.le_refl _)).tr (e_fC.ua (by decide) (by omega)) (Int.le_refl _)).tr (e_fC.ua (by decide) (by omega)) (Int.le_refl _))
              have f57 : e_fC C5 C7 (M 222 26) := z1.fr.tr fC7 (Int.le_refl _)
              have e1 : (C7 600 1) = (C5 600 1) := f57.2.2 1 (by decide) (by decide) (by decide) (by decide)
              have e2 : C7 1 = C5 1 := f57.1 1 (by decide) (by decide)
              have dg7 : e_dig C7 := by
                have : c_see C7 = c_see C5 := by unfold c_see; rw [v2, z3, e1, e2]
                show 48 ≤ c_see C7 ∧ c_see C7 ≤ 57
                rw [this]; exact dg3
              have m3z : (M3 222 3) = (M2 222 3) := ok2.2.2.1.2.2 3 (by decide) (by decide) (by decide) (by decide) (by decide) (by decide)
              refine Or.inr (Or.inr ⟨(C6 516 0), C7, M5, hcl4 _ _ (la.k (by omega) (fun _ _ => ⟨⟨by omega, by omega⟩, fun V8 e8 => ?_⟩)), hml4 _ (lb.k (by omega) (fun _ _ => ⟨fun _ => ⟨rfl, rfl⟩, fun z => absurd rfl z⟩)), ⟨⟨⟨hgC7, hg5.2⟩, by omega, (fC4.tr f2 (by omega)).tr f57 (Int.le_refl _), fM4.tr f3 (by omega)⟩, ⟨by omega, by omega⟩, ⟨by omega, by omega, by omega⟩, ⟨by omega, by omega, by omega⟩⟩, dg7⟩)
              rw [e8, ← eC6]
              exact t_join hgC6 (by decide) (hgC1 _ _) ⟨by omega, by omega⟩ ⟨by omega, by omega⟩ ⟨by omega, by omega⟩ ⟨by omega, by omega⟩ ⟨rfl, eC7.symm⟩
          · exact Or.inr (Or.inl ⟨C3, M3, ax_Xe.ofI (hcl _ _ (ja.k (by omega) (fun _ _ => t_expect hgC3 (by decide) hR3.ci (fun z => absurd (by rw [← hs3]; exact z) w58) (fun _ => rfl)))), hml _ rfl (jb.k (by omega) (fun _ _ => ⟨fun z => absurd z (by decide), fun _ => s_want hgM3 (by decide) hR3.mi (fun z => absurd z w58) (fun _ => ⟨fun _ => ⟨rfl, rfl⟩, fun z => absurd rfl z⟩)⟩)), hR3.1, hat3.1, fC2.tr ok2.2.1 (by omega), fM2.tr ok2.2.2.1 (by omega)⟩)
        · exact Or.inr (Or.inl ⟨C3, M3, ax_Xe.ofI (hcl _ _ (ja.kI (by omega) (fun _ => rfl))), hml _ rfl (jb.k (by omega) (fun _ _ => ⟨fun _ => ⟨rfl, rfl⟩, fun z => absurd rfl z⟩)), no2.1, no2.2.1, fC2.tr no2.2.2.1 (by omega), fM2.tr no2.2.2.2 (by omega)⟩)
        · have dg2' : 48 ≤ c_see C3 ∧ c_see C3 ≤ 57 := dg2
          exact Or.inr (Or.inl ⟨C3, M3, ax_Xe.ofI (hcl _ _ (ja.k (by omega) (fun _ _ => t_expect hf2.1.1.1 (by decide) (e_half.ci h2 hf2) (fun z => by omega) (fun _ => rfl)))), hml _ rfl (jb.k (by omega) (fun _ _ => ⟨fun _ => ⟨rfl, rfl⟩, fun z => absurd rfl z⟩)), hf2.1.1, hf2.1.2.1, fC2.tr hf2.1.2.2.1 (by omega), fM2.tr hf2.1.2.2.2 (by omega)⟩)
    · refine Or.inl ⟨p, C1, M1, r_Reader_readC hgC (ax_Ie.k ia (by omega) (fun _ _ => t_look hgC1 ci ⟨fun z => absurd (by rw [← hs]; exact z) w63, fun _ => ⟨rfl, rfl⟩⟩)), r_Model_readC hgM (ax_Ie.k ib (by omega) (fun _ _ => ⟨fun z => absurd z (by decide), fun _ => s_see hgM1 mi ⟨fun z => absurd z w63, fun _ => ⟨rfl, rfl⟩⟩⟩)), ok⟩
  · exact Or.inr (Or.inl ⟨C1, M1, ax_Xe.ofI (r_Reader_readC hgC (ax_Xe.kI ia (by omega) (fun _ => rfl))), r_Model_readC hgM (ax_Ie.k ib (by omega) (fun _ _ => ⟨fun _ => ⟨rfl, rfl⟩, fun z => absurd rfl z⟩)), no⟩)
  · have ci1 := e_half.ci h hf
    have hg1 := hf.1.1.1
    have dg' : 48 ≤ c_see C1 ∧ c_see C1 ≤ 57 := dg
    exact Or.inr (Or.inr ⟨p, C1, M1, r_Reader_readC hgC (ax_Ie.k ia (by omega) (fun _ _ => t_look hg1 ci1 ⟨fun z => by omega, fun _ => ⟨rfl, rfl⟩⟩)), r_Model_readC hgM (ax_Ie.k ib (by omega) (fun _ _ => ⟨fun _ => ⟨rfl, rfl⟩, fun z => absurd rfl z⟩)), hf, dg⟩)
end Choice
