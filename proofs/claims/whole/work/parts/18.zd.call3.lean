/-! THE END OF A CALL: ) and perhaps ^ and a letter -/
section CallEnd
variable {B r k : Nat} {C M : ax_V}
set_option maxHeartbeats 2000000 in
theorem e_callEnd (h : e_R C M) (hlt : (M 222 68) < (M 222 3)) {w v : Int} (rw0 : ax_rg w) (rv : ax_rg v) (hfd : e_fd M (M 222 10) v w) {C2 M2 : ax_V} {f l : Int} {R : Int → Prop} (mg : e_mig C M C2 M2 R) (cn : e_cn C2 M2 f l R (C 600 13)) (rf : -1 ≤ f) (rl : ax_rg l) (hd : (M2 222 69) = (M 222 69) + 1) (hb : (M2 222 72) = (M 222 72)) (hdl : (C2 600 13) = (C 600 13)) (h41 : m_see M2 = 41) (hT : (M 222 71) = 0) :
    (∃ N C' M', (∀ z4 z5 z6, ax_y z4 → ax_y z5 → ax_y z6 → ∀ (Φ : Int → ax_V → Prop) (Θ : ax_V → Prop), Φ N C' → k_Reader_readCall_144 B r (20 * k + 28) (C 600 6) w f z4 z5 z6 C2 Φ Θ) ∧ (∀ z7, ax_y z7 → ∀ (Φ : Int → ax_V → Prop) (Θ : ax_V → Prop), Φ 1 M' → k_Model_readCall_75 (20 * k + 30) (M 222 68) v (M 222 72) f l 0 z7 M2 Φ Θ) ∧ e_ok C M C' M' N) ∨
    (∃ C' M', (∀ z4 z5 z6, ax_y z4 → ax_y z5 → ax_y z6 → ∀ (Φ : Int → ax_V → Prop) (Θ : ax_V → Prop), Θ C' → k_Reader_readCall_144 B r (20 * k + 28) (C 600 6) w f z4 z5 z6 C2 Φ Θ) ∧ (∀ z7, ax_y z7 → ∀ (Φ : Int → ax_V → Prop) (Θ : ax_V → Prop), Φ 0 M' → k_Model_readCall_75 (20 * k + 30) (M 222 68) v (M 222 72) f l 0 z7 M2 Φ Θ) ∧ e_no C M C' M') := by
  have hR := mg.1
  have mi := hR.mi
  have ci := hR.ci
  have hs := hR.see
  obtain ⟨hgC, hgM⟩ := id h.1
  obtain ⟨hgC2, hgM2⟩ := id hR.1
  have a0 := h.2.2.1.1
  have ad := h.2.2.1.2.2.1
  have ab := h.2.2.1.2.2.2.2.1
  have al := h.2.2.1.2.2.2.2.2.2
  have asz := h.2.1.2.2.1
  have p0 := h.2.2.2.1
  have hlt2 := hR.lt (by omega)
  have s1 := hR.2.2.1.1
  have s2 := hR.2.2.1.2.1
  have s3 := hR.2.2.1.2.2.1
  have s5 := hR.2.2.1.2.2.2.2.1
  have s7 := hR.2.2.1.2.2.2.2.2.2
  have ssz := hR.2.1.2.2.1
  have q5 := hR.2.2.2.1
  have msz : (M2 222 3) = (M 222 3) := mg.2.2.1.2.2 3 (by decide) (by decide) (by decide) (by decide) (by decide) (by decide)
  have mnd : (M2 222 10) = (M 222 10) := mg.2.2.1.2.2 10 (by decide) (by decide) (by decide) (by decide) (by decide) (by decide)
  have crd : (C2 600 8) = (C 600 8) := mg.2.1.2.2 8 (by decide) (by decide) (by decide) (by decide)
  have mnm : M2 226 = M 226 := mg.2.2.1.1 226 (by decide) (by decide)
  have bparts := mg.2.2.2.1
  have frg : ax_rg f := by
    rcases cn with z | ⟨z1, z2, -⟩
    · rw [z.1]; decide
    · have := mg.2.2.2.2.1 f ((z2 f).mpr ⟨z1.1, 0, rfl⟩)
      exact ⟨by omega, by omega⟩
  -- behind the )
  obtain ⟨C4, eC4⟩ : ∃ X : ax_V, X = ax_u (c_on C2 1) 600 11 ((C2 600 11) - 1) := ⟨_, rfl⟩
  obtain ⟨M4, eM4⟩ : ∃ X : ax_V, X = ax_u (ax_u (m_on M2 1) 222 72 (M 222 72)) 222 69 ((M2 222 69) - 1) := ⟨_, rfl⟩
  have hgC4 : ax_g C4 := by rw [eC4]; exact ax_u_g (ax_u_g hgC2 ⟨by omega, by omega⟩) ⟨by omega, by omega⟩
  have hgM4 : ax_g M4 := by rw [eM4]; exact ax_u_g (ax_u_g (ax_u_g hgM2 ⟨by omega, by omega⟩) (hgM _ _)) ⟨by omega, by omega⟩
  have z1 : e_mvC C2 C4 := by rw [eC4]; exact ((e_mvC.rf C2).u (by decide)).u (by decide)
  have v1 : e_mvM M2 M4 := by rw [eM4]; exact (((e_mvM.rf M2).u (by decide)).u (by decide)).u (by decide)
  have z3 : (C4 600 6) = (C2 600 6) + 1 := by rw [eC4]; simp [c_on, ax_u]
  have z4 : (C4 600 11) = (C2 600 11) - 1 := by rw [eC4]; simp [ax_u]
  have z5 : (C4 600 12) = (C2 600 12) := by rw [eC4]; simp [c_on, ax_u]
  have z6 : (C4 600 13) = (C2 600 13) := by rw [eC4]; simp [c_on, ax_u]
  have v2 : (M4 222 68) = (M2 222 68) + 1 := by rw [eM4]; simp [m_on, ax_u]
  have v3 : (M4 222 69) = (M2 222 69) - 1 := by rw [eM4]; simp [ax_u]
  have v4 : (M4 222 72) = (M 222 72) := by rw [eM4]; simp [ax_u]
  have v5 : (M4 222 26) = (M2 222 26) := v1.2 26 (by decide) (by decide) (by decide) (by decide)
  have v6 : (M4 222 10) = (M2 222 10) := v1.2 10 (by decide) (by decide) (by decide) (by decide)
  have v7 : (M4 222 3) = (M2 222 3) := v1.2 3 (by decide) (by decide) (by decide) (by decide)
  have h4 : e_R C4 M4 := hR.mv ⟨hgC4, hgM4⟩ z1 v1 ⟨by omega, by omega, by omega⟩ ⟨by omega, by omega, by omega⟩ ⟨by omega, by omega, by omega⟩ ⟨by omega, by omega⟩
  have c4 : (C4 516 0) = (M4 222 26) := h4.2.2.2.1.1
  have mg4 := mg.mv h4 z1 v1 (by omega)
  have cn4 : e_cn C4 M4 f l R (C4 600 13) := by
    rw [z6, hdl]
    exact cn.keep (fun x _ => ⟨by rw [z1.1 522 (by decide)], by rw [z1.1 526 (by decide)], by rw [v1.1 252 (by decide)]⟩)
  obtain ⟨C5, eC5⟩ : ∃ X : ax_V, X = ax_u (c_mk C4 22 (C 600 6) (C 600 6) w) 521 (M4 222 26) f := ⟨_, rfl⟩
  obtain ⟨M5, eM5⟩ : ∃ X : ax_V, X = ax_u (ax_u (m_mk M4 22 (M 222 68) f (-1) (-1)) 243 (M4 222 26) (M 222 68)) 249 (M4 222 26) v := ⟨_, rfl⟩
  have hgC5 : ax_g C5 := by rw [eC5]; exact ax_u_g (c_mk_g hgC4 (by decide) (hgC _ _) (hgC _ _) rw0 ⟨by omega, by omega⟩) frg
  have hgM5 : ax_g M5 := by rw [eM5]; exact ax_u_g (ax_u_g (m_mk_g hgM4 (by decide) (hgM _ _) frg (by decide) (by decide) ⟨by omega, by omega⟩) (hgM _ _)) rv
  have ok5 : e_ok C M C5 M5 (M4 222 26) := by
    refine mg4.closeCall cn4 ⟨by omega, by omega, by omega⟩ ⟨by omega, by omega⟩ a0.1 rw0 ?_ ⟨hgC5, hgM5⟩ rf eC5 eM5 hT
    have e : M4 226 = M 226 := by rw [v1.1 226 (by decide), mnm]
    rw [v6, mnd]
    unfold e_fd
    rw [e]
    exact hfd
  have hR5 := ok5.1
  have hs5 := hR5.see
  have ci5 := hR5.ci
  have mi5 := hR5.mi
  have t1 := hR5.2.2.1.1
  have t2 := hR5.2.2.1.2.1
  have m5s : (M5 222 3) = (M4 222 3) := by rw [eM5]; simp [m_mk, ax_u]
  have m5a : (M5 222 68) = (M4 222 68) := by rw [eM5]; simp [m_mk, ax_u]
  have c5r : (C5 600 8) = (C 600 8) := ok5.2.1.2.2 8 (by decide) (by decide) (by decide) (by decide)
  have hcl : ∀ z4 z5 z6, ax_y z4 → ax_y z5 → ax_y z6 → ∀ (Φ : Int → ax_V → Prop) (Θ : ax_V → Prop), ax_I (az_W B (az_ER B r)) (20 * k + 28) q_Reader_look [.ref r] C5 (fun r5 V5 => ((r5 = 94 → ax_rg ((V5 600 6) + 1) ∧ (∀ V6, V6 = ax_u V5 600 6 ((V5 600 6) + 1) → (0 ≤ (M4 222 26) ∧ (M4 222 26) < 700) ∧ (∀ V7, V7 = ax_u V6 524 (M4 222 26) (V6 600 6) → ax_I (az_W B (az_ER B r)) (20 * k + 28) q_Reader_takeLetter [.ref r] V7 (fun r8 V8 => (0 ≤ (M4 222 26) ∧ (M4 222 26) < 700) ∧ (∀ V9, V9 = ax_u V8 523 (M4 222 26) r8 → Φ (M4 222 26) V9)) Θ))) ∧ (¬ r5 = 94 → Φ (M4 222 26) V5))) Θ → k_Reader_readCall_144 B r (20 * k + 28) (C 600 6) w f z4 z5 z6 C2 Φ Θ := by
    intro z4 z5 z6 hz4 hz5 hz6 Φ Θ hh
    refine r_Reader_readCall_144 hgC2 (hgC _ _) rw0 frg hz4 hz5 hz6 (t_expect hgC2 (by decide) ci (fun _ => ?_) (fun z => absurd (by rw [hs]; exact h41) z))
    have e1 : (c_on C2 1) 600 11 = (C2 600 11) := by simp [c_on, ax_u]
    rw [e1]
    refine ⟨⟨by omega, by omega⟩, fun V2 e2 => ?_⟩
    rw [e2, ← eC4]
    refine t_addPart hgC4 (by decide) (hgC _ _) (hgC _ _) rw0 ⟨by omega, by omega⟩ ?_
    rw [c4]
    refine ⟨⟨by omega, by omega⟩, fun V4 e4 => ?_⟩
    rw [e4, ← eC5]
    exact hh
  have hml : ∀ z7, ax_y z7 → ∀ (Φ : Int → ax_V → Prop) (Θ : ax_V → Prop), ax_I ay_lay (20 * k + 30) q_Model_see [.ref 222] M5 (fun r7 V7 => ((r7 = 94 → ax_rg ((V7 222 68) + 1) ∧ (∀ V8, V8 = ax_u V7 222 68 ((V7 222 68) + 1) → (0 ≤ (M4 222 26) ∧ (M4 222 26) < 701) ∧ (∀ V9, V9 = ax_u V8 244 (M4 222 26) (V8 222 68) → ax_I ay_lay (20 * k + 30) q_Model_takeLetter [.ref 222] V9 (fun r10 V10 => (0 ≤ (M4 222 26) ∧ (M4 222 26) < 701) ∧ (∀ V11, V11 = ax_u V10 248 (M4 222 26) r10 → (0 ≤ (M4 222 26) ∧ (M4 222 26) < 701) ∧ ((V11 248 (M4 222 26) = -1 → Φ 0 V11) ∧ (¬ V11 248 (M4 222 26) = -1 → Φ 1 V11)))) Θ))) ∧ (¬ r7 = 94 → Φ 1 V7))) Θ → k_Model_readCall_75 (20 * k + 30) (M 222 68) v (M 222 72) f l 0 z7 M2 Φ Θ := by
    intro z7 hz7 Φ Θ hh
    refine r_Model_readCall_75 hgM2 (hgM _ _) rv (hgM _ _) frg rl (by decide) hz7 ⟨fun _ => s_want hgM2 (by decide) mi (fun _ => ⟨fun z => absurd z (by decide), fun _ V2 e2 => ?_⟩) (fun z => absurd h41 z), fun z => absurd rfl z⟩
    have e1 : V2 222 69 = (M2 222 69) := by rw [e2]; simp [m_on, ax_u]
    rw [e1]
    refine ⟨⟨by omega, by omega⟩, fun V3 e3 => ?_⟩
    rw [e3, e2, ← eM4]
    refine s_makePart hgM4 (by decide) (hgM _ _) frg (by decide) (by decide) ⟨by omega, by omega⟩ ⟨⟨by omega, by omega⟩, fun V5 e5 => ⟨⟨by omega, by omega⟩, fun V6 e6 => ?_⟩⟩
    rw [e6, e5, ← eM5]
    exact hh
  by_cases w94 : m_see M5 = 94
  · have hlt5 := hR5.lt (by omega)
    have h6 : e_R (c_on C5 1) (m_on M5 1) := hR5.on (by omega) (by omega)
    obtain ⟨hg61, hg62⟩ := id h6.1
    have hs6 := h6.see
    have ci6 := h6.ci
    have mi6 := h6.mi
    have ca : (c_on C5 1) 600 6 = (M5 222 68) + 1 := by rw [← t1.1]; simp [c_on, ax_u]
    have ma : (m_on M5 1) 222 68 = (M5 222 68) + 1 := by simp [m_on, ax_u]
    obtain ⟨C6, eC6⟩ : ∃ X : ax_V, X = ax_u (c_on C5 1) 524 (M4 222 26) ((M5 222 68) + 1) := ⟨_, rfl⟩
    obtain ⟨M6, eM6⟩ : ∃ X : ax_V, X = ax_u (m_on M5 1) 244 (M4 222 26) ((M5 222 68) + 1) := ⟨_, rfl⟩
    have hgC6 : ax_g C6 := by rw [eC6]; exact ax_u_g hg61 ⟨by omega, by omega⟩
    have hgM6 : ax_g M6 := by rw [eM6]; exact ax_u_g hg62 ⟨by omega, by omega⟩
    have n6 : C6 600 = (c_on C5 1) 600 := by rw [eC6]; exact ax_u_ne (by decide)
    have n6t : C6 1 = (c_on C5 1) 1 := by rw [eC6]; exact ax_u_ne (by decide)
    have o6 : M6 222 = (m_on M5 1) 222 := by rw [eM6]; exact ax_u_ne (by decide)
    have o6t : M6 224 = (m_on M5 1) 224 := by rw [eM6]; exact ax_u_ne (by decide)
    have e6 : c_see C6 = c_see (c_on C5 1) := by unfold c_see; rw [n6, n6t]
    have f6 : m_see M6 = m_see (m_on M5 1) := by unfold m_see; rw [o6, o6t]
    have ci6' : c_in C6 := ⟨by rw [n6]; exact ci6.1, by rw [n6]; exact ci6.2.1, by rw [n6]; exact ci6.2.2.1, fun i i0 i1 => by rw [n6t]; rw [n6] at i1; exact ci6.2.2.2 i i0 i1⟩
    have mi6' : m_in M6 := ⟨by rw [o6]; exact mi6.1, by rw [o6]; exact mi6.2.1, by rw [o6]; exact mi6.2.2⟩
    have cr6 : (C6 600 8) = (C 600 8) := by rw [n6, ← c5r]; simp [c_on, ax_u]
    have hcl6 : ∀ z4 z5 z6, ax_y z4 → ax_y z5 → ax_y z6 → ∀ (Φ : Int → ax_V → Prop) (Θ : ax_V → Prop), ax_I (az_W B (az_ER B r)) (20 * k + 28) q_Reader_takeLetter [.ref r] C6 (fun r8 V8 => (0 ≤ (M4 222 26) ∧ (M4 222 26) < 700) ∧ (∀ V9, V9 = ax_u V8 523 (M4 222 26) r8 → Φ (M4 222 26) V9)) Θ → k_Reader_readCall_144 B r (20 * k + 28) (C 600 6) w f z4 z5 z6 C2 Φ Θ := by
      intro z4 z5 z6 hz4 hz5 hz6 Φ Θ hh
      refine hcl z4 z5 z6 hz4 hz5 hz6 Φ Θ (t_look hgC5 ci5 ⟨fun _ => ⟨⟨by omega, by omega⟩, fun V6 e => ⟨⟨by omega, by omega⟩, fun V7 e7 => ?_⟩⟩, fun z => absurd (by rw [hs5]; exact w94) z⟩)
      have e : V6 = c_on C5 1 := e
      rw [e, ca, ← eC6] at e7
      rw [e7]
      exact hh
    have hml6 : ∀ z7, ax_y z7 → ∀ (Φ : Int → ax_V → Prop) (Θ : ax_V → Prop), ax_I ay_lay (20 * k + 30) q_Model_takeLetter [.ref 222] M6 (fun r10 V10 => (0 ≤ (M4 222 26) ∧ (M4 222 26) < 701) ∧ (∀ V11, V11 = ax_u V10 248 (M4 222 26) r10 → (0 ≤ (M4 222 26) ∧ (M4 222 26) < 701) ∧ ((V11 248 (M4 222 26) = -1 → Φ 0 V11) ∧ (¬ V11 248 (M4 222 26) = -1 → Φ 1 V11)))) Θ → k_Model_readCall_75 (20 * k + 30) (M 222 68) v (M 222 72) f l 0 z7 M2 Φ Θ := by
      intro z7 hz7 Φ Θ hh
      refine hml z7 hz7 Φ Θ (s_see hgM5 mi5 ⟨fun _ => ⟨⟨by omega, by omega⟩, fun V8 e => ⟨⟨by omega, by omega⟩, fun V9 e9 => ?_⟩⟩, fun z => absurd w94 z⟩)
      have e : V8 = m_on M5 1 := e
      rw [e, ma, ← eM6] at e9
      rw [e9]
      exact hh
    by_cases hl : m_isL M6
    · have hl' : 97 ≤ m_see M6 ∧ m_see M6 ≤ 122 := hl
      have hlt6 := h6.lt (by omega)
      have sz6 : (m_on M5 1) 222 3 = (M5 222 3) := by simp [m_on, ax_u]
      have hlc : 97 ≤ c_see C6 ∧ c_see C6 ≤ 122 := by rw [e6, hs6, ← f6]; exact hl'
      have nd5 : M5 250 (M4 222 26) = (M 222 10) := by
        rw [eM5, ax_u_ne (c' := 250) (by decide), ax_u_ne (c' := 250) (by decide), (m_mk_at (M := M4) rfl).2.2.2.2.2.2.2.2.2.2.2.1]
        omega
      have op5 : M5 241 (M4 222 26) = 22 := by
        rw [eM5, ax_u_ne (c' := 241) (by decide), ax_u_ne (c' := 241) (by decide)]; exact (m_mk_at (M := M4) rfl).2.2.1
      obtain ⟨sl, esl⟩ : ∃ x : Int, x = (C6 600 8) * 26 + (c_see C6 - 97) := ⟨_, rfl⟩
      have hrd := h.2.2.1.2.1
      have rsl : ax_rg sl := ⟨by omega, by omega⟩
      obtain ⟨C7, eC7⟩ : ∃ X : ax_V, X = ax_u (c_on C6 1) 523 (M4 222 26) sl := ⟨_, rfl⟩
      obtain ⟨M7, eM7⟩ : ∃ X : ax_V, X = ax_u (m_on M6 1) 248 (M4 222 26) (m_see M6 - 97) := ⟨_, rfl⟩
      have ga : (C6 600 6) = (M5 222 68) + 1 := by rw [n6]; exact ca
      have gb : (M6 222 68) = (M5 222 68) + 1 := by rw [o6]; exact ma
      have hgC7 : ax_g C7 := by rw [eC7]; exact ax_u_g (ax_u_g hgC6 ⟨by omega, by omega⟩) rsl
      have hgM7 : ax_g M7 := by rw [eM7]; exact ax_u_g (ax_u_g hgM6 ⟨by omega, by omega⟩) ⟨by omega, by omega⟩
      have fin : e_ok C M C7 M7 (M4 222 26) := ok5.hat (sl := sl) (lt := m_see M6 - 97) (by omega) op5 (by omega) (by rw [eC7, eC6]) (by rw [eM7, eM6]) ⟨by omega, by omega⟩ (by rw [nd5, esl, e6, hs6, ← f6]; omega) ⟨hgC7, hgM7⟩
      refine Or.inl ⟨(M4 222 26), C7, M7, fun z4 z5 z6 hz4 hz5 hz6 Φ Θ hh => hcl6 z4 z5 z6 hz4 hz5 hz6 Φ Θ (t_takeLetter hgC6 ci6' ⟨by omega, by omega⟩ (fun _ => ⟨⟨by omega, by omega⟩, fun V9 e9 => ?_⟩) (fun z => absurd hlc z)), fun z7 hz7 Φ Θ hh => hml6 z7 hz7 Φ Θ (s_takeLetter hgM6 mi6' (fun _ => ⟨⟨by omega, by omega⟩, fun V11 e11 => ⟨⟨by omega, by omega⟩, fun z => ?_, fun _ => ?_⟩⟩) (fun z => absurd hl z)), fin⟩
      · rw [← esl, ← eC7] at e9
        rw [e9]; exact hh
      · rw [e11, ax_u_s] at z; omega
      · rw [← eM7] at e11
        rw [e11]; exact hh
    · refine Or.inr ⟨C6, ax_u M6 248 (M4 222 26) (-1), fun z4 z5 z6 hz4 hz5 hz6 Φ Θ hh => hcl6 z4 z5 z6 hz4 hz5 hz6 Φ Θ (t_takeLetter hgC6 ci6' ⟨by omega, by omega⟩ (fun z => absurd (by rw [e6, hs6, ← f6] at z; exact z) hl) (fun _ => hh)), fun z7 hz7 Φ Θ hh => hml6 z7 hz7 Φ Θ (s_takeLetter hgM6 mi6' (fun z => absurd z hl) (fun _ => ⟨⟨by omega, by omega⟩, fun V11 e11 => ⟨⟨by omega, by omega⟩, fun _ => by rw [e11]; exact hh, fun z => absurd (by rw [e11]; exact ax_u_s _ _ _ _) z⟩⟩)), ⟨hgC6, ax_u_g hgM6 (by decide)⟩, ?_, ?_, ?_⟩
      · rw [ax_u_ne (c' := 222) (by decide), n6, o6, ca, ma]
      · rw [eC6]
        exact (ok5.2.1.tr (e_mvC.on C5 1).fr (Int.le_refl _)).tr (e_fC.ua (by decide) ok5.2.2.2.1.2.2) (Int.le_refl _)
      · rw [eM6]
        exact ((ok5.2.2.1.tr (e_mvM.on M5 1).fr (Int.le_refl _)).tr (e_fM.ua (by decide) ok5.2.2.2.1.2.2) (Int.le_refl _)).tr (e_fM.ua (by decide) ok5.2.2.2.1.2.2) (Int.le_refl _)
  · refine Or.inl ⟨(M4 222 26), C5, M5, fun z4 z5 z6 hz4 hz5 hz6 Φ Θ hh => hcl z4 z5 z6 hz4 hz5 hz6 Φ Θ (t_look hgC5 ci5 ⟨fun z => absurd (by rw [← hs5]; exact z) w94, fun _ => hh⟩), fun z7 hz7 Φ Θ hh => hml z7 hz7 Φ Θ (s_see hgM5 mi5 ⟨fun z => absurd z w94, fun _ => hh⟩), ok5⟩
end CallEnd
