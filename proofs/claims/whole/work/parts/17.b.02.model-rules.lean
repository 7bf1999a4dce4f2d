/-! RULES of the model's methods: a method each, and each loop of it. PRINTED by wip/gen/rules.py -/
abbrev k_Model_readD_9 (d : Nat) (y1 : Option Value) (V : ax_V) (Φ : Int → ax_V → Prop) (Θ : ax_V → Prop) : Prop := ax_R ay_lay ax_t d m_Model_readD 9 [some (.ref 222), y1] [] V (ax_Ir Φ) Θ
theorem r_Model_readD_9 {d : Nat} {V : ax_V} {Φ : Int → ax_V → Prop} {Θ : ax_V → Prop} {y1 : Option Value} (hg : ax_g V) (hy1 : ax_y y1) (h : ax_I ay_lay d q_Model_see [.ref 222] V (fun r1 V1 => ((r1 = 124 → ax_rg ((V1 222 68) + 1) ∧ (∀ V2, V2 = ax_u V1 222 68 ((V1 222 68) + 1) → ax_I ay_lay d q_Model_readE [.ref 222] V2 (fun r3 V3 => ((r3 = 0 → Φ 0 V3) ∧ (¬ r3 = 0 → (0 ≤ V1 222 74 ∧ V1 222 74 < 701) ∧ ax_I ay_lay d q_Model_makePart [.ref 222, ax_i 17, ax_i (V3 242 (V1 222 74)), ax_i (V1 222 74), ax_i (V3 222 74), ax_i (-1)] V3 (fun r4 V4 => k_Model_readD_9 d (some (ax_i r4)) V4 Φ Θ) Θ))) Θ)) ∧ (¬ r1 = 124 → Φ 1 V1))) Θ) : k_Model_readD_9 d y1 V Φ Θ := by
  refine ax_mv 1 10 [some (.ref 222), y1] [.ref 222] rfl ?_
  refine ax_callI (pc' := 13) ⟨_, rfl⟩ ml_12_300 (rest := []) rfl (fun ss hs => ⟨_, _, ay_222 ss hs⟩) (Nat.le_of_ble_eq_true rfl) rfl rfl h (fun r1 V1 hg1 hr1 h => ?_)
  refine ax_bip (pc' := 15) ⟨_, rfl⟩ (by decide) rfl ?_
  refine ax_if2 (p1 := 64) (p2 := 18) ⟨_, rfl⟩ (by decide) rfl hr1 (by decide) (fun hc => ?_) (fun hc => ?_)
  · have h := h.2 hc
    refine ax_mv 1 65 [some (.ref 222), y1] [ax_i 1] rfl ?_
    exact ax_iret ⟨_, rfl⟩ rfl (ax_nbv (by decide)) (by decide) hg1 h
  · have h := h.1 (Classical.not_not.mp hc)
    refine ax_mv 1 19 [some (.ref 222), y1] [.ref 222] rfl ?_
    refine ax_gI (kI := 74) (pc' := 22) ⟨_, rfl⟩ fl_12_323 ay_222 rfl rfl rfl ?_
    refine ax_sti (i := 0) (k := 1) (n := 1) (pc' := 23) (L' := [some (.ref 222), some (ax_i (V1 222 74))]) ⟨_, rfl⟩ rfl rfl rfl (Nat.le_of_ble_eq_true rfl) rfl rfl ?_
    refine ax_mv 2 25 [some (.ref 222), some (ax_i (V1 222 74))] [.ref 222, .ref 222] rfl ?_
    refine ax_gI (kI := 68) (pc' := 28) ⟨_, rfl⟩ fl_12_294 ay_222 rfl rfl rfl ?_
    refine ax_mv 1 29 [some (.ref 222), some (ax_i (V1 222 74))] [ax_i 1, ax_i (V1 222 68), .ref 222] rfl ?_
    refine ax_add (pc' := 30) ⟨_, rfl⟩ rfl ?_
    obtain ⟨o1, h⟩ := h
    obtain ⟨V2, eV2⟩ : ∃ W9 : ax_V, W9 = ax_u V1 222 68 ((V1 222 68) + 1) := ⟨_, rfl⟩
    have h := h V2 eV2
    have hg2 : ax_g V2 := eV2 ▸ ax_u_g hg1 o1
    refine ax_pI (kI := 68) (pc' := 33) ⟨_, rfl⟩ fl_12_294 ay_ok ay_222 rfl rfl rfl rfl eV2 rfl ?_
    refine ax_mv 1 34 [some (.ref 222), some (ax_i (V1 222 74))] [.ref 222] rfl ?_
    refine ax_callI (pc' := 37) ⟨_, rfl⟩ ml_12_369 (rest := []) rfl (fun ss hs => ⟨_, _, ay_222 ss hs⟩) (Nat.le_of_ble_eq_true rfl) rfl rfl h (fun r3 V3 hg3 hr3 h => ?_)
    refine ax_if (p1 := 42) (p2 := 40) ⟨_, rfl⟩ (by decide) rfl hr3 (fun hc => ?_) (fun hc => ?_)
    · have h := h.2 hc
      refine ax_mv 1 43 [some (.ref 222), some (ax_i (V1 222 74))] [.ref 222] rfl ?_
      refine ax_bip (pc' := 45) ⟨_, rfl⟩ (by decide) rfl ?_
      refine ax_mv 1 46 [some (.ref 222), some (ax_i (V1 222 74))] [.ref 222, ax_i 17, .ref 222] rfl ?_
      refine ax_gR (v := .ref 242) (pc' := 49) ⟨_, rfl⟩ fl_12_68 ay_222 rfl rfl ?_
      refine ax_mv 1 50 [some (.ref 222), some (ax_i (V1 222 74))] [ax_i (V1 222 74), .ref 242, ax_i 17, .ref 222] rfl ?_
      obtain ⟨o2, h⟩ := h
      refine ax_ild (n := 701) (pc' := 51) ⟨_, rfl⟩ ay_242 (by decide) o2 rfl ?_
      refine ax_mv 2 53 [some (.ref 222), some (ax_i (V1 222 74))] [.ref 222, ax_i (V1 222 74), ax_i (V3 242 (V1 222 74)), ax_i 17, .ref 222] rfl ?_
      refine ax_gI (kI := 74) (pc' := 56) ⟨_, rfl⟩ fl_12_323 ay_222 rfl rfl rfl ?_
      refine ax_mv 1 57 [some (.ref 222), some (ax_i (V1 222 74))] [ax_i (-1), ax_i (V3 222 74), ax_i (V1 222 74), ax_i (V3 242 (V1 222 74)), ax_i 17, .ref 222] rfl ?_
      refine ax_callI (pc' := 60) ⟨_, rfl⟩ ml_12_356 (rest := []) rfl (fun ss hs => ⟨_, _, ay_222 ss hs⟩) (Nat.le_of_ble_eq_true rfl) rfl rfl h (fun r4 V4 hg4 hr4 h => ?_)
      refine ax_sti (i := 0) (k := 1) (n := 1) (pc' := 61) (L' := [some (.ref 222), some (ax_i r4)]) ⟨_, rfl⟩ rfl rfl rfl (Nat.le_of_ble_eq_true rfl) rfl rfl ?_
      refine ax_mv 1 9 [some (.ref 222), some (ax_i r4)] [] rfl ?_
      exact h
    · have h := h.1 (Classical.not_not.mp hc)
      refine ax_mv 1 41 [some (.ref 222), some (ax_i (V1 222 74))] [ax_i 0] rfl ?_
      exact ax_iret ⟨_, rfl⟩ rfl (ax_nbv (by decide)) (by decide) hg3 h
theorem r_Model_readD {d : Nat} {V : ax_V} {Φ : Int → ax_V → Prop} {Θ : ax_V → Prop} (hg : ax_g V) (h : ax_I ay_lay d q_Model_readE [.ref 222] V (fun r1 V1 => ((r1 = 0 → Φ 0 V1) ∧ (¬ r1 = 0 → k_Model_readD_9 d none V1 Φ Θ))) Θ) : ax_I ay_lay (d + 1) q_Model_readD [.ref 222] V Φ Θ := by
  refine ax_T.of (M := m_Model_readD) rfl (Nat.le_of_ble_eq_true rfl) ?_
  refine ax_mv 0 0 [some (.ref 222), none] [] rfl ?_
  refine ax_mv 1 1 [some (.ref 222), none] [.ref 222] rfl ?_
  refine ax_callI (pc' := 4) ⟨_, rfl⟩ ml_12_369 (rest := []) rfl (fun ss hs => ⟨_, _, ay_222 ss hs⟩) (Nat.le_of_ble_eq_true rfl) rfl rfl h (fun r1 V1 hg1 hr1 h => ?_)
  refine ax_if (p1 := 9) (p2 := 7) ⟨_, rfl⟩ (by decide) rfl hr1 (fun hc => ?_) (fun hc => ?_)
  · have h := h.2 hc
    exact h
  · have h := h.1 (Classical.not_not.mp hc)
    refine ax_mv 1 8 [some (.ref 222), none] [ax_i 0] rfl ?_
    exact ax_iret ⟨_, rfl⟩ rfl (ax_nbv (by decide)) (by decide) hg1 h
abbrev k_Model_readE_9 (d : Nat) (y1 : Option Value) (V : ax_V) (Φ : Int → ax_V → Prop) (Θ : ax_V → Prop) : Prop := ax_R ay_lay ax_t d m_Model_readE 9 [some (.ref 222), y1] [] V (ax_Ir Φ) Θ
theorem r_Model_readE_9 {d : Nat} {V : ax_V} {Φ : Int → ax_V → Prop} {Θ : ax_V → Prop} {y1 : Option Value} (hg : ax_g V) (hy1 : ax_y y1) (h : ax_I ay_lay d q_Model_see [.ref 222] V (fun r1 V1 => ((r1 = 38 → ax_rg ((V1 222 68) + 1) ∧ (∀ V2, V2 = ax_u V1 222 68 ((V1 222 68) + 1) → ax_I ay_lay d q_Model_readF [.ref 222] V2 (fun r3 V3 => ((r3 = 0 → Φ 0 V3) ∧ (¬ r3 = 0 → (0 ≤ V1 222 74 ∧ V1 222 74 < 701) ∧ ax_I ay_lay d q_Model_makePart [.ref 222, ax_i 16, ax_i (V3 242 (V1 222 74)), ax_i (V1 222 74), ax_i (V3 222 74), ax_i (-1)] V3 (fun r4 V4 => k_Model_readE_9 d (some (ax_i r4)) V4 Φ Θ) Θ))) Θ)) ∧ (¬ r1 = 38 → Φ 1 V1))) Θ) : k_Model_readE_9 d y1 V Φ Θ := by
  refine ax_mv 1 10 [some (.ref 222), y1] [.ref 222] rfl ?_
  refine ax_callI (pc' := 13) ⟨_, rfl⟩ ml_12_300 (rest := []) rfl (fun ss hs => ⟨_, _, ay_222 ss hs⟩) (Nat.le_of_ble_eq_true rfl) rfl rfl h (fun r1 V1 hg1 hr1 h => ?_)
  refine ax_bip (pc' := 15) ⟨_, rfl⟩ (by decide) rfl ?_
  refine ax_if2 (p1 := 64) (p2 := 18) ⟨_, rfl⟩ (by decide) rfl hr1 (by decide) (fun hc => ?_) (fun hc => ?_)
  · have h := h.2 hc
    refine ax_mv 1 65 [some (.ref 222), y1] [ax_i 1] rfl ?_
    exact ax_iret ⟨_, rfl⟩ rfl (ax_nbv (by decide)) (by decide) hg1 h
  · have h := h.1 (Classical.not_not.mp hc)
    refine ax_mv 1 19 [some (.ref 222), y1] [.ref 222] rfl ?_
    refine ax_gI (kI := 74) (pc' := 22) ⟨_, rfl⟩ fl_12_323 ay_222 rfl rfl rfl ?_
    refine ax_sti (i := 0) (k := 1) (n := 1) (pc' := 23) (L' := [some (.ref 222), some (ax_i (V1 222 74))]) ⟨_, rfl⟩ rfl rfl rfl (Nat.le_of_ble_eq_true rfl) rfl rfl ?_
    refine ax_mv 2 25 [some (.ref 222), some (ax_i (V1 222 74))] [.ref 222, .ref 222] rfl ?_
    refine ax_gI (kI := 68) (pc' := 28) ⟨_, rfl⟩ fl_12_294 ay_222 rfl rfl rfl ?_
    refine ax_mv 1 29 [some (.ref 222), some (ax_i (V1 222 74))] [ax_i 1, ax_i (V1 222 68), .ref 222] rfl ?_
    refine ax_add (pc' := 30) ⟨_, rfl⟩ rfl ?_
    obtain ⟨o1, h⟩ := h
    obtain ⟨V2, eV2⟩ : ∃ W9 : ax_V, W9 = ax_u V1 222 68 ((V1 222 68) + 1) := ⟨_, rfl⟩
    have h := h V2 eV2
    have hg2 : ax_g V2 := eV2 ▸ ax_u_g hg1 o1
    refine ax_pI (kI := 68) (pc' := 33) ⟨_, rfl⟩ fl_12_294 ay_ok ay_222 rfl rfl rfl rfl eV2 rfl ?_
    refine ax_mv 1 34 [some (.ref 222), some (ax_i (V1 222 74))] [.ref 222] rfl ?_
    refine ax_callI (pc' := 37) ⟨_, rfl⟩ ml_12_372 (rest := []) rfl (fun ss hs => ⟨_, _, ay_222 ss hs⟩) (Nat.le_of_ble_eq_true rfl) rfl rfl h (fun r3 V3 hg3 hr3 h => ?_)
    refine ax_if (p1 := 42) (p2 := 40) ⟨_, rfl⟩ (by decide) rfl hr3 (fun hc => ?_) (fun hc => ?_)
    · have h := h.2 hc
      refine ax_mv 1 43 [some (.ref 222), some (ax_i (V1 222 74))] [.ref 222] rfl ?_
      refine ax_bip (pc' := 45) ⟨_, rfl⟩ (by decide) rfl ?_
      refine ax_mv 1 46 [some (.ref 222), some (ax_i (V1 222 74))] [.ref 222, ax_i 16, .ref 222] rfl ?_
      refine ax_gR (v := .ref 242) (pc' := 49) ⟨_, rfl⟩ fl_12_68 ay_222 rfl rfl ?_
      refine ax_mv 1 50 [some (.ref 222), some (ax_i (V1 222 74))] [ax_i (V1 222 74), .ref 242, ax_i 16, .ref 222] rfl ?_
      obtain ⟨o2, h⟩ := h
      refine ax_ild (n := 701) (pc' := 51) ⟨_, rfl⟩ ay_242 (by decide) o2 rfl ?_
      refine ax_mv 2 53 [some (.ref 222), some (ax_i (V1 222 74))] [.ref 222, ax_i (V1 222 74), ax_i (V3 242 (V1 222 74)), ax_i 16, .ref 222] rfl ?_
      refine ax_gI (kI := 74) (pc' := 56) ⟨_, rfl⟩ fl_12_323 ay_222 rfl rfl rfl ?_
      refine ax_mv 1 57 [some (.ref 222), some (ax_i (V1 222 74))] [ax_i (-1), ax_i (V3 222 74), ax_i (V1 222 74), ax_i (V3 242 (V1 222 74)), ax_i 16, .ref 222] rfl ?_
      refine ax_callI (pc' := 60) ⟨_, rfl⟩ ml_12_356 (rest := []) rfl (fun ss hs => ⟨_, _, ay_222 ss hs⟩) (Nat.le_of_ble_eq_true rfl) rfl rfl h (fun r4 V4 hg4 hr4 h => ?_)
      refine ax_sti (i := 0) (k := 1) (n := 1) (pc' := 61) (L' := [some (.ref 222), some (ax_i r4)]) ⟨_, rfl⟩ rfl rfl rfl (Nat.le_of_ble_eq_true rfl) rfl rfl ?_
      refine ax_mv 1 9 [some (.ref 222), some (ax_i r4)] [] rfl ?_
      exact h
    · have h := h.1 (Classical.not_not.mp hc)
      refine ax_mv 1 41 [some (.ref 222), some (ax_i (V1 222 74))] [ax_i 0] rfl ?_
      exact ax_iret ⟨_, rfl⟩ rfl (ax_nbv (by decide)) (by decide) hg3 h
theorem r_Model_readE {d : Nat} {V : ax_V} {Φ : Int → ax_V → Prop} {Θ : ax_V → Prop} (hg : ax_g V) (h : ax_I ay_lay d q_Model_readF [.ref 222] V (fun r1 V1 => ((r1 = 0 → Φ 0 V1) ∧ (¬ r1 = 0 → k_Model_readE_9 d none V1 Φ Θ))) Θ) : ax_I ay_lay (d + 1) q_Model_readE [.ref 222] V Φ Θ := by
  refine ax_T.of (M := m_Model_readE) rfl (Nat.le_of_ble_eq_true rfl) ?_
  refine ax_mv 0 0 [some (.ref 222), none] [] rfl ?_
  refine ax_mv 1 1 [some (.ref 222), none] [.ref 222] rfl ?_
  refine ax_callI (pc' := 4) ⟨_, rfl⟩ ml_12_372 (rest := []) rfl (fun ss hs => ⟨_, _, ay_222 ss hs⟩) (Nat.le_of_ble_eq_true rfl) rfl rfl h (fun r1 V1 hg1 hr1 h => ?_)
  refine ax_if (p1 := 9) (p2 := 7) ⟨_, rfl⟩ (by decide) rfl hr1 (fun hc => ?_) (fun hc => ?_)
  · have h := h.2 hc
    exact h
  · have h := h.1 (Classical.not_not.mp hc)
    refine ax_mv 1 8 [some (.ref 222), none] [ax_i 0] rfl ?_
    exact ax_iret ⟨_, rfl⟩ rfl (ax_nbv (by decide)) (by decide) hg1 h
abbrev k_Model_readF_57 (d : Nat) (x1 : Int) (y2 : Option Value) (y3 : Option Value) (s0 : Int) (V : ax_V) (Φ : Int → ax_V → Prop) (Θ : ax_V → Prop) : Prop := ax_R ay_lay ax_t d m_Model_readF 57 [some (.ref 222), some (ax_i x1), y2, y3] [ax_i s0] V (ax_Ir Φ) Θ
set_option maxRecDepth 20000 in
theorem r_Model_readF_57 {d : Nat} {V : ax_V} {Φ : Int → ax_V → Prop} {Θ : ax_V → Prop} {x1 : Int} {y2 : Option Value} {y3 : Option Value} {s0 : Int} (hg : ax_g V) (hx1 : ax_rg x1) (hy2 : ax_y y2) (hy3 : ax_y y3) (hs0 : ax_rg s0) (h : ((s0 = 0 → Φ 1 V) ∧ (¬ s0 = 0 → ax_rg ((V 222 68) + 1) ∧ (∀ V1, V1 = ax_u V 222 68 ((V 222 68) + 1) → ax_I ay_lay d q_Model_readG [.ref 222] V1 (fun r2 V2 => ((r2 = 0 → Φ 0 V2) ∧ (¬ r2 = 0 → ((x1 = 61 → (0 ≤ V 222 74 ∧ V 222 74 < 701) ∧ ax_I ay_lay d q_Model_makePart [.ref 222, ax_i 12, ax_i (V2 242 (V 222 74)), ax_i (V 222 74), ax_i (V2 222 74), ax_i (-1)] V2 (fun r6 V6 => Φ 1 V6) Θ) ∧ (¬ x1 = 61 → ((x1 = 35 → (0 ≤ V 222 74 ∧ V 222 74 < 701) ∧ ax_I ay_lay d q_Model_makePart [.ref 222, ax_i 13, ax_i (V2 242 (V 222 74)), ax_i (V 222 74), ax_i (V2 222 74), ax_i (-1)] V2 (fun r5 V5 => Φ 1 V5) Θ) ∧ (¬ x1 = 35 → ((x1 = 60 → (0 ≤ V 222 74 ∧ V 222 74 < 701) ∧ ax_I ay_lay d q_Model_makePart [.ref 222, ax_i 14, ax_i (V2 242 (V 222 74)), ax_i (V 222 74), ax_i (V2 222 74), ax_i (-1)] V2 (fun r4 V4 => Φ 1 V4) Θ) ∧ (¬ x1 = 60 → (0 ≤ V 222 74 ∧ V 222 74 < 701) ∧ ax_I ay_lay d q_Model_makePart [.ref 222, ax_i 15, ax_i (V2 242 (V 222 74)), ax_i (V 222 74), ax_i (V2 222 74), ax_i (-1)] V2 (fun r3 V3 => Φ 1 V3) Θ))))))))) Θ)))) : k_Model_readF_57 d x1 y2 y3 s0 V Φ Θ := by
  refine ax_sti (i := 0) (k := 2) (n := 1) (pc' := 58) (L' := [some (.ref 222), some (ax_i x1), some (ax_i s0), y3]) ⟨_, rfl⟩ rfl rfl rfl (Nat.le_of_ble_eq_true rfl) rfl rfl ?_
  refine ax_mv 1 59 [some (.ref 222), some (ax_i x1), some (ax_i s0), y3] [ax_i s0] rfl ?_
  refine ax_if (p1 := 64) (p2 := 62) ⟨_, rfl⟩ (by decide) rfl hs0 (fun hc => ?_) (fun hc => ?_)
  · have h := h.2 hc
    refine ax_mv 1 65 [some (.ref 222), some (ax_i x1), some (ax_i s0), y3] [.ref 222] rfl ?_
    refine ax_gI (kI := 74) (pc' := 68) ⟨_, rfl⟩ fl_12_323 ay_222 rfl rfl rfl ?_
    refine ax_sti (i := 0) (k := 3) (n := 1) (pc' := 69) (L' := [some (.ref 222), some (ax_i x1), some (ax_i s0), some (ax_i (V 222 74))]) ⟨_, rfl⟩ rfl rfl rfl (Nat.le_of_ble_eq_true rfl) rfl rfl ?_
    refine ax_mv 2 71 [some (.ref 222), some (ax_i x1), some (ax_i s0), some (ax_i (V 222 74))] [.ref 222, .ref 222] rfl ?_
    refine ax_gI (kI := 68) (pc' := 74) ⟨_, rfl⟩ fl_12_294 ay_222 rfl rfl rfl ?_
    refine ax_mv 1 75 [some (.ref 222), some (ax_i x1), some (ax_i s0), some (ax_i (V 222 74))] [ax_i 1, ax_i (V 222 68), .ref 222] rfl ?_
    refine ax_add (pc' := 76) ⟨_, rfl⟩ rfl ?_
    obtain ⟨o1, h⟩ := h
    obtain ⟨V1, eV1⟩ : ∃ W9 : ax_V, W9 = ax_u V 222 68 ((V 222 68) + 1) := ⟨_, rfl⟩
    have h := h V1 eV1
    have hg1 : ax_g V1 := eV1 ▸ ax_u_g hg o1
    refine ax_pI (kI := 68) (pc' := 79) ⟨_, rfl⟩ fl_12_294 ay_ok ay_222 rfl rfl rfl rfl eV1 rfl ?_
    refine ax_mv 1 80 [some (.ref 222), some (ax_i x1), some (ax_i s0), some (ax_i (V 222 74))] [.ref 222] rfl ?_
    refine ax_callI (pc' := 83) ⟨_, rfl⟩ ml_12_375 (rest := []) rfl (fun ss hs => ⟨_, _, ay_222 ss hs⟩) (Nat.le_of_ble_eq_true rfl) rfl rfl h (fun r2 V2 hg2 hr2 h => ?_)
    refine ax_if (p1 := 88) (p2 := 86) ⟨_, rfl⟩ (by decide) rfl hr2 (fun hc => ?_) (fun hc => ?_)
    · have h := h.2 hc
      refine ax_mv 2 90 [some (.ref 222), some (ax_i x1), some (ax_i s0), some (ax_i (V 222 74))] [ax_i x1, .ref 222] rfl ?_
      refine ax_bip (pc' := 92) ⟨_, rfl⟩ (by decide) rfl ?_
      refine ax_if2 (p1 := 100) (p2 := 95) ⟨_, rfl⟩ (by decide) rfl hx1 (by decide) (fun hc => ?_) (fun hc => ?_)
      · have h := h.2 hc
        refine ax_mv 1 101 [some (.ref 222), some (ax_i x1), some (ax_i s0), some (ax_i (V 222 74))] [ax_i x1, .ref 222] rfl ?_
        refine ax_bip (pc' := 103) ⟨_, rfl⟩ (by decide) rfl ?_
        refine ax_if2 (p1 := 111) (p2 := 106) ⟨_, rfl⟩ (by decide) rfl hx1 (by decide) (fun hc => ?_) (fun hc => ?_)
        · have h := h.2 hc
          refine ax_mv 1 112 [some (.ref 222), some (ax_i x1), some (ax_i s0), some (ax_i (V 222 74))] [ax_i x1, .ref 222] rfl ?_
          refine ax_bip (pc' := 114) ⟨_, rfl⟩ (by decide) rfl ?_
          refine ax_if2 (p1 := 122) (p2 := 117) ⟨_, rfl⟩ (by decide) rfl hx1 (by decide) (fun hc => ?_) (fun hc => ?_)
          · have h := h.2 hc
            refine ax_bip (pc' := 124) ⟨_, rfl⟩ (by decide) rfl ?_
            refine ax_mv 1 125 [some (.ref 222), some (ax_i x1), some (ax_i s0), some (ax_i (V 222 74))] [.ref 222, ax_i 15, .ref 222] rfl ?_
            refine ax_gR (v := .ref 242) (pc' := 128) ⟨_, rfl⟩ fl_12_68 ay_222 rfl rfl ?_
            refine ax_mv 1 129 [some (.ref 222), some (ax_i x1), some (ax_i s0), some (ax_i (V 222 74))] [ax_i (V 222 74), .ref 242, ax_i 15, .ref 222] rfl ?_
            obtain ⟨o2, h⟩ := h
            refine ax_ild (n := 701) (pc' := 130) ⟨_, rfl⟩ ay_242 (by decide) o2 rfl ?_
            refine ax_mv 2 132 [some (.ref 222), some (ax_i x1), some (ax_i s0), some (ax_i (V 222 74))] [.ref 222, ax_i (V 222 74), ax_i (V2 242 (V 222 74)), ax_i 15, .ref 222] rfl ?_
            refine ax_gI (kI := 74) (pc' := 135) ⟨_, rfl⟩ fl_12_323 ay_222 rfl rfl rfl ?_
            refine ax_mv 1 136 [some (.ref 222), some (ax_i x1), some (ax_i s0), some (ax_i (V 222 74))] [ax_i (-1), ax_i (V2 222 74), ax_i (V 222 74), ax_i (V2 242 (V 222 74)), ax_i 15, .ref 222] rfl ?_
            refine ax_callI (pc' := 139) ⟨_, rfl⟩ ml_12_356 (rest := []) rfl (fun ss hs => ⟨_, _, ay_222 ss hs⟩) (Nat.le_of_ble_eq_true rfl) rfl rfl h (fun r3 V3 hg3 hr3 h => ?_)
            refine ax_sti (i := 0) (k := 3) (n := 1) (pc' := 140) (L' := [some (.ref 222), some (ax_i x1), some (ax_i s0), some (ax_i r3)]) ⟨_, rfl⟩ rfl rfl rfl (Nat.le_of_ble_eq_true rfl) rfl rfl ?_
            refine ax_mv 1 141 [some (.ref 222), some (ax_i x1), some (ax_i s0), some (ax_i r3)] [ax_i 1] rfl ?_
            exact ax_iret ⟨_, rfl⟩ rfl (ax_nbv (by decide)) (by decide) hg3 h
          · have h := h.1 (Classical.not_not.mp hc)
            refine ax_bip (pc' := 119) ⟨_, rfl⟩ (by decide) rfl ?_
            refine ax_mv 2 125 [some (.ref 222), some (ax_i x1), some (ax_i s0), some (ax_i (V 222 74))] [.ref 222, ax_i 14, .ref 222] rfl ?_
            refine ax_gR (v := .ref 242) (pc' := 128) ⟨_, rfl⟩ fl_12_68 ay_222 rfl rfl ?_
            refine ax_mv 1 129 [some (.ref 222), some (ax_i x1), some (ax_i s0), some (ax_i (V 222 74))] [ax_i (V 222 74), .ref 242, ax_i 14, .ref 222] rfl ?_
            obtain ⟨o3, h⟩ := h
            refine ax_ild (n := 701) (pc' := 130) ⟨_, rfl⟩ ay_242 (by decide) o3 rfl ?_
            refine ax_mv 2 132 [some (.ref 222), some (ax_i x1), some (ax_i s0), some (ax_i (V 222 74))] [.ref 222, ax_i (V 222 74), ax_i (V2 242 (V 222 74)), ax_i 14, .ref 222] rfl ?_
            refine ax_gI (kI := 74) (pc' := 135) ⟨_, rfl⟩ fl_12_323 ay_222 rfl rfl rfl ?_
            refine ax_mv 1 136 [some (.ref 222), some (ax_i x1), some (ax_i s0), some (ax_i (V 222 74))] [ax_i (-1), ax_i (V2 222 74), ax_i (V 222 74), ax_i (V2 242 (V 222 74)), ax_i 14, .ref 222] rfl ?_
            refine ax_callI (pc' := 139) ⟨_, rfl⟩ ml_12_356 (rest := []) rfl (fun ss hs => ⟨_, _, ay_222 ss hs⟩) (Nat.le_of_ble_eq_true rfl) rfl rfl h (fun r4 V4 hg4 hr4 h => ?_)
            refine ax_sti (i := 0) (k := 3) (n := 1) (pc' := 140) (L' := [some (.ref 222), some (ax_i x1), some (ax_i s0), some (ax_i r4)]) ⟨_, rfl⟩ rfl rfl rfl (Nat.le_of_ble_eq_true rfl) rfl rfl ?_
            refine ax_mv 1 141 [some (.ref 222), some (ax_i x1), some (ax_i s0), some (ax_i r4)] [ax_i 1] rfl ?_
            exact ax_iret ⟨_, rfl⟩ rfl (ax_nbv (by decide)) (by decide) hg4 h
        · have h := h.1 (Classical.not_not.mp hc)
          refine ax_bip (pc' := 108) ⟨_, rfl⟩ (by decide) rfl ?_
          refine ax_mv 2 125 [some (.ref 222), some (ax_i x1), some (ax_i s0), some (ax_i (V 222 74))] [.ref 222, ax_i 13, .ref 222] rfl ?_
          refine ax_gR (v := .ref 242) (pc' := 128) ⟨_, rfl⟩ fl_12_68 ay_222 rfl rfl ?_
          refine ax_mv 1 129 [some (.ref 222), some (ax_i x1), some (ax_i s0), some (ax_i (V 222 74))] [ax_i (V 222 74), .ref 242, ax_i 13, .ref 222] rfl ?_
          obtain ⟨o4, h⟩ := h
          refine ax_ild (n := 701) (pc' := 130) ⟨_, rfl⟩ ay_242 (by decide) o4 rfl ?_
          refine ax_mv 2 132 [some (.ref 222), some (ax_i x1), some (ax_i s0), some (ax_i (V 222 74))] [.ref 222, ax_i (V 222 74), ax_i (V2 242 (V 222 74)), ax_i 13, .ref 222] rfl ?_
          refine ax_gI (kI := 74) (pc' := 135) ⟨_, rfl⟩ fl_12_323 ay_222 rfl rfl rfl ?_
          refine ax_mv 1 136 [some (.ref 222), some (ax_i x1), some (ax_i s0), some (ax_i (V 222 74))] [ax_i (-1), ax_i (V2 222 74), ax_i (V 222 74), ax_i (V2 242 (V 222 74)), ax_i 13, .ref 222] rfl ?_
          refine ax_callI (pc' := 139) ⟨_, rfl⟩ ml_12_356 (rest := []) rfl (fun ss hs => ⟨_, _, ay_222 ss hs⟩) (Nat.le_of_ble_eq_true rfl) rfl rfl h (fun r5 V5 hg5 hr5 h => ?_)
          refine ax_sti (i := 0) (k := 3) (n := 1) (pc' := 140) (L' := [some (.ref 222), some (ax_i x1), some (ax_i s0), some (ax_i r5)]) ⟨_, rfl⟩ rfl rfl rfl (Nat.le_of_ble_eq_true rfl) rfl rfl ?_
          refine ax_mv 1 141 [some (.ref 222), some (ax_i x1), some (ax_i s0), some (ax_i r5)] [ax_i 1] rfl ?_
          exact ax_iret ⟨_, rfl⟩ rfl (ax_nbv (by decide)) (by decide) hg5 h
      · have h := h.1 (Classical.not_not.mp hc)
        refine ax_bip (pc' := 97) ⟨_, rfl⟩ (by decide) rfl ?_
        refine ax_mv 2 125 [some (.ref 222), some (ax_i x1), some (ax_i s0), some (ax_i (V 222 74))] [.ref 222, ax_i 12, .ref 222] rfl ?_
        refine ax_gR (v := .ref 242) (pc' := 128) ⟨_, rfl⟩ fl_12_68 ay_222 rfl rfl ?_
        refine ax_mv 1 129 [some (.ref 222), some (ax_i x1), some (ax_i s0), some (ax_i (V 222 74))] [ax_i (V 222 74), .ref 242, ax_i 12, .ref 222] rfl ?_
        obtain ⟨o5, h⟩ := h
        refine ax_ild (n := 701) (pc' := 130) ⟨_, rfl⟩ ay_242 (by decide) o5 rfl ?_
        refine ax_mv 2 132 [some (.ref 222), some (ax_i x1), some (ax_i s0), some (ax_i (V 222 74))] [.ref 222, ax_i (V 222 74), ax_i (V2 242 (V 222 74)), ax_i 12, .ref 222] rfl ?_
        refine ax_gI (kI := 74) (pc' := 135) ⟨_, rfl⟩ fl_12_323 ay_222 rfl rfl rfl ?_
        refine ax_mv 1 136 [some (.ref 222), some (ax_i x1), some (ax_i s0), some (ax_i (V 222 74))] [ax_i (-1), ax_i (V2 222 74), ax_i (V 222 74), ax_i (V2 242 (V 222 74)), ax_i 12, .ref 222] rfl ?_
        refine ax_callI (pc' := 139) ⟨_, rfl⟩ ml_12_356 (rest := []) rfl (fun ss hs => ⟨_, _, ay_222 ss hs⟩) (Nat.le_of_ble_eq_true rfl) rfl rfl h (fun r6 V6 hg6 hr6 h => ?_)
        refine ax_sti (i := 0) (k := 3) (n := 1) (pc' := 140) (L' := [some (.ref 222), some (ax_i x1), some (ax_i s0), some (ax_i r6)]) ⟨_, rfl⟩ rfl rfl rfl (Nat.le_of_ble_eq_true rfl) rfl rfl ?_
        refine ax_mv 1 141 [some (.ref 222), some (ax_i x1), some (ax_i s0), some (ax_i r6)] [ax_i 1] rfl ?_
        exact ax_iret ⟨_, rfl⟩ rfl (ax_nbv (by decide)) (by decide) hg6 h
    · have h := h.1 (Classical.not_not.mp hc)
      refine ax_mv 1 87 [some (.ref 222), some (ax_i x1), some (ax_i s0), some (ax_i (V 222 74))] [ax_i 0] rfl ?_
      exact ax_iret ⟨_, rfl⟩ rfl (ax_nbv (by decide)) (by decide) hg2 h
  · have h := h.1 (Classical.not_not.mp hc)
    refine ax_mv 1 63 [some (.ref 222), some (ax_i x1), some (ax_i s0), y3] [ax_i 1] rfl ?_
    exact ax_iret ⟨_, rfl⟩ rfl (ax_nbv (by decide)) (by decide) hg h
set_option maxRecDepth 20000 in
theorem r_Model_readF {d : Nat} {V : ax_V} {Φ : Int → ax_V → Prop} {Θ : ax_V → Prop} (hg : ax_g V) (h : ax_I ay_lay d q_Model_readG [.ref 222] V (fun r1 V1 => ((r1 = 0 → Φ 0 V1) ∧ (¬ r1 = 0 → ax_I ay_lay d q_Model_see [.ref 222] V1 (fun r2 V2 => ((r2 = 61 → k_Model_readF_57 d r2 none none 1 V2 Φ Θ) ∧ (¬ r2 = 61 → ((r2 = 35 → k_Model_readF_57 d r2 none none 1 V2 Φ Θ) ∧ (¬ r2 = 35 → ((r2 = 60 → k_Model_readF_57 d r2 none none 1 V2 Φ Θ) ∧ (¬ r2 = 60 → ((r2 = 62 → ((V2 222 71 = 0 → k_Model_readF_57 d r2 none none 1 V2 Φ Θ) ∧ (¬ V2 222 71 = 0 → ((V2 222 72 ≤ 0 → k_Model_readF_57 d r2 none none 0 V2 Φ Θ) ∧ (0 < V2 222 72 → k_Model_readF_57 d r2 none none 1 V2 Φ Θ))))) ∧ (¬ r2 = 62 → k_Model_readF_57 d r2 none none 0 V2 Φ Θ))))))))) Θ))) Θ) : ax_I ay_lay (d + 1) q_Model_readF [.ref 222] V Φ Θ := by
  refine ax_T.of (M := m_Model_readF) rfl (Nat.le_of_ble_eq_true rfl) ?_
  refine ax_mv 0 0 [some (.ref 222), none, none, none] [] rfl ?_
  refine ax_mv 1 1 [some (.ref 222), none, none, none] [.ref 222] rfl ?_
  refine ax_callI (pc' := 4) ⟨_, rfl⟩ ml_12_375 (rest := []) rfl (fun ss hs => ⟨_, _, ay_222 ss hs⟩) (Nat.le_of_ble_eq_true rfl) rfl rfl h (fun r1 V1 hg1 hr1 h => ?_)
  refine ax_if (p1 := 9) (p2 := 7) ⟨_, rfl⟩ (by decide) rfl hr1 (fun hc => ?_) (fun hc => ?_)
  · have h := h.2 hc
    refine ax_mv 1 10 [some (.ref 222), none, none, none] [.ref 222] rfl ?_
    refine ax_callI (pc' := 13) ⟨_, rfl⟩ ml_12_300 (rest := []) rfl (fun ss hs => ⟨_, _, ay_222 ss hs⟩) (Nat.le_of_ble_eq_true rfl) rfl rfl h (fun r2 V2 hg2 hr2 h => ?_)
    refine ax_sti (i := 0) (k := 1) (n := 1) (pc' := 14) (L' := [some (.ref 222), some (ax_i r2), none, none]) ⟨_, rfl⟩ rfl rfl rfl (Nat.le_of_ble_eq_true rfl) rfl rfl ?_
    refine ax_mv 1 15 [some (.ref 222), some (ax_i r2), none, none] [ax_i r2] rfl ?_
    refine ax_bip (pc' := 17) ⟨_, rfl⟩ (by decide) rfl ?_
    refine ax_if2 (p1 := 52) (p2 := 20) ⟨_, rfl⟩ (by decide) rfl hr2 (by decide) (fun hc => ?_) (fun hc => ?_)
    · have h := h.1 hc
      refine ax_mv 2 57 [some (.ref 222), some (ax_i r2), none, none] [ax_i 1] rfl ?_
      exact h
    · have h := h.2 hc
      refine ax_mv 1 21 [some (.ref 222), some (ax_i r2), none, none] [ax_i r2] rfl ?_
      refine ax_bip (pc' := 23) ⟨_, rfl⟩ (by decide) rfl ?_
      refine ax_if2 (p1 := 52) (p2 := 26) ⟨_, rfl⟩ (by decide) rfl hr2 (by decide) (fun hc => ?_) (fun hc => ?_)
      · have h := h.1 hc
        refine ax_mv 2 57 [some (.ref 222), some (ax_i r2), none, none] [ax_i 1] rfl ?_
        exact h
      · have h := h.2 hc
        refine ax_mv 1 27 [some (.ref 222), some (ax_i r2), none, none] [ax_i r2] rfl ?_
        refine ax_bip (pc' := 29) ⟨_, rfl⟩ (by decide) rfl ?_
        refine ax_if2 (p1 := 52) (p2 := 32) ⟨_, rfl⟩ (by decide) rfl hr2 (by decide) (fun hc => ?_) (fun hc => ?_)
        · have h := h.1 hc
          refine ax_mv 2 57 [some (.ref 222), some (ax_i r2), none, none] [ax_i 1] rfl ?_
          exact h
        · have h := h.2 hc
          refine ax_mv 1 33 [some (.ref 222), some (ax_i r2), none, none] [ax_i r2] rfl ?_
          refine ax_bip (pc' := 35) ⟨_, rfl⟩ (by decide) rfl ?_
          refine ax_if2 (p1 := 56) (p2 := 38) ⟨_, rfl⟩ (by decide) rfl hr2 (by decide) (fun hc => ?_) (fun hc => ?_)
          · have h := h.2 hc
            refine ax_mv 1 57 [some (.ref 222), some (ax_i r2), none, none] [ax_i 0] rfl ?_
            exact h
          · have h := h.1 (Classical.not_not.mp hc)
            refine ax_mv 1 39 [some (.ref 222), some (ax_i r2), none, none] [.ref 222] rfl ?_
            refine ax_gI (kI := 71) (pc' := 42) ⟨_, rfl⟩ fl_12_345 ay_222 rfl rfl rfl ?_
            refine ax_if (p1 := 52) (p2 := 45) ⟨_, rfl⟩ (by decide) rfl (hg2 _ _) (fun hc => ?_) (fun hc => ?_)
            · have h := h.1 hc
              refine ax_mv 2 57 [some (.ref 222), some (ax_i r2), none, none] [ax_i 1] rfl ?_
              exact h
            · have h := h.2 hc
              refine ax_mv 1 46 [some (.ref 222), some (ax_i r2), none, none] [.ref 222] rfl ?_
              refine ax_gI (kI := 72) (pc' := 49) ⟨_, rfl⟩ fl_12_378 ay_222 rfl rfl rfl ?_
              refine ax_if (p1 := 56) (p2 := 52) ⟨_, rfl⟩ (by decide) rfl (hg2 _ _) (fun hc => ?_) (fun hc => ?_)
              · have h := h.1 hc
                refine ax_mv 1 57 [some (.ref 222), some (ax_i r2), none, none] [ax_i 0] rfl ?_
                exact h
              · have h := h.2 (Int.not_le.mp hc)
                refine ax_mv 2 57 [some (.ref 222), some (ax_i r2), none, none] [ax_i 1] rfl ?_
                exact h
  · have h := h.1 (Classical.not_not.mp hc)
    refine ax_mv 1 8 [some (.ref 222), none, none, none] [ax_i 0] rfl ?_
    exact ax_iret ⟨_, rfl⟩ rfl (ax_nbv (by decide)) (by decide) hg1 h
abbrev k_Model_readG_9 (d : Nat) (y1 : Option Value) (y2 : Option Value) (V : ax_V) (Φ : Int → ax_V → Prop) (Θ : ax_V → Prop) : Prop := ax_R ay_lay ax_t d m_Model_readG 9 [some (.ref 222), y1, y2] [] V (ax_Ir Φ) Θ
abbrev k_Model_readG_34 (d : Nat) (y1 : Option Value) (y2 : Option Value) (V : ax_V) (Φ : Int → ax_V → Prop) (Θ : ax_V → Prop) : Prop := ax_R ay_lay ax_t d m_Model_readG 34 [some (.ref 222), y1, y2] [] V (ax_Ir Φ) Θ
theorem r_Model_readG_9 {d : Nat} {V : ax_V} {Φ : Int → ax_V → Prop} {Θ : ax_V → Prop} {y1 : Option Value} {y2 : Option Value} (hg : ax_g V) (hy1 : ax_y y1) (hy2 : ax_y y2) (h : ax_I ay_lay d q_Model_see [.ref 222] V (fun r1 V1 => ((r1 = 43 → k_Model_readG_34 d y1 y2 V1 Φ Θ) ∧ (¬ r1 = 43 → ax_I ay_lay d q_Model_see [.ref 222] V1 (fun r2 V2 => ((r2 = 45 → ax_I ay_lay d q_Model_isArrow [.ref 222] V2 (fun r3 V3 => ((r3 = 0 → k_Model_readG_34 d y1 y2 V3 Φ Θ) ∧ (¬ r3 = 0 → Φ 1 V3))) Θ) ∧ (¬ r2 = 45 → Φ 1 V2))) Θ))) Θ) : k_Model_readG_9 d y1 y2 V Φ Θ := by
  refine ax_mv 1 10 [some (.ref 222), y1, y2] [.ref 222] rfl ?_
  refine ax_callI (pc' := 13) ⟨_, rfl⟩ ml_12_300 (rest := []) rfl (fun ss hs => ⟨_, _, ay_222 ss hs⟩) (Nat.le_of_ble_eq_true rfl) rfl rfl h (fun r1 V1 hg1 hr1 h => ?_)
  refine ax_bip (pc' := 15) ⟨_, rfl⟩ (by decide) rfl ?_
  refine ax_if2 (p1 := 34) (p2 := 18) ⟨_, rfl⟩ (by decide) rfl hr1 (by decide) (fun hc => ?_) (fun hc => ?_)
  · have h := h.1 hc
    exact h
  · have h := h.2 hc
    refine ax_mv 1 19 [some (.ref 222), y1, y2] [.ref 222] rfl ?_
    refine ax_callI (pc' := 22) ⟨_, rfl⟩ ml_12_300 (rest := []) rfl (fun ss hs => ⟨_, _, ay_222 ss hs⟩) (Nat.le_of_ble_eq_true rfl) rfl rfl h (fun r2 V2 hg2 hr2 h => ?_)
    refine ax_bip (pc' := 24) ⟨_, rfl⟩ (by decide) rfl ?_
    refine ax_if2 (p1 := 96) (p2 := 27) ⟨_, rfl⟩ (by decide) rfl hr2 (by decide) (fun hc => ?_) (fun hc => ?_)
    · have h := h.2 hc
      refine ax_mv 1 97 [some (.ref 222), y1, y2] [ax_i 1] rfl ?_
      exact ax_iret ⟨_, rfl⟩ rfl (ax_nbv (by decide)) (by decide) hg2 h
    · have h := h.1 (Classical.not_not.mp hc)
      refine ax_mv 1 28 [some (.ref 222), y1, y2] [.ref 222] rfl ?_
      refine ax_callI (pc' := 31) ⟨_, rfl⟩ ml_12_339 (rest := []) rfl (fun ss hs => ⟨_, _, ay_222 ss hs⟩) (Nat.le_of_ble_eq_true rfl) rfl rfl h (fun r3 V3 hg3 hr3 h => ?_)
      refine ax_if (p1 := 96) (p2 := 34) ⟨_, rfl⟩ (by decide) rfl hr3 (fun hc => ?_) (fun hc => ?_)
      · have h := h.2 hc
        refine ax_mv 1 97 [some (.ref 222), y1, y2] [ax_i 1] rfl ?_
        exact ax_iret ⟨_, rfl⟩ rfl (ax_nbv (by decide)) (by decide) hg3 h
      · have h := h.1 (Classical.not_not.mp hc)
        exact h
theorem r_Model_readG_34 {d : Nat} {V : ax_V} {Φ : Int → ax_V → Prop} {Θ : ax_V → Prop} {y1 : Option Value} {y2 : Option Value} (hg : ax_g V) (hy1 : ax_y y1) (hy2 : ax_y y2) (h : ax_I ay_lay d q_Model_see [.ref 222] V (fun r1 V1 => ax_rg ((V1 222 68) + 1) ∧ (∀ V2, V2 = ax_u V1 222 68 ((V1 222 68) + 1) → ax_I ay_lay d q_Model_readH [.ref 222] V2 (fun r3 V3 => ((r3 = 0 → Φ 0 V3) ∧ (¬ r3 = 0 → ((r1 = 43 → (0 ≤ V 222 74 ∧ V 222 74 < 701) ∧ ax_I ay_lay d q_Model_makePart [.ref 222, ax_i 7, ax_i (V3 242 (V 222 74)), ax_i (V 222 74), ax_i (V3 222 74), ax_i (-1)] V3 (fun r5 V5 => k_Model_readG_9 d (some (ax_i r5)) (some (ax_i r1)) V5 Φ Θ) Θ) ∧ (¬ r1 = 43 → (0 ≤ V 222 74 ∧ V 222 74 < 701) ∧ ax_I ay_lay d q_Model_makePart [.ref 222, ax_i 8, ax_i (V3 242 (V 222 74)), ax_i (V 222 74), ax_i (V3 222 74), ax_i (-1)] V3 (fun r4 V4 => k_Model_readG_9 d (some (ax_i r4)) (some (ax_i r1)) V4 Φ Θ) Θ))))) Θ)) Θ) : k_Model_readG_34 d y1 y2 V Φ Θ := by
  refine ax_mv 1 35 [some (.ref 222), y1, y2] [.ref 222] rfl ?_
  refine ax_gI (kI := 74) (pc' := 38) ⟨_, rfl⟩ fl_12_323 ay_222 rfl rfl rfl ?_
  refine ax_sti (i := 0) (k := 1) (n := 1) (pc' := 39) (L' := [some (.ref 222), some (ax_i (V 222 74)), y2]) ⟨_, rfl⟩ rfl rfl rfl (Nat.le_of_ble_eq_true rfl) rfl rfl ?_
  refine ax_mv 1 40 [some (.ref 222), some (ax_i (V 222 74)), y2] [.ref 222] rfl ?_
  refine ax_callI (pc' := 43) ⟨_, rfl⟩ ml_12_300 (rest := []) rfl (fun ss hs => ⟨_, _, ay_222 ss hs⟩) (Nat.le_of_ble_eq_true rfl) rfl rfl h (fun r1 V1 hg1 hr1 h => ?_)
  refine ax_sti (i := 0) (k := 2) (n := 1) (pc' := 44) (L' := [some (.ref 222), some (ax_i (V 222 74)), some (ax_i r1)]) ⟨_, rfl⟩ rfl rfl rfl (Nat.le_of_ble_eq_true rfl) rfl rfl ?_
  refine ax_mv 2 46 [some (.ref 222), some (ax_i (V 222 74)), some (ax_i r1)] [.ref 222, .ref 222] rfl ?_
  refine ax_gI (kI := 68) (pc' := 49) ⟨_, rfl⟩ fl_12_294 ay_222 rfl rfl rfl ?_
  refine ax_mv 1 50 [some (.ref 222), some (ax_i (V 222 74)), some (ax_i r1)] [ax_i 1, ax_i (V1 222 68), .ref 222] rfl ?_
  refine ax_add (pc' := 51) ⟨_, rfl⟩ rfl ?_
  obtain ⟨o1, h⟩ := h
  obtain ⟨V2, eV2⟩ : ∃ W9 : ax_V, W9 = ax_u V1 222 68 ((V1 222 68) + 1) := ⟨_, rfl⟩
  have h := h V2 eV2
  have hg2 : ax_g V2 := eV2 ▸ ax_u_g hg1 o1
  refine ax_pI (kI := 68) (pc' := 54) ⟨_, rfl⟩ fl_12_294 ay_ok ay_222 rfl rfl rfl rfl eV2 rfl ?_
  refine ax_mv 1 55 [some (.ref 222), some (ax_i (V 222 74)), some (ax_i r1)] [.ref 222] rfl ?_
  refine ax_callI (pc' := 58) ⟨_, rfl⟩ ml_12_381 (rest := []) rfl (fun ss hs => ⟨_, _, ay_222 ss hs⟩) (Nat.le_of_ble_eq_true rfl) rfl rfl h (fun r3 V3 hg3 hr3 h => ?_)
  refine ax_if (p1 := 63) (p2 := 61) ⟨_, rfl⟩ (by decide) rfl hr3 (fun hc => ?_) (fun hc => ?_)
  · have h := h.2 hc
    refine ax_mv 2 65 [some (.ref 222), some (ax_i (V 222 74)), some (ax_i r1)] [ax_i r1, .ref 222] rfl ?_
    refine ax_bip (pc' := 67) ⟨_, rfl⟩ (by decide) rfl ?_
    refine ax_if2 (p1 := 75) (p2 := 70) ⟨_, rfl⟩ (by decide) rfl hr1 (by decide) (fun hc => ?_) (fun hc => ?_)
    · have h := h.2 hc
      refine ax_bip (pc' := 77) ⟨_, rfl⟩ (by decide) rfl ?_
      refine ax_mv 1 78 [some (.ref 222), some (ax_i (V 222 74)), some (ax_i r1)] [.ref 222, ax_i 8, .ref 222] rfl ?_
      refine ax_gR (v := .ref 242) (pc' := 81) ⟨_, rfl⟩ fl_12_68 ay_222 rfl rfl ?_
      refine ax_mv 1 82 [some (.ref 222), some (ax_i (V 222 74)), some (ax_i r1)] [ax_i (V 222 74), .ref 242, ax_i 8, .ref 222] rfl ?_
      obtain ⟨o2, h⟩ := h
      refine ax_ild (n := 701) (pc' := 83) ⟨_, rfl⟩ ay_242 (by decide) o2 rfl ?_
      refine ax_mv 2 85 [some (.ref 222), some (ax_i (V 222 74)), some (ax_i r1)] [.ref 222, ax_i (V 222 74), ax_i (V3 242 (V 222 74)), ax_i 8, .ref 222] rfl ?_
      refine ax_gI (kI := 74) (pc' := 88) ⟨_, rfl⟩ fl_12_323 ay_222 rfl rfl rfl ?_
      refine ax_mv 1 89 [some (.ref 222), some (ax_i (V 222 74)), some (ax_i r1)] [ax_i (-1), ax_i (V3 222 74), ax_i (V 222 74), ax_i (V3 242 (V 222 74)), ax_i 8, .ref 222] rfl ?_
      refine ax_callI (pc' := 92) ⟨_, rfl⟩ ml_12_356 (rest := []) rfl (fun ss hs => ⟨_, _, ay_222 ss hs⟩) (Nat.le_of_ble_eq_true rfl) rfl rfl h (fun r4 V4 hg4 hr4 h => ?_)
      refine ax_sti (i := 0) (k := 1) (n := 1) (pc' := 93) (L' := [some (.ref 222), some (ax_i r4), some (ax_i r1)]) ⟨_, rfl⟩ rfl rfl rfl (Nat.le_of_ble_eq_true rfl) rfl rfl ?_
      refine ax_mv 1 9 [some (.ref 222), some (ax_i r4), some (ax_i r1)] [] rfl ?_
      exact h
    · have h := h.1 (Classical.not_not.mp hc)
      refine ax_bip (pc' := 72) ⟨_, rfl⟩ (by decide) rfl ?_
      refine ax_mv 2 78 [some (.ref 222), some (ax_i (V 222 74)), some (ax_i r1)] [.ref 222, ax_i 7, .ref 222] rfl ?_
      refine ax_gR (v := .ref 242) (pc' := 81) ⟨_, rfl⟩ fl_12_68 ay_222 rfl rfl ?_
      refine ax_mv 1 82 [some (.ref 222), some (ax_i (V 222 74)), some (ax_i r1)] [ax_i (V 222 74), .ref 242, ax_i 7, .ref 222] rfl ?_
      obtain ⟨o3, h⟩ := h
      refine ax_ild (n := 701) (pc' := 83) ⟨_, rfl⟩ ay_242 (by decide) o3 rfl ?_
      refine ax_mv 2 85 [some (.ref 222), some (ax_i (V 222 74)), some (ax_i r1)] [.ref 222, ax_i (V 222 74), ax_i (V3 242 (V 222 74)), ax_i 7, .ref 222] rfl ?_
      refine ax_gI (kI := 74) (pc' := 88) ⟨_, rfl⟩ fl_12_323 ay_222 rfl rfl rfl ?_
      refine ax_mv 1 89 [some (.ref 222), some (ax_i (V 222 74)), some (ax_i r1)] [ax_i (-1), ax_i (V3 222 74), ax_i (V 222 74), ax_i (V3 242 (V 222 74)), ax_i 7, .ref 222] rfl ?_
      refine ax_callI (pc' := 92) ⟨_, rfl⟩ ml_12_356 (rest := []) rfl (fun ss hs => ⟨_, _, ay_222 ss hs⟩) (Nat.le_of_ble_eq_true rfl) rfl rfl h (fun r5 V5 hg5 hr5 h => ?_)
      refine ax_sti (i := 0) (k := 1) (n := 1) (pc' := 93) (L' := [some (.ref 222), some (ax_i r5), some (ax_i r1)]) ⟨_, rfl⟩ rfl rfl rfl (Nat.le_of_ble_eq_true rfl) rfl rfl ?_
      refine ax_mv 1 9 [some (.ref 222), some (ax_i r5), some (ax_i r1)] [] rfl ?_
      exact h
  · have h := h.1 (Classical.not_not.mp hc)
    refine ax_mv 1 62 [some (.ref 222), some (ax_i (V 222 74)), some (ax_i r1)] [ax_i 0] rfl ?_
    exact ax_iret ⟨_, rfl⟩ rfl (ax_nbv (by decide)) (by decide) hg3 h
theorem r_Model_readG {d : Nat} {V : ax_V} {Φ : Int → ax_V → Prop} {Θ : ax_V → Prop} (hg : ax_g V) (h : ax_I ay_lay d q_Model_readH [.ref 222] V (fun r1 V1 => ((r1 = 0 → Φ 0 V1) ∧ (¬ r1 = 0 → k_Model_readG_9 d none none V1 Φ Θ))) Θ) : ax_I ay_lay (d + 1) q_Model_readG [.ref 222] V Φ Θ := by
  refine ax_T.of (M := m_Model_readG) rfl (Nat.le_of_ble_eq_true rfl) ?_
  refine ax_mv 0 0 [some (.ref 222), none, none] [] rfl ?_
  refine ax_mv 1 1 [some (.ref 222), none, none] [.ref 222] rfl ?_
  refine ax_callI (pc' := 4) ⟨_, rfl⟩ ml_12_381 (rest := []) rfl (fun ss hs => ⟨_, _, ay_222 ss hs⟩) (Nat.le_of_ble_eq_true rfl) rfl rfl h (fun r1 V1 hg1 hr1 h => ?_)
  refine ax_if (p1 := 9) (p2 := 7) ⟨_, rfl⟩ (by decide) rfl hr1 (fun hc => ?_) (fun hc => ?_)
  · have h := h.2 hc
    exact h
  · have h := h.1 (Classical.not_not.mp hc)
    refine ax_mv 1 8 [some (.ref 222), none, none] [ax_i 0] rfl ?_
    exact ax_iret ⟨_, rfl⟩ rfl (ax_nbv (by decide)) (by decide) hg1 h
abbrev k_Model_readH_9 (d : Nat) (y1 : Option Value) (y2 : Option Value) (y3 : Option Value) (V : ax_V) (Φ : Int → ax_V → Prop) (Θ : ax_V → Prop) : Prop := ax_R ay_lay ax_t d m_Model_readH 9 [some (.ref 222), y1, y2, y3] [] V (ax_Ir Φ) Θ
abbrev k_Model_readH_36 (d : Nat) (y1 : Option Value) (y2 : Option Value) (y3 : Option Value) (V : ax_V) (Φ : Int → ax_V → Prop) (Θ : ax_V → Prop) : Prop := ax_R ay_lay ax_t d m_Model_readH 36 [some (.ref 222), y1, y2, y3] [] V (ax_Ir Φ) Θ
set_option maxRecDepth 20000 in
theorem r_Model_readH_9 {d : Nat} {V : ax_V} {Φ : Int → ax_V → Prop} {Θ : ax_V → Prop} {y1 : Option Value} {y2 : Option Value} {y3 : Option Value} (hg : ax_g V) (hy1 : ax_y y1) (hy2 : ax_y y2) (hy3 : ax_y y3) (h : ax_I ay_lay d q_Model_see [.ref 222] V (fun r1 V1 => ((r1 = 42 → k_Model_readH_36 d y1 y2 y3 V1 Φ Θ) ∧ (¬ r1 = 42 → ax_I ay_lay d q_Model_see [.ref 222] V1 (fun r2 V2 => ((r2 = 47 → k_Model_readH_36 d y1 y2 y3 V2 Φ Θ) ∧ (¬ r2 = 47 → ax_I ay_lay d q_Model_see [.ref 222] V2 (fun r3 V3 => ((r3 = 37 → k_Model_readH_36 d y1 y2 y3 V3 Φ Θ) ∧ (¬ r3 = 37 → Φ 1 V3))) Θ))) Θ))) Θ) : k_Model_readH_9 d y1 y2 y3 V Φ Θ := by
  refine ax_mv 1 10 [some (.ref 222), y1, y2, y3] [.ref 222] rfl ?_
  refine ax_callI (pc' := 13) ⟨_, rfl⟩ ml_12_300 (rest := []) rfl (fun ss hs => ⟨_, _, ay_222 ss hs⟩) (Nat.le_of_ble_eq_true rfl) rfl rfl h (fun r1 V1 hg1 hr1 h => ?_)
  refine ax_bip (pc' := 15) ⟨_, rfl⟩ (by decide) rfl ?_
  refine ax_if2 (p1 := 36) (p2 := 18) ⟨_, rfl⟩ (by decide) rfl hr1 (by decide) (fun hc => ?_) (fun hc => ?_)
  · have h := h.1 hc
    exact h
  · have h := h.2 hc
    refine ax_mv 1 19 [some (.ref 222), y1, y2, y3] [.ref 222] rfl ?_
    refine ax_callI (pc' := 22) ⟨_, rfl⟩ ml_12_300 (rest := []) rfl (fun ss hs => ⟨_, _, ay_222 ss hs⟩) (Nat.le_of_ble_eq_true rfl) rfl rfl h (fun r2 V2 hg2 hr2 h => ?_)
    refine ax_bip (pc' := 24) ⟨_, rfl⟩ (by decide) rfl ?_
    refine ax_if2 (p1 := 36) (p2 := 27) ⟨_, rfl⟩ (by decide) rfl hr2 (by decide) (fun hc => ?_) (fun hc => ?_)
    · have h := h.1 hc
      exact h
    · have h := h.2 hc
      refine ax_mv 1 28 [some (.ref 222), y1, y2, y3] [.ref 222] rfl ?_
      refine ax_callI (pc' := 31) ⟨_, rfl⟩ ml_12_300 (rest := []) rfl (fun ss hs => ⟨_, _, ay_222 ss hs⟩) (Nat.le_of_ble_eq_true rfl) rfl rfl h (fun r3 V3 hg3 hr3 h => ?_)
      refine ax_bip (pc' := 33) ⟨_, rfl⟩ (by decide) rfl ?_
      refine ax_if2 (p1 := 121) (p2 := 36) ⟨_, rfl⟩ (by decide) rfl hr3 (by decide) (fun hc => ?_) (fun hc => ?_)
      · have h := h.2 hc
        refine ax_mv 1 122 [some (.ref 222), y1, y2, y3] [ax_i 1] rfl ?_
        exact ax_iret ⟨_, rfl⟩ rfl (ax_nbv (by decide)) (by decide) hg3 h
      · have h := h.1 (Classical.not_not.mp hc)
        exact h
set_option maxRecDepth 20000 in
theorem r_Model_readH_36 {d : Nat} {V : ax_V} {Φ : Int → ax_V → Prop} {Θ : ax_V → Prop} {y1 : Option Value} {y2 : Option Value} {y3 : Option Value} (hg : ax_g V) (hy1 : ax_y y1) (hy2 : ax_y y2) (hy3 : ax_y y3) (h : ax_I ay_lay d q_Model_see [.ref 222] V (fun r1 V1 => ax_rg ((V1 222 68) + 1) ∧ (∀ V2, V2 = ax_u V1 222 68 ((V1 222 68) + 1) → ax_I ay_lay d q_Model_readJ [.ref 222] V2 (fun r3 V3 => ((r3 = 0 → Φ 0 V3) ∧ (¬ r3 = 0 → ((r1 = 42 → (0 ≤ V 222 74 ∧ V 222 74 < 701) ∧ ax_I ay_lay d q_Model_makePart [.ref 222, ax_i 9, ax_i (V3 242 (V 222 74)), ax_i (V 222 74), ax_i (V3 222 74), ax_i (-1)] V3 (fun r8 V8 => (0 ≤ r8 ∧ r8 < 701) ∧ (∀ V9, V9 = ax_u V8 243 r8 (V1 222 68) → k_Model_readH_9 d (some (ax_i r8)) (some (ax_i r1)) (some (ax_i (V1 222 68))) V9 Φ Θ)) Θ) ∧ (¬ r1 = 42 → ((r1 = 47 → (0 ≤ V 222 74 ∧ V 222 74 < 701) ∧ ax_I ay_lay d q_Model_makePart [.ref 222, ax_i 10, ax_i (V3 242 (V 222 74)), ax_i (V 222 74), ax_i (V3 222 74), ax_i (-1)] V3 (fun r6 V6 => (0 ≤ r6 ∧ r6 < 701) ∧ (∀ V7, V7 = ax_u V6 243 r6 (V1 222 68) → k_Model_readH_9 d (some (ax_i r6)) (some (ax_i r1)) (some (ax_i (V1 222 68))) V7 Φ Θ)) Θ) ∧ (¬ r1 = 47 → (0 ≤ V 222 74 ∧ V 222 74 < 701) ∧ ax_I ay_lay d q_Model_makePart [.ref 222, ax_i 11, ax_i (V3 242 (V 222 74)), ax_i (V 222 74), ax_i (V3 222 74), ax_i (-1)] V3 (fun r4 V4 => (0 ≤ r4 ∧ r4 < 701) ∧ (∀ V5, V5 = ax_u V4 243 r4 (V1 222 68) → k_Model_readH_9 d (some (ax_i r4)) (some (ax_i r1)) (some (ax_i (V1 222 68))) V5 Φ Θ)) Θ))))))) Θ)) Θ) : k_Model_readH_36 d y1 y2 y3 V Φ Θ := by
  refine ax_mv 1 37 [some (.ref 222), y1, y2, y3] [.ref 222] rfl ?_
  refine ax_gI (kI := 74) (pc' := 40) ⟨_, rfl⟩ fl_12_323 ay_222 rfl rfl rfl ?_
  refine ax_sti (i := 0) (k := 1) (n := 1) (pc' := 41) (L' := [some (.ref 222), some (ax_i (V 222 74)), y2, y3]) ⟨_, rfl⟩ rfl rfl rfl (Nat.le_of_ble_eq_true rfl) rfl rfl ?_
  refine ax_mv 1 42 [some (.ref 222), some (ax_i (V 222 74)), y2, y3] [.ref 222] rfl ?_
  refine ax_callI (pc' := 45) ⟨_, rfl⟩ ml_12_300 (rest := []) rfl (fun ss hs => ⟨_, _, ay_222 ss hs⟩) (Nat.le_of_ble_eq_true rfl) rfl rfl h (fun r1 V1 hg1 hr1 h => ?_)
  refine ax_sti (i := 0) (k := 2) (n := 1) (pc' := 46) (L' := [some (.ref 222), some (ax_i (V 222 74)), some (ax_i r1), y3]) ⟨_, rfl⟩ rfl rfl rfl (Nat.le_of_ble_eq_true rfl) rfl rfl ?_
  refine ax_mv 1 47 [some (.ref 222), some (ax_i (V 222 74)), some (ax_i r1), y3] [.ref 222] rfl ?_
  refine ax_gI (kI := 68) (pc' := 50) ⟨_, rfl⟩ fl_12_294 ay_222 rfl rfl rfl ?_
  refine ax_sti (i := 0) (k := 3) (n := 1) (pc' := 51) (L' := [some (.ref 222), some (ax_i (V 222 74)), some (ax_i r1), some (ax_i (V1 222 68))]) ⟨_, rfl⟩ rfl rfl rfl (Nat.le_of_ble_eq_true rfl) rfl rfl ?_
  refine ax_mv 2 53 [some (.ref 222), some (ax_i (V 222 74)), some (ax_i r1), some (ax_i (V1 222 68))] [.ref 222, .ref 222] rfl ?_
  refine ax_gI (kI := 68) (pc' := 56) ⟨_, rfl⟩ fl_12_294 ay_222 rfl rfl rfl ?_
  refine ax_mv 1 57 [some (.ref 222), some (ax_i (V 222 74)), some (ax_i r1), some (ax_i (V1 222 68))] [ax_i 1, ax_i (V1 222 68), .ref 222] rfl ?_
  refine ax_add (pc' := 58) ⟨_, rfl⟩ rfl ?_
  obtain ⟨o1, h⟩ := h
  obtain ⟨V2, eV2⟩ : ∃ W9 : ax_V, W9 = ax_u V1 222 68 ((V1 222 68) + 1) := ⟨_, rfl⟩
  have h := h V2 eV2
  have hg2 : ax_g V2 := eV2 ▸ ax_u_g hg1 o1
  refine ax_pI (kI := 68) (pc' := 61) ⟨_, rfl⟩ fl_12_294 ay_ok ay_222 rfl rfl rfl rfl eV2 rfl ?_
  refine ax_mv 1 62 [some (.ref 222), some (ax_i (V 222 74)), some (ax_i r1), some (ax_i (V1 222 68))] [.ref 222] rfl ?_
  refine ax_callI (pc' := 65) ⟨_, rfl⟩ ml_12_384 (rest := []) rfl (fun ss hs => ⟨_, _, ay_222 ss hs⟩) (Nat.le_of_ble_eq_true rfl) rfl rfl h (fun r3 V3 hg3 hr3 h => ?_)
  refine ax_if (p1 := 70) (p2 := 68) ⟨_, rfl⟩ (by decide) rfl hr3 (fun hc => ?_) (fun hc => ?_)
  · have h := h.2 hc
    refine ax_mv 2 72 [some (.ref 222), some (ax_i (V 222 74)), some (ax_i r1), some (ax_i (V1 222 68))] [ax_i r1, .ref 222] rfl ?_
    refine ax_bip (pc' := 74) ⟨_, rfl⟩ (by decide) rfl ?_
    refine ax_if2 (p1 := 82) (p2 := 77) ⟨_, rfl⟩ (by decide) rfl hr1 (by decide) (fun hc => ?_) (fun hc => ?_)
    · have h := h.2 hc
      refine ax_mv 1 83 [some (.ref 222), some (ax_i (V 222 74)), some (ax_i r1), some (ax_i (V1 222 68))] [ax_i r1, .ref 222] rfl ?_
      refine ax_bip (pc' := 85) ⟨_, rfl⟩ (by decide) rfl ?_
      refine ax_if2 (p1 := 93) (p2 := 88) ⟨_, rfl⟩ (by decide) rfl hr1 (by decide) (fun hc => ?_) (fun hc => ?_)
      · have h := h.2 hc
        refine ax_bip (pc' := 95) ⟨_, rfl⟩ (by decide) rfl ?_
        refine ax_mv 1 96 [some (.ref 222), some (ax_i (V 222 74)), some (ax_i r1), some (ax_i (V1 222 68))] [.ref 222, ax_i 11, .ref 222] rfl ?_
        refine ax_gR (v := .ref 242) (pc' := 99) ⟨_, rfl⟩ fl_12_68 ay_222 rfl rfl ?_
        refine ax_mv 1 100 [some (.ref 222), some (ax_i (V 222 74)), some (ax_i r1), some (ax_i (V1 222 68))] [ax_i (V 222 74), .ref 242, ax_i 11, .ref 222] rfl ?_
        obtain ⟨o2, h⟩ := h
        refine ax_ild (n := 701) (pc' := 101) ⟨_, rfl⟩ ay_242 (by decide) o2 rfl ?_
        refine ax_mv 2 103 [some (.ref 222), some (ax_i (V 222 74)), some (ax_i r1), some (ax_i (V1 222 68))] [.ref 222, ax_i (V 222 74), ax_i (V3 242 (V 222 74)), ax_i 11, .ref 222] rfl ?_
        refine ax_gI (kI := 74) (pc' := 106) ⟨_, rfl⟩ fl_12_323 ay_222 rfl rfl rfl ?_
        refine ax_mv 1 107 [some (.ref 222), some (ax_i (V 222 74)), some (ax_i r1), some (ax_i (V1 222 68))] [ax_i (-1), ax_i (V3 222 74), ax_i (V 222 74), ax_i (V3 242 (V 222 74)), ax_i 11, .ref 222] rfl ?_
        refine ax_callI (pc' := 110) ⟨_, rfl⟩ ml_12_356 (rest := []) rfl (fun ss hs => ⟨_, _, ay_222 ss hs⟩) (Nat.le_of_ble_eq_true rfl) rfl rfl h (fun r4 V4 hg4 hr4 h => ?_)
        refine ax_sti (i := 0) (k := 1) (n := 1) (pc' := 111) (L' := [some (.ref 222), some (ax_i r4), some (ax_i r1), some (ax_i (V1 222 68))]) ⟨_, rfl⟩ rfl rfl rfl (Nat.le_of_ble_eq_true rfl) rfl rfl ?_
        refine ax_mv 1 112 [some (.ref 222), some (ax_i r4), some (ax_i r1), some (ax_i (V1 222 68))] [.ref 222] rfl ?_
        refine ax_gR (v := .ref 243) (pc' := 115) ⟨_, rfl⟩ fl_12_71 ay_222 rfl rfl ?_
        refine ax_mv 2 117 [some (.ref 222), some (ax_i r4), some (ax_i r1), some (ax_i (V1 222 68))] [ax_i (V1 222 68), ax_i r4, .ref 243] rfl ?_
        obtain ⟨o3, h⟩ := h
        obtain ⟨V5, eV5⟩ : ∃ W9 : ax_V, W9 = ax_u V4 243 r4 (V1 222 68) := ⟨_, rfl⟩
        have h := h V5 eV5
        have hg5 : ax_g V5 := eV5 ▸ ax_u_g hg4 (hg1 _ _)
        refine ax_ist (n := 701) (pc' := 118) ⟨_, rfl⟩ ay_ok ay_243 (by decide) o3 eV5 rfl ?_
        refine ax_mv 1 9 [some (.ref 222), some (ax_i r4), some (ax_i r1), some (ax_i (V1 222 68))] [] rfl ?_
        exact h
      · have h := h.1 (Classical.not_not.mp hc)
        refine ax_bip (pc' := 90) ⟨_, rfl⟩ (by decide) rfl ?_
        refine ax_mv 2 96 [some (.ref 222), some (ax_i (V 222 74)), some (ax_i r1), some (ax_i (V1 222 68))] [.ref 222, ax_i 10, .ref 222] rfl ?_
        refine ax_gR (v := .ref 242) (pc' := 99) ⟨_, rfl⟩ fl_12_68 ay_222 rfl rfl ?_
        refine ax_mv 1 100 [some (.ref 222), some (ax_i (V 222 74)), some (ax_i r1), some (ax_i (V1 222 68))] [ax_i (V 222 74), .ref 242, ax_i 10, .ref 222] rfl ?_
        obtain ⟨o4, h⟩ := h
        refine ax_ild (n := 701) (pc' := 101) ⟨_, rfl⟩ ay_242 (by decide) o4 rfl ?_
        refine ax_mv 2 103 [some (.ref 222), some (ax_i (V 222 74)), some (ax_i r1), some (ax_i (V1 222 68))] [.ref 222, ax_i (V 222 74), ax_i (V3 242 (V 222 74)), ax_i 10, .ref 222] rfl ?_
        refine ax_gI (kI := 74) (pc' := 106) ⟨_, rfl⟩ fl_12_323 ay_222 rfl rfl rfl ?_
        refine ax_mv 1 107 [some (.ref 222), some (ax_i (V 222 74)), some (ax_i r1), some (ax_i (V1 222 68))] [ax_i (-1), ax_i (V3 222 74), ax_i (V 222 74), ax_i (V3 242 (V 222 74)), ax_i 10, .ref 222] rfl ?_
        refine ax_callI (pc' := 110) ⟨_, rfl⟩ ml_12_356 (rest := []) rfl (fun ss hs => ⟨_, _, ay_222 ss hs⟩) (Nat.le_of_ble_eq_true rfl) rfl rfl h (fun r6 V6 hg6 hr6 h => ?_)
        refine ax_sti (i := 0) (k := 1) (n := 1) (pc' := 111) (L' := [some (.ref 222), some (ax_i r6), some (ax_i r1), some (ax_i (V1 222 68))]) ⟨_, rfl⟩ rfl rfl rfl (Nat.le_of_ble_eq_true rfl) rfl rfl ?_
        refine ax_mv 1 112 [some (.ref 222), some (ax_i r6), some (ax_i r1), some (ax_i (V1 222 68))] [.ref 222] rfl ?_
        refine ax_gR (v := .ref 243) (pc' := 115) ⟨_, rfl⟩ fl_12_71 ay_222 rfl rfl ?_
        refine ax_mv 2 117 [some (.ref 222), some (ax_i r6), some (ax_i r1), some (ax_i (V1 222 68))] [ax_i (V1 222 68), ax_i r6, .ref 243] rfl ?_
        obtain ⟨o5, h⟩ := h
        obtain ⟨V7, eV7⟩ : ∃ W9 : ax_V, W9 = ax_u V6 243 r6 (V1 222 68) := ⟨_, rfl⟩
        have h := h V7 eV7
        have hg7 : ax_g V7 := eV7 ▸ ax_u_g hg6 (hg1 _ _)
        refine ax_ist (n := 701) (pc' := 118) ⟨_, rfl⟩ ay_ok ay_243 (by decide) o5 eV7 rfl ?_
        refine ax_mv 1 9 [some (.ref 222), some (ax_i r6), some (ax_i r1), some (ax_i (V1 222 68))] [] rfl ?_
        exact h
    · have h := h.1 (Classical.not_not.mp hc)
      refine ax_bip (pc' := 79) ⟨_, rfl⟩ (by decide) rfl ?_
      refine ax_mv 2 96 [some (.ref 222), some (ax_i (V 222 74)), some (ax_i r1), some (ax_i (V1 222 68))] [.ref 222, ax_i 9, .ref 222] rfl ?_
      refine ax_gR (v := .ref 242) (pc' := 99) ⟨_, rfl⟩ fl_12_68 ay_222 rfl rfl ?_
      refine ax_mv 1 100 [some (.ref 222), some (ax_i (V 222 74)), some (ax_i r1), some (ax_i (V1 222 68))] [ax_i (V 222 74), .ref 242, ax_i 9, .ref 222] rfl ?_
      obtain ⟨o6, h⟩ := h
      refine ax_ild (n := 701) (pc' := 101) ⟨_, rfl⟩ ay_242 (by decide) o6 rfl ?_
      refine ax_mv 2 103 [some (.ref 222), some (ax_i (V 222 74)), some (ax_i r1), some (ax_i (V1 222 68))] [.ref 222, ax_i (V 222 74), ax_i (V3 242 (V 222 74)), ax_i 9, .ref 222] rfl ?_
      refine ax_gI (kI := 74) (pc' := 106) ⟨_, rfl⟩ fl_12_323 ay_222 rfl rfl rfl ?_
      refine ax_mv 1 107 [some (.ref 222), some (ax_i (V 222 74)), some (ax_i r1), some (ax_i (V1 222 68))] [ax_i (-1), ax_i (V3 222 74), ax_i (V 222 74), ax_i (V3 242 (V 222 74)), ax_i 9, .ref 222] rfl ?_
      refine ax_callI (pc' := 110) ⟨_, rfl⟩ ml_12_356 (rest := []) rfl (fun ss hs => ⟨_, _, ay_222 ss hs⟩) (Nat.le_of_ble_eq_true rfl) rfl rfl h (fun r8 V8 hg8 hr8 h => ?_)
      refine ax_sti (i := 0) (k := 1) (n := 1) (pc' := 111) (L' := [some (.ref 222), some (ax_i r8), some (ax_i r1), some (ax_i (V1 222 68))]) ⟨_, rfl⟩ rfl rfl rfl (Nat.le_of_ble_eq_true rfl) rfl rfl ?_
      refine ax_mv 1 112 [some (.ref 222), some (ax_i r8), some (ax_i r1), some (ax_i (V1 222 68))] [.ref 222] rfl ?_
      refine ax_gR (v := .ref 243) (pc' := 115) ⟨_, rfl⟩ fl_12_71 ay_222 rfl rfl ?_
      refine ax_mv 2 117 [some (.ref 222), some (ax_i r8), some (ax_i r1), some (ax_i (V1 222 68))] [ax_i (V1 222 68), ax_i r8, .ref 243] rfl ?_
      obtain ⟨o7, h⟩ := h
      obtain ⟨V9, eV9⟩ : ∃ W9 : ax_V, W9 = ax_u V8 243 r8 (V1 222 68) := ⟨_, rfl⟩
      have h := h V9 eV9
      have hg9 : ax_g V9 := eV9 ▸ ax_u_g hg8 (hg1 _ _)
      refine ax_ist (n := 701) (pc' := 118) ⟨_, rfl⟩ ay_ok ay_243 (by decide) o7 eV9 rfl ?_
      refine ax_mv 1 9 [some (.ref 222), some (ax_i r8), some (ax_i r1), some (ax_i (V1 222 68))] [] rfl ?_
      exact h
  · have h := h.1 (Classical.not_not.mp hc)
    refine ax_mv 1 69 [some (.ref 222), some (ax_i (V 222 74)), some (ax_i r1), some (ax_i (V1 222 68))] [ax_i 0] rfl ?_
    exact ax_iret ⟨_, rfl⟩ rfl (ax_nbv (by decide)) (by decide) hg3 h
set_option maxRecDepth 20000 in
theorem r_Model_readH {d : Nat} {V : ax_V} {Φ : Int → ax_V → Prop} {Θ : ax_V → Prop} (hg : ax_g V) (h : ax_I ay_lay d q_Model_readJ [.ref 222] V (fun r1 V1 => ((r1 = 0 → Φ 0 V1) ∧ (¬ r1 = 0 → k_Model_readH_9 d none none none V1 Φ Θ))) Θ) : ax_I ay_lay (d + 1) q_Model_readH [.ref 222] V Φ Θ := by
  refine ax_T.of (M := m_Model_readH) rfl (Nat.le_of_ble_eq_true rfl) ?_
  refine ax_mv 0 0 [some (.ref 222), none, none, none] [] rfl ?_
  refine ax_mv 1 1 [some (.ref 222), none, none, none] [.ref 222] rfl ?_
  refine ax_callI (pc' := 4) ⟨_, rfl⟩ ml_12_384 (rest := []) rfl (fun ss hs => ⟨_, _, ay_222 ss hs⟩) (Nat.le_of_ble_eq_true rfl) rfl rfl h (fun r1 V1 hg1 hr1 h => ?_)
  refine ax_if (p1 := 9) (p2 := 7) ⟨_, rfl⟩ (by decide) rfl hr1 (fun hc => ?_) (fun hc => ?_)
  · have h := h.2 hc
    exact h
  · have h := h.1 (Classical.not_not.mp hc)
    refine ax_mv 1 8 [some (.ref 222), none, none, none] [ax_i 0] rfl ?_
    exact ax_iret ⟨_, rfl⟩ rfl (ax_nbv (by decide)) (by decide) hg1 h
abbrev k_Model_readJ_9 (d : Nat) (y1 : Option Value) (y2 : Option Value) (y3 : Option Value) (y4 : Option Value) (V : ax_V) (Φ : Int → ax_V → Prop) (Θ : ax_V → Prop) : Prop := ax_R ay_lay ax_t d m_Model_readJ 9 [some (.ref 222), y1, y2, y3, y4] [] V (ax_Ir Φ) Θ
abbrev k_Model_readJ_63 (d : Nat) (x1 : Int) (x2 : Int) (y3 : Option Value) (y4 : Option Value) (V : ax_V) (Φ : Int → ax_V → Prop) (Θ : ax_V → Prop) : Prop := ax_R ay_lay ax_t d m_Model_readJ 63 [some (.ref 222), some (ax_i x1), some (ax_i x2), y3, y4] [] V (ax_Ir Φ) Θ
set_option maxRecDepth 20000 in
theorem r_Model_readJ_9 {d : Nat} {V : ax_V} {Φ : Int → ax_V → Prop} {Θ : ax_V → Prop} {y1 : Option Value} {y2 : Option Value} {y3 : Option Value} {y4 : Option Value} (hg : ax_g V) (hy1 : ax_y y1) (hy2 : ax_y y2) (hy3 : ax_y y3) (hy4 : ax_y y4) (h : ax_I ay_lay d q_Model_see [.ref 222] V (fun r1 V1 => ((r1 = 64 → ((V1 222 70 = 0 → ax_rg ((V1 222 68) + 1) ∧ (∀ V2, V2 = ax_u V1 222 68 ((V1 222 68) + 1) → ax_I ay_lay d q_Model_see [.ref 222] V2 (fun r3 V3 => ((r3 = 33 → ax_rg ((V3 222 68) + 1) ∧ (∀ V4, V4 = ax_u V3 222 68 ((V3 222 68) + 1) → k_Model_readJ_63 d (V1 222 74) 0 y3 y4 V4 Φ Θ)) ∧ (¬ r3 = 33 → k_Model_readJ_63 d (V1 222 74) 1 y3 y4 V3 Φ Θ))) Θ)) ∧ (¬ V1 222 70 = 0 → Φ 1 V1))) ∧ (¬ r1 = 64 → Φ 1 V1))) Θ) : k_Model_readJ_9 d y1 y2 y3 y4 V Φ Θ := by
  refine ax_mv 1 10 [some (.ref 222), y1, y2, y3, y4] [.ref 222] rfl ?_
  refine ax_callI (pc' := 13) ⟨_, rfl⟩ ml_12_300 (rest := []) rfl (fun ss hs => ⟨_, _, ay_222 ss hs⟩) (Nat.le_of_ble_eq_true rfl) rfl rfl h (fun r1 V1 hg1 hr1 h => ?_)
  refine ax_bip (pc' := 15) ⟨_, rfl⟩ (by decide) rfl ?_
  refine ax_if2 (p1 := 123) (p2 := 18) ⟨_, rfl⟩ (by decide) rfl hr1 (by decide) (fun hc => ?_) (fun hc => ?_)
  · have h := h.2 hc
    refine ax_mv 1 124 [some (.ref 222), y1, y2, y3, y4] [ax_i 1] rfl ?_
    exact ax_iret ⟨_, rfl⟩ rfl (ax_nbv (by decide)) (by decide) hg1 h
  · have h := h.1 (Classical.not_not.mp hc)
    refine ax_mv 1 19 [some (.ref 222), y1, y2, y3, y4] [.ref 222] rfl ?_
    refine ax_gI (kI := 70) (pc' := 22) ⟨_, rfl⟩ fl_12_390 ay_222 rfl rfl rfl ?_
    refine ax_if (p1 := 123) (p2 := 25) ⟨_, rfl⟩ (by decide) rfl (hg1 _ _) (fun hc => ?_) (fun hc => ?_)
    · have h := h.2 hc
      refine ax_mv 1 124 [some (.ref 222), y1, y2, y3, y4] [ax_i 1] rfl ?_
      exact ax_iret ⟨_, rfl⟩ rfl (ax_nbv (by decide)) (by decide) hg1 h
    · have h := h.1 (Classical.not_not.mp hc)
      refine ax_mv 1 26 [some (.ref 222), y1, y2, y3, y4] [.ref 222] rfl ?_
      refine ax_gI (kI := 74) (pc' := 29) ⟨_, rfl⟩ fl_12_323 ay_222 rfl rfl rfl ?_
      refine ax_sti (i := 0) (k := 1) (n := 1) (pc' := 30) (L' := [some (.ref 222), some (ax_i (V1 222 74)), y2, y3, y4]) ⟨_, rfl⟩ rfl rfl rfl (Nat.le_of_ble_eq_true rfl) rfl rfl ?_
      refine ax_mv 2 32 [some (.ref 222), some (ax_i (V1 222 74)), y2, y3, y4] [.ref 222, .ref 222] rfl ?_
      refine ax_gI (kI := 68) (pc' := 35) ⟨_, rfl⟩ fl_12_294 ay_222 rfl rfl rfl ?_
      refine ax_mv 1 36 [some (.ref 222), some (ax_i (V1 222 74)), y2, y3, y4] [ax_i 1, ax_i (V1 222 68), .ref 222] rfl ?_
      refine ax_add (pc' := 37) ⟨_, rfl⟩ rfl ?_
      obtain ⟨o1, h⟩ := h
      obtain ⟨V2, eV2⟩ : ∃ W9 : ax_V, W9 = ax_u V1 222 68 ((V1 222 68) + 1) := ⟨_, rfl⟩
      have h := h V2 eV2
      have hg2 : ax_g V2 := eV2 ▸ ax_u_g hg1 o1
      refine ax_pI (kI := 68) (pc' := 40) ⟨_, rfl⟩ fl_12_294 ay_ok ay_222 rfl rfl rfl rfl eV2 rfl ?_
      refine ax_mv 1 41 [some (.ref 222), some (ax_i (V1 222 74)), y2, y3, y4] [ax_i 1] rfl ?_
      refine ax_sti (i := 0) (k := 2) (n := 1) (pc' := 42) (L' := [some (.ref 222), some (ax_i (V1 222 74)), some (ax_i 1), y3, y4]) ⟨_, rfl⟩ rfl rfl rfl (Nat.le_of_ble_eq_true rfl) rfl rfl ?_
      refine ax_mv 1 43 [some (.ref 222), some (ax_i (V1 222 74)), some (ax_i 1), y3, y4] [.ref 222] rfl ?_
      refine ax_callI (pc' := 46) ⟨_, rfl⟩ ml_12_300 (rest := []) rfl (fun ss hs => ⟨_, _, ay_222 ss hs⟩) (Nat.le_of_ble_eq_true rfl) rfl rfl h (fun r3 V3 hg3 hr3 h => ?_)
      refine ax_bip (pc' := 48) ⟨_, rfl⟩ (by decide) rfl ?_
      refine ax_if2 (p1 := 63) (p2 := 51) ⟨_, rfl⟩ (by decide) rfl hr3 (by decide) (fun hc => ?_) (fun hc => ?_)
      · have h := h.2 hc
        exact h
      · have h := h.1 (Classical.not_not.mp hc)
        refine ax_mv 1 52 [some (.ref 222), some (ax_i (V1 222 74)), some (ax_i 1), y3, y4] [ax_i 0] rfl ?_
        refine ax_sti (i := 0) (k := 2) (n := 1) (pc' := 53) (L' := [some (.ref 222), some (ax_i (V1 222 74)), some (ax_i 0), y3, y4]) ⟨_, rfl⟩ rfl rfl rfl (Nat.le_of_ble_eq_true rfl) rfl rfl ?_
        refine ax_mv 2 55 [some (.ref 222), some (ax_i (V1 222 74)), some (ax_i 0), y3, y4] [.ref 222, .ref 222] rfl ?_
        refine ax_gI (kI := 68) (pc' := 58) ⟨_, rfl⟩ fl_12_294 ay_222 rfl rfl rfl ?_
        refine ax_mv 1 59 [some (.ref 222), some (ax_i (V1 222 74)), some (ax_i 0), y3, y4] [ax_i 1, ax_i (V3 222 68), .ref 222] rfl ?_
        refine ax_add (pc' := 60) ⟨_, rfl⟩ rfl ?_
        obtain ⟨o2, h⟩ := h
        obtain ⟨V4, eV4⟩ : ∃ W9 : ax_V, W9 = ax_u V3 222 68 ((V3 222 68) + 1) := ⟨_, rfl⟩
        have h := h V4 eV4
        have hg4 : ax_g V4 := eV4 ▸ ax_u_g hg3 o2
        refine ax_pI (kI := 68) (pc' := 63) ⟨_, rfl⟩ fl_12_294 ay_ok ay_222 rfl rfl rfl rfl eV4 rfl ?_
        exact h
set_option maxRecDepth 20000 in
theorem r_Model_readJ_63 {d : Nat} {V : ax_V} {Φ : Int → ax_V → Prop} {Θ : ax_V → Prop} {x1 : Int} {x2 : Int} {y3 : Option Value} {y4 : Option Value} (hg : ax_g V) (hx1 : ax_rg x1) (hx2 : ax_rg x2) (hy3 : ax_y y3) (hy4 : ax_y y4) (h : ax_I ay_lay d q_Model_takeLetter [.ref 222] V (fun r1 V1 => ((r1 = -1 → Φ 0 V1) ∧ (¬ r1 = -1 → (0 ≤ x1 ∧ x1 < 701) ∧ ax_I ay_lay d q_Model_makePart [.ref 222, ax_i 20, ax_i (V1 242 x1), ax_i x1, ax_i (-1), ax_i (-1)] V1 (fun r2 V2 => (0 ≤ r2 ∧ r2 < 701) ∧ (∀ V3, V3 = ax_u V2 248 r2 r1 → (0 ≤ r2 ∧ r2 < 701) ∧ (∀ V4, V4 = ax_u V3 244 r2 (V 222 68) → (0 ≤ r2 ∧ r2 < 701) ∧ (∀ V5, V5 = ax_u V4 249 r2 x2 → k_Model_readJ_9 d (some (ax_i r2)) (some (ax_i x2)) (some (ax_i (V 222 68))) (some (ax_i r1)) V5 Φ Θ)))) Θ))) Θ) : k_Model_readJ_63 d x1 x2 y3 y4 V Φ Θ := by
  refine ax_mv 1 64 [some (.ref 222), some (ax_i x1), some (ax_i x2), y3, y4] [.ref 222] rfl ?_
  refine ax_gI (kI := 68) (pc' := 67) ⟨_, rfl⟩ fl_12_294 ay_222 rfl rfl rfl ?_
  refine ax_sti (i := 0) (k := 3) (n := 1) (pc' := 68) (L' := [some (.ref 222), some (ax_i x1), some (ax_i x2), some (ax_i (V 222 68)), y4]) ⟨_, rfl⟩ rfl rfl rfl (Nat.le_of_ble_eq_true rfl) rfl rfl ?_
  refine ax_mv 1 69 [some (.ref 222), some (ax_i x1), some (ax_i x2), some (ax_i (V 222 68)), y4] [.ref 222] rfl ?_
  refine ax_callI (pc' := 72) ⟨_, rfl⟩ ml_12_393 (rest := []) rfl (fun ss hs => ⟨_, _, ay_222 ss hs⟩) (Nat.le_of_ble_eq_true rfl) rfl rfl h (fun r1 V1 hg1 hr1 h => ?_)
  refine ax_sti (i := 0) (k := 4) (n := 2) (pc' := 74) (L' := [some (.ref 222), some (ax_i x1), some (ax_i x2), some (ax_i (V 222 68)), some (ax_i r1)]) ⟨_, rfl⟩ rfl rfl rfl (Nat.le_of_ble_eq_true rfl) rfl rfl ?_
  refine ax_mv 2 77 [some (.ref 222), some (ax_i x1), some (ax_i x2), some (ax_i (V 222 68)), some (ax_i r1)] [ax_i (-1), ax_i r1] rfl ?_
  refine ax_if2 (p1 := 82) (p2 := 80) ⟨_, rfl⟩ (by decide) rfl hr1 (by decide) (fun hc => ?_) (fun hc => ?_)
  · have h := h.2 hc
    refine ax_mv 1 83 [some (.ref 222), some (ax_i x1), some (ax_i x2), some (ax_i (V 222 68)), some (ax_i r1)] [.ref 222] rfl ?_
    refine ax_bip (pc' := 85) ⟨_, rfl⟩ (by decide) rfl ?_
    refine ax_mv 1 86 [some (.ref 222), some (ax_i x1), some (ax_i x2), some (ax_i (V 222 68)), some (ax_i r1)] [.ref 222, ax_i 20, .ref 222] rfl ?_
    refine ax_gR (v := .ref 242) (pc' := 89) ⟨_, rfl⟩ fl_12_68 ay_222 rfl rfl ?_
    refine ax_mv 1 90 [some (.ref 222), some (ax_i x1), some (ax_i x2), some (ax_i (V 222 68)), some (ax_i r1)] [ax_i x1, .ref 242, ax_i 20, .ref 222] rfl ?_
    obtain ⟨o3, h⟩ := h
    refine ax_ild (n := 701) (pc' := 91) ⟨_, rfl⟩ ay_242 (by decide) o3 rfl ?_
    refine ax_mv 3 94 [some (.ref 222), some (ax_i x1), some (ax_i x2), some (ax_i (V 222 68)), some (ax_i r1)] [ax_i (-1), ax_i (-1), ax_i x1, ax_i (V1 242 x1), ax_i 20, .ref 222] rfl ?_
    refine ax_callI (pc' := 97) ⟨_, rfl⟩ ml_12_356 (rest := []) rfl (fun ss hs => ⟨_, _, ay_222 ss hs⟩) (Nat.le_of_ble_eq_true rfl) rfl rfl h (fun r2 V2 hg2 hr2 h => ?_)
    refine ax_sti (i := 0) (k := 1) (n := 1) (pc' := 98) (L' := [some (.ref 222), some (ax_i r2), some (ax_i x2), some (ax_i (V 222 68)), some (ax_i r1)]) ⟨_, rfl⟩ rfl rfl rfl (Nat.le_of_ble_eq_true rfl) rfl rfl ?_
    refine ax_mv 1 99 [some (.ref 222), some (ax_i r2), some (ax_i x2), some (ax_i (V 222 68)), some (ax_i r1)] [.ref 222] rfl ?_
    refine ax_gR (v := .ref 248) (pc' := 102) ⟨_, rfl⟩ fl_12_86 ay_222 rfl rfl ?_
    refine ax_mv 2 105 [some (.ref 222), some (ax_i r2), some (ax_i x2), some (ax_i (V 222 68)), some (ax_i r1)] [ax_i r1, ax_i r2, .ref 248] rfl ?_
    obtain ⟨o4, h⟩ := h
    obtain ⟨V3, eV3⟩ : ∃ W9 : ax_V, W9 = ax_u V2 248 r2 r1 := ⟨_, rfl⟩
    have h := h V3 eV3
    have hg3 : ax_g V3 := eV3 ▸ ax_u_g hg2 hr1
    refine ax_ist (n := 701) (pc' := 106) ⟨_, rfl⟩ ay_ok ay_248 (by decide) o4 eV3 rfl ?_
    refine ax_mv 1 107 [some (.ref 222), some (ax_i r2), some (ax_i x2), some (ax_i (V 222 68)), some (ax_i r1)] [.ref 222] rfl ?_
    refine ax_gR (v := .ref 244) (pc' := 110) ⟨_, rfl⟩ fl_12_74 ay_222 rfl rfl ?_
    refine ax_mv 2 112 [some (.ref 222), some (ax_i r2), some (ax_i x2), some (ax_i (V 222 68)), some (ax_i r1)] [ax_i (V 222 68), ax_i r2, .ref 244] rfl ?_
    obtain ⟨o5, h⟩ := h
    obtain ⟨V4, eV4⟩ : ∃ W9 : ax_V, W9 = ax_u V3 244 r2 (V 222 68) := ⟨_, rfl⟩
    have h := h V4 eV4
    have hg4 : ax_g V4 := eV4 ▸ ax_u_g hg3 (hg _ _)
    refine ax_ist (n := 701) (pc' := 113) ⟨_, rfl⟩ ay_ok ay_244 (by decide) o5 eV4 rfl ?_
    refine ax_mv 1 114 [some (.ref 222), some (ax_i r2), some (ax_i x2), some (ax_i (V 222 68)), some (ax_i r1)] [.ref 222] rfl ?_
    refine ax_gR (v := .ref 249) (pc' := 117) ⟨_, rfl⟩ fl_12_89 ay_222 rfl rfl ?_
    refine ax_mv 2 119 [some (.ref 222), some (ax_i r2), some (ax_i x2), some (ax_i (V 222 68)), some (ax_i r1)] [ax_i x2, ax_i r2, .ref 249] rfl ?_
    obtain ⟨o6, h⟩ := h
    obtain ⟨V5, eV5⟩ : ∃ W9 : ax_V, W9 = ax_u V4 249 r2 x2 := ⟨_, rfl⟩
    have h := h V5 eV5
    have hg5 : ax_g V5 := eV5 ▸ ax_u_g hg4 hx2
    refine ax_ist (n := 701) (pc' := 120) ⟨_, rfl⟩ ay_ok ay_249 (by decide) o6 eV5 rfl ?_
    refine ax_mv 1 9 [some (.ref 222), some (ax_i r2), some (ax_i x2), some (ax_i (V 222 68)), some (ax_i r1)] [] rfl ?_
    exact h
  · have h := h.1 (Classical.not_not.mp hc)
    refine ax_mv 1 81 [some (.ref 222), some (ax_i x1), some (ax_i x2), some (ax_i (V 222 68)), some (ax_i r1)] [ax_i 0] rfl ?_
    exact ax_iret ⟨_, rfl⟩ rfl (ax_nbv (by decide)) (by decide) hg1 h
set_option maxRecDepth 20000 in
theorem r_Model_readJ {d : Nat} {V : ax_V} {Φ : Int → ax_V → Prop} {Θ : ax_V → Prop} (hg : ax_g V) (h : ax_I ay_lay d q_Model_readK [.ref 222] V (fun r1 V1 => ((r1 = 0 → Φ 0 V1) ∧ (¬ r1 = 0 → k_Model_readJ_9 d none none none none V1 Φ Θ))) Θ) : ax_I ay_lay (d + 1) q_Model_readJ [.ref 222] V Φ Θ := by
  refine ax_T.of (M := m_Model_readJ) rfl (Nat.le_of_ble_eq_true rfl) ?_
  refine ax_mv 0 0 [some (.ref 222), none, none, none, none] [] rfl ?_
  refine ax_mv 1 1 [some (.ref 222), none, none, none, none] [.ref 222] rfl ?_
  refine ax_callI (pc' := 4) ⟨_, rfl⟩ ml_12_387 (rest := []) rfl (fun ss hs => ⟨_, _, ay_222 ss hs⟩) (Nat.le_of_ble_eq_true rfl) rfl rfl h (fun r1 V1 hg1 hr1 h => ?_)
  refine ax_if (p1 := 9) (p2 := 7) ⟨_, rfl⟩ (by decide) rfl hr1 (fun hc => ?_) (fun hc => ?_)
  · have h := h.2 hc
    exact h
  · have h := h.1 (Classical.not_not.mp hc)
    refine ax_mv 1 8 [some (.ref 222), none, none, none, none] [ax_i 0] rfl ?_
    exact ax_iret ⟨_, rfl⟩ rfl (ax_nbv (by decide)) (by decide) hg1 h
abbrev k_Model_readK_161 (d : Nat) (x1 : Int) (x2 : Int) (y3 : Option Value) (y4 : Option Value) (y5 : Option Value) (y6 : Option Value) (V : ax_V) (Φ : Int → ax_V → Prop) (Θ : ax_V → Prop) : Prop := ax_R ay_lay ax_t d m_Model_readK 161 [some (.ref 222), some (ax_i x1), some (ax_i x2), y3, y4, y5, y6] [] V (ax_Ir Φ) Θ
abbrev k_Model_readK_226 (d : Nat) (y1 : Option Value) (x2 : Int) (x3 : Int) (y4 : Option Value) (y5 : Option Value) (y6 : Option Value) (V : ax_V) (Φ : Int → ax_V → Prop) (Θ : ax_V → Prop) : Prop := ax_R ay_lay ax_t d m_Model_readK 226 [some (.ref 222), y1, some (ax_i x2), some (ax_i x3), y4, y5, y6] [] V (ax_Ir Φ) Θ
set_option maxRecDepth 20000 in
theorem r_Model_readK_161 {d : Nat} {V : ax_V} {Φ : Int → ax_V → Prop} {Θ : ax_V → Prop} {x1 : Int} {x2 : Int} {y3 : Option Value} {y4 : Option Value} {y5 : Option Value} {y6 : Option Value} (hg : ax_g V) (hx1 : ax_rg x1) (hx2 : ax_rg x2) (hy3 : ax_y y3) (hy4 : ax_y y4) (hy5 : ax_y y5) (hy6 : ax_y y6) (h : ax_rg ((V 222 68) + 1) ∧ (∀ V1, V1 = ax_u V 222 68 ((V 222 68) + 1) → ax_I ay_lay d q_Model_makePart [.ref 222, ax_i 1, ax_i x2, ax_i (-1), ax_i (-1), ax_i (-1)] V1 (fun r2 V2 => ((x1 = 84 → (0 ≤ r2 ∧ r2 < 701) ∧ (∀ V4, V4 = ax_u V2 249 r2 1 → Φ 1 V4)) ∧ (¬ x1 = 84 → (0 ≤ r2 ∧ r2 < 701) ∧ (∀ V3, V3 = ax_u V2 249 r2 0 → Φ 1 V3)))) Θ)) : k_Model_readK_161 d x1 x2 y3 y4 y5 y6 V Φ Θ := by
  refine ax_mv 2 163 [some (.ref 222), some (ax_i x1), some (ax_i x2), y3, y4, y5, y6] [.ref 222, .ref 222] rfl ?_
  refine ax_gI (kI := 68) (pc' := 166) ⟨_, rfl⟩ fl_12_294 ay_222 rfl rfl rfl ?_
  refine ax_mv 1 167 [some (.ref 222), some (ax_i x1), some (ax_i x2), y3, y4, y5, y6] [ax_i 1, ax_i (V 222 68), .ref 222] rfl ?_
  refine ax_add (pc' := 168) ⟨_, rfl⟩ rfl ?_
  obtain ⟨o1, h⟩ := h
  obtain ⟨V1, eV1⟩ : ∃ W9 : ax_V, W9 = ax_u V 222 68 ((V 222 68) + 1) := ⟨_, rfl⟩
  have h := h V1 eV1
  have hg1 : ax_g V1 := eV1 ▸ ax_u_g hg o1
  refine ax_pI (kI := 68) (pc' := 171) ⟨_, rfl⟩ fl_12_294 ay_ok ay_222 rfl rfl rfl rfl eV1 rfl ?_
  refine ax_mv 6 177 [some (.ref 222), some (ax_i x1), some (ax_i x2), y3, y4, y5, y6] [ax_i (-1), ax_i (-1), ax_i (-1), ax_i x2, ax_i 1, .ref 222] rfl ?_
  refine ax_callI (pc' := 180) ⟨_, rfl⟩ ml_12_356 (rest := []) rfl (fun ss hs => ⟨_, _, ay_222 ss hs⟩) (Nat.le_of_ble_eq_true rfl) rfl rfl h (fun r2 V2 hg2 hr2 h => ?_)
  refine ax_sti (i := 0) (k := 3) (n := 1) (pc' := 181) (L' := [some (.ref 222), some (ax_i x1), some (ax_i x2), some (ax_i r2), y4, y5, y6]) ⟨_, rfl⟩ rfl rfl rfl (Nat.le_of_ble_eq_true rfl) rfl rfl ?_
  refine ax_mv 1 182 [some (.ref 222), some (ax_i x1), some (ax_i x2), some (ax_i r2), y4, y5, y6] [.ref 222] rfl ?_
  refine ax_gR (v := .ref 249) (pc' := 185) ⟨_, rfl⟩ fl_12_89 ay_222 rfl rfl ?_
  refine ax_mv 2 187 [some (.ref 222), some (ax_i x1), some (ax_i x2), some (ax_i r2), y4, y5, y6] [ax_i x1, ax_i r2, .ref 249] rfl ?_
  refine ax_bip (pc' := 189) ⟨_, rfl⟩ (by decide) rfl ?_
  refine ax_if2 (p1 := 196) (p2 := 192) ⟨_, rfl⟩ (by decide) rfl hx1 (by decide) (fun hc => ?_) (fun hc => ?_)
  · have h := h.2 hc
    refine ax_mv 1 197 [some (.ref 222), some (ax_i x1), some (ax_i x2), some (ax_i r2), y4, y5, y6] [ax_i 0, ax_i r2, .ref 249] rfl ?_
    obtain ⟨o2, h⟩ := h
    obtain ⟨V3, eV3⟩ : ∃ W9 : ax_V, W9 = ax_u V2 249 r2 0 := ⟨_, rfl⟩
    have h := h V3 eV3
    have hg3 : ax_g V3 := eV3 ▸ ax_u_g hg2 (by decide)
    refine ax_ist (n := 701) (pc' := 198) ⟨_, rfl⟩ ay_ok ay_249 (by decide) o2 eV3 rfl ?_
    refine ax_mv 1 199 [some (.ref 222), some (ax_i x1), some (ax_i x2), some (ax_i r2), y4, y5, y6] [ax_i 1] rfl ?_
    exact ax_iret ⟨_, rfl⟩ rfl (ax_nbv (by decide)) (by decide) hg3 h
  · have h := h.1 (Classical.not_not.mp hc)
    refine ax_mv 2 197 [some (.ref 222), some (ax_i x1), some (ax_i x2), some (ax_i r2), y4, y5, y6] [ax_i 1, ax_i r2, .ref 249] rfl ?_
    obtain ⟨o3, h⟩ := h
    obtain ⟨V4, eV4⟩ : ∃ W9 : ax_V, W9 = ax_u V2 249 r2 1 := ⟨_, rfl⟩
    have h := h V4 eV4
    have hg4 : ax_g V4 := eV4 ▸ ax_u_g hg2 (by decide)
    refine ax_ist (n := 701) (pc' := 198) ⟨_, rfl⟩ ay_ok ay_249 (by decide) o3 eV4 rfl ?_
    refine ax_mv 1 199 [some (.ref 222), some (ax_i x1), some (ax_i x2), some (ax_i r2), y4, y5, y6] [ax_i 1] rfl ?_
    exact ax_iret ⟨_, rfl⟩ rfl (ax_nbv (by decide)) (by decide) hg4 h
set_option maxRecDepth 20000 in
theorem r_Model_readK_226 {d : Nat} {V : ax_V} {Φ : Int → ax_V → Prop} {Θ : ax_V → Prop} {y1 : Option Value} {x2 : Int} {x3 : Int} {y4 : Option Value} {y5 : Option Value} {y6 : Option Value} (hg : ax_g V) (hy1 : ax_y y1) (hx2 : ax_rg x2) (hx3 : ax_rg x3) (hy4 : ax_y y4) (hy5 : ax_y y5) (hy6 : ax_y y6) (h : ax_I ay_lay d q_Model_takeLetter [.ref 222] V (fun r1 V1 => ((r1 = -1 → Φ 0 V1) ∧ (¬ r1 = -1 → ((x3 = 0 → ax_I ay_lay d q_Model_makePart [.ref 222, ax_i 2, ax_i x2, ax_i (-1), ax_i (-1), ax_i (-1)] V1 (fun r2 V2 => (0 ≤ r2 ∧ r2 < 701) ∧ (∀ V3, V3 = ax_u V2 248 r2 r1 → (0 ≤ r2 ∧ r2 < 701) ∧ (∀ V4, V4 = ax_u V3 244 r2 (V 222 68) → Φ 1 V4))) Θ) ∧ (¬ x3 = 0 → ax_I ay_lay d q_Model_makePart [.ref 222, ax_i 3, ax_i x2, ax_i (-1), ax_i (-1), ax_i (-1)] V1 (fun r5 V5 => (0 ≤ r5 ∧ r5 < 701) ∧ (∀ V6, V6 = ax_u V5 248 r5 r1 → (0 ≤ r5 ∧ r5 < 701) ∧ (∀ V7, V7 = ax_u V6 244 r5 (V 222 68) → Φ 1 V7))) Θ))))) Θ) : k_Model_readK_226 d y1 x2 x3 y4 y5 y6 V Φ Θ := by
  refine ax_mv 1 227 [some (.ref 222), y1, some (ax_i x2), some (ax_i x3), y4, y5, y6] [.ref 222] rfl ?_
  refine ax_gI (kI := 68) (pc' := 230) ⟨_, rfl⟩ fl_12_294 ay_222 rfl rfl rfl ?_
  refine ax_sti (i := 0) (k := 4) (n := 2) (pc' := 232) (L' := [some (.ref 222), y1, some (ax_i x2), some (ax_i x3), some (ax_i (V 222 68)), y5, y6]) ⟨_, rfl⟩ rfl rfl rfl (Nat.le_of_ble_eq_true rfl) rfl rfl ?_
  refine ax_mv 1 233 [some (.ref 222), y1, some (ax_i x2), some (ax_i x3), some (ax_i (V 222 68)), y5, y6] [.ref 222] rfl ?_
  refine ax_callI (pc' := 236) ⟨_, rfl⟩ ml_12_393 (rest := []) rfl (fun ss hs => ⟨_, _, ay_222 ss hs⟩) (Nat.le_of_ble_eq_true rfl) rfl rfl h (fun r1 V1 hg1 hr1 h => ?_)
  refine ax_sti (i := 0) (k := 5) (n := 2) (pc' := 238) (L' := [some (.ref 222), y1, some (ax_i x2), some (ax_i x3), some (ax_i (V 222 68)), some (ax_i r1), y6]) ⟨_, rfl⟩ rfl rfl rfl (Nat.le_of_ble_eq_true rfl) rfl rfl ?_
  refine ax_mv 2 241 [some (.ref 222), y1, some (ax_i x2), some (ax_i x3), some (ax_i (V 222 68)), some (ax_i r1), y6] [ax_i (-1), ax_i r1] rfl ?_
  refine ax_if2 (p1 := 246) (p2 := 244) ⟨_, rfl⟩ (by decide) rfl hr1 (by decide) (fun hc => ?_) (fun hc => ?_)
  · have h := h.2 hc
    refine ax_mv 2 248 [some (.ref 222), y1, some (ax_i x2), some (ax_i x3), some (ax_i (V 222 68)), some (ax_i r1), y6] [ax_i x3, .ref 222] rfl ?_
    refine ax_if (p1 := 255) (p2 := 251) ⟨_, rfl⟩ (by decide) rfl hx3 (fun hc => ?_) (fun hc => ?_)
    · have h := h.1 hc
      refine ax_mv 5 260 [some (.ref 222), y1, some (ax_i x2), some (ax_i x3), some (ax_i (V 222 68)), some (ax_i r1), y6] [ax_i (-1), ax_i (-1), ax_i (-1), ax_i x2, ax_i 2, .ref 222] rfl ?_
      refine ax_callI (pc' := 263) ⟨_, rfl⟩ ml_12_356 (rest := []) rfl (fun ss hs => ⟨_, _, ay_222 ss hs⟩) (Nat.le_of_ble_eq_true rfl) rfl rfl h (fun r2 V2 hg2 hr2 h => ?_)
      refine ax_sti (i := 0) (k := 6) (n := 2) (pc' := 265) (L' := [some (.ref 222), y1, some (ax_i x2), some (ax_i x3), some (ax_i (V 222 68)), some (ax_i r1), some (ax_i r2)]) ⟨_, rfl⟩ rfl rfl rfl (Nat.le_of_ble_eq_true rfl) rfl rfl ?_
      refine ax_mv 1 266 [some (.ref 222), y1, some (ax_i x2), some (ax_i x3), some (ax_i (V 222 68)), some (ax_i r1), some (ax_i r2)] [.ref 222] rfl ?_
      refine ax_gR (v := .ref 248) (pc' := 269) ⟨_, rfl⟩ fl_12_86 ay_222 rfl rfl ?_
      refine ax_mv 2 273 [some (.ref 222), y1, some (ax_i x2), some (ax_i x3), some (ax_i (V 222 68)), some (ax_i r1), some (ax_i r2)] [ax_i r1, ax_i r2, .ref 248] rfl ?_
      obtain ⟨o4, h⟩ := h
      obtain ⟨V3, eV3⟩ : ∃ W9 : ax_V, W9 = ax_u V2 248 r2 r1 := ⟨_, rfl⟩
      have h := h V3 eV3
      have hg3 : ax_g V3 := eV3 ▸ ax_u_g hg2 hr1
      refine ax_ist (n := 701) (pc' := 274) ⟨_, rfl⟩ ay_ok ay_248 (by decide) o4 eV3 rfl ?_
      refine ax_mv 1 275 [some (.ref 222), y1, some (ax_i x2), some (ax_i x3), some (ax_i (V 222 68)), some (ax_i r1), some (ax_i r2)] [.ref 222] rfl ?_
      refine ax_gR (v := .ref 244) (pc' := 278) ⟨_, rfl⟩ fl_12_74 ay_222 rfl rfl ?_
      refine ax_mv 2 282 [some (.ref 222), y1, some (ax_i x2), some (ax_i x3), some (ax_i (V 222 68)), some (ax_i r1), some (ax_i r2)] [ax_i (V 222 68), ax_i r2, .ref 244] rfl ?_
      obtain ⟨o5, h⟩ := h
      obtain ⟨V4, eV4⟩ : ∃ W9 : ax_V, W9 = ax_u V3 244 r2 (V 222 68) := ⟨_, rfl⟩
      have h := h V4 eV4
      have hg4 : ax_g V4 := eV4 ▸ ax_u_g hg3 (hg _ _)
      refine ax_ist (n := 701) (pc' := 283) ⟨_, rfl⟩ ay_ok ay_244 (by decide) o5 eV4 rfl ?_
      refine ax_mv 1 284 [some (.ref 222), y1, some (ax_i x2), some (ax_i x3), some (ax_i (V 222 68)), some (ax_i r1), some (ax_i r2)] [ax_i 1] rfl ?_
      exact ax_iret ⟨_, rfl⟩ rfl (ax_nbv (by decide)) (by decide) hg4 h
    · have h := h.2 hc
      refine ax_mv 6 260 [some (.ref 222), y1, some (ax_i x2), some (ax_i x3), some (ax_i (V 222 68)), some (ax_i r1), y6] [ax_i (-1), ax_i (-1), ax_i (-1), ax_i x2, ax_i 3, .ref 222] rfl ?_
      refine ax_callI (pc' := 263) ⟨_, rfl⟩ ml_12_356 (rest := []) rfl (fun ss hs => ⟨_, _, ay_222 ss hs⟩) (Nat.le_of_ble_eq_true rfl) rfl rfl h (fun r5 V5 hg5 hr5 h => ?_)
      refine ax_sti (i := 0) (k := 6) (n := 2) (pc' := 265) (L' := [some (.ref 222), y1, some (ax_i x2), some (ax_i x3), some (ax_i (V 222 68)), some (ax_i r1), some (ax_i r5)]) ⟨_, rfl⟩ rfl rfl rfl (Nat.le_of_ble_eq_true rfl) rfl rfl ?_
      refine ax_mv 1 266 [some (.ref 222), y1, some (ax_i x2), some (ax_i x3), some (ax_i (V 222 68)), some (ax_i r1), some (ax_i r5)] [.ref 222] rfl ?_
      refine ax_gR (v := .ref 248) (pc' := 269) ⟨_, rfl⟩ fl_12_86 ay_222 rfl rfl ?_
      refine ax_mv 2 273 [some (.ref 222), y1, some (ax_i x2), some (ax_i x3), some (ax_i (V 222 68)), some (ax_i r1), some (ax_i r5)] [ax_i r1, ax_i r5, .ref 248] rfl ?_
      obtain ⟨o6, h⟩ := h
      obtain ⟨V6, eV6⟩ : ∃ W9 : ax_V, W9 = ax_u V5 248 r5 r1 := ⟨_, rfl⟩
      have h := h V6 eV6
      have hg6 : ax_g V6 := eV6 ▸ ax_u_g hg5 hr1
      refine ax_ist (n := 701) (pc' := 274) ⟨_, rfl⟩ ay_ok ay_248 (by decide) o6 eV6 rfl ?_
      refine ax_mv 1 275 [some (.ref 222), y1, some (ax_i x2), some (ax_i x3), some (ax_i (V 222 68)), some (ax_i r1), some (ax_i r5)] [.ref 222] rfl ?_
      refine ax_gR (v := .ref 244) (pc' := 278) ⟨_, rfl⟩ fl_12_74 ay_222 rfl rfl ?_
      refine ax_mv 2 282 [some (.ref 222), y1, some (ax_i x2), some (ax_i x3), some (ax_i (V 222 68)), some (ax_i r1), some (ax_i r5)] [ax_i (V 222 68), ax_i r5, .ref 244] rfl ?_
      obtain ⟨o7, h⟩ := h
      obtain ⟨V7, eV7⟩ : ∃ W9 : ax_V, W9 = ax_u V6 244 r5 (V 222 68) := ⟨_, rfl⟩
      have h := h V7 eV7
      have hg7 : ax_g V7 := eV7 ▸ ax_u_g hg6 (hg _ _)
      refine ax_ist (n := 701) (pc' := 283) ⟨_, rfl⟩ ay_ok ay_244 (by decide) o7 eV7 rfl ?_
      refine ax_mv 1 284 [some (.ref 222), y1, some (ax_i x2), some (ax_i x3), some (ax_i (V 222 68)), some (ax_i r1), some (ax_i r5)] [ax_i 1] rfl ?_
      exact ax_iret ⟨_, rfl⟩ rfl (ax_nbv (by decide)) (by decide) hg7 h
  · have h := h.1 (Classical.not_not.mp hc)
    refine ax_mv 1 245 [some (.ref 222), y1, some (ax_i x2), some (ax_i x3), some (ax_i (V 222 68)), some (ax_i r1), y6] [ax_i 0] rfl ?_
    exact ax_iret ⟨_, rfl⟩ rfl (ax_nbv (by decide)) (by decide) hg1 h
set_option maxRecDepth 20000 in
theorem r_Model_readK {d : Nat} {V : ax_V} {Φ : Int → ax_V → Prop} {Θ : ax_V → Prop} (hg : ax_g V) (h : ax_I ay_lay d q_Model_see [.ref 222] V (fun r1 V1 => ((r1 = 45 → ax_I ay_lay d q_Model_isArrow [.ref 222] V1 (fun r13 V13 => ((r13 = 0 → ax_I ay_lay d q_Model_readPrefix [.ref 222, ax_i 4] V13 (fun r14 V14 => ((r14 = 0 → Φ 0 V14) ∧ (¬ r14 = 0 → Φ 1 V14))) Θ) ∧ (¬ r13 = 0 → Φ 0 V13))) Θ) ∧ (¬ r1 = 45 → ((r1 = 33 → ax_I ay_lay d q_Model_readPrefix [.ref 222, ax_i 5] V1 (fun r12 V12 => (r12 = 0 ∨ r12 = 1) ∧ Φ r12 V12) Θ) ∧ (¬ r1 = 33 → ((r1 = 126 → ((V1 222 71 = 0 → ax_I ay_lay d q_Model_readPrefix [.ref 222, ax_i 6] V1 (fun r11 V11 => ((r11 = 0 → Φ 0 V11) ∧ (¬ r11 = 0 → Φ 1 V11))) Θ) ∧ (¬ V1 222 71 = 0 → Φ 0 V1))) ∧ (¬ r1 = 126 → ((r1 = 40 → ax_I ay_lay d q_Model_readBracket [.ref 222] V1 (fun r10 V10 => (r10 = 0 ∨ r10 = 1) ∧ Φ r10 V10) Θ) ∧ (¬ r1 = 40 → ((r1 = 91 → ax_I ay_lay d q_Model_readMerge [.ref 222] V1 (fun r9 V9 => (r9 = 0 ∨ r9 = 1) ∧ Φ r9 V9) Θ) ∧ (¬ r1 = 91 → ax_I ay_lay d q_Model_isName [.ref 222] V1 (fun r2 V2 => ((r2 = 0 → ax_I ay_lay d q_Model_isDigit [.ref 222] V2 (fun r3 V3 => ((r3 = 0 → ((r1 = 84 → k_Model_readK_161 d r1 (V1 222 68) none none none none V3 Φ Θ) ∧ (¬ r1 = 84 → ((r1 = 85 → k_Model_readK_161 d r1 (V1 222 68) none none none none V3 Φ Θ) ∧ (¬ r1 = 85 → ((r1 = 39 → ax_rg ((V3 222 68) + 1) ∧ (∀ V4, V4 = ax_u V3 222 68 ((V3 222 68) + 1) → k_Model_readK_226 d (some (ax_i r1)) (V1 222 68) 1 none none none V4 Φ Θ)) ∧ (¬ r1 = 39 → k_Model_readK_226 d (some (ax_i r1)) (V1 222 68) 0 none none none V3 Φ Θ))))))) ∧ (¬ r3 = 0 → ax_I ay_lay d q_Model_readNumber [.ref 222] V3 (fun r5 V5 => ((r5 = 0 → Φ 0 V5) ∧ (¬ r5 = 0 → ax_I ay_lay d q_Model_makePart [.ref 222, ax_i 0, ax_i (V1 222 68), ax_i (-1), ax_i (-1), ax_i (-1)] V5 (fun r6 V6 => (0 ≤ r6 ∧ r6 < 701) ∧ (∀ V7, V7 = ax_u V6 249 r6 (V6 222 75) → Φ 1 V7)) Θ))) Θ))) Θ) ∧ (¬ r2 = 0 → ax_I ay_lay d q_Model_readCall [.ref 222] V2 (fun r8 V8 => (r8 = 0 ∨ r8 = 1) ∧ Φ r8 V8) Θ))) Θ))))))))))) Θ) : ax_I ay_lay (d + 1) q_Model_readK [.ref 222] V Φ Θ := by
  refine ax_T.of (M := m_Model_readK) rfl (Nat.le_of_ble_eq_true rfl) ?_
  refine ax_mv 0 0 [some (.ref 222), none, none, none, none, none, none] [] rfl ?_
  refine ax_mv 1 1 [some (.ref 222), none, none, none, none, none, none] [.ref 222] rfl ?_
  refine ax_callI (pc' := 4) ⟨_, rfl⟩ ml_12_300 (rest := []) rfl (fun ss hs => ⟨_, _, ay_222 ss hs⟩) (Nat.le_of_ble_eq_true rfl) rfl rfl h (fun r1 V1 hg1 hr1 h => ?_)
  refine ax_sti (i := 0) (k := 1) (n := 1) (pc' := 5) (L' := [some (.ref 222), some (ax_i r1), none, none, none, none, none]) ⟨_, rfl⟩ rfl rfl rfl (Nat.le_of_ble_eq_true rfl) rfl rfl ?_
  refine ax_mv 1 6 [some (.ref 222), some (ax_i r1), none, none, none, none, none] [.ref 222] rfl ?_
  refine ax_gI (kI := 68) (pc' := 9) ⟨_, rfl⟩ fl_12_294 ay_222 rfl rfl rfl ?_
  refine ax_sti (i := 0) (k := 2) (n := 1) (pc' := 10) (L' := [some (.ref 222), some (ax_i r1), some (ax_i (V1 222 68)), none, none, none, none]) ⟨_, rfl⟩ rfl rfl rfl (Nat.le_of_ble_eq_true rfl) rfl rfl ?_
  refine ax_mv 1 11 [some (.ref 222), some (ax_i r1), some (ax_i (V1 222 68)), none, none, none, none] [ax_i r1] rfl ?_
  refine ax_bip (pc' := 13) ⟨_, rfl⟩ (by decide) rfl ?_
  refine ax_if2 (p1 := 37) (p2 := 16) ⟨_, rfl⟩ (by decide) rfl hr1 (by decide) (fun hc => ?_) (fun hc => ?_)
  · have h := h.2 hc
    refine ax_mv 1 38 [some (.ref 222), some (ax_i r1), some (ax_i (V1 222 68)), none, none, none, none] [ax_i r1] rfl ?_
    refine ax_bip (pc' := 40) ⟨_, rfl⟩ (by decide) rfl ?_
    refine ax_if2 (p1 := 49) (p2 := 43) ⟨_, rfl⟩ (by decide) rfl hr1 (by decide) (fun hc => ?_) (fun hc => ?_)
    · have h := h.2 hc
      refine ax_mv 1 50 [some (.ref 222), some (ax_i r1), some (ax_i (V1 222 68)), none, none, none, none] [ax_i r1] rfl ?_
      refine ax_bip (pc' := 52) ⟨_, rfl⟩ (by decide) rfl ?_
      refine ax_if2 (p1 := 77) (p2 := 55) ⟨_, rfl⟩ (by decide) rfl hr1 (by decide) (fun hc => ?_) (fun hc => ?_)
      · have h := h.2 hc
        refine ax_mv 1 78 [some (.ref 222), some (ax_i r1), some (ax_i (V1 222 68)), none, none, none, none] [ax_i r1] rfl ?_
        refine ax_bip (pc' := 80) ⟨_, rfl⟩ (by decide) rfl ?_
        refine ax_if2 (p1 := 88) (p2 := 83) ⟨_, rfl⟩ (by decide) rfl hr1 (by decide) (fun hc => ?_) (fun hc => ?_)
        · have h := h.2 hc
          refine ax_mv 1 89 [some (.ref 222), some (ax_i r1), some (ax_i (V1 222 68)), none, none, none, none] [ax_i r1] rfl ?_
          refine ax_bip (pc' := 91) ⟨_, rfl⟩ (by decide) rfl ?_
          refine ax_if2 (p1 := 99) (p2 := 94) ⟨_, rfl⟩ (by decide) rfl hr1 (by decide) (fun hc => ?_) (fun hc => ?_)
          · have h := h.2 hc
            refine ax_mv 1 100 [some (.ref 222), some (ax_i r1), some (ax_i (V1 222 68)), none, none, none, none] [.ref 222] rfl ?_
            refine ax_callI (pc' := 103) ⟨_, rfl⟩ ml_12_405 (rest := []) rfl (fun ss hs => ⟨_, _, ay_222 ss hs⟩) (Nat.le_of_ble_eq_true rfl) rfl rfl h (fun r2 V2 hg2 hr2 h => ?_)
            refine ax_if (p1 := 111) (p2 := 106) ⟨_, rfl⟩ (by decide) rfl hr2 (fun hc => ?_) (fun hc => ?_)
            · have h := h.1 hc
              refine ax_mv 1 112 [some (.ref 222), some (ax_i r1), some (ax_i (V1 222 68)), none, none, none, none] [.ref 222] rfl ?_
              refine ax_callI (pc' := 115) ⟨_, rfl⟩ ml_12_330 (rest := []) rfl (fun ss hs => ⟨_, _, ay_222 ss hs⟩) (Nat.le_of_ble_eq_true rfl) rfl rfl h (fun r3 V3 hg3 hr3 h => ?_)
              refine ax_if (p1 := 149) (p2 := 118) ⟨_, rfl⟩ (by decide) rfl hr3 (fun hc => ?_) (fun hc => ?_)
              · have h := h.1 hc
                refine ax_mv 1 150 [some (.ref 222), some (ax_i r1), some (ax_i (V1 222 68)), none, none, none, none] [ax_i r1] rfl ?_
                refine ax_bip (pc' := 152) ⟨_, rfl⟩ (by decide) rfl ?_
                refine ax_if2 (p1 := 161) (p2 := 155) ⟨_, rfl⟩ (by decide) rfl hr1 (by decide) (fun hc => ?_) (fun hc => ?_)
                · have h := h.1 hc
                  exact h
                · have h := h.2 hc
                  refine ax_mv 1 156 [some (.ref 222), some (ax_i r1), some (ax_i (V1 222 68)), none, none, none, none] [ax_i r1] rfl ?_
                  refine ax_bip (pc' := 158) ⟨_, rfl⟩ (by decide) rfl ?_
                  refine ax_if2 (p1 := 200) (p2 := 161) ⟨_, rfl⟩ (by decide) rfl hr1 (by decide) (fun hc => ?_) (fun hc => ?_)
                  · have h := h.2 hc
                    refine ax_mv 1 201 [some (.ref 222), some (ax_i r1), some (ax_i (V1 222 68)), none, none, none, none] [ax_i r1] rfl ?_
                    refine ax_bip (pc' := 203) ⟨_, rfl⟩ (by decide) rfl ?_
                    refine ax_if2 (p1 := 210) (p2 := 206) ⟨_, rfl⟩ (by decide) rfl hr1 (by decide) (fun hc => ?_) (fun hc => ?_)
                    · have h := h.2 hc
                      refine ax_mv 1 211 [some (.ref 222), some (ax_i r1), some (ax_i (V1 222 68)), none, none, none, none] [ax_i 0] rfl ?_
                      refine ax_sti (i := 0) (k := 3) (n := 1) (pc' := 212) (L' := [some (.ref 222), some (ax_i r1), some (ax_i (V1 222 68)), some (ax_i 0), none, none, none]) ⟨_, rfl⟩ rfl rfl rfl (Nat.le_of_ble_eq_true rfl) rfl rfl ?_
                      refine ax_mv 1 213 [some (.ref 222), some (ax_i r1), some (ax_i (V1 222 68)), some (ax_i 0), none, none, none] [ax_i 0] rfl ?_
                      refine ax_if (p1 := 226) (p2 := 216) ⟨_, rfl⟩ (by decide) rfl (by decide) (fun _ => ?_) (fun hc => absurd (by unfold ax_k0; decide) hc)
                      exact h
                    · have h := h.1 (Classical.not_not.mp hc)
                      refine ax_mv 2 211 [some (.ref 222), some (ax_i r1), some (ax_i (V1 222 68)), none, none, none, none] [ax_i 1] rfl ?_
                      refine ax_sti (i := 0) (k := 3) (n := 1) (pc' := 212) (L' := [some (.ref 222), some (ax_i r1), some (ax_i (V1 222 68)), some (ax_i 1), none, none, none]) ⟨_, rfl⟩ rfl rfl rfl (Nat.le_of_ble_eq_true rfl) rfl rfl ?_
                      refine ax_mv 1 213 [some (.ref 222), some (ax_i r1), some (ax_i (V1 222 68)), some (ax_i 1), none, none, none] [ax_i 1] rfl ?_
                      refine ax_if (p1 := 226) (p2 := 216) ⟨_, rfl⟩ (by decide) rfl (by decide) (fun hc => absurd hc (by unfold ax_k0; decide)) (fun _ => ?_)
                      refine ax_mv 2 218 [some (.ref 222), some (ax_i r1), some (ax_i (V1 222 68)), some (ax_i 1), none, none, none] [.ref 222, .ref 222] rfl ?_
                      refine ax_gI (kI := 68) (pc' := 221) ⟨_, rfl⟩ fl_12_294 ay_222 rfl rfl rfl ?_
                      refine ax_mv 1 222 [some (.ref 222), some (ax_i r1), some (ax_i (V1 222 68)), some (ax_i 1), none, none, none] [ax_i 1, ax_i (V3 222 68), .ref 222] rfl ?_
                      refine ax_add (pc' := 223) ⟨_, rfl⟩ rfl ?_
                      obtain ⟨o8, h⟩ := h
                      obtain ⟨V4, eV4⟩ : ∃ W9 : ax_V, W9 = ax_u V3 222 68 ((V3 222 68) + 1) := ⟨_, rfl⟩
                      have h := h V4 eV4
                      have hg4 : ax_g V4 := eV4 ▸ ax_u_g hg3 o8
                      refine ax_pI (kI := 68) (pc' := 226) ⟨_, rfl⟩ fl_12_294 ay_ok ay_222 rfl rfl rfl rfl eV4 rfl ?_
                      exact h
                  · have h := h.1 (Classical.not_not.mp hc)
                    exact h
              · have h := h.2 hc
                refine ax_mv 1 119 [some (.ref 222), some (ax_i r1), some (ax_i (V1 222 68)), none, none, none, none] [.ref 222] rfl ?_
                refine ax_callI (pc' := 122) ⟨_, rfl⟩ ml_12_411 (rest := []) rfl (fun ss hs => ⟨_, _, ay_222 ss hs⟩) (Nat.le_of_ble_eq_true rfl) rfl rfl h (fun r5 V5 hg5 hr5 h => ?_)
                refine ax_if (p1 := 127) (p2 := 125) ⟨_, rfl⟩ (by decide) rfl hr5 (fun hc => ?_) (fun hc => ?_)
                · have h := h.2 hc
                  refine ax_mv 6 133 [some (.ref 222), some (ax_i r1), some (ax_i (V1 222 68)), none, none, none, none] [ax_i (-1), ax_i (-1), ax_i (-1), ax_i (V1 222 68), ax_i 0, .ref 222] rfl ?_
                  refine ax_callI (pc' := 136) ⟨_, rfl⟩ ml_12_356 (rest := []) rfl (fun ss hs => ⟨_, _, ay_222 ss hs⟩) (Nat.le_of_ble_eq_true rfl) rfl rfl h (fun r6 V6 hg6 hr6 h => ?_)
                  refine ax_sti (i := 0) (k := 3) (n := 1) (pc' := 137) (L' := [some (.ref 222), some (ax_i r1), some (ax_i (V1 222 68)), some (ax_i r6), none, none, none]) ⟨_, rfl⟩ rfl rfl rfl (Nat.le_of_ble_eq_true rfl) rfl rfl ?_
                  refine ax_mv 1 138 [some (.ref 222), some (ax_i r1), some (ax_i (V1 222 68)), some (ax_i r6), none, none, none] [.ref 222] rfl ?_
                  refine ax_gR (v := .ref 249) (pc' := 141) ⟨_, rfl⟩ fl_12_89 ay_222 rfl rfl ?_
                  refine ax_mv 2 143 [some (.ref 222), some (ax_i r1), some (ax_i (V1 222 68)), some (ax_i r6), none, none, none] [.ref 222, ax_i r6, .ref 249] rfl ?_
                  refine ax_gI (kI := 75) (pc' := 146) ⟨_, rfl⟩ fl_12_333 ay_222 rfl rfl rfl ?_
                  obtain ⟨o9, h⟩ := h
                  obtain ⟨V7, eV7⟩ : ∃ W9 : ax_V, W9 = ax_u V6 249 r6 (V6 222 75) := ⟨_, rfl⟩
                  have h := h V7 eV7
                  have hg7 : ax_g V7 := eV7 ▸ ax_u_g hg6 (hg6 _ _)
                  refine ax_ist (n := 701) (pc' := 147) ⟨_, rfl⟩ ay_ok ay_249 (by decide) o9 eV7 rfl ?_
                  refine ax_mv 1 148 [some (.ref 222), some (ax_i r1), some (ax_i (V1 222 68)), some (ax_i r6), none, none, none] [ax_i 1] rfl ?_
                  exact ax_iret ⟨_, rfl⟩ rfl (ax_nbv (by decide)) (by decide) hg7 h
                · have h := h.1 (Classical.not_not.mp hc)
                  refine ax_mv 1 126 [some (.ref 222), some (ax_i r1), some (ax_i (V1 222 68)), none, none, none, none] [ax_i 0] rfl ?_
                  exact ax_iret ⟨_, rfl⟩ rfl (ax_nbv (by decide)) (by decide) hg5 h
            · have h := h.2 hc
              refine ax_mv 1 107 [some (.ref 222), some (ax_i r1), some (ax_i (V1 222 68)), none, none, none, none] [.ref 222] rfl ?_
              refine ax_callI (pc' := 110) ⟨_, rfl⟩ ml_12_408 (rest := []) rfl (fun ss hs => ⟨_, _, ay_222 ss hs⟩) (Nat.le_of_ble_eq_true rfl) rfl rfl h (fun r8 V8 hg8 hr8 h => ?_)
              obtain ⟨o10, h⟩ := h
              exact ax_iret ⟨_, rfl⟩ rfl (ax_nbv o10) hr8 hg8 h
          · have h := h.1 (Classical.not_not.mp hc)
            refine ax_mv 1 95 [some (.ref 222), some (ax_i r1), some (ax_i (V1 222 68)), none, none, none, none] [.ref 222] rfl ?_
            refine ax_callI (pc' := 98) ⟨_, rfl⟩ ml_12_402 (rest := []) rfl (fun ss hs => ⟨_, _, ay_222 ss hs⟩) (Nat.le_of_ble_eq_true rfl) rfl rfl h (fun r9 V9 hg9 hr9 h => ?_)
            obtain ⟨o11, h⟩ := h
            exact ax_iret ⟨_, rfl⟩ rfl (ax_nbv o11) hr9 hg9 h
        · have h := h.1 (Classical.not_not.mp hc)
          refine ax_mv 1 84 [some (.ref 222), some (ax_i r1), some (ax_i (V1 222 68)), none, none, none, none] [.ref 222] rfl ?_
          refine ax_callI (pc' := 87) ⟨_, rfl⟩ ml_12_399 (rest := []) rfl (fun ss hs => ⟨_, _, ay_222 ss hs⟩) (Nat.le_of_ble_eq_true rfl) rfl rfl h (fun r10 V10 hg10 hr10 h => ?_)
          obtain ⟨o12, h⟩ := h
          exact ax_iret ⟨_, rfl⟩ rfl (ax_nbv o12) hr10 hg10 h
      · have h := h.1 (Classical.not_not.mp hc)
        refine ax_mv 1 56 [some (.ref 222), some (ax_i r1), some (ax_i (V1 222 68)), none, none, none, none] [.ref 222] rfl ?_
        refine ax_gI (kI := 71) (pc' := 59) ⟨_, rfl⟩ fl_12_345 ay_222 rfl rfl rfl ?_
        refine ax_if (p1 := 75) (p2 := 62) ⟨_, rfl⟩ (by decide) rfl (hg1 _ _) (fun hc => ?_) (fun hc => ?_)
        · have h := h.2 hc
          refine ax_mv 1 76 [some (.ref 222), some (ax_i r1), some (ax_i (V1 222 68)), none, none, none, none] [ax_i 0] rfl ?_
          exact ax_iret ⟨_, rfl⟩ rfl (ax_nbv (by decide)) (by decide) hg1 h
        · have h := h.1 (Classical.not_not.mp hc)
          refine ax_mv 1 63 [some (.ref 222), some (ax_i r1), some (ax_i (V1 222 68)), none, none, none, none] [.ref 222] rfl ?_
          refine ax_bip (pc' := 65) ⟨_, rfl⟩ (by decide) rfl ?_
          refine ax_callI (pc' := 68) ⟨_, rfl⟩ ml_12_396 (rest := []) rfl (fun ss hs => ⟨_, _, ay_222 ss hs⟩) (Nat.le_of_ble_eq_true rfl) rfl rfl h (fun r11 V11 hg11 hr11 h => ?_)
          refine ax_if (p1 := 75) (p2 := 71) ⟨_, rfl⟩ (by decide) rfl hr11 (fun hc => ?_) (fun hc => ?_)
          · have h := h.1 hc
            refine ax_mv 1 76 [some (.ref 222), some (ax_i r1), some (ax_i (V1 222 68)), none, none, none, none] [ax_i 0] rfl ?_
            exact ax_iret ⟨_, rfl⟩ rfl (ax_nbv (by decide)) (by decide) hg11 h
          · have h := h.2 hc
            refine ax_mv 2 76 [some (.ref 222), some (ax_i r1), some (ax_i (V1 222 68)), none, none, none, none] [ax_i 1] rfl ?_
            exact ax_iret ⟨_, rfl⟩ rfl (ax_nbv (by decide)) (by decide) hg11 h
    · have h := h.1 (Classical.not_not.mp hc)
      refine ax_mv 2 45 [some (.ref 222), some (ax_i r1), some (ax_i (V1 222 68)), none, none, none, none] [ax_i 5, .ref 222] rfl ?_
      refine ax_callI (pc' := 48) ⟨_, rfl⟩ ml_12_396 (rest := []) rfl (fun ss hs => ⟨_, _, ay_222 ss hs⟩) (Nat.le_of_ble_eq_true rfl) rfl rfl h (fun r12 V12 hg12 hr12 h => ?_)
      obtain ⟨o13, h⟩ := h
      exact ax_iret ⟨_, rfl⟩ rfl (ax_nbv o13) hr12 hg12 h
  · have h := h.1 (Classical.not_not.mp hc)
    refine ax_mv 1 17 [some (.ref 222), some (ax_i r1), some (ax_i (V1 222 68)), none, none, none, none] [.ref 222] rfl ?_
    refine ax_callI (pc' := 20) ⟨_, rfl⟩ ml_12_339 (rest := []) rfl (fun ss hs => ⟨_, _, ay_222 ss hs⟩) (Nat.le_of_ble_eq_true rfl) rfl rfl h (fun r13 V13 hg13 hr13 h => ?_)
    refine ax_if (p1 := 35) (p2 := 23) ⟨_, rfl⟩ (by decide) rfl hr13 (fun hc => ?_) (fun hc => ?_)
    · have h := h.2 hc
      refine ax_mv 1 36 [some (.ref 222), some (ax_i r1), some (ax_i (V1 222 68)), none, none, none, none] [ax_i 0] rfl ?_
      exact ax_iret ⟨_, rfl⟩ rfl (ax_nbv (by decide)) (by decide) hg13 h
    · have h := h.1 (Classical.not_not.mp hc)
      refine ax_mv 2 25 [some (.ref 222), some (ax_i r1), some (ax_i (V1 222 68)), none, none, none, none] [ax_i 4, .ref 222] rfl ?_
      refine ax_callI (pc' := 28) ⟨_, rfl⟩ ml_12_396 (rest := []) rfl (fun ss hs => ⟨_, _, ay_222 ss hs⟩) (Nat.le_of_ble_eq_true rfl) rfl rfl h (fun r14 V14 hg14 hr14 h => ?_)
      refine ax_if (p1 := 35) (p2 := 31) ⟨_, rfl⟩ (by decide) rfl hr14 (fun hc => ?_) (fun hc => ?_)
      · have h := h.1 hc
        refine ax_mv 1 36 [some (.ref 222), some (ax_i r1), some (ax_i (V1 222 68)), none, none, none, none] [ax_i 0] rfl ?_
        exact ax_iret ⟨_, rfl⟩ rfl (ax_nbv (by decide)) (by decide) hg14 h
      · have h := h.2 hc
        refine ax_mv 2 36 [some (.ref 222), some (ax_i r1), some (ax_i (V1 222 68)), none, none, none, none] [ax_i 1] rfl ?_
        exact ax_iret ⟨_, rfl⟩ rfl (ax_nbv (by decide)) (by decide) hg14 h
theorem r_Model_isArrow {d : Nat} {V : ax_V} {Φ : Int → ax_V → Prop} {Θ : ax_V → Prop} (hg : ax_g V) (h : ax_I ay_lay d q_Model_see [.ref 222] V (fun r1 V1 => ((r1 = 45 → ax_I ay_lay d q_Model_seeNext [.ref 222] V1 (fun r2 V2 => ((r2 = 62 → Φ 1 V2) ∧ (¬ r2 = 62 → Φ 0 V2))) Θ) ∧ (¬ r1 = 45 → Φ 0 V1))) Θ) : ax_I ay_lay (d + 1) q_Model_isArrow [.ref 222] V Φ Θ := by
  refine ax_T.of (M := m_Model_isArrow) rfl (Nat.le_of_ble_eq_true rfl) ?_
  refine ax_mv 0 0 [some (.ref 222)] [] rfl ?_
  refine ax_mv 1 1 [some (.ref 222)] [.ref 222] rfl ?_
  refine ax_callI (pc' := 4) ⟨_, rfl⟩ ml_12_300 (rest := []) rfl (fun ss hs => ⟨_, _, ay_222 ss hs⟩) (Nat.le_of_ble_eq_true rfl) rfl rfl h (fun r1 V1 hg1 hr1 h => ?_)
  refine ax_bip (pc' := 6) ⟨_, rfl⟩ (by decide) rfl ?_
  refine ax_if2 (p1 := 22) (p2 := 9) ⟨_, rfl⟩ (by decide) rfl hr1 (by decide) (fun hc => ?_) (fun hc => ?_)
  · have h := h.2 hc
    refine ax_mv 1 23 [some (.ref 222)] [ax_i 0] rfl ?_
    exact ax_iret ⟨_, rfl⟩ rfl (ax_nbv (by decide)) (by decide) hg1 h
  · have h := h.1 (Classical.not_not.mp hc)
    refine ax_mv 1 10 [some (.ref 222)] [.ref 222] rfl ?_
    refine ax_callI (pc' := 13) ⟨_, rfl⟩ ml_12_311 (rest := []) rfl (fun ss hs => ⟨_, _, ay_222 ss hs⟩) (Nat.le_of_ble_eq_true rfl) rfl rfl h (fun r2 V2 hg2 hr2 h => ?_)
    refine ax_bip (pc' := 15) ⟨_, rfl⟩ (by decide) rfl ?_
    refine ax_if2 (p1 := 22) (p2 := 18) ⟨_, rfl⟩ (by decide) rfl hr2 (by decide) (fun hc => ?_) (fun hc => ?_)
    · have h := h.2 hc
      refine ax_mv 1 23 [some (.ref 222)] [ax_i 0] rfl ?_
      exact ax_iret ⟨_, rfl⟩ rfl (ax_nbv (by decide)) (by decide) hg2 h
    · have h := h.1 (Classical.not_not.mp hc)
      refine ax_mv 2 23 [some (.ref 222)] [ax_i 1] rfl ?_
      exact ax_iret ⟨_, rfl⟩ rfl (ax_nbv (by decide)) (by decide) hg2 h
theorem r_Model_seeNext {d : Nat} {V : ax_V} {Φ : Int → ax_V → Prop} {Θ : ax_V → Prop} (hg : ax_g V) (h : ax_rg ((V 222 68) + 1) ∧ ((V 222 3 ≤ (V 222 68) + 1 → Φ 0 V) ∧ ((V 222 68) + 1 < V 222 3 → (0 ≤ (V 222 68) + 1 ∧ (V 222 68) + 1 < 700) ∧ Φ (V 224 ((V 222 68) + 1)) V))) : ax_I ay_lay (d + 1) q_Model_seeNext [.ref 222] V Φ Θ := by
  refine ax_T.of (M := m_Model_seeNext) rfl (Nat.le_of_ble_eq_true rfl) ?_
  refine ax_mv 0 0 [some (.ref 222)] [] rfl ?_
  refine ax_mv 1 1 [some (.ref 222)] [.ref 222] rfl ?_
  refine ax_gI (kI := 68) (pc' := 4) ⟨_, rfl⟩ fl_12_294 ay_222 rfl rfl rfl ?_
  refine ax_mv 1 5 [some (.ref 222)] [ax_i 1, ax_i (V 222 68)] rfl ?_
  refine ax_add (pc' := 6) ⟨_, rfl⟩ rfl ?_
  refine ax_mv 1 7 [some (.ref 222)] [.ref 222, ax_i ((V 222 68) + 1)] rfl ?_
  refine ax_gI (kI := 3) (pc' := 10) ⟨_, rfl⟩ fl_12_297 ay_222 rfl rfl rfl ?_
  obtain ⟨o1, h⟩ := h
  refine ax_if2 (p1 := 27) (p2 := 13) ⟨_, rfl⟩ (by decide) rfl o1 (hg _ _) (fun hc => ?_) (fun hc => ?_)
  · have h := h.1 hc
    refine ax_mv 1 28 [some (.ref 222)] [ax_i 0] rfl ?_
    exact ax_iret ⟨_, rfl⟩ rfl rfl (by decide) hg h
  · have h := h.2 (Int.not_le.mp hc)
    refine ax_mv 1 14 [some (.ref 222)] [.ref 222] rfl ?_
    refine ax_gR (v := .ref 224) (pc' := 17) ⟨_, rfl⟩ fl_12_13 ay_222 rfl rfl ?_
    refine ax_mv 1 18 [some (.ref 222)] [.ref 222, .ref 224] rfl ?_
    refine ax_gI (kI := 68) (pc' := 21) ⟨_, rfl⟩ fl_12_294 ay_222 rfl rfl rfl ?_
    refine ax_mv 1 22 [some (.ref 222)] [ax_i 1, ax_i (V 222 68), .ref 224] rfl ?_
    refine ax_add (pc' := 23) ⟨_, rfl⟩ rfl ?_
    obtain ⟨o2, h⟩ := h
    refine ax_ild (n := 700) (pc' := 24) ⟨_, rfl⟩ ay_224 (by decide) o2 rfl ?_
    refine ax_mv 1 28 [some (.ref 222)] [ax_i (V 224 ((V 222 68) + 1))] rfl ?_
    exact ax_iret ⟨_, rfl⟩ rfl rfl (hg _ _) hg h
theorem r_Model_readPrefix {d : Nat} {V : ax_V} {Φ : Int → ax_V → Prop} {Θ : ax_V → Prop} {x1 : Int} (hg : ax_g V) (hx1 : ax_rg x1) (h : ax_I ay_lay d q_Model_open [.ref 222, ax_i 1] V (fun r1 V1 => ((r1 = 0 → Φ 0 V1) ∧ (¬ r1 = 0 → ax_I ay_lay d q_Model_readK [.ref 222] V1 (fun r2 V2 => ((r2 = 0 → Φ 0 V2) ∧ (¬ r2 = 0 → ax_rg ((V2 222 69) - 1) ∧ (∀ V3, V3 = ax_u V2 222 69 ((V2 222 69) - 1) → ax_I ay_lay d q_Model_makePart [.ref 222, ax_i x1, ax_i (V 222 68), ax_i (V3 222 74), ax_i (-1), ax_i (-1)] V3 (fun r4 V4 => ((r4 < 0 → Φ 0 V4) ∧ (0 ≤ r4 → Φ 1 V4))) Θ)))) Θ))) Θ) : ax_I ay_lay (d + 1) q_Model_readPrefix [.ref 222, ax_i x1] V Φ Θ := by
  refine ax_T.of (M := m_Model_readPrefix) rfl (Nat.le_of_ble_eq_true rfl) ?_
  refine ax_mv 0 0 [some (.ref 222), some (ax_i x1), none, none] [] rfl ?_
  refine ax_mv 1 1 [some (.ref 222), some (ax_i x1), none, none] [.ref 222] rfl ?_
  refine ax_gI (kI := 68) (pc' := 4) ⟨_, rfl⟩ fl_12_294 ay_222 rfl rfl rfl ?_
  refine ax_sti (i := 0) (k := 2) (n := 1) (pc' := 5) (L' := [some (.ref 222), some (ax_i x1), some (ax_i (V 222 68)), none]) ⟨_, rfl⟩ rfl rfl rfl (Nat.le_of_ble_eq_true rfl) rfl rfl ?_
  refine ax_mv 2 7 [some (.ref 222), some (ax_i x1), some (ax_i (V 222 68)), none] [ax_i 1, .ref 222] rfl ?_
  refine ax_callI (pc' := 10) ⟨_, rfl⟩ ml_12_349 (rest := []) rfl (fun ss hs => ⟨_, _, ay_222 ss hs⟩) (Nat.le_of_ble_eq_true rfl) rfl rfl h (fun r1 V1 hg1 hr1 h => ?_)
  refine ax_if (p1 := 20) (p2 := 13) ⟨_, rfl⟩ (by decide) rfl hr1 (fun hc => ?_) (fun hc => ?_)
  · have h := h.1 hc
    refine ax_mv 1 21 [some (.ref 222), some (ax_i x1), some (ax_i (V 222 68)), none] [ax_i 0] rfl ?_
    exact ax_iret ⟨_, rfl⟩ rfl (ax_nbv (by decide)) (by decide) hg1 h
  · have h := h.2 hc
    refine ax_mv 1 14 [some (.ref 222), some (ax_i x1), some (ax_i (V 222 68)), none] [.ref 222] rfl ?_
    refine ax_callI (pc' := 17) ⟨_, rfl⟩ ml_12_387 (rest := []) rfl (fun ss hs => ⟨_, _, ay_222 ss hs⟩) (Nat.le_of_ble_eq_true rfl) rfl rfl h (fun r2 V2 hg2 hr2 h => ?_)
    refine ax_if (p1 := 22) (p2 := 20) ⟨_, rfl⟩ (by decide) rfl hr2 (fun hc => ?_) (fun hc => ?_)
    · have h := h.2 hc
      refine ax_mv 2 24 [some (.ref 222), some (ax_i x1), some (ax_i (V 222 68)), none] [.ref 222, .ref 222] rfl ?_
      refine ax_gI (kI := 69) (pc' := 27) ⟨_, rfl⟩ fl_12_314 ay_222 rfl rfl rfl ?_
      refine ax_mv 1 28 [some (.ref 222), some (ax_i x1), some (ax_i (V 222 68)), none] [ax_i 1, ax_i (V2 222 69), .ref 222] rfl ?_
      refine ax_sub (pc' := 29) ⟨_, rfl⟩ rfl ?_
      obtain ⟨o1, h⟩ := h
      obtain ⟨V3, eV3⟩ : ∃ W9 : ax_V, W9 = ax_u V2 222 69 ((V2 222 69) - 1) := ⟨_, rfl⟩
      have h := h V3 eV3
      have hg3 : ax_g V3 := eV3 ▸ ax_u_g hg2 o1
      refine ax_pI (kI := 69) (pc' := 32) ⟨_, rfl⟩ fl_12_314 ay_ok ay_222 rfl rfl rfl rfl eV3 rfl ?_
      refine ax_mv 4 36 [some (.ref 222), some (ax_i x1), some (ax_i (V 222 68)), none] [.ref 222, ax_i (V 222 68), ax_i x1, .ref 222] rfl ?_
      refine ax_gI (kI := 74) (pc' := 39) ⟨_, rfl⟩ fl_12_323 ay_222 rfl rfl rfl ?_
      refine ax_mv 2 41 [some (.ref 222), some (ax_i x1), some (ax_i (V 222 68)), none] [ax_i (-1), ax_i (-1), ax_i (V3 222 74), ax_i (V 222 68), ax_i x1, .ref 222] rfl ?_
      refine ax_callI (pc' := 44) ⟨_, rfl⟩ ml_12_356 (rest := []) rfl (fun ss hs => ⟨_, _, ay_222 ss hs⟩) (Nat.le_of_ble_eq_true rfl) rfl rfl h (fun r4 V4 hg4 hr4 h => ?_)
      refine ax_sti (i := 0) (k := 3) (n := 1) (pc' := 45) (L' := [some (.ref 222), some (ax_i x1), some (ax_i (V 222 68)), some (ax_i r4)]) ⟨_, rfl⟩ rfl rfl rfl (Nat.le_of_ble_eq_true rfl) rfl rfl ?_
      refine ax_mv 1 46 [some (.ref 222), some (ax_i x1), some (ax_i (V 222 68)), some (ax_i r4)] [ax_i r4] rfl ?_
      refine ax_if (p1 := 53) (p2 := 49) ⟨_, rfl⟩ (by decide) rfl hr4 (fun hc => ?_) (fun hc => ?_)
      · have h := h.1 hc
        refine ax_mv 1 54 [some (.ref 222), some (ax_i x1), some (ax_i (V 222 68)), some (ax_i r4)] [ax_i 0] rfl ?_
        exact ax_iret ⟨_, rfl⟩ rfl (ax_nbv (by decide)) (by decide) hg4 h
      · have h := h.2 (Int.not_lt.mp hc)
        refine ax_mv 2 54 [some (.ref 222), some (ax_i x1), some (ax_i (V 222 68)), some (ax_i r4)] [ax_i 1] rfl ?_
        exact ax_iret ⟨_, rfl⟩ rfl (ax_nbv (by decide)) (by decide) hg4 h
    · have h := h.1 (Classical.not_not.mp hc)
      refine ax_mv 1 21 [some (.ref 222), some (ax_i x1), some (ax_i (V 222 68)), none] [ax_i 0] rfl ?_
      exact ax_iret ⟨_, rfl⟩ rfl (ax_nbv (by decide)) (by decide) hg2 h
theorem r_Model_open {d : Nat} {V : ax_V} {Φ : Int → ax_V → Prop} {Θ : ax_V → Prop} {x1 : Int} (hg : ax_g V) (hx1 : ax_rg x1) (h : ((V 222 69 = 20 → Φ 0 V) ∧ (¬ V 222 69 = 20 → ax_rg ((V 222 69) + 1) ∧ (∀ V1, V1 = ax_u V 222 69 ((V 222 69) + 1) → ax_rg ((V1 222 68) + x1) ∧ (∀ V2, V2 = ax_u V1 222 68 ((V1 222 68) + x1) → Φ 1 V2))))) : ax_I ay_lay (d + 1) q_Model_open [.ref 222, ax_i x1] V Φ Θ := by
  refine ax_T.of (M := m_Model_open) rfl (Nat.le_of_ble_eq_true rfl) ?_
  refine ax_mv 0 0 [some (.ref 222), some (ax_i x1)] [] rfl ?_
  refine ax_mv 1 1 [some (.ref 222), some (ax_i x1)] [.ref 222] rfl ?_
  refine ax_gI (kI := 69) (pc' := 4) ⟨_, rfl⟩ fl_12_314 ay_222 rfl rfl rfl ?_
  refine ax_bip (pc' := 6) ⟨_, rfl⟩ (by decide) rfl ?_
  refine ax_if2 (p1 := 11) (p2 := 9) ⟨_, rfl⟩ (by decide) rfl (hg _ _) (by decide) (fun hc => ?_) (fun hc => ?_)
  · have h := h.2 hc
    refine ax_mv 2 13 [some (.ref 222), some (ax_i x1)] [.ref 222, .ref 222] rfl ?_
    refine ax_gI (kI := 69) (pc' := 16) ⟨_, rfl⟩ fl_12_314 ay_222 rfl rfl rfl ?_
    refine ax_mv 1 17 [some (.ref 222), some (ax_i x1)] [ax_i 1, ax_i (V 222 69), .ref 222] rfl ?_
    refine ax_add (pc' := 18) ⟨_, rfl⟩ rfl ?_
    obtain ⟨o1, h⟩ := h
    obtain ⟨V1, eV1⟩ : ∃ W9 : ax_V, W9 = ax_u V 222 69 ((V 222 69) + 1) := ⟨_, rfl⟩
    have h := h V1 eV1
    have hg1 : ax_g V1 := eV1 ▸ ax_u_g hg o1
    refine ax_pI (kI := 69) (pc' := 21) ⟨_, rfl⟩ fl_12_314 ay_ok ay_222 rfl rfl rfl rfl eV1 rfl ?_
    refine ax_mv 2 23 [some (.ref 222), some (ax_i x1)] [.ref 222, .ref 222] rfl ?_
    refine ax_gI (kI := 68) (pc' := 26) ⟨_, rfl⟩ fl_12_294 ay_222 rfl rfl rfl ?_
    refine ax_mv 1 27 [some (.ref 222), some (ax_i x1)] [ax_i x1, ax_i (V1 222 68), .ref 222] rfl ?_
    refine ax_add (pc' := 28) ⟨_, rfl⟩ rfl ?_
    obtain ⟨o2, h⟩ := h
    obtain ⟨V2, eV2⟩ : ∃ W9 : ax_V, W9 = ax_u V1 222 68 ((V1 222 68) + x1) := ⟨_, rfl⟩
    have h := h V2 eV2
    have hg2 : ax_g V2 := eV2 ▸ ax_u_g hg1 o2
    refine ax_pI (kI := 68) (pc' := 31) ⟨_, rfl⟩ fl_12_294 ay_ok ay_222 rfl rfl rfl rfl eV2 rfl ?_
    refine ax_mv 1 32 [some (.ref 222), some (ax_i x1)] [ax_i 1] rfl ?_
    exact ax_iret ⟨_, rfl⟩ rfl (ax_nbv (by decide)) (by decide) hg2 h
  · have h := h.1 (Classical.not_not.mp hc)
    refine ax_mv 1 10 [some (.ref 222), some (ax_i x1)] [ax_i 0] rfl ?_
    exact ax_iret ⟨_, rfl⟩ rfl (ax_nbv (by decide)) (by decide) hg h
