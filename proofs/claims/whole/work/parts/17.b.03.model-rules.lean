/-! RULES of the model's methods: a method each, and each loop of it. PRINTED by wip/gen/rules.py -/
set_option maxRecDepth 20000 in
theorem r_Model_makePart {d : Nat} {V : ax_V} {Φ : Int → ax_V → Prop} {Θ : ax_V → Prop} {x1 : Int} {x2 : Int} {x3 : Int} {x4 : Int} {x5 : Int} (hg : ax_g V) (hx1 : ax_rg x1) (hx2 : ax_rg x2) (hx3 : ax_rg x3) (hx4 : ax_rg x4) (hx5 : ax_rg x5) (h : ax_rg ((V 222 26) + 1) ∧ (∀ V1, V1 = ax_u V 222 26 ((V 222 26) + 1) → (0 ≤ V 222 26 ∧ V 222 26 < 701) ∧ (∀ V2, V2 = ax_u V1 241 (V 222 26) x1 → (0 ≤ V 222 26 ∧ V 222 26 < 701) ∧ (∀ V3, V3 = ax_u V2 242 (V 222 26) x2 → (0 ≤ V 222 26 ∧ V 222 26 < 701) ∧ (∀ V4, V4 = ax_u V3 243 (V 222 26) x2 → (0 ≤ V 222 26 ∧ V 222 26 < 701) ∧ (∀ V5, V5 = ax_u V4 244 (V 222 26) (-1) → (0 ≤ V 222 26 ∧ V 222 26 < 701) ∧ (∀ V6, V6 = ax_u V5 245 (V 222 26) x3 → (0 ≤ V 222 26 ∧ V 222 26 < 701) ∧ (∀ V7, V7 = ax_u V6 246 (V 222 26) x4 → (0 ≤ V 222 26 ∧ V 222 26 < 701) ∧ (∀ V8, V8 = ax_u V7 247 (V 222 26) x5 → (0 ≤ V 222 26 ∧ V 222 26 < 701) ∧ (∀ V9, V9 = ax_u V8 248 (V 222 26) (-1) → (0 ≤ V 222 26 ∧ V 222 26 < 701) ∧ (∀ V10, V10 = ax_u V9 249 (V 222 26) 0 → (0 ≤ V 222 26 ∧ V 222 26 < 701) ∧ (∀ V11, V11 = ax_u V10 250 (V 222 26) (V10 222 10) → (0 ≤ V 222 26 ∧ V 222 26 < 701) ∧ (∀ V12, V12 = ax_u V11 251 (V 222 26) (-1) → (0 ≤ V 222 26 ∧ V 222 26 < 701) ∧ (∀ V13, V13 = ax_u V12 252 (V 222 26) (-1) → (0 ≤ V 222 26 ∧ V 222 26 < 701) ∧ (∀ V14, V14 = ax_u V13 256 (V 222 26) 0 → (∀ V15, V15 = ax_u V14 222 74 (V 222 26) → Φ (V 222 26) V15)))))))))))))))) : ax_I ay_lay (d + 1) q_Model_makePart [.ref 222, ax_i x1, ax_i x2, ax_i x3, ax_i x4, ax_i x5] V Φ Θ := by
  refine ax_T.of (M := m_Model_makePart) rfl (Nat.le_of_ble_eq_true rfl) ?_
  refine ax_mv 0 0 [some (.ref 222), some (ax_i x1), some (ax_i x2), some (ax_i x3), some (ax_i x4), some (ax_i x5), none] [] rfl ?_
  refine ax_mv 1 1 [some (.ref 222), some (ax_i x1), some (ax_i x2), some (ax_i x3), some (ax_i x4), some (ax_i x5), none] [.ref 222] rfl ?_
  refine ax_gI (kI := 26) (pc' := 4) ⟨_, rfl⟩ fl_12_317 ay_222 rfl rfl rfl ?_
  refine ax_sti (i := 0) (k := 6) (n := 2) (pc' := 6) (L' := [some (.ref 222), some (ax_i x1), some (ax_i x2), some (ax_i x3), some (ax_i x4), some (ax_i x5), some (ax_i (V 222 26))]) ⟨_, rfl⟩ rfl rfl rfl (Nat.le_of_ble_eq_true rfl) rfl rfl ?_
  refine ax_mv 2 8 [some (.ref 222), some (ax_i x1), some (ax_i x2), some (ax_i x3), some (ax_i x4), some (ax_i x5), some (ax_i (V 222 26))] [.ref 222, .ref 222] rfl ?_
  refine ax_gI (kI := 26) (pc' := 11) ⟨_, rfl⟩ fl_12_317 ay_222 rfl rfl rfl ?_
  refine ax_mv 1 12 [some (.ref 222), some (ax_i x1), some (ax_i x2), some (ax_i x3), some (ax_i x4), some (ax_i x5), some (ax_i (V 222 26))] [ax_i 1, ax_i (V 222 26), .ref 222] rfl ?_
  refine ax_add (pc' := 13) ⟨_, rfl⟩ rfl ?_
  obtain ⟨o1, h⟩ := h
  obtain ⟨V1, eV1⟩ : ∃ W9 : ax_V, W9 = ax_u V 222 26 ((V 222 26) + 1) := ⟨_, rfl⟩
  have h := h V1 eV1
  have hg1 : ax_g V1 := eV1 ▸ ax_u_g hg o1
  refine ax_pI (kI := 26) (pc' := 16) ⟨_, rfl⟩ fl_12_317 ay_ok ay_222 rfl rfl rfl rfl eV1 rfl ?_
  refine ax_mv 1 17 [some (.ref 222), some (ax_i x1), some (ax_i x2), some (ax_i x3), some (ax_i x4), some (ax_i x5), some (ax_i (V 222 26))] [.ref 222] rfl ?_
  refine ax_gR (v := .ref 241) (pc' := 20) ⟨_, rfl⟩ fl_12_65 ay_222 rfl rfl ?_
  refine ax_mv 2 23 [some (.ref 222), some (ax_i x1), some (ax_i x2), some (ax_i x3), some (ax_i x4), some (ax_i x5), some (ax_i (V 222 26))] [ax_i x1, ax_i (V 222 26), .ref 241] rfl ?_
  obtain ⟨o2, h⟩ := h
  obtain ⟨V2, eV2⟩ : ∃ W9 : ax_V, W9 = ax_u V1 241 (V 222 26) x1 := ⟨_, rfl⟩
  have h := h V2 eV2
  have hg2 : ax_g V2 := eV2 ▸ ax_u_g hg1 hx1
  refine ax_ist (n := 701) (pc' := 24) ⟨_, rfl⟩ ay_ok ay_241 (by decide) o2 eV2 rfl ?_
  refine ax_mv 1 25 [some (.ref 222), some (ax_i x1), some (ax_i x2), some (ax_i x3), some (ax_i x4), some (ax_i x5), some (ax_i (V 222 26))] [.ref 222] rfl ?_
  refine ax_gR (v := .ref 242) (pc' := 28) ⟨_, rfl⟩ fl_12_68 ay_222 rfl rfl ?_
  refine ax_mv 2 31 [some (.ref 222), some (ax_i x1), some (ax_i x2), some (ax_i x3), some (ax_i x4), some (ax_i x5), some (ax_i (V 222 26))] [ax_i x2, ax_i (V 222 26), .ref 242] rfl ?_
  obtain ⟨o3, h⟩ := h
  obtain ⟨V3, eV3⟩ : ∃ W9 : ax_V, W9 = ax_u V2 242 (V 222 26) x2 := ⟨_, rfl⟩
  have h := h V3 eV3
  have hg3 : ax_g V3 := eV3 ▸ ax_u_g hg2 hx2
  refine ax_ist (n := 701) (pc' := 32) ⟨_, rfl⟩ ay_ok ay_242 (by decide) o3 eV3 rfl ?_
  refine ax_mv 1 33 [some (.ref 222), some (ax_i x1), some (ax_i x2), some (ax_i x3), some (ax_i x4), some (ax_i x5), some (ax_i (V 222 26))] [.ref 222] rfl ?_
  refine ax_gR (v := .ref 243) (pc' := 36) ⟨_, rfl⟩ fl_12_71 ay_222 rfl rfl ?_
  refine ax_mv 2 39 [some (.ref 222), some (ax_i x1), some (ax_i x2), some (ax_i x3), some (ax_i x4), some (ax_i x5), some (ax_i (V 222 26))] [ax_i x2, ax_i (V 222 26), .ref 243] rfl ?_
  obtain ⟨o4, h⟩ := h
  obtain ⟨V4, eV4⟩ : ∃ W9 : ax_V, W9 = ax_u V3 243 (V 222 26) x2 := ⟨_, rfl⟩
  have h := h V4 eV4
  have hg4 : ax_g V4 := eV4 ▸ ax_u_g hg3 hx2
  refine ax_ist (n := 701) (pc' := 40) ⟨_, rfl⟩ ay_ok ay_243 (by decide) o4 eV4 rfl ?_
  refine ax_mv 1 41 [some (.ref 222), some (ax_i x1), some (ax_i x2), some (ax_i x3), some (ax_i x4), some (ax_i x5), some (ax_i (V 222 26))] [.ref 222] rfl ?_
  refine ax_gR (v := .ref 244) (pc' := 44) ⟨_, rfl⟩ fl_12_74 ay_222 rfl rfl ?_
  refine ax_mv 2 47 [some (.ref 222), some (ax_i x1), some (ax_i x2), some (ax_i x3), some (ax_i x4), some (ax_i x5), some (ax_i (V 222 26))] [ax_i (-1), ax_i (V 222 26), .ref 244] rfl ?_
  obtain ⟨o5, h⟩ := h
  obtain ⟨V5, eV5⟩ : ∃ W9 : ax_V, W9 = ax_u V4 244 (V 222 26) (-1) := ⟨_, rfl⟩
  have h := h V5 eV5
  have hg5 : ax_g V5 := eV5 ▸ ax_u_g hg4 (by decide)
  refine ax_ist (n := 701) (pc' := 48) ⟨_, rfl⟩ ay_ok ay_244 (by decide) o5 eV5 rfl ?_
  refine ax_mv 1 49 [some (.ref 222), some (ax_i x1), some (ax_i x2), some (ax_i x3), some (ax_i x4), some (ax_i x5), some (ax_i (V 222 26))] [.ref 222] rfl ?_
  refine ax_gR (v := .ref 245) (pc' := 52) ⟨_, rfl⟩ fl_12_77 ay_222 rfl rfl ?_
  refine ax_mv 2 55 [some (.ref 222), some (ax_i x1), some (ax_i x2), some (ax_i x3), some (ax_i x4), some (ax_i x5), some (ax_i (V 222 26))] [ax_i x3, ax_i (V 222 26), .ref 245] rfl ?_
  obtain ⟨o6, h⟩ := h
  obtain ⟨V6, eV6⟩ : ∃ W9 : ax_V, W9 = ax_u V5 245 (V 222 26) x3 := ⟨_, rfl⟩
  have h := h V6 eV6
  have hg6 : ax_g V6 := eV6 ▸ ax_u_g hg5 hx3
  refine ax_ist (n := 701) (pc' := 56) ⟨_, rfl⟩ ay_ok ay_245 (by decide) o6 eV6 rfl ?_
  refine ax_mv 1 57 [some (.ref 222), some (ax_i x1), some (ax_i x2), some (ax_i x3), some (ax_i x4), some (ax_i x5), some (ax_i (V 222 26))] [.ref 222] rfl ?_
  refine ax_gR (v := .ref 246) (pc' := 60) ⟨_, rfl⟩ fl_12_80 ay_222 rfl rfl ?_
  refine ax_mv 2 64 [some (.ref 222), some (ax_i x1), some (ax_i x2), some (ax_i x3), some (ax_i x4), some (ax_i x5), some (ax_i (V 222 26))] [ax_i x4, ax_i (V 222 26), .ref 246] rfl ?_
  obtain ⟨o7, h⟩ := h
  obtain ⟨V7, eV7⟩ : ∃ W9 : ax_V, W9 = ax_u V6 246 (V 222 26) x4 := ⟨_, rfl⟩
  have h := h V7 eV7
  have hg7 : ax_g V7 := eV7 ▸ ax_u_g hg6 hx4
  refine ax_ist (n := 701) (pc' := 65) ⟨_, rfl⟩ ay_ok ay_246 (by decide) o7 eV7 rfl ?_
  refine ax_mv 1 66 [some (.ref 222), some (ax_i x1), some (ax_i x2), some (ax_i x3), some (ax_i x4), some (ax_i x5), some (ax_i (V 222 26))] [.ref 222] rfl ?_
  refine ax_gR (v := .ref 247) (pc' := 69) ⟨_, rfl⟩ fl_12_83 ay_222 rfl rfl ?_
  refine ax_mv 2 73 [some (.ref 222), some (ax_i x1), some (ax_i x2), some (ax_i x3), some (ax_i x4), some (ax_i x5), some (ax_i (V 222 26))] [ax_i x5, ax_i (V 222 26), .ref 247] rfl ?_
  obtain ⟨o8, h⟩ := h
  obtain ⟨V8, eV8⟩ : ∃ W9 : ax_V, W9 = ax_u V7 247 (V 222 26) x5 := ⟨_, rfl⟩
  have h := h V8 eV8
  have hg8 : ax_g V8 := eV8 ▸ ax_u_g hg7 hx5
  refine ax_ist (n := 701) (pc' := 74) ⟨_, rfl⟩ ay_ok ay_247 (by decide) o8 eV8 rfl ?_
  refine ax_mv 1 75 [some (.ref 222), some (ax_i x1), some (ax_i x2), some (ax_i x3), some (ax_i x4), some (ax_i x5), some (ax_i (V 222 26))] [.ref 222] rfl ?_
  refine ax_gR (v := .ref 248) (pc' := 78) ⟨_, rfl⟩ fl_12_86 ay_222 rfl rfl ?_
  refine ax_mv 2 81 [some (.ref 222), some (ax_i x1), some (ax_i x2), some (ax_i x3), some (ax_i x4), some (ax_i x5), some (ax_i (V 222 26))] [ax_i (-1), ax_i (V 222 26), .ref 248] rfl ?_
  obtain ⟨o9, h⟩ := h
  obtain ⟨V9, eV9⟩ : ∃ W9 : ax_V, W9 = ax_u V8 248 (V 222 26) (-1) := ⟨_, rfl⟩
  have h := h V9 eV9
  have hg9 : ax_g V9 := eV9 ▸ ax_u_g hg8 (by decide)
  refine ax_ist (n := 701) (pc' := 82) ⟨_, rfl⟩ ay_ok ay_248 (by decide) o9 eV9 rfl ?_
  refine ax_mv 1 83 [some (.ref 222), some (ax_i x1), some (ax_i x2), some (ax_i x3), some (ax_i x4), some (ax_i x5), some (ax_i (V 222 26))] [.ref 222] rfl ?_
  refine ax_gR (v := .ref 249) (pc' := 86) ⟨_, rfl⟩ fl_12_89 ay_222 rfl rfl ?_
  refine ax_mv 2 89 [some (.ref 222), some (ax_i x1), some (ax_i x2), some (ax_i x3), some (ax_i x4), some (ax_i x5), some (ax_i (V 222 26))] [ax_i 0, ax_i (V 222 26), .ref 249] rfl ?_
  obtain ⟨o10, h⟩ := h
  obtain ⟨V10, eV10⟩ : ∃ W9 : ax_V, W9 = ax_u V9 249 (V 222 26) 0 := ⟨_, rfl⟩
  have h := h V10 eV10
  have hg10 : ax_g V10 := eV10 ▸ ax_u_g hg9 (by decide)
  refine ax_ist (n := 701) (pc' := 90) ⟨_, rfl⟩ ay_ok ay_249 (by decide) o10 eV10 rfl ?_
  refine ax_mv 1 91 [some (.ref 222), some (ax_i x1), some (ax_i x2), some (ax_i x3), some (ax_i x4), some (ax_i x5), some (ax_i (V 222 26))] [.ref 222] rfl ?_
  refine ax_gR (v := .ref 250) (pc' := 94) ⟨_, rfl⟩ fl_12_92 ay_222 rfl rfl ?_
  refine ax_mv 2 97 [some (.ref 222), some (ax_i x1), some (ax_i x2), some (ax_i x3), some (ax_i x4), some (ax_i x5), some (ax_i (V 222 26))] [.ref 222, ax_i (V 222 26), .ref 250] rfl ?_
  refine ax_gI (kI := 10) (pc' := 100) ⟨_, rfl⟩ fl_12_320 ay_222 rfl rfl rfl ?_
  obtain ⟨o11, h⟩ := h
  obtain ⟨V11, eV11⟩ : ∃ W9 : ax_V, W9 = ax_u V10 250 (V 222 26) (V10 222 10) := ⟨_, rfl⟩
  have h := h V11 eV11
  have hg11 : ax_g V11 := eV11 ▸ ax_u_g hg10 (hg10 _ _)
  refine ax_ist (n := 701) (pc' := 101) ⟨_, rfl⟩ ay_ok ay_250 (by decide) o11 eV11 rfl ?_
  refine ax_mv 1 102 [some (.ref 222), some (ax_i x1), some (ax_i x2), some (ax_i x3), some (ax_i x4), some (ax_i x5), some (ax_i (V 222 26))] [.ref 222] rfl ?_
  refine ax_gR (v := .ref 251) (pc' := 105) ⟨_, rfl⟩ fl_12_95 ay_222 rfl rfl ?_
  refine ax_mv 2 108 [some (.ref 222), some (ax_i x1), some (ax_i x2), some (ax_i x3), some (ax_i x4), some (ax_i x5), some (ax_i (V 222 26))] [ax_i (-1), ax_i (V 222 26), .ref 251] rfl ?_
  obtain ⟨o12, h⟩ := h
  obtain ⟨V12, eV12⟩ : ∃ W9 : ax_V, W9 = ax_u V11 251 (V 222 26) (-1) := ⟨_, rfl⟩
  have h := h V12 eV12
  have hg12 : ax_g V12 := eV12 ▸ ax_u_g hg11 (by decide)
  refine ax_ist (n := 701) (pc' := 109) ⟨_, rfl⟩ ay_ok ay_251 (by decide) o12 eV12 rfl ?_
  refine ax_mv 1 110 [some (.ref 222), some (ax_i x1), some (ax_i x2), some (ax_i x3), some (ax_i x4), some (ax_i x5), some (ax_i (V 222 26))] [.ref 222] rfl ?_
  refine ax_gR (v := .ref 252) (pc' := 113) ⟨_, rfl⟩ fl_12_98 ay_222 rfl rfl ?_
  refine ax_mv 2 116 [some (.ref 222), some (ax_i x1), some (ax_i x2), some (ax_i x3), some (ax_i x4), some (ax_i x5), some (ax_i (V 222 26))] [ax_i (-1), ax_i (V 222 26), .ref 252] rfl ?_
  obtain ⟨o13, h⟩ := h
  obtain ⟨V13, eV13⟩ : ∃ W9 : ax_V, W9 = ax_u V12 252 (V 222 26) (-1) := ⟨_, rfl⟩
  have h := h V13 eV13
  have hg13 : ax_g V13 := eV13 ▸ ax_u_g hg12 (by decide)
  refine ax_ist (n := 701) (pc' := 117) ⟨_, rfl⟩ ay_ok ay_252 (by decide) o13 eV13 rfl ?_
  refine ax_mv 1 118 [some (.ref 222), some (ax_i x1), some (ax_i x2), some (ax_i x3), some (ax_i x4), some (ax_i x5), some (ax_i (V 222 26))] [.ref 222] rfl ?_
  refine ax_gR (v := .ref 256) (pc' := 121) ⟨_, rfl⟩ fl_12_110 ay_222 rfl rfl ?_
  refine ax_mv 2 124 [some (.ref 222), some (ax_i x1), some (ax_i x2), some (ax_i x3), some (ax_i x4), some (ax_i x5), some (ax_i (V 222 26))] [ax_i 0, ax_i (V 222 26), .ref 256] rfl ?_
  obtain ⟨o14, h⟩ := h
  obtain ⟨V14, eV14⟩ : ∃ W9 : ax_V, W9 = ax_u V13 256 (V 222 26) 0 := ⟨_, rfl⟩
  have h := h V14 eV14
  have hg14 : ax_g V14 := eV14 ▸ ax_u_g hg13 (by decide)
  refine ax_bst (n := 701) (pc' := 125) ⟨_, rfl⟩ ay_ok ay_256 (by decide) o14 (by decide) eV14 rfl ?_
  refine ax_mv 2 128 [some (.ref 222), some (ax_i x1), some (ax_i x2), some (ax_i x3), some (ax_i x4), some (ax_i x5), some (ax_i (V 222 26))] [ax_i (V 222 26), .ref 222] rfl ?_
  obtain ⟨V15, eV15⟩ : ∃ W9 : ax_V, W9 = ax_u V14 222 74 (V 222 26) := ⟨_, rfl⟩
  have h := h V15 eV15
  have hg15 : ax_g V15 := eV15 ▸ ax_u_g hg14 (hg _ _)
  refine ax_pI (kI := 74) (pc' := 131) ⟨_, rfl⟩ fl_12_323 ay_ok ay_222 rfl rfl rfl rfl eV15 rfl ?_
  refine ax_mv 1 133 [some (.ref 222), some (ax_i x1), some (ax_i x2), some (ax_i x3), some (ax_i x4), some (ax_i x5), some (ax_i (V 222 26))] [ax_i (V 222 26)] rfl ?_
  exact ax_iret ⟨_, rfl⟩ rfl rfl (hg _ _) hg15 h
theorem r_Model_readBracket {d : Nat} {V : ax_V} {Φ : Int → ax_V → Prop} {Θ : ax_V → Prop} (hg : ax_g V) (h : ax_I ay_lay d q_Model_open [.ref 222, ax_i 1] V (fun r1 V1 => ((r1 = 0 → Φ 0 V1) ∧ (¬ r1 = 0 → ax_rg ((V1 222 72) + 1) ∧ (∀ V2, V2 = ax_u V1 222 72 ((V1 222 72) + 1) → ax_I ay_lay d q_Model_readX [.ref 222] V2 (fun r3 V3 => ((r3 = 0 → Φ 0 V3) ∧ (¬ r3 = 0 → ax_I ay_lay d q_Model_want [.ref 222, ax_i 41] V3 (fun r4 V4 => ((r4 = 0 → Φ 0 V4) ∧ (¬ r4 = 0 → ax_rg ((V4 222 72) - 1) ∧ (∀ V5, V5 = ax_u V4 222 72 ((V4 222 72) - 1) → ax_rg ((V5 222 69) - 1) ∧ (∀ V6, V6 = ax_u V5 222 69 ((V5 222 69) - 1) → (0 ≤ V6 222 74 ∧ V6 222 74 < 701) ∧ (∀ V7, V7 = ax_u V6 242 (V6 222 74) (V 222 68) → Φ 1 V7)))))) Θ))) Θ)))) Θ) : ax_I ay_lay (d + 1) q_Model_readBracket [.ref 222] V Φ Θ := by
  refine ax_T.of (M := m_Model_readBracket) rfl (Nat.le_of_ble_eq_true rfl) ?_
  refine ax_mv 0 0 [some (.ref 222), none] [] rfl ?_
  refine ax_mv 1 1 [some (.ref 222), none] [.ref 222] rfl ?_
  refine ax_gI (kI := 68) (pc' := 4) ⟨_, rfl⟩ fl_12_294 ay_222 rfl rfl rfl ?_
  refine ax_sti (i := 0) (k := 1) (n := 1) (pc' := 5) (L' := [some (.ref 222), some (ax_i (V 222 68))]) ⟨_, rfl⟩ rfl rfl rfl (Nat.le_of_ble_eq_true rfl) rfl rfl ?_
  refine ax_mv 2 7 [some (.ref 222), some (ax_i (V 222 68))] [ax_i 1, .ref 222] rfl ?_
  refine ax_callI (pc' := 10) ⟨_, rfl⟩ ml_12_349 (rest := []) rfl (fun ss hs => ⟨_, _, ay_222 ss hs⟩) (Nat.le_of_ble_eq_true rfl) rfl rfl h (fun r1 V1 hg1 hr1 h => ?_)
  refine ax_if (p1 := 15) (p2 := 13) ⟨_, rfl⟩ (by decide) rfl hr1 (fun hc => ?_) (fun hc => ?_)
  · have h := h.2 hc
    refine ax_mv 2 17 [some (.ref 222), some (ax_i (V 222 68))] [.ref 222, .ref 222] rfl ?_
    refine ax_gI (kI := 72) (pc' := 20) ⟨_, rfl⟩ fl_12_378 ay_222 rfl rfl rfl ?_
    refine ax_mv 1 21 [some (.ref 222), some (ax_i (V 222 68))] [ax_i 1, ax_i (V1 222 72), .ref 222] rfl ?_
    refine ax_add (pc' := 22) ⟨_, rfl⟩ rfl ?_
    obtain ⟨o1, h⟩ := h
    obtain ⟨V2, eV2⟩ : ∃ W9 : ax_V, W9 = ax_u V1 222 72 ((V1 222 72) + 1) := ⟨_, rfl⟩
    have h := h V2 eV2
    have hg2 : ax_g V2 := eV2 ▸ ax_u_g hg1 o1
    refine ax_pI (kI := 72) (pc' := 25) ⟨_, rfl⟩ fl_12_378 ay_ok ay_222 rfl rfl rfl rfl eV2 rfl ?_
    refine ax_mv 1 26 [some (.ref 222), some (ax_i (V 222 68))] [.ref 222] rfl ?_
    refine ax_callI (pc' := 29) ⟨_, rfl⟩ ml_12_353 (rest := []) rfl (fun ss hs => ⟨_, _, ay_222 ss hs⟩) (Nat.le_of_ble_eq_true rfl) rfl rfl h (fun r3 V3 hg3 hr3 h => ?_)
    refine ax_if (p1 := 41) (p2 := 32) ⟨_, rfl⟩ (by decide) rfl hr3 (fun hc => ?_) (fun hc => ?_)
    · have h := h.1 hc
      refine ax_mv 1 42 [some (.ref 222), some (ax_i (V 222 68))] [ax_i 0] rfl ?_
      exact ax_iret ⟨_, rfl⟩ rfl (ax_nbv (by decide)) (by decide) hg3 h
    · have h := h.2 hc
      refine ax_mv 1 33 [some (.ref 222), some (ax_i (V 222 68))] [.ref 222] rfl ?_
      refine ax_bip (pc' := 35) ⟨_, rfl⟩ (by decide) rfl ?_
      refine ax_callI (pc' := 38) ⟨_, rfl⟩ ml_12_366 (rest := []) rfl (fun ss hs => ⟨_, _, ay_222 ss hs⟩) (Nat.le_of_ble_eq_true rfl) rfl rfl h (fun r4 V4 hg4 hr4 h => ?_)
      refine ax_if (p1 := 43) (p2 := 41) ⟨_, rfl⟩ (by decide) rfl hr4 (fun hc => ?_) (fun hc => ?_)
      · have h := h.2 hc
        refine ax_mv 2 45 [some (.ref 222), some (ax_i (V 222 68))] [.ref 222, .ref 222] rfl ?_
        refine ax_gI (kI := 72) (pc' := 48) ⟨_, rfl⟩ fl_12_378 ay_222 rfl rfl rfl ?_
        refine ax_mv 1 49 [some (.ref 222), some (ax_i (V 222 68))] [ax_i 1, ax_i (V4 222 72), .ref 222] rfl ?_
        refine ax_sub (pc' := 50) ⟨_, rfl⟩ rfl ?_
        obtain ⟨o2, h⟩ := h
        obtain ⟨V5, eV5⟩ : ∃ W9 : ax_V, W9 = ax_u V4 222 72 ((V4 222 72) - 1) := ⟨_, rfl⟩
        have h := h V5 eV5
        have hg5 : ax_g V5 := eV5 ▸ ax_u_g hg4 o2
        refine ax_pI (kI := 72) (pc' := 53) ⟨_, rfl⟩ fl_12_378 ay_ok ay_222 rfl rfl rfl rfl eV5 rfl ?_
        refine ax_mv 2 55 [some (.ref 222), some (ax_i (V 222 68))] [.ref 222, .ref 222] rfl ?_
        refine ax_gI (kI := 69) (pc' := 58) ⟨_, rfl⟩ fl_12_314 ay_222 rfl rfl rfl ?_
        refine ax_mv 1 59 [some (.ref 222), some (ax_i (V 222 68))] [ax_i 1, ax_i (V5 222 69), .ref 222] rfl ?_
        refine ax_sub (pc' := 60) ⟨_, rfl⟩ rfl ?_
        obtain ⟨o3, h⟩ := h
        obtain ⟨V6, eV6⟩ : ∃ W9 : ax_V, W9 = ax_u V5 222 69 ((V5 222 69) - 1) := ⟨_, rfl⟩
        have h := h V6 eV6
        have hg6 : ax_g V6 := eV6 ▸ ax_u_g hg5 o3
        refine ax_pI (kI := 69) (pc' := 63) ⟨_, rfl⟩ fl_12_314 ay_ok ay_222 rfl rfl rfl rfl eV6 rfl ?_
        refine ax_mv 1 64 [some (.ref 222), some (ax_i (V 222 68))] [.ref 222] rfl ?_
        refine ax_gR (v := .ref 242) (pc' := 67) ⟨_, rfl⟩ fl_12_68 ay_222 rfl rfl ?_
        refine ax_mv 1 68 [some (.ref 222), some (ax_i (V 222 68))] [.ref 222, .ref 242] rfl ?_
        refine ax_gI (kI := 74) (pc' := 71) ⟨_, rfl⟩ fl_12_323 ay_222 rfl rfl rfl ?_
        refine ax_mv 1 72 [some (.ref 222), some (ax_i (V 222 68))] [ax_i (V 222 68), ax_i (V6 222 74), .ref 242] rfl ?_
        obtain ⟨o4, h⟩ := h
        obtain ⟨V7, eV7⟩ : ∃ W9 : ax_V, W9 = ax_u V6 242 (V6 222 74) (V 222 68) := ⟨_, rfl⟩
        have h := h V7 eV7
        have hg7 : ax_g V7 := eV7 ▸ ax_u_g hg6 (hg _ _)
        refine ax_ist (n := 701) (pc' := 73) ⟨_, rfl⟩ ay_ok ay_242 (by decide) o4 eV7 rfl ?_
        refine ax_mv 1 74 [some (.ref 222), some (ax_i (V 222 68))] [ax_i 1] rfl ?_
        exact ax_iret ⟨_, rfl⟩ rfl (ax_nbv (by decide)) (by decide) hg7 h
      · have h := h.1 (Classical.not_not.mp hc)
        refine ax_mv 1 42 [some (.ref 222), some (ax_i (V 222 68))] [ax_i 0] rfl ?_
        exact ax_iret ⟨_, rfl⟩ rfl (ax_nbv (by decide)) (by decide) hg4 h
  · have h := h.1 (Classical.not_not.mp hc)
    refine ax_mv 1 14 [some (.ref 222), some (ax_i (V 222 68))] [ax_i 0] rfl ?_
    exact ax_iret ⟨_, rfl⟩ rfl (ax_nbv (by decide)) (by decide) hg1 h
set_option maxRecDepth 20000 in
theorem r_Model_readMerge {d : Nat} {V : ax_V} {Φ : Int → ax_V → Prop} {Θ : ax_V → Prop} (hg : ax_g V) (h : ((V 222 70 = 0 → ax_I ay_lay d q_Model_open [.ref 222, ax_i 1] V (fun r1 V1 => ((r1 = 0 → Φ 0 V1) ∧ (¬ r1 = 0 → ax_I ay_lay d q_Model_takeLetter [.ref 222] V1 (fun r2 V2 => ((r2 = -1 → Φ 0 V2) ∧ (¬ r2 = -1 → ax_I ay_lay d q_Model_want [.ref 222, ax_i 44] V2 (fun r3 V3 => ((r3 = 0 → Φ 0 V3) ∧ (¬ r3 = 0 → ax_I ay_lay d q_Model_readX [.ref 222] V3 (fun r4 V4 => ((r4 = 0 → Φ 0 V4) ∧ (¬ r4 = 0 → ax_I ay_lay d q_Model_want [.ref 222, ax_i 44] V4 (fun r5 V5 => ((r5 = 0 → Φ 0 V5) ∧ (¬ r5 = 0 → ax_I ay_lay d q_Model_readX [.ref 222] V5 (fun r6 V6 => ((r6 = 0 → Φ 0 V6) ∧ (¬ r6 = 0 → ax_I ay_lay d q_Model_want [.ref 222, ax_i 93] V6 (fun r7 V7 => ((r7 = 0 → Φ 0 V7) ∧ (¬ r7 = 0 → ax_rg ((V7 222 69) - 1) ∧ (∀ V8, V8 = ax_u V7 222 69 ((V7 222 69) - 1) → ax_I ay_lay d q_Model_makePart [.ref 222, ax_i 21, ax_i (V 222 68), ax_i (V4 222 74), ax_i (V8 222 74), ax_i (-1)] V8 (fun r9 V9 => (0 ≤ r9 ∧ r9 < 701) ∧ (∀ V10, V10 = ax_u V9 248 r9 r2 → (0 ≤ r9 ∧ r9 < 701) ∧ (∀ V11, V11 = ax_u V10 244 r9 (V1 222 68) → Φ 1 V11))) Θ)))) Θ))) Θ))) Θ))) Θ))) Θ))) Θ))) Θ) ∧ (¬ V 222 70 = 0 → Φ 0 V))) : ax_I ay_lay (d + 1) q_Model_readMerge [.ref 222] V Φ Θ := by
  refine ax_T.of (M := m_Model_readMerge) rfl (Nat.le_of_ble_eq_true rfl) ?_
  refine ax_mv 0 0 [some (.ref 222), none, none, none, none, none] [] rfl ?_
  refine ax_mv 1 1 [some (.ref 222), none, none, none, none, none] [.ref 222] rfl ?_
  refine ax_gI (kI := 68) (pc' := 4) ⟨_, rfl⟩ fl_12_294 ay_222 rfl rfl rfl ?_
  refine ax_sti (i := 0) (k := 1) (n := 1) (pc' := 5) (L' := [some (.ref 222), some (ax_i (V 222 68)), none, none, none, none]) ⟨_, rfl⟩ rfl rfl rfl (Nat.le_of_ble_eq_true rfl) rfl rfl ?_
  refine ax_mv 1 6 [some (.ref 222), some (ax_i (V 222 68)), none, none, none, none] [.ref 222] rfl ?_
  refine ax_gI (kI := 70) (pc' := 9) ⟨_, rfl⟩ fl_12_390 ay_222 rfl rfl rfl ?_
  refine ax_if (p1 := 20) (p2 := 12) ⟨_, rfl⟩ (by decide) rfl (hg _ _) (fun hc => ?_) (fun hc => ?_)
  · have h := h.2 hc
    refine ax_mv 1 21 [some (.ref 222), some (ax_i (V 222 68)), none, none, none, none] [ax_i 0] rfl ?_
    exact ax_iret ⟨_, rfl⟩ rfl (ax_nbv (by decide)) (by decide) hg h
  · have h := h.1 (Classical.not_not.mp hc)
    refine ax_mv 2 14 [some (.ref 222), some (ax_i (V 222 68)), none, none, none, none] [ax_i 1, .ref 222] rfl ?_
    refine ax_callI (pc' := 17) ⟨_, rfl⟩ ml_12_349 (rest := []) rfl (fun ss hs => ⟨_, _, ay_222 ss hs⟩) (Nat.le_of_ble_eq_true rfl) rfl rfl h (fun r1 V1 hg1 hr1 h => ?_)
    refine ax_if (p1 := 22) (p2 := 20) ⟨_, rfl⟩ (by decide) rfl hr1 (fun hc => ?_) (fun hc => ?_)
    · have h := h.2 hc
      refine ax_mv 1 23 [some (.ref 222), some (ax_i (V 222 68)), none, none, none, none] [.ref 222] rfl ?_
      refine ax_gI (kI := 68) (pc' := 26) ⟨_, rfl⟩ fl_12_294 ay_222 rfl rfl rfl ?_
      refine ax_sti (i := 0) (k := 2) (n := 1) (pc' := 27) (L' := [some (.ref 222), some (ax_i (V 222 68)), some (ax_i (V1 222 68)), none, none, none]) ⟨_, rfl⟩ rfl rfl rfl (Nat.le_of_ble_eq_true rfl) rfl rfl ?_
      refine ax_mv 1 28 [some (.ref 222), some (ax_i (V 222 68)), some (ax_i (V1 222 68)), none, none, none] [.ref 222] rfl ?_
      refine ax_callI (pc' := 31) ⟨_, rfl⟩ ml_12_393 (rest := []) rfl (fun ss hs => ⟨_, _, ay_222 ss hs⟩) (Nat.le_of_ble_eq_true rfl) rfl rfl h (fun r2 V2 hg2 hr2 h => ?_)
      refine ax_sti (i := 0) (k := 3) (n := 1) (pc' := 32) (L' := [some (.ref 222), some (ax_i (V 222 68)), some (ax_i (V1 222 68)), some (ax_i r2), none, none]) ⟨_, rfl⟩ rfl rfl rfl (Nat.le_of_ble_eq_true rfl) rfl rfl ?_
      refine ax_mv 2 34 [some (.ref 222), some (ax_i (V 222 68)), some (ax_i (V1 222 68)), some (ax_i r2), none, none] [ax_i (-1), ax_i r2] rfl ?_
      refine ax_if2 (p1 := 53) (p2 := 37) ⟨_, rfl⟩ (by decide) rfl hr2 (by decide) (fun hc => ?_) (fun hc => ?_)
      · have h := h.1 hc
        refine ax_mv 1 54 [some (.ref 222), some (ax_i (V 222 68)), some (ax_i (V1 222 68)), some (ax_i r2), none, none] [ax_i 0] rfl ?_
        exact ax_iret ⟨_, rfl⟩ rfl (ax_nbv (by decide)) (by decide) hg2 h
      · have h := h.2 hc
        refine ax_mv 1 38 [some (.ref 222), some (ax_i (V 222 68)), some (ax_i (V1 222 68)), some (ax_i r2), none, none] [.ref 222] rfl ?_
        refine ax_bip (pc' := 40) ⟨_, rfl⟩ (by decide) rfl ?_
        refine ax_callI (pc' := 43) ⟨_, rfl⟩ ml_12_366 (rest := []) rfl (fun ss hs => ⟨_, _, ay_222 ss hs⟩) (Nat.le_of_ble_eq_true rfl) rfl rfl h (fun r3 V3 hg3 hr3 h => ?_)
        refine ax_if (p1 := 53) (p2 := 46) ⟨_, rfl⟩ (by decide) rfl hr3 (fun hc => ?_) (fun hc => ?_)
        · have h := h.1 hc
          refine ax_mv 1 54 [some (.ref 222), some (ax_i (V 222 68)), some (ax_i (V1 222 68)), some (ax_i r2), none, none] [ax_i 0] rfl ?_
          exact ax_iret ⟨_, rfl⟩ rfl (ax_nbv (by decide)) (by decide) hg3 h
        · have h := h.2 hc
          refine ax_mv 1 47 [some (.ref 222), some (ax_i (V 222 68)), some (ax_i (V1 222 68)), some (ax_i r2), none, none] [.ref 222] rfl ?_
          refine ax_callI (pc' := 50) ⟨_, rfl⟩ ml_12_353 (rest := []) rfl (fun ss hs => ⟨_, _, ay_222 ss hs⟩) (Nat.le_of_ble_eq_true rfl) rfl rfl h (fun r4 V4 hg4 hr4 h => ?_)
          refine ax_if (p1 := 55) (p2 := 53) ⟨_, rfl⟩ (by decide) rfl hr4 (fun hc => ?_) (fun hc => ?_)
          · have h := h.2 hc
            refine ax_mv 1 56 [some (.ref 222), some (ax_i (V 222 68)), some (ax_i (V1 222 68)), some (ax_i r2), none, none] [.ref 222] rfl ?_
            refine ax_gI (kI := 74) (pc' := 59) ⟨_, rfl⟩ fl_12_323 ay_222 rfl rfl rfl ?_
            refine ax_sti (i := 0) (k := 4) (n := 2) (pc' := 61) (L' := [some (.ref 222), some (ax_i (V 222 68)), some (ax_i (V1 222 68)), some (ax_i r2), some (ax_i (V4 222 74)), none]) ⟨_, rfl⟩ rfl rfl rfl (Nat.le_of_ble_eq_true rfl) rfl rfl ?_
            refine ax_mv 1 62 [some (.ref 222), some (ax_i (V 222 68)), some (ax_i (V1 222 68)), some (ax_i r2), some (ax_i (V4 222 74)), none] [.ref 222] rfl ?_
            refine ax_bip (pc' := 64) ⟨_, rfl⟩ (by decide) rfl ?_
            refine ax_callI (pc' := 67) ⟨_, rfl⟩ ml_12_366 (rest := []) rfl (fun ss hs => ⟨_, _, ay_222 ss hs⟩) (Nat.le_of_ble_eq_true rfl) rfl rfl h (fun r5 V5 hg5 hr5 h => ?_)
            refine ax_if (p1 := 86) (p2 := 70) ⟨_, rfl⟩ (by decide) rfl hr5 (fun hc => ?_) (fun hc => ?_)
            · have h := h.1 hc
              refine ax_mv 1 87 [some (.ref 222), some (ax_i (V 222 68)), some (ax_i (V1 222 68)), some (ax_i r2), some (ax_i (V4 222 74)), none] [ax_i 0] rfl ?_
              exact ax_iret ⟨_, rfl⟩ rfl (ax_nbv (by decide)) (by decide) hg5 h
            · have h := h.2 hc
              refine ax_mv 1 71 [some (.ref 222), some (ax_i (V 222 68)), some (ax_i (V1 222 68)), some (ax_i r2), some (ax_i (V4 222 74)), none] [.ref 222] rfl ?_
              refine ax_callI (pc' := 74) ⟨_, rfl⟩ ml_12_353 (rest := []) rfl (fun ss hs => ⟨_, _, ay_222 ss hs⟩) (Nat.le_of_ble_eq_true rfl) rfl rfl h (fun r6 V6 hg6 hr6 h => ?_)
              refine ax_if (p1 := 86) (p2 := 77) ⟨_, rfl⟩ (by decide) rfl hr6 (fun hc => ?_) (fun hc => ?_)
              · have h := h.1 hc
                refine ax_mv 1 87 [some (.ref 222), some (ax_i (V 222 68)), some (ax_i (V1 222 68)), some (ax_i r2), some (ax_i (V4 222 74)), none] [ax_i 0] rfl ?_
                exact ax_iret ⟨_, rfl⟩ rfl (ax_nbv (by decide)) (by decide) hg6 h
              · have h := h.2 hc
                refine ax_mv 1 78 [some (.ref 222), some (ax_i (V 222 68)), some (ax_i (V1 222 68)), some (ax_i r2), some (ax_i (V4 222 74)), none] [.ref 222] rfl ?_
                refine ax_bip (pc' := 80) ⟨_, rfl⟩ (by decide) rfl ?_
                refine ax_callI (pc' := 83) ⟨_, rfl⟩ ml_12_366 (rest := []) rfl (fun ss hs => ⟨_, _, ay_222 ss hs⟩) (Nat.le_of_ble_eq_true rfl) rfl rfl h (fun r7 V7 hg7 hr7 h => ?_)
                refine ax_if (p1 := 88) (p2 := 86) ⟨_, rfl⟩ (by decide) rfl hr7 (fun hc => ?_) (fun hc => ?_)
                · have h := h.2 hc
                  refine ax_mv 2 90 [some (.ref 222), some (ax_i (V 222 68)), some (ax_i (V1 222 68)), some (ax_i r2), some (ax_i (V4 222 74)), none] [.ref 222, .ref 222] rfl ?_
                  refine ax_gI (kI := 69) (pc' := 93) ⟨_, rfl⟩ fl_12_314 ay_222 rfl rfl rfl ?_
                  refine ax_mv 1 94 [some (.ref 222), some (ax_i (V 222 68)), some (ax_i (V1 222 68)), some (ax_i r2), some (ax_i (V4 222 74)), none] [ax_i 1, ax_i (V7 222 69), .ref 222] rfl ?_
                  refine ax_sub (pc' := 95) ⟨_, rfl⟩ rfl ?_
                  obtain ⟨o1, h⟩ := h
                  obtain ⟨V8, eV8⟩ : ∃ W9 : ax_V, W9 = ax_u V7 222 69 ((V7 222 69) - 1) := ⟨_, rfl⟩
                  have h := h V8 eV8
                  have hg8 : ax_g V8 := eV8 ▸ ax_u_g hg7 o1
                  refine ax_pI (kI := 69) (pc' := 98) ⟨_, rfl⟩ fl_12_314 ay_ok ay_222 rfl rfl rfl rfl eV8 rfl ?_
                  refine ax_mv 1 99 [some (.ref 222), some (ax_i (V 222 68)), some (ax_i (V1 222 68)), some (ax_i r2), some (ax_i (V4 222 74)), none] [.ref 222] rfl ?_
                  refine ax_bip (pc' := 101) ⟨_, rfl⟩ (by decide) rfl ?_
                  refine ax_mv 3 105 [some (.ref 222), some (ax_i (V 222 68)), some (ax_i (V1 222 68)), some (ax_i r2), some (ax_i (V4 222 74)), none] [.ref 222, ax_i (V4 222 74), ax_i (V 222 68), ax_i 21, .ref 222] rfl ?_
                  refine ax_gI (kI := 74) (pc' := 108) ⟨_, rfl⟩ fl_12_323 ay_222 rfl rfl rfl ?_
                  refine ax_mv 1 109 [some (.ref 222), some (ax_i (V 222 68)), some (ax_i (V1 222 68)), some (ax_i r2), some (ax_i (V4 222 74)), none] [ax_i (-1), ax_i (V8 222 74), ax_i (V4 222 74), ax_i (V 222 68), ax_i 21, .ref 222] rfl ?_
                  refine ax_callI (pc' := 112) ⟨_, rfl⟩ ml_12_356 (rest := []) rfl (fun ss hs => ⟨_, _, ay_222 ss hs⟩) (Nat.le_of_ble_eq_true rfl) rfl rfl h (fun r9 V9 hg9 hr9 h => ?_)
                  refine ax_sti (i := 0) (k := 5) (n := 2) (pc' := 114) (L' := [some (.ref 222), some (ax_i (V 222 68)), some (ax_i (V1 222 68)), some (ax_i r2), some (ax_i (V4 222 74)), some (ax_i r9)]) ⟨_, rfl⟩ rfl rfl rfl (Nat.le_of_ble_eq_true rfl) rfl rfl ?_
                  refine ax_mv 1 115 [some (.ref 222), some (ax_i (V 222 68)), some (ax_i (V1 222 68)), some (ax_i r2), some (ax_i (V4 222 74)), some (ax_i r9)] [.ref 222] rfl ?_
                  refine ax_gR (v := .ref 248) (pc' := 118) ⟨_, rfl⟩ fl_12_86 ay_222 rfl rfl ?_
                  refine ax_mv 2 121 [some (.ref 222), some (ax_i (V 222 68)), some (ax_i (V1 222 68)), some (ax_i r2), some (ax_i (V4 222 74)), some (ax_i r9)] [ax_i r2, ax_i r9, .ref 248] rfl ?_
                  obtain ⟨o2, h⟩ := h
                  obtain ⟨V10, eV10⟩ : ∃ W9 : ax_V, W9 = ax_u V9 248 r9 r2 := ⟨_, rfl⟩
                  have h := h V10 eV10
                  have hg10 : ax_g V10 := eV10 ▸ ax_u_g hg9 hr2
                  refine ax_ist (n := 701) (pc' := 122) ⟨_, rfl⟩ ay_ok ay_248 (by decide) o2 eV10 rfl ?_
                  refine ax_mv 1 123 [some (.ref 222), some (ax_i (V 222 68)), some (ax_i (V1 222 68)), some (ax_i r2), some (ax_i (V4 222 74)), some (ax_i r9)] [.ref 222] rfl ?_
                  refine ax_gR (v := .ref 244) (pc' := 126) ⟨_, rfl⟩ fl_12_74 ay_222 rfl rfl ?_
                  refine ax_mv 2 129 [some (.ref 222), some (ax_i (V 222 68)), some (ax_i (V1 222 68)), some (ax_i r2), some (ax_i (V4 222 74)), some (ax_i r9)] [ax_i (V1 222 68), ax_i r9, .ref 244] rfl ?_
                  obtain ⟨o3, h⟩ := h
                  obtain ⟨V11, eV11⟩ : ∃ W9 : ax_V, W9 = ax_u V10 244 r9 (V1 222 68) := ⟨_, rfl⟩
                  have h := h V11 eV11
                  have hg11 : ax_g V11 := eV11 ▸ ax_u_g hg10 (hg1 _ _)
                  refine ax_ist (n := 701) (pc' := 130) ⟨_, rfl⟩ ay_ok ay_244 (by decide) o3 eV11 rfl ?_
                  refine ax_mv 1 131 [some (.ref 222), some (ax_i (V 222 68)), some (ax_i (V1 222 68)), some (ax_i r2), some (ax_i (V4 222 74)), some (ax_i r9)] [ax_i 1] rfl ?_
                  exact ax_iret ⟨_, rfl⟩ rfl (ax_nbv (by decide)) (by decide) hg11 h
                · have h := h.1 (Classical.not_not.mp hc)
                  refine ax_mv 1 87 [some (.ref 222), some (ax_i (V 222 68)), some (ax_i (V1 222 68)), some (ax_i r2), some (ax_i (V4 222 74)), none] [ax_i 0] rfl ?_
                  exact ax_iret ⟨_, rfl⟩ rfl (ax_nbv (by decide)) (by decide) hg7 h
          · have h := h.1 (Classical.not_not.mp hc)
            refine ax_mv 1 54 [some (.ref 222), some (ax_i (V 222 68)), some (ax_i (V1 222 68)), some (ax_i r2), none, none] [ax_i 0] rfl ?_
            exact ax_iret ⟨_, rfl⟩ rfl (ax_nbv (by decide)) (by decide) hg4 h
    · have h := h.1 (Classical.not_not.mp hc)
      refine ax_mv 1 21 [some (.ref 222), some (ax_i (V 222 68)), none, none, none, none] [ax_i 0] rfl ?_
      exact ax_iret ⟨_, rfl⟩ rfl (ax_nbv (by decide)) (by decide) hg1 h
abbrev k_Model_readCall_75 (d : Nat) (x1 : Int) (x2 : Int) (x3 : Int) (x4 : Int) (x5 : Int) (x6 : Int) (y7 : Option Value) (V : ax_V) (Φ : Int → ax_V → Prop) (Θ : ax_V → Prop) : Prop := ax_R ay_lay ax_t d m_Model_readCall 75 [some (.ref 222), some (ax_i x1), some (ax_i x2), some (ax_i x3), some (ax_i x4), some (ax_i x5), some (ax_i x6), y7] [] V (ax_Ir Φ) Θ
abbrev k_Model_readCall_115 (d : Nat) (x1 : Int) (x2 : Int) (x3 : Int) (x4 : Int) (y5 : Option Value) (y6 : Option Value) (y7 : Option Value) (V : ax_V) (Φ : Int → ax_V → Prop) (Θ : ax_V → Prop) : Prop := ax_R ay_lay ax_t d m_Model_readCall 115 [some (.ref 222), some (ax_i x1), some (ax_i x2), some (ax_i x3), some (ax_i x4), y5, y6, y7] [] V (ax_Ir Φ) Θ
set_option maxRecDepth 20000 in
theorem r_Model_readCall_75 {d : Nat} {V : ax_V} {Φ : Int → ax_V → Prop} {Θ : ax_V → Prop} {x1 : Int} {x2 : Int} {x3 : Int} {x4 : Int} {x5 : Int} {x6 : Int} {y7 : Option Value} (hg : ax_g V) (hx1 : ax_rg x1) (hx2 : ax_rg x2) (hx3 : ax_rg x3) (hx4 : ax_rg x4) (hx5 : ax_rg x5) (hx6 : ax_rg x6) (hy7 : ax_y y7) (h : ((x6 = 0 → ax_I ay_lay d q_Model_want [.ref 222, ax_i 41] V (fun r1 V1 => ((r1 = 0 → Φ 0 V1) ∧ (¬ r1 = 0 → (∀ V2, V2 = ax_u V1 222 72 x3 → ax_rg ((V2 222 69) - 1) ∧ (∀ V3, V3 = ax_u V2 222 69 ((V2 222 69) - 1) → ax_I ay_lay d q_Model_makePart [.ref 222, ax_i 22, ax_i x1, ax_i x4, ax_i (-1), ax_i (-1)] V3 (fun r4 V4 => (0 ≤ r4 ∧ r4 < 701) ∧ (∀ V5, V5 = ax_u V4 243 r4 x1 → (0 ≤ r4 ∧ r4 < 701) ∧ (∀ V6, V6 = ax_u V5 249 r4 x2 → ax_I ay_lay d q_Model_see [.ref 222] V6 (fun r7 V7 => ((r7 = 94 → ax_rg ((V7 222 68) + 1) ∧ (∀ V8, V8 = ax_u V7 222 68 ((V7 222 68) + 1) → (0 ≤ r4 ∧ r4 < 701) ∧ (∀ V9, V9 = ax_u V8 244 r4 (V8 222 68) → ax_I ay_lay d q_Model_takeLetter [.ref 222] V9 (fun r10 V10 => (0 ≤ r4 ∧ r4 < 701) ∧ (∀ V11, V11 = ax_u V10 248 r4 r10 → (0 ≤ r4 ∧ r4 < 701) ∧ ((V11 248 r4 = -1 → Φ 0 V11) ∧ (¬ V11 248 r4 = -1 → Φ 1 V11)))) Θ))) ∧ (¬ r7 = 94 → Φ 1 V7))) Θ))) Θ))))) Θ) ∧ (¬ x6 = 0 → ax_I ay_lay d q_Model_readX [.ref 222] V (fun r12 V12 => ((r12 = 0 → Φ 0 V12) ∧ (¬ r12 = 0 → ((x4 = -1 → k_Model_readCall_115 d x1 x2 x3 (V12 222 74) (some (ax_i x5)) (some (ax_i x6)) y7 V12 Φ Θ) ∧ (¬ x4 = -1 → (0 ≤ x5 ∧ x5 < 701) ∧ (∀ V13, V13 = ax_u V12 252 x5 (V12 222 74) → k_Model_readCall_115 d x1 x2 x3 x4 (some (ax_i x5)) (some (ax_i x6)) y7 V13 Φ Θ)))))) Θ))) : k_Model_readCall_75 d x1 x2 x3 x4 x5 x6 y7 V Φ Θ := by
  refine ax_mv 1 77 [some (.ref 222), some (ax_i x1), some (ax_i x2), some (ax_i x3), some (ax_i x4), some (ax_i x5), some (ax_i x6), y7] [ax_i x6] rfl ?_
  refine ax_if (p1 := 159) (p2 := 80) ⟨_, rfl⟩ (by decide) rfl hx6 (fun hc => ?_) (fun hc => ?_)
  · have h := h.1 hc
    refine ax_mv 1 160 [some (.ref 222), some (ax_i x1), some (ax_i x2), some (ax_i x3), some (ax_i x4), some (ax_i x5), some (ax_i x6), y7] [.ref 222] rfl ?_
    refine ax_bip (pc' := 162) ⟨_, rfl⟩ (by decide) rfl ?_
    refine ax_callI (pc' := 165) ⟨_, rfl⟩ ml_12_366 (rest := []) rfl (fun ss hs => ⟨_, _, ay_222 ss hs⟩) (Nat.le_of_ble_eq_true rfl) rfl rfl h (fun r1 V1 hg1 hr1 h => ?_)
    refine ax_if (p1 := 170) (p2 := 168) ⟨_, rfl⟩ (by decide) rfl hr1 (fun hc => ?_) (fun hc => ?_)
    · have h := h.2 hc
      refine ax_mv 2 172 [some (.ref 222), some (ax_i x1), some (ax_i x2), some (ax_i x3), some (ax_i x4), some (ax_i x5), some (ax_i x6), y7] [ax_i x3, .ref 222] rfl ?_
      obtain ⟨V2, eV2⟩ : ∃ W9 : ax_V, W9 = ax_u V1 222 72 x3 := ⟨_, rfl⟩
      have h := h V2 eV2
      have hg2 : ax_g V2 := eV2 ▸ ax_u_g hg1 hx3
      refine ax_pI (kI := 72) (pc' := 175) ⟨_, rfl⟩ fl_12_378 ay_ok ay_222 rfl rfl rfl rfl eV2 rfl ?_
      refine ax_mv 2 177 [some (.ref 222), some (ax_i x1), some (ax_i x2), some (ax_i x3), some (ax_i x4), some (ax_i x5), some (ax_i x6), y7] [.ref 222, .ref 222] rfl ?_
      refine ax_gI (kI := 69) (pc' := 180) ⟨_, rfl⟩ fl_12_314 ay_222 rfl rfl rfl ?_
      refine ax_mv 1 181 [some (.ref 222), some (ax_i x1), some (ax_i x2), some (ax_i x3), some (ax_i x4), some (ax_i x5), some (ax_i x6), y7] [ax_i 1, ax_i (V2 222 69), .ref 222] rfl ?_
      refine ax_sub (pc' := 182) ⟨_, rfl⟩ rfl ?_
      obtain ⟨o1, h⟩ := h
      obtain ⟨V3, eV3⟩ : ∃ W9 : ax_V, W9 = ax_u V2 222 69 ((V2 222 69) - 1) := ⟨_, rfl⟩
      have h := h V3 eV3
      have hg3 : ax_g V3 := eV3 ▸ ax_u_g hg2 o1
      refine ax_pI (kI := 69) (pc' := 185) ⟨_, rfl⟩ fl_12_314 ay_ok ay_222 rfl rfl rfl rfl eV3 rfl ?_
      refine ax_mv 1 186 [some (.ref 222), some (ax_i x1), some (ax_i x2), some (ax_i x3), some (ax_i x4), some (ax_i x5), some (ax_i x6), y7] [.ref 222] rfl ?_
      refine ax_bip (pc' := 188) ⟨_, rfl⟩ (by decide) rfl ?_
      refine ax_mv 4 193 [some (.ref 222), some (ax_i x1), some (ax_i x2), some (ax_i x3), some (ax_i x4), some (ax_i x5), some (ax_i x6), y7] [ax_i (-1), ax_i (-1), ax_i x4, ax_i x1, ax_i 22, .ref 222] rfl ?_
      refine ax_callI (pc' := 196) ⟨_, rfl⟩ ml_12_356 (rest := []) rfl (fun ss hs => ⟨_, _, ay_222 ss hs⟩) (Nat.le_of_ble_eq_true rfl) rfl rfl h (fun r4 V4 hg4 hr4 h => ?_)
      refine ax_sti (i := 0) (k := 7) (n := 2) (pc' := 198) (L' := [some (.ref 222), some (ax_i x1), some (ax_i x2), some (ax_i x3), some (ax_i x4), some (ax_i x5), some (ax_i x6), some (ax_i r4)]) ⟨_, rfl⟩ rfl rfl rfl (Nat.le_of_ble_eq_true rfl) rfl rfl ?_
      refine ax_mv 1 199 [some (.ref 222), some (ax_i x1), some (ax_i x2), some (ax_i x3), some (ax_i x4), some (ax_i x5), some (ax_i x6), some (ax_i r4)] [.ref 222] rfl ?_
      refine ax_gR (v := .ref 243) (pc' := 202) ⟨_, rfl⟩ fl_12_71 ay_222 rfl rfl ?_
      refine ax_mv 2 205 [some (.ref 222), some (ax_i x1), some (ax_i x2), some (ax_i x3), some (ax_i x4), some (ax_i x5), some (ax_i x6), some (ax_i r4)] [ax_i x1, ax_i r4, .ref 243] rfl ?_
      obtain ⟨o2, h⟩ := h
      obtain ⟨V5, eV5⟩ : ∃ W9 : ax_V, W9 = ax_u V4 243 r4 x1 := ⟨_, rfl⟩
      have h := h V5 eV5
      have hg5 : ax_g V5 := eV5 ▸ ax_u_g hg4 hx1
      refine ax_ist (n := 701) (pc' := 206) ⟨_, rfl⟩ ay_ok ay_243 (by decide) o2 eV5 rfl ?_
      refine ax_mv 1 207 [some (.ref 222), some (ax_i x1), some (ax_i x2), some (ax_i x3), some (ax_i x4), some (ax_i x5), some (ax_i x6), some (ax_i r4)] [.ref 222] rfl ?_
      refine ax_gR (v := .ref 249) (pc' := 210) ⟨_, rfl⟩ fl_12_89 ay_222 rfl rfl ?_
      refine ax_mv 2 213 [some (.ref 222), some (ax_i x1), some (ax_i x2), some (ax_i x3), some (ax_i x4), some (ax_i x5), some (ax_i x6), some (ax_i r4)] [ax_i x2, ax_i r4, .ref 249] rfl ?_
      obtain ⟨o3, h⟩ := h
      obtain ⟨V6, eV6⟩ : ∃ W9 : ax_V, W9 = ax_u V5 249 r4 x2 := ⟨_, rfl⟩
      have h := h V6 eV6
      have hg6 : ax_g V6 := eV6 ▸ ax_u_g hg5 hx2
      refine ax_ist (n := 701) (pc' := 214) ⟨_, rfl⟩ ay_ok ay_249 (by decide) o3 eV6 rfl ?_
      refine ax_mv 1 215 [some (.ref 222), some (ax_i x1), some (ax_i x2), some (ax_i x3), some (ax_i x4), some (ax_i x5), some (ax_i x6), some (ax_i r4)] [.ref 222] rfl ?_
      refine ax_callI (pc' := 218) ⟨_, rfl⟩ ml_12_300 (rest := []) rfl (fun ss hs => ⟨_, _, ay_222 ss hs⟩) (Nat.le_of_ble_eq_true rfl) rfl rfl h (fun r7 V7 hg7 hr7 h => ?_)
      refine ax_bip (pc' := 220) ⟨_, rfl⟩ (by decide) rfl ?_
      refine ax_if2 (p1 := 225) (p2 := 223) ⟨_, rfl⟩ (by decide) rfl hr7 (by decide) (fun hc => ?_) (fun hc => ?_)
      · have h := h.1 hc
        refine ax_mv 2 227 [some (.ref 222), some (ax_i x1), some (ax_i x2), some (ax_i x3), some (ax_i x4), some (ax_i x5), some (ax_i x6), some (ax_i r4)] [.ref 222, .ref 222] rfl ?_
        refine ax_gI (kI := 68) (pc' := 230) ⟨_, rfl⟩ fl_12_294 ay_222 rfl rfl rfl ?_
        refine ax_mv 1 231 [some (.ref 222), some (ax_i x1), some (ax_i x2), some (ax_i x3), some (ax_i x4), some (ax_i x5), some (ax_i x6), some (ax_i r4)] [ax_i 1, ax_i (V7 222 68), .ref 222] rfl ?_
        refine ax_add (pc' := 232) ⟨_, rfl⟩ rfl ?_
        obtain ⟨o4, h⟩ := h
        obtain ⟨V8, eV8⟩ : ∃ W9 : ax_V, W9 = ax_u V7 222 68 ((V7 222 68) + 1) := ⟨_, rfl⟩
        have h := h V8 eV8
        have hg8 : ax_g V8 := eV8 ▸ ax_u_g hg7 o4
        refine ax_pI (kI := 68) (pc' := 235) ⟨_, rfl⟩ fl_12_294 ay_ok ay_222 rfl rfl rfl rfl eV8 rfl ?_
        refine ax_mv 1 236 [some (.ref 222), some (ax_i x1), some (ax_i x2), some (ax_i x3), some (ax_i x4), some (ax_i x5), some (ax_i x6), some (ax_i r4)] [.ref 222] rfl ?_
        refine ax_gR (v := .ref 244) (pc' := 239) ⟨_, rfl⟩ fl_12_74 ay_222 rfl rfl ?_
        refine ax_mv 2 242 [some (.ref 222), some (ax_i x1), some (ax_i x2), some (ax_i x3), some (ax_i x4), some (ax_i x5), some (ax_i x6), some (ax_i r4)] [.ref 222, ax_i r4, .ref 244] rfl ?_
        refine ax_gI (kI := 68) (pc' := 245) ⟨_, rfl⟩ fl_12_294 ay_222 rfl rfl rfl ?_
        obtain ⟨o5, h⟩ := h
        obtain ⟨V9, eV9⟩ : ∃ W9 : ax_V, W9 = ax_u V8 244 r4 (V8 222 68) := ⟨_, rfl⟩
        have h := h V9 eV9
        have hg9 : ax_g V9 := eV9 ▸ ax_u_g hg8 (hg8 _ _)
        refine ax_ist (n := 701) (pc' := 246) ⟨_, rfl⟩ ay_ok ay_244 (by decide) o5 eV9 rfl ?_
        refine ax_mv 1 247 [some (.ref 222), some (ax_i x1), some (ax_i x2), some (ax_i x3), some (ax_i x4), some (ax_i x5), some (ax_i x6), some (ax_i r4)] [.ref 222] rfl ?_
        refine ax_gR (v := .ref 248) (pc' := 250) ⟨_, rfl⟩ fl_12_86 ay_222 rfl rfl ?_
        refine ax_mv 2 253 [some (.ref 222), some (ax_i x1), some (ax_i x2), some (ax_i x3), some (ax_i x4), some (ax_i x5), some (ax_i x6), some (ax_i r4)] [.ref 222, ax_i r4, .ref 248] rfl ?_
        refine ax_callI (pc' := 256) ⟨_, rfl⟩ ml_12_393 (rest := [ax_i r4, .ref 248]) rfl (fun ss hs => ⟨_, _, ay_222 ss hs⟩) (Nat.le_of_ble_eq_true rfl) rfl rfl h (fun r10 V10 hg10 hr10 h => ?_)
        obtain ⟨o6, h⟩ := h
        obtain ⟨V11, eV11⟩ : ∃ W9 : ax_V, W9 = ax_u V10 248 r4 r10 := ⟨_, rfl⟩
        have h := h V11 eV11
        have hg11 : ax_g V11 := eV11 ▸ ax_u_g hg10 hr10
        refine ax_ist (n := 701) (pc' := 257) ⟨_, rfl⟩ ay_ok ay_248 (by decide) o6 eV11 rfl ?_
        refine ax_mv 1 258 [some (.ref 222), some (ax_i x1), some (ax_i x2), some (ax_i x3), some (ax_i x4), some (ax_i x5), some (ax_i x6), some (ax_i r4)] [.ref 222] rfl ?_
        refine ax_gR (v := .ref 248) (pc' := 261) ⟨_, rfl⟩ fl_12_86 ay_222 rfl rfl ?_
        refine ax_mv 1 263 [some (.ref 222), some (ax_i x1), some (ax_i x2), some (ax_i x3), some (ax_i x4), some (ax_i x5), some (ax_i x6), some (ax_i r4)] [ax_i r4, .ref 248] rfl ?_
        obtain ⟨o7, h⟩ := h
        refine ax_ild (n := 701) (pc' := 264) ⟨_, rfl⟩ ay_248 (by decide) o7 rfl ?_
        refine ax_mv 1 265 [some (.ref 222), some (ax_i x1), some (ax_i x2), some (ax_i x3), some (ax_i x4), some (ax_i x5), some (ax_i x6), some (ax_i r4)] [ax_i (-1), ax_i (V11 248 r4)] rfl ?_
        refine ax_if2 (p1 := 272) (p2 := 268) ⟨_, rfl⟩ (by decide) rfl (hg11 _ _) (by decide) (fun hc => ?_) (fun hc => ?_)
        · have h := h.1 hc
          refine ax_mv 1 273 [some (.ref 222), some (ax_i x1), some (ax_i x2), some (ax_i x3), some (ax_i x4), some (ax_i x5), some (ax_i x6), some (ax_i r4)] [ax_i 0] rfl ?_
          exact ax_iret ⟨_, rfl⟩ rfl (ax_nbv (by decide)) (by decide) hg11 h
        · have h := h.2 hc
          refine ax_mv 2 273 [some (.ref 222), some (ax_i x1), some (ax_i x2), some (ax_i x3), some (ax_i x4), some (ax_i x5), some (ax_i x6), some (ax_i r4)] [ax_i 1] rfl ?_
          exact ax_iret ⟨_, rfl⟩ rfl (ax_nbv (by decide)) (by decide) hg11 h
      · have h := h.2 hc
        refine ax_mv 1 224 [some (.ref 222), some (ax_i x1), some (ax_i x2), some (ax_i x3), some (ax_i x4), some (ax_i x5), some (ax_i x6), some (ax_i r4)] [ax_i 1] rfl ?_
        exact ax_iret ⟨_, rfl⟩ rfl (ax_nbv (by decide)) (by decide) hg7 h
    · have h := h.1 (Classical.not_not.mp hc)
      refine ax_mv 1 169 [some (.ref 222), some (ax_i x1), some (ax_i x2), some (ax_i x3), some (ax_i x4), some (ax_i x5), some (ax_i x6), y7] [ax_i 0] rfl ?_
      exact ax_iret ⟨_, rfl⟩ rfl (ax_nbv (by decide)) (by decide) hg1 h
  · have h := h.2 hc
    refine ax_mv 1 81 [some (.ref 222), some (ax_i x1), some (ax_i x2), some (ax_i x3), some (ax_i x4), some (ax_i x5), some (ax_i x6), y7] [.ref 222] rfl ?_
    refine ax_callI (pc' := 84) ⟨_, rfl⟩ ml_12_353 (rest := []) rfl (fun ss hs => ⟨_, _, ay_222 ss hs⟩) (Nat.le_of_ble_eq_true rfl) rfl rfl h (fun r12 V12 hg12 hr12 h => ?_)
    refine ax_if (p1 := 89) (p2 := 87) ⟨_, rfl⟩ (by decide) rfl hr12 (fun hc => ?_) (fun hc => ?_)
    · have h := h.2 hc
      refine ax_mv 2 92 [some (.ref 222), some (ax_i x1), some (ax_i x2), some (ax_i x3), some (ax_i x4), some (ax_i x5), some (ax_i x6), y7] [ax_i (-1), ax_i x4] rfl ?_
      refine ax_if2 (p1 := 104) (p2 := 95) ⟨_, rfl⟩ (by decide) rfl hx4 (by decide) (fun hc => ?_) (fun hc => ?_)
      · have h := h.2 hc
        refine ax_mv 1 105 [some (.ref 222), some (ax_i x1), some (ax_i x2), some (ax_i x3), some (ax_i x4), some (ax_i x5), some (ax_i x6), y7] [.ref 222] rfl ?_
        refine ax_gR (v := .ref 252) (pc' := 108) ⟨_, rfl⟩ fl_12_98 ay_222 rfl rfl ?_
        refine ax_mv 2 111 [some (.ref 222), some (ax_i x1), some (ax_i x2), some (ax_i x3), some (ax_i x4), some (ax_i x5), some (ax_i x6), y7] [.ref 222, ax_i x5, .ref 252] rfl ?_
        refine ax_gI (kI := 74) (pc' := 114) ⟨_, rfl⟩ fl_12_323 ay_222 rfl rfl rfl ?_
        obtain ⟨o8, h⟩ := h
        obtain ⟨V13, eV13⟩ : ∃ W9 : ax_V, W9 = ax_u V12 252 x5 (V12 222 74) := ⟨_, rfl⟩
        have h := h V13 eV13
        have hg13 : ax_g V13 := eV13 ▸ ax_u_g hg12 (hg12 _ _)
        refine ax_ist (n := 701) (pc' := 115) ⟨_, rfl⟩ ay_ok ay_252 (by decide) o8 eV13 rfl ?_
        exact h
      · have h := h.1 (Classical.not_not.mp hc)
        refine ax_mv 1 96 [some (.ref 222), some (ax_i x1), some (ax_i x2), some (ax_i x3), some (ax_i x4), some (ax_i x5), some (ax_i x6), y7] [.ref 222] rfl ?_
        refine ax_gI (kI := 74) (pc' := 99) ⟨_, rfl⟩ fl_12_323 ay_222 rfl rfl rfl ?_
        refine ax_sti (i := 0) (k := 4) (n := 2) (pc' := 101) (L' := [some (.ref 222), some (ax_i x1), some (ax_i x2), some (ax_i x3), some (ax_i (V12 222 74)), some (ax_i x5), some (ax_i x6), y7]) ⟨_, rfl⟩ rfl rfl rfl (Nat.le_of_ble_eq_true rfl) rfl rfl ?_
        refine ax_mv 1 115 [some (.ref 222), some (ax_i x1), some (ax_i x2), some (ax_i x3), some (ax_i (V12 222 74)), some (ax_i x5), some (ax_i x6), y7] [] rfl ?_
        exact h
    · have h := h.1 (Classical.not_not.mp hc)
      refine ax_mv 1 88 [some (.ref 222), some (ax_i x1), some (ax_i x2), some (ax_i x3), some (ax_i x4), some (ax_i x5), some (ax_i x6), y7] [ax_i 0] rfl ?_
      exact ax_iret ⟨_, rfl⟩ rfl (ax_nbv (by decide)) (by decide) hg12 h
set_option maxRecDepth 20000 in
theorem r_Model_readCall_115 {d : Nat} {V : ax_V} {Φ : Int → ax_V → Prop} {Θ : ax_V → Prop} {x1 : Int} {x2 : Int} {x3 : Int} {x4 : Int} {y5 : Option Value} {y6 : Option Value} {y7 : Option Value} (hg : ax_g V) (hx1 : ax_rg x1) (hx2 : ax_rg x2) (hx3 : ax_rg x3) (hx4 : ax_rg x4) (hy5 : ax_y y5) (hy6 : ax_y y6) (hy7 : ax_y y7) (h : ax_I ay_lay d q_Model_see [.ref 222] V (fun r1 V1 => ((r1 = 44 → ax_rg ((V1 222 68) + 1) ∧ (∀ V3, V3 = ax_u V1 222 68 ((V1 222 68) + 1) → k_Model_readCall_75 d x1 x2 x3 x4 (V 222 74) 1 y7 V3 Φ Θ)) ∧ (¬ r1 = 44 → ax_rg ((V1 222 68) + 0) ∧ (∀ V2, V2 = ax_u V1 222 68 ((V1 222 68) + 0) → k_Model_readCall_75 d x1 x2 x3 x4 (V 222 74) 0 y7 V2 Φ Θ)))) Θ) : k_Model_readCall_115 d x1 x2 x3 x4 y5 y6 y7 V Φ Θ := by
  refine ax_mv 1 116 [some (.ref 222), some (ax_i x1), some (ax_i x2), some (ax_i x3), some (ax_i x4), y5, y6, y7] [.ref 222] rfl ?_
  refine ax_gI (kI := 74) (pc' := 119) ⟨_, rfl⟩ fl_12_323 ay_222 rfl rfl rfl ?_
  refine ax_sti (i := 0) (k := 5) (n := 2) (pc' := 121) (L' := [some (.ref 222), some (ax_i x1), some (ax_i x2), some (ax_i x3), some (ax_i x4), some (ax_i (V 222 74)), y6, y7]) ⟨_, rfl⟩ rfl rfl rfl (Nat.le_of_ble_eq_true rfl) rfl rfl ?_
  refine ax_mv 1 122 [some (.ref 222), some (ax_i x1), some (ax_i x2), some (ax_i x3), some (ax_i x4), some (ax_i (V 222 74)), y6, y7] [.ref 222] rfl ?_
  refine ax_callI (pc' := 125) ⟨_, rfl⟩ ml_12_300 (rest := []) rfl (fun ss hs => ⟨_, _, ay_222 ss hs⟩) (Nat.le_of_ble_eq_true rfl) rfl rfl h (fun r1 V1 hg1 hr1 h => ?_)
  refine ax_bip (pc' := 127) ⟨_, rfl⟩ (by decide) rfl ?_
  refine ax_if2 (p1 := 134) (p2 := 130) ⟨_, rfl⟩ (by decide) rfl hr1 (by decide) (fun hc => ?_) (fun hc => ?_)
  · have h := h.2 hc
    refine ax_mv 1 135 [some (.ref 222), some (ax_i x1), some (ax_i x2), some (ax_i x3), some (ax_i x4), some (ax_i (V 222 74)), y6, y7] [ax_i 0] rfl ?_
    refine ax_sti (i := 0) (k := 6) (n := 2) (pc' := 137) (L' := [some (.ref 222), some (ax_i x1), some (ax_i x2), some (ax_i x3), some (ax_i x4), some (ax_i (V 222 74)), some (ax_i 0), y7]) ⟨_, rfl⟩ rfl rfl rfl (Nat.le_of_ble_eq_true rfl) rfl rfl ?_
    refine ax_mv 2 139 [some (.ref 222), some (ax_i x1), some (ax_i x2), some (ax_i x3), some (ax_i x4), some (ax_i (V 222 74)), some (ax_i 0), y7] [.ref 222, .ref 222] rfl ?_
    refine ax_gI (kI := 68) (pc' := 142) ⟨_, rfl⟩ fl_12_294 ay_222 rfl rfl rfl ?_
    refine ax_mv 1 144 [some (.ref 222), some (ax_i x1), some (ax_i x2), some (ax_i x3), some (ax_i x4), some (ax_i (V 222 74)), some (ax_i 0), y7] [ax_i 0, ax_i (V1 222 68), .ref 222] rfl ?_
    refine ax_if (p1 := 151) (p2 := 147) ⟨_, rfl⟩ (by decide) rfl (by decide) (fun _ => ?_) (fun hc => absurd (by unfold ax_k0; decide) hc)
    refine ax_mv 1 152 [some (.ref 222), some (ax_i x1), some (ax_i x2), some (ax_i x3), some (ax_i x4), some (ax_i (V 222 74)), some (ax_i 0), y7] [ax_i 0, ax_i (V1 222 68), .ref 222] rfl ?_
    refine ax_add (pc' := 153) ⟨_, rfl⟩ rfl ?_
    obtain ⟨o9, h⟩ := h
    obtain ⟨V2, eV2⟩ : ∃ W9 : ax_V, W9 = ax_u V1 222 68 ((V1 222 68) + 0) := ⟨_, rfl⟩
    have h := h V2 eV2
    have hg2 : ax_g V2 := eV2 ▸ ax_u_g hg1 o9
    refine ax_pI (kI := 68) (pc' := 156) ⟨_, rfl⟩ fl_12_294 ay_ok ay_222 rfl rfl rfl rfl eV2 rfl ?_
    refine ax_mv 1 75 [some (.ref 222), some (ax_i x1), some (ax_i x2), some (ax_i x3), some (ax_i x4), some (ax_i (V 222 74)), some (ax_i 0), y7] [] rfl ?_
    exact h
  · have h := h.1 (Classical.not_not.mp hc)
    refine ax_mv 2 135 [some (.ref 222), some (ax_i x1), some (ax_i x2), some (ax_i x3), some (ax_i x4), some (ax_i (V 222 74)), y6, y7] [ax_i 1] rfl ?_
    refine ax_sti (i := 0) (k := 6) (n := 2) (pc' := 137) (L' := [some (.ref 222), some (ax_i x1), some (ax_i x2), some (ax_i x3), some (ax_i x4), some (ax_i (V 222 74)), some (ax_i 1), y7]) ⟨_, rfl⟩ rfl rfl rfl (Nat.le_of_ble_eq_true rfl) rfl rfl ?_
    refine ax_mv 2 139 [some (.ref 222), some (ax_i x1), some (ax_i x2), some (ax_i x3), some (ax_i x4), some (ax_i (V 222 74)), some (ax_i 1), y7] [.ref 222, .ref 222] rfl ?_
    refine ax_gI (kI := 68) (pc' := 142) ⟨_, rfl⟩ fl_12_294 ay_222 rfl rfl rfl ?_
    refine ax_mv 1 144 [some (.ref 222), some (ax_i x1), some (ax_i x2), some (ax_i x3), some (ax_i x4), some (ax_i (V 222 74)), some (ax_i 1), y7] [ax_i 1, ax_i (V1 222 68), .ref 222] rfl ?_
    refine ax_if (p1 := 151) (p2 := 147) ⟨_, rfl⟩ (by decide) rfl (by decide) (fun hc => absurd hc (by unfold ax_k0; decide)) (fun _ => ?_)
    refine ax_mv 2 152 [some (.ref 222), some (ax_i x1), some (ax_i x2), some (ax_i x3), some (ax_i x4), some (ax_i (V 222 74)), some (ax_i 1), y7] [ax_i 1, ax_i (V1 222 68), .ref 222] rfl ?_
    refine ax_add (pc' := 153) ⟨_, rfl⟩ rfl ?_
    obtain ⟨o10, h⟩ := h
    obtain ⟨V3, eV3⟩ : ∃ W9 : ax_V, W9 = ax_u V1 222 68 ((V1 222 68) + 1) := ⟨_, rfl⟩
    have h := h V3 eV3
    have hg3 : ax_g V3 := eV3 ▸ ax_u_g hg1 o10
    refine ax_pI (kI := 68) (pc' := 156) ⟨_, rfl⟩ fl_12_294 ay_ok ay_222 rfl rfl rfl rfl eV3 rfl ?_
    refine ax_mv 1 75 [some (.ref 222), some (ax_i x1), some (ax_i x2), some (ax_i x3), some (ax_i x4), some (ax_i (V 222 74)), some (ax_i 1), y7] [] rfl ?_
    exact h
set_option maxRecDepth 20000 in
theorem r_Model_readCall {d : Nat} {V : ax_V} {Φ : Int → ax_V → Prop} {Θ : ax_V → Prop} (hg : ax_g V) (h : ((V 222 71 = 0 → ax_I ay_lay d q_Model_see [.ref 222] V (fun r1 V1 => ax_rg ((V1 222 68) + 1) ∧ (∀ V2, V2 = ax_u V1 222 68 ((V1 222 68) + 1) → ax_I ay_lay d q_Model_see [.ref 222] V2 (fun r3 V3 => ((r3 = 40 → ax_I ay_lay d q_Model_open [.ref 222, ax_i 1] V3 (fun r4 V4 => ((r4 = 0 → Φ 0 V4) ∧ (¬ r4 = 0 → ax_I ay_lay d q_Model_see [.ref 222] V4 (fun r5 V5 => ((r5 = 41 → k_Model_readCall_75 d (V 222 68) r1 (V4 222 72) (-1) (-1) 0 none V5 Φ Θ) ∧ (¬ r5 = 41 → k_Model_readCall_75 d (V 222 68) r1 (V4 222 72) (-1) (-1) 1 none V5 Φ Θ))) Θ))) Θ) ∧ (¬ r3 = 40 → Φ 0 V3))) Θ)) Θ) ∧ (¬ V 222 71 = 0 → Φ 0 V))) : ax_I ay_lay (d + 1) q_Model_readCall [.ref 222] V Φ Θ := by
  refine ax_T.of (M := m_Model_readCall) rfl (Nat.le_of_ble_eq_true rfl) ?_
  refine ax_mv 0 0 [some (.ref 222), none, none, none, none, none, none, none] [] rfl ?_
  refine ax_mv 1 1 [some (.ref 222), none, none, none, none, none, none, none] [.ref 222] rfl ?_
  refine ax_gI (kI := 68) (pc' := 4) ⟨_, rfl⟩ fl_12_294 ay_222 rfl rfl rfl ?_
  refine ax_sti (i := 0) (k := 1) (n := 1) (pc' := 5) (L' := [some (.ref 222), some (ax_i (V 222 68)), none, none, none, none, none, none]) ⟨_, rfl⟩ rfl rfl rfl (Nat.le_of_ble_eq_true rfl) rfl rfl ?_
  refine ax_mv 1 6 [some (.ref 222), some (ax_i (V 222 68)), none, none, none, none, none, none] [.ref 222] rfl ?_
  refine ax_gI (kI := 71) (pc' := 9) ⟨_, rfl⟩ fl_12_345 ay_222 rfl rfl rfl ?_
  refine ax_if (p1 := 14) (p2 := 12) ⟨_, rfl⟩ (by decide) rfl (hg _ _) (fun hc => ?_) (fun hc => ?_)
  · have h := h.1 hc
    refine ax_mv 1 15 [some (.ref 222), some (ax_i (V 222 68)), none, none, none, none, none, none] [.ref 222] rfl ?_
    refine ax_callI (pc' := 18) ⟨_, rfl⟩ ml_12_300 (rest := []) rfl (fun ss hs => ⟨_, _, ay_222 ss hs⟩) (Nat.le_of_ble_eq_true rfl) rfl rfl h (fun r1 V1 hg1 hr1 h => ?_)
    refine ax_sti (i := 0) (k := 2) (n := 1) (pc' := 19) (L' := [some (.ref 222), some (ax_i (V 222 68)), some (ax_i r1), none, none, none, none, none]) ⟨_, rfl⟩ rfl rfl rfl (Nat.le_of_ble_eq_true rfl) rfl rfl ?_
    refine ax_mv 2 21 [some (.ref 222), some (ax_i (V 222 68)), some (ax_i r1), none, none, none, none, none] [.ref 222, .ref 222] rfl ?_
    refine ax_gI (kI := 68) (pc' := 24) ⟨_, rfl⟩ fl_12_294 ay_222 rfl rfl rfl ?_
    refine ax_mv 1 25 [some (.ref 222), some (ax_i (V 222 68)), some (ax_i r1), none, none, none, none, none] [ax_i 1, ax_i (V1 222 68), .ref 222] rfl ?_
    refine ax_add (pc' := 26) ⟨_, rfl⟩ rfl ?_
    obtain ⟨o11, h⟩ := h
    obtain ⟨V2, eV2⟩ : ∃ W9 : ax_V, W9 = ax_u V1 222 68 ((V1 222 68) + 1) := ⟨_, rfl⟩
    have h := h V2 eV2
    have hg2 : ax_g V2 := eV2 ▸ ax_u_g hg1 o11
    refine ax_pI (kI := 68) (pc' := 29) ⟨_, rfl⟩ fl_12_294 ay_ok ay_222 rfl rfl rfl rfl eV2 rfl ?_
    refine ax_mv 1 30 [some (.ref 222), some (ax_i (V 222 68)), some (ax_i r1), none, none, none, none, none] [.ref 222] rfl ?_
    refine ax_callI (pc' := 33) ⟨_, rfl⟩ ml_12_300 (rest := []) rfl (fun ss hs => ⟨_, _, ay_222 ss hs⟩) (Nat.le_of_ble_eq_true rfl) rfl rfl h (fun r3 V3 hg3 hr3 h => ?_)
    refine ax_bip (pc' := 35) ⟨_, rfl⟩ (by decide) rfl ?_
    refine ax_if2 (p1 := 46) (p2 := 38) ⟨_, rfl⟩ (by decide) rfl hr3 (by decide) (fun hc => ?_) (fun hc => ?_)
    · have h := h.2 hc
      refine ax_mv 1 47 [some (.ref 222), some (ax_i (V 222 68)), some (ax_i r1), none, none, none, none, none] [ax_i 0] rfl ?_
      exact ax_iret ⟨_, rfl⟩ rfl (ax_nbv (by decide)) (by decide) hg3 h
    · have h := h.1 (Classical.not_not.mp hc)
      refine ax_mv 2 40 [some (.ref 222), some (ax_i (V 222 68)), some (ax_i r1), none, none, none, none, none] [ax_i 1, .ref 222] rfl ?_
      refine ax_callI (pc' := 43) ⟨_, rfl⟩ ml_12_349 (rest := []) rfl (fun ss hs => ⟨_, _, ay_222 ss hs⟩) (Nat.le_of_ble_eq_true rfl) rfl rfl h (fun r4 V4 hg4 hr4 h => ?_)
      refine ax_if (p1 := 48) (p2 := 46) ⟨_, rfl⟩ (by decide) rfl hr4 (fun hc => ?_) (fun hc => ?_)
      · have h := h.2 hc
        refine ax_mv 1 49 [some (.ref 222), some (ax_i (V 222 68)), some (ax_i r1), none, none, none, none, none] [.ref 222] rfl ?_
        refine ax_gI (kI := 72) (pc' := 52) ⟨_, rfl⟩ fl_12_378 ay_222 rfl rfl rfl ?_
        refine ax_sti (i := 0) (k := 3) (n := 1) (pc' := 53) (L' := [some (.ref 222), some (ax_i (V 222 68)), some (ax_i r1), some (ax_i (V4 222 72)), none, none, none, none]) ⟨_, rfl⟩ rfl rfl rfl (Nat.le_of_ble_eq_true rfl) rfl rfl ?_
        refine ax_mv 1 54 [some (.ref 222), some (ax_i (V 222 68)), some (ax_i r1), some (ax_i (V4 222 72)), none, none, none, none] [ax_i (-1)] rfl ?_
        refine ax_sti (i := 0) (k := 4) (n := 2) (pc' := 56) (L' := [some (.ref 222), some (ax_i (V 222 68)), some (ax_i r1), some (ax_i (V4 222 72)), some (ax_i (-1)), none, none, none]) ⟨_, rfl⟩ rfl rfl rfl (Nat.le_of_ble_eq_true rfl) rfl rfl ?_
        refine ax_mv 1 57 [some (.ref 222), some (ax_i (V 222 68)), some (ax_i r1), some (ax_i (V4 222 72)), some (ax_i (-1)), none, none, none] [ax_i (-1)] rfl ?_
        refine ax_sti (i := 0) (k := 5) (n := 2) (pc' := 59) (L' := [some (.ref 222), some (ax_i (V 222 68)), some (ax_i r1), some (ax_i (V4 222 72)), some (ax_i (-1)), some (ax_i (-1)), none, none]) ⟨_, rfl⟩ rfl rfl rfl (Nat.le_of_ble_eq_true rfl) rfl rfl ?_
        refine ax_mv 1 60 [some (.ref 222), some (ax_i (V 222 68)), some (ax_i r1), some (ax_i (V4 222 72)), some (ax_i (-1)), some (ax_i (-1)), none, none] [.ref 222] rfl ?_
        refine ax_callI (pc' := 63) ⟨_, rfl⟩ ml_12_300 (rest := []) rfl (fun ss hs => ⟨_, _, ay_222 ss hs⟩) (Nat.le_of_ble_eq_true rfl) rfl rfl h (fun r5 V5 hg5 hr5 h => ?_)
        refine ax_bip (pc' := 65) ⟨_, rfl⟩ (by decide) rfl ?_
        refine ax_if2 (p1 := 72) (p2 := 68) ⟨_, rfl⟩ (by decide) rfl hr5 (by decide) (fun hc => ?_) (fun hc => ?_)
        · have h := h.1 hc
          refine ax_mv 1 73 [some (.ref 222), some (ax_i (V 222 68)), some (ax_i r1), some (ax_i (V4 222 72)), some (ax_i (-1)), some (ax_i (-1)), none, none] [ax_i 0] rfl ?_
          refine ax_sti (i := 0) (k := 6) (n := 2) (pc' := 75) (L' := [some (.ref 222), some (ax_i (V 222 68)), some (ax_i r1), some (ax_i (V4 222 72)), some (ax_i (-1)), some (ax_i (-1)), some (ax_i 0), none]) ⟨_, rfl⟩ rfl rfl rfl (Nat.le_of_ble_eq_true rfl) rfl rfl ?_
          exact h
        · have h := h.2 hc
          refine ax_mv 2 73 [some (.ref 222), some (ax_i (V 222 68)), some (ax_i r1), some (ax_i (V4 222 72)), some (ax_i (-1)), some (ax_i (-1)), none, none] [ax_i 1] rfl ?_
          refine ax_sti (i := 0) (k := 6) (n := 2) (pc' := 75) (L' := [some (.ref 222), some (ax_i (V 222 68)), some (ax_i r1), some (ax_i (V4 222 72)), some (ax_i (-1)), some (ax_i (-1)), some (ax_i 1), none]) ⟨_, rfl⟩ rfl rfl rfl (Nat.le_of_ble_eq_true rfl) rfl rfl ?_
          exact h
      · have h := h.1 (Classical.not_not.mp hc)
        refine ax_mv 1 47 [some (.ref 222), some (ax_i (V 222 68)), some (ax_i r1), none, none, none, none, none] [ax_i 0] rfl ?_
        exact ax_iret ⟨_, rfl⟩ rfl (ax_nbv (by decide)) (by decide) hg4 h
  · have h := h.2 hc
    refine ax_mv 1 13 [some (.ref 222), some (ax_i (V 222 68)), none, none, none, none, none, none] [ax_i 0] rfl ?_
    exact ax_iret ⟨_, rfl⟩ rfl (ax_nbv (by decide)) (by decide) hg h
theorem r_Model_readChoice {d : Nat} {V : ax_V} {Φ : Int → ax_V → Prop} {Θ : ax_V → Prop} (hg : ax_g V) (h : ax_I ay_lay d q_Model_open [.ref 222, ax_i 1] V (fun r1 V1 => ((r1 = 0 → Φ 0 V1) ∧ (¬ r1 = 0 → ax_I ay_lay d q_Model_readC [.ref 222] V1 (fun r2 V2 => ((r2 = 0 → Φ 0 V2) ∧ (¬ r2 = 0 → ax_I ay_lay d q_Model_want [.ref 222, ax_i 58] V2 (fun r3 V3 => ((r3 = 0 → Φ 0 V3) ∧ (¬ r3 = 0 → ax_I ay_lay d q_Model_readC [.ref 222] V3 (fun r4 V4 => ((r4 = 0 → Φ 0 V4) ∧ (¬ r4 = 0 → ax_rg ((V4 222 69) - 1) ∧ (∀ V5, V5 = ax_u V4 222 69 ((V4 222 69) - 1) → (0 ≤ V 222 74 ∧ V 222 74 < 701) ∧ ax_I ay_lay d q_Model_makePart [.ref 222, ax_i 18, ax_i (V5 242 (V 222 74)), ax_i (V 222 74), ax_i (V2 222 74), ax_i (V5 222 74)] V5 (fun r6 V6 => ((r6 < 0 → Φ 0 V6) ∧ (0 ≤ r6 → Φ 1 V6))) Θ)))) Θ))) Θ))) Θ))) Θ) : ax_I ay_lay (d + 1) q_Model_readChoice [.ref 222] V Φ Θ := by
  refine ax_T.of (M := m_Model_readChoice) rfl (Nat.le_of_ble_eq_true rfl) ?_
  refine ax_mv 0 0 [some (.ref 222), none, none, none] [] rfl ?_
  refine ax_mv 1 1 [some (.ref 222), none, none, none] [.ref 222] rfl ?_
  refine ax_gI (kI := 74) (pc' := 4) ⟨_, rfl⟩ fl_12_323 ay_222 rfl rfl rfl ?_
  refine ax_sti (i := 0) (k := 1) (n := 1) (pc' := 5) (L' := [some (.ref 222), some (ax_i (V 222 74)), none, none]) ⟨_, rfl⟩ rfl rfl rfl (Nat.le_of_ble_eq_true rfl) rfl rfl ?_
  refine ax_mv 2 7 [some (.ref 222), some (ax_i (V 222 74)), none, none] [ax_i 1, .ref 222] rfl ?_
  refine ax_callI (pc' := 10) ⟨_, rfl⟩ ml_12_349 (rest := []) rfl (fun ss hs => ⟨_, _, ay_222 ss hs⟩) (Nat.le_of_ble_eq_true rfl) rfl rfl h (fun r1 V1 hg1 hr1 h => ?_)
  refine ax_if (p1 := 20) (p2 := 13) ⟨_, rfl⟩ (by decide) rfl hr1 (fun hc => ?_) (fun hc => ?_)
  · have h := h.1 hc
    refine ax_mv 1 21 [some (.ref 222), some (ax_i (V 222 74)), none, none] [ax_i 0] rfl ?_
    exact ax_iret ⟨_, rfl⟩ rfl (ax_nbv (by decide)) (by decide) hg1 h
  · have h := h.2 hc
    refine ax_mv 1 14 [some (.ref 222), some (ax_i (V 222 74)), none, none] [.ref 222] rfl ?_
    refine ax_callI (pc' := 17) ⟨_, rfl⟩ ml_12_336 (rest := []) rfl (fun ss hs => ⟨_, _, ay_222 ss hs⟩) (Nat.le_of_ble_eq_true rfl) rfl rfl h (fun r2 V2 hg2 hr2 h => ?_)
    refine ax_if (p1 := 22) (p2 := 20) ⟨_, rfl⟩ (by decide) rfl hr2 (fun hc => ?_) (fun hc => ?_)
    · have h := h.2 hc
      refine ax_mv 1 23 [some (.ref 222), some (ax_i (V 222 74)), none, none] [.ref 222] rfl ?_
      refine ax_gI (kI := 74) (pc' := 26) ⟨_, rfl⟩ fl_12_323 ay_222 rfl rfl rfl ?_
      refine ax_sti (i := 0) (k := 2) (n := 1) (pc' := 27) (L' := [some (.ref 222), some (ax_i (V 222 74)), some (ax_i (V2 222 74)), none]) ⟨_, rfl⟩ rfl rfl rfl (Nat.le_of_ble_eq_true rfl) rfl rfl ?_
      refine ax_mv 1 28 [some (.ref 222), some (ax_i (V 222 74)), some (ax_i (V2 222 74)), none] [.ref 222] rfl ?_
      refine ax_bip (pc' := 30) ⟨_, rfl⟩ (by decide) rfl ?_
      refine ax_callI (pc' := 33) ⟨_, rfl⟩ ml_12_366 (rest := []) rfl (fun ss hs => ⟨_, _, ay_222 ss hs⟩) (Nat.le_of_ble_eq_true rfl) rfl rfl h (fun r3 V3 hg3 hr3 h => ?_)
      refine ax_if (p1 := 43) (p2 := 36) ⟨_, rfl⟩ (by decide) rfl hr3 (fun hc => ?_) (fun hc => ?_)
      · have h := h.1 hc
        refine ax_mv 1 44 [some (.ref 222), some (ax_i (V 222 74)), some (ax_i (V2 222 74)), none] [ax_i 0] rfl ?_
        exact ax_iret ⟨_, rfl⟩ rfl (ax_nbv (by decide)) (by decide) hg3 h
      · have h := h.2 hc
        refine ax_mv 1 37 [some (.ref 222), some (ax_i (V 222 74)), some (ax_i (V2 222 74)), none] [.ref 222] rfl ?_
        refine ax_callI (pc' := 40) ⟨_, rfl⟩ ml_12_336 (rest := []) rfl (fun ss hs => ⟨_, _, ay_222 ss hs⟩) (Nat.le_of_ble_eq_true rfl) rfl rfl h (fun r4 V4 hg4 hr4 h => ?_)
        refine ax_if (p1 := 45) (p2 := 43) ⟨_, rfl⟩ (by decide) rfl hr4 (fun hc => ?_) (fun hc => ?_)
        · have h := h.2 hc
          refine ax_mv 2 47 [some (.ref 222), some (ax_i (V 222 74)), some (ax_i (V2 222 74)), none] [.ref 222, .ref 222] rfl ?_
          refine ax_gI (kI := 69) (pc' := 50) ⟨_, rfl⟩ fl_12_314 ay_222 rfl rfl rfl ?_
          refine ax_mv 1 51 [some (.ref 222), some (ax_i (V 222 74)), some (ax_i (V2 222 74)), none] [ax_i 1, ax_i (V4 222 69), .ref 222] rfl ?_
          refine ax_sub (pc' := 52) ⟨_, rfl⟩ rfl ?_
          obtain ⟨o1, h⟩ := h
          obtain ⟨V5, eV5⟩ : ∃ W9 : ax_V, W9 = ax_u V4 222 69 ((V4 222 69) - 1) := ⟨_, rfl⟩
          have h := h V5 eV5
          have hg5 : ax_g V5 := eV5 ▸ ax_u_g hg4 o1
          refine ax_pI (kI := 69) (pc' := 55) ⟨_, rfl⟩ fl_12_314 ay_ok ay_222 rfl rfl rfl rfl eV5 rfl ?_
          refine ax_mv 1 56 [some (.ref 222), some (ax_i (V 222 74)), some (ax_i (V2 222 74)), none] [.ref 222] rfl ?_
          refine ax_bip (pc' := 58) ⟨_, rfl⟩ (by decide) rfl ?_
          refine ax_mv 1 59 [some (.ref 222), some (ax_i (V 222 74)), some (ax_i (V2 222 74)), none] [.ref 222, ax_i 18, .ref 222] rfl ?_
          refine ax_gR (v := .ref 242) (pc' := 62) ⟨_, rfl⟩ fl_12_68 ay_222 rfl rfl ?_
          refine ax_mv 1 63 [some (.ref 222), some (ax_i (V 222 74)), some (ax_i (V2 222 74)), none] [ax_i (V 222 74), .ref 242, ax_i 18, .ref 222] rfl ?_
          obtain ⟨o2, h⟩ := h
          refine ax_ild (n := 701) (pc' := 64) ⟨_, rfl⟩ ay_242 (by decide) o2 rfl ?_
          refine ax_mv 3 67 [some (.ref 222), some (ax_i (V 222 74)), some (ax_i (V2 222 74)), none] [.ref 222, ax_i (V2 222 74), ax_i (V 222 74), ax_i (V5 242 (V 222 74)), ax_i 18, .ref 222] rfl ?_
          refine ax_gI (kI := 74) (pc' := 70) ⟨_, rfl⟩ fl_12_323 ay_222 rfl rfl rfl ?_
          refine ax_callI (pc' := 73) ⟨_, rfl⟩ ml_12_356 (rest := []) rfl (fun ss hs => ⟨_, _, ay_222 ss hs⟩) (Nat.le_of_ble_eq_true rfl) rfl rfl h (fun r6 V6 hg6 hr6 h => ?_)
          refine ax_sti (i := 0) (k := 3) (n := 1) (pc' := 74) (L' := [some (.ref 222), some (ax_i (V 222 74)), some (ax_i (V2 222 74)), some (ax_i r6)]) ⟨_, rfl⟩ rfl rfl rfl (Nat.le_of_ble_eq_true rfl) rfl rfl ?_
          refine ax_mv 1 75 [some (.ref 222), some (ax_i (V 222 74)), some (ax_i (V2 222 74)), some (ax_i r6)] [ax_i r6] rfl ?_
          refine ax_if (p1 := 82) (p2 := 78) ⟨_, rfl⟩ (by decide) rfl hr6 (fun hc => ?_) (fun hc => ?_)
          · have h := h.1 hc
            refine ax_mv 1 83 [some (.ref 222), some (ax_i (V 222 74)), some (ax_i (V2 222 74)), some (ax_i r6)] [ax_i 0] rfl ?_
            exact ax_iret ⟨_, rfl⟩ rfl (ax_nbv (by decide)) (by decide) hg6 h
          · have h := h.2 (Int.not_lt.mp hc)
            refine ax_mv 2 83 [some (.ref 222), some (ax_i (V 222 74)), some (ax_i (V2 222 74)), some (ax_i r6)] [ax_i 1] rfl ?_
            exact ax_iret ⟨_, rfl⟩ rfl (ax_nbv (by decide)) (by decide) hg6 h
        · have h := h.1 (Classical.not_not.mp hc)
          refine ax_mv 1 44 [some (.ref 222), some (ax_i (V 222 74)), some (ax_i (V2 222 74)), none] [ax_i 0] rfl ?_
          exact ax_iret ⟨_, rfl⟩ rfl (ax_nbv (by decide)) (by decide) hg4 h
    · have h := h.1 (Classical.not_not.mp hc)
      refine ax_mv 1 21 [some (.ref 222), some (ax_i (V 222 74)), none, none] [ax_i 0] rfl ?_
      exact ax_iret ⟨_, rfl⟩ rfl (ax_nbv (by decide)) (by decide) hg2 h
theorem r_Model_readArrow {d : Nat} {V : ax_V} {Φ : Int → ax_V → Prop} {Θ : ax_V → Prop} (hg : ax_g V) (h : ((V 222 71 = 0 → ax_I ay_lay d q_Model_open [.ref 222, ax_i 2] V (fun r1 V1 => ((r1 = 0 → Φ 0 V1) ∧ (¬ r1 = 0 → ax_I ay_lay d q_Model_readX [.ref 222] V1 (fun r2 V2 => ((r2 = 0 → Φ 0 V2) ∧ (¬ r2 = 0 → ax_rg ((V2 222 69) - 1) ∧ (∀ V3, V3 = ax_u V2 222 69 ((V2 222 69) - 1) → (0 ≤ V 222 74 ∧ V 222 74 < 701) ∧ ax_I ay_lay d q_Model_makePart [.ref 222, ax_i 19, ax_i (V3 242 (V 222 74)), ax_i (V 222 74), ax_i (V3 222 74), ax_i (-1)] V3 (fun r4 V4 => (0 ≤ r4 ∧ r4 < 701) ∧ (∀ V5, V5 = ax_u V4 243 r4 (V 222 68) → Φ 1 V5)) Θ)))) Θ))) Θ) ∧ (¬ V 222 71 = 0 → Φ 0 V))) : ax_I ay_lay (d + 1) q_Model_readArrow [.ref 222] V Φ Θ := by
  refine ax_T.of (M := m_Model_readArrow) rfl (Nat.le_of_ble_eq_true rfl) ?_
  refine ax_mv 0 0 [some (.ref 222), none, none, none] [] rfl ?_
  refine ax_mv 1 1 [some (.ref 222), none, none, none] [.ref 222] rfl ?_
  refine ax_gI (kI := 71) (pc' := 4) ⟨_, rfl⟩ fl_12_345 ay_222 rfl rfl rfl ?_
  refine ax_if (p1 := 9) (p2 := 7) ⟨_, rfl⟩ (by decide) rfl (hg _ _) (fun hc => ?_) (fun hc => ?_)
  · have h := h.1 hc
    refine ax_mv 1 10 [some (.ref 222), none, none, none] [.ref 222] rfl ?_
    refine ax_gI (kI := 74) (pc' := 13) ⟨_, rfl⟩ fl_12_323 ay_222 rfl rfl rfl ?_
    refine ax_sti (i := 0) (k := 1) (n := 1) (pc' := 14) (L' := [some (.ref 222), some (ax_i (V 222 74)), none, none]) ⟨_, rfl⟩ rfl rfl rfl (Nat.le_of_ble_eq_true rfl) rfl rfl ?_
    refine ax_mv 1 15 [some (.ref 222), some (ax_i (V 222 74)), none, none] [.ref 222] rfl ?_
    refine ax_gI (kI := 68) (pc' := 18) ⟨_, rfl⟩ fl_12_294 ay_222 rfl rfl rfl ?_
    refine ax_sti (i := 0) (k := 2) (n := 1) (pc' := 19) (L' := [some (.ref 222), some (ax_i (V 222 74)), some (ax_i (V 222 68)), none]) ⟨_, rfl⟩ rfl rfl rfl (Nat.le_of_ble_eq_true rfl) rfl rfl ?_
    refine ax_mv 2 21 [some (.ref 222), some (ax_i (V 222 74)), some (ax_i (V 222 68)), none] [ax_i 2, .ref 222] rfl ?_
    refine ax_callI (pc' := 24) ⟨_, rfl⟩ ml_12_349 (rest := []) rfl (fun ss hs => ⟨_, _, ay_222 ss hs⟩) (Nat.le_of_ble_eq_true rfl) rfl rfl h (fun r1 V1 hg1 hr1 h => ?_)
    refine ax_if (p1 := 34) (p2 := 27) ⟨_, rfl⟩ (by decide) rfl hr1 (fun hc => ?_) (fun hc => ?_)
    · have h := h.1 hc
      refine ax_mv 1 35 [some (.ref 222), some (ax_i (V 222 74)), some (ax_i (V 222 68)), none] [ax_i 0] rfl ?_
      exact ax_iret ⟨_, rfl⟩ rfl (ax_nbv (by decide)) (by decide) hg1 h
    · have h := h.2 hc
      refine ax_mv 1 28 [some (.ref 222), some (ax_i (V 222 74)), some (ax_i (V 222 68)), none] [.ref 222] rfl ?_
      refine ax_callI (pc' := 31) ⟨_, rfl⟩ ml_12_353 (rest := []) rfl (fun ss hs => ⟨_, _, ay_222 ss hs⟩) (Nat.le_of_ble_eq_true rfl) rfl rfl h (fun r2 V2 hg2 hr2 h => ?_)
      refine ax_if (p1 := 36) (p2 := 34) ⟨_, rfl⟩ (by decide) rfl hr2 (fun hc => ?_) (fun hc => ?_)
      · have h := h.2 hc
        refine ax_mv 2 38 [some (.ref 222), some (ax_i (V 222 74)), some (ax_i (V 222 68)), none] [.ref 222, .ref 222] rfl ?_
        refine ax_gI (kI := 69) (pc' := 41) ⟨_, rfl⟩ fl_12_314 ay_222 rfl rfl rfl ?_
        refine ax_mv 1 42 [some (.ref 222), some (ax_i (V 222 74)), some (ax_i (V 222 68)), none] [ax_i 1, ax_i (V2 222 69), .ref 222] rfl ?_
        refine ax_sub (pc' := 43) ⟨_, rfl⟩ rfl ?_
        obtain ⟨o1, h⟩ := h
        obtain ⟨V3, eV3⟩ : ∃ W9 : ax_V, W9 = ax_u V2 222 69 ((V2 222 69) - 1) := ⟨_, rfl⟩
        have h := h V3 eV3
        have hg3 : ax_g V3 := eV3 ▸ ax_u_g hg2 o1
        refine ax_pI (kI := 69) (pc' := 46) ⟨_, rfl⟩ fl_12_314 ay_ok ay_222 rfl rfl rfl rfl eV3 rfl ?_
        refine ax_mv 1 47 [some (.ref 222), some (ax_i (V 222 74)), some (ax_i (V 222 68)), none] [.ref 222] rfl ?_
        refine ax_bip (pc' := 49) ⟨_, rfl⟩ (by decide) rfl ?_
        refine ax_mv 1 50 [some (.ref 222), some (ax_i (V 222 74)), some (ax_i (V 222 68)), none] [.ref 222, ax_i 19, .ref 222] rfl ?_
        refine ax_gR (v := .ref 242) (pc' := 53) ⟨_, rfl⟩ fl_12_68 ay_222 rfl rfl ?_
        refine ax_mv 1 54 [some (.ref 222), some (ax_i (V 222 74)), some (ax_i (V 222 68)), none] [ax_i (V 222 74), .ref 242, ax_i 19, .ref 222] rfl ?_
        obtain ⟨o2, h⟩ := h
        refine ax_ild (n := 701) (pc' := 55) ⟨_, rfl⟩ ay_242 (by decide) o2 rfl ?_
        refine ax_mv 2 57 [some (.ref 222), some (ax_i (V 222 74)), some (ax_i (V 222 68)), none] [.ref 222, ax_i (V 222 74), ax_i (V3 242 (V 222 74)), ax_i 19, .ref 222] rfl ?_
        refine ax_gI (kI := 74) (pc' := 60) ⟨_, rfl⟩ fl_12_323 ay_222 rfl rfl rfl ?_
        refine ax_mv 1 61 [some (.ref 222), some (ax_i (V 222 74)), some (ax_i (V 222 68)), none] [ax_i (-1), ax_i (V3 222 74), ax_i (V 222 74), ax_i (V3 242 (V 222 74)), ax_i 19, .ref 222] rfl ?_
        refine ax_callI (pc' := 64) ⟨_, rfl⟩ ml_12_356 (rest := []) rfl (fun ss hs => ⟨_, _, ay_222 ss hs⟩) (Nat.le_of_ble_eq_true rfl) rfl rfl h (fun r4 V4 hg4 hr4 h => ?_)
        refine ax_sti (i := 0) (k := 3) (n := 1) (pc' := 65) (L' := [some (.ref 222), some (ax_i (V 222 74)), some (ax_i (V 222 68)), some (ax_i r4)]) ⟨_, rfl⟩ rfl rfl rfl (Nat.le_of_ble_eq_true rfl) rfl rfl ?_
        refine ax_mv 1 66 [some (.ref 222), some (ax_i (V 222 74)), some (ax_i (V 222 68)), some (ax_i r4)] [.ref 222] rfl ?_
        refine ax_gR (v := .ref 243) (pc' := 69) ⟨_, rfl⟩ fl_12_71 ay_222 rfl rfl ?_
        refine ax_mv 2 71 [some (.ref 222), some (ax_i (V 222 74)), some (ax_i (V 222 68)), some (ax_i r4)] [ax_i (V 222 68), ax_i r4, .ref 243] rfl ?_
        obtain ⟨o3, h⟩ := h
        obtain ⟨V5, eV5⟩ : ∃ W9 : ax_V, W9 = ax_u V4 243 r4 (V 222 68) := ⟨_, rfl⟩
        have h := h V5 eV5
        have hg5 : ax_g V5 := eV5 ▸ ax_u_g hg4 (hg _ _)
        refine ax_ist (n := 701) (pc' := 72) ⟨_, rfl⟩ ay_ok ay_243 (by decide) o3 eV5 rfl ?_
        refine ax_mv 1 73 [some (.ref 222), some (ax_i (V 222 74)), some (ax_i (V 222 68)), some (ax_i r4)] [ax_i 1] rfl ?_
        exact ax_iret ⟨_, rfl⟩ rfl (ax_nbv (by decide)) (by decide) hg5 h
      · have h := h.1 (Classical.not_not.mp hc)
        refine ax_mv 1 35 [some (.ref 222), some (ax_i (V 222 74)), some (ax_i (V 222 68)), none] [ax_i 0] rfl ?_
        exact ax_iret ⟨_, rfl⟩ rfl (ax_nbv (by decide)) (by decide) hg2 h
  · have h := h.2 hc
    refine ax_mv 1 8 [some (.ref 222), none, none, none] [ax_i 0] rfl ?_
    exact ax_iret ⟨_, rfl⟩ rfl (ax_nbv (by decide)) (by decide) hg h
abbrev k_Model_readTransition_38 (d : Nat) (y1 : Option Value) (y2 : Option Value) (x3 : Int) (s0 : Int) (s1 : Int) (V : ax_V) (Φ : Int → ax_V → Prop) (Θ : ax_V → Prop) : Prop := ax_R ay_lay ax_t d m_Model_readTransition 38 [some (.ref 222), y1, y2, some (ax_i x3)] [ax_i s0, ax_i s1, .ref 273] V (ax_Ir Φ) Θ
abbrev k_Model_readTransition_132 (d : Nat) (y1 : Option Value) (y2 : Option Value) (x3 : Int) (s0 : Int) (s1 : Int) (V : ax_V) (Φ : Int → ax_V → Prop) (Θ : ax_V → Prop) : Prop := ax_R ay_lay ax_t d m_Model_readTransition 132 [some (.ref 222), y1, y2, some (ax_i x3)] [ax_i s0, ax_i s1, .ref 274] V (ax_Ir Φ) Θ
set_option maxRecDepth 20000 in
theorem r_Model_readTransition_38 {d : Nat} {V : ax_V} {Φ : Int → ax_V → Prop} {Θ : ax_V → Prop} {y1 : Option Value} {y2 : Option Value} {x3 : Int} {s0 : Int} {s1 : Int} (hg : ax_g V) (hy1 : ax_y y1) (hy2 : ax_y y2) (hx3 : ax_rg x3) (hs0 : ax_rg s0) (hs1 : ax_rg s1) (h : (0 ≤ s1 ∧ s1 < 351) ∧ (s0 = 0 ∨ s0 = 1) ∧ (∀ V1, V1 = ax_u V 273 s1 s0 → ax_rg ((V1 222 68) + 1) ∧ (∀ V2, V2 = ax_u V1 222 68 ((V1 222 68) + 1) → (0 ≤ x3 ∧ x3 < 351) ∧ (∀ V3, V3 = ax_u V2 276 x3 (V2 222 26) → (∀ V4, V4 = ax_u V3 222 71 1 → (∀ V5, V5 = ax_u V4 222 72 0 → ax_I ay_lay d q_Model_readX [.ref 222] V5 (fun r6 V6 => ((r6 = 0 → Φ 0 V6) ∧ (¬ r6 = 0 → (∀ V7, V7 = ax_u V6 222 71 0 → (0 ≤ x3 ∧ x3 < 351) ∧ (∀ V8, V8 = ax_u V7 277 x3 (V7 222 74) → ax_I ay_lay d q_Model_see [.ref 222] V8 (fun r9 V9 => ((r9 = 62 → ax_I ay_lay d q_Model_see [.ref 222] V9 (fun r10 V10 => ((r10 = 62 → k_Model_readTransition_132 d y1 y2 x3 1 x3 V10 Φ Θ) ∧ (¬ r10 = 62 → k_Model_readTransition_132 d y1 y2 x3 0 x3 V10 Φ Θ))) Θ) ∧ (¬ r9 = 62 → ax_I ay_lay d q_Model_see [.ref 222] V9 (fun r11 V11 => ((r11 = 126 → ax_I ay_lay d q_Model_see [.ref 222] V11 (fun r12 V12 => ((r12 = 62 → k_Model_readTransition_132 d y1 y2 x3 1 x3 V12 Φ Θ) ∧ (¬ r12 = 62 → k_Model_readTransition_132 d y1 y2 x3 0 x3 V12 Φ Θ))) Θ) ∧ (¬ r11 = 126 → Φ 0 V11))) Θ))) Θ))))) Θ)))))) : k_Model_readTransition_38 d y1 y2 x3 s0 s1 V Φ Θ := by
  obtain ⟨o1, o2, h⟩ := h
  obtain ⟨V1, eV1⟩ : ∃ W9 : ax_V, W9 = ax_u V 273 s1 s0 := ⟨_, rfl⟩
  have h := h V1 eV1
  have hg1 : ax_g V1 := eV1 ▸ ax_u_g hg hs0
  refine ax_bst (n := 351) (pc' := 39) ⟨_, rfl⟩ ay_ok ay_273 (by decide) o1 o2 eV1 rfl ?_
  refine ax_mv 2 41 [some (.ref 222), y1, y2, some (ax_i x3)] [.ref 222, .ref 222] rfl ?_
  refine ax_gI (kI := 68) (pc' := 44) ⟨_, rfl⟩ fl_12_294 ay_222 rfl rfl rfl ?_
  refine ax_mv 1 45 [some (.ref 222), y1, y2, some (ax_i x3)] [ax_i 1, ax_i (V1 222 68), .ref 222] rfl ?_
  refine ax_add (pc' := 46) ⟨_, rfl⟩ rfl ?_
  obtain ⟨o3, h⟩ := h
  obtain ⟨V2, eV2⟩ : ∃ W9 : ax_V, W9 = ax_u V1 222 68 ((V1 222 68) + 1) := ⟨_, rfl⟩
  have h := h V2 eV2
  have hg2 : ax_g V2 := eV2 ▸ ax_u_g hg1 o3
  refine ax_pI (kI := 68) (pc' := 49) ⟨_, rfl⟩ fl_12_294 ay_ok ay_222 rfl rfl rfl rfl eV2 rfl ?_
  refine ax_mv 1 50 [some (.ref 222), y1, y2, some (ax_i x3)] [.ref 222] rfl ?_
  refine ax_gR (v := .ref 276) (pc' := 53) ⟨_, rfl⟩ fl_12_170 ay_222 rfl rfl ?_
  refine ax_mv 2 55 [some (.ref 222), y1, y2, some (ax_i x3)] [.ref 222, ax_i x3, .ref 276] rfl ?_
  refine ax_gI (kI := 26) (pc' := 58) ⟨_, rfl⟩ fl_12_317 ay_222 rfl rfl rfl ?_
  obtain ⟨o4, h⟩ := h
  obtain ⟨V3, eV3⟩ : ∃ W9 : ax_V, W9 = ax_u V2 276 x3 (V2 222 26) := ⟨_, rfl⟩
  have h := h V3 eV3
  have hg3 : ax_g V3 := eV3 ▸ ax_u_g hg2 (hg2 _ _)
  refine ax_ist (n := 351) (pc' := 59) ⟨_, rfl⟩ ay_ok ay_276 (by decide) o4 eV3 rfl ?_
  refine ax_mv 2 61 [some (.ref 222), y1, y2, some (ax_i x3)] [ax_i 1, .ref 222] rfl ?_
  obtain ⟨V4, eV4⟩ : ∃ W9 : ax_V, W9 = ax_u V3 222 71 1 := ⟨_, rfl⟩
  have h := h V4 eV4
  have hg4 : ax_g V4 := eV4 ▸ ax_u_g hg3 (by decide)
  refine ax_pI (kI := 71) (pc' := 64) ⟨_, rfl⟩ fl_12_345 ay_ok ay_222 rfl rfl (ax_nbv (by decide)) rfl eV4 rfl ?_
  refine ax_mv 2 66 [some (.ref 222), y1, y2, some (ax_i x3)] [ax_i 0, .ref 222] rfl ?_
  obtain ⟨V5, eV5⟩ : ∃ W9 : ax_V, W9 = ax_u V4 222 72 0 := ⟨_, rfl⟩
  have h := h V5 eV5
  have hg5 : ax_g V5 := eV5 ▸ ax_u_g hg4 (by decide)
  refine ax_pI (kI := 72) (pc' := 69) ⟨_, rfl⟩ fl_12_378 ay_ok ay_222 rfl rfl rfl rfl eV5 rfl ?_
  refine ax_mv 1 70 [some (.ref 222), y1, y2, some (ax_i x3)] [.ref 222] rfl ?_
  refine ax_callI (pc' := 73) ⟨_, rfl⟩ ml_12_353 (rest := []) rfl (fun ss hs => ⟨_, _, ay_222 ss hs⟩) (Nat.le_of_ble_eq_true rfl) rfl rfl h (fun r6 V6 hg6 hr6 h => ?_)
  refine ax_if (p1 := 78) (p2 := 76) ⟨_, rfl⟩ (by decide) rfl hr6 (fun hc => ?_) (fun hc => ?_)
  · have h := h.2 hc
    refine ax_mv 2 80 [some (.ref 222), y1, y2, some (ax_i x3)] [ax_i 0, .ref 222] rfl ?_
    obtain ⟨V7, eV7⟩ : ∃ W9 : ax_V, W9 = ax_u V6 222 71 0 := ⟨_, rfl⟩
    have h := h V7 eV7
    have hg7 : ax_g V7 := eV7 ▸ ax_u_g hg6 (by decide)
    refine ax_pI (kI := 71) (pc' := 83) ⟨_, rfl⟩ fl_12_345 ay_ok ay_222 rfl rfl (ax_nbv (by decide)) rfl eV7 rfl ?_
    refine ax_mv 1 84 [some (.ref 222), y1, y2, some (ax_i x3)] [.ref 222] rfl ?_
    refine ax_gR (v := .ref 277) (pc' := 87) ⟨_, rfl⟩ fl_12_173 ay_222 rfl rfl ?_
    refine ax_mv 2 89 [some (.ref 222), y1, y2, some (ax_i x3)] [.ref 222, ax_i x3, .ref 277] rfl ?_
    refine ax_gI (kI := 74) (pc' := 92) ⟨_, rfl⟩ fl_12_323 ay_222 rfl rfl rfl ?_
    obtain ⟨o5, h⟩ := h
    obtain ⟨V8, eV8⟩ : ∃ W9 : ax_V, W9 = ax_u V7 277 x3 (V7 222 74) := ⟨_, rfl⟩
    have h := h V8 eV8
    have hg8 : ax_g V8 := eV8 ▸ ax_u_g hg7 (hg7 _ _)
    refine ax_ist (n := 351) (pc' := 93) ⟨_, rfl⟩ ay_ok ay_277 (by decide) o5 eV8 rfl ?_
    refine ax_mv 1 94 [some (.ref 222), y1, y2, some (ax_i x3)] [.ref 222] rfl ?_
    refine ax_callI (pc' := 97) ⟨_, rfl⟩ ml_12_300 (rest := []) rfl (fun ss hs => ⟨_, _, ay_222 ss hs⟩) (Nat.le_of_ble_eq_true rfl) rfl rfl h (fun r9 V9 hg9 hr9 h => ?_)
    refine ax_bip (pc' := 99) ⟨_, rfl⟩ (by decide) rfl ?_
    refine ax_if2 (p1 := 113) (p2 := 102) ⟨_, rfl⟩ (by decide) rfl hr9 (by decide) (fun hc => ?_) (fun hc => ?_)
    · have h := h.1 hc
      refine ax_mv 1 114 [some (.ref 222), y1, y2, some (ax_i x3)] [.ref 222] rfl ?_
      refine ax_gR (v := .ref 274) (pc' := 117) ⟨_, rfl⟩ fl_12_164 ay_222 rfl rfl ?_
      refine ax_mv 2 119 [some (.ref 222), y1, y2, some (ax_i x3)] [.ref 222, ax_i x3, .ref 274] rfl ?_
      refine ax_callI (pc' := 122) ⟨_, rfl⟩ ml_12_300 (rest := [ax_i x3, .ref 274]) rfl (fun ss hs => ⟨_, _, ay_222 ss hs⟩) (Nat.le_of_ble_eq_true rfl) rfl rfl h (fun r10 V10 hg10 hr10 h => ?_)
      refine ax_bip (pc' := 124) ⟨_, rfl⟩ (by decide) rfl ?_
      refine ax_if2 (p1 := 131) (p2 := 127) ⟨_, rfl⟩ (by decide) rfl hr10 (by decide) (fun hc => ?_) (fun hc => ?_)
      · have h := h.2 hc
        refine ax_mv 1 132 [some (.ref 222), y1, y2, some (ax_i x3)] [ax_i 0, ax_i x3, .ref 274] rfl ?_
        exact h
      · have h := h.1 (Classical.not_not.mp hc)
        refine ax_mv 2 132 [some (.ref 222), y1, y2, some (ax_i x3)] [ax_i 1, ax_i x3, .ref 274] rfl ?_
        exact h
    · have h := h.2 hc
      refine ax_mv 1 103 [some (.ref 222), y1, y2, some (ax_i x3)] [.ref 222] rfl ?_
      refine ax_callI (pc' := 106) ⟨_, rfl⟩ ml_12_300 (rest := []) rfl (fun ss hs => ⟨_, _, ay_222 ss hs⟩) (Nat.le_of_ble_eq_true rfl) rfl rfl h (fun r11 V11 hg11 hr11 h => ?_)
      refine ax_bip (pc' := 108) ⟨_, rfl⟩ (by decide) rfl ?_
      refine ax_if2 (p1 := 113) (p2 := 111) ⟨_, rfl⟩ (by decide) rfl hr11 (by decide) (fun hc => ?_) (fun hc => ?_)
      · have h := h.1 hc
        refine ax_mv 1 114 [some (.ref 222), y1, y2, some (ax_i x3)] [.ref 222] rfl ?_
        refine ax_gR (v := .ref 274) (pc' := 117) ⟨_, rfl⟩ fl_12_164 ay_222 rfl rfl ?_
        refine ax_mv 2 119 [some (.ref 222), y1, y2, some (ax_i x3)] [.ref 222, ax_i x3, .ref 274] rfl ?_
        refine ax_callI (pc' := 122) ⟨_, rfl⟩ ml_12_300 (rest := [ax_i x3, .ref 274]) rfl (fun ss hs => ⟨_, _, ay_222 ss hs⟩) (Nat.le_of_ble_eq_true rfl) rfl rfl h (fun r12 V12 hg12 hr12 h => ?_)
        refine ax_bip (pc' := 124) ⟨_, rfl⟩ (by decide) rfl ?_
        refine ax_if2 (p1 := 131) (p2 := 127) ⟨_, rfl⟩ (by decide) rfl hr12 (by decide) (fun hc => ?_) (fun hc => ?_)
        · have h := h.2 hc
          refine ax_mv 1 132 [some (.ref 222), y1, y2, some (ax_i x3)] [ax_i 0, ax_i x3, .ref 274] rfl ?_
          exact h
        · have h := h.1 (Classical.not_not.mp hc)
          refine ax_mv 2 132 [some (.ref 222), y1, y2, some (ax_i x3)] [ax_i 1, ax_i x3, .ref 274] rfl ?_
          exact h
      · have h := h.2 hc
        refine ax_mv 1 112 [some (.ref 222), y1, y2, some (ax_i x3)] [ax_i 0] rfl ?_
        exact ax_iret ⟨_, rfl⟩ rfl (ax_nbv (by decide)) (by decide) hg11 h
  · have h := h.1 (Classical.not_not.mp hc)
    refine ax_mv 1 77 [some (.ref 222), y1, y2, some (ax_i x3)] [ax_i 0] rfl ?_
    exact ax_iret ⟨_, rfl⟩ rfl (ax_nbv (by decide)) (by decide) hg6 h
set_option maxRecDepth 20000 in
theorem r_Model_readTransition_132 {d : Nat} {V : ax_V} {Φ : Int → ax_V → Prop} {Θ : ax_V → Prop} {y1 : Option Value} {y2 : Option Value} {x3 : Int} {s0 : Int} {s1 : Int} (hg : ax_g V) (hy1 : ax_y y1) (hy2 : ax_y y2) (hx3 : ax_rg x3) (hs0 : ax_rg s0) (hs1 : ax_rg s1) (h : (0 ≤ s1 ∧ s1 < 351) ∧ (s0 = 0 ∨ s0 = 1) ∧ (∀ V1, V1 = ax_u V 274 s1 s0 → ax_rg ((V1 222 68) + 1) ∧ (∀ V2, V2 = ax_u V1 222 68 ((V1 222 68) + 1) → ax_I ay_lay d q_Model_isDigit [.ref 222] V2 (fun r3 V3 => ((r3 = 0 → Φ 0 V3) ∧ (¬ r3 = 0 → (0 ≤ x3 ∧ x3 < 351) ∧ (∀ V4, V4 = ax_u V3 278 x3 (V3 222 68) → ax_I ay_lay d q_Model_see [.ref 222] V4 (fun r5 V5 => (0 ≤ x3 ∧ x3 < 351) ∧ ax_rg (r5 - 48) ∧ (∀ V6, V6 = ax_u V5 275 x3 (r5 - 48) → ax_rg ((V6 222 68) + 1) ∧ (∀ V7, V7 = ax_u V6 222 68 ((V6 222 68) + 1) → ax_rg ((V7 222 60) + 1) ∧ (∀ V8, V8 = ax_u V7 222 60 ((V7 222 60) + 1) → ax_I ay_lay d q_Model_want [.ref 222, ax_i 59] V8 (fun r9 V9 => (r9 = 0 ∨ r9 = 1) ∧ Φ r9 V9) Θ)))) Θ)))) Θ))) : k_Model_readTransition_132 d y1 y2 x3 s0 s1 V Φ Θ := by
  obtain ⟨o6, o7, h⟩ := h
  obtain ⟨V1, eV1⟩ : ∃ W9 : ax_V, W9 = ax_u V 274 s1 s0 := ⟨_, rfl⟩
  have h := h V1 eV1
  have hg1 : ax_g V1 := eV1 ▸ ax_u_g hg hs0
  refine ax_bst (n := 351) (pc' := 133) ⟨_, rfl⟩ ay_ok ay_274 (by decide) o6 o7 eV1 rfl ?_
  refine ax_mv 2 135 [some (.ref 222), y1, y2, some (ax_i x3)] [.ref 222, .ref 222] rfl ?_
  refine ax_gI (kI := 68) (pc' := 138) ⟨_, rfl⟩ fl_12_294 ay_222 rfl rfl rfl ?_
  refine ax_mv 1 139 [some (.ref 222), y1, y2, some (ax_i x3)] [ax_i 1, ax_i (V1 222 68), .ref 222] rfl ?_
  refine ax_add (pc' := 140) ⟨_, rfl⟩ rfl ?_
  obtain ⟨o8, h⟩ := h
  obtain ⟨V2, eV2⟩ : ∃ W9 : ax_V, W9 = ax_u V1 222 68 ((V1 222 68) + 1) := ⟨_, rfl⟩
  have h := h V2 eV2
  have hg2 : ax_g V2 := eV2 ▸ ax_u_g hg1 o8
  refine ax_pI (kI := 68) (pc' := 143) ⟨_, rfl⟩ fl_12_294 ay_ok ay_222 rfl rfl rfl rfl eV2 rfl ?_
  refine ax_mv 1 144 [some (.ref 222), y1, y2, some (ax_i x3)] [.ref 222] rfl ?_
  refine ax_callI (pc' := 147) ⟨_, rfl⟩ ml_12_330 (rest := []) rfl (fun ss hs => ⟨_, _, ay_222 ss hs⟩) (Nat.le_of_ble_eq_true rfl) rfl rfl h (fun r3 V3 hg3 hr3 h => ?_)
  refine ax_if (p1 := 152) (p2 := 150) ⟨_, rfl⟩ (by decide) rfl hr3 (fun hc => ?_) (fun hc => ?_)
  · have h := h.2 hc
    refine ax_mv 1 153 [some (.ref 222), y1, y2, some (ax_i x3)] [.ref 222] rfl ?_
    refine ax_gR (v := .ref 278) (pc' := 156) ⟨_, rfl⟩ fl_12_176 ay_222 rfl rfl ?_
    refine ax_mv 2 158 [some (.ref 222), y1, y2, some (ax_i x3)] [.ref 222, ax_i x3, .ref 278] rfl ?_
    refine ax_gI (kI := 68) (pc' := 161) ⟨_, rfl⟩ fl_12_294 ay_222 rfl rfl rfl ?_
    obtain ⟨o9, h⟩ := h
    obtain ⟨V4, eV4⟩ : ∃ W9 : ax_V, W9 = ax_u V3 278 x3 (V3 222 68) := ⟨_, rfl⟩
    have h := h V4 eV4
    have hg4 : ax_g V4 := eV4 ▸ ax_u_g hg3 (hg3 _ _)
    refine ax_ist (n := 351) (pc' := 162) ⟨_, rfl⟩ ay_ok ay_278 (by decide) o9 eV4 rfl ?_
    refine ax_mv 1 163 [some (.ref 222), y1, y2, some (ax_i x3)] [.ref 222] rfl ?_
    refine ax_gR (v := .ref 275) (pc' := 166) ⟨_, rfl⟩ fl_12_167 ay_222 rfl rfl ?_
    refine ax_mv 2 168 [some (.ref 222), y1, y2, some (ax_i x3)] [.ref 222, ax_i x3, .ref 275] rfl ?_
    refine ax_callI (pc' := 171) ⟨_, rfl⟩ ml_12_300 (rest := [ax_i x3, .ref 275]) rfl (fun ss hs => ⟨_, _, ay_222 ss hs⟩) (Nat.le_of_ble_eq_true rfl) rfl rfl h (fun r5 V5 hg5 hr5 h => ?_)
    refine ax_bip (pc' := 173) ⟨_, rfl⟩ (by decide) rfl ?_
    refine ax_sub (pc' := 174) ⟨_, rfl⟩ rfl ?_
    obtain ⟨o10, o11, h⟩ := h
    obtain ⟨V6, eV6⟩ : ∃ W9 : ax_V, W9 = ax_u V5 275 x3 (r5 - 48) := ⟨_, rfl⟩
    have h := h V6 eV6
    have hg6 : ax_g V6 := eV6 ▸ ax_u_g hg5 o11
    refine ax_ist (n := 351) (pc' := 175) ⟨_, rfl⟩ ay_ok ay_275 (by decide) o10 eV6 rfl ?_
    refine ax_mv 2 177 [some (.ref 222), y1, y2, some (ax_i x3)] [.ref 222, .ref 222] rfl ?_
    refine ax_gI (kI := 68) (pc' := 180) ⟨_, rfl⟩ fl_12_294 ay_222 rfl rfl rfl ?_
    refine ax_mv 1 181 [some (.ref 222), y1, y2, some (ax_i x3)] [ax_i 1, ax_i (V6 222 68), .ref 222] rfl ?_
    refine ax_add (pc' := 182) ⟨_, rfl⟩ rfl ?_
    obtain ⟨o12, h⟩ := h
    obtain ⟨V7, eV7⟩ : ∃ W9 : ax_V, W9 = ax_u V6 222 68 ((V6 222 68) + 1) := ⟨_, rfl⟩
    have h := h V7 eV7
    have hg7 : ax_g V7 := eV7 ▸ ax_u_g hg6 o12
    refine ax_pI (kI := 68) (pc' := 185) ⟨_, rfl⟩ fl_12_294 ay_ok ay_222 rfl rfl rfl rfl eV7 rfl ?_
    refine ax_mv 2 187 [some (.ref 222), y1, y2, some (ax_i x3)] [.ref 222, .ref 222] rfl ?_
    refine ax_gI (kI := 60) (pc' := 190) ⟨_, rfl⟩ fl_12_420 ay_222 rfl rfl rfl ?_
    refine ax_mv 1 191 [some (.ref 222), y1, y2, some (ax_i x3)] [ax_i 1, ax_i (V7 222 60), .ref 222] rfl ?_
    refine ax_add (pc' := 192) ⟨_, rfl⟩ rfl ?_
    obtain ⟨o13, h⟩ := h
    obtain ⟨V8, eV8⟩ : ∃ W9 : ax_V, W9 = ax_u V7 222 60 ((V7 222 60) + 1) := ⟨_, rfl⟩
    have h := h V8 eV8
    have hg8 : ax_g V8 := eV8 ▸ ax_u_g hg7 o13
    refine ax_pI (kI := 60) (pc' := 195) ⟨_, rfl⟩ fl_12_420 ay_ok ay_222 rfl rfl rfl rfl eV8 rfl ?_
    refine ax_mv 1 196 [some (.ref 222), y1, y2, some (ax_i x3)] [.ref 222] rfl ?_
    refine ax_bip (pc' := 198) ⟨_, rfl⟩ (by decide) rfl ?_
    refine ax_callI (pc' := 201) ⟨_, rfl⟩ ml_12_366 (rest := []) rfl (fun ss hs => ⟨_, _, ay_222 ss hs⟩) (Nat.le_of_ble_eq_true rfl) rfl rfl h (fun r9 V9 hg9 hr9 h => ?_)
    obtain ⟨o14, h⟩ := h
    exact ax_iret ⟨_, rfl⟩ rfl (ax_nbv o14) hr9 hg9 h
  · have h := h.1 (Classical.not_not.mp hc)
    refine ax_mv 1 151 [some (.ref 222), y1, y2, some (ax_i x3)] [ax_i 0] rfl ?_
    exact ax_iret ⟨_, rfl⟩ rfl (ax_nbv (by decide)) (by decide) hg3 h
set_option maxRecDepth 20000 in
theorem r_Model_readTransition {d : Nat} {V : ax_V} {Φ : Int → ax_V → Prop} {Θ : ax_V → Prop} {x1 : Int} {x2 : Int} (hg : ax_g V) (hx1 : ax_rg x1) (hx2 : ax_rg x2) (h : (0 ≤ V 222 60 ∧ V 222 60 < 351) ∧ (∀ V1, V1 = ax_u V 271 (V 222 60) x1 → (0 ≤ V 222 60 ∧ V 222 60 < 351) ∧ (∀ V2, V2 = ax_u V1 272 (V 222 60) x2 → ax_I ay_lay d q_Model_see [.ref 222] V2 (fun r3 V3 => ((r3 = 33 → k_Model_readTransition_38 d (some (ax_i x1)) (some (ax_i x2)) (V 222 60) 1 (V 222 60) V3 Φ Θ) ∧ (¬ r3 = 33 → k_Model_readTransition_38 d (some (ax_i x1)) (some (ax_i x2)) (V 222 60) 0 (V 222 60) V3 Φ Θ))) Θ))) : ax_I ay_lay (d + 1) q_Model_readTransition [.ref 222, ax_i x1, ax_i x2] V Φ Θ := by
  refine ax_T.of (M := m_Model_readTransition) rfl (Nat.le_of_ble_eq_true rfl) ?_
  refine ax_mv 0 0 [some (.ref 222), some (ax_i x1), some (ax_i x2), none] [] rfl ?_
  refine ax_mv 1 1 [some (.ref 222), some (ax_i x1), some (ax_i x2), none] [.ref 222] rfl ?_
  refine ax_gI (kI := 60) (pc' := 4) ⟨_, rfl⟩ fl_12_420 ay_222 rfl rfl rfl ?_
  refine ax_sti (i := 0) (k := 3) (n := 1) (pc' := 5) (L' := [some (.ref 222), some (ax_i x1), some (ax_i x2), some (ax_i (V 222 60))]) ⟨_, rfl⟩ rfl rfl rfl (Nat.le_of_ble_eq_true rfl) rfl rfl ?_
  refine ax_mv 1 6 [some (.ref 222), some (ax_i x1), some (ax_i x2), some (ax_i (V 222 60))] [.ref 222] rfl ?_
  refine ax_gR (v := .ref 271) (pc' := 9) ⟨_, rfl⟩ fl_12_155 ay_222 rfl rfl ?_
  refine ax_mv 2 11 [some (.ref 222), some (ax_i x1), some (ax_i x2), some (ax_i (V 222 60))] [ax_i x1, ax_i (V 222 60), .ref 271] rfl ?_
  obtain ⟨o15, h⟩ := h
  obtain ⟨V1, eV1⟩ : ∃ W9 : ax_V, W9 = ax_u V 271 (V 222 60) x1 := ⟨_, rfl⟩
  have h := h V1 eV1
  have hg1 : ax_g V1 := eV1 ▸ ax_u_g hg hx1
  refine ax_ist (n := 351) (pc' := 12) ⟨_, rfl⟩ ay_ok ay_271 (by decide) o15 eV1 rfl ?_
  refine ax_mv 1 13 [some (.ref 222), some (ax_i x1), some (ax_i x2), some (ax_i (V 222 60))] [.ref 222] rfl ?_
  refine ax_gR (v := .ref 272) (pc' := 16) ⟨_, rfl⟩ fl_12_158 ay_222 rfl rfl ?_
  refine ax_mv 2 18 [some (.ref 222), some (ax_i x1), some (ax_i x2), some (ax_i (V 222 60))] [ax_i x2, ax_i (V 222 60), .ref 272] rfl ?_
  obtain ⟨o16, h⟩ := h
  obtain ⟨V2, eV2⟩ : ∃ W9 : ax_V, W9 = ax_u V1 272 (V 222 60) x2 := ⟨_, rfl⟩
  have h := h V2 eV2
  have hg2 : ax_g V2 := eV2 ▸ ax_u_g hg1 hx2
  refine ax_ist (n := 351) (pc' := 19) ⟨_, rfl⟩ ay_ok ay_272 (by decide) o16 eV2 rfl ?_
  refine ax_mv 1 20 [some (.ref 222), some (ax_i x1), some (ax_i x2), some (ax_i (V 222 60))] [.ref 222] rfl ?_
  refine ax_gR (v := .ref 273) (pc' := 23) ⟨_, rfl⟩ fl_12_161 ay_222 rfl rfl ?_
  refine ax_mv 2 25 [some (.ref 222), some (ax_i x1), some (ax_i x2), some (ax_i (V 222 60))] [.ref 222, ax_i (V 222 60), .ref 273] rfl ?_
  refine ax_callI (pc' := 28) ⟨_, rfl⟩ ml_12_300 (rest := [ax_i (V 222 60), .ref 273]) rfl (fun ss hs => ⟨_, _, ay_222 ss hs⟩) (Nat.le_of_ble_eq_true rfl) rfl rfl h (fun r3 V3 hg3 hr3 h => ?_)
  refine ax_bip (pc' := 30) ⟨_, rfl⟩ (by decide) rfl ?_
  refine ax_if2 (p1 := 37) (p2 := 33) ⟨_, rfl⟩ (by decide) rfl hr3 (by decide) (fun hc => ?_) (fun hc => ?_)
  · have h := h.2 hc
    refine ax_mv 1 38 [some (.ref 222), some (ax_i x1), some (ax_i x2), some (ax_i (V 222 60))] [ax_i 0, ax_i (V 222 60), .ref 273] rfl ?_
    exact h
  · have h := h.1 (Classical.not_not.mp hc)
    refine ax_mv 2 38 [some (.ref 222), some (ax_i x1), some (ax_i x2), some (ax_i (V 222 60))] [ax_i 1, ax_i (V 222 60), .ref 273] rfl ?_
    exact h
