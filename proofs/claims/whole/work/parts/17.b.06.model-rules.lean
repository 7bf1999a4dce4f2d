/-! RULES of the model's methods: a method each, and each loop of it. PRINTED by wip/gen/rules.py -/
abbrev k_Model_findClock_206 (d : Nat) (x1 : Int) (x2 : Int) (x3 : Int) (x4 : Int) (V : ax_V) (Φ : ax_V → Prop) (Θ : ax_V → Prop) : Prop := ax_R ay_lay ax_t d m_Model_findClock 206 [some (.ref 222), some (ax_i x1), some (ax_i x2), some (ax_i x3), some (ax_i x4)] [] V (ax_Nr Φ) Θ
abbrev k_Model_findClock_325 (d : Nat) (x1 : Int) (y2 : Option Value) (y3 : Option Value) (x4 : Int) (V : ax_V) (Φ : ax_V → Prop) (Θ : ax_V → Prop) : Prop := ax_R ay_lay ax_t d m_Model_findClock 325 [some (.ref 222), some (ax_i x1), y2, y3, some (ax_i x4)] [] V (ax_Nr Φ) Θ
set_option maxRecDepth 20000 in
theorem r_Model_findClock_206 {d : Nat} {V : ax_V} {Φ : ax_V → Prop} {Θ : ax_V → Prop} {x1 : Int} {x2 : Int} {x3 : Int} {x4 : Int} (hg : ax_g V) (hx1 : ax_rg x1) (hx2 : ax_rg x2) (hx3 : ax_rg x3) (hx4 : ax_rg x4) (h : ((x4 = -1 → (0 ≤ x1 ∧ x1 < 701) ∧ ((V 248 x1 = -1 → ((x3 = -1 → (0 ≤ x1 ∧ x1 < 701) ∧ (∀ V2, V2 = ax_u V 254 x1 0 → Φ V2)) ∧ (¬ x3 = -1 → (0 ≤ x1 ∧ x1 < 701) ∧ (∀ V1, V1 = ax_u V 254 x1 x3 → Φ V1)))) ∧ (¬ V 248 x1 = -1 → (0 ≤ x1 ∧ x1 < 701) ∧ ax_I ay_lay d q_Model_clockOf [.ref 222, ax_i x2, ax_i (V 248 x1)] V (fun r3 V3 => ax_I ay_lay d q_Model_join [.ref 222, ax_i x3, ax_i r3] V3 (fun r4 V4 => ((r4 = -1 → (0 ≤ x1 ∧ x1 < 701) ∧ (∀ V6, V6 = ax_u V4 254 x1 0 → Φ V6)) ∧ (¬ r4 = -1 → (0 ≤ x1 ∧ x1 < 701) ∧ (∀ V5, V5 = ax_u V4 254 x1 r4 → Φ V5)))) Θ) Θ))) ∧ (¬ x4 = -1 → (0 ≤ x4 ∧ x4 < 701) ∧ ax_I ay_lay d q_Model_join [.ref 222, ax_i x3, ax_i (V 254 x4)] V (fun r7 V7 => (0 ≤ x4 ∧ x4 < 701) ∧ k_Model_findClock_206 d x1 x2 r7 (V7 252 x4) V7 Φ Θ) Θ))) : k_Model_findClock_206 d x1 x2 x3 x4 V Φ Θ := by
  refine ax_mv 2 209 [some (.ref 222), some (ax_i x1), some (ax_i x2), some (ax_i x3), some (ax_i x4)] [ax_i (-1), ax_i x4] rfl ?_
  refine ax_if2 (p1 := 237) (p2 := 212) ⟨_, rfl⟩ (by decide) rfl hx4 (by decide) (fun hc => ?_) (fun hc => ?_)
  · have h := h.1 hc
    refine ax_mv 1 238 [some (.ref 222), some (ax_i x1), some (ax_i x2), some (ax_i x3), some (ax_i x4)] [.ref 222] rfl ?_
    refine ax_gR (v := .ref 248) (pc' := 241) ⟨_, rfl⟩ fl_12_86 ay_222 rfl rfl ?_
    refine ax_mv 1 242 [some (.ref 222), some (ax_i x1), some (ax_i x2), some (ax_i x3), some (ax_i x4)] [ax_i x1, .ref 248] rfl ?_
    obtain ⟨o1, h⟩ := h
    refine ax_ild (n := 701) (pc' := 243) ⟨_, rfl⟩ ay_248 (by decide) o1 rfl ?_
    refine ax_mv 1 244 [some (.ref 222), some (ax_i x1), some (ax_i x2), some (ax_i x3), some (ax_i x4)] [ax_i (-1), ax_i (V 248 x1)] rfl ?_
    refine ax_if2 (p1 := 264) (p2 := 247) ⟨_, rfl⟩ (by decide) rfl (hg _ _) (by decide) (fun hc => ?_) (fun hc => ?_)
    · have h := h.1 hc
      refine ax_mv 1 265 [some (.ref 222), some (ax_i x1), some (ax_i x2), some (ax_i x3), some (ax_i x4)] [.ref 222] rfl ?_
      refine ax_gR (v := .ref 254) (pc' := 268) ⟨_, rfl⟩ fl_12_104 ay_222 rfl rfl ?_
      refine ax_mv 3 271 [some (.ref 222), some (ax_i x1), some (ax_i x2), some (ax_i x3), some (ax_i x4)] [ax_i (-1), ax_i x3, ax_i x1, .ref 254] rfl ?_
      refine ax_if2 (p1 := 278) (p2 := 274) ⟨_, rfl⟩ (by decide) rfl hx3 (by decide) (fun hc => ?_) (fun hc => ?_)
      · have h := h.2 hc
        refine ax_mv 1 279 [some (.ref 222), some (ax_i x1), some (ax_i x2), some (ax_i x3), some (ax_i x4)] [ax_i x3, ax_i x1, .ref 254] rfl ?_
        obtain ⟨o2, h⟩ := h
        obtain ⟨V1, eV1⟩ : ∃ W9 : ax_V, W9 = ax_u V 254 x1 x3 := ⟨_, rfl⟩
        have h := h V1 eV1
        have hg1 : ax_g V1 := eV1 ▸ ax_u_g hg hx3
        refine ax_ist (n := 701) (pc' := 280) ⟨_, rfl⟩ ay_ok ay_254 (by decide) o2 eV1 rfl ?_
        refine ax_mv 1 362 [some (.ref 222), some (ax_i x1), some (ax_i x2), some (ax_i x3), some (ax_i x4)] [] rfl ?_
        exact ax_nret ⟨_, rfl⟩ rfl hg1 h
      · have h := h.1 (Classical.not_not.mp hc)
        refine ax_mv 2 279 [some (.ref 222), some (ax_i x1), some (ax_i x2), some (ax_i x3), some (ax_i x4)] [ax_i 0, ax_i x1, .ref 254] rfl ?_
        obtain ⟨o3, h⟩ := h
        obtain ⟨V2, eV2⟩ : ∃ W9 : ax_V, W9 = ax_u V 254 x1 0 := ⟨_, rfl⟩
        have h := h V2 eV2
        have hg2 : ax_g V2 := eV2 ▸ ax_u_g hg (by decide)
        refine ax_ist (n := 701) (pc' := 280) ⟨_, rfl⟩ ay_ok ay_254 (by decide) o3 eV2 rfl ?_
        refine ax_mv 1 362 [some (.ref 222), some (ax_i x1), some (ax_i x2), some (ax_i x3), some (ax_i x4)] [] rfl ?_
        exact ax_nret ⟨_, rfl⟩ rfl hg2 h
    · have h := h.2 hc
      refine ax_mv 5 252 [some (.ref 222), some (ax_i x1), some (ax_i x2), some (ax_i x3), some (ax_i x4)] [.ref 222, ax_i x2, .ref 222, ax_i x3, .ref 222] rfl ?_
      refine ax_gR (v := .ref 248) (pc' := 255) ⟨_, rfl⟩ fl_12_86 ay_222 rfl rfl ?_
      refine ax_mv 1 256 [some (.ref 222), some (ax_i x1), some (ax_i x2), some (ax_i x3), some (ax_i x4)] [ax_i x1, .ref 248, ax_i x2, .ref 222, ax_i x3, .ref 222] rfl ?_
      obtain ⟨o4, h⟩ := h
      refine ax_ild (n := 701) (pc' := 257) ⟨_, rfl⟩ ay_248 (by decide) o4 rfl ?_
      refine ax_callI (pc' := 260) ⟨_, rfl⟩ ml_12_490 (rest := [ax_i x3, .ref 222]) rfl (fun ss hs => ⟨_, _, ay_222 ss hs⟩) (Nat.le_of_ble_eq_true rfl) rfl rfl h (fun r3 V3 hg3 hr3 h => ?_)
      refine ax_callI (pc' := 263) ⟨_, rfl⟩ ml_12_494 (rest := []) rfl (fun ss hs => ⟨_, _, ay_222 ss hs⟩) (Nat.le_of_ble_eq_true rfl) rfl rfl h (fun r4 V4 hg4 hr4 h => ?_)
      refine ax_sti (i := 0) (k := 3) (n := 1) (pc' := 264) (L' := [some (.ref 222), some (ax_i x1), some (ax_i x2), some (ax_i r4), some (ax_i x4)]) ⟨_, rfl⟩ rfl rfl rfl (Nat.le_of_ble_eq_true rfl) rfl rfl ?_
      refine ax_mv 1 265 [some (.ref 222), some (ax_i x1), some (ax_i x2), some (ax_i r4), some (ax_i x4)] [.ref 222] rfl ?_
      refine ax_gR (v := .ref 254) (pc' := 268) ⟨_, rfl⟩ fl_12_104 ay_222 rfl rfl ?_
      refine ax_mv 3 271 [some (.ref 222), some (ax_i x1), some (ax_i x2), some (ax_i r4), some (ax_i x4)] [ax_i (-1), ax_i r4, ax_i x1, .ref 254] rfl ?_
      refine ax_if2 (p1 := 278) (p2 := 274) ⟨_, rfl⟩ (by decide) rfl hr4 (by decide) (fun hc => ?_) (fun hc => ?_)
      · have h := h.2 hc
        refine ax_mv 1 279 [some (.ref 222), some (ax_i x1), some (ax_i x2), some (ax_i r4), some (ax_i x4)] [ax_i r4, ax_i x1, .ref 254] rfl ?_
        obtain ⟨o5, h⟩ := h
        obtain ⟨V5, eV5⟩ : ∃ W9 : ax_V, W9 = ax_u V4 254 x1 r4 := ⟨_, rfl⟩
        have h := h V5 eV5
        have hg5 : ax_g V5 := eV5 ▸ ax_u_g hg4 hr4
        refine ax_ist (n := 701) (pc' := 280) ⟨_, rfl⟩ ay_ok ay_254 (by decide) o5 eV5 rfl ?_
        refine ax_mv 1 362 [some (.ref 222), some (ax_i x1), some (ax_i x2), some (ax_i r4), some (ax_i x4)] [] rfl ?_
        exact ax_nret ⟨_, rfl⟩ rfl hg5 h
      · have h := h.1 (Classical.not_not.mp hc)
        refine ax_mv 2 279 [some (.ref 222), some (ax_i x1), some (ax_i x2), some (ax_i r4), some (ax_i x4)] [ax_i 0, ax_i x1, .ref 254] rfl ?_
        obtain ⟨o6, h⟩ := h
        obtain ⟨V6, eV6⟩ : ∃ W9 : ax_V, W9 = ax_u V4 254 x1 0 := ⟨_, rfl⟩
        have h := h V6 eV6
        have hg6 : ax_g V6 := eV6 ▸ ax_u_g hg4 (by decide)
        refine ax_ist (n := 701) (pc' := 280) ⟨_, rfl⟩ ay_ok ay_254 (by decide) o6 eV6 rfl ?_
        refine ax_mv 1 362 [some (.ref 222), some (ax_i x1), some (ax_i x2), some (ax_i r4), some (ax_i x4)] [] rfl ?_
        exact ax_nret ⟨_, rfl⟩ rfl hg6 h
  · have h := h.2 hc
    refine ax_mv 3 215 [some (.ref 222), some (ax_i x1), some (ax_i x2), some (ax_i x3), some (ax_i x4)] [.ref 222, ax_i x3, .ref 222] rfl ?_
    refine ax_gR (v := .ref 254) (pc' := 218) ⟨_, rfl⟩ fl_12_104 ay_222 rfl rfl ?_
    refine ax_mv 1 220 [some (.ref 222), some (ax_i x1), some (ax_i x2), some (ax_i x3), some (ax_i x4)] [ax_i x4, .ref 254, ax_i x3, .ref 222] rfl ?_
    obtain ⟨o7, h⟩ := h
    refine ax_ild (n := 701) (pc' := 221) ⟨_, rfl⟩ ay_254 (by decide) o7 rfl ?_
    refine ax_callI (pc' := 224) ⟨_, rfl⟩ ml_12_494 (rest := []) rfl (fun ss hs => ⟨_, _, ay_222 ss hs⟩) (Nat.le_of_ble_eq_true rfl) rfl rfl h (fun r7 V7 hg7 hr7 h => ?_)
    refine ax_sti (i := 0) (k := 3) (n := 1) (pc' := 225) (L' := [some (.ref 222), some (ax_i x1), some (ax_i x2), some (ax_i r7), some (ax_i x4)]) ⟨_, rfl⟩ rfl rfl rfl (Nat.le_of_ble_eq_true rfl) rfl rfl ?_
    refine ax_mv 1 226 [some (.ref 222), some (ax_i x1), some (ax_i x2), some (ax_i r7), some (ax_i x4)] [.ref 222] rfl ?_
    refine ax_gR (v := .ref 252) (pc' := 229) ⟨_, rfl⟩ fl_12_98 ay_222 rfl rfl ?_
    refine ax_mv 1 231 [some (.ref 222), some (ax_i x1), some (ax_i x2), some (ax_i r7), some (ax_i x4)] [ax_i x4, .ref 252] rfl ?_
    obtain ⟨o8, h⟩ := h
    refine ax_ild (n := 701) (pc' := 232) ⟨_, rfl⟩ ay_252 (by decide) o8 rfl ?_
    refine ax_sti (i := 0) (k := 4) (n := 2) (pc' := 234) (L' := [some (.ref 222), some (ax_i x1), some (ax_i x2), some (ax_i r7), some (ax_i (V7 252 x4))]) ⟨_, rfl⟩ rfl rfl rfl (Nat.le_of_ble_eq_true rfl) rfl rfl ?_
    refine ax_mv 1 206 [some (.ref 222), some (ax_i x1), some (ax_i x2), some (ax_i r7), some (ax_i (V7 252 x4))] [] rfl ?_
    exact h
set_option maxRecDepth 20000 in
theorem r_Model_findClock_325 {d : Nat} {V : ax_V} {Φ : ax_V → Prop} {Θ : ax_V → Prop} {x1 : Int} {y2 : Option Value} {y3 : Option Value} {x4 : Int} (hg : ax_g V) (hx1 : ax_rg x1) (hy2 : ax_y y2) (hy3 : ax_y y3) (hx4 : ax_rg x4) (h : (0 ≤ x1 ∧ x1 < 701) ∧ ((V 247 x1 = -1 → (0 ≤ x1 ∧ x1 < 701) ∧ (∀ V1, V1 = ax_u V 254 x1 x4 → Φ V1)) ∧ (¬ V 247 x1 = -1 → (0 ≤ x1 ∧ x1 < 701) ∧ (0 ≤ V 247 x1 ∧ V 247 x1 < 701) ∧ ax_I ay_lay d q_Model_join [.ref 222, ax_i x4, ax_i (V 254 (V 247 x1))] V (fun r2 V2 => (0 ≤ x1 ∧ x1 < 701) ∧ (∀ V3, V3 = ax_u V2 254 x1 r2 → Φ V3)) Θ))) : k_Model_findClock_325 d x1 y2 y3 x4 V Φ Θ := by
  refine ax_mv 1 326 [some (.ref 222), some (ax_i x1), y2, y3, some (ax_i x4)] [.ref 222] rfl ?_
  refine ax_gR (v := .ref 247) (pc' := 329) ⟨_, rfl⟩ fl_12_83 ay_222 rfl rfl ?_
  refine ax_mv 1 330 [some (.ref 222), some (ax_i x1), y2, y3, some (ax_i x4)] [ax_i x1, .ref 247] rfl ?_
  obtain ⟨o9, h⟩ := h
  refine ax_ild (n := 701) (pc' := 331) ⟨_, rfl⟩ ay_247 (by decide) o9 rfl ?_
  refine ax_mv 1 332 [some (.ref 222), some (ax_i x1), y2, y3, some (ax_i x4)] [ax_i (-1), ax_i (V 247 x1)] rfl ?_
  refine ax_if2 (p1 := 354) (p2 := 335) ⟨_, rfl⟩ (by decide) rfl (hg _ _) (by decide) (fun hc => ?_) (fun hc => ?_)
  · have h := h.1 hc
    refine ax_mv 1 355 [some (.ref 222), some (ax_i x1), y2, y3, some (ax_i x4)] [.ref 222] rfl ?_
    refine ax_gR (v := .ref 254) (pc' := 358) ⟨_, rfl⟩ fl_12_104 ay_222 rfl rfl ?_
    refine ax_mv 2 361 [some (.ref 222), some (ax_i x1), y2, y3, some (ax_i x4)] [ax_i x4, ax_i x1, .ref 254] rfl ?_
    obtain ⟨o10, h⟩ := h
    obtain ⟨V1, eV1⟩ : ∃ W9 : ax_V, W9 = ax_u V 254 x1 x4 := ⟨_, rfl⟩
    have h := h V1 eV1
    have hg1 : ax_g V1 := eV1 ▸ ax_u_g hg hx4
    refine ax_ist (n := 701) (pc' := 362) ⟨_, rfl⟩ ay_ok ay_254 (by decide) o10 eV1 rfl ?_
    exact ax_nret ⟨_, rfl⟩ rfl hg1 h
  · have h := h.2 hc
    refine ax_mv 3 339 [some (.ref 222), some (ax_i x1), y2, y3, some (ax_i x4)] [.ref 222, ax_i x4, .ref 222] rfl ?_
    refine ax_gR (v := .ref 254) (pc' := 342) ⟨_, rfl⟩ fl_12_104 ay_222 rfl rfl ?_
    refine ax_mv 1 343 [some (.ref 222), some (ax_i x1), y2, y3, some (ax_i x4)] [.ref 222, .ref 254, ax_i x4, .ref 222] rfl ?_
    refine ax_gR (v := .ref 247) (pc' := 346) ⟨_, rfl⟩ fl_12_83 ay_222 rfl rfl ?_
    refine ax_mv 1 347 [some (.ref 222), some (ax_i x1), y2, y3, some (ax_i x4)] [ax_i x1, .ref 247, .ref 254, ax_i x4, .ref 222] rfl ?_
    obtain ⟨o11, h⟩ := h
    refine ax_ild (n := 701) (pc' := 348) ⟨_, rfl⟩ ay_247 (by decide) o11 rfl ?_
    obtain ⟨o12, h⟩ := h
    refine ax_ild (n := 701) (pc' := 349) ⟨_, rfl⟩ ay_254 (by decide) o12 rfl ?_
    refine ax_callI (pc' := 352) ⟨_, rfl⟩ ml_12_494 (rest := []) rfl (fun ss hs => ⟨_, _, ay_222 ss hs⟩) (Nat.le_of_ble_eq_true rfl) rfl rfl h (fun r2 V2 hg2 hr2 h => ?_)
    refine ax_sti (i := 0) (k := 4) (n := 2) (pc' := 354) (L' := [some (.ref 222), some (ax_i x1), y2, y3, some (ax_i r2)]) ⟨_, rfl⟩ rfl rfl (ax_kill_y (k := 3) rfl hy3) (Nat.le_of_ble_eq_true rfl) rfl rfl ?_
    refine ax_mv 1 355 [some (.ref 222), some (ax_i x1), y2, y3, some (ax_i r2)] [.ref 222] rfl ?_
    refine ax_gR (v := .ref 254) (pc' := 358) ⟨_, rfl⟩ fl_12_104 ay_222 rfl rfl ?_
    refine ax_mv 2 361 [some (.ref 222), some (ax_i x1), y2, y3, some (ax_i r2)] [ax_i r2, ax_i x1, .ref 254] rfl ?_
    obtain ⟨o13, h⟩ := h
    obtain ⟨V3, eV3⟩ : ∃ W9 : ax_V, W9 = ax_u V2 254 x1 r2 := ⟨_, rfl⟩
    have h := h V3 eV3
    have hg3 : ax_g V3 := eV3 ▸ ax_u_g hg2 hr2
    refine ax_ist (n := 701) (pc' := 362) ⟨_, rfl⟩ ay_ok ay_254 (by decide) o13 eV3 rfl ?_
    exact ax_nret ⟨_, rfl⟩ rfl hg3 h
set_option maxRecDepth 20000 in
theorem r_Model_findClock {d : Nat} {V : ax_V} {Φ : ax_V → Prop} {Θ : ax_V → Prop} {x1 : Int} (hg : ax_g V) (hx1 : ax_rg x1) (h : (0 ≤ x1 ∧ x1 < 701) ∧ (0 ≤ x1 ∧ x1 < 701) ∧ (((V 241 x1 = 0 ∨ V 241 x1 = 1) → (0 ≤ x1 ∧ x1 < 701) ∧ (∀ V1, V1 = ax_u V 254 x1 (-1) → Φ V1)) ∧ ((V 241 x1 = 2 ∨ V 241 x1 = 3) → (0 ≤ x1 ∧ x1 < 701) ∧ ax_I ay_lay d q_Model_clockOf [.ref 222, ax_i (V 250 x1), ax_i (V 248 x1)] V (fun r2 V2 => (0 ≤ x1 ∧ x1 < 701) ∧ (∀ V3, V3 = ax_u V2 254 x1 r2 → Φ V3)) Θ) ∧ (V 241 x1 = 20 → (0 ≤ x1 ∧ x1 < 701) ∧ (0 ≤ x1 ∧ x1 < 701) ∧ (0 ≤ x1 ∧ x1 < 701) ∧ ax_rg (((2 * (V 248 x1)) + 2) - (V 249 x1)) ∧ (∀ V4, V4 = ax_u V 254 x1 (((2 * (V 248 x1)) + 2) - (V 249 x1)) → Φ V4)) ∧ (V 241 x1 = 21 → (0 ≤ x1 ∧ x1 < 701) ∧ ax_I ay_lay d q_Model_clockOf [.ref 222, ax_i (V 250 x1), ax_i (V 248 x1)] V (fun r5 V5 => (0 ≤ x1 ∧ x1 < 701) ∧ (∀ V6, V6 = ax_u V5 254 x1 r5 → Φ V6)) Θ) ∧ (V 241 x1 = 22 → (0 ≤ x1 ∧ x1 < 701) ∧ k_Model_findClock_206 d x1 (V 250 x1) (-1) (V 245 x1) V Φ Θ) ∧ (¬ V 241 x1 = 0 → ¬ V 241 x1 = 1 → ¬ V 241 x1 = 2 → ¬ V 241 x1 = 3 → ¬ V 241 x1 = 20 → ¬ V 241 x1 = 21 → ¬ V 241 x1 = 22 → (0 ≤ x1 ∧ x1 < 701) ∧ (0 ≤ V 245 x1 ∧ V 245 x1 < 701) ∧ (0 ≤ x1 ∧ x1 < 701) ∧ ((V 246 x1 = -1 → k_Model_findClock_325 d x1 (some (ax_i (V 250 x1))) none (V 254 (V 245 x1)) V Φ Θ) ∧ (¬ V 246 x1 = -1 → (0 ≤ x1 ∧ x1 < 701) ∧ (0 ≤ V 246 x1 ∧ V 246 x1 < 701) ∧ ax_I ay_lay d q_Model_join [.ref 222, ax_i (V 254 (V 245 x1)), ax_i (V 254 (V 246 x1))] V (fun r7 V7 => k_Model_findClock_325 d x1 (some (ax_i (V 250 x1))) none r7 V7 Φ Θ) Θ))))) : ax_N ay_lay (d + 1) q_Model_findClock [.ref 222, ax_i x1] V Φ Θ := by
  refine ax_T.of (M := m_Model_findClock) rfl (Nat.le_of_ble_eq_true rfl) ?_
  refine ax_mv 0 0 [some (.ref 222), some (ax_i x1), none, none, none] [] rfl ?_
  refine ax_mv 1 1 [some (.ref 222), some (ax_i x1), none, none, none] [.ref 222] rfl ?_
  refine ax_gR (v := .ref 250) (pc' := 4) ⟨_, rfl⟩ fl_12_92 ay_222 rfl rfl ?_
  refine ax_mv 1 5 [some (.ref 222), some (ax_i x1), none, none, none] [ax_i x1, .ref 250] rfl ?_
  obtain ⟨o14, h⟩ := h
  refine ax_ild (n := 701) (pc' := 6) ⟨_, rfl⟩ ay_250 (by decide) o14 rfl ?_
  refine ax_sti (i := 0) (k := 2) (n := 1) (pc' := 7) (L' := [some (.ref 222), some (ax_i x1), some (ax_i (V 250 x1)), none, none]) ⟨_, rfl⟩ rfl rfl rfl (Nat.le_of_ble_eq_true rfl) rfl rfl ?_
  refine ax_mv 1 8 [some (.ref 222), some (ax_i x1), some (ax_i (V 250 x1)), none, none] [.ref 222] rfl ?_
  refine ax_gR (v := .ref 241) (pc' := 11) ⟨_, rfl⟩ fl_12_65 ay_222 rfl rfl ?_
  refine ax_mv 1 12 [some (.ref 222), some (ax_i x1), some (ax_i (V 250 x1)), none, none] [ax_i x1, .ref 241] rfl ?_
  obtain ⟨o15, h⟩ := h
  refine ax_ild (n := 701) (pc' := 13) ⟨_, rfl⟩ ay_241 (by decide) o15 rfl ?_
  have t0 : (V 241 x1 = 0 ∨ V 241 x1 = 1) → ax_R ay_lay ax_t d m_Model_findClock 120 [some (.ref 222), some (ax_i x1), some (ax_i (V 250 x1)), none, none] [] V (ax_Nr Φ) Θ := fun hk => by
    have h := h.1 hk
    refine ax_mv 1 121 [some (.ref 222), some (ax_i x1), some (ax_i (V 250 x1)), none, none] [.ref 222] rfl ?_
    refine ax_gR (v := .ref 254) (pc' := 124) ⟨_, rfl⟩ fl_12_104 ay_222 rfl rfl ?_
    refine ax_mv 2 126 [some (.ref 222), some (ax_i x1), some (ax_i (V 250 x1)), none, none] [ax_i (-1), ax_i x1, .ref 254] rfl ?_
    obtain ⟨o16, h⟩ := h
    obtain ⟨V1, eV1⟩ : ∃ W9 : ax_V, W9 = ax_u V 254 x1 (-1) := ⟨_, rfl⟩
    have h := h V1 eV1
    have hg1 : ax_g V1 := eV1 ▸ ax_u_g hg (by decide)
    refine ax_ist (n := 701) (pc' := 127) ⟨_, rfl⟩ ay_ok ay_254 (by decide) o16 eV1 rfl ?_
    refine ax_mv 1 362 [some (.ref 222), some (ax_i x1), some (ax_i (V 250 x1)), none, none] [] rfl ?_
    exact ax_nret ⟨_, rfl⟩ rfl hg1 h
  have t1 : (V 241 x1 = 2 ∨ V 241 x1 = 3) → ax_R ay_lay ax_t d m_Model_findClock 130 [some (.ref 222), some (ax_i x1), some (ax_i (V 250 x1)), none, none] [] V (ax_Nr Φ) Θ := fun hk => by
    have h := h.2.1 hk
    refine ax_mv 1 131 [some (.ref 222), some (ax_i x1), some (ax_i (V 250 x1)), none, none] [.ref 222] rfl ?_
    refine ax_gR (v := .ref 254) (pc' := 134) ⟨_, rfl⟩ fl_12_104 ay_222 rfl rfl ?_
    refine ax_mv 4 138 [some (.ref 222), some (ax_i x1), some (ax_i (V 250 x1)), none, none] [.ref 222, ax_i (V 250 x1), .ref 222, ax_i x1, .ref 254] rfl ?_
    refine ax_gR (v := .ref 248) (pc' := 141) ⟨_, rfl⟩ fl_12_86 ay_222 rfl rfl ?_
    refine ax_mv 1 142 [some (.ref 222), some (ax_i x1), some (ax_i (V 250 x1)), none, none] [ax_i x1, .ref 248, ax_i (V 250 x1), .ref 222, ax_i x1, .ref 254] rfl ?_
    obtain ⟨o17, h⟩ := h
    refine ax_ild (n := 701) (pc' := 143) ⟨_, rfl⟩ ay_248 (by decide) o17 rfl ?_
    refine ax_callI (pc' := 146) ⟨_, rfl⟩ ml_12_490 (rest := [ax_i x1, .ref 254]) rfl (fun ss hs => ⟨_, _, ay_222 ss hs⟩) (Nat.le_of_ble_eq_true rfl) rfl rfl h (fun r2 V2 hg2 hr2 h => ?_)
    obtain ⟨o18, h⟩ := h
    obtain ⟨V3, eV3⟩ : ∃ W9 : ax_V, W9 = ax_u V2 254 x1 r2 := ⟨_, rfl⟩
    have h := h V3 eV3
    have hg3 : ax_g V3 := eV3 ▸ ax_u_g hg2 hr2
    refine ax_ist (n := 701) (pc' := 147) ⟨_, rfl⟩ ay_ok ay_254 (by decide) o18 eV3 rfl ?_
    refine ax_mv 1 362 [some (.ref 222), some (ax_i x1), some (ax_i (V 250 x1)), none, none] [] rfl ?_
    exact ax_nret ⟨_, rfl⟩ rfl hg3 h
  have t2 : (V 241 x1 = 20) → ax_R ay_lay ax_t d m_Model_findClock 150 [some (.ref 222), some (ax_i x1), some (ax_i (V 250 x1)), none, none] [] V (ax_Nr Φ) Θ := fun hk => by
    have h := h.2.2.1 hk
    refine ax_mv 1 151 [some (.ref 222), some (ax_i x1), some (ax_i (V 250 x1)), none, none] [.ref 222] rfl ?_
    refine ax_gR (v := .ref 254) (pc' := 154) ⟨_, rfl⟩ fl_12_104 ay_222 rfl rfl ?_
    refine ax_mv 3 157 [some (.ref 222), some (ax_i x1), some (ax_i (V 250 x1)), none, none] [.ref 222, ax_i 2, ax_i x1, .ref 254] rfl ?_
    refine ax_gR (v := .ref 248) (pc' := 160) ⟨_, rfl⟩ fl_12_86 ay_222 rfl rfl ?_
    refine ax_mv 1 161 [some (.ref 222), some (ax_i x1), some (ax_i (V 250 x1)), none, none] [ax_i x1, .ref 248, ax_i 2, ax_i x1, .ref 254] rfl ?_
    obtain ⟨o19, h⟩ := h
    refine ax_ild (n := 701) (pc' := 162) ⟨_, rfl⟩ ay_248 (by decide) o19 rfl ?_
    refine ax_mul (pc' := 163) ⟨_, rfl⟩ rfl ?_
    refine ax_mv 1 164 [some (.ref 222), some (ax_i x1), some (ax_i (V 250 x1)), none, none] [ax_i 2, ax_i (2 * (V 248 x1)), ax_i x1, .ref 254] rfl ?_
    refine ax_add (pc' := 165) ⟨_, rfl⟩ rfl ?_
    refine ax_mv 1 166 [some (.ref 222), some (ax_i x1), some (ax_i (V 250 x1)), none, none] [.ref 222, ax_i ((2 * (V 248 x1)) + 2), ax_i x1, .ref 254] rfl ?_
    refine ax_gR (v := .ref 249) (pc' := 169) ⟨_, rfl⟩ fl_12_89 ay_222 rfl rfl ?_
    refine ax_mv 1 170 [some (.ref 222), some (ax_i x1), some (ax_i (V 250 x1)), none, none] [ax_i x1, .ref 249, ax_i ((2 * (V 248 x1)) + 2), ax_i x1, .ref 254] rfl ?_
    obtain ⟨o20, h⟩ := h
    refine ax_ild (n := 701) (pc' := 171) ⟨_, rfl⟩ ay_249 (by decide) o20 rfl ?_
    refine ax_sub (pc' := 172) ⟨_, rfl⟩ rfl ?_
    obtain ⟨o21, o22, h⟩ := h
    obtain ⟨V4, eV4⟩ : ∃ W9 : ax_V, W9 = ax_u V 254 x1 (((2 * (V 248 x1)) + 2) - (V 249 x1)) := ⟨_, rfl⟩
    have h := h V4 eV4
    have hg4 : ax_g V4 := eV4 ▸ ax_u_g hg o22
    refine ax_ist (n := 701) (pc' := 173) ⟨_, rfl⟩ ay_ok ay_254 (by decide) o21 eV4 rfl ?_
    refine ax_mv 1 362 [some (.ref 222), some (ax_i x1), some (ax_i (V 250 x1)), none, none] [] rfl ?_
    exact ax_nret ⟨_, rfl⟩ rfl hg4 h
  have t3 : (V 241 x1 = 21) → ax_R ay_lay ax_t d m_Model_findClock 176 [some (.ref 222), some (ax_i x1), some (ax_i (V 250 x1)), none, none] [] V (ax_Nr Φ) Θ := fun hk => by
    have h := h.2.2.2.1 hk
    refine ax_mv 1 177 [some (.ref 222), some (ax_i x1), some (ax_i (V 250 x1)), none, none] [.ref 222] rfl ?_
    refine ax_gR (v := .ref 254) (pc' := 180) ⟨_, rfl⟩ fl_12_104 ay_222 rfl rfl ?_
    refine ax_mv 4 184 [some (.ref 222), some (ax_i x1), some (ax_i (V 250 x1)), none, none] [.ref 222, ax_i (V 250 x1), .ref 222, ax_i x1, .ref 254] rfl ?_
    refine ax_gR (v := .ref 248) (pc' := 187) ⟨_, rfl⟩ fl_12_86 ay_222 rfl rfl ?_
    refine ax_mv 1 188 [some (.ref 222), some (ax_i x1), some (ax_i (V 250 x1)), none, none] [ax_i x1, .ref 248, ax_i (V 250 x1), .ref 222, ax_i x1, .ref 254] rfl ?_
    obtain ⟨o23, h⟩ := h
    refine ax_ild (n := 701) (pc' := 189) ⟨_, rfl⟩ ay_248 (by decide) o23 rfl ?_
    refine ax_callI (pc' := 192) ⟨_, rfl⟩ ml_12_490 (rest := [ax_i x1, .ref 254]) rfl (fun ss hs => ⟨_, _, ay_222 ss hs⟩) (Nat.le_of_ble_eq_true rfl) rfl rfl h (fun r5 V5 hg5 hr5 h => ?_)
    obtain ⟨o24, h⟩ := h
    obtain ⟨V6, eV6⟩ : ∃ W9 : ax_V, W9 = ax_u V5 254 x1 r5 := ⟨_, rfl⟩
    have h := h V6 eV6
    have hg6 : ax_g V6 := eV6 ▸ ax_u_g hg5 hr5
    refine ax_ist (n := 701) (pc' := 193) ⟨_, rfl⟩ ay_ok ay_254 (by decide) o24 eV6 rfl ?_
    refine ax_mv 1 362 [some (.ref 222), some (ax_i x1), some (ax_i (V 250 x1)), none, none] [] rfl ?_
    exact ax_nret ⟨_, rfl⟩ rfl hg6 h
  have t4 : (V 241 x1 = 22) → ax_R ay_lay ax_t d m_Model_findClock 196 [some (.ref 222), some (ax_i x1), some (ax_i (V 250 x1)), none, none] [] V (ax_Nr Φ) Θ := fun hk => by
    have h := h.2.2.2.2.1 hk
    refine ax_mv 1 197 [some (.ref 222), some (ax_i x1), some (ax_i (V 250 x1)), none, none] [ax_i (-1)] rfl ?_
    refine ax_sti (i := 0) (k := 3) (n := 1) (pc' := 198) (L' := [some (.ref 222), some (ax_i x1), some (ax_i (V 250 x1)), some (ax_i (-1)), none]) ⟨_, rfl⟩ rfl rfl rfl (Nat.le_of_ble_eq_true rfl) rfl rfl ?_
    refine ax_mv 1 199 [some (.ref 222), some (ax_i x1), some (ax_i (V 250 x1)), some (ax_i (-1)), none] [.ref 222] rfl ?_
    refine ax_gR (v := .ref 245) (pc' := 202) ⟨_, rfl⟩ fl_12_77 ay_222 rfl rfl ?_
    refine ax_mv 1 203 [some (.ref 222), some (ax_i x1), some (ax_i (V 250 x1)), some (ax_i (-1)), none] [ax_i x1, .ref 245] rfl ?_
    obtain ⟨o25, h⟩ := h
    refine ax_ild (n := 701) (pc' := 204) ⟨_, rfl⟩ ay_245 (by decide) o25 rfl ?_
    refine ax_sti (i := 0) (k := 4) (n := 2) (pc' := 206) (L' := [some (.ref 222), some (ax_i x1), some (ax_i (V 250 x1)), some (ax_i (-1)), some (ax_i (V 245 x1))]) ⟨_, rfl⟩ rfl rfl rfl (Nat.le_of_ble_eq_true rfl) rfl rfl ?_
    exact h
  have tD : ¬ V 241 x1 = 0 → ¬ V 241 x1 = 1 → ¬ V 241 x1 = 2 → ¬ V 241 x1 = 3 → ¬ V 241 x1 = 20 → ¬ V 241 x1 = 21 → ¬ V 241 x1 = 22 → ax_R ay_lay ax_t d m_Model_findClock 283 [some (.ref 222), some (ax_i x1), some (ax_i (V 250 x1)), none, none] [] V (ax_Nr Φ) Θ := fun n0 n1 n2 n3 n4 n5 n6 => by
    have h := h.2.2.2.2.2 n0 n1 n2 n3 n4 n5 n6
    refine ax_mv 1 284 [some (.ref 222), some (ax_i x1), some (ax_i (V 250 x1)), none, none] [.ref 222] rfl ?_
    refine ax_gR (v := .ref 254) (pc' := 287) ⟨_, rfl⟩ fl_12_104 ay_222 rfl rfl ?_
    refine ax_mv 1 288 [some (.ref 222), some (ax_i x1), some (ax_i (V 250 x1)), none, none] [.ref 222, .ref 254] rfl ?_
    refine ax_gR (v := .ref 245) (pc' := 291) ⟨_, rfl⟩ fl_12_77 ay_222 rfl rfl ?_
    refine ax_mv 1 292 [some (.ref 222), some (ax_i x1), some (ax_i (V 250 x1)), none, none] [ax_i x1, .ref 245, .ref 254] rfl ?_
    obtain ⟨o26, h⟩ := h
    refine ax_ild (n := 701) (pc' := 293) ⟨_, rfl⟩ ay_245 (by decide) o26 rfl ?_
    obtain ⟨o27, h⟩ := h
    refine ax_ild (n := 701) (pc' := 294) ⟨_, rfl⟩ ay_254 (by decide) o27 rfl ?_
    refine ax_sti (i := 0) (k := 4) (n := 2) (pc' := 296) (L' := [some (.ref 222), some (ax_i x1), some (ax_i (V 250 x1)), none, some (ax_i (V 254 (V 245 x1)))]) ⟨_, rfl⟩ rfl rfl rfl (Nat.le_of_ble_eq_true rfl) rfl rfl ?_
    refine ax_mv 1 297 [some (.ref 222), some (ax_i x1), some (ax_i (V 250 x1)), none, some (ax_i (V 254 (V 245 x1)))] [.ref 222] rfl ?_
    refine ax_gR (v := .ref 246) (pc' := 300) ⟨_, rfl⟩ fl_12_80 ay_222 rfl rfl ?_
    refine ax_mv 1 301 [some (.ref 222), some (ax_i x1), some (ax_i (V 250 x1)), none, some (ax_i (V 254 (V 245 x1)))] [ax_i x1, .ref 246] rfl ?_
    obtain ⟨o28, h⟩ := h
    refine ax_ild (n := 701) (pc' := 302) ⟨_, rfl⟩ ay_246 (by decide) o28 rfl ?_
    refine ax_mv 1 303 [some (.ref 222), some (ax_i x1), some (ax_i (V 250 x1)), none, some (ax_i (V 254 (V 245 x1)))] [ax_i (-1), ax_i (V 246 x1)] rfl ?_
    refine ax_if2 (p1 := 325) (p2 := 306) ⟨_, rfl⟩ (by decide) rfl (hg _ _) (by decide) (fun hc => ?_) (fun hc => ?_)
    · have h := h.1 hc
      exact h
    · have h := h.2 hc
      refine ax_mv 3 310 [some (.ref 222), some (ax_i x1), some (ax_i (V 250 x1)), none, some (ax_i (V 254 (V 245 x1)))] [.ref 222, ax_i (V 254 (V 245 x1)), .ref 222] rfl ?_
      refine ax_gR (v := .ref 254) (pc' := 313) ⟨_, rfl⟩ fl_12_104 ay_222 rfl rfl ?_
      refine ax_mv 1 314 [some (.ref 222), some (ax_i x1), some (ax_i (V 250 x1)), none, some (ax_i (V 254 (V 245 x1)))] [.ref 222, .ref 254, ax_i (V 254 (V 245 x1)), .ref 222] rfl ?_
      refine ax_gR (v := .ref 246) (pc' := 317) ⟨_, rfl⟩ fl_12_80 ay_222 rfl rfl ?_
      refine ax_mv 1 318 [some (.ref 222), some (ax_i x1), some (ax_i (V 250 x1)), none, some (ax_i (V 254 (V 245 x1)))] [ax_i x1, .ref 246, .ref 254, ax_i (V 254 (V 245 x1)), .ref 222] rfl ?_
      obtain ⟨o29, h⟩ := h
      refine ax_ild (n := 701) (pc' := 319) ⟨_, rfl⟩ ay_246 (by decide) o29 rfl ?_
      obtain ⟨o30, h⟩ := h
      refine ax_ild (n := 701) (pc' := 320) ⟨_, rfl⟩ ay_254 (by decide) o30 rfl ?_
      refine ax_callI (pc' := 323) ⟨_, rfl⟩ ml_12_494 (rest := []) rfl (fun ss hs => ⟨_, _, ay_222 ss hs⟩) (Nat.le_of_ble_eq_true rfl) rfl rfl h (fun r7 V7 hg7 hr7 h => ?_)
      refine ax_sti (i := 0) (k := 4) (n := 2) (pc' := 325) (L' := [some (.ref 222), some (ax_i x1), some (ax_i (V 250 x1)), none, some (ax_i r7)]) ⟨_, rfl⟩ rfl rfl rfl (Nat.le_of_ble_eq_true rfl) rfl rfl ?_
      exact h
  by_cases e0 : V 241 x1 = 0
  · exact ax_tsC (off := 107) (p1 := 120) ⟨_, rfl⟩ (hg _ _) (by omega) (by omega) (by rw [e0]; rfl) (by decide) (t0 (Or.inl e0))
  by_cases e1 : V 241 x1 = 1
  · exact ax_tsC (off := 107) (p1 := 120) ⟨_, rfl⟩ (hg _ _) (by omega) (by omega) (by rw [e1]; rfl) (by decide) (t0 (Or.inr (e1)))
  by_cases e2 : V 241 x1 = 2
  · exact ax_tsC (off := 117) (p1 := 130) ⟨_, rfl⟩ (hg _ _) (by omega) (by omega) (by rw [e2]; rfl) (by decide) (t1 (Or.inl e2))
  by_cases e3 : V 241 x1 = 3
  · exact ax_tsC (off := 117) (p1 := 130) ⟨_, rfl⟩ (hg _ _) (by omega) (by omega) (by rw [e3]; rfl) (by decide) (t1 (Or.inr (e3)))
  by_cases e4 : V 241 x1 = 4
  · exact ax_tsC (off := 270) (p1 := 283) ⟨_, rfl⟩ (hg _ _) (by omega) (by omega) (by rw [e4]; rfl) (by decide) (tD (by omega) (by omega) (by omega) (by omega) (by omega) (by omega) (by omega))
  by_cases e5 : V 241 x1 = 5
  · exact ax_tsC (off := 270) (p1 := 283) ⟨_, rfl⟩ (hg _ _) (by omega) (by omega) (by rw [e5]; rfl) (by decide) (tD (by omega) (by omega) (by omega) (by omega) (by omega) (by omega) (by omega))
  by_cases e6 : V 241 x1 = 6
  · exact ax_tsC (off := 270) (p1 := 283) ⟨_, rfl⟩ (hg _ _) (by omega) (by omega) (by rw [e6]; rfl) (by decide) (tD (by omega) (by omega) (by omega) (by omega) (by omega) (by omega) (by omega))
  by_cases e7 : V 241 x1 = 7
  · exact ax_tsC (off := 270) (p1 := 283) ⟨_, rfl⟩ (hg _ _) (by omega) (by omega) (by rw [e7]; rfl) (by decide) (tD (by omega) (by omega) (by omega) (by omega) (by omega) (by omega) (by omega))
  by_cases e8 : V 241 x1 = 8
  · exact ax_tsC (off := 270) (p1 := 283) ⟨_, rfl⟩ (hg _ _) (by omega) (by omega) (by rw [e8]; rfl) (by decide) (tD (by omega) (by omega) (by omega) (by omega) (by omega) (by omega) (by omega))
  by_cases e9 : V 241 x1 = 9
  · exact ax_tsC (off := 270) (p1 := 283) ⟨_, rfl⟩ (hg _ _) (by omega) (by omega) (by rw [e9]; rfl) (by decide) (tD (by omega) (by omega) (by omega) (by omega) (by omega) (by omega) (by omega))
  by_cases e10 : V 241 x1 = 10
  · exact ax_tsC (off := 270) (p1 := 283) ⟨_, rfl⟩ (hg _ _) (by omega) (by omega) (by rw [e10]; rfl) (by decide) (tD (by omega) (by omega) (by omega) (by omega) (by omega) (by omega) (by omega))
  by_cases e11 : V 241 x1 = 11
  · exact ax_tsC (off := 270) (p1 := 283) ⟨_, rfl⟩ (hg _ _) (by omega) (by omega) (by rw [e11]; rfl) (by decide) (tD (by omega) (by omega) (by omega) (by omega) (by omega) (by omega) (by omega))
  by_cases e12 : V 241 x1 = 12
  · exact ax_tsC (off := 270) (p1 := 283) ⟨_, rfl⟩ (hg _ _) (by omega) (by omega) (by rw [e12]; rfl) (by decide) (tD (by omega) (by omega) (by omega) (by omega) (by omega) (by omega) (by omega))
  by_cases e13 : V 241 x1 = 13
  · exact ax_tsC (off := 270) (p1 := 283) ⟨_, rfl⟩ (hg _ _) (by omega) (by omega) (by rw [e13]; rfl) (by decide) (tD (by omega) (by omega) (by omega) (by omega) (by omega) (by omega) (by omega))
  by_cases e14 : V 241 x1 = 14
  · exact ax_tsC (off := 270) (p1 := 283) ⟨_, rfl⟩ (hg _ _) (by omega) (by omega) (by rw [e14]; rfl) (by decide) (tD (by omega) (by omega) (by omega) (by omega) (by omega) (by omega) (by omega))
  by_cases e15 : V 241 x1 = 15
  · exact ax_tsC (off := 270) (p1 := 283) ⟨_, rfl⟩ (hg _ _) (by omega) (by omega) (by rw [e15]; rfl) (by decide) (tD (by omega) (by omega) (by omega) (by omega) (by omega) (by omega) (by omega))
  by_cases e16 : V 241 x1 = 16
  · exact ax_tsC (off := 270) (p1 := 283) ⟨_, rfl⟩ (hg _ _) (by omega) (by omega) (by rw [e16]; rfl) (by decide) (tD (by omega) (by omega) (by omega) (by omega) (by omega) (by omega) (by omega))
  by_cases e17 : V 241 x1 = 17
  · exact ax_tsC (off := 270) (p1 := 283) ⟨_, rfl⟩ (hg _ _) (by omega) (by omega) (by rw [e17]; rfl) (by decide) (tD (by omega) (by omega) (by omega) (by omega) (by omega) (by omega) (by omega))
  by_cases e18 : V 241 x1 = 18
  · exact ax_tsC (off := 270) (p1 := 283) ⟨_, rfl⟩ (hg _ _) (by omega) (by omega) (by rw [e18]; rfl) (by decide) (tD (by omega) (by omega) (by omega) (by omega) (by omega) (by omega) (by omega))
  by_cases e19 : V 241 x1 = 19
  · exact ax_tsC (off := 270) (p1 := 283) ⟨_, rfl⟩ (hg _ _) (by omega) (by omega) (by rw [e19]; rfl) (by decide) (tD (by omega) (by omega) (by omega) (by omega) (by omega) (by omega) (by omega))
  by_cases e20 : V 241 x1 = 20
  · exact ax_tsC (off := 137) (p1 := 150) ⟨_, rfl⟩ (hg _ _) (by omega) (by omega) (by rw [e20]; rfl) (by decide) (t2 (e20))
  by_cases e21 : V 241 x1 = 21
  · exact ax_tsC (off := 163) (p1 := 176) ⟨_, rfl⟩ (hg _ _) (by omega) (by omega) (by rw [e21]; rfl) (by decide) (t3 (e21))
  by_cases e22 : V 241 x1 = 22
  · exact ax_tsC (off := 183) (p1 := 196) ⟨_, rfl⟩ (hg _ _) (by omega) (by omega) (by rw [e22]; rfl) (by decide) (t4 (e22))
  exact ax_tsD (p1 := 283) ⟨_, rfl⟩ (hg _ _) (by omega) (by decide) (tD e0 e1 e2 e3 e20 e21 e22)
theorem r_Model_clockOf {d : Nat} {V : ax_V} {Φ : Int → ax_V → Prop} {Θ : ax_V → Prop} {x1 : Int} {x2 : Int} (hg : ax_g V) (hx1 : ax_rg x1) (hx2 : ax_rg x2) (h : (0 ≤ (26 * x1) + x2 ∧ (26 * x1) + x2 < 240) ∧ Φ (V 235 ((26 * x1) + x2)) V) : ax_I ay_lay (d + 1) q_Model_clockOf [.ref 222, ax_i x1, ax_i x2] V Φ Θ := by
  refine ax_T.of (M := m_Model_clockOf) rfl (Nat.le_of_ble_eq_true rfl) ?_
  refine ax_mv 0 0 [some (.ref 222), some (ax_i x1), some (ax_i x2)] [] rfl ?_
  refine ax_mv 1 1 [some (.ref 222), some (ax_i x1), some (ax_i x2)] [.ref 222] rfl ?_
  refine ax_gR (v := .ref 235) (pc' := 4) ⟨_, rfl⟩ fl_12_46 ay_222 rfl rfl ?_
  refine ax_bip (pc' := 6) ⟨_, rfl⟩ (by decide) rfl ?_
  refine ax_mv 1 7 [some (.ref 222), some (ax_i x1), some (ax_i x2)] [ax_i x1, ax_i 26, .ref 235] rfl ?_
  refine ax_mul (pc' := 8) ⟨_, rfl⟩ rfl ?_
  refine ax_mv 1 9 [some (.ref 222), some (ax_i x1), some (ax_i x2)] [ax_i x2, ax_i (26 * x1), .ref 235] rfl ?_
  refine ax_add (pc' := 10) ⟨_, rfl⟩ rfl ?_
  obtain ⟨o1, h⟩ := h
  refine ax_ild (n := 240) (pc' := 11) ⟨_, rfl⟩ ay_235 (by decide) o1 rfl ?_
  exact ax_iret ⟨_, rfl⟩ rfl rfl (hg _ _) hg h
theorem r_Model_join {d : Nat} {V : ax_V} {Φ : Int → ax_V → Prop} {Θ : ax_V → Prop} {x1 : Int} {x2 : Int} (hg : ax_g V) (hx1 : ax_rg x1) (hx2 : ax_rg x2) (h : ((x1 = -1 → Φ x2 V) ∧ (¬ x1 = -1 → Φ x1 V))) : ax_I ay_lay (d + 1) q_Model_join [.ref 222, ax_i x1, ax_i x2] V Φ Θ := by
  refine ax_T.of (M := m_Model_join) rfl (Nat.le_of_ble_eq_true rfl) ?_
  refine ax_mv 0 0 [some (.ref 222), some (ax_i x1), some (ax_i x2)] [] rfl ?_
  refine ax_mv 2 2 [some (.ref 222), some (ax_i x1), some (ax_i x2)] [ax_i (-1), ax_i x1] rfl ?_
  refine ax_if2 (p1 := 9) (p2 := 5) ⟨_, rfl⟩ (by decide) rfl hx1 (by decide) (fun hc => ?_) (fun hc => ?_)
  · have h := h.2 hc
    refine ax_mv 1 10 [some (.ref 222), some (ax_i x1), some (ax_i x2)] [ax_i x1] rfl ?_
    exact ax_iret ⟨_, rfl⟩ rfl rfl hx1 hg h
  · have h := h.1 (Classical.not_not.mp hc)
    refine ax_mv 2 10 [some (.ref 222), some (ax_i x1), some (ax_i x2)] [ax_i x2] rfl ?_
    exact ax_iret ⟨_, rfl⟩ rfl rfl hx2 hg h
abbrev k_Model_checkClocks_114 (d : Nat) (x1 : Int) (x2 : Int) (x3 : Int) (V : ax_V) (Φ : ax_V → Prop) (Θ : ax_V → Prop) : Prop := ax_R ay_lay ax_t d m_Model_checkClocks 114 [some (.ref 222), some (ax_i x1), some (ax_i x2), some (ax_i x3)] [] V (ax_Nr Φ) Θ
set_option maxRecDepth 20000 in
theorem r_Model_checkClocks_114 {d : Nat} {V : ax_V} {Φ : ax_V → Prop} {Θ : ax_V → Prop} {x1 : Int} {x2 : Int} {x3 : Int} (hg : ax_g V) (hx1 : ax_rg x1) (hx2 : ax_rg x2) (hx3 : ax_rg x3) (h : ((x3 = -1 → (0 ≤ x1 ∧ x1 < 701) ∧ ((V 248 x1 = -1 → Φ V) ∧ (¬ V 248 x1 = -1 → (0 ≤ x1 ∧ x1 < 701) ∧ ax_I ay_lay d q_Model_clockOf [.ref 222, ax_i x2, ax_i (V 248 x1)] V (fun r1 V1 => (0 ≤ x1 ∧ x1 < 701) ∧ ((r1 = V1 254 x1 → Φ V1) ∧ (¬ r1 = V1 254 x1 → (0 ≤ x1 ∧ x1 < 701) ∧ ax_N ay_lay d q_Model_note [.ref 222, ax_i (V1 244 x1)] V1 (fun V2 => Φ V2) Θ))) Θ))) ∧ (¬ x3 = -1 → (0 ≤ x1 ∧ x1 < 701) ∧ ax_N ay_lay d q_Model_mustBeOn [.ref 222, ax_i x3, ax_i (V 254 x1)] V (fun V3 => (0 ≤ x3 ∧ x3 < 701) ∧ k_Model_checkClocks_114 d x1 x2 (V3 252 x3) V3 Φ Θ) Θ))) : k_Model_checkClocks_114 d x1 x2 x3 V Φ Θ := by
  refine ax_mv 2 116 [some (.ref 222), some (ax_i x1), some (ax_i x2), some (ax_i x3)] [ax_i (-1), ax_i x3] rfl ?_
  refine ax_if2 (p1 := 140) (p2 := 119) ⟨_, rfl⟩ (by decide) rfl hx3 (by decide) (fun hc => ?_) (fun hc => ?_)
  · have h := h.1 hc
    refine ax_mv 1 141 [some (.ref 222), some (ax_i x1), some (ax_i x2), some (ax_i x3)] [.ref 222] rfl ?_
    refine ax_gR (v := .ref 248) (pc' := 144) ⟨_, rfl⟩ fl_12_86 ay_222 rfl rfl ?_
    refine ax_mv 1 145 [some (.ref 222), some (ax_i x1), some (ax_i x2), some (ax_i x3)] [ax_i x1, .ref 248] rfl ?_
    obtain ⟨o1, h⟩ := h
    refine ax_ild (n := 701) (pc' := 146) ⟨_, rfl⟩ ay_248 (by decide) o1 rfl ?_
    refine ax_mv 1 147 [some (.ref 222), some (ax_i x1), some (ax_i x2), some (ax_i x3)] [ax_i (-1), ax_i (V 248 x1)] rfl ?_
    refine ax_if2 (p1 := 231) (p2 := 150) ⟨_, rfl⟩ (by decide) rfl (hg _ _) (by decide) (fun hc => ?_) (fun hc => ?_)
    · have h := h.1 hc
      exact ax_nret ⟨_, rfl⟩ rfl hg h
    · have h := h.2 hc
      refine ax_mv 3 153 [some (.ref 222), some (ax_i x1), some (ax_i x2), some (ax_i x3)] [.ref 222, ax_i x2, .ref 222] rfl ?_
      refine ax_gR (v := .ref 248) (pc' := 156) ⟨_, rfl⟩ fl_12_86 ay_222 rfl rfl ?_
      refine ax_mv 1 157 [some (.ref 222), some (ax_i x1), some (ax_i x2), some (ax_i x3)] [ax_i x1, .ref 248, ax_i x2, .ref 222] rfl ?_
      obtain ⟨o2, h⟩ := h
      refine ax_ild (n := 701) (pc' := 158) ⟨_, rfl⟩ ay_248 (by decide) o2 rfl ?_
      refine ax_callI (pc' := 161) ⟨_, rfl⟩ ml_12_490 (rest := []) rfl (fun ss hs => ⟨_, _, ay_222 ss hs⟩) (Nat.le_of_ble_eq_true rfl) rfl rfl h (fun r1 V1 hg1 hr1 h => ?_)
      refine ax_mv 1 162 [some (.ref 222), some (ax_i x1), some (ax_i x2), some (ax_i x3)] [.ref 222, ax_i r1] rfl ?_
      refine ax_gR (v := .ref 254) (pc' := 165) ⟨_, rfl⟩ fl_12_104 ay_222 rfl rfl ?_
      refine ax_mv 1 166 [some (.ref 222), some (ax_i x1), some (ax_i x2), some (ax_i x3)] [ax_i x1, .ref 254, ax_i r1] rfl ?_
      obtain ⟨o3, h⟩ := h
      refine ax_ild (n := 701) (pc' := 167) ⟨_, rfl⟩ ay_254 (by decide) o3 rfl ?_
      refine ax_if2 (p1 := 231) (p2 := 170) ⟨_, rfl⟩ (by decide) rfl hr1 (hg1 _ _) (fun hc => ?_) (fun hc => ?_)
      · have h := h.1 hc
        exact ax_nret ⟨_, rfl⟩ rfl hg1 h
      · have h := h.2 hc
        refine ax_mv 2 172 [some (.ref 222), some (ax_i x1), some (ax_i x2), some (ax_i x3)] [.ref 222, .ref 222] rfl ?_
        refine ax_gR (v := .ref 244) (pc' := 175) ⟨_, rfl⟩ fl_12_74 ay_222 rfl rfl ?_
        refine ax_mv 1 176 [some (.ref 222), some (ax_i x1), some (ax_i x2), some (ax_i x3)] [ax_i x1, .ref 244, .ref 222] rfl ?_
        obtain ⟨o4, h⟩ := h
        refine ax_ild (n := 701) (pc' := 177) ⟨_, rfl⟩ ay_244 (by decide) o4 rfl ?_
        refine ax_callN (pc' := 180) ⟨_, rfl⟩ ml_12_433 (rest := []) rfl (fun ss hs => ⟨_, _, ay_222 ss hs⟩) (Nat.le_of_ble_eq_true rfl) rfl rfl h (fun V2 hg2 h => ?_)
        refine ax_mv 1 231 [some (.ref 222), some (ax_i x1), some (ax_i x2), some (ax_i x3)] [] rfl ?_
        exact ax_nret ⟨_, rfl⟩ rfl hg2 h
  · have h := h.2 hc
    refine ax_mv 3 122 [some (.ref 222), some (ax_i x1), some (ax_i x2), some (ax_i x3)] [.ref 222, ax_i x3, .ref 222] rfl ?_
    refine ax_gR (v := .ref 254) (pc' := 125) ⟨_, rfl⟩ fl_12_104 ay_222 rfl rfl ?_
    refine ax_mv 1 126 [some (.ref 222), some (ax_i x1), some (ax_i x2), some (ax_i x3)] [ax_i x1, .ref 254, ax_i x3, .ref 222] rfl ?_
    obtain ⟨o5, h⟩ := h
    refine ax_ild (n := 701) (pc' := 127) ⟨_, rfl⟩ ay_254 (by decide) o5 rfl ?_
    refine ax_callN (pc' := 130) ⟨_, rfl⟩ ml_12_497 (rest := []) rfl (fun ss hs => ⟨_, _, ay_222 ss hs⟩) (Nat.le_of_ble_eq_true rfl) rfl rfl h (fun V3 hg3 h => ?_)
    refine ax_mv 1 131 [some (.ref 222), some (ax_i x1), some (ax_i x2), some (ax_i x3)] [.ref 222] rfl ?_
    refine ax_gR (v := .ref 252) (pc' := 134) ⟨_, rfl⟩ fl_12_98 ay_222 rfl rfl ?_
    refine ax_mv 1 135 [some (.ref 222), some (ax_i x1), some (ax_i x2), some (ax_i x3)] [ax_i x3, .ref 252] rfl ?_
    obtain ⟨o6, h⟩ := h
    refine ax_ild (n := 701) (pc' := 136) ⟨_, rfl⟩ ay_252 (by decide) o6 rfl ?_
    refine ax_sti (i := 0) (k := 3) (n := 1) (pc' := 137) (L' := [some (.ref 222), some (ax_i x1), some (ax_i x2), some (ax_i (V3 252 x3))]) ⟨_, rfl⟩ rfl rfl rfl (Nat.le_of_ble_eq_true rfl) rfl rfl ?_
    refine ax_mv 1 114 [some (.ref 222), some (ax_i x1), some (ax_i x2), some (ax_i (V3 252 x3))] [] rfl ?_
    exact h
set_option maxRecDepth 20000 in
theorem r_Model_checkClocks {d : Nat} {V : ax_V} {Φ : ax_V → Prop} {Θ : ax_V → Prop} {x1 : Int} (hg : ax_g V) (hx1 : ax_rg x1) (h : (0 ≤ x1 ∧ x1 < 701) ∧ (0 ≤ x1 ∧ x1 < 701) ∧ ((V 241 x1 = 20 → (0 ≤ x1 ∧ x1 < 701) ∧ (0 ≤ x1 ∧ x1 < 701) ∧ ax_I ay_lay d q_Model_clockOf [.ref 222, ax_i (V 250 x1), ax_i (V 248 x1)] V (fun r1 V1 => ax_N ay_lay d q_Model_mustBeOn [.ref 222, ax_i (V 245 x1), ax_i r1] V1 (fun V2 => Φ V2) Θ) Θ) ∧ (V 241 x1 = 21 → (0 ≤ x1 ∧ x1 < 701) ∧ (0 ≤ x1 ∧ x1 < 701) ∧ ax_N ay_lay d q_Model_mustBeOn [.ref 222, ax_i (V 245 x1), ax_i ((2 * (V 248 x1)) + 1)] V (fun V3 => (0 ≤ x1 ∧ x1 < 701) ∧ (0 ≤ x1 ∧ x1 < 701) ∧ ax_N ay_lay d q_Model_mustBeOn [.ref 222, ax_i (V3 246 x1), ax_i ((2 * (V3 248 x1)) + 2)] V3 (fun V4 => Φ V4) Θ) Θ) ∧ (V 241 x1 = 22 → (0 ≤ x1 ∧ x1 < 701) ∧ k_Model_checkClocks_114 d x1 (V 250 x1) (V 245 x1) V Φ Θ) ∧ (¬ V 241 x1 = 20 → ¬ V 241 x1 = 21 → ¬ V 241 x1 = 22 → (0 ≤ x1 ∧ x1 < 701) ∧ (0 ≤ x1 ∧ x1 < 701) ∧ ax_N ay_lay d q_Model_mustBeOn [.ref 222, ax_i (V 245 x1), ax_i (V 254 x1)] V (fun V5 => (0 ≤ x1 ∧ x1 < 701) ∧ (0 ≤ x1 ∧ x1 < 701) ∧ ax_N ay_lay d q_Model_mustBeOn [.ref 222, ax_i (V5 246 x1), ax_i (V5 254 x1)] V5 (fun V6 => (0 ≤ x1 ∧ x1 < 701) ∧ (0 ≤ x1 ∧ x1 < 701) ∧ ax_N ay_lay d q_Model_mustBeOn [.ref 222, ax_i (V6 247 x1), ax_i (V6 254 x1)] V6 (fun V7 => Φ V7) Θ) Θ) Θ))) : ax_N ay_lay (d + 1) q_Model_checkClocks [.ref 222, ax_i x1] V Φ Θ := by
  refine ax_T.of (M := m_Model_checkClocks) rfl (Nat.le_of_ble_eq_true rfl) ?_
  refine ax_mv 0 0 [some (.ref 222), some (ax_i x1), none, none] [] rfl ?_
  refine ax_mv 1 1 [some (.ref 222), some (ax_i x1), none, none] [.ref 222] rfl ?_
  refine ax_gR (v := .ref 250) (pc' := 4) ⟨_, rfl⟩ fl_12_92 ay_222 rfl rfl ?_
  refine ax_mv 1 5 [some (.ref 222), some (ax_i x1), none, none] [ax_i x1, .ref 250] rfl ?_
  obtain ⟨o7, h⟩ := h
  refine ax_ild (n := 701) (pc' := 6) ⟨_, rfl⟩ ay_250 (by decide) o7 rfl ?_
  refine ax_sti (i := 0) (k := 2) (n := 1) (pc' := 7) (L' := [some (.ref 222), some (ax_i x1), some (ax_i (V 250 x1)), none]) ⟨_, rfl⟩ rfl rfl rfl (Nat.le_of_ble_eq_true rfl) rfl rfl ?_
  refine ax_mv 1 8 [some (.ref 222), some (ax_i x1), some (ax_i (V 250 x1)), none] [.ref 222] rfl ?_
  refine ax_gR (v := .ref 241) (pc' := 11) ⟨_, rfl⟩ fl_12_65 ay_222 rfl rfl ?_
  refine ax_mv 1 12 [some (.ref 222), some (ax_i x1), some (ax_i (V 250 x1)), none] [ax_i x1, .ref 241] rfl ?_
  obtain ⟨o8, h⟩ := h
  refine ax_ild (n := 701) (pc' := 13) ⟨_, rfl⟩ ay_241 (by decide) o8 rfl ?_
  have t0 : (V 241 x1 = 20) → ax_R ay_lay ax_t d m_Model_checkClocks 40 [some (.ref 222), some (ax_i x1), some (ax_i (V 250 x1)), none] [] V (ax_Nr Φ) Θ := fun hk => by
    have h := h.1 hk
    refine ax_mv 2 42 [some (.ref 222), some (ax_i x1), some (ax_i (V 250 x1)), none] [.ref 222, .ref 222] rfl ?_
    refine ax_gR (v := .ref 245) (pc' := 45) ⟨_, rfl⟩ fl_12_77 ay_222 rfl rfl ?_
    refine ax_mv 1 46 [some (.ref 222), some (ax_i x1), some (ax_i (V 250 x1)), none] [ax_i x1, .ref 245, .ref 222] rfl ?_
    obtain ⟨o9, h⟩ := h
    refine ax_ild (n := 701) (pc' := 47) ⟨_, rfl⟩ ay_245 (by decide) o9 rfl ?_
    refine ax_mv 3 50 [some (.ref 222), some (ax_i x1), some (ax_i (V 250 x1)), none] [.ref 222, ax_i (V 250 x1), .ref 222, ax_i (V 245 x1), .ref 222] rfl ?_
    refine ax_gR (v := .ref 248) (pc' := 53) ⟨_, rfl⟩ fl_12_86 ay_222 rfl rfl ?_
    refine ax_mv 1 54 [some (.ref 222), some (ax_i x1), some (ax_i (V 250 x1)), none] [ax_i x1, .ref 248, ax_i (V 250 x1), .ref 222, ax_i (V 245 x1), .ref 222] rfl ?_
    obtain ⟨o10, h⟩ := h
    refine ax_ild (n := 701) (pc' := 55) ⟨_, rfl⟩ ay_248 (by decide) o10 rfl ?_
    refine ax_callI (pc' := 58) ⟨_, rfl⟩ ml_12_490 (rest := [ax_i (V 245 x1), .ref 222]) rfl (fun ss hs => ⟨_, _, ay_222 ss hs⟩) (Nat.le_of_ble_eq_true rfl) rfl rfl h (fun r1 V1 hg1 hr1 h => ?_)
    refine ax_callN (pc' := 61) ⟨_, rfl⟩ ml_12_497 (rest := []) rfl (fun ss hs => ⟨_, _, ay_222 ss hs⟩) (Nat.le_of_ble_eq_true rfl) rfl rfl h (fun V2 hg2 h => ?_)
    refine ax_mv 1 231 [some (.ref 222), some (ax_i x1), some (ax_i (V 250 x1)), none] [] rfl ?_
    exact ax_nret ⟨_, rfl⟩ rfl hg2 h
  have t1 : (V 241 x1 = 21) → ax_R ay_lay ax_t d m_Model_checkClocks 64 [some (.ref 222), some (ax_i x1), some (ax_i (V 250 x1)), none] [] V (ax_Nr Φ) Θ := fun hk => by
    have h := h.2.1 hk
    refine ax_mv 2 66 [some (.ref 222), some (ax_i x1), some (ax_i (V 250 x1)), none] [.ref 222, .ref 222] rfl ?_
    refine ax_gR (v := .ref 245) (pc' := 69) ⟨_, rfl⟩ fl_12_77 ay_222 rfl rfl ?_
    refine ax_mv 1 70 [some (.ref 222), some (ax_i x1), some (ax_i (V 250 x1)), none] [ax_i x1, .ref 245, .ref 222] rfl ?_
    obtain ⟨o11, h⟩ := h
    refine ax_ild (n := 701) (pc' := 71) ⟨_, rfl⟩ ay_245 (by decide) o11 rfl ?_
    refine ax_mv 2 73 [some (.ref 222), some (ax_i x1), some (ax_i (V 250 x1)), none] [.ref 222, ax_i 2, ax_i (V 245 x1), .ref 222] rfl ?_
    refine ax_gR (v := .ref 248) (pc' := 76) ⟨_, rfl⟩ fl_12_86 ay_222 rfl rfl ?_
    refine ax_mv 1 77 [some (.ref 222), some (ax_i x1), some (ax_i (V 250 x1)), none] [ax_i x1, .ref 248, ax_i 2, ax_i (V 245 x1), .ref 222] rfl ?_
    obtain ⟨o12, h⟩ := h
    refine ax_ild (n := 701) (pc' := 78) ⟨_, rfl⟩ ay_248 (by decide) o12 rfl ?_
    refine ax_mul (pc' := 79) ⟨_, rfl⟩ rfl ?_
    refine ax_mv 1 80 [some (.ref 222), some (ax_i x1), some (ax_i (V 250 x1)), none] [ax_i 1, ax_i (2 * (V 248 x1)), ax_i (V 245 x1), .ref 222] rfl ?_
    refine ax_add (pc' := 81) ⟨_, rfl⟩ rfl ?_
    refine ax_callN (pc' := 84) ⟨_, rfl⟩ ml_12_497 (rest := []) rfl (fun ss hs => ⟨_, _, ay_222 ss hs⟩) (Nat.le_of_ble_eq_true rfl) rfl rfl h (fun V3 hg3 h => ?_)
    refine ax_mv 2 86 [some (.ref 222), some (ax_i x1), some (ax_i (V 250 x1)), none] [.ref 222, .ref 222] rfl ?_
    refine ax_gR (v := .ref 246) (pc' := 89) ⟨_, rfl⟩ fl_12_80 ay_222 rfl rfl ?_
    refine ax_mv 1 90 [some (.ref 222), some (ax_i x1), some (ax_i (V 250 x1)), none] [ax_i x1, .ref 246, .ref 222] rfl ?_
    obtain ⟨o13, h⟩ := h
    refine ax_ild (n := 701) (pc' := 91) ⟨_, rfl⟩ ay_246 (by decide) o13 rfl ?_
    refine ax_mv 2 93 [some (.ref 222), some (ax_i x1), some (ax_i (V 250 x1)), none] [.ref 222, ax_i 2, ax_i (V3 246 x1), .ref 222] rfl ?_
    refine ax_gR (v := .ref 248) (pc' := 96) ⟨_, rfl⟩ fl_12_86 ay_222 rfl rfl ?_
    refine ax_mv 1 97 [some (.ref 222), some (ax_i x1), some (ax_i (V 250 x1)), none] [ax_i x1, .ref 248, ax_i 2, ax_i (V3 246 x1), .ref 222] rfl ?_
    obtain ⟨o14, h⟩ := h
    refine ax_ild (n := 701) (pc' := 98) ⟨_, rfl⟩ ay_248 (by decide) o14 rfl ?_
    refine ax_mul (pc' := 99) ⟨_, rfl⟩ rfl ?_
    refine ax_mv 1 100 [some (.ref 222), some (ax_i x1), some (ax_i (V 250 x1)), none] [ax_i 2, ax_i (2 * (V3 248 x1)), ax_i (V3 246 x1), .ref 222] rfl ?_
    refine ax_add (pc' := 101) ⟨_, rfl⟩ rfl ?_
    refine ax_callN (pc' := 104) ⟨_, rfl⟩ ml_12_497 (rest := []) rfl (fun ss hs => ⟨_, _, ay_222 ss hs⟩) (Nat.le_of_ble_eq_true rfl) rfl rfl h (fun V4 hg4 h => ?_)
    refine ax_mv 1 231 [some (.ref 222), some (ax_i x1), some (ax_i (V 250 x1)), none] [] rfl ?_
    exact ax_nret ⟨_, rfl⟩ rfl hg4 h
  have t2 : (V 241 x1 = 22) → ax_R ay_lay ax_t d m_Model_checkClocks 107 [some (.ref 222), some (ax_i x1), some (ax_i (V 250 x1)), none] [] V (ax_Nr Φ) Θ := fun hk => by
    have h := h.2.2.1 hk
    refine ax_mv 1 108 [some (.ref 222), some (ax_i x1), some (ax_i (V 250 x1)), none] [.ref 222] rfl ?_
    refine ax_gR (v := .ref 245) (pc' := 111) ⟨_, rfl⟩ fl_12_77 ay_222 rfl rfl ?_
    refine ax_mv 1 112 [some (.ref 222), some (ax_i x1), some (ax_i (V 250 x1)), none] [ax_i x1, .ref 245] rfl ?_
    obtain ⟨o15, h⟩ := h
    refine ax_ild (n := 701) (pc' := 113) ⟨_, rfl⟩ ay_245 (by decide) o15 rfl ?_
    refine ax_sti (i := 0) (k := 3) (n := 1) (pc' := 114) (L' := [some (.ref 222), some (ax_i x1), some (ax_i (V 250 x1)), some (ax_i (V 245 x1))]) ⟨_, rfl⟩ rfl rfl rfl (Nat.le_of_ble_eq_true rfl) rfl rfl ?_
    exact h
  have tD : ¬ V 241 x1 = 20 → ¬ V 241 x1 = 21 → ¬ V 241 x1 = 22 → ax_R ay_lay ax_t d m_Model_checkClocks 183 [some (.ref 222), some (ax_i x1), some (ax_i (V 250 x1)), none] [] V (ax_Nr Φ) Θ := fun n0 n1 n2 => by
    have h := h.2.2.2 n0 n1 n2
    refine ax_mv 2 185 [some (.ref 222), some (ax_i x1), some (ax_i (V 250 x1)), none] [.ref 222, .ref 222] rfl ?_
    refine ax_gR (v := .ref 245) (pc' := 188) ⟨_, rfl⟩ fl_12_77 ay_222 rfl rfl ?_
    refine ax_mv 1 189 [some (.ref 222), some (ax_i x1), some (ax_i (V 250 x1)), none] [ax_i x1, .ref 245, .ref 222] rfl ?_
    obtain ⟨o16, h⟩ := h
    refine ax_ild (n := 701) (pc' := 190) ⟨_, rfl⟩ ay_245 (by decide) o16 rfl ?_
    refine ax_mv 1 191 [some (.ref 222), some (ax_i x1), some (ax_i (V 250 x1)), none] [.ref 222, ax_i (V 245 x1), .ref 222] rfl ?_
    refine ax_gR (v := .ref 254) (pc' := 194) ⟨_, rfl⟩ fl_12_104 ay_222 rfl rfl ?_
    refine ax_mv 1 195 [some (.ref 222), some (ax_i x1), some (ax_i (V 250 x1)), none] [ax_i x1, .ref 254, ax_i (V 245 x1), .ref 222] rfl ?_
    obtain ⟨o17, h⟩ := h
    refine ax_ild (n := 701) (pc' := 196) ⟨_, rfl⟩ ay_254 (by decide) o17 rfl ?_
    refine ax_callN (pc' := 199) ⟨_, rfl⟩ ml_12_497 (rest := []) rfl (fun ss hs => ⟨_, _, ay_222 ss hs⟩) (Nat.le_of_ble_eq_true rfl) rfl rfl h (fun V5 hg5 h => ?_)
    refine ax_mv 2 201 [some (.ref 222), some (ax_i x1), some (ax_i (V 250 x1)), none] [.ref 222, .ref 222] rfl ?_
    refine ax_gR (v := .ref 246) (pc' := 204) ⟨_, rfl⟩ fl_12_80 ay_222 rfl rfl ?_
    refine ax_mv 1 205 [some (.ref 222), some (ax_i x1), some (ax_i (V 250 x1)), none] [ax_i x1, .ref 246, .ref 222] rfl ?_
    obtain ⟨o18, h⟩ := h
    refine ax_ild (n := 701) (pc' := 206) ⟨_, rfl⟩ ay_246 (by decide) o18 rfl ?_
    refine ax_mv 1 207 [some (.ref 222), some (ax_i x1), some (ax_i (V 250 x1)), none] [.ref 222, ax_i (V5 246 x1), .ref 222] rfl ?_
    refine ax_gR (v := .ref 254) (pc' := 210) ⟨_, rfl⟩ fl_12_104 ay_222 rfl rfl ?_
    refine ax_mv 1 211 [some (.ref 222), some (ax_i x1), some (ax_i (V 250 x1)), none] [ax_i x1, .ref 254, ax_i (V5 246 x1), .ref 222] rfl ?_
    obtain ⟨o19, h⟩ := h
    refine ax_ild (n := 701) (pc' := 212) ⟨_, rfl⟩ ay_254 (by decide) o19 rfl ?_
    refine ax_callN (pc' := 215) ⟨_, rfl⟩ ml_12_497 (rest := []) rfl (fun ss hs => ⟨_, _, ay_222 ss hs⟩) (Nat.le_of_ble_eq_true rfl) rfl rfl h (fun V6 hg6 h => ?_)
    refine ax_mv 2 217 [some (.ref 222), some (ax_i x1), some (ax_i (V 250 x1)), none] [.ref 222, .ref 222] rfl ?_
    refine ax_gR (v := .ref 247) (pc' := 220) ⟨_, rfl⟩ fl_12_83 ay_222 rfl rfl ?_
    refine ax_mv 1 221 [some (.ref 222), some (ax_i x1), some (ax_i (V 250 x1)), none] [ax_i x1, .ref 247, .ref 222] rfl ?_
    obtain ⟨o20, h⟩ := h
    refine ax_ild (n := 701) (pc' := 222) ⟨_, rfl⟩ ay_247 (by decide) o20 rfl ?_
    refine ax_mv 1 223 [some (.ref 222), some (ax_i x1), some (ax_i (V 250 x1)), none] [.ref 222, ax_i (V6 247 x1), .ref 222] rfl ?_
    refine ax_gR (v := .ref 254) (pc' := 226) ⟨_, rfl⟩ fl_12_104 ay_222 rfl rfl ?_
    refine ax_mv 1 227 [some (.ref 222), some (ax_i x1), some (ax_i (V 250 x1)), none] [ax_i x1, .ref 254, ax_i (V6 247 x1), .ref 222] rfl ?_
    obtain ⟨o21, h⟩ := h
    refine ax_ild (n := 701) (pc' := 228) ⟨_, rfl⟩ ay_254 (by decide) o21 rfl ?_
    refine ax_callN (pc' := 231) ⟨_, rfl⟩ ml_12_497 (rest := []) rfl (fun ss hs => ⟨_, _, ay_222 ss hs⟩) (Nat.le_of_ble_eq_true rfl) rfl rfl h (fun V7 hg7 h => ?_)
    exact ax_nret ⟨_, rfl⟩ rfl hg7 h
  by_cases e20 : V 241 x1 = 20
  · exact ax_tsC (off := 27) (p1 := 40) ⟨_, rfl⟩ (hg _ _) (by omega) (by omega) (by rw [e20]; rfl) (by decide) (t0 (e20))
  by_cases e21 : V 241 x1 = 21
  · exact ax_tsC (off := 51) (p1 := 64) ⟨_, rfl⟩ (hg _ _) (by omega) (by omega) (by rw [e21]; rfl) (by decide) (t1 (e21))
  by_cases e22 : V 241 x1 = 22
  · exact ax_tsC (off := 94) (p1 := 107) ⟨_, rfl⟩ (hg _ _) (by omega) (by omega) (by rw [e22]; rfl) (by decide) (t2 (e22))
  exact ax_tsD (p1 := 183) ⟨_, rfl⟩ (hg _ _) (by omega) (by decide) (tD e20 e21 e22)
theorem r_Model_mustBeOn {d : Nat} {V : ax_V} {Φ : ax_V → Prop} {Θ : ax_V → Prop} {x1 : Int} {x2 : Int} (hg : ax_g V) (hx1 : ax_rg x1) (hx2 : ax_rg x2) (h : ((x1 = -1 → Φ V) ∧ (¬ x1 = -1 → (0 ≤ x1 ∧ x1 < 701) ∧ ((V 254 x1 = -1 → Φ V) ∧ (¬ V 254 x1 = -1 → (0 ≤ x1 ∧ x1 < 701) ∧ ((V 254 x1 = x2 → Φ V) ∧ (¬ V 254 x1 = x2 → (0 ≤ x1 ∧ x1 < 701) ∧ ax_N ay_lay d q_Model_note [.ref 222, ax_i (V 242 x1)] V (fun V1 => Φ V1) Θ))))))) : ax_N ay_lay (d + 1) q_Model_mustBeOn [.ref 222, ax_i x1, ax_i x2] V Φ Θ := by
  refine ax_T.of (M := m_Model_mustBeOn) rfl (Nat.le_of_ble_eq_true rfl) ?_
  refine ax_mv 0 0 [some (.ref 222), some (ax_i x1), some (ax_i x2)] [] rfl ?_
  refine ax_mv 2 2 [some (.ref 222), some (ax_i x1), some (ax_i x2)] [ax_i (-1), ax_i x1] rfl ?_
  refine ax_if2 (p1 := 35) (p2 := 5) ⟨_, rfl⟩ (by decide) rfl hx1 (by decide) (fun hc => ?_) (fun hc => ?_)
  · have h := h.1 hc
    exact ax_nret ⟨_, rfl⟩ rfl hg h
  · have h := h.2 hc
    refine ax_mv 1 6 [some (.ref 222), some (ax_i x1), some (ax_i x2)] [.ref 222] rfl ?_
    refine ax_gR (v := .ref 254) (pc' := 9) ⟨_, rfl⟩ fl_12_104 ay_222 rfl rfl ?_
    refine ax_mv 1 10 [some (.ref 222), some (ax_i x1), some (ax_i x2)] [ax_i x1, .ref 254] rfl ?_
    obtain ⟨o1, h⟩ := h
    refine ax_ild (n := 701) (pc' := 11) ⟨_, rfl⟩ ay_254 (by decide) o1 rfl ?_
    refine ax_mv 1 12 [some (.ref 222), some (ax_i x1), some (ax_i x2)] [ax_i (-1), ax_i (V 254 x1)] rfl ?_
    refine ax_if2 (p1 := 35) (p2 := 15) ⟨_, rfl⟩ (by decide) rfl (hg _ _) (by decide) (fun hc => ?_) (fun hc => ?_)
    · have h := h.1 hc
      exact ax_nret ⟨_, rfl⟩ rfl hg h
    · have h := h.2 hc
      refine ax_mv 1 16 [some (.ref 222), some (ax_i x1), some (ax_i x2)] [.ref 222] rfl ?_
      refine ax_gR (v := .ref 254) (pc' := 19) ⟨_, rfl⟩ fl_12_104 ay_222 rfl rfl ?_
      refine ax_mv 1 20 [some (.ref 222), some (ax_i x1), some (ax_i x2)] [ax_i x1, .ref 254] rfl ?_
      obtain ⟨o2, h⟩ := h
      refine ax_ild (n := 701) (pc' := 21) ⟨_, rfl⟩ ay_254 (by decide) o2 rfl ?_
      refine ax_mv 1 22 [some (.ref 222), some (ax_i x1), some (ax_i x2)] [ax_i x2, ax_i (V 254 x1)] rfl ?_
      refine ax_if2 (p1 := 35) (p2 := 25) ⟨_, rfl⟩ (by decide) rfl (hg _ _) hx2 (fun hc => ?_) (fun hc => ?_)
      · have h := h.1 hc
        exact ax_nret ⟨_, rfl⟩ rfl hg h
      · have h := h.2 hc
        refine ax_mv 2 27 [some (.ref 222), some (ax_i x1), some (ax_i x2)] [.ref 222, .ref 222] rfl ?_
        refine ax_gR (v := .ref 242) (pc' := 30) ⟨_, rfl⟩ fl_12_68 ay_222 rfl rfl ?_
        refine ax_mv 1 31 [some (.ref 222), some (ax_i x1), some (ax_i x2)] [ax_i x1, .ref 242, .ref 222] rfl ?_
        obtain ⟨o3, h⟩ := h
        refine ax_ild (n := 701) (pc' := 32) ⟨_, rfl⟩ ay_242 (by decide) o3 rfl ?_
        refine ax_callN (pc' := 35) ⟨_, rfl⟩ ml_12_433 (rest := []) rfl (fun ss hs => ⟨_, _, ay_222 ss hs⟩) (Nat.le_of_ble_eq_true rfl) rfl rfl h (fun V1 hg1 h => ?_)
        exact ax_nret ⟨_, rfl⟩ rfl hg1 h
abbrev k_Model_checkEquationClock_21 (d : Nat) (x1 : Int) (x2 : Int) (x3 : Int) (x4 : Int) (y5 : Option Value) (V : ax_V) (Φ : ax_V → Prop) (Θ : ax_V → Prop) : Prop := ax_R ay_lay ax_t d m_Model_checkEquationClock 21 [some (.ref 222), some (ax_i x1), some (ax_i x2), some (ax_i x3), some (ax_i x4), y5] [] V (ax_Nr Φ) Θ
set_option maxRecDepth 20000 in
theorem r_Model_checkEquationClock_21 {d : Nat} {V : ax_V} {Φ : ax_V → Prop} {Θ : ax_V → Prop} {x1 : Int} {x2 : Int} {x3 : Int} {x4 : Int} {y5 : Option Value} (hg : ax_g V) (hx1 : ax_rg x1) (hx2 : ax_rg x2) (hx3 : ax_rg x3) (hx4 : ax_rg x4) (hy5 : ax_y y5) (h : (0 ≤ x1 ∧ x1 < 351) ∧ (0 ≤ x1 ∧ x1 < 351) ∧ ax_rg ((V 259 x1) + (V 260 x1)) ∧ (((V 259 x1) + (V 260 x1) ≤ x4 → (0 ≤ x1 ∧ x1 < 351) ∧ ax_N ay_lay d q_Model_mustBeOn [.ref 222, ax_i (V 262 x1), ax_i x3] V (fun V1 => Φ V1) Θ) ∧ (x4 < (V 259 x1) + (V 260 x1) → (0 ≤ x4 ∧ x4 < 701) ∧ (0 ≤ (26 * x2) + (V 265 x4) ∧ (26 * x2) + (V 265 x4) < 240) ∧ (0 ≤ x1 ∧ x1 < 351) ∧ ((V 263 x1 = -1 → ((V 235 ((26 * x2) + (V 265 x4)) = x3 → k_Model_checkEquationClock_21 d x1 x2 x3 (x4 + 1) (some (ax_i (V 235 ((26 * x2) + (V 265 x4))))) V Φ Θ) ∧ (¬ V 235 ((26 * x2) + (V 265 x4)) = x3 → (0 ≤ x4 ∧ x4 < 701) ∧ ax_N ay_lay d q_Model_note [.ref 222, ax_i (V 266 x4)] V (fun V2 => k_Model_checkEquationClock_21 d x1 x2 x3 (x4 + 1) (some (ax_i (V 235 ((26 * x2) + (V 265 x4))))) V2 Φ Θ) Θ))) ∧ (¬ V 263 x1 = -1 → ((V 235 ((26 * x2) + (V 265 x4)) = 0 → k_Model_checkEquationClock_21 d x1 x2 x3 (x4 + 1) (some (ax_i (V 235 ((26 * x2) + (V 265 x4))))) V Φ Θ) ∧ (¬ V 235 ((26 * x2) + (V 265 x4)) = 0 → (0 ≤ x4 ∧ x4 < 701) ∧ ax_N ay_lay d q_Model_note [.ref 222, ax_i (V 266 x4)] V (fun V3 => k_Model_checkEquationClock_21 d x1 x2 x3 (x4 + 1) (some (ax_i (V 235 ((26 * x2) + (V 265 x4))))) V3 Φ Θ) Θ))))))) : k_Model_checkEquationClock_21 d x1 x2 x3 x4 y5 V Φ Θ := by
  refine ax_mv 2 24 [some (.ref 222), some (ax_i x1), some (ax_i x2), some (ax_i x3), some (ax_i x4), y5] [.ref 222, ax_i x4] rfl ?_
  refine ax_gR (v := .ref 259) (pc' := 27) ⟨_, rfl⟩ fl_12_119 ay_222 rfl rfl ?_
  refine ax_mv 1 28 [some (.ref 222), some (ax_i x1), some (ax_i x2), some (ax_i x3), some (ax_i x4), y5] [ax_i x1, .ref 259, ax_i x4] rfl ?_
  obtain ⟨o1, h⟩ := h
  refine ax_ild (n := 351) (pc' := 29) ⟨_, rfl⟩ ay_259 (by decide) o1 rfl ?_
  refine ax_mv 1 30 [some (.ref 222), some (ax_i x1), some (ax_i x2), some (ax_i x3), some (ax_i x4), y5] [.ref 222, ax_i (V 259 x1), ax_i x4] rfl ?_
  refine ax_gR (v := .ref 260) (pc' := 33) ⟨_, rfl⟩ fl_12_122 ay_222 rfl rfl ?_
  refine ax_mv 1 34 [some (.ref 222), some (ax_i x1), some (ax_i x2), some (ax_i x3), some (ax_i x4), y5] [ax_i x1, .ref 260, ax_i (V 259 x1), ax_i x4] rfl ?_
  obtain ⟨o2, h⟩ := h
  refine ax_ild (n := 351) (pc' := 35) ⟨_, rfl⟩ ay_260 (by decide) o2 rfl ?_
  refine ax_add (pc' := 36) ⟨_, rfl⟩ rfl ?_
  obtain ⟨o3, h⟩ := h
  refine ax_if2 (p1 := 99) (p2 := 39) ⟨_, rfl⟩ (by decide) rfl hx4 o3 (fun hc => ?_) (fun hc => ?_)
  · have h := h.1 hc
    refine ax_mv 2 101 [some (.ref 222), some (ax_i x1), some (ax_i x2), some (ax_i x3), some (ax_i x4), y5] [.ref 222, .ref 222] rfl ?_
    refine ax_gR (v := .ref 262) (pc' := 104) ⟨_, rfl⟩ fl_12_128 ay_222 rfl rfl ?_
    refine ax_mv 1 105 [some (.ref 222), some (ax_i x1), some (ax_i x2), some (ax_i x3), some (ax_i x4), y5] [ax_i x1, .ref 262, .ref 222] rfl ?_
    obtain ⟨o4, h⟩ := h
    refine ax_ild (n := 351) (pc' := 106) ⟨_, rfl⟩ ay_262 (by decide) o4 rfl ?_
    refine ax_mv 1 107 [some (.ref 222), some (ax_i x1), some (ax_i x2), some (ax_i x3), some (ax_i x4), y5] [ax_i x3, ax_i (V 262 x1), .ref 222] rfl ?_
    refine ax_callN (pc' := 110) ⟨_, rfl⟩ ml_12_497 (rest := []) rfl (fun ss hs => ⟨_, _, ay_222 ss hs⟩) (Nat.le_of_ble_eq_true rfl) rfl rfl h (fun V1 hg1 h => ?_)
    exact ax_nret ⟨_, rfl⟩ rfl hg1 h
  · have h := h.2 (Int.not_le.mp hc)
    refine ax_mv 1 40 [some (.ref 222), some (ax_i x1), some (ax_i x2), some (ax_i x3), some (ax_i x4), y5] [.ref 222] rfl ?_
    refine ax_gR (v := .ref 235) (pc' := 43) ⟨_, rfl⟩ fl_12_46 ay_222 rfl rfl ?_
    refine ax_bip (pc' := 45) ⟨_, rfl⟩ (by decide) rfl ?_
    refine ax_mv 1 46 [some (.ref 222), some (ax_i x1), some (ax_i x2), some (ax_i x3), some (ax_i x4), y5] [ax_i x2, ax_i 26, .ref 235] rfl ?_
    refine ax_mul (pc' := 47) ⟨_, rfl⟩ rfl ?_
    refine ax_mv 1 48 [some (.ref 222), some (ax_i x1), some (ax_i x2), some (ax_i x3), some (ax_i x4), y5] [.ref 222, ax_i (26 * x2), .ref 235] rfl ?_
    refine ax_gR (v := .ref 265) (pc' := 51) ⟨_, rfl⟩ fl_12_137 ay_222 rfl rfl ?_
    refine ax_mv 1 53 [some (.ref 222), some (ax_i x1), some (ax_i x2), some (ax_i x3), some (ax_i x4), y5] [ax_i x4, .ref 265, ax_i (26 * x2), .ref 235] rfl ?_
    obtain ⟨o5, h⟩ := h
    refine ax_ild (n := 701) (pc' := 54) ⟨_, rfl⟩ ay_265 (by decide) o5 rfl ?_
    refine ax_add (pc' := 55) ⟨_, rfl⟩ rfl ?_
    obtain ⟨o6, h⟩ := h
    refine ax_ild (n := 240) (pc' := 56) ⟨_, rfl⟩ ay_235 (by decide) o6 rfl ?_
    refine ax_sti (i := 0) (k := 5) (n := 2) (pc' := 58) (L' := [some (.ref 222), some (ax_i x1), some (ax_i x2), some (ax_i x3), some (ax_i x4), some (ax_i (V 235 ((26 * x2) + (V 265 x4))))]) ⟨_, rfl⟩ rfl rfl rfl (Nat.le_of_ble_eq_true rfl) rfl rfl ?_
    refine ax_mv 1 59 [some (.ref 222), some (ax_i x1), some (ax_i x2), some (ax_i x3), some (ax_i x4), some (ax_i (V 235 ((26 * x2) + (V 265 x4))))] [.ref 222] rfl ?_
    refine ax_gR (v := .ref 263) (pc' := 62) ⟨_, rfl⟩ fl_12_131 ay_222 rfl rfl ?_
    refine ax_mv 1 63 [some (.ref 222), some (ax_i x1), some (ax_i x2), some (ax_i x3), some (ax_i x4), some (ax_i (V 235 ((26 * x2) + (V 265 x4))))] [ax_i x1, .ref 263] rfl ?_
    obtain ⟨o7, h⟩ := h
    refine ax_ild (n := 351) (pc' := 64) ⟨_, rfl⟩ ay_263 (by decide) o7 rfl ?_
    refine ax_mv 1 65 [some (.ref 222), some (ax_i x1), some (ax_i x2), some (ax_i x3), some (ax_i x4), some (ax_i (V 235 ((26 * x2) + (V 265 x4))))] [ax_i (-1), ax_i (V 263 x1)] rfl ?_
    refine ax_if2 (p1 := 76) (p2 := 68) ⟨_, rfl⟩ (by decide) rfl (hg _ _) (by decide) (fun hc => ?_) (fun hc => ?_)
    · have h := h.1 hc
      refine ax_mv 2 79 [some (.ref 222), some (ax_i x1), some (ax_i x2), some (ax_i x3), some (ax_i x4), some (ax_i (V 235 ((26 * x2) + (V 265 x4))))] [ax_i x3, ax_i (V 235 ((26 * x2) + (V 265 x4)))] rfl ?_
      refine ax_if2 (p1 := 93) (p2 := 82) ⟨_, rfl⟩ (by decide) rfl (hg _ _) hx3 (fun hc => ?_) (fun hc => ?_)
      · have h := h.1 hc
        refine ax_inc (x := x4) (pc' := 96) (L' := [some (.ref 222), some (ax_i x1), some (ax_i x2), some (ax_i x3), some (ax_i (x4 + 1)), some (ax_i (V 235 ((26 * x2) + (V 265 x4))))]) ⟨_, rfl⟩ rfl rfl rfl rfl ?_
        refine ax_mv 1 21 [some (.ref 222), some (ax_i x1), some (ax_i x2), some (ax_i x3), some (ax_i (x4 + 1)), some (ax_i (V 235 ((26 * x2) + (V 265 x4))))] [] rfl ?_
        exact h
      · have h := h.2 hc
        refine ax_mv 2 84 [some (.ref 222), some (ax_i x1), some (ax_i x2), some (ax_i x3), some (ax_i x4), some (ax_i (V 235 ((26 * x2) + (V 265 x4))))] [.ref 222, .ref 222] rfl ?_
        refine ax_gR (v := .ref 266) (pc' := 87) ⟨_, rfl⟩ fl_12_140 ay_222 rfl rfl ?_
        refine ax_mv 1 89 [some (.ref 222), some (ax_i x1), some (ax_i x2), some (ax_i x3), some (ax_i x4), some (ax_i (V 235 ((26 * x2) + (V 265 x4))))] [ax_i x4, .ref 266, .ref 222] rfl ?_
        obtain ⟨o8, h⟩ := h
        refine ax_ild (n := 701) (pc' := 90) ⟨_, rfl⟩ ay_266 (by decide) o8 rfl ?_
        refine ax_callN (pc' := 93) ⟨_, rfl⟩ ml_12_433 (rest := []) rfl (fun ss hs => ⟨_, _, ay_222 ss hs⟩) (Nat.le_of_ble_eq_true rfl) rfl rfl h (fun V2 hg2 h => ?_)
        refine ax_inc (x := x4) (pc' := 96) (L' := [some (.ref 222), some (ax_i x1), some (ax_i x2), some (ax_i x3), some (ax_i (x4 + 1)), some (ax_i (V 235 ((26 * x2) + (V 265 x4))))]) ⟨_, rfl⟩ rfl rfl rfl rfl ?_
        refine ax_mv 1 21 [some (.ref 222), some (ax_i x1), some (ax_i x2), some (ax_i x3), some (ax_i (x4 + 1)), some (ax_i (V 235 ((26 * x2) + (V 265 x4))))] [] rfl ?_
        exact h
    · have h := h.2 hc
      refine ax_mv 1 70 [some (.ref 222), some (ax_i x1), some (ax_i x2), some (ax_i x3), some (ax_i x4), some (ax_i (V 235 ((26 * x2) + (V 265 x4))))] [ax_i (V 235 ((26 * x2) + (V 265 x4)))] rfl ?_
      refine ax_if (p1 := 93) (p2 := 73) ⟨_, rfl⟩ (by decide) rfl (hg _ _) (fun hc => ?_) (fun hc => ?_)
      · have h := h.1 hc
        refine ax_inc (x := x4) (pc' := 96) (L' := [some (.ref 222), some (ax_i x1), some (ax_i x2), some (ax_i x3), some (ax_i (x4 + 1)), some (ax_i (V 235 ((26 * x2) + (V 265 x4))))]) ⟨_, rfl⟩ rfl rfl rfl rfl ?_
        refine ax_mv 1 21 [some (.ref 222), some (ax_i x1), some (ax_i x2), some (ax_i x3), some (ax_i (x4 + 1)), some (ax_i (V 235 ((26 * x2) + (V 265 x4))))] [] rfl ?_
        exact h
      · have h := h.2 hc
        refine ax_mv 3 84 [some (.ref 222), some (ax_i x1), some (ax_i x2), some (ax_i x3), some (ax_i x4), some (ax_i (V 235 ((26 * x2) + (V 265 x4))))] [.ref 222, .ref 222] rfl ?_
        refine ax_gR (v := .ref 266) (pc' := 87) ⟨_, rfl⟩ fl_12_140 ay_222 rfl rfl ?_
        refine ax_mv 1 89 [some (.ref 222), some (ax_i x1), some (ax_i x2), some (ax_i x3), some (ax_i x4), some (ax_i (V 235 ((26 * x2) + (V 265 x4))))] [ax_i x4, .ref 266, .ref 222] rfl ?_
        obtain ⟨o9, h⟩ := h
        refine ax_ild (n := 701) (pc' := 90) ⟨_, rfl⟩ ay_266 (by decide) o9 rfl ?_
        refine ax_callN (pc' := 93) ⟨_, rfl⟩ ml_12_433 (rest := []) rfl (fun ss hs => ⟨_, _, ay_222 ss hs⟩) (Nat.le_of_ble_eq_true rfl) rfl rfl h (fun V3 hg3 h => ?_)
        refine ax_inc (x := x4) (pc' := 96) (L' := [some (.ref 222), some (ax_i x1), some (ax_i x2), some (ax_i x3), some (ax_i (x4 + 1)), some (ax_i (V 235 ((26 * x2) + (V 265 x4))))]) ⟨_, rfl⟩ rfl rfl rfl rfl ?_
        refine ax_mv 1 21 [some (.ref 222), some (ax_i x1), some (ax_i x2), some (ax_i x3), some (ax_i (x4 + 1)), some (ax_i (V 235 ((26 * x2) + (V 265 x4))))] [] rfl ?_
        exact h
set_option maxRecDepth 20000 in
theorem r_Model_checkEquationClock {d : Nat} {V : ax_V} {Φ : ax_V → Prop} {Θ : ax_V → Prop} {x1 : Int} (hg : ax_g V) (hx1 : ax_rg x1) (h : (0 ≤ x1 ∧ x1 < 351) ∧ ax_I ay_lay d q_Model_eqClock [.ref 222, ax_i x1] V (fun r1 V1 => (0 ≤ x1 ∧ x1 < 351) ∧ k_Model_checkEquationClock_21 d x1 (V 258 x1) r1 (V1 259 x1) none V1 Φ Θ) Θ) : ax_N ay_lay (d + 1) q_Model_checkEquationClock [.ref 222, ax_i x1] V Φ Θ := by
  refine ax_T.of (M := m_Model_checkEquationClock) rfl (Nat.le_of_ble_eq_true rfl) ?_
  refine ax_mv 0 0 [some (.ref 222), some (ax_i x1), none, none, none, none] [] rfl ?_
  refine ax_mv 1 1 [some (.ref 222), some (ax_i x1), none, none, none, none] [.ref 222] rfl ?_
  refine ax_gR (v := .ref 258) (pc' := 4) ⟨_, rfl⟩ fl_12_116 ay_222 rfl rfl ?_
  refine ax_mv 1 5 [some (.ref 222), some (ax_i x1), none, none, none, none] [ax_i x1, .ref 258] rfl ?_
  obtain ⟨o10, h⟩ := h
  refine ax_ild (n := 351) (pc' := 6) ⟨_, rfl⟩ ay_258 (by decide) o10 rfl ?_
  refine ax_sti (i := 0) (k := 2) (n := 1) (pc' := 7) (L' := [some (.ref 222), some (ax_i x1), some (ax_i (V 258 x1)), none, none, none]) ⟨_, rfl⟩ rfl rfl rfl (Nat.le_of_ble_eq_true rfl) rfl rfl ?_
  refine ax_mv 2 9 [some (.ref 222), some (ax_i x1), some (ax_i (V 258 x1)), none, none, none] [ax_i x1, .ref 222] rfl ?_
  refine ax_callI (pc' := 12) ⟨_, rfl⟩ ml_12_500 (rest := []) rfl (fun ss hs => ⟨_, _, ay_222 ss hs⟩) (Nat.le_of_ble_eq_true rfl) rfl rfl h (fun r1 V1 hg1 hr1 h => ?_)
  refine ax_sti (i := 0) (k := 3) (n := 1) (pc' := 13) (L' := [some (.ref 222), some (ax_i x1), some (ax_i (V 258 x1)), some (ax_i r1), none, none]) ⟨_, rfl⟩ rfl rfl rfl (Nat.le_of_ble_eq_true rfl) rfl rfl ?_
  refine ax_mv 1 14 [some (.ref 222), some (ax_i x1), some (ax_i (V 258 x1)), some (ax_i r1), none, none] [.ref 222] rfl ?_
  refine ax_gR (v := .ref 259) (pc' := 17) ⟨_, rfl⟩ fl_12_119 ay_222 rfl rfl ?_
  refine ax_mv 1 18 [some (.ref 222), some (ax_i x1), some (ax_i (V 258 x1)), some (ax_i r1), none, none] [ax_i x1, .ref 259] rfl ?_
  obtain ⟨o11, h⟩ := h
  refine ax_ild (n := 351) (pc' := 19) ⟨_, rfl⟩ ay_259 (by decide) o11 rfl ?_
  refine ax_sti (i := 0) (k := 4) (n := 2) (pc' := 21) (L' := [some (.ref 222), some (ax_i x1), some (ax_i (V 258 x1)), some (ax_i r1), some (ax_i (V1 259 x1)), none]) ⟨_, rfl⟩ rfl rfl rfl (Nat.le_of_ble_eq_true rfl) rfl rfl ?_
  exact h
theorem r_Model_eqClock {d : Nat} {V : ax_V} {Φ : Int → ax_V → Prop} {Θ : ax_V → Prop} {x1 : Int} (hg : ax_g V) (hx1 : ax_rg x1) (h : (0 ≤ x1 ∧ x1 < 351) ∧ ((V 263 x1 = -1 → (0 ≤ x1 ∧ x1 < 351) ∧ (0 ≤ x1 ∧ x1 < 351) ∧ (0 ≤ V 259 x1 ∧ V 259 x1 < 701) ∧ (0 ≤ (26 * (V 258 x1)) + (V 265 (V 259 x1)) ∧ (26 * (V 258 x1)) + (V 265 (V 259 x1)) < 240) ∧ Φ (V 235 ((26 * (V 258 x1)) + (V 265 (V 259 x1)))) V) ∧ (¬ V 263 x1 = -1 → Φ 0 V))) : ax_I ay_lay (d + 1) q_Model_eqClock [.ref 222, ax_i x1] V Φ Θ := by
  refine ax_T.of (M := m_Model_eqClock) rfl (Nat.le_of_ble_eq_true rfl) ?_
  refine ax_mv 0 0 [some (.ref 222), some (ax_i x1)] [] rfl ?_
  refine ax_mv 1 1 [some (.ref 222), some (ax_i x1)] [.ref 222] rfl ?_
  refine ax_gR (v := .ref 263) (pc' := 4) ⟨_, rfl⟩ fl_12_131 ay_222 rfl rfl ?_
  refine ax_mv 1 5 [some (.ref 222), some (ax_i x1)] [ax_i x1, .ref 263] rfl ?_
  obtain ⟨o1, h⟩ := h
  refine ax_ild (n := 351) (pc' := 6) ⟨_, rfl⟩ ay_263 (by decide) o1 rfl ?_
  refine ax_mv 1 7 [some (.ref 222), some (ax_i x1)] [ax_i (-1), ax_i (V 263 x1)] rfl ?_
  refine ax_if2 (p1 := 14) (p2 := 10) ⟨_, rfl⟩ (by decide) rfl (hg _ _) (by decide) (fun hc => ?_) (fun hc => ?_)
  · have h := h.1 hc
    refine ax_mv 1 15 [some (.ref 222), some (ax_i x1)] [.ref 222] rfl ?_
    refine ax_gR (v := .ref 235) (pc' := 18) ⟨_, rfl⟩ fl_12_46 ay_222 rfl rfl ?_
    refine ax_bip (pc' := 20) ⟨_, rfl⟩ (by decide) rfl ?_
    refine ax_mv 1 21 [some (.ref 222), some (ax_i x1)] [.ref 222, ax_i 26, .ref 235] rfl ?_
    refine ax_gR (v := .ref 258) (pc' := 24) ⟨_, rfl⟩ fl_12_116 ay_222 rfl rfl ?_
    refine ax_mv 1 25 [some (.ref 222), some (ax_i x1)] [ax_i x1, .ref 258, ax_i 26, .ref 235] rfl ?_
    obtain ⟨o2, h⟩ := h
    refine ax_ild (n := 351) (pc' := 26) ⟨_, rfl⟩ ay_258 (by decide) o2 rfl ?_
    refine ax_mul (pc' := 27) ⟨_, rfl⟩ rfl ?_
    refine ax_mv 1 28 [some (.ref 222), some (ax_i x1)] [.ref 222, ax_i (26 * (V 258 x1)), .ref 235] rfl ?_
    refine ax_gR (v := .ref 265) (pc' := 31) ⟨_, rfl⟩ fl_12_137 ay_222 rfl rfl ?_
    refine ax_mv 1 32 [some (.ref 222), some (ax_i x1)] [.ref 222, .ref 265, ax_i (26 * (V 258 x1)), .ref 235] rfl ?_
    refine ax_gR (v := .ref 259) (pc' := 35) ⟨_, rfl⟩ fl_12_119 ay_222 rfl rfl ?_
    refine ax_mv 1 36 [some (.ref 222), some (ax_i x1)] [ax_i x1, .ref 259, .ref 265, ax_i (26 * (V 258 x1)), .ref 235] rfl ?_
    obtain ⟨o3, h⟩ := h
    refine ax_ild (n := 351) (pc' := 37) ⟨_, rfl⟩ ay_259 (by decide) o3 rfl ?_
    obtain ⟨o4, h⟩ := h
    refine ax_ild (n := 701) (pc' := 38) ⟨_, rfl⟩ ay_265 (by decide) o4 rfl ?_
    refine ax_add (pc' := 39) ⟨_, rfl⟩ rfl ?_
    obtain ⟨o5, h⟩ := h
    refine ax_ild (n := 240) (pc' := 40) ⟨_, rfl⟩ ay_235 (by decide) o5 rfl ?_
    exact ax_iret ⟨_, rfl⟩ rfl rfl (hg _ _) hg h
  · have h := h.2 hc
    refine ax_mv 2 40 [some (.ref 222), some (ax_i x1)] [ax_i 0] rfl ?_
    exact ax_iret ⟨_, rfl⟩ rfl rfl (by decide) hg h
abbrev k_Model_checkInAutomaton_2 (d : Nat) (y1 : Option Value) (x2 : Int) (x3 : Int) (V : ax_V) (Φ : ax_V → Prop) (Θ : ax_V → Prop) : Prop := ax_R ay_lay ax_t d m_Model_checkInAutomaton 2 [some (.ref 222), y1, some (ax_i x2), some (ax_i x3)] [] V (ax_Nr Φ) Θ
theorem r_Model_checkInAutomaton_2 {d : Nat} {V : ax_V} {Φ : ax_V → Prop} {Θ : ax_V → Prop} {y1 : Option Value} {x2 : Int} {x3 : Int} (hg : ax_g V) (hy1 : ax_y y1) (hx2 : ax_rg x2) (hx3 : ax_rg x3) (h : ((x2 < x3 → Φ V) ∧ (x3 ≤ x2 → (0 ≤ x3 ∧ x3 < 701) ∧ ((V 248 x3 = -1 → k_Model_checkInAutomaton_2 d y1 x2 (x3 + 1) V Φ Θ) ∧ (¬ V 248 x3 = -1 → (0 ≤ x3 ∧ x3 < 701) ∧ (0 ≤ x3 ∧ x3 < 701) ∧ (0 ≤ (26 * (V 250 x3)) + (V 248 x3) ∧ (26 * (V 250 x3)) + (V 248 x3) < 240) ∧ ((V 235 ((26 * (V 250 x3)) + (V 248 x3)) = 0 → k_Model_checkInAutomaton_2 d y1 x2 (x3 + 1) V Φ Θ) ∧ (¬ V 235 ((26 * (V 250 x3)) + (V 248 x3)) = 0 → (0 ≤ x3 ∧ x3 < 701) ∧ ax_N ay_lay d q_Model_note [.ref 222, ax_i (V 244 x3)] V (fun V1 => k_Model_checkInAutomaton_2 d y1 x2 (x3 + 1) V1 Φ Θ) Θ))))))) : k_Model_checkInAutomaton_2 d y1 x2 x3 V Φ Θ := by
  refine ax_mv 2 4 [some (.ref 222), y1, some (ax_i x2), some (ax_i x3)] [ax_i x2, ax_i x3] rfl ?_
  refine ax_if2 (p1 := 57) (p2 := 7) ⟨_, rfl⟩ (by decide) rfl hx3 hx2 (fun hc => ?_) (fun hc => ?_)
  · have h := h.1 hc
    exact ax_nret ⟨_, rfl⟩ rfl hg h
  · have h := h.2 (Int.not_lt.mp hc)
    refine ax_mv 1 8 [some (.ref 222), y1, some (ax_i x2), some (ax_i x3)] [.ref 222] rfl ?_
    refine ax_gR (v := .ref 248) (pc' := 11) ⟨_, rfl⟩ fl_12_86 ay_222 rfl rfl ?_
    refine ax_mv 1 12 [some (.ref 222), y1, some (ax_i x2), some (ax_i x3)] [ax_i x3, .ref 248] rfl ?_
    obtain ⟨o1, h⟩ := h
    refine ax_ild (n := 701) (pc' := 13) ⟨_, rfl⟩ ay_248 (by decide) o1 rfl ?_
    refine ax_mv 1 14 [some (.ref 222), y1, some (ax_i x2), some (ax_i x3)] [ax_i (-1), ax_i (V 248 x3)] rfl ?_
    refine ax_if2 (p1 := 51) (p2 := 17) ⟨_, rfl⟩ (by decide) rfl (hg _ _) (by decide) (fun hc => ?_) (fun hc => ?_)
    · have h := h.1 hc
      refine ax_inc (x := x3) (pc' := 54) (L' := [some (.ref 222), y1, some (ax_i x2), some (ax_i (x3 + 1))]) ⟨_, rfl⟩ rfl rfl rfl rfl ?_
      refine ax_mv 1 2 [some (.ref 222), y1, some (ax_i x2), some (ax_i (x3 + 1))] [] rfl ?_
      exact h
    · have h := h.2 hc
      refine ax_mv 1 18 [some (.ref 222), y1, some (ax_i x2), some (ax_i x3)] [.ref 222] rfl ?_
      refine ax_gR (v := .ref 235) (pc' := 21) ⟨_, rfl⟩ fl_12_46 ay_222 rfl rfl ?_
      refine ax_bip (pc' := 23) ⟨_, rfl⟩ (by decide) rfl ?_
      refine ax_mv 1 24 [some (.ref 222), y1, some (ax_i x2), some (ax_i x3)] [.ref 222, ax_i 26, .ref 235] rfl ?_
      refine ax_gR (v := .ref 250) (pc' := 27) ⟨_, rfl⟩ fl_12_92 ay_222 rfl rfl ?_
      refine ax_mv 1 28 [some (.ref 222), y1, some (ax_i x2), some (ax_i x3)] [ax_i x3, .ref 250, ax_i 26, .ref 235] rfl ?_
      obtain ⟨o2, h⟩ := h
      refine ax_ild (n := 701) (pc' := 29) ⟨_, rfl⟩ ay_250 (by decide) o2 rfl ?_
      refine ax_mul (pc' := 30) ⟨_, rfl⟩ rfl ?_
      refine ax_mv 1 31 [some (.ref 222), y1, some (ax_i x2), some (ax_i x3)] [.ref 222, ax_i (26 * (V 250 x3)), .ref 235] rfl ?_
      refine ax_gR (v := .ref 248) (pc' := 34) ⟨_, rfl⟩ fl_12_86 ay_222 rfl rfl ?_
      refine ax_mv 1 35 [some (.ref 222), y1, some (ax_i x2), some (ax_i x3)] [ax_i x3, .ref 248, ax_i (26 * (V 250 x3)), .ref 235] rfl ?_
      obtain ⟨o3, h⟩ := h
      refine ax_ild (n := 701) (pc' := 36) ⟨_, rfl⟩ ay_248 (by decide) o3 rfl ?_
      refine ax_add (pc' := 37) ⟨_, rfl⟩ rfl ?_
      obtain ⟨o4, h⟩ := h
      refine ax_ild (n := 240) (pc' := 38) ⟨_, rfl⟩ ay_235 (by decide) o4 rfl ?_
      refine ax_if (p1 := 51) (p2 := 41) ⟨_, rfl⟩ (by decide) rfl (hg _ _) (fun hc => ?_) (fun hc => ?_)
      · have h := h.1 hc
        refine ax_inc (x := x3) (pc' := 54) (L' := [some (.ref 222), y1, some (ax_i x2), some (ax_i (x3 + 1))]) ⟨_, rfl⟩ rfl rfl rfl rfl ?_
        refine ax_mv 1 2 [some (.ref 222), y1, some (ax_i x2), some (ax_i (x3 + 1))] [] rfl ?_
        exact h
      · have h := h.2 hc
        refine ax_mv 2 43 [some (.ref 222), y1, some (ax_i x2), some (ax_i x3)] [.ref 222, .ref 222] rfl ?_
        refine ax_gR (v := .ref 244) (pc' := 46) ⟨_, rfl⟩ fl_12_74 ay_222 rfl rfl ?_
        refine ax_mv 1 47 [some (.ref 222), y1, some (ax_i x2), some (ax_i x3)] [ax_i x3, .ref 244, .ref 222] rfl ?_
        obtain ⟨o5, h⟩ := h
        refine ax_ild (n := 701) (pc' := 48) ⟨_, rfl⟩ ay_244 (by decide) o5 rfl ?_
        refine ax_callN (pc' := 51) ⟨_, rfl⟩ ml_12_433 (rest := []) rfl (fun ss hs => ⟨_, _, ay_222 ss hs⟩) (Nat.le_of_ble_eq_true rfl) rfl rfl h (fun V1 hg1 h => ?_)
        refine ax_inc (x := x3) (pc' := 54) (L' := [some (.ref 222), y1, some (ax_i x2), some (ax_i (x3 + 1))]) ⟨_, rfl⟩ rfl rfl rfl rfl ?_
        refine ax_mv 1 2 [some (.ref 222), y1, some (ax_i x2), some (ax_i (x3 + 1))] [] rfl ?_
        exact h
theorem r_Model_checkInAutomaton {d : Nat} {V : ax_V} {Φ : ax_V → Prop} {Θ : ax_V → Prop} {x1 : Int} {x2 : Int} (hg : ax_g V) (hx1 : ax_rg x1) (hx2 : ax_rg x2) (h : k_Model_checkInAutomaton_2 d (some (ax_i x1)) x2 x1 V Φ Θ) : ax_N ay_lay (d + 1) q_Model_checkInAutomaton [.ref 222, ax_i x1, ax_i x2] V Φ Θ := by
  refine ax_T.of (M := m_Model_checkInAutomaton) rfl (Nat.le_of_ble_eq_true rfl) ?_
  refine ax_mv 0 0 [some (.ref 222), some (ax_i x1), some (ax_i x2), none] [] rfl ?_
  refine ax_mv 1 1 [some (.ref 222), some (ax_i x1), some (ax_i x2), none] [ax_i x1] rfl ?_
  refine ax_sti (i := 0) (k := 3) (n := 1) (pc' := 2) (L' := [some (.ref 222), some (ax_i x1), some (ax_i x2), some (ax_i x1)]) ⟨_, rfl⟩ rfl rfl rfl (Nat.le_of_ble_eq_true rfl) rfl rfl ?_
  exact h
abbrev k_Model_checkRings_2 (d : Nat) (x1 : Int) (x2 : Int) (y3 : Option Value) (y4 : Option Value) (y5 : Option Value) (V : ax_V) (Φ : ax_V → Prop) (Θ : ax_V → Prop) : Prop := ax_R ay_lay ax_t d m_Model_checkRings 2 [some (.ref 222), some (ax_i x1), some (ax_i x2), y3, y4, y5] [] V (ax_Nr Φ) Θ
abbrev k_Model_checkRings_38 (d : Nat) (x1 : Int) (x2 : Int) (x3 : Int) (x4 : Int) (x5 : Int) (V : ax_V) (Φ : ax_V → Prop) (Θ : ax_V → Prop) : Prop := ax_R ay_lay ax_t d m_Model_checkRings 38 [some (.ref 222), some (ax_i x1), some (ax_i x2), some (ax_i x3), some (ax_i x4), some (ax_i x5)] [] V (ax_Nr Φ) Θ
set_option maxRecDepth 20000 in
theorem r_Model_checkRings_2 {d : Nat} {V : ax_V} {Φ : ax_V → Prop} {Θ : ax_V → Prop} {x1 : Int} {x2 : Int} {y3 : Option Value} {y4 : Option Value} {y5 : Option Value} (hg : ax_g V) (hx1 : ax_rg x1) (hx2 : ax_rg x2) (hy3 : ax_y y3) (hy4 : ax_y y4) (hy5 : ax_y y5) (h : ((26 ≤ x2 → Φ V) ∧ (x2 < 26 → (0 ≤ (26 * x1) + x2 ∧ (26 * x1) + x2 < 240) ∧ ((V 232 ((26 * x1) + x2) = 0 → k_Model_checkRings_2 d x1 (x2 + 1) (some (ax_i ((26 * x1) + x2))) y4 y5 V Φ Θ) ∧ (¬ V 232 ((26 * x1) + x2) = 0 → (0 ≤ (26 * x1) + x2 ∧ (26 * x1) + x2 < 240) ∧ k_Model_checkRings_38 d x1 x2 ((26 * x1) + x2) (V 235 ((26 * x1) + x2)) 0 V Φ Θ))))) : k_Model_checkRings_2 d x1 x2 y3 y4 y5 V Φ Θ := by
  refine ax_mv 1 3 [some (.ref 222), some (ax_i x1), some (ax_i x2), y3, y4, y5] [ax_i x2] rfl ?_
  refine ax_bip (pc' := 5) ⟨_, rfl⟩ (by decide) rfl ?_
  refine ax_if2 (p1 := 115) (p2 := 8) ⟨_, rfl⟩ (by decide) rfl hx2 (by decide) (fun hc => ?_) (fun hc => ?_)
  · have h := h.1 hc
    exact ax_nret ⟨_, rfl⟩ rfl hg h
  · have h := h.2 (Int.not_le.mp hc)
    refine ax_bip (pc' := 10) ⟨_, rfl⟩ (by decide) rfl ?_
    refine ax_mv 1 11 [some (.ref 222), some (ax_i x1), some (ax_i x2), y3, y4, y5] [ax_i x1, ax_i 26] rfl ?_
    refine ax_mul (pc' := 12) ⟨_, rfl⟩ rfl ?_
    refine ax_mv 1 13 [some (.ref 222), some (ax_i x1), some (ax_i x2), y3, y4, y5] [ax_i x2, ax_i (26 * x1)] rfl ?_
    refine ax_add (pc' := 14) ⟨_, rfl⟩ rfl ?_
    refine ax_sti (i := 0) (k := 3) (n := 1) (pc' := 15) (L' := [some (.ref 222), some (ax_i x1), some (ax_i x2), some (ax_i ((26 * x1) + x2)), y4, y5]) ⟨_, rfl⟩ rfl rfl rfl (Nat.le_of_ble_eq_true rfl) rfl rfl ?_
    refine ax_mv 1 16 [some (.ref 222), some (ax_i x1), some (ax_i x2), some (ax_i ((26 * x1) + x2)), y4, y5] [.ref 222] rfl ?_
    refine ax_gR (v := .ref 232) (pc' := 19) ⟨_, rfl⟩ fl_12_37 ay_222 rfl rfl ?_
    refine ax_mv 1 20 [some (.ref 222), some (ax_i x1), some (ax_i x2), some (ax_i ((26 * x1) + x2)), y4, y5] [ax_i ((26 * x1) + x2), .ref 232] rfl ?_
    obtain ⟨o1, h⟩ := h
    refine ax_ild (n := 240) (pc' := 21) ⟨_, rfl⟩ ay_232 (by decide) o1 rfl ?_
    refine ax_if (p1 := 27) (p2 := 24) ⟨_, rfl⟩ (by decide) rfl (hg _ _) (fun hc => ?_) (fun hc => ?_)
    · have h := h.2 hc
      refine ax_mv 1 28 [some (.ref 222), some (ax_i x1), some (ax_i x2), some (ax_i ((26 * x1) + x2)), y4, y5] [.ref 222] rfl ?_
      refine ax_gR (v := .ref 235) (pc' := 31) ⟨_, rfl⟩ fl_12_46 ay_222 rfl rfl ?_
      refine ax_mv 1 32 [some (.ref 222), some (ax_i x1), some (ax_i x2), some (ax_i ((26 * x1) + x2)), y4, y5] [ax_i ((26 * x1) + x2), .ref 235] rfl ?_
      obtain ⟨o2, h⟩ := h
      refine ax_ild (n := 240) (pc' := 33) ⟨_, rfl⟩ ay_235 (by decide) o2 rfl ?_
      refine ax_sti (i := 0) (k := 4) (n := 2) (pc' := 35) (L' := [some (.ref 222), some (ax_i x1), some (ax_i x2), some (ax_i ((26 * x1) + x2)), some (ax_i (V 235 ((26 * x1) + x2))), y5]) ⟨_, rfl⟩ rfl rfl rfl (Nat.le_of_ble_eq_true rfl) rfl rfl ?_
      refine ax_mv 1 36 [some (.ref 222), some (ax_i x1), some (ax_i x2), some (ax_i ((26 * x1) + x2)), some (ax_i (V 235 ((26 * x1) + x2))), y5] [ax_i 0] rfl ?_
      refine ax_sti (i := 0) (k := 5) (n := 2) (pc' := 38) (L' := [some (.ref 222), some (ax_i x1), some (ax_i x2), some (ax_i ((26 * x1) + x2)), some (ax_i (V 235 ((26 * x1) + x2))), some (ax_i 0)]) ⟨_, rfl⟩ rfl rfl rfl (Nat.le_of_ble_eq_true rfl) rfl rfl ?_
      exact h
    · have h := h.1 (Classical.not_not.mp hc)
      refine ax_mv 1 109 [some (.ref 222), some (ax_i x1), some (ax_i x2), some (ax_i ((26 * x1) + x2)), y4, y5] [] rfl ?_
      refine ax_inc (x := x2) (pc' := 112) (L' := [some (.ref 222), some (ax_i x1), some (ax_i (x2 + 1)), some (ax_i ((26 * x1) + x2)), y4, y5]) ⟨_, rfl⟩ rfl rfl rfl rfl ?_
      refine ax_mv 1 2 [some (.ref 222), some (ax_i x1), some (ax_i (x2 + 1)), some (ax_i ((26 * x1) + x2)), y4, y5] [] rfl ?_
      exact h
set_option maxRecDepth 20000 in
theorem r_Model_checkRings_38 {d : Nat} {V : ax_V} {Φ : ax_V → Prop} {Θ : ax_V → Prop} {x1 : Int} {x2 : Int} {x3 : Int} {x4 : Int} {x5 : Int} (hg : ax_g V) (hx1 : ax_rg x1) (hx2 : ax_rg x2) (hx3 : ax_rg x3) (hx4 : ax_rg x4) (hx5 : ax_rg x5) (h : ((26 ≤ x5 → ((x4 = 0 → k_Model_checkRings_2 d x1 (x2 + 1) (some (ax_i x3)) (some (ax_i x4)) (some (ax_i x5)) V Φ Θ) ∧ (¬ x4 = 0 → ((ax_div (x4 - 1) 2 = x2 → (0 ≤ x3 ∧ x3 < 240) ∧ ax_N ay_lay d q_Model_note [.ref 222, ax_i (V 234 x3)] V (fun V1 => k_Model_checkRings_2 d x1 (x2 + 1) (some (ax_i x3)) (some (ax_i x4)) (some (ax_i x5)) V1 Φ Θ) Θ) ∧ (¬ ax_div (x4 - 1) 2 = x2 → k_Model_checkRings_2 d x1 (x2 + 1) (some (ax_i x3)) (some (ax_i x4)) (some (ax_i x5)) V Φ Θ))))) ∧ (x5 < 26 → ((x4 = 0 → ((x4 = 0 → k_Model_checkRings_2 d x1 (x2 + 1) (some (ax_i x3)) (some (ax_i x4)) (some (ax_i x5)) V Φ Θ) ∧ (¬ x4 = 0 → ((ax_div (x4 - 1) 2 = x2 → (0 ≤ x3 ∧ x3 < 240) ∧ ax_N ay_lay d q_Model_note [.ref 222, ax_i (V 234 x3)] V (fun V2 => k_Model_checkRings_2 d x1 (x2 + 1) (some (ax_i x3)) (some (ax_i x4)) (some (ax_i x5)) V2 Φ Θ) Θ) ∧ (¬ ax_div (x4 - 1) 2 = x2 → k_Model_checkRings_2 d x1 (x2 + 1) (some (ax_i x3)) (some (ax_i x4)) (some (ax_i x5)) V Φ Θ))))) ∧ (¬ x4 = 0 → ((ax_div (x4 - 1) 2 = x2 → ((x4 = 0 → k_Model_checkRings_2 d x1 (x2 + 1) (some (ax_i x3)) (some (ax_i x4)) (some (ax_i x5)) V Φ Θ) ∧ (¬ x4 = 0 → ((ax_div (x4 - 1) 2 = x2 → (0 ≤ x3 ∧ x3 < 240) ∧ ax_N ay_lay d q_Model_note [.ref 222, ax_i (V 234 x3)] V (fun V3 => k_Model_checkRings_2 d x1 (x2 + 1) (some (ax_i x3)) (some (ax_i x4)) (some (ax_i x5)) V3 Φ Θ) Θ) ∧ (¬ ax_div (x4 - 1) 2 = x2 → k_Model_checkRings_2 d x1 (x2 + 1) (some (ax_i x3)) (some (ax_i x4)) (some (ax_i x5)) V Φ Θ))))) ∧ (¬ ax_div (x4 - 1) 2 = x2 → (0 ≤ (26 * x1) + (ax_div (x4 - 1) 2) ∧ (26 * x1) + (ax_div (x4 - 1) 2) < 240) ∧ k_Model_checkRings_38 d x1 x2 x3 (V 235 ((26 * x1) + (ax_div (x4 - 1) 2))) (x5 + 1) V Φ Θ))))))) : k_Model_checkRings_38 d x1 x2 x3 x4 x5 V Φ Θ := by
  refine ax_mv 1 40 [some (.ref 222), some (ax_i x1), some (ax_i x2), some (ax_i x3), some (ax_i x4), some (ax_i x5)] [ax_i x5] rfl ?_
  refine ax_bip (pc' := 42) ⟨_, rfl⟩ (by decide) rfl ?_
  refine ax_if2 (p1 := 84) (p2 := 45) ⟨_, rfl⟩ (by decide) rfl hx5 (by decide) (fun hc => ?_) (fun hc => ?_)
  · have h := h.1 hc
    refine ax_mv 1 86 [some (.ref 222), some (ax_i x1), some (ax_i x2), some (ax_i x3), some (ax_i x4), some (ax_i x5)] [ax_i x4] rfl ?_
    refine ax_if (p1 := 109) (p2 := 89) ⟨_, rfl⟩ (by decide) rfl hx4 (fun hc => ?_) (fun hc => ?_)
    · have h := h.1 hc
      refine ax_inc (x := x2) (pc' := 112) (L' := [some (.ref 222), some (ax_i x1), some (ax_i (x2 + 1)), some (ax_i x3), some (ax_i x4), some (ax_i x5)]) ⟨_, rfl⟩ rfl rfl rfl rfl ?_
      refine ax_mv 1 2 [some (.ref 222), some (ax_i x1), some (ax_i (x2 + 1)), some (ax_i x3), some (ax_i x4), some (ax_i x5)] [] rfl ?_
      exact h
    · have h := h.2 hc
      refine ax_mv 2 92 [some (.ref 222), some (ax_i x1), some (ax_i x2), some (ax_i x3), some (ax_i x4), some (ax_i x5)] [ax_i 1, ax_i x4] rfl ?_
      refine ax_sub (pc' := 93) ⟨_, rfl⟩ rfl ?_
      refine ax_mv 1 94 [some (.ref 222), some (ax_i x1), some (ax_i x2), some (ax_i x3), some (ax_i x4), some (ax_i x5)] [ax_i 2, ax_i (x4 - 1)] rfl ?_
      refine ax_rdiv (pc' := 95) ⟨_, rfl⟩ (by decide) (by decide) rfl ?_
      refine ax_mv 1 96 [some (.ref 222), some (ax_i x1), some (ax_i x2), some (ax_i x3), some (ax_i x4), some (ax_i x5)] [ax_i x2, ax_i (ax_div (x4 - 1) 2)] rfl ?_
      refine ax_if2 (p1 := 109) (p2 := 99) ⟨_, rfl⟩ (by decide) rfl (ax_rg_of _) hx2 (fun hc => ?_) (fun hc => ?_)
      · have h := h.2 hc
        refine ax_inc (x := x2) (pc' := 112) (L' := [some (.ref 222), some (ax_i x1), some (ax_i (x2 + 1)), some (ax_i x3), some (ax_i x4), some (ax_i x5)]) ⟨_, rfl⟩ rfl rfl rfl rfl ?_
        refine ax_mv 1 2 [some (.ref 222), some (ax_i x1), some (ax_i (x2 + 1)), some (ax_i x3), some (ax_i x4), some (ax_i x5)] [] rfl ?_
        exact h
      · have h := h.1 (Classical.not_not.mp hc)
        refine ax_mv 2 101 [some (.ref 222), some (ax_i x1), some (ax_i x2), some (ax_i x3), some (ax_i x4), some (ax_i x5)] [.ref 222, .ref 222] rfl ?_
        refine ax_gR (v := .ref 234) (pc' := 104) ⟨_, rfl⟩ fl_12_43 ay_222 rfl rfl ?_
        refine ax_mv 1 105 [some (.ref 222), some (ax_i x1), some (ax_i x2), some (ax_i x3), some (ax_i x4), some (ax_i x5)] [ax_i x3, .ref 234, .ref 222] rfl ?_
        obtain ⟨o3, h⟩ := h
        refine ax_ild (n := 240) (pc' := 106) ⟨_, rfl⟩ ay_234 (by decide) o3 rfl ?_
        refine ax_callN (pc' := 109) ⟨_, rfl⟩ ml_12_433 (rest := []) rfl (fun ss hs => ⟨_, _, ay_222 ss hs⟩) (Nat.le_of_ble_eq_true rfl) rfl rfl h (fun V1 hg1 h => ?_)
        refine ax_inc (x := x2) (pc' := 112) (L' := [some (.ref 222), some (ax_i x1), some (ax_i (x2 + 1)), some (ax_i x3), some (ax_i x4), some (ax_i x5)]) ⟨_, rfl⟩ rfl rfl rfl rfl ?_
        refine ax_mv 1 2 [some (.ref 222), some (ax_i x1), some (ax_i (x2 + 1)), some (ax_i x3), some (ax_i x4), some (ax_i x5)] [] rfl ?_
        exact h
  · have h := h.2 (Int.not_le.mp hc)
    refine ax_mv 1 47 [some (.ref 222), some (ax_i x1), some (ax_i x2), some (ax_i x3), some (ax_i x4), some (ax_i x5)] [ax_i x4] rfl ?_
    refine ax_if (p1 := 84) (p2 := 50) ⟨_, rfl⟩ (by decide) rfl hx4 (fun hc => ?_) (fun hc => ?_)
    · have h := h.1 hc
      refine ax_mv 1 86 [some (.ref 222), some (ax_i x1), some (ax_i x2), some (ax_i x3), some (ax_i x4), some (ax_i x5)] [ax_i x4] rfl ?_
      refine ax_if (p1 := 109) (p2 := 89) ⟨_, rfl⟩ (by decide) rfl hx4 (fun hc => ?_) (fun hc => ?_)
      · have h := h.1 hc
        refine ax_inc (x := x2) (pc' := 112) (L' := [some (.ref 222), some (ax_i x1), some (ax_i (x2 + 1)), some (ax_i x3), some (ax_i x4), some (ax_i x5)]) ⟨_, rfl⟩ rfl rfl rfl rfl ?_
        refine ax_mv 1 2 [some (.ref 222), some (ax_i x1), some (ax_i (x2 + 1)), some (ax_i x3), some (ax_i x4), some (ax_i x5)] [] rfl ?_
        exact h
      · have h := h.2 hc
        refine ax_mv 2 92 [some (.ref 222), some (ax_i x1), some (ax_i x2), some (ax_i x3), some (ax_i x4), some (ax_i x5)] [ax_i 1, ax_i x4] rfl ?_
        refine ax_sub (pc' := 93) ⟨_, rfl⟩ rfl ?_
        refine ax_mv 1 94 [some (.ref 222), some (ax_i x1), some (ax_i x2), some (ax_i x3), some (ax_i x4), some (ax_i x5)] [ax_i 2, ax_i (x4 - 1)] rfl ?_
        refine ax_rdiv (pc' := 95) ⟨_, rfl⟩ (by decide) (by decide) rfl ?_
        refine ax_mv 1 96 [some (.ref 222), some (ax_i x1), some (ax_i x2), some (ax_i x3), some (ax_i x4), some (ax_i x5)] [ax_i x2, ax_i (ax_div (x4 - 1) 2)] rfl ?_
        refine ax_if2 (p1 := 109) (p2 := 99) ⟨_, rfl⟩ (by decide) rfl (ax_rg_of _) hx2 (fun hc => ?_) (fun hc => ?_)
        · have h := h.2 hc
          refine ax_inc (x := x2) (pc' := 112) (L' := [some (.ref 222), some (ax_i x1), some (ax_i (x2 + 1)), some (ax_i x3), some (ax_i x4), some (ax_i x5)]) ⟨_, rfl⟩ rfl rfl rfl rfl ?_
          refine ax_mv 1 2 [some (.ref 222), some (ax_i x1), some (ax_i (x2 + 1)), some (ax_i x3), some (ax_i x4), some (ax_i x5)] [] rfl ?_
          exact h
        · have h := h.1 (Classical.not_not.mp hc)
          refine ax_mv 2 101 [some (.ref 222), some (ax_i x1), some (ax_i x2), some (ax_i x3), some (ax_i x4), some (ax_i x5)] [.ref 222, .ref 222] rfl ?_
          refine ax_gR (v := .ref 234) (pc' := 104) ⟨_, rfl⟩ fl_12_43 ay_222 rfl rfl ?_
          refine ax_mv 1 105 [some (.ref 222), some (ax_i x1), some (ax_i x2), some (ax_i x3), some (ax_i x4), some (ax_i x5)] [ax_i x3, .ref 234, .ref 222] rfl ?_
          obtain ⟨o4, h⟩ := h
          refine ax_ild (n := 240) (pc' := 106) ⟨_, rfl⟩ ay_234 (by decide) o4 rfl ?_
          refine ax_callN (pc' := 109) ⟨_, rfl⟩ ml_12_433 (rest := []) rfl (fun ss hs => ⟨_, _, ay_222 ss hs⟩) (Nat.le_of_ble_eq_true rfl) rfl rfl h (fun V2 hg2 h => ?_)
          refine ax_inc (x := x2) (pc' := 112) (L' := [some (.ref 222), some (ax_i x1), some (ax_i (x2 + 1)), some (ax_i x3), some (ax_i x4), some (ax_i x5)]) ⟨_, rfl⟩ rfl rfl rfl rfl ?_
          refine ax_mv 1 2 [some (.ref 222), some (ax_i x1), some (ax_i (x2 + 1)), some (ax_i x3), some (ax_i x4), some (ax_i x5)] [] rfl ?_
          exact h
    · have h := h.2 hc
      refine ax_mv 2 53 [some (.ref 222), some (ax_i x1), some (ax_i x2), some (ax_i x3), some (ax_i x4), some (ax_i x5)] [ax_i 1, ax_i x4] rfl ?_
      refine ax_sub (pc' := 54) ⟨_, rfl⟩ rfl ?_
      refine ax_mv 1 55 [some (.ref 222), some (ax_i x1), some (ax_i x2), some (ax_i x3), some (ax_i x4), some (ax_i x5)] [ax_i 2, ax_i (x4 - 1)] rfl ?_
      refine ax_rdiv (pc' := 56) ⟨_, rfl⟩ (by decide) (by decide) rfl ?_
      refine ax_mv 1 57 [some (.ref 222), some (ax_i x1), some (ax_i x2), some (ax_i x3), some (ax_i x4), some (ax_i x5)] [ax_i x2, ax_i (ax_div (x4 - 1) 2)] rfl ?_
      refine ax_if2 (p1 := 84) (p2 := 60) ⟨_, rfl⟩ (by decide) rfl (ax_rg_of _) hx2 (fun hc => ?_) (fun hc => ?_)
      · have h := h.1 hc
        refine ax_mv 1 86 [some (.ref 222), some (ax_i x1), some (ax_i x2), some (ax_i x3), some (ax_i x4), some (ax_i x5)] [ax_i x4] rfl ?_
        refine ax_if (p1 := 109) (p2 := 89) ⟨_, rfl⟩ (by decide) rfl hx4 (fun hc => ?_) (fun hc => ?_)
        · have h := h.1 hc
          refine ax_inc (x := x2) (pc' := 112) (L' := [some (.ref 222), some (ax_i x1), some (ax_i (x2 + 1)), some (ax_i x3), some (ax_i x4), some (ax_i x5)]) ⟨_, rfl⟩ rfl rfl rfl rfl ?_
          refine ax_mv 1 2 [some (.ref 222), some (ax_i x1), some (ax_i (x2 + 1)), some (ax_i x3), some (ax_i x4), some (ax_i x5)] [] rfl ?_
          exact h
        · have h := h.2 hc
          refine ax_mv 2 92 [some (.ref 222), some (ax_i x1), some (ax_i x2), some (ax_i x3), some (ax_i x4), some (ax_i x5)] [ax_i 1, ax_i x4] rfl ?_
          refine ax_sub (pc' := 93) ⟨_, rfl⟩ rfl ?_
          refine ax_mv 1 94 [some (.ref 222), some (ax_i x1), some (ax_i x2), some (ax_i x3), some (ax_i x4), some (ax_i x5)] [ax_i 2, ax_i (x4 - 1)] rfl ?_
          refine ax_rdiv (pc' := 95) ⟨_, rfl⟩ (by decide) (by decide) rfl ?_
          refine ax_mv 1 96 [some (.ref 222), some (ax_i x1), some (ax_i x2), some (ax_i x3), some (ax_i x4), some (ax_i x5)] [ax_i x2, ax_i (ax_div (x4 - 1) 2)] rfl ?_
          refine ax_if2 (p1 := 109) (p2 := 99) ⟨_, rfl⟩ (by decide) rfl (ax_rg_of _) hx2 (fun hc => ?_) (fun hc => ?_)
          · have h := h.2 hc
            refine ax_inc (x := x2) (pc' := 112) (L' := [some (.ref 222), some (ax_i x1), some (ax_i (x2 + 1)), some (ax_i x3), some (ax_i x4), some (ax_i x5)]) ⟨_, rfl⟩ rfl rfl rfl rfl ?_
            refine ax_mv 1 2 [some (.ref 222), some (ax_i x1), some (ax_i (x2 + 1)), some (ax_i x3), some (ax_i x4), some (ax_i x5)] [] rfl ?_
            exact h
          · have h := h.1 (Classical.not_not.mp hc)
            refine ax_mv 2 101 [some (.ref 222), some (ax_i x1), some (ax_i x2), some (ax_i x3), some (ax_i x4), some (ax_i x5)] [.ref 222, .ref 222] rfl ?_
            refine ax_gR (v := .ref 234) (pc' := 104) ⟨_, rfl⟩ fl_12_43 ay_222 rfl rfl ?_
            refine ax_mv 1 105 [some (.ref 222), some (ax_i x1), some (ax_i x2), some (ax_i x3), some (ax_i x4), some (ax_i x5)] [ax_i x3, .ref 234, .ref 222] rfl ?_
            obtain ⟨o5, h⟩ := h
            refine ax_ild (n := 240) (pc' := 106) ⟨_, rfl⟩ ay_234 (by decide) o5 rfl ?_
            refine ax_callN (pc' := 109) ⟨_, rfl⟩ ml_12_433 (rest := []) rfl (fun ss hs => ⟨_, _, ay_222 ss hs⟩) (Nat.le_of_ble_eq_true rfl) rfl rfl h (fun V3 hg3 h => ?_)
            refine ax_inc (x := x2) (pc' := 112) (L' := [some (.ref 222), some (ax_i x1), some (ax_i (x2 + 1)), some (ax_i x3), some (ax_i x4), some (ax_i x5)]) ⟨_, rfl⟩ rfl rfl rfl rfl ?_
            refine ax_mv 1 2 [some (.ref 222), some (ax_i x1), some (ax_i (x2 + 1)), some (ax_i x3), some (ax_i x4), some (ax_i x5)] [] rfl ?_
            exact h
      · have h := h.2 hc
        refine ax_mv 1 61 [some (.ref 222), some (ax_i x1), some (ax_i x2), some (ax_i x3), some (ax_i x4), some (ax_i x5)] [.ref 222] rfl ?_
        refine ax_gR (v := .ref 235) (pc' := 64) ⟨_, rfl⟩ fl_12_46 ay_222 rfl rfl ?_
        refine ax_bip (pc' := 66) ⟨_, rfl⟩ (by decide) rfl ?_
        refine ax_mv 1 67 [some (.ref 222), some (ax_i x1), some (ax_i x2), some (ax_i x3), some (ax_i x4), some (ax_i x5)] [ax_i x1, ax_i 26, .ref 235] rfl ?_
        refine ax_mul (pc' := 68) ⟨_, rfl⟩ rfl ?_
        refine ax_mv 2 71 [some (.ref 222), some (ax_i x1), some (ax_i x2), some (ax_i x3), some (ax_i x4), some (ax_i x5)] [ax_i 1, ax_i x4, ax_i (26 * x1), .ref 235] rfl ?_
        refine ax_sub (pc' := 72) ⟨_, rfl⟩ rfl ?_
        refine ax_mv 1 73 [some (.ref 222), some (ax_i x1), some (ax_i x2), some (ax_i x3), some (ax_i x4), some (ax_i x5)] [ax_i 2, ax_i (x4 - 1), ax_i (26 * x1), .ref 235] rfl ?_
        refine ax_rdiv (pc' := 74) ⟨_, rfl⟩ (by decide) (by decide) rfl ?_
        refine ax_add (pc' := 75) ⟨_, rfl⟩ rfl ?_
        obtain ⟨o6, h⟩ := h
        refine ax_ild (n := 240) (pc' := 76) ⟨_, rfl⟩ ay_235 (by decide) o6 rfl ?_
        refine ax_sti (i := 0) (k := 4) (n := 2) (pc' := 78) (L' := [some (.ref 222), some (ax_i x1), some (ax_i x2), some (ax_i x3), some (ax_i (V 235 ((26 * x1) + (ax_div (x4 - 1) 2)))), some (ax_i x5)]) ⟨_, rfl⟩ rfl rfl rfl (Nat.le_of_ble_eq_true rfl) rfl rfl ?_
        refine ax_inc (x := x5) (pc' := 81) (L' := [some (.ref 222), some (ax_i x1), some (ax_i x2), some (ax_i x3), some (ax_i (V 235 ((26 * x1) + (ax_div (x4 - 1) 2)))), some (ax_i (x5 + 1))]) ⟨_, rfl⟩ rfl rfl rfl rfl ?_
        refine ax_mv 1 38 [some (.ref 222), some (ax_i x1), some (ax_i x2), some (ax_i x3), some (ax_i (V 235 ((26 * x1) + (ax_div (x4 - 1) 2)))), some (ax_i (x5 + 1))] [] rfl ?_
        exact h
set_option maxRecDepth 20000 in
theorem r_Model_checkRings {d : Nat} {V : ax_V} {Φ : ax_V → Prop} {Θ : ax_V → Prop} {x1 : Int} (hg : ax_g V) (hx1 : ax_rg x1) (h : k_Model_checkRings_2 d x1 0 none none none V Φ Θ) : ax_N ay_lay (d + 1) q_Model_checkRings [.ref 222, ax_i x1] V Φ Θ := by
  refine ax_T.of (M := m_Model_checkRings) rfl (Nat.le_of_ble_eq_true rfl) ?_
  refine ax_mv 0 0 [some (.ref 222), some (ax_i x1), none, none, none, none] [] rfl ?_
  refine ax_mv 1 1 [some (.ref 222), some (ax_i x1), none, none, none, none] [ax_i 0] rfl ?_
  refine ax_sti (i := 0) (k := 2) (n := 1) (pc' := 2) (L' := [some (.ref 222), some (ax_i x1), some (ax_i 0), none, none, none]) ⟨_, rfl⟩ rfl rfl rfl (Nat.le_of_ble_eq_true rfl) rfl rfl ?_
  exact h
