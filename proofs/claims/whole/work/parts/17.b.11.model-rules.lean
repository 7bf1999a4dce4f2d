/-! RULES of the model's methods: a method each, and each loop of it. PRINTED by wip/gen/rules.py -/
abbrev k_Model_work_70 (d : Nat) (x1 : Int) (x2 : Int) (x3 : Int) (x4 : Int) (x5 : Int) (x6 : Int) (y7 : Option Value) (y8 : Option Value) (s0 : Int) (s1 : Int) (V : ax_V) (Φ : ax_V → Prop) (Θ : ax_V → Prop) : Prop := ax_R ay_lay ax_t d m_Model_work 70 [some (.ref 222), some (ax_i x1), some (ax_i x2), some (ax_i x3), some (ax_i x4), some (ax_i x5), some (ax_i x6), y7, y8] [ax_i s0, ax_i s1] V (ax_Nr Φ) Θ
theorem r_Model_work_70 {d : Nat} {V : ax_V} {Φ : ax_V → Prop} {Θ : ax_V → Prop} {x1 : Int} {x2 : Int} {x3 : Int} {x4 : Int} {x5 : Int} {x6 : Int} {y7 : Option Value} {y8 : Option Value} {s0 : Int} {s1 : Int} (hg : ax_g V) (hx1 : ax_rg x1) (hx2 : ax_rg x2) (hx3 : ax_rg x3) (hx4 : ax_rg x4) (hx5 : ax_rg x5) (hx6 : ax_rg x6) (hy7 : ax_y y7) (hy8 : ax_y y8) (hs0 : ax_rg s0) (hs1 : ax_rg s1) (h : (0 ≤ x4 ∧ x4 < 701) ∧ (((V 241 x4 = 0 ∨ V 241 x4 = 1) → (0 ≤ x4 ∧ x4 < 701) ∧ (0 ≤ ax_wr ((ax_wr (701 * x1)) + x4) ∧ ax_wr ((ax_wr (701 * x1)) + x4) < 6309) ∧ (∀ V1, V1 = ax_u V 296 (ax_wr ((ax_wr (701 * x1)) + x4)) (V 249 x4) → Φ V1)) ∧ (V 241 x4 = 2 → (0 ≤ ax_wr (s1 + s0) ∧ ax_wr (s1 + s0) < 240) ∧ (0 ≤ ax_wr ((ax_wr (701 * x1)) + x4) ∧ ax_wr ((ax_wr (701 * x1)) + x4) < 6309) ∧ (∀ V2, V2 = ax_u V 296 (ax_wr ((ax_wr (701 * x1)) + x4)) (V 293 (ax_wr (s1 + s0))) → Φ V2)) ∧ (V 241 x4 = 3 → (0 ≤ x4 ∧ x4 < 701) ∧ (0 ≤ ax_wr ((ax_wr (26 * x2)) + (V 248 x4)) ∧ ax_wr ((ax_wr (26 * x2)) + (V 248 x4)) < 240) ∧ (0 ≤ ax_wr (x3 + (V 240 (ax_wr ((ax_wr (26 * x2)) + (V 248 x4))))) ∧ ax_wr (x3 + (V 240 (ax_wr ((ax_wr (26 * x2)) + (V 248 x4))))) < 600) ∧ (0 ≤ ax_wr ((ax_wr (701 * x1)) + x4) ∧ ax_wr ((ax_wr (701 * x1)) + x4) < 6309) ∧ (∀ V3, V3 = ax_u V 296 (ax_wr ((ax_wr (701 * x1)) + x4)) (V 291 (ax_wr (x3 + (V 240 (ax_wr ((ax_wr (26 * x2)) + (V 248 x4))))))) → Φ V3)) ∧ (V 241 x4 = 4 → (0 ≤ ax_wr ((ax_wr (701 * x1)) + x4) ∧ ax_wr ((ax_wr (701 * x1)) + x4) < 6309) ∧ (∀ V4, V4 = ax_u V 296 (ax_wr ((ax_wr (701 * x1)) + x4)) (ax_wr (-x5)) → Φ V4)) ∧ (V 241 x4 = 5 → (0 ≤ ax_wr ((ax_wr (701 * x1)) + x4) ∧ ax_wr ((ax_wr (701 * x1)) + x4) < 6309) ∧ (∀ V5, V5 = ax_u V 296 (ax_wr ((ax_wr (701 * x1)) + x4)) (ax_wr (1 - x5)) → Φ V5)) ∧ (V 241 x4 = 6 → (0 ≤ x4 ∧ x4 < 701) ∧ (0 ≤ ax_wr (x3 + (V 257 x4)) ∧ ax_wr (x3 + (V 257 x4)) < 600) ∧ (0 ≤ ax_wr ((ax_wr (701 * x1)) + x4) ∧ ax_wr ((ax_wr (701 * x1)) + x4) < 6309) ∧ (∀ V6, V6 = ax_u V 296 (ax_wr ((ax_wr (701 * x1)) + x4)) (V 291 (ax_wr (x3 + (V 257 x4)))) → Φ V6)) ∧ (V 241 x4 = 7 → (0 ≤ ax_wr ((ax_wr (701 * x1)) + x4) ∧ ax_wr ((ax_wr (701 * x1)) + x4) < 6309) ∧ (∀ V7, V7 = ax_u V 296 (ax_wr ((ax_wr (701 * x1)) + x4)) (ax_wr (x5 + x6)) → Φ V7)) ∧ (V 241 x4 = 8 → (0 ≤ ax_wr ((ax_wr (701 * x1)) + x4) ∧ ax_wr ((ax_wr (701 * x1)) + x4) < 6309) ∧ (∀ V8, V8 = ax_u V 296 (ax_wr ((ax_wr (701 * x1)) + x4)) (ax_wr (x5 - x6)) → Φ V8)) ∧ (V 241 x4 = 9 → (0 ≤ ax_wr ((ax_wr (701 * x1)) + x4) ∧ ax_wr ((ax_wr (701 * x1)) + x4) < 6309) ∧ (∀ V9, V9 = ax_u V 296 (ax_wr ((ax_wr (701 * x1)) + x4)) (ax_wr (x5 * x6)) → Φ V9)) ∧ ((V 241 x4 = 10 ∨ V 241 x4 = 11) → ax_I ay_lay d q_Model_divided [.ref 222, ax_i x4, ax_i x5, ax_i x6] V (fun r10 V10 => (0 ≤ ax_wr ((ax_wr (701 * x1)) + x4) ∧ ax_wr ((ax_wr (701 * x1)) + x4) < 6309) ∧ (∀ V11, V11 = ax_u V10 296 (ax_wr ((ax_wr (701 * x1)) + x4)) r10 → Φ V11)) Θ) ∧ (V 241 x4 = 12 → ((x5 = x6 → (0 ≤ ax_wr ((ax_wr (701 * x1)) + x4) ∧ ax_wr ((ax_wr (701 * x1)) + x4) < 6309) ∧ (∀ V13, V13 = ax_u V 296 (ax_wr ((ax_wr (701 * x1)) + x4)) 1 → Φ V13)) ∧ (¬ x5 = x6 → (0 ≤ ax_wr ((ax_wr (701 * x1)) + x4) ∧ ax_wr ((ax_wr (701 * x1)) + x4) < 6309) ∧ (∀ V12, V12 = ax_u V 296 (ax_wr ((ax_wr (701 * x1)) + x4)) 0 → Φ V12)))) ∧ (V 241 x4 = 13 → ((x5 = x6 → (0 ≤ ax_wr ((ax_wr (701 * x1)) + x4) ∧ ax_wr ((ax_wr (701 * x1)) + x4) < 6309) ∧ (∀ V14, V14 = ax_u V 296 (ax_wr ((ax_wr (701 * x1)) + x4)) 0 → Φ V14)) ∧ (¬ x5 = x6 → (0 ≤ ax_wr ((ax_wr (701 * x1)) + x4) ∧ ax_wr ((ax_wr (701 * x1)) + x4) < 6309) ∧ (∀ V15, V15 = ax_u V 296 (ax_wr ((ax_wr (701 * x1)) + x4)) 1 → Φ V15)))) ∧ (V 241 x4 = 14 → ((x6 ≤ x5 → (0 ≤ ax_wr ((ax_wr (701 * x1)) + x4) ∧ ax_wr ((ax_wr (701 * x1)) + x4) < 6309) ∧ (∀ V16, V16 = ax_u V 296 (ax_wr ((ax_wr (701 * x1)) + x4)) 0 → Φ V16)) ∧ (x5 < x6 → (0 ≤ ax_wr ((ax_wr (701 * x1)) + x4) ∧ ax_wr ((ax_wr (701 * x1)) + x4) < 6309) ∧ (∀ V17, V17 = ax_u V 296 (ax_wr ((ax_wr (701 * x1)) + x4)) 1 → Φ V17)))) ∧ (V 241 x4 = 15 → ((x5 ≤ x6 → (0 ≤ ax_wr ((ax_wr (701 * x1)) + x4) ∧ ax_wr ((ax_wr (701 * x1)) + x4) < 6309) ∧ (∀ V18, V18 = ax_u V 296 (ax_wr ((ax_wr (701 * x1)) + x4)) 0 → Φ V18)) ∧ (x6 < x5 → (0 ≤ ax_wr ((ax_wr (701 * x1)) + x4) ∧ ax_wr ((ax_wr (701 * x1)) + x4) < 6309) ∧ (∀ V19, V19 = ax_u V 296 (ax_wr ((ax_wr (701 * x1)) + x4)) 1 → Φ V19)))) ∧ (V 241 x4 = 16 → (0 ≤ ax_wr ((ax_wr (701 * x1)) + x4) ∧ ax_wr ((ax_wr (701 * x1)) + x4) < 6309) ∧ (∀ V20, V20 = ax_u V 296 (ax_wr ((ax_wr (701 * x1)) + x4)) (ax_and x5 x6) → Φ V20)) ∧ (V 241 x4 = 17 → (0 ≤ ax_wr ((ax_wr (701 * x1)) + x4) ∧ ax_wr ((ax_wr (701 * x1)) + x4) < 6309) ∧ (∀ V21, V21 = ax_u V 296 (ax_wr ((ax_wr (701 * x1)) + x4)) (ax_or x5 x6) → Φ V21)) ∧ (V 241 x4 = 18 → ((x5 = 1 → (0 ≤ ax_wr ((ax_wr (701 * x1)) + x4) ∧ ax_wr ((ax_wr (701 * x1)) + x4) < 6309) ∧ (∀ V24, V24 = ax_u V 296 (ax_wr ((ax_wr (701 * x1)) + x4)) x6 → Φ V24)) ∧ (¬ x5 = 1 → (0 ≤ x4 ∧ x4 < 701) ∧ ax_I ay_lay d q_Model_valueAt [.ref 222, ax_i x1, ax_i (V 247 x4)] V (fun r22 V22 => (0 ≤ ax_wr ((ax_wr (701 * x1)) + x4) ∧ ax_wr ((ax_wr (701 * x1)) + x4) < 6309) ∧ (∀ V23, V23 = ax_u V22 296 (ax_wr ((ax_wr (701 * x1)) + x4)) r22 → Φ V23)) Θ))) ∧ (V 241 x4 = 19 → (0 ≤ x4 ∧ x4 < 701) ∧ (0 ≤ ax_wr (x3 + (V 257 x4)) ∧ ax_wr (x3 + (V 257 x4)) < 600) ∧ ((V 291 (ax_wr (x3 + (V 257 x4))) = 0 → (0 ≤ x4 ∧ x4 < 701) ∧ (0 ≤ ax_wr (x3 + (V 257 x4)) ∧ ax_wr (x3 + (V 257 x4)) < 600) ∧ (∀ V27, V27 = ax_u V 292 (ax_wr (x3 + (V 257 x4))) 1 → (0 ≤ ax_wr ((ax_wr (701 * x1)) + x4) ∧ ax_wr ((ax_wr (701 * x1)) + x4) < 6309) ∧ (∀ V28, V28 = ax_u V27 296 (ax_wr ((ax_wr (701 * x1)) + x4)) x5 → Φ V28))) ∧ (¬ V 291 (ax_wr (x3 + (V 257 x4))) = 0 → (0 ≤ x4 ∧ x4 < 701) ∧ (0 ≤ ax_wr (x3 + (V 257 x4)) ∧ ax_wr (x3 + (V 257 x4)) < 600) ∧ (∀ V25, V25 = ax_u V 292 (ax_wr (x3 + (V 257 x4))) 1 → (0 ≤ ax_wr ((ax_wr (701 * x1)) + x4) ∧ ax_wr ((ax_wr (701 * x1)) + x4) < 6309) ∧ (∀ V26, V26 = ax_u V25 296 (ax_wr ((ax_wr (701 * x1)) + x4)) x6 → Φ V26))))) ∧ (V 241 x4 = 20 → (0 ≤ ax_wr ((ax_wr (701 * x1)) + x4) ∧ ax_wr ((ax_wr (701 * x1)) + x4) < 6309) ∧ (∀ V29, V29 = ax_u V 296 (ax_wr ((ax_wr (701 * x1)) + x4)) x5 → Φ V29)) ∧ (V 241 x4 = 21 → (0 ≤ ax_wr (s1 + s0) ∧ ax_wr (s1 + s0) < 240) ∧ ((V 293 (ax_wr (s1 + s0)) = 1 → (0 ≤ ax_wr ((ax_wr (701 * x1)) + x4) ∧ ax_wr ((ax_wr (701 * x1)) + x4) < 6309) ∧ (∀ V31, V31 = ax_u V 296 (ax_wr ((ax_wr (701 * x1)) + x4)) x5 → Φ V31)) ∧ (¬ V 293 (ax_wr (s1 + s0)) = 1 → (0 ≤ ax_wr ((ax_wr (701 * x1)) + x4) ∧ ax_wr ((ax_wr (701 * x1)) + x4) < 6309) ∧ (∀ V30, V30 = ax_u V 296 (ax_wr ((ax_wr (701 * x1)) + x4)) x6 → Φ V30)))) ∧ (¬ V 241 x4 = 0 → ¬ V 241 x4 = 1 → ¬ V 241 x4 = 2 → ¬ V 241 x4 = 3 → ¬ V 241 x4 = 4 → ¬ V 241 x4 = 5 → ¬ V 241 x4 = 6 → ¬ V 241 x4 = 7 → ¬ V 241 x4 = 8 → ¬ V 241 x4 = 9 → ¬ V 241 x4 = 10 → ¬ V 241 x4 = 11 → ¬ V 241 x4 = 12 → ¬ V 241 x4 = 13 → ¬ V 241 x4 = 14 → ¬ V 241 x4 = 15 → ¬ V 241 x4 = 16 → ¬ V 241 x4 = 17 → ¬ V 241 x4 = 18 → ¬ V 241 x4 = 19 → ¬ V 241 x4 = 20 → ¬ V 241 x4 = 21 → ax_I ay_lay d q_Model_call [.ref 222, ax_i x1, ax_i x3, ax_i x4] V (fun r32 V32 => (0 ≤ ax_wr ((ax_wr (701 * x1)) + x4) ∧ ax_wr ((ax_wr (701 * x1)) + x4) < 6309) ∧ (∀ V33, V33 = ax_u V32 296 (ax_wr ((ax_wr (701 * x1)) + x4)) r32 → Φ V33)) Θ))) : k_Model_work_70 d x1 x2 x3 x4 x5 x6 y7 y8 s0 s1 V Φ Θ := by
  refine ax_add (pc' := 71) ⟨_, rfl⟩ rfl ?_
  refine ax_wrap ?_
  refine ax_sti (i := 0) (k := 7) (n := 2) (pc' := 73) (L' := [some (.ref 222), some (ax_i x1), some (ax_i x2), some (ax_i x3), some (ax_i x4), some (ax_i x5), some (ax_i x6), some (ax_i (ax_wr (s1 + s0))), y8]) ⟨_, rfl⟩ rfl rfl rfl (Nat.le_of_ble_eq_true rfl) rfl rfl ?_
  refine ax_mv 1 74 [some (.ref 222), some (ax_i x1), some (ax_i x2), some (ax_i x3), some (ax_i x4), some (ax_i x5), some (ax_i x6), some (ax_i (ax_wr (s1 + s0))), y8] [ax_i 0] rfl ?_
  refine ax_sti (i := 0) (k := 8) (n := 2) (pc' := 76) (L' := [some (.ref 222), some (ax_i x1), some (ax_i x2), some (ax_i x3), some (ax_i x4), some (ax_i x5), some (ax_i x6), some (ax_i (ax_wr (s1 + s0))), some (ax_i 0)]) ⟨_, rfl⟩ rfl rfl rfl (Nat.le_of_ble_eq_true rfl) rfl rfl ?_
  refine ax_mv 1 77 [some (.ref 222), some (ax_i x1), some (ax_i x2), some (ax_i x3), some (ax_i x4), some (ax_i x5), some (ax_i x6), some (ax_i (ax_wr (s1 + s0))), some (ax_i 0)] [.ref 222] rfl ?_
  refine ax_gR (v := .ref 241) (pc' := 80) ⟨_, rfl⟩ fl_12_65 ay_222 rfl rfl ?_
  refine ax_mv 1 82 [some (.ref 222), some (ax_i x1), some (ax_i x2), some (ax_i x3), some (ax_i x4), some (ax_i x5), some (ax_i x6), some (ax_i (ax_wr (s1 + s0))), some (ax_i 0)] [ax_i x4, .ref 241] rfl ?_
  obtain ⟨o1, h⟩ := h
  refine ax_ild (n := 701) (pc' := 83) ⟨_, rfl⟩ ay_241 (by decide) o1 rfl ?_
  have t0 : (V 241 x4 = 0 ∨ V 241 x4 = 1) → ax_R ay_lay ax_t d m_Model_work 184 [some (.ref 222), some (ax_i x1), some (ax_i x2), some (ax_i x3), some (ax_i x4), some (ax_i x5), some (ax_i x6), some (ax_i (ax_wr (s1 + s0))), some (ax_i 0)] [] V (ax_Nr Φ) Θ := fun hk => by
    have h := h.1 hk
    refine ax_mv 1 185 [some (.ref 222), some (ax_i x1), some (ax_i x2), some (ax_i x3), some (ax_i x4), some (ax_i x5), some (ax_i x6), some (ax_i (ax_wr (s1 + s0))), some (ax_i 0)] [.ref 222] rfl ?_
    refine ax_gR (v := .ref 249) (pc' := 188) ⟨_, rfl⟩ fl_12_89 ay_222 rfl rfl ?_
    refine ax_mv 1 190 [some (.ref 222), some (ax_i x1), some (ax_i x2), some (ax_i x3), some (ax_i x4), some (ax_i x5), some (ax_i x6), some (ax_i (ax_wr (s1 + s0))), some (ax_i 0)] [ax_i x4, .ref 249] rfl ?_
    obtain ⟨o2, h⟩ := h
    refine ax_ild (n := 701) (pc' := 191) ⟨_, rfl⟩ ay_249 (by decide) o2 rfl ?_
    refine ax_sti (i := 0) (k := 8) (n := 2) (pc' := 193) (L' := [some (.ref 222), some (ax_i x1), some (ax_i x2), some (ax_i x3), some (ax_i x4), some (ax_i x5), some (ax_i x6), some (ax_i (ax_wr (s1 + s0))), some (ax_i (V 249 x4))]) ⟨_, rfl⟩ rfl rfl rfl (Nat.le_of_ble_eq_true rfl) rfl rfl ?_
    refine ax_mv 2 519 [some (.ref 222), some (ax_i x1), some (ax_i x2), some (ax_i x3), some (ax_i x4), some (ax_i x5), some (ax_i x6), some (ax_i (ax_wr (s1 + s0))), some (ax_i (V 249 x4))] [.ref 222] rfl ?_
    refine ax_gR (v := .ref 296) (pc' := 522) ⟨_, rfl⟩ fl_12_230 ay_222 rfl rfl ?_
    refine ax_sip (pc' := 525) ⟨_, rfl⟩ (by decide) rfl ?_
    refine ax_mv 1 526 [some (.ref 222), some (ax_i x1), some (ax_i x2), some (ax_i x3), some (ax_i x4), some (ax_i x5), some (ax_i x6), some (ax_i (ax_wr (s1 + s0))), some (ax_i (V 249 x4))] [ax_i x1, ax_i 701, .ref 296] rfl ?_
    refine ax_mul (pc' := 527) ⟨_, rfl⟩ rfl ?_
    refine ax_wrap ?_
    refine ax_mv 1 529 [some (.ref 222), some (ax_i x1), some (ax_i x2), some (ax_i x3), some (ax_i x4), some (ax_i x5), some (ax_i x6), some (ax_i (ax_wr (s1 + s0))), some (ax_i (V 249 x4))] [ax_i x4, ax_i (ax_wr (701 * x1)), .ref 296] rfl ?_
    refine ax_add (pc' := 530) ⟨_, rfl⟩ rfl ?_
    refine ax_wrap ?_
    refine ax_mv 1 532 [some (.ref 222), some (ax_i x1), some (ax_i x2), some (ax_i x3), some (ax_i x4), some (ax_i x5), some (ax_i x6), some (ax_i (ax_wr (s1 + s0))), some (ax_i (V 249 x4))] [ax_i (V 249 x4), ax_i (ax_wr ((ax_wr (701 * x1)) + x4)), .ref 296] rfl ?_
    obtain ⟨o3, h⟩ := h
    obtain ⟨V1, eV1⟩ : ∃ W9 : ax_V, W9 = ax_u V 296 (ax_wr ((ax_wr (701 * x1)) + x4)) (V 249 x4) := ⟨_, rfl⟩
    have h := h V1 eV1
    have hg1 : ax_g V1 := eV1 ▸ ax_u_g hg (hg _ _)
    refine ax_ist (n := 6309) (pc' := 533) ⟨_, rfl⟩ ay_ok ay_296 (by decide) o3 eV1 rfl ?_
    exact ax_nret ⟨_, rfl⟩ rfl hg1 h
  have t1 : (V 241 x4 = 2) → ax_R ay_lay ax_t d m_Model_work 196 [some (.ref 222), some (ax_i x1), some (ax_i x2), some (ax_i x3), some (ax_i x4), some (ax_i x5), some (ax_i x6), some (ax_i (ax_wr (s1 + s0))), some (ax_i 0)] [] V (ax_Nr Φ) Θ := fun hk => by
    have h := h.2.1 hk
    refine ax_mv 1 197 [some (.ref 222), some (ax_i x1), some (ax_i x2), some (ax_i x3), some (ax_i x4), some (ax_i x5), some (ax_i x6), some (ax_i (ax_wr (s1 + s0))), some (ax_i 0)] [.ref 222] rfl ?_
    refine ax_gR (v := .ref 293) (pc' := 200) ⟨_, rfl⟩ fl_12_221 ay_222 rfl rfl ?_
    refine ax_mv 1 202 [some (.ref 222), some (ax_i x1), some (ax_i x2), some (ax_i x3), some (ax_i x4), some (ax_i x5), some (ax_i x6), some (ax_i (ax_wr (s1 + s0))), some (ax_i 0)] [ax_i (ax_wr (s1 + s0)), .ref 293] rfl ?_
    obtain ⟨o4, h⟩ := h
    refine ax_ild (n := 240) (pc' := 203) ⟨_, rfl⟩ ay_293 (by decide) o4 rfl ?_
    refine ax_sti (i := 0) (k := 8) (n := 2) (pc' := 205) (L' := [some (.ref 222), some (ax_i x1), some (ax_i x2), some (ax_i x3), some (ax_i x4), some (ax_i x5), some (ax_i x6), some (ax_i (ax_wr (s1 + s0))), some (ax_i (V 293 (ax_wr (s1 + s0))))]) ⟨_, rfl⟩ rfl rfl rfl (Nat.le_of_ble_eq_true rfl) rfl rfl ?_
    refine ax_mv 2 519 [some (.ref 222), some (ax_i x1), some (ax_i x2), some (ax_i x3), some (ax_i x4), some (ax_i x5), some (ax_i x6), some (ax_i (ax_wr (s1 + s0))), some (ax_i (V 293 (ax_wr (s1 + s0))))] [.ref 222] rfl ?_
    refine ax_gR (v := .ref 296) (pc' := 522) ⟨_, rfl⟩ fl_12_230 ay_222 rfl rfl ?_
    refine ax_sip (pc' := 525) ⟨_, rfl⟩ (by decide) rfl ?_
    refine ax_mv 1 526 [some (.ref 222), some (ax_i x1), some (ax_i x2), some (ax_i x3), some (ax_i x4), some (ax_i x5), some (ax_i x6), some (ax_i (ax_wr (s1 + s0))), some (ax_i (V 293 (ax_wr (s1 + s0))))] [ax_i x1, ax_i 701, .ref 296] rfl ?_
    refine ax_mul (pc' := 527) ⟨_, rfl⟩ rfl ?_
    refine ax_wrap ?_
    refine ax_mv 1 529 [some (.ref 222), some (ax_i x1), some (ax_i x2), some (ax_i x3), some (ax_i x4), some (ax_i x5), some (ax_i x6), some (ax_i (ax_wr (s1 + s0))), some (ax_i (V 293 (ax_wr (s1 + s0))))] [ax_i x4, ax_i (ax_wr (701 * x1)), .ref 296] rfl ?_
    refine ax_add (pc' := 530) ⟨_, rfl⟩ rfl ?_
    refine ax_wrap ?_
    refine ax_mv 1 532 [some (.ref 222), some (ax_i x1), some (ax_i x2), some (ax_i x3), some (ax_i x4), some (ax_i x5), some (ax_i x6), some (ax_i (ax_wr (s1 + s0))), some (ax_i (V 293 (ax_wr (s1 + s0))))] [ax_i (V 293 (ax_wr (s1 + s0))), ax_i (ax_wr ((ax_wr (701 * x1)) + x4)), .ref 296] rfl ?_
    obtain ⟨o5, h⟩ := h
    obtain ⟨V2, eV2⟩ : ∃ W9 : ax_V, W9 = ax_u V 296 (ax_wr ((ax_wr (701 * x1)) + x4)) (V 293 (ax_wr (s1 + s0))) := ⟨_, rfl⟩
    have h := h V2 eV2
    have hg2 : ax_g V2 := eV2 ▸ ax_u_g hg (hg _ _)
    refine ax_ist (n := 6309) (pc' := 533) ⟨_, rfl⟩ ay_ok ay_296 (by decide) o5 eV2 rfl ?_
    exact ax_nret ⟨_, rfl⟩ rfl hg2 h
  have t2 : (V 241 x4 = 3) → ax_R ay_lay ax_t d m_Model_work 208 [some (.ref 222), some (ax_i x1), some (ax_i x2), some (ax_i x3), some (ax_i x4), some (ax_i x5), some (ax_i x6), some (ax_i (ax_wr (s1 + s0))), some (ax_i 0)] [] V (ax_Nr Φ) Θ := fun hk => by
    have h := h.2.2.1 hk
    refine ax_mv 1 209 [some (.ref 222), some (ax_i x1), some (ax_i x2), some (ax_i x3), some (ax_i x4), some (ax_i x5), some (ax_i x6), some (ax_i (ax_wr (s1 + s0))), some (ax_i 0)] [.ref 222] rfl ?_
    refine ax_gR (v := .ref 291) (pc' := 212) ⟨_, rfl⟩ fl_12_215 ay_222 rfl rfl ?_
    refine ax_mv 2 214 [some (.ref 222), some (ax_i x1), some (ax_i x2), some (ax_i x3), some (ax_i x4), some (ax_i x5), some (ax_i x6), some (ax_i (ax_wr (s1 + s0))), some (ax_i 0)] [.ref 222, ax_i x3, .ref 291] rfl ?_
    refine ax_gR (v := .ref 240) (pc' := 217) ⟨_, rfl⟩ fl_12_62 ay_222 rfl rfl ?_
    refine ax_bip (pc' := 219) ⟨_, rfl⟩ (by decide) rfl ?_
    refine ax_mv 1 220 [some (.ref 222), some (ax_i x1), some (ax_i x2), some (ax_i x3), some (ax_i x4), some (ax_i x5), some (ax_i x6), some (ax_i (ax_wr (s1 + s0))), some (ax_i 0)] [ax_i x2, ax_i 26, .ref 240, ax_i x3, .ref 291] rfl ?_
    refine ax_mul (pc' := 221) ⟨_, rfl⟩ rfl ?_
    refine ax_wrap ?_
    refine ax_mv 1 222 [some (.ref 222), some (ax_i x1), some (ax_i x2), some (ax_i x3), some (ax_i x4), some (ax_i x5), some (ax_i x6), some (ax_i (ax_wr (s1 + s0))), some (ax_i 0)] [.ref 222, ax_i (ax_wr (26 * x2)), .ref 240, ax_i x3, .ref 291] rfl ?_
    refine ax_gR (v := .ref 248) (pc' := 225) ⟨_, rfl⟩ fl_12_86 ay_222 rfl rfl ?_
    refine ax_mv 1 227 [some (.ref 222), some (ax_i x1), some (ax_i x2), some (ax_i x3), some (ax_i x4), some (ax_i x5), some (ax_i x6), some (ax_i (ax_wr (s1 + s0))), some (ax_i 0)] [ax_i x4, .ref 248, ax_i (ax_wr (26 * x2)), .ref 240, ax_i x3, .ref 291] rfl ?_
    obtain ⟨o6, h⟩ := h
    refine ax_ild (n := 701) (pc' := 228) ⟨_, rfl⟩ ay_248 (by decide) o6 rfl ?_
    refine ax_add (pc' := 229) ⟨_, rfl⟩ rfl ?_
    refine ax_wrap ?_
    obtain ⟨o7, h⟩ := h
    refine ax_ild (n := 240) (pc' := 230) ⟨_, rfl⟩ ay_240 (by decide) o7 rfl ?_
    refine ax_add (pc' := 231) ⟨_, rfl⟩ rfl ?_
    refine ax_wrap ?_
    obtain ⟨o8, h⟩ := h
    refine ax_ild (n := 600) (pc' := 232) ⟨_, rfl⟩ ay_291 (by decide) o8 rfl ?_
    refine ax_sti (i := 0) (k := 8) (n := 2) (pc' := 234) (L' := [some (.ref 222), some (ax_i x1), some (ax_i x2), some (ax_i x3), some (ax_i x4), some (ax_i x5), some (ax_i x6), some (ax_i (ax_wr (s1 + s0))), some (ax_i (V 291 (ax_wr (x3 + (V 240 (ax_wr ((ax_wr (26 * x2)) + (V 248 x4))))))))]) ⟨_, rfl⟩ rfl rfl rfl (Nat.le_of_ble_eq_true rfl) rfl rfl ?_
    refine ax_mv 2 519 [some (.ref 222), some (ax_i x1), some (ax_i x2), some (ax_i x3), some (ax_i x4), some (ax_i x5), some (ax_i x6), some (ax_i (ax_wr (s1 + s0))), some (ax_i (V 291 (ax_wr (x3 + (V 240 (ax_wr ((ax_wr (26 * x2)) + (V 248 x4))))))))] [.ref 222] rfl ?_
    refine ax_gR (v := .ref 296) (pc' := 522) ⟨_, rfl⟩ fl_12_230 ay_222 rfl rfl ?_
    refine ax_sip (pc' := 525) ⟨_, rfl⟩ (by decide) rfl ?_
    refine ax_mv 1 526 [some (.ref 222), some (ax_i x1), some (ax_i x2), some (ax_i x3), some (ax_i x4), some (ax_i x5), some (ax_i x6), some (ax_i (ax_wr (s1 + s0))), some (ax_i (V 291 (ax_wr (x3 + (V 240 (ax_wr ((ax_wr (26 * x2)) + (V 248 x4))))))))] [ax_i x1, ax_i 701, .ref 296] rfl ?_
    refine ax_mul (pc' := 527) ⟨_, rfl⟩ rfl ?_
    refine ax_wrap ?_
    refine ax_mv 1 529 [some (.ref 222), some (ax_i x1), some (ax_i x2), some (ax_i x3), some (ax_i x4), some (ax_i x5), some (ax_i x6), some (ax_i (ax_wr (s1 + s0))), some (ax_i (V 291 (ax_wr (x3 + (V 240 (ax_wr ((ax_wr (26 * x2)) + (V 248 x4))))))))] [ax_i x4, ax_i (ax_wr (701 * x1)), .ref 296] rfl ?_
    refine ax_add (pc' := 530) ⟨_, rfl⟩ rfl ?_
    refine ax_wrap ?_
    refine ax_mv 1 532 [some (.ref 222), some (ax_i x1), some (ax_i x2), some (ax_i x3), some (ax_i x4), some (ax_i x5), some (ax_i x6), some (ax_i (ax_wr (s1 + s0))), some (ax_i (V 291 (ax_wr (x3 + (V 240 (ax_wr ((ax_wr (26 * x2)) + (V 248 x4))))))))] [ax_i (V 291 (ax_wr (x3 + (V 240 (ax_wr ((ax_wr (26 * x2)) + (V 248 x4))))))), ax_i (ax_wr ((ax_wr (701 * x1)) + x4)), .ref 296] rfl ?_
    obtain ⟨o9, h⟩ := h
    obtain ⟨V3, eV3⟩ : ∃ W9 : ax_V, W9 = ax_u V 296 (ax_wr ((ax_wr (701 * x1)) + x4)) (V 291 (ax_wr (x3 + (V 240 (ax_wr ((ax_wr (26 * x2)) + (V 248 x4))))))) := ⟨_, rfl⟩
    have h := h V3 eV3
    have hg3 : ax_g V3 := eV3 ▸ ax_u_g hg (hg _ _)
    refine ax_ist (n := 6309) (pc' := 533) ⟨_, rfl⟩ ay_ok ay_296 (by decide) o9 eV3 rfl ?_
    exact ax_nret ⟨_, rfl⟩ rfl hg3 h
  have t3 : (V 241 x4 = 4) → ax_R ay_lay ax_t d m_Model_work 237 [some (.ref 222), some (ax_i x1), some (ax_i x2), some (ax_i x3), some (ax_i x4), some (ax_i x5), some (ax_i x6), some (ax_i (ax_wr (s1 + s0))), some (ax_i 0)] [] V (ax_Nr Φ) Θ := fun hk => by
    have h := h.2.2.2.1 hk
    refine ax_mv 1 239 [some (.ref 222), some (ax_i x1), some (ax_i x2), some (ax_i x3), some (ax_i x4), some (ax_i x5), some (ax_i x6), some (ax_i (ax_wr (s1 + s0))), some (ax_i 0)] [ax_i x5] rfl ?_
    refine ax_neg (pc' := 240) ⟨_, rfl⟩ rfl ?_
    refine ax_wrap ?_
    refine ax_sti (i := 0) (k := 8) (n := 2) (pc' := 242) (L' := [some (.ref 222), some (ax_i x1), some (ax_i x2), some (ax_i x3), some (ax_i x4), some (ax_i x5), some (ax_i x6), some (ax_i (ax_wr (s1 + s0))), some (ax_i (ax_wr (-x5)))]) ⟨_, rfl⟩ rfl rfl rfl (Nat.le_of_ble_eq_true rfl) rfl rfl ?_
    refine ax_mv 2 519 [some (.ref 222), some (ax_i x1), some (ax_i x2), some (ax_i x3), some (ax_i x4), some (ax_i x5), some (ax_i x6), some (ax_i (ax_wr (s1 + s0))), some (ax_i (ax_wr (-x5)))] [.ref 222] rfl ?_
    refine ax_gR (v := .ref 296) (pc' := 522) ⟨_, rfl⟩ fl_12_230 ay_222 rfl rfl ?_
    refine ax_sip (pc' := 525) ⟨_, rfl⟩ (by decide) rfl ?_
    refine ax_mv 1 526 [some (.ref 222), some (ax_i x1), some (ax_i x2), some (ax_i x3), some (ax_i x4), some (ax_i x5), some (ax_i x6), some (ax_i (ax_wr (s1 + s0))), some (ax_i (ax_wr (-x5)))] [ax_i x1, ax_i 701, .ref 296] rfl ?_
    refine ax_mul (pc' := 527) ⟨_, rfl⟩ rfl ?_
    refine ax_wrap ?_
    refine ax_mv 1 529 [some (.ref 222), some (ax_i x1), some (ax_i x2), some (ax_i x3), some (ax_i x4), some (ax_i x5), some (ax_i x6), some (ax_i (ax_wr (s1 + s0))), some (ax_i (ax_wr (-x5)))] [ax_i x4, ax_i (ax_wr (701 * x1)), .ref 296] rfl ?_
    refine ax_add (pc' := 530) ⟨_, rfl⟩ rfl ?_
    refine ax_wrap ?_
    refine ax_mv 1 532 [some (.ref 222), some (ax_i x1), some (ax_i x2), some (ax_i x3), some (ax_i x4), some (ax_i x5), some (ax_i x6), some (ax_i (ax_wr (s1 + s0))), some (ax_i (ax_wr (-x5)))] [ax_i (ax_wr (-x5)), ax_i (ax_wr ((ax_wr (701 * x1)) + x4)), .ref 296] rfl ?_
    obtain ⟨o10, h⟩ := h
    obtain ⟨V4, eV4⟩ : ∃ W9 : ax_V, W9 = ax_u V 296 (ax_wr ((ax_wr (701 * x1)) + x4)) (ax_wr (-x5)) := ⟨_, rfl⟩
    have h := h V4 eV4
    have hg4 : ax_g V4 := eV4 ▸ ax_u_g hg (ax_rg_of _)
    refine ax_ist (n := 6309) (pc' := 533) ⟨_, rfl⟩ ay_ok ay_296 (by decide) o10 eV4 rfl ?_
    exact ax_nret ⟨_, rfl⟩ rfl hg4 h
  have t4 : (V 241 x4 = 5) → ax_R ay_lay ax_t d m_Model_work 245 [some (.ref 222), some (ax_i x1), some (ax_i x2), some (ax_i x3), some (ax_i x4), some (ax_i x5), some (ax_i x6), some (ax_i (ax_wr (s1 + s0))), some (ax_i 0)] [] V (ax_Nr Φ) Θ := fun hk => by
    have h := h.2.2.2.2.1 hk
    refine ax_mv 2 248 [some (.ref 222), some (ax_i x1), some (ax_i x2), some (ax_i x3), some (ax_i x4), some (ax_i x5), some (ax_i x6), some (ax_i (ax_wr (s1 + s0))), some (ax_i 0)] [ax_i x5, ax_i 1] rfl ?_
    refine ax_sub (pc' := 249) ⟨_, rfl⟩ rfl ?_
    refine ax_wrap ?_
    refine ax_sti (i := 0) (k := 8) (n := 2) (pc' := 251) (L' := [some (.ref 222), some (ax_i x1), some (ax_i x2), some (ax_i x3), some (ax_i x4), some (ax_i x5), some (ax_i x6), some (ax_i (ax_wr (s1 + s0))), some (ax_i (ax_wr (1 - x5)))]) ⟨_, rfl⟩ rfl rfl rfl (Nat.le_of_ble_eq_true rfl) rfl rfl ?_
    refine ax_mv 2 519 [some (.ref 222), some (ax_i x1), some (ax_i x2), some (ax_i x3), some (ax_i x4), some (ax_i x5), some (ax_i x6), some (ax_i (ax_wr (s1 + s0))), some (ax_i (ax_wr (1 - x5)))] [.ref 222] rfl ?_
    refine ax_gR (v := .ref 296) (pc' := 522) ⟨_, rfl⟩ fl_12_230 ay_222 rfl rfl ?_
    refine ax_sip (pc' := 525) ⟨_, rfl⟩ (by decide) rfl ?_
    refine ax_mv 1 526 [some (.ref 222), some (ax_i x1), some (ax_i x2), some (ax_i x3), some (ax_i x4), some (ax_i x5), some (ax_i x6), some (ax_i (ax_wr (s1 + s0))), some (ax_i (ax_wr (1 - x5)))] [ax_i x1, ax_i 701, .ref 296] rfl ?_
    refine ax_mul (pc' := 527) ⟨_, rfl⟩ rfl ?_
    refine ax_wrap ?_
    refine ax_mv 1 529 [some (.ref 222), some (ax_i x1), some (ax_i x2), some (ax_i x3), some (ax_i x4), some (ax_i x5), some (ax_i x6), some (ax_i (ax_wr (s1 + s0))), some (ax_i (ax_wr (1 - x5)))] [ax_i x4, ax_i (ax_wr (701 * x1)), .ref 296] rfl ?_
    refine ax_add (pc' := 530) ⟨_, rfl⟩ rfl ?_
    refine ax_wrap ?_
    refine ax_mv 1 532 [some (.ref 222), some (ax_i x1), some (ax_i x2), some (ax_i x3), some (ax_i x4), some (ax_i x5), some (ax_i x6), some (ax_i (ax_wr (s1 + s0))), some (ax_i (ax_wr (1 - x5)))] [ax_i (ax_wr (1 - x5)), ax_i (ax_wr ((ax_wr (701 * x1)) + x4)), .ref 296] rfl ?_
    obtain ⟨o11, h⟩ := h
    obtain ⟨V5, eV5⟩ : ∃ W9 : ax_V, W9 = ax_u V 296 (ax_wr ((ax_wr (701 * x1)) + x4)) (ax_wr (1 - x5)) := ⟨_, rfl⟩
    have h := h V5 eV5
    have hg5 : ax_g V5 := eV5 ▸ ax_u_g hg (ax_rg_of _)
    refine ax_ist (n := 6309) (pc' := 533) ⟨_, rfl⟩ ay_ok ay_296 (by decide) o11 eV5 rfl ?_
    exact ax_nret ⟨_, rfl⟩ rfl hg5 h
  have t5 : (V 241 x4 = 6) → ax_R ay_lay ax_t d m_Model_work 254 [some (.ref 222), some (ax_i x1), some (ax_i x2), some (ax_i x3), some (ax_i x4), some (ax_i x5), some (ax_i x6), some (ax_i (ax_wr (s1 + s0))), some (ax_i 0)] [] V (ax_Nr Φ) Θ := fun hk => by
    have h := h.2.2.2.2.2.1 hk
    refine ax_mv 1 255 [some (.ref 222), some (ax_i x1), some (ax_i x2), some (ax_i x3), some (ax_i x4), some (ax_i x5), some (ax_i x6), some (ax_i (ax_wr (s1 + s0))), some (ax_i 0)] [.ref 222] rfl ?_
    refine ax_gR (v := .ref 291) (pc' := 258) ⟨_, rfl⟩ fl_12_215 ay_222 rfl rfl ?_
    refine ax_mv 2 260 [some (.ref 222), some (ax_i x1), some (ax_i x2), some (ax_i x3), some (ax_i x4), some (ax_i x5), some (ax_i x6), some (ax_i (ax_wr (s1 + s0))), some (ax_i 0)] [.ref 222, ax_i x3, .ref 291] rfl ?_
    refine ax_gR (v := .ref 257) (pc' := 263) ⟨_, rfl⟩ fl_12_113 ay_222 rfl rfl ?_
    refine ax_mv 1 265 [some (.ref 222), some (ax_i x1), some (ax_i x2), some (ax_i x3), some (ax_i x4), some (ax_i x5), some (ax_i x6), some (ax_i (ax_wr (s1 + s0))), some (ax_i 0)] [ax_i x4, .ref 257, ax_i x3, .ref 291] rfl ?_
    obtain ⟨o12, h⟩ := h
    refine ax_ild (n := 701) (pc' := 266) ⟨_, rfl⟩ ay_257 (by decide) o12 rfl ?_
    refine ax_add (pc' := 267) ⟨_, rfl⟩ rfl ?_
    refine ax_wrap ?_
    obtain ⟨o13, h⟩ := h
    refine ax_ild (n := 600) (pc' := 268) ⟨_, rfl⟩ ay_291 (by decide) o13 rfl ?_
    refine ax_sti (i := 0) (k := 8) (n := 2) (pc' := 270) (L' := [some (.ref 222), some (ax_i x1), some (ax_i x2), some (ax_i x3), some (ax_i x4), some (ax_i x5), some (ax_i x6), some (ax_i (ax_wr (s1 + s0))), some (ax_i (V 291 (ax_wr (x3 + (V 257 x4)))))]) ⟨_, rfl⟩ rfl rfl rfl (Nat.le_of_ble_eq_true rfl) rfl rfl ?_
    refine ax_mv 2 519 [some (.ref 222), some (ax_i x1), some (ax_i x2), some (ax_i x3), some (ax_i x4), some (ax_i x5), some (ax_i x6), some (ax_i (ax_wr (s1 + s0))), some (ax_i (V 291 (ax_wr (x3 + (V 257 x4)))))] [.ref 222] rfl ?_
    refine ax_gR (v := .ref 296) (pc' := 522) ⟨_, rfl⟩ fl_12_230 ay_222 rfl rfl ?_
    refine ax_sip (pc' := 525) ⟨_, rfl⟩ (by decide) rfl ?_
    refine ax_mv 1 526 [some (.ref 222), some (ax_i x1), some (ax_i x2), some (ax_i x3), some (ax_i x4), some (ax_i x5), some (ax_i x6), some (ax_i (ax_wr (s1 + s0))), some (ax_i (V 291 (ax_wr (x3 + (V 257 x4)))))] [ax_i x1, ax_i 701, .ref 296] rfl ?_
    refine ax_mul (pc' := 527) ⟨_, rfl⟩ rfl ?_
    refine ax_wrap ?_
    refine ax_mv 1 529 [some (.ref 222), some (ax_i x1), some (ax_i x2), some (ax_i x3), some (ax_i x4), some (ax_i x5), some (ax_i x6), some (ax_i (ax_wr (s1 + s0))), some (ax_i (V 291 (ax_wr (x3 + (V 257 x4)))))] [ax_i x4, ax_i (ax_wr (701 * x1)), .ref 296] rfl ?_
    refine ax_add (pc' := 530) ⟨_, rfl⟩ rfl ?_
    refine ax_wrap ?_
    refine ax_mv 1 532 [some (.ref 222), some (ax_i x1), some (ax_i x2), some (ax_i x3), some (ax_i x4), some (ax_i x5), some (ax_i x6), some (ax_i (ax_wr (s1 + s0))), some (ax_i (V 291 (ax_wr (x3 + (V 257 x4)))))] [ax_i (V 291 (ax_wr (x3 + (V 257 x4)))), ax_i (ax_wr ((ax_wr (701 * x1)) + x4)), .ref 296] rfl ?_
    obtain ⟨o14, h⟩ := h
    obtain ⟨V6, eV6⟩ : ∃ W9 : ax_V, W9 = ax_u V 296 (ax_wr ((ax_wr (701 * x1)) + x4)) (V 291 (ax_wr (x3 + (V 257 x4)))) := ⟨_, rfl⟩
    have h := h V6 eV6
    have hg6 : ax_g V6 := eV6 ▸ ax_u_g hg (hg _ _)
    refine ax_ist (n := 6309) (pc' := 533) ⟨_, rfl⟩ ay_ok ay_296 (by decide) o14 eV6 rfl ?_
    exact ax_nret ⟨_, rfl⟩ rfl hg6 h
  have t6 : (V 241 x4 = 7) → ax_R ay_lay ax_t d m_Model_work 273 [some (.ref 222), some (ax_i x1), some (ax_i x2), some (ax_i x3), some (ax_i x4), some (ax_i x5), some (ax_i x6), some (ax_i (ax_wr (s1 + s0))), some (ax_i 0)] [] V (ax_Nr Φ) Θ := fun hk => by
    have h := h.2.2.2.2.2.2.1 hk
    refine ax_mv 2 277 [some (.ref 222), some (ax_i x1), some (ax_i x2), some (ax_i x3), some (ax_i x4), some (ax_i x5), some (ax_i x6), some (ax_i (ax_wr (s1 + s0))), some (ax_i 0)] [ax_i x6, ax_i x5] rfl ?_
    refine ax_add (pc' := 278) ⟨_, rfl⟩ rfl ?_
    refine ax_wrap ?_
    refine ax_sti (i := 0) (k := 8) (n := 2) (pc' := 280) (L' := [some (.ref 222), some (ax_i x1), some (ax_i x2), some (ax_i x3), some (ax_i x4), some (ax_i x5), some (ax_i x6), some (ax_i (ax_wr (s1 + s0))), some (ax_i (ax_wr (x5 + x6)))]) ⟨_, rfl⟩ rfl rfl rfl (Nat.le_of_ble_eq_true rfl) rfl rfl ?_
    refine ax_mv 2 519 [some (.ref 222), some (ax_i x1), some (ax_i x2), some (ax_i x3), some (ax_i x4), some (ax_i x5), some (ax_i x6), some (ax_i (ax_wr (s1 + s0))), some (ax_i (ax_wr (x5 + x6)))] [.ref 222] rfl ?_
    refine ax_gR (v := .ref 296) (pc' := 522) ⟨_, rfl⟩ fl_12_230 ay_222 rfl rfl ?_
    refine ax_sip (pc' := 525) ⟨_, rfl⟩ (by decide) rfl ?_
    refine ax_mv 1 526 [some (.ref 222), some (ax_i x1), some (ax_i x2), some (ax_i x3), some (ax_i x4), some (ax_i x5), some (ax_i x6), some (ax_i (ax_wr (s1 + s0))), some (ax_i (ax_wr (x5 + x6)))] [ax_i x1, ax_i 701, .ref 296] rfl ?_
    refine ax_mul (pc' := 527) ⟨_, rfl⟩ rfl ?_
    refine ax_wrap ?_
    refine ax_mv 1 529 [some (.ref 222), some (ax_i x1), some (ax_i x2), some (ax_i x3), some (ax_i x4), some (ax_i x5), some (ax_i x6), some (ax_i (ax_wr (s1 + s0))), some (ax_i (ax_wr (x5 + x6)))] [ax_i x4, ax_i (ax_wr (701 * x1)), .ref 296] rfl ?_
    refine ax_add (pc' := 530) ⟨_, rfl⟩ rfl ?_
    refine ax_wrap ?_
    refine ax_mv 1 532 [some (.ref 222), some (ax_i x1), some (ax_i x2), some (ax_i x3), some (ax_i x4), some (ax_i x5), some (ax_i x6), some (ax_i (ax_wr (s1 + s0))), some (ax_i (ax_wr (x5 + x6)))] [ax_i (ax_wr (x5 + x6)), ax_i (ax_wr ((ax_wr (701 * x1)) + x4)), .ref 296] rfl ?_
    obtain ⟨o15, h⟩ := h
    obtain ⟨V7, eV7⟩ : ∃ W9 : ax_V, W9 = ax_u V 296 (ax_wr ((ax_wr (701 * x1)) + x4)) (ax_wr (x5 + x6)) := ⟨_, rfl⟩
    have h := h V7 eV7
    have hg7 : ax_g V7 := eV7 ▸ ax_u_g hg (ax_rg_of _)
    refine ax_ist (n := 6309) (pc' := 533) ⟨_, rfl⟩ ay_ok ay_296 (by decide) o15 eV7 rfl ?_
    exact ax_nret ⟨_, rfl⟩ rfl hg7 h
  have t7 : (V 241 x4 = 8) → ax_R ay_lay ax_t d m_Model_work 283 [some (.ref 222), some (ax_i x1), some (ax_i x2), some (ax_i x3), some (ax_i x4), some (ax_i x5), some (ax_i x6), some (ax_i (ax_wr (s1 + s0))), some (ax_i 0)] [] V (ax_Nr Φ) Θ := fun hk => by
    have h := h.2.2.2.2.2.2.2.1 hk
    refine ax_mv 2 287 [some (.ref 222), some (ax_i x1), some (ax_i x2), some (ax_i x3), some (ax_i x4), some (ax_i x5), some (ax_i x6), some (ax_i (ax_wr (s1 + s0))), some (ax_i 0)] [ax_i x6, ax_i x5] rfl ?_
    refine ax_sub (pc' := 288) ⟨_, rfl⟩ rfl ?_
    refine ax_wrap ?_
    refine ax_sti (i := 0) (k := 8) (n := 2) (pc' := 290) (L' := [some (.ref 222), some (ax_i x1), some (ax_i x2), some (ax_i x3), some (ax_i x4), some (ax_i x5), some (ax_i x6), some (ax_i (ax_wr (s1 + s0))), some (ax_i (ax_wr (x5 - x6)))]) ⟨_, rfl⟩ rfl rfl rfl (Nat.le_of_ble_eq_true rfl) rfl rfl ?_
    refine ax_mv 2 519 [some (.ref 222), some (ax_i x1), some (ax_i x2), some (ax_i x3), some (ax_i x4), some (ax_i x5), some (ax_i x6), some (ax_i (ax_wr (s1 + s0))), some (ax_i (ax_wr (x5 - x6)))] [.ref 222] rfl ?_
    refine ax_gR (v := .ref 296) (pc' := 522) ⟨_, rfl⟩ fl_12_230 ay_222 rfl rfl ?_
    refine ax_sip (pc' := 525) ⟨_, rfl⟩ (by decide) rfl ?_
    refine ax_mv 1 526 [some (.ref 222), some (ax_i x1), some (ax_i x2), some (ax_i x3), some (ax_i x4), some (ax_i x5), some (ax_i x6), some (ax_i (ax_wr (s1 + s0))), some (ax_i (ax_wr (x5 - x6)))] [ax_i x1, ax_i 701, .ref 296] rfl ?_
    refine ax_mul (pc' := 527) ⟨_, rfl⟩ rfl ?_
    refine ax_wrap ?_
    refine ax_mv 1 529 [some (.ref 222), some (ax_i x1), some (ax_i x2), some (ax_i x3), some (ax_i x4), some (ax_i x5), some (ax_i x6), some (ax_i (ax_wr (s1 + s0))), some (ax_i (ax_wr (x5 - x6)))] [ax_i x4, ax_i (ax_wr (701 * x1)), .ref 296] rfl ?_
    refine ax_add (pc' := 530) ⟨_, rfl⟩ rfl ?_
    refine ax_wrap ?_
    refine ax_mv 1 532 [some (.ref 222), some (ax_i x1), some (ax_i x2), some (ax_i x3), some (ax_i x4), some (ax_i x5), some (ax_i x6), some (ax_i (ax_wr (s1 + s0))), some (ax_i (ax_wr (x5 - x6)))] [ax_i (ax_wr (x5 - x6)), ax_i (ax_wr ((ax_wr (701 * x1)) + x4)), .ref 296] rfl ?_
    obtain ⟨o16, h⟩ := h
    obtain ⟨V8, eV8⟩ : ∃ W9 : ax_V, W9 = ax_u V 296 (ax_wr ((ax_wr (701 * x1)) + x4)) (ax_wr (x5 - x6)) := ⟨_, rfl⟩
    have h := h V8 eV8
    have hg8 : ax_g V8 := eV8 ▸ ax_u_g hg (ax_rg_of _)
    refine ax_ist (n := 6309) (pc' := 533) ⟨_, rfl⟩ ay_ok ay_296 (by decide) o16 eV8 rfl ?_
    exact ax_nret ⟨_, rfl⟩ rfl hg8 h
  have t8 : (V 241 x4 = 9) → ax_R ay_lay ax_t d m_Model_work 293 [some (.ref 222), some (ax_i x1), some (ax_i x2), some (ax_i x3), some (ax_i x4), some (ax_i x5), some (ax_i x6), some (ax_i (ax_wr (s1 + s0))), some (ax_i 0)] [] V (ax_Nr Φ) Θ := fun hk => by
    have h := h.2.2.2.2.2.2.2.2.1 hk
    refine ax_mv 2 297 [some (.ref 222), some (ax_i x1), some (ax_i x2), some (ax_i x3), some (ax_i x4), some (ax_i x5), some (ax_i x6), some (ax_i (ax_wr (s1 + s0))), some (ax_i 0)] [ax_i x6, ax_i x5] rfl ?_
    refine ax_mul (pc' := 298) ⟨_, rfl⟩ rfl ?_
    refine ax_wrap ?_
    refine ax_sti (i := 0) (k := 8) (n := 2) (pc' := 300) (L' := [some (.ref 222), some (ax_i x1), some (ax_i x2), some (ax_i x3), some (ax_i x4), some (ax_i x5), some (ax_i x6), some (ax_i (ax_wr (s1 + s0))), some (ax_i (ax_wr (x5 * x6)))]) ⟨_, rfl⟩ rfl rfl rfl (Nat.le_of_ble_eq_true rfl) rfl rfl ?_
    refine ax_mv 2 519 [some (.ref 222), some (ax_i x1), some (ax_i x2), some (ax_i x3), some (ax_i x4), some (ax_i x5), some (ax_i x6), some (ax_i (ax_wr (s1 + s0))), some (ax_i (ax_wr (x5 * x6)))] [.ref 222] rfl ?_
    refine ax_gR (v := .ref 296) (pc' := 522) ⟨_, rfl⟩ fl_12_230 ay_222 rfl rfl ?_
    refine ax_sip (pc' := 525) ⟨_, rfl⟩ (by decide) rfl ?_
    refine ax_mv 1 526 [some (.ref 222), some (ax_i x1), some (ax_i x2), some (ax_i x3), some (ax_i x4), some (ax_i x5), some (ax_i x6), some (ax_i (ax_wr (s1 + s0))), some (ax_i (ax_wr (x5 * x6)))] [ax_i x1, ax_i 701, .ref 296] rfl ?_
    refine ax_mul (pc' := 527) ⟨_, rfl⟩ rfl ?_
    refine ax_wrap ?_
    refine ax_mv 1 529 [some (.ref 222), some (ax_i x1), some (ax_i x2), some (ax_i x3), some (ax_i x4), some (ax_i x5), some (ax_i x6), some (ax_i (ax_wr (s1 + s0))), some (ax_i (ax_wr (x5 * x6)))] [ax_i x4, ax_i (ax_wr (701 * x1)), .ref 296] rfl ?_
    refine ax_add (pc' := 530) ⟨_, rfl⟩ rfl ?_
    refine ax_wrap ?_
    refine ax_mv 1 532 [some (.ref 222), some (ax_i x1), some (ax_i x2), some (ax_i x3), some (ax_i x4), some (ax_i x5), some (ax_i x6), some (ax_i (ax_wr (s1 + s0))), some (ax_i (ax_wr (x5 * x6)))] [ax_i (ax_wr (x5 * x6)), ax_i (ax_wr ((ax_wr (701 * x1)) + x4)), .ref 296] rfl ?_
    obtain ⟨o17, h⟩ := h
    obtain ⟨V9, eV9⟩ : ∃ W9 : ax_V, W9 = ax_u V 296 (ax_wr ((ax_wr (701 * x1)) + x4)) (ax_wr (x5 * x6)) := ⟨_, rfl⟩
    have h := h V9 eV9
    have hg9 : ax_g V9 := eV9 ▸ ax_u_g hg (ax_rg_of _)
    refine ax_ist (n := 6309) (pc' := 533) ⟨_, rfl⟩ ay_ok ay_296 (by decide) o17 eV9 rfl ?_
    exact ax_nret ⟨_, rfl⟩ rfl hg9 h
  have t9 : (V 241 x4 = 10 ∨ V 241 x4 = 11) → ax_R ay_lay ax_t d m_Model_work 303 [some (.ref 222), some (ax_i x1), some (ax_i x2), some (ax_i x3), some (ax_i x4), some (ax_i x5), some (ax_i x6), some (ax_i (ax_wr (s1 + s0))), some (ax_i 0)] [] V (ax_Nr Φ) Θ := fun hk => by
    have h := h.2.2.2.2.2.2.2.2.2.1 hk
    refine ax_mv 4 310 [some (.ref 222), some (ax_i x1), some (ax_i x2), some (ax_i x3), some (ax_i x4), some (ax_i x5), some (ax_i x6), some (ax_i (ax_wr (s1 + s0))), some (ax_i 0)] [ax_i x6, ax_i x5, ax_i x4, .ref 222] rfl ?_
    refine ax_callI (pc' := 313) ⟨_, rfl⟩ ml_12_631 (rest := []) rfl (fun ss hs => ⟨_, _, ay_222 ss hs⟩) (Nat.le_of_ble_eq_true rfl) rfl rfl h (fun r10 V10 hg10 hr10 h => ?_)
    refine ax_sti (i := 0) (k := 8) (n := 2) (pc' := 315) (L' := [some (.ref 222), some (ax_i x1), some (ax_i x2), some (ax_i x3), some (ax_i x4), some (ax_i x5), some (ax_i x6), some (ax_i (ax_wr (s1 + s0))), some (ax_i r10)]) ⟨_, rfl⟩ rfl rfl rfl (Nat.le_of_ble_eq_true rfl) rfl rfl ?_
    refine ax_mv 2 519 [some (.ref 222), some (ax_i x1), some (ax_i x2), some (ax_i x3), some (ax_i x4), some (ax_i x5), some (ax_i x6), some (ax_i (ax_wr (s1 + s0))), some (ax_i r10)] [.ref 222] rfl ?_
    refine ax_gR (v := .ref 296) (pc' := 522) ⟨_, rfl⟩ fl_12_230 ay_222 rfl rfl ?_
    refine ax_sip (pc' := 525) ⟨_, rfl⟩ (by decide) rfl ?_
    refine ax_mv 1 526 [some (.ref 222), some (ax_i x1), some (ax_i x2), some (ax_i x3), some (ax_i x4), some (ax_i x5), some (ax_i x6), some (ax_i (ax_wr (s1 + s0))), some (ax_i r10)] [ax_i x1, ax_i 701, .ref 296] rfl ?_
    refine ax_mul (pc' := 527) ⟨_, rfl⟩ rfl ?_
    refine ax_wrap ?_
    refine ax_mv 1 529 [some (.ref 222), some (ax_i x1), some (ax_i x2), some (ax_i x3), some (ax_i x4), some (ax_i x5), some (ax_i x6), some (ax_i (ax_wr (s1 + s0))), some (ax_i r10)] [ax_i x4, ax_i (ax_wr (701 * x1)), .ref 296] rfl ?_
    refine ax_add (pc' := 530) ⟨_, rfl⟩ rfl ?_
    refine ax_wrap ?_
    refine ax_mv 1 532 [some (.ref 222), some (ax_i x1), some (ax_i x2), some (ax_i x3), some (ax_i x4), some (ax_i x5), some (ax_i x6), some (ax_i (ax_wr (s1 + s0))), some (ax_i r10)] [ax_i r10, ax_i (ax_wr ((ax_wr (701 * x1)) + x4)), .ref 296] rfl ?_
    obtain ⟨o18, h⟩ := h
    obtain ⟨V11, eV11⟩ : ∃ W9 : ax_V, W9 = ax_u V10 296 (ax_wr ((ax_wr (701 * x1)) + x4)) r10 := ⟨_, rfl⟩
    have h := h V11 eV11
    have hg11 : ax_g V11 := eV11 ▸ ax_u_g hg10 hr10
    refine ax_ist (n := 6309) (pc' := 533) ⟨_, rfl⟩ ay_ok ay_296 (by decide) o18 eV11 rfl ?_
    exact ax_nret ⟨_, rfl⟩ rfl hg11 h
  have t10 : (V 241 x4 = 12) → ax_R ay_lay ax_t d m_Model_work 318 [some (.ref 222), some (ax_i x1), some (ax_i x2), some (ax_i x3), some (ax_i x4), some (ax_i x5), some (ax_i x6), some (ax_i (ax_wr (s1 + s0))), some (ax_i 0)] [] V (ax_Nr Φ) Θ := fun hk => by
    have h := h.2.2.2.2.2.2.2.2.2.2.1 hk
    refine ax_mv 2 322 [some (.ref 222), some (ax_i x1), some (ax_i x2), some (ax_i x3), some (ax_i x4), some (ax_i x5), some (ax_i x6), some (ax_i (ax_wr (s1 + s0))), some (ax_i 0)] [ax_i x6, ax_i x5] rfl ?_
    refine ax_if2 (p1 := 329) (p2 := 325) ⟨_, rfl⟩ (by decide) rfl hx5 hx6 (fun hc => ?_) (fun hc => ?_)
    · have h := h.2 hc
      refine ax_mv 1 330 [some (.ref 222), some (ax_i x1), some (ax_i x2), some (ax_i x3), some (ax_i x4), some (ax_i x5), some (ax_i x6), some (ax_i (ax_wr (s1 + s0))), some (ax_i 0)] [ax_i 0] rfl ?_
      refine ax_sti (i := 0) (k := 8) (n := 2) (pc' := 332) (L' := [some (.ref 222), some (ax_i x1), some (ax_i x2), some (ax_i x3), some (ax_i x4), some (ax_i x5), some (ax_i x6), some (ax_i (ax_wr (s1 + s0))), some (ax_i 0)]) ⟨_, rfl⟩ rfl rfl rfl (Nat.le_of_ble_eq_true rfl) rfl rfl ?_
      refine ax_mv 2 519 [some (.ref 222), some (ax_i x1), some (ax_i x2), some (ax_i x3), some (ax_i x4), some (ax_i x5), some (ax_i x6), some (ax_i (ax_wr (s1 + s0))), some (ax_i 0)] [.ref 222] rfl ?_
      refine ax_gR (v := .ref 296) (pc' := 522) ⟨_, rfl⟩ fl_12_230 ay_222 rfl rfl ?_
      refine ax_sip (pc' := 525) ⟨_, rfl⟩ (by decide) rfl ?_
      refine ax_mv 1 526 [some (.ref 222), some (ax_i x1), some (ax_i x2), some (ax_i x3), some (ax_i x4), some (ax_i x5), some (ax_i x6), some (ax_i (ax_wr (s1 + s0))), some (ax_i 0)] [ax_i x1, ax_i 701, .ref 296] rfl ?_
      refine ax_mul (pc' := 527) ⟨_, rfl⟩ rfl ?_
      refine ax_wrap ?_
      refine ax_mv 1 529 [some (.ref 222), some (ax_i x1), some (ax_i x2), some (ax_i x3), some (ax_i x4), some (ax_i x5), some (ax_i x6), some (ax_i (ax_wr (s1 + s0))), some (ax_i 0)] [ax_i x4, ax_i (ax_wr (701 * x1)), .ref 296] rfl ?_
      refine ax_add (pc' := 530) ⟨_, rfl⟩ rfl ?_
      refine ax_wrap ?_
      refine ax_mv 1 532 [some (.ref 222), some (ax_i x1), some (ax_i x2), some (ax_i x3), some (ax_i x4), some (ax_i x5), some (ax_i x6), some (ax_i (ax_wr (s1 + s0))), some (ax_i 0)] [ax_i 0, ax_i (ax_wr ((ax_wr (701 * x1)) + x4)), .ref 296] rfl ?_
      obtain ⟨o19, h⟩ := h
      obtain ⟨V12, eV12⟩ : ∃ W9 : ax_V, W9 = ax_u V 296 (ax_wr ((ax_wr (701 * x1)) + x4)) 0 := ⟨_, rfl⟩
      have h := h V12 eV12
      have hg12 : ax_g V12 := eV12 ▸ ax_u_g hg (by decide)
      refine ax_ist (n := 6309) (pc' := 533) ⟨_, rfl⟩ ay_ok ay_296 (by decide) o19 eV12 rfl ?_
      exact ax_nret ⟨_, rfl⟩ rfl hg12 h
    · have h := h.1 (Classical.not_not.mp hc)
      refine ax_mv 2 330 [some (.ref 222), some (ax_i x1), some (ax_i x2), some (ax_i x3), some (ax_i x4), some (ax_i x5), some (ax_i x6), some (ax_i (ax_wr (s1 + s0))), some (ax_i 0)] [ax_i 1] rfl ?_
      refine ax_sti (i := 0) (k := 8) (n := 2) (pc' := 332) (L' := [some (.ref 222), some (ax_i x1), some (ax_i x2), some (ax_i x3), some (ax_i x4), some (ax_i x5), some (ax_i x6), some (ax_i (ax_wr (s1 + s0))), some (ax_i 1)]) ⟨_, rfl⟩ rfl rfl rfl (Nat.le_of_ble_eq_true rfl) rfl rfl ?_
      refine ax_mv 2 519 [some (.ref 222), some (ax_i x1), some (ax_i x2), some (ax_i x3), some (ax_i x4), some (ax_i x5), some (ax_i x6), some (ax_i (ax_wr (s1 + s0))), some (ax_i 1)] [.ref 222] rfl ?_
      refine ax_gR (v := .ref 296) (pc' := 522) ⟨_, rfl⟩ fl_12_230 ay_222 rfl rfl ?_
      refine ax_sip (pc' := 525) ⟨_, rfl⟩ (by decide) rfl ?_
      refine ax_mv 1 526 [some (.ref 222), some (ax_i x1), some (ax_i x2), some (ax_i x3), some (ax_i x4), some (ax_i x5), some (ax_i x6), some (ax_i (ax_wr (s1 + s0))), some (ax_i 1)] [ax_i x1, ax_i 701, .ref 296] rfl ?_
      refine ax_mul (pc' := 527) ⟨_, rfl⟩ rfl ?_
      refine ax_wrap ?_
      refine ax_mv 1 529 [some (.ref 222), some (ax_i x1), some (ax_i x2), some (ax_i x3), some (ax_i x4), some (ax_i x5), some (ax_i x6), some (ax_i (ax_wr (s1 + s0))), some (ax_i 1)] [ax_i x4, ax_i (ax_wr (701 * x1)), .ref 296] rfl ?_
      refine ax_add (pc' := 530) ⟨_, rfl⟩ rfl ?_
      refine ax_wrap ?_
      refine ax_mv 1 532 [some (.ref 222), some (ax_i x1), some (ax_i x2), some (ax_i x3), some (ax_i x4), some (ax_i x5), some (ax_i x6), some (ax_i (ax_wr (s1 + s0))), some (ax_i 1)] [ax_i 1, ax_i (ax_wr ((ax_wr (701 * x1)) + x4)), .ref 296] rfl ?_
      obtain ⟨o20, h⟩ := h
      obtain ⟨V13, eV13⟩ : ∃ W9 : ax_V, W9 = ax_u V 296 (ax_wr ((ax_wr (701 * x1)) + x4)) 1 := ⟨_, rfl⟩
      have h := h V13 eV13
      have hg13 : ax_g V13 := eV13 ▸ ax_u_g hg (by decide)
      refine ax_ist (n := 6309) (pc' := 533) ⟨_, rfl⟩ ay_ok ay_296 (by decide) o20 eV13 rfl ?_
      exact ax_nret ⟨_, rfl⟩ rfl hg13 h
  have t11 : (V 241 x4 = 13) → ax_R ay_lay ax_t d m_Model_work 335 [some (.ref 222), some (ax_i x1), some (ax_i x2), some (ax_i x3), some (ax_i x4), some (ax_i x5), some (ax_i x6), some (ax_i (ax_wr (s1 + s0))), some (ax_i 0)] [] V (ax_Nr Φ) Θ := fun hk => by
    have h := h.2.2.2.2.2.2.2.2.2.2.2.1 hk
    refine ax_mv 2 339 [some (.ref 222), some (ax_i x1), some (ax_i x2), some (ax_i x3), some (ax_i x4), some (ax_i x5), some (ax_i x6), some (ax_i (ax_wr (s1 + s0))), some (ax_i 0)] [ax_i x6, ax_i x5] rfl ?_
    refine ax_if2 (p1 := 346) (p2 := 342) ⟨_, rfl⟩ (by decide) rfl hx5 hx6 (fun hc => ?_) (fun hc => ?_)
    · have h := h.1 hc
      refine ax_mv 1 347 [some (.ref 222), some (ax_i x1), some (ax_i x2), some (ax_i x3), some (ax_i x4), some (ax_i x5), some (ax_i x6), some (ax_i (ax_wr (s1 + s0))), some (ax_i 0)] [ax_i 0] rfl ?_
      refine ax_sti (i := 0) (k := 8) (n := 2) (pc' := 349) (L' := [some (.ref 222), some (ax_i x1), some (ax_i x2), some (ax_i x3), some (ax_i x4), some (ax_i x5), some (ax_i x6), some (ax_i (ax_wr (s1 + s0))), some (ax_i 0)]) ⟨_, rfl⟩ rfl rfl rfl (Nat.le_of_ble_eq_true rfl) rfl rfl ?_
      refine ax_mv 2 519 [some (.ref 222), some (ax_i x1), some (ax_i x2), some (ax_i x3), some (ax_i x4), some (ax_i x5), some (ax_i x6), some (ax_i (ax_wr (s1 + s0))), some (ax_i 0)] [.ref 222] rfl ?_
      refine ax_gR (v := .ref 296) (pc' := 522) ⟨_, rfl⟩ fl_12_230 ay_222 rfl rfl ?_
      refine ax_sip (pc' := 525) ⟨_, rfl⟩ (by decide) rfl ?_
      refine ax_mv 1 526 [some (.ref 222), some (ax_i x1), some (ax_i x2), some (ax_i x3), some (ax_i x4), some (ax_i x5), some (ax_i x6), some (ax_i (ax_wr (s1 + s0))), some (ax_i 0)] [ax_i x1, ax_i 701, .ref 296] rfl ?_
      refine ax_mul (pc' := 527) ⟨_, rfl⟩ rfl ?_
      refine ax_wrap ?_
      refine ax_mv 1 529 [some (.ref 222), some (ax_i x1), some (ax_i x2), some (ax_i x3), some (ax_i x4), some (ax_i x5), some (ax_i x6), some (ax_i (ax_wr (s1 + s0))), some (ax_i 0)] [ax_i x4, ax_i (ax_wr (701 * x1)), .ref 296] rfl ?_
      refine ax_add (pc' := 530) ⟨_, rfl⟩ rfl ?_
      refine ax_wrap ?_
      refine ax_mv 1 532 [some (.ref 222), some (ax_i x1), some (ax_i x2), some (ax_i x3), some (ax_i x4), some (ax_i x5), some (ax_i x6), some (ax_i (ax_wr (s1 + s0))), some (ax_i 0)] [ax_i 0, ax_i (ax_wr ((ax_wr (701 * x1)) + x4)), .ref 296] rfl ?_
      obtain ⟨o21, h⟩ := h
      obtain ⟨V14, eV14⟩ : ∃ W9 : ax_V, W9 = ax_u V 296 (ax_wr ((ax_wr (701 * x1)) + x4)) 0 := ⟨_, rfl⟩
      have h := h V14 eV14
      have hg14 : ax_g V14 := eV14 ▸ ax_u_g hg (by decide)
      refine ax_ist (n := 6309) (pc' := 533) ⟨_, rfl⟩ ay_ok ay_296 (by decide) o21 eV14 rfl ?_
      exact ax_nret ⟨_, rfl⟩ rfl hg14 h
    · have h := h.2 hc
      refine ax_mv 2 347 [some (.ref 222), some (ax_i x1), some (ax_i x2), some (ax_i x3), some (ax_i x4), some (ax_i x5), some (ax_i x6), some (ax_i (ax_wr (s1 + s0))), some (ax_i 0)] [ax_i 1] rfl ?_
      refine ax_sti (i := 0) (k := 8) (n := 2) (pc' := 349) (L' := [some (.ref 222), some (ax_i x1), some (ax_i x2), some (ax_i x3), some (ax_i x4), some (ax_i x5), some (ax_i x6), some (ax_i (ax_wr (s1 + s0))), some (ax_i 1)]) ⟨_, rfl⟩ rfl rfl rfl (Nat.le_of_ble_eq_true rfl) rfl rfl ?_
      refine ax_mv 2 519 [some (.ref 222), some (ax_i x1), some (ax_i x2), some (ax_i x3), some (ax_i x4), some (ax_i x5), some (ax_i x6), some (ax_i (ax_wr (s1 + s0))), some (ax_i 1)] [.ref 222] rfl ?_
      refine ax_gR (v := .ref 296) (pc' := 522) ⟨_, rfl⟩ fl_12_230 ay_222 rfl rfl ?_
      refine ax_sip (pc' := 525) ⟨_, rfl⟩ (by decide) rfl ?_
      refine ax_mv 1 526 [some (.ref 222), some (ax_i x1), some (ax_i x2), some (ax_i x3), some (ax_i x4), some (ax_i x5), some (ax_i x6), some (ax_i (ax_wr (s1 + s0))), some (ax_i 1)] [ax_i x1, ax_i 701, .ref 296] rfl ?_
      refine ax_mul (pc' := 527) ⟨_, rfl⟩ rfl ?_
      refine ax_wrap ?_
      refine ax_mv 1 529 [some (.ref 222), some (ax_i x1), some (ax_i x2), some (ax_i x3), some (ax_i x4), some (ax_i x5), some (ax_i x6), some (ax_i (ax_wr (s1 + s0))), some (ax_i 1)] [ax_i x4, ax_i (ax_wr (701 * x1)), .ref 296] rfl ?_
      refine ax_add (pc' := 530) ⟨_, rfl⟩ rfl ?_
      refine ax_wrap ?_
      refine ax_mv 1 532 [some (.ref 222), some (ax_i x1), some (ax_i x2), some (ax_i x3), some (ax_i x4), some (ax_i x5), some (ax_i x6), some (ax_i (ax_wr (s1 + s0))), some (ax_i 1)] [ax_i 1, ax_i (ax_wr ((ax_wr (701 * x1)) + x4)), .ref 296] rfl ?_
      obtain ⟨o22, h⟩ := h
      obtain ⟨V15, eV15⟩ : ∃ W9 : ax_V, W9 = ax_u V 296 (ax_wr ((ax_wr (701 * x1)) + x4)) 1 := ⟨_, rfl⟩
      have h := h V15 eV15
      have hg15 : ax_g V15 := eV15 ▸ ax_u_g hg (by decide)
      refine ax_ist (n := 6309) (pc' := 533) ⟨_, rfl⟩ ay_ok ay_296 (by decide) o22 eV15 rfl ?_
      exact ax_nret ⟨_, rfl⟩ rfl hg15 h
  have t12 : (V 241 x4 = 14) → ax_R ay_lay ax_t d m_Model_work 352 [some (.ref 222), some (ax_i x1), some (ax_i x2), some (ax_i x3), some (ax_i x4), some (ax_i x5), some (ax_i x6), some (ax_i (ax_wr (s1 + s0))), some (ax_i 0)] [] V (ax_Nr Φ) Θ := fun hk => by
    have h := h.2.2.2.2.2.2.2.2.2.2.2.2.1 hk
    refine ax_mv 2 356 [some (.ref 222), some (ax_i x1), some (ax_i x2), some (ax_i x3), some (ax_i x4), some (ax_i x5), some (ax_i x6), some (ax_i (ax_wr (s1 + s0))), some (ax_i 0)] [ax_i x6, ax_i x5] rfl ?_
    refine ax_if2 (p1 := 363) (p2 := 359) ⟨_, rfl⟩ (by decide) rfl hx5 hx6 (fun hc => ?_) (fun hc => ?_)
    · have h := h.1 hc
      refine ax_mv 1 364 [some (.ref 222), some (ax_i x1), some (ax_i x2), some (ax_i x3), some (ax_i x4), some (ax_i x5), some (ax_i x6), some (ax_i (ax_wr (s1 + s0))), some (ax_i 0)] [ax_i 0] rfl ?_
      refine ax_sti (i := 0) (k := 8) (n := 2) (pc' := 366) (L' := [some (.ref 222), some (ax_i x1), some (ax_i x2), some (ax_i x3), some (ax_i x4), some (ax_i x5), some (ax_i x6), some (ax_i (ax_wr (s1 + s0))), some (ax_i 0)]) ⟨_, rfl⟩ rfl rfl rfl (Nat.le_of_ble_eq_true rfl) rfl rfl ?_
      refine ax_mv 2 519 [some (.ref 222), some (ax_i x1), some (ax_i x2), some (ax_i x3), some (ax_i x4), some (ax_i x5), some (ax_i x6), some (ax_i (ax_wr (s1 + s0))), some (ax_i 0)] [.ref 222] rfl ?_
      refine ax_gR (v := .ref 296) (pc' := 522) ⟨_, rfl⟩ fl_12_230 ay_222 rfl rfl ?_
      refine ax_sip (pc' := 525) ⟨_, rfl⟩ (by decide) rfl ?_
      refine ax_mv 1 526 [some (.ref 222), some (ax_i x1), some (ax_i x2), some (ax_i x3), some (ax_i x4), some (ax_i x5), some (ax_i x6), some (ax_i (ax_wr (s1 + s0))), some (ax_i 0)] [ax_i x1, ax_i 701, .ref 296] rfl ?_
      refine ax_mul (pc' := 527) ⟨_, rfl⟩ rfl ?_
      refine ax_wrap ?_
      refine ax_mv 1 529 [some (.ref 222), some (ax_i x1), some (ax_i x2), some (ax_i x3), some (ax_i x4), some (ax_i x5), some (ax_i x6), some (ax_i (ax_wr (s1 + s0))), some (ax_i 0)] [ax_i x4, ax_i (ax_wr (701 * x1)), .ref 296] rfl ?_
      refine ax_add (pc' := 530) ⟨_, rfl⟩ rfl ?_
      refine ax_wrap ?_
      refine ax_mv 1 532 [some (.ref 222), some (ax_i x1), some (ax_i x2), some (ax_i x3), some (ax_i x4), some (ax_i x5), some (ax_i x6), some (ax_i (ax_wr (s1 + s0))), some (ax_i 0)] [ax_i 0, ax_i (ax_wr ((ax_wr (701 * x1)) + x4)), .ref 296] rfl ?_
      obtain ⟨o23, h⟩ := h
      obtain ⟨V16, eV16⟩ : ∃ W9 : ax_V, W9 = ax_u V 296 (ax_wr ((ax_wr (701 * x1)) + x4)) 0 := ⟨_, rfl⟩
      have h := h V16 eV16
      have hg16 : ax_g V16 := eV16 ▸ ax_u_g hg (by decide)
      refine ax_ist (n := 6309) (pc' := 533) ⟨_, rfl⟩ ay_ok ay_296 (by decide) o23 eV16 rfl ?_
      exact ax_nret ⟨_, rfl⟩ rfl hg16 h
    · have h := h.2 (Int.not_le.mp hc)
      refine ax_mv 2 364 [some (.ref 222), some (ax_i x1), some (ax_i x2), some (ax_i x3), some (ax_i x4), some (ax_i x5), some (ax_i x6), some (ax_i (ax_wr (s1 + s0))), some (ax_i 0)] [ax_i 1] rfl ?_
      refine ax_sti (i := 0) (k := 8) (n := 2) (pc' := 366) (L' := [some (.ref 222), some (ax_i x1), some (ax_i x2), some (ax_i x3), some (ax_i x4), some (ax_i x5), some (ax_i x6), some (ax_i (ax_wr (s1 + s0))), some (ax_i 1)]) ⟨_, rfl⟩ rfl rfl rfl (Nat.le_of_ble_eq_true rfl) rfl rfl ?_
      refine ax_mv 2 519 [some (.ref 222), some (ax_i x1), some (ax_i x2), some (ax_i x3), some (ax_i x4), some (ax_i x5), some (ax_i x6), some (ax_i (ax_wr (s1 + s0))), some (ax_i 1)] [.ref 222] rfl ?_
      refine ax_gR (v := .ref 296) (pc' := 522) ⟨_, rfl⟩ fl_12_230 ay_222 rfl rfl ?_
      refine ax_sip (pc' := 525) ⟨_, rfl⟩ (by decide) rfl ?_
      refine ax_mv 1 526 [some (.ref 222), some (ax_i x1), some (ax_i x2), some (ax_i x3), some (ax_i x4), some (ax_i x5), some (ax_i x6), some (ax_i (ax_wr (s1 + s0))), some (ax_i 1)] [ax_i x1, ax_i 701, .ref 296] rfl ?_
      refine ax_mul (pc' := 527) ⟨_, rfl⟩ rfl ?_
      refine ax_wrap ?_
      refine ax_mv 1 529 [some (.ref 222), some (ax_i x1), some (ax_i x2), some (ax_i x3), some (ax_i x4), some (ax_i x5), some (ax_i x6), some (ax_i (ax_wr (s1 + s0))), some (ax_i 1)] [ax_i x4, ax_i (ax_wr (701 * x1)), .ref 296] rfl ?_
      refine ax_add (pc' := 530) ⟨_, rfl⟩ rfl ?_
      refine ax_wrap ?_
      refine ax_mv 1 532 [some (.ref 222), some (ax_i x1), some (ax_i x2), some (ax_i x3), some (ax_i x4), some (ax_i x5), some (ax_i x6), some (ax_i (ax_wr (s1 + s0))), some (ax_i 1)] [ax_i 1, ax_i (ax_wr ((ax_wr (701 * x1)) + x4)), .ref 296] rfl ?_
      obtain ⟨o24, h⟩ := h
      obtain ⟨V17, eV17⟩ : ∃ W9 : ax_V, W9 = ax_u V 296 (ax_wr ((ax_wr (701 * x1)) + x4)) 1 := ⟨_, rfl⟩
      have h := h V17 eV17
      have hg17 : ax_g V17 := eV17 ▸ ax_u_g hg (by decide)
      refine ax_ist (n := 6309) (pc' := 533) ⟨_, rfl⟩ ay_ok ay_296 (by decide) o24 eV17 rfl ?_
      exact ax_nret ⟨_, rfl⟩ rfl hg17 h
  have t13 : (V 241 x4 = 15) → ax_R ay_lay ax_t d m_Model_work 369 [some (.ref 222), some (ax_i x1), some (ax_i x2), some (ax_i x3), some (ax_i x4), some (ax_i x5), some (ax_i x6), some (ax_i (ax_wr (s1 + s0))), some (ax_i 0)] [] V (ax_Nr Φ) Θ := fun hk => by
    have h := h.2.2.2.2.2.2.2.2.2.2.2.2.2.1 hk
    refine ax_mv 2 373 [some (.ref 222), some (ax_i x1), some (ax_i x2), some (ax_i x3), some (ax_i x4), some (ax_i x5), some (ax_i x6), some (ax_i (ax_wr (s1 + s0))), some (ax_i 0)] [ax_i x6, ax_i x5] rfl ?_
    refine ax_if2 (p1 := 380) (p2 := 376) ⟨_, rfl⟩ (by decide) rfl hx5 hx6 (fun hc => ?_) (fun hc => ?_)
    · have h := h.1 hc
      refine ax_mv 1 381 [some (.ref 222), some (ax_i x1), some (ax_i x2), some (ax_i x3), some (ax_i x4), some (ax_i x5), some (ax_i x6), some (ax_i (ax_wr (s1 + s0))), some (ax_i 0)] [ax_i 0] rfl ?_
      refine ax_sti (i := 0) (k := 8) (n := 2) (pc' := 383) (L' := [some (.ref 222), some (ax_i x1), some (ax_i x2), some (ax_i x3), some (ax_i x4), some (ax_i x5), some (ax_i x6), some (ax_i (ax_wr (s1 + s0))), some (ax_i 0)]) ⟨_, rfl⟩ rfl rfl rfl (Nat.le_of_ble_eq_true rfl) rfl rfl ?_
      refine ax_mv 2 519 [some (.ref 222), some (ax_i x1), some (ax_i x2), some (ax_i x3), some (ax_i x4), some (ax_i x5), some (ax_i x6), some (ax_i (ax_wr (s1 + s0))), some (ax_i 0)] [.ref 222] rfl ?_
      refine ax_gR (v := .ref 296) (pc' := 522) ⟨_, rfl⟩ fl_12_230 ay_222 rfl rfl ?_
      refine ax_sip (pc' := 525) ⟨_, rfl⟩ (by decide) rfl ?_
      refine ax_mv 1 526 [some (.ref 222), some (ax_i x1), some (ax_i x2), some (ax_i x3), some (ax_i x4), some (ax_i x5), some (ax_i x6), some (ax_i (ax_wr (s1 + s0))), some (ax_i 0)] [ax_i x1, ax_i 701, .ref 296] rfl ?_
      refine ax_mul (pc' := 527) ⟨_, rfl⟩ rfl ?_
      refine ax_wrap ?_
      refine ax_mv 1 529 [some (.ref 222), some (ax_i x1), some (ax_i x2), some (ax_i x3), some (ax_i x4), some (ax_i x5), some (ax_i x6), some (ax_i (ax_wr (s1 + s0))), some (ax_i 0)] [ax_i x4, ax_i (ax_wr (701 * x1)), .ref 296] rfl ?_
      refine ax_add (pc' := 530) ⟨_, rfl⟩ rfl ?_
      refine ax_wrap ?_
      refine ax_mv 1 532 [some (.ref 222), some (ax_i x1), some (ax_i x2), some (ax_i x3), some (ax_i x4), some (ax_i x5), some (ax_i x6), some (ax_i (ax_wr (s1 + s0))), some (ax_i 0)] [ax_i 0, ax_i (ax_wr ((ax_wr (701 * x1)) + x4)), .ref 296] rfl ?_
      obtain ⟨o25, h⟩ := h
      obtain ⟨V18, eV18⟩ : ∃ W9 : ax_V, W9 = ax_u V 296 (ax_wr ((ax_wr (701 * x1)) + x4)) 0 := ⟨_, rfl⟩
      have h := h V18 eV18
      have hg18 : ax_g V18 := eV18 ▸ ax_u_g hg (by decide)
      refine ax_ist (n := 6309) (pc' := 533) ⟨_, rfl⟩ ay_ok ay_296 (by decide) o25 eV18 rfl ?_
      exact ax_nret ⟨_, rfl⟩ rfl hg18 h
    · have h := h.2 (Int.not_le.mp hc)
      refine ax_mv 2 381 [some (.ref 222), some (ax_i x1), some (ax_i x2), some (ax_i x3), some (ax_i x4), some (ax_i x5), some (ax_i x6), some (ax_i (ax_wr (s1 + s0))), some (ax_i 0)] [ax_i 1] rfl ?_
      refine ax_sti (i := 0) (k := 8) (n := 2) (pc' := 383) (L' := [some (.ref 222), some (ax_i x1), some (ax_i x2), some (ax_i x3), some (ax_i x4), some (ax_i x5), some (ax_i x6), some (ax_i (ax_wr (s1 + s0))), some (ax_i 1)]) ⟨_, rfl⟩ rfl rfl rfl (Nat.le_of_ble_eq_true rfl) rfl rfl ?_
      refine ax_mv 2 519 [some (.ref 222), some (ax_i x1), some (ax_i x2), some (ax_i x3), some (ax_i x4), some (ax_i x5), some (ax_i x6), some (ax_i (ax_wr (s1 + s0))), some (ax_i 1)] [.ref 222] rfl ?_
      refine ax_gR (v := .ref 296) (pc' := 522) ⟨_, rfl⟩ fl_12_230 ay_222 rfl rfl ?_
      refine ax_sip (pc' := 525) ⟨_, rfl⟩ (by decide) rfl ?_
      refine ax_mv 1 526 [some (.ref 222), some (ax_i x1), some (ax_i x2), some (ax_i x3), some (ax_i x4), some (ax_i x5), some (ax_i x6), some (ax_i (ax_wr (s1 + s0))), some (ax_i 1)] [ax_i x1, ax_i 701, .ref 296] rfl ?_
      refine ax_mul (pc' := 527) ⟨_, rfl⟩ rfl ?_
      refine ax_wrap ?_
      refine ax_mv 1 529 [some (.ref 222), some (ax_i x1), some (ax_i x2), some (ax_i x3), some (ax_i x4), some (ax_i x5), some (ax_i x6), some (ax_i (ax_wr (s1 + s0))), some (ax_i 1)] [ax_i x4, ax_i (ax_wr (701 * x1)), .ref 296] rfl ?_
      refine ax_add (pc' := 530) ⟨_, rfl⟩ rfl ?_
      refine ax_wrap ?_
      refine ax_mv 1 532 [some (.ref 222), some (ax_i x1), some (ax_i x2), some (ax_i x3), some (ax_i x4), some (ax_i x5), some (ax_i x6), some (ax_i (ax_wr (s1 + s0))), some (ax_i 1)] [ax_i 1, ax_i (ax_wr ((ax_wr (701 * x1)) + x4)), .ref 296] rfl ?_
      obtain ⟨o26, h⟩ := h
      obtain ⟨V19, eV19⟩ : ∃ W9 : ax_V, W9 = ax_u V 296 (ax_wr ((ax_wr (701 * x1)) + x4)) 1 := ⟨_, rfl⟩
      have h := h V19 eV19
      have hg19 : ax_g V19 := eV19 ▸ ax_u_g hg (by decide)
      refine ax_ist (n := 6309) (pc' := 533) ⟨_, rfl⟩ ay_ok ay_296 (by decide) o26 eV19 rfl ?_
      exact ax_nret ⟨_, rfl⟩ rfl hg19 h
  have t14 : (V 241 x4 = 16) → ax_R ay_lay ax_t d m_Model_work 386 [some (.ref 222), some (ax_i x1), some (ax_i x2), some (ax_i x3), some (ax_i x4), some (ax_i x5), some (ax_i x6), some (ax_i (ax_wr (s1 + s0))), some (ax_i 0)] [] V (ax_Nr Φ) Θ := fun hk => by
    have h := h.2.2.2.2.2.2.2.2.2.2.2.2.2.2.1 hk
    refine ax_mv 2 390 [some (.ref 222), some (ax_i x1), some (ax_i x2), some (ax_i x3), some (ax_i x4), some (ax_i x5), some (ax_i x6), some (ax_i (ax_wr (s1 + s0))), some (ax_i 0)] [ax_i x6, ax_i x5] rfl ?_
    refine ax_rand (pc' := 391) ⟨_, rfl⟩ rfl ?_
    refine ax_sti (i := 0) (k := 8) (n := 2) (pc' := 393) (L' := [some (.ref 222), some (ax_i x1), some (ax_i x2), some (ax_i x3), some (ax_i x4), some (ax_i x5), some (ax_i x6), some (ax_i (ax_wr (s1 + s0))), some (ax_i (ax_and x5 x6))]) ⟨_, rfl⟩ rfl rfl rfl (Nat.le_of_ble_eq_true rfl) rfl rfl ?_
    refine ax_mv 2 519 [some (.ref 222), some (ax_i x1), some (ax_i x2), some (ax_i x3), some (ax_i x4), some (ax_i x5), some (ax_i x6), some (ax_i (ax_wr (s1 + s0))), some (ax_i (ax_and x5 x6))] [.ref 222] rfl ?_
    refine ax_gR (v := .ref 296) (pc' := 522) ⟨_, rfl⟩ fl_12_230 ay_222 rfl rfl ?_
    refine ax_sip (pc' := 525) ⟨_, rfl⟩ (by decide) rfl ?_
    refine ax_mv 1 526 [some (.ref 222), some (ax_i x1), some (ax_i x2), some (ax_i x3), some (ax_i x4), some (ax_i x5), some (ax_i x6), some (ax_i (ax_wr (s1 + s0))), some (ax_i (ax_and x5 x6))] [ax_i x1, ax_i 701, .ref 296] rfl ?_
    refine ax_mul (pc' := 527) ⟨_, rfl⟩ rfl ?_
    refine ax_wrap ?_
    refine ax_mv 1 529 [some (.ref 222), some (ax_i x1), some (ax_i x2), some (ax_i x3), some (ax_i x4), some (ax_i x5), some (ax_i x6), some (ax_i (ax_wr (s1 + s0))), some (ax_i (ax_and x5 x6))] [ax_i x4, ax_i (ax_wr (701 * x1)), .ref 296] rfl ?_
    refine ax_add (pc' := 530) ⟨_, rfl⟩ rfl ?_
    refine ax_wrap ?_
    refine ax_mv 1 532 [some (.ref 222), some (ax_i x1), some (ax_i x2), some (ax_i x3), some (ax_i x4), some (ax_i x5), some (ax_i x6), some (ax_i (ax_wr (s1 + s0))), some (ax_i (ax_and x5 x6))] [ax_i (ax_and x5 x6), ax_i (ax_wr ((ax_wr (701 * x1)) + x4)), .ref 296] rfl ?_
    obtain ⟨o27, h⟩ := h
    obtain ⟨V20, eV20⟩ : ∃ W9 : ax_V, W9 = ax_u V 296 (ax_wr ((ax_wr (701 * x1)) + x4)) (ax_and x5 x6) := ⟨_, rfl⟩
    have h := h V20 eV20
    have hg20 : ax_g V20 := eV20 ▸ ax_u_g hg (ax_rg_of _)
    refine ax_ist (n := 6309) (pc' := 533) ⟨_, rfl⟩ ay_ok ay_296 (by decide) o27 eV20 rfl ?_
    exact ax_nret ⟨_, rfl⟩ rfl hg20 h
  have t15 : (V 241 x4 = 17) → ax_R ay_lay ax_t d m_Model_work 396 [some (.ref 222), some (ax_i x1), some (ax_i x2), some (ax_i x3), some (ax_i x4), some (ax_i x5), some (ax_i x6), some (ax_i (ax_wr (s1 + s0))), some (ax_i 0)] [] V (ax_Nr Φ) Θ := fun hk => by
    have h := h.2.2.2.2.2.2.2.2.2.2.2.2.2.2.2.1 hk
    refine ax_mv 2 400 [some (.ref 222), some (ax_i x1), some (ax_i x2), some (ax_i x3), some (ax_i x4), some (ax_i x5), some (ax_i x6), some (ax_i (ax_wr (s1 + s0))), some (ax_i 0)] [ax_i x6, ax_i x5] rfl ?_
    refine ax_ror (pc' := 401) ⟨_, rfl⟩ rfl ?_
    refine ax_sti (i := 0) (k := 8) (n := 2) (pc' := 403) (L' := [some (.ref 222), some (ax_i x1), some (ax_i x2), some (ax_i x3), some (ax_i x4), some (ax_i x5), some (ax_i x6), some (ax_i (ax_wr (s1 + s0))), some (ax_i (ax_or x5 x6))]) ⟨_, rfl⟩ rfl rfl rfl (Nat.le_of_ble_eq_true rfl) rfl rfl ?_
    refine ax_mv 2 519 [some (.ref 222), some (ax_i x1), some (ax_i x2), some (ax_i x3), some (ax_i x4), some (ax_i x5), some (ax_i x6), some (ax_i (ax_wr (s1 + s0))), some (ax_i (ax_or x5 x6))] [.ref 222] rfl ?_
    refine ax_gR (v := .ref 296) (pc' := 522) ⟨_, rfl⟩ fl_12_230 ay_222 rfl rfl ?_
    refine ax_sip (pc' := 525) ⟨_, rfl⟩ (by decide) rfl ?_
    refine ax_mv 1 526 [some (.ref 222), some (ax_i x1), some (ax_i x2), some (ax_i x3), some (ax_i x4), some (ax_i x5), some (ax_i x6), some (ax_i (ax_wr (s1 + s0))), some (ax_i (ax_or x5 x6))] [ax_i x1, ax_i 701, .ref 296] rfl ?_
    refine ax_mul (pc' := 527) ⟨_, rfl⟩ rfl ?_
    refine ax_wrap ?_
    refine ax_mv 1 529 [some (.ref 222), some (ax_i x1), some (ax_i x2), some (ax_i x3), some (ax_i x4), some (ax_i x5), some (ax_i x6), some (ax_i (ax_wr (s1 + s0))), some (ax_i (ax_or x5 x6))] [ax_i x4, ax_i (ax_wr (701 * x1)), .ref 296] rfl ?_
    refine ax_add (pc' := 530) ⟨_, rfl⟩ rfl ?_
    refine ax_wrap ?_
    refine ax_mv 1 532 [some (.ref 222), some (ax_i x1), some (ax_i x2), some (ax_i x3), some (ax_i x4), some (ax_i x5), some (ax_i x6), some (ax_i (ax_wr (s1 + s0))), some (ax_i (ax_or x5 x6))] [ax_i (ax_or x5 x6), ax_i (ax_wr ((ax_wr (701 * x1)) + x4)), .ref 296] rfl ?_
    obtain ⟨o28, h⟩ := h
    obtain ⟨V21, eV21⟩ : ∃ W9 : ax_V, W9 = ax_u V 296 (ax_wr ((ax_wr (701 * x1)) + x4)) (ax_or x5 x6) := ⟨_, rfl⟩
    have h := h V21 eV21
    have hg21 : ax_g V21 := eV21 ▸ ax_u_g hg (ax_rg_of _)
    refine ax_ist (n := 6309) (pc' := 533) ⟨_, rfl⟩ ay_ok ay_296 (by decide) o28 eV21 rfl ?_
    exact ax_nret ⟨_, rfl⟩ rfl hg21 h
  have t16 : (V 241 x4 = 18) → ax_R ay_lay ax_t d m_Model_work 406 [some (.ref 222), some (ax_i x1), some (ax_i x2), some (ax_i x3), some (ax_i x4), some (ax_i x5), some (ax_i x6), some (ax_i (ax_wr (s1 + s0))), some (ax_i 0)] [] V (ax_Nr Φ) Θ := fun hk => by
    have h := h.2.2.2.2.2.2.2.2.2.2.2.2.2.2.2.2.1 hk
    refine ax_mv 2 409 [some (.ref 222), some (ax_i x1), some (ax_i x2), some (ax_i x3), some (ax_i x4), some (ax_i x5), some (ax_i x6), some (ax_i (ax_wr (s1 + s0))), some (ax_i 0)] [ax_i 1, ax_i x5] rfl ?_
    refine ax_if2 (p1 := 417) (p2 := 412) ⟨_, rfl⟩ (by decide) rfl hx5 (by decide) (fun hc => ?_) (fun hc => ?_)
    · have h := h.2 hc
      refine ax_mv 3 420 [some (.ref 222), some (ax_i x1), some (ax_i x2), some (ax_i x3), some (ax_i x4), some (ax_i x5), some (ax_i x6), some (ax_i (ax_wr (s1 + s0))), some (ax_i 0)] [.ref 222, ax_i x1, .ref 222] rfl ?_
      refine ax_gR (v := .ref 247) (pc' := 423) ⟨_, rfl⟩ fl_12_83 ay_222 rfl rfl ?_
      refine ax_mv 1 425 [some (.ref 222), some (ax_i x1), some (ax_i x2), some (ax_i x3), some (ax_i x4), some (ax_i x5), some (ax_i x6), some (ax_i (ax_wr (s1 + s0))), some (ax_i 0)] [ax_i x4, .ref 247, ax_i x1, .ref 222] rfl ?_
      obtain ⟨o29, h⟩ := h
      refine ax_ild (n := 701) (pc' := 426) ⟨_, rfl⟩ ay_247 (by decide) o29 rfl ?_
      refine ax_callI (pc' := 429) ⟨_, rfl⟩ ml_12_628 (rest := []) rfl (fun ss hs => ⟨_, _, ay_222 ss hs⟩) (Nat.le_of_ble_eq_true rfl) rfl rfl h (fun r22 V22 hg22 hr22 h => ?_)
      refine ax_sti (i := 0) (k := 8) (n := 2) (pc' := 431) (L' := [some (.ref 222), some (ax_i x1), some (ax_i x2), some (ax_i x3), some (ax_i x4), some (ax_i x5), some (ax_i x6), some (ax_i (ax_wr (s1 + s0))), some (ax_i r22)]) ⟨_, rfl⟩ rfl rfl rfl (Nat.le_of_ble_eq_true rfl) rfl rfl ?_
      refine ax_mv 2 519 [some (.ref 222), some (ax_i x1), some (ax_i x2), some (ax_i x3), some (ax_i x4), some (ax_i x5), some (ax_i x6), some (ax_i (ax_wr (s1 + s0))), some (ax_i r22)] [.ref 222] rfl ?_
      refine ax_gR (v := .ref 296) (pc' := 522) ⟨_, rfl⟩ fl_12_230 ay_222 rfl rfl ?_
      refine ax_sip (pc' := 525) ⟨_, rfl⟩ (by decide) rfl ?_
      refine ax_mv 1 526 [some (.ref 222), some (ax_i x1), some (ax_i x2), some (ax_i x3), some (ax_i x4), some (ax_i x5), some (ax_i x6), some (ax_i (ax_wr (s1 + s0))), some (ax_i r22)] [ax_i x1, ax_i 701, .ref 296] rfl ?_
      refine ax_mul (pc' := 527) ⟨_, rfl⟩ rfl ?_
      refine ax_wrap ?_
      refine ax_mv 1 529 [some (.ref 222), some (ax_i x1), some (ax_i x2), some (ax_i x3), some (ax_i x4), some (ax_i x5), some (ax_i x6), some (ax_i (ax_wr (s1 + s0))), some (ax_i r22)] [ax_i x4, ax_i (ax_wr (701 * x1)), .ref 296] rfl ?_
      refine ax_add (pc' := 530) ⟨_, rfl⟩ rfl ?_
      refine ax_wrap ?_
      refine ax_mv 1 532 [some (.ref 222), some (ax_i x1), some (ax_i x2), some (ax_i x3), some (ax_i x4), some (ax_i x5), some (ax_i x6), some (ax_i (ax_wr (s1 + s0))), some (ax_i r22)] [ax_i r22, ax_i (ax_wr ((ax_wr (701 * x1)) + x4)), .ref 296] rfl ?_
      obtain ⟨o30, h⟩ := h
      obtain ⟨V23, eV23⟩ : ∃ W9 : ax_V, W9 = ax_u V22 296 (ax_wr ((ax_wr (701 * x1)) + x4)) r22 := ⟨_, rfl⟩
      have h := h V23 eV23
      have hg23 : ax_g V23 := eV23 ▸ ax_u_g hg22 hr22
      refine ax_ist (n := 6309) (pc' := 533) ⟨_, rfl⟩ ay_ok ay_296 (by decide) o30 eV23 rfl ?_
      exact ax_nret ⟨_, rfl⟩ rfl hg23 h
    · have h := h.1 (Classical.not_not.mp hc)
      refine ax_mv 2 429 [some (.ref 222), some (ax_i x1), some (ax_i x2), some (ax_i x3), some (ax_i x4), some (ax_i x5), some (ax_i x6), some (ax_i (ax_wr (s1 + s0))), some (ax_i 0)] [ax_i x6] rfl ?_
      refine ax_sti (i := 0) (k := 8) (n := 2) (pc' := 431) (L' := [some (.ref 222), some (ax_i x1), some (ax_i x2), some (ax_i x3), some (ax_i x4), some (ax_i x5), some (ax_i x6), some (ax_i (ax_wr (s1 + s0))), some (ax_i x6)]) ⟨_, rfl⟩ rfl rfl rfl (Nat.le_of_ble_eq_true rfl) rfl rfl ?_
      refine ax_mv 2 519 [some (.ref 222), some (ax_i x1), some (ax_i x2), some (ax_i x3), some (ax_i x4), some (ax_i x5), some (ax_i x6), some (ax_i (ax_wr (s1 + s0))), some (ax_i x6)] [.ref 222] rfl ?_
      refine ax_gR (v := .ref 296) (pc' := 522) ⟨_, rfl⟩ fl_12_230 ay_222 rfl rfl ?_
      refine ax_sip (pc' := 525) ⟨_, rfl⟩ (by decide) rfl ?_
      refine ax_mv 1 526 [some (.ref 222), some (ax_i x1), some (ax_i x2), some (ax_i x3), some (ax_i x4), some (ax_i x5), some (ax_i x6), some (ax_i (ax_wr (s1 + s0))), some (ax_i x6)] [ax_i x1, ax_i 701, .ref 296] rfl ?_
      refine ax_mul (pc' := 527) ⟨_, rfl⟩ rfl ?_
      refine ax_wrap ?_
      refine ax_mv 1 529 [some (.ref 222), some (ax_i x1), some (ax_i x2), some (ax_i x3), some (ax_i x4), some (ax_i x5), some (ax_i x6), some (ax_i (ax_wr (s1 + s0))), some (ax_i x6)] [ax_i x4, ax_i (ax_wr (701 * x1)), .ref 296] rfl ?_
      refine ax_add (pc' := 530) ⟨_, rfl⟩ rfl ?_
      refine ax_wrap ?_
      refine ax_mv 1 532 [some (.ref 222), some (ax_i x1), some (ax_i x2), some (ax_i x3), some (ax_i x4), some (ax_i x5), some (ax_i x6), some (ax_i (ax_wr (s1 + s0))), some (ax_i x6)] [ax_i x6, ax_i (ax_wr ((ax_wr (701 * x1)) + x4)), .ref 296] rfl ?_
      obtain ⟨o31, h⟩ := h
      obtain ⟨V24, eV24⟩ : ∃ W9 : ax_V, W9 = ax_u V 296 (ax_wr ((ax_wr (701 * x1)) + x4)) x6 := ⟨_, rfl⟩
      have h := h V24 eV24
      have hg24 : ax_g V24 := eV24 ▸ ax_u_g hg hx6
      refine ax_ist (n := 6309) (pc' := 533) ⟨_, rfl⟩ ay_ok ay_296 (by decide) o31 eV24 rfl ?_
      exact ax_nret ⟨_, rfl⟩ rfl hg24 h
  have t17 : (V 241 x4 = 19) → ax_R ay_lay ax_t d m_Model_work 434 [some (.ref 222), some (ax_i x1), some (ax_i x2), some (ax_i x3), some (ax_i x4), some (ax_i x5), some (ax_i x6), some (ax_i (ax_wr (s1 + s0))), some (ax_i 0)] [] V (ax_Nr Φ) Θ := fun hk => by
    have h := h.2.2.2.2.2.2.2.2.2.2.2.2.2.2.2.2.2.1 hk
    refine ax_mv 1 435 [some (.ref 222), some (ax_i x1), some (ax_i x2), some (ax_i x3), some (ax_i x4), some (ax_i x5), some (ax_i x6), some (ax_i (ax_wr (s1 + s0))), some (ax_i 0)] [.ref 222] rfl ?_
    refine ax_gR (v := .ref 291) (pc' := 438) ⟨_, rfl⟩ fl_12_215 ay_222 rfl rfl ?_
    refine ax_mv 2 440 [some (.ref 222), some (ax_i x1), some (ax_i x2), some (ax_i x3), some (ax_i x4), some (ax_i x5), some (ax_i x6), some (ax_i (ax_wr (s1 + s0))), some (ax_i 0)] [.ref 222, ax_i x3, .ref 291] rfl ?_
    refine ax_gR (v := .ref 257) (pc' := 443) ⟨_, rfl⟩ fl_12_113 ay_222 rfl rfl ?_
    refine ax_mv 1 445 [some (.ref 222), some (ax_i x1), some (ax_i x2), some (ax_i x3), some (ax_i x4), some (ax_i x5), some (ax_i x6), some (ax_i (ax_wr (s1 + s0))), some (ax_i 0)] [ax_i x4, .ref 257, ax_i x3, .ref 291] rfl ?_
    obtain ⟨o32, h⟩ := h
    refine ax_ild (n := 701) (pc' := 446) ⟨_, rfl⟩ ay_257 (by decide) o32 rfl ?_
    refine ax_add (pc' := 447) ⟨_, rfl⟩ rfl ?_
    refine ax_wrap ?_
    obtain ⟨o33, h⟩ := h
    refine ax_ild (n := 600) (pc' := 448) ⟨_, rfl⟩ ay_291 (by decide) o33 rfl ?_
    refine ax_if (p1 := 456) (p2 := 451) ⟨_, rfl⟩ (by decide) rfl (hg _ _) (fun hc => ?_) (fun hc => ?_)
    · have h := h.2 hc
      refine ax_mv 1 458 [some (.ref 222), some (ax_i x1), some (ax_i x2), some (ax_i x3), some (ax_i x4), some (ax_i x5), some (ax_i x6), some (ax_i (ax_wr (s1 + s0))), some (ax_i 0)] [ax_i x6] rfl ?_
      refine ax_sti (i := 0) (k := 8) (n := 2) (pc' := 460) (L' := [some (.ref 222), some (ax_i x1), some (ax_i x2), some (ax_i x3), some (ax_i x4), some (ax_i x5), some (ax_i x6), some (ax_i (ax_wr (s1 + s0))), some (ax_i x6)]) ⟨_, rfl⟩ rfl rfl rfl (Nat.le_of_ble_eq_true rfl) rfl rfl ?_
      refine ax_mv 1 461 [some (.ref 222), some (ax_i x1), some (ax_i x2), some (ax_i x3), some (ax_i x4), some (ax_i x5), some (ax_i x6), some (ax_i (ax_wr (s1 + s0))), some (ax_i x6)] [.ref 222] rfl ?_
      refine ax_gR (v := .ref 292) (pc' := 464) ⟨_, rfl⟩ fl_12_218 ay_222 rfl rfl ?_
      refine ax_mv 2 466 [some (.ref 222), some (ax_i x1), some (ax_i x2), some (ax_i x3), some (ax_i x4), some (ax_i x5), some (ax_i x6), some (ax_i (ax_wr (s1 + s0))), some (ax_i x6)] [.ref 222, ax_i x3, .ref 292] rfl ?_
      refine ax_gR (v := .ref 257) (pc' := 469) ⟨_, rfl⟩ fl_12_113 ay_222 rfl rfl ?_
      refine ax_mv 1 471 [some (.ref 222), some (ax_i x1), some (ax_i x2), some (ax_i x3), some (ax_i x4), some (ax_i x5), some (ax_i x6), some (ax_i (ax_wr (s1 + s0))), some (ax_i x6)] [ax_i x4, .ref 257, ax_i x3, .ref 292] rfl ?_
      obtain ⟨o34, h⟩ := h
      refine ax_ild (n := 701) (pc' := 472) ⟨_, rfl⟩ ay_257 (by decide) o34 rfl ?_
      refine ax_add (pc' := 473) ⟨_, rfl⟩ rfl ?_
      refine ax_wrap ?_
      refine ax_mv 1 474 [some (.ref 222), some (ax_i x1), some (ax_i x2), some (ax_i x3), some (ax_i x4), some (ax_i x5), some (ax_i x6), some (ax_i (ax_wr (s1 + s0))), some (ax_i x6)] [ax_i 1, ax_i (ax_wr (x3 + (V 257 x4))), .ref 292] rfl ?_
      obtain ⟨o35, h⟩ := h
      obtain ⟨V25, eV25⟩ : ∃ W9 : ax_V, W9 = ax_u V 292 (ax_wr (x3 + (V 257 x4))) 1 := ⟨_, rfl⟩
      have h := h V25 eV25
      have hg25 : ax_g V25 := eV25 ▸ ax_u_g hg (by decide)
      refine ax_ist (n := 600) (pc' := 475) ⟨_, rfl⟩ ay_ok ay_292 (by decide) o35 eV25 rfl ?_
      refine ax_mv 2 519 [some (.ref 222), some (ax_i x1), some (ax_i x2), some (ax_i x3), some (ax_i x4), some (ax_i x5), some (ax_i x6), some (ax_i (ax_wr (s1 + s0))), some (ax_i x6)] [.ref 222] rfl ?_
      refine ax_gR (v := .ref 296) (pc' := 522) ⟨_, rfl⟩ fl_12_230 ay_222 rfl rfl ?_
      refine ax_sip (pc' := 525) ⟨_, rfl⟩ (by decide) rfl ?_
      refine ax_mv 1 526 [some (.ref 222), some (ax_i x1), some (ax_i x2), some (ax_i x3), some (ax_i x4), some (ax_i x5), some (ax_i x6), some (ax_i (ax_wr (s1 + s0))), some (ax_i x6)] [ax_i x1, ax_i 701, .ref 296] rfl ?_
      refine ax_mul (pc' := 527) ⟨_, rfl⟩ rfl ?_
      refine ax_wrap ?_
      refine ax_mv 1 529 [some (.ref 222), some (ax_i x1), some (ax_i x2), some (ax_i x3), some (ax_i x4), some (ax_i x5), some (ax_i x6), some (ax_i (ax_wr (s1 + s0))), some (ax_i x6)] [ax_i x4, ax_i (ax_wr (701 * x1)), .ref 296] rfl ?_
      refine ax_add (pc' := 530) ⟨_, rfl⟩ rfl ?_
      refine ax_wrap ?_
      refine ax_mv 1 532 [some (.ref 222), some (ax_i x1), some (ax_i x2), some (ax_i x3), some (ax_i x4), some (ax_i x5), some (ax_i x6), some (ax_i (ax_wr (s1 + s0))), some (ax_i x6)] [ax_i x6, ax_i (ax_wr ((ax_wr (701 * x1)) + x4)), .ref 296] rfl ?_
      obtain ⟨o36, h⟩ := h
      obtain ⟨V26, eV26⟩ : ∃ W9 : ax_V, W9 = ax_u V25 296 (ax_wr ((ax_wr (701 * x1)) + x4)) x6 := ⟨_, rfl⟩
      have h := h V26 eV26
      have hg26 : ax_g V26 := eV26 ▸ ax_u_g hg25 hx6
      refine ax_ist (n := 6309) (pc' := 533) ⟨_, rfl⟩ ay_ok ay_296 (by decide) o36 eV26 rfl ?_
      exact ax_nret ⟨_, rfl⟩ rfl hg26 h
    · have h := h.1 (Classical.not_not.mp hc)
      refine ax_mv 2 458 [some (.ref 222), some (ax_i x1), some (ax_i x2), some (ax_i x3), some (ax_i x4), some (ax_i x5), some (ax_i x6), some (ax_i (ax_wr (s1 + s0))), some (ax_i 0)] [ax_i x5] rfl ?_
      refine ax_sti (i := 0) (k := 8) (n := 2) (pc' := 460) (L' := [some (.ref 222), some (ax_i x1), some (ax_i x2), some (ax_i x3), some (ax_i x4), some (ax_i x5), some (ax_i x6), some (ax_i (ax_wr (s1 + s0))), some (ax_i x5)]) ⟨_, rfl⟩ rfl rfl rfl (Nat.le_of_ble_eq_true rfl) rfl rfl ?_
      refine ax_mv 1 461 [some (.ref 222), some (ax_i x1), some (ax_i x2), some (ax_i x3), some (ax_i x4), some (ax_i x5), some (ax_i x6), some (ax_i (ax_wr (s1 + s0))), some (ax_i x5)] [.ref 222] rfl ?_
      refine ax_gR (v := .ref 292) (pc' := 464) ⟨_, rfl⟩ fl_12_218 ay_222 rfl rfl ?_
      refine ax_mv 2 466 [some (.ref 222), some (ax_i x1), some (ax_i x2), some (ax_i x3), some (ax_i x4), some (ax_i x5), some (ax_i x6), some (ax_i (ax_wr (s1 + s0))), some (ax_i x5)] [.ref 222, ax_i x3, .ref 292] rfl ?_
      refine ax_gR (v := .ref 257) (pc' := 469) ⟨_, rfl⟩ fl_12_113 ay_222 rfl rfl ?_
      refine ax_mv 1 471 [some (.ref 222), some (ax_i x1), some (ax_i x2), some (ax_i x3), some (ax_i x4), some (ax_i x5), some (ax_i x6), some (ax_i (ax_wr (s1 + s0))), some (ax_i x5)] [ax_i x4, .ref 257, ax_i x3, .ref 292] rfl ?_
      obtain ⟨o37, h⟩ := h
      refine ax_ild (n := 701) (pc' := 472) ⟨_, rfl⟩ ay_257 (by decide) o37 rfl ?_
      refine ax_add (pc' := 473) ⟨_, rfl⟩ rfl ?_
      refine ax_wrap ?_
      refine ax_mv 1 474 [some (.ref 222), some (ax_i x1), some (ax_i x2), some (ax_i x3), some (ax_i x4), some (ax_i x5), some (ax_i x6), some (ax_i (ax_wr (s1 + s0))), some (ax_i x5)] [ax_i 1, ax_i (ax_wr (x3 + (V 257 x4))), .ref 292] rfl ?_
      obtain ⟨o38, h⟩ := h
      obtain ⟨V27, eV27⟩ : ∃ W9 : ax_V, W9 = ax_u V 292 (ax_wr (x3 + (V 257 x4))) 1 := ⟨_, rfl⟩
      have h := h V27 eV27
      have hg27 : ax_g V27 := eV27 ▸ ax_u_g hg (by decide)
      refine ax_ist (n := 600) (pc' := 475) ⟨_, rfl⟩ ay_ok ay_292 (by decide) o38 eV27 rfl ?_
      refine ax_mv 2 519 [some (.ref 222), some (ax_i x1), some (ax_i x2), some (ax_i x3), some (ax_i x4), some (ax_i x5), some (ax_i x6), some (ax_i (ax_wr (s1 + s0))), some (ax_i x5)] [.ref 222] rfl ?_
      refine ax_gR (v := .ref 296) (pc' := 522) ⟨_, rfl⟩ fl_12_230 ay_222 rfl rfl ?_
      refine ax_sip (pc' := 525) ⟨_, rfl⟩ (by decide) rfl ?_
      refine ax_mv 1 526 [some (.ref 222), some (ax_i x1), some (ax_i x2), some (ax_i x3), some (ax_i x4), some (ax_i x5), some (ax_i x6), some (ax_i (ax_wr (s1 + s0))), some (ax_i x5)] [ax_i x1, ax_i 701, .ref 296] rfl ?_
      refine ax_mul (pc' := 527) ⟨_, rfl⟩ rfl ?_
      refine ax_wrap ?_
      refine ax_mv 1 529 [some (.ref 222), some (ax_i x1), some (ax_i x2), some (ax_i x3), some (ax_i x4), some (ax_i x5), some (ax_i x6), some (ax_i (ax_wr (s1 + s0))), some (ax_i x5)] [ax_i x4, ax_i (ax_wr (701 * x1)), .ref 296] rfl ?_
      refine ax_add (pc' := 530) ⟨_, rfl⟩ rfl ?_
      refine ax_wrap ?_
      refine ax_mv 1 532 [some (.ref 222), some (ax_i x1), some (ax_i x2), some (ax_i x3), some (ax_i x4), some (ax_i x5), some (ax_i x6), some (ax_i (ax_wr (s1 + s0))), some (ax_i x5)] [ax_i x5, ax_i (ax_wr ((ax_wr (701 * x1)) + x4)), .ref 296] rfl ?_
      obtain ⟨o39, h⟩ := h
      obtain ⟨V28, eV28⟩ : ∃ W9 : ax_V, W9 = ax_u V27 296 (ax_wr ((ax_wr (701 * x1)) + x4)) x5 := ⟨_, rfl⟩
      have h := h V28 eV28
      have hg28 : ax_g V28 := eV28 ▸ ax_u_g hg27 hx5
      refine ax_ist (n := 6309) (pc' := 533) ⟨_, rfl⟩ ay_ok ay_296 (by decide) o39 eV28 rfl ?_
      exact ax_nret ⟨_, rfl⟩ rfl hg28 h
  have t18 : (V 241 x4 = 20) → ax_R ay_lay ax_t d m_Model_work 478 [some (.ref 222), some (ax_i x1), some (ax_i x2), some (ax_i x3), some (ax_i x4), some (ax_i x5), some (ax_i x6), some (ax_i (ax_wr (s1 + s0))), some (ax_i 0)] [] V (ax_Nr Φ) Θ := fun hk => by
    have h := h.2.2.2.2.2.2.2.2.2.2.2.2.2.2.2.2.2.2.1 hk
    refine ax_mv 1 480 [some (.ref 222), some (ax_i x1), some (ax_i x2), some (ax_i x3), some (ax_i x4), some (ax_i x5), some (ax_i x6), some (ax_i (ax_wr (s1 + s0))), some (ax_i 0)] [ax_i x5] rfl ?_
    refine ax_sti (i := 0) (k := 8) (n := 2) (pc' := 482) (L' := [some (.ref 222), some (ax_i x1), some (ax_i x2), some (ax_i x3), some (ax_i x4), some (ax_i x5), some (ax_i x6), some (ax_i (ax_wr (s1 + s0))), some (ax_i x5)]) ⟨_, rfl⟩ rfl rfl rfl (Nat.le_of_ble_eq_true rfl) rfl rfl ?_
    refine ax_mv 2 519 [some (.ref 222), some (ax_i x1), some (ax_i x2), some (ax_i x3), some (ax_i x4), some (ax_i x5), some (ax_i x6), some (ax_i (ax_wr (s1 + s0))), some (ax_i x5)] [.ref 222] rfl ?_
    refine ax_gR (v := .ref 296) (pc' := 522) ⟨_, rfl⟩ fl_12_230 ay_222 rfl rfl ?_
    refine ax_sip (pc' := 525) ⟨_, rfl⟩ (by decide) rfl ?_
    refine ax_mv 1 526 [some (.ref 222), some (ax_i x1), some (ax_i x2), some (ax_i x3), some (ax_i x4), some (ax_i x5), some (ax_i x6), some (ax_i (ax_wr (s1 + s0))), some (ax_i x5)] [ax_i x1, ax_i 701, .ref 296] rfl ?_
    refine ax_mul (pc' := 527) ⟨_, rfl⟩ rfl ?_
    refine ax_wrap ?_
    refine ax_mv 1 529 [some (.ref 222), some (ax_i x1), some (ax_i x2), some (ax_i x3), some (ax_i x4), some (ax_i x5), some (ax_i x6), some (ax_i (ax_wr (s1 + s0))), some (ax_i x5)] [ax_i x4, ax_i (ax_wr (701 * x1)), .ref 296] rfl ?_
    refine ax_add (pc' := 530) ⟨_, rfl⟩ rfl ?_
    refine ax_wrap ?_
    refine ax_mv 1 532 [some (.ref 222), some (ax_i x1), some (ax_i x2), some (ax_i x3), some (ax_i x4), some (ax_i x5), some (ax_i x6), some (ax_i (ax_wr (s1 + s0))), some (ax_i x5)] [ax_i x5, ax_i (ax_wr ((ax_wr (701 * x1)) + x4)), .ref 296] rfl ?_
    obtain ⟨o40, h⟩ := h
    obtain ⟨V29, eV29⟩ : ∃ W9 : ax_V, W9 = ax_u V 296 (ax_wr ((ax_wr (701 * x1)) + x4)) x5 := ⟨_, rfl⟩
    have h := h V29 eV29
    have hg29 : ax_g V29 := eV29 ▸ ax_u_g hg hx5
    refine ax_ist (n := 6309) (pc' := 533) ⟨_, rfl⟩ ay_ok ay_296 (by decide) o40 eV29 rfl ?_
    exact ax_nret ⟨_, rfl⟩ rfl hg29 h
  have t19 : (V 241 x4 = 21) → ax_R ay_lay ax_t d m_Model_work 485 [some (.ref 222), some (ax_i x1), some (ax_i x2), some (ax_i x3), some (ax_i x4), some (ax_i x5), some (ax_i x6), some (ax_i (ax_wr (s1 + s0))), some (ax_i 0)] [] V (ax_Nr Φ) Θ := fun hk => by
    have h := h.2.2.2.2.2.2.2.2.2.2.2.2.2.2.2.2.2.2.2.1 hk
    refine ax_mv 1 486 [some (.ref 222), some (ax_i x1), some (ax_i x2), some (ax_i x3), some (ax_i x4), some (ax_i x5), some (ax_i x6), some (ax_i (ax_wr (s1 + s0))), some (ax_i 0)] [.ref 222] rfl ?_
    refine ax_gR (v := .ref 293) (pc' := 489) ⟨_, rfl⟩ fl_12_221 ay_222 rfl rfl ?_
    refine ax_mv 1 491 [some (.ref 222), some (ax_i x1), some (ax_i x2), some (ax_i x3), some (ax_i x4), some (ax_i x5), some (ax_i x6), some (ax_i (ax_wr (s1 + s0))), some (ax_i 0)] [ax_i (ax_wr (s1 + s0)), .ref 293] rfl ?_
    obtain ⟨o41, h⟩ := h
    refine ax_ild (n := 240) (pc' := 492) ⟨_, rfl⟩ ay_293 (by decide) o41 rfl ?_
    refine ax_mv 1 493 [some (.ref 222), some (ax_i x1), some (ax_i x2), some (ax_i x3), some (ax_i x4), some (ax_i x5), some (ax_i x6), some (ax_i (ax_wr (s1 + s0))), some (ax_i 0)] [ax_i 1, ax_i (V 293 (ax_wr (s1 + s0)))] rfl ?_
    refine ax_if2 (p1 := 501) (p2 := 496) ⟨_, rfl⟩ (by decide) rfl (hg _ _) (by decide) (fun hc => ?_) (fun hc => ?_)
    · have h := h.2 hc
      refine ax_mv 1 503 [some (.ref 222), some (ax_i x1), some (ax_i x2), some (ax_i x3), some (ax_i x4), some (ax_i x5), some (ax_i x6), some (ax_i (ax_wr (s1 + s0))), some (ax_i 0)] [ax_i x6] rfl ?_
      refine ax_sti (i := 0) (k := 8) (n := 2) (pc' := 505) (L' := [some (.ref 222), some (ax_i x1), some (ax_i x2), some (ax_i x3), some (ax_i x4), some (ax_i x5), some (ax_i x6), some (ax_i (ax_wr (s1 + s0))), some (ax_i x6)]) ⟨_, rfl⟩ rfl rfl rfl (Nat.le_of_ble_eq_true rfl) rfl rfl ?_
      refine ax_mv 2 519 [some (.ref 222), some (ax_i x1), some (ax_i x2), some (ax_i x3), some (ax_i x4), some (ax_i x5), some (ax_i x6), some (ax_i (ax_wr (s1 + s0))), some (ax_i x6)] [.ref 222] rfl ?_
      refine ax_gR (v := .ref 296) (pc' := 522) ⟨_, rfl⟩ fl_12_230 ay_222 rfl rfl ?_
      refine ax_sip (pc' := 525) ⟨_, rfl⟩ (by decide) rfl ?_
      refine ax_mv 1 526 [some (.ref 222), some (ax_i x1), some (ax_i x2), some (ax_i x3), some (ax_i x4), some (ax_i x5), some (ax_i x6), some (ax_i (ax_wr (s1 + s0))), some (ax_i x6)] [ax_i x1, ax_i 701, .ref 296] rfl ?_
      refine ax_mul (pc' := 527) ⟨_, rfl⟩ rfl ?_
      refine ax_wrap ?_
      refine ax_mv 1 529 [some (.ref 222), some (ax_i x1), some (ax_i x2), some (ax_i x3), some (ax_i x4), some (ax_i x5), some (ax_i x6), some (ax_i (ax_wr (s1 + s0))), some (ax_i x6)] [ax_i x4, ax_i (ax_wr (701 * x1)), .ref 296] rfl ?_
      refine ax_add (pc' := 530) ⟨_, rfl⟩ rfl ?_
      refine ax_wrap ?_
      refine ax_mv 1 532 [some (.ref 222), some (ax_i x1), some (ax_i x2), some (ax_i x3), some (ax_i x4), some (ax_i x5), some (ax_i x6), some (ax_i (ax_wr (s1 + s0))), some (ax_i x6)] [ax_i x6, ax_i (ax_wr ((ax_wr (701 * x1)) + x4)), .ref 296] rfl ?_
      obtain ⟨o42, h⟩ := h
      obtain ⟨V30, eV30⟩ : ∃ W9 : ax_V, W9 = ax_u V 296 (ax_wr ((ax_wr (701 * x1)) + x4)) x6 := ⟨_, rfl⟩
      have h := h V30 eV30
      have hg30 : ax_g V30 := eV30 ▸ ax_u_g hg hx6
      refine ax_ist (n := 6309) (pc' := 533) ⟨_, rfl⟩ ay_ok ay_296 (by decide) o42 eV30 rfl ?_
      exact ax_nret ⟨_, rfl⟩ rfl hg30 h
    · have h := h.1 (Classical.not_not.mp hc)
      refine ax_mv 2 503 [some (.ref 222), some (ax_i x1), some (ax_i x2), some (ax_i x3), some (ax_i x4), some (ax_i x5), some (ax_i x6), some (ax_i (ax_wr (s1 + s0))), some (ax_i 0)] [ax_i x5] rfl ?_
      refine ax_sti (i := 0) (k := 8) (n := 2) (pc' := 505) (L' := [some (.ref 222), some (ax_i x1), some (ax_i x2), some (ax_i x3), some (ax_i x4), some (ax_i x5), some (ax_i x6), some (ax_i (ax_wr (s1 + s0))), some (ax_i x5)]) ⟨_, rfl⟩ rfl rfl rfl (Nat.le_of_ble_eq_true rfl) rfl rfl ?_
      refine ax_mv 2 519 [some (.ref 222), some (ax_i x1), some (ax_i x2), some (ax_i x3), some (ax_i x4), some (ax_i x5), some (ax_i x6), some (ax_i (ax_wr (s1 + s0))), some (ax_i x5)] [.ref 222] rfl ?_
      refine ax_gR (v := .ref 296) (pc' := 522) ⟨_, rfl⟩ fl_12_230 ay_222 rfl rfl ?_
      refine ax_sip (pc' := 525) ⟨_, rfl⟩ (by decide) rfl ?_
      refine ax_mv 1 526 [some (.ref 222), some (ax_i x1), some (ax_i x2), some (ax_i x3), some (ax_i x4), some (ax_i x5), some (ax_i x6), some (ax_i (ax_wr (s1 + s0))), some (ax_i x5)] [ax_i x1, ax_i 701, .ref 296] rfl ?_
      refine ax_mul (pc' := 527) ⟨_, rfl⟩ rfl ?_
      refine ax_wrap ?_
      refine ax_mv 1 529 [some (.ref 222), some (ax_i x1), some (ax_i x2), some (ax_i x3), some (ax_i x4), some (ax_i x5), some (ax_i x6), some (ax_i (ax_wr (s1 + s0))), some (ax_i x5)] [ax_i x4, ax_i (ax_wr (701 * x1)), .ref 296] rfl ?_
      refine ax_add (pc' := 530) ⟨_, rfl⟩ rfl ?_
      refine ax_wrap ?_
      refine ax_mv 1 532 [some (.ref 222), some (ax_i x1), some (ax_i x2), some (ax_i x3), some (ax_i x4), some (ax_i x5), some (ax_i x6), some (ax_i (ax_wr (s1 + s0))), some (ax_i x5)] [ax_i x5, ax_i (ax_wr ((ax_wr (701 * x1)) + x4)), .ref 296] rfl ?_
      obtain ⟨o43, h⟩ := h
      obtain ⟨V31, eV31⟩ : ∃ W9 : ax_V, W9 = ax_u V 296 (ax_wr ((ax_wr (701 * x1)) + x4)) x5 := ⟨_, rfl⟩
      have h := h V31 eV31
      have hg31 : ax_g V31 := eV31 ▸ ax_u_g hg hx5
      refine ax_ist (n := 6309) (pc' := 533) ⟨_, rfl⟩ ay_ok ay_296 (by decide) o43 eV31 rfl ?_
      exact ax_nret ⟨_, rfl⟩ rfl hg31 h
  have tD : ¬ V 241 x4 = 0 → ¬ V 241 x4 = 1 → ¬ V 241 x4 = 2 → ¬ V 241 x4 = 3 → ¬ V 241 x4 = 4 → ¬ V 241 x4 = 5 → ¬ V 241 x4 = 6 → ¬ V 241 x4 = 7 → ¬ V 241 x4 = 8 → ¬ V 241 x4 = 9 → ¬ V 241 x4 = 10 → ¬ V 241 x4 = 11 → ¬ V 241 x4 = 12 → ¬ V 241 x4 = 13 → ¬ V 241 x4 = 14 → ¬ V 241 x4 = 15 → ¬ V 241 x4 = 16 → ¬ V 241 x4 = 17 → ¬ V 241 x4 = 18 → ¬ V 241 x4 = 19 → ¬ V 241 x4 = 20 → ¬ V 241 x4 = 21 → ax_R ay_lay ax_t d m_Model_work 508 [some (.ref 222), some (ax_i x1), some (ax_i x2), some (ax_i x3), some (ax_i x4), some (ax_i x5), some (ax_i x6), some (ax_i (ax_wr (s1 + s0))), some (ax_i 0)] [] V (ax_Nr Φ) Θ := fun n0 n1 n2 n3 n4 n5 n6 n7 n8 n9 n10 n11 n12 n13 n14 n15 n16 n17 n18 n19 n20 n21 => by
    have h := h.2.2.2.2.2.2.2.2.2.2.2.2.2.2.2.2.2.2.2.2 n0 n1 n2 n3 n4 n5 n6 n7 n8 n9 n10 n11 n12 n13 n14 n15 n16 n17 n18 n19 n20 n21
    refine ax_mv 4 513 [some (.ref 222), some (ax_i x1), some (ax_i x2), some (ax_i x3), some (ax_i x4), some (ax_i x5), some (ax_i x6), some (ax_i (ax_wr (s1 + s0))), some (ax_i 0)] [ax_i x4, ax_i x3, ax_i x1, .ref 222] rfl ?_
    refine ax_callI (pc' := 516) ⟨_, rfl⟩ ml_12_635 (rest := []) rfl (fun ss hs => ⟨_, _, ay_222 ss hs⟩) (Nat.le_of_ble_eq_true rfl) rfl rfl h (fun r32 V32 hg32 hr32 h => ?_)
    refine ax_sti (i := 0) (k := 8) (n := 2) (pc' := 518) (L' := [some (.ref 222), some (ax_i x1), some (ax_i x2), some (ax_i x3), some (ax_i x4), some (ax_i x5), some (ax_i x6), some (ax_i (ax_wr (s1 + s0))), some (ax_i r32)]) ⟨_, rfl⟩ rfl rfl rfl (Nat.le_of_ble_eq_true rfl) rfl rfl ?_
    refine ax_mv 1 519 [some (.ref 222), some (ax_i x1), some (ax_i x2), some (ax_i x3), some (ax_i x4), some (ax_i x5), some (ax_i x6), some (ax_i (ax_wr (s1 + s0))), some (ax_i r32)] [.ref 222] rfl ?_
    refine ax_gR (v := .ref 296) (pc' := 522) ⟨_, rfl⟩ fl_12_230 ay_222 rfl rfl ?_
    refine ax_sip (pc' := 525) ⟨_, rfl⟩ (by decide) rfl ?_
    refine ax_mv 1 526 [some (.ref 222), some (ax_i x1), some (ax_i x2), some (ax_i x3), some (ax_i x4), some (ax_i x5), some (ax_i x6), some (ax_i (ax_wr (s1 + s0))), some (ax_i r32)] [ax_i x1, ax_i 701, .ref 296] rfl ?_
    refine ax_mul (pc' := 527) ⟨_, rfl⟩ rfl ?_
    refine ax_wrap ?_
    refine ax_mv 1 529 [some (.ref 222), some (ax_i x1), some (ax_i x2), some (ax_i x3), some (ax_i x4), some (ax_i x5), some (ax_i x6), some (ax_i (ax_wr (s1 + s0))), some (ax_i r32)] [ax_i x4, ax_i (ax_wr (701 * x1)), .ref 296] rfl ?_
    refine ax_add (pc' := 530) ⟨_, rfl⟩ rfl ?_
    refine ax_wrap ?_
    refine ax_mv 1 532 [some (.ref 222), some (ax_i x1), some (ax_i x2), some (ax_i x3), some (ax_i x4), some (ax_i x5), some (ax_i x6), some (ax_i (ax_wr (s1 + s0))), some (ax_i r32)] [ax_i r32, ax_i (ax_wr ((ax_wr (701 * x1)) + x4)), .ref 296] rfl ?_
    obtain ⟨o44, h⟩ := h
    obtain ⟨V33, eV33⟩ : ∃ W9 : ax_V, W9 = ax_u V32 296 (ax_wr ((ax_wr (701 * x1)) + x4)) r32 := ⟨_, rfl⟩
    have h := h V33 eV33
    have hg33 : ax_g V33 := eV33 ▸ ax_u_g hg32 hr32
    refine ax_ist (n := 6309) (pc' := 533) ⟨_, rfl⟩ ay_ok ay_296 (by decide) o44 eV33 rfl ?_
    exact ax_nret ⟨_, rfl⟩ rfl hg33 h
  by_cases e0 : V 241 x4 = 0
  · exact ax_tsC (off := 101) (p1 := 184) ⟨_, rfl⟩ (hg _ _) (by omega) (by omega) (by rw [e0]; rfl) (by decide) (t0 (Or.inl e0))
  by_cases e1 : V 241 x4 = 1
  · exact ax_tsC (off := 101) (p1 := 184) ⟨_, rfl⟩ (hg _ _) (by omega) (by omega) (by rw [e1]; rfl) (by decide) (t0 (Or.inr (e1)))
  by_cases e2 : V 241 x4 = 2
  · exact ax_tsC (off := 113) (p1 := 196) ⟨_, rfl⟩ (hg _ _) (by omega) (by omega) (by rw [e2]; rfl) (by decide) (t1 (e2))
  by_cases e3 : V 241 x4 = 3
  · exact ax_tsC (off := 125) (p1 := 208) ⟨_, rfl⟩ (hg _ _) (by omega) (by omega) (by rw [e3]; rfl) (by decide) (t2 (e3))
  by_cases e4 : V 241 x4 = 4
  · exact ax_tsC (off := 154) (p1 := 237) ⟨_, rfl⟩ (hg _ _) (by omega) (by omega) (by rw [e4]; rfl) (by decide) (t3 (e4))
  by_cases e5 : V 241 x4 = 5
  · exact ax_tsC (off := 162) (p1 := 245) ⟨_, rfl⟩ (hg _ _) (by omega) (by omega) (by rw [e5]; rfl) (by decide) (t4 (e5))
  by_cases e6 : V 241 x4 = 6
  · exact ax_tsC (off := 171) (p1 := 254) ⟨_, rfl⟩ (hg _ _) (by omega) (by omega) (by rw [e6]; rfl) (by decide) (t5 (e6))
  by_cases e7 : V 241 x4 = 7
  · exact ax_tsC (off := 190) (p1 := 273) ⟨_, rfl⟩ (hg _ _) (by omega) (by omega) (by rw [e7]; rfl) (by decide) (t6 (e7))
  by_cases e8 : V 241 x4 = 8
  · exact ax_tsC (off := 200) (p1 := 283) ⟨_, rfl⟩ (hg _ _) (by omega) (by omega) (by rw [e8]; rfl) (by decide) (t7 (e8))
  by_cases e9 : V 241 x4 = 9
  · exact ax_tsC (off := 210) (p1 := 293) ⟨_, rfl⟩ (hg _ _) (by omega) (by omega) (by rw [e9]; rfl) (by decide) (t8 (e9))
  by_cases e10 : V 241 x4 = 10
  · exact ax_tsC (off := 220) (p1 := 303) ⟨_, rfl⟩ (hg _ _) (by omega) (by omega) (by rw [e10]; rfl) (by decide) (t9 (Or.inl e10))
  by_cases e11 : V 241 x4 = 11
  · exact ax_tsC (off := 220) (p1 := 303) ⟨_, rfl⟩ (hg _ _) (by omega) (by omega) (by rw [e11]; rfl) (by decide) (t9 (Or.inr (e11)))
  by_cases e12 : V 241 x4 = 12
  · exact ax_tsC (off := 235) (p1 := 318) ⟨_, rfl⟩ (hg _ _) (by omega) (by omega) (by rw [e12]; rfl) (by decide) (t10 (e12))
  by_cases e13 : V 241 x4 = 13
  · exact ax_tsC (off := 252) (p1 := 335) ⟨_, rfl⟩ (hg _ _) (by omega) (by omega) (by rw [e13]; rfl) (by decide) (t11 (e13))
  by_cases e14 : V 241 x4 = 14
  · exact ax_tsC (off := 269) (p1 := 352) ⟨_, rfl⟩ (hg _ _) (by omega) (by omega) (by rw [e14]; rfl) (by decide) (t12 (e14))
  by_cases e15 : V 241 x4 = 15
  · exact ax_tsC (off := 286) (p1 := 369) ⟨_, rfl⟩ (hg _ _) (by omega) (by omega) (by rw [e15]; rfl) (by decide) (t13 (e15))
  by_cases e16 : V 241 x4 = 16
  · exact ax_tsC (off := 303) (p1 := 386) ⟨_, rfl⟩ (hg _ _) (by omega) (by omega) (by rw [e16]; rfl) (by decide) (t14 (e16))
  by_cases e17 : V 241 x4 = 17
  · exact ax_tsC (off := 313) (p1 := 396) ⟨_, rfl⟩ (hg _ _) (by omega) (by omega) (by rw [e17]; rfl) (by decide) (t15 (e17))
  by_cases e18 : V 241 x4 = 18
  · exact ax_tsC (off := 323) (p1 := 406) ⟨_, rfl⟩ (hg _ _) (by omega) (by omega) (by rw [e18]; rfl) (by decide) (t16 (e18))
  by_cases e19 : V 241 x4 = 19
  · exact ax_tsC (off := 351) (p1 := 434) ⟨_, rfl⟩ (hg _ _) (by omega) (by omega) (by rw [e19]; rfl) (by decide) (t17 (e19))
  by_cases e20 : V 241 x4 = 20
  · exact ax_tsC (off := 395) (p1 := 478) ⟨_, rfl⟩ (hg _ _) (by omega) (by omega) (by rw [e20]; rfl) (by decide) (t18 (e20))
  by_cases e21 : V 241 x4 = 21
  · exact ax_tsC (off := 402) (p1 := 485) ⟨_, rfl⟩ (hg _ _) (by omega) (by omega) (by rw [e21]; rfl) (by decide) (t19 (e21))
  exact ax_tsD (p1 := 508) ⟨_, rfl⟩ (hg _ _) (by omega) (by decide) (tD e0 e1 e2 e3 e4 e5 e6 e7 e8 e9 e10 e11 e12 e13 e14 e15 e16 e17 e18 e19 e20 e21)
theorem r_Model_work {d : Nat} {V : ax_V} {Φ : ax_V → Prop} {Θ : ax_V → Prop} {x1 : Int} {x2 : Int} {x3 : Int} {x4 : Int} (hg : ax_g V) (hx1 : ax_rg x1) (hx2 : ax_rg x2) (hx3 : ax_rg x3) (hx4 : ax_rg x4) (h : (0 ≤ x4 ∧ x4 < 701) ∧ ((V 241 x4 = 22 → (0 ≤ x4 ∧ x4 < 701) ∧ ax_I ay_lay d q_Model_valueAt [.ref 222, ax_i x1, ax_i (V 246 x4)] V (fun r3 V3 => (0 ≤ x4 ∧ x4 < 701) ∧ ((V3 248 x4 = -1 → k_Model_work_70 d x1 x2 x3 x4 0 r3 none none 0 (ax_wr (26 * x1)) V3 Φ Θ) ∧ (¬ V3 248 x4 = -1 → (0 ≤ x4 ∧ x4 < 701) ∧ k_Model_work_70 d x1 x2 x3 x4 0 r3 none none (V3 248 x4) (ax_wr (26 * x1)) V3 Φ Θ))) Θ) ∧ (¬ V 241 x4 = 22 → (0 ≤ x4 ∧ x4 < 701) ∧ ax_I ay_lay d q_Model_valueAt [.ref 222, ax_i x1, ax_i (V 245 x4)] V (fun r1 V1 => (0 ≤ x4 ∧ x4 < 701) ∧ ax_I ay_lay d q_Model_valueAt [.ref 222, ax_i x1, ax_i (V1 246 x4)] V1 (fun r2 V2 => (0 ≤ x4 ∧ x4 < 701) ∧ ((V2 248 x4 = -1 → k_Model_work_70 d x1 x2 x3 x4 r1 r2 none none 0 (ax_wr (26 * x1)) V2 Φ Θ) ∧ (¬ V2 248 x4 = -1 → (0 ≤ x4 ∧ x4 < 701) ∧ k_Model_work_70 d x1 x2 x3 x4 r1 r2 none none (V2 248 x4) (ax_wr (26 * x1)) V2 Φ Θ))) Θ) Θ))) : ax_N ay_lay (d + 1) q_Model_work [.ref 222, ax_i x1, ax_i x2, ax_i x3, ax_i x4] V Φ Θ := by
  refine ax_T.of (M := m_Model_work) rfl (Nat.le_of_ble_eq_true rfl) ?_
  refine ax_mv 0 0 [some (.ref 222), some (ax_i x1), some (ax_i x2), some (ax_i x3), some (ax_i x4), none, none, none, none] [] rfl ?_
  refine ax_mv 1 1 [some (.ref 222), some (ax_i x1), some (ax_i x2), some (ax_i x3), some (ax_i x4), none, none, none, none] [.ref 222] rfl ?_
  refine ax_gR (v := .ref 241) (pc' := 4) ⟨_, rfl⟩ fl_12_65 ay_222 rfl rfl ?_
  refine ax_mv 1 6 [some (.ref 222), some (ax_i x1), some (ax_i x2), some (ax_i x3), some (ax_i x4), none, none, none, none] [ax_i x4, .ref 241] rfl ?_
  obtain ⟨o45, h⟩ := h
  refine ax_ild (n := 701) (pc' := 7) ⟨_, rfl⟩ ay_241 (by decide) o45 rfl ?_
  refine ax_bip (pc' := 9) ⟨_, rfl⟩ (by decide) rfl ?_
  refine ax_if2 (p1 := 16) (p2 := 12) ⟨_, rfl⟩ (by decide) rfl (hg _ _) (by decide) (fun hc => ?_) (fun hc => ?_)
  · have h := h.2 hc
    refine ax_mv 3 19 [some (.ref 222), some (ax_i x1), some (ax_i x2), some (ax_i x3), some (ax_i x4), none, none, none, none] [.ref 222, ax_i x1, .ref 222] rfl ?_
    refine ax_gR (v := .ref 245) (pc' := 22) ⟨_, rfl⟩ fl_12_77 ay_222 rfl rfl ?_
    refine ax_mv 1 24 [some (.ref 222), some (ax_i x1), some (ax_i x2), some (ax_i x3), some (ax_i x4), none, none, none, none] [ax_i x4, .ref 245, ax_i x1, .ref 222] rfl ?_
    obtain ⟨o46, h⟩ := h
    refine ax_ild (n := 701) (pc' := 25) ⟨_, rfl⟩ ay_245 (by decide) o46 rfl ?_
    refine ax_callI (pc' := 28) ⟨_, rfl⟩ ml_12_628 (rest := []) rfl (fun ss hs => ⟨_, _, ay_222 ss hs⟩) (Nat.le_of_ble_eq_true rfl) rfl rfl h (fun r1 V1 hg1 hr1 h => ?_)
    refine ax_sti (i := 0) (k := 5) (n := 2) (pc' := 30) (L' := [some (.ref 222), some (ax_i x1), some (ax_i x2), some (ax_i x3), some (ax_i x4), some (ax_i r1), none, none, none]) ⟨_, rfl⟩ rfl rfl rfl (Nat.le_of_ble_eq_true rfl) rfl rfl ?_
    refine ax_mv 3 33 [some (.ref 222), some (ax_i x1), some (ax_i x2), some (ax_i x3), some (ax_i x4), some (ax_i r1), none, none, none] [.ref 222, ax_i x1, .ref 222] rfl ?_
    refine ax_gR (v := .ref 246) (pc' := 36) ⟨_, rfl⟩ fl_12_80 ay_222 rfl rfl ?_
    refine ax_mv 1 38 [some (.ref 222), some (ax_i x1), some (ax_i x2), some (ax_i x3), some (ax_i x4), some (ax_i r1), none, none, none] [ax_i x4, .ref 246, ax_i x1, .ref 222] rfl ?_
    obtain ⟨o47, h⟩ := h
    refine ax_ild (n := 701) (pc' := 39) ⟨_, rfl⟩ ay_246 (by decide) o47 rfl ?_
    refine ax_callI (pc' := 42) ⟨_, rfl⟩ ml_12_628 (rest := []) rfl (fun ss hs => ⟨_, _, ay_222 ss hs⟩) (Nat.le_of_ble_eq_true rfl) rfl rfl h (fun r2 V2 hg2 hr2 h => ?_)
    refine ax_sti (i := 0) (k := 6) (n := 2) (pc' := 44) (L' := [some (.ref 222), some (ax_i x1), some (ax_i x2), some (ax_i x3), some (ax_i x4), some (ax_i r1), some (ax_i r2), none, none]) ⟨_, rfl⟩ rfl rfl rfl (Nat.le_of_ble_eq_true rfl) rfl rfl ?_
    refine ax_bip (pc' := 46) ⟨_, rfl⟩ (by decide) rfl ?_
    refine ax_mv 1 47 [some (.ref 222), some (ax_i x1), some (ax_i x2), some (ax_i x3), some (ax_i x4), some (ax_i r1), some (ax_i r2), none, none] [ax_i x1, ax_i 26] rfl ?_
    refine ax_mul (pc' := 48) ⟨_, rfl⟩ rfl ?_
    refine ax_wrap ?_
    refine ax_mv 1 49 [some (.ref 222), some (ax_i x1), some (ax_i x2), some (ax_i x3), some (ax_i x4), some (ax_i r1), some (ax_i r2), none, none] [.ref 222, ax_i (ax_wr (26 * x1))] rfl ?_
    refine ax_gR (v := .ref 248) (pc' := 52) ⟨_, rfl⟩ fl_12_86 ay_222 rfl rfl ?_
    refine ax_mv 1 54 [some (.ref 222), some (ax_i x1), some (ax_i x2), some (ax_i x3), some (ax_i x4), some (ax_i r1), some (ax_i r2), none, none] [ax_i x4, .ref 248, ax_i (ax_wr (26 * x1))] rfl ?_
    obtain ⟨o48, h⟩ := h
    refine ax_ild (n := 701) (pc' := 55) ⟨_, rfl⟩ ay_248 (by decide) o48 rfl ?_
    refine ax_mv 1 56 [some (.ref 222), some (ax_i x1), some (ax_i x2), some (ax_i x3), some (ax_i x4), some (ax_i r1), some (ax_i r2), none, none] [ax_i (-1), ax_i (V2 248 x4), ax_i (ax_wr (26 * x1))] rfl ?_
    refine ax_if2 (p1 := 63) (p2 := 59) ⟨_, rfl⟩ (by decide) rfl (hg2 _ _) (by decide) (fun hc => ?_) (fun hc => ?_)
    · have h := h.2 hc
      refine ax_mv 1 64 [some (.ref 222), some (ax_i x1), some (ax_i x2), some (ax_i x3), some (ax_i x4), some (ax_i r1), some (ax_i r2), none, none] [.ref 222, ax_i (ax_wr (26 * x1))] rfl ?_
      refine ax_gR (v := .ref 248) (pc' := 67) ⟨_, rfl⟩ fl_12_86 ay_222 rfl rfl ?_
      refine ax_mv 1 69 [some (.ref 222), some (ax_i x1), some (ax_i x2), some (ax_i x3), some (ax_i x4), some (ax_i r1), some (ax_i r2), none, none] [ax_i x4, .ref 248, ax_i (ax_wr (26 * x1))] rfl ?_
      obtain ⟨o49, h⟩ := h
      refine ax_ild (n := 701) (pc' := 70) ⟨_, rfl⟩ ay_248 (by decide) o49 rfl ?_
      exact h
    · have h := h.1 (Classical.not_not.mp hc)
      refine ax_mv 2 70 [some (.ref 222), some (ax_i x1), some (ax_i x2), some (ax_i x3), some (ax_i x4), some (ax_i r1), some (ax_i r2), none, none] [ax_i 0, ax_i (ax_wr (26 * x1))] rfl ?_
      exact h
  · have h := h.1 (Classical.not_not.mp hc)
    refine ax_mv 2 28 [some (.ref 222), some (ax_i x1), some (ax_i x2), some (ax_i x3), some (ax_i x4), none, none, none, none] [ax_i 0] rfl ?_
    refine ax_sti (i := 0) (k := 5) (n := 2) (pc' := 30) (L' := [some (.ref 222), some (ax_i x1), some (ax_i x2), some (ax_i x3), some (ax_i x4), some (ax_i 0), none, none, none]) ⟨_, rfl⟩ rfl rfl rfl (Nat.le_of_ble_eq_true rfl) rfl rfl ?_
    refine ax_mv 3 33 [some (.ref 222), some (ax_i x1), some (ax_i x2), some (ax_i x3), some (ax_i x4), some (ax_i 0), none, none, none] [.ref 222, ax_i x1, .ref 222] rfl ?_
    refine ax_gR (v := .ref 246) (pc' := 36) ⟨_, rfl⟩ fl_12_80 ay_222 rfl rfl ?_
    refine ax_mv 1 38 [some (.ref 222), some (ax_i x1), some (ax_i x2), some (ax_i x3), some (ax_i x4), some (ax_i 0), none, none, none] [ax_i x4, .ref 246, ax_i x1, .ref 222] rfl ?_
    obtain ⟨o50, h⟩ := h
    refine ax_ild (n := 701) (pc' := 39) ⟨_, rfl⟩ ay_246 (by decide) o50 rfl ?_
    refine ax_callI (pc' := 42) ⟨_, rfl⟩ ml_12_628 (rest := []) rfl (fun ss hs => ⟨_, _, ay_222 ss hs⟩) (Nat.le_of_ble_eq_true rfl) rfl rfl h (fun r3 V3 hg3 hr3 h => ?_)
    refine ax_sti (i := 0) (k := 6) (n := 2) (pc' := 44) (L' := [some (.ref 222), some (ax_i x1), some (ax_i x2), some (ax_i x3), some (ax_i x4), some (ax_i 0), some (ax_i r3), none, none]) ⟨_, rfl⟩ rfl rfl rfl (Nat.le_of_ble_eq_true rfl) rfl rfl ?_
    refine ax_bip (pc' := 46) ⟨_, rfl⟩ (by decide) rfl ?_
    refine ax_mv 1 47 [some (.ref 222), some (ax_i x1), some (ax_i x2), some (ax_i x3), some (ax_i x4), some (ax_i 0), some (ax_i r3), none, none] [ax_i x1, ax_i 26] rfl ?_
    refine ax_mul (pc' := 48) ⟨_, rfl⟩ rfl ?_
    refine ax_wrap ?_
    refine ax_mv 1 49 [some (.ref 222), some (ax_i x1), some (ax_i x2), some (ax_i x3), some (ax_i x4), some (ax_i 0), some (ax_i r3), none, none] [.ref 222, ax_i (ax_wr (26 * x1))] rfl ?_
    refine ax_gR (v := .ref 248) (pc' := 52) ⟨_, rfl⟩ fl_12_86 ay_222 rfl rfl ?_
    refine ax_mv 1 54 [some (.ref 222), some (ax_i x1), some (ax_i x2), some (ax_i x3), some (ax_i x4), some (ax_i 0), some (ax_i r3), none, none] [ax_i x4, .ref 248, ax_i (ax_wr (26 * x1))] rfl ?_
    obtain ⟨o51, h⟩ := h
    refine ax_ild (n := 701) (pc' := 55) ⟨_, rfl⟩ ay_248 (by decide) o51 rfl ?_
    refine ax_mv 1 56 [some (.ref 222), some (ax_i x1), some (ax_i x2), some (ax_i x3), some (ax_i x4), some (ax_i 0), some (ax_i r3), none, none] [ax_i (-1), ax_i (V3 248 x4), ax_i (ax_wr (26 * x1))] rfl ?_
    refine ax_if2 (p1 := 63) (p2 := 59) ⟨_, rfl⟩ (by decide) rfl (hg3 _ _) (by decide) (fun hc => ?_) (fun hc => ?_)
    · have h := h.2 hc
      refine ax_mv 1 64 [some (.ref 222), some (ax_i x1), some (ax_i x2), some (ax_i x3), some (ax_i x4), some (ax_i 0), some (ax_i r3), none, none] [.ref 222, ax_i (ax_wr (26 * x1))] rfl ?_
      refine ax_gR (v := .ref 248) (pc' := 67) ⟨_, rfl⟩ fl_12_86 ay_222 rfl rfl ?_
      refine ax_mv 1 69 [some (.ref 222), some (ax_i x1), some (ax_i x2), some (ax_i x3), some (ax_i x4), some (ax_i 0), some (ax_i r3), none, none] [ax_i x4, .ref 248, ax_i (ax_wr (26 * x1))] rfl ?_
      obtain ⟨o52, h⟩ := h
      refine ax_ild (n := 701) (pc' := 70) ⟨_, rfl⟩ ay_248 (by decide) o52 rfl ?_
      exact h
    · have h := h.1 (Classical.not_not.mp hc)
      refine ax_mv 2 70 [some (.ref 222), some (ax_i x1), some (ax_i x2), some (ax_i x3), some (ax_i x4), some (ax_i 0), some (ax_i r3), none, none] [ax_i 0, ax_i (ax_wr (26 * x1))] rfl ?_
      exact h
theorem r_Model_valueAt {d : Nat} {V : ax_V} {Φ : Int → ax_V → Prop} {Θ : ax_V → Prop} {x1 : Int} {x2 : Int} (hg : ax_g V) (hx1 : ax_rg x1) (hx2 : ax_rg x2) (h : ((x2 = -1 → Φ 0 V) ∧ (¬ x2 = -1 → (0 ≤ (701 * x1) + x2 ∧ (701 * x1) + x2 < 6309) ∧ Φ (V 296 ((701 * x1) + x2)) V))) : ax_I ay_lay (d + 1) q_Model_valueAt [.ref 222, ax_i x1, ax_i x2] V Φ Θ := by
  refine ax_T.of (M := m_Model_valueAt) rfl (Nat.le_of_ble_eq_true rfl) ?_
  refine ax_mv 0 0 [some (.ref 222), some (ax_i x1), some (ax_i x2)] [] rfl ?_
  refine ax_mv 2 2 [some (.ref 222), some (ax_i x1), some (ax_i x2)] [ax_i (-1), ax_i x2] rfl ?_
  refine ax_if2 (p1 := 9) (p2 := 5) ⟨_, rfl⟩ (by decide) rfl hx2 (by decide) (fun hc => ?_) (fun hc => ?_)
  · have h := h.2 hc
    refine ax_mv 1 10 [some (.ref 222), some (ax_i x1), some (ax_i x2)] [.ref 222] rfl ?_
    refine ax_gR (v := .ref 296) (pc' := 13) ⟨_, rfl⟩ fl_12_230 ay_222 rfl rfl ?_
    refine ax_sip (pc' := 16) ⟨_, rfl⟩ (by decide) rfl ?_
    refine ax_mv 1 17 [some (.ref 222), some (ax_i x1), some (ax_i x2)] [ax_i x1, ax_i 701, .ref 296] rfl ?_
    refine ax_mul (pc' := 18) ⟨_, rfl⟩ rfl ?_
    refine ax_mv 1 19 [some (.ref 222), some (ax_i x1), some (ax_i x2)] [ax_i x2, ax_i (701 * x1), .ref 296] rfl ?_
    refine ax_add (pc' := 20) ⟨_, rfl⟩ rfl ?_
    obtain ⟨o1, h⟩ := h
    refine ax_ild (n := 6309) (pc' := 21) ⟨_, rfl⟩ ay_296 (by decide) o1 rfl ?_
    exact ax_iret ⟨_, rfl⟩ rfl rfl (hg _ _) hg h
  · have h := h.1 (Classical.not_not.mp hc)
    refine ax_mv 2 21 [some (.ref 222), some (ax_i x1), some (ax_i x2)] [ax_i 0] rfl ?_
    exact ax_iret ⟨_, rfl⟩ rfl rfl (by decide) hg h
theorem r_Model_divided {d : Nat} {V : ax_V} {Φ : Int → ax_V → Prop} {Θ : ax_V → Prop} {x1 : Int} {x2 : Int} {x3 : Int} (hg : ax_g V) (hx1 : ax_rg x1) (hx2 : ax_rg x2) (hx3 : ax_rg x3) (h : ((x3 = 0 → ax_N ay_lay d q_Model_fail [.ref 222, ax_i x1] V (fun V1 => Φ 0 V1) Θ) ∧ (¬ x3 = 0 → (0 ≤ x1 ∧ x1 < 701) ∧ ((V 241 x1 = 10 → ¬ x3 = 0 ∧ Φ (ax_div x2 x3) V) ∧ (¬ V 241 x1 = 10 → ¬ x3 = 0 ∧ Φ (ax_rem x2 x3) V))))) : ax_I ay_lay (d + 1) q_Model_divided [.ref 222, ax_i x1, ax_i x2, ax_i x3] V Φ Θ := by
  refine ax_T.of (M := m_Model_divided) rfl (Nat.le_of_ble_eq_true rfl) ?_
  refine ax_mv 0 0 [some (.ref 222), some (ax_i x1), some (ax_i x2), some (ax_i x3)] [] rfl ?_
  refine ax_mv 1 1 [some (.ref 222), some (ax_i x1), some (ax_i x2), some (ax_i x3)] [ax_i x3] rfl ?_
  refine ax_if (p1 := 11) (p2 := 4) ⟨_, rfl⟩ (by decide) rfl hx3 (fun hc => ?_) (fun hc => ?_)
  · have h := h.2 hc
    refine ax_mv 1 12 [some (.ref 222), some (ax_i x1), some (ax_i x2), some (ax_i x3)] [.ref 222] rfl ?_
    refine ax_gR (v := .ref 241) (pc' := 15) ⟨_, rfl⟩ fl_12_65 ay_222 rfl rfl ?_
    refine ax_mv 1 16 [some (.ref 222), some (ax_i x1), some (ax_i x2), some (ax_i x3)] [ax_i x1, .ref 241] rfl ?_
    obtain ⟨o1, h⟩ := h
    refine ax_ild (n := 701) (pc' := 17) ⟨_, rfl⟩ ay_241 (by decide) o1 rfl ?_
    refine ax_bip (pc' := 19) ⟨_, rfl⟩ (by decide) rfl ?_
    refine ax_if2 (p1 := 28) (p2 := 22) ⟨_, rfl⟩ (by decide) rfl (hg _ _) (by decide) (fun hc => ?_) (fun hc => ?_)
    · have h := h.2 hc
      refine ax_mv 2 30 [some (.ref 222), some (ax_i x1), some (ax_i x2), some (ax_i x3)] [ax_i x3, ax_i x2] rfl ?_
      obtain ⟨o2, h⟩ := h
      refine ax_rrem (pc' := 31) ⟨_, rfl⟩ hx3 o2 rfl ?_
      exact ax_iret ⟨_, rfl⟩ rfl rfl (ax_rg_of _) hg h
    · have h := h.1 (Classical.not_not.mp hc)
      refine ax_mv 2 24 [some (.ref 222), some (ax_i x1), some (ax_i x2), some (ax_i x3)] [ax_i x3, ax_i x2] rfl ?_
      obtain ⟨o3, h⟩ := h
      refine ax_rdiv (pc' := 25) ⟨_, rfl⟩ hx3 o3 rfl ?_
      refine ax_mv 1 31 [some (.ref 222), some (ax_i x1), some (ax_i x2), some (ax_i x3)] [ax_i (ax_div x2 x3)] rfl ?_
      exact ax_iret ⟨_, rfl⟩ rfl rfl (ax_rg_of _) hg h
  · have h := h.1 (Classical.not_not.mp hc)
    refine ax_mv 2 6 [some (.ref 222), some (ax_i x1), some (ax_i x2), some (ax_i x3)] [ax_i x1, .ref 222] rfl ?_
    refine ax_callN (pc' := 9) ⟨_, rfl⟩ ml_12_625 (rest := []) rfl (fun ss hs => ⟨_, _, ay_222 ss hs⟩) (Nat.le_of_ble_eq_true rfl) rfl rfl h (fun V1 hg1 h => ?_)
    refine ax_mv 1 10 [some (.ref 222), some (ax_i x1), some (ax_i x2), some (ax_i x3)] [ax_i 0] rfl ?_
    exact ax_iret ⟨_, rfl⟩ rfl rfl (by decide) hg1 h
theorem r_Model_fail {d : Nat} {V : ax_V} {Φ : ax_V → Prop} {Θ : ax_V → Prop} {x1 : Int} (hg : ax_g V) (hx1 : ax_rg x1) (h : ((V 222 101 = -1 → (0 ≤ x1 ∧ x1 < 701) ∧ (∀ V1, V1 = ax_u V 222 101 (V 243 x1) → Φ V1)) ∧ (¬ V 222 101 = -1 → (0 ≤ x1 ∧ x1 < 701) ∧ ((V 222 101 ≤ V 243 x1 → (∀ V2, V2 = ax_u V 222 101 (V 222 101) → Φ V2)) ∧ (V 243 x1 < V 222 101 → (0 ≤ x1 ∧ x1 < 701) ∧ (∀ V3, V3 = ax_u V 222 101 (V 243 x1) → Φ V3)))))) : ax_N ay_lay (d + 1) q_Model_fail [.ref 222, ax_i x1] V Φ Θ := by
  refine ax_T.of (M := m_Model_fail) rfl (Nat.le_of_ble_eq_true rfl) ?_
  refine ax_mv 0 0 [some (.ref 222), some (ax_i x1)] [] rfl ?_
  refine ax_mv 2 2 [some (.ref 222), some (ax_i x1)] [.ref 222, .ref 222] rfl ?_
  refine ax_gI (kI := 101) (pc' := 5) ⟨_, rfl⟩ fl_12_622 ay_222 rfl rfl rfl ?_
  refine ax_mv 1 6 [some (.ref 222), some (ax_i x1)] [ax_i (-1), ax_i (V 222 101), .ref 222] rfl ?_
  refine ax_if2 (p1 := 22) (p2 := 9) ⟨_, rfl⟩ (by decide) rfl (hg _ _) (by decide) (fun hc => ?_) (fun hc => ?_)
  · have h := h.1 hc
    refine ax_mv 1 23 [some (.ref 222), some (ax_i x1)] [.ref 222, .ref 222] rfl ?_
    refine ax_gR (v := .ref 243) (pc' := 26) ⟨_, rfl⟩ fl_12_71 ay_222 rfl rfl ?_
    refine ax_mv 1 27 [some (.ref 222), some (ax_i x1)] [ax_i x1, .ref 243, .ref 222] rfl ?_
    obtain ⟨o1, h⟩ := h
    refine ax_ild (n := 701) (pc' := 28) ⟨_, rfl⟩ ay_243 (by decide) o1 rfl ?_
    refine ax_mv 1 35 [some (.ref 222), some (ax_i x1)] [ax_i (V 243 x1), .ref 222] rfl ?_
    obtain ⟨V1, eV1⟩ : ∃ W9 : ax_V, W9 = ax_u V 222 101 (V 243 x1) := ⟨_, rfl⟩
    have h := h V1 eV1
    have hg1 : ax_g V1 := eV1 ▸ ax_u_g hg (hg _ _)
    refine ax_pI (kI := 101) (pc' := 38) ⟨_, rfl⟩ fl_12_622 ay_ok ay_222 rfl rfl rfl rfl eV1 rfl ?_
    exact ax_nret ⟨_, rfl⟩ rfl hg1 h
  · have h := h.2 hc
    refine ax_mv 1 10 [some (.ref 222), some (ax_i x1)] [.ref 222, .ref 222] rfl ?_
    refine ax_gR (v := .ref 243) (pc' := 13) ⟨_, rfl⟩ fl_12_71 ay_222 rfl rfl ?_
    refine ax_mv 1 14 [some (.ref 222), some (ax_i x1)] [ax_i x1, .ref 243, .ref 222] rfl ?_
    obtain ⟨o2, h⟩ := h
    refine ax_ild (n := 701) (pc' := 15) ⟨_, rfl⟩ ay_243 (by decide) o2 rfl ?_
    refine ax_mv 1 16 [some (.ref 222), some (ax_i x1)] [.ref 222, ax_i (V 243 x1), .ref 222] rfl ?_
    refine ax_gI (kI := 101) (pc' := 19) ⟨_, rfl⟩ fl_12_622 ay_222 rfl rfl rfl ?_
    refine ax_if2 (p1 := 31) (p2 := 22) ⟨_, rfl⟩ (by decide) rfl (hg _ _) (hg _ _) (fun hc => ?_) (fun hc => ?_)
    · have h := h.1 hc
      refine ax_mv 1 32 [some (.ref 222), some (ax_i x1)] [.ref 222, .ref 222] rfl ?_
      refine ax_gI (kI := 101) (pc' := 35) ⟨_, rfl⟩ fl_12_622 ay_222 rfl rfl rfl ?_
      obtain ⟨V2, eV2⟩ : ∃ W9 : ax_V, W9 = ax_u V 222 101 (V 222 101) := ⟨_, rfl⟩
      have h := h V2 eV2
      have hg2 : ax_g V2 := eV2 ▸ ax_u_g hg (hg _ _)
      refine ax_pI (kI := 101) (pc' := 38) ⟨_, rfl⟩ fl_12_622 ay_ok ay_222 rfl rfl rfl rfl eV2 rfl ?_
      exact ax_nret ⟨_, rfl⟩ rfl hg2 h
    · have h := h.2 (Int.not_le.mp hc)
      refine ax_mv 1 23 [some (.ref 222), some (ax_i x1)] [.ref 222, .ref 222] rfl ?_
      refine ax_gR (v := .ref 243) (pc' := 26) ⟨_, rfl⟩ fl_12_71 ay_222 rfl rfl ?_
      refine ax_mv 1 27 [some (.ref 222), some (ax_i x1)] [ax_i x1, .ref 243, .ref 222] rfl ?_
      obtain ⟨o3, h⟩ := h
      refine ax_ild (n := 701) (pc' := 28) ⟨_, rfl⟩ ay_243 (by decide) o3 rfl ?_
      refine ax_mv 1 35 [some (.ref 222), some (ax_i x1)] [ax_i (V 243 x1), .ref 222] rfl ?_
      obtain ⟨V3, eV3⟩ : ∃ W9 : ax_V, W9 = ax_u V 222 101 (V 243 x1) := ⟨_, rfl⟩
      have h := h V3 eV3
      have hg3 : ax_g V3 := eV3 ▸ ax_u_g hg (hg _ _)
      refine ax_pI (kI := 101) (pc' := 38) ⟨_, rfl⟩ fl_12_622 ay_ok ay_222 rfl rfl rfl rfl eV3 rfl ?_
      exact ax_nret ⟨_, rfl⟩ rfl hg3 h
