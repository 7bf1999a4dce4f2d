/-! RULES of the model's methods: a method each, and each loop of it. PRINTED by wip/gen/rules.py -/
abbrev k_Model_work_28 (d : Nat) (x1 : Int) (x2 : Int) (x3 : Int) (x4 : Int) (y5 : Option Value) (y6 : Option Value) (y7 : Option Value) (y8 : Option Value) (s0 : Int) (V : ax_V) (Φ : ax_V → Prop) (Θ : ax_V → Prop) : Prop := ax_R ay_lay ax_t d m_Model_work 28 [some (.ref 222), some (ax_i x1), some (ax_i x2), some (ax_i x3), some (ax_i x4), y5, y6, y7, y8] [ax_i s0] V (ax_Nr Φ) Θ
abbrev k_Model_work_70 (d : Nat) (x1 : Int) (x2 : Int) (x3 : Int) (x4 : Int) (x5 : Int) (x6 : Int) (y7 : Option Value) (y8 : Option Value) (s0 : Int) (s1 : Int) (V : ax_V) (Φ : ax_V → Prop) (Θ : ax_V → Prop) : Prop := ax_R ay_lay ax_t d m_Model_work 70 [some (.ref 222), some (ax_i x1), some (ax_i x2), some (ax_i x3), some (ax_i x4), some (ax_i x5), some (ax_i x6), y7, y8] [ax_i s0, ax_i s1] V (ax_Nr Φ) Θ
abbrev k_Model_work_458 (d : Nat) (x1 : Int) (y2 : Option Value) (x3 : Int) (x4 : Int) (y5 : Option Value) (y6 : Option Value) (y7 : Option Value) (y8 : Option Value) (s0 : Int) (V : ax_V) (Φ : ax_V → Prop) (Θ : ax_V → Prop) : Prop := ax_R ay_lay ax_t d m_Model_work 458 [some (.ref 222), some (ax_i x1), y2, some (ax_i x3), some (ax_i x4), y5, y6, y7, y8] [ax_i s0] V (ax_Nr Φ) Θ
abbrev k_Model_work_518 (d : Nat) (x1 : Int) (y2 : Option Value) (y3 : Option Value) (x4 : Int) (y5 : Option Value) (y6 : Option Value) (y7 : Option Value) (x8 : Int) (V : ax_V) (Φ : ax_V → Prop) (Θ : ax_V → Prop) : Prop := ax_R ay_lay ax_t d m_Model_work 518 [some (.ref 222), some (ax_i x1), y2, y3, some (ax_i x4), y5, y6, y7, some (ax_i x8)] [] V (ax_Nr Φ) Θ
set_option maxRecDepth 20000 in set_option maxHeartbeats 8000000 in
theorem r_Model_work_28 {d : Nat} {V : ax_V} {Φ : ax_V → Prop} {Θ : ax_V → Prop} {x1 : Int} {x2 : Int} {x3 : Int} {x4 : Int} {y5 : Option Value} {y6 : Option Value} {y7 : Option Value} {y8 : Option Value} {s0 : Int} (hg : ax_g V) (hx1 : ax_rg x1) (hx2 : ax_rg x2) (hx3 : ax_rg x3) (hx4 : ax_rg x4) (hy5 : ax_y y5) (hy6 : ax_y y6) (hy7 : ax_y y7) (hy8 : ax_y y8) (hs0 : ax_rg s0) (h : (0 ≤ x4 ∧ x4 < 701) ∧ ax_I ay_lay d q_Model_valueAt [.ref 222, ax_i x1, ax_i (V 246 x4)] V (fun r1 V1 => (0 ≤ x4 ∧ x4 < 701) ∧ ((V1 248 x4 = -1 → k_Model_work_70 d x1 x2 x3 x4 s0 r1 y7 y8 0 (ax_wr (26 * x1)) V1 Φ Θ) ∧ (¬ V1 248 x4 = -1 → (0 ≤ x4 ∧ x4 < 701) ∧ k_Model_work_70 d x1 x2 x3 x4 s0 r1 y7 y8 (V1 248 x4) (ax_wr (26 * x1)) V1 Φ Θ))) Θ) : k_Model_work_28 d x1 x2 x3 x4 y5 y6 y7 y8 s0 V Φ Θ := by
  refine ax_sti (i := 0) (k := 5) (n := 2) (pc' := 30) (L' := [some (.ref 222), some (ax_i x1), some (ax_i x2), some (ax_i x3), some (ax_i x4), some (ax_i s0), y6, y7, y8]) ⟨_, rfl⟩ rfl rfl rfl (Nat.le_of_ble_eq_true rfl) rfl rfl ?_
  refine ax_mv 3 33 [some (.ref 222), some (ax_i x1), some (ax_i x2), some (ax_i x3), some (ax_i x4), some (ax_i s0), y6, y7, y8] [.ref 222, ax_i x1, .ref 222] rfl ?_
  refine ax_gR (v := .ref 246) (pc' := 36) ⟨_, rfl⟩ fl_12_80 ay_222 rfl rfl ?_
  refine ax_mv 1 38 [some (.ref 222), some (ax_i x1), some (ax_i x2), some (ax_i x3), some (ax_i x4), some (ax_i s0), y6, y7, y8] [ax_i x4, .ref 246, ax_i x1, .ref 222] rfl ?_
  obtain ⟨o1, h⟩ := h
  refine ax_ild (n := 701) (pc' := 39) ⟨_, rfl⟩ ay_246 (by decide) o1 rfl ?_
  refine ax_callI (pc' := 42) ⟨_, rfl⟩ ml_12_628 (rest := []) rfl (fun ss hs => ⟨_, _, ay_222 ss hs⟩) (Nat.le_of_ble_eq_true rfl) rfl rfl h (fun r1 V1 hg1 hr1 h => ?_)
  refine ax_sti (i := 0) (k := 6) (n := 2) (pc' := 44) (L' := [some (.ref 222), some (ax_i x1), some (ax_i x2), some (ax_i x3), some (ax_i x4), some (ax_i s0), some (ax_i r1), y7, y8]) ⟨_, rfl⟩ rfl rfl rfl (Nat.le_of_ble_eq_true rfl) rfl rfl ?_
  refine ax_bip (pc' := 46) ⟨_, rfl⟩ (by decide) rfl ?_
  refine ax_mv 1 47 [some (.ref 222), some (ax_i x1), some (ax_i x2), some (ax_i x3), some (ax_i x4), some (ax_i s0), some (ax_i r1), y7, y8] [ax_i x1, ax_i 26] rfl ?_
  refine ax_mul (pc' := 48) ⟨_, rfl⟩ rfl ?_
  refine ax_wrap ?_
  refine ax_mv 1 49 [some (.ref 222), some (ax_i x1), some (ax_i x2), some (ax_i x3), some (ax_i x4), some (ax_i s0), some (ax_i r1), y7, y8] [.ref 222, ax_i (ax_wr (26 * x1))] rfl ?_
  refine ax_gR (v := .ref 248) (pc' := 52) ⟨_, rfl⟩ fl_12_86 ay_222 rfl rfl ?_
  refine ax_mv 1 54 [some (.ref 222), some (ax_i x1), some (ax_i x2), some (ax_i x3), some (ax_i x4), some (ax_i s0), some (ax_i r1), y7, y8] [ax_i x4, .ref 248, ax_i (ax_wr (26 * x1))] rfl ?_
  obtain ⟨o2, h⟩ := h
  refine ax_ild (n := 701) (pc' := 55) ⟨_, rfl⟩ ay_248 (by decide) o2 rfl ?_
  refine ax_mv 1 56 [some (.ref 222), some (ax_i x1), some (ax_i x2), some (ax_i x3), some (ax_i x4), some (ax_i s0), some (ax_i r1), y7, y8] [ax_i (-1), ax_i (V1 248 x4), ax_i (ax_wr (26 * x1))] rfl ?_
  refine ax_if2 (p1 := 63) (p2 := 59) ⟨_, rfl⟩ (by decide) rfl (hg1 _ _) (by decide) (fun hc => ?_) (fun hc => ?_)
  · have h := h.2 hc
    refine ax_mv 1 64 [some (.ref 222), some (ax_i x1), some (ax_i x2), some (ax_i x3), some (ax_i x4), some (ax_i s0), some (ax_i r1), y7, y8] [.ref 222, ax_i (ax_wr (26 * x1))] rfl ?_
    refine ax_gR (v := .ref 248) (pc' := 67) ⟨_, rfl⟩ fl_12_86 ay_222 rfl rfl ?_
    refine ax_mv 1 69 [some (.ref 222), some (ax_i x1), some (ax_i x2), some (ax_i x3), some (ax_i x4), some (ax_i s0), some (ax_i r1), y7, y8] [ax_i x4, .ref 248, ax_i (ax_wr (26 * x1))] rfl ?_
    obtain ⟨o3, h⟩ := h
    refine ax_ild (n := 701) (pc' := 70) ⟨_, rfl⟩ ay_248 (by decide) o3 rfl ?_
    exact h
  · have h := h.1 (Classical.not_not.mp hc)
    refine ax_mv 2 70 [some (.ref 222), some (ax_i x1), some (ax_i x2), some (ax_i x3), some (ax_i x4), some (ax_i s0), some (ax_i r1), y7, y8] [ax_i 0, ax_i (ax_wr (26 * x1))] rfl ?_
    exact h
set_option maxRecDepth 20000 in set_option maxHeartbeats 8000000 in
theorem r_Model_work_70 {d : Nat} {V : ax_V} {Φ : ax_V → Prop} {Θ : ax_V → Prop} {x1 : Int} {x2 : Int} {x3 : Int} {x4 : Int} {x5 : Int} {x6 : Int} {y7 : Option Value} {y8 : Option Value} {s0 : Int} {s1 : Int} (hg : ax_g V) (hx1 : ax_rg x1) (hx2 : ax_rg x2) (hx3 : ax_rg x3) (hx4 : ax_rg x4) (hx5 : ax_rg x5) (hx6 : ax_rg x6) (hy7 : ax_y y7) (hy8 : ax_y y8) (hs0 : ax_rg s0) (hs1 : ax_rg s1) (h : (0 ≤ x4 ∧ x4 < 701) ∧ (((V 241 x4 = 0 ∨ V 241 x4 = 1) → (0 ≤ x4 ∧ x4 < 701) ∧ k_Model_work_518 d x1 (some (ax_i x2)) (some (ax_i x3)) x4 (some (ax_i x5)) (some (ax_i x6)) (some (ax_i (ax_wr (s1 + s0)))) (V 249 x4) V Φ Θ) ∧ (V 241 x4 = 2 → (0 ≤ ax_wr (s1 + s0) ∧ ax_wr (s1 + s0) < 240) ∧ k_Model_work_518 d x1 (some (ax_i x2)) (some (ax_i x3)) x4 (some (ax_i x5)) (some (ax_i x6)) (some (ax_i (ax_wr (s1 + s0)))) (V 293 (ax_wr (s1 + s0))) V Φ Θ) ∧ (V 241 x4 = 3 → (0 ≤ x4 ∧ x4 < 701) ∧ (0 ≤ ax_wr ((ax_wr (26 * x2)) + (V 248 x4)) ∧ ax_wr ((ax_wr (26 * x2)) + (V 248 x4)) < 240) ∧ (0 ≤ ax_wr (x3 + (V 240 (ax_wr ((ax_wr (26 * x2)) + (V 248 x4))))) ∧ ax_wr (x3 + (V 240 (ax_wr ((ax_wr (26 * x2)) + (V 248 x4))))) < 600) ∧ k_Model_work_518 d x1 (some (ax_i x2)) (some (ax_i x3)) x4 (some (ax_i x5)) (some (ax_i x6)) (some (ax_i (ax_wr (s1 + s0)))) (V 291 (ax_wr (x3 + (V 240 (ax_wr ((ax_wr (26 * x2)) + (V 248 x4))))))) V Φ Θ) ∧ (V 241 x4 = 4 → k_Model_work_518 d x1 (some (ax_i x2)) (some (ax_i x3)) x4 (some (ax_i x5)) (some (ax_i x6)) (some (ax_i (ax_wr (s1 + s0)))) (ax_wr (-x5)) V Φ Θ) ∧ (V 241 x4 = 5 → k_Model_work_518 d x1 (some (ax_i x2)) (some (ax_i x3)) x4 (some (ax_i x5)) (some (ax_i x6)) (some (ax_i (ax_wr (s1 + s0)))) (ax_wr (1 - x5)) V Φ Θ) ∧ (V 241 x4 = 6 → (0 ≤ x4 ∧ x4 < 701) ∧ (0 ≤ ax_wr (x3 + (V 257 x4)) ∧ ax_wr (x3 + (V 257 x4)) < 600) ∧ k_Model_work_518 d x1 (some (ax_i x2)) (some (ax_i x3)) x4 (some (ax_i x5)) (some (ax_i x6)) (some (ax_i (ax_wr (s1 + s0)))) (V 291 (ax_wr (x3 + (V 257 x4)))) V Φ Θ) ∧ (V 241 x4 = 7 → k_Model_work_518 d x1 (some (ax_i x2)) (some (ax_i x3)) x4 (some (ax_i x5)) (some (ax_i x6)) (some (ax_i (ax_wr (s1 + s0)))) (ax_wr (x5 + x6)) V Φ Θ) ∧ (V 241 x4 = 8 → k_Model_work_518 d x1 (some (ax_i x2)) (some (ax_i x3)) x4 (some (ax_i x5)) (some (ax_i x6)) (some (ax_i (ax_wr (s1 + s0)))) (ax_wr (x5 - x6)) V Φ Θ) ∧ (V 241 x4 = 9 → k_Model_work_518 d x1 (some (ax_i x2)) (some (ax_i x3)) x4 (some (ax_i x5)) (some (ax_i x6)) (some (ax_i (ax_wr (s1 + s0)))) (ax_wr (x5 * x6)) V Φ Θ) ∧ ((V 241 x4 = 10 ∨ V 241 x4 = 11) → ax_I ay_lay d q_Model_divided [.ref 222, ax_i x4, ax_i x5, ax_i x6] V (fun r1 V1 => k_Model_work_518 d x1 (some (ax_i x2)) (some (ax_i x3)) x4 (some (ax_i x5)) (some (ax_i x6)) (some (ax_i (ax_wr (s1 + s0)))) r1 V1 Φ Θ) Θ) ∧ (V 241 x4 = 12 → ((x5 = x6 → k_Model_work_518 d x1 (some (ax_i x2)) (some (ax_i x3)) x4 (some (ax_i x5)) (some (ax_i x6)) (some (ax_i (ax_wr (s1 + s0)))) 1 V Φ Θ) ∧ (¬ x5 = x6 → k_Model_work_518 d x1 (some (ax_i x2)) (some (ax_i x3)) x4 (some (ax_i x5)) (some (ax_i x6)) (some (ax_i (ax_wr (s1 + s0)))) 0 V Φ Θ))) ∧ (V 241 x4 = 13 → ((x5 = x6 → k_Model_work_518 d x1 (some (ax_i x2)) (some (ax_i x3)) x4 (some (ax_i x5)) (some (ax_i x6)) (some (ax_i (ax_wr (s1 + s0)))) 0 V Φ Θ) ∧ (¬ x5 = x6 → k_Model_work_518 d x1 (some (ax_i x2)) (some (ax_i x3)) x4 (some (ax_i x5)) (some (ax_i x6)) (some (ax_i (ax_wr (s1 + s0)))) 1 V Φ Θ))) ∧ (V 241 x4 = 14 → ((x6 ≤ x5 → k_Model_work_518 d x1 (some (ax_i x2)) (some (ax_i x3)) x4 (some (ax_i x5)) (some (ax_i x6)) (some (ax_i (ax_wr (s1 + s0)))) 0 V Φ Θ) ∧ (x5 < x6 → k_Model_work_518 d x1 (some (ax_i x2)) (some (ax_i x3)) x4 (some (ax_i x5)) (some (ax_i x6)) (some (ax_i (ax_wr (s1 + s0)))) 1 V Φ Θ))) ∧ (V 241 x4 = 15 → ((x5 ≤ x6 → k_Model_work_518 d x1 (some (ax_i x2)) (some (ax_i x3)) x4 (some (ax_i x5)) (some (ax_i x6)) (some (ax_i (ax_wr (s1 + s0)))) 0 V Φ Θ) ∧ (x6 < x5 → k_Model_work_518 d x1 (some (ax_i x2)) (some (ax_i x3)) x4 (some (ax_i x5)) (some (ax_i x6)) (some (ax_i (ax_wr (s1 + s0)))) 1 V Φ Θ))) ∧ (V 241 x4 = 16 → k_Model_work_518 d x1 (some (ax_i x2)) (some (ax_i x3)) x4 (some (ax_i x5)) (some (ax_i x6)) (some (ax_i (ax_wr (s1 + s0)))) (ax_and x5 x6) V Φ Θ) ∧ (V 241 x4 = 17 → k_Model_work_518 d x1 (some (ax_i x2)) (some (ax_i x3)) x4 (some (ax_i x5)) (some (ax_i x6)) (some (ax_i (ax_wr (s1 + s0)))) (ax_or x5 x6) V Φ Θ) ∧ (V 241 x4 = 18 → ((x5 = 1 → k_Model_work_518 d x1 (some (ax_i x2)) (some (ax_i x3)) x4 (some (ax_i x5)) (some (ax_i x6)) (some (ax_i (ax_wr (s1 + s0)))) x6 V Φ Θ) ∧ (¬ x5 = 1 → (0 ≤ x4 ∧ x4 < 701) ∧ ax_I ay_lay d q_Model_valueAt [.ref 222, ax_i x1, ax_i (V 247 x4)] V (fun r2 V2 => k_Model_work_518 d x1 (some (ax_i x2)) (some (ax_i x3)) x4 (some (ax_i x5)) (some (ax_i x6)) (some (ax_i (ax_wr (s1 + s0)))) r2 V2 Φ Θ) Θ))) ∧ (V 241 x4 = 19 → (0 ≤ x4 ∧ x4 < 701) ∧ (0 ≤ ax_wr (x3 + (V 257 x4)) ∧ ax_wr (x3 + (V 257 x4)) < 600) ∧ ((V 291 (ax_wr (x3 + (V 257 x4))) = 0 → k_Model_work_458 d x1 (some (ax_i x2)) x3 x4 (some (ax_i x5)) (some (ax_i x6)) (some (ax_i (ax_wr (s1 + s0)))) (some (ax_i 0)) x5 V Φ Θ) ∧ (¬ V 291 (ax_wr (x3 + (V 257 x4))) = 0 → k_Model_work_458 d x1 (some (ax_i x2)) x3 x4 (some (ax_i x5)) (some (ax_i x6)) (some (ax_i (ax_wr (s1 + s0)))) (some (ax_i 0)) x6 V Φ Θ))) ∧ (V 241 x4 = 20 → k_Model_work_518 d x1 (some (ax_i x2)) (some (ax_i x3)) x4 (some (ax_i x5)) (some (ax_i x6)) (some (ax_i (ax_wr (s1 + s0)))) x5 V Φ Θ) ∧ (V 241 x4 = 21 → (0 ≤ ax_wr (s1 + s0) ∧ ax_wr (s1 + s0) < 240) ∧ ((V 293 (ax_wr (s1 + s0)) = 1 → k_Model_work_518 d x1 (some (ax_i x2)) (some (ax_i x3)) x4 (some (ax_i x5)) (some (ax_i x6)) (some (ax_i (ax_wr (s1 + s0)))) x5 V Φ Θ) ∧ (¬ V 293 (ax_wr (s1 + s0)) = 1 → k_Model_work_518 d x1 (some (ax_i x2)) (some (ax_i x3)) x4 (some (ax_i x5)) (some (ax_i x6)) (some (ax_i (ax_wr (s1 + s0)))) x6 V Φ Θ))) ∧ (¬ V 241 x4 = 0 → ¬ V 241 x4 = 1 → ¬ V 241 x4 = 2 → ¬ V 241 x4 = 3 → ¬ V 241 x4 = 4 → ¬ V 241 x4 = 5 → ¬ V 241 x4 = 6 → ¬ V 241 x4 = 7 → ¬ V 241 x4 = 8 → ¬ V 241 x4 = 9 → ¬ V 241 x4 = 10 → ¬ V 241 x4 = 11 → ¬ V 241 x4 = 12 → ¬ V 241 x4 = 13 → ¬ V 241 x4 = 14 → ¬ V 241 x4 = 15 → ¬ V 241 x4 = 16 → ¬ V 241 x4 = 17 → ¬ V 241 x4 = 18 → ¬ V 241 x4 = 19 → ¬ V 241 x4 = 20 → ¬ V 241 x4 = 21 → ax_I ay_lay d q_Model_call [.ref 222, ax_i x1, ax_i x3, ax_i x4] V (fun r3 V3 => k_Model_work_518 d x1 (some (ax_i x2)) (some (ax_i x3)) x4 (some (ax_i x5)) (some (ax_i x6)) (some (ax_i (ax_wr (s1 + s0)))) r3 V3 Φ Θ) Θ))) : k_Model_work_70 d x1 x2 x3 x4 x5 x6 y7 y8 s0 s1 V Φ Θ := by
  refine ax_add (pc' := 71) ⟨_, rfl⟩ rfl ?_
  refine ax_wrap ?_
  refine ax_sti (i := 0) (k := 7) (n := 2) (pc' := 73) (L' := [some (.ref 222), some (ax_i x1), some (ax_i x2), some (ax_i x3), some (ax_i x4), some (ax_i x5), some (ax_i x6), some (ax_i (ax_wr (s1 + s0))), y8]) ⟨_, rfl⟩ rfl rfl rfl (Nat.le_of_ble_eq_true rfl) rfl rfl ?_
  refine ax_mv 1 74 [some (.ref 222), some (ax_i x1), some (ax_i x2), some (ax_i x3), some (ax_i x4), some (ax_i x5), some (ax_i x6), some (ax_i (ax_wr (s1 + s0))), y8] [ax_i 0] rfl ?_
  refine ax_sti (i := 0) (k := 8) (n := 2) (pc' := 76) (L' := [some (.ref 222), some (ax_i x1), some (ax_i x2), some (ax_i x3), some (ax_i x4), some (ax_i x5), some (ax_i x6), some (ax_i (ax_wr (s1 + s0))), some (ax_i 0)]) ⟨_, rfl⟩ rfl rfl rfl (Nat.le_of_ble_eq_true rfl) rfl rfl ?_
  refine ax_mv 1 77 [some (.ref 222), some (ax_i x1), some (ax_i x2), some (ax_i x3), some (ax_i x4), some (ax_i x5), some (ax_i x6), some (ax_i (ax_wr (s1 + s0))), some (ax_i 0)] [.ref 222] rfl ?_
  refine ax_gR (v := .ref 241) (pc' := 80) ⟨_, rfl⟩ fl_12_65 ay_222 rfl rfl ?_
  refine ax_mv 1 82 [some (.ref 222), some (ax_i x1), some (ax_i x2), some (ax_i x3), some (ax_i x4), some (ax_i x5), some (ax_i x6), some (ax_i (ax_wr (s1 + s0))), some (ax_i 0)] [ax_i x4, .ref 241] rfl ?_
  obtain ⟨o4, h⟩ := h
  refine ax_ild (n := 701) (pc' := 83) ⟨_, rfl⟩ ay_241 (by decide) o4 rfl ?_
  have t0 : (V 241 x4 = 0 ∨ V 241 x4 = 1) → ax_R ay_lay ax_t d m_Model_work 184 [some (.ref 222), some (ax_i x1), some (ax_i x2), some (ax_i x3), some (ax_i x4), some (ax_i x5), some (ax_i x6), some (ax_i (ax_wr (s1 + s0))), some (ax_i 0)] [] V (ax_Nr Φ) Θ := fun hk => by
    have h := h.1 hk
    refine ax_mv 1 185 [some (.ref 222), some (ax_i x1), some (ax_i x2), some (ax_i x3), some (ax_i x4), some (ax_i x5), some (ax_i x6), some (ax_i (ax_wr (s1 + s0))), some (ax_i 0)] [.ref 222] rfl ?_
    refine ax_gR (v := .ref 249) (pc' := 188) ⟨_, rfl⟩ fl_12_89 ay_222 rfl rfl ?_
    refine ax_mv 1 190 [some (.ref 222), some (ax_i x1), some (ax_i x2), some (ax_i x3), some (ax_i x4), some (ax_i x5), some (ax_i x6), some (ax_i (ax_wr (s1 + s0))), some (ax_i 0)] [ax_i x4, .ref 249] rfl ?_
    obtain ⟨o5, h⟩ := h
    refine ax_ild (n := 701) (pc' := 191) ⟨_, rfl⟩ ay_249 (by decide) o5 rfl ?_
    refine ax_sti (i := 0) (k := 8) (n := 2) (pc' := 193) (L' := [some (.ref 222), some (ax_i x1), some (ax_i x2), some (ax_i x3), some (ax_i x4), some (ax_i x5), some (ax_i x6), some (ax_i (ax_wr (s1 + s0))), some (ax_i (V 249 x4))]) ⟨_, rfl⟩ rfl rfl rfl (Nat.le_of_ble_eq_true rfl) rfl rfl ?_
    refine ax_mv 1 518 [some (.ref 222), some (ax_i x1), some (ax_i x2), some (ax_i x3), some (ax_i x4), some (ax_i x5), some (ax_i x6), some (ax_i (ax_wr (s1 + s0))), some (ax_i (V 249 x4))] [] rfl ?_
    exact h
  have t1 : (V 241 x4 = 2) → ax_R ay_lay ax_t d m_Model_work 196 [some (.ref 222), some (ax_i x1), some (ax_i x2), some (ax_i x3), some (ax_i x4), some (ax_i x5), some (ax_i x6), some (ax_i (ax_wr (s1 + s0))), some (ax_i 0)] [] V (ax_Nr Φ) Θ := fun hk => by
    have h := h.2.1 hk
    refine ax_mv 1 197 [some (.ref 222), some (ax_i x1), some (ax_i x2), some (ax_i x3), some (ax_i x4), some (ax_i x5), some (ax_i x6), some (ax_i (ax_wr (s1 + s0))), some (ax_i 0)] [.ref 222] rfl ?_
    refine ax_gR (v := .ref 293) (pc' := 200) ⟨_, rfl⟩ fl_12_221 ay_222 rfl rfl ?_
    refine ax_mv 1 202 [some (.ref 222), some (ax_i x1), some (ax_i x2), some (ax_i x3), some (ax_i x4), some (ax_i x5), some (ax_i x6), some (ax_i (ax_wr (s1 + s0))), some (ax_i 0)] [ax_i (ax_wr (s1 + s0)), .ref 293] rfl ?_
    obtain ⟨o6, h⟩ := h
    refine ax_ild (n := 240) (pc' := 203) ⟨_, rfl⟩ ay_293 (by decide) o6 rfl ?_
    refine ax_sti (i := 0) (k := 8) (n := 2) (pc' := 205) (L' := [some (.ref 222), some (ax_i x1), some (ax_i x2), some (ax_i x3), some (ax_i x4), some (ax_i x5), some (ax_i x6), some (ax_i (ax_wr (s1 + s0))), some (ax_i (V 293 (ax_wr (s1 + s0))))]) ⟨_, rfl⟩ rfl rfl rfl (Nat.le_of_ble_eq_true rfl) rfl rfl ?_
    refine ax_mv 1 518 [some (.ref 222), some (ax_i x1), some (ax_i x2), some (ax_i x3), some (ax_i x4), some (ax_i x5), some (ax_i x6), some (ax_i (ax_wr (s1 + s0))), some (ax_i (V 293 (ax_wr (s1 + s0))))] [] rfl ?_
    exact h
  have t2 : (V 241 x4 = 3) → ax_R ay_lay ax_t d m_Model_work 208 [some (.ref 222), some (ax_i x1), some (ax_i x2), some (ax_i x3), some (ax_i x4), some (ax_i x5), some (ax_i x6), some (ax_i (ax_wr (s1 + s0))), some (ax_i 0)] [] V (ax_Nr Φ) Θ := fun hk => by
    have h := h.2.2.1 hk
    refine ax_mv 1 209 [some (.ref 222), some (ax_i x1), some (ax_i x2), some (ax_i x3), some (ax_i x4), some (ax_i x5), some (ax_i x6), some (ax_i (ax_wr (s1 + s0))), some (ax_i 0)] [.ref 222] rfl ?_
    refine ax_gR (v := .ref 291) (pc' := 212) ⟨_, rfl⟩ fl_12_215 ay_222 rfl rfl ?_
    refine ax_mv 2 214 [some (.ref 222), some (ax_i x1), some (ax_i x2), some (ax_i x3), some (ax_i x4), some (ax_i x5), some (ax_i x6), some (ax_i (ax_wr (s1 + s0))), some (ax_i 0)] [.ref 222, ax_i x3, .ref 291] rfl ?_
    refine ax_gR (v := .ref 240) (pc' := 217) ⟨_, rfl⟩ fl_12_62 ay_222 rfl rfl ?_
    refine ax_bip (pc' := 219) ⟨_, rfl⟩ (by decide) rfl ?_
    refine ax_mv 1 220 [some (.ref 222), some (ax_i x1), some (ax_i x2), some (ax_i x3), some (ax_i x4), some (ax_i x5), some (ax_i x6), some (ax_i (ax_wr (s1 + s0))), some (ax_i 0)] [ax_i x2, ax_i 26, .ref 240, ax_i x3, .ref 291] rfl ?_
    refine ax_mul (pc' := 221) ⟨_, rfl⟩ rfl ?_
    refine ax_wrap ?_
    refine ax_mv 1 222 [some (.ref 222), some (ax_i x1), some (ax_i x2), some (ax_i x3), some (ax_i x4), some (ax_i x5), some (ax_i x6), some (ax_i (ax_wr (s1 + s0))), some (ax_i 0)] [.ref 222, ax_i (ax_wr (26 * x2)), .ref 240, ax_i x3, .ref 291] rfl ?_
    refine ax_gR (v := .ref 248) (pc' := 225) ⟨_, rfl⟩ fl_12_86 ay_222 rfl rfl ?_
    refine ax_mv 1 227 [some (.ref 222), some (ax_i x1), some (ax_i x2), some (ax_i x3), some (ax_i x4), some (ax_i x5), some (ax_i x6), some (ax_i (ax_wr (s1 + s0))), some (ax_i 0)] [ax_i x4, .ref 248, ax_i (ax_wr (26 * x2)), .ref 240, ax_i x3, .ref 291] rfl ?_
    obtain ⟨o7, h⟩ := h
    refine ax_ild (n := 701) (pc' := 228) ⟨_, rfl⟩ ay_248 (by decide) o7 rfl ?_
    refine ax_add (pc' := 229) ⟨_, rfl⟩ rfl ?_
    refine ax_wrap ?_
    obtain ⟨o8, h⟩ := h
    refine ax_ild (n := 240) (pc' := 230) ⟨_, rfl⟩ ay_240 (by decide) o8 rfl ?_
    refine ax_add (pc' := 231) ⟨_, rfl⟩ rfl ?_
    refine ax_wrap ?_
    obtain ⟨o9, h⟩ := h
    refine ax_ild (n := 600) (pc' := 232) ⟨_, rfl⟩ ay_291 (by decide) o9 rfl ?_
    refine ax_sti (i := 0) (k := 8) (n := 2) (pc' := 234) (L' := [some (.ref 222), some (ax_i x1), some (ax_i x2), some (ax_i x3), some (ax_i x4), some (ax_i x5), some (ax_i x6), some (ax_i (ax_wr (s1 + s0))), some (ax_i (V 291 (ax_wr (x3 + (V 240 (ax_wr ((ax_wr (26 * x2)) + (V 248 x4))))))))]) ⟨_, rfl⟩ rfl rfl rfl (Nat.le_of_ble_eq_true rfl) rfl rfl ?_
    refine ax_mv 1 518 [some (.ref 222), some (ax_i x1), some (ax_i x2), some (ax_i x3), some (ax_i x4), some (ax_i x5), some (ax_i x6), some (ax_i (ax_wr (s1 + s0))), some (ax_i (V 291 (ax_wr (x3 + (V 240 (ax_wr ((ax_wr (26 * x2)) + (V 248 x4))))))))] [] rfl ?_
    exact h
  have t3 : (V 241 x4 = 4) → ax_R ay_lay ax_t d m_Model_work 237 [some (.ref 222), some (ax_i x1), some (ax_i x2), some (ax_i x3), some (ax_i x4), some (ax_i x5), some (ax_i x6), some (ax_i (ax_wr (s1 + s0))), some (ax_i 0)] [] V (ax_Nr Φ) Θ := fun hk => by
    have h := h.2.2.2.1 hk
    refine ax_mv 1 239 [some (.ref 222), some (ax_i x1), some (ax_i x2), some (ax_i x3), some (ax_i x4), some (ax_i x5), some (ax_i x6), some (ax_i (ax_wr (s1 + s0))), some (ax_i 0)] [ax_i x5] rfl ?_
    refine ax_neg (pc' := 240) ⟨_, rfl⟩ rfl ?_
    refine ax_wrap ?_
    refine ax_sti (i := 0) (k := 8) (n := 2) (pc' := 242) (L' := [some (.ref 222), some (ax_i x1), some (ax_i x2), some (ax_i x3), some (ax_i x4), some (ax_i x5), some (ax_i x6), some (ax_i (ax_wr (s1 + s0))), some (ax_i (ax_wr (-x5)))]) ⟨_, rfl⟩ rfl rfl rfl (Nat.le_of_ble_eq_true rfl) rfl rfl ?_
    refine ax_mv 1 518 [some (.ref 222), some (ax_i x1), some (ax_i x2), some (ax_i x3), some (ax_i x4), some (ax_i x5), some (ax_i x6), some (ax_i (ax_wr (s1 + s0))), some (ax_i (ax_wr (-x5)))] [] rfl ?_
    exact h
  have t4 : (V 241 x4 = 5) → ax_R ay_lay ax_t d m_Model_work 245 [some (.ref 222), some (ax_i x1), some (ax_i x2), some (ax_i x3), some (ax_i x4), some (ax_i x5), some (ax_i x6), some (ax_i (ax_wr (s1 + s0))), some (ax_i 0)] [] V (ax_Nr Φ) Θ := fun hk => by
    have h := h.2.2.2.2.1 hk
    refine ax_mv 2 248 [some (.ref 222), some (ax_i x1), some (ax_i x2), some (ax_i x3), some (ax_i x4), some (ax_i x5), some (ax_i x6), some (ax_i (ax_wr (s1 + s0))), some (ax_i 0)] [ax_i x5, ax_i 1] rfl ?_
    refine ax_sub (pc' := 249) ⟨_, rfl⟩ rfl ?_
    refine ax_wrap ?_
    refine ax_sti (i := 0) (k := 8) (n := 2) (pc' := 251) (L' := [some (.ref 222), some (ax_i x1), some (ax_i x2), some (ax_i x3), some (ax_i x4), some (ax_i x5), some (ax_i x6), some (ax_i (ax_wr (s1 + s0))), some (ax_i (ax_wr (1 - x5)))]) ⟨_, rfl⟩ rfl rfl rfl (Nat.le_of_ble_eq_true rfl) rfl rfl ?_
    refine ax_mv 1 518 [some (.ref 222), some (ax_i x1), some (ax_i x2), some (ax_i x3), some (ax_i x4), some (ax_i x5), some (ax_i x6), some (ax_i (ax_wr (s1 + s0))), some (ax_i (ax_wr (1 - x5)))] [] rfl ?_
    exact h
  have t5 : (V 241 x4 = 6) → ax_R ay_lay ax_t d m_Model_work 254 [some (.ref 222), some (ax_i x1), some (ax_i x2), some (ax_i x3), some (ax_i x4), some (ax_i x5), some (ax_i x6), some (ax_i (ax_wr (s1 + s0))), some (ax_i 0)] [] V (ax_Nr Φ) Θ := fun hk => by
    have h := h.2.2.2.2.2.1 hk
    refine ax_mv 1 255 [some (.ref 222), some (ax_i x1), some (ax_i x2), some (ax_i x3), some (ax_i x4), some (ax_i x5), some (ax_i x6), some (ax_i (ax_wr (s1 + s0))), some (ax_i 0)] [.ref 222] rfl ?_
    refine ax_gR (v := .ref 291) (pc' := 258) ⟨_, rfl⟩ fl_12_215 ay_222 rfl rfl ?_
    refine ax_mv 2 260 [some (.ref 222), some (ax_i x1), some (ax_i x2), some (ax_i x3), some (ax_i x4), some (ax_i x5), some (ax_i x6), some (ax_i (ax_wr (s1 + s0))), some (ax_i 0)] [.ref 222, ax_i x3, .ref 291] rfl ?_
    refine ax_gR (v := .ref 257) (pc' := 263) ⟨_, rfl⟩ fl_12_113 ay_222 rfl rfl ?_
    refine ax_mv 1 265 [some (.ref 222), some (ax_i x1), some (ax_i x2), some (ax_i x3), some (ax_i x4), some (ax_i x5), some (ax_i x6), some (ax_i (ax_wr (s1 + s0))), some (ax_i 0)] [ax_i x4, .ref 257, ax_i x3, .ref 291] rfl ?_
    obtain ⟨o10, h⟩ := h
    refine ax_ild (n := 701) (pc' := 266) ⟨_, rfl⟩ ay_257 (by decide) o10 rfl ?_
    refine ax_add (pc' := 267) ⟨_, rfl⟩ rfl ?_
    refine ax_wrap ?_
    obtain ⟨o11, h⟩ := h
    refine ax_ild (n := 600) (pc' := 268) ⟨_, rfl⟩ ay_291 (by decide) o11 rfl ?_
    refine ax_sti (i := 0) (k := 8) (n := 2) (pc' := 270) (L' := [some (.ref 222), some (ax_i x1), some (ax_i x2), some (ax_i x3), some (ax_i x4), some (ax_i x5), some (ax_i x6), some (ax_i (ax_wr (s1 + s0))), some (ax_i (V 291 (ax_wr (x3 + (V 257 x4)))))]) ⟨_, rfl⟩ rfl rfl rfl (Nat.le_of_ble_eq_true rfl) rfl rfl ?_
    refine ax_mv 1 518 [some (.ref 222), some (ax_i x1), some (ax_i x2), some (ax_i x3), some (ax_i x4), some (ax_i x5), some (ax_i x6), some (ax_i (ax_wr (s1 + s0))), some (ax_i (V 291 (ax_wr (x3 + (V 257 x4)))))] [] rfl ?_
    exact h
  have t6 : (V 241 x4 = 7) → ax_R ay_lay ax_t d m_Model_work 273 [some (.ref 222), some (ax_i x1), some (ax_i x2), some (ax_i x3), some (ax_i x4), some (ax_i x5), some (ax_i x6), some (ax_i (ax_wr (s1 + s0))), some (ax_i 0)] [] V (ax_Nr Φ) Θ := fun hk => by
    have h := h.2.2.2.2.2.2.1 hk
    refine ax_mv 2 277 [some (.ref 222), some (ax_i x1), some (ax_i x2), some (ax_i x3), some (ax_i x4), some (ax_i x5), some (ax_i x6), some (ax_i (ax_wr (s1 + s0))), some (ax_i 0)] [ax_i x6, ax_i x5] rfl ?_
    refine ax_add (pc' := 278) ⟨_, rfl⟩ rfl ?_
    refine ax_wrap ?_
    refine ax_sti (i := 0) (k := 8) (n := 2) (pc' := 280) (L' := [some (.ref 222), some (ax_i x1), some (ax_i x2), some (ax_i x3), some (ax_i x4), some (ax_i x5), some (ax_i x6), some (ax_i (ax_wr (s1 + s0))), some (ax_i (ax_wr (x5 + x6)))]) ⟨_, rfl⟩ rfl rfl rfl (Nat.le_of_ble_eq_true rfl) rfl rfl ?_
    refine ax_mv 1 518 [some (.ref 222), some (ax_i x1), some (ax_i x2), some (ax_i x3), some (ax_i x4), some (ax_i x5), some (ax_i x6), some (ax_i (ax_wr (s1 + s0))), some (ax_i (ax_wr (x5 + x6)))] [] rfl ?_
    exact h
  have t7 : (V 241 x4 = 8) → ax_R ay_lay ax_t d m_Model_work 283 [some (.ref 222), some (ax_i x1), some (ax_i x2), some (ax_i x3), some (ax_i x4), some (ax_i x5), some (ax_i x6), some (ax_i (ax_wr (s1 + s0))), some (ax_i 0)] [] V (ax_Nr Φ) Θ := fun hk => by
    have h := h.2.2.2.2.2.2.2.1 hk
    refine ax_mv 2 287 [some (.ref 222), some (ax_i x1), some (ax_i x2), some (ax_i x3), some (ax_i x4), some (ax_i x5), some (ax_i x6), some (ax_i (ax_wr (s1 + s0))), some (ax_i 0)] [ax_i x6, ax_i x5] rfl ?_
    refine ax_sub (pc' := 288) ⟨_, rfl⟩ rfl ?_
    refine ax_wrap ?_
    refine ax_sti (i := 0) (k := 8) (n := 2) (pc' := 290) (L' := [some (.ref 222), some (ax_i x1), some (ax_i x2), some (ax_i x3), some (ax_i x4), some (ax_i x5), some (ax_i x6), some (ax_i (ax_wr (s1 + s0))), some (ax_i (ax_wr (x5 - x6)))]) ⟨_, rfl⟩ rfl rfl rfl (Nat.le_of_ble_eq_true rfl) rfl rfl ?_
    refine ax_mv 1 518 [some (.ref 222), some (ax_i x1), some (ax_i x2), some (ax_i x3), some (ax_i x4), some (ax_i x5), some (ax_i x6), some (ax_i (ax_wr (s1 + s0))), some (ax_i (ax_wr (x5 - x6)))] [] rfl ?_
    exact h
  have t8 : (V 241 x4 = 9) → ax_R ay_lay ax_t d m_Model_work 293 [some (.ref 222), some (ax_i x1), some (ax_i x2), some (ax_i x3), some (ax_i x4), some (ax_i x5), some (ax_i x6), some (ax_i (ax_wr (s1 + s0))), some (ax_i 0)] [] V (ax_Nr Φ) Θ := fun hk => by
    have h := h.2.2.2.2.2.2.2.2.1 hk
    refine ax_mv 2 297 [some (.ref 222), some (ax_i x1), some (ax_i x2), some (ax_i x3), some (ax_i x4), some (ax_i x5), some (ax_i x6), some (ax_i (ax_wr (s1 + s0))), some (ax_i 0)] [ax_i x6, ax_i x5] rfl ?_
    refine ax_mul (pc' := 298) ⟨_, rfl⟩ rfl ?_
    refine ax_wrap ?_
    refine ax_sti (i := 0) (k := 8) (n := 2) (pc' := 300) (L' := [some (.ref 222), some (ax_i x1), some (ax_i x2), some (ax_i x3), some (ax_i x4), some (ax_i x5), some (ax_i x6), some (ax_i (ax_wr (s1 + s0))), some (ax_i (ax_wr (x5 * x6)))]) ⟨_, rfl⟩ rfl rfl rfl (Nat.le_of_ble_eq_true rfl) rfl rfl ?_
    refine ax_mv 1 518 [some (.ref 222), some (ax_i x1), some (ax_i x2), some (ax_i x3), some (ax_i x4), some (ax_i x5), some (ax_i x6), some (ax_i (ax_wr (s1 + s0))), some (ax_i (ax_wr (x5 * x6)))] [] rfl ?_
    exact h
  have t9 : (V 241 x4 = 10 ∨ V 241 x4 = 11) → ax_R ay_lay ax_t d m_Model_work 303 [some (.ref 222), some (ax_i x1), some (ax_i x2), some (ax_i x3), some (ax_i x4), some (ax_i x5), some (ax_i x6), some (ax_i (ax_wr (s1 + s0))), some (ax_i 0)] [] V (ax_Nr Φ) Θ := fun hk => by
    have h := h.2.2.2.2.2.2.2.2.2.1 hk
    refine ax_mv 4 310 [some (.ref 222), some (ax_i x1), some (ax_i x2), some (ax_i x3), some (ax_i x4), some (ax_i x5), some (ax_i x6), some (ax_i (ax_wr (s1 + s0))), some (ax_i 0)] [ax_i x6, ax_i x5, ax_i x4, .ref 222] rfl ?_
    refine ax_callI (pc' := 313) ⟨_, rfl⟩ ml_12_631 (rest := []) rfl (fun ss hs => ⟨_, _, ay_222 ss hs⟩) (Nat.le_of_ble_eq_true rfl) rfl rfl h (fun r1 V1 hg1 hr1 h => ?_)
    refine ax_sti (i := 0) (k := 8) (n := 2) (pc' := 315) (L' := [some (.ref 222), some (ax_i x1), some (ax_i x2), some (ax_i x3), some (ax_i x4), some (ax_i x5), some (ax_i x6), some (ax_i (ax_wr (s1 + s0))), some (ax_i r1)]) ⟨_, rfl⟩ rfl rfl rfl (Nat.le_of_ble_eq_true rfl) rfl rfl ?_
    refine ax_mv 1 518 [some (.ref 222), some (ax_i x1), some (ax_i x2), some (ax_i x3), some (ax_i x4), some (ax_i x5), some (ax_i x6), some (ax_i (ax_wr (s1 + s0))), some (ax_i r1)] [] rfl ?_
    exact h
  have t10 : (V 241 x4 = 12) → ax_R ay_lay ax_t d m_Model_work 318 [some (.ref 222), some (ax_i x1), some (ax_i x2), some (ax_i x3), some (ax_i x4), some (ax_i x5), some (ax_i x6), some (ax_i (ax_wr (s1 + s0))), some (ax_i 0)] [] V (ax_Nr Φ) Θ := fun hk => by
    have h := h.2.2.2.2.2.2.2.2.2.2.1 hk
    refine ax_mv 2 322 [some (.ref 222), some (ax_i x1), some (ax_i x2), some (ax_i x3), some (ax_i x4), some (ax_i x5), some (ax_i x6), some (ax_i (ax_wr (s1 + s0))), some (ax_i 0)] [ax_i x6, ax_i x5] rfl ?_
    refine ax_if2 (p1 := 329) (p2 := 325) ⟨_, rfl⟩ (by decide) rfl hx5 hx6 (fun hc => ?_) (fun hc => ?_)
    · have h := h.2 hc
      refine ax_mv 1 330 [some (.ref 222), some (ax_i x1), some (ax_i x2), some (ax_i x3), some (ax_i x4), some (ax_i x5), some (ax_i x6), some (ax_i (ax_wr (s1 + s0))), some (ax_i 0)] [ax_i 0] rfl ?_
      refine ax_sti (i := 0) (k := 8) (n := 2) (pc' := 332) (L' := [some (.ref 222), some (ax_i x1), some (ax_i x2), some (ax_i x3), some (ax_i x4), some (ax_i x5), some (ax_i x6), some (ax_i (ax_wr (s1 + s0))), some (ax_i 0)]) ⟨_, rfl⟩ rfl rfl rfl (Nat.le_of_ble_eq_true rfl) rfl rfl ?_
      refine ax_mv 1 518 [some (.ref 222), some (ax_i x1), some (ax_i x2), some (ax_i x3), some (ax_i x4), some (ax_i x5), some (ax_i x6), some (ax_i (ax_wr (s1 + s0))), some (ax_i 0)] [] rfl ?_
      exact h
    · have h := h.1 (Classical.not_not.mp hc)
      refine ax_mv 2 330 [some (.ref 222), some (ax_i x1), some (ax_i x2), some (ax_i x3), some (ax_i x4), some (ax_i x5), some (ax_i x6), some (ax_i (ax_wr (s1 + s0))), some (ax_i 0)] [ax_i 1] rfl ?_
      refine ax_sti (i := 0) (k := 8) (n := 2) (pc' := 332) (L' := [some (.ref 222), some (ax_i x1), some (ax_i x2), some (ax_i x3), some (ax_i x4), some (ax_i x5), some (ax_i x6), some (ax_i (ax_wr (s1 + s0))), some (ax_i 1)]) ⟨_, rfl⟩ rfl rfl rfl (Nat.le_of_ble_eq_true rfl) rfl rfl ?_
      refine ax_mv 1 518 [some (.ref 222), some (ax_i x1), some (ax_i x2), some (ax_i x3), some (ax_i x4), some (ax_i x5), some (ax_i x6), some (ax_i (ax_wr (s1 + s0))), some (ax_i 1)] [] rfl ?_
      exact h
  have t11 : (V 241 x4 = 13) → ax_R ay_lay ax_t d m_Model_work 335 [some (.ref 222), some (ax_i x1), some (ax_i x2), some (ax_i x3), some (ax_i x4), some (ax_i x5), some (ax_i x6), some (ax_i (ax_wr (s1 + s0))), some (ax_i 0)] [] V (ax_Nr Φ) Θ := fun hk => by
    have h := h.2.2.2.2.2.2.2.2.2.2.2.1 hk
    refine ax_mv 2 339 [some (.ref 222), some (ax_i x1), some (ax_i x2), some (ax_i x3), some (ax_i x4), some (ax_i x5), some (ax_i x6), some (ax_i (ax_wr (s1 + s0))), some (ax_i 0)] [ax_i x6, ax_i x5] rfl ?_
    refine ax_if2 (p1 := 346) (p2 := 342) ⟨_, rfl⟩ (by decide) rfl hx5 hx6 (fun hc => ?_) (fun hc => ?_)
    · have h := h.1 hc
      refine ax_mv 1 347 [some (.ref 222), some (ax_i x1), some (ax_i x2), some (ax_i x3), some (ax_i x4), some (ax_i x5), some (ax_i x6), some (ax_i (ax_wr (s1 + s0))), some (ax_i 0)] [ax_i 0] rfl ?_
      refine ax_sti (i := 0) (k := 8) (n := 2) (pc' := 349) (L' := [some (.ref 222), some (ax_i x1), some (ax_i x2), some (ax_i x3), some (ax_i x4), some (ax_i x5), some (ax_i x6), some (ax_i (ax_wr (s1 + s0))), some (ax_i 0)]) ⟨_, rfl⟩ rfl rfl rfl (Nat.le_of_ble_eq_true rfl) rfl rfl ?_
      refine ax_mv 1 518 [some (.ref 222), some (ax_i x1), some (ax_i x2), some (ax_i x3), some (ax_i x4), some (ax_i x5), some (ax_i x6), some (ax_i (ax_wr (s1 + s0))), some (ax_i 0)] [] rfl ?_
      exact h
    · have h := h.2 hc
      refine ax_mv 2 347 [some (.ref 222), some (ax_i x1), some (ax_i x2), some (ax_i x3), some (ax_i x4), some (ax_i x5), some (ax_i x6), some (ax_i (ax_wr (s1 + s0))), some (ax_i 0)] [ax_i 1] rfl ?_
      refine ax_sti (i := 0) (k := 8) (n := 2) (pc' := 349) (L' := [some (.ref 222), some (ax_i x1), some (ax_i x2), some (ax_i x3), some (ax_i x4), some (ax_i x5), some (ax_i x6), some (ax_i (ax_wr (s1 + s0))), some (ax_i 1)]) ⟨_, rfl⟩ rfl rfl rfl (Nat.le_of_ble_eq_true rfl) rfl rfl ?_
      refine ax_mv 1 518 [some (.ref 222), some (ax_i x1), some (ax_i x2), some (ax_i x3), some (ax_i x4), some (ax_i x5), some (ax_i x6), some (ax_i (ax_wr (s1 + s0))), some (ax_i 1)] [] rfl ?_
      exact h
  have t12 : (V 241 x4 = 14) → ax_R ay_lay ax_t d m_Model_work 352 [some (.ref 222), some (ax_i x1), some (ax_i x2), some (ax_i x3), some (ax_i x4), some (ax_i x5), some (ax_i x6), some (ax_i (ax_wr (s1 + s0))), some (ax_i 0)] [] V (ax_Nr Φ) Θ := fun hk => by
    have h := h.2.2.2.2.2.2.2.2.2.2.2.2.1 hk
    refine ax_mv 2 356 [some (.ref 222), some (ax_i x1), some (ax_i x2), some (ax_i x3), some (ax_i x4), some (ax_i x5), some (ax_i x6), some (ax_i (ax_wr (s1 + s0))), some (ax_i 0)] [ax_i x6, ax_i x5] rfl ?_
    refine ax_if2 (p1 := 363) (p2 := 359) ⟨_, rfl⟩ (by decide) rfl hx5 hx6 (fun hc => ?_) (fun hc => ?_)
    · have h := h.1 hc
      refine ax_mv 1 364 [some (.ref 222), some (ax_i x1), some (ax_i x2), some (ax_i x3), some (ax_i x4), some (ax_i x5), some (ax_i x6), some (ax_i (ax_wr (s1 + s0))), some (ax_i 0)] [ax_i 0] rfl ?_
      refine ax_sti (i := 0) (k := 8) (n := 2) (pc' := 366) (L' := [some (.ref 222), some (ax_i x1), some (ax_i x2), some (ax_i x3), some (ax_i x4), some (ax_i x5), some (ax_i x6), some (ax_i (ax_wr (s1 + s0))), some (ax_i 0)]) ⟨_, rfl⟩ rfl rfl rfl (Nat.le_of_ble_eq_true rfl) rfl rfl ?_
      refine ax_mv 1 518 [some (.ref 222), some (ax_i x1), some (ax_i x2), some (ax_i x3), some (ax_i x4), some (ax_i x5), some (ax_i x6), some (ax_i (ax_wr (s1 + s0))), some (ax_i 0)] [] rfl ?_
      exact h
    · have h := h.2 (Int.not_le.mp hc)
      refine ax_mv 2 364 [some (.ref 222), some (ax_i x1), some (ax_i x2), some (ax_i x3), some (ax_i x4), some (ax_i x5), some (ax_i x6), some (ax_i (ax_wr (s1 + s0))), some (ax_i 0)] [ax_i 1] rfl ?_
      refine ax_sti (i := 0) (k := 8) (n := 2) (pc' := 366) (L' := [some (.ref 222), some (ax_i x1), some (ax_i x2), some (ax_i x3), some (ax_i x4), some (ax_i x5), some (ax_i x6), some (ax_i (ax_wr (s1 + s0))), some (ax_i 1)]) ⟨_, rfl⟩ rfl rfl rfl (Nat.le_of_ble_eq_true rfl) rfl rfl ?_
      refine ax_mv 1 518 [some (.ref 222), some (ax_i x1), some (ax_i x2), some (ax_i x3), some (ax_i x4), some (ax_i x5), some (ax_i x6), some (ax_i (ax_wr (s1 + s0))), some (ax_i 1)] [] rfl ?_
      exact h
  have t13 : (V 241 x4 = 15) → ax_R ay_lay ax_t d m_Model_work 369 [some (.ref 222), some (ax_i x1), some (ax_i x2), some (ax_i x3), some (ax_i x4), some (ax_i x5), some (ax_i x6), some (ax_i (ax_wr (s1 + s0))), some (ax_i 0)] [] V (ax_Nr Φ) Θ := fun hk => by
    have h := h.2.2.2.2.2.2.2.2.2.2.2.2.2.1 hk
    refine ax_mv 2 373 [some (.ref 222), some (ax_i x1), some (ax_i x2), some (ax_i x3), some (ax_i x4), some (ax_i x5), some (ax_i x6), some (ax_i (ax_wr (s1 + s0))), some (ax_i 0)] [ax_i x6, ax_i x5] rfl ?_
    refine ax_if2 (p1 := 380) (p2 := 376) ⟨_, rfl⟩ (by decide) rfl hx5 hx6 (fun hc => ?_) (fun hc => ?_)
    · have h := h.1 hc
      refine ax_mv 1 381 [some (.ref 222), some (ax_i x1), some (ax_i x2), some (ax_i x3), some (ax_i x4), some (ax_i x5), some (ax_i x6), some (ax_i (ax_wr (s1 + s0))), some (ax_i 0)] [ax_i 0] rfl ?_
      refine ax_sti (i := 0) (k := 8) (n := 2) (pc' := 383) (L' := [some (.ref 222), some (ax_i x1), some (ax_i x2), some (ax_i x3), some (ax_i x4), some (ax_i x5), some (ax_i x6), some (ax_i (ax_wr (s1 + s0))), some (ax_i 0)]) ⟨_, rfl⟩ rfl rfl rfl (Nat.le_of_ble_eq_true rfl) rfl rfl ?_
      refine ax_mv 1 518 [some (.ref 222), some (ax_i x1), some (ax_i x2), some (ax_i x3), some (ax_i x4), some (ax_i x5), some (ax_i x6), some (ax_i (ax_wr (s1 + s0))), some (ax_i 0)] [] rfl ?_
      exact h
    · have h := h.2 (Int.not_le.mp hc)
      refine ax_mv 2 381 [some (.ref 222), some (ax_i x1), some (ax_i x2), some (ax_i x3), some (ax_i x4), some (ax_i x5), some (ax_i x6), some (ax_i (ax_wr (s1 + s0))), some (ax_i 0)] [ax_i 1] rfl ?_
      refine ax_sti (i := 0) (k := 8) (n := 2) (pc' := 383) (L' := [some (.ref 222), some (ax_i x1), some (ax_i x2), some (ax_i x3), some (ax_i x4), some (ax_i x5), some (ax_i x6), some (ax_i (ax_wr (s1 + s0))), some (ax_i 1)]) ⟨_, rfl⟩ rfl rfl rfl (Nat.le_of_ble_eq_true rfl) rfl rfl ?_
      refine ax_mv 1 518 [some (.ref 222), some (ax_i x1), some (ax_i x2), some (ax_i x3), some (ax_i x4), some (ax_i x5), some (ax_i x6), some (ax_i (ax_wr (s1 + s0))), some (ax_i 1)] [] rfl ?_
      exact h
  have t14 : (V 241 x4 = 16) → ax_R ay_lay ax_t d m_Model_work 386 [some (.ref 222), some (ax_i x1), some (ax_i x2), some (ax_i x3), some (ax_i x4), some (ax_i x5), some (ax_i x6), some (ax_i (ax_wr (s1 + s0))), some (ax_i 0)] [] V (ax_Nr Φ) Θ := fun hk => by
    have h := h.2.2.2.2.2.2.2.2.2.2.2.2.2.2.1 hk
    refine ax_mv 2 390 [some (.ref 222), some (ax_i x1), some (ax_i x2), some (ax_i x3), some (ax_i x4), some (ax_i x5), some (ax_i x6), some (ax_i (ax_wr (s1 + s0))), some (ax_i 0)] [ax_i x6, ax_i x5] rfl ?_
    refine ax_rand (pc' := 391) ⟨_, rfl⟩ rfl ?_
    refine ax_sti (i := 0) (k := 8) (n := 2) (pc' := 393) (L' := [some (.ref 222), some (ax_i x1), some (ax_i x2), some (ax_i x3), some (ax_i x4), some (ax_i x5), some (ax_i x6), some (ax_i (ax_wr (s1 + s0))), some (ax_i (ax_and x5 x6))]) ⟨_, rfl⟩ rfl rfl rfl (Nat.le_of_ble_eq_true rfl) rfl rfl ?_
    refine ax_mv 1 518 [some (.ref 222), some (ax_i x1), some (ax_i x2), some (ax_i x3), some (ax_i x4), some (ax_i x5), some (ax_i x6), some (ax_i (ax_wr (s1 + s0))), some (ax_i (ax_and x5 x6))] [] rfl ?_
    exact h
  have t15 : (V 241 x4 = 17) → ax_R ay_lay ax_t d m_Model_work 396 [some (.ref 222), some (ax_i x1), some (ax_i x2), some (ax_i x3), some (ax_i x4), some (ax_i x5), some (ax_i x6), some (ax_i (ax_wr (s1 + s0))), some (ax_i 0)] [] V (ax_Nr Φ) Θ := fun hk => by
    have h := h.2.2.2.2.2.2.2.2.2.2.2.2.2.2.2.1 hk
    refine ax_mv 2 400 [some (.ref 222), some (ax_i x1), some (ax_i x2), some (ax_i x3), some (ax_i x4), some (ax_i x5), some (ax_i x6), some (ax_i (ax_wr (s1 + s0))), some (ax_i 0)] [ax_i x6, ax_i x5] rfl ?_
    refine ax_ror (pc' := 401) ⟨_, rfl⟩ rfl ?_
    refine ax_sti (i := 0) (k := 8) (n := 2) (pc' := 403) (L' := [some (.ref 222), some (ax_i x1), some (ax_i x2), some (ax_i x3), some (ax_i x4), some (ax_i x5), some (ax_i x6), some (ax_i (ax_wr (s1 + s0))), some (ax_i (ax_or x5 x6))]) ⟨_, rfl⟩ rfl rfl rfl (Nat.le_of_ble_eq_true rfl) rfl rfl ?_
    refine ax_mv 1 518 [some (.ref 222), some (ax_i x1), some (ax_i x2), some (ax_i x3), some (ax_i x4), some (ax_i x5), some (ax_i x6), some (ax_i (ax_wr (s1 + s0))), some (ax_i (ax_or x5 x6))] [] rfl ?_
    exact h
  have t16 : (V 241 x4 = 18) → ax_R ay_lay ax_t d m_Model_work 406 [some (.ref 222), some (ax_i x1), some (ax_i x2), some (ax_i x3), some (ax_i x4), some (ax_i x5), some (ax_i x6), some (ax_i (ax_wr (s1 + s0))), some (ax_i 0)] [] V (ax_Nr Φ) Θ := fun hk => by
    have h := h.2.2.2.2.2.2.2.2.2.2.2.2.2.2.2.2.1 hk
    refine ax_mv 2 409 [some (.ref 222), some (ax_i x1), some (ax_i x2), some (ax_i x3), some (ax_i x4), some (ax_i x5), some (ax_i x6), some (ax_i (ax_wr (s1 + s0))), some (ax_i 0)] [ax_i 1, ax_i x5] rfl ?_
    refine ax_if2 (p1 := 417) (p2 := 412) ⟨_, rfl⟩ (by decide) rfl hx5 (by decide) (fun hc => ?_) (fun hc => ?_)
    · have h := h.2 hc
      refine ax_mv 3 420 [some (.ref 222), some (ax_i x1), some (ax_i x2), some (ax_i x3), some (ax_i x4), some (ax_i x5), some (ax_i x6), some (ax_i (ax_wr (s1 + s0))), some (ax_i 0)] [.ref 222, ax_i x1, .ref 222] rfl ?_
      refine ax_gR (v := .ref 247) (pc' := 423) ⟨_, rfl⟩ fl_12_83 ay_222 rfl rfl ?_
      refine ax_mv 1 425 [some (.ref 222), some (ax_i x1), some (ax_i x2), some (ax_i x3), some (ax_i x4), some (ax_i x5), some (ax_i x6), some (ax_i (ax_wr (s1 + s0))), some (ax_i 0)] [ax_i x4, .ref 247, ax_i x1, .ref 222] rfl ?_
      obtain ⟨o12, h⟩ := h
      refine ax_ild (n := 701) (pc' := 426) ⟨_, rfl⟩ ay_247 (by decide) o12 rfl ?_
      refine ax_callI (pc' := 429) ⟨_, rfl⟩ ml_12_628 (rest := []) rfl (fun ss hs => ⟨_, _, ay_222 ss hs⟩) (Nat.le_of_ble_eq_true rfl) rfl rfl h (fun r2 V2 hg2 hr2 h => ?_)
      refine ax_sti (i := 0) (k := 8) (n := 2) (pc' := 431) (L' := [some (.ref 222), some (ax_i x1), some (ax_i x2), some (ax_i x3), some (ax_i x4), some (ax_i x5), some (ax_i x6), some (ax_i (ax_wr (s1 + s0))), some (ax_i r2)]) ⟨_, rfl⟩ rfl rfl rfl (Nat.le_of_ble_eq_true rfl) rfl rfl ?_
      refine ax_mv 1 518 [some (.ref 222), some (ax_i x1), some (ax_i x2), some (ax_i x3), some (ax_i x4), some (ax_i x5), some (ax_i x6), some (ax_i (ax_wr (s1 + s0))), some (ax_i r2)] [] rfl ?_
      exact h
    · have h := h.1 (Classical.not_not.mp hc)
      refine ax_mv 2 429 [some (.ref 222), some (ax_i x1), some (ax_i x2), some (ax_i x3), some (ax_i x4), some (ax_i x5), some (ax_i x6), some (ax_i (ax_wr (s1 + s0))), some (ax_i 0)] [ax_i x6] rfl ?_
      refine ax_sti (i := 0) (k := 8) (n := 2) (pc' := 431) (L' := [some (.ref 222), some (ax_i x1), some (ax_i x2), some (ax_i x3), some (ax_i x4), some (ax_i x5), some (ax_i x6), some (ax_i (ax_wr (s1 + s0))), some (ax_i x6)]) ⟨_, rfl⟩ rfl rfl rfl (Nat.le_of_ble_eq_true rfl) rfl rfl ?_
      refine ax_mv 1 518 [some (.ref 222), some (ax_i x1), some (ax_i x2), some (ax_i x3), some (ax_i x4), some (ax_i x5), some (ax_i x6), some (ax_i (ax_wr (s1 + s0))), some (ax_i x6)] [] rfl ?_
      exact h
  have t17 : (V 241 x4 = 19) → ax_R ay_lay ax_t d m_Model_work 434 [some (.ref 222), some (ax_i x1), some (ax_i x2), some (ax_i x3), some (ax_i x4), some (ax_i x5), some (ax_i x6), some (ax_i (ax_wr (s1 + s0))), some (ax_i 0)] [] V (ax_Nr Φ) Θ := fun hk => by
    have h := h.2.2.2.2.2.2.2.2.2.2.2.2.2.2.2.2.2.1 hk
    refine ax_mv 1 435 [some (.ref 222), some (ax_i x1), some (ax_i x2), some (ax_i x3), some (ax_i x4), some (ax_i x5), some (ax_i x6), some (ax_i (ax_wr (s1 + s0))), some (ax_i 0)] [.ref 222] rfl ?_
    refine ax_gR (v := .ref 291) (pc' := 438) ⟨_, rfl⟩ fl_12_215 ay_222 rfl rfl ?_
    refine ax_mv 2 440 [some (.ref 222), some (ax_i x1), some (ax_i x2), some (ax_i x3), some (ax_i x4), some (ax_i x5), some (ax_i x6), some (ax_i (ax_wr (s1 + s0))), some (ax_i 0)] [.ref 222, ax_i x3, .ref 291] rfl ?_
    refine ax_gR (v := .ref 257) (pc' := 443) ⟨_, rfl⟩ fl_12_113 ay_222 rfl rfl ?_
    refine ax_mv 1 445 [some (.ref 222), some (ax_i x1), some (ax_i x2), some (ax_i x3), some (ax_i x4), some (ax_i x5), some (ax_i x6), some (ax_i (ax_wr (s1 + s0))), some (ax_i 0)] [ax_i x4, .ref 257, ax_i x3, .ref 291] rfl ?_
    obtain ⟨o13, h⟩ := h
    refine ax_ild (n := 701) (pc' := 446) ⟨_, rfl⟩ ay_257 (by decide) o13 rfl ?_
    refine ax_add (pc' := 447) ⟨_, rfl⟩ rfl ?_
    refine ax_wrap ?_
    obtain ⟨o14, h⟩ := h
    refine ax_ild (n := 600) (pc' := 448) ⟨_, rfl⟩ ay_291 (by decide) o14 rfl ?_
    refine ax_if (p1 := 456) (p2 := 451) ⟨_, rfl⟩ (by decide) rfl (hg _ _) (fun hc => ?_) (fun hc => ?_)
    · have h := h.2 hc
      refine ax_mv 1 458 [some (.ref 222), some (ax_i x1), some (ax_i x2), some (ax_i x3), some (ax_i x4), some (ax_i x5), some (ax_i x6), some (ax_i (ax_wr (s1 + s0))), some (ax_i 0)] [ax_i x6] rfl ?_
      exact h
    · have h := h.1 (Classical.not_not.mp hc)
      refine ax_mv 2 458 [some (.ref 222), some (ax_i x1), some (ax_i x2), some (ax_i x3), some (ax_i x4), some (ax_i x5), some (ax_i x6), some (ax_i (ax_wr (s1 + s0))), some (ax_i 0)] [ax_i x5] rfl ?_
      exact h
  have t18 : (V 241 x4 = 20) → ax_R ay_lay ax_t d m_Model_work 478 [some (.ref 222), some (ax_i x1), some (ax_i x2), some (ax_i x3), some (ax_i x4), some (ax_i x5), some (ax_i x6), some (ax_i (ax_wr (s1 + s0))), some (ax_i 0)] [] V (ax_Nr Φ) Θ := fun hk => by
    have h := h.2.2.2.2.2.2.2.2.2.2.2.2.2.2.2.2.2.2.1 hk
    refine ax_mv 1 480 [some (.ref 222), some (ax_i x1), some (ax_i x2), some (ax_i x3), some (ax_i x4), some (ax_i x5), some (ax_i x6), some (ax_i (ax_wr (s1 + s0))), some (ax_i 0)] [ax_i x5] rfl ?_
    refine ax_sti (i := 0) (k := 8) (n := 2) (pc' := 482) (L' := [some (.ref 222), some (ax_i x1), some (ax_i x2), some (ax_i x3), some (ax_i x4), some (ax_i x5), some (ax_i x6), some (ax_i (ax_wr (s1 + s0))), some (ax_i x5)]) ⟨_, rfl⟩ rfl rfl rfl (Nat.le_of_ble_eq_true rfl) rfl rfl ?_
    refine ax_mv 1 518 [some (.ref 222), some (ax_i x1), some (ax_i x2), some (ax_i x3), some (ax_i x4), some (ax_i x5), some (ax_i x6), some (ax_i (ax_wr (s1 + s0))), some (ax_i x5)] [] rfl ?_
    exact h
  have t19 : (V 241 x4 = 21) → ax_R ay_lay ax_t d m_Model_work 485 [some (.ref 222), some (ax_i x1), some (ax_i x2), some (ax_i x3), some (ax_i x4), some (ax_i x5), some (ax_i x6), some (ax_i (ax_wr (s1 + s0))), some (ax_i 0)] [] V (ax_Nr Φ) Θ := fun hk => by
    have h := h.2.2.2.2.2.2.2.2.2.2.2.2.2.2.2.2.2.2.2.1 hk
    refine ax_mv 1 486 [some (.ref 222), some (ax_i x1), some (ax_i x2), some (ax_i x3), some (ax_i x4), some (ax_i x5), some (ax_i x6), some (ax_i (ax_wr (s1 + s0))), some (ax_i 0)] [.ref 222] rfl ?_
    refine ax_gR (v := .ref 293) (pc' := 489) ⟨_, rfl⟩ fl_12_221 ay_222 rfl rfl ?_
    refine ax_mv 1 491 [some (.ref 222), some (ax_i x1), some (ax_i x2), some (ax_i x3), some (ax_i x4), some (ax_i x5), some (ax_i x6), some (ax_i (ax_wr (s1 + s0))), some (ax_i 0)] [ax_i (ax_wr (s1 + s0)), .ref 293] rfl ?_
    obtain ⟨o15, h⟩ := h
    refine ax_ild (n := 240) (pc' := 492) ⟨_, rfl⟩ ay_293 (by decide) o15 rfl ?_
    refine ax_mv 1 493 [some (.ref 222), some (ax_i x1), some (ax_i x2), some (ax_i x3), some (ax_i x4), some (ax_i x5), some (ax_i x6), some (ax_i (ax_wr (s1 + s0))), some (ax_i 0)] [ax_i 1, ax_i (V 293 (ax_wr (s1 + s0)))] rfl ?_
    refine ax_if2 (p1 := 501) (p2 := 496) ⟨_, rfl⟩ (by decide) rfl (hg _ _) (by decide) (fun hc => ?_) (fun hc => ?_)
    · have h := h.2 hc
      refine ax_mv 1 503 [some (.ref 222), some (ax_i x1), some (ax_i x2), some (ax_i x3), some (ax_i x4), some (ax_i x5), some (ax_i x6), some (ax_i (ax_wr (s1 + s0))), some (ax_i 0)] [ax_i x6] rfl ?_
      refine ax_sti (i := 0) (k := 8) (n := 2) (pc' := 505) (L' := [some (.ref 222), some (ax_i x1), some (ax_i x2), some (ax_i x3), some (ax_i x4), some (ax_i x5), some (ax_i x6), some (ax_i (ax_wr (s1 + s0))), some (ax_i x6)]) ⟨_, rfl⟩ rfl rfl rfl (Nat.le_of_ble_eq_true rfl) rfl rfl ?_
      refine ax_mv 1 518 [some (.ref 222), some (ax_i x1), some (ax_i x2), some (ax_i x3), some (ax_i x4), some (ax_i x5), some (ax_i x6), some (ax_i (ax_wr (s1 + s0))), some (ax_i x6)] [] rfl ?_
      exact h
    · have h := h.1 (Classical.not_not.mp hc)
      refine ax_mv 2 503 [some (.ref 222), some (ax_i x1), some (ax_i x2), some (ax_i x3), some (ax_i x4), some (ax_i x5), some (ax_i x6), some (ax_i (ax_wr (s1 + s0))), some (ax_i 0)] [ax_i x5] rfl ?_
      refine ax_sti (i := 0) (k := 8) (n := 2) (pc' := 505) (L' := [some (.ref 222), some (ax_i x1), some (ax_i x2), some (ax_i x3), some (ax_i x4), some (ax_i x5), some (ax_i x6), some (ax_i (ax_wr (s1 + s0))), some (ax_i x5)]) ⟨_, rfl⟩ rfl rfl rfl (Nat.le_of_ble_eq_true rfl) rfl rfl ?_
      refine ax_mv 1 518 [some (.ref 222), some (ax_i x1), some (ax_i x2), some (ax_i x3), some (ax_i x4), some (ax_i x5), some (ax_i x6), some (ax_i (ax_wr (s1 + s0))), some (ax_i x5)] [] rfl ?_
      exact h
  have tD : ¬ V 241 x4 = 0 → ¬ V 241 x4 = 1 → ¬ V 241 x4 = 2 → ¬ V 241 x4 = 3 → ¬ V 241 x4 = 4 → ¬ V 241 x4 = 5 → ¬ V 241 x4 = 6 → ¬ V 241 x4 = 7 → ¬ V 241 x4 = 8 → ¬ V 241 x4 = 9 → ¬ V 241 x4 = 10 → ¬ V 241 x4 = 11 → ¬ V 241 x4 = 12 → ¬ V 241 x4 = 13 → ¬ V 241 x4 = 14 → ¬ V 241 x4 = 15 → ¬ V 241 x4 = 16 → ¬ V 241 x4 = 17 → ¬ V 241 x4 = 18 → ¬ V 241 x4 = 19 → ¬ V 241 x4 = 20 → ¬ V 241 x4 = 21 → ax_R ay_lay ax_t d m_Model_work 508 [some (.ref 222), some (ax_i x1), some (ax_i x2), some (ax_i x3), some (ax_i x4), some (ax_i x5), some (ax_i x6), some (ax_i (ax_wr (s1 + s0))), some (ax_i 0)] [] V (ax_Nr Φ) Θ := fun n0 n1 n2 n3 n4 n5 n6 n7 n8 n9 n10 n11 n12 n13 n14 n15 n16 n17 n18 n19 n20 n21 => by
    have h := h.2.2.2.2.2.2.2.2.2.2.2.2.2.2.2.2.2.2.2.2 n0 n1 n2 n3 n4 n5 n6 n7 n8 n9 n10 n11 n12 n13 n14 n15 n16 n17 n18 n19 n20 n21
    refine ax_mv 4 513 [some (.ref 222), some (ax_i x1), some (ax_i x2), some (ax_i x3), some (ax_i x4), some (ax_i x5), some (ax_i x6), some (ax_i (ax_wr (s1 + s0))), some (ax_i 0)] [ax_i x4, ax_i x3, ax_i x1, .ref 222] rfl ?_
    refine ax_callI (pc' := 516) ⟨_, rfl⟩ ml_12_635 (rest := []) rfl (fun ss hs => ⟨_, _, ay_222 ss hs⟩) (Nat.le_of_ble_eq_true rfl) rfl rfl h (fun r3 V3 hg3 hr3 h => ?_)
    refine ax_sti (i := 0) (k := 8) (n := 2) (pc' := 518) (L' := [some (.ref 222), some (ax_i x1), some (ax_i x2), some (ax_i x3), some (ax_i x4), some (ax_i x5), some (ax_i x6), some (ax_i (ax_wr (s1 + s0))), some (ax_i r3)]) ⟨_, rfl⟩ rfl rfl rfl (Nat.le_of_ble_eq_true rfl) rfl rfl ?_
    exact h
  by_cases e0 : V 241 x4 = 0
  · exact ax_tsC (off := 101) (p1 := 184) ⟨_, rfl⟩ (hg _ _) (by omega) (by omega) (by rw [e0]; rfl) (by decide) (t0 (Or.inl e0))
  by_cases e1 : V 241 x4 = 1
  · exact ax_tsC (off := 101) (p1 := 184) ⟨_, rfl⟩ (hg _ _) (by omega) (by omega) (by rw [e1]; rfl) (by decide) (t0 (Or.inr (e1)))
  by_cases e2 : V 241 x4 = 2
  · exact ax_tsC (off := 113) (p1 := 196) ⟨_, rfl⟩ (hg _ _) (by omega) (by omega) (by rw [e2]; rfl) (by decide) (t1 (e2))
  by_cases e3 : V 241 x4 = 3
  · exact ax_tsC (off := 125) (p1 := 208) ⟨_, rfl⟩ (hg _ _) (by omega) (by omega) (by rw [e3]; rfl) (by decide) (t2 (e3))
  by_cases e4 : V 241 x4 = 4
  · exact ax_tsC (off := 154) (p1 := 237) ⟨_, rfl⟩ (hg _ _) (by omega) (by omega) (by rw [e4]; rfl) (by decide) (t3 (e4))
  by_cases e5 : V 241 x4 = 5
  · exact ax_tsC (off := 162) (p1 := 245) ⟨_, rfl⟩ (hg _ _) (by omega) (by omega) (by rw [e5]; rfl) (by decide) (t4 (e5))
  by_cases e6 : V 241 x4 = 6
  · exact ax_tsC (off := 171) (p1 := 254) ⟨_, rfl⟩ (hg _ _) (by omega) (by omega) (by rw [e6]; rfl) (by decide) (t5 (e6))
  by_cases e7 : V 241 x4 = 7
  · exact ax_tsC (off := 190) (p1 := 273) ⟨_, rfl⟩ (hg _ _) (by omega) (by omega) (by rw [e7]; rfl) (by decide) (t6 (e7))
  by_cases e8 : V 241 x4 = 8
  · exact ax_tsC (off := 200) (p1 := 283) ⟨_, rfl⟩ (hg _ _) (by omega) (by omega) (by rw [e8]; rfl) (by decide) (t7 (e8))
  by_cases e9 : V 241 x4 = 9
  · exact ax_tsC (off := 210) (p1 := 293) ⟨_, rfl⟩ (hg _ _) (by omega) (by omega) (by rw [e9]; rfl) (by decide) (t8 (e9))
  by_cases e10 : V 241 x4 = 10
  · exact ax_tsC (off := 220) (p1 := 303) ⟨_, rfl⟩ (hg _ _) (by omega) (by omega) (by rw [e10]; rfl) (by decide) (t9 (Or.inl e10))
  by_cases e11 : V 241 x4 = 11
  · exact ax_tsC (off := 220) (p1 := 303) ⟨_, rfl⟩ (hg _ _) (by omega) (by omega) (by rw [e11]; rfl) (by decide) (t9 (Or.inr (e11)))
  by_cases e12 : V 241 x4 = 12
  · exact ax_tsC (off := 235) (p1 := 318) ⟨_, rfl⟩ (hg _ _) (by omega) (by omega) (by rw [e12]; rfl) (by decide) (t10 (e12))
  by_cases e13 : V 241 x4 = 13
  · exact ax_tsC (off := 252) (p1 := 335) ⟨_, rfl⟩ (hg _ _) (by omega) (by omega) (by rw [e13]; rfl) (by decide) (t11 (e13))
  by_cases e14 : V 241 x4 = 14
  · exact ax_tsC (off := 269) (p1 := 352) ⟨_, rfl⟩ (hg _ _) (by omega) (by omega) (by rw [e14]; rfl) (by decide) (t12 (e14))
  by_cases e15 : V 241 x4 = 15
  · exact ax_tsC (off := 286) (p1 := 369) ⟨_, rfl⟩ (hg _ _) (by omega) (by omega) (by rw [e15]; rfl) (by decide) (t13 (e15))
  by_cases e16 : V 241 x4 = 16
  · exact ax_tsC (off := 303) (p1 := 386) ⟨_, rfl⟩ (hg _ _) (by omega) (by omega) (by rw [e16]; rfl) (by decide) (t14 (e16))
  by_cases e17 : V 241 x4 = 17
  · exact ax_tsC (off := 313) (p1 := 396) ⟨_, rfl⟩ (hg _ _) (by omega) (by omega) (by rw [e17]; rfl) (by decide) (t15 (e17))
  by_cases e18 : V 241 x4 = 18
  · exact ax_tsC (off := 323) (p1 := 406) ⟨_, rfl⟩ (hg _ _) (by omega) (by omega) (by rw [e18]; rfl) (by decide) (t16 (e18))
  by_cases e19 : V 241 x4 = 19
  · exact ax_tsC (off := 351) (p1 := 434) ⟨_, rfl⟩ (hg _ _) (by omega) (by omega) (by rw [e19]; rfl) (by decide) (t17 (e19))
  by_cases e20 : V 241 x4 = 20
  · exact ax_tsC (off := 395) (p1 := 478) ⟨_, rfl⟩ (hg _ _) (by omega) (by omega) (by rw [e20]; rfl) (by decide) (t18 (e20))
  by_cases e21 : V 241 x4 = 21
  · exact ax_tsC (off := 402) (p1 := 485) ⟨_, rfl⟩ (hg _ _) (by omega) (by omega) (by rw [e21]; rfl) (by decide) (t19 (e21))
  exact ax_tsD (p1 := 508) ⟨_, rfl⟩ (hg _ _) (by omega) (by decide) (tD e0 e1 e2 e3 e4 e5 e6 e7 e8 e9 e10 e11 e12 e13 e14 e15 e16 e17 e18 e19 e20 e21)
set_option maxRecDepth 20000 in set_option maxHeartbeats 8000000 in
theorem r_Model_work_458 {d : Nat} {V : ax_V} {Φ : ax_V → Prop} {Θ : ax_V → Prop} {x1 : Int} {y2 : Option Value} {x3 : Int} {x4 : Int} {y5 : Option Value} {y6 : Option Value} {y7 : Option Value} {y8 : Option Value} {s0 : Int} (hg : ax_g V) (hx1 : ax_rg x1) (hy2 : ax_y y2) (hx3 : ax_rg x3) (hx4 : ax_rg x4) (hy5 : ax_y y5) (hy6 : ax_y y6) (hy7 : ax_y y7) (hy8 : ax_y y8) (hs0 : ax_rg s0) (h : (0 ≤ x4 ∧ x4 < 701) ∧ (0 ≤ ax_wr (x3 + (V 257 x4)) ∧ ax_wr (x3 + (V 257 x4)) < 600) ∧ (∀ V1, V1 = ax_u V 292 (ax_wr (x3 + (V 257 x4))) 1 → k_Model_work_518 d x1 y2 (some (ax_i x3)) x4 y5 y6 y7 s0 V1 Φ Θ)) : k_Model_work_458 d x1 y2 x3 x4 y5 y6 y7 y8 s0 V Φ Θ := by
  refine ax_sti (i := 0) (k := 8) (n := 2) (pc' := 460) (L' := [some (.ref 222), some (ax_i x1), y2, some (ax_i x3), some (ax_i x4), y5, y6, y7, some (ax_i s0)]) ⟨_, rfl⟩ rfl rfl (ax_kill_y (k := 7) rfl hy7) (Nat.le_of_ble_eq_true rfl) rfl rfl ?_
  refine ax_mv 1 461 [some (.ref 222), some (ax_i x1), y2, some (ax_i x3), some (ax_i x4), y5, y6, y7, some (ax_i s0)] [.ref 222] rfl ?_
  refine ax_gR (v := .ref 292) (pc' := 464) ⟨_, rfl⟩ fl_12_218 ay_222 rfl rfl ?_
  refine ax_mv 2 466 [some (.ref 222), some (ax_i x1), y2, some (ax_i x3), some (ax_i x4), y5, y6, y7, some (ax_i s0)] [.ref 222, ax_i x3, .ref 292] rfl ?_
  refine ax_gR (v := .ref 257) (pc' := 469) ⟨_, rfl⟩ fl_12_113 ay_222 rfl rfl ?_
  refine ax_mv 1 471 [some (.ref 222), some (ax_i x1), y2, some (ax_i x3), some (ax_i x4), y5, y6, y7, some (ax_i s0)] [ax_i x4, .ref 257, ax_i x3, .ref 292] rfl ?_
  obtain ⟨o16, h⟩ := h
  refine ax_ild (n := 701) (pc' := 472) ⟨_, rfl⟩ ay_257 (by decide) o16 rfl ?_
  refine ax_add (pc' := 473) ⟨_, rfl⟩ rfl ?_
  refine ax_wrap ?_
  refine ax_mv 1 474 [some (.ref 222), some (ax_i x1), y2, some (ax_i x3), some (ax_i x4), y5, y6, y7, some (ax_i s0)] [ax_i 1, ax_i (ax_wr (x3 + (V 257 x4))), .ref 292] rfl ?_
  obtain ⟨o17, h⟩ := h
  obtain ⟨V1, eV1⟩ : ∃ W9 : ax_V, W9 = ax_u V 292 (ax_wr (x3 + (V 257 x4))) 1 := ⟨_, rfl⟩
  have h := h V1 eV1
  have hg1 : ax_g V1 := eV1 ▸ ax_u_g hg (by decide)
  refine ax_ist (n := 600) (pc' := 475) ⟨_, rfl⟩ ay_ok ay_292 (by decide) o17 eV1 rfl ?_
  refine ax_mv 1 518 [some (.ref 222), some (ax_i x1), y2, some (ax_i x3), some (ax_i x4), y5, y6, y7, some (ax_i s0)] [] rfl ?_
  exact h
set_option maxRecDepth 20000 in set_option maxHeartbeats 8000000 in
theorem r_Model_work_518 {d : Nat} {V : ax_V} {Φ : ax_V → Prop} {Θ : ax_V → Prop} {x1 : Int} {y2 : Option Value} {y3 : Option Value} {x4 : Int} {y5 : Option Value} {y6 : Option Value} {y7 : Option Value} {x8 : Int} (hg : ax_g V) (hx1 : ax_rg x1) (hy2 : ax_y y2) (hy3 : ax_y y3) (hx4 : ax_rg x4) (hy5 : ax_y y5) (hy6 : ax_y y6) (hy7 : ax_y y7) (hx8 : ax_rg x8) (h : (0 ≤ ax_wr ((ax_wr (701 * x1)) + x4) ∧ ax_wr ((ax_wr (701 * x1)) + x4) < 6309) ∧ (∀ V1, V1 = ax_u V 296 (ax_wr ((ax_wr (701 * x1)) + x4)) x8 → Φ V1)) : k_Model_work_518 d x1 y2 y3 x4 y5 y6 y7 x8 V Φ Θ := by
  refine ax_mv 1 519 [some (.ref 222), some (ax_i x1), y2, y3, some (ax_i x4), y5, y6, y7, some (ax_i x8)] [.ref 222] rfl ?_
  refine ax_gR (v := .ref 296) (pc' := 522) ⟨_, rfl⟩ fl_12_230 ay_222 rfl rfl ?_
  refine ax_sip (pc' := 525) ⟨_, rfl⟩ (by decide) rfl ?_
  refine ax_mv 1 526 [some (.ref 222), some (ax_i x1), y2, y3, some (ax_i x4), y5, y6, y7, some (ax_i x8)] [ax_i x1, ax_i 701, .ref 296] rfl ?_
  refine ax_mul (pc' := 527) ⟨_, rfl⟩ rfl ?_
  refine ax_wrap ?_
  refine ax_mv 1 529 [some (.ref 222), some (ax_i x1), y2, y3, some (ax_i x4), y5, y6, y7, some (ax_i x8)] [ax_i x4, ax_i (ax_wr (701 * x1)), .ref 296] rfl ?_
  refine ax_add (pc' := 530) ⟨_, rfl⟩ rfl ?_
  refine ax_wrap ?_
  refine ax_mv 1 532 [some (.ref 222), some (ax_i x1), y2, y3, some (ax_i x4), y5, y6, y7, some (ax_i x8)] [ax_i x8, ax_i (ax_wr ((ax_wr (701 * x1)) + x4)), .ref 296] rfl ?_
  obtain ⟨o18, h⟩ := h
  obtain ⟨V1, eV1⟩ : ∃ W9 : ax_V, W9 = ax_u V 296 (ax_wr ((ax_wr (701 * x1)) + x4)) x8 := ⟨_, rfl⟩
  have h := h V1 eV1
  have hg1 : ax_g V1 := eV1 ▸ ax_u_g hg hx8
  refine ax_ist (n := 6309) (pc' := 533) ⟨_, rfl⟩ ay_ok ay_296 (by decide) o18 eV1 rfl ?_
  exact ax_nret ⟨_, rfl⟩ rfl hg1 h
set_option maxRecDepth 20000 in set_option maxHeartbeats 8000000 in
theorem r_Model_work {d : Nat} {V : ax_V} {Φ : ax_V → Prop} {Θ : ax_V → Prop} {x1 : Int} {x2 : Int} {x3 : Int} {x4 : Int} (hg : ax_g V) (hx1 : ax_rg x1) (hx2 : ax_rg x2) (hx3 : ax_rg x3) (hx4 : ax_rg x4) (h : (0 ≤ x4 ∧ x4 < 701) ∧ ((V 241 x4 = 22 → k_Model_work_28 d x1 x2 x3 x4 none none none none 0 V Φ Θ) ∧ (¬ V 241 x4 = 22 → (0 ≤ x4 ∧ x4 < 701) ∧ ax_I ay_lay d q_Model_valueAt [.ref 222, ax_i x1, ax_i (V 245 x4)] V (fun r1 V1 => k_Model_work_28 d x1 x2 x3 x4 none none none none r1 V1 Φ Θ) Θ))) : ax_N ay_lay (d + 1) q_Model_work [.ref 222, ax_i x1, ax_i x2, ax_i x3, ax_i x4] V Φ Θ := by
  refine ax_T.of (M := m_Model_work) rfl (Nat.le_of_ble_eq_true rfl) ?_
  refine ax_mv 0 0 [some (.ref 222), some (ax_i x1), some (ax_i x2), some (ax_i x3), some (ax_i x4), none, none, none, none] [] rfl ?_
  refine ax_mv 1 1 [some (.ref 222), some (ax_i x1), some (ax_i x2), some (ax_i x3), some (ax_i x4), none, none, none, none] [.ref 222] rfl ?_
  refine ax_gR (v := .ref 241) (pc' := 4) ⟨_, rfl⟩ fl_12_65 ay_222 rfl rfl ?_
  refine ax_mv 1 6 [some (.ref 222), some (ax_i x1), some (ax_i x2), some (ax_i x3), some (ax_i x4), none, none, none, none] [ax_i x4, .ref 241] rfl ?_
  obtain ⟨o19, h⟩ := h
  refine ax_ild (n := 701) (pc' := 7) ⟨_, rfl⟩ ay_241 (by decide) o19 rfl ?_
  refine ax_bip (pc' := 9) ⟨_, rfl⟩ (by decide) rfl ?_
  refine ax_if2 (p1 := 16) (p2 := 12) ⟨_, rfl⟩ (by decide) rfl (hg _ _) (by decide) (fun hc => ?_) (fun hc => ?_)
  · have h := h.2 hc
    refine ax_mv 3 19 [some (.ref 222), some (ax_i x1), some (ax_i x2), some (ax_i x3), some (ax_i x4), none, none, none, none] [.ref 222, ax_i x1, .ref 222] rfl ?_
    refine ax_gR (v := .ref 245) (pc' := 22) ⟨_, rfl⟩ fl_12_77 ay_222 rfl rfl ?_
    refine ax_mv 1 24 [some (.ref 222), some (ax_i x1), some (ax_i x2), some (ax_i x3), some (ax_i x4), none, none, none, none] [ax_i x4, .ref 245, ax_i x1, .ref 222] rfl ?_
    obtain ⟨o20, h⟩ := h
    refine ax_ild (n := 701) (pc' := 25) ⟨_, rfl⟩ ay_245 (by decide) o20 rfl ?_
    refine ax_callI (pc' := 28) ⟨_, rfl⟩ ml_12_628 (rest := []) rfl (fun ss hs => ⟨_, _, ay_222 ss hs⟩) (Nat.le_of_ble_eq_true rfl) rfl rfl h (fun r1 V1 hg1 hr1 h => ?_)
    exact h
  · have h := h.1 (Classical.not_not.mp hc)
    refine ax_mv 2 28 [some (.ref 222), some (ax_i x1), some (ax_i x2), some (ax_i x3), some (ax_i x4), none, none, none, none] [ax_i 0] rfl ?_
    exact h
theorem r_Model_valueAt {d : Nat} {V : ax_V} {Φ : Int → ax_V → Prop} {Θ : ax_V → Prop} {x1 : Int} {x2 : Int} (hg : ax_g V) (hx1 : ax_rg x1) (hx2 : ax_rg x2) (h : ((x2 = -1 → Φ 0 V) ∧ (¬ x2 = -1 → (0 ≤ (701 * x1) + x2 ∧ (701 * x1) + x2 < 6309) ∧ Φ (V 296 ((701 * x1) + x2)) V))) : ax_I ay_lay (d + 1) q_Model_valueAt [.ref 222, ax_i x1, ax_i x2] V Φ Θ := by
  refine ax_T.of (M := m_Model_valueAt) rfl (Nat.le_of_ble_eq_true rfl) ?_
  refine ax_mv 0 0 [some (.ref 222), some (ax_i x1), some (ax_i x2)] [] rfl ?_
  refine ax_mv 2 2 [some (.ref 222), some (ax_i x1), some (ax_i x2)] [ax_i (-1), ax_i x2] rfl ?_
  refine ax_if2 (p1 := 9) (p2 := 5) ⟨_, rfl⟩ (by decide) rfl hx2 (by decide) (fun hc => ?_) (fun hc => ?_)
  · have h := h.2 hc
    refine ax_mv 1 10 [some (.ref 222), some (ax_i x1), some (ax_i x2)] [.ref 222] rfl ?_
    refine ax_gR (v := .ref 296) (pc' := 13) ⟨_, rfl⟩ fl_12_230 ay_222 rfl rfl ?_
    refine ax_sip (pc' := 16) ⟨_, rfl⟩ (by decide) rfl ?_
    refine ax_mv 1 17 [some (.ref 222), some (ax_i x1), some (ax_i x2)] [ax_i x1, ax_i 701, .ref 296] rfl ?_
    refine ax_mul (pc' := 18) ⟨_, rfl⟩ rfl ?_
    refine ax_mv 1 19 [some (.ref 222), some (ax_i x1), some (ax_i x2)] [ax_i x2, ax_i (701 * x1), .ref 296] rfl ?_
    refine ax_add (pc' := 20) ⟨_, rfl⟩ rfl ?_
    obtain ⟨o1, h⟩ := h
    refine ax_ild (n := 6309) (pc' := 21) ⟨_, rfl⟩ ay_296 (by decide) o1 rfl ?_
    exact ax_iret ⟨_, rfl⟩ rfl rfl (hg _ _) hg h
  · have h := h.1 (Classical.not_not.mp hc)
    refine ax_mv 2 21 [some (.ref 222), some (ax_i x1), some (ax_i x2)] [ax_i 0] rfl ?_
    exact ax_iret ⟨_, rfl⟩ rfl rfl (by decide) hg h
theorem r_Model_divided {d : Nat} {V : ax_V} {Φ : Int → ax_V → Prop} {Θ : ax_V → Prop} {x1 : Int} {x2 : Int} {x3 : Int} (hg : ax_g V) (hx1 : ax_rg x1) (hx2 : ax_rg x2) (hx3 : ax_rg x3) (h : ((x3 = 0 → ax_N ay_lay d q_Model_fail [.ref 222, ax_i x1] V (fun V1 => Φ 0 V1) Θ) ∧ (¬ x3 = 0 → (0 ≤ x1 ∧ x1 < 701) ∧ ((V 241 x1 = 10 → ¬ x3 = 0 ∧ Φ (ax_div x2 x3) V) ∧ (¬ V 241 x1 = 10 → ¬ x3 = 0 ∧ Φ (ax_rem x2 x3) V))))) : ax_I ay_lay (d + 1) q_Model_divided [.ref 222, ax_i x1, ax_i x2, ax_i x3] V Φ Θ := by
  refine ax_T.of (M := m_Model_divided) rfl (Nat.le_of_ble_eq_true rfl) ?_
  refine ax_mv 0 0 [some (.ref 222), some (ax_i x1), some (ax_i x2), some (ax_i x3)] [] rfl ?_
  refine ax_mv 1 1 [some (.ref 222), some (ax_i x1), some (ax_i x2), some (ax_i x3)] [ax_i x3] rfl ?_
  refine ax_if (p1 := 11) (p2 := 4) ⟨_, rfl⟩ (by decide) rfl hx3 (fun hc => ?_) (fun hc => ?_)
  · have h := h.2 hc
    refine ax_mv 1 12 [some (.ref 222), some (ax_i x1), some (ax_i x2), some (ax_i x3)] [.ref 222] rfl ?_
    refine ax_gR (v := .ref 241) (pc' := 15) ⟨_, rfl⟩ fl_12_65 ay_222 rfl rfl ?_
    refine ax_mv 1 16 [some (.ref 222), some (ax_i x1), some (ax_i x2), some (ax_i x3)] [ax_i x1, .ref 241] rfl ?_
    obtain ⟨o1, h⟩ := h
    refine ax_ild (n := 701) (pc' := 17) ⟨_, rfl⟩ ay_241 (by decide) o1 rfl ?_
    refine ax_bip (pc' := 19) ⟨_, rfl⟩ (by decide) rfl ?_
    refine ax_if2 (p1 := 28) (p2 := 22) ⟨_, rfl⟩ (by decide) rfl (hg _ _) (by decide) (fun hc => ?_) (fun hc => ?_)
    · have h := h.2 hc
      refine ax_mv 2 30 [some (.ref 222), some (ax_i x1), some (ax_i x2), some (ax_i x3)] [ax_i x3, ax_i x2] rfl ?_
      obtain ⟨o2, h⟩ := h
      refine ax_rrem (pc' := 31) ⟨_, rfl⟩ hx3 o2 rfl ?_
      exact ax_iret ⟨_, rfl⟩ rfl rfl (ax_rg_of _) hg h
    · have h := h.1 (Classical.not_not.mp hc)
      refine ax_mv 2 24 [some (.ref 222), some (ax_i x1), some (ax_i x2), some (ax_i x3)] [ax_i x3, ax_i x2] rfl ?_
      obtain ⟨o3, h⟩ := h
      refine ax_rdiv (pc' := 25) ⟨_, rfl⟩ hx3 o3 rfl ?_
      refine ax_mv 1 31 [some (.ref 222), some (ax_i x1), some (ax_i x2), some (ax_i x3)] [ax_i (ax_div x2 x3)] rfl ?_
      exact ax_iret ⟨_, rfl⟩ rfl rfl (ax_rg_of _) hg h
  · have h := h.1 (Classical.not_not.mp hc)
    refine ax_mv 2 6 [some (.ref 222), some (ax_i x1), some (ax_i x2), some (ax_i x3)] [ax_i x1, .ref 222] rfl ?_
    refine ax_callN (pc' := 9) ⟨_, rfl⟩ ml_12_625 (rest := []) rfl (fun ss hs => ⟨_, _, ay_222 ss hs⟩) (Nat.le_of_ble_eq_true rfl) rfl rfl h (fun V1 hg1 h => ?_)
    refine ax_mv 1 10 [some (.ref 222), some (ax_i x1), some (ax_i x2), some (ax_i x3)] [ax_i 0] rfl ?_
    exact ax_iret ⟨_, rfl⟩ rfl rfl (by decide) hg1 h
theorem r_Model_fail {d : Nat} {V : ax_V} {Φ : ax_V → Prop} {Θ : ax_V → Prop} {x1 : Int} (hg : ax_g V) (hx1 : ax_rg x1) (h : ((V 222 101 = -1 → (0 ≤ x1 ∧ x1 < 701) ∧ (∀ V1, V1 = ax_u V 222 101 (V 243 x1) → Φ V1)) ∧ (¬ V 222 101 = -1 → (0 ≤ x1 ∧ x1 < 701) ∧ ((V 222 101 ≤ V 243 x1 → (∀ V2, V2 = ax_u V 222 101 (V 222 101) → Φ V2)) ∧ (V 243 x1 < V 222 101 → (0 ≤ x1 ∧ x1 < 701) ∧ (∀ V3, V3 = ax_u V 222 101 (V 243 x1) → Φ V3)))))) : ax_N ay_lay (d + 1) q_Model_fail [.ref 222, ax_i x1] V Φ Θ := by
  refine ax_T.of (M := m_Model_fail) rfl (Nat.le_of_ble_eq_true rfl) ?_
  refine ax_mv 0 0 [some (.ref 222), some (ax_i x1)] [] rfl ?_
  refine ax_mv 2 2 [some (.ref 222), some (ax_i x1)] [.ref 222, .ref 222] rfl ?_
  refine ax_gI (kI := 101) (pc' := 5) ⟨_, rfl⟩ fl_12_622 ay_222 rfl rfl rfl ?_
  refine ax_mv 1 6 [some (.ref 222), some (ax_i x1)] [ax_i (-1), ax_i (V 222 101), .ref 222] rfl ?_
  refine ax_if2 (p1 := 22) (p2 := 9) ⟨_, rfl⟩ (by decide) rfl (hg _ _) (by decide) (fun hc => ?_) (fun hc => ?_)
  · have h := h.1 hc
    refine ax_mv 1 23 [some (.ref 222), some (ax_i x1)] [.ref 222, .ref 222] rfl ?_
    refine ax_gR (v := .ref 243) (pc' := 26) ⟨_, rfl⟩ fl_12_71 ay_222 rfl rfl ?_
    refine ax_mv 1 27 [some (.ref 222), some (ax_i x1)] [ax_i x1, .ref 243, .ref 222] rfl ?_
    obtain ⟨o1, h⟩ := h
    refine ax_ild (n := 701) (pc' := 28) ⟨_, rfl⟩ ay_243 (by decide) o1 rfl ?_
    refine ax_mv 1 35 [some (.ref 222), some (ax_i x1)] [ax_i (V 243 x1), .ref 222] rfl ?_
    obtain ⟨V1, eV1⟩ : ∃ W9 : ax_V, W9 = ax_u V 222 101 (V 243 x1) := ⟨_, rfl⟩
    have h := h V1 eV1
    have hg1 : ax_g V1 := eV1 ▸ ax_u_g hg (hg _ _)
    refine ax_pI (kI := 101) (pc' := 38) ⟨_, rfl⟩ fl_12_622 ay_ok ay_222 rfl rfl rfl rfl eV1 rfl ?_
    exact ax_nret ⟨_, rfl⟩ rfl hg1 h
  · have h := h.2 hc
    refine ax_mv 1 10 [some (.ref 222), some (ax_i x1)] [.ref 222, .ref 222] rfl ?_
    refine ax_gR (v := .ref 243) (pc' := 13) ⟨_, rfl⟩ fl_12_71 ay_222 rfl rfl ?_
    refine ax_mv 1 14 [some (.ref 222), some (ax_i x1)] [ax_i x1, .ref 243, .ref 222] rfl ?_
    obtain ⟨o2, h⟩ := h
    refine ax_ild (n := 701) (pc' := 15) ⟨_, rfl⟩ ay_243 (by decide) o2 rfl ?_
    refine ax_mv 1 16 [some (.ref 222), some (ax_i x1)] [.ref 222, ax_i (V 243 x1), .ref 222] rfl ?_
    refine ax_gI (kI := 101) (pc' := 19) ⟨_, rfl⟩ fl_12_622 ay_222 rfl rfl rfl ?_
    refine ax_if2 (p1 := 31) (p2 := 22) ⟨_, rfl⟩ (by decide) rfl (hg _ _) (hg _ _) (fun hc => ?_) (fun hc => ?_)
    · have h := h.1 hc
      refine ax_mv 1 32 [some (.ref 222), some (ax_i x1)] [.ref 222, .ref 222] rfl ?_
      refine ax_gI (kI := 101) (pc' := 35) ⟨_, rfl⟩ fl_12_622 ay_222 rfl rfl rfl ?_
      obtain ⟨V2, eV2⟩ : ∃ W9 : ax_V, W9 = ax_u V 222 101 (V 222 101) := ⟨_, rfl⟩
      have h := h V2 eV2
      have hg2 : ax_g V2 := eV2 ▸ ax_u_g hg (hg _ _)
      refine ax_pI (kI := 101) (pc' := 38) ⟨_, rfl⟩ fl_12_622 ay_ok ay_222 rfl rfl rfl rfl eV2 rfl ?_
      exact ax_nret ⟨_, rfl⟩ rfl hg2 h
    · have h := h.2 (Int.not_le.mp hc)
      refine ax_mv 1 23 [some (.ref 222), some (ax_i x1)] [.ref 222, .ref 222] rfl ?_
      refine ax_gR (v := .ref 243) (pc' := 26) ⟨_, rfl⟩ fl_12_71 ay_222 rfl rfl ?_
      refine ax_mv 1 27 [some (.ref 222), some (ax_i x1)] [ax_i x1, .ref 243, .ref 222] rfl ?_
      obtain ⟨o3, h⟩ := h
      refine ax_ild (n := 701) (pc' := 28) ⟨_, rfl⟩ ay_243 (by decide) o3 rfl ?_
      refine ax_mv 1 35 [some (.ref 222), some (ax_i x1)] [ax_i (V 243 x1), .ref 222] rfl ?_
      obtain ⟨V3, eV3⟩ : ∃ W9 : ax_V, W9 = ax_u V 222 101 (V 243 x1) := ⟨_, rfl⟩
      have h := h V3 eV3
      have hg3 : ax_g V3 := eV3 ▸ ax_u_g hg (hg _ _)
      refine ax_pI (kI := 101) (pc' := 38) ⟨_, rfl⟩ fl_12_622 ay_ok ay_222 rfl rfl rfl rfl eV3 rfl ?_
      exact ax_nret ⟨_, rfl⟩ rfl hg3 h
abbrev k_Model_call_56 (d : Nat) (x1 : Int) (x2 : Int) (x3 : Int) (x4 : Int) (x5 : Int) (x6 : Int) (V : ax_V) (Φ : Int → ax_V → Prop) (Θ : ax_V → Prop) : Prop := ax_R ay_lay ax_t d m_Model_call 56 [some (.ref 222), some (ax_i x1), some (ax_i x2), some (ax_i x3), some (ax_i x4), some (ax_i x5), some (ax_i x6)] [] V (ax_Ir Φ) Θ
set_option maxRecDepth 20000 in
theorem r_Model_call_56 {d : Nat} {V : ax_V} {Φ : Int → ax_V → Prop} {Θ : ax_V → Prop} {x1 : Int} {x2 : Int} {x3 : Int} {x4 : Int} {x5 : Int} {x6 : Int} (hg : ax_g V) (hx1 : ax_rg x1) (hx2 : ax_rg x2) (hx3 : ax_rg x3) (hx4 : ax_rg x4) (hx5 : ax_rg x5) (hx6 : ax_rg x6) (h : ((x6 = -1 → (0 ≤ x3 ∧ x3 < 701) ∧ ax_N ay_lay d q_Model_tickNode [.ref 222, ax_i (x1 + 1), ax_i x4, ax_i (x2 + (V 257 x3))] V (fun V1 => (0 ≤ 26 * x4 ∧ 26 * x4 < 240) ∧ (0 ≤ (26 * (x1 + 1)) + (V1 231 (26 * x4)) ∧ (26 * (x1 + 1)) + (V1 231 (26 * x4)) < 240) ∧ Φ (V1 293 ((26 * (x1 + 1)) + (V1 231 (26 * x4)))) V1) Θ) ∧ (¬ x6 = -1 → (0 ≤ (26 * x4) + x5 ∧ (26 * x4) + x5 < 240) ∧ ax_I ay_lay d q_Model_valueAt [.ref 222, ax_i x1, ax_i x6] V (fun r2 V2 => (0 ≤ (26 * (x1 + 1)) + (V 230 ((26 * x4) + x5)) ∧ (26 * (x1 + 1)) + (V 230 ((26 * x4) + x5)) < 240) ∧ (∀ V3, V3 = ax_u V2 293 ((26 * (x1 + 1)) + (V 230 ((26 * x4) + x5))) r2 → (0 ≤ x6 ∧ x6 < 701) ∧ k_Model_call_56 d x1 x2 x3 x4 (x5 + 1) (V3 252 x6) V3 Φ Θ)) Θ))) : k_Model_call_56 d x1 x2 x3 x4 x5 x6 V Φ Θ := by
  refine ax_mv 2 59 [some (.ref 222), some (ax_i x1), some (ax_i x2), some (ax_i x3), some (ax_i x4), some (ax_i x5), some (ax_i x6)] [ax_i (-1), ax_i x6] rfl ?_
  refine ax_if2 (p1 := 109) (p2 := 62) ⟨_, rfl⟩ (by decide) rfl hx6 (by decide) (fun hc => ?_) (fun hc => ?_)
  · have h := h.1 hc
    refine ax_mv 3 112 [some (.ref 222), some (ax_i x1), some (ax_i x2), some (ax_i x3), some (ax_i x4), some (ax_i x5), some (ax_i x6)] [ax_i 1, ax_i x1, .ref 222] rfl ?_
    refine ax_add (pc' := 113) ⟨_, rfl⟩ rfl ?_
    refine ax_mv 3 117 [some (.ref 222), some (ax_i x1), some (ax_i x2), some (ax_i x3), some (ax_i x4), some (ax_i x5), some (ax_i x6)] [.ref 222, ax_i x2, ax_i x4, ax_i (x1 + 1), .ref 222] rfl ?_
    refine ax_gR (v := .ref 257) (pc' := 120) ⟨_, rfl⟩ fl_12_113 ay_222 rfl rfl ?_
    refine ax_mv 1 121 [some (.ref 222), some (ax_i x1), some (ax_i x2), some (ax_i x3), some (ax_i x4), some (ax_i x5), some (ax_i x6)] [ax_i x3, .ref 257, ax_i x2, ax_i x4, ax_i (x1 + 1), .ref 222] rfl ?_
    obtain ⟨o1, h⟩ := h
    refine ax_ild (n := 701) (pc' := 122) ⟨_, rfl⟩ ay_257 (by decide) o1 rfl ?_
    refine ax_add (pc' := 123) ⟨_, rfl⟩ rfl ?_
    refine ax_callN (pc' := 126) ⟨_, rfl⟩ ml_12_642 (rest := []) rfl (fun ss hs => ⟨_, _, ay_222 ss hs⟩) (Nat.le_of_ble_eq_true rfl) rfl rfl h (fun V1 hg1 h => ?_)
    refine ax_mv 1 127 [some (.ref 222), some (ax_i x1), some (ax_i x2), some (ax_i x3), some (ax_i x4), some (ax_i x5), some (ax_i x6)] [.ref 222] rfl ?_
    refine ax_gR (v := .ref 293) (pc' := 130) ⟨_, rfl⟩ fl_12_221 ay_222 rfl rfl ?_
    refine ax_bip (pc' := 132) ⟨_, rfl⟩ (by decide) rfl ?_
    refine ax_mv 2 134 [some (.ref 222), some (ax_i x1), some (ax_i x2), some (ax_i x3), some (ax_i x4), some (ax_i x5), some (ax_i x6)] [ax_i 1, ax_i x1, ax_i 26, .ref 293] rfl ?_
    refine ax_add (pc' := 135) ⟨_, rfl⟩ rfl ?_
    refine ax_mul (pc' := 136) ⟨_, rfl⟩ rfl ?_
    refine ax_mv 1 137 [some (.ref 222), some (ax_i x1), some (ax_i x2), some (ax_i x3), some (ax_i x4), some (ax_i x5), some (ax_i x6)] [.ref 222, ax_i (26 * (x1 + 1)), .ref 293] rfl ?_
    refine ax_gR (v := .ref 231) (pc' := 140) ⟨_, rfl⟩ fl_12_34 ay_222 rfl rfl ?_
    refine ax_bip (pc' := 142) ⟨_, rfl⟩ (by decide) rfl ?_
    refine ax_mv 1 144 [some (.ref 222), some (ax_i x1), some (ax_i x2), some (ax_i x3), some (ax_i x4), some (ax_i x5), some (ax_i x6)] [ax_i x4, ax_i 26, .ref 231, ax_i (26 * (x1 + 1)), .ref 293] rfl ?_
    refine ax_mul (pc' := 145) ⟨_, rfl⟩ rfl ?_
    obtain ⟨o2, h⟩ := h
    refine ax_ild (n := 240) (pc' := 146) ⟨_, rfl⟩ ay_231 (by decide) o2 rfl ?_
    refine ax_add (pc' := 147) ⟨_, rfl⟩ rfl ?_
    obtain ⟨o3, h⟩ := h
    refine ax_ild (n := 240) (pc' := 148) ⟨_, rfl⟩ ay_293 (by decide) o3 rfl ?_
    exact ax_iret ⟨_, rfl⟩ rfl rfl (hg1 _ _) hg1 h
  · have h := h.2 hc
    refine ax_mv 1 63 [some (.ref 222), some (ax_i x1), some (ax_i x2), some (ax_i x3), some (ax_i x4), some (ax_i x5), some (ax_i x6)] [.ref 222] rfl ?_
    refine ax_gR (v := .ref 293) (pc' := 66) ⟨_, rfl⟩ fl_12_221 ay_222 rfl rfl ?_
    refine ax_bip (pc' := 68) ⟨_, rfl⟩ (by decide) rfl ?_
    refine ax_mv 2 70 [some (.ref 222), some (ax_i x1), some (ax_i x2), some (ax_i x3), some (ax_i x4), some (ax_i x5), some (ax_i x6)] [ax_i 1, ax_i x1, ax_i 26, .ref 293] rfl ?_
    refine ax_add (pc' := 71) ⟨_, rfl⟩ rfl ?_
    refine ax_mul (pc' := 72) ⟨_, rfl⟩ rfl ?_
    refine ax_mv 1 73 [some (.ref 222), some (ax_i x1), some (ax_i x2), some (ax_i x3), some (ax_i x4), some (ax_i x5), some (ax_i x6)] [.ref 222, ax_i (26 * (x1 + 1)), .ref 293] rfl ?_
    refine ax_gR (v := .ref 230) (pc' := 76) ⟨_, rfl⟩ fl_12_31 ay_222 rfl rfl ?_
    refine ax_bip (pc' := 78) ⟨_, rfl⟩ (by decide) rfl ?_
    refine ax_mv 1 80 [some (.ref 222), some (ax_i x1), some (ax_i x2), some (ax_i x3), some (ax_i x4), some (ax_i x5), some (ax_i x6)] [ax_i x4, ax_i 26, .ref 230, ax_i (26 * (x1 + 1)), .ref 293] rfl ?_
    refine ax_mul (pc' := 81) ⟨_, rfl⟩ rfl ?_
    refine ax_mv 1 83 [some (.ref 222), some (ax_i x1), some (ax_i x2), some (ax_i x3), some (ax_i x4), some (ax_i x5), some (ax_i x6)] [ax_i x5, ax_i (26 * x4), .ref 230, ax_i (26 * (x1 + 1)), .ref 293] rfl ?_
    refine ax_add (pc' := 84) ⟨_, rfl⟩ rfl ?_
    obtain ⟨o4, h⟩ := h
    refine ax_ild (n := 240) (pc' := 85) ⟨_, rfl⟩ ay_230 (by decide) o4 rfl ?_
    refine ax_add (pc' := 86) ⟨_, rfl⟩ rfl ?_
    refine ax_mv 3 90 [some (.ref 222), some (ax_i x1), some (ax_i x2), some (ax_i x3), some (ax_i x4), some (ax_i x5), some (ax_i x6)] [ax_i x6, ax_i x1, .ref 222, ax_i ((26 * (x1 + 1)) + (V 230 ((26 * x4) + x5))), .ref 293] rfl ?_
    refine ax_callI (pc' := 93) ⟨_, rfl⟩ ml_12_628 (rest := [ax_i ((26 * (x1 + 1)) + (V 230 ((26 * x4) + x5))), .ref 293]) rfl (fun ss hs => ⟨_, _, ay_222 ss hs⟩) (Nat.le_of_ble_eq_true rfl) rfl rfl h (fun r2 V2 hg2 hr2 h => ?_)
    obtain ⟨o5, h⟩ := h
    obtain ⟨V3, eV3⟩ : ∃ W9 : ax_V, W9 = ax_u V2 293 ((26 * (x1 + 1)) + (V 230 ((26 * x4) + x5))) r2 := ⟨_, rfl⟩
    have h := h V3 eV3
    have hg3 : ax_g V3 := eV3 ▸ ax_u_g hg2 hr2
    refine ax_ist (n := 240) (pc' := 94) ⟨_, rfl⟩ ay_ok ay_293 (by decide) o5 eV3 rfl ?_
    refine ax_inc (x := x5) (pc' := 97) (L' := [some (.ref 222), some (ax_i x1), some (ax_i x2), some (ax_i x3), some (ax_i x4), some (ax_i (x5 + 1)), some (ax_i x6)]) ⟨_, rfl⟩ rfl rfl rfl rfl ?_
    refine ax_mv 1 98 [some (.ref 222), some (ax_i x1), some (ax_i x2), some (ax_i x3), some (ax_i x4), some (ax_i (x5 + 1)), some (ax_i x6)] [.ref 222] rfl ?_
    refine ax_gR (v := .ref 252) (pc' := 101) ⟨_, rfl⟩ fl_12_98 ay_222 rfl rfl ?_
    refine ax_mv 1 103 [some (.ref 222), some (ax_i x1), some (ax_i x2), some (ax_i x3), some (ax_i x4), some (ax_i (x5 + 1)), some (ax_i x6)] [ax_i x6, .ref 252] rfl ?_
    obtain ⟨o6, h⟩ := h
    refine ax_ild (n := 701) (pc' := 104) ⟨_, rfl⟩ ay_252 (by decide) o6 rfl ?_
    refine ax_sti (i := 0) (k := 6) (n := 2) (pc' := 106) (L' := [some (.ref 222), some (ax_i x1), some (ax_i x2), some (ax_i x3), some (ax_i x4), some (ax_i (x5 + 1)), some (ax_i (V3 252 x6))]) ⟨_, rfl⟩ rfl rfl rfl (Nat.le_of_ble_eq_true rfl) rfl rfl ?_
    refine ax_mv 1 56 [some (.ref 222), some (ax_i x1), some (ax_i x2), some (ax_i x3), some (ax_i x4), some (ax_i (x5 + 1)), some (ax_i (V3 252 x6))] [] rfl ?_
    exact h
set_option maxRecDepth 20000 in
theorem r_Model_call {d : Nat} {V : ax_V} {Φ : Int → ax_V → Prop} {Θ : ax_V → Prop} {x1 : Int} {x2 : Int} {x3 : Int} (hg : ax_g V) (hx1 : ax_rg x1) (hx2 : ax_rg x2) (hx3 : ax_rg x3) (h : (0 ≤ x3 ∧ x3 < 701) ∧ (0 ≤ x3 ∧ x3 < 701) ∧ ((V 248 x3 = -1 → (0 ≤ x3 ∧ x3 < 701) ∧ k_Model_call_56 d x1 x2 x3 (V 251 x3) 0 (V 245 x3) V Φ Θ) ∧ (¬ V 248 x3 = -1 → (0 ≤ x3 ∧ x3 < 701) ∧ (0 ≤ (26 * x1) + (V 248 x3) ∧ (26 * x1) + (V 248 x3) < 240) ∧ ((V 293 ((26 * x1) + (V 248 x3)) = 1 → ax_N ay_lay d q_Model_renew [.ref 222, ax_i x2, ax_i x3, ax_i 1] V (fun V1 => (0 ≤ x3 ∧ x3 < 701) ∧ k_Model_call_56 d x1 x2 x3 (V 251 x3) 0 (V1 245 x3) V1 Φ Θ) Θ) ∧ (¬ V 293 ((26 * x1) + (V 248 x3)) = 1 → (0 ≤ x3 ∧ x3 < 701) ∧ k_Model_call_56 d x1 x2 x3 (V 251 x3) 0 (V 245 x3) V Φ Θ))))) : ax_I ay_lay (d + 1) q_Model_call [.ref 222, ax_i x1, ax_i x2, ax_i x3] V Φ Θ := by
  refine ax_T.of (M := m_Model_call) rfl (Nat.le_of_ble_eq_true rfl) ?_
  refine ax_mv 0 0 [some (.ref 222), some (ax_i x1), some (ax_i x2), some (ax_i x3), none, none, none] [] rfl ?_
  refine ax_mv 1 1 [some (.ref 222), some (ax_i x1), some (ax_i x2), some (ax_i x3), none, none, none] [.ref 222] rfl ?_
  refine ax_gR (v := .ref 251) (pc' := 4) ⟨_, rfl⟩ fl_12_95 ay_222 rfl rfl ?_
  refine ax_mv 1 5 [some (.ref 222), some (ax_i x1), some (ax_i x2), some (ax_i x3), none, none, none] [ax_i x3, .ref 251] rfl ?_
  obtain ⟨o7, h⟩ := h
  refine ax_ild (n := 701) (pc' := 6) ⟨_, rfl⟩ ay_251 (by decide) o7 rfl ?_
  refine ax_sti (i := 0) (k := 4) (n := 2) (pc' := 8) (L' := [some (.ref 222), some (ax_i x1), some (ax_i x2), some (ax_i x3), some (ax_i (V 251 x3)), none, none]) ⟨_, rfl⟩ rfl rfl rfl (Nat.le_of_ble_eq_true rfl) rfl rfl ?_
  refine ax_mv 1 9 [some (.ref 222), some (ax_i x1), some (ax_i x2), some (ax_i x3), some (ax_i (V 251 x3)), none, none] [.ref 222] rfl ?_
  refine ax_gR (v := .ref 248) (pc' := 12) ⟨_, rfl⟩ fl_12_86 ay_222 rfl rfl ?_
  refine ax_mv 1 13 [some (.ref 222), some (ax_i x1), some (ax_i x2), some (ax_i x3), some (ax_i (V 251 x3)), none, none] [ax_i x3, .ref 248] rfl ?_
  obtain ⟨o8, h⟩ := h
  refine ax_ild (n := 701) (pc' := 14) ⟨_, rfl⟩ ay_248 (by decide) o8 rfl ?_
  refine ax_mv 1 15 [some (.ref 222), some (ax_i x1), some (ax_i x2), some (ax_i x3), some (ax_i (V 251 x3)), none, none] [ax_i (-1), ax_i (V 248 x3)] rfl ?_
  refine ax_if2 (p1 := 45) (p2 := 18) ⟨_, rfl⟩ (by decide) rfl (hg _ _) (by decide) (fun hc => ?_) (fun hc => ?_)
  · have h := h.1 hc
    refine ax_mv 1 46 [some (.ref 222), some (ax_i x1), some (ax_i x2), some (ax_i x3), some (ax_i (V 251 x3)), none, none] [ax_i 0] rfl ?_
    refine ax_sti (i := 0) (k := 5) (n := 2) (pc' := 48) (L' := [some (.ref 222), some (ax_i x1), some (ax_i x2), some (ax_i x3), some (ax_i (V 251 x3)), some (ax_i 0), none]) ⟨_, rfl⟩ rfl rfl rfl (Nat.le_of_ble_eq_true rfl) rfl rfl ?_
    refine ax_mv 1 49 [some (.ref 222), some (ax_i x1), some (ax_i x2), some (ax_i x3), some (ax_i (V 251 x3)), some (ax_i 0), none] [.ref 222] rfl ?_
    refine ax_gR (v := .ref 245) (pc' := 52) ⟨_, rfl⟩ fl_12_77 ay_222 rfl rfl ?_
    refine ax_mv 1 53 [some (.ref 222), some (ax_i x1), some (ax_i x2), some (ax_i x3), some (ax_i (V 251 x3)), some (ax_i 0), none] [ax_i x3, .ref 245] rfl ?_
    obtain ⟨o9, h⟩ := h
    refine ax_ild (n := 701) (pc' := 54) ⟨_, rfl⟩ ay_245 (by decide) o9 rfl ?_
    refine ax_sti (i := 0) (k := 6) (n := 2) (pc' := 56) (L' := [some (.ref 222), some (ax_i x1), some (ax_i x2), some (ax_i x3), some (ax_i (V 251 x3)), some (ax_i 0), some (ax_i (V 245 x3))]) ⟨_, rfl⟩ rfl rfl rfl (Nat.le_of_ble_eq_true rfl) rfl rfl ?_
    exact h
  · have h := h.2 hc
    refine ax_mv 1 19 [some (.ref 222), some (ax_i x1), some (ax_i x2), some (ax_i x3), some (ax_i (V 251 x3)), none, none] [.ref 222] rfl ?_
    refine ax_gR (v := .ref 293) (pc' := 22) ⟨_, rfl⟩ fl_12_221 ay_222 rfl rfl ?_
    refine ax_bip (pc' := 24) ⟨_, rfl⟩ (by decide) rfl ?_
    refine ax_mv 1 25 [some (.ref 222), some (ax_i x1), some (ax_i x2), some (ax_i x3), some (ax_i (V 251 x3)), none, none] [ax_i x1, ax_i 26, .ref 293] rfl ?_
    refine ax_mul (pc' := 26) ⟨_, rfl⟩ rfl ?_
    refine ax_mv 1 27 [some (.ref 222), some (ax_i x1), some (ax_i x2), some (ax_i x3), some (ax_i (V 251 x3)), none, none] [.ref 222, ax_i (26 * x1), .ref 293] rfl ?_
    refine ax_gR (v := .ref 248) (pc' := 30) ⟨_, rfl⟩ fl_12_86 ay_222 rfl rfl ?_
    refine ax_mv 1 31 [some (.ref 222), some (ax_i x1), some (ax_i x2), some (ax_i x3), some (ax_i (V 251 x3)), none, none] [ax_i x3, .ref 248, ax_i (26 * x1), .ref 293] rfl ?_
    obtain ⟨o10, h⟩ := h
    refine ax_ild (n := 701) (pc' := 32) ⟨_, rfl⟩ ay_248 (by decide) o10 rfl ?_
    refine ax_add (pc' := 33) ⟨_, rfl⟩ rfl ?_
    obtain ⟨o11, h⟩ := h
    refine ax_ild (n := 240) (pc' := 34) ⟨_, rfl⟩ ay_293 (by decide) o11 rfl ?_
    refine ax_mv 1 35 [some (.ref 222), some (ax_i x1), some (ax_i x2), some (ax_i x3), some (ax_i (V 251 x3)), none, none] [ax_i 1, ax_i (V 293 ((26 * x1) + (V 248 x3)))] rfl ?_
    refine ax_if2 (p1 := 45) (p2 := 38) ⟨_, rfl⟩ (by decide) rfl (hg _ _) (by decide) (fun hc => ?_) (fun hc => ?_)
    · have h := h.2 hc
      refine ax_mv 1 46 [some (.ref 222), some (ax_i x1), some (ax_i x2), some (ax_i x3), some (ax_i (V 251 x3)), none, none] [ax_i 0] rfl ?_
      refine ax_sti (i := 0) (k := 5) (n := 2) (pc' := 48) (L' := [some (.ref 222), some (ax_i x1), some (ax_i x2), some (ax_i x3), some (ax_i (V 251 x3)), some (ax_i 0), none]) ⟨_, rfl⟩ rfl rfl rfl (Nat.le_of_ble_eq_true rfl) rfl rfl ?_
      refine ax_mv 1 49 [some (.ref 222), some (ax_i x1), some (ax_i x2), some (ax_i x3), some (ax_i (V 251 x3)), some (ax_i 0), none] [.ref 222] rfl ?_
      refine ax_gR (v := .ref 245) (pc' := 52) ⟨_, rfl⟩ fl_12_77 ay_222 rfl rfl ?_
      refine ax_mv 1 53 [some (.ref 222), some (ax_i x1), some (ax_i x2), some (ax_i x3), some (ax_i (V 251 x3)), some (ax_i 0), none] [ax_i x3, .ref 245] rfl ?_
      obtain ⟨o12, h⟩ := h
      refine ax_ild (n := 701) (pc' := 54) ⟨_, rfl⟩ ay_245 (by decide) o12 rfl ?_
      refine ax_sti (i := 0) (k := 6) (n := 2) (pc' := 56) (L' := [some (.ref 222), some (ax_i x1), some (ax_i x2), some (ax_i x3), some (ax_i (V 251 x3)), some (ax_i 0), some (ax_i (V 245 x3))]) ⟨_, rfl⟩ rfl rfl rfl (Nat.le_of_ble_eq_true rfl) rfl rfl ?_
      exact h
    · have h := h.1 (Classical.not_not.mp hc)
      refine ax_mv 4 42 [some (.ref 222), some (ax_i x1), some (ax_i x2), some (ax_i x3), some (ax_i (V 251 x3)), none, none] [ax_i 1, ax_i x3, ax_i x2, .ref 222] rfl ?_
      refine ax_callN (pc' := 45) ⟨_, rfl⟩ ml_12_638 (rest := []) rfl (fun ss hs => ⟨_, _, ay_222 ss hs⟩) (Nat.le_of_ble_eq_true rfl) rfl rfl h (fun V1 hg1 h => ?_)
      refine ax_mv 1 46 [some (.ref 222), some (ax_i x1), some (ax_i x2), some (ax_i x3), some (ax_i (V 251 x3)), none, none] [ax_i 0] rfl ?_
      refine ax_sti (i := 0) (k := 5) (n := 2) (pc' := 48) (L' := [some (.ref 222), some (ax_i x1), some (ax_i x2), some (ax_i x3), some (ax_i (V 251 x3)), some (ax_i 0), none]) ⟨_, rfl⟩ rfl rfl rfl (Nat.le_of_ble_eq_true rfl) rfl rfl ?_
      refine ax_mv 1 49 [some (.ref 222), some (ax_i x1), some (ax_i x2), some (ax_i x3), some (ax_i (V 251 x3)), some (ax_i 0), none] [.ref 222] rfl ?_
      refine ax_gR (v := .ref 245) (pc' := 52) ⟨_, rfl⟩ fl_12_77 ay_222 rfl rfl ?_
      refine ax_mv 1 53 [some (.ref 222), some (ax_i x1), some (ax_i x2), some (ax_i x3), some (ax_i (V 251 x3)), some (ax_i 0), none] [ax_i x3, .ref 245] rfl ?_
      obtain ⟨o13, h⟩ := h
      refine ax_ild (n := 701) (pc' := 54) ⟨_, rfl⟩ ay_245 (by decide) o13 rfl ?_
      refine ax_sti (i := 0) (k := 6) (n := 2) (pc' := 56) (L' := [some (.ref 222), some (ax_i x1), some (ax_i x2), some (ax_i x3), some (ax_i (V 251 x3)), some (ax_i 0), some (ax_i (V1 245 x3))]) ⟨_, rfl⟩ rfl rfl rfl (Nat.le_of_ble_eq_true rfl) rfl rfl ?_
      exact h
abbrev k_Model_renew_11 (d : Nat) (x1 : Int) (x2 : Int) (x3 : Int) (x4 : Int) (x5 : Int) (V : ax_V) (Φ : ax_V → Prop) (Θ : ax_V → Prop) : Prop := ax_R ay_lay ax_t d m_Model_renew 11 [some (.ref 222), some (ax_i x1), some (ax_i x2), some (ax_i x3), some (ax_i x4), some (ax_i x5)] [] V (ax_Nr Φ) Θ
theorem r_Model_renew_11 {d : Nat} {V : ax_V} {Φ : ax_V → Prop} {Θ : ax_V → Prop} {x1 : Int} {x2 : Int} {x3 : Int} {x4 : Int} {x5 : Int} (hg : ax_g V) (hx1 : ax_rg x1) (hx2 : ax_rg x2) (hx3 : ax_rg x3) (hx4 : ax_rg x4) (hx5 : ax_rg x5) (h : (0 ≤ x4 ∧ x4 < 9) ∧ ((V 288 x4 ≤ x5 → Φ V) ∧ (x5 < V 288 x4 → (0 ≤ x2 ∧ x2 < 701) ∧ (0 ≤ (300 * x4) + x5 ∧ (300 * x4) + x5 < 2700) ∧ (0 ≤ (x1 + (V 257 x2)) + x5 ∧ (x1 + (V 257 x2)) + x5 < 600) ∧ (∀ V1, V1 = ax_u V 292 ((x1 + (V 257 x2)) + x5) (V 290 ((300 * x4) + x5)) → ((x3 = 0 → k_Model_renew_11 d x1 x2 x3 x4 (x5 + 1) V1 Φ Θ) ∧ (¬ x3 = 0 → (0 ≤ x2 ∧ x2 < 701) ∧ (0 ≤ (300 * x4) + x5 ∧ (300 * x4) + x5 < 2700) ∧ (0 ≤ (x1 + (V1 257 x2)) + x5 ∧ (x1 + (V1 257 x2)) + x5 < 600) ∧ (∀ V2, V2 = ax_u V1 291 ((x1 + (V1 257 x2)) + x5) (V1 290 ((300 * x4) + x5)) → k_Model_renew_11 d x1 x2 x3 x4 (x5 + 1) V2 Φ Θ))))))) : k_Model_renew_11 d x1 x2 x3 x4 x5 V Φ Θ := by
  refine ax_mv 2 14 [some (.ref 222), some (ax_i x1), some (ax_i x2), some (ax_i x3), some (ax_i x4), some (ax_i x5)] [.ref 222, ax_i x5] rfl ?_
  refine ax_gR (v := .ref 288) (pc' := 17) ⟨_, rfl⟩ fl_12_206 ay_222 rfl rfl ?_
  refine ax_mv 1 19 [some (.ref 222), some (ax_i x1), some (ax_i x2), some (ax_i x3), some (ax_i x4), some (ax_i x5)] [ax_i x4, .ref 288, ax_i x5] rfl ?_
  obtain ⟨o1, h⟩ := h
  refine ax_ild (n := 9) (pc' := 20) ⟨_, rfl⟩ ay_288 (by decide) o1 rfl ?_
  refine ax_if2 (p1 := 93) (p2 := 23) ⟨_, rfl⟩ (by decide) rfl hx5 (hg _ _) (fun hc => ?_) (fun hc => ?_)
  · have h := h.1 hc
    exact ax_nret ⟨_, rfl⟩ rfl hg h
  · have h := h.2 (Int.not_le.mp hc)
    refine ax_mv 1 24 [some (.ref 222), some (ax_i x1), some (ax_i x2), some (ax_i x3), some (ax_i x4), some (ax_i x5)] [.ref 222] rfl ?_
    refine ax_gR (v := .ref 292) (pc' := 27) ⟨_, rfl⟩ fl_12_218 ay_222 rfl rfl ?_
    refine ax_mv 2 29 [some (.ref 222), some (ax_i x1), some (ax_i x2), some (ax_i x3), some (ax_i x4), some (ax_i x5)] [.ref 222, ax_i x1, .ref 292] rfl ?_
    refine ax_gR (v := .ref 257) (pc' := 32) ⟨_, rfl⟩ fl_12_113 ay_222 rfl rfl ?_
    refine ax_mv 1 33 [some (.ref 222), some (ax_i x1), some (ax_i x2), some (ax_i x3), some (ax_i x4), some (ax_i x5)] [ax_i x2, .ref 257, ax_i x1, .ref 292] rfl ?_
    obtain ⟨o2, h⟩ := h
    refine ax_ild (n := 701) (pc' := 34) ⟨_, rfl⟩ ay_257 (by decide) o2 rfl ?_
    refine ax_add (pc' := 35) ⟨_, rfl⟩ rfl ?_
    refine ax_mv 1 37 [some (.ref 222), some (ax_i x1), some (ax_i x2), some (ax_i x3), some (ax_i x4), some (ax_i x5)] [ax_i x5, ax_i (x1 + (V 257 x2)), .ref 292] rfl ?_
    refine ax_add (pc' := 38) ⟨_, rfl⟩ rfl ?_
    refine ax_mv 1 39 [some (.ref 222), some (ax_i x1), some (ax_i x2), some (ax_i x3), some (ax_i x4), some (ax_i x5)] [.ref 222, ax_i ((x1 + (V 257 x2)) + x5), .ref 292] rfl ?_
    refine ax_gR (v := .ref 290) (pc' := 42) ⟨_, rfl⟩ fl_12_212 ay_222 rfl rfl ?_
    refine ax_sip (pc' := 45) ⟨_, rfl⟩ (by decide) rfl ?_
    refine ax_mv 1 47 [some (.ref 222), some (ax_i x1), some (ax_i x2), some (ax_i x3), some (ax_i x4), some (ax_i x5)] [ax_i x4, ax_i 300, .ref 290, ax_i ((x1 + (V 257 x2)) + x5), .ref 292] rfl ?_
    refine ax_mul (pc' := 48) ⟨_, rfl⟩ rfl ?_
    refine ax_mv 1 50 [some (.ref 222), some (ax_i x1), some (ax_i x2), some (ax_i x3), some (ax_i x4), some (ax_i x5)] [ax_i x5, ax_i (300 * x4), .ref 290, ax_i ((x1 + (V 257 x2)) + x5), .ref 292] rfl ?_
    refine ax_add (pc' := 51) ⟨_, rfl⟩ rfl ?_
    obtain ⟨o3, h⟩ := h
    refine ax_ild (n := 2700) (pc' := 52) ⟨_, rfl⟩ ay_290 (by decide) o3 rfl ?_
    obtain ⟨o4, h⟩ := h
    obtain ⟨V1, eV1⟩ : ∃ W9 : ax_V, W9 = ax_u V 292 ((x1 + (V 257 x2)) + x5) (V 290 ((300 * x4) + x5)) := ⟨_, rfl⟩
    have h := h V1 eV1
    have hg1 : ax_g V1 := eV1 ▸ ax_u_g hg (hg _ _)
    refine ax_ist (n := 600) (pc' := 53) ⟨_, rfl⟩ ay_ok ay_292 (by decide) o4 eV1 rfl ?_
    refine ax_mv 1 54 [some (.ref 222), some (ax_i x1), some (ax_i x2), some (ax_i x3), some (ax_i x4), some (ax_i x5)] [ax_i x3] rfl ?_
    refine ax_if (p1 := 87) (p2 := 57) ⟨_, rfl⟩ (by decide) rfl hx3 (fun hc => ?_) (fun hc => ?_)
    · have h := h.1 hc
      refine ax_inc (x := x5) (pc' := 90) (L' := [some (.ref 222), some (ax_i x1), some (ax_i x2), some (ax_i x3), some (ax_i x4), some (ax_i (x5 + 1))]) ⟨_, rfl⟩ rfl rfl rfl rfl ?_
      refine ax_mv 1 11 [some (.ref 222), some (ax_i x1), some (ax_i x2), some (ax_i x3), some (ax_i x4), some (ax_i (x5 + 1))] [] rfl ?_
      exact h
    · have h := h.2 hc
      refine ax_mv 1 58 [some (.ref 222), some (ax_i x1), some (ax_i x2), some (ax_i x3), some (ax_i x4), some (ax_i x5)] [.ref 222] rfl ?_
      refine ax_gR (v := .ref 291) (pc' := 61) ⟨_, rfl⟩ fl_12_215 ay_222 rfl rfl ?_
      refine ax_mv 2 63 [some (.ref 222), some (ax_i x1), some (ax_i x2), some (ax_i x3), some (ax_i x4), some (ax_i x5)] [.ref 222, ax_i x1, .ref 291] rfl ?_
      refine ax_gR (v := .ref 257) (pc' := 66) ⟨_, rfl⟩ fl_12_113 ay_222 rfl rfl ?_
      refine ax_mv 1 67 [some (.ref 222), some (ax_i x1), some (ax_i x2), some (ax_i x3), some (ax_i x4), some (ax_i x5)] [ax_i x2, .ref 257, ax_i x1, .ref 291] rfl ?_
      obtain ⟨o5, h⟩ := h
      refine ax_ild (n := 701) (pc' := 68) ⟨_, rfl⟩ ay_257 (by decide) o5 rfl ?_
      refine ax_add (pc' := 69) ⟨_, rfl⟩ rfl ?_
      refine ax_mv 1 71 [some (.ref 222), some (ax_i x1), some (ax_i x2), some (ax_i x3), some (ax_i x4), some (ax_i x5)] [ax_i x5, ax_i (x1 + (V1 257 x2)), .ref 291] rfl ?_
      refine ax_add (pc' := 72) ⟨_, rfl⟩ rfl ?_
      refine ax_mv 1 73 [some (.ref 222), some (ax_i x1), some (ax_i x2), some (ax_i x3), some (ax_i x4), some (ax_i x5)] [.ref 222, ax_i ((x1 + (V1 257 x2)) + x5), .ref 291] rfl ?_
      refine ax_gR (v := .ref 290) (pc' := 76) ⟨_, rfl⟩ fl_12_212 ay_222 rfl rfl ?_
      refine ax_sip (pc' := 79) ⟨_, rfl⟩ (by decide) rfl ?_
      refine ax_mv 1 81 [some (.ref 222), some (ax_i x1), some (ax_i x2), some (ax_i x3), some (ax_i x4), some (ax_i x5)] [ax_i x4, ax_i 300, .ref 290, ax_i ((x1 + (V1 257 x2)) + x5), .ref 291] rfl ?_
      refine ax_mul (pc' := 82) ⟨_, rfl⟩ rfl ?_
      refine ax_mv 1 84 [some (.ref 222), some (ax_i x1), some (ax_i x2), some (ax_i x3), some (ax_i x4), some (ax_i x5)] [ax_i x5, ax_i (300 * x4), .ref 290, ax_i ((x1 + (V1 257 x2)) + x5), .ref 291] rfl ?_
      refine ax_add (pc' := 85) ⟨_, rfl⟩ rfl ?_
      obtain ⟨o6, h⟩ := h
      refine ax_ild (n := 2700) (pc' := 86) ⟨_, rfl⟩ ay_290 (by decide) o6 rfl ?_
      obtain ⟨o7, h⟩ := h
      obtain ⟨V2, eV2⟩ : ∃ W9 : ax_V, W9 = ax_u V1 291 ((x1 + (V1 257 x2)) + x5) (V1 290 ((300 * x4) + x5)) := ⟨_, rfl⟩
      have h := h V2 eV2
      have hg2 : ax_g V2 := eV2 ▸ ax_u_g hg1 (hg1 _ _)
      refine ax_ist (n := 600) (pc' := 87) ⟨_, rfl⟩ ay_ok ay_291 (by decide) o7 eV2 rfl ?_
      refine ax_inc (x := x5) (pc' := 90) (L' := [some (.ref 222), some (ax_i x1), some (ax_i x2), some (ax_i x3), some (ax_i x4), some (ax_i (x5 + 1))]) ⟨_, rfl⟩ rfl rfl rfl rfl ?_
      refine ax_mv 1 11 [some (.ref 222), some (ax_i x1), some (ax_i x2), some (ax_i x3), some (ax_i x4), some (ax_i (x5 + 1))] [] rfl ?_
      exact h
theorem r_Model_renew {d : Nat} {V : ax_V} {Φ : ax_V → Prop} {Θ : ax_V → Prop} {x1 : Int} {x2 : Int} {x3 : Int} (hg : ax_g V) (hx1 : ax_rg x1) (hx2 : ax_rg x2) (hx3 : ax_rg x3) (h : (0 ≤ x2 ∧ x2 < 701) ∧ k_Model_renew_11 d x1 x2 x3 (V 251 x2) 0 V Φ Θ) : ax_N ay_lay (d + 1) q_Model_renew [.ref 222, ax_i x1, ax_i x2, ax_i x3] V Φ Θ := by
  refine ax_T.of (M := m_Model_renew) rfl (Nat.le_of_ble_eq_true rfl) ?_
  refine ax_mv 0 0 [some (.ref 222), some (ax_i x1), some (ax_i x2), some (ax_i x3), none, none] [] rfl ?_
  refine ax_mv 1 1 [some (.ref 222), some (ax_i x1), some (ax_i x2), some (ax_i x3), none, none] [.ref 222] rfl ?_
  refine ax_gR (v := .ref 251) (pc' := 4) ⟨_, rfl⟩ fl_12_95 ay_222 rfl rfl ?_
  refine ax_mv 1 5 [some (.ref 222), some (ax_i x1), some (ax_i x2), some (ax_i x3), none, none] [ax_i x2, .ref 251] rfl ?_
  obtain ⟨o8, h⟩ := h
  refine ax_ild (n := 701) (pc' := 6) ⟨_, rfl⟩ ay_251 (by decide) o8 rfl ?_
  refine ax_sti (i := 0) (k := 4) (n := 2) (pc' := 8) (L' := [some (.ref 222), some (ax_i x1), some (ax_i x2), some (ax_i x3), some (ax_i (V 251 x2)), none]) ⟨_, rfl⟩ rfl rfl rfl (Nat.le_of_ble_eq_true rfl) rfl rfl ?_
  refine ax_mv 1 9 [some (.ref 222), some (ax_i x1), some (ax_i x2), some (ax_i x3), some (ax_i (V 251 x2)), none] [ax_i 0] rfl ?_
  refine ax_sti (i := 0) (k := 5) (n := 2) (pc' := 11) (L' := [some (.ref 222), some (ax_i x1), some (ax_i x2), some (ax_i x3), some (ax_i (V 251 x2)), some (ax_i 0)]) ⟨_, rfl⟩ rfl rfl rfl (Nat.le_of_ble_eq_true rfl) rfl rfl ?_
  exact h
set_option maxRecDepth 20000 in
theorem r_Model_choose {d : Nat} {V : ax_V} {Φ : ax_V → Prop} {Θ : ax_V → Prop} {x1 : Int} {x2 : Int} {x3 : Int} {x4 : Int} (hg : ax_g V) (hx1 : ax_rg x1) (hx2 : ax_rg x2) (hx3 : ax_rg x3) (hx4 : ax_rg x4) (h : (0 ≤ (351 * x1) + x4 ∧ (351 * x1) + x4 < 3159) ∧ ((V 297 ((351 * x1) + x4) = 0 → (0 ≤ (351 * x1) + x4 ∧ (351 * x1) + x4 < 3159) ∧ (∀ V1, V1 = ax_u V 297 ((351 * x1) + x4) 1 → (0 ≤ x4 ∧ x4 < 351) ∧ (0 ≤ x3 + (V1 270 x4) ∧ x3 + (V1 270 x4) < 600) ∧ (0 ≤ (351 * x1) + x4 ∧ (351 * x1) + x4 < 3159) ∧ (∀ V2, V2 = ax_u V1 298 ((351 * x1) + x4) (V1 291 (x3 + (V1 270 x4))) → (0 ≤ (351 * x1) + x4 ∧ (351 * x1) + x4 < 3159) ∧ ax_I ay_lay d q_Model_firstOf [.ref 222, ax_i x1, ax_i x2, ax_i x3, ax_i x4, ax_i (V2 298 ((351 * x1) + x4)), ax_i 1] V2 (fun r3 V3 => ((r3 = -1 → Φ V3) ∧ (¬ r3 = -1 → (0 ≤ r3 ∧ r3 < 351) ∧ (0 ≤ (351 * x1) + x4 ∧ (351 * x1) + x4 < 3159) ∧ (∀ V4, V4 = ax_u V3 298 ((351 * x1) + x4) (V3 275 r3) → (0 ≤ r3 ∧ r3 < 351) ∧ ((V4 274 r3 = 0 → Φ V4) ∧ (¬ V4 274 r3 = 0 → (0 ≤ r3 ∧ r3 < 351) ∧ ax_N ay_lay d q_Model_renewState [.ref 222, ax_i x3, ax_i x4, ax_i (V4 275 r3), ax_i 1] V4 (fun V5 => Φ V5) Θ)))))) Θ))) ∧ (¬ V 297 ((351 * x1) + x4) = 0 → Φ V))) : ax_N ay_lay (d + 1) q_Model_choose [.ref 222, ax_i x1, ax_i x2, ax_i x3, ax_i x4] V Φ Θ := by
  refine ax_T.of (M := m_Model_choose) rfl (Nat.le_of_ble_eq_true rfl) ?_
  refine ax_mv 0 0 [some (.ref 222), some (ax_i x1), some (ax_i x2), some (ax_i x3), some (ax_i x4), none, none] [] rfl ?_
  refine ax_sip (pc' := 3) ⟨_, rfl⟩ (by decide) rfl ?_
  refine ax_mv 1 4 [some (.ref 222), some (ax_i x1), some (ax_i x2), some (ax_i x3), some (ax_i x4), none, none] [ax_i x1, ax_i 351] rfl ?_
  refine ax_mul (pc' := 5) ⟨_, rfl⟩ rfl ?_
  refine ax_mv 1 7 [some (.ref 222), some (ax_i x1), some (ax_i x2), some (ax_i x3), some (ax_i x4), none, none] [ax_i x4, ax_i (351 * x1)] rfl ?_
  refine ax_add (pc' := 8) ⟨_, rfl⟩ rfl ?_
  refine ax_sti (i := 0) (k := 5) (n := 2) (pc' := 10) (L' := [some (.ref 222), some (ax_i x1), some (ax_i x2), some (ax_i x3), some (ax_i x4), some (ax_i ((351 * x1) + x4)), none]) ⟨_, rfl⟩ rfl rfl rfl (Nat.le_of_ble_eq_true rfl) rfl rfl ?_
  refine ax_mv 1 11 [some (.ref 222), some (ax_i x1), some (ax_i x2), some (ax_i x3), some (ax_i x4), some (ax_i ((351 * x1) + x4)), none] [.ref 222] rfl ?_
  refine ax_gR (v := .ref 297) (pc' := 14) ⟨_, rfl⟩ fl_12_233 ay_222 rfl rfl ?_
  refine ax_mv 1 16 [some (.ref 222), some (ax_i x1), some (ax_i x2), some (ax_i x3), some (ax_i x4), some (ax_i ((351 * x1) + x4)), none] [ax_i ((351 * x1) + x4), .ref 297] rfl ?_
  obtain ⟨o1, h⟩ := h
  refine ax_bld (n := 3159) (pc' := 17) ⟨_, rfl⟩ ay_297 (by decide) o1 rfl ?_
  refine ax_if (p1 := 21) (p2 := 20) ⟨_, rfl⟩ (by decide) rfl (hg _ _) (fun hc => ?_) (fun hc => ?_)
  · have h := h.1 hc
    refine ax_mv 1 22 [some (.ref 222), some (ax_i x1), some (ax_i x2), some (ax_i x3), some (ax_i x4), some (ax_i ((351 * x1) + x4)), none] [.ref 222] rfl ?_
    refine ax_gR (v := .ref 297) (pc' := 25) ⟨_, rfl⟩ fl_12_233 ay_222 rfl rfl ?_
    refine ax_mv 2 28 [some (.ref 222), some (ax_i x1), some (ax_i x2), some (ax_i x3), some (ax_i x4), some (ax_i ((351 * x1) + x4)), none] [ax_i 1, ax_i ((351 * x1) + x4), .ref 297] rfl ?_
    obtain ⟨o2, h⟩ := h
    obtain ⟨V1, eV1⟩ : ∃ W9 : ax_V, W9 = ax_u V 297 ((351 * x1) + x4) 1 := ⟨_, rfl⟩
    have h := h V1 eV1
    have hg1 : ax_g V1 := eV1 ▸ ax_u_g hg (by decide)
    refine ax_bst (n := 3159) (pc' := 29) ⟨_, rfl⟩ ay_ok ay_297 (by decide) o2 (by decide) eV1 rfl ?_
    refine ax_mv 1 30 [some (.ref 222), some (ax_i x1), some (ax_i x2), some (ax_i x3), some (ax_i x4), some (ax_i ((351 * x1) + x4)), none] [.ref 222] rfl ?_
    refine ax_gR (v := .ref 298) (pc' := 33) ⟨_, rfl⟩ fl_12_236 ay_222 rfl rfl ?_
    refine ax_mv 2 36 [some (.ref 222), some (ax_i x1), some (ax_i x2), some (ax_i x3), some (ax_i x4), some (ax_i ((351 * x1) + x4)), none] [.ref 222, ax_i ((351 * x1) + x4), .ref 298] rfl ?_
    refine ax_gR (v := .ref 291) (pc' := 39) ⟨_, rfl⟩ fl_12_215 ay_222 rfl rfl ?_
    refine ax_mv 2 41 [some (.ref 222), some (ax_i x1), some (ax_i x2), some (ax_i x3), some (ax_i x4), some (ax_i ((351 * x1) + x4)), none] [.ref 222, ax_i x3, .ref 291, ax_i ((351 * x1) + x4), .ref 298] rfl ?_
    refine ax_gR (v := .ref 270) (pc' := 44) ⟨_, rfl⟩ fl_12_152 ay_222 rfl rfl ?_
    refine ax_mv 1 46 [some (.ref 222), some (ax_i x1), some (ax_i x2), some (ax_i x3), some (ax_i x4), some (ax_i ((351 * x1) + x4)), none] [ax_i x4, .ref 270, ax_i x3, .ref 291, ax_i ((351 * x1) + x4), .ref 298] rfl ?_
    obtain ⟨o3, h⟩ := h
    refine ax_ild (n := 351) (pc' := 47) ⟨_, rfl⟩ ay_270 (by decide) o3 rfl ?_
    refine ax_add (pc' := 48) ⟨_, rfl⟩ rfl ?_
    obtain ⟨o4, h⟩ := h
    refine ax_ild (n := 600) (pc' := 49) ⟨_, rfl⟩ ay_291 (by decide) o4 rfl ?_
    obtain ⟨o5, h⟩ := h
    obtain ⟨V2, eV2⟩ : ∃ W9 : ax_V, W9 = ax_u V1 298 ((351 * x1) + x4) (V1 291 (x3 + (V1 270 x4))) := ⟨_, rfl⟩
    have h := h V2 eV2
    have hg2 : ax_g V2 := eV2 ▸ ax_u_g hg1 (hg1 _ _)
    refine ax_ist (n := 3159) (pc' := 50) ⟨_, rfl⟩ ay_ok ay_298 (by decide) o5 eV2 rfl ?_
    refine ax_mv 6 57 [some (.ref 222), some (ax_i x1), some (ax_i x2), some (ax_i x3), some (ax_i x4), some (ax_i ((351 * x1) + x4)), none] [.ref 222, ax_i x4, ax_i x3, ax_i x2, ax_i x1, .ref 222] rfl ?_
    refine ax_gR (v := .ref 298) (pc' := 60) ⟨_, rfl⟩ fl_12_236 ay_222 rfl rfl ?_
    refine ax_mv 1 62 [some (.ref 222), some (ax_i x1), some (ax_i x2), some (ax_i x3), some (ax_i x4), some (ax_i ((351 * x1) + x4)), none] [ax_i ((351 * x1) + x4), .ref 298, ax_i x4, ax_i x3, ax_i x2, ax_i x1, .ref 222] rfl ?_
    obtain ⟨o6, h⟩ := h
    refine ax_ild (n := 3159) (pc' := 63) ⟨_, rfl⟩ ay_298 (by decide) o6 rfl ?_
    refine ax_mv 1 64 [some (.ref 222), some (ax_i x1), some (ax_i x2), some (ax_i x3), some (ax_i x4), some (ax_i ((351 * x1) + x4)), none] [ax_i 1, ax_i (V2 298 ((351 * x1) + x4)), ax_i x4, ax_i x3, ax_i x2, ax_i x1, .ref 222] rfl ?_
    refine ax_callI (pc' := 67) ⟨_, rfl⟩ ml_12_656 (rest := []) rfl (fun ss hs => ⟨_, _, ay_222 ss hs⟩) (Nat.le_of_ble_eq_true rfl) rfl rfl h (fun r3 V3 hg3 hr3 h => ?_)
    refine ax_sti (i := 0) (k := 6) (n := 2) (pc' := 69) (L' := [some (.ref 222), some (ax_i x1), some (ax_i x2), some (ax_i x3), some (ax_i x4), some (ax_i ((351 * x1) + x4)), some (ax_i r3)]) ⟨_, rfl⟩ rfl rfl rfl (Nat.le_of_ble_eq_true rfl) rfl rfl ?_
    refine ax_mv 2 72 [some (.ref 222), some (ax_i x1), some (ax_i x2), some (ax_i x3), some (ax_i x4), some (ax_i ((351 * x1) + x4)), some (ax_i r3)] [ax_i (-1), ax_i r3] rfl ?_
    refine ax_if2 (p1 := 76) (p2 := 75) ⟨_, rfl⟩ (by decide) rfl hr3 (by decide) (fun hc => ?_) (fun hc => ?_)
    · have h := h.2 hc
      refine ax_mv 1 77 [some (.ref 222), some (ax_i x1), some (ax_i x2), some (ax_i x3), some (ax_i x4), some (ax_i ((351 * x1) + x4)), some (ax_i r3)] [.ref 222] rfl ?_
      refine ax_gR (v := .ref 298) (pc' := 80) ⟨_, rfl⟩ fl_12_236 ay_222 rfl rfl ?_
      refine ax_mv 2 83 [some (.ref 222), some (ax_i x1), some (ax_i x2), some (ax_i x3), some (ax_i x4), some (ax_i ((351 * x1) + x4)), some (ax_i r3)] [.ref 222, ax_i ((351 * x1) + x4), .ref 298] rfl ?_
      refine ax_gR (v := .ref 275) (pc' := 86) ⟨_, rfl⟩ fl_12_167 ay_222 rfl rfl ?_
      refine ax_mv 1 88 [some (.ref 222), some (ax_i x1), some (ax_i x2), some (ax_i x3), some (ax_i x4), some (ax_i ((351 * x1) + x4)), some (ax_i r3)] [ax_i r3, .ref 275, ax_i ((351 * x1) + x4), .ref 298] rfl ?_
      obtain ⟨o7, h⟩ := h
      refine ax_ild (n := 351) (pc' := 89) ⟨_, rfl⟩ ay_275 (by decide) o7 rfl ?_
      obtain ⟨o8, h⟩ := h
      obtain ⟨V4, eV4⟩ : ∃ W9 : ax_V, W9 = ax_u V3 298 ((351 * x1) + x4) (V3 275 r3) := ⟨_, rfl⟩
      have h := h V4 eV4
      have hg4 : ax_g V4 := eV4 ▸ ax_u_g hg3 (hg3 _ _)
      refine ax_ist (n := 3159) (pc' := 90) ⟨_, rfl⟩ ay_ok ay_298 (by decide) o8 eV4 rfl ?_
      refine ax_mv 1 91 [some (.ref 222), some (ax_i x1), some (ax_i x2), some (ax_i x3), some (ax_i x4), some (ax_i ((351 * x1) + x4)), some (ax_i r3)] [.ref 222] rfl ?_
      refine ax_gR (v := .ref 274) (pc' := 94) ⟨_, rfl⟩ fl_12_164 ay_222 rfl rfl ?_
      refine ax_mv 1 96 [some (.ref 222), some (ax_i x1), some (ax_i x2), some (ax_i x3), some (ax_i x4), some (ax_i ((351 * x1) + x4)), some (ax_i r3)] [ax_i r3, .ref 274] rfl ?_
      obtain ⟨o9, h⟩ := h
      refine ax_bld (n := 351) (pc' := 97) ⟨_, rfl⟩ ay_274 (by decide) o9 rfl ?_
      refine ax_if (p1 := 115) (p2 := 100) ⟨_, rfl⟩ (by decide) rfl (hg4 _ _) (fun hc => ?_) (fun hc => ?_)
      · have h := h.1 hc
        exact ax_nret ⟨_, rfl⟩ rfl hg4 h
      · have h := h.2 hc
        refine ax_mv 4 105 [some (.ref 222), some (ax_i x1), some (ax_i x2), some (ax_i x3), some (ax_i x4), some (ax_i ((351 * x1) + x4)), some (ax_i r3)] [.ref 222, ax_i x4, ax_i x3, .ref 222] rfl ?_
        refine ax_gR (v := .ref 275) (pc' := 108) ⟨_, rfl⟩ fl_12_167 ay_222 rfl rfl ?_
        refine ax_mv 1 110 [some (.ref 222), some (ax_i x1), some (ax_i x2), some (ax_i x3), some (ax_i x4), some (ax_i ((351 * x1) + x4)), some (ax_i r3)] [ax_i r3, .ref 275, ax_i x4, ax_i x3, .ref 222] rfl ?_
        obtain ⟨o10, h⟩ := h
        refine ax_ild (n := 351) (pc' := 111) ⟨_, rfl⟩ ay_275 (by decide) o10 rfl ?_
        refine ax_mv 1 112 [some (.ref 222), some (ax_i x1), some (ax_i x2), some (ax_i x3), some (ax_i x4), some (ax_i ((351 * x1) + x4)), some (ax_i r3)] [ax_i 1, ax_i (V4 275 r3), ax_i x4, ax_i x3, .ref 222] rfl ?_
        refine ax_callN (pc' := 115) ⟨_, rfl⟩ ml_12_660 (rest := []) rfl (fun ss hs => ⟨_, _, ay_222 ss hs⟩) (Nat.le_of_ble_eq_true rfl) rfl rfl h (fun V5 hg5 h => ?_)
        exact ax_nret ⟨_, rfl⟩ rfl hg5 h
    · have h := h.1 (Classical.not_not.mp hc)
      exact ax_nret ⟨_, rfl⟩ rfl hg3 h
  · have h := h.2 hc
    exact ax_nret ⟨_, rfl⟩ rfl hg h
