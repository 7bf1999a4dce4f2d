/-! RULES of the model's methods: a method each, and each loop of it. PRINTED by wip/gen/rules.py -/
abbrev k_Model_firstOf_6 (d : Nat) (x1 : Int) (x2 : Int) (x3 : Int) (x4 : Int) (x5 : Int) (x6 : Int) (x7 : Int) (x8 : Int) (V : ax_V) (Φ : Int → ax_V → Prop) (Θ : ax_V → Prop) : Prop := ax_R ay_lay ax_t d m_Model_firstOf 6 [some (.ref 222), some (ax_i x1), some (ax_i x2), some (ax_i x3), some (ax_i x4), some (ax_i x5), some (ax_i x6), some (ax_i x7), some (ax_i x8)] [] V (ax_Ir Φ) Θ
theorem r_Model_firstOf_6 {d : Nat} {V : ax_V} {Φ : Int → ax_V → Prop} {Θ : ax_V → Prop} {x1 : Int} {x2 : Int} {x3 : Int} {x4 : Int} {x5 : Int} {x6 : Int} {x7 : Int} {x8 : Int} (hg : ax_g V) (hx1 : ax_rg x1) (hx2 : ax_rg x2) (hx3 : ax_rg x3) (hx4 : ax_rg x4) (hx5 : ax_rg x5) (hx6 : ax_rg x6) (hx7 : ax_rg x7) (hx8 : ax_rg x8) (h : ((V 222 60 ≤ x8 → Φ x7 V) ∧ (x8 < V 222 60 → (0 ≤ x8 ∧ x8 < 351) ∧ ((V 271 x8 = x4 → (0 ≤ x8 ∧ x8 < 351) ∧ ((V 272 x8 = x5 → (0 ≤ x8 ∧ x8 < 351) ∧ ((V 273 x8 = x6 → (0 ≤ x8 ∧ x8 < 351) ∧ (0 ≤ x8 ∧ x8 < 351) ∧ ax_N ay_lay d q_Model_workAll [.ref 222, ax_i x1, ax_i x2, ax_i x3, ax_i (V 276 x8), ax_i (V 277 x8), ax_i 0] V (fun V1 => ((x7 = -1 → (0 ≤ x8 ∧ x8 < 351) ∧ ax_I ay_lay d q_Model_valueAt [.ref 222, ax_i x1, ax_i (V1 277 x8)] V1 (fun r2 V2 => ((r2 = 1 → k_Model_firstOf_6 d x1 x2 x3 x4 x5 x6 x8 (x8 + 1) V2 Φ Θ) ∧ (¬ r2 = 1 → k_Model_firstOf_6 d x1 x2 x3 x4 x5 x6 x7 (x8 + 1) V2 Φ Θ))) Θ) ∧ (¬ x7 = -1 → k_Model_firstOf_6 d x1 x2 x3 x4 x5 x6 x7 (x8 + 1) V1 Φ Θ))) Θ) ∧ (¬ V 273 x8 = x6 → k_Model_firstOf_6 d x1 x2 x3 x4 x5 x6 x7 (x8 + 1) V Φ Θ))) ∧ (¬ V 272 x8 = x5 → k_Model_firstOf_6 d x1 x2 x3 x4 x5 x6 x7 (x8 + 1) V Φ Θ))) ∧ (¬ V 271 x8 = x4 → k_Model_firstOf_6 d x1 x2 x3 x4 x5 x6 x7 (x8 + 1) V Φ Θ))))) : k_Model_firstOf_6 d x1 x2 x3 x4 x5 x6 x7 x8 V Φ Θ := by
  refine ax_mv 2 9 [some (.ref 222), some (ax_i x1), some (ax_i x2), some (ax_i x3), some (ax_i x4), some (ax_i x5), some (ax_i x6), some (ax_i x7), some (ax_i x8)] [.ref 222, ax_i x8] rfl ?_
  refine ax_gI (kI := 60) (pc' := 12) ⟨_, rfl⟩ fl_12_420 ay_222 rfl rfl rfl ?_
  refine ax_if2 (p1 := 108) (p2 := 15) ⟨_, rfl⟩ (by decide) rfl hx8 (hg _ _) (fun hc => ?_) (fun hc => ?_)
  · have h := h.1 hc
    refine ax_mv 1 110 [some (.ref 222), some (ax_i x1), some (ax_i x2), some (ax_i x3), some (ax_i x4), some (ax_i x5), some (ax_i x6), some (ax_i x7), some (ax_i x8)] [ax_i x7] rfl ?_
    exact ax_iret ⟨_, rfl⟩ rfl rfl hx7 hg h
  · have h := h.2 (Int.not_le.mp hc)
    refine ax_mv 1 16 [some (.ref 222), some (ax_i x1), some (ax_i x2), some (ax_i x3), some (ax_i x4), some (ax_i x5), some (ax_i x6), some (ax_i x7), some (ax_i x8)] [.ref 222] rfl ?_
    refine ax_gR (v := .ref 271) (pc' := 19) ⟨_, rfl⟩ fl_12_155 ay_222 rfl rfl ?_
    refine ax_mv 1 21 [some (.ref 222), some (ax_i x1), some (ax_i x2), some (ax_i x3), some (ax_i x4), some (ax_i x5), some (ax_i x6), some (ax_i x7), some (ax_i x8)] [ax_i x8, .ref 271] rfl ?_
    obtain ⟨o1, h⟩ := h
    refine ax_ild (n := 351) (pc' := 22) ⟨_, rfl⟩ ay_271 (by decide) o1 rfl ?_
    refine ax_mv 1 24 [some (.ref 222), some (ax_i x1), some (ax_i x2), some (ax_i x3), some (ax_i x4), some (ax_i x5), some (ax_i x6), some (ax_i x7), some (ax_i x8)] [ax_i x4, ax_i (V 271 x8)] rfl ?_
    refine ax_if2 (p1 := 102) (p2 := 27) ⟨_, rfl⟩ (by decide) rfl (hg _ _) hx4 (fun hc => ?_) (fun hc => ?_)
    · have h := h.2 hc
      refine ax_inc (x := x8) (pc' := 105) (L' := [some (.ref 222), some (ax_i x1), some (ax_i x2), some (ax_i x3), some (ax_i x4), some (ax_i x5), some (ax_i x6), some (ax_i x7), some (ax_i (x8 + 1))]) ⟨_, rfl⟩ rfl rfl rfl rfl ?_
      refine ax_mv 1 6 [some (.ref 222), some (ax_i x1), some (ax_i x2), some (ax_i x3), some (ax_i x4), some (ax_i x5), some (ax_i x6), some (ax_i x7), some (ax_i (x8 + 1))] [] rfl ?_
      exact h
    · have h := h.1 (Classical.not_not.mp hc)
      refine ax_mv 1 28 [some (.ref 222), some (ax_i x1), some (ax_i x2), some (ax_i x3), some (ax_i x4), some (ax_i x5), some (ax_i x6), some (ax_i x7), some (ax_i x8)] [.ref 222] rfl ?_
      refine ax_gR (v := .ref 272) (pc' := 31) ⟨_, rfl⟩ fl_12_158 ay_222 rfl rfl ?_
      refine ax_mv 1 33 [some (.ref 222), some (ax_i x1), some (ax_i x2), some (ax_i x3), some (ax_i x4), some (ax_i x5), some (ax_i x6), some (ax_i x7), some (ax_i x8)] [ax_i x8, .ref 272] rfl ?_
      obtain ⟨o2, h⟩ := h
      refine ax_ild (n := 351) (pc' := 34) ⟨_, rfl⟩ ay_272 (by decide) o2 rfl ?_
      refine ax_mv 1 36 [some (.ref 222), some (ax_i x1), some (ax_i x2), some (ax_i x3), some (ax_i x4), some (ax_i x5), some (ax_i x6), some (ax_i x7), some (ax_i x8)] [ax_i x5, ax_i (V 272 x8)] rfl ?_
      refine ax_if2 (p1 := 102) (p2 := 39) ⟨_, rfl⟩ (by decide) rfl (hg _ _) hx5 (fun hc => ?_) (fun hc => ?_)
      · have h := h.2 hc
        refine ax_inc (x := x8) (pc' := 105) (L' := [some (.ref 222), some (ax_i x1), some (ax_i x2), some (ax_i x3), some (ax_i x4), some (ax_i x5), some (ax_i x6), some (ax_i x7), some (ax_i (x8 + 1))]) ⟨_, rfl⟩ rfl rfl rfl rfl ?_
        refine ax_mv 1 6 [some (.ref 222), some (ax_i x1), some (ax_i x2), some (ax_i x3), some (ax_i x4), some (ax_i x5), some (ax_i x6), some (ax_i x7), some (ax_i (x8 + 1))] [] rfl ?_
        exact h
      · have h := h.1 (Classical.not_not.mp hc)
        refine ax_mv 1 40 [some (.ref 222), some (ax_i x1), some (ax_i x2), some (ax_i x3), some (ax_i x4), some (ax_i x5), some (ax_i x6), some (ax_i x7), some (ax_i x8)] [.ref 222] rfl ?_
        refine ax_gR (v := .ref 273) (pc' := 43) ⟨_, rfl⟩ fl_12_161 ay_222 rfl rfl ?_
        refine ax_mv 1 45 [some (.ref 222), some (ax_i x1), some (ax_i x2), some (ax_i x3), some (ax_i x4), some (ax_i x5), some (ax_i x6), some (ax_i x7), some (ax_i x8)] [ax_i x8, .ref 273] rfl ?_
        obtain ⟨o3, h⟩ := h
        refine ax_bld (n := 351) (pc' := 46) ⟨_, rfl⟩ ay_273 (by decide) o3 rfl ?_
        refine ax_mv 1 48 [some (.ref 222), some (ax_i x1), some (ax_i x2), some (ax_i x3), some (ax_i x4), some (ax_i x5), some (ax_i x6), some (ax_i x7), some (ax_i x8)] [ax_i x6, ax_i (V 273 x8)] rfl ?_
        refine ax_if2 (p1 := 54) (p2 := 51) ⟨_, rfl⟩ (by decide) rfl (hg _ _) hx6 (fun hc => ?_) (fun hc => ?_)
        · have h := h.1 hc
          refine ax_mv 5 59 [some (.ref 222), some (ax_i x1), some (ax_i x2), some (ax_i x3), some (ax_i x4), some (ax_i x5), some (ax_i x6), some (ax_i x7), some (ax_i x8)] [.ref 222, ax_i x3, ax_i x2, ax_i x1, .ref 222] rfl ?_
          refine ax_gR (v := .ref 276) (pc' := 62) ⟨_, rfl⟩ fl_12_170 ay_222 rfl rfl ?_
          refine ax_mv 1 64 [some (.ref 222), some (ax_i x1), some (ax_i x2), some (ax_i x3), some (ax_i x4), some (ax_i x5), some (ax_i x6), some (ax_i x7), some (ax_i x8)] [ax_i x8, .ref 276, ax_i x3, ax_i x2, ax_i x1, .ref 222] rfl ?_
          obtain ⟨o4, h⟩ := h
          refine ax_ild (n := 351) (pc' := 65) ⟨_, rfl⟩ ay_276 (by decide) o4 rfl ?_
          refine ax_mv 1 66 [some (.ref 222), some (ax_i x1), some (ax_i x2), some (ax_i x3), some (ax_i x4), some (ax_i x5), some (ax_i x6), some (ax_i x7), some (ax_i x8)] [.ref 222, ax_i (V 276 x8), ax_i x3, ax_i x2, ax_i x1, .ref 222] rfl ?_
          refine ax_gR (v := .ref 277) (pc' := 69) ⟨_, rfl⟩ fl_12_173 ay_222 rfl rfl ?_
          refine ax_mv 1 71 [some (.ref 222), some (ax_i x1), some (ax_i x2), some (ax_i x3), some (ax_i x4), some (ax_i x5), some (ax_i x6), some (ax_i x7), some (ax_i x8)] [ax_i x8, .ref 277, ax_i (V 276 x8), ax_i x3, ax_i x2, ax_i x1, .ref 222] rfl ?_
          obtain ⟨o5, h⟩ := h
          refine ax_ild (n := 351) (pc' := 72) ⟨_, rfl⟩ ay_277 (by decide) o5 rfl ?_
          refine ax_mv 1 73 [some (.ref 222), some (ax_i x1), some (ax_i x2), some (ax_i x3), some (ax_i x4), some (ax_i x5), some (ax_i x6), some (ax_i x7), some (ax_i x8)] [ax_i 0, ax_i (V 277 x8), ax_i (V 276 x8), ax_i x3, ax_i x2, ax_i x1, .ref 222] rfl ?_
          refine ax_callN (pc' := 76) ⟨_, rfl⟩ ml_12_652 (rest := []) rfl (fun ss hs => ⟨_, _, ay_222 ss hs⟩) (Nat.le_of_ble_eq_true rfl) rfl rfl h (fun V1 hg1 h => ?_)
          refine ax_mv 2 79 [some (.ref 222), some (ax_i x1), some (ax_i x2), some (ax_i x3), some (ax_i x4), some (ax_i x5), some (ax_i x6), some (ax_i x7), some (ax_i x8)] [ax_i (-1), ax_i x7] rfl ?_
          refine ax_if2 (p1 := 102) (p2 := 82) ⟨_, rfl⟩ (by decide) rfl hx7 (by decide) (fun hc => ?_) (fun hc => ?_)
          · have h := h.2 hc
            refine ax_inc (x := x8) (pc' := 105) (L' := [some (.ref 222), some (ax_i x1), some (ax_i x2), some (ax_i x3), some (ax_i x4), some (ax_i x5), some (ax_i x6), some (ax_i x7), some (ax_i (x8 + 1))]) ⟨_, rfl⟩ rfl rfl rfl rfl ?_
            refine ax_mv 1 6 [some (.ref 222), some (ax_i x1), some (ax_i x2), some (ax_i x3), some (ax_i x4), some (ax_i x5), some (ax_i x6), some (ax_i x7), some (ax_i (x8 + 1))] [] rfl ?_
            exact h
          · have h := h.1 (Classical.not_not.mp hc)
            refine ax_mv 3 85 [some (.ref 222), some (ax_i x1), some (ax_i x2), some (ax_i x3), some (ax_i x4), some (ax_i x5), some (ax_i x6), some (ax_i x7), some (ax_i x8)] [.ref 222, ax_i x1, .ref 222] rfl ?_
            refine ax_gR (v := .ref 277) (pc' := 88) ⟨_, rfl⟩ fl_12_173 ay_222 rfl rfl ?_
            refine ax_mv 1 90 [some (.ref 222), some (ax_i x1), some (ax_i x2), some (ax_i x3), some (ax_i x4), some (ax_i x5), some (ax_i x6), some (ax_i x7), some (ax_i x8)] [ax_i x8, .ref 277, ax_i x1, .ref 222] rfl ?_
            obtain ⟨o6, h⟩ := h
            refine ax_ild (n := 351) (pc' := 91) ⟨_, rfl⟩ ay_277 (by decide) o6 rfl ?_
            refine ax_callI (pc' := 94) ⟨_, rfl⟩ ml_12_628 (rest := []) rfl (fun ss hs => ⟨_, _, ay_222 ss hs⟩) (Nat.le_of_ble_eq_true rfl) rfl rfl h (fun r2 V2 hg2 hr2 h => ?_)
            refine ax_mv 1 95 [some (.ref 222), some (ax_i x1), some (ax_i x2), some (ax_i x3), some (ax_i x4), some (ax_i x5), some (ax_i x6), some (ax_i x7), some (ax_i x8)] [ax_i 1, ax_i r2] rfl ?_
            refine ax_if2 (p1 := 102) (p2 := 98) ⟨_, rfl⟩ (by decide) rfl hr2 (by decide) (fun hc => ?_) (fun hc => ?_)
            · have h := h.2 hc
              refine ax_inc (x := x8) (pc' := 105) (L' := [some (.ref 222), some (ax_i x1), some (ax_i x2), some (ax_i x3), some (ax_i x4), some (ax_i x5), some (ax_i x6), some (ax_i x7), some (ax_i (x8 + 1))]) ⟨_, rfl⟩ rfl rfl rfl rfl ?_
              refine ax_mv 1 6 [some (.ref 222), some (ax_i x1), some (ax_i x2), some (ax_i x3), some (ax_i x4), some (ax_i x5), some (ax_i x6), some (ax_i x7), some (ax_i (x8 + 1))] [] rfl ?_
              exact h
            · have h := h.1 (Classical.not_not.mp hc)
              refine ax_mv 1 100 [some (.ref 222), some (ax_i x1), some (ax_i x2), some (ax_i x3), some (ax_i x4), some (ax_i x5), some (ax_i x6), some (ax_i x7), some (ax_i x8)] [ax_i x8] rfl ?_
              refine ax_sti (i := 0) (k := 7) (n := 2) (pc' := 102) (L' := [some (.ref 222), some (ax_i x1), some (ax_i x2), some (ax_i x3), some (ax_i x4), some (ax_i x5), some (ax_i x6), some (ax_i x8), some (ax_i x8)]) ⟨_, rfl⟩ rfl rfl rfl (Nat.le_of_ble_eq_true rfl) rfl rfl ?_
              refine ax_inc (x := x8) (pc' := 105) (L' := [some (.ref 222), some (ax_i x1), some (ax_i x2), some (ax_i x3), some (ax_i x4), some (ax_i x5), some (ax_i x6), some (ax_i x8), some (ax_i (x8 + 1))]) ⟨_, rfl⟩ rfl rfl rfl rfl ?_
              refine ax_mv 1 6 [some (.ref 222), some (ax_i x1), some (ax_i x2), some (ax_i x3), some (ax_i x4), some (ax_i x5), some (ax_i x6), some (ax_i x8), some (ax_i (x8 + 1))] [] rfl ?_
              exact h
        · have h := h.2 hc
          refine ax_mv 1 102 [some (.ref 222), some (ax_i x1), some (ax_i x2), some (ax_i x3), some (ax_i x4), some (ax_i x5), some (ax_i x6), some (ax_i x7), some (ax_i x8)] [] rfl ?_
          refine ax_inc (x := x8) (pc' := 105) (L' := [some (.ref 222), some (ax_i x1), some (ax_i x2), some (ax_i x3), some (ax_i x4), some (ax_i x5), some (ax_i x6), some (ax_i x7), some (ax_i (x8 + 1))]) ⟨_, rfl⟩ rfl rfl rfl rfl ?_
          refine ax_mv 1 6 [some (.ref 222), some (ax_i x1), some (ax_i x2), some (ax_i x3), some (ax_i x4), some (ax_i x5), some (ax_i x6), some (ax_i x7), some (ax_i (x8 + 1))] [] rfl ?_
          exact h
theorem r_Model_firstOf {d : Nat} {V : ax_V} {Φ : Int → ax_V → Prop} {Θ : ax_V → Prop} {x1 : Int} {x2 : Int} {x3 : Int} {x4 : Int} {x5 : Int} {x6 : Int} (hg : ax_g V) (hx1 : ax_rg x1) (hx2 : ax_rg x2) (hx3 : ax_rg x3) (hx4 : ax_rg x4) (hx5 : ax_rg x5) (hx6 : ax_rg x6) (h : k_Model_firstOf_6 d x1 x2 x3 x4 x5 x6 (-1) 0 V Φ Θ) : ax_I ay_lay (d + 1) q_Model_firstOf [.ref 222, ax_i x1, ax_i x2, ax_i x3, ax_i x4, ax_i x5, ax_i x6] V Φ Θ := by
  refine ax_T.of (M := m_Model_firstOf) rfl (Nat.le_of_ble_eq_true rfl) ?_
  refine ax_mv 0 0 [some (.ref 222), some (ax_i x1), some (ax_i x2), some (ax_i x3), some (ax_i x4), some (ax_i x5), some (ax_i x6), none, none] [] rfl ?_
  refine ax_mv 1 1 [some (.ref 222), some (ax_i x1), some (ax_i x2), some (ax_i x3), some (ax_i x4), some (ax_i x5), some (ax_i x6), none, none] [ax_i (-1)] rfl ?_
  refine ax_sti (i := 0) (k := 7) (n := 2) (pc' := 3) (L' := [some (.ref 222), some (ax_i x1), some (ax_i x2), some (ax_i x3), some (ax_i x4), some (ax_i x5), some (ax_i x6), some (ax_i (-1)), none]) ⟨_, rfl⟩ rfl rfl rfl (Nat.le_of_ble_eq_true rfl) rfl rfl ?_
  refine ax_mv 1 4 [some (.ref 222), some (ax_i x1), some (ax_i x2), some (ax_i x3), some (ax_i x4), some (ax_i x5), some (ax_i x6), some (ax_i (-1)), none] [ax_i 0] rfl ?_
  refine ax_sti (i := 0) (k := 8) (n := 2) (pc' := 6) (L' := [some (.ref 222), some (ax_i x1), some (ax_i x2), some (ax_i x3), some (ax_i x4), some (ax_i x5), some (ax_i x6), some (ax_i (-1)), some (ax_i 0)]) ⟨_, rfl⟩ rfl rfl rfl (Nat.le_of_ble_eq_true rfl) rfl rfl ?_
  exact h
abbrev k_Model_renewState_3 (d : Nat) (x1 : Int) (x2 : Int) (x3 : Int) (x4 : Int) (x5 : Int) (y6 : Option Value) (V : ax_V) (Φ : ax_V → Prop) (Θ : ax_V → Prop) : Prop := ax_R ay_lay ax_t d m_Model_renewState 3 [some (.ref 222), some (ax_i x1), some (ax_i x2), some (ax_i x3), some (ax_i x4), some (ax_i x5), y6] [] V (ax_Nr Φ) Θ
abbrev k_Model_renewState_46 (d : Nat) (x1 : Int) (x2 : Int) (x3 : Int) (x4 : Int) (x5 : Int) (x6 : Int) (V : ax_V) (Φ : ax_V → Prop) (Θ : ax_V → Prop) : Prop := ax_R ay_lay ax_t d m_Model_renewState 46 [some (.ref 222), some (ax_i x1), some (ax_i x2), some (ax_i x3), some (ax_i x4), some (ax_i x5), some (ax_i x6)] [] V (ax_Nr Φ) Θ
abbrev k_Model_renewState_106 (d : Nat) (x1 : Int) (x2 : Int) (x3 : Int) (x4 : Int) (x5 : Int) (x6 : Int) (V : ax_V) (Φ : ax_V → Prop) (Θ : ax_V → Prop) : Prop := ax_R ay_lay ax_t d m_Model_renewState 106 [some (.ref 222), some (ax_i x1), some (ax_i x2), some (ax_i x3), some (ax_i x4), some (ax_i x5), some (ax_i x6)] [] V (ax_Nr Φ) Θ
set_option maxRecDepth 20000 in
theorem r_Model_renewState_3 {d : Nat} {V : ax_V} {Φ : ax_V → Prop} {Θ : ax_V → Prop} {x1 : Int} {x2 : Int} {x3 : Int} {x4 : Int} {x5 : Int} {y6 : Option Value} (hg : ax_g V) (hx1 : ax_rg x1) (hx2 : ax_rg x2) (hx3 : ax_rg x3) (hx4 : ax_rg x4) (hx5 : ax_rg x5) (hy6 : ax_y y6) (h : ((V 222 44 ≤ x5 → Φ V) ∧ (x5 < V 222 44 → (0 ≤ x5 ∧ x5 < 351) ∧ ((V 263 x5 = x2 → (0 ≤ x5 ∧ x5 < 351) ∧ ((V 264 x5 = x3 → (0 ≤ x5 ∧ x5 < 351) ∧ k_Model_renewState_46 d x1 x2 x3 x4 x5 (V 261 x5) V Φ Θ) ∧ (¬ V 264 x5 = x3 → k_Model_renewState_3 d x1 x2 x3 x4 (x5 + 1) y6 V Φ Θ))) ∧ (¬ V 263 x5 = x2 → k_Model_renewState_3 d x1 x2 x3 x4 (x5 + 1) y6 V Φ Θ))))) : k_Model_renewState_3 d x1 x2 x3 x4 x5 y6 V Φ Θ := by
  refine ax_mv 2 6 [some (.ref 222), some (ax_i x1), some (ax_i x2), some (ax_i x3), some (ax_i x4), some (ax_i x5), y6] [.ref 222, ax_i x5] rfl ?_
  refine ax_gI (kI := 44) (pc' := 9) ⟨_, rfl⟩ fl_12_414 ay_222 rfl rfl rfl ?_
  refine ax_if2 (p1 := 153) (p2 := 12) ⟨_, rfl⟩ (by decide) rfl hx5 (hg _ _) (fun hc => ?_) (fun hc => ?_)
  · have h := h.1 hc
    exact ax_nret ⟨_, rfl⟩ rfl hg h
  · have h := h.2 (Int.not_le.mp hc)
    refine ax_mv 1 13 [some (.ref 222), some (ax_i x1), some (ax_i x2), some (ax_i x3), some (ax_i x4), some (ax_i x5), y6] [.ref 222] rfl ?_
    refine ax_gR (v := .ref 263) (pc' := 16) ⟨_, rfl⟩ fl_12_131 ay_222 rfl rfl ?_
    refine ax_mv 1 18 [some (.ref 222), some (ax_i x1), some (ax_i x2), some (ax_i x3), some (ax_i x4), some (ax_i x5), y6] [ax_i x5, .ref 263] rfl ?_
    obtain ⟨o1, h⟩ := h
    refine ax_ild (n := 351) (pc' := 19) ⟨_, rfl⟩ ay_263 (by decide) o1 rfl ?_
    refine ax_mv 1 20 [some (.ref 222), some (ax_i x1), some (ax_i x2), some (ax_i x3), some (ax_i x4), some (ax_i x5), y6] [ax_i x2, ax_i (V 263 x5)] rfl ?_
    refine ax_if2 (p1 := 147) (p2 := 23) ⟨_, rfl⟩ (by decide) rfl (hg _ _) hx2 (fun hc => ?_) (fun hc => ?_)
    · have h := h.2 hc
      refine ax_inc (x := x5) (pc' := 150) (L' := [some (.ref 222), some (ax_i x1), some (ax_i x2), some (ax_i x3), some (ax_i x4), some (ax_i (x5 + 1)), y6]) ⟨_, rfl⟩ rfl rfl rfl rfl ?_
      refine ax_mv 1 3 [some (.ref 222), some (ax_i x1), some (ax_i x2), some (ax_i x3), some (ax_i x4), some (ax_i (x5 + 1)), y6] [] rfl ?_
      exact h
    · have h := h.1 (Classical.not_not.mp hc)
      refine ax_mv 1 24 [some (.ref 222), some (ax_i x1), some (ax_i x2), some (ax_i x3), some (ax_i x4), some (ax_i x5), y6] [.ref 222] rfl ?_
      refine ax_gR (v := .ref 264) (pc' := 27) ⟨_, rfl⟩ fl_12_134 ay_222 rfl rfl ?_
      refine ax_mv 1 29 [some (.ref 222), some (ax_i x1), some (ax_i x2), some (ax_i x3), some (ax_i x4), some (ax_i x5), y6] [ax_i x5, .ref 264] rfl ?_
      obtain ⟨o2, h⟩ := h
      refine ax_ild (n := 351) (pc' := 30) ⟨_, rfl⟩ ay_264 (by decide) o2 rfl ?_
      refine ax_mv 1 31 [some (.ref 222), some (ax_i x1), some (ax_i x2), some (ax_i x3), some (ax_i x4), some (ax_i x5), y6] [ax_i x3, ax_i (V 264 x5)] rfl ?_
      refine ax_if2 (p1 := 37) (p2 := 34) ⟨_, rfl⟩ (by decide) rfl (hg _ _) hx3 (fun hc => ?_) (fun hc => ?_)
      · have h := h.1 hc
        refine ax_mv 1 38 [some (.ref 222), some (ax_i x1), some (ax_i x2), some (ax_i x3), some (ax_i x4), some (ax_i x5), y6] [.ref 222] rfl ?_
        refine ax_gR (v := .ref 261) (pc' := 41) ⟨_, rfl⟩ fl_12_125 ay_222 rfl rfl ?_
        refine ax_mv 1 43 [some (.ref 222), some (ax_i x1), some (ax_i x2), some (ax_i x3), some (ax_i x4), some (ax_i x5), y6] [ax_i x5, .ref 261] rfl ?_
        obtain ⟨o3, h⟩ := h
        refine ax_ild (n := 351) (pc' := 44) ⟨_, rfl⟩ ay_261 (by decide) o3 rfl ?_
        refine ax_sti (i := 0) (k := 6) (n := 2) (pc' := 46) (L' := [some (.ref 222), some (ax_i x1), some (ax_i x2), some (ax_i x3), some (ax_i x4), some (ax_i x5), some (ax_i (V 261 x5))]) ⟨_, rfl⟩ rfl rfl rfl (Nat.le_of_ble_eq_true rfl) rfl rfl ?_
        exact h
      · have h := h.2 hc
        refine ax_mv 1 147 [some (.ref 222), some (ax_i x1), some (ax_i x2), some (ax_i x3), some (ax_i x4), some (ax_i x5), y6] [] rfl ?_
        refine ax_inc (x := x5) (pc' := 150) (L' := [some (.ref 222), some (ax_i x1), some (ax_i x2), some (ax_i x3), some (ax_i x4), some (ax_i (x5 + 1)), y6]) ⟨_, rfl⟩ rfl rfl rfl rfl ?_
        refine ax_mv 1 3 [some (.ref 222), some (ax_i x1), some (ax_i x2), some (ax_i x3), some (ax_i x4), some (ax_i (x5 + 1)), y6] [] rfl ?_
        exact h
set_option maxRecDepth 20000 in
theorem r_Model_renewState_46 {d : Nat} {V : ax_V} {Φ : ax_V → Prop} {Θ : ax_V → Prop} {x1 : Int} {x2 : Int} {x3 : Int} {x4 : Int} {x5 : Int} {x6 : Int} (hg : ax_g V) (hx1 : ax_rg x1) (hx2 : ax_rg x2) (hx3 : ax_rg x3) (hx4 : ax_rg x4) (hx5 : ax_rg x5) (hx6 : ax_rg x6) (h : (0 ≤ x5 ∧ x5 < 351) ∧ ((V 262 x5 < x6 → k_Model_renewState_3 d x1 x2 x3 x4 (x5 + 1) (some (ax_i x6)) V Φ Θ) ∧ (x6 ≤ V 262 x5 → (0 ≤ x6 ∧ x6 < 701) ∧ ((V 241 x6 = 22 → ax_N ay_lay d q_Model_renew [.ref 222, ax_i x1, ax_i x6, ax_i x4] V (fun V1 => (0 ≤ x6 ∧ x6 < 701) ∧ ((V1 241 x6 = 6 → k_Model_renewState_106 d x1 x2 x3 x4 x5 x6 V1 Φ Θ) ∧ (¬ V1 241 x6 = 6 → (0 ≤ x6 ∧ x6 < 701) ∧ ((V1 241 x6 = 19 → k_Model_renewState_106 d x1 x2 x3 x4 x5 x6 V1 Φ Θ) ∧ (¬ V1 241 x6 = 19 → k_Model_renewState_46 d x1 x2 x3 x4 x5 (x6 + 1) V1 Φ Θ))))) Θ) ∧ (¬ V 241 x6 = 22 → (0 ≤ x6 ∧ x6 < 701) ∧ ((V 241 x6 = 6 → k_Model_renewState_106 d x1 x2 x3 x4 x5 x6 V Φ Θ) ∧ (¬ V 241 x6 = 6 → (0 ≤ x6 ∧ x6 < 701) ∧ ((V 241 x6 = 19 → k_Model_renewState_106 d x1 x2 x3 x4 x5 x6 V Φ Θ) ∧ (¬ V 241 x6 = 19 → k_Model_renewState_46 d x1 x2 x3 x4 x5 (x6 + 1) V Φ Θ))))))))) : k_Model_renewState_46 d x1 x2 x3 x4 x5 x6 V Φ Θ := by
  refine ax_mv 2 49 [some (.ref 222), some (ax_i x1), some (ax_i x2), some (ax_i x3), some (ax_i x4), some (ax_i x5), some (ax_i x6)] [.ref 222, ax_i x6] rfl ?_
  refine ax_gR (v := .ref 262) (pc' := 52) ⟨_, rfl⟩ fl_12_128 ay_222 rfl rfl ?_
  refine ax_mv 1 54 [some (.ref 222), some (ax_i x1), some (ax_i x2), some (ax_i x3), some (ax_i x4), some (ax_i x5), some (ax_i x6)] [ax_i x5, .ref 262, ax_i x6] rfl ?_
  obtain ⟨o4, h⟩ := h
  refine ax_ild (n := 351) (pc' := 55) ⟨_, rfl⟩ ay_262 (by decide) o4 rfl ?_
  refine ax_if2 (p1 := 147) (p2 := 58) ⟨_, rfl⟩ (by decide) rfl hx6 (hg _ _) (fun hc => ?_) (fun hc => ?_)
  · have h := h.1 hc
    refine ax_inc (x := x5) (pc' := 150) (L' := [some (.ref 222), some (ax_i x1), some (ax_i x2), some (ax_i x3), some (ax_i x4), some (ax_i (x5 + 1)), some (ax_i x6)]) ⟨_, rfl⟩ rfl rfl rfl rfl ?_
    refine ax_mv 1 3 [some (.ref 222), some (ax_i x1), some (ax_i x2), some (ax_i x3), some (ax_i x4), some (ax_i (x5 + 1)), some (ax_i x6)] [] rfl ?_
    exact h
  · have h := h.2 (Int.not_lt.mp hc)
    refine ax_mv 1 59 [some (.ref 222), some (ax_i x1), some (ax_i x2), some (ax_i x3), some (ax_i x4), some (ax_i x5), some (ax_i x6)] [.ref 222] rfl ?_
    refine ax_gR (v := .ref 241) (pc' := 62) ⟨_, rfl⟩ fl_12_65 ay_222 rfl rfl ?_
    refine ax_mv 1 64 [some (.ref 222), some (ax_i x1), some (ax_i x2), some (ax_i x3), some (ax_i x4), some (ax_i x5), some (ax_i x6)] [ax_i x6, .ref 241] rfl ?_
    obtain ⟨o5, h⟩ := h
    refine ax_ild (n := 701) (pc' := 65) ⟨_, rfl⟩ ay_241 (by decide) o5 rfl ?_
    refine ax_bip (pc' := 67) ⟨_, rfl⟩ (by decide) rfl ?_
    refine ax_if2 (p1 := 79) (p2 := 70) ⟨_, rfl⟩ (by decide) rfl (hg _ _) (by decide) (fun hc => ?_) (fun hc => ?_)
    · have h := h.2 hc
      refine ax_mv 1 80 [some (.ref 222), some (ax_i x1), some (ax_i x2), some (ax_i x3), some (ax_i x4), some (ax_i x5), some (ax_i x6)] [.ref 222] rfl ?_
      refine ax_gR (v := .ref 241) (pc' := 83) ⟨_, rfl⟩ fl_12_65 ay_222 rfl rfl ?_
      refine ax_mv 1 85 [some (.ref 222), some (ax_i x1), some (ax_i x2), some (ax_i x3), some (ax_i x4), some (ax_i x5), some (ax_i x6)] [ax_i x6, .ref 241] rfl ?_
      obtain ⟨o6, h⟩ := h
      refine ax_ild (n := 701) (pc' := 86) ⟨_, rfl⟩ ay_241 (by decide) o6 rfl ?_
      refine ax_bip (pc' := 88) ⟨_, rfl⟩ (by decide) rfl ?_
      refine ax_if2 (p1 := 106) (p2 := 91) ⟨_, rfl⟩ (by decide) rfl (hg _ _) (by decide) (fun hc => ?_) (fun hc => ?_)
      · have h := h.1 hc
        exact h
      · have h := h.2 hc
        refine ax_mv 1 92 [some (.ref 222), some (ax_i x1), some (ax_i x2), some (ax_i x3), some (ax_i x4), some (ax_i x5), some (ax_i x6)] [.ref 222] rfl ?_
        refine ax_gR (v := .ref 241) (pc' := 95) ⟨_, rfl⟩ fl_12_65 ay_222 rfl rfl ?_
        refine ax_mv 1 97 [some (.ref 222), some (ax_i x1), some (ax_i x2), some (ax_i x3), some (ax_i x4), some (ax_i x5), some (ax_i x6)] [ax_i x6, .ref 241] rfl ?_
        obtain ⟨o7, h⟩ := h
        refine ax_ild (n := 701) (pc' := 98) ⟨_, rfl⟩ ay_241 (by decide) o7 rfl ?_
        refine ax_bip (pc' := 100) ⟨_, rfl⟩ (by decide) rfl ?_
        refine ax_if2 (p1 := 106) (p2 := 103) ⟨_, rfl⟩ (by decide) rfl (hg _ _) (by decide) (fun hc => ?_) (fun hc => ?_)
        · have h := h.1 hc
          exact h
        · have h := h.2 hc
          refine ax_mv 1 141 [some (.ref 222), some (ax_i x1), some (ax_i x2), some (ax_i x3), some (ax_i x4), some (ax_i x5), some (ax_i x6)] [] rfl ?_
          refine ax_inc (x := x6) (pc' := 144) (L' := [some (.ref 222), some (ax_i x1), some (ax_i x2), some (ax_i x3), some (ax_i x4), some (ax_i x5), some (ax_i (x6 + 1))]) ⟨_, rfl⟩ rfl rfl rfl rfl ?_
          refine ax_mv 1 46 [some (.ref 222), some (ax_i x1), some (ax_i x2), some (ax_i x3), some (ax_i x4), some (ax_i x5), some (ax_i (x6 + 1))] [] rfl ?_
          exact h
    · have h := h.1 (Classical.not_not.mp hc)
      refine ax_mv 4 76 [some (.ref 222), some (ax_i x1), some (ax_i x2), some (ax_i x3), some (ax_i x4), some (ax_i x5), some (ax_i x6)] [ax_i x4, ax_i x6, ax_i x1, .ref 222] rfl ?_
      refine ax_callN (pc' := 79) ⟨_, rfl⟩ ml_12_638 (rest := []) rfl (fun ss hs => ⟨_, _, ay_222 ss hs⟩) (Nat.le_of_ble_eq_true rfl) rfl rfl h (fun V1 hg1 h => ?_)
      refine ax_mv 1 80 [some (.ref 222), some (ax_i x1), some (ax_i x2), some (ax_i x3), some (ax_i x4), some (ax_i x5), some (ax_i x6)] [.ref 222] rfl ?_
      refine ax_gR (v := .ref 241) (pc' := 83) ⟨_, rfl⟩ fl_12_65 ay_222 rfl rfl ?_
      refine ax_mv 1 85 [some (.ref 222), some (ax_i x1), some (ax_i x2), some (ax_i x3), some (ax_i x4), some (ax_i x5), some (ax_i x6)] [ax_i x6, .ref 241] rfl ?_
      obtain ⟨o8, h⟩ := h
      refine ax_ild (n := 701) (pc' := 86) ⟨_, rfl⟩ ay_241 (by decide) o8 rfl ?_
      refine ax_bip (pc' := 88) ⟨_, rfl⟩ (by decide) rfl ?_
      refine ax_if2 (p1 := 106) (p2 := 91) ⟨_, rfl⟩ (by decide) rfl (hg1 _ _) (by decide) (fun hc => ?_) (fun hc => ?_)
      · have h := h.1 hc
        exact h
      · have h := h.2 hc
        refine ax_mv 1 92 [some (.ref 222), some (ax_i x1), some (ax_i x2), some (ax_i x3), some (ax_i x4), some (ax_i x5), some (ax_i x6)] [.ref 222] rfl ?_
        refine ax_gR (v := .ref 241) (pc' := 95) ⟨_, rfl⟩ fl_12_65 ay_222 rfl rfl ?_
        refine ax_mv 1 97 [some (.ref 222), some (ax_i x1), some (ax_i x2), some (ax_i x3), some (ax_i x4), some (ax_i x5), some (ax_i x6)] [ax_i x6, .ref 241] rfl ?_
        obtain ⟨o9, h⟩ := h
        refine ax_ild (n := 701) (pc' := 98) ⟨_, rfl⟩ ay_241 (by decide) o9 rfl ?_
        refine ax_bip (pc' := 100) ⟨_, rfl⟩ (by decide) rfl ?_
        refine ax_if2 (p1 := 106) (p2 := 103) ⟨_, rfl⟩ (by decide) rfl (hg1 _ _) (by decide) (fun hc => ?_) (fun hc => ?_)
        · have h := h.1 hc
          exact h
        · have h := h.2 hc
          refine ax_mv 1 141 [some (.ref 222), some (ax_i x1), some (ax_i x2), some (ax_i x3), some (ax_i x4), some (ax_i x5), some (ax_i x6)] [] rfl ?_
          refine ax_inc (x := x6) (pc' := 144) (L' := [some (.ref 222), some (ax_i x1), some (ax_i x2), some (ax_i x3), some (ax_i x4), some (ax_i x5), some (ax_i (x6 + 1))]) ⟨_, rfl⟩ rfl rfl rfl rfl ?_
          refine ax_mv 1 46 [some (.ref 222), some (ax_i x1), some (ax_i x2), some (ax_i x3), some (ax_i x4), some (ax_i x5), some (ax_i (x6 + 1))] [] rfl ?_
          exact h
set_option maxRecDepth 20000 in
theorem r_Model_renewState_106 {d : Nat} {V : ax_V} {Φ : ax_V → Prop} {Θ : ax_V → Prop} {x1 : Int} {x2 : Int} {x3 : Int} {x4 : Int} {x5 : Int} {x6 : Int} (hg : ax_g V) (hx1 : ax_rg x1) (hx2 : ax_rg x2) (hx3 : ax_rg x3) (hx4 : ax_rg x4) (hx5 : ax_rg x5) (hx6 : ax_rg x6) (h : (0 ≤ x6 ∧ x6 < 701) ∧ (0 ≤ x1 + (V 257 x6) ∧ x1 + (V 257 x6) < 600) ∧ (∀ V1, V1 = ax_u V 292 (x1 + (V 257 x6)) 0 → ((x4 = 0 → k_Model_renewState_46 d x1 x2 x3 x4 x5 (x6 + 1) V1 Φ Θ) ∧ (¬ x4 = 0 → (0 ≤ x6 ∧ x6 < 701) ∧ (0 ≤ x1 + (V1 257 x6) ∧ x1 + (V1 257 x6) < 600) ∧ (∀ V2, V2 = ax_u V1 291 (x1 + (V1 257 x6)) 0 → k_Model_renewState_46 d x1 x2 x3 x4 x5 (x6 + 1) V2 Φ Θ))))) : k_Model_renewState_106 d x1 x2 x3 x4 x5 x6 V Φ Θ := by
  refine ax_mv 1 107 [some (.ref 222), some (ax_i x1), some (ax_i x2), some (ax_i x3), some (ax_i x4), some (ax_i x5), some (ax_i x6)] [.ref 222] rfl ?_
  refine ax_gR (v := .ref 292) (pc' := 110) ⟨_, rfl⟩ fl_12_218 ay_222 rfl rfl ?_
  refine ax_mv 2 112 [some (.ref 222), some (ax_i x1), some (ax_i x2), some (ax_i x3), some (ax_i x4), some (ax_i x5), some (ax_i x6)] [.ref 222, ax_i x1, .ref 292] rfl ?_
  refine ax_gR (v := .ref 257) (pc' := 115) ⟨_, rfl⟩ fl_12_113 ay_222 rfl rfl ?_
  refine ax_mv 1 117 [some (.ref 222), some (ax_i x1), some (ax_i x2), some (ax_i x3), some (ax_i x4), some (ax_i x5), some (ax_i x6)] [ax_i x6, .ref 257, ax_i x1, .ref 292] rfl ?_
  obtain ⟨o10, h⟩ := h
  refine ax_ild (n := 701) (pc' := 118) ⟨_, rfl⟩ ay_257 (by decide) o10 rfl ?_
  refine ax_add (pc' := 119) ⟨_, rfl⟩ rfl ?_
  refine ax_mv 1 120 [some (.ref 222), some (ax_i x1), some (ax_i x2), some (ax_i x3), some (ax_i x4), some (ax_i x5), some (ax_i x6)] [ax_i 0, ax_i (x1 + (V 257 x6)), .ref 292] rfl ?_
  obtain ⟨o11, h⟩ := h
  obtain ⟨V1, eV1⟩ : ∃ W9 : ax_V, W9 = ax_u V 292 (x1 + (V 257 x6)) 0 := ⟨_, rfl⟩
  have h := h V1 eV1
  have hg1 : ax_g V1 := eV1 ▸ ax_u_g hg (by decide)
  refine ax_ist (n := 600) (pc' := 121) ⟨_, rfl⟩ ay_ok ay_292 (by decide) o11 eV1 rfl ?_
  refine ax_mv 1 123 [some (.ref 222), some (ax_i x1), some (ax_i x2), some (ax_i x3), some (ax_i x4), some (ax_i x5), some (ax_i x6)] [ax_i x4] rfl ?_
  refine ax_if (p1 := 141) (p2 := 126) ⟨_, rfl⟩ (by decide) rfl hx4 (fun hc => ?_) (fun hc => ?_)
  · have h := h.1 hc
    refine ax_inc (x := x6) (pc' := 144) (L' := [some (.ref 222), some (ax_i x1), some (ax_i x2), some (ax_i x3), some (ax_i x4), some (ax_i x5), some (ax_i (x6 + 1))]) ⟨_, rfl⟩ rfl rfl rfl rfl ?_
    refine ax_mv 1 46 [some (.ref 222), some (ax_i x1), some (ax_i x2), some (ax_i x3), some (ax_i x4), some (ax_i x5), some (ax_i (x6 + 1))] [] rfl ?_
    exact h
  · have h := h.2 hc
    refine ax_mv 1 127 [some (.ref 222), some (ax_i x1), some (ax_i x2), some (ax_i x3), some (ax_i x4), some (ax_i x5), some (ax_i x6)] [.ref 222] rfl ?_
    refine ax_gR (v := .ref 291) (pc' := 130) ⟨_, rfl⟩ fl_12_215 ay_222 rfl rfl ?_
    refine ax_mv 2 132 [some (.ref 222), some (ax_i x1), some (ax_i x2), some (ax_i x3), some (ax_i x4), some (ax_i x5), some (ax_i x6)] [.ref 222, ax_i x1, .ref 291] rfl ?_
    refine ax_gR (v := .ref 257) (pc' := 135) ⟨_, rfl⟩ fl_12_113 ay_222 rfl rfl ?_
    refine ax_mv 1 137 [some (.ref 222), some (ax_i x1), some (ax_i x2), some (ax_i x3), some (ax_i x4), some (ax_i x5), some (ax_i x6)] [ax_i x6, .ref 257, ax_i x1, .ref 291] rfl ?_
    obtain ⟨o12, h⟩ := h
    refine ax_ild (n := 701) (pc' := 138) ⟨_, rfl⟩ ay_257 (by decide) o12 rfl ?_
    refine ax_add (pc' := 139) ⟨_, rfl⟩ rfl ?_
    refine ax_mv 1 140 [some (.ref 222), some (ax_i x1), some (ax_i x2), some (ax_i x3), some (ax_i x4), some (ax_i x5), some (ax_i x6)] [ax_i 0, ax_i (x1 + (V1 257 x6)), .ref 291] rfl ?_
    obtain ⟨o13, h⟩ := h
    obtain ⟨V2, eV2⟩ : ∃ W9 : ax_V, W9 = ax_u V1 291 (x1 + (V1 257 x6)) 0 := ⟨_, rfl⟩
    have h := h V2 eV2
    have hg2 : ax_g V2 := eV2 ▸ ax_u_g hg1 (by decide)
    refine ax_ist (n := 600) (pc' := 141) ⟨_, rfl⟩ ay_ok ay_291 (by decide) o13 eV2 rfl ?_
    refine ax_inc (x := x6) (pc' := 144) (L' := [some (.ref 222), some (ax_i x1), some (ax_i x2), some (ax_i x3), some (ax_i x4), some (ax_i x5), some (ax_i (x6 + 1))]) ⟨_, rfl⟩ rfl rfl rfl rfl ?_
    refine ax_mv 1 46 [some (.ref 222), some (ax_i x1), some (ax_i x2), some (ax_i x3), some (ax_i x4), some (ax_i x5), some (ax_i (x6 + 1))] [] rfl ?_
    exact h
set_option maxRecDepth 20000 in
theorem r_Model_renewState {d : Nat} {V : ax_V} {Φ : ax_V → Prop} {Θ : ax_V → Prop} {x1 : Int} {x2 : Int} {x3 : Int} {x4 : Int} (hg : ax_g V) (hx1 : ax_rg x1) (hx2 : ax_rg x2) (hx3 : ax_rg x3) (hx4 : ax_rg x4) (h : k_Model_renewState_3 d x1 x2 x3 x4 0 none V Φ Θ) : ax_N ay_lay (d + 1) q_Model_renewState [.ref 222, ax_i x1, ax_i x2, ax_i x3, ax_i x4] V Φ Θ := by
  refine ax_T.of (M := m_Model_renewState) rfl (Nat.le_of_ble_eq_true rfl) ?_
  refine ax_mv 0 0 [some (.ref 222), some (ax_i x1), some (ax_i x2), some (ax_i x3), some (ax_i x4), none, none] [] rfl ?_
  refine ax_mv 1 1 [some (.ref 222), some (ax_i x1), some (ax_i x2), some (ax_i x3), some (ax_i x4), none, none] [ax_i 0] rfl ?_
  refine ax_sti (i := 0) (k := 5) (n := 2) (pc' := 3) (L' := [some (.ref 222), some (ax_i x1), some (ax_i x2), some (ax_i x3), some (ax_i x4), some (ax_i 0), none]) ⟨_, rfl⟩ rfl rfl rfl (Nat.le_of_ble_eq_true rfl) rfl rfl ?_
  exact h
theorem r_Model_holds {d : Nat} {V : ax_V} {Φ : Int → ax_V → Prop} {Θ : ax_V → Prop} {x1 : Int} {x2 : Int} {x3 : Int} (hg : ax_g V) (hx1 : ax_rg x1) (hx2 : ax_rg x2) (hx3 : ax_rg x3) (h : (0 ≤ x3 ∧ x3 < 351) ∧ ((V 258 x3 = x2 → (0 ≤ x3 ∧ x3 < 351) ∧ ((V 263 x3 = -1 → Φ 1 V) ∧ (¬ V 263 x3 = -1 → (0 ≤ x3 ∧ x3 < 351) ∧ (0 ≤ (351 * x1) + (V 263 x3) ∧ (351 * x1) + (V 263 x3) < 3159) ∧ (0 ≤ x3 ∧ x3 < 351) ∧ ((V 298 ((351 * x1) + (V 263 x3)) = V 264 x3 → Φ 1 V) ∧ (¬ V 298 ((351 * x1) + (V 263 x3)) = V 264 x3 → Φ 0 V))))) ∧ (¬ V 258 x3 = x2 → Φ 0 V))) : ax_I ay_lay (d + 1) q_Model_holds [.ref 222, ax_i x1, ax_i x2, ax_i x3] V Φ Θ := by
  refine ax_T.of (M := m_Model_holds) rfl (Nat.le_of_ble_eq_true rfl) ?_
  refine ax_mv 0 0 [some (.ref 222), some (ax_i x1), some (ax_i x2), some (ax_i x3)] [] rfl ?_
  refine ax_mv 1 1 [some (.ref 222), some (ax_i x1), some (ax_i x2), some (ax_i x3)] [.ref 222] rfl ?_
  refine ax_gR (v := .ref 258) (pc' := 4) ⟨_, rfl⟩ fl_12_116 ay_222 rfl rfl ?_
  refine ax_mv 1 5 [some (.ref 222), some (ax_i x1), some (ax_i x2), some (ax_i x3)] [ax_i x3, .ref 258] rfl ?_
  obtain ⟨o1, h⟩ := h
  refine ax_ild (n := 351) (pc' := 6) ⟨_, rfl⟩ ay_258 (by decide) o1 rfl ?_
  refine ax_mv 1 7 [some (.ref 222), some (ax_i x1), some (ax_i x2), some (ax_i x3)] [ax_i x2, ax_i (V 258 x3)] rfl ?_
  refine ax_if2 (p1 := 50) (p2 := 10) ⟨_, rfl⟩ (by decide) rfl (hg _ _) hx2 (fun hc => ?_) (fun hc => ?_)
  · have h := h.2 hc
    refine ax_mv 1 51 [some (.ref 222), some (ax_i x1), some (ax_i x2), some (ax_i x3)] [ax_i 0] rfl ?_
    exact ax_iret ⟨_, rfl⟩ rfl (ax_nbv (by decide)) (by decide) hg h
  · have h := h.1 (Classical.not_not.mp hc)
    refine ax_mv 1 11 [some (.ref 222), some (ax_i x1), some (ax_i x2), some (ax_i x3)] [.ref 222] rfl ?_
    refine ax_gR (v := .ref 263) (pc' := 14) ⟨_, rfl⟩ fl_12_131 ay_222 rfl rfl ?_
    refine ax_mv 1 15 [some (.ref 222), some (ax_i x1), some (ax_i x2), some (ax_i x3)] [ax_i x3, .ref 263] rfl ?_
    obtain ⟨o2, h⟩ := h
    refine ax_ild (n := 351) (pc' := 16) ⟨_, rfl⟩ ay_263 (by decide) o2 rfl ?_
    refine ax_mv 1 17 [some (.ref 222), some (ax_i x1), some (ax_i x2), some (ax_i x3)] [ax_i (-1), ax_i (V 263 x3)] rfl ?_
    refine ax_if2 (p1 := 46) (p2 := 20) ⟨_, rfl⟩ (by decide) rfl (hg _ _) (by decide) (fun hc => ?_) (fun hc => ?_)
    · have h := h.1 hc
      refine ax_mv 2 51 [some (.ref 222), some (ax_i x1), some (ax_i x2), some (ax_i x3)] [ax_i 1] rfl ?_
      exact ax_iret ⟨_, rfl⟩ rfl (ax_nbv (by decide)) (by decide) hg h
    · have h := h.2 hc
      refine ax_mv 1 21 [some (.ref 222), some (ax_i x1), some (ax_i x2), some (ax_i x3)] [.ref 222] rfl ?_
      refine ax_gR (v := .ref 298) (pc' := 24) ⟨_, rfl⟩ fl_12_236 ay_222 rfl rfl ?_
      refine ax_sip (pc' := 27) ⟨_, rfl⟩ (by decide) rfl ?_
      refine ax_mv 1 28 [some (.ref 222), some (ax_i x1), some (ax_i x2), some (ax_i x3)] [ax_i x1, ax_i 351, .ref 298] rfl ?_
      refine ax_mul (pc' := 29) ⟨_, rfl⟩ rfl ?_
      refine ax_mv 1 30 [some (.ref 222), some (ax_i x1), some (ax_i x2), some (ax_i x3)] [.ref 222, ax_i (351 * x1), .ref 298] rfl ?_
      refine ax_gR (v := .ref 263) (pc' := 33) ⟨_, rfl⟩ fl_12_131 ay_222 rfl rfl ?_
      refine ax_mv 1 34 [some (.ref 222), some (ax_i x1), some (ax_i x2), some (ax_i x3)] [ax_i x3, .ref 263, ax_i (351 * x1), .ref 298] rfl ?_
      obtain ⟨o3, h⟩ := h
      refine ax_ild (n := 351) (pc' := 35) ⟨_, rfl⟩ ay_263 (by decide) o3 rfl ?_
      refine ax_add (pc' := 36) ⟨_, rfl⟩ rfl ?_
      obtain ⟨o4, h⟩ := h
      refine ax_ild (n := 3159) (pc' := 37) ⟨_, rfl⟩ ay_298 (by decide) o4 rfl ?_
      refine ax_mv 1 38 [some (.ref 222), some (ax_i x1), some (ax_i x2), some (ax_i x3)] [.ref 222, ax_i (V 298 ((351 * x1) + (V 263 x3)))] rfl ?_
      refine ax_gR (v := .ref 264) (pc' := 41) ⟨_, rfl⟩ fl_12_134 ay_222 rfl rfl ?_
      refine ax_mv 1 42 [some (.ref 222), some (ax_i x1), some (ax_i x2), some (ax_i x3)] [ax_i x3, .ref 264, ax_i (V 298 ((351 * x1) + (V 263 x3)))] rfl ?_
      obtain ⟨o5, h⟩ := h
      refine ax_ild (n := 351) (pc' := 43) ⟨_, rfl⟩ ay_264 (by decide) o5 rfl ?_
      refine ax_if2 (p1 := 50) (p2 := 46) ⟨_, rfl⟩ (by decide) rfl (hg _ _) (hg _ _) (fun hc => ?_) (fun hc => ?_)
      · have h := h.2 hc
        refine ax_mv 1 51 [some (.ref 222), some (ax_i x1), some (ax_i x2), some (ax_i x3)] [ax_i 0] rfl ?_
        exact ax_iret ⟨_, rfl⟩ rfl (ax_nbv (by decide)) (by decide) hg h
      · have h := h.1 (Classical.not_not.mp hc)
        refine ax_mv 2 51 [some (.ref 222), some (ax_i x1), some (ax_i x2), some (ax_i x3)] [ax_i 1] rfl ?_
        exact ax_iret ⟨_, rfl⟩ rfl (ax_nbv (by decide)) (by decide) hg h
theorem r_Model_leave {d : Nat} {V : ax_V} {Φ : ax_V → Prop} {Θ : ax_V → Prop} {x1 : Int} {x2 : Int} {x3 : Int} {x4 : Int} (hg : ax_g V) (hx1 : ax_rg x1) (hx2 : ax_rg x2) (hx3 : ax_rg x3) (hx4 : ax_rg x4) (h : (0 ≤ (351 * x1) + x4 ∧ (351 * x1) + x4 < 3159) ∧ ax_I ay_lay d q_Model_firstOf [.ref 222, ax_i x1, ax_i x2, ax_i x3, ax_i x4, ax_i (V 298 ((351 * x1) + x4)), ax_i 0] V (fun r1 V1 => (0 ≤ x4 ∧ x4 < 351) ∧ ((r1 = -1 → (0 ≤ x3 + (V1 270 x4) ∧ x3 + (V1 270 x4) < 600) ∧ (∀ V4, V4 = ax_u V1 292 (x3 + (V1 270 x4)) (V 298 ((351 * x1) + x4)) → ((r1 = -1 → Φ V4) ∧ (¬ r1 = -1 → (0 ≤ r1 ∧ r1 < 351) ∧ ((V4 274 r1 = 0 → Φ V4) ∧ (¬ V4 274 r1 = 0 → (0 ≤ r1 ∧ r1 < 351) ∧ ax_N ay_lay d q_Model_renewState [.ref 222, ax_i x3, ax_i x4, ax_i (V4 275 r1), ax_i 0] V4 (fun V5 => Φ V5) Θ)))))) ∧ (¬ r1 = -1 → (0 ≤ r1 ∧ r1 < 351) ∧ (0 ≤ x3 + (V1 270 x4) ∧ x3 + (V1 270 x4) < 600) ∧ (∀ V2, V2 = ax_u V1 292 (x3 + (V1 270 x4)) (V1 275 r1) → ((r1 = -1 → Φ V2) ∧ (¬ r1 = -1 → (0 ≤ r1 ∧ r1 < 351) ∧ ((V2 274 r1 = 0 → Φ V2) ∧ (¬ V2 274 r1 = 0 → (0 ≤ r1 ∧ r1 < 351) ∧ ax_N ay_lay d q_Model_renewState [.ref 222, ax_i x3, ax_i x4, ax_i (V2 275 r1), ax_i 0] V2 (fun V3 => Φ V3) Θ)))))))) Θ) : ax_N ay_lay (d + 1) q_Model_leave [.ref 222, ax_i x1, ax_i x2, ax_i x3, ax_i x4] V Φ Θ := by
  refine ax_T.of (M := m_Model_leave) rfl (Nat.le_of_ble_eq_true rfl) ?_
  refine ax_mv 0 0 [some (.ref 222), some (ax_i x1), some (ax_i x2), some (ax_i x3), some (ax_i x4), none, none] [] rfl ?_
  refine ax_mv 1 1 [some (.ref 222), some (ax_i x1), some (ax_i x2), some (ax_i x3), some (ax_i x4), none, none] [.ref 222] rfl ?_
  refine ax_gR (v := .ref 298) (pc' := 4) ⟨_, rfl⟩ fl_12_236 ay_222 rfl rfl ?_
  refine ax_sip (pc' := 7) ⟨_, rfl⟩ (by decide) rfl ?_
  refine ax_mv 1 8 [some (.ref 222), some (ax_i x1), some (ax_i x2), some (ax_i x3), some (ax_i x4), none, none] [ax_i x1, ax_i 351, .ref 298] rfl ?_
  refine ax_mul (pc' := 9) ⟨_, rfl⟩ rfl ?_
  refine ax_mv 1 11 [some (.ref 222), some (ax_i x1), some (ax_i x2), some (ax_i x3), some (ax_i x4), none, none] [ax_i x4, ax_i (351 * x1), .ref 298] rfl ?_
  refine ax_add (pc' := 12) ⟨_, rfl⟩ rfl ?_
  obtain ⟨o1, h⟩ := h
  refine ax_ild (n := 3159) (pc' := 13) ⟨_, rfl⟩ ay_298 (by decide) o1 rfl ?_
  refine ax_sti (i := 0) (k := 5) (n := 2) (pc' := 15) (L' := [some (.ref 222), some (ax_i x1), some (ax_i x2), some (ax_i x3), some (ax_i x4), some (ax_i (V 298 ((351 * x1) + x4))), none]) ⟨_, rfl⟩ rfl rfl rfl (Nat.le_of_ble_eq_true rfl) rfl rfl ?_
  refine ax_mv 7 24 [some (.ref 222), some (ax_i x1), some (ax_i x2), some (ax_i x3), some (ax_i x4), some (ax_i (V 298 ((351 * x1) + x4))), none] [ax_i 0, ax_i (V 298 ((351 * x1) + x4)), ax_i x4, ax_i x3, ax_i x2, ax_i x1, .ref 222] rfl ?_
  refine ax_callI (pc' := 27) ⟨_, rfl⟩ ml_12_656 (rest := []) rfl (fun ss hs => ⟨_, _, ay_222 ss hs⟩) (Nat.le_of_ble_eq_true rfl) rfl rfl h (fun r1 V1 hg1 hr1 h => ?_)
  refine ax_sti (i := 0) (k := 6) (n := 2) (pc' := 29) (L' := [some (.ref 222), some (ax_i x1), some (ax_i x2), some (ax_i x3), some (ax_i x4), some (ax_i (V 298 ((351 * x1) + x4))), some (ax_i r1)]) ⟨_, rfl⟩ rfl rfl rfl (Nat.le_of_ble_eq_true rfl) rfl rfl ?_
  refine ax_mv 1 30 [some (.ref 222), some (ax_i x1), some (ax_i x2), some (ax_i x3), some (ax_i x4), some (ax_i (V 298 ((351 * x1) + x4))), some (ax_i r1)] [.ref 222] rfl ?_
  refine ax_gR (v := .ref 292) (pc' := 33) ⟨_, rfl⟩ fl_12_218 ay_222 rfl rfl ?_
  refine ax_mv 2 35 [some (.ref 222), some (ax_i x1), some (ax_i x2), some (ax_i x3), some (ax_i x4), some (ax_i (V 298 ((351 * x1) + x4))), some (ax_i r1)] [.ref 222, ax_i x3, .ref 292] rfl ?_
  refine ax_gR (v := .ref 270) (pc' := 38) ⟨_, rfl⟩ fl_12_152 ay_222 rfl rfl ?_
  refine ax_mv 1 40 [some (.ref 222), some (ax_i x1), some (ax_i x2), some (ax_i x3), some (ax_i x4), some (ax_i (V 298 ((351 * x1) + x4))), some (ax_i r1)] [ax_i x4, .ref 270, ax_i x3, .ref 292] rfl ?_
  obtain ⟨o2, h⟩ := h
  refine ax_ild (n := 351) (pc' := 41) ⟨_, rfl⟩ ay_270 (by decide) o2 rfl ?_
  refine ax_add (pc' := 42) ⟨_, rfl⟩ rfl ?_
  refine ax_mv 2 45 [some (.ref 222), some (ax_i x1), some (ax_i x2), some (ax_i x3), some (ax_i x4), some (ax_i (V 298 ((351 * x1) + x4))), some (ax_i r1)] [ax_i (-1), ax_i r1, ax_i (x3 + (V1 270 x4)), .ref 292] rfl ?_
  refine ax_if2 (p1 := 53) (p2 := 48) ⟨_, rfl⟩ (by decide) rfl hr1 (by decide) (fun hc => ?_) (fun hc => ?_)
  · have h := h.2 hc
    refine ax_mv 1 54 [some (.ref 222), some (ax_i x1), some (ax_i x2), some (ax_i x3), some (ax_i x4), some (ax_i (V 298 ((351 * x1) + x4))), some (ax_i r1)] [.ref 222, ax_i (x3 + (V1 270 x4)), .ref 292] rfl ?_
    refine ax_gR (v := .ref 275) (pc' := 57) ⟨_, rfl⟩ fl_12_167 ay_222 rfl rfl ?_
    refine ax_mv 1 59 [some (.ref 222), some (ax_i x1), some (ax_i x2), some (ax_i x3), some (ax_i x4), some (ax_i (V 298 ((351 * x1) + x4))), some (ax_i r1)] [ax_i r1, .ref 275, ax_i (x3 + (V1 270 x4)), .ref 292] rfl ?_
    obtain ⟨o3, h⟩ := h
    refine ax_ild (n := 351) (pc' := 60) ⟨_, rfl⟩ ay_275 (by decide) o3 rfl ?_
    obtain ⟨o4, h⟩ := h
    obtain ⟨V2, eV2⟩ : ∃ W9 : ax_V, W9 = ax_u V1 292 (x3 + (V1 270 x4)) (V1 275 r1) := ⟨_, rfl⟩
    have h := h V2 eV2
    have hg2 : ax_g V2 := eV2 ▸ ax_u_g hg1 (hg1 _ _)
    refine ax_ist (n := 600) (pc' := 61) ⟨_, rfl⟩ ay_ok ay_292 (by decide) o4 eV2 rfl ?_
    refine ax_mv 2 64 [some (.ref 222), some (ax_i x1), some (ax_i x2), some (ax_i x3), some (ax_i x4), some (ax_i (V 298 ((351 * x1) + x4))), some (ax_i r1)] [ax_i (-1), ax_i r1] rfl ?_
    refine ax_if2 (p1 := 92) (p2 := 67) ⟨_, rfl⟩ (by decide) rfl hr1 (by decide) (fun hc => ?_) (fun hc => ?_)
    · have h := h.1 hc
      exact ax_nret ⟨_, rfl⟩ rfl hg2 h
    · have h := h.2 hc
      refine ax_mv 1 68 [some (.ref 222), some (ax_i x1), some (ax_i x2), some (ax_i x3), some (ax_i x4), some (ax_i (V 298 ((351 * x1) + x4))), some (ax_i r1)] [.ref 222] rfl ?_
      refine ax_gR (v := .ref 274) (pc' := 71) ⟨_, rfl⟩ fl_12_164 ay_222 rfl rfl ?_
      refine ax_mv 1 73 [some (.ref 222), some (ax_i x1), some (ax_i x2), some (ax_i x3), some (ax_i x4), some (ax_i (V 298 ((351 * x1) + x4))), some (ax_i r1)] [ax_i r1, .ref 274] rfl ?_
      obtain ⟨o5, h⟩ := h
      refine ax_bld (n := 351) (pc' := 74) ⟨_, rfl⟩ ay_274 (by decide) o5 rfl ?_
      refine ax_if (p1 := 92) (p2 := 77) ⟨_, rfl⟩ (by decide) rfl (hg2 _ _) (fun hc => ?_) (fun hc => ?_)
      · have h := h.1 hc
        exact ax_nret ⟨_, rfl⟩ rfl hg2 h
      · have h := h.2 hc
        refine ax_mv 4 82 [some (.ref 222), some (ax_i x1), some (ax_i x2), some (ax_i x3), some (ax_i x4), some (ax_i (V 298 ((351 * x1) + x4))), some (ax_i r1)] [.ref 222, ax_i x4, ax_i x3, .ref 222] rfl ?_
        refine ax_gR (v := .ref 275) (pc' := 85) ⟨_, rfl⟩ fl_12_167 ay_222 rfl rfl ?_
        refine ax_mv 1 87 [some (.ref 222), some (ax_i x1), some (ax_i x2), some (ax_i x3), some (ax_i x4), some (ax_i (V 298 ((351 * x1) + x4))), some (ax_i r1)] [ax_i r1, .ref 275, ax_i x4, ax_i x3, .ref 222] rfl ?_
        obtain ⟨o6, h⟩ := h
        refine ax_ild (n := 351) (pc' := 88) ⟨_, rfl⟩ ay_275 (by decide) o6 rfl ?_
        refine ax_mv 1 89 [some (.ref 222), some (ax_i x1), some (ax_i x2), some (ax_i x3), some (ax_i x4), some (ax_i (V 298 ((351 * x1) + x4))), some (ax_i r1)] [ax_i 0, ax_i (V2 275 r1), ax_i x4, ax_i x3, .ref 222] rfl ?_
        refine ax_callN (pc' := 92) ⟨_, rfl⟩ ml_12_660 (rest := []) rfl (fun ss hs => ⟨_, _, ay_222 ss hs⟩) (Nat.le_of_ble_eq_true rfl) rfl rfl h (fun V3 hg3 h => ?_)
        exact ax_nret ⟨_, rfl⟩ rfl hg3 h
  · have h := h.1 (Classical.not_not.mp hc)
    refine ax_mv 2 60 [some (.ref 222), some (ax_i x1), some (ax_i x2), some (ax_i x3), some (ax_i x4), some (ax_i (V 298 ((351 * x1) + x4))), some (ax_i r1)] [ax_i (V 298 ((351 * x1) + x4)), ax_i (x3 + (V1 270 x4)), .ref 292] rfl ?_
    obtain ⟨o7, h⟩ := h
    obtain ⟨V4, eV4⟩ : ∃ W9 : ax_V, W9 = ax_u V1 292 (x3 + (V1 270 x4)) (V 298 ((351 * x1) + x4)) := ⟨_, rfl⟩
    have h := h V4 eV4
    have hg4 : ax_g V4 := eV4 ▸ ax_u_g hg1 (hg _ _)
    refine ax_ist (n := 600) (pc' := 61) ⟨_, rfl⟩ ay_ok ay_292 (by decide) o7 eV4 rfl ?_
    refine ax_mv 2 64 [some (.ref 222), some (ax_i x1), some (ax_i x2), some (ax_i x3), some (ax_i x4), some (ax_i (V 298 ((351 * x1) + x4))), some (ax_i r1)] [ax_i (-1), ax_i r1] rfl ?_
    refine ax_if2 (p1 := 92) (p2 := 67) ⟨_, rfl⟩ (by decide) rfl hr1 (by decide) (fun hc => ?_) (fun hc => ?_)
    · have h := h.1 hc
      exact ax_nret ⟨_, rfl⟩ rfl hg4 h
    · have h := h.2 hc
      refine ax_mv 1 68 [some (.ref 222), some (ax_i x1), some (ax_i x2), some (ax_i x3), some (ax_i x4), some (ax_i (V 298 ((351 * x1) + x4))), some (ax_i r1)] [.ref 222] rfl ?_
      refine ax_gR (v := .ref 274) (pc' := 71) ⟨_, rfl⟩ fl_12_164 ay_222 rfl rfl ?_
      refine ax_mv 1 73 [some (.ref 222), some (ax_i x1), some (ax_i x2), some (ax_i x3), some (ax_i x4), some (ax_i (V 298 ((351 * x1) + x4))), some (ax_i r1)] [ax_i r1, .ref 274] rfl ?_
      obtain ⟨o8, h⟩ := h
      refine ax_bld (n := 351) (pc' := 74) ⟨_, rfl⟩ ay_274 (by decide) o8 rfl ?_
      refine ax_if (p1 := 92) (p2 := 77) ⟨_, rfl⟩ (by decide) rfl (hg4 _ _) (fun hc => ?_) (fun hc => ?_)
      · have h := h.1 hc
        exact ax_nret ⟨_, rfl⟩ rfl hg4 h
      · have h := h.2 hc
        refine ax_mv 4 82 [some (.ref 222), some (ax_i x1), some (ax_i x2), some (ax_i x3), some (ax_i x4), some (ax_i (V 298 ((351 * x1) + x4))), some (ax_i r1)] [.ref 222, ax_i x4, ax_i x3, .ref 222] rfl ?_
        refine ax_gR (v := .ref 275) (pc' := 85) ⟨_, rfl⟩ fl_12_167 ay_222 rfl rfl ?_
        refine ax_mv 1 87 [some (.ref 222), some (ax_i x1), some (ax_i x2), some (ax_i x3), some (ax_i x4), some (ax_i (V 298 ((351 * x1) + x4))), some (ax_i r1)] [ax_i r1, .ref 275, ax_i x4, ax_i x3, .ref 222] rfl ?_
        obtain ⟨o9, h⟩ := h
        refine ax_ild (n := 351) (pc' := 88) ⟨_, rfl⟩ ay_275 (by decide) o9 rfl ?_
        refine ax_mv 1 89 [some (.ref 222), some (ax_i x1), some (ax_i x2), some (ax_i x3), some (ax_i x4), some (ax_i (V 298 ((351 * x1) + x4))), some (ax_i r1)] [ax_i 0, ax_i (V4 275 r1), ax_i x4, ax_i x3, .ref 222] rfl ?_
        refine ax_callN (pc' := 92) ⟨_, rfl⟩ ml_12_660 (rest := []) rfl (fun ss hs => ⟨_, _, ay_222 ss hs⟩) (Nat.le_of_ble_eq_true rfl) rfl rfl h (fun V5 hg5 h => ?_)
        exact ax_nret ⟨_, rfl⟩ rfl hg5 h
abbrev k_Model_out_44 (d : Nat) (x1 : Int) (x2 : Int) (s0 : Int) (V : ax_V) (Φ : Int → ax_V → Prop) (Θ : ax_V → Prop) : Prop := ax_R ay_lay ax_t d m_Model_out 44 [some (.ref 222), some (ax_i x1), some (ax_i x2)] [ax_i s0, .ref 222] V (ax_Ir Φ) Θ
theorem r_Model_out_44 {d : Nat} {V : ax_V} {Φ : Int → ax_V → Prop} {Θ : ax_V → Prop} {x1 : Int} {x2 : Int} {s0 : Int} (hg : ax_g V) (hx1 : ax_rg x1) (hx2 : ax_rg x2) (hs0 : ax_rg s0) (h : (∀ V1, V1 = ax_u V 222 0 s0 → ((V1 222 0 = 0 → (0 ≤ x1 ∧ x1 < 8) ∧ (0 ≤ (26 * (V1 299 x1)) + x2 ∧ (26 * (V1 299 x1)) + x2 < 240) ∧ (0 ≤ (26 * x1) + (V1 231 ((26 * (V1 299 x1)) + x2)) ∧ (26 * x1) + (V1 231 ((26 * (V1 299 x1)) + x2)) < 208) ∧ Φ (V1 304 ((26 * x1) + (V1 231 ((26 * (V1 299 x1)) + x2)))) V1) ∧ (¬ V1 222 0 = 0 → Φ 0 V1)))) : k_Model_out_44 d x1 x2 s0 V Φ Θ := by
  obtain ⟨V1, eV1⟩ : ∃ W9 : ax_V, W9 = ax_u V 222 0 s0 := ⟨_, rfl⟩
  have h := h V1 eV1
  have hg1 : ax_g V1 := eV1 ▸ ax_u_g hg hs0
  refine ax_pI (kI := 0) (pc' := 47) ⟨_, rfl⟩ fl_12_285 ay_ok ay_222 rfl rfl rfl rfl eV1 rfl ?_
  refine ax_mv 1 48 [some (.ref 222), some (ax_i x1), some (ax_i x2)] [.ref 222] rfl ?_
  refine ax_gI (kI := 0) (pc' := 51) ⟨_, rfl⟩ fl_12_285 ay_222 rfl rfl rfl ?_
  refine ax_if (p1 := 83) (p2 := 54) ⟨_, rfl⟩ (by decide) rfl (hg1 _ _) (fun hc => ?_) (fun hc => ?_)
  · have h := h.2 hc
    refine ax_mv 1 84 [some (.ref 222), some (ax_i x1), some (ax_i x2)] [ax_i 0] rfl ?_
    exact ax_iret ⟨_, rfl⟩ rfl rfl (by decide) hg1 h
  · have h := h.1 (Classical.not_not.mp hc)
    refine ax_mv 1 55 [some (.ref 222), some (ax_i x1), some (ax_i x2)] [.ref 222] rfl ?_
    refine ax_gR (v := .ref 304) (pc' := 58) ⟨_, rfl⟩ fl_12_254 ay_222 rfl rfl ?_
    refine ax_bip (pc' := 60) ⟨_, rfl⟩ (by decide) rfl ?_
    refine ax_mv 1 61 [some (.ref 222), some (ax_i x1), some (ax_i x2)] [ax_i x1, ax_i 26, .ref 304] rfl ?_
    refine ax_mul (pc' := 62) ⟨_, rfl⟩ rfl ?_
    refine ax_mv 1 63 [some (.ref 222), some (ax_i x1), some (ax_i x2)] [.ref 222, ax_i (26 * x1), .ref 304] rfl ?_
    refine ax_gR (v := .ref 231) (pc' := 66) ⟨_, rfl⟩ fl_12_34 ay_222 rfl rfl ?_
    refine ax_bip (pc' := 68) ⟨_, rfl⟩ (by decide) rfl ?_
    refine ax_mv 1 69 [some (.ref 222), some (ax_i x1), some (ax_i x2)] [.ref 222, ax_i 26, .ref 231, ax_i (26 * x1), .ref 304] rfl ?_
    refine ax_gR (v := .ref 299) (pc' := 72) ⟨_, rfl⟩ fl_12_239 ay_222 rfl rfl ?_
    refine ax_mv 1 73 [some (.ref 222), some (ax_i x1), some (ax_i x2)] [ax_i x1, .ref 299, ax_i 26, .ref 231, ax_i (26 * x1), .ref 304] rfl ?_
    obtain ⟨o1, h⟩ := h
    refine ax_ild (n := 8) (pc' := 74) ⟨_, rfl⟩ ay_299 (by decide) o1 rfl ?_
    refine ax_mul (pc' := 75) ⟨_, rfl⟩ rfl ?_
    refine ax_mv 1 76 [some (.ref 222), some (ax_i x1), some (ax_i x2)] [ax_i x2, ax_i (26 * (V1 299 x1)), .ref 231, ax_i (26 * x1), .ref 304] rfl ?_
    refine ax_add (pc' := 77) ⟨_, rfl⟩ rfl ?_
    obtain ⟨o2, h⟩ := h
    refine ax_ild (n := 240) (pc' := 78) ⟨_, rfl⟩ ay_231 (by decide) o2 rfl ?_
    refine ax_add (pc' := 79) ⟨_, rfl⟩ rfl ?_
    obtain ⟨o3, h⟩ := h
    refine ax_ild (n := 208) (pc' := 80) ⟨_, rfl⟩ ay_304 (by decide) o3 rfl ?_
    refine ax_mv 1 84 [some (.ref 222), some (ax_i x1), some (ax_i x2)] [ax_i (V1 304 ((26 * x1) + (V1 231 ((26 * (V1 299 x1)) + x2))))] rfl ?_
    exact ax_iret ⟨_, rfl⟩ rfl rfl (hg1 _ _) hg1 h
theorem r_Model_out {d : Nat} {V : ax_V} {Φ : Int → ax_V → Prop} {Θ : ax_V → Prop} {x1 : Int} {x2 : Int} (hg : ax_g V) (hx1 : ax_rg x1) (hx2 : ax_rg x2) (h : ax_I ay_lay d q_Model_isInstance [.ref 222, ax_i x1] V (fun r1 V1 => ((r1 = 0 → k_Model_out_44 d x1 x2 1 V1 Φ Θ) ∧ (¬ r1 = 0 → (0 ≤ x1 ∧ x1 < 8) ∧ ((V1 303 x1 = 0 → k_Model_out_44 d x1 x2 1 V1 Φ Θ) ∧ (¬ V1 303 x1 = 0 → (0 ≤ x1 ∧ x1 < 8) ∧ (0 ≤ V1 299 x1 ∧ V1 299 x1 < 9) ∧ ax_I ay_lay d q_Model_within [ax_i x2, ax_i 0, ax_i ((V1 228 (V1 299 x1)) - 1)] V1 (fun r2 V2 => ((r2 = 0 → k_Model_out_44 d x1 x2 1 V2 Φ Θ) ∧ (¬ r2 = 0 → k_Model_out_44 d x1 x2 0 V2 Φ Θ))) (fun _ => False)))))) Θ) : ax_I ay_lay (d + 1) q_Model_out [.ref 222, ax_i x1, ax_i x2] V Φ Θ := by
  refine ax_T.of (M := m_Model_out) rfl (Nat.le_of_ble_eq_true rfl) ?_
  refine ax_mv 0 0 [some (.ref 222), some (ax_i x1), some (ax_i x2)] [] rfl ?_
  refine ax_mv 3 3 [some (.ref 222), some (ax_i x1), some (ax_i x2)] [ax_i x1, .ref 222, .ref 222] rfl ?_
  refine ax_callI (pc' := 6) ⟨_, rfl⟩ ml_12_682 (rest := [.ref 222]) rfl (fun ss hs => ⟨_, _, ay_222 ss hs⟩) (Nat.le_of_ble_eq_true rfl) rfl rfl h (fun r1 V1 hg1 hr1 h => ?_)
  refine ax_if (p1 := 43) (p2 := 9) ⟨_, rfl⟩ (by decide) rfl hr1 (fun hc => ?_) (fun hc => ?_)
  · have h := h.1 hc
    refine ax_mv 1 44 [some (.ref 222), some (ax_i x1), some (ax_i x2)] [ax_i 1, .ref 222] rfl ?_
    exact h
  · have h := h.2 hc
    refine ax_mv 1 10 [some (.ref 222), some (ax_i x1), some (ax_i x2)] [.ref 222, .ref 222] rfl ?_
    refine ax_gR (v := .ref 303) (pc' := 13) ⟨_, rfl⟩ fl_12_251 ay_222 rfl rfl ?_
    refine ax_mv 1 14 [some (.ref 222), some (ax_i x1), some (ax_i x2)] [ax_i x1, .ref 303, .ref 222] rfl ?_
    obtain ⟨o4, h⟩ := h
    refine ax_bld (n := 8) (pc' := 15) ⟨_, rfl⟩ ay_303 (by decide) o4 rfl ?_
    refine ax_if (p1 := 43) (p2 := 18) ⟨_, rfl⟩ (by decide) rfl (hg1 _ _) (fun hc => ?_) (fun hc => ?_)
    · have h := h.1 hc
      refine ax_mv 1 44 [some (.ref 222), some (ax_i x1), some (ax_i x2)] [ax_i 1, .ref 222] rfl ?_
      exact h
    · have h := h.2 hc
      refine ax_mv 3 21 [some (.ref 222), some (ax_i x1), some (ax_i x2)] [.ref 222, ax_i 0, ax_i x2, .ref 222] rfl ?_
      refine ax_gR (v := .ref 228) (pc' := 24) ⟨_, rfl⟩ fl_12_25 ay_222 rfl rfl ?_
      refine ax_mv 1 25 [some (.ref 222), some (ax_i x1), some (ax_i x2)] [.ref 222, .ref 228, ax_i 0, ax_i x2, .ref 222] rfl ?_
      refine ax_gR (v := .ref 299) (pc' := 28) ⟨_, rfl⟩ fl_12_239 ay_222 rfl rfl ?_
      refine ax_mv 1 29 [some (.ref 222), some (ax_i x1), some (ax_i x2)] [ax_i x1, .ref 299, .ref 228, ax_i 0, ax_i x2, .ref 222] rfl ?_
      obtain ⟨o5, h⟩ := h
      refine ax_ild (n := 8) (pc' := 30) ⟨_, rfl⟩ ay_299 (by decide) o5 rfl ?_
      obtain ⟨o6, h⟩ := h
      refine ax_ild (n := 9) (pc' := 31) ⟨_, rfl⟩ ay_228 (by decide) o6 rfl ?_
      refine ax_mv 1 32 [some (.ref 222), some (ax_i x1), some (ax_i x2)] [ax_i 1, ax_i (V1 228 (V1 299 x1)), ax_i 0, ax_i x2, .ref 222] rfl ?_
      refine ax_sub (pc' := 33) ⟨_, rfl⟩ rfl ?_
      refine ax_callS (pc' := 36) ⟨_, rfl⟩ ml_12_307 (Nat.le_of_ble_eq_true rfl) (Nat.le_of_ble_eq_true rfl) rfl h (fun r2 V2 hg2 hr2 h => ?_)
      refine ax_mv 0 36 [some (.ref 222), some (ax_i x1), some (ax_i x2)] [ax_i r2, .ref 222] rfl ?_
      refine ax_if (p1 := 43) (p2 := 39) ⟨_, rfl⟩ (by decide) rfl hr2 (fun hc => ?_) (fun hc => ?_)
      · have h := h.1 hc
        refine ax_mv 1 44 [some (.ref 222), some (ax_i x1), some (ax_i x2)] [ax_i 1, .ref 222] rfl ?_
        exact h
      · have h := h.2 hc
        refine ax_mv 2 44 [some (.ref 222), some (ax_i x1), some (ax_i x2)] [ax_i 0, .ref 222] rfl ?_
        exact h
theorem r_Model_flow {d : Nat} {V : ax_V} {Φ : Int → ax_V → Prop} {Θ : ax_V → Prop} {x1 : Int} {x2 : Int} (hg : ax_g V) (hx1 : ax_rg x1) (hx2 : ax_rg x2) (h : ax_I ay_lay d q_Model_isInstance [.ref 222, ax_i x1] V (fun r1 V1 => ((r1 = 0 → (∀ V2, V2 = ax_u V1 222 0 1 → ((V2 222 0 = 0 → (0 ≤ (26 * x1) + (x2 - 97) ∧ (26 * x1) + (x2 - 97) < 208) ∧ Φ (V2 304 ((26 * x1) + (x2 - 97))) V2) ∧ (¬ V2 222 0 = 0 → Φ 0 V2)))) ∧ (¬ r1 = 0 → (0 ≤ x1 ∧ x1 < 8) ∧ ((V1 303 x1 = 0 → (∀ V3, V3 = ax_u V1 222 0 1 → ((V3 222 0 = 0 → (0 ≤ (26 * x1) + (x2 - 97) ∧ (26 * x1) + (x2 - 97) < 208) ∧ Φ (V3 304 ((26 * x1) + (x2 - 97))) V3) ∧ (¬ V3 222 0 = 0 → Φ 0 V3)))) ∧ (¬ V1 303 x1 = 0 → ax_I ay_lay d q_Model_within [ax_i x2, ax_i 97, ax_i 122] V1 (fun r4 V4 => ((r4 = 0 → (∀ V5, V5 = ax_u V4 222 0 1 → ((V5 222 0 = 0 → (0 ≤ (26 * x1) + (x2 - 97) ∧ (26 * x1) + (x2 - 97) < 208) ∧ Φ (V5 304 ((26 * x1) + (x2 - 97))) V5) ∧ (¬ V5 222 0 = 0 → Φ 0 V5)))) ∧ (¬ r4 = 0 → (0 ≤ x1 ∧ x1 < 8) ∧ (0 ≤ (26 * (V4 299 x1)) + (x2 - 97) ∧ (26 * (V4 299 x1)) + (x2 - 97) < 240) ∧ ((V4 232 ((26 * (V4 299 x1)) + (x2 - 97)) = 0 → (∀ V6, V6 = ax_u V4 222 0 1 → ((V6 222 0 = 0 → (0 ≤ (26 * x1) + (x2 - 97) ∧ (26 * x1) + (x2 - 97) < 208) ∧ Φ (V6 304 ((26 * x1) + (x2 - 97))) V6) ∧ (¬ V6 222 0 = 0 → Φ 0 V6)))) ∧ (¬ V4 232 ((26 * (V4 299 x1)) + (x2 - 97)) = 0 → (0 ≤ (26 * x1) + (x2 - 97) ∧ (26 * x1) + (x2 - 97) < 208) ∧ ((V4 305 ((26 * x1) + (x2 - 97)) = 0 → (∀ V7, V7 = ax_u V4 222 0 1 → ((V7 222 0 = 0 → (0 ≤ (26 * x1) + (x2 - 97) ∧ (26 * x1) + (x2 - 97) < 208) ∧ Φ (V7 304 ((26 * x1) + (x2 - 97))) V7) ∧ (¬ V7 222 0 = 0 → Φ 0 V7)))) ∧ (¬ V4 305 ((26 * x1) + (x2 - 97)) = 0 → (∀ V8, V8 = ax_u V4 222 0 0 → ((V8 222 0 = 0 → (0 ≤ (26 * x1) + (x2 - 97) ∧ (26 * x1) + (x2 - 97) < 208) ∧ Φ (V8 304 ((26 * x1) + (x2 - 97))) V8) ∧ (¬ V8 222 0 = 0 → Φ 0 V8)))))))))) (fun _ => False)))))) Θ) : ax_I ay_lay (d + 1) q_Model_flow [.ref 222, ax_i x1, ax_i x2] V Φ Θ := by
  refine ax_T.of (M := m_Model_flow) rfl (Nat.le_of_ble_eq_true rfl) ?_
  refine ax_mv 0 0 [some (.ref 222), some (ax_i x1), some (ax_i x2), none] [] rfl ?_
  refine ax_mv 1 1 [some (.ref 222), some (ax_i x1), some (ax_i x2), none] [ax_i x2] rfl ?_
  refine ax_bip (pc' := 3) ⟨_, rfl⟩ (by decide) rfl ?_
  refine ax_sub (pc' := 4) ⟨_, rfl⟩ rfl ?_
  refine ax_sti (i := 0) (k := 3) (n := 1) (pc' := 5) (L' := [some (.ref 222), some (ax_i x1), some (ax_i x2), some (ax_i (x2 - 97))]) ⟨_, rfl⟩ rfl rfl rfl (Nat.le_of_ble_eq_true rfl) rfl rfl ?_
  refine ax_mv 3 8 [some (.ref 222), some (ax_i x1), some (ax_i x2), some (ax_i (x2 - 97))] [ax_i x1, .ref 222, .ref 222] rfl ?_
  refine ax_callI (pc' := 11) ⟨_, rfl⟩ ml_12_682 (rest := [.ref 222]) rfl (fun ss hs => ⟨_, _, ay_222 ss hs⟩) (Nat.le_of_ble_eq_true rfl) rfl rfl h (fun r1 V1 hg1 hr1 h => ?_)
  refine ax_if (p1 := 71) (p2 := 14) ⟨_, rfl⟩ (by decide) rfl hr1 (fun hc => ?_) (fun hc => ?_)
  · have h := h.1 hc
    refine ax_mv 1 72 [some (.ref 222), some (ax_i x1), some (ax_i x2), some (ax_i (x2 - 97))] [ax_i 1, .ref 222] rfl ?_
    obtain ⟨V2, eV2⟩ : ∃ W9 : ax_V, W9 = ax_u V1 222 0 1 := ⟨_, rfl⟩
    have h := h V2 eV2
    have hg2 : ax_g V2 := eV2 ▸ ax_u_g hg1 (by decide)
    refine ax_pI (kI := 0) (pc' := 75) ⟨_, rfl⟩ fl_12_285 ay_ok ay_222 rfl rfl rfl rfl eV2 rfl ?_
    refine ax_mv 1 76 [some (.ref 222), some (ax_i x1), some (ax_i x2), some (ax_i (x2 - 97))] [.ref 222] rfl ?_
    refine ax_gI (kI := 0) (pc' := 79) ⟨_, rfl⟩ fl_12_285 ay_222 rfl rfl rfl ?_
    refine ax_if (p1 := 96) (p2 := 82) ⟨_, rfl⟩ (by decide) rfl (hg2 _ _) (fun hc => ?_) (fun hc => ?_)
    · have h := h.2 hc
      refine ax_mv 1 97 [some (.ref 222), some (ax_i x1), some (ax_i x2), some (ax_i (x2 - 97))] [ax_i 0] rfl ?_
      exact ax_iret ⟨_, rfl⟩ rfl rfl (by decide) hg2 h
    · have h := h.1 (Classical.not_not.mp hc)
      refine ax_mv 1 83 [some (.ref 222), some (ax_i x1), some (ax_i x2), some (ax_i (x2 - 97))] [.ref 222] rfl ?_
      refine ax_gR (v := .ref 304) (pc' := 86) ⟨_, rfl⟩ fl_12_254 ay_222 rfl rfl ?_
      refine ax_bip (pc' := 88) ⟨_, rfl⟩ (by decide) rfl ?_
      refine ax_mv 1 89 [some (.ref 222), some (ax_i x1), some (ax_i x2), some (ax_i (x2 - 97))] [ax_i x1, ax_i 26, .ref 304] rfl ?_
      refine ax_mul (pc' := 90) ⟨_, rfl⟩ rfl ?_
      refine ax_mv 1 91 [some (.ref 222), some (ax_i x1), some (ax_i x2), some (ax_i (x2 - 97))] [ax_i (x2 - 97), ax_i (26 * x1), .ref 304] rfl ?_
      refine ax_add (pc' := 92) ⟨_, rfl⟩ rfl ?_
      obtain ⟨o1, h⟩ := h
      refine ax_ild (n := 208) (pc' := 93) ⟨_, rfl⟩ ay_304 (by decide) o1 rfl ?_
      refine ax_mv 1 97 [some (.ref 222), some (ax_i x1), some (ax_i x2), some (ax_i (x2 - 97))] [ax_i (V2 304 ((26 * x1) + (x2 - 97)))] rfl ?_
      exact ax_iret ⟨_, rfl⟩ rfl rfl (hg2 _ _) hg2 h
  · have h := h.2 hc
    refine ax_mv 1 15 [some (.ref 222), some (ax_i x1), some (ax_i x2), some (ax_i (x2 - 97))] [.ref 222, .ref 222] rfl ?_
    refine ax_gR (v := .ref 303) (pc' := 18) ⟨_, rfl⟩ fl_12_251 ay_222 rfl rfl ?_
    refine ax_mv 1 19 [some (.ref 222), some (ax_i x1), some (ax_i x2), some (ax_i (x2 - 97))] [ax_i x1, .ref 303, .ref 222] rfl ?_
    obtain ⟨o2, h⟩ := h
    refine ax_bld (n := 8) (pc' := 20) ⟨_, rfl⟩ ay_303 (by decide) o2 rfl ?_
    refine ax_if (p1 := 71) (p2 := 23) ⟨_, rfl⟩ (by decide) rfl (hg1 _ _) (fun hc => ?_) (fun hc => ?_)
    · have h := h.1 hc
      refine ax_mv 1 72 [some (.ref 222), some (ax_i x1), some (ax_i x2), some (ax_i (x2 - 97))] [ax_i 1, .ref 222] rfl ?_
      obtain ⟨V3, eV3⟩ : ∃ W9 : ax_V, W9 = ax_u V1 222 0 1 := ⟨_, rfl⟩
      have h := h V3 eV3
      have hg3 : ax_g V3 := eV3 ▸ ax_u_g hg1 (by decide)
      refine ax_pI (kI := 0) (pc' := 75) ⟨_, rfl⟩ fl_12_285 ay_ok ay_222 rfl rfl rfl rfl eV3 rfl ?_
      refine ax_mv 1 76 [some (.ref 222), some (ax_i x1), some (ax_i x2), some (ax_i (x2 - 97))] [.ref 222] rfl ?_
      refine ax_gI (kI := 0) (pc' := 79) ⟨_, rfl⟩ fl_12_285 ay_222 rfl rfl rfl ?_
      refine ax_if (p1 := 96) (p2 := 82) ⟨_, rfl⟩ (by decide) rfl (hg3 _ _) (fun hc => ?_) (fun hc => ?_)
      · have h := h.2 hc
        refine ax_mv 1 97 [some (.ref 222), some (ax_i x1), some (ax_i x2), some (ax_i (x2 - 97))] [ax_i 0] rfl ?_
        exact ax_iret ⟨_, rfl⟩ rfl rfl (by decide) hg3 h
      · have h := h.1 (Classical.not_not.mp hc)
        refine ax_mv 1 83 [some (.ref 222), some (ax_i x1), some (ax_i x2), some (ax_i (x2 - 97))] [.ref 222] rfl ?_
        refine ax_gR (v := .ref 304) (pc' := 86) ⟨_, rfl⟩ fl_12_254 ay_222 rfl rfl ?_
        refine ax_bip (pc' := 88) ⟨_, rfl⟩ (by decide) rfl ?_
        refine ax_mv 1 89 [some (.ref 222), some (ax_i x1), some (ax_i x2), some (ax_i (x2 - 97))] [ax_i x1, ax_i 26, .ref 304] rfl ?_
        refine ax_mul (pc' := 90) ⟨_, rfl⟩ rfl ?_
        refine ax_mv 1 91 [some (.ref 222), some (ax_i x1), some (ax_i x2), some (ax_i (x2 - 97))] [ax_i (x2 - 97), ax_i (26 * x1), .ref 304] rfl ?_
        refine ax_add (pc' := 92) ⟨_, rfl⟩ rfl ?_
        obtain ⟨o3, h⟩ := h
        refine ax_ild (n := 208) (pc' := 93) ⟨_, rfl⟩ ay_304 (by decide) o3 rfl ?_
        refine ax_mv 1 97 [some (.ref 222), some (ax_i x1), some (ax_i x2), some (ax_i (x2 - 97))] [ax_i (V3 304 ((26 * x1) + (x2 - 97)))] rfl ?_
        exact ax_iret ⟨_, rfl⟩ rfl rfl (hg3 _ _) hg3 h
    · have h := h.2 hc
      refine ax_mv 1 24 [some (.ref 222), some (ax_i x1), some (ax_i x2), some (ax_i (x2 - 97))] [ax_i x2, .ref 222] rfl ?_
      refine ax_bip (pc' := 26) ⟨_, rfl⟩ (by decide) rfl ?_
      refine ax_bip (pc' := 28) ⟨_, rfl⟩ (by decide) rfl ?_
      refine ax_callS (pc' := 31) ⟨_, rfl⟩ ml_12_307 (Nat.le_of_ble_eq_true rfl) (Nat.le_of_ble_eq_true rfl) rfl h (fun r4 V4 hg4 hr4 h => ?_)
      refine ax_mv 0 31 [some (.ref 222), some (ax_i x1), some (ax_i x2), some (ax_i (x2 - 97))] [ax_i r4, .ref 222] rfl ?_
      refine ax_if (p1 := 71) (p2 := 34) ⟨_, rfl⟩ (by decide) rfl hr4 (fun hc => ?_) (fun hc => ?_)
      · have h := h.1 hc
        refine ax_mv 1 72 [some (.ref 222), some (ax_i x1), some (ax_i x2), some (ax_i (x2 - 97))] [ax_i 1, .ref 222] rfl ?_
        obtain ⟨V5, eV5⟩ : ∃ W9 : ax_V, W9 = ax_u V4 222 0 1 := ⟨_, rfl⟩
        have h := h V5 eV5
        have hg5 : ax_g V5 := eV5 ▸ ax_u_g hg4 (by decide)
        refine ax_pI (kI := 0) (pc' := 75) ⟨_, rfl⟩ fl_12_285 ay_ok ay_222 rfl rfl rfl rfl eV5 rfl ?_
        refine ax_mv 1 76 [some (.ref 222), some (ax_i x1), some (ax_i x2), some (ax_i (x2 - 97))] [.ref 222] rfl ?_
        refine ax_gI (kI := 0) (pc' := 79) ⟨_, rfl⟩ fl_12_285 ay_222 rfl rfl rfl ?_
        refine ax_if (p1 := 96) (p2 := 82) ⟨_, rfl⟩ (by decide) rfl (hg5 _ _) (fun hc => ?_) (fun hc => ?_)
        · have h := h.2 hc
          refine ax_mv 1 97 [some (.ref 222), some (ax_i x1), some (ax_i x2), some (ax_i (x2 - 97))] [ax_i 0] rfl ?_
          exact ax_iret ⟨_, rfl⟩ rfl rfl (by decide) hg5 h
        · have h := h.1 (Classical.not_not.mp hc)
          refine ax_mv 1 83 [some (.ref 222), some (ax_i x1), some (ax_i x2), some (ax_i (x2 - 97))] [.ref 222] rfl ?_
          refine ax_gR (v := .ref 304) (pc' := 86) ⟨_, rfl⟩ fl_12_254 ay_222 rfl rfl ?_
          refine ax_bip (pc' := 88) ⟨_, rfl⟩ (by decide) rfl ?_
          refine ax_mv 1 89 [some (.ref 222), some (ax_i x1), some (ax_i x2), some (ax_i (x2 - 97))] [ax_i x1, ax_i 26, .ref 304] rfl ?_
          refine ax_mul (pc' := 90) ⟨_, rfl⟩ rfl ?_
          refine ax_mv 1 91 [some (.ref 222), some (ax_i x1), some (ax_i x2), some (ax_i (x2 - 97))] [ax_i (x2 - 97), ax_i (26 * x1), .ref 304] rfl ?_
          refine ax_add (pc' := 92) ⟨_, rfl⟩ rfl ?_
          obtain ⟨o4, h⟩ := h
          refine ax_ild (n := 208) (pc' := 93) ⟨_, rfl⟩ ay_304 (by decide) o4 rfl ?_
          refine ax_mv 1 97 [some (.ref 222), some (ax_i x1), some (ax_i x2), some (ax_i (x2 - 97))] [ax_i (V5 304 ((26 * x1) + (x2 - 97)))] rfl ?_
          exact ax_iret ⟨_, rfl⟩ rfl rfl (hg5 _ _) hg5 h
      · have h := h.2 hc
        refine ax_mv 1 35 [some (.ref 222), some (ax_i x1), some (ax_i x2), some (ax_i (x2 - 97))] [.ref 222, .ref 222] rfl ?_
        refine ax_gR (v := .ref 232) (pc' := 38) ⟨_, rfl⟩ fl_12_37 ay_222 rfl rfl ?_
        refine ax_bip (pc' := 40) ⟨_, rfl⟩ (by decide) rfl ?_
        refine ax_mv 1 41 [some (.ref 222), some (ax_i x1), some (ax_i x2), some (ax_i (x2 - 97))] [.ref 222, ax_i 26, .ref 232, .ref 222] rfl ?_
        refine ax_gR (v := .ref 299) (pc' := 44) ⟨_, rfl⟩ fl_12_239 ay_222 rfl rfl ?_
        refine ax_mv 1 45 [some (.ref 222), some (ax_i x1), some (ax_i x2), some (ax_i (x2 - 97))] [ax_i x1, .ref 299, ax_i 26, .ref 232, .ref 222] rfl ?_
        obtain ⟨o5, h⟩ := h
        refine ax_ild (n := 8) (pc' := 46) ⟨_, rfl⟩ ay_299 (by decide) o5 rfl ?_
        refine ax_mul (pc' := 47) ⟨_, rfl⟩ rfl ?_
        refine ax_mv 1 48 [some (.ref 222), some (ax_i x1), some (ax_i x2), some (ax_i (x2 - 97))] [ax_i (x2 - 97), ax_i (26 * (V4 299 x1)), .ref 232, .ref 222] rfl ?_
        refine ax_add (pc' := 49) ⟨_, rfl⟩ rfl ?_
        obtain ⟨o6, h⟩ := h
        refine ax_ild (n := 240) (pc' := 50) ⟨_, rfl⟩ ay_232 (by decide) o6 rfl ?_
        refine ax_if (p1 := 71) (p2 := 53) ⟨_, rfl⟩ (by decide) rfl (hg4 _ _) (fun hc => ?_) (fun hc => ?_)
        · have h := h.1 hc
          refine ax_mv 1 72 [some (.ref 222), some (ax_i x1), some (ax_i x2), some (ax_i (x2 - 97))] [ax_i 1, .ref 222] rfl ?_
          obtain ⟨V6, eV6⟩ : ∃ W9 : ax_V, W9 = ax_u V4 222 0 1 := ⟨_, rfl⟩
          have h := h V6 eV6
          have hg6 : ax_g V6 := eV6 ▸ ax_u_g hg4 (by decide)
          refine ax_pI (kI := 0) (pc' := 75) ⟨_, rfl⟩ fl_12_285 ay_ok ay_222 rfl rfl rfl rfl eV6 rfl ?_
          refine ax_mv 1 76 [some (.ref 222), some (ax_i x1), some (ax_i x2), some (ax_i (x2 - 97))] [.ref 222] rfl ?_
          refine ax_gI (kI := 0) (pc' := 79) ⟨_, rfl⟩ fl_12_285 ay_222 rfl rfl rfl ?_
          refine ax_if (p1 := 96) (p2 := 82) ⟨_, rfl⟩ (by decide) rfl (hg6 _ _) (fun hc => ?_) (fun hc => ?_)
          · have h := h.2 hc
            refine ax_mv 1 97 [some (.ref 222), some (ax_i x1), some (ax_i x2), some (ax_i (x2 - 97))] [ax_i 0] rfl ?_
            exact ax_iret ⟨_, rfl⟩ rfl rfl (by decide) hg6 h
          · have h := h.1 (Classical.not_not.mp hc)
            refine ax_mv 1 83 [some (.ref 222), some (ax_i x1), some (ax_i x2), some (ax_i (x2 - 97))] [.ref 222] rfl ?_
            refine ax_gR (v := .ref 304) (pc' := 86) ⟨_, rfl⟩ fl_12_254 ay_222 rfl rfl ?_
            refine ax_bip (pc' := 88) ⟨_, rfl⟩ (by decide) rfl ?_
            refine ax_mv 1 89 [some (.ref 222), some (ax_i x1), some (ax_i x2), some (ax_i (x2 - 97))] [ax_i x1, ax_i 26, .ref 304] rfl ?_
            refine ax_mul (pc' := 90) ⟨_, rfl⟩ rfl ?_
            refine ax_mv 1 91 [some (.ref 222), some (ax_i x1), some (ax_i x2), some (ax_i (x2 - 97))] [ax_i (x2 - 97), ax_i (26 * x1), .ref 304] rfl ?_
            refine ax_add (pc' := 92) ⟨_, rfl⟩ rfl ?_
            obtain ⟨o7, h⟩ := h
            refine ax_ild (n := 208) (pc' := 93) ⟨_, rfl⟩ ay_304 (by decide) o7 rfl ?_
            refine ax_mv 1 97 [some (.ref 222), some (ax_i x1), some (ax_i x2), some (ax_i (x2 - 97))] [ax_i (V6 304 ((26 * x1) + (x2 - 97)))] rfl ?_
            exact ax_iret ⟨_, rfl⟩ rfl rfl (hg6 _ _) hg6 h
        · have h := h.2 hc
          refine ax_mv 1 54 [some (.ref 222), some (ax_i x1), some (ax_i x2), some (ax_i (x2 - 97))] [.ref 222, .ref 222] rfl ?_
          refine ax_gR (v := .ref 305) (pc' := 57) ⟨_, rfl⟩ fl_12_257 ay_222 rfl rfl ?_
          refine ax_bip (pc' := 59) ⟨_, rfl⟩ (by decide) rfl ?_
          refine ax_mv 1 60 [some (.ref 222), some (ax_i x1), some (ax_i x2), some (ax_i (x2 - 97))] [ax_i x1, ax_i 26, .ref 305, .ref 222] rfl ?_
          refine ax_mul (pc' := 61) ⟨_, rfl⟩ rfl ?_
          refine ax_mv 1 62 [some (.ref 222), some (ax_i x1), some (ax_i x2), some (ax_i (x2 - 97))] [ax_i (x2 - 97), ax_i (26 * x1), .ref 305, .ref 222] rfl ?_
          refine ax_add (pc' := 63) ⟨_, rfl⟩ rfl ?_
          obtain ⟨o8, h⟩ := h
          refine ax_bld (n := 208) (pc' := 64) ⟨_, rfl⟩ ay_305 (by decide) o8 rfl ?_
          refine ax_if (p1 := 71) (p2 := 67) ⟨_, rfl⟩ (by decide) rfl (hg4 _ _) (fun hc => ?_) (fun hc => ?_)
          · have h := h.1 hc
            refine ax_mv 1 72 [some (.ref 222), some (ax_i x1), some (ax_i x2), some (ax_i (x2 - 97))] [ax_i 1, .ref 222] rfl ?_
            obtain ⟨V7, eV7⟩ : ∃ W9 : ax_V, W9 = ax_u V4 222 0 1 := ⟨_, rfl⟩
            have h := h V7 eV7
            have hg7 : ax_g V7 := eV7 ▸ ax_u_g hg4 (by decide)
            refine ax_pI (kI := 0) (pc' := 75) ⟨_, rfl⟩ fl_12_285 ay_ok ay_222 rfl rfl rfl rfl eV7 rfl ?_
            refine ax_mv 1 76 [some (.ref 222), some (ax_i x1), some (ax_i x2), some (ax_i (x2 - 97))] [.ref 222] rfl ?_
            refine ax_gI (kI := 0) (pc' := 79) ⟨_, rfl⟩ fl_12_285 ay_222 rfl rfl rfl ?_
            refine ax_if (p1 := 96) (p2 := 82) ⟨_, rfl⟩ (by decide) rfl (hg7 _ _) (fun hc => ?_) (fun hc => ?_)
            · have h := h.2 hc
              refine ax_mv 1 97 [some (.ref 222), some (ax_i x1), some (ax_i x2), some (ax_i (x2 - 97))] [ax_i 0] rfl ?_
              exact ax_iret ⟨_, rfl⟩ rfl rfl (by decide) hg7 h
            · have h := h.1 (Classical.not_not.mp hc)
              refine ax_mv 1 83 [some (.ref 222), some (ax_i x1), some (ax_i x2), some (ax_i (x2 - 97))] [.ref 222] rfl ?_
              refine ax_gR (v := .ref 304) (pc' := 86) ⟨_, rfl⟩ fl_12_254 ay_222 rfl rfl ?_
              refine ax_bip (pc' := 88) ⟨_, rfl⟩ (by decide) rfl ?_
              refine ax_mv 1 89 [some (.ref 222), some (ax_i x1), some (ax_i x2), some (ax_i (x2 - 97))] [ax_i x1, ax_i 26, .ref 304] rfl ?_
              refine ax_mul (pc' := 90) ⟨_, rfl⟩ rfl ?_
              refine ax_mv 1 91 [some (.ref 222), some (ax_i x1), some (ax_i x2), some (ax_i (x2 - 97))] [ax_i (x2 - 97), ax_i (26 * x1), .ref 304] rfl ?_
              refine ax_add (pc' := 92) ⟨_, rfl⟩ rfl ?_
              obtain ⟨o9, h⟩ := h
              refine ax_ild (n := 208) (pc' := 93) ⟨_, rfl⟩ ay_304 (by decide) o9 rfl ?_
              refine ax_mv 1 97 [some (.ref 222), some (ax_i x1), some (ax_i x2), some (ax_i (x2 - 97))] [ax_i (V7 304 ((26 * x1) + (x2 - 97)))] rfl ?_
              exact ax_iret ⟨_, rfl⟩ rfl rfl (hg7 _ _) hg7 h
          · have h := h.2 hc
            refine ax_mv 2 72 [some (.ref 222), some (ax_i x1), some (ax_i x2), some (ax_i (x2 - 97))] [ax_i 0, .ref 222] rfl ?_
            obtain ⟨V8, eV8⟩ : ∃ W9 : ax_V, W9 = ax_u V4 222 0 0 := ⟨_, rfl⟩
            have h := h V8 eV8
            have hg8 : ax_g V8 := eV8 ▸ ax_u_g hg4 (by decide)
            refine ax_pI (kI := 0) (pc' := 75) ⟨_, rfl⟩ fl_12_285 ay_ok ay_222 rfl rfl rfl rfl eV8 rfl ?_
            refine ax_mv 1 76 [some (.ref 222), some (ax_i x1), some (ax_i x2), some (ax_i (x2 - 97))] [.ref 222] rfl ?_
            refine ax_gI (kI := 0) (pc' := 79) ⟨_, rfl⟩ fl_12_285 ay_222 rfl rfl rfl ?_
            refine ax_if (p1 := 96) (p2 := 82) ⟨_, rfl⟩ (by decide) rfl (hg8 _ _) (fun hc => ?_) (fun hc => ?_)
            · have h := h.2 hc
              refine ax_mv 1 97 [some (.ref 222), some (ax_i x1), some (ax_i x2), some (ax_i (x2 - 97))] [ax_i 0] rfl ?_
              exact ax_iret ⟨_, rfl⟩ rfl rfl (by decide) hg8 h
            · have h := h.1 (Classical.not_not.mp hc)
              refine ax_mv 1 83 [some (.ref 222), some (ax_i x1), some (ax_i x2), some (ax_i (x2 - 97))] [.ref 222] rfl ?_
              refine ax_gR (v := .ref 304) (pc' := 86) ⟨_, rfl⟩ fl_12_254 ay_222 rfl rfl ?_
              refine ax_bip (pc' := 88) ⟨_, rfl⟩ (by decide) rfl ?_
              refine ax_mv 1 89 [some (.ref 222), some (ax_i x1), some (ax_i x2), some (ax_i (x2 - 97))] [ax_i x1, ax_i 26, .ref 304] rfl ?_
              refine ax_mul (pc' := 90) ⟨_, rfl⟩ rfl ?_
              refine ax_mv 1 91 [some (.ref 222), some (ax_i x1), some (ax_i x2), some (ax_i (x2 - 97))] [ax_i (x2 - 97), ax_i (26 * x1), .ref 304] rfl ?_
              refine ax_add (pc' := 92) ⟨_, rfl⟩ rfl ?_
              obtain ⟨o10, h⟩ := h
              refine ax_ild (n := 208) (pc' := 93) ⟨_, rfl⟩ ay_304 (by decide) o10 rfl ?_
              refine ax_mv 1 97 [some (.ref 222), some (ax_i x1), some (ax_i x2), some (ax_i (x2 - 97))] [ax_i (V8 304 ((26 * x1) + (x2 - 97)))] rfl ?_
              exact ax_iret ⟨_, rfl⟩ rfl rfl (hg8 _ _) hg8 h
abbrev k_Model_state_24 (d : Nat) (x1 : Int) (y2 : Option Value) (x3 : Int) (x4 : Int) (V : ax_V) (Φ : Int → ax_V → Prop) (Θ : ax_V → Prop) : Prop := ax_R ay_lay ax_t d m_Model_state 24 [some (.ref 222), some (ax_i x1), y2, some (ax_i x3), some (ax_i x4)] [] V (ax_Ir Φ) Θ
theorem r_Model_state_24 {d : Nat} {V : ax_V} {Φ : Int → ax_V → Prop} {Θ : ax_V → Prop} {x1 : Int} {y2 : Option Value} {x3 : Int} {x4 : Int} (hg : ax_g V) (hx1 : ax_rg x1) (hy2 : ax_y y2) (hx3 : ax_rg x3) (hx4 : ax_rg x4) (h : ((V 222 55 ≤ x4 → Φ (-1) V) ∧ (x4 < V 222 55 → (0 ≤ x4 ∧ x4 < 351) ∧ (0 ≤ x1 ∧ x1 < 8) ∧ ((V 267 x4 = V 299 x1 → ((x3 = 0 → (0 ≤ x4 ∧ x4 < 351) ∧ (0 ≤ (300 * x1) + (V 270 x4) ∧ (300 * x1) + (V 270 x4) < 2400) ∧ Φ (V 301 ((300 * x1) + (V 270 x4))) V) ∧ (¬ x3 = 0 → k_Model_state_24 d x1 y2 (x3 + (-1)) (x4 + 1) V Φ Θ))) ∧ (¬ V 267 x4 = V 299 x1 → k_Model_state_24 d x1 y2 x3 (x4 + 1) V Φ Θ))))) : k_Model_state_24 d x1 y2 x3 x4 V Φ Θ := by
  refine ax_mv 2 27 [some (.ref 222), some (ax_i x1), y2, some (ax_i x3), some (ax_i x4)] [.ref 222, ax_i x4] rfl ?_
  refine ax_gI (kI := 55) (pc' := 30) ⟨_, rfl⟩ fl_12_423 ay_222 rfl rfl rfl ?_
  refine ax_if2 (p1 := 84) (p2 := 33) ⟨_, rfl⟩ (by decide) rfl hx4 (hg _ _) (fun hc => ?_) (fun hc => ?_)
  · have h := h.1 hc
    refine ax_mv 1 85 [some (.ref 222), some (ax_i x1), y2, some (ax_i x3), some (ax_i x4)] [ax_i (-1)] rfl ?_
    exact ax_iret ⟨_, rfl⟩ rfl rfl (by decide) hg h
  · have h := h.2 (Int.not_le.mp hc)
    refine ax_mv 1 34 [some (.ref 222), some (ax_i x1), y2, some (ax_i x3), some (ax_i x4)] [.ref 222] rfl ?_
    refine ax_gR (v := .ref 267) (pc' := 37) ⟨_, rfl⟩ fl_12_143 ay_222 rfl rfl ?_
    refine ax_mv 1 39 [some (.ref 222), some (ax_i x1), y2, some (ax_i x3), some (ax_i x4)] [ax_i x4, .ref 267] rfl ?_
    obtain ⟨o1, h⟩ := h
    refine ax_ild (n := 351) (pc' := 40) ⟨_, rfl⟩ ay_267 (by decide) o1 rfl ?_
    refine ax_mv 1 41 [some (.ref 222), some (ax_i x1), y2, some (ax_i x3), some (ax_i x4)] [.ref 222, ax_i (V 267 x4)] rfl ?_
    refine ax_gR (v := .ref 299) (pc' := 44) ⟨_, rfl⟩ fl_12_239 ay_222 rfl rfl ?_
    refine ax_mv 1 45 [some (.ref 222), some (ax_i x1), y2, some (ax_i x3), some (ax_i x4)] [ax_i x1, .ref 299, ax_i (V 267 x4)] rfl ?_
    obtain ⟨o2, h⟩ := h
    refine ax_ild (n := 8) (pc' := 46) ⟨_, rfl⟩ ay_299 (by decide) o2 rfl ?_
    refine ax_if2 (p1 := 52) (p2 := 49) ⟨_, rfl⟩ (by decide) rfl (hg _ _) (hg _ _) (fun hc => ?_) (fun hc => ?_)
    · have h := h.1 hc
      refine ax_mv 1 53 [some (.ref 222), some (ax_i x1), y2, some (ax_i x3), some (ax_i x4)] [ax_i x3] rfl ?_
      refine ax_if (p1 := 75) (p2 := 56) ⟨_, rfl⟩ (by decide) rfl hx3 (fun hc => ?_) (fun hc => ?_)
      · have h := h.2 hc
        refine ax_inc (x := x3) (pc' := 78) (L' := [some (.ref 222), some (ax_i x1), y2, some (ax_i (x3 + (-1))), some (ax_i x4)]) ⟨_, rfl⟩ rfl (ax_kill_y (k := 2) rfl hy2) rfl rfl ?_
        refine ax_inc (x := x4) (pc' := 81) (L' := [some (.ref 222), some (ax_i x1), y2, some (ax_i (x3 + (-1))), some (ax_i (x4 + 1))]) ⟨_, rfl⟩ rfl rfl rfl rfl ?_
        refine ax_mv 1 24 [some (.ref 222), some (ax_i x1), y2, some (ax_i (x3 + (-1))), some (ax_i (x4 + 1))] [] rfl ?_
        exact h
      · have h := h.1 (Classical.not_not.mp hc)
        refine ax_mv 1 57 [some (.ref 222), some (ax_i x1), y2, some (ax_i x3), some (ax_i x4)] [.ref 222] rfl ?_
        refine ax_gR (v := .ref 301) (pc' := 60) ⟨_, rfl⟩ fl_12_245 ay_222 rfl rfl ?_
        refine ax_sip (pc' := 63) ⟨_, rfl⟩ (by decide) rfl ?_
        refine ax_mv 1 64 [some (.ref 222), some (ax_i x1), y2, some (ax_i x3), some (ax_i x4)] [ax_i x1, ax_i 300, .ref 301] rfl ?_
        refine ax_mul (pc' := 65) ⟨_, rfl⟩ rfl ?_
        refine ax_mv 1 66 [some (.ref 222), some (ax_i x1), y2, some (ax_i x3), some (ax_i x4)] [.ref 222, ax_i (300 * x1), .ref 301] rfl ?_
        refine ax_gR (v := .ref 270) (pc' := 69) ⟨_, rfl⟩ fl_12_152 ay_222 rfl rfl ?_
        refine ax_mv 1 71 [some (.ref 222), some (ax_i x1), y2, some (ax_i x3), some (ax_i x4)] [ax_i x4, .ref 270, ax_i (300 * x1), .ref 301] rfl ?_
        obtain ⟨o3, h⟩ := h
        refine ax_ild (n := 351) (pc' := 72) ⟨_, rfl⟩ ay_270 (by decide) o3 rfl ?_
        refine ax_add (pc' := 73) ⟨_, rfl⟩ rfl ?_
        obtain ⟨o4, h⟩ := h
        refine ax_ild (n := 2400) (pc' := 74) ⟨_, rfl⟩ ay_301 (by decide) o4 rfl ?_
        exact ax_iret ⟨_, rfl⟩ rfl rfl (hg _ _) hg h
    · have h := h.2 hc
      refine ax_mv 1 78 [some (.ref 222), some (ax_i x1), y2, some (ax_i x3), some (ax_i x4)] [] rfl ?_
      refine ax_inc (x := x4) (pc' := 81) (L' := [some (.ref 222), some (ax_i x1), y2, some (ax_i x3), some (ax_i (x4 + 1))]) ⟨_, rfl⟩ rfl rfl rfl rfl ?_
      refine ax_mv 1 24 [some (.ref 222), some (ax_i x1), y2, some (ax_i x3), some (ax_i (x4 + 1))] [] rfl ?_
      exact h
theorem r_Model_state {d : Nat} {V : ax_V} {Φ : Int → ax_V → Prop} {Θ : ax_V → Prop} {x1 : Int} {x2 : Int} (hg : ax_g V) (hx1 : ax_rg x1) (hx2 : ax_rg x2) (h : (∀ V1, V1 = ax_u V 222 0 0 → ax_I ay_lay d q_Model_isInstance [.ref 222, ax_i x1] V1 (fun r2 V2 => ((r2 = 0 → Φ (-1) V2) ∧ (¬ r2 = 0 → ((0 ≤ x2 → k_Model_state_24 d x1 (some (ax_i x2)) x2 0 V2 Φ Θ) ∧ (x2 < 0 → Φ (-1) V2))))) Θ)) : ax_I ay_lay (d + 1) q_Model_state [.ref 222, ax_i x1, ax_i x2] V Φ Θ := by
  refine ax_T.of (M := m_Model_state) rfl (Nat.le_of_ble_eq_true rfl) ?_
  refine ax_mv 0 0 [some (.ref 222), some (ax_i x1), some (ax_i x2), none, none] [] rfl ?_
  refine ax_mv 2 2 [some (.ref 222), some (ax_i x1), some (ax_i x2), none, none] [ax_i 0, .ref 222] rfl ?_
  obtain ⟨V1, eV1⟩ : ∃ W9 : ax_V, W9 = ax_u V 222 0 0 := ⟨_, rfl⟩
  have h := h V1 eV1
  have hg1 : ax_g V1 := eV1 ▸ ax_u_g hg (by decide)
  refine ax_pI (kI := 0) (pc' := 5) ⟨_, rfl⟩ fl_12_285 ay_ok ay_222 rfl rfl rfl rfl eV1 rfl ?_
  refine ax_mv 2 7 [some (.ref 222), some (ax_i x1), some (ax_i x2), none, none] [ax_i x1, .ref 222] rfl ?_
  refine ax_callI (pc' := 10) ⟨_, rfl⟩ ml_12_682 (rest := []) rfl (fun ss hs => ⟨_, _, ay_222 ss hs⟩) (Nat.le_of_ble_eq_true rfl) rfl rfl h (fun r2 V2 hg2 hr2 h => ?_)
  refine ax_if (p1 := 17) (p2 := 13) ⟨_, rfl⟩ (by decide) rfl hr2 (fun hc => ?_) (fun hc => ?_)
  · have h := h.1 hc
    refine ax_mv 1 18 [some (.ref 222), some (ax_i x1), some (ax_i x2), none, none] [ax_i (-1)] rfl ?_
    exact ax_iret ⟨_, rfl⟩ rfl rfl (by decide) hg2 h
  · have h := h.2 hc
    refine ax_mv 1 14 [some (.ref 222), some (ax_i x1), some (ax_i x2), none, none] [ax_i x2] rfl ?_
    refine ax_if (p1 := 19) (p2 := 17) ⟨_, rfl⟩ (by decide) rfl hx2 (fun hc => ?_) (fun hc => ?_)
    · have h := h.1 hc
      refine ax_mv 1 20 [some (.ref 222), some (ax_i x1), some (ax_i x2), none, none] [ax_i x2] rfl ?_
      refine ax_sti (i := 0) (k := 3) (n := 1) (pc' := 21) (L' := [some (.ref 222), some (ax_i x1), some (ax_i x2), some (ax_i x2), none]) ⟨_, rfl⟩ rfl rfl rfl (Nat.le_of_ble_eq_true rfl) rfl rfl ?_
      refine ax_mv 1 22 [some (.ref 222), some (ax_i x1), some (ax_i x2), some (ax_i x2), none] [ax_i 0] rfl ?_
      refine ax_sti (i := 0) (k := 4) (n := 2) (pc' := 24) (L' := [some (.ref 222), some (ax_i x1), some (ax_i x2), some (ax_i x2), some (ax_i 0)]) ⟨_, rfl⟩ rfl rfl rfl (Nat.le_of_ble_eq_true rfl) rfl rfl ?_
      exact h
    · have h := h.2 (Int.not_le.mp hc)
      refine ax_mv 1 18 [some (.ref 222), some (ax_i x1), some (ax_i x2), none, none] [ax_i (-1)] rfl ?_
      exact ax_iret ⟨_, rfl⟩ rfl rfl (by decide) hg2 h
theorem r_Model_ticks {d : Nat} {V : ax_V} {Φ : Int → ax_V → Prop} {Θ : ax_V → Prop} {x1 : Int} (hg : ax_g V) (hx1 : ax_rg x1) (h : (∀ V1, V1 = ax_u V 222 0 0 → ax_I ay_lay d q_Model_isInstance [.ref 222, ax_i x1] V1 (fun r2 V2 => ((r2 = 0 → Φ (-1) V2) ∧ (¬ r2 = 0 → (0 ≤ x1 ∧ x1 < 8) ∧ Φ (V2 302 x1) V2))) Θ)) : ax_I ay_lay (d + 1) q_Model_ticks [.ref 222, ax_i x1] V Φ Θ := by
  refine ax_T.of (M := m_Model_ticks) rfl (Nat.le_of_ble_eq_true rfl) ?_
  refine ax_mv 0 0 [some (.ref 222), some (ax_i x1)] [] rfl ?_
  refine ax_mv 2 2 [some (.ref 222), some (ax_i x1)] [ax_i 0, .ref 222] rfl ?_
  obtain ⟨V1, eV1⟩ : ∃ W9 : ax_V, W9 = ax_u V 222 0 0 := ⟨_, rfl⟩
  have h := h V1 eV1
  have hg1 : ax_g V1 := eV1 ▸ ax_u_g hg (by decide)
  refine ax_pI (kI := 0) (pc' := 5) ⟨_, rfl⟩ fl_12_285 ay_ok ay_222 rfl rfl rfl rfl eV1 rfl ?_
  refine ax_mv 2 7 [some (.ref 222), some (ax_i x1)] [ax_i x1, .ref 222] rfl ?_
  refine ax_callI (pc' := 10) ⟨_, rfl⟩ ml_12_682 (rest := []) rfl (fun ss hs => ⟨_, _, ay_222 ss hs⟩) (Nat.le_of_ble_eq_true rfl) rfl rfl h (fun r2 V2 hg2 hr2 h => ?_)
  refine ax_if (p1 := 22) (p2 := 13) ⟨_, rfl⟩ (by decide) rfl hr2 (fun hc => ?_) (fun hc => ?_)
  · have h := h.1 hc
    refine ax_mv 1 23 [some (.ref 222), some (ax_i x1)] [ax_i (-1)] rfl ?_
    exact ax_iret ⟨_, rfl⟩ rfl rfl (by decide) hg2 h
  · have h := h.2 hc
    refine ax_mv 1 14 [some (.ref 222), some (ax_i x1)] [.ref 222] rfl ?_
    refine ax_gR (v := .ref 302) (pc' := 17) ⟨_, rfl⟩ fl_12_248 ay_222 rfl rfl ?_
    refine ax_mv 1 18 [some (.ref 222), some (ax_i x1)] [ax_i x1, .ref 302] rfl ?_
    obtain ⟨o1, h⟩ := h
    refine ax_ild (n := 8) (pc' := 19) ⟨_, rfl⟩ ay_302 (by decide) o1 rfl ?_
    refine ax_mv 1 23 [some (.ref 222), some (ax_i x1)] [ax_i (V2 302 x1)] rfl ?_
    exact ax_iret ⟨_, rfl⟩ rfl rfl (hg2 _ _) hg2 h
abbrev k_Model_save_53 (d : Nat) (x1 : Int) (x2 : Int) (x3 : Int) (V : ax_V) (Φ : Int → ax_V → Prop) (Θ : ax_V → Prop) : Prop := ax_R ay_lay ax_t d m_Model_save 53 [some (.ref 222), some (ax_i x1), some (ax_i x2), some (ax_i x3)] [] V (ax_Ir Φ) Θ
set_option maxRecDepth 20000 in
theorem r_Model_save_53 {d : Nat} {V : ax_V} {Φ : Int → ax_V → Prop} {Θ : ax_V → Prop} {x1 : Int} {x2 : Int} {x3 : Int} (hg : ax_g V) (hx1 : ax_rg x1) (hx2 : ax_rg x2) (hx3 : ax_rg x3) (h : ((300 ≤ x3 → Φ 1 V) ∧ (x3 < 300 → (0 ≤ (300 * x1) + x3 ∧ (300 * x1) + x3 < 2400) ∧ (0 ≤ (300 * ((4 * x1) + x2)) + x3 ∧ (300 * ((4 * x1) + x2)) + x3 < 9600) ∧ (∀ V1, V1 = ax_u V 307 ((300 * ((4 * x1) + x2)) + x3) (V 301 ((300 * x1) + x3)) → k_Model_save_53 d x1 x2 (x3 + 1) V1 Φ Θ)))) : k_Model_save_53 d x1 x2 x3 V Φ Θ := by
  refine ax_mv 1 54 [some (.ref 222), some (ax_i x1), some (ax_i x2), some (ax_i x3)] [ax_i x3] rfl ?_
  refine ax_sip (pc' := 57) ⟨_, rfl⟩ (by decide) rfl ?_
  refine ax_if2 (p1 := 94) (p2 := 60) ⟨_, rfl⟩ (by decide) rfl hx3 (by decide) (fun hc => ?_) (fun hc => ?_)
  · have h := h.1 hc
    refine ax_mv 1 95 [some (.ref 222), some (ax_i x1), some (ax_i x2), some (ax_i x3)] [ax_i 1] rfl ?_
    exact ax_iret ⟨_, rfl⟩ rfl (ax_nbv (by decide)) (by decide) hg h
  · have h := h.2 (Int.not_le.mp hc)
    refine ax_mv 1 61 [some (.ref 222), some (ax_i x1), some (ax_i x2), some (ax_i x3)] [.ref 222] rfl ?_
    refine ax_gR (v := .ref 307) (pc' := 64) ⟨_, rfl⟩ fl_12_263 ay_222 rfl rfl ?_
    refine ax_sip (pc' := 67) ⟨_, rfl⟩ (by decide) rfl ?_
    refine ax_mv 2 69 [some (.ref 222), some (ax_i x1), some (ax_i x2), some (ax_i x3)] [ax_i x1, ax_i 4, ax_i 300, .ref 307] rfl ?_
    refine ax_mul (pc' := 70) ⟨_, rfl⟩ rfl ?_
    refine ax_mv 1 71 [some (.ref 222), some (ax_i x1), some (ax_i x2), some (ax_i x3)] [ax_i x2, ax_i (4 * x1), ax_i 300, .ref 307] rfl ?_
    refine ax_add (pc' := 72) ⟨_, rfl⟩ rfl ?_
    refine ax_mul (pc' := 73) ⟨_, rfl⟩ rfl ?_
    refine ax_mv 1 74 [some (.ref 222), some (ax_i x1), some (ax_i x2), some (ax_i x3)] [ax_i x3, ax_i (300 * ((4 * x1) + x2)), .ref 307] rfl ?_
    refine ax_add (pc' := 75) ⟨_, rfl⟩ rfl ?_
    refine ax_mv 1 76 [some (.ref 222), some (ax_i x1), some (ax_i x2), some (ax_i x3)] [.ref 222, ax_i ((300 * ((4 * x1) + x2)) + x3), .ref 307] rfl ?_
    refine ax_gR (v := .ref 301) (pc' := 79) ⟨_, rfl⟩ fl_12_245 ay_222 rfl rfl ?_
    refine ax_sip (pc' := 82) ⟨_, rfl⟩ (by decide) rfl ?_
    refine ax_mv 1 83 [some (.ref 222), some (ax_i x1), some (ax_i x2), some (ax_i x3)] [ax_i x1, ax_i 300, .ref 301, ax_i ((300 * ((4 * x1) + x2)) + x3), .ref 307] rfl ?_
    refine ax_mul (pc' := 84) ⟨_, rfl⟩ rfl ?_
    refine ax_mv 1 85 [some (.ref 222), some (ax_i x1), some (ax_i x2), some (ax_i x3)] [ax_i x3, ax_i (300 * x1), .ref 301, ax_i ((300 * ((4 * x1) + x2)) + x3), .ref 307] rfl ?_
    refine ax_add (pc' := 86) ⟨_, rfl⟩ rfl ?_
    obtain ⟨o1, h⟩ := h
    refine ax_ild (n := 2400) (pc' := 87) ⟨_, rfl⟩ ay_301 (by decide) o1 rfl ?_
    obtain ⟨o2, h⟩ := h
    obtain ⟨V1, eV1⟩ : ∃ W9 : ax_V, W9 = ax_u V 307 ((300 * ((4 * x1) + x2)) + x3) (V 301 ((300 * x1) + x3)) := ⟨_, rfl⟩
    have h := h V1 eV1
    have hg1 : ax_g V1 := eV1 ▸ ax_u_g hg (hg _ _)
    refine ax_ist (n := 9600) (pc' := 88) ⟨_, rfl⟩ ay_ok ay_307 (by decide) o2 eV1 rfl ?_
    refine ax_inc (x := x3) (pc' := 91) (L' := [some (.ref 222), some (ax_i x1), some (ax_i x2), some (ax_i (x3 + 1))]) ⟨_, rfl⟩ rfl rfl rfl rfl ?_
    refine ax_mv 1 53 [some (.ref 222), some (ax_i x1), some (ax_i x2), some (ax_i (x3 + 1))] [] rfl ?_
    exact h
set_option maxRecDepth 20000 in
theorem r_Model_save {d : Nat} {V : ax_V} {Φ : Int → ax_V → Prop} {Θ : ax_V → Prop} {x1 : Int} {x2 : Int} (hg : ax_g V) (hx1 : ax_rg x1) (hx2 : ax_rg x2) (h : (∀ V1, V1 = ax_u V 222 0 0 → ax_I ay_lay d q_Model_isInstance [.ref 222, ax_i x1] V1 (fun r2 V2 => ((r2 = 0 → Φ 0 V2) ∧ (¬ r2 = 0 → ax_I ay_lay d q_Model_within [ax_i x2, ax_i 0, ax_i 3] V2 (fun r3 V3 => ((r3 = 0 → Φ 0 V3) ∧ (¬ r3 = 0 → (0 ≤ (4 * x1) + x2 ∧ (4 * x1) + x2 < 32) ∧ (∀ V4, V4 = ax_u V3 306 ((4 * x1) + x2) 1 → (0 ≤ x1 ∧ x1 < 8) ∧ (0 ≤ (4 * x1) + x2 ∧ (4 * x1) + x2 < 32) ∧ (∀ V5, V5 = ax_u V4 308 ((4 * x1) + x2) (V4 302 x1) → k_Model_save_53 d x1 x2 0 V5 Φ Θ))))) (fun _ => False)))) Θ)) : ax_I ay_lay (d + 1) q_Model_save [.ref 222, ax_i x1, ax_i x2] V Φ Θ := by
  refine ax_T.of (M := m_Model_save) rfl (Nat.le_of_ble_eq_true rfl) ?_
  refine ax_mv 0 0 [some (.ref 222), some (ax_i x1), some (ax_i x2), none] [] rfl ?_
  refine ax_mv 2 2 [some (.ref 222), some (ax_i x1), some (ax_i x2), none] [ax_i 0, .ref 222] rfl ?_
  obtain ⟨V1, eV1⟩ : ∃ W9 : ax_V, W9 = ax_u V 222 0 0 := ⟨_, rfl⟩
  have h := h V1 eV1
  have hg1 : ax_g V1 := eV1 ▸ ax_u_g hg (by decide)
  refine ax_pI (kI := 0) (pc' := 5) ⟨_, rfl⟩ fl_12_285 ay_ok ay_222 rfl rfl rfl rfl eV1 rfl ?_
  refine ax_mv 2 7 [some (.ref 222), some (ax_i x1), some (ax_i x2), none] [ax_i x1, .ref 222] rfl ?_
  refine ax_callI (pc' := 10) ⟨_, rfl⟩ ml_12_682 (rest := []) rfl (fun ss hs => ⟨_, _, ay_222 ss hs⟩) (Nat.le_of_ble_eq_true rfl) rfl rfl h (fun r2 V2 hg2 hr2 h => ?_)
  refine ax_if (p1 := 22) (p2 := 13) ⟨_, rfl⟩ (by decide) rfl hr2 (fun hc => ?_) (fun hc => ?_)
  · have h := h.1 hc
    refine ax_mv 1 23 [some (.ref 222), some (ax_i x1), some (ax_i x2), none] [ax_i 0] rfl ?_
    exact ax_iret ⟨_, rfl⟩ rfl (ax_nbv (by decide)) (by decide) hg2 h
  · have h := h.2 hc
    refine ax_mv 3 16 [some (.ref 222), some (ax_i x1), some (ax_i x2), none] [ax_i 3, ax_i 0, ax_i x2] rfl ?_
    refine ax_callS (pc' := 19) ⟨_, rfl⟩ ml_12_307 (Nat.le_of_ble_eq_true rfl) (Nat.le_of_ble_eq_true rfl) rfl h (fun r3 V3 hg3 hr3 h => ?_)
    refine ax_mv 0 19 [some (.ref 222), some (ax_i x1), some (ax_i x2), none] [ax_i r3] rfl ?_
    refine ax_if (p1 := 24) (p2 := 22) ⟨_, rfl⟩ (by decide) rfl hr3 (fun hc => ?_) (fun hc => ?_)
    · have h := h.2 hc
      refine ax_mv 1 25 [some (.ref 222), some (ax_i x1), some (ax_i x2), none] [.ref 222] rfl ?_
      refine ax_gR (v := .ref 306) (pc' := 28) ⟨_, rfl⟩ fl_12_260 ay_222 rfl rfl ?_
      refine ax_mv 2 30 [some (.ref 222), some (ax_i x1), some (ax_i x2), none] [ax_i x1, ax_i 4, .ref 306] rfl ?_
      refine ax_mul (pc' := 31) ⟨_, rfl⟩ rfl ?_
      refine ax_mv 1 32 [some (.ref 222), some (ax_i x1), some (ax_i x2), none] [ax_i x2, ax_i (4 * x1), .ref 306] rfl ?_
      refine ax_add (pc' := 33) ⟨_, rfl⟩ rfl ?_
      refine ax_mv 1 34 [some (.ref 222), some (ax_i x1), some (ax_i x2), none] [ax_i 1, ax_i ((4 * x1) + x2), .ref 306] rfl ?_
      obtain ⟨o3, h⟩ := h
      obtain ⟨V4, eV4⟩ : ∃ W9 : ax_V, W9 = ax_u V3 306 ((4 * x1) + x2) 1 := ⟨_, rfl⟩
      have h := h V4 eV4
      have hg4 : ax_g V4 := eV4 ▸ ax_u_g hg3 (by decide)
      refine ax_bst (n := 32) (pc' := 35) ⟨_, rfl⟩ ay_ok ay_306 (by decide) o3 (by decide) eV4 rfl ?_
      refine ax_mv 1 36 [some (.ref 222), some (ax_i x1), some (ax_i x2), none] [.ref 222] rfl ?_
      refine ax_gR (v := .ref 308) (pc' := 39) ⟨_, rfl⟩ fl_12_266 ay_222 rfl rfl ?_
      refine ax_mv 2 41 [some (.ref 222), some (ax_i x1), some (ax_i x2), none] [ax_i x1, ax_i 4, .ref 308] rfl ?_
      refine ax_mul (pc' := 42) ⟨_, rfl⟩ rfl ?_
      refine ax_mv 1 43 [some (.ref 222), some (ax_i x1), some (ax_i x2), none] [ax_i x2, ax_i (4 * x1), .ref 308] rfl ?_
      refine ax_add (pc' := 44) ⟨_, rfl⟩ rfl ?_
      refine ax_mv 1 45 [some (.ref 222), some (ax_i x1), some (ax_i x2), none] [.ref 222, ax_i ((4 * x1) + x2), .ref 308] rfl ?_
      refine ax_gR (v := .ref 302) (pc' := 48) ⟨_, rfl⟩ fl_12_248 ay_222 rfl rfl ?_
      refine ax_mv 1 49 [some (.ref 222), some (ax_i x1), some (ax_i x2), none] [ax_i x1, .ref 302, ax_i ((4 * x1) + x2), .ref 308] rfl ?_
      obtain ⟨o4, h⟩ := h
      refine ax_ild (n := 8) (pc' := 50) ⟨_, rfl⟩ ay_302 (by decide) o4 rfl ?_
      obtain ⟨o5, h⟩ := h
      obtain ⟨V5, eV5⟩ : ∃ W9 : ax_V, W9 = ax_u V4 308 ((4 * x1) + x2) (V4 302 x1) := ⟨_, rfl⟩
      have h := h V5 eV5
      have hg5 : ax_g V5 := eV5 ▸ ax_u_g hg4 (hg4 _ _)
      refine ax_ist (n := 32) (pc' := 51) ⟨_, rfl⟩ ay_ok ay_308 (by decide) o5 eV5 rfl ?_
      refine ax_mv 1 52 [some (.ref 222), some (ax_i x1), some (ax_i x2), none] [ax_i 0] rfl ?_
      refine ax_sti (i := 0) (k := 3) (n := 1) (pc' := 53) (L' := [some (.ref 222), some (ax_i x1), some (ax_i x2), some (ax_i 0)]) ⟨_, rfl⟩ rfl rfl rfl (Nat.le_of_ble_eq_true rfl) rfl rfl ?_
      exact h
    · have h := h.1 (Classical.not_not.mp hc)
      refine ax_mv 1 23 [some (.ref 222), some (ax_i x1), some (ax_i x2), none] [ax_i 0] rfl ?_
      exact ax_iret ⟨_, rfl⟩ rfl (ax_nbv (by decide)) (by decide) hg3 h
abbrev k_Model_back_55 (d : Nat) (x1 : Int) (x2 : Int) (x3 : Int) (V : ax_V) (Φ : Int → ax_V → Prop) (Θ : ax_V → Prop) : Prop := ax_R ay_lay ax_t d m_Model_back 55 [some (.ref 222), some (ax_i x1), some (ax_i x2), some (ax_i x3)] [] V (ax_Ir Φ) Θ
set_option maxRecDepth 20000 in
theorem r_Model_back_55 {d : Nat} {V : ax_V} {Φ : Int → ax_V → Prop} {Θ : ax_V → Prop} {x1 : Int} {x2 : Int} {x3 : Int} (hg : ax_g V) (hx1 : ax_rg x1) (hx2 : ax_rg x2) (hx3 : ax_rg x3) (h : ((300 ≤ x3 → Φ 1 V) ∧ (x3 < 300 → (0 ≤ (300 * ((4 * x1) + x2)) + x3 ∧ (300 * ((4 * x1) + x2)) + x3 < 9600) ∧ (0 ≤ (300 * x1) + x3 ∧ (300 * x1) + x3 < 2400) ∧ (∀ V1, V1 = ax_u V 301 ((300 * x1) + x3) (V 307 ((300 * ((4 * x1) + x2)) + x3)) → k_Model_back_55 d x1 x2 (x3 + 1) V1 Φ Θ)))) : k_Model_back_55 d x1 x2 x3 V Φ Θ := by
  refine ax_mv 1 56 [some (.ref 222), some (ax_i x1), some (ax_i x2), some (ax_i x3)] [ax_i x3] rfl ?_
  refine ax_sip (pc' := 59) ⟨_, rfl⟩ (by decide) rfl ?_
  refine ax_if2 (p1 := 96) (p2 := 62) ⟨_, rfl⟩ (by decide) rfl hx3 (by decide) (fun hc => ?_) (fun hc => ?_)
  · have h := h.1 hc
    refine ax_mv 1 97 [some (.ref 222), some (ax_i x1), some (ax_i x2), some (ax_i x3)] [ax_i 1] rfl ?_
    exact ax_iret ⟨_, rfl⟩ rfl (ax_nbv (by decide)) (by decide) hg h
  · have h := h.2 (Int.not_le.mp hc)
    refine ax_mv 1 63 [some (.ref 222), some (ax_i x1), some (ax_i x2), some (ax_i x3)] [.ref 222] rfl ?_
    refine ax_gR (v := .ref 301) (pc' := 66) ⟨_, rfl⟩ fl_12_245 ay_222 rfl rfl ?_
    refine ax_sip (pc' := 69) ⟨_, rfl⟩ (by decide) rfl ?_
    refine ax_mv 1 70 [some (.ref 222), some (ax_i x1), some (ax_i x2), some (ax_i x3)] [ax_i x1, ax_i 300, .ref 301] rfl ?_
    refine ax_mul (pc' := 71) ⟨_, rfl⟩ rfl ?_
    refine ax_mv 1 72 [some (.ref 222), some (ax_i x1), some (ax_i x2), some (ax_i x3)] [ax_i x3, ax_i (300 * x1), .ref 301] rfl ?_
    refine ax_add (pc' := 73) ⟨_, rfl⟩ rfl ?_
    refine ax_mv 1 74 [some (.ref 222), some (ax_i x1), some (ax_i x2), some (ax_i x3)] [.ref 222, ax_i ((300 * x1) + x3), .ref 301] rfl ?_
    refine ax_gR (v := .ref 307) (pc' := 77) ⟨_, rfl⟩ fl_12_263 ay_222 rfl rfl ?_
    refine ax_sip (pc' := 80) ⟨_, rfl⟩ (by decide) rfl ?_
    refine ax_mv 2 82 [some (.ref 222), some (ax_i x1), some (ax_i x2), some (ax_i x3)] [ax_i x1, ax_i 4, ax_i 300, .ref 307, ax_i ((300 * x1) + x3), .ref 301] rfl ?_
    refine ax_mul (pc' := 83) ⟨_, rfl⟩ rfl ?_
    refine ax_mv 1 84 [some (.ref 222), some (ax_i x1), some (ax_i x2), some (ax_i x3)] [ax_i x2, ax_i (4 * x1), ax_i 300, .ref 307, ax_i ((300 * x1) + x3), .ref 301] rfl ?_
    refine ax_add (pc' := 85) ⟨_, rfl⟩ rfl ?_
    refine ax_mul (pc' := 86) ⟨_, rfl⟩ rfl ?_
    refine ax_mv 1 87 [some (.ref 222), some (ax_i x1), some (ax_i x2), some (ax_i x3)] [ax_i x3, ax_i (300 * ((4 * x1) + x2)), .ref 307, ax_i ((300 * x1) + x3), .ref 301] rfl ?_
    refine ax_add (pc' := 88) ⟨_, rfl⟩ rfl ?_
    obtain ⟨o1, h⟩ := h
    refine ax_ild (n := 9600) (pc' := 89) ⟨_, rfl⟩ ay_307 (by decide) o1 rfl ?_
    obtain ⟨o2, h⟩ := h
    obtain ⟨V1, eV1⟩ : ∃ W9 : ax_V, W9 = ax_u V 301 ((300 * x1) + x3) (V 307 ((300 * ((4 * x1) + x2)) + x3)) := ⟨_, rfl⟩
    have h := h V1 eV1
    have hg1 : ax_g V1 := eV1 ▸ ax_u_g hg (hg _ _)
    refine ax_ist (n := 2400) (pc' := 90) ⟨_, rfl⟩ ay_ok ay_301 (by decide) o2 eV1 rfl ?_
    refine ax_inc (x := x3) (pc' := 93) (L' := [some (.ref 222), some (ax_i x1), some (ax_i x2), some (ax_i (x3 + 1))]) ⟨_, rfl⟩ rfl rfl rfl rfl ?_
    refine ax_mv 1 55 [some (.ref 222), some (ax_i x1), some (ax_i x2), some (ax_i (x3 + 1))] [] rfl ?_
    exact h
set_option maxRecDepth 20000 in
theorem r_Model_back {d : Nat} {V : ax_V} {Φ : Int → ax_V → Prop} {Θ : ax_V → Prop} {x1 : Int} {x2 : Int} (hg : ax_g V) (hx1 : ax_rg x1) (hx2 : ax_rg x2) (h : (∀ V1, V1 = ax_u V 222 0 0 → ax_I ay_lay d q_Model_isInstance [.ref 222, ax_i x1] V1 (fun r2 V2 => ((r2 = 0 → Φ 0 V2) ∧ (¬ r2 = 0 → ax_I ay_lay d q_Model_within [ax_i x2, ax_i 0, ax_i 3] V2 (fun r3 V3 => ((r3 = 0 → Φ 0 V3) ∧ (¬ r3 = 0 → (0 ≤ (4 * x1) + x2 ∧ (4 * x1) + x2 < 32) ∧ ((V3 306 ((4 * x1) + x2) = 0 → Φ 0 V3) ∧ (¬ V3 306 ((4 * x1) + x2) = 0 → (0 ≤ (4 * x1) + x2 ∧ (4 * x1) + x2 < 32) ∧ (0 ≤ x1 ∧ x1 < 8) ∧ (∀ V4, V4 = ax_u V3 302 x1 (V3 308 ((4 * x1) + x2)) → k_Model_back_55 d x1 x2 0 V4 Φ Θ)))))) (fun _ => False)))) Θ)) : ax_I ay_lay (d + 1) q_Model_back [.ref 222, ax_i x1, ax_i x2] V Φ Θ := by
  refine ax_T.of (M := m_Model_back) rfl (Nat.le_of_ble_eq_true rfl) ?_
  refine ax_mv 0 0 [some (.ref 222), some (ax_i x1), some (ax_i x2), none] [] rfl ?_
  refine ax_mv 2 2 [some (.ref 222), some (ax_i x1), some (ax_i x2), none] [ax_i 0, .ref 222] rfl ?_
  obtain ⟨V1, eV1⟩ : ∃ W9 : ax_V, W9 = ax_u V 222 0 0 := ⟨_, rfl⟩
  have h := h V1 eV1
  have hg1 : ax_g V1 := eV1 ▸ ax_u_g hg (by decide)
  refine ax_pI (kI := 0) (pc' := 5) ⟨_, rfl⟩ fl_12_285 ay_ok ay_222 rfl rfl rfl rfl eV1 rfl ?_
  refine ax_mv 2 7 [some (.ref 222), some (ax_i x1), some (ax_i x2), none] [ax_i x1, .ref 222] rfl ?_
  refine ax_callI (pc' := 10) ⟨_, rfl⟩ ml_12_682 (rest := []) rfl (fun ss hs => ⟨_, _, ay_222 ss hs⟩) (Nat.le_of_ble_eq_true rfl) rfl rfl h (fun r2 V2 hg2 hr2 h => ?_)
  refine ax_if (p1 := 35) (p2 := 13) ⟨_, rfl⟩ (by decide) rfl hr2 (fun hc => ?_) (fun hc => ?_)
  · have h := h.1 hc
    refine ax_mv 1 36 [some (.ref 222), some (ax_i x1), some (ax_i x2), none] [ax_i 0] rfl ?_
    exact ax_iret ⟨_, rfl⟩ rfl (ax_nbv (by decide)) (by decide) hg2 h
  · have h := h.2 hc
    refine ax_mv 3 16 [some (.ref 222), some (ax_i x1), some (ax_i x2), none] [ax_i 3, ax_i 0, ax_i x2] rfl ?_
    refine ax_callS (pc' := 19) ⟨_, rfl⟩ ml_12_307 (Nat.le_of_ble_eq_true rfl) (Nat.le_of_ble_eq_true rfl) rfl h (fun r3 V3 hg3 hr3 h => ?_)
    refine ax_mv 0 19 [some (.ref 222), some (ax_i x1), some (ax_i x2), none] [ax_i r3] rfl ?_
    refine ax_if (p1 := 35) (p2 := 22) ⟨_, rfl⟩ (by decide) rfl hr3 (fun hc => ?_) (fun hc => ?_)
    · have h := h.1 hc
      refine ax_mv 1 36 [some (.ref 222), some (ax_i x1), some (ax_i x2), none] [ax_i 0] rfl ?_
      exact ax_iret ⟨_, rfl⟩ rfl (ax_nbv (by decide)) (by decide) hg3 h
    · have h := h.2 hc
      refine ax_mv 1 23 [some (.ref 222), some (ax_i x1), some (ax_i x2), none] [.ref 222] rfl ?_
      refine ax_gR (v := .ref 306) (pc' := 26) ⟨_, rfl⟩ fl_12_260 ay_222 rfl rfl ?_
      refine ax_mv 2 28 [some (.ref 222), some (ax_i x1), some (ax_i x2), none] [ax_i x1, ax_i 4, .ref 306] rfl ?_
      refine ax_mul (pc' := 29) ⟨_, rfl⟩ rfl ?_
      refine ax_mv 1 30 [some (.ref 222), some (ax_i x1), some (ax_i x2), none] [ax_i x2, ax_i (4 * x1), .ref 306] rfl ?_
      refine ax_add (pc' := 31) ⟨_, rfl⟩ rfl ?_
      obtain ⟨o3, h⟩ := h
      refine ax_bld (n := 32) (pc' := 32) ⟨_, rfl⟩ ay_306 (by decide) o3 rfl ?_
      refine ax_if (p1 := 37) (p2 := 35) ⟨_, rfl⟩ (by decide) rfl (hg3 _ _) (fun hc => ?_) (fun hc => ?_)
      · have h := h.2 hc
        refine ax_mv 1 38 [some (.ref 222), some (ax_i x1), some (ax_i x2), none] [.ref 222] rfl ?_
        refine ax_gR (v := .ref 302) (pc' := 41) ⟨_, rfl⟩ fl_12_248 ay_222 rfl rfl ?_
        refine ax_mv 2 43 [some (.ref 222), some (ax_i x1), some (ax_i x2), none] [.ref 222, ax_i x1, .ref 302] rfl ?_
        refine ax_gR (v := .ref 308) (pc' := 46) ⟨_, rfl⟩ fl_12_266 ay_222 rfl rfl ?_
        refine ax_mv 2 48 [some (.ref 222), some (ax_i x1), some (ax_i x2), none] [ax_i x1, ax_i 4, .ref 308, ax_i x1, .ref 302] rfl ?_
        refine ax_mul (pc' := 49) ⟨_, rfl⟩ rfl ?_
        refine ax_mv 1 50 [some (.ref 222), some (ax_i x1), some (ax_i x2), none] [ax_i x2, ax_i (4 * x1), .ref 308, ax_i x1, .ref 302] rfl ?_
        refine ax_add (pc' := 51) ⟨_, rfl⟩ rfl ?_
        obtain ⟨o4, h⟩ := h
        refine ax_ild (n := 32) (pc' := 52) ⟨_, rfl⟩ ay_308 (by decide) o4 rfl ?_
        obtain ⟨o5, h⟩ := h
        obtain ⟨V4, eV4⟩ : ∃ W9 : ax_V, W9 = ax_u V3 302 x1 (V3 308 ((4 * x1) + x2)) := ⟨_, rfl⟩
        have h := h V4 eV4
        have hg4 : ax_g V4 := eV4 ▸ ax_u_g hg3 (hg3 _ _)
        refine ax_ist (n := 8) (pc' := 53) ⟨_, rfl⟩ ay_ok ay_302 (by decide) o5 eV4 rfl ?_
        refine ax_mv 1 54 [some (.ref 222), some (ax_i x1), some (ax_i x2), none] [ax_i 0] rfl ?_
        refine ax_sti (i := 0) (k := 3) (n := 1) (pc' := 55) (L' := [some (.ref 222), some (ax_i x1), some (ax_i x2), some (ax_i 0)]) ⟨_, rfl⟩ rfl rfl rfl (Nat.le_of_ble_eq_true rfl) rfl rfl ?_
        exact h
      · have h := h.1 (Classical.not_not.mp hc)
        refine ax_mv 1 36 [some (.ref 222), some (ax_i x1), some (ax_i x2), none] [ax_i 0] rfl ?_
        exact ax_iret ⟨_, rfl⟩ rfl (ax_nbv (by decide)) (by decide) hg3 h
theorem r_Model_prove {d : Nat} {V : ax_V} {Φ : Int → ax_V → Prop} {Θ : ax_V → Prop} {x1 : Int} {x2 : Int} {x3 : Int} (hg : ax_g V) (hx1 : ax_rg x1) (hx2 : ax_rg x2) (hx3 : ax_rg x3) (h : (∀ V1, V1 = ax_u V 222 0 0 → ax_I ay_lay d q_Model_canBeFed [.ref 222, ax_i x1] V1 (fun r2 V2 => ((r2 = 0 → Φ (-1) V2) ∧ (¬ r2 = 0 → (0 ≤ x1 ∧ x1 < 9) ∧ ax_I ay_lay d q_Model_within [ax_i x2, ax_i 0, ax_i ((V2 228 x1) - 1)] V2 (fun r3 V3 => ((r3 = 0 → Φ (-1) V3) ∧ (¬ r3 = 0 → (0 ≤ (26 * x1) + x2 ∧ (26 * x1) + x2 < 240) ∧ (0 ≤ (26 * x1) + (V3 231 ((26 * x1) + x2)) ∧ (26 * x1) + (V3 231 ((26 * x1) + x2)) < 240) ∧ ((V3 233 ((26 * x1) + (V3 231 ((26 * x1) + x2))) = 0 → Φ (-1) V3) ∧ (¬ V3 233 ((26 * x1) + (V3 231 ((26 * x1) + x2))) = 0 → ax_I ay_lay d q_Model_within [ax_i x3, ax_i 1, ax_i 300] V3 (fun r4 V4 => ((r4 = 0 → Φ (-1) V4) ∧ (¬ r4 = 0 → ax_I ay_lay d q_Model_search [.ref 222, ax_i x1, ax_i x2, ax_i (-1), ax_i x3] V4 (fun r5 V5 => (∀ V6, V6 = ax_u V5 222 114 r5 → Φ (V6 222 114) V6)) Θ))) (fun _ => False)))))) (fun _ => False)))) Θ)) : ax_I ay_lay (d + 1) q_Model_prove [.ref 222, ax_i x1, ax_i x2, ax_i x3] V Φ Θ := by
  refine ax_T.of (M := m_Model_prove) rfl (Nat.le_of_ble_eq_true rfl) ?_
  refine ax_mv 0 0 [some (.ref 222), some (ax_i x1), some (ax_i x2), some (ax_i x3)] [] rfl ?_
  refine ax_mv 2 2 [some (.ref 222), some (ax_i x1), some (ax_i x2), some (ax_i x3)] [ax_i 0, .ref 222] rfl ?_
  obtain ⟨V1, eV1⟩ : ∃ W9 : ax_V, W9 = ax_u V 222 0 0 := ⟨_, rfl⟩
  have h := h V1 eV1
  have hg1 : ax_g V1 := eV1 ▸ ax_u_g hg (by decide)
  refine ax_pI (kI := 0) (pc' := 5) ⟨_, rfl⟩ fl_12_285 ay_ok ay_222 rfl rfl rfl rfl eV1 rfl ?_
  refine ax_mv 2 7 [some (.ref 222), some (ax_i x1), some (ax_i x2), some (ax_i x3)] [ax_i x1, .ref 222] rfl ?_
  refine ax_callI (pc' := 10) ⟨_, rfl⟩ ml_12_721 (rest := []) rfl (fun ss hs => ⟨_, _, ay_222 ss hs⟩) (Nat.le_of_ble_eq_true rfl) rfl rfl h (fun r2 V2 hg2 hr2 h => ?_)
  refine ax_if (p1 := 64) (p2 := 13) ⟨_, rfl⟩ (by decide) rfl hr2 (fun hc => ?_) (fun hc => ?_)
  · have h := h.1 hc
    refine ax_mv 1 65 [some (.ref 222), some (ax_i x1), some (ax_i x2), some (ax_i x3)] [ax_i (-1)] rfl ?_
    exact ax_iret ⟨_, rfl⟩ rfl rfl (by decide) hg2 h
  · have h := h.2 hc
    refine ax_mv 3 16 [some (.ref 222), some (ax_i x1), some (ax_i x2), some (ax_i x3)] [.ref 222, ax_i 0, ax_i x2] rfl ?_
    refine ax_gR (v := .ref 228) (pc' := 19) ⟨_, rfl⟩ fl_12_25 ay_222 rfl rfl ?_
    refine ax_mv 1 20 [some (.ref 222), some (ax_i x1), some (ax_i x2), some (ax_i x3)] [ax_i x1, .ref 228, ax_i 0, ax_i x2] rfl ?_
    obtain ⟨o1, h⟩ := h
    refine ax_ild (n := 9) (pc' := 21) ⟨_, rfl⟩ ay_228 (by decide) o1 rfl ?_
    refine ax_mv 1 22 [some (.ref 222), some (ax_i x1), some (ax_i x2), some (ax_i x3)] [ax_i 1, ax_i (V2 228 x1), ax_i 0, ax_i x2] rfl ?_
    refine ax_sub (pc' := 23) ⟨_, rfl⟩ rfl ?_
    refine ax_callS (pc' := 26) ⟨_, rfl⟩ ml_12_307 (Nat.le_of_ble_eq_true rfl) (Nat.le_of_ble_eq_true rfl) rfl h (fun r3 V3 hg3 hr3 h => ?_)
    refine ax_mv 0 26 [some (.ref 222), some (ax_i x1), some (ax_i x2), some (ax_i x3)] [ax_i r3] rfl ?_
    refine ax_if (p1 := 64) (p2 := 29) ⟨_, rfl⟩ (by decide) rfl hr3 (fun hc => ?_) (fun hc => ?_)
    · have h := h.1 hc
      refine ax_mv 1 65 [some (.ref 222), some (ax_i x1), some (ax_i x2), some (ax_i x3)] [ax_i (-1)] rfl ?_
      exact ax_iret ⟨_, rfl⟩ rfl rfl (by decide) hg3 h
    · have h := h.2 hc
      refine ax_mv 1 30 [some (.ref 222), some (ax_i x1), some (ax_i x2), some (ax_i x3)] [.ref 222] rfl ?_
      refine ax_gR (v := .ref 233) (pc' := 33) ⟨_, rfl⟩ fl_12_40 ay_222 rfl rfl ?_
      refine ax_bip (pc' := 35) ⟨_, rfl⟩ (by decide) rfl ?_
      refine ax_mv 1 36 [some (.ref 222), some (ax_i x1), some (ax_i x2), some (ax_i x3)] [ax_i x1, ax_i 26, .ref 233] rfl ?_
      refine ax_mul (pc' := 37) ⟨_, rfl⟩ rfl ?_
      refine ax_mv 1 38 [some (.ref 222), some (ax_i x1), some (ax_i x2), some (ax_i x3)] [.ref 222, ax_i (26 * x1), .ref 233] rfl ?_
      refine ax_gR (v := .ref 231) (pc' := 41) ⟨_, rfl⟩ fl_12_34 ay_222 rfl rfl ?_
      refine ax_bip (pc' := 43) ⟨_, rfl⟩ (by decide) rfl ?_
      refine ax_mv 1 44 [some (.ref 222), some (ax_i x1), some (ax_i x2), some (ax_i x3)] [ax_i x1, ax_i 26, .ref 231, ax_i (26 * x1), .ref 233] rfl ?_
      refine ax_mul (pc' := 45) ⟨_, rfl⟩ rfl ?_
      refine ax_mv 1 46 [some (.ref 222), some (ax_i x1), some (ax_i x2), some (ax_i x3)] [ax_i x2, ax_i (26 * x1), .ref 231, ax_i (26 * x1), .ref 233] rfl ?_
      refine ax_add (pc' := 47) ⟨_, rfl⟩ rfl ?_
      obtain ⟨o2, h⟩ := h
      refine ax_ild (n := 240) (pc' := 48) ⟨_, rfl⟩ ay_231 (by decide) o2 rfl ?_
      refine ax_add (pc' := 49) ⟨_, rfl⟩ rfl ?_
      obtain ⟨o3, h⟩ := h
      refine ax_ild (n := 240) (pc' := 50) ⟨_, rfl⟩ ay_233 (by decide) o3 rfl ?_
      refine ax_if (p1 := 64) (p2 := 53) ⟨_, rfl⟩ (by decide) rfl (hg3 _ _) (fun hc => ?_) (fun hc => ?_)
      · have h := h.1 hc
        refine ax_mv 1 65 [some (.ref 222), some (ax_i x1), some (ax_i x2), some (ax_i x3)] [ax_i (-1)] rfl ?_
        exact ax_iret ⟨_, rfl⟩ rfl rfl (by decide) hg3 h
      · have h := h.2 hc
        refine ax_mv 2 55 [some (.ref 222), some (ax_i x1), some (ax_i x2), some (ax_i x3)] [ax_i 1, ax_i x3] rfl ?_
        refine ax_sip (pc' := 58) ⟨_, rfl⟩ (by decide) rfl ?_
        refine ax_callS (pc' := 61) ⟨_, rfl⟩ ml_12_307 (Nat.le_of_ble_eq_true rfl) (Nat.le_of_ble_eq_true rfl) rfl h (fun r4 V4 hg4 hr4 h => ?_)
        refine ax_mv 0 61 [some (.ref 222), some (ax_i x1), some (ax_i x2), some (ax_i x3)] [ax_i r4] rfl ?_
        refine ax_if (p1 := 66) (p2 := 64) ⟨_, rfl⟩ (by decide) rfl hr4 (fun hc => ?_) (fun hc => ?_)
        · have h := h.2 hc
          refine ax_mv 6 72 [some (.ref 222), some (ax_i x1), some (ax_i x2), some (ax_i x3)] [ax_i x3, ax_i (-1), ax_i x2, ax_i x1, .ref 222, .ref 222] rfl ?_
          refine ax_callI (pc' := 75) ⟨_, rfl⟩ ml_12_724 (rest := [.ref 222]) rfl (fun ss hs => ⟨_, _, ay_222 ss hs⟩) (Nat.le_of_ble_eq_true rfl) rfl rfl h (fun r5 V5 hg5 hr5 h => ?_)
          obtain ⟨V6, eV6⟩ : ∃ W9 : ax_V, W9 = ax_u V5 222 114 r5 := ⟨_, rfl⟩
          have h := h V6 eV6
          have hg6 : ax_g V6 := eV6 ▸ ax_u_g hg5 hr5
          refine ax_pI (kI := 114) (pc' := 78) ⟨_, rfl⟩ fl_12_728 ay_ok ay_222 rfl rfl rfl rfl eV6 rfl ?_
          refine ax_mv 1 79 [some (.ref 222), some (ax_i x1), some (ax_i x2), some (ax_i x3)] [.ref 222] rfl ?_
          refine ax_gI (kI := 114) (pc' := 82) ⟨_, rfl⟩ fl_12_728 ay_222 rfl rfl rfl ?_
          exact ax_iret ⟨_, rfl⟩ rfl rfl (hg6 _ _) hg6 h
        · have h := h.1 (Classical.not_not.mp hc)
          refine ax_mv 1 65 [some (.ref 222), some (ax_i x1), some (ax_i x2), some (ax_i x3)] [ax_i (-1)] rfl ?_
          exact ax_iret ⟨_, rfl⟩ rfl rfl (by decide) hg4 h
