/-! RULES of the methods of the class: a method each, and each loop of it. PRINTED by wip/gen/rules.py -/
abbrev k_Prover_findSpot_5 (B : Nat) (w : Nat) (nw : Nat) (d : Nat) (x1 : Int) (x2 : Int) (V : ax_V) (Φ : Int → ax_V → Prop) (Θ : ax_V → Prop) : Prop := ax_R (az_W B (az_EP B w nw)) ax_t d m_Prover_findSpot 5 [some (.ref 157), some (ax_i x1), some (ax_i x2)] [] V (ax_Ir Φ) Θ
abbrev k_Prover_findSpot_44 (B : Nat) (w : Nat) (nw : Nat) (d : Nat) (x1 : Int) (x2 : Int) (V : ax_V) (Φ : Int → ax_V → Prop) (Θ : ax_V → Prop) : Prop := ax_R (az_W B (az_EP B w nw)) ax_t d m_Prover_findSpot 44 [some (.ref 157), some (ax_i x1), some (ax_i x2)] [] V (ax_Ir Φ) Θ
theorem r_Prover_findSpot_5 {B : Nat} {w : Nat} {nw : Nat} (hnw : nw ≤ 1000000) {d : Nat} {V : ax_V} {Φ : Int → ax_V → Prop} {Θ : ax_V → Prop} {x1 : Int} {x2 : Int} (hg : ax_g V) (hx1 : ax_rg x1) (hx2 : ax_rg x2) (h : ((V 157 17 ≤ x2 → k_Prover_findSpot_44 B w nw d (ax_and (ax_xor x1 (ax_ushr x1 15)) 1023) 0 V Φ Θ) ∧ (x2 < V 157 17 → (0 ≤ x2 ∧ x2 < 600) ∧ k_Prover_findSpot_5 B w nw d ((x1 * 31) + (V 160 x2)) (x2 + 1) V Φ Θ))) : k_Prover_findSpot_5 B w nw d x1 x2 V Φ Θ := by
  refine ax_mv 2 7 [some (.ref 157), some (ax_i x1), some (ax_i x2)] [.ref 157, ax_i x2] rfl ?_
  refine ax_gI (kI := 17) (pc' := 10) ⟨_, rfl⟩ fl_9_65 (az_e 6 rfl) rfl rfl rfl ?_
  refine ax_if2 (p1 := 31) (p2 := 13) ⟨_, rfl⟩ (by decide) rfl hx2 (hg _ _) (fun hc => ?_) (fun hc => ?_)
  · have h := h.1 hc
    refine ax_mv 2 33 [some (.ref 157), some (ax_i x1), some (ax_i x2)] [ax_i x1, ax_i x1] rfl ?_
    refine ax_bip (pc' := 35) ⟨_, rfl⟩ (by decide) rfl ?_
    refine ax_rushr (pc' := 36) ⟨_, rfl⟩ rfl ?_
    refine ax_rxor (pc' := 37) ⟨_, rfl⟩ rfl ?_
    refine ax_sip (pc' := 40) ⟨_, rfl⟩ (by decide) rfl ?_
    refine ax_rand (pc' := 41) ⟨_, rfl⟩ rfl ?_
    refine ax_sti (i := 0) (k := 1) (n := 1) (pc' := 42) (L' := [some (.ref 157), some (ax_i (ax_and (ax_xor x1 (ax_ushr x1 15)) 1023)), some (ax_i x2)]) ⟨_, rfl⟩ rfl rfl rfl (Nat.le_of_ble_eq_true rfl) rfl rfl ?_
    refine ax_mv 1 43 [some (.ref 157), some (ax_i (ax_and (ax_xor x1 (ax_ushr x1 15)) 1023)), some (ax_i x2)] [ax_i 0] rfl ?_
    refine ax_sti (i := 0) (k := 2) (n := 1) (pc' := 44) (L' := [some (.ref 157), some (ax_i (ax_and (ax_xor x1 (ax_ushr x1 15)) 1023)), some (ax_i 0)]) ⟨_, rfl⟩ rfl rfl rfl (Nat.le_of_ble_eq_true rfl) rfl rfl ?_
    exact h
  · have h := h.2 (Int.not_le.mp hc)
    refine ax_mv 1 14 [some (.ref 157), some (ax_i x1), some (ax_i x2)] [ax_i x1] rfl ?_
    refine ax_bip (pc' := 16) ⟨_, rfl⟩ (by decide) rfl ?_
    refine ax_mul (pc' := 17) ⟨_, rfl⟩ rfl ?_
    refine ax_mv 1 18 [some (.ref 157), some (ax_i x1), some (ax_i x2)] [.ref 157, ax_i (x1 * 31)] rfl ?_
    refine ax_gR (v := .ref 160) (pc' := 21) ⟨_, rfl⟩ fl_9_18 (az_e 6 rfl) rfl rfl ?_
    refine ax_mv 1 22 [some (.ref 157), some (ax_i x1), some (ax_i x2)] [ax_i x2, .ref 160, ax_i (x1 * 31)] rfl ?_
    obtain ⟨o1, h⟩ := h
    refine ax_ild (n := 600) (pc' := 23) ⟨_, rfl⟩ (az_e 8 rfl) (by decide) o1 rfl ?_
    refine ax_add (pc' := 24) ⟨_, rfl⟩ rfl ?_
    refine ax_sti (i := 0) (k := 1) (n := 1) (pc' := 25) (L' := [some (.ref 157), some (ax_i ((x1 * 31) + (V 160 x2))), some (ax_i x2)]) ⟨_, rfl⟩ rfl rfl rfl (Nat.le_of_ble_eq_true rfl) rfl rfl ?_
    refine ax_inc (x := x2) (pc' := 28) (L' := [some (.ref 157), some (ax_i ((x1 * 31) + (V 160 x2))), some (ax_i (x2 + 1))]) ⟨_, rfl⟩ rfl rfl rfl rfl ?_
    refine ax_mv 1 5 [some (.ref 157), some (ax_i ((x1 * 31) + (V 160 x2))), some (ax_i (x2 + 1))] [] rfl ?_
    exact h
theorem r_Prover_findSpot_44 {B : Nat} {w : Nat} {nw : Nat} (hnw : nw ≤ 1000000) {d : Nat} {V : ax_V} {Φ : Int → ax_V → Prop} {Θ : ax_V → Prop} {x1 : Int} {x2 : Int} (hg : ax_g V) (hx1 : ax_rg x1) (hx2 : ax_rg x2) (h : ((1024 ≤ x2 → Φ x1 V) ∧ (x2 < 1024 → (0 ≤ x1 ∧ x1 < 1024) ∧ ((V 163 x1 = 0 → Φ x1 V) ∧ (¬ V 163 x1 = 0 → (0 ≤ x1 ∧ x1 < 1024) ∧ ax_I (az_W B (az_EP B w nw)) d q_Prover_isRow [.ref 157, ax_i ((V 163 x1) - 1)] V (fun r1 V1 => ((r1 = 0 → k_Prover_findSpot_44 B w nw d (ax_and (x1 + 1) 1023) (x2 + 1) V1 Φ Θ) ∧ (¬ r1 = 0 → Φ (-1) V1))) Θ))))) : k_Prover_findSpot_44 B w nw d x1 x2 V Φ Θ := by
  refine ax_mv 1 45 [some (.ref 157), some (ax_i x1), some (ax_i x2)] [ax_i x2] rfl ?_
  refine ax_sip (pc' := 48) ⟨_, rfl⟩ (by decide) rfl ?_
  refine ax_if2 (p1 := 91) (p2 := 51) ⟨_, rfl⟩ (by decide) rfl hx2 (by decide) (fun hc => ?_) (fun hc => ?_)
  · have h := h.1 hc
    refine ax_mv 1 92 [some (.ref 157), some (ax_i x1), some (ax_i x2)] [ax_i x1] rfl ?_
    exact ax_iret ⟨_, rfl⟩ rfl rfl hx1 hg h
  · have h := h.2 (Int.not_le.mp hc)
    refine ax_mv 1 52 [some (.ref 157), some (ax_i x1), some (ax_i x2)] [.ref 157] rfl ?_
    refine ax_gR (v := .ref 163) (pc' := 55) ⟨_, rfl⟩ fl_9_27 (az_e 6 rfl) rfl rfl ?_
    refine ax_mv 1 56 [some (.ref 157), some (ax_i x1), some (ax_i x2)] [ax_i x1, .ref 163] rfl ?_
    obtain ⟨o2, h⟩ := h
    refine ax_ild (n := 1024) (pc' := 57) ⟨_, rfl⟩ (az_e 11 rfl) (by decide) o2 rfl ?_
    refine ax_if (p1 := 91) (p2 := 60) ⟨_, rfl⟩ (by decide) rfl (hg _ _) (fun hc => ?_) (fun hc => ?_)
    · have h := h.1 hc
      refine ax_mv 1 92 [some (.ref 157), some (ax_i x1), some (ax_i x2)] [ax_i x1] rfl ?_
      exact ax_iret ⟨_, rfl⟩ rfl rfl hx1 hg h
    · have h := h.2 hc
      refine ax_mv 2 62 [some (.ref 157), some (ax_i x1), some (ax_i x2)] [.ref 157, .ref 157] rfl ?_
      refine ax_gR (v := .ref 163) (pc' := 65) ⟨_, rfl⟩ fl_9_27 (az_e 6 rfl) rfl rfl ?_
      refine ax_mv 1 66 [some (.ref 157), some (ax_i x1), some (ax_i x2)] [ax_i x1, .ref 163, .ref 157] rfl ?_
      obtain ⟨o3, h⟩ := h
      refine ax_ild (n := 1024) (pc' := 67) ⟨_, rfl⟩ (az_e 11 rfl) (by decide) o3 rfl ?_
      refine ax_mv 1 68 [some (.ref 157), some (ax_i x1), some (ax_i x2)] [ax_i 1, ax_i (V 163 x1), .ref 157] rfl ?_
      refine ax_sub (pc' := 69) ⟨_, rfl⟩ rfl ?_
      refine ax_callI (pc' := 72) ⟨_, rfl⟩ ml_9_146 (rest := []) rfl (fun ss hs => ⟨_, _, (az_e 6 rfl) ss hs⟩) (Nat.le_of_ble_eq_true rfl) rfl rfl h (fun r1 V1 hg1 hr1 h => ?_)
      refine ax_if (p1 := 77) (p2 := 75) ⟨_, rfl⟩ (by decide) rfl hr1 (fun hc => ?_) (fun hc => ?_)
      · have h := h.1 hc
        refine ax_mv 2 79 [some (.ref 157), some (ax_i x1), some (ax_i x2)] [ax_i 1, ax_i x1] rfl ?_
        refine ax_add (pc' := 80) ⟨_, rfl⟩ rfl ?_
        refine ax_sip (pc' := 83) ⟨_, rfl⟩ (by decide) rfl ?_
        refine ax_rand (pc' := 84) ⟨_, rfl⟩ rfl ?_
        refine ax_sti (i := 0) (k := 1) (n := 1) (pc' := 85) (L' := [some (.ref 157), some (ax_i (ax_and (x1 + 1) 1023)), some (ax_i x2)]) ⟨_, rfl⟩ rfl rfl rfl (Nat.le_of_ble_eq_true rfl) rfl rfl ?_
        refine ax_inc (x := x2) (pc' := 88) (L' := [some (.ref 157), some (ax_i (ax_and (x1 + 1) 1023)), some (ax_i (x2 + 1))]) ⟨_, rfl⟩ rfl rfl rfl rfl ?_
        refine ax_mv 1 44 [some (.ref 157), some (ax_i (ax_and (x1 + 1) 1023)), some (ax_i (x2 + 1))] [] rfl ?_
        exact h
      · have h := h.2 hc
        refine ax_mv 1 76 [some (.ref 157), some (ax_i x1), some (ax_i x2)] [ax_i (-1)] rfl ?_
        exact ax_iret ⟨_, rfl⟩ rfl rfl (by decide) hg1 h
theorem r_Prover_findSpot {B : Nat} {w : Nat} {nw : Nat} (hnw : nw ≤ 1000000) {d : Nat} {V : ax_V} {Φ : Int → ax_V → Prop} {Θ : ax_V → Prop} (hg : ax_g V) (h : k_Prover_findSpot_5 B w nw d 17 0 V Φ Θ) : ax_I (az_W B (az_EP B w nw)) (d + 1) q_Prover_findSpot [.ref 157] V Φ Θ := by
  refine ax_T.of (M := m_Prover_findSpot) rfl (Nat.le_of_ble_eq_true rfl) ?_
  refine ax_mv 0 0 [some (.ref 157), none, none] [] rfl ?_
  refine ax_bip (pc' := 2) ⟨_, rfl⟩ (by decide) rfl ?_
  refine ax_sti (i := 0) (k := 1) (n := 1) (pc' := 3) (L' := [some (.ref 157), some (ax_i 17), none]) ⟨_, rfl⟩ rfl rfl rfl (Nat.le_of_ble_eq_true rfl) rfl rfl ?_
  refine ax_mv 1 4 [some (.ref 157), some (ax_i 17), none] [ax_i 0] rfl ?_
  refine ax_sti (i := 0) (k := 2) (n := 1) (pc' := 5) (L' := [some (.ref 157), some (ax_i 17), some (ax_i 0)]) ⟨_, rfl⟩ rfl rfl rfl (Nat.le_of_ble_eq_true rfl) rfl rfl ?_
  exact h
abbrev k_Prover_isRow_2 (B : Nat) (w : Nat) (nw : Nat) (d : Nat) (x1 : Int) (x2 : Int) (V : ax_V) (Φ : Int → ax_V → Prop) (Θ : ax_V → Prop) : Prop := ax_R (az_W B (az_EP B w nw)) ax_t d m_Prover_isRow 2 [some (.ref 157), some (ax_i x1), some (ax_i x2)] [] V (ax_Ir Φ) Θ
theorem r_Prover_isRow_2 {B : Nat} {w : Nat} {nw : Nat} (hnw : nw ≤ 1000000) {d : Nat} {V : ax_V} {Φ : Int → ax_V → Prop} {Θ : ax_V → Prop} {x1 : Int} {x2 : Int} (hg : ax_g V) (hx1 : ax_rg x1) (hx2 : ax_rg x2) (h : ((V 157 17 ≤ x2 → Φ 1 V) ∧ (x2 < V 157 17 → (0 ≤ (x1 * (V 157 17)) + x2 ∧ (x1 * (V 157 17)) + x2 < (nw : Int)) ∧ (0 ≤ x2 ∧ x2 < 600) ∧ ((V 620 ((x1 * (V 157 17)) + x2) = V 160 x2 → k_Prover_isRow_2 B w nw d x1 (x2 + 1) V Φ Θ) ∧ (¬ V 620 ((x1 * (V 157 17)) + x2) = V 160 x2 → Φ 0 V))))) : k_Prover_isRow_2 B w nw d x1 x2 V Φ Θ := by
  refine ax_mv 2 4 [some (.ref 157), some (ax_i x1), some (ax_i x2)] [.ref 157, ax_i x2] rfl ?_
  refine ax_gI (kI := 17) (pc' := 7) ⟨_, rfl⟩ fl_9_65 (az_e 6 rfl) rfl rfl rfl ?_
  refine ax_if2 (p1 := 40) (p2 := 10) ⟨_, rfl⟩ (by decide) rfl hx2 (hg _ _) (fun hc => ?_) (fun hc => ?_)
  · have h := h.1 hc
    refine ax_mv 1 41 [some (.ref 157), some (ax_i x1), some (ax_i x2)] [ax_i 1] rfl ?_
    exact ax_iret ⟨_, rfl⟩ rfl (ax_nbv (by decide)) (by decide) hg h
  · have h := h.2 (Int.not_le.mp hc)
    refine ax_mv 1 11 [some (.ref 157), some (ax_i x1), some (ax_i x2)] [.ref 157] rfl ?_
    refine ax_gR (v := .ref w) (pc' := 14) ⟨_, rfl⟩ fl_9_15 (az_e 6 rfl) rfl rfl ?_
    refine ax_mv 2 16 [some (.ref 157), some (ax_i x1), some (ax_i x2)] [.ref 157, ax_i x1, .ref w] rfl ?_
    refine ax_gI (kI := 17) (pc' := 19) ⟨_, rfl⟩ fl_9_65 (az_e 6 rfl) rfl rfl rfl ?_
    refine ax_mul (pc' := 20) ⟨_, rfl⟩ rfl ?_
    refine ax_mv 1 21 [some (.ref 157), some (ax_i x1), some (ax_i x2)] [ax_i x2, ax_i (x1 * (V 157 17)), .ref w] rfl ?_
    refine ax_add (pc' := 22) ⟨_, rfl⟩ rfl ?_
    obtain ⟨o1, h⟩ := h
    refine ax_ild (n := nw) (pc' := 23) ⟨_, rfl⟩ (az_e 14 rfl) (by omega) o1 rfl ?_
    refine ax_mv 1 24 [some (.ref 157), some (ax_i x1), some (ax_i x2)] [.ref 157, ax_i (V 620 ((x1 * (V 157 17)) + x2))] rfl ?_
    refine ax_gR (v := .ref 160) (pc' := 27) ⟨_, rfl⟩ fl_9_18 (az_e 6 rfl) rfl rfl ?_
    refine ax_mv 1 28 [some (.ref 157), some (ax_i x1), some (ax_i x2)] [ax_i x2, .ref 160, ax_i (V 620 ((x1 * (V 157 17)) + x2))] rfl ?_
    obtain ⟨o2, h⟩ := h
    refine ax_ild (n := 600) (pc' := 29) ⟨_, rfl⟩ (az_e 8 rfl) (by decide) o2 rfl ?_
    refine ax_if2 (p1 := 34) (p2 := 32) ⟨_, rfl⟩ (by decide) rfl (hg _ _) (hg _ _) (fun hc => ?_) (fun hc => ?_)
    · have h := h.1 hc
      refine ax_inc (x := x2) (pc' := 37) (L' := [some (.ref 157), some (ax_i x1), some (ax_i (x2 + 1))]) ⟨_, rfl⟩ rfl rfl rfl rfl ?_
      refine ax_mv 1 2 [some (.ref 157), some (ax_i x1), some (ax_i (x2 + 1))] [] rfl ?_
      exact h
    · have h := h.2 hc
      refine ax_mv 1 33 [some (.ref 157), some (ax_i x1), some (ax_i x2)] [ax_i 0] rfl ?_
      exact ax_iret ⟨_, rfl⟩ rfl (ax_nbv (by decide)) (by decide) hg h
theorem r_Prover_isRow {B : Nat} {w : Nat} {nw : Nat} (hnw : nw ≤ 1000000) {d : Nat} {V : ax_V} {Φ : Int → ax_V → Prop} {Θ : ax_V → Prop} {x1 : Int} (hg : ax_g V) (hx1 : ax_rg x1) (h : k_Prover_isRow_2 B w nw d x1 0 V Φ Θ) : ax_I (az_W B (az_EP B w nw)) (d + 1) q_Prover_isRow [.ref 157, ax_i x1] V Φ Θ := by
  refine ax_T.of (M := m_Prover_isRow) rfl (Nat.le_of_ble_eq_true rfl) ?_
  refine ax_mv 0 0 [some (.ref 157), some (ax_i x1), none] [] rfl ?_
  refine ax_mv 1 1 [some (.ref 157), some (ax_i x1), none] [ax_i 0] rfl ?_
  refine ax_sti (i := 0) (k := 2) (n := 1) (pc' := 2) (L' := [some (.ref 157), some (ax_i x1), some (ax_i 0)]) ⟨_, rfl⟩ rfl rfl rfl (Nat.le_of_ble_eq_true rfl) rfl rfl ?_
  exact h
theorem r_Prover_keepRow {B : Nat} {w : Nat} {nw : Nat} (hnw : nw ≤ 1000000) {d : Nat} {V : ax_V} {Φ : ax_V → Prop} {Θ : ax_V → Prop} {x1 : Int} {x2 : Int} {x3 : Int} (hg : ax_g V) (hx1 : ax_rg x1) (hx2 : ax_rg x2) (hx3 : ax_rg x3) (h : ((V 157 1 < 300 → ((0 : Int) ≤ 0 ∧ (0 : Int) ≤ (V 157 1) * (V 157 17) ∧ (0 : Int) ≤ V 157 17 ∧ (0 + (V 157 17) : Int) ≤ 600 ∧ (((V 157 1) * (V 157 17)) + (V 157 17) : Int) ≤ (nw : Int)) ∧ (∀ V1, V1 = ax_cp V 160 620 0 ((V 157 1) * (V 157 17)) (V 157 17) → (0 ≤ V1 157 1 ∧ V1 157 1 < 300) ∧ (∀ V2, V2 = ax_u V1 161 (V1 157 1) x2 → (0 ≤ V2 157 1 ∧ V2 157 1 < 300) ∧ (∀ V3, V3 = ax_u V2 162 (V2 157 1) x3 → ax_rg ((V3 157 1) + 1) ∧ (∀ V4, V4 = ax_u V3 157 1 ((V3 157 1) + 1) → (0 ≤ x1 ∧ x1 < 1024) ∧ (∀ V5, V5 = ax_u V4 163 x1 (V4 157 1) → Φ V5)))))) ∧ (300 ≤ V 157 1 → Φ V))) : ax_N (az_W B (az_EP B w nw)) (d + 1) q_Prover_keepRow [.ref 157, ax_i x1, ax_i x2, ax_i x3] V Φ Θ := by
  refine ax_T.of (M := m_Prover_keepRow) rfl (Nat.le_of_ble_eq_true rfl) ?_
  refine ax_mv 0 0 [some (.ref 157), some (ax_i x1), some (ax_i x2), some (ax_i x3)] [] rfl ?_
  refine ax_mv 1 1 [some (.ref 157), some (ax_i x1), some (ax_i x2), some (ax_i x3)] [.ref 157] rfl ?_
  refine ax_gI (kI := 1) (pc' := 4) ⟨_, rfl⟩ fl_9_84 (az_e 6 rfl) rfl rfl rfl ?_
  refine ax_sip (pc' := 7) ⟨_, rfl⟩ (by decide) rfl ?_
  refine ax_if2 (p1 := 11) (p2 := 10) ⟨_, rfl⟩ (by decide) rfl (hg _ _) (by decide) (fun hc => ?_) (fun hc => ?_)
  · have h := h.1 hc
    refine ax_mv 1 12 [some (.ref 157), some (ax_i x1), some (ax_i x2), some (ax_i x3)] [.ref 157] rfl ?_
    refine ax_gR (v := .ref 160) (pc' := 15) ⟨_, rfl⟩ fl_9_18 (az_e 6 rfl) rfl rfl ?_
    refine ax_mv 2 17 [some (.ref 157), some (ax_i x1), some (ax_i x2), some (ax_i x3)] [.ref 157, ax_i 0, .ref 160] rfl ?_
    refine ax_gR (v := .ref w) (pc' := 20) ⟨_, rfl⟩ fl_9_15 (az_e 6 rfl) rfl rfl ?_
    refine ax_mv 1 21 [some (.ref 157), some (ax_i x1), some (ax_i x2), some (ax_i x3)] [.ref 157, .ref w, ax_i 0, .ref 160] rfl ?_
    refine ax_gI (kI := 1) (pc' := 24) ⟨_, rfl⟩ fl_9_84 (az_e 6 rfl) rfl rfl rfl ?_
    refine ax_mv 1 25 [some (.ref 157), some (ax_i x1), some (ax_i x2), some (ax_i x3)] [.ref 157, ax_i (V 157 1), .ref w, ax_i 0, .ref 160] rfl ?_
    refine ax_gI (kI := 17) (pc' := 28) ⟨_, rfl⟩ fl_9_65 (az_e 6 rfl) rfl rfl rfl ?_
    refine ax_mul (pc' := 29) ⟨_, rfl⟩ rfl ?_
    refine ax_mv 1 30 [some (.ref 157), some (ax_i x1), some (ax_i x2), some (ax_i x3)] [.ref 157, ax_i ((V 157 1) * (V 157 17)), .ref w, ax_i 0, .ref 160] rfl ?_
    refine ax_gI (kI := 17) (pc' := 33) ⟨_, rfl⟩ fl_9_65 (az_e 6 rfl) rfl rfl rfl ?_
    obtain ⟨o1, h⟩ := h
    obtain ⟨V1, eV1⟩ : ∃ W9 : ax_V, W9 = ax_cp V 160 620 0 ((V 157 1) * (V 157 17)) (V 157 17) := ⟨_, rfl⟩
    have h := h V1 eV1
    have hg1 : ax_g V1 := eV1 ▸ ax_cp_g hg
    refine ax_acp (na := nw) (nb := 600) (pc' := 36) ⟨_, rfl⟩ ml_9_119 az_ok (az_e 8 rfl) (az_e 14 rfl) (by omega) (by decide) o1 (Nat.le_of_ble_eq_true rfl) eV1 rfl ?_
    refine ax_mv 1 37 [some (.ref 157), some (ax_i x1), some (ax_i x2), some (ax_i x3)] [.ref 157] rfl ?_
    refine ax_gR (v := .ref 161) (pc' := 40) ⟨_, rfl⟩ fl_9_21 (az_e 6 rfl) rfl rfl ?_
    refine ax_mv 1 41 [some (.ref 157), some (ax_i x1), some (ax_i x2), some (ax_i x3)] [.ref 157, .ref 161] rfl ?_
    refine ax_gI (kI := 1) (pc' := 44) ⟨_, rfl⟩ fl_9_84 (az_e 6 rfl) rfl rfl rfl ?_
    refine ax_mv 1 45 [some (.ref 157), some (ax_i x1), some (ax_i x2), some (ax_i x3)] [ax_i x2, ax_i (V1 157 1), .ref 161] rfl ?_
    obtain ⟨o2, h⟩ := h
    obtain ⟨V2, eV2⟩ : ∃ W9 : ax_V, W9 = ax_u V1 161 (V1 157 1) x2 := ⟨_, rfl⟩
    have h := h V2 eV2
    have hg2 : ax_g V2 := eV2 ▸ ax_u_g hg1 hx2
    refine ax_ist (n := 300) (pc' := 46) ⟨_, rfl⟩ az_ok (az_e 9 rfl) (by decide) o2 eV2 rfl ?_
    refine ax_mv 1 47 [some (.ref 157), some (ax_i x1), some (ax_i x2), some (ax_i x3)] [.ref 157] rfl ?_
    refine ax_gR (v := .ref 162) (pc' := 50) ⟨_, rfl⟩ fl_9_24 (az_e 6 rfl) rfl rfl ?_
    refine ax_mv 1 51 [some (.ref 157), some (ax_i x1), some (ax_i x2), some (ax_i x3)] [.ref 157, .ref 162] rfl ?_
    refine ax_gI (kI := 1) (pc' := 54) ⟨_, rfl⟩ fl_9_84 (az_e 6 rfl) rfl rfl rfl ?_
    refine ax_mv 1 55 [some (.ref 157), some (ax_i x1), some (ax_i x2), some (ax_i x3)] [ax_i x3, ax_i (V2 157 1), .ref 162] rfl ?_
    obtain ⟨o3, h⟩ := h
    obtain ⟨V3, eV3⟩ : ∃ W9 : ax_V, W9 = ax_u V2 162 (V2 157 1) x3 := ⟨_, rfl⟩
    have h := h V3 eV3
    have hg3 : ax_g V3 := eV3 ▸ ax_u_g hg2 hx3
    refine ax_ist (n := 300) (pc' := 56) ⟨_, rfl⟩ az_ok (az_e 10 rfl) (by decide) o3 eV3 rfl ?_
    refine ax_mv 2 58 [some (.ref 157), some (ax_i x1), some (ax_i x2), some (ax_i x3)] [.ref 157, .ref 157] rfl ?_
    refine ax_gI (kI := 1) (pc' := 61) ⟨_, rfl⟩ fl_9_84 (az_e 6 rfl) rfl rfl rfl ?_
    refine ax_mv 1 62 [some (.ref 157), some (ax_i x1), some (ax_i x2), some (ax_i x3)] [ax_i 1, ax_i (V3 157 1), .ref 157] rfl ?_
    refine ax_add (pc' := 63) ⟨_, rfl⟩ rfl ?_
    obtain ⟨o4, h⟩ := h
    obtain ⟨V4, eV4⟩ : ∃ W9 : ax_V, W9 = ax_u V3 157 1 ((V3 157 1) + 1) := ⟨_, rfl⟩
    have h := h V4 eV4
    have hg4 : ax_g V4 := eV4 ▸ ax_u_g hg3 o4
    refine ax_pI (kI := 1) (pc' := 66) ⟨_, rfl⟩ fl_9_84 az_ok (az_e 6 rfl) rfl rfl rfl rfl eV4 rfl ?_
    refine ax_mv 1 67 [some (.ref 157), some (ax_i x1), some (ax_i x2), some (ax_i x3)] [.ref 157] rfl ?_
    refine ax_gR (v := .ref 163) (pc' := 70) ⟨_, rfl⟩ fl_9_27 (az_e 6 rfl) rfl rfl ?_
    refine ax_mv 2 72 [some (.ref 157), some (ax_i x1), some (ax_i x2), some (ax_i x3)] [.ref 157, ax_i x1, .ref 163] rfl ?_
    refine ax_gI (kI := 1) (pc' := 75) ⟨_, rfl⟩ fl_9_84 (az_e 6 rfl) rfl rfl rfl ?_
    obtain ⟨o5, h⟩ := h
    obtain ⟨V5, eV5⟩ : ∃ W9 : ax_V, W9 = ax_u V4 163 x1 (V4 157 1) := ⟨_, rfl⟩
    have h := h V5 eV5
    have hg5 : ax_g V5 := eV5 ▸ ax_u_g hg4 (hg4 _ _)
    refine ax_ist (n := 1024) (pc' := 76) ⟨_, rfl⟩ az_ok (az_e 11 rfl) (by decide) o5 eV5 rfl ?_
    exact ax_nret ⟨_, rfl⟩ rfl hg5 h
  · have h := h.2 (Int.not_lt.mp hc)
    exact ax_nret ⟨_, rfl⟩ rfl hg h
set_option maxRecDepth 20000 in
theorem r_Prover_holds {B : Nat} {w : Nat} {nw : Nat} (hnw : nw ≤ 1000000) {d : Nat} {V : ax_V} {Φ : Int → ax_V → Prop} {Θ : ax_V → Prop} {x1 : Int} (hg : ax_g V) (hx1 : ax_rg x1) (h : (0 ≤ V 157 13 ∧ V 157 13 < 8) ∧ ax_I (az_W B (az_EP B w nw)) d q_Machine_goes [.ref 150, ax_i (V 157 13), .ref 165, .ref w, ax_i (x1 * (V 157 17))] V (fun r1 V1 => ((0 : Int) ≤ 0 ∧ (0 : Int) ≤ 0 ∧ (0 : Int) ≤ V 514 (V 157 13) ∧ (0 + (V 514 (V 157 13)) : Int) ≤ 300 ∧ (0 + (V 514 (V 157 13)) : Int) ≤ 600) ∧ (∀ V2, V2 = ax_cp V1 155 160 0 0 (V 514 (V 157 13)) → ((0 ≤ V2 157 14 → ax_N (az_W B (az_EP B w nw)) d q_Prover_takeOutputs [.ref 157] V2 (fun V3 => ax_I (az_W B (az_EP B w nw)) d q_Machine_goes [.ref 150, ax_i (V3 157 14), .ref 165, .ref w, ax_i ((x1 * (V3 157 17)) + (V 514 (V 157 13)))] V3 (fun r4 V4 => ((0 : Int) ≤ 0 ∧ (0 : Int) ≤ V 514 (V 157 13) ∧ (0 : Int) ≤ (V4 157 17) - (V 514 (V 157 13)) ∧ (0 + ((V4 157 17) - (V 514 (V 157 13))) : Int) ≤ 300 ∧ ((V 514 (V 157 13)) + ((V4 157 17) - (V 514 (V 157 13))) : Int) ≤ 600) ∧ (∀ V5, V5 = ax_cp V4 155 160 0 (V 514 (V 157 13)) ((V4 157 17) - (V 514 (V 157 13))) → ((r1 = 0 → ((0 : Int) ≤ x1 * (V5 157 17) ∧ (0 : Int) ≤ 0 ∧ (0 : Int) ≤ V5 157 17 ∧ ((x1 * (V5 157 17)) + (V5 157 17) : Int) ≤ (nw : Int) ∧ (0 + (V5 157 17) : Int) ≤ 600) ∧ (∀ V6, V6 = ax_cp V5 620 160 (x1 * (V5 157 17)) 0 (V5 157 17) → ((r1 = r4 → Φ 1 V6) ∧ (¬ r1 = r4 → Φ 0 V6)))) ∧ (¬ r1 = 0 → ((r4 = 0 → ((0 : Int) ≤ x1 * (V5 157 17) ∧ (0 : Int) ≤ 0 ∧ (0 : Int) ≤ V5 157 17 ∧ ((x1 * (V5 157 17)) + (V5 157 17) : Int) ≤ (nw : Int) ∧ (0 + (V5 157 17) : Int) ≤ 600) ∧ (∀ V7, V7 = ax_cp V5 620 160 (x1 * (V5 157 17)) 0 (V5 157 17) → ((r1 = r4 → Φ 1 V7) ∧ (¬ r1 = r4 → Φ 0 V7)))) ∧ (¬ r4 = 0 → ax_I (az_W B (az_EP B w nw)) d q_Prover_hasOutputs [.ref 157] V5 (fun r8 V8 => (r8 = 0 ∨ r8 = 1) ∧ Φ r8 V8) Θ)))))) Θ) Θ) ∧ (V2 157 14 < 0 → ((r1 = 0 → Φ 0 V2) ∧ (¬ r1 = 0 → (0 ≤ V2 157 15 ∧ V2 157 15 < 208) ∧ ((V2 152 (V2 157 15) = 1 → Φ 1 V2) ∧ (¬ V2 152 (V2 157 15) = 1 → Φ 0 V2)))))))) Θ) : ax_I (az_W B (az_EP B w nw)) (d + 1) q_Prover_holds [.ref 157, ax_i x1] V Φ Θ := by
  refine ax_T.of (M := m_Prover_holds) rfl (Nat.le_of_ble_eq_true rfl) ?_
  refine ax_mv 0 0 [some (.ref 157), some (ax_i x1), none, none, none] [] rfl ?_
  refine ax_mv 1 1 [some (.ref 157), some (ax_i x1), none, none, none] [.ref 157] rfl ?_
  refine ax_gR (v := .ref B) (pc' := 4) ⟨_, rfl⟩ fl_9_46 (az_e 6 rfl) rfl rfl ?_
  refine ax_gR (v := .ref (B + 14)) (pc' := 7) ⟨_, rfl⟩ fl_9_60 (az_b 0 rfl) rfl rfl ?_
  refine ax_mv 1 8 [some (.ref 157), some (ax_i x1), none, none, none] [.ref 157, .ref (B + 14)] rfl ?_
  refine ax_gI (kI := 13) (pc' := 11) ⟨_, rfl⟩ fl_9_47 (az_e 6 rfl) rfl rfl rfl ?_
  obtain ⟨o1, h⟩ := h
  refine ax_ild (n := 8) (pc' := 12) ⟨_, rfl⟩ (az_b 14 rfl) (by decide) o1 rfl ?_
  refine ax_sti (i := 0) (k := 2) (n := 1) (pc' := 13) (L' := [some (.ref 157), some (ax_i x1), some (ax_i (V 514 (V 157 13))), none, none]) ⟨_, rfl⟩ rfl rfl rfl (Nat.le_of_ble_eq_true rfl) rfl rfl ?_
  refine ax_mv 1 14 [some (.ref 157), some (ax_i x1), some (ax_i (V 514 (V 157 13))), none, none] [.ref 157] rfl ?_
  refine ax_gR (v := .ref 150) (pc' := 17) ⟨_, rfl⟩ fl_9_36 (az_e 6 rfl) rfl rfl ?_
  refine ax_mv 1 18 [some (.ref 157), some (ax_i x1), some (ax_i (V 514 (V 157 13))), none, none] [.ref 157, .ref 150] rfl ?_
  refine ax_gI (kI := 13) (pc' := 21) ⟨_, rfl⟩ fl_9_47 (az_e 6 rfl) rfl rfl rfl ?_
  refine ax_mv 1 22 [some (.ref 157), some (ax_i x1), some (ax_i (V 514 (V 157 13))), none, none] [.ref 157, ax_i (V 157 13), .ref 150] rfl ?_
  refine ax_gR (v := .ref 165) (pc' := 25) ⟨_, rfl⟩ fl_9_33 (az_e 6 rfl) rfl rfl ?_
  refine ax_mv 1 26 [some (.ref 157), some (ax_i x1), some (ax_i (V 514 (V 157 13))), none, none] [.ref 157, .ref 165, ax_i (V 157 13), .ref 150] rfl ?_
  refine ax_gR (v := .ref w) (pc' := 29) ⟨_, rfl⟩ fl_9_15 (az_e 6 rfl) rfl rfl ?_
  refine ax_mv 2 31 [some (.ref 157), some (ax_i x1), some (ax_i (V 514 (V 157 13))), none, none] [.ref 157, ax_i x1, .ref w, .ref 165, ax_i (V 157 13), .ref 150] rfl ?_
  refine ax_gI (kI := 17) (pc' := 34) ⟨_, rfl⟩ fl_9_65 (az_e 6 rfl) rfl rfl rfl ?_
  refine ax_mul (pc' := 35) ⟨_, rfl⟩ rfl ?_
  refine ax_callI (pc' := 38) ⟨_, rfl⟩ ml_9_125 (rest := []) rfl (fun ss hs => ⟨_, _, (az_e 0 rfl) ss hs⟩) (Nat.le_of_ble_eq_true rfl) rfl rfl h (fun r1 V1 hg1 hr1 h => ?_)
  refine ax_sti (i := 0) (k := 3) (n := 1) (pc' := 39) (L' := [some (.ref 157), some (ax_i x1), some (ax_i (V 514 (V 157 13))), some (ax_i r1), none]) ⟨_, rfl⟩ rfl rfl rfl (Nat.le_of_ble_eq_true rfl) rfl rfl ?_
  refine ax_mv 1 40 [some (.ref 157), some (ax_i x1), some (ax_i (V 514 (V 157 13))), some (ax_i r1), none] [.ref 157] rfl ?_
  refine ax_gR (v := .ref 150) (pc' := 43) ⟨_, rfl⟩ fl_9_36 (az_e 6 rfl) rfl rfl ?_
  refine ax_gR (v := .ref 155) (pc' := 46) ⟨_, rfl⟩ fl_9_129 (az_e 0 rfl) rfl rfl ?_
  refine ax_mv 2 48 [some (.ref 157), some (ax_i x1), some (ax_i (V 514 (V 157 13))), some (ax_i r1), none] [.ref 157, ax_i 0, .ref 155] rfl ?_
  refine ax_gR (v := .ref 160) (pc' := 51) ⟨_, rfl⟩ fl_9_18 (az_e 6 rfl) rfl rfl ?_
  refine ax_mv 2 53 [some (.ref 157), some (ax_i x1), some (ax_i (V 514 (V 157 13))), some (ax_i r1), none] [ax_i (V 514 (V 157 13)), ax_i 0, .ref 160, ax_i 0, .ref 155] rfl ?_
  obtain ⟨o2, h⟩ := h
  obtain ⟨V2, eV2⟩ : ∃ W9 : ax_V, W9 = ax_cp V1 155 160 0 0 (V 514 (V 157 13)) := ⟨_, rfl⟩
  have h := h V2 eV2
  have hg2 : ax_g V2 := eV2 ▸ ax_cp_g hg1
  refine ax_acp (na := 600) (nb := 300) (pc' := 56) ⟨_, rfl⟩ ml_9_119 az_ok (az_e 5 rfl) (az_e 8 rfl) (by decide) (by decide) o2 (Nat.le_of_ble_eq_true rfl) eV2 rfl ?_
  refine ax_mv 1 57 [some (.ref 157), some (ax_i x1), some (ax_i (V 514 (V 157 13))), some (ax_i r1), none] [.ref 157] rfl ?_
  refine ax_gI (kI := 14) (pc' := 60) ⟨_, rfl⟩ fl_9_51 (az_e 6 rfl) rfl rfl rfl ?_
  refine ax_if (p1 := 89) (p2 := 63) ⟨_, rfl⟩ (by decide) rfl (hg2 _ _) (fun hc => ?_) (fun hc => ?_)
  · have h := h.1 hc
    refine ax_mv 1 90 [some (.ref 157), some (ax_i x1), some (ax_i (V 514 (V 157 13))), some (ax_i r1), none] [.ref 157] rfl ?_
    refine ax_callN (pc' := 93) ⟨_, rfl⟩ ml_9_135 (rest := []) rfl (fun ss hs => ⟨_, _, (az_e 6 rfl) ss hs⟩) (Nat.le_of_ble_eq_true rfl) rfl rfl h (fun V3 hg3 h => ?_)
    refine ax_mv 1 94 [some (.ref 157), some (ax_i x1), some (ax_i (V 514 (V 157 13))), some (ax_i r1), none] [.ref 157] rfl ?_
    refine ax_gR (v := .ref 150) (pc' := 97) ⟨_, rfl⟩ fl_9_36 (az_e 6 rfl) rfl rfl ?_
    refine ax_mv 1 98 [some (.ref 157), some (ax_i x1), some (ax_i (V 514 (V 157 13))), some (ax_i r1), none] [.ref 157, .ref 150] rfl ?_
    refine ax_gI (kI := 14) (pc' := 101) ⟨_, rfl⟩ fl_9_51 (az_e 6 rfl) rfl rfl rfl ?_
    refine ax_mv 1 102 [some (.ref 157), some (ax_i x1), some (ax_i (V 514 (V 157 13))), some (ax_i r1), none] [.ref 157, ax_i (V3 157 14), .ref 150] rfl ?_
    refine ax_gR (v := .ref 165) (pc' := 105) ⟨_, rfl⟩ fl_9_33 (az_e 6 rfl) rfl rfl ?_
    refine ax_mv 1 106 [some (.ref 157), some (ax_i x1), some (ax_i (V 514 (V 157 13))), some (ax_i r1), none] [.ref 157, .ref 165, ax_i (V3 157 14), .ref 150] rfl ?_
    refine ax_gR (v := .ref w) (pc' := 109) ⟨_, rfl⟩ fl_9_15 (az_e 6 rfl) rfl rfl ?_
    refine ax_mv 2 111 [some (.ref 157), some (ax_i x1), some (ax_i (V 514 (V 157 13))), some (ax_i r1), none] [.ref 157, ax_i x1, .ref w, .ref 165, ax_i (V3 157 14), .ref 150] rfl ?_
    refine ax_gI (kI := 17) (pc' := 114) ⟨_, rfl⟩ fl_9_65 (az_e 6 rfl) rfl rfl rfl ?_
    refine ax_mul (pc' := 115) ⟨_, rfl⟩ rfl ?_
    refine ax_mv 1 116 [some (.ref 157), some (ax_i x1), some (ax_i (V 514 (V 157 13))), some (ax_i r1), none] [ax_i (V 514 (V 157 13)), ax_i (x1 * (V3 157 17)), .ref w, .ref 165, ax_i (V3 157 14), .ref 150] rfl ?_
    refine ax_add (pc' := 117) ⟨_, rfl⟩ rfl ?_
    refine ax_callI (pc' := 120) ⟨_, rfl⟩ ml_9_125 (rest := []) rfl (fun ss hs => ⟨_, _, (az_e 0 rfl) ss hs⟩) (Nat.le_of_ble_eq_true rfl) rfl rfl h (fun r4 V4 hg4 hr4 h => ?_)
    refine ax_sti (i := 0) (k := 4) (n := 2) (pc' := 122) (L' := [some (.ref 157), some (ax_i x1), some (ax_i (V 514 (V 157 13))), some (ax_i r1), some (ax_i r4)]) ⟨_, rfl⟩ rfl rfl rfl (Nat.le_of_ble_eq_true rfl) rfl rfl ?_
    refine ax_mv 1 123 [some (.ref 157), some (ax_i x1), some (ax_i (V 514 (V 157 13))), some (ax_i r1), some (ax_i r4)] [.ref 157] rfl ?_
    refine ax_gR (v := .ref 150) (pc' := 126) ⟨_, rfl⟩ fl_9_36 (az_e 6 rfl) rfl rfl ?_
    refine ax_gR (v := .ref 155) (pc' := 129) ⟨_, rfl⟩ fl_9_129 (az_e 0 rfl) rfl rfl ?_
    refine ax_mv 2 131 [some (.ref 157), some (ax_i x1), some (ax_i (V 514 (V 157 13))), some (ax_i r1), some (ax_i r4)] [.ref 157, ax_i 0, .ref 155] rfl ?_
    refine ax_gR (v := .ref 160) (pc' := 134) ⟨_, rfl⟩ fl_9_18 (az_e 6 rfl) rfl rfl ?_
    refine ax_mv 2 136 [some (.ref 157), some (ax_i x1), some (ax_i (V 514 (V 157 13))), some (ax_i r1), some (ax_i r4)] [.ref 157, ax_i (V 514 (V 157 13)), .ref 160, ax_i 0, .ref 155] rfl ?_
    refine ax_gI (kI := 17) (pc' := 139) ⟨_, rfl⟩ fl_9_65 (az_e 6 rfl) rfl rfl rfl ?_
    refine ax_mv 1 140 [some (.ref 157), some (ax_i x1), some (ax_i (V 514 (V 157 13))), some (ax_i r1), some (ax_i r4)] [ax_i (V 514 (V 157 13)), ax_i (V4 157 17), ax_i (V 514 (V 157 13)), .ref 160, ax_i 0, .ref 155] rfl ?_
    refine ax_sub (pc' := 141) ⟨_, rfl⟩ rfl ?_
    obtain ⟨o3, h⟩ := h
    obtain ⟨V5, eV5⟩ : ∃ W9 : ax_V, W9 = ax_cp V4 155 160 0 (V 514 (V 157 13)) ((V4 157 17) - (V 514 (V 157 13))) := ⟨_, rfl⟩
    have h := h V5 eV5
    have hg5 : ax_g V5 := eV5 ▸ ax_cp_g hg4
    refine ax_acp (na := 600) (nb := 300) (pc' := 144) ⟨_, rfl⟩ ml_9_119 az_ok (az_e 5 rfl) (az_e 8 rfl) (by decide) (by decide) o3 (Nat.le_of_ble_eq_true rfl) eV5 rfl ?_
    refine ax_mv 1 145 [some (.ref 157), some (ax_i x1), some (ax_i (V 514 (V 157 13))), some (ax_i r1), some (ax_i r4)] [ax_i r1] rfl ?_
    refine ax_if (p1 := 158) (p2 := 148) ⟨_, rfl⟩ (by decide) rfl hr1 (fun hc => ?_) (fun hc => ?_)
    · have h := h.1 hc
      refine ax_mv 1 159 [some (.ref 157), some (ax_i x1), some (ax_i (V 514 (V 157 13))), some (ax_i r1), some (ax_i r4)] [.ref 157] rfl ?_
      refine ax_gR (v := .ref w) (pc' := 162) ⟨_, rfl⟩ fl_9_15 (az_e 6 rfl) rfl rfl ?_
      refine ax_mv 2 164 [some (.ref 157), some (ax_i x1), some (ax_i (V 514 (V 157 13))), some (ax_i r1), some (ax_i r4)] [.ref 157, ax_i x1, .ref w] rfl ?_
      refine ax_gI (kI := 17) (pc' := 167) ⟨_, rfl⟩ fl_9_65 (az_e 6 rfl) rfl rfl rfl ?_
      refine ax_mul (pc' := 168) ⟨_, rfl⟩ rfl ?_
      refine ax_mv 1 169 [some (.ref 157), some (ax_i x1), some (ax_i (V 514 (V 157 13))), some (ax_i r1), some (ax_i r4)] [.ref 157, ax_i (x1 * (V5 157 17)), .ref w] rfl ?_
      refine ax_gR (v := .ref 160) (pc' := 172) ⟨_, rfl⟩ fl_9_18 (az_e 6 rfl) rfl rfl ?_
      refine ax_mv 2 174 [some (.ref 157), some (ax_i x1), some (ax_i (V 514 (V 157 13))), some (ax_i r1), some (ax_i r4)] [.ref 157, ax_i 0, .ref 160, ax_i (x1 * (V5 157 17)), .ref w] rfl ?_
      refine ax_gI (kI := 17) (pc' := 177) ⟨_, rfl⟩ fl_9_65 (az_e 6 rfl) rfl rfl rfl ?_
      obtain ⟨o4, h⟩ := h
      obtain ⟨V6, eV6⟩ : ∃ W9 : ax_V, W9 = ax_cp V5 620 160 (x1 * (V5 157 17)) 0 (V5 157 17) := ⟨_, rfl⟩
      have h := h V6 eV6
      have hg6 : ax_g V6 := eV6 ▸ ax_cp_g hg5
      refine ax_acp (na := 600) (nb := nw) (pc' := 180) ⟨_, rfl⟩ ml_9_119 az_ok (az_e 14 rfl) (az_e 8 rfl) (by decide) (by omega) o4 (Nat.le_of_ble_eq_true rfl) eV6 rfl ?_
      refine ax_mv 2 183 [some (.ref 157), some (ax_i x1), some (ax_i (V 514 (V 157 13))), some (ax_i r1), some (ax_i r4)] [ax_i r4, ax_i r1] rfl ?_
      refine ax_if2 (p1 := 190) (p2 := 186) ⟨_, rfl⟩ (by decide) rfl hr1 hr4 (fun hc => ?_) (fun hc => ?_)
      · have h := h.2 hc
        refine ax_mv 1 191 [some (.ref 157), some (ax_i x1), some (ax_i (V 514 (V 157 13))), some (ax_i r1), some (ax_i r4)] [ax_i 0] rfl ?_
        exact ax_iret ⟨_, rfl⟩ rfl (ax_nbv (by decide)) (by decide) hg6 h
      · have h := h.1 (Classical.not_not.mp hc)
        refine ax_mv 2 191 [some (.ref 157), some (ax_i x1), some (ax_i (V 514 (V 157 13))), some (ax_i r1), some (ax_i r4)] [ax_i 1] rfl ?_
        exact ax_iret ⟨_, rfl⟩ rfl (ax_nbv (by decide)) (by decide) hg6 h
    · have h := h.2 hc
      refine ax_mv 1 150 [some (.ref 157), some (ax_i x1), some (ax_i (V 514 (V 157 13))), some (ax_i r1), some (ax_i r4)] [ax_i r4] rfl ?_
      refine ax_if (p1 := 158) (p2 := 153) ⟨_, rfl⟩ (by decide) rfl hr4 (fun hc => ?_) (fun hc => ?_)
      · have h := h.1 hc
        refine ax_mv 1 159 [some (.ref 157), some (ax_i x1), some (ax_i (V 514 (V 157 13))), some (ax_i r1), some (ax_i r4)] [.ref 157] rfl ?_
        refine ax_gR (v := .ref w) (pc' := 162) ⟨_, rfl⟩ fl_9_15 (az_e 6 rfl) rfl rfl ?_
        refine ax_mv 2 164 [some (.ref 157), some (ax_i x1), some (ax_i (V 514 (V 157 13))), some (ax_i r1), some (ax_i r4)] [.ref 157, ax_i x1, .ref w] rfl ?_
        refine ax_gI (kI := 17) (pc' := 167) ⟨_, rfl⟩ fl_9_65 (az_e 6 rfl) rfl rfl rfl ?_
        refine ax_mul (pc' := 168) ⟨_, rfl⟩ rfl ?_
        refine ax_mv 1 169 [some (.ref 157), some (ax_i x1), some (ax_i (V 514 (V 157 13))), some (ax_i r1), some (ax_i r4)] [.ref 157, ax_i (x1 * (V5 157 17)), .ref w] rfl ?_
        refine ax_gR (v := .ref 160) (pc' := 172) ⟨_, rfl⟩ fl_9_18 (az_e 6 rfl) rfl rfl ?_
        refine ax_mv 2 174 [some (.ref 157), some (ax_i x1), some (ax_i (V 514 (V 157 13))), some (ax_i r1), some (ax_i r4)] [.ref 157, ax_i 0, .ref 160, ax_i (x1 * (V5 157 17)), .ref w] rfl ?_
        refine ax_gI (kI := 17) (pc' := 177) ⟨_, rfl⟩ fl_9_65 (az_e 6 rfl) rfl rfl rfl ?_
        obtain ⟨o5, h⟩ := h
        obtain ⟨V7, eV7⟩ : ∃ W9 : ax_V, W9 = ax_cp V5 620 160 (x1 * (V5 157 17)) 0 (V5 157 17) := ⟨_, rfl⟩
        have h := h V7 eV7
        have hg7 : ax_g V7 := eV7 ▸ ax_cp_g hg5
        refine ax_acp (na := 600) (nb := nw) (pc' := 180) ⟨_, rfl⟩ ml_9_119 az_ok (az_e 14 rfl) (az_e 8 rfl) (by decide) (by omega) o5 (Nat.le_of_ble_eq_true rfl) eV7 rfl ?_
        refine ax_mv 2 183 [some (.ref 157), some (ax_i x1), some (ax_i (V 514 (V 157 13))), some (ax_i r1), some (ax_i r4)] [ax_i r4, ax_i r1] rfl ?_
        refine ax_if2 (p1 := 190) (p2 := 186) ⟨_, rfl⟩ (by decide) rfl hr1 hr4 (fun hc => ?_) (fun hc => ?_)
        · have h := h.2 hc
          refine ax_mv 1 191 [some (.ref 157), some (ax_i x1), some (ax_i (V 514 (V 157 13))), some (ax_i r1), some (ax_i r4)] [ax_i 0] rfl ?_
          exact ax_iret ⟨_, rfl⟩ rfl (ax_nbv (by decide)) (by decide) hg7 h
        · have h := h.1 (Classical.not_not.mp hc)
          refine ax_mv 2 191 [some (.ref 157), some (ax_i x1), some (ax_i (V 514 (V 157 13))), some (ax_i r1), some (ax_i r4)] [ax_i 1] rfl ?_
          exact ax_iret ⟨_, rfl⟩ rfl (ax_nbv (by decide)) (by decide) hg7 h
      · have h := h.2 hc
        refine ax_mv 1 154 [some (.ref 157), some (ax_i x1), some (ax_i (V 514 (V 157 13))), some (ax_i r1), some (ax_i r4)] [.ref 157] rfl ?_
        refine ax_callI (pc' := 157) ⟨_, rfl⟩ ml_9_138 (rest := []) rfl (fun ss hs => ⟨_, _, (az_e 6 rfl) ss hs⟩) (Nat.le_of_ble_eq_true rfl) rfl rfl h (fun r8 V8 hg8 hr8 h => ?_)
        obtain ⟨o6, h⟩ := h
        exact ax_iret ⟨_, rfl⟩ rfl (ax_nbv o6) hr8 hg8 h
  · have h := h.2 (Int.not_le.mp hc)
    refine ax_mv 1 64 [some (.ref 157), some (ax_i x1), some (ax_i (V 514 (V 157 13))), some (ax_i r1), none] [ax_i r1] rfl ?_
    refine ax_if (p1 := 87) (p2 := 67) ⟨_, rfl⟩ (by decide) rfl hr1 (fun hc => ?_) (fun hc => ?_)
    · have h := h.1 hc
      refine ax_mv 1 88 [some (.ref 157), some (ax_i x1), some (ax_i (V 514 (V 157 13))), some (ax_i r1), none] [ax_i 0] rfl ?_
      exact ax_iret ⟨_, rfl⟩ rfl (ax_nbv (by decide)) (by decide) hg2 h
    · have h := h.2 hc
      refine ax_mv 1 68 [some (.ref 157), some (ax_i x1), some (ax_i (V 514 (V 157 13))), some (ax_i r1), none] [.ref 157] rfl ?_
      refine ax_gR (v := .ref 150) (pc' := 71) ⟨_, rfl⟩ fl_9_36 (az_e 6 rfl) rfl rfl ?_
      refine ax_gR (v := .ref 152) (pc' := 74) ⟨_, rfl⟩ fl_9_132 (az_e 0 rfl) rfl rfl ?_
      refine ax_mv 1 75 [some (.ref 157), some (ax_i x1), some (ax_i (V 514 (V 157 13))), some (ax_i r1), none] [.ref 157, .ref 152] rfl ?_
      refine ax_gI (kI := 15) (pc' := 78) ⟨_, rfl⟩ fl_9_54 (az_e 6 rfl) rfl rfl rfl ?_
      obtain ⟨o7, h⟩ := h
      refine ax_ild (n := 208) (pc' := 79) ⟨_, rfl⟩ (az_e 2 rfl) (by decide) o7 rfl ?_
      refine ax_mv 1 80 [some (.ref 157), some (ax_i x1), some (ax_i (V 514 (V 157 13))), some (ax_i r1), none] [ax_i 1, ax_i (V2 152 (V2 157 15))] rfl ?_
      refine ax_if2 (p1 := 87) (p2 := 83) ⟨_, rfl⟩ (by decide) rfl (hg2 _ _) (by decide) (fun hc => ?_) (fun hc => ?_)
      · have h := h.2 hc
        refine ax_mv 1 88 [some (.ref 157), some (ax_i x1), some (ax_i (V 514 (V 157 13))), some (ax_i r1), none] [ax_i 0] rfl ?_
        exact ax_iret ⟨_, rfl⟩ rfl (ax_nbv (by decide)) (by decide) hg2 h
      · have h := h.1 (Classical.not_not.mp hc)
        refine ax_mv 2 88 [some (.ref 157), some (ax_i x1), some (ax_i (V 514 (V 157 13))), some (ax_i r1), none] [ax_i 1] rfl ?_
        exact ax_iret ⟨_, rfl⟩ rfl (ax_nbv (by decide)) (by decide) hg2 h
abbrev k_Prover_takeOutputs_2 (B : Nat) (w : Nat) (nw : Nat) (d : Nat) (x1 : Int) (V : ax_V) (Φ : ax_V → Prop) (Θ : ax_V → Prop) : Prop := ax_R (az_W B (az_EP B w nw)) ax_t d m_Prover_takeOutputs 2 [some (.ref 157), some (ax_i x1)] [] V (ax_Nr Φ) Θ
theorem r_Prover_takeOutputs_2 {B : Nat} {w : Nat} {nw : Nat} (hnw : nw ≤ 1000000) {d : Nat} {V : ax_V} {Φ : ax_V → Prop} {Θ : ax_V → Prop} {x1 : Int} (hg : ax_g V) (hx1 : ax_rg x1) (h : (0 ≤ V 157 13 ∧ V 157 13 < 8) ∧ ((V 504 (V 157 13) ≤ x1 → Φ V) ∧ (x1 < V 504 (V 157 13) → (0 ≤ ((V 157 13) * 26) + x1 ∧ ((V 157 13) * 26) + x1 < 208) ∧ (0 ≤ V 507 (((V 157 13) * 26) + x1) ∧ V 507 (((V 157 13) * 26) + x1) < 208) ∧ (0 ≤ x1 ∧ x1 < 26) ∧ (∀ V1, V1 = ax_u V 164 x1 (V 152 (V 507 (((V 157 13) * 26) + x1))) → k_Prover_takeOutputs_2 B w nw d (x1 + 1) V1 Φ Θ)))) : k_Prover_takeOutputs_2 B w nw d x1 V Φ Θ := by
  refine ax_mv 2 4 [some (.ref 157), some (ax_i x1)] [.ref 157, ax_i x1] rfl ?_
  refine ax_gR (v := .ref B) (pc' := 7) ⟨_, rfl⟩ fl_9_46 (az_e 6 rfl) rfl rfl ?_
  refine ax_gR (v := .ref (B + 4)) (pc' := 10) ⟨_, rfl⟩ fl_9_142 (az_b 0 rfl) rfl rfl ?_
  refine ax_mv 1 11 [some (.ref 157), some (ax_i x1)] [.ref 157, .ref (B + 4), ax_i x1] rfl ?_
  refine ax_gI (kI := 13) (pc' := 14) ⟨_, rfl⟩ fl_9_47 (az_e 6 rfl) rfl rfl rfl ?_
  obtain ⟨o1, h⟩ := h
  refine ax_ild (n := 8) (pc' := 15) ⟨_, rfl⟩ (az_b 4 rfl) (by decide) o1 rfl ?_
  refine ax_if2 (p1 := 55) (p2 := 18) ⟨_, rfl⟩ (by decide) rfl hx1 (hg _ _) (fun hc => ?_) (fun hc => ?_)
  · have h := h.1 hc
    exact ax_nret ⟨_, rfl⟩ rfl hg h
  · have h := h.2 (Int.not_le.mp hc)
    refine ax_mv 1 19 [some (.ref 157), some (ax_i x1)] [.ref 157] rfl ?_
    refine ax_gR (v := .ref 164) (pc' := 22) ⟨_, rfl⟩ fl_9_30 (az_e 6 rfl) rfl rfl ?_
    refine ax_mv 2 24 [some (.ref 157), some (ax_i x1)] [.ref 157, ax_i x1, .ref 164] rfl ?_
    refine ax_gR (v := .ref 150) (pc' := 27) ⟨_, rfl⟩ fl_9_36 (az_e 6 rfl) rfl rfl ?_
    refine ax_gR (v := .ref 152) (pc' := 30) ⟨_, rfl⟩ fl_9_132 (az_e 0 rfl) rfl rfl ?_
    refine ax_mv 1 31 [some (.ref 157), some (ax_i x1)] [.ref 157, .ref 152, ax_i x1, .ref 164] rfl ?_
    refine ax_gR (v := .ref B) (pc' := 34) ⟨_, rfl⟩ fl_9_46 (az_e 6 rfl) rfl rfl ?_
    refine ax_gR (v := .ref (B + 7)) (pc' := 37) ⟨_, rfl⟩ fl_9_143 (az_b 0 rfl) rfl rfl ?_
    refine ax_mv 1 38 [some (.ref 157), some (ax_i x1)] [.ref 157, .ref (B + 7), .ref 152, ax_i x1, .ref 164] rfl ?_
    refine ax_gI (kI := 13) (pc' := 41) ⟨_, rfl⟩ fl_9_47 (az_e 6 rfl) rfl rfl rfl ?_
    refine ax_bip (pc' := 43) ⟨_, rfl⟩ (by decide) rfl ?_
    refine ax_mul (pc' := 44) ⟨_, rfl⟩ rfl ?_
    refine ax_mv 1 45 [some (.ref 157), some (ax_i x1)] [ax_i x1, ax_i ((V 157 13) * 26), .ref (B + 7), .ref 152, ax_i x1, .ref 164] rfl ?_
    refine ax_add (pc' := 46) ⟨_, rfl⟩ rfl ?_
    obtain ⟨o2, h⟩ := h
    refine ax_ild (n := 208) (pc' := 47) ⟨_, rfl⟩ (az_b 7 rfl) (by decide) o2 rfl ?_
    obtain ⟨o3, h⟩ := h
    refine ax_ild (n := 208) (pc' := 48) ⟨_, rfl⟩ (az_e 2 rfl) (by decide) o3 rfl ?_
    obtain ⟨o4, h⟩ := h
    obtain ⟨V1, eV1⟩ : ∃ W9 : ax_V, W9 = ax_u V 164 x1 (V 152 (V 507 (((V 157 13) * 26) + x1))) := ⟨_, rfl⟩
    have h := h V1 eV1
    have hg1 : ax_g V1 := eV1 ▸ ax_u_g hg (hg _ _)
    refine ax_ist (n := 26) (pc' := 49) ⟨_, rfl⟩ az_ok (az_e 12 rfl) (by decide) o4 eV1 rfl ?_
    refine ax_inc (x := x1) (pc' := 52) (L' := [some (.ref 157), some (ax_i (x1 + 1))]) ⟨_, rfl⟩ rfl rfl rfl rfl ?_
    refine ax_mv 1 2 [some (.ref 157), some (ax_i (x1 + 1))] [] rfl ?_
    exact h
theorem r_Prover_takeOutputs {B : Nat} {w : Nat} {nw : Nat} (hnw : nw ≤ 1000000) {d : Nat} {V : ax_V} {Φ : ax_V → Prop} {Θ : ax_V → Prop} (hg : ax_g V) (h : k_Prover_takeOutputs_2 B w nw d 0 V Φ Θ) : ax_N (az_W B (az_EP B w nw)) (d + 1) q_Prover_takeOutputs [.ref 157] V Φ Θ := by
  refine ax_T.of (M := m_Prover_takeOutputs) rfl (Nat.le_of_ble_eq_true rfl) ?_
  refine ax_mv 0 0 [some (.ref 157), none] [] rfl ?_
  refine ax_mv 1 1 [some (.ref 157), none] [ax_i 0] rfl ?_
  refine ax_sti (i := 0) (k := 1) (n := 1) (pc' := 2) (L' := [some (.ref 157), some (ax_i 0)]) ⟨_, rfl⟩ rfl rfl rfl (Nat.le_of_ble_eq_true rfl) rfl rfl ?_
  exact h
abbrev k_Prover_hasOutputs_2 (B : Nat) (w : Nat) (nw : Nat) (d : Nat) (x1 : Int) (V : ax_V) (Φ : Int → ax_V → Prop) (Θ : ax_V → Prop) : Prop := ax_R (az_W B (az_EP B w nw)) ax_t d m_Prover_hasOutputs 2 [some (.ref 157), some (ax_i x1)] [] V (ax_Ir Φ) Θ
theorem r_Prover_hasOutputs_2 {B : Nat} {w : Nat} {nw : Nat} (hnw : nw ≤ 1000000) {d : Nat} {V : ax_V} {Φ : Int → ax_V → Prop} {Θ : ax_V → Prop} {x1 : Int} (hg : ax_g V) (hx1 : ax_rg x1) (h : (0 ≤ V 157 14 ∧ V 157 14 < 8) ∧ ((V 504 (V 157 14) ≤ x1 → Φ 1 V) ∧ (x1 < V 504 (V 157 14) → (0 ≤ x1 ∧ x1 < 26) ∧ (0 ≤ ((V 157 14) * 26) + x1 ∧ ((V 157 14) * 26) + x1 < 208) ∧ (0 ≤ V 507 (((V 157 14) * 26) + x1) ∧ V 507 (((V 157 14) * 26) + x1) < 208) ∧ ((V 164 x1 = V 152 (V 507 (((V 157 14) * 26) + x1)) → k_Prover_hasOutputs_2 B w nw d (x1 + 1) V Φ Θ) ∧ (¬ V 164 x1 = V 152 (V 507 (((V 157 14) * 26) + x1)) → Φ 0 V))))) : k_Prover_hasOutputs_2 B w nw d x1 V Φ Θ := by
  refine ax_mv 2 4 [some (.ref 157), some (ax_i x1)] [.ref 157, ax_i x1] rfl ?_
  refine ax_gR (v := .ref B) (pc' := 7) ⟨_, rfl⟩ fl_9_46 (az_e 6 rfl) rfl rfl ?_
  refine ax_gR (v := .ref (B + 4)) (pc' := 10) ⟨_, rfl⟩ fl_9_142 (az_b 0 rfl) rfl rfl ?_
  refine ax_mv 1 11 [some (.ref 157), some (ax_i x1)] [.ref 157, .ref (B + 4), ax_i x1] rfl ?_
  refine ax_gI (kI := 14) (pc' := 14) ⟨_, rfl⟩ fl_9_51 (az_e 6 rfl) rfl rfl rfl ?_
  obtain ⟨o1, h⟩ := h
  refine ax_ild (n := 8) (pc' := 15) ⟨_, rfl⟩ (az_b 4 rfl) (by decide) o1 rfl ?_
  refine ax_if2 (p1 := 60) (p2 := 18) ⟨_, rfl⟩ (by decide) rfl hx1 (hg _ _) (fun hc => ?_) (fun hc => ?_)
  · have h := h.1 hc
    refine ax_mv 1 61 [some (.ref 157), some (ax_i x1)] [ax_i 1] rfl ?_
    exact ax_iret ⟨_, rfl⟩ rfl (ax_nbv (by decide)) (by decide) hg h
  · have h := h.2 (Int.not_le.mp hc)
    refine ax_mv 1 19 [some (.ref 157), some (ax_i x1)] [.ref 157] rfl ?_
    refine ax_gR (v := .ref 164) (pc' := 22) ⟨_, rfl⟩ fl_9_30 (az_e 6 rfl) rfl rfl ?_
    refine ax_mv 1 23 [some (.ref 157), some (ax_i x1)] [ax_i x1, .ref 164] rfl ?_
    obtain ⟨o2, h⟩ := h
    refine ax_ild (n := 26) (pc' := 24) ⟨_, rfl⟩ (az_e 12 rfl) (by decide) o2 rfl ?_
    refine ax_mv 1 25 [some (.ref 157), some (ax_i x1)] [.ref 157, ax_i (V 164 x1)] rfl ?_
    refine ax_gR (v := .ref 150) (pc' := 28) ⟨_, rfl⟩ fl_9_36 (az_e 6 rfl) rfl rfl ?_
    refine ax_gR (v := .ref 152) (pc' := 31) ⟨_, rfl⟩ fl_9_132 (az_e 0 rfl) rfl rfl ?_
    refine ax_mv 1 32 [some (.ref 157), some (ax_i x1)] [.ref 157, .ref 152, ax_i (V 164 x1)] rfl ?_
    refine ax_gR (v := .ref B) (pc' := 35) ⟨_, rfl⟩ fl_9_46 (az_e 6 rfl) rfl rfl ?_
    refine ax_gR (v := .ref (B + 7)) (pc' := 38) ⟨_, rfl⟩ fl_9_143 (az_b 0 rfl) rfl rfl ?_
    refine ax_mv 1 39 [some (.ref 157), some (ax_i x1)] [.ref 157, .ref (B + 7), .ref 152, ax_i (V 164 x1)] rfl ?_
    refine ax_gI (kI := 14) (pc' := 42) ⟨_, rfl⟩ fl_9_51 (az_e 6 rfl) rfl rfl rfl ?_
    refine ax_bip (pc' := 44) ⟨_, rfl⟩ (by decide) rfl ?_
    refine ax_mul (pc' := 45) ⟨_, rfl⟩ rfl ?_
    refine ax_mv 1 46 [some (.ref 157), some (ax_i x1)] [ax_i x1, ax_i ((V 157 14) * 26), .ref (B + 7), .ref 152, ax_i (V 164 x1)] rfl ?_
    refine ax_add (pc' := 47) ⟨_, rfl⟩ rfl ?_
    obtain ⟨o3, h⟩ := h
    refine ax_ild (n := 208) (pc' := 48) ⟨_, rfl⟩ (az_b 7 rfl) (by decide) o3 rfl ?_
    obtain ⟨o4, h⟩ := h
    refine ax_ild (n := 208) (pc' := 49) ⟨_, rfl⟩ (az_e 2 rfl) (by decide) o4 rfl ?_
    refine ax_if2 (p1 := 54) (p2 := 52) ⟨_, rfl⟩ (by decide) rfl (hg _ _) (hg _ _) (fun hc => ?_) (fun hc => ?_)
    · have h := h.1 hc
      refine ax_inc (x := x1) (pc' := 57) (L' := [some (.ref 157), some (ax_i (x1 + 1))]) ⟨_, rfl⟩ rfl rfl rfl rfl ?_
      refine ax_mv 1 2 [some (.ref 157), some (ax_i (x1 + 1))] [] rfl ?_
      exact h
    · have h := h.2 hc
      refine ax_mv 1 53 [some (.ref 157), some (ax_i x1)] [ax_i 0] rfl ?_
      exact ax_iret ⟨_, rfl⟩ rfl (ax_nbv (by decide)) (by decide) hg h
theorem r_Prover_hasOutputs {B : Nat} {w : Nat} {nw : Nat} (hnw : nw ≤ 1000000) {d : Nat} {V : ax_V} {Φ : Int → ax_V → Prop} {Θ : ax_V → Prop} (hg : ax_g V) (h : k_Prover_hasOutputs_2 B w nw d 0 V Φ Θ) : ax_I (az_W B (az_EP B w nw)) (d + 1) q_Prover_hasOutputs [.ref 157] V Φ Θ := by
  refine ax_T.of (M := m_Prover_hasOutputs) rfl (Nat.le_of_ble_eq_true rfl) ?_
  refine ax_mv 0 0 [some (.ref 157), none] [] rfl ?_
  refine ax_mv 1 1 [some (.ref 157), none] [ax_i 0] rfl ?_
  refine ax_sti (i := 0) (k := 1) (n := 1) (pc' := 2) (L' := [some (.ref 157), some (ax_i 0)]) ⟨_, rfl⟩ rfl rfl rfl (Nat.le_of_ble_eq_true rfl) rfl rfl ?_
  exact h
abbrev k_Prover_tellPath_5 (B : Nat) (w : Nat) (nw : Nat) (d : Nat) (x1 : Int) (x2 : Int) (x3 : Int) (x4 : Int) (y5 : Option Value) (V : ax_V) (Φ : ax_V → Prop) (Θ : ax_V → Prop) : Prop := ax_R (az_W B (az_EP B w nw)) ax_t d m_Prover_tellPath 5 [some (.ref 157), some (ax_i x1), some (ax_i x2), some (ax_i x3), some (ax_i x4), y5] [] V (ax_Nr Φ) Θ
abbrev k_Prover_tellPath_54 (B : Nat) (w : Nat) (nw : Nat) (d : Nat) (y1 : Option Value) (y2 : Option Value) (y3 : Option Value) (x4 : Int) (x5 : Int) (V : ax_V) (Φ : ax_V → Prop) (Θ : ax_V → Prop) : Prop := ax_R (az_W B (az_EP B w nw)) ax_t d m_Prover_tellPath 54 [some (.ref 157), y1, y2, y3, some (ax_i x4), some (ax_i x5)] [] V (ax_Nr Φ) Θ
theorem r_Prover_tellPath_5 {B : Nat} {w : Nat} {nw : Nat} (hnw : nw ≤ 1000000) {d : Nat} {V : ax_V} {Φ : ax_V → Prop} {Θ : ax_V → Prop} {x1 : Int} {x2 : Int} {x3 : Int} {x4 : Int} {y5 : Option Value} (hg : ax_g V) (hx1 : ax_rg x1) (hx2 : ax_rg x2) (hx3 : ax_rg x3) (hx4 : ax_rg x4) (hy5 : ax_y y5) (h : ((x4 ≤ 0 → (∀ V1, V1 = ax_u V 157 2 x3 → (0 ≤ x3 - 1 ∧ x3 - 1 < 300) ∧ (∀ V2, V2 = ax_u V1 158 (x3 - 1) x2 → k_Prover_tellPath_54 B w nw d (some (ax_i x1)) (some (ax_i x2)) (some (ax_i x3)) x1 (x3 - 2) V2 Φ Θ))) ∧ (0 < x4 → ((300 ≤ x3 → (∀ V3, V3 = ax_u V 157 2 x3 → (0 ≤ x3 - 1 ∧ x3 - 1 < 300) ∧ (∀ V4, V4 = ax_u V3 158 (x3 - 1) x2 → k_Prover_tellPath_54 B w nw d (some (ax_i x1)) (some (ax_i x2)) (some (ax_i x3)) x1 (x3 - 2) V4 Φ Θ))) ∧ (x3 < 300 → (0 ≤ x4 ∧ x4 < 300) ∧ k_Prover_tellPath_5 B w nw d x1 x2 (x3 + 1) (V 161 x4) y5 V Φ Θ))))) : k_Prover_tellPath_5 B w nw d x1 x2 x3 x4 y5 V Φ Θ := by
  refine ax_mv 1 7 [some (.ref 157), some (ax_i x1), some (ax_i x2), some (ax_i x3), some (ax_i x4), y5] [ax_i x4] rfl ?_
  refine ax_if (p1 := 32) (p2 := 10) ⟨_, rfl⟩ (by decide) rfl hx4 (fun hc => ?_) (fun hc => ?_)
  · have h := h.1 hc
    refine ax_mv 2 34 [some (.ref 157), some (ax_i x1), some (ax_i x2), some (ax_i x3), some (ax_i x4), y5] [ax_i x3, .ref 157] rfl ?_
    obtain ⟨V1, eV1⟩ : ∃ W9 : ax_V, W9 = ax_u V 157 2 x3 := ⟨_, rfl⟩
    have h := h V1 eV1
    have hg1 : ax_g V1 := eV1 ▸ ax_u_g hg hx3
    refine ax_pI (kI := 2) (pc' := 37) ⟨_, rfl⟩ fl_9_87 az_ok (az_e 6 rfl) rfl rfl rfl rfl eV1 rfl ?_
    refine ax_mv 1 38 [some (.ref 157), some (ax_i x1), some (ax_i x2), some (ax_i x3), some (ax_i x4), y5] [.ref 157] rfl ?_
    refine ax_gR (v := .ref 158) (pc' := 41) ⟨_, rfl⟩ fl_9_9 (az_e 6 rfl) rfl rfl ?_
    refine ax_mv 2 43 [some (.ref 157), some (ax_i x1), some (ax_i x2), some (ax_i x3), some (ax_i x4), y5] [ax_i 1, ax_i x3, .ref 158] rfl ?_
    refine ax_sub (pc' := 44) ⟨_, rfl⟩ rfl ?_
    refine ax_mv 1 45 [some (.ref 157), some (ax_i x1), some (ax_i x2), some (ax_i x3), some (ax_i x4), y5] [ax_i x2, ax_i (x3 - 1), .ref 158] rfl ?_
    obtain ⟨o1, h⟩ := h
    obtain ⟨V2, eV2⟩ : ∃ W9 : ax_V, W9 = ax_u V1 158 (x3 - 1) x2 := ⟨_, rfl⟩
    have h := h V2 eV2
    have hg2 : ax_g V2 := eV2 ▸ ax_u_g hg1 hx2
    refine ax_ist (n := 300) (pc' := 46) ⟨_, rfl⟩ az_ok (az_e 7 rfl) (by decide) o1 eV2 rfl ?_
    refine ax_mv 1 47 [some (.ref 157), some (ax_i x1), some (ax_i x2), some (ax_i x3), some (ax_i x4), y5] [ax_i x1] rfl ?_
    refine ax_sti (i := 0) (k := 4) (n := 2) (pc' := 49) (L' := [some (.ref 157), some (ax_i x1), some (ax_i x2), some (ax_i x3), some (ax_i x1), y5]) ⟨_, rfl⟩ rfl rfl rfl (Nat.le_of_ble_eq_true rfl) rfl rfl ?_
    refine ax_mv 2 51 [some (.ref 157), some (ax_i x1), some (ax_i x2), some (ax_i x3), some (ax_i x1), y5] [ax_i 2, ax_i x3] rfl ?_
    refine ax_sub (pc' := 52) ⟨_, rfl⟩ rfl ?_
    refine ax_sti (i := 0) (k := 5) (n := 2) (pc' := 54) (L' := [some (.ref 157), some (ax_i x1), some (ax_i x2), some (ax_i x3), some (ax_i x1), some (ax_i (x3 - 2))]) ⟨_, rfl⟩ rfl rfl rfl (Nat.le_of_ble_eq_true rfl) rfl rfl ?_
    exact h
  · have h := h.2 (Int.not_le.mp hc)
    refine ax_mv 1 11 [some (.ref 157), some (ax_i x1), some (ax_i x2), some (ax_i x3), some (ax_i x4), y5] [ax_i x3] rfl ?_
    refine ax_sip (pc' := 14) ⟨_, rfl⟩ (by decide) rfl ?_
    refine ax_if2 (p1 := 32) (p2 := 17) ⟨_, rfl⟩ (by decide) rfl hx3 (by decide) (fun hc => ?_) (fun hc => ?_)
    · have h := h.1 hc
      refine ax_mv 2 34 [some (.ref 157), some (ax_i x1), some (ax_i x2), some (ax_i x3), some (ax_i x4), y5] [ax_i x3, .ref 157] rfl ?_
      obtain ⟨V3, eV3⟩ : ∃ W9 : ax_V, W9 = ax_u V 157 2 x3 := ⟨_, rfl⟩
      have h := h V3 eV3
      have hg3 : ax_g V3 := eV3 ▸ ax_u_g hg hx3
      refine ax_pI (kI := 2) (pc' := 37) ⟨_, rfl⟩ fl_9_87 az_ok (az_e 6 rfl) rfl rfl rfl rfl eV3 rfl ?_
      refine ax_mv 1 38 [some (.ref 157), some (ax_i x1), some (ax_i x2), some (ax_i x3), some (ax_i x4), y5] [.ref 157] rfl ?_
      refine ax_gR (v := .ref 158) (pc' := 41) ⟨_, rfl⟩ fl_9_9 (az_e 6 rfl) rfl rfl ?_
      refine ax_mv 2 43 [some (.ref 157), some (ax_i x1), some (ax_i x2), some (ax_i x3), some (ax_i x4), y5] [ax_i 1, ax_i x3, .ref 158] rfl ?_
      refine ax_sub (pc' := 44) ⟨_, rfl⟩ rfl ?_
      refine ax_mv 1 45 [some (.ref 157), some (ax_i x1), some (ax_i x2), some (ax_i x3), some (ax_i x4), y5] [ax_i x2, ax_i (x3 - 1), .ref 158] rfl ?_
      obtain ⟨o2, h⟩ := h
      obtain ⟨V4, eV4⟩ : ∃ W9 : ax_V, W9 = ax_u V3 158 (x3 - 1) x2 := ⟨_, rfl⟩
      have h := h V4 eV4
      have hg4 : ax_g V4 := eV4 ▸ ax_u_g hg3 hx2
      refine ax_ist (n := 300) (pc' := 46) ⟨_, rfl⟩ az_ok (az_e 7 rfl) (by decide) o2 eV4 rfl ?_
      refine ax_mv 1 47 [some (.ref 157), some (ax_i x1), some (ax_i x2), some (ax_i x3), some (ax_i x4), y5] [ax_i x1] rfl ?_
      refine ax_sti (i := 0) (k := 4) (n := 2) (pc' := 49) (L' := [some (.ref 157), some (ax_i x1), some (ax_i x2), some (ax_i x3), some (ax_i x1), y5]) ⟨_, rfl⟩ rfl rfl rfl (Nat.le_of_ble_eq_true rfl) rfl rfl ?_
      refine ax_mv 2 51 [some (.ref 157), some (ax_i x1), some (ax_i x2), some (ax_i x3), some (ax_i x1), y5] [ax_i 2, ax_i x3] rfl ?_
      refine ax_sub (pc' := 52) ⟨_, rfl⟩ rfl ?_
      refine ax_sti (i := 0) (k := 5) (n := 2) (pc' := 54) (L' := [some (.ref 157), some (ax_i x1), some (ax_i x2), some (ax_i x3), some (ax_i x1), some (ax_i (x3 - 2))]) ⟨_, rfl⟩ rfl rfl rfl (Nat.le_of_ble_eq_true rfl) rfl rfl ?_
      exact h
    · have h := h.2 (Int.not_le.mp hc)
      refine ax_inc (x := x3) (pc' := 20) (L' := [some (.ref 157), some (ax_i x1), some (ax_i x2), some (ax_i (x3 + 1)), some (ax_i x4), y5]) ⟨_, rfl⟩ rfl rfl rfl rfl ?_
      refine ax_mv 1 21 [some (.ref 157), some (ax_i x1), some (ax_i x2), some (ax_i (x3 + 1)), some (ax_i x4), y5] [.ref 157] rfl ?_
      refine ax_gR (v := .ref 161) (pc' := 24) ⟨_, rfl⟩ fl_9_21 (az_e 6 rfl) rfl rfl ?_
      refine ax_mv 1 26 [some (.ref 157), some (ax_i x1), some (ax_i x2), some (ax_i (x3 + 1)), some (ax_i x4), y5] [ax_i x4, .ref 161] rfl ?_
      obtain ⟨o3, h⟩ := h
      refine ax_ild (n := 300) (pc' := 27) ⟨_, rfl⟩ (az_e 9 rfl) (by decide) o3 rfl ?_
      refine ax_sti (i := 0) (k := 4) (n := 2) (pc' := 29) (L' := [some (.ref 157), some (ax_i x1), some (ax_i x2), some (ax_i (x3 + 1)), some (ax_i (V 161 x4)), y5]) ⟨_, rfl⟩ rfl rfl rfl (Nat.le_of_ble_eq_true rfl) rfl rfl ?_
      refine ax_mv 1 5 [some (.ref 157), some (ax_i x1), some (ax_i x2), some (ax_i (x3 + 1)), some (ax_i (V 161 x4)), y5] [] rfl ?_
      exact h
theorem r_Prover_tellPath_54 {B : Nat} {w : Nat} {nw : Nat} (hnw : nw ≤ 1000000) {d : Nat} {V : ax_V} {Φ : ax_V → Prop} {Θ : ax_V → Prop} {y1 : Option Value} {y2 : Option Value} {y3 : Option Value} {x4 : Int} {x5 : Int} (hg : ax_g V) (hy1 : ax_y y1) (hy2 : ax_y y2) (hy3 : ax_y y3) (hx4 : ax_rg x4) (hx5 : ax_rg x5) (h : ((x5 < 0 → Φ V) ∧ (0 ≤ x5 → ((x4 ≤ 0 → Φ V) ∧ (0 < x4 → (0 ≤ x4 ∧ x4 < 300) ∧ (0 ≤ x5 ∧ x5 < 300) ∧ (∀ V1, V1 = ax_u V 158 x5 (V 162 x4) → (0 ≤ x4 ∧ x4 < 300) ∧ k_Prover_tellPath_54 B w nw d y1 y2 y3 (V1 161 x4) (x5 + (-1)) V1 Φ Θ)))))) : k_Prover_tellPath_54 B w nw d y1 y2 y3 x4 x5 V Φ Θ := by
  refine ax_mv 1 56 [some (.ref 157), y1, y2, y3, some (ax_i x4), some (ax_i x5)] [ax_i x5] rfl ?_
  refine ax_if (p1 := 93) (p2 := 59) ⟨_, rfl⟩ (by decide) rfl hx5 (fun hc => ?_) (fun hc => ?_)
  · have h := h.1 hc
    exact ax_nret ⟨_, rfl⟩ rfl hg h
  · have h := h.2 (Int.not_lt.mp hc)
    refine ax_mv 1 61 [some (.ref 157), y1, y2, y3, some (ax_i x4), some (ax_i x5)] [ax_i x4] rfl ?_
    refine ax_if (p1 := 93) (p2 := 64) ⟨_, rfl⟩ (by decide) rfl hx4 (fun hc => ?_) (fun hc => ?_)
    · have h := h.1 hc
      exact ax_nret ⟨_, rfl⟩ rfl hg h
    · have h := h.2 (Int.not_le.mp hc)
      refine ax_mv 1 65 [some (.ref 157), y1, y2, y3, some (ax_i x4), some (ax_i x5)] [.ref 157] rfl ?_
      refine ax_gR (v := .ref 158) (pc' := 68) ⟨_, rfl⟩ fl_9_9 (az_e 6 rfl) rfl rfl ?_
      refine ax_mv 2 71 [some (.ref 157), y1, y2, y3, some (ax_i x4), some (ax_i x5)] [.ref 157, ax_i x5, .ref 158] rfl ?_
      refine ax_gR (v := .ref 162) (pc' := 74) ⟨_, rfl⟩ fl_9_24 (az_e 6 rfl) rfl rfl ?_
      refine ax_mv 1 76 [some (.ref 157), y1, y2, y3, some (ax_i x4), some (ax_i x5)] [ax_i x4, .ref 162, ax_i x5, .ref 158] rfl ?_
      obtain ⟨o4, h⟩ := h
      refine ax_ild (n := 300) (pc' := 77) ⟨_, rfl⟩ (az_e 10 rfl) (by decide) o4 rfl ?_
      obtain ⟨o5, h⟩ := h
      obtain ⟨V1, eV1⟩ : ∃ W9 : ax_V, W9 = ax_u V 158 x5 (V 162 x4) := ⟨_, rfl⟩
      have h := h V1 eV1
      have hg1 : ax_g V1 := eV1 ▸ ax_u_g hg (hg _ _)
      refine ax_ist (n := 300) (pc' := 78) ⟨_, rfl⟩ az_ok (az_e 7 rfl) (by decide) o5 eV1 rfl ?_
      refine ax_mv 1 79 [some (.ref 157), y1, y2, y3, some (ax_i x4), some (ax_i x5)] [.ref 157] rfl ?_
      refine ax_gR (v := .ref 161) (pc' := 82) ⟨_, rfl⟩ fl_9_21 (az_e 6 rfl) rfl rfl ?_
      refine ax_mv 1 84 [some (.ref 157), y1, y2, y3, some (ax_i x4), some (ax_i x5)] [ax_i x4, .ref 161] rfl ?_
      obtain ⟨o6, h⟩ := h
      refine ax_ild (n := 300) (pc' := 85) ⟨_, rfl⟩ (az_e 9 rfl) (by decide) o6 rfl ?_
      refine ax_sti (i := 0) (k := 4) (n := 2) (pc' := 87) (L' := [some (.ref 157), y1, y2, y3, some (ax_i (V1 161 x4)), some (ax_i x5)]) ⟨_, rfl⟩ rfl rfl (ax_kill_y (k := 3) rfl hy3) (Nat.le_of_ble_eq_true rfl) rfl rfl ?_
      refine ax_inc (x := x5) (pc' := 90) (L' := [some (.ref 157), y1, y2, y3, some (ax_i (V1 161 x4)), some (ax_i (x5 + (-1)))]) ⟨_, rfl⟩ rfl rfl rfl rfl ?_
      refine ax_mv 1 54 [some (.ref 157), y1, y2, y3, some (ax_i (V1 161 x4)), some (ax_i (x5 + (-1)))] [] rfl ?_
      exact h
theorem r_Prover_tellPath {B : Nat} {w : Nat} {nw : Nat} (hnw : nw ≤ 1000000) {d : Nat} {V : ax_V} {Φ : ax_V → Prop} {Θ : ax_V → Prop} {x1 : Int} {x2 : Int} (hg : ax_g V) (hx1 : ax_rg x1) (hx2 : ax_rg x2) (h : k_Prover_tellPath_5 B w nw d x1 x2 1 x1 none V Φ Θ) : ax_N (az_W B (az_EP B w nw)) (d + 1) q_Prover_tellPath [.ref 157, ax_i x1, ax_i x2] V Φ Θ := by
  refine ax_T.of (M := m_Prover_tellPath) rfl (Nat.le_of_ble_eq_true rfl) ?_
  refine ax_mv 0 0 [some (.ref 157), some (ax_i x1), some (ax_i x2), none, none, none] [] rfl ?_
  refine ax_mv 1 1 [some (.ref 157), some (ax_i x1), some (ax_i x2), none, none, none] [ax_i 1] rfl ?_
  refine ax_sti (i := 0) (k := 3) (n := 1) (pc' := 2) (L' := [some (.ref 157), some (ax_i x1), some (ax_i x2), some (ax_i 1), none, none]) ⟨_, rfl⟩ rfl rfl rfl (Nat.le_of_ble_eq_true rfl) rfl rfl ?_
  refine ax_mv 1 3 [some (.ref 157), some (ax_i x1), some (ax_i x2), some (ax_i 1), none, none] [ax_i x1] rfl ?_
  refine ax_sti (i := 0) (k := 4) (n := 2) (pc' := 5) (L' := [some (.ref 157), some (ax_i x1), some (ax_i x2), some (ax_i 1), some (ax_i x1), none]) ⟨_, rfl⟩ rfl rfl rfl (Nat.le_of_ble_eq_true rfl) rfl rfl ?_
  exact h
theorem r_House_fault {B : Nat} {S : az_H} {q : Nat} {J : Int} {d : Nat} {V : ax_V} {Φ : Int → ax_V → Prop} {Θ : ax_V → Prop} {x1 : Int} (hg : ax_g V) (hx1 : ax_rg x1) (h : ((x1 = 0 → Φ (V 0 2) V) ∧ (¬ x1 = 0 → ((x1 = 1 → Φ (V 0 3) V) ∧ (¬ x1 = 1 → Φ (-1) V))))) : ax_I (az_W B (az_EH B S q J)) (d + 1) q_House_fault [.ref 0, ax_i x1] V Φ Θ := by
  refine ax_T.of (M := m_House_fault) rfl (Nat.le_of_ble_eq_true rfl) ?_
  refine ax_mv 0 0 [some (.ref 0), some (ax_i x1)] [] rfl ?_
  refine ax_mv 1 1 [some (.ref 0), some (ax_i x1)] [ax_i x1] rfl ?_
  refine ax_if (p1 := 11) (p2 := 4) ⟨_, rfl⟩ (by decide) rfl hx1 (fun hc => ?_) (fun hc => ?_)
  · have h := h.2 hc
    refine ax_mv 2 13 [some (.ref 0), some (ax_i x1)] [ax_i 1, ax_i x1] rfl ?_
    refine ax_if2 (p1 := 23) (p2 := 16) ⟨_, rfl⟩ (by decide) rfl hx1 (by decide) (fun hc => ?_) (fun hc => ?_)
    · have h := h.2 hc
      refine ax_mv 1 24 [some (.ref 0), some (ax_i x1)] [ax_i (-1)] rfl ?_
      exact ax_iret ⟨_, rfl⟩ rfl rfl (by decide) hg h
    · have h := h.1 (Classical.not_not.mp hc)
      refine ax_mv 1 17 [some (.ref 0), some (ax_i x1)] [.ref 0] rfl ?_
      refine ax_gI (kI := 3) (pc' := 20) ⟨_, rfl⟩ fl_11_82 (az_e 0 rfl) rfl rfl rfl ?_
      refine ax_mv 1 24 [some (.ref 0), some (ax_i x1)] [ax_i (V 0 3)] rfl ?_
      exact ax_iret ⟨_, rfl⟩ rfl rfl (hg _ _) hg h
  · have h := h.1 (Classical.not_not.mp hc)
    refine ax_mv 1 5 [some (.ref 0), some (ax_i x1)] [.ref 0] rfl ?_
    refine ax_gI (kI := 2) (pc' := 8) ⟨_, rfl⟩ fl_11_73 (az_e 0 rfl) rfl rfl rfl ?_
    refine ax_mv 1 24 [some (.ref 0), some (ax_i x1)] [ax_i (V 0 2)] rfl ?_
    exact ax_iret ⟨_, rfl⟩ rfl rfl (hg _ _) hg h
theorem r_House_node {B : Nat} {S : az_H} {q : Nat} {J : Int} {d : Nat} {V : ax_V} {Φ : Int → ax_V → Prop} {Θ : ax_V → Prop} {x1 : Int} {x2 : Int} (hg : ax_g V) (hx1 : ax_rg x1) (hx2 : ax_rg x2) (h : ax_I (az_W B (az_EH B S q J)) d q_Program_has [.ref B, ax_i x1] V (fun r1 V1 => ((r1 = 0 → Φ (-1) V1) ∧ (¬ r1 = 0 → ((x2 = 0 → (0 ≤ x1 ∧ x1 < 8) ∧ Φ (V1 501 x1) V1) ∧ (x2 = 1 → (0 ≤ x1 ∧ x1 < 8) ∧ Φ (V1 503 x1) V1) ∧ (x2 = 2 → (0 ≤ x1 ∧ x1 < 8) ∧ Φ (V1 504 x1) V1) ∧ (x2 = 3 → (0 ≤ x1 ∧ x1 < 8) ∧ Φ (V1 505 x1) V1) ∧ (x2 = 4 → (0 ≤ x1 ∧ x1 < 8) ∧ Φ (V1 513 x1) V1) ∧ (x2 = 5 → (0 ≤ x1 ∧ x1 < 8) ∧ Φ (V1 514 x1) V1) ∧ (¬ x2 = 0 → ¬ x2 = 1 → ¬ x2 = 2 → ¬ x2 = 3 → ¬ x2 = 4 → ¬ x2 = 5 → Φ (-1) V1))))) Θ) : ax_I (az_W B (az_EH B S q J)) (d + 1) q_House_node [.ref 0, ax_i x1, ax_i x2] V Φ Θ := by
  refine ax_T.of (M := m_House_node) rfl (Nat.le_of_ble_eq_true rfl) ?_
  refine ax_mv 0 0 [some (.ref 0), some (ax_i x1), some (ax_i x2)] [] rfl ?_
  refine ax_mv 1 1 [some (.ref 0), some (ax_i x1), some (ax_i x2)] [.ref 0] rfl ?_
  refine ax_gR (v := .ref B) (pc' := 4) ⟨_, rfl⟩ fl_11_16 (az_e 0 rfl) rfl rfl ?_
  refine ax_mv 1 5 [some (.ref 0), some (ax_i x1), some (ax_i x2)] [ax_i x1, .ref B] rfl ?_
  refine ax_callI (pc' := 8) ⟨_, rfl⟩ ml_11_107 (rest := []) rfl (fun ss hs => ⟨_, _, (az_b 0 rfl) ss hs⟩) (Nat.le_of_ble_eq_true rfl) rfl rfl h (fun r1 V1 hg1 hr1 h => ?_)
  refine ax_if (p1 := 13) (p2 := 11) ⟨_, rfl⟩ (by decide) rfl hr1 (fun hc => ?_) (fun hc => ?_)
  · have h := h.2 hc
    refine ax_mv 1 14 [some (.ref 0), some (ax_i x1), some (ax_i x2)] [ax_i x2] rfl ?_
    have t0 : (x2 = 0) → ax_R (az_W B (az_EH B S q J)) ax_t d m_House_node 52 [some (.ref 0), some (ax_i x1), some (ax_i x2)] [] V1 (ax_Ir Φ) Θ := fun hk => by
      have h := h.1 hk
      refine ax_mv 1 53 [some (.ref 0), some (ax_i x1), some (ax_i x2)] [.ref 0] rfl ?_
      refine ax_gR (v := .ref B) (pc' := 56) ⟨_, rfl⟩ fl_11_16 (az_e 0 rfl) rfl rfl ?_
      refine ax_gR (v := .ref (B + 1)) (pc' := 59) ⟨_, rfl⟩ fl_11_111 (az_b 0 rfl) rfl rfl ?_
      refine ax_mv 1 60 [some (.ref 0), some (ax_i x1), some (ax_i x2)] [ax_i x1, .ref (B + 1)] rfl ?_
      obtain ⟨o1, h⟩ := h
      refine ax_ild (n := 8) (pc' := 61) ⟨_, rfl⟩ (az_b 1 rfl) (by decide) o1 rfl ?_
      exact ax_iret ⟨_, rfl⟩ rfl rfl (hg1 _ _) hg1 h
    have t1 : (x2 = 1) → ax_R (az_W B (az_EH B S q J)) ax_t d m_House_node 62 [some (.ref 0), some (ax_i x1), some (ax_i x2)] [] V1 (ax_Ir Φ) Θ := fun hk => by
      have h := h.2.1 hk
      refine ax_mv 1 63 [some (.ref 0), some (ax_i x1), some (ax_i x2)] [.ref 0] rfl ?_
      refine ax_gR (v := .ref B) (pc' := 66) ⟨_, rfl⟩ fl_11_16 (az_e 0 rfl) rfl rfl ?_
      refine ax_gR (v := .ref (B + 3)) (pc' := 69) ⟨_, rfl⟩ fl_11_115 (az_b 0 rfl) rfl rfl ?_
      refine ax_mv 1 70 [some (.ref 0), some (ax_i x1), some (ax_i x2)] [ax_i x1, .ref (B + 3)] rfl ?_
      obtain ⟨o2, h⟩ := h
      refine ax_ild (n := 8) (pc' := 71) ⟨_, rfl⟩ (az_b 3 rfl) (by decide) o2 rfl ?_
      exact ax_iret ⟨_, rfl⟩ rfl rfl (hg1 _ _) hg1 h
    have t2 : (x2 = 2) → ax_R (az_W B (az_EH B S q J)) ax_t d m_House_node 72 [some (.ref 0), some (ax_i x1), some (ax_i x2)] [] V1 (ax_Ir Φ) Θ := fun hk => by
      have h := h.2.2.1 hk
      refine ax_mv 1 73 [some (.ref 0), some (ax_i x1), some (ax_i x2)] [.ref 0] rfl ?_
      refine ax_gR (v := .ref B) (pc' := 76) ⟨_, rfl⟩ fl_11_16 (az_e 0 rfl) rfl rfl ?_
      refine ax_gR (v := .ref (B + 4)) (pc' := 79) ⟨_, rfl⟩ fl_11_118 (az_b 0 rfl) rfl rfl ?_
      refine ax_mv 1 80 [some (.ref 0), some (ax_i x1), some (ax_i x2)] [ax_i x1, .ref (B + 4)] rfl ?_
      obtain ⟨o3, h⟩ := h
      refine ax_ild (n := 8) (pc' := 81) ⟨_, rfl⟩ (az_b 4 rfl) (by decide) o3 rfl ?_
      exact ax_iret ⟨_, rfl⟩ rfl rfl (hg1 _ _) hg1 h
    have t3 : (x2 = 3) → ax_R (az_W B (az_EH B S q J)) ax_t d m_House_node 82 [some (.ref 0), some (ax_i x1), some (ax_i x2)] [] V1 (ax_Ir Φ) Θ := fun hk => by
      have h := h.2.2.2.1 hk
      refine ax_mv 1 83 [some (.ref 0), some (ax_i x1), some (ax_i x2)] [.ref 0] rfl ?_
      refine ax_gR (v := .ref B) (pc' := 86) ⟨_, rfl⟩ fl_11_16 (az_e 0 rfl) rfl rfl ?_
      refine ax_gR (v := .ref (B + 5)) (pc' := 89) ⟨_, rfl⟩ fl_11_121 (az_b 0 rfl) rfl rfl ?_
      refine ax_mv 1 90 [some (.ref 0), some (ax_i x1), some (ax_i x2)] [ax_i x1, .ref (B + 5)] rfl ?_
      obtain ⟨o4, h⟩ := h
      refine ax_ild (n := 8) (pc' := 91) ⟨_, rfl⟩ (az_b 5 rfl) (by decide) o4 rfl ?_
      exact ax_iret ⟨_, rfl⟩ rfl rfl (hg1 _ _) hg1 h
    have t4 : (x2 = 4) → ax_R (az_W B (az_EH B S q J)) ax_t d m_House_node 92 [some (.ref 0), some (ax_i x1), some (ax_i x2)] [] V1 (ax_Ir Φ) Θ := fun hk => by
      have h := h.2.2.2.2.1 hk
      refine ax_mv 1 93 [some (.ref 0), some (ax_i x1), some (ax_i x2)] [.ref 0] rfl ?_
      refine ax_gR (v := .ref B) (pc' := 96) ⟨_, rfl⟩ fl_11_16 (az_e 0 rfl) rfl rfl ?_
      refine ax_gR (v := .ref (B + 13)) (pc' := 99) ⟨_, rfl⟩ fl_11_124 (az_b 0 rfl) rfl rfl ?_
      refine ax_mv 1 100 [some (.ref 0), some (ax_i x1), some (ax_i x2)] [ax_i x1, .ref (B + 13)] rfl ?_
      obtain ⟨o5, h⟩ := h
      refine ax_ild (n := 8) (pc' := 101) ⟨_, rfl⟩ (az_b 13 rfl) (by decide) o5 rfl ?_
      exact ax_iret ⟨_, rfl⟩ rfl rfl (hg1 _ _) hg1 h
    have t5 : (x2 = 5) → ax_R (az_W B (az_EH B S q J)) ax_t d m_House_node 102 [some (.ref 0), some (ax_i x1), some (ax_i x2)] [] V1 (ax_Ir Φ) Θ := fun hk => by
      have h := h.2.2.2.2.2.1 hk
      refine ax_mv 1 103 [some (.ref 0), some (ax_i x1), some (ax_i x2)] [.ref 0] rfl ?_
      refine ax_gR (v := .ref B) (pc' := 106) ⟨_, rfl⟩ fl_11_16 (az_e 0 rfl) rfl rfl ?_
      refine ax_gR (v := .ref (B + 14)) (pc' := 109) ⟨_, rfl⟩ fl_11_126 (az_b 0 rfl) rfl rfl ?_
      refine ax_mv 1 110 [some (.ref 0), some (ax_i x1), some (ax_i x2)] [ax_i x1, .ref (B + 14)] rfl ?_
      obtain ⟨o6, h⟩ := h
      refine ax_ild (n := 8) (pc' := 111) ⟨_, rfl⟩ (az_b 14 rfl) (by decide) o6 rfl ?_
      exact ax_iret ⟨_, rfl⟩ rfl rfl (hg1 _ _) hg1 h
    have tD : ¬ x2 = 0 → ¬ x2 = 1 → ¬ x2 = 2 → ¬ x2 = 3 → ¬ x2 = 4 → ¬ x2 = 5 → ax_R (az_W B (az_EH B S q J)) ax_t d m_House_node 112 [some (.ref 0), some (ax_i x1), some (ax_i x2)] [] V1 (ax_Ir Φ) Θ := fun n0 n1 n2 n3 n4 n5 => by
      have h := h.2.2.2.2.2.2 n0 n1 n2 n3 n4 n5
      refine ax_mv 1 113 [some (.ref 0), some (ax_i x1), some (ax_i x2)] [ax_i (-1)] rfl ?_
      exact ax_iret ⟨_, rfl⟩ rfl rfl (by decide) hg1 h
    by_cases e0 : x2 = 0
    · exact ax_tsC (off := 38) (p1 := 52) ⟨_, rfl⟩ hx2 (by omega) (by omega) (by rw [e0]; rfl) (by decide) (t0 (e0))
    by_cases e1 : x2 = 1
    · exact ax_tsC (off := 48) (p1 := 62) ⟨_, rfl⟩ hx2 (by omega) (by omega) (by rw [e1]; rfl) (by decide) (t1 (e1))
    by_cases e2 : x2 = 2
    · exact ax_tsC (off := 58) (p1 := 72) ⟨_, rfl⟩ hx2 (by omega) (by omega) (by rw [e2]; rfl) (by decide) (t2 (e2))
    by_cases e3 : x2 = 3
    · exact ax_tsC (off := 68) (p1 := 82) ⟨_, rfl⟩ hx2 (by omega) (by omega) (by rw [e3]; rfl) (by decide) (t3 (e3))
    by_cases e4 : x2 = 4
    · exact ax_tsC (off := 78) (p1 := 92) ⟨_, rfl⟩ hx2 (by omega) (by omega) (by rw [e4]; rfl) (by decide) (t4 (e4))
    by_cases e5 : x2 = 5
    · exact ax_tsC (off := 88) (p1 := 102) ⟨_, rfl⟩ hx2 (by omega) (by omega) (by rw [e5]; rfl) (by decide) (t5 (e5))
    exact ax_tsD (p1 := 112) ⟨_, rfl⟩ hx2 (by omega) (by decide) (tD e0 e1 e2 e3 e4 e5)
  · have h := h.1 (Classical.not_not.mp hc)
    refine ax_mv 1 12 [some (.ref 0), some (ax_i x1), some (ax_i x2)] [ax_i (-1)] rfl ?_
    exact ax_iret ⟨_, rfl⟩ rfl rfl (by decide) hg1 h
theorem r_House_make {B : Nat} {S : az_H} {q : Nat} {J : Int} {d : Nat} {V : ax_V} {Φ : Int → ax_V → Prop} {Θ : ax_V → Prop} {x1 : Int} (hg : ax_g V) (hx1 : ax_rg x1) (h : ax_I (az_W B (az_EH B S q J)) d q_Program_canMake [.ref B, ax_i x1] V (fun r1 V1 => ((r1 = 0 → Φ (-1) V1) ∧ (¬ r1 = 0 → ((V1 0 8 < 8 → V1 0 8 = J ∧ (0 ≤ V1 0 8 ∧ V1 0 8 < 8) ∧ ax_N (az_W B (az_EH B S q J)) d q_Instance_begin [.ref q, .ref B, ax_i x1] V1 (fun V2 => ax_rg ((V2 0 8) + 1) ∧ (∀ V3, V3 = ax_u V2 0 8 ((V2 0 8) + 1) → ax_rg ((V3 0 8) - 1) ∧ Φ ((V3 0 8) - 1) V3)) Θ) ∧ (8 ≤ V1 0 8 → Φ (-1) V1))))) Θ) : ax_I (az_W B (az_EH B S q J)) (d + 1) q_House_make [.ref 0, ax_i x1] V Φ Θ := by
  refine ax_T.of (M := m_House_make) rfl (Nat.le_of_ble_eq_true rfl) ?_
  refine ax_mv 0 0 [some (.ref 0), some (ax_i x1)] [] rfl ?_
  refine ax_mv 1 1 [some (.ref 0), some (ax_i x1)] [.ref 0] rfl ?_
  refine ax_gR (v := .ref B) (pc' := 4) ⟨_, rfl⟩ fl_11_16 (az_e 0 rfl) rfl rfl ?_
  refine ax_mv 1 5 [some (.ref 0), some (ax_i x1)] [ax_i x1, .ref B] rfl ?_
  refine ax_callI (pc' := 8) ⟨_, rfl⟩ ml_11_129 (rest := []) rfl (fun ss hs => ⟨_, _, (az_b 0 rfl) ss hs⟩) (Nat.le_of_ble_eq_true rfl) rfl rfl h (fun r1 V1 hg1 hr1 h => ?_)
  refine ax_if (p1 := 20) (p2 := 11) ⟨_, rfl⟩ (by decide) rfl hr1 (fun hc => ?_) (fun hc => ?_)
  · have h := h.1 hc
    refine ax_mv 1 21 [some (.ref 0), some (ax_i x1)] [ax_i (-1)] rfl ?_
    exact ax_iret ⟨_, rfl⟩ rfl rfl (by decide) hg1 h
  · have h := h.2 hc
    refine ax_mv 1 12 [some (.ref 0), some (ax_i x1)] [.ref 0] rfl ?_
    refine ax_gI (kI := 8) (pc' := 15) ⟨_, rfl⟩ fl_11_101 (az_e 0 rfl) rfl rfl rfl ?_
    refine ax_bip (pc' := 17) ⟨_, rfl⟩ (by decide) rfl ?_
    refine ax_if2 (p1 := 22) (p2 := 20) ⟨_, rfl⟩ (by decide) rfl (hg1 _ _) (by decide) (fun hc => ?_) (fun hc => ?_)
    · have h := h.1 hc
      refine ax_mv 1 23 [some (.ref 0), some (ax_i x1)] [.ref 0] rfl ?_
      refine ax_gR (v := .ref 156) (pc' := 26) ⟨_, rfl⟩ fl_11_34 (az_e 0 rfl) rfl rfl ?_
      refine ax_mv 1 27 [some (.ref 0), some (ax_i x1)] [.ref 0, .ref 156] rfl ?_
      refine ax_gI (kI := 8) (pc' := 30) ⟨_, rfl⟩ fl_11_101 (az_e 0 rfl) rfl rfl rfl ?_
      obtain ⟨o1, o2, h⟩ := h
      refine ax_ald (q := q) (pc' := 31) ⟨_, rfl⟩ (az_e 1 rfl) o1 o2 rfl ?_
      refine ax_mv 1 32 [some (.ref 0), some (ax_i x1)] [.ref 0, .ref q] rfl ?_
      refine ax_gR (v := .ref B) (pc' := 35) ⟨_, rfl⟩ fl_11_16 (az_e 0 rfl) rfl rfl ?_
      refine ax_mv 1 36 [some (.ref 0), some (ax_i x1)] [ax_i x1, .ref B, .ref q] rfl ?_
      refine ax_callN (pc' := 39) ⟨_, rfl⟩ ml_11_132 (rest := []) rfl (fun ss hs => ⟨_, _, (az_e 8 rfl) ss hs⟩) (Nat.le_of_ble_eq_true rfl) rfl rfl h (fun V2 hg2 h => ?_)
      refine ax_mv 2 41 [some (.ref 0), some (ax_i x1)] [.ref 0, .ref 0] rfl ?_
      refine ax_gI (kI := 8) (pc' := 44) ⟨_, rfl⟩ fl_11_101 (az_e 0 rfl) rfl rfl rfl ?_
      refine ax_mv 1 45 [some (.ref 0), some (ax_i x1)] [ax_i 1, ax_i (V2 0 8), .ref 0] rfl ?_
      refine ax_add (pc' := 46) ⟨_, rfl⟩ rfl ?_
      obtain ⟨o3, h⟩ := h
      obtain ⟨V3, eV3⟩ : ∃ W9 : ax_V, W9 = ax_u V2 0 8 ((V2 0 8) + 1) := ⟨_, rfl⟩
      have h := h V3 eV3
      have hg3 : ax_g V3 := eV3 ▸ ax_u_g hg2 o3
      refine ax_pI (kI := 8) (pc' := 49) ⟨_, rfl⟩ fl_11_101 az_ok (az_e 0 rfl) rfl rfl rfl rfl eV3 rfl ?_
      refine ax_mv 1 50 [some (.ref 0), some (ax_i x1)] [.ref 0] rfl ?_
      refine ax_gI (kI := 8) (pc' := 53) ⟨_, rfl⟩ fl_11_101 (az_e 0 rfl) rfl rfl rfl ?_
      refine ax_mv 1 54 [some (.ref 0), some (ax_i x1)] [ax_i 1, ax_i (V3 0 8)] rfl ?_
      refine ax_sub (pc' := 55) ⟨_, rfl⟩ rfl ?_
      obtain ⟨o4, h⟩ := h
      exact ax_iret ⟨_, rfl⟩ rfl rfl o4 hg3 h
    · have h := h.2 (Int.not_lt.mp hc)
      refine ax_mv 1 21 [some (.ref 0), some (ax_i x1)] [ax_i (-1)] rfl ?_
      exact ax_iret ⟨_, rfl⟩ rfl rfl (by decide) hg1 h
theorem r_House_put {B : Nat} {S : az_H} {q : Nat} {J : Int} {d : Nat} {V : ax_V} {Φ : Int → ax_V → Prop} {Θ : ax_V → Prop} {x1 : Int} {x2 : Int} {x3 : Int} (hg : ax_g V) (hx1 : ax_rg x1) (hx2 : ax_rg x2) (hx3 : ax_rg x3) (h : ax_I (az_W B (az_EH B S q J)) d q_House_isMade [.ref 0, ax_i x1] V (fun r1 V1 => ((r1 = 0 → Φ 0 V1) ∧ (¬ r1 = 0 → ((x2 < 0 → Φ 0 V1) ∧ (0 ≤ x2 → x1 = J ∧ (0 ≤ x1 ∧ x1 < 8) ∧ (0 ≤ V1 800 0 ∧ V1 800 0 < 8) ∧ ((x2 < V1 503 (V1 800 0) → x1 = J ∧ (0 ≤ x1 ∧ x1 < 8) ∧ (0 ≤ ((V1 800 0) * 26) + x2 ∧ ((V1 800 0) * 26) + x2 < 208) ∧ (0 ≤ V1 506 (((V1 800 0) * 26) + x2) ∧ V1 506 (((V1 800 0) * 26) + x2) < 208) ∧ ((V1 535 (V1 506 (((V1 800 0) * 26) + x2)) = 1 → ((x3 = 0 → (0 ≤ x2 ∧ x2 < 26) ∧ (∀ V3, V3 = ax_u V1 801 x2 x3 → Φ 1 V3)) ∧ (¬ x3 = 0 → (0 ≤ x2 ∧ x2 < 26) ∧ (∀ V4, V4 = ax_u V1 801 x2 1 → Φ 1 V4)))) ∧ (¬ V1 535 (V1 506 (((V1 800 0) * 26) + x2)) = 1 → (0 ≤ x2 ∧ x2 < 26) ∧ (∀ V2, V2 = ax_u V1 801 x2 x3 → Φ 1 V2)))) ∧ (V1 503 (V1 800 0) ≤ x2 → Φ 0 V1))))))) Θ) : ax_I (az_W B (az_EH B S q J)) (d + 1) q_House_put [.ref 0, ax_i x1, ax_i x2, ax_i x3] V Φ Θ := by
  refine ax_T.of (M := m_House_put) rfl (Nat.le_of_ble_eq_true rfl) ?_
  refine ax_mv 0 0 [some (.ref 0), some (ax_i x1), some (ax_i x2), some (ax_i x3), none, none, none] [] rfl ?_
  refine ax_mv 2 2 [some (.ref 0), some (ax_i x1), some (ax_i x2), some (ax_i x3), none, none, none] [ax_i x1, .ref 0] rfl ?_
  refine ax_callI (pc' := 5) ⟨_, rfl⟩ ml_11_136 (rest := []) rfl (fun ss hs => ⟨_, _, (az_e 0 rfl) ss hs⟩) (Nat.le_of_ble_eq_true rfl) rfl rfl h (fun r1 V1 hg1 hr1 h => ?_)
  refine ax_if (p1 := 33) (p2 := 8) ⟨_, rfl⟩ (by decide) rfl hr1 (fun hc => ?_) (fun hc => ?_)
  · have h := h.1 hc
    refine ax_mv 1 34 [some (.ref 0), some (ax_i x1), some (ax_i x2), some (ax_i x3), none, none, none] [ax_i 0] rfl ?_
    exact ax_iret ⟨_, rfl⟩ rfl (ax_nbv (by decide)) (by decide) hg1 h
  · have h := h.2 hc
    refine ax_mv 1 9 [some (.ref 0), some (ax_i x1), some (ax_i x2), some (ax_i x3), none, none, none] [ax_i x2] rfl ?_
    refine ax_if (p1 := 33) (p2 := 12) ⟨_, rfl⟩ (by decide) rfl hx2 (fun hc => ?_) (fun hc => ?_)
    · have h := h.1 hc
      refine ax_mv 1 34 [some (.ref 0), some (ax_i x1), some (ax_i x2), some (ax_i x3), none, none, none] [ax_i 0] rfl ?_
      exact ax_iret ⟨_, rfl⟩ rfl (ax_nbv (by decide)) (by decide) hg1 h
    · have h := h.2 (Int.not_lt.mp hc)
      refine ax_mv 2 14 [some (.ref 0), some (ax_i x1), some (ax_i x2), some (ax_i x3), none, none, none] [.ref 0, ax_i x2] rfl ?_
      refine ax_gR (v := .ref B) (pc' := 17) ⟨_, rfl⟩ fl_11_16 (az_e 0 rfl) rfl rfl ?_
      refine ax_gR (v := .ref (B + 3)) (pc' := 20) ⟨_, rfl⟩ fl_11_115 (az_b 0 rfl) rfl rfl ?_
      refine ax_mv 1 21 [some (.ref 0), some (ax_i x1), some (ax_i x2), some (ax_i x3), none, none, none] [.ref 0, .ref (B + 3), ax_i x2] rfl ?_
      refine ax_gR (v := .ref 156) (pc' := 24) ⟨_, rfl⟩ fl_11_34 (az_e 0 rfl) rfl rfl ?_
      refine ax_mv 1 25 [some (.ref 0), some (ax_i x1), some (ax_i x2), some (ax_i x3), none, none, none] [ax_i x1, .ref 156, .ref (B + 3), ax_i x2] rfl ?_
      obtain ⟨o1, o2, h⟩ := h
      refine ax_ald (q := q) (pc' := 26) ⟨_, rfl⟩ (az_e 1 rfl) o1 o2 rfl ?_
      refine ax_gI (kI := 0) (pc' := 29) ⟨_, rfl⟩ fl_11_139 (az_e 8 rfl) rfl rfl rfl ?_
      obtain ⟨o3, h⟩ := h
      refine ax_ild (n := 8) (pc' := 30) ⟨_, rfl⟩ (az_b 3 rfl) (by decide) o3 rfl ?_
      refine ax_if2 (p1 := 35) (p2 := 33) ⟨_, rfl⟩ (by decide) rfl hx2 (hg1 _ _) (fun hc => ?_) (fun hc => ?_)
      · have h := h.1 hc
        refine ax_mv 1 36 [some (.ref 0), some (ax_i x1), some (ax_i x2), some (ax_i x3), none, none, none] [.ref 0] rfl ?_
        refine ax_gR (v := .ref 156) (pc' := 39) ⟨_, rfl⟩ fl_11_34 (az_e 0 rfl) rfl rfl ?_
        refine ax_mv 1 40 [some (.ref 0), some (ax_i x1), some (ax_i x2), some (ax_i x3), none, none, none] [ax_i x1, .ref 156] rfl ?_
        obtain ⟨o4, o5, h⟩ := h
        refine ax_ald (q := q) (pc' := 41) ⟨_, rfl⟩ (az_e 1 rfl) o4 o5 rfl ?_
        refine ax_sta (k := 4) (n := 2) (pc' := 43) (L' := [some (.ref 0), some (ax_i x1), some (ax_i x2), some (ax_i x3), some (.ref q), none, none]) ⟨_, rfl⟩ rfl rfl rfl (Nat.le_of_ble_eq_true rfl) rfl rfl ?_
        refine ax_mv 1 44 [some (.ref 0), some (ax_i x1), some (ax_i x2), some (ax_i x3), some (.ref q), none, none] [.ref 0] rfl ?_
        refine ax_gR (v := .ref B) (pc' := 47) ⟨_, rfl⟩ fl_11_16 (az_e 0 rfl) rfl rfl ?_
        refine ax_gR (v := .ref (B + 6)) (pc' := 50) ⟨_, rfl⟩ fl_11_142 (az_b 0 rfl) rfl rfl ?_
        refine ax_mv 1 52 [some (.ref 0), some (ax_i x1), some (ax_i x2), some (ax_i x3), some (.ref q), none, none] [.ref q, .ref (B + 6)] rfl ?_
        refine ax_gI (kI := 0) (pc' := 55) ⟨_, rfl⟩ fl_11_139 (az_e 8 rfl) rfl rfl rfl ?_
        refine ax_bip (pc' := 57) ⟨_, rfl⟩ (by decide) rfl ?_
        refine ax_mul (pc' := 58) ⟨_, rfl⟩ rfl ?_
        refine ax_mv 1 59 [some (.ref 0), some (ax_i x1), some (ax_i x2), some (ax_i x3), some (.ref q), none, none] [ax_i x2, ax_i ((V1 800 0) * 26), .ref (B + 6)] rfl ?_
        refine ax_add (pc' := 60) ⟨_, rfl⟩ rfl ?_
        obtain ⟨o6, h⟩ := h
        refine ax_ild (n := 208) (pc' := 61) ⟨_, rfl⟩ (az_b 6 rfl) (by decide) o6 rfl ?_
        refine ax_sti (i := 0) (k := 5) (n := 2) (pc' := 63) (L' := [some (.ref 0), some (ax_i x1), some (ax_i x2), some (ax_i x3), some (.ref q), some (ax_i (V1 506 (((V1 800 0) * 26) + x2))), none]) ⟨_, rfl⟩ rfl rfl rfl (Nat.le_of_ble_eq_true rfl) rfl rfl ?_
        refine ax_mv 1 64 [some (.ref 0), some (ax_i x1), some (ax_i x2), some (ax_i x3), some (.ref q), some (ax_i (V1 506 (((V1 800 0) * 26) + x2))), none] [.ref 0] rfl ?_
        refine ax_gR (v := .ref B) (pc' := 67) ⟨_, rfl⟩ fl_11_16 (az_e 0 rfl) rfl rfl ?_
        refine ax_gR (v := .ref (B + 32)) (pc' := 70) ⟨_, rfl⟩ fl_11_145 (az_b 0 rfl) rfl rfl ?_
        refine ax_gR (v := .ref (B + 35)) (pc' := 73) ⟨_, rfl⟩ fl_11_149 (az_b 32 rfl) rfl rfl ?_
        refine ax_mv 1 75 [some (.ref 0), some (ax_i x1), some (ax_i x2), some (ax_i x3), some (.ref q), some (ax_i (V1 506 (((V1 800 0) * 26) + x2))), none] [ax_i (V1 506 (((V1 800 0) * 26) + x2)), .ref (B + 35)] rfl ?_
        obtain ⟨o7, h⟩ := h
        refine ax_ild (n := 208) (pc' := 76) ⟨_, rfl⟩ (az_b 35 rfl) (by decide) o7 rfl ?_
        refine ax_mv 1 77 [some (.ref 0), some (ax_i x1), some (ax_i x2), some (ax_i x3), some (.ref q), some (ax_i (V1 506 (((V1 800 0) * 26) + x2))), none] [ax_i 1, ax_i (V1 535 (V1 506 (((V1 800 0) * 26) + x2)))] rfl ?_
        refine ax_if2 (p1 := 84) (p2 := 80) ⟨_, rfl⟩ (by decide) rfl (hg1 _ _) (by decide) (fun hc => ?_) (fun hc => ?_)
        · have h := h.2 hc
          refine ax_mv 1 85 [some (.ref 0), some (ax_i x1), some (ax_i x2), some (ax_i x3), some (.ref q), some (ax_i (V1 506 (((V1 800 0) * 26) + x2))), none] [ax_i 0] rfl ?_
          refine ax_sti (i := 0) (k := 6) (n := 2) (pc' := 87) (L' := [some (.ref 0), some (ax_i x1), some (ax_i x2), some (ax_i x3), some (.ref q), some (ax_i (V1 506 (((V1 800 0) * 26) + x2))), some (ax_i 0)]) ⟨_, rfl⟩ rfl rfl rfl (Nat.le_of_ble_eq_true rfl) rfl rfl ?_
          refine ax_mv 1 89 [some (.ref 0), some (ax_i x1), some (ax_i x2), some (ax_i x3), some (.ref q), some (ax_i (V1 506 (((V1 800 0) * 26) + x2))), some (ax_i 0)] [.ref q] rfl ?_
          refine ax_gR (v := .ref (q + 1)) (pc' := 92) ⟨_, rfl⟩ fl_11_154 (az_e 8 rfl) rfl rfl ?_
          refine ax_mv 2 95 [some (.ref 0), some (ax_i x1), some (ax_i x2), some (ax_i x3), some (.ref q), some (ax_i (V1 506 (((V1 800 0) * 26) + x2))), some (ax_i 0)] [ax_i 0, ax_i x2, .ref (q + 1)] rfl ?_
          refine ax_if (p1 := 106) (p2 := 98) ⟨_, rfl⟩ (by decide) rfl (by decide) (fun _ => ?_) (fun hc => absurd (by unfold ax_k0; decide) hc)
          refine ax_mv 1 107 [some (.ref 0), some (ax_i x1), some (ax_i x2), some (ax_i x3), some (.ref q), some (ax_i (V1 506 (((V1 800 0) * 26) + x2))), some (ax_i 0)] [ax_i x3, ax_i x2, .ref (q + 1)] rfl ?_
          obtain ⟨o8, h⟩ := h
          obtain ⟨V2, eV2⟩ : ∃ W9 : ax_V, W9 = ax_u V1 801 x2 x3 := ⟨_, rfl⟩
          have h := h V2 eV2
          have hg2 : ax_g V2 := eV2 ▸ ax_u_g hg1 hx3
          refine ax_ist (n := 26) (pc' := 108) ⟨_, rfl⟩ az_ok (az_e 9 rfl) (by decide) o8 eV2 rfl ?_
          refine ax_mv 1 109 [some (.ref 0), some (ax_i x1), some (ax_i x2), some (ax_i x3), some (.ref q), some (ax_i (V1 506 (((V1 800 0) * 26) + x2))), some (ax_i 0)] [ax_i 1] rfl ?_
          exact ax_iret ⟨_, rfl⟩ rfl (ax_nbv (by decide)) (by decide) hg2 h
        · have h := h.1 (Classical.not_not.mp hc)
          refine ax_mv 2 85 [some (.ref 0), some (ax_i x1), some (ax_i x2), some (ax_i x3), some (.ref q), some (ax_i (V1 506 (((V1 800 0) * 26) + x2))), none] [ax_i 1] rfl ?_
          refine ax_sti (i := 0) (k := 6) (n := 2) (pc' := 87) (L' := [some (.ref 0), some (ax_i x1), some (ax_i x2), some (ax_i x3), some (.ref q), some (ax_i (V1 506 (((V1 800 0) * 26) + x2))), some (ax_i 1)]) ⟨_, rfl⟩ rfl rfl rfl (Nat.le_of_ble_eq_true rfl) rfl rfl ?_
          refine ax_mv 1 89 [some (.ref 0), some (ax_i x1), some (ax_i x2), some (ax_i x3), some (.ref q), some (ax_i (V1 506 (((V1 800 0) * 26) + x2))), some (ax_i 1)] [.ref q] rfl ?_
          refine ax_gR (v := .ref (q + 1)) (pc' := 92) ⟨_, rfl⟩ fl_11_154 (az_e 8 rfl) rfl rfl ?_
          refine ax_mv 2 95 [some (.ref 0), some (ax_i x1), some (ax_i x2), some (ax_i x3), some (.ref q), some (ax_i (V1 506 (((V1 800 0) * 26) + x2))), some (ax_i 1)] [ax_i 1, ax_i x2, .ref (q + 1)] rfl ?_
          refine ax_if (p1 := 106) (p2 := 98) ⟨_, rfl⟩ (by decide) rfl (by decide) (fun hc => absurd hc (by unfold ax_k0; decide)) (fun _ => ?_)
          refine ax_mv 1 99 [some (.ref 0), some (ax_i x1), some (ax_i x2), some (ax_i x3), some (.ref q), some (ax_i (V1 506 (((V1 800 0) * 26) + x2))), some (ax_i 1)] [ax_i x3, ax_i x2, .ref (q + 1)] rfl ?_
          refine ax_if (p1 := 106) (p2 := 102) ⟨_, rfl⟩ (by decide) rfl hx3 (fun hc => ?_) (fun hc => ?_)
          · have h := h.1 hc
            refine ax_mv 1 107 [some (.ref 0), some (ax_i x1), some (ax_i x2), some (ax_i x3), some (.ref q), some (ax_i (V1 506 (((V1 800 0) * 26) + x2))), some (ax_i 1)] [ax_i x3, ax_i x2, .ref (q + 1)] rfl ?_
            obtain ⟨o9, h⟩ := h
            obtain ⟨V3, eV3⟩ : ∃ W9 : ax_V, W9 = ax_u V1 801 x2 x3 := ⟨_, rfl⟩
            have h := h V3 eV3
            have hg3 : ax_g V3 := eV3 ▸ ax_u_g hg1 hx3
            refine ax_ist (n := 26) (pc' := 108) ⟨_, rfl⟩ az_ok (az_e 9 rfl) (by decide) o9 eV3 rfl ?_
            refine ax_mv 1 109 [some (.ref 0), some (ax_i x1), some (ax_i x2), some (ax_i x3), some (.ref q), some (ax_i (V1 506 (((V1 800 0) * 26) + x2))), some (ax_i 1)] [ax_i 1] rfl ?_
            exact ax_iret ⟨_, rfl⟩ rfl (ax_nbv (by decide)) (by decide) hg3 h
          · have h := h.2 hc
            refine ax_mv 2 107 [some (.ref 0), some (ax_i x1), some (ax_i x2), some (ax_i x3), some (.ref q), some (ax_i (V1 506 (((V1 800 0) * 26) + x2))), some (ax_i 1)] [ax_i 1, ax_i x2, .ref (q + 1)] rfl ?_
            obtain ⟨o10, h⟩ := h
            obtain ⟨V4, eV4⟩ : ∃ W9 : ax_V, W9 = ax_u V1 801 x2 1 := ⟨_, rfl⟩
            have h := h V4 eV4
            have hg4 : ax_g V4 := eV4 ▸ ax_u_g hg1 (by decide)
            refine ax_ist (n := 26) (pc' := 108) ⟨_, rfl⟩ az_ok (az_e 9 rfl) (by decide) o10 eV4 rfl ?_
            refine ax_mv 1 109 [some (.ref 0), some (ax_i x1), some (ax_i x2), some (ax_i x3), some (.ref q), some (ax_i (V1 506 (((V1 800 0) * 26) + x2))), some (ax_i 1)] [ax_i 1] rfl ?_
            exact ax_iret ⟨_, rfl⟩ rfl (ax_nbv (by decide)) (by decide) hg4 h
      · have h := h.2 (Int.not_lt.mp hc)
        refine ax_mv 1 34 [some (.ref 0), some (ax_i x1), some (ax_i x2), some (ax_i x3), none, none, none] [ax_i 0] rfl ?_
        exact ax_iret ⟨_, rfl⟩ rfl (ax_nbv (by decide)) (by decide) hg1 h
theorem r_House_isMade {B : Nat} {S : az_H} {q : Nat} {J : Int} {d : Nat} {V : ax_V} {Φ : Int → ax_V → Prop} {Θ : ax_V → Prop} {x1 : Int} (hg : ax_g V) (hx1 : ax_rg x1) (h : ((x1 < 0 → Φ 0 V) ∧ (0 ≤ x1 → ((V 0 8 ≤ x1 → Φ 0 V) ∧ (x1 < V 0 8 → Φ 1 V))))) : ax_I (az_W B (az_EH B S q J)) (d + 1) q_House_isMade [.ref 0, ax_i x1] V Φ Θ := by
  refine ax_T.of (M := m_House_isMade) rfl (Nat.le_of_ble_eq_true rfl) ?_
  refine ax_mv 0 0 [some (.ref 0), some (ax_i x1)] [] rfl ?_
  refine ax_mv 1 1 [some (.ref 0), some (ax_i x1)] [ax_i x1] rfl ?_
  refine ax_if (p1 := 16) (p2 := 4) ⟨_, rfl⟩ (by decide) rfl hx1 (fun hc => ?_) (fun hc => ?_)
  · have h := h.1 hc
    refine ax_mv 1 17 [some (.ref 0), some (ax_i x1)] [ax_i 0] rfl ?_
    exact ax_iret ⟨_, rfl⟩ rfl (ax_nbv (by decide)) (by decide) hg h
  · have h := h.2 (Int.not_lt.mp hc)
    refine ax_mv 2 6 [some (.ref 0), some (ax_i x1)] [.ref 0, ax_i x1] rfl ?_
    refine ax_gI (kI := 8) (pc' := 9) ⟨_, rfl⟩ fl_11_101 (az_e 0 rfl) rfl rfl rfl ?_
    refine ax_if2 (p1 := 16) (p2 := 12) ⟨_, rfl⟩ (by decide) rfl hx1 (hg _ _) (fun hc => ?_) (fun hc => ?_)
    · have h := h.1 hc
      refine ax_mv 1 17 [some (.ref 0), some (ax_i x1)] [ax_i 0] rfl ?_
      exact ax_iret ⟨_, rfl⟩ rfl (ax_nbv (by decide)) (by decide) hg h
    · have h := h.2 (Int.not_le.mp hc)
      refine ax_mv 2 17 [some (.ref 0), some (ax_i x1)] [ax_i 1] rfl ?_
      exact ax_iret ⟨_, rfl⟩ rfl (ax_nbv (by decide)) (by decide) hg h
theorem r_House_tick {B : Nat} {S : az_H} {q : Nat} {J : Int} {d : Nat} {V : ax_V} {Φ : Int → ax_V → Prop} {Θ : ax_V → Prop} {x1 : Int} (hg : ax_g V) (hx1 : ax_rg x1) (h : ax_I (az_W B (az_EH B S q J)) d q_House_isMade [.ref 0, ax_i x1] V (fun r1 V1 => ((r1 = 0 → Φ (-1) V1) ∧ (¬ r1 = 0 → x1 = J ∧ (0 ≤ x1 ∧ x1 < 8) ∧ ax_I (az_W B (az_EH B S q J)) d q_Machine_goes [.ref 150, ax_i (V1 800 0), .ref (q + 1), .ref (q + 2), ax_i 0] V1 (fun r2 V2 => ((r2 = 0 → ax_rg (1 + (V2 150 10)) ∧ Φ (1 + (V2 150 10)) V2) ∧ (¬ r2 = 0 → (0 ≤ V2 800 0 ∧ V2 800 0 < 8) ∧ ax_N (az_W B (az_EH B S q J)) d q_Instance_takeOver [.ref q, .ref 150, ax_i (V2 514 (V2 800 0))] V2 (fun V3 => Φ 0 V3) Θ))) Θ))) Θ) : ax_I (az_W B (az_EH B S q J)) (d + 1) q_House_tick [.ref 0, ax_i x1] V Φ Θ := by
  refine ax_T.of (M := m_House_tick) rfl (Nat.le_of_ble_eq_true rfl) ?_
  refine ax_mv 0 0 [some (.ref 0), some (ax_i x1), none] [] rfl ?_
  refine ax_mv 2 2 [some (.ref 0), some (ax_i x1), none] [ax_i x1, .ref 0] rfl ?_
  refine ax_callI (pc' := 5) ⟨_, rfl⟩ ml_11_136 (rest := []) rfl (fun ss hs => ⟨_, _, (az_e 0 rfl) ss hs⟩) (Nat.le_of_ble_eq_true rfl) rfl rfl h (fun r1 V1 hg1 hr1 h => ?_)
  refine ax_if (p1 := 10) (p2 := 8) ⟨_, rfl⟩ (by decide) rfl hr1 (fun hc => ?_) (fun hc => ?_)
  · have h := h.2 hc
    refine ax_mv 1 11 [some (.ref 0), some (ax_i x1), none] [.ref 0] rfl ?_
    refine ax_gR (v := .ref 156) (pc' := 14) ⟨_, rfl⟩ fl_11_34 (az_e 0 rfl) rfl rfl ?_
    refine ax_mv 1 15 [some (.ref 0), some (ax_i x1), none] [ax_i x1, .ref 156] rfl ?_
    obtain ⟨o1, o2, h⟩ := h
    refine ax_ald (q := q) (pc' := 16) ⟨_, rfl⟩ (az_e 1 rfl) o1 o2 rfl ?_
    refine ax_sta (k := 2) (n := 1) (pc' := 17) (L' := [some (.ref 0), some (ax_i x1), some (.ref q)]) ⟨_, rfl⟩ rfl rfl rfl (Nat.le_of_ble_eq_true rfl) rfl rfl ?_
    refine ax_mv 1 18 [some (.ref 0), some (ax_i x1), some (.ref q)] [.ref 0] rfl ?_
    refine ax_gR (v := .ref 150) (pc' := 21) ⟨_, rfl⟩ fl_11_28 (az_e 0 rfl) rfl rfl ?_
    refine ax_mv 1 22 [some (.ref 0), some (ax_i x1), some (.ref q)] [.ref q, .ref 150] rfl ?_
    refine ax_gI (kI := 0) (pc' := 25) ⟨_, rfl⟩ fl_11_139 (az_e 8 rfl) rfl rfl rfl ?_
    refine ax_mv 1 26 [some (.ref 0), some (ax_i x1), some (.ref q)] [.ref q, ax_i (V1 800 0), .ref 150] rfl ?_
    refine ax_gR (v := .ref (q + 1)) (pc' := 29) ⟨_, rfl⟩ fl_11_154 (az_e 8 rfl) rfl rfl ?_
    refine ax_mv 1 30 [some (.ref 0), some (ax_i x1), some (.ref q)] [.ref q, .ref (q + 1), ax_i (V1 800 0), .ref 150] rfl ?_
    refine ax_gR (v := .ref (q + 2)) (pc' := 33) ⟨_, rfl⟩ fl_11_155 (az_e 8 rfl) rfl rfl ?_
    refine ax_mv 1 34 [some (.ref 0), some (ax_i x1), some (.ref q)] [ax_i 0, .ref (q + 2), .ref (q + 1), ax_i (V1 800 0), .ref 150] rfl ?_
    refine ax_callI (pc' := 37) ⟨_, rfl⟩ ml_11_158 (rest := []) rfl (fun ss hs => ⟨_, _, (az_e 2 rfl) ss hs⟩) (Nat.le_of_ble_eq_true rfl) rfl rfl h (fun r2 V2 hg2 hr2 h => ?_)
    refine ax_if (p1 := 50) (p2 := 40) ⟨_, rfl⟩ (by decide) rfl hr2 (fun hc => ?_) (fun hc => ?_)
    · have h := h.2 hc
      refine ax_mv 2 52 [some (.ref 0), some (ax_i x1), some (.ref q)] [.ref 0, .ref q] rfl ?_
      refine ax_gR (v := .ref 150) (pc' := 55) ⟨_, rfl⟩ fl_11_28 (az_e 0 rfl) rfl rfl ?_
      refine ax_mv 1 56 [some (.ref 0), some (ax_i x1), some (.ref q)] [.ref 0, .ref 150, .ref q] rfl ?_
      refine ax_gR (v := .ref B) (pc' := 59) ⟨_, rfl⟩ fl_11_16 (az_e 0 rfl) rfl rfl ?_
      refine ax_gR (v := .ref (B + 14)) (pc' := 62) ⟨_, rfl⟩ fl_11_126 (az_b 0 rfl) rfl rfl ?_
      refine ax_mv 1 63 [some (.ref 0), some (ax_i x1), some (.ref q)] [.ref q, .ref (B + 14), .ref 150, .ref q] rfl ?_
      refine ax_gI (kI := 0) (pc' := 66) ⟨_, rfl⟩ fl_11_139 (az_e 8 rfl) rfl rfl rfl ?_
      obtain ⟨o3, h⟩ := h
      refine ax_ild (n := 8) (pc' := 67) ⟨_, rfl⟩ (az_b 14 rfl) (by decide) o3 rfl ?_
      refine ax_callN (pc' := 70) ⟨_, rfl⟩ ml_11_165 (rest := []) rfl (fun ss hs => ⟨_, _, (az_e 8 rfl) ss hs⟩) (Nat.le_of_ble_eq_true rfl) rfl rfl h (fun V3 hg3 h => ?_)
      refine ax_mv 1 71 [some (.ref 0), some (ax_i x1), some (.ref q)] [ax_i 0] rfl ?_
      exact ax_iret ⟨_, rfl⟩ rfl rfl (by decide) hg3 h
    · have h := h.1 (Classical.not_not.mp hc)
      refine ax_mv 2 42 [some (.ref 0), some (ax_i x1), some (.ref q)] [.ref 0, ax_i 1] rfl ?_
      refine ax_gR (v := .ref 150) (pc' := 45) ⟨_, rfl⟩ fl_11_28 (az_e 0 rfl) rfl rfl ?_
      refine ax_gI (kI := 10) (pc' := 48) ⟨_, rfl⟩ fl_11_162 (az_e 2 rfl) rfl rfl rfl ?_
      refine ax_add (pc' := 49) ⟨_, rfl⟩ rfl ?_
      obtain ⟨o4, h⟩ := h
      exact ax_iret ⟨_, rfl⟩ rfl rfl o4 hg2 h
  · have h := h.1 (Classical.not_not.mp hc)
    refine ax_mv 1 9 [some (.ref 0), some (ax_i x1), none] [ax_i (-1)] rfl ?_
    exact ax_iret ⟨_, rfl⟩ rfl rfl (by decide) hg1 h
theorem r_House_state {B : Nat} {S : az_H} {q : Nat} {J : Int} {d : Nat} {V : ax_V} {Φ : Int → ax_V → Prop} {Θ : ax_V → Prop} {x1 : Int} {x2 : Int} (hg : ax_g V) (hx1 : ax_rg x1) (hx2 : ax_rg x2) (h : ax_I (az_W B (az_EH B S q J)) d q_House_isMade [.ref 0, ax_i x1] V (fun r1 V1 => ((r1 = 0 → Φ (-1) V1) ∧ (¬ r1 = 0 → x1 = J ∧ (0 ≤ x1 ∧ x1 < 8) ∧ (0 ≤ V1 800 0 ∧ V1 800 0 < 9) ∧ ((x2 < 0 → Φ (-1) V1) ∧ (0 ≤ x2 → (0 ≤ (V1 800 0) + 1 ∧ (V1 800 0) + 1 < 9) ∧ ax_rg ((V1 510 ((V1 800 0) + 1)) - (V1 510 (V1 800 0))) ∧ ((x2 < (V1 510 ((V1 800 0) + 1)) - (V1 510 (V1 800 0)) → (0 ≤ (V1 510 (V1 800 0)) + x2 ∧ (V1 510 (V1 800 0)) + x2 < 350) ∧ (0 ≤ V1 560 ((V1 510 (V1 800 0)) + x2) ∧ V1 560 ((V1 510 (V1 800 0)) + x2) < 300) ∧ Φ (V1 802 (V1 560 ((V1 510 (V1 800 0)) + x2))) V1) ∧ ((V1 510 ((V1 800 0) + 1)) - (V1 510 (V1 800 0)) ≤ x2 → Φ (-1) V1))))))) Θ) : ax_I (az_W B (az_EH B S q J)) (d + 1) q_House_state [.ref 0, ax_i x1, ax_i x2] V Φ Θ := by
  refine ax_T.of (M := m_House_state) rfl (Nat.le_of_ble_eq_true rfl) ?_
  refine ax_mv 0 0 [some (.ref 0), some (ax_i x1), some (ax_i x2), none, none] [] rfl ?_
  refine ax_mv 2 2 [some (.ref 0), some (ax_i x1), some (ax_i x2), none, none] [ax_i x1, .ref 0] rfl ?_
  refine ax_callI (pc' := 5) ⟨_, rfl⟩ ml_11_136 (rest := []) rfl (fun ss hs => ⟨_, _, (az_e 0 rfl) ss hs⟩) (Nat.le_of_ble_eq_true rfl) rfl rfl h (fun r1 V1 hg1 hr1 h => ?_)
  refine ax_if (p1 := 10) (p2 := 8) ⟨_, rfl⟩ (by decide) rfl hr1 (fun hc => ?_) (fun hc => ?_)
  · have h := h.2 hc
    refine ax_mv 1 11 [some (.ref 0), some (ax_i x1), some (ax_i x2), none, none] [.ref 0] rfl ?_
    refine ax_gR (v := .ref 156) (pc' := 14) ⟨_, rfl⟩ fl_11_34 (az_e 0 rfl) rfl rfl ?_
    refine ax_mv 1 15 [some (.ref 0), some (ax_i x1), some (ax_i x2), none, none] [ax_i x1, .ref 156] rfl ?_
    obtain ⟨o1, o2, h⟩ := h
    refine ax_ald (q := q) (pc' := 16) ⟨_, rfl⟩ (az_e 1 rfl) o1 o2 rfl ?_
    refine ax_sta (k := 3) (n := 1) (pc' := 17) (L' := [some (.ref 0), some (ax_i x1), some (ax_i x2), some (.ref q), none]) ⟨_, rfl⟩ rfl rfl rfl (Nat.le_of_ble_eq_true rfl) rfl rfl ?_
    refine ax_mv 1 18 [some (.ref 0), some (ax_i x1), some (ax_i x2), some (.ref q), none] [.ref 0] rfl ?_
    refine ax_gR (v := .ref B) (pc' := 21) ⟨_, rfl⟩ fl_11_16 (az_e 0 rfl) rfl rfl ?_
    refine ax_gR (v := .ref (B + 10)) (pc' := 24) ⟨_, rfl⟩ fl_11_190 (az_b 0 rfl) rfl rfl ?_
    refine ax_mv 1 25 [some (.ref 0), some (ax_i x1), some (ax_i x2), some (.ref q), none] [.ref q, .ref (B + 10)] rfl ?_
    refine ax_gI (kI := 0) (pc' := 28) ⟨_, rfl⟩ fl_11_139 (az_e 8 rfl) rfl rfl rfl ?_
    obtain ⟨o3, h⟩ := h
    refine ax_ild (n := 9) (pc' := 29) ⟨_, rfl⟩ (az_b 10 rfl) (by decide) o3 rfl ?_
    refine ax_sti (i := 0) (k := 4) (n := 2) (pc' := 31) (L' := [some (.ref 0), some (ax_i x1), some (ax_i x2), some (.ref q), some (ax_i (V1 510 (V1 800 0)))]) ⟨_, rfl⟩ rfl rfl rfl (Nat.le_of_ble_eq_true rfl) rfl rfl ?_
    refine ax_mv 1 32 [some (.ref 0), some (ax_i x1), some (ax_i x2), some (.ref q), some (ax_i (V1 510 (V1 800 0)))] [ax_i x2] rfl ?_
    refine ax_if (p1 := 56) (p2 := 35) ⟨_, rfl⟩ (by decide) rfl hx2 (fun hc => ?_) (fun hc => ?_)
    · have h := h.1 hc
      refine ax_mv 1 57 [some (.ref 0), some (ax_i x1), some (ax_i x2), some (.ref q), some (ax_i (V1 510 (V1 800 0)))] [ax_i (-1)] rfl ?_
      exact ax_iret ⟨_, rfl⟩ rfl rfl (by decide) hg1 h
    · have h := h.2 (Int.not_lt.mp hc)
      refine ax_mv 2 37 [some (.ref 0), some (ax_i x1), some (ax_i x2), some (.ref q), some (ax_i (V1 510 (V1 800 0)))] [.ref 0, ax_i x2] rfl ?_
      refine ax_gR (v := .ref B) (pc' := 40) ⟨_, rfl⟩ fl_11_16 (az_e 0 rfl) rfl rfl ?_
      refine ax_gR (v := .ref (B + 10)) (pc' := 43) ⟨_, rfl⟩ fl_11_190 (az_b 0 rfl) rfl rfl ?_
      refine ax_mv 1 44 [some (.ref 0), some (ax_i x1), some (ax_i x2), some (.ref q), some (ax_i (V1 510 (V1 800 0)))] [.ref q, .ref (B + 10), ax_i x2] rfl ?_
      refine ax_gI (kI := 0) (pc' := 47) ⟨_, rfl⟩ fl_11_139 (az_e 8 rfl) rfl rfl rfl ?_
      refine ax_mv 1 48 [some (.ref 0), some (ax_i x1), some (ax_i x2), some (.ref q), some (ax_i (V1 510 (V1 800 0)))] [ax_i 1, ax_i (V1 800 0), .ref (B + 10), ax_i x2] rfl ?_
      refine ax_add (pc' := 49) ⟨_, rfl⟩ rfl ?_
      obtain ⟨o4, h⟩ := h
      refine ax_ild (n := 9) (pc' := 50) ⟨_, rfl⟩ (az_b 10 rfl) (by decide) o4 rfl ?_
      refine ax_mv 1 52 [some (.ref 0), some (ax_i x1), some (ax_i x2), some (.ref q), some (ax_i (V1 510 (V1 800 0)))] [ax_i (V1 510 (V1 800 0)), ax_i (V1 510 ((V1 800 0) + 1)), ax_i x2] rfl ?_
      refine ax_sub (pc' := 53) ⟨_, rfl⟩ rfl ?_
      obtain ⟨o5, h⟩ := h
      refine ax_if2 (p1 := 58) (p2 := 56) ⟨_, rfl⟩ (by decide) rfl hx2 o5 (fun hc => ?_) (fun hc => ?_)
      · have h := h.1 hc
        refine ax_mv 1 59 [some (.ref 0), some (ax_i x1), some (ax_i x2), some (.ref q), some (ax_i (V1 510 (V1 800 0)))] [.ref q] rfl ?_
        refine ax_gR (v := .ref (q + 2)) (pc' := 62) ⟨_, rfl⟩ fl_11_155 (az_e 8 rfl) rfl rfl ?_
        refine ax_mv 1 63 [some (.ref 0), some (ax_i x1), some (ax_i x2), some (.ref q), some (ax_i (V1 510 (V1 800 0)))] [.ref 0, .ref (q + 2)] rfl ?_
        refine ax_gR (v := .ref B) (pc' := 66) ⟨_, rfl⟩ fl_11_16 (az_e 0 rfl) rfl rfl ?_
        refine ax_gR (v := .ref (B + 56)) (pc' := 69) ⟨_, rfl⟩ fl_11_193 (az_b 0 rfl) rfl rfl ?_
        refine ax_gR (v := .ref (B + 60)) (pc' := 72) ⟨_, rfl⟩ fl_11_197 (az_b 56 rfl) rfl rfl ?_
        refine ax_mv 2 75 [some (.ref 0), some (ax_i x1), some (ax_i x2), some (.ref q), some (ax_i (V1 510 (V1 800 0)))] [ax_i x2, ax_i (V1 510 (V1 800 0)), .ref (B + 60), .ref (q + 2)] rfl ?_
        refine ax_add (pc' := 76) ⟨_, rfl⟩ rfl ?_
        obtain ⟨o6, h⟩ := h
        refine ax_ild (n := 350) (pc' := 77) ⟨_, rfl⟩ (az_b 60 rfl) (by decide) o6 rfl ?_
        obtain ⟨o7, h⟩ := h
        refine ax_ild (n := 300) (pc' := 78) ⟨_, rfl⟩ (az_e 10 rfl) (by decide) o7 rfl ?_
        exact ax_iret ⟨_, rfl⟩ rfl rfl (hg1 _ _) hg1 h
      · have h := h.2 (Int.not_lt.mp hc)
        refine ax_mv 1 57 [some (.ref 0), some (ax_i x1), some (ax_i x2), some (.ref q), some (ax_i (V1 510 (V1 800 0)))] [ax_i (-1)] rfl ?_
        exact ax_iret ⟨_, rfl⟩ rfl rfl (by decide) hg1 h
  · have h := h.1 (Classical.not_not.mp hc)
    refine ax_mv 1 9 [some (.ref 0), some (ax_i x1), some (ax_i x2), none, none] [ax_i (-1)] rfl ?_
    exact ax_iret ⟨_, rfl⟩ rfl rfl (by decide) hg1 h
theorem r_House_ticks {B : Nat} {S : az_H} {q : Nat} {J : Int} {d : Nat} {V : ax_V} {Φ : Int → ax_V → Prop} {Θ : ax_V → Prop} {x1 : Int} (hg : ax_g V) (hx1 : ax_rg x1) (h : ax_I (az_W B (az_EH B S q J)) d q_House_isMade [.ref 0, ax_i x1] V (fun r1 V1 => ((r1 = 0 → Φ (-1) V1) ∧ (¬ r1 = 0 → x1 = J ∧ (0 ≤ x1 ∧ x1 < 8) ∧ Φ (V1 800 1) V1))) Θ) : ax_I (az_W B (az_EH B S q J)) (d + 1) q_House_ticks [.ref 0, ax_i x1] V Φ Θ := by
  refine ax_T.of (M := m_House_ticks) rfl (Nat.le_of_ble_eq_true rfl) ?_
  refine ax_mv 0 0 [some (.ref 0), some (ax_i x1)] [] rfl ?_
  refine ax_mv 2 2 [some (.ref 0), some (ax_i x1)] [ax_i x1, .ref 0] rfl ?_
  refine ax_callI (pc' := 5) ⟨_, rfl⟩ ml_11_136 (rest := []) rfl (fun ss hs => ⟨_, _, (az_e 0 rfl) ss hs⟩) (Nat.le_of_ble_eq_true rfl) rfl rfl h (fun r1 V1 hg1 hr1 h => ?_)
  refine ax_if (p1 := 20) (p2 := 8) ⟨_, rfl⟩ (by decide) rfl hr1 (fun hc => ?_) (fun hc => ?_)
  · have h := h.1 hc
    refine ax_mv 1 21 [some (.ref 0), some (ax_i x1)] [ax_i (-1)] rfl ?_
    exact ax_iret ⟨_, rfl⟩ rfl rfl (by decide) hg1 h
  · have h := h.2 hc
    refine ax_mv 1 9 [some (.ref 0), some (ax_i x1)] [.ref 0] rfl ?_
    refine ax_gR (v := .ref 156) (pc' := 12) ⟨_, rfl⟩ fl_11_34 (az_e 0 rfl) rfl rfl ?_
    refine ax_mv 1 13 [some (.ref 0), some (ax_i x1)] [ax_i x1, .ref 156] rfl ?_
    obtain ⟨o1, o2, h⟩ := h
    refine ax_ald (q := q) (pc' := 14) ⟨_, rfl⟩ (az_e 1 rfl) o1 o2 rfl ?_
    refine ax_gI (kI := 1) (pc' := 17) ⟨_, rfl⟩ fl_11_202 (az_e 8 rfl) rfl rfl rfl ?_
    refine ax_mv 1 21 [some (.ref 0), some (ax_i x1)] [ax_i (V1 800 1)] rfl ?_
    exact ax_iret ⟨_, rfl⟩ rfl rfl (hg1 _ _) hg1 h
theorem r_House_save {B : Nat} {S : az_H} {q : Nat} {J : Int} {d : Nat} {V : ax_V} {Φ : Int → ax_V → Prop} {Θ : ax_V → Prop} {x1 : Int} {x2 : Int} (hg : ax_g V) (hx1 : ax_rg x1) (hx2 : ax_rg x2) (h : ax_I (az_W B (az_EH B S q J)) d q_House_isMade [.ref 0, ax_i x1] V (fun r1 V1 => ((r1 = 0 → Φ 0 V1) ∧ (¬ r1 = 0 → ((x2 < 0 → Φ 0 V1) ∧ (0 ≤ x2 → ((x2 < 4 → x1 = J ∧ (0 ≤ x1 ∧ x1 < 8) ∧ ax_N (az_W B (az_EH B S q J)) d q_Instance_keep [.ref q, ax_i x2] V1 (fun V2 => Φ 1 V2) Θ) ∧ (4 ≤ x2 → Φ 0 V1))))))) Θ) : ax_I (az_W B (az_EH B S q J)) (d + 1) q_House_save [.ref 0, ax_i x1, ax_i x2] V Φ Θ := by
  refine ax_T.of (M := m_House_save) rfl (Nat.le_of_ble_eq_true rfl) ?_
  refine ax_mv 0 0 [some (.ref 0), some (ax_i x1), some (ax_i x2)] [] rfl ?_
  refine ax_mv 2 2 [some (.ref 0), some (ax_i x1), some (ax_i x2)] [ax_i x1, .ref 0] rfl ?_
  refine ax_callI (pc' := 5) ⟨_, rfl⟩ ml_11_136 (rest := []) rfl (fun ss hs => ⟨_, _, (az_e 0 rfl) ss hs⟩) (Nat.le_of_ble_eq_true rfl) rfl rfl h (fun r1 V1 hg1 hr1 h => ?_)
  refine ax_if (p1 := 17) (p2 := 8) ⟨_, rfl⟩ (by decide) rfl hr1 (fun hc => ?_) (fun hc => ?_)
  · have h := h.1 hc
    refine ax_mv 1 18 [some (.ref 0), some (ax_i x1), some (ax_i x2)] [ax_i 0] rfl ?_
    exact ax_iret ⟨_, rfl⟩ rfl (ax_nbv (by decide)) (by decide) hg1 h
  · have h := h.2 hc
    refine ax_mv 1 9 [some (.ref 0), some (ax_i x1), some (ax_i x2)] [ax_i x2] rfl ?_
    refine ax_if (p1 := 17) (p2 := 12) ⟨_, rfl⟩ (by decide) rfl hx2 (fun hc => ?_) (fun hc => ?_)
    · have h := h.1 hc
      refine ax_mv 1 18 [some (.ref 0), some (ax_i x1), some (ax_i x2)] [ax_i 0] rfl ?_
      exact ax_iret ⟨_, rfl⟩ rfl (ax_nbv (by decide)) (by decide) hg1 h
    · have h := h.2 (Int.not_lt.mp hc)
      refine ax_mv 2 14 [some (.ref 0), some (ax_i x1), some (ax_i x2)] [ax_i 4, ax_i x2] rfl ?_
      refine ax_if2 (p1 := 19) (p2 := 17) ⟨_, rfl⟩ (by decide) rfl hx2 (by decide) (fun hc => ?_) (fun hc => ?_)
      · have h := h.1 hc
        refine ax_mv 1 20 [some (.ref 0), some (ax_i x1), some (ax_i x2)] [.ref 0] rfl ?_
        refine ax_gR (v := .ref 156) (pc' := 23) ⟨_, rfl⟩ fl_11_34 (az_e 0 rfl) rfl rfl ?_
        refine ax_mv 1 24 [some (.ref 0), some (ax_i x1), some (ax_i x2)] [ax_i x1, .ref 156] rfl ?_
        obtain ⟨o1, o2, h⟩ := h
        refine ax_ald (q := q) (pc' := 25) ⟨_, rfl⟩ (az_e 1 rfl) o1 o2 rfl ?_
        refine ax_mv 1 26 [some (.ref 0), some (ax_i x1), some (ax_i x2)] [ax_i x2, .ref q] rfl ?_
        refine ax_callN (pc' := 29) ⟨_, rfl⟩ ml_11_205 (rest := []) rfl (fun ss hs => ⟨_, _, (az_e 8 rfl) ss hs⟩) (Nat.le_of_ble_eq_true rfl) rfl rfl h (fun V2 hg2 h => ?_)
        refine ax_mv 1 30 [some (.ref 0), some (ax_i x1), some (ax_i x2)] [ax_i 1] rfl ?_
        exact ax_iret ⟨_, rfl⟩ rfl (ax_nbv (by decide)) (by decide) hg2 h
      · have h := h.2 (Int.not_lt.mp hc)
        refine ax_mv 1 18 [some (.ref 0), some (ax_i x1), some (ax_i x2)] [ax_i 0] rfl ?_
        exact ax_iret ⟨_, rfl⟩ rfl (ax_nbv (by decide)) (by decide) hg1 h
theorem r_House_back {B : Nat} {S : az_H} {q : Nat} {J : Int} {d : Nat} {V : ax_V} {Φ : Int → ax_V → Prop} {Θ : ax_V → Prop} {x1 : Int} {x2 : Int} (hg : ax_g V) (hx1 : ax_rg x1) (hx2 : ax_rg x2) (h : ax_I (az_W B (az_EH B S q J)) d q_House_isMade [.ref 0, ax_i x1] V (fun r1 V1 => ((r1 = 0 → Φ 0 V1) ∧ (¬ r1 = 0 → ((x2 < 0 → Φ 0 V1) ∧ (0 ≤ x2 → ((x2 < 4 → x1 = J ∧ (0 ≤ x1 ∧ x1 < 8) ∧ ax_I (az_W B (az_EH B S q J)) d q_Instance_bringBack [.ref q, ax_i x2] V1 (fun r2 V2 => (r2 = 0 ∨ r2 = 1) ∧ Φ r2 V2) Θ) ∧ (4 ≤ x2 → Φ 0 V1))))))) Θ) : ax_I (az_W B (az_EH B S q J)) (d + 1) q_House_back [.ref 0, ax_i x1, ax_i x2] V Φ Θ := by
  refine ax_T.of (M := m_House_back) rfl (Nat.le_of_ble_eq_true rfl) ?_
  refine ax_mv 0 0 [some (.ref 0), some (ax_i x1), some (ax_i x2)] [] rfl ?_
  refine ax_mv 2 2 [some (.ref 0), some (ax_i x1), some (ax_i x2)] [ax_i x1, .ref 0] rfl ?_
  refine ax_callI (pc' := 5) ⟨_, rfl⟩ ml_11_136 (rest := []) rfl (fun ss hs => ⟨_, _, (az_e 0 rfl) ss hs⟩) (Nat.le_of_ble_eq_true rfl) rfl rfl h (fun r1 V1 hg1 hr1 h => ?_)
  refine ax_if (p1 := 17) (p2 := 8) ⟨_, rfl⟩ (by decide) rfl hr1 (fun hc => ?_) (fun hc => ?_)
  · have h := h.1 hc
    refine ax_mv 1 18 [some (.ref 0), some (ax_i x1), some (ax_i x2)] [ax_i 0] rfl ?_
    exact ax_iret ⟨_, rfl⟩ rfl (ax_nbv (by decide)) (by decide) hg1 h
  · have h := h.2 hc
    refine ax_mv 1 9 [some (.ref 0), some (ax_i x1), some (ax_i x2)] [ax_i x2] rfl ?_
    refine ax_if (p1 := 17) (p2 := 12) ⟨_, rfl⟩ (by decide) rfl hx2 (fun hc => ?_) (fun hc => ?_)
    · have h := h.1 hc
      refine ax_mv 1 18 [some (.ref 0), some (ax_i x1), some (ax_i x2)] [ax_i 0] rfl ?_
      exact ax_iret ⟨_, rfl⟩ rfl (ax_nbv (by decide)) (by decide) hg1 h
    · have h := h.2 (Int.not_lt.mp hc)
      refine ax_mv 2 14 [some (.ref 0), some (ax_i x1), some (ax_i x2)] [ax_i 4, ax_i x2] rfl ?_
      refine ax_if2 (p1 := 19) (p2 := 17) ⟨_, rfl⟩ (by decide) rfl hx2 (by decide) (fun hc => ?_) (fun hc => ?_)
      · have h := h.1 hc
        refine ax_mv 1 20 [some (.ref 0), some (ax_i x1), some (ax_i x2)] [.ref 0] rfl ?_
        refine ax_gR (v := .ref 156) (pc' := 23) ⟨_, rfl⟩ fl_11_34 (az_e 0 rfl) rfl rfl ?_
        refine ax_mv 1 24 [some (.ref 0), some (ax_i x1), some (ax_i x2)] [ax_i x1, .ref 156] rfl ?_
        obtain ⟨o1, o2, h⟩ := h
        refine ax_ald (q := q) (pc' := 25) ⟨_, rfl⟩ (az_e 1 rfl) o1 o2 rfl ?_
        refine ax_mv 1 26 [some (.ref 0), some (ax_i x1), some (ax_i x2)] [ax_i x2, .ref q] rfl ?_
        refine ax_callI (pc' := 29) ⟨_, rfl⟩ ml_11_209 (rest := []) rfl (fun ss hs => ⟨_, _, (az_e 8 rfl) ss hs⟩) (Nat.le_of_ble_eq_true rfl) rfl rfl h (fun r2 V2 hg2 hr2 h => ?_)
        obtain ⟨o3, h⟩ := h
        exact ax_iret ⟨_, rfl⟩ rfl (ax_nbv o3) hr2 hg2 h
      · have h := h.2 (Int.not_lt.mp hc)
        refine ax_mv 1 18 [some (.ref 0), some (ax_i x1), some (ax_i x2)] [ax_i 0] rfl ?_
        exact ax_iret ⟨_, rfl⟩ rfl (ax_nbv (by decide)) (by decide) hg1 h
theorem r_House_prove {B : Nat} {S : az_H} {q : Nat} {J : Int} {d : Nat} {V : ax_V} {Φ : Int → ax_V → Prop} {Θ : ax_V → Prop} {x1 : Int} {x2 : Int} {x3 : Int} (hg : ax_g V) (hx1 : ax_rg x1) (hx2 : ax_rg x2) (hx3 : ax_rg x3) (h : ax_I (az_W B (az_EH B S q J)) d q_House_canProve [.ref 0, ax_i x1] V (fun r1 V1 => ((r1 = 0 → Φ (-1) V1) ∧ (¬ r1 = 0 → ((x3 < 1 → Φ (-1) V1) ∧ (1 ≤ x3 → ((300 < x3 → Φ (-1) V1) ∧ (x3 ≤ 300 → ((x2 < 0 → Φ (-1) V1) ∧ (0 ≤ x2 → (0 ≤ x1 ∧ x1 < 8) ∧ ((x2 < V1 504 x1 → (0 ≤ (x1 * 26) + x2 ∧ (x1 * 26) + x2 < 208) ∧ (0 ≤ V1 507 ((x1 * 26) + x2) ∧ V1 507 ((x1 * 26) + x2) < 208) ∧ ((V1 535 (V1 507 ((x1 * 26) + x2)) = 1 → ax_N (az_W B (az_EH B S q J)) d q_Prover_begin [.ref 157, .ref 150, ax_i x1, ax_i (-1), ax_i (V1 507 ((x1 * 26) + x2)), ax_i x3] V1 (fun V2 => ax_I (az_W B (az_EH B S q J)) d q_Prover_search [.ref 157] V2 (fun r3 V3 => Φ r3 V3) Θ) Θ) ∧ (¬ V1 535 (V1 507 ((x1 * 26) + x2)) = 1 → Φ (-1) V1))) ∧ (V1 504 x1 ≤ x2 → Φ (-1) V1))))))))))) Θ) : ax_I (az_W B (az_EH B S q J)) (d + 1) q_House_prove [.ref 0, ax_i x1, ax_i x2, ax_i x3] V Φ Θ := by
  refine ax_T.of (M := m_House_prove) rfl (Nat.le_of_ble_eq_true rfl) ?_
  refine ax_mv 0 0 [some (.ref 0), some (ax_i x1), some (ax_i x2), some (ax_i x3), none] [] rfl ?_
  refine ax_mv 2 2 [some (.ref 0), some (ax_i x1), some (ax_i x2), some (ax_i x3), none] [ax_i x1, .ref 0] rfl ?_
  refine ax_callI (pc' := 5) ⟨_, rfl⟩ ml_11_212 (rest := []) rfl (fun ss hs => ⟨_, _, (az_e 0 rfl) ss hs⟩) (Nat.le_of_ble_eq_true rfl) rfl rfl h (fun r1 V1 hg1 hr1 h => ?_)
  refine ax_if (p1 := 37) (p2 := 8) ⟨_, rfl⟩ (by decide) rfl hr1 (fun hc => ?_) (fun hc => ?_)
  · have h := h.1 hc
    refine ax_mv 1 38 [some (.ref 0), some (ax_i x1), some (ax_i x2), some (ax_i x3), none] [ax_i (-1)] rfl ?_
    exact ax_iret ⟨_, rfl⟩ rfl rfl (by decide) hg1 h
  · have h := h.2 hc
    refine ax_mv 2 10 [some (.ref 0), some (ax_i x1), some (ax_i x2), some (ax_i x3), none] [ax_i 1, ax_i x3] rfl ?_
    refine ax_if2 (p1 := 37) (p2 := 13) ⟨_, rfl⟩ (by decide) rfl hx3 (by decide) (fun hc => ?_) (fun hc => ?_)
    · have h := h.1 hc
      refine ax_mv 1 38 [some (.ref 0), some (ax_i x1), some (ax_i x2), some (ax_i x3), none] [ax_i (-1)] rfl ?_
      exact ax_iret ⟨_, rfl⟩ rfl rfl (by decide) hg1 h
    · have h := h.2 (Int.not_lt.mp hc)
      refine ax_mv 1 14 [some (.ref 0), some (ax_i x1), some (ax_i x2), some (ax_i x3), none] [ax_i x3] rfl ?_
      refine ax_sip (pc' := 17) ⟨_, rfl⟩ (by decide) rfl ?_
      refine ax_if2 (p1 := 37) (p2 := 20) ⟨_, rfl⟩ (by decide) rfl hx3 (by decide) (fun hc => ?_) (fun hc => ?_)
      · have h := h.1 hc
        refine ax_mv 1 38 [some (.ref 0), some (ax_i x1), some (ax_i x2), some (ax_i x3), none] [ax_i (-1)] rfl ?_
        exact ax_iret ⟨_, rfl⟩ rfl rfl (by decide) hg1 h
      · have h := h.2 (Int.not_lt.mp hc)
        refine ax_mv 1 21 [some (.ref 0), some (ax_i x1), some (ax_i x2), some (ax_i x3), none] [ax_i x2] rfl ?_
        refine ax_if (p1 := 37) (p2 := 24) ⟨_, rfl⟩ (by decide) rfl hx2 (fun hc => ?_) (fun hc => ?_)
        · have h := h.1 hc
          refine ax_mv 1 38 [some (.ref 0), some (ax_i x1), some (ax_i x2), some (ax_i x3), none] [ax_i (-1)] rfl ?_
          exact ax_iret ⟨_, rfl⟩ rfl rfl (by decide) hg1 h
        · have h := h.2 (Int.not_lt.mp hc)
          refine ax_mv 2 26 [some (.ref 0), some (ax_i x1), some (ax_i x2), some (ax_i x3), none] [.ref 0, ax_i x2] rfl ?_
          refine ax_gR (v := .ref B) (pc' := 29) ⟨_, rfl⟩ fl_11_16 (az_e 0 rfl) rfl rfl ?_
          refine ax_gR (v := .ref (B + 4)) (pc' := 32) ⟨_, rfl⟩ fl_11_118 (az_b 0 rfl) rfl rfl ?_
          refine ax_mv 1 33 [some (.ref 0), some (ax_i x1), some (ax_i x2), some (ax_i x3), none] [ax_i x1, .ref (B + 4), ax_i x2] rfl ?_
          obtain ⟨o1, h⟩ := h
          refine ax_ild (n := 8) (pc' := 34) ⟨_, rfl⟩ (az_b 4 rfl) (by decide) o1 rfl ?_
          refine ax_if2 (p1 := 39) (p2 := 37) ⟨_, rfl⟩ (by decide) rfl hx2 (hg1 _ _) (fun hc => ?_) (fun hc => ?_)
          · have h := h.1 hc
            refine ax_mv 1 40 [some (.ref 0), some (ax_i x1), some (ax_i x2), some (ax_i x3), none] [.ref 0] rfl ?_
            refine ax_gR (v := .ref B) (pc' := 43) ⟨_, rfl⟩ fl_11_16 (az_e 0 rfl) rfl rfl ?_
            refine ax_gR (v := .ref (B + 7)) (pc' := 46) ⟨_, rfl⟩ fl_11_181 (az_b 0 rfl) rfl rfl ?_
            refine ax_mv 1 47 [some (.ref 0), some (ax_i x1), some (ax_i x2), some (ax_i x3), none] [ax_i x1, .ref (B + 7)] rfl ?_
            refine ax_bip (pc' := 49) ⟨_, rfl⟩ (by decide) rfl ?_
            refine ax_mul (pc' := 50) ⟨_, rfl⟩ rfl ?_
            refine ax_mv 1 51 [some (.ref 0), some (ax_i x1), some (ax_i x2), some (ax_i x3), none] [ax_i x2, ax_i (x1 * 26), .ref (B + 7)] rfl ?_
            refine ax_add (pc' := 52) ⟨_, rfl⟩ rfl ?_
            obtain ⟨o2, h⟩ := h
            refine ax_ild (n := 208) (pc' := 53) ⟨_, rfl⟩ (az_b 7 rfl) (by decide) o2 rfl ?_
            refine ax_sti (i := 0) (k := 4) (n := 2) (pc' := 55) (L' := [some (.ref 0), some (ax_i x1), some (ax_i x2), some (ax_i x3), some (ax_i (V1 507 ((x1 * 26) + x2)))]) ⟨_, rfl⟩ rfl rfl rfl (Nat.le_of_ble_eq_true rfl) rfl rfl ?_
            refine ax_mv 1 56 [some (.ref 0), some (ax_i x1), some (ax_i x2), some (ax_i x3), some (ax_i (V1 507 ((x1 * 26) + x2)))] [.ref 0] rfl ?_
            refine ax_gR (v := .ref B) (pc' := 59) ⟨_, rfl⟩ fl_11_16 (az_e 0 rfl) rfl rfl ?_
            refine ax_gR (v := .ref (B + 32)) (pc' := 62) ⟨_, rfl⟩ fl_11_145 (az_b 0 rfl) rfl rfl ?_
            refine ax_gR (v := .ref (B + 35)) (pc' := 65) ⟨_, rfl⟩ fl_11_149 (az_b 32 rfl) rfl rfl ?_
            refine ax_mv 1 67 [some (.ref 0), some (ax_i x1), some (ax_i x2), some (ax_i x3), some (ax_i (V1 507 ((x1 * 26) + x2)))] [ax_i (V1 507 ((x1 * 26) + x2)), .ref (B + 35)] rfl ?_
            obtain ⟨o3, h⟩ := h
            refine ax_ild (n := 208) (pc' := 68) ⟨_, rfl⟩ (az_b 35 rfl) (by decide) o3 rfl ?_
            refine ax_mv 1 69 [some (.ref 0), some (ax_i x1), some (ax_i x2), some (ax_i x3), some (ax_i (V1 507 ((x1 * 26) + x2)))] [ax_i 1, ax_i (V1 535 (V1 507 ((x1 * 26) + x2)))] rfl ?_
            refine ax_if2 (p1 := 74) (p2 := 72) ⟨_, rfl⟩ (by decide) rfl (hg1 _ _) (by decide) (fun hc => ?_) (fun hc => ?_)
            · have h := h.1 hc
              refine ax_mv 1 75 [some (.ref 0), some (ax_i x1), some (ax_i x2), some (ax_i x3), some (ax_i (V1 507 ((x1 * 26) + x2)))] [.ref 0] rfl ?_
              refine ax_gR (v := .ref 157) (pc' := 78) ⟨_, rfl⟩ fl_11_41 (az_e 0 rfl) rfl rfl ?_
              refine ax_mv 1 79 [some (.ref 0), some (ax_i x1), some (ax_i x2), some (ax_i x3), some (ax_i (V1 507 ((x1 * 26) + x2)))] [.ref 0, .ref 157] rfl ?_
              refine ax_gR (v := .ref 150) (pc' := 82) ⟨_, rfl⟩ fl_11_28 (az_e 0 rfl) rfl rfl ?_
              refine ax_mv 4 87 [some (.ref 0), some (ax_i x1), some (ax_i x2), some (ax_i x3), some (ax_i (V1 507 ((x1 * 26) + x2)))] [ax_i x3, ax_i (V1 507 ((x1 * 26) + x2)), ax_i (-1), ax_i x1, .ref 150, .ref 157] rfl ?_
              refine ax_callN (pc' := 90) ⟨_, rfl⟩ ml_11_215 (rest := []) rfl (fun ss hs => ⟨_, _, (az_e 15 rfl) ss hs⟩) (Nat.le_of_ble_eq_true rfl) rfl rfl h (fun V2 hg2 h => ?_)
              refine ax_mv 1 91 [some (.ref 0), some (ax_i x1), some (ax_i x2), some (ax_i x3), some (ax_i (V1 507 ((x1 * 26) + x2)))] [.ref 0] rfl ?_
              refine ax_gR (v := .ref 157) (pc' := 94) ⟨_, rfl⟩ fl_11_41 (az_e 0 rfl) rfl rfl ?_
              refine ax_callI (pc' := 97) ⟨_, rfl⟩ ml_11_218 (rest := []) rfl (fun ss hs => ⟨_, _, (az_e 15 rfl) ss hs⟩) (Nat.le_of_ble_eq_true rfl) rfl rfl h (fun r3 V3 hg3 hr3 h => ?_)
              exact ax_iret ⟨_, rfl⟩ rfl rfl hr3 hg3 h
            · have h := h.2 hc
              refine ax_mv 1 73 [some (.ref 0), some (ax_i x1), some (ax_i x2), some (ax_i x3), some (ax_i (V1 507 ((x1 * 26) + x2)))] [ax_i (-1)] rfl ?_
              exact ax_iret ⟨_, rfl⟩ rfl rfl (by decide) hg1 h
          · have h := h.2 (Int.not_lt.mp hc)
            refine ax_mv 1 38 [some (.ref 0), some (ax_i x1), some (ax_i x2), some (ax_i x3), none] [ax_i (-1)] rfl ?_
            exact ax_iret ⟨_, rfl⟩ rfl rfl (by decide) hg1 h
