/-! RULES of the methods of the class: a method each, and each loop of it. PRINTED by wip/gen/rules.py -/
abbrev k_Judge_judge_7 (B : Nat) (r : Nat) (d : Nat) (y1 : Option Value) (x2 : Int) (y3 : Option Value) (V : ax_V) (Φ : Int → ax_V → Prop) (Θ : ax_V → Prop) : Prop := ax_R (az_W B (az_EJ B r)) ax_t d m_Judge_judge 7 [some (.ref r), y1, some (ax_i x2), y3] [] V (ax_Ir Φ) Θ
abbrev k_Judge_judge_15 (B : Nat) (r : Nat) (d : Nat) (y1 : Option Value) (x2 : Int) (x3 : Int) (V : ax_V) (Φ : Int → ax_V → Prop) (Θ : ax_V → Prop) : Prop := ax_R (az_W B (az_EJ B r)) ax_t d m_Judge_judge 15 [some (.ref r), y1, some (ax_i x2), some (ax_i x3)] [] V (ax_Ir Φ) Θ
theorem r_Judge_judge_7 {B : Nat} {r : Nat} {d : Nat} {V : ax_V} {Φ : Int → ax_V → Prop} {Θ : ax_V → Prop} {y1 : Option Value} {x2 : Int} {y3 : Option Value} (hg : ax_g V) (hy1 : ax_y y1) (hx2 : ax_rg x2) (hy3 : ax_y y3) (h : ((6 < x2 → Φ 0 V) ∧ (x2 ≤ 6 → k_Judge_judge_15 B r d y1 x2 0 V Φ Θ))) : k_Judge_judge_7 B r d y1 x2 y3 V Φ Θ := by
  refine ax_mv 1 8 [some (.ref r), y1, some (ax_i x2), y3] [ax_i x2] rfl ?_
  refine ax_bip (pc' := 10) ⟨_, rfl⟩ (by decide) rfl ?_
  refine ax_if2 (p1 := 56) (p2 := 13) ⟨_, rfl⟩ (by decide) rfl hx2 (by decide) (fun hc => ?_) (fun hc => ?_)
  · have h := h.1 hc
    refine ax_mv 1 57 [some (.ref r), y1, some (ax_i x2), y3] [ax_i 0] rfl ?_
    exact ax_iret ⟨_, rfl⟩ rfl rfl (by decide) hg h
  · have h := h.2 (Int.not_lt.mp hc)
    refine ax_mv 1 14 [some (.ref r), y1, some (ax_i x2), y3] [ax_i 0] rfl ?_
    refine ax_sti (i := 0) (k := 3) (n := 1) (pc' := 15) (L' := [some (.ref r), y1, some (ax_i x2), some (ax_i 0)]) ⟨_, rfl⟩ rfl rfl rfl (Nat.le_of_ble_eq_true rfl) rfl rfl ?_
    exact h
theorem r_Judge_judge_15 {B : Nat} {r : Nat} {d : Nat} {V : ax_V} {Φ : Int → ax_V → Prop} {Θ : ax_V → Prop} {y1 : Option Value} {x2 : Int} {x3 : Int} (hg : ax_g V) (hy1 : ax_y y1) (hx2 : ax_rg x2) (hx3 : ax_rg x3) (h : ((V 500 0 ≤ x3 → ((700 ≤ V 601 5 → k_Judge_judge_7 B r d y1 (x2 + 1) (some (ax_i x3)) V Φ Θ) ∧ (V 601 5 < 700 → Φ x2 V))) ∧ (x3 < V 500 0 → ax_N (az_W B (az_EJ B r)) d q_Judge_lookFor [.ref r, ax_i x2, ax_i x3] V (fun V1 => k_Judge_judge_15 B r d y1 x2 (x3 + 1) V1 Φ Θ) Θ))) : k_Judge_judge_15 B r d y1 x2 x3 V Φ Θ := by
  refine ax_mv 2 17 [some (.ref r), y1, some (ax_i x2), some (ax_i x3)] [.ref r, ax_i x3] rfl ?_
  refine ax_gR (v := .ref B) (pc' := 20) ⟨_, rfl⟩ fl_3_15 (az_e 0 rfl) rfl rfl ?_
  refine ax_gI (kI := 0) (pc' := 23) ⟨_, rfl⟩ fl_3_41 (az_b 0 rfl) rfl rfl rfl ?_
  refine ax_if2 (p1 := 38) (p2 := 26) ⟨_, rfl⟩ (by decide) rfl hx3 (hg _ _) (fun hc => ?_) (fun hc => ?_)
  · have h := h.1 hc
    refine ax_mv 1 39 [some (.ref r), y1, some (ax_i x2), some (ax_i x3)] [.ref r] rfl ?_
    refine ax_gI (kI := 5) (pc' := 42) ⟨_, rfl⟩ fl_3_9 (az_e 0 rfl) rfl rfl rfl ?_
    refine ax_sip (pc' := 45) ⟨_, rfl⟩ (by decide) rfl ?_
    refine ax_if2 (p1 := 50) (p2 := 48) ⟨_, rfl⟩ (by decide) rfl (hg _ _) (by decide) (fun hc => ?_) (fun hc => ?_)
    · have h := h.1 hc
      refine ax_inc (x := x2) (pc' := 53) (L' := [some (.ref r), y1, some (ax_i (x2 + 1)), some (ax_i x3)]) ⟨_, rfl⟩ rfl (ax_kill_y (k := 1) rfl hy1) rfl rfl ?_
      refine ax_mv 1 7 [some (.ref r), y1, some (ax_i (x2 + 1)), some (ax_i x3)] [] rfl ?_
      exact h
    · have h := h.2 (Int.not_le.mp hc)
      refine ax_mv 1 49 [some (.ref r), y1, some (ax_i x2), some (ax_i x3)] [ax_i x2] rfl ?_
      exact ax_iret ⟨_, rfl⟩ rfl rfl hx2 hg h
  · have h := h.2 (Int.not_le.mp hc)
    refine ax_mv 3 29 [some (.ref r), y1, some (ax_i x2), some (ax_i x3)] [ax_i x3, ax_i x2, .ref r] rfl ?_
    refine ax_callN (pc' := 32) ⟨_, rfl⟩ ml_3_44 (rest := []) rfl (fun ss hs => ⟨_, _, (az_e 0 rfl) ss hs⟩) (Nat.le_of_ble_eq_true rfl) rfl rfl h (fun V1 hg1 h => ?_)
    refine ax_inc (x := x3) (pc' := 35) (L' := [some (.ref r), y1, some (ax_i x2), some (ax_i (x3 + 1))]) ⟨_, rfl⟩ rfl rfl rfl rfl ?_
    refine ax_mv 1 15 [some (.ref r), y1, some (ax_i x2), some (ax_i (x3 + 1))] [] rfl ?_
    exact h
theorem r_Judge_judge {B : Nat} {r : Nat} {d : Nat} {V : ax_V} {Φ : Int → ax_V → Prop} {Θ : ax_V → Prop} {x1 : Int} (hg : ax_g V) (hx1 : ax_rg x1) (h : (∀ V1, V1 = ax_u V 601 5 x1 → k_Judge_judge_7 B r d (some (ax_i x1)) 2 none V1 Φ Θ)) : ax_I (az_W B (az_EJ B r)) (d + 1) q_Judge_judge [.ref r, ax_i x1] V Φ Θ := by
  refine ax_T.of (M := m_Judge_judge) rfl (Nat.le_of_ble_eq_true rfl) ?_
  refine ax_mv 0 0 [some (.ref r), some (ax_i x1), none, none] [] rfl ?_
  refine ax_mv 2 2 [some (.ref r), some (ax_i x1), none, none] [ax_i x1, .ref r] rfl ?_
  obtain ⟨V1, eV1⟩ : ∃ W9 : ax_V, W9 = ax_u V 601 5 x1 := ⟨_, rfl⟩
  have h := h V1 eV1
  have hg1 : ax_g V1 := eV1 ▸ ax_u_g hg hx1
  refine ax_pI (kI := 5) (pc' := 5) ⟨_, rfl⟩ fl_3_9 az_ok (az_e 0 rfl) rfl rfl rfl rfl eV1 rfl ?_
  refine ax_mv 1 6 [some (.ref r), some (ax_i x1), none, none] [ax_i 2] rfl ?_
  refine ax_sti (i := 0) (k := 2) (n := 1) (pc' := 7) (L' := [some (.ref r), some (ax_i x1), some (ax_i 2), none]) ⟨_, rfl⟩ rfl rfl rfl (Nat.le_of_ble_eq_true rfl) rfl rfl ?_
  exact h
theorem r_Judge_lookFor {B : Nat} {r : Nat} {d : Nat} {V : ax_V} {Φ : ax_V → Prop} {Θ : ax_V → Prop} {x1 : Int} {x2 : Int} (hg : ax_g V) (hx1 : ax_rg x1) (hx2 : ax_rg x2) (h : ((x1 = 2 → ax_N (az_W B (az_EJ B r)) d q_Judge_judgeHeads [.ref r, ax_i x2] V (fun V1 => ax_N (az_W B (az_EJ B r)) d q_Judge_judgeNames [.ref r, ax_i x2] V1 (fun V2 => ax_N (az_W B (az_EJ B r)) d q_Judge_judgeStates [.ref r, ax_i x2] V2 (fun V3 => ax_N (az_W B (az_EJ B r)) d q_Judge_judgeTellings [.ref r, ax_i x2] V3 (fun V4 => Φ V4) Θ) Θ) Θ) Θ) ∧ (x1 = 3 → ax_N (az_W B (az_EJ B r)) d q_Judge_judgeSorts [.ref r, ax_i x2] V (fun V5 => Φ V5) Θ) ∧ (x1 = 4 → ax_N (az_W B (az_EJ B r)) d q_Judge_judgeRings [.ref r, ax_i x2] V (fun V6 => ax_N (az_W B (az_EJ B r)) d q_Judge_judgeClocks [.ref r, ax_i x2] V6 (fun V7 => ax_N (az_W B (az_EJ B r)) d q_Judge_judgeBases [.ref r, ax_i x2] V7 (fun V8 => Φ V8) Θ) Θ) Θ) ∧ (x1 = 5 → ax_N (az_W B (az_EJ B r)) d q_Judge_findBare [.ref r, ax_i x2] V (fun V9 => ax_N (az_W B (az_EJ B r)) d q_Judge_judgeBareParts [.ref r, ax_i x2] V9 (fun V10 => ax_N (az_W B (az_EJ B r)) d q_Judge_judgeBareRest [.ref r, ax_i x2] V10 (fun V11 => Φ V11) Θ) Θ) Θ) ∧ (¬ x1 = 2 → ¬ x1 = 3 → ¬ x1 = 4 → ¬ x1 = 5 → ax_N (az_W B (az_EJ B r)) d q_Judge_judgeCycles [.ref r, ax_i x2] V (fun V12 => Φ V12) Θ))) : ax_N (az_W B (az_EJ B r)) (d + 1) q_Judge_lookFor [.ref r, ax_i x1, ax_i x2] V Φ Θ := by
  refine ax_T.of (M := m_Judge_lookFor) rfl (Nat.le_of_ble_eq_true rfl) ?_
  refine ax_mv 0 0 [some (.ref r), some (ax_i x1), some (ax_i x2)] [] rfl ?_
  refine ax_mv 1 1 [some (.ref r), some (ax_i x1), some (ax_i x2)] [ax_i x1] rfl ?_
  have t0 : (x1 = 2) → ax_R (az_W B (az_EJ B r)) ax_t d m_Judge_lookFor 32 [some (.ref r), some (ax_i x1), some (ax_i x2)] [] V (ax_Nr Φ) Θ := fun hk => by
    have h := h.1 hk
    refine ax_mv 2 34 [some (.ref r), some (ax_i x1), some (ax_i x2)] [ax_i x2, .ref r] rfl ?_
    refine ax_callN (pc' := 37) ⟨_, rfl⟩ ml_3_48 (rest := []) rfl (fun ss hs => ⟨_, _, (az_e 0 rfl) ss hs⟩) (Nat.le_of_ble_eq_true rfl) rfl rfl h (fun V1 hg1 h => ?_)
    refine ax_mv 2 39 [some (.ref r), some (ax_i x1), some (ax_i x2)] [ax_i x2, .ref r] rfl ?_
    refine ax_callN (pc' := 42) ⟨_, rfl⟩ ml_3_52 (rest := []) rfl (fun ss hs => ⟨_, _, (az_e 0 rfl) ss hs⟩) (Nat.le_of_ble_eq_true rfl) rfl rfl h (fun V2 hg2 h => ?_)
    refine ax_mv 2 44 [some (.ref r), some (ax_i x1), some (ax_i x2)] [ax_i x2, .ref r] rfl ?_
    refine ax_callN (pc' := 47) ⟨_, rfl⟩ ml_3_55 (rest := []) rfl (fun ss hs => ⟨_, _, (az_e 0 rfl) ss hs⟩) (Nat.le_of_ble_eq_true rfl) rfl rfl h (fun V3 hg3 h => ?_)
    refine ax_mv 2 49 [some (.ref r), some (ax_i x1), some (ax_i x2)] [ax_i x2, .ref r] rfl ?_
    refine ax_callN (pc' := 52) ⟨_, rfl⟩ ml_3_58 (rest := []) rfl (fun ss hs => ⟨_, _, (az_e 0 rfl) ss hs⟩) (Nat.le_of_ble_eq_true rfl) rfl rfl h (fun V4 hg4 h => ?_)
    refine ax_mv 1 104 [some (.ref r), some (ax_i x1), some (ax_i x2)] [] rfl ?_
    exact ax_nret ⟨_, rfl⟩ rfl hg4 h
  have t1 : (x1 = 3) → ax_R (az_W B (az_EJ B r)) ax_t d m_Judge_lookFor 55 [some (.ref r), some (ax_i x1), some (ax_i x2)] [] V (ax_Nr Φ) Θ := fun hk => by
    have h := h.2.1 hk
    refine ax_mv 2 57 [some (.ref r), some (ax_i x1), some (ax_i x2)] [ax_i x2, .ref r] rfl ?_
    refine ax_callN (pc' := 60) ⟨_, rfl⟩ ml_3_61 (rest := []) rfl (fun ss hs => ⟨_, _, (az_e 0 rfl) ss hs⟩) (Nat.le_of_ble_eq_true rfl) rfl rfl h (fun V5 hg5 h => ?_)
    refine ax_mv 1 104 [some (.ref r), some (ax_i x1), some (ax_i x2)] [] rfl ?_
    exact ax_nret ⟨_, rfl⟩ rfl hg5 h
  have t2 : (x1 = 4) → ax_R (az_W B (az_EJ B r)) ax_t d m_Judge_lookFor 63 [some (.ref r), some (ax_i x1), some (ax_i x2)] [] V (ax_Nr Φ) Θ := fun hk => by
    have h := h.2.2.1 hk
    refine ax_mv 2 65 [some (.ref r), some (ax_i x1), some (ax_i x2)] [ax_i x2, .ref r] rfl ?_
    refine ax_callN (pc' := 68) ⟨_, rfl⟩ ml_3_64 (rest := []) rfl (fun ss hs => ⟨_, _, (az_e 0 rfl) ss hs⟩) (Nat.le_of_ble_eq_true rfl) rfl rfl h (fun V6 hg6 h => ?_)
    refine ax_mv 2 70 [some (.ref r), some (ax_i x1), some (ax_i x2)] [ax_i x2, .ref r] rfl ?_
    refine ax_callN (pc' := 73) ⟨_, rfl⟩ ml_3_67 (rest := []) rfl (fun ss hs => ⟨_, _, (az_e 0 rfl) ss hs⟩) (Nat.le_of_ble_eq_true rfl) rfl rfl h (fun V7 hg7 h => ?_)
    refine ax_mv 2 75 [some (.ref r), some (ax_i x1), some (ax_i x2)] [ax_i x2, .ref r] rfl ?_
    refine ax_callN (pc' := 78) ⟨_, rfl⟩ ml_3_70 (rest := []) rfl (fun ss hs => ⟨_, _, (az_e 0 rfl) ss hs⟩) (Nat.le_of_ble_eq_true rfl) rfl rfl h (fun V8 hg8 h => ?_)
    refine ax_mv 1 104 [some (.ref r), some (ax_i x1), some (ax_i x2)] [] rfl ?_
    exact ax_nret ⟨_, rfl⟩ rfl hg8 h
  have t3 : (x1 = 5) → ax_R (az_W B (az_EJ B r)) ax_t d m_Judge_lookFor 81 [some (.ref r), some (ax_i x1), some (ax_i x2)] [] V (ax_Nr Φ) Θ := fun hk => by
    have h := h.2.2.2.1 hk
    refine ax_mv 2 83 [some (.ref r), some (ax_i x1), some (ax_i x2)] [ax_i x2, .ref r] rfl ?_
    refine ax_callN (pc' := 86) ⟨_, rfl⟩ ml_3_73 (rest := []) rfl (fun ss hs => ⟨_, _, (az_e 0 rfl) ss hs⟩) (Nat.le_of_ble_eq_true rfl) rfl rfl h (fun V9 hg9 h => ?_)
    refine ax_mv 2 88 [some (.ref r), some (ax_i x1), some (ax_i x2)] [ax_i x2, .ref r] rfl ?_
    refine ax_callN (pc' := 91) ⟨_, rfl⟩ ml_3_76 (rest := []) rfl (fun ss hs => ⟨_, _, (az_e 0 rfl) ss hs⟩) (Nat.le_of_ble_eq_true rfl) rfl rfl h (fun V10 hg10 h => ?_)
    refine ax_mv 2 93 [some (.ref r), some (ax_i x1), some (ax_i x2)] [ax_i x2, .ref r] rfl ?_
    refine ax_callN (pc' := 96) ⟨_, rfl⟩ ml_3_79 (rest := []) rfl (fun ss hs => ⟨_, _, (az_e 0 rfl) ss hs⟩) (Nat.le_of_ble_eq_true rfl) rfl rfl h (fun V11 hg11 h => ?_)
    refine ax_mv 1 104 [some (.ref r), some (ax_i x1), some (ax_i x2)] [] rfl ?_
    exact ax_nret ⟨_, rfl⟩ rfl hg11 h
  have tD : ¬ x1 = 2 → ¬ x1 = 3 → ¬ x1 = 4 → ¬ x1 = 5 → ax_R (az_W B (az_EJ B r)) ax_t d m_Judge_lookFor 99 [some (.ref r), some (ax_i x1), some (ax_i x2)] [] V (ax_Nr Φ) Θ := fun n0 n1 n2 n3 => by
    have h := h.2.2.2.2 n0 n1 n2 n3
    refine ax_mv 2 101 [some (.ref r), some (ax_i x1), some (ax_i x2)] [ax_i x2, .ref r] rfl ?_
    refine ax_callN (pc' := 104) ⟨_, rfl⟩ ml_3_82 (rest := []) rfl (fun ss hs => ⟨_, _, (az_e 0 rfl) ss hs⟩) (Nat.le_of_ble_eq_true rfl) rfl rfl h (fun V12 hg12 h => ?_)
    exact ax_nret ⟨_, rfl⟩ rfl hg12 h
  by_cases e2 : x1 = 2
  · exact ax_tsC (off := 31) (p1 := 32) ⟨_, rfl⟩ hx1 (by omega) (by omega) (by rw [e2]; rfl) (by decide) (t0 (e2))
  by_cases e3 : x1 = 3
  · exact ax_tsC (off := 54) (p1 := 55) ⟨_, rfl⟩ hx1 (by omega) (by omega) (by rw [e3]; rfl) (by decide) (t1 (e3))
  by_cases e4 : x1 = 4
  · exact ax_tsC (off := 62) (p1 := 63) ⟨_, rfl⟩ hx1 (by omega) (by omega) (by rw [e4]; rfl) (by decide) (t2 (e4))
  by_cases e5 : x1 = 5
  · exact ax_tsC (off := 80) (p1 := 81) ⟨_, rfl⟩ hx1 (by omega) (by omega) (by rw [e5]; rfl) (by decide) (t3 (e5))
  exact ax_tsD (p1 := 99) ⟨_, rfl⟩ hx1 (by omega) (by decide) (tD e2 e3 e4 e5)
abbrev k_Judge_judgeHeads_10 (B : Nat) (r : Nat) (d : Nat) (x1 : Int) (x2 : Int) (y3 : Option Value) (V : ax_V) (Φ : ax_V → Prop) (Θ : ax_V → Prop) : Prop := ax_R (az_W B (az_EJ B r)) ax_t d m_Judge_judgeHeads 10 [some (.ref r), some (ax_i x1), some (ax_i x2), y3] [] V (ax_Nr Φ) Θ
abbrev k_Judge_judgeHeads_35 (B : Nat) (r : Nat) (d : Nat) (x1 : Int) (x2 : Int) (x3 : Int) (V : ax_V) (Φ : ax_V → Prop) (Θ : ax_V → Prop) : Prop := ax_R (az_W B (az_EJ B r)) ax_t d m_Judge_judgeHeads 35 [some (.ref r), some (ax_i x1), some (ax_i x2), some (ax_i x3)] [] V (ax_Nr Φ) Θ
theorem r_Judge_judgeHeads_10 {B : Nat} {r : Nat} {d : Nat} {V : ax_V} {Φ : ax_V → Prop} {Θ : ax_V → Prop} {x1 : Int} {x2 : Int} {y3 : Option Value} (hg : ax_g V) (hx1 : ax_rg x1) (hx2 : ax_rg x2) (hy3 : ax_y y3) (h : (0 ≤ x1 + 1 ∧ x1 + 1 < 9) ∧ ((V 509 (x1 + 1) ≤ x2 → Φ V) ∧ (x2 < V 509 (x1 + 1) → (0 ≤ x2 ∧ x2 < 351) ∧ k_Judge_judgeHeads_35 B r d x1 x2 (V 548 x2) V Φ Θ))) : k_Judge_judgeHeads_10 B r d x1 x2 y3 V Φ Θ := by
  refine ax_mv 2 12 [some (.ref r), some (ax_i x1), some (ax_i x2), y3] [.ref r, ax_i x2] rfl ?_
  refine ax_gR (v := .ref B) (pc' := 15) ⟨_, rfl⟩ fl_3_15 (az_e 0 rfl) rfl rfl ?_
  refine ax_gR (v := .ref (B + 9)) (pc' := 18) ⟨_, rfl⟩ fl_3_94 (az_b 0 rfl) rfl rfl ?_
  refine ax_mv 2 20 [some (.ref r), some (ax_i x1), some (ax_i x2), y3] [ax_i 1, ax_i x1, .ref (B + 9), ax_i x2] rfl ?_
  refine ax_add (pc' := 21) ⟨_, rfl⟩ rfl ?_
  obtain ⟨o1, h⟩ := h
  refine ax_ild (n := 9) (pc' := 22) ⟨_, rfl⟩ (az_b 9 rfl) (by decide) o1 rfl ?_
  refine ax_if2 (p1 := 93) (p2 := 25) ⟨_, rfl⟩ (by decide) rfl hx2 (hg _ _) (fun hc => ?_) (fun hc => ?_)
  · have h := h.1 hc
    exact ax_nret ⟨_, rfl⟩ rfl hg h
  · have h := h.2 (Int.not_le.mp hc)
    refine ax_mv 1 26 [some (.ref r), some (ax_i x1), some (ax_i x2), y3] [.ref r] rfl ?_
    refine ax_gR (v := .ref (B + 47)) (pc' := 29) ⟨_, rfl⟩ fl_3_35 (az_e 0 rfl) rfl rfl ?_
    refine ax_gR (v := .ref (B + 48)) (pc' := 32) ⟨_, rfl⟩ fl_3_97 (az_b 47 rfl) rfl rfl ?_
    refine ax_mv 1 33 [some (.ref r), some (ax_i x1), some (ax_i x2), y3] [ax_i x2, .ref (B + 48)] rfl ?_
    obtain ⟨o2, h⟩ := h
    refine ax_ild (n := 351) (pc' := 34) ⟨_, rfl⟩ (az_b 48 rfl) (by decide) o2 rfl ?_
    refine ax_sti (i := 0) (k := 3) (n := 1) (pc' := 35) (L' := [some (.ref r), some (ax_i x1), some (ax_i x2), some (ax_i (V 548 x2))]) ⟨_, rfl⟩ rfl rfl rfl (Nat.le_of_ble_eq_true rfl) rfl rfl ?_
    exact h
theorem r_Judge_judgeHeads_35 {B : Nat} {r : Nat} {d : Nat} {V : ax_V} {Φ : ax_V → Prop} {Θ : ax_V → Prop} {x1 : Int} {x2 : Int} {x3 : Int} (hg : ax_g V) (hx1 : ax_rg x1) (hx2 : ax_rg x2) (hx3 : ax_rg x3) (h : (0 ≤ x2 + 1 ∧ x2 + 1 < 351) ∧ ((V 548 (x2 + 1) ≤ x3 → k_Judge_judgeHeads_10 B r d x1 (x2 + 1) (some (ax_i x3)) V Φ Θ) ∧ (x3 < V 548 (x2 + 1) → (0 ≤ x3 ∧ x3 < 350) ∧ (0 ≤ x3 ∧ x3 < 350) ∧ (0 ≤ x2 ∧ x2 < 350) ∧ ax_N (az_W B (az_EJ B r)) d q_Judge_judgeHead [.ref r, ax_i (V 554 x3), ax_i (V 555 x3), ax_i (V 551 x2)] V (fun V1 => k_Judge_judgeHeads_35 B r d x1 x2 (x3 + 1) V1 Φ Θ) Θ))) : k_Judge_judgeHeads_35 B r d x1 x2 x3 V Φ Θ := by
  refine ax_mv 2 37 [some (.ref r), some (ax_i x1), some (ax_i x2), some (ax_i x3)] [.ref r, ax_i x3] rfl ?_
  refine ax_gR (v := .ref (B + 47)) (pc' := 40) ⟨_, rfl⟩ fl_3_35 (az_e 0 rfl) rfl rfl ?_
  refine ax_gR (v := .ref (B + 48)) (pc' := 43) ⟨_, rfl⟩ fl_3_97 (az_b 47 rfl) rfl rfl ?_
  refine ax_mv 2 45 [some (.ref r), some (ax_i x1), some (ax_i x2), some (ax_i x3)] [ax_i 1, ax_i x2, .ref (B + 48), ax_i x3] rfl ?_
  refine ax_add (pc' := 46) ⟨_, rfl⟩ rfl ?_
  obtain ⟨o3, h⟩ := h
  refine ax_ild (n := 351) (pc' := 47) ⟨_, rfl⟩ (az_b 48 rfl) (by decide) o3 rfl ?_
  refine ax_if2 (p1 := 87) (p2 := 50) ⟨_, rfl⟩ (by decide) rfl hx3 (hg _ _) (fun hc => ?_) (fun hc => ?_)
  · have h := h.1 hc
    refine ax_inc (x := x2) (pc' := 90) (L' := [some (.ref r), some (ax_i x1), some (ax_i (x2 + 1)), some (ax_i x3)]) ⟨_, rfl⟩ rfl rfl rfl rfl ?_
    refine ax_mv 1 10 [some (.ref r), some (ax_i x1), some (ax_i (x2 + 1)), some (ax_i x3)] [] rfl ?_
    exact h
  · have h := h.2 (Int.not_le.mp hc)
    refine ax_mv 2 52 [some (.ref r), some (ax_i x1), some (ax_i x2), some (ax_i x3)] [.ref r, .ref r] rfl ?_
    refine ax_gR (v := .ref (B + 47)) (pc' := 55) ⟨_, rfl⟩ fl_3_35 (az_e 0 rfl) rfl rfl ?_
    refine ax_gR (v := .ref (B + 54)) (pc' := 58) ⟨_, rfl⟩ fl_3_102 (az_b 47 rfl) rfl rfl ?_
    refine ax_mv 1 59 [some (.ref r), some (ax_i x1), some (ax_i x2), some (ax_i x3)] [ax_i x3, .ref (B + 54), .ref r] rfl ?_
    obtain ⟨o4, h⟩ := h
    refine ax_ild (n := 350) (pc' := 60) ⟨_, rfl⟩ (az_b 54 rfl) (by decide) o4 rfl ?_
    refine ax_mv 1 61 [some (.ref r), some (ax_i x1), some (ax_i x2), some (ax_i x3)] [.ref r, ax_i (V 554 x3), .ref r] rfl ?_
    refine ax_gR (v := .ref (B + 47)) (pc' := 64) ⟨_, rfl⟩ fl_3_35 (az_e 0 rfl) rfl rfl ?_
    refine ax_gR (v := .ref (B + 55)) (pc' := 67) ⟨_, rfl⟩ fl_3_105 (az_b 47 rfl) rfl rfl ?_
    refine ax_mv 1 68 [some (.ref r), some (ax_i x1), some (ax_i x2), some (ax_i x3)] [ax_i x3, .ref (B + 55), ax_i (V 554 x3), .ref r] rfl ?_
    obtain ⟨o5, h⟩ := h
    refine ax_ild (n := 350) (pc' := 69) ⟨_, rfl⟩ (az_b 55 rfl) (by decide) o5 rfl ?_
    refine ax_mv 1 70 [some (.ref r), some (ax_i x1), some (ax_i x2), some (ax_i x3)] [.ref r, ax_i (V 555 x3), ax_i (V 554 x3), .ref r] rfl ?_
    refine ax_gR (v := .ref (B + 47)) (pc' := 73) ⟨_, rfl⟩ fl_3_35 (az_e 0 rfl) rfl rfl ?_
    refine ax_gR (v := .ref (B + 51)) (pc' := 76) ⟨_, rfl⟩ fl_3_108 (az_b 47 rfl) rfl rfl ?_
    refine ax_mv 1 77 [some (.ref r), some (ax_i x1), some (ax_i x2), some (ax_i x3)] [ax_i x2, .ref (B + 51), ax_i (V 555 x3), ax_i (V 554 x3), .ref r] rfl ?_
    obtain ⟨o6, h⟩ := h
    refine ax_ild (n := 350) (pc' := 78) ⟨_, rfl⟩ (az_b 51 rfl) (by decide) o6 rfl ?_
    refine ax_callN (pc' := 81) ⟨_, rfl⟩ ml_3_111 (rest := []) rfl (fun ss hs => ⟨_, _, (az_e 0 rfl) ss hs⟩) (Nat.le_of_ble_eq_true rfl) rfl rfl h (fun V1 hg1 h => ?_)
    refine ax_inc (x := x3) (pc' := 84) (L' := [some (.ref r), some (ax_i x1), some (ax_i x2), some (ax_i (x3 + 1))]) ⟨_, rfl⟩ rfl rfl rfl rfl ?_
    refine ax_mv 1 35 [some (.ref r), some (ax_i x1), some (ax_i x2), some (ax_i (x3 + 1))] [] rfl ?_
    exact h
theorem r_Judge_judgeHeads {B : Nat} {r : Nat} {d : Nat} {V : ax_V} {Φ : ax_V → Prop} {Θ : ax_V → Prop} {x1 : Int} (hg : ax_g V) (hx1 : ax_rg x1) (h : (0 ≤ x1 ∧ x1 < 9) ∧ k_Judge_judgeHeads_10 B r d x1 (V 509 x1) none V Φ Θ) : ax_N (az_W B (az_EJ B r)) (d + 1) q_Judge_judgeHeads [.ref r, ax_i x1] V Φ Θ := by
  refine ax_T.of (M := m_Judge_judgeHeads) rfl (Nat.le_of_ble_eq_true rfl) ?_
  refine ax_mv 0 0 [some (.ref r), some (ax_i x1), none, none] [] rfl ?_
  refine ax_mv 1 1 [some (.ref r), some (ax_i x1), none, none] [.ref r] rfl ?_
  refine ax_gR (v := .ref B) (pc' := 4) ⟨_, rfl⟩ fl_3_15 (az_e 0 rfl) rfl rfl ?_
  refine ax_gR (v := .ref (B + 9)) (pc' := 7) ⟨_, rfl⟩ fl_3_94 (az_b 0 rfl) rfl rfl ?_
  refine ax_mv 1 8 [some (.ref r), some (ax_i x1), none, none] [ax_i x1, .ref (B + 9)] rfl ?_
  obtain ⟨o7, h⟩ := h
  refine ax_ild (n := 9) (pc' := 9) ⟨_, rfl⟩ (az_b 9 rfl) (by decide) o7 rfl ?_
  refine ax_sti (i := 0) (k := 2) (n := 1) (pc' := 10) (L' := [some (.ref r), some (ax_i x1), some (ax_i (V 509 x1)), none]) ⟨_, rfl⟩ rfl rfl rfl (Nat.le_of_ble_eq_true rfl) rfl rfl ?_
  exact h
abbrev k_Judge_judgeHead_18 (B : Nat) (r : Nat) (d : Nat) (x1 : Int) (x2 : Int) (x3 : Int) (y4 : Option Value) (y5 : Option Value) (s0 : Int) (V : ax_V) (Φ : ax_V → Prop) (Θ : ax_V → Prop) : Prop := ax_R (az_W B (az_EJ B r)) ax_t d m_Judge_judgeHead 18 [some (.ref r), some (ax_i x1), some (ax_i x2), some (ax_i x3), y4, y5] [ax_i s0] V (ax_Nr Φ) Θ
abbrev k_Judge_judgeHead_77 (B : Nat) (r : Nat) (d : Nat) (x1 : Int) (x2 : Int) (x3 : Int) (x4 : Int) (y5 : Option Value) (V : ax_V) (Φ : ax_V → Prop) (Θ : ax_V → Prop) : Prop := ax_R (az_W B (az_EJ B r)) ax_t d m_Judge_judgeHead 77 [some (.ref r), some (ax_i x1), some (ax_i x2), some (ax_i x3), some (ax_i x4), y5] [] V (ax_Nr Φ) Θ
set_option maxRecDepth 20000 in
theorem r_Judge_judgeHead_18 {B : Nat} {r : Nat} {d : Nat} {V : ax_V} {Φ : ax_V → Prop} {Θ : ax_V → Prop} {x1 : Int} {x2 : Int} {x3 : Int} {y4 : Option Value} {y5 : Option Value} {s0 : Int} (hg : ax_g V) (hx1 : ax_rg x1) (hx2 : ax_rg x2) (hx3 : ax_rg x3) (hy4 : ax_y y4) (hy5 : ax_y y5) (hs0 : ax_rg s0) (h : (0 ≤ x1 ∧ x1 < 208) ∧ ((V 533 x1 = -1 → ax_N (az_W B (az_EJ B r)) d q_Judge_blameIf [.ref r, ax_i 1, ax_i x2] V (fun V1 => ((x3 = -1 → k_Judge_judgeHead_77 B r d x1 x2 x3 s0 y5 V1 Φ Θ) ∧ (¬ x3 = -1 → (0 ≤ x3 ∧ x3 < 350) ∧ ax_I (az_W B (az_EJ B r)) d q_Letters_bit [ax_i x1] V1 (fun r2 V2 => (0 ≤ x3 ∧ x3 < 350) ∧ (∀ V3, V3 = ax_u V2 564 x3 (ax_or (V1 564 x3) r2) → k_Judge_judgeHead_77 B r d x1 x2 x3 s0 y5 V3 Φ Θ)) (fun _ => False)))) Θ) ∧ (¬ V 533 x1 = -1 → (0 ≤ x1 ∧ x1 < 208) ∧ ((V 534 x1 = 1 → ax_N (az_W B (az_EJ B r)) d q_Judge_blameIf [.ref r, ax_i 1, ax_i x2] V (fun V7 => ((x3 = -1 → k_Judge_judgeHead_77 B r d x1 x2 x3 s0 y5 V7 Φ Θ) ∧ (¬ x3 = -1 → (0 ≤ x3 ∧ x3 < 350) ∧ ax_I (az_W B (az_EJ B r)) d q_Letters_bit [ax_i x1] V7 (fun r8 V8 => (0 ≤ x3 ∧ x3 < 350) ∧ (∀ V9, V9 = ax_u V8 564 x3 (ax_or (V7 564 x3) r8) → k_Judge_judgeHead_77 B r d x1 x2 x3 s0 y5 V9 Φ Θ)) (fun _ => False)))) Θ) ∧ (¬ V 534 x1 = 1 → ax_N (az_W B (az_EJ B r)) d q_Judge_blameIf [.ref r, ax_i 0, ax_i x2] V (fun V4 => ((x3 = -1 → k_Judge_judgeHead_77 B r d x1 x2 x3 s0 y5 V4 Φ Θ) ∧ (¬ x3 = -1 → (0 ≤ x3 ∧ x3 < 350) ∧ ax_I (az_W B (az_EJ B r)) d q_Letters_bit [ax_i x1] V4 (fun r5 V5 => (0 ≤ x3 ∧ x3 < 350) ∧ (∀ V6, V6 = ax_u V5 564 x3 (ax_or (V4 564 x3) r5) → k_Judge_judgeHead_77 B r d x1 x2 x3 s0 y5 V6 Φ Θ)) (fun _ => False)))) Θ))))) : k_Judge_judgeHead_18 B r d x1 x2 x3 y4 y5 s0 V Φ Θ := by
  refine ax_sti (i := 0) (k := 4) (n := 2) (pc' := 20) (L' := [some (.ref r), some (ax_i x1), some (ax_i x2), some (ax_i x3), some (ax_i s0), y5]) ⟨_, rfl⟩ rfl rfl rfl (Nat.le_of_ble_eq_true rfl) rfl rfl ?_
  refine ax_mv 2 22 [some (.ref r), some (ax_i x1), some (ax_i x2), some (ax_i x3), some (ax_i s0), y5] [.ref r, .ref r] rfl ?_
  refine ax_gR (v := .ref (B + 32)) (pc' := 25) ⟨_, rfl⟩ fl_3_30 (az_e 0 rfl) rfl rfl ?_
  refine ax_gR (v := .ref (B + 33)) (pc' := 28) ⟨_, rfl⟩ fl_3_85 (az_b 32 rfl) rfl rfl ?_
  refine ax_mv 1 29 [some (.ref r), some (ax_i x1), some (ax_i x2), some (ax_i x3), some (ax_i s0), y5] [ax_i x1, .ref (B + 33), .ref r] rfl ?_
  obtain ⟨o1, h⟩ := h
  refine ax_ild (n := 208) (pc' := 30) ⟨_, rfl⟩ (az_b 33 rfl) (by decide) o1 rfl ?_
  refine ax_mv 1 31 [some (.ref r), some (ax_i x1), some (ax_i x2), some (ax_i x3), some (ax_i s0), y5] [ax_i (-1), ax_i (V 533 x1), .ref r] rfl ?_
  refine ax_if2 (p1 := 47) (p2 := 34) ⟨_, rfl⟩ (by decide) rfl (hg _ _) (by decide) (fun hc => ?_) (fun hc => ?_)
  · have h := h.1 hc
    refine ax_mv 3 53 [some (.ref r), some (ax_i x1), some (ax_i x2), some (ax_i x3), some (ax_i s0), y5] [ax_i x2, ax_i 1, .ref r] rfl ?_
    refine ax_callN (pc' := 56) ⟨_, rfl⟩ ml_3_123 (rest := []) rfl (fun ss hs => ⟨_, _, (az_e 0 rfl) ss hs⟩) (Nat.le_of_ble_eq_true rfl) rfl rfl h (fun V1 hg1 h => ?_)
    refine ax_mv 2 58 [some (.ref r), some (ax_i x1), some (ax_i x2), some (ax_i x3), some (ax_i s0), y5] [ax_i (-1), ax_i x3] rfl ?_
    refine ax_if2 (p1 := 77) (p2 := 61) ⟨_, rfl⟩ (by decide) rfl hx3 (by decide) (fun hc => ?_) (fun hc => ?_)
    · have h := h.1 hc
      exact h
    · have h := h.2 hc
      refine ax_mv 1 62 [some (.ref r), some (ax_i x1), some (ax_i x2), some (ax_i x3), some (ax_i s0), y5] [.ref r] rfl ?_
      refine ax_gR (v := .ref (B + 56)) (pc' := 65) ⟨_, rfl⟩ fl_3_40 (az_e 0 rfl) rfl rfl ?_
      refine ax_gR (v := .ref (B + 64)) (pc' := 68) ⟨_, rfl⟩ fl_3_127 (az_b 56 rfl) rfl rfl ?_
      refine ax_mv 2 70 [some (.ref r), some (ax_i x1), some (ax_i x2), some (ax_i x3), some (ax_i s0), y5] [ax_i x3, .ref (B + 64), ax_i x3, .ref (B + 64)] rfl ?_
      obtain ⟨o2, h⟩ := h
      refine ax_ild (n := 350) (pc' := 71) ⟨_, rfl⟩ (az_b 64 rfl) (by decide) o2 rfl ?_
      refine ax_mv 1 72 [some (.ref r), some (ax_i x1), some (ax_i x2), some (ax_i x3), some (ax_i s0), y5] [ax_i x1, ax_i (V1 564 x3), ax_i x3, .ref (B + 64)] rfl ?_
      refine ax_callS (pc' := 75) ⟨_, rfl⟩ ml_3_130 (Nat.le_of_ble_eq_true rfl) (Nat.le_of_ble_eq_true rfl) rfl h (fun r2 V2 hg2 hr2 h => ?_)
      refine ax_mv 0 75 [some (.ref r), some (ax_i x1), some (ax_i x2), some (ax_i x3), some (ax_i s0), y5] [ax_i r2, ax_i (V1 564 x3), ax_i x3, .ref (B + 64)] rfl ?_
      refine ax_ror (pc' := 76) ⟨_, rfl⟩ rfl ?_
      obtain ⟨o3, h⟩ := h
      obtain ⟨V3, eV3⟩ : ∃ W9 : ax_V, W9 = ax_u V2 564 x3 (ax_or (V1 564 x3) r2) := ⟨_, rfl⟩
      have h := h V3 eV3
      have hg3 : ax_g V3 := eV3 ▸ ax_u_g hg2 (ax_rg_of _)
      refine ax_ist (n := 350) (pc' := 77) ⟨_, rfl⟩ az_ok (az_b 64 rfl) (by decide) o3 eV3 rfl ?_
      exact h
  · have h := h.2 hc
    refine ax_mv 1 35 [some (.ref r), some (ax_i x1), some (ax_i x2), some (ax_i x3), some (ax_i s0), y5] [.ref r, .ref r] rfl ?_
    refine ax_gR (v := .ref (B + 32)) (pc' := 38) ⟨_, rfl⟩ fl_3_30 (az_e 0 rfl) rfl rfl ?_
    refine ax_gR (v := .ref (B + 34)) (pc' := 41) ⟨_, rfl⟩ fl_3_120 (az_b 32 rfl) rfl rfl ?_
    refine ax_mv 1 42 [some (.ref r), some (ax_i x1), some (ax_i x2), some (ax_i x3), some (ax_i s0), y5] [ax_i x1, .ref (B + 34), .ref r] rfl ?_
    obtain ⟨o4, h⟩ := h
    refine ax_ild (n := 208) (pc' := 43) ⟨_, rfl⟩ (az_b 34 rfl) (by decide) o4 rfl ?_
    refine ax_mv 1 44 [some (.ref r), some (ax_i x1), some (ax_i x2), some (ax_i x3), some (ax_i s0), y5] [ax_i 1, ax_i (V 534 x1), .ref r] rfl ?_
    refine ax_if2 (p1 := 51) (p2 := 47) ⟨_, rfl⟩ (by decide) rfl (hg _ _) (by decide) (fun hc => ?_) (fun hc => ?_)
    · have h := h.2 hc
      refine ax_mv 2 53 [some (.ref r), some (ax_i x1), some (ax_i x2), some (ax_i x3), some (ax_i s0), y5] [ax_i x2, ax_i 0, .ref r] rfl ?_
      refine ax_callN (pc' := 56) ⟨_, rfl⟩ ml_3_123 (rest := []) rfl (fun ss hs => ⟨_, _, (az_e 0 rfl) ss hs⟩) (Nat.le_of_ble_eq_true rfl) rfl rfl h (fun V4 hg4 h => ?_)
      refine ax_mv 2 58 [some (.ref r), some (ax_i x1), some (ax_i x2), some (ax_i x3), some (ax_i s0), y5] [ax_i (-1), ax_i x3] rfl ?_
      refine ax_if2 (p1 := 77) (p2 := 61) ⟨_, rfl⟩ (by decide) rfl hx3 (by decide) (fun hc => ?_) (fun hc => ?_)
      · have h := h.1 hc
        exact h
      · have h := h.2 hc
        refine ax_mv 1 62 [some (.ref r), some (ax_i x1), some (ax_i x2), some (ax_i x3), some (ax_i s0), y5] [.ref r] rfl ?_
        refine ax_gR (v := .ref (B + 56)) (pc' := 65) ⟨_, rfl⟩ fl_3_40 (az_e 0 rfl) rfl rfl ?_
        refine ax_gR (v := .ref (B + 64)) (pc' := 68) ⟨_, rfl⟩ fl_3_127 (az_b 56 rfl) rfl rfl ?_
        refine ax_mv 2 70 [some (.ref r), some (ax_i x1), some (ax_i x2), some (ax_i x3), some (ax_i s0), y5] [ax_i x3, .ref (B + 64), ax_i x3, .ref (B + 64)] rfl ?_
        obtain ⟨o5, h⟩ := h
        refine ax_ild (n := 350) (pc' := 71) ⟨_, rfl⟩ (az_b 64 rfl) (by decide) o5 rfl ?_
        refine ax_mv 1 72 [some (.ref r), some (ax_i x1), some (ax_i x2), some (ax_i x3), some (ax_i s0), y5] [ax_i x1, ax_i (V4 564 x3), ax_i x3, .ref (B + 64)] rfl ?_
        refine ax_callS (pc' := 75) ⟨_, rfl⟩ ml_3_130 (Nat.le_of_ble_eq_true rfl) (Nat.le_of_ble_eq_true rfl) rfl h (fun r5 V5 hg5 hr5 h => ?_)
        refine ax_mv 0 75 [some (.ref r), some (ax_i x1), some (ax_i x2), some (ax_i x3), some (ax_i s0), y5] [ax_i r5, ax_i (V4 564 x3), ax_i x3, .ref (B + 64)] rfl ?_
        refine ax_ror (pc' := 76) ⟨_, rfl⟩ rfl ?_
        obtain ⟨o6, h⟩ := h
        obtain ⟨V6, eV6⟩ : ∃ W9 : ax_V, W9 = ax_u V5 564 x3 (ax_or (V4 564 x3) r5) := ⟨_, rfl⟩
        have h := h V6 eV6
        have hg6 : ax_g V6 := eV6 ▸ ax_u_g hg5 (ax_rg_of _)
        refine ax_ist (n := 350) (pc' := 77) ⟨_, rfl⟩ az_ok (az_b 64 rfl) (by decide) o6 eV6 rfl ?_
        exact h
    · have h := h.1 (Classical.not_not.mp hc)
      refine ax_mv 3 53 [some (.ref r), some (ax_i x1), some (ax_i x2), some (ax_i x3), some (ax_i s0), y5] [ax_i x2, ax_i 1, .ref r] rfl ?_
      refine ax_callN (pc' := 56) ⟨_, rfl⟩ ml_3_123 (rest := []) rfl (fun ss hs => ⟨_, _, (az_e 0 rfl) ss hs⟩) (Nat.le_of_ble_eq_true rfl) rfl rfl h (fun V7 hg7 h => ?_)
      refine ax_mv 2 58 [some (.ref r), some (ax_i x1), some (ax_i x2), some (ax_i x3), some (ax_i s0), y5] [ax_i (-1), ax_i x3] rfl ?_
      refine ax_if2 (p1 := 77) (p2 := 61) ⟨_, rfl⟩ (by decide) rfl hx3 (by decide) (fun hc => ?_) (fun hc => ?_)
      · have h := h.1 hc
        exact h
      · have h := h.2 hc
        refine ax_mv 1 62 [some (.ref r), some (ax_i x1), some (ax_i x2), some (ax_i x3), some (ax_i s0), y5] [.ref r] rfl ?_
        refine ax_gR (v := .ref (B + 56)) (pc' := 65) ⟨_, rfl⟩ fl_3_40 (az_e 0 rfl) rfl rfl ?_
        refine ax_gR (v := .ref (B + 64)) (pc' := 68) ⟨_, rfl⟩ fl_3_127 (az_b 56 rfl) rfl rfl ?_
        refine ax_mv 2 70 [some (.ref r), some (ax_i x1), some (ax_i x2), some (ax_i x3), some (ax_i s0), y5] [ax_i x3, .ref (B + 64), ax_i x3, .ref (B + 64)] rfl ?_
        obtain ⟨o7, h⟩ := h
        refine ax_ild (n := 350) (pc' := 71) ⟨_, rfl⟩ (az_b 64 rfl) (by decide) o7 rfl ?_
        refine ax_mv 1 72 [some (.ref r), some (ax_i x1), some (ax_i x2), some (ax_i x3), some (ax_i s0), y5] [ax_i x1, ax_i (V7 564 x3), ax_i x3, .ref (B + 64)] rfl ?_
        refine ax_callS (pc' := 75) ⟨_, rfl⟩ ml_3_130 (Nat.le_of_ble_eq_true rfl) (Nat.le_of_ble_eq_true rfl) rfl h (fun r8 V8 hg8 hr8 h => ?_)
        refine ax_mv 0 75 [some (.ref r), some (ax_i x1), some (ax_i x2), some (ax_i x3), some (ax_i s0), y5] [ax_i r8, ax_i (V7 564 x3), ax_i x3, .ref (B + 64)] rfl ?_
        refine ax_ror (pc' := 76) ⟨_, rfl⟩ rfl ?_
        obtain ⟨o8, h⟩ := h
        obtain ⟨V9, eV9⟩ : ∃ W9 : ax_V, W9 = ax_u V8 564 x3 (ax_or (V7 564 x3) r8) := ⟨_, rfl⟩
        have h := h V9 eV9
        have hg9 : ax_g V9 := eV9 ▸ ax_u_g hg8 (ax_rg_of _)
        refine ax_ist (n := 350) (pc' := 77) ⟨_, rfl⟩ az_ok (az_b 64 rfl) (by decide) o8 eV9 rfl ?_
        exact h
set_option maxRecDepth 20000 in
theorem r_Judge_judgeHead_77 {B : Nat} {r : Nat} {d : Nat} {V : ax_V} {Φ : ax_V → Prop} {Θ : ax_V → Prop} {x1 : Int} {x2 : Int} {x3 : Int} {x4 : Int} {y5 : Option Value} (hg : ax_g V) (hx1 : ax_rg x1) (hx2 : ax_rg x2) (hx3 : ax_rg x3) (hx4 : ax_rg x4) (hy5 : ax_y y5) (h : (0 ≤ x1 ∧ x1 < 208) ∧ ((V 541 x1 = -2 → (0 ≤ x1 ∧ x1 < 208) ∧ (∀ V9, V9 = ax_u V 541 x1 x4 → (0 ≤ x1 ∧ x1 < 208) ∧ (∀ V10, V10 = ax_u V9 543 x1 x2 → (0 ≤ x1 ∧ x1 < 208) ∧ (∀ V11, V11 = ax_u V10 542 x1 x3 → Φ V11)))) ∧ (¬ V 541 x1 = -2 → ((x4 < 0 → ax_N (az_W B (az_EJ B r)) d q_Judge_blameIf [.ref r, ax_i 1, ax_i x2] V (fun V1 => (0 ≤ x1 ∧ x1 < 208) ∧ (∀ V2, V2 = ax_u V1 542 x1 x3 → Φ V2)) Θ) ∧ (0 ≤ x4 → (0 ≤ x1 ∧ x1 < 208) ∧ ((x4 = V 541 x1 → (0 ≤ x1 ∧ x1 < 208) ∧ ((x3 = V 542 x1 → ax_N (az_W B (az_EJ B r)) d q_Judge_blameIf [.ref r, ax_i 1, ax_i x2] V (fun V5 => (0 ≤ x1 ∧ x1 < 208) ∧ (∀ V6, V6 = ax_u V5 542 x1 x3 → Φ V6)) Θ) ∧ (¬ x3 = V 542 x1 → ax_N (az_W B (az_EJ B r)) d q_Judge_blameIf [.ref r, ax_i 0, ax_i x2] V (fun V7 => (0 ≤ x1 ∧ x1 < 208) ∧ (∀ V8, V8 = ax_u V7 542 x1 x3 → Φ V8)) Θ))) ∧ (¬ x4 = V 541 x1 → ax_N (az_W B (az_EJ B r)) d q_Judge_blameIf [.ref r, ax_i 1, ax_i x2] V (fun V3 => (0 ≤ x1 ∧ x1 < 208) ∧ (∀ V4, V4 = ax_u V3 542 x1 x3 → Φ V4)) Θ))))))) : k_Judge_judgeHead_77 B r d x1 x2 x3 x4 y5 V Φ Θ := by
  refine ax_mv 1 78 [some (.ref r), some (ax_i x1), some (ax_i x2), some (ax_i x3), some (ax_i x4), y5] [.ref r] rfl ?_
  refine ax_gR (v := .ref (B + 32)) (pc' := 81) ⟨_, rfl⟩ fl_3_30 (az_e 0 rfl) rfl rfl ?_
  refine ax_gR (v := .ref (B + 41)) (pc' := 84) ⟨_, rfl⟩ fl_3_134 (az_b 32 rfl) rfl rfl ?_
  refine ax_mv 1 85 [some (.ref r), some (ax_i x1), some (ax_i x2), some (ax_i x3), some (ax_i x4), y5] [ax_i x1, .ref (B + 41)] rfl ?_
  obtain ⟨o9, h⟩ := h
  refine ax_ild (n := 208) (pc' := 86) ⟨_, rfl⟩ (az_b 41 rfl) (by decide) o9 rfl ?_
  refine ax_bip (pc' := 88) ⟨_, rfl⟩ (by decide) rfl ?_
  refine ax_if2 (p1 := 115) (p2 := 91) ⟨_, rfl⟩ (by decide) rfl (hg _ _) (by decide) (fun hc => ?_) (fun hc => ?_)
  · have h := h.2 hc
    refine ax_mv 1 117 [some (.ref r), some (ax_i x1), some (ax_i x2), some (ax_i x3), some (ax_i x4), y5] [ax_i x4] rfl ?_
    refine ax_if (p1 := 151) (p2 := 120) ⟨_, rfl⟩ (by decide) rfl hx4 (fun hc => ?_) (fun hc => ?_)
    · have h := h.1 hc
      refine ax_mv 1 152 [some (.ref r), some (ax_i x1), some (ax_i x2), some (ax_i x3), some (ax_i x4), y5] [ax_i 0] rfl ?_
      refine ax_sti (i := 0) (k := 5) (n := 2) (pc' := 154) (L' := [some (.ref r), some (ax_i x1), some (ax_i x2), some (ax_i x3), some (ax_i x4), some (ax_i 0)]) ⟨_, rfl⟩ rfl rfl rfl (Nat.le_of_ble_eq_true rfl) rfl rfl ?_
      refine ax_mv 2 157 [some (.ref r), some (ax_i x1), some (ax_i x2), some (ax_i x3), some (ax_i x4), some (ax_i 0)] [ax_i 0, .ref r] rfl ?_
      refine ax_if (p1 := 164) (p2 := 160) ⟨_, rfl⟩ (by decide) rfl (by decide) (fun hc => absurd hc (by unfold ax_k0; decide)) (fun _ => ?_)
      refine ax_mv 3 166 [some (.ref r), some (ax_i x1), some (ax_i x2), some (ax_i x3), some (ax_i x4), some (ax_i 0)] [ax_i x2, ax_i 1, .ref r] rfl ?_
      refine ax_callN (pc' := 169) ⟨_, rfl⟩ ml_3_123 (rest := []) rfl (fun ss hs => ⟨_, _, (az_e 0 rfl) ss hs⟩) (Nat.le_of_ble_eq_true rfl) rfl rfl h (fun V1 hg1 h => ?_)
      refine ax_mv 1 170 [some (.ref r), some (ax_i x1), some (ax_i x2), some (ax_i x3), some (ax_i x4), some (ax_i 0)] [.ref r] rfl ?_
      refine ax_gR (v := .ref (B + 32)) (pc' := 173) ⟨_, rfl⟩ fl_3_30 (az_e 0 rfl) rfl rfl ?_
      refine ax_gR (v := .ref (B + 42)) (pc' := 176) ⟨_, rfl⟩ fl_3_136 (az_b 32 rfl) rfl rfl ?_
      refine ax_mv 2 178 [some (.ref r), some (ax_i x1), some (ax_i x2), some (ax_i x3), some (ax_i x4), some (ax_i 0)] [ax_i x3, ax_i x1, .ref (B + 42)] rfl ?_
      obtain ⟨o10, h⟩ := h
      obtain ⟨V2, eV2⟩ : ∃ W9 : ax_V, W9 = ax_u V1 542 x1 x3 := ⟨_, rfl⟩
      have h := h V2 eV2
      have hg2 : ax_g V2 := eV2 ▸ ax_u_g hg1 hx3
      refine ax_ist (n := 208) (pc' := 179) ⟨_, rfl⟩ az_ok (az_b 42 rfl) (by decide) o10 eV2 rfl ?_
      exact ax_nret ⟨_, rfl⟩ rfl hg2 h
    · have h := h.2 (Int.not_lt.mp hc)
      refine ax_mv 2 123 [some (.ref r), some (ax_i x1), some (ax_i x2), some (ax_i x3), some (ax_i x4), y5] [.ref r, ax_i x4] rfl ?_
      refine ax_gR (v := .ref (B + 32)) (pc' := 126) ⟨_, rfl⟩ fl_3_30 (az_e 0 rfl) rfl rfl ?_
      refine ax_gR (v := .ref (B + 41)) (pc' := 129) ⟨_, rfl⟩ fl_3_134 (az_b 32 rfl) rfl rfl ?_
      refine ax_mv 1 130 [some (.ref r), some (ax_i x1), some (ax_i x2), some (ax_i x3), some (ax_i x4), y5] [ax_i x1, .ref (B + 41), ax_i x4] rfl ?_
      obtain ⟨o11, h⟩ := h
      refine ax_ild (n := 208) (pc' := 131) ⟨_, rfl⟩ (az_b 41 rfl) (by decide) o11 rfl ?_
      refine ax_if2 (p1 := 151) (p2 := 134) ⟨_, rfl⟩ (by decide) rfl hx4 (hg _ _) (fun hc => ?_) (fun hc => ?_)
      · have h := h.2 hc
        refine ax_mv 1 152 [some (.ref r), some (ax_i x1), some (ax_i x2), some (ax_i x3), some (ax_i x4), y5] [ax_i 0] rfl ?_
        refine ax_sti (i := 0) (k := 5) (n := 2) (pc' := 154) (L' := [some (.ref r), some (ax_i x1), some (ax_i x2), some (ax_i x3), some (ax_i x4), some (ax_i 0)]) ⟨_, rfl⟩ rfl rfl rfl (Nat.le_of_ble_eq_true rfl) rfl rfl ?_
        refine ax_mv 2 157 [some (.ref r), some (ax_i x1), some (ax_i x2), some (ax_i x3), some (ax_i x4), some (ax_i 0)] [ax_i 0, .ref r] rfl ?_
        refine ax_if (p1 := 164) (p2 := 160) ⟨_, rfl⟩ (by decide) rfl (by decide) (fun hc => absurd hc (by unfold ax_k0; decide)) (fun _ => ?_)
        refine ax_mv 3 166 [some (.ref r), some (ax_i x1), some (ax_i x2), some (ax_i x3), some (ax_i x4), some (ax_i 0)] [ax_i x2, ax_i 1, .ref r] rfl ?_
        refine ax_callN (pc' := 169) ⟨_, rfl⟩ ml_3_123 (rest := []) rfl (fun ss hs => ⟨_, _, (az_e 0 rfl) ss hs⟩) (Nat.le_of_ble_eq_true rfl) rfl rfl h (fun V3 hg3 h => ?_)
        refine ax_mv 1 170 [some (.ref r), some (ax_i x1), some (ax_i x2), some (ax_i x3), some (ax_i x4), some (ax_i 0)] [.ref r] rfl ?_
        refine ax_gR (v := .ref (B + 32)) (pc' := 173) ⟨_, rfl⟩ fl_3_30 (az_e 0 rfl) rfl rfl ?_
        refine ax_gR (v := .ref (B + 42)) (pc' := 176) ⟨_, rfl⟩ fl_3_136 (az_b 32 rfl) rfl rfl ?_
        refine ax_mv 2 178 [some (.ref r), some (ax_i x1), some (ax_i x2), some (ax_i x3), some (ax_i x4), some (ax_i 0)] [ax_i x3, ax_i x1, .ref (B + 42)] rfl ?_
        obtain ⟨o12, h⟩ := h
        obtain ⟨V4, eV4⟩ : ∃ W9 : ax_V, W9 = ax_u V3 542 x1 x3 := ⟨_, rfl⟩
        have h := h V4 eV4
        have hg4 : ax_g V4 := eV4 ▸ ax_u_g hg3 hx3
        refine ax_ist (n := 208) (pc' := 179) ⟨_, rfl⟩ az_ok (az_b 42 rfl) (by decide) o12 eV4 rfl ?_
        exact ax_nret ⟨_, rfl⟩ rfl hg4 h
      · have h := h.1 (Classical.not_not.mp hc)
        refine ax_mv 2 136 [some (.ref r), some (ax_i x1), some (ax_i x2), some (ax_i x3), some (ax_i x4), y5] [.ref r, ax_i x3] rfl ?_
        refine ax_gR (v := .ref (B + 32)) (pc' := 139) ⟨_, rfl⟩ fl_3_30 (az_e 0 rfl) rfl rfl ?_
        refine ax_gR (v := .ref (B + 42)) (pc' := 142) ⟨_, rfl⟩ fl_3_136 (az_b 32 rfl) rfl rfl ?_
        refine ax_mv 1 143 [some (.ref r), some (ax_i x1), some (ax_i x2), some (ax_i x3), some (ax_i x4), y5] [ax_i x1, .ref (B + 42), ax_i x3] rfl ?_
        obtain ⟨o13, h⟩ := h
        refine ax_ild (n := 208) (pc' := 144) ⟨_, rfl⟩ (az_b 42 rfl) (by decide) o13 rfl ?_
        refine ax_if2 (p1 := 151) (p2 := 147) ⟨_, rfl⟩ (by decide) rfl hx3 (hg _ _) (fun hc => ?_) (fun hc => ?_)
        · have h := h.1 hc
          refine ax_mv 1 152 [some (.ref r), some (ax_i x1), some (ax_i x2), some (ax_i x3), some (ax_i x4), y5] [ax_i 0] rfl ?_
          refine ax_sti (i := 0) (k := 5) (n := 2) (pc' := 154) (L' := [some (.ref r), some (ax_i x1), some (ax_i x2), some (ax_i x3), some (ax_i x4), some (ax_i 0)]) ⟨_, rfl⟩ rfl rfl rfl (Nat.le_of_ble_eq_true rfl) rfl rfl ?_
          refine ax_mv 2 157 [some (.ref r), some (ax_i x1), some (ax_i x2), some (ax_i x3), some (ax_i x4), some (ax_i 0)] [ax_i 0, .ref r] rfl ?_
          refine ax_if (p1 := 164) (p2 := 160) ⟨_, rfl⟩ (by decide) rfl (by decide) (fun hc => absurd hc (by unfold ax_k0; decide)) (fun _ => ?_)
          refine ax_mv 3 166 [some (.ref r), some (ax_i x1), some (ax_i x2), some (ax_i x3), some (ax_i x4), some (ax_i 0)] [ax_i x2, ax_i 1, .ref r] rfl ?_
          refine ax_callN (pc' := 169) ⟨_, rfl⟩ ml_3_123 (rest := []) rfl (fun ss hs => ⟨_, _, (az_e 0 rfl) ss hs⟩) (Nat.le_of_ble_eq_true rfl) rfl rfl h (fun V5 hg5 h => ?_)
          refine ax_mv 1 170 [some (.ref r), some (ax_i x1), some (ax_i x2), some (ax_i x3), some (ax_i x4), some (ax_i 0)] [.ref r] rfl ?_
          refine ax_gR (v := .ref (B + 32)) (pc' := 173) ⟨_, rfl⟩ fl_3_30 (az_e 0 rfl) rfl rfl ?_
          refine ax_gR (v := .ref (B + 42)) (pc' := 176) ⟨_, rfl⟩ fl_3_136 (az_b 32 rfl) rfl rfl ?_
          refine ax_mv 2 178 [some (.ref r), some (ax_i x1), some (ax_i x2), some (ax_i x3), some (ax_i x4), some (ax_i 0)] [ax_i x3, ax_i x1, .ref (B + 42)] rfl ?_
          obtain ⟨o14, h⟩ := h
          obtain ⟨V6, eV6⟩ : ∃ W9 : ax_V, W9 = ax_u V5 542 x1 x3 := ⟨_, rfl⟩
          have h := h V6 eV6
          have hg6 : ax_g V6 := eV6 ▸ ax_u_g hg5 hx3
          refine ax_ist (n := 208) (pc' := 179) ⟨_, rfl⟩ az_ok (az_b 42 rfl) (by decide) o14 eV6 rfl ?_
          exact ax_nret ⟨_, rfl⟩ rfl hg6 h
        · have h := h.2 hc
          refine ax_mv 2 152 [some (.ref r), some (ax_i x1), some (ax_i x2), some (ax_i x3), some (ax_i x4), y5] [ax_i 1] rfl ?_
          refine ax_sti (i := 0) (k := 5) (n := 2) (pc' := 154) (L' := [some (.ref r), some (ax_i x1), some (ax_i x2), some (ax_i x3), some (ax_i x4), some (ax_i 1)]) ⟨_, rfl⟩ rfl rfl rfl (Nat.le_of_ble_eq_true rfl) rfl rfl ?_
          refine ax_mv 2 157 [some (.ref r), some (ax_i x1), some (ax_i x2), some (ax_i x3), some (ax_i x4), some (ax_i 1)] [ax_i 1, .ref r] rfl ?_
          refine ax_if (p1 := 164) (p2 := 160) ⟨_, rfl⟩ (by decide) rfl (by decide) (fun _ => ?_) (fun hc => absurd (by unfold ax_k0; decide) hc)
          refine ax_mv 2 166 [some (.ref r), some (ax_i x1), some (ax_i x2), some (ax_i x3), some (ax_i x4), some (ax_i 1)] [ax_i x2, ax_i 0, .ref r] rfl ?_
          refine ax_callN (pc' := 169) ⟨_, rfl⟩ ml_3_123 (rest := []) rfl (fun ss hs => ⟨_, _, (az_e 0 rfl) ss hs⟩) (Nat.le_of_ble_eq_true rfl) rfl rfl h (fun V7 hg7 h => ?_)
          refine ax_mv 1 170 [some (.ref r), some (ax_i x1), some (ax_i x2), some (ax_i x3), some (ax_i x4), some (ax_i 1)] [.ref r] rfl ?_
          refine ax_gR (v := .ref (B + 32)) (pc' := 173) ⟨_, rfl⟩ fl_3_30 (az_e 0 rfl) rfl rfl ?_
          refine ax_gR (v := .ref (B + 42)) (pc' := 176) ⟨_, rfl⟩ fl_3_136 (az_b 32 rfl) rfl rfl ?_
          refine ax_mv 2 178 [some (.ref r), some (ax_i x1), some (ax_i x2), some (ax_i x3), some (ax_i x4), some (ax_i 1)] [ax_i x3, ax_i x1, .ref (B + 42)] rfl ?_
          obtain ⟨o15, h⟩ := h
          obtain ⟨V8, eV8⟩ : ∃ W9 : ax_V, W9 = ax_u V7 542 x1 x3 := ⟨_, rfl⟩
          have h := h V8 eV8
          have hg8 : ax_g V8 := eV8 ▸ ax_u_g hg7 hx3
          refine ax_ist (n := 208) (pc' := 179) ⟨_, rfl⟩ az_ok (az_b 42 rfl) (by decide) o15 eV8 rfl ?_
          exact ax_nret ⟨_, rfl⟩ rfl hg8 h
  · have h := h.1 (Classical.not_not.mp hc)
    refine ax_mv 1 92 [some (.ref r), some (ax_i x1), some (ax_i x2), some (ax_i x3), some (ax_i x4), y5] [.ref r] rfl ?_
    refine ax_gR (v := .ref (B + 32)) (pc' := 95) ⟨_, rfl⟩ fl_3_30 (az_e 0 rfl) rfl rfl ?_
    refine ax_gR (v := .ref (B + 41)) (pc' := 98) ⟨_, rfl⟩ fl_3_134 (az_b 32 rfl) rfl rfl ?_
    refine ax_mv 2 101 [some (.ref r), some (ax_i x1), some (ax_i x2), some (ax_i x3), some (ax_i x4), y5] [ax_i x4, ax_i x1, .ref (B + 41)] rfl ?_
    obtain ⟨o16, h⟩ := h
    obtain ⟨V9, eV9⟩ : ∃ W9 : ax_V, W9 = ax_u V 541 x1 x4 := ⟨_, rfl⟩
    have h := h V9 eV9
    have hg9 : ax_g V9 := eV9 ▸ ax_u_g hg hx4
    refine ax_ist (n := 208) (pc' := 102) ⟨_, rfl⟩ az_ok (az_b 41 rfl) (by decide) o16 eV9 rfl ?_
    refine ax_mv 1 103 [some (.ref r), some (ax_i x1), some (ax_i x2), some (ax_i x3), some (ax_i x4), y5] [.ref r] rfl ?_
    refine ax_gR (v := .ref (B + 32)) (pc' := 106) ⟨_, rfl⟩ fl_3_30 (az_e 0 rfl) rfl rfl ?_
    refine ax_gR (v := .ref (B + 43)) (pc' := 109) ⟨_, rfl⟩ fl_3_135 (az_b 32 rfl) rfl rfl ?_
    refine ax_mv 2 111 [some (.ref r), some (ax_i x1), some (ax_i x2), some (ax_i x3), some (ax_i x4), y5] [ax_i x2, ax_i x1, .ref (B + 43)] rfl ?_
    obtain ⟨o17, h⟩ := h
    obtain ⟨V10, eV10⟩ : ∃ W9 : ax_V, W9 = ax_u V9 543 x1 x2 := ⟨_, rfl⟩
    have h := h V10 eV10
    have hg10 : ax_g V10 := eV10 ▸ ax_u_g hg9 hx2
    refine ax_ist (n := 208) (pc' := 112) ⟨_, rfl⟩ az_ok (az_b 43 rfl) (by decide) o17 eV10 rfl ?_
    refine ax_mv 2 170 [some (.ref r), some (ax_i x1), some (ax_i x2), some (ax_i x3), some (ax_i x4), y5] [.ref r] rfl ?_
    refine ax_gR (v := .ref (B + 32)) (pc' := 173) ⟨_, rfl⟩ fl_3_30 (az_e 0 rfl) rfl rfl ?_
    refine ax_gR (v := .ref (B + 42)) (pc' := 176) ⟨_, rfl⟩ fl_3_136 (az_b 32 rfl) rfl rfl ?_
    refine ax_mv 2 178 [some (.ref r), some (ax_i x1), some (ax_i x2), some (ax_i x3), some (ax_i x4), y5] [ax_i x3, ax_i x1, .ref (B + 42)] rfl ?_
    obtain ⟨o18, h⟩ := h
    obtain ⟨V11, eV11⟩ : ∃ W9 : ax_V, W9 = ax_u V10 542 x1 x3 := ⟨_, rfl⟩
    have h := h V11 eV11
    have hg11 : ax_g V11 := eV11 ▸ ax_u_g hg10 hx3
    refine ax_ist (n := 208) (pc' := 179) ⟨_, rfl⟩ az_ok (az_b 42 rfl) (by decide) o18 eV11 rfl ?_
    exact ax_nret ⟨_, rfl⟩ rfl hg11 h
set_option maxRecDepth 20000 in
theorem r_Judge_judgeHead {B : Nat} {r : Nat} {d : Nat} {V : ax_V} {Φ : ax_V → Prop} {Θ : ax_V → Prop} {x1 : Int} {x2 : Int} {x3 : Int} (hg : ax_g V) (hx1 : ax_rg x1) (hx2 : ax_rg x2) (hx3 : ax_rg x3) (h : ((x3 = -1 → k_Judge_judgeHead_18 B r d x1 x2 x3 none none (-1) V Φ Θ) ∧ (¬ x3 = -1 → (0 ≤ x3 ∧ x3 < 350) ∧ k_Judge_judgeHead_18 B r d x1 x2 x3 none none (V 563 x3) V Φ Θ))) : ax_N (az_W B (az_EJ B r)) (d + 1) q_Judge_judgeHead [.ref r, ax_i x1, ax_i x2, ax_i x3] V Φ Θ := by
  refine ax_T.of (M := m_Judge_judgeHead) rfl (Nat.le_of_ble_eq_true rfl) ?_
  refine ax_mv 0 0 [some (.ref r), some (ax_i x1), some (ax_i x2), some (ax_i x3), none, none] [] rfl ?_
  refine ax_mv 2 2 [some (.ref r), some (ax_i x1), some (ax_i x2), some (ax_i x3), none, none] [ax_i (-1), ax_i x3] rfl ?_
  refine ax_if2 (p1 := 9) (p2 := 5) ⟨_, rfl⟩ (by decide) rfl hx3 (by decide) (fun hc => ?_) (fun hc => ?_)
  · have h := h.2 hc
    refine ax_mv 1 10 [some (.ref r), some (ax_i x1), some (ax_i x2), some (ax_i x3), none, none] [.ref r] rfl ?_
    refine ax_gR (v := .ref (B + 56)) (pc' := 13) ⟨_, rfl⟩ fl_3_40 (az_e 0 rfl) rfl rfl ?_
    refine ax_gR (v := .ref (B + 63)) (pc' := 16) ⟨_, rfl⟩ fl_3_115 (az_b 56 rfl) rfl rfl ?_
    refine ax_mv 1 17 [some (.ref r), some (ax_i x1), some (ax_i x2), some (ax_i x3), none, none] [ax_i x3, .ref (B + 63)] rfl ?_
    obtain ⟨o19, h⟩ := h
    refine ax_ild (n := 350) (pc' := 18) ⟨_, rfl⟩ (az_b 63 rfl) (by decide) o19 rfl ?_
    exact h
  · have h := h.1 (Classical.not_not.mp hc)
    refine ax_mv 2 18 [some (.ref r), some (ax_i x1), some (ax_i x2), some (ax_i x3), none, none] [ax_i (-1)] rfl ?_
    exact h
theorem r_Judge_blameIf {B : Nat} {r : Nat} {d : Nat} {V : ax_V} {Φ : ax_V → Prop} {Θ : ax_V → Prop} {x1 : Int} {x2 : Int} (hg : ax_g V) (hx1 : ax_rg x1) (hx2 : ax_rg x2) (h : ((x1 = 0 → Φ V) ∧ (¬ x1 = 0 → ((V 601 5 ≤ x2 → Φ V) ∧ (x2 < V 601 5 → (∀ V1, V1 = ax_u V 601 5 x2 → Φ V1)))))) : ax_N (az_W B (az_EJ B r)) (d + 1) q_Judge_blameIf [.ref r, ax_i x1, ax_i x2] V Φ Θ := by
  refine ax_T.of (M := m_Judge_blameIf) rfl (Nat.le_of_ble_eq_true rfl) ?_
  refine ax_mv 0 0 [some (.ref r), some (ax_i x1), some (ax_i x2)] [] rfl ?_
  refine ax_mv 1 1 [some (.ref r), some (ax_i x1), some (ax_i x2)] [ax_i x1] rfl ?_
  refine ax_if (p1 := 17) (p2 := 4) ⟨_, rfl⟩ (by decide) rfl hx1 (fun hc => ?_) (fun hc => ?_)
  · have h := h.1 hc
    exact ax_nret ⟨_, rfl⟩ rfl hg h
  · have h := h.2 hc
    refine ax_mv 2 6 [some (.ref r), some (ax_i x1), some (ax_i x2)] [.ref r, ax_i x2] rfl ?_
    refine ax_gI (kI := 5) (pc' := 9) ⟨_, rfl⟩ fl_3_9 (az_e 0 rfl) rfl rfl rfl ?_
    refine ax_if2 (p1 := 17) (p2 := 12) ⟨_, rfl⟩ (by decide) rfl hx2 (hg _ _) (fun hc => ?_) (fun hc => ?_)
    · have h := h.1 hc
      exact ax_nret ⟨_, rfl⟩ rfl hg h
    · have h := h.2 (Int.not_le.mp hc)
      refine ax_mv 2 14 [some (.ref r), some (ax_i x1), some (ax_i x2)] [ax_i x2, .ref r] rfl ?_
      obtain ⟨V1, eV1⟩ : ∃ W9 : ax_V, W9 = ax_u V 601 5 x2 := ⟨_, rfl⟩
      have h := h V1 eV1
      have hg1 : ax_g V1 := eV1 ▸ ax_u_g hg hx2
      refine ax_pI (kI := 5) (pc' := 17) ⟨_, rfl⟩ fl_3_9 az_ok (az_e 0 rfl) rfl rfl rfl rfl eV1 rfl ?_
      exact ax_nret ⟨_, rfl⟩ rfl hg1 h
abbrev k_Judge_judgeNames_49 (B : Nat) (r : Nat) (d : Nat) (x1 : Int) (x2 : Int) (y3 : Option Value) (y4 : Option Value) (V : ax_V) (Φ : ax_V → Prop) (Θ : ax_V → Prop) : Prop := ax_R (az_W B (az_EJ B r)) ax_t d m_Judge_judgeNames 49 [some (.ref r), some (ax_i x1), some (ax_i x2), y3, y4] [] V (ax_Nr Φ) Θ
abbrev k_Judge_judgeNames_254 (B : Nat) (r : Nat) (d : Nat) (x1 : Int) (x2 : Int) (y3 : Option Value) (x4 : Int) (s0 : Int) (V : ax_V) (Φ : ax_V → Prop) (Θ : ax_V → Prop) : Prop := ax_R (az_W B (az_EJ B r)) ax_t d m_Judge_judgeNames 254 [some (.ref r), some (ax_i x1), some (ax_i x2), y3, some (ax_i x4)] [ax_i s0, .ref r] V (ax_Nr Φ) Θ
set_option maxRecDepth 20000 in
theorem r_Judge_judgeNames_49 {B : Nat} {r : Nat} {d : Nat} {V : ax_V} {Φ : ax_V → Prop} {Θ : ax_V → Prop} {x1 : Int} {x2 : Int} {y3 : Option Value} {y4 : Option Value} (hg : ax_g V) (hx1 : ax_rg x1) (hx2 : ax_rg x2) (hy3 : ax_y y3) (hy4 : ax_y y4) (h : (0 ≤ x1 + 1 ∧ x1 + 1 < 9) ∧ ((V 508 (x1 + 1) ≤ x2 → Φ V) ∧ (x2 < V 508 (x1 + 1) → (0 ≤ x2 ∧ x2 < 700) ∧ (0 ≤ x2 ∧ x2 < 700) ∧ (0 ≤ x2 ∧ x2 < 700) ∧ ((V 517 x2 = 2 → (0 ≤ V 520 x2 ∧ V 520 x2 < 208) ∧ ((V 533 (V 520 x2) = -1 → ax_N (az_W B (az_EJ B r)) d q_Judge_blameIf [.ref r, ax_i 1, ax_i (V 519 x2)] V (fun V2 => k_Judge_judgeNames_49 B r d x1 (x2 + 1) (some (ax_i (V 520 x2))) (some (ax_i (V 519 x2))) V2 Φ Θ) Θ) ∧ (¬ V 533 (V 520 x2) = -1 → ax_N (az_W B (az_EJ B r)) d q_Judge_blameIf [.ref r, ax_i 0, ax_i (V 519 x2)] V (fun V1 => k_Judge_judgeNames_49 B r d x1 (x2 + 1) (some (ax_i (V 520 x2))) (some (ax_i (V 519 x2))) V1 Φ Θ) Θ))) ∧ (V 517 x2 = 3 → (0 ≤ V 520 x2 ∧ V 520 x2 < 208) ∧ ((V 538 (V 520 x2) = 0 → ax_N (az_W B (az_EJ B r)) d q_Judge_blameIf [.ref r, ax_i 1, ax_i (V 519 x2)] V (fun V4 => k_Judge_judgeNames_49 B r d x1 (x2 + 1) (some (ax_i (V 520 x2))) (some (ax_i (V 519 x2))) V4 Φ Θ) Θ) ∧ (¬ V 538 (V 520 x2) = 0 → ax_N (az_W B (az_EJ B r)) d q_Judge_blameIf [.ref r, ax_i 0, ax_i (V 519 x2)] V (fun V3 => k_Judge_judgeNames_49 B r d x1 (x2 + 1) (some (ax_i (V 520 x2))) (some (ax_i (V 519 x2))) V3 Φ Θ) Θ))) ∧ (V 517 x2 = 20 → ax_I (az_W B (az_EJ B r)) d q_Judge_isTruth [.ref r, ax_i (ax_shr (V 520 x2) 1)] V (fun r5 V5 => ((r5 = 0 → ax_N (az_W B (az_EJ B r)) d q_Judge_blameIf [.ref r, ax_i 1, ax_i (V 519 x2)] V5 (fun V7 => k_Judge_judgeNames_49 B r d x1 (x2 + 1) (some (ax_i (V 520 x2))) (some (ax_i (V 519 x2))) V7 Φ Θ) Θ) ∧ (¬ r5 = 0 → ax_N (az_W B (az_EJ B r)) d q_Judge_blameIf [.ref r, ax_i 0, ax_i (V 519 x2)] V5 (fun V6 => k_Judge_judgeNames_49 B r d x1 (x2 + 1) (some (ax_i (V 520 x2))) (some (ax_i (V 519 x2))) V6 Φ Θ) Θ))) Θ) ∧ (V 517 x2 = 21 → ax_I (az_W B (az_EJ B r)) d q_Judge_isTruth [.ref r, ax_i (V 520 x2)] V (fun r8 V8 => ((r8 = 0 → ax_N (az_W B (az_EJ B r)) d q_Judge_blameIf [.ref r, ax_i 1, ax_i (V 519 x2)] V8 (fun V10 => k_Judge_judgeNames_49 B r d x1 (x2 + 1) (some (ax_i (V 520 x2))) (some (ax_i (V 519 x2))) V10 Φ Θ) Θ) ∧ (¬ r8 = 0 → ax_N (az_W B (az_EJ B r)) d q_Judge_blameIf [.ref r, ax_i 0, ax_i (V 519 x2)] V8 (fun V9 => k_Judge_judgeNames_49 B r d x1 (x2 + 1) (some (ax_i (V 520 x2))) (some (ax_i (V 519 x2))) V9 Φ Θ) Θ))) Θ) ∧ (V 517 x2 = 22 → ((V 520 x2 = -1 → k_Judge_judgeNames_254 B r d x1 x2 (some (ax_i (V 520 x2))) (V 519 x2) 1 V Φ Θ) ∧ (¬ V 520 x2 = -1 → k_Judge_judgeNames_254 B r d x1 x2 (some (ax_i (V 520 x2))) (V 519 x2) 0 V Φ Θ))) ∧ (¬ V 517 x2 = 2 → ¬ V 517 x2 = 3 → ¬ V 517 x2 = 20 → ¬ V 517 x2 = 21 → ¬ V 517 x2 = 22 → k_Judge_judgeNames_49 B r d x1 (x2 + 1) (some (ax_i (V 520 x2))) (some (ax_i (V 519 x2))) V Φ Θ))))) : k_Judge_judgeNames_49 B r d x1 x2 y3 y4 V Φ Θ := by
  refine ax_mv 2 51 [some (.ref r), some (ax_i x1), some (ax_i x2), y3, y4] [.ref r, ax_i x2] rfl ?_
  refine ax_gR (v := .ref B) (pc' := 54) ⟨_, rfl⟩ fl_3_15 (az_e 0 rfl) rfl rfl ?_
  refine ax_gR (v := .ref (B + 8)) (pc' := 57) ⟨_, rfl⟩ fl_3_149 (az_b 0 rfl) rfl rfl ?_
  refine ax_mv 2 59 [some (.ref r), some (ax_i x1), some (ax_i x2), y3, y4] [ax_i 1, ax_i x1, .ref (B + 8), ax_i x2] rfl ?_
  refine ax_add (pc' := 60) ⟨_, rfl⟩ rfl ?_
  obtain ⟨o1, h⟩ := h
  refine ax_ild (n := 9) (pc' := 61) ⟨_, rfl⟩ (az_b 8 rfl) (by decide) o1 rfl ?_
  refine ax_if2 (p1 := 315) (p2 := 64) ⟨_, rfl⟩ (by decide) rfl hx2 (hg _ _) (fun hc => ?_) (fun hc => ?_)
  · have h := h.1 hc
    exact ax_nret ⟨_, rfl⟩ rfl hg h
  · have h := h.2 (Int.not_le.mp hc)
    refine ax_mv 1 65 [some (.ref r), some (ax_i x1), some (ax_i x2), y3, y4] [.ref r] rfl ?_
    refine ax_gR (v := .ref (B + 16)) (pc' := 68) ⟨_, rfl⟩ fl_3_25 (az_e 0 rfl) rfl rfl ?_
    refine ax_gR (v := .ref (B + 20)) (pc' := 71) ⟨_, rfl⟩ fl_3_152 (az_b 16 rfl) rfl rfl ?_
    refine ax_mv 1 72 [some (.ref r), some (ax_i x1), some (ax_i x2), y3, y4] [ax_i x2, .ref (B + 20)] rfl ?_
    obtain ⟨o2, h⟩ := h
    refine ax_ild (n := 700) (pc' := 73) ⟨_, rfl⟩ (az_b 20 rfl) (by decide) o2 rfl ?_
    refine ax_sti (i := 0) (k := 3) (n := 1) (pc' := 74) (L' := [some (.ref r), some (ax_i x1), some (ax_i x2), some (ax_i (V 520 x2)), y4]) ⟨_, rfl⟩ rfl rfl rfl (Nat.le_of_ble_eq_true rfl) rfl rfl ?_
    refine ax_mv 1 75 [some (.ref r), some (ax_i x1), some (ax_i x2), some (ax_i (V 520 x2)), y4] [.ref r] rfl ?_
    refine ax_gR (v := .ref (B + 16)) (pc' := 78) ⟨_, rfl⟩ fl_3_25 (az_e 0 rfl) rfl rfl ?_
    refine ax_gR (v := .ref (B + 19)) (pc' := 81) ⟨_, rfl⟩ fl_3_157 (az_b 16 rfl) rfl rfl ?_
    refine ax_mv 1 82 [some (.ref r), some (ax_i x1), some (ax_i x2), some (ax_i (V 520 x2)), y4] [ax_i x2, .ref (B + 19)] rfl ?_
    obtain ⟨o3, h⟩ := h
    refine ax_ild (n := 700) (pc' := 83) ⟨_, rfl⟩ (az_b 19 rfl) (by decide) o3 rfl ?_
    refine ax_sti (i := 0) (k := 4) (n := 2) (pc' := 85) (L' := [some (.ref r), some (ax_i x1), some (ax_i x2), some (ax_i (V 520 x2)), some (ax_i (V 519 x2))]) ⟨_, rfl⟩ rfl rfl rfl (Nat.le_of_ble_eq_true rfl) rfl rfl ?_
    refine ax_mv 1 86 [some (.ref r), some (ax_i x1), some (ax_i x2), some (ax_i (V 520 x2)), some (ax_i (V 519 x2))] [.ref r] rfl ?_
    refine ax_gR (v := .ref (B + 16)) (pc' := 89) ⟨_, rfl⟩ fl_3_25 (az_e 0 rfl) rfl rfl ?_
    refine ax_gR (v := .ref (B + 17)) (pc' := 92) ⟨_, rfl⟩ fl_3_158 (az_b 16 rfl) rfl rfl ?_
    refine ax_mv 1 93 [some (.ref r), some (ax_i x1), some (ax_i x2), some (ax_i (V 520 x2)), some (ax_i (V 519 x2))] [ax_i x2, .ref (B + 17)] rfl ?_
    obtain ⟨o4, h⟩ := h
    refine ax_ild (n := 700) (pc' := 94) ⟨_, rfl⟩ (az_b 17 rfl) (by decide) o4 rfl ?_
    have t0 : (V 517 x2 = 2) → ax_R (az_W B (az_EJ B r)) ax_t d m_Judge_judgeNames 144 [some (.ref r), some (ax_i x1), some (ax_i x2), some (ax_i (V 520 x2)), some (ax_i (V 519 x2))] [] V (ax_Nr Φ) Θ := fun hk => by
      have h := h.1 hk
      refine ax_mv 2 146 [some (.ref r), some (ax_i x1), some (ax_i x2), some (ax_i (V 520 x2)), some (ax_i (V 519 x2))] [.ref r, .ref r] rfl ?_
      refine ax_gR (v := .ref (B + 32)) (pc' := 149) ⟨_, rfl⟩ fl_3_30 (az_e 0 rfl) rfl rfl ?_
      refine ax_gR (v := .ref (B + 33)) (pc' := 152) ⟨_, rfl⟩ fl_3_85 (az_b 32 rfl) rfl rfl ?_
      refine ax_mv 1 153 [some (.ref r), some (ax_i x1), some (ax_i x2), some (ax_i (V 520 x2)), some (ax_i (V 519 x2))] [ax_i (V 520 x2), .ref (B + 33), .ref r] rfl ?_
      obtain ⟨o5, h⟩ := h
      refine ax_ild (n := 208) (pc' := 154) ⟨_, rfl⟩ (az_b 33 rfl) (by decide) o5 rfl ?_
      refine ax_mv 1 155 [some (.ref r), some (ax_i x1), some (ax_i x2), some (ax_i (V 520 x2)), some (ax_i (V 519 x2))] [ax_i (-1), ax_i (V 533 (V 520 x2)), .ref r] rfl ?_
      refine ax_if2 (p1 := 162) (p2 := 158) ⟨_, rfl⟩ (by decide) rfl (hg _ _) (by decide) (fun hc => ?_) (fun hc => ?_)
      · have h := h.2 hc
        refine ax_mv 2 165 [some (.ref r), some (ax_i x1), some (ax_i x2), some (ax_i (V 520 x2)), some (ax_i (V 519 x2))] [ax_i (V 519 x2), ax_i 0, .ref r] rfl ?_
        refine ax_callN (pc' := 168) ⟨_, rfl⟩ ml_3_123 (rest := []) rfl (fun ss hs => ⟨_, _, (az_e 0 rfl) ss hs⟩) (Nat.le_of_ble_eq_true rfl) rfl rfl h (fun V1 hg1 h => ?_)
        refine ax_mv 1 309 [some (.ref r), some (ax_i x1), some (ax_i x2), some (ax_i (V 520 x2)), some (ax_i (V 519 x2))] [] rfl ?_
        refine ax_inc (x := x2) (pc' := 312) (L' := [some (.ref r), some (ax_i x1), some (ax_i (x2 + 1)), some (ax_i (V 520 x2)), some (ax_i (V 519 x2))]) ⟨_, rfl⟩ rfl rfl rfl rfl ?_
        refine ax_mv 1 49 [some (.ref r), some (ax_i x1), some (ax_i (x2 + 1)), some (ax_i (V 520 x2)), some (ax_i (V 519 x2))] [] rfl ?_
        exact h
      · have h := h.1 (Classical.not_not.mp hc)
        refine ax_mv 3 165 [some (.ref r), some (ax_i x1), some (ax_i x2), some (ax_i (V 520 x2)), some (ax_i (V 519 x2))] [ax_i (V 519 x2), ax_i 1, .ref r] rfl ?_
        refine ax_callN (pc' := 168) ⟨_, rfl⟩ ml_3_123 (rest := []) rfl (fun ss hs => ⟨_, _, (az_e 0 rfl) ss hs⟩) (Nat.le_of_ble_eq_true rfl) rfl rfl h (fun V2 hg2 h => ?_)
        refine ax_mv 1 309 [some (.ref r), some (ax_i x1), some (ax_i x2), some (ax_i (V 520 x2)), some (ax_i (V 519 x2))] [] rfl ?_
        refine ax_inc (x := x2) (pc' := 312) (L' := [some (.ref r), some (ax_i x1), some (ax_i (x2 + 1)), some (ax_i (V 520 x2)), some (ax_i (V 519 x2))]) ⟨_, rfl⟩ rfl rfl rfl rfl ?_
        refine ax_mv 1 49 [some (.ref r), some (ax_i x1), some (ax_i (x2 + 1)), some (ax_i (V 520 x2)), some (ax_i (V 519 x2))] [] rfl ?_
        exact h
    have t1 : (V 517 x2 = 3) → ax_R (az_W B (az_EJ B r)) ax_t d m_Judge_judgeNames 171 [some (.ref r), some (ax_i x1), some (ax_i x2), some (ax_i (V 520 x2)), some (ax_i (V 519 x2))] [] V (ax_Nr Φ) Θ := fun hk => by
      have h := h.2.1 hk
      refine ax_mv 2 173 [some (.ref r), some (ax_i x1), some (ax_i x2), some (ax_i (V 520 x2)), some (ax_i (V 519 x2))] [.ref r, .ref r] rfl ?_
      refine ax_gR (v := .ref (B + 32)) (pc' := 176) ⟨_, rfl⟩ fl_3_30 (az_e 0 rfl) rfl rfl ?_
      refine ax_gR (v := .ref (B + 38)) (pc' := 179) ⟨_, rfl⟩ fl_3_161 (az_b 32 rfl) rfl rfl ?_
      refine ax_mv 1 180 [some (.ref r), some (ax_i x1), some (ax_i x2), some (ax_i (V 520 x2)), some (ax_i (V 519 x2))] [ax_i (V 520 x2), .ref (B + 38), .ref r] rfl ?_
      obtain ⟨o6, h⟩ := h
      refine ax_bld (n := 208) (pc' := 181) ⟨_, rfl⟩ (az_b 38 rfl) (by decide) o6 rfl ?_
      refine ax_if (p1 := 188) (p2 := 184) ⟨_, rfl⟩ (by decide) rfl (hg _ _) (fun hc => ?_) (fun hc => ?_)
      · have h := h.2 hc
        refine ax_mv 2 191 [some (.ref r), some (ax_i x1), some (ax_i x2), some (ax_i (V 520 x2)), some (ax_i (V 519 x2))] [ax_i (V 519 x2), ax_i 0, .ref r] rfl ?_
        refine ax_callN (pc' := 194) ⟨_, rfl⟩ ml_3_123 (rest := []) rfl (fun ss hs => ⟨_, _, (az_e 0 rfl) ss hs⟩) (Nat.le_of_ble_eq_true rfl) rfl rfl h (fun V3 hg3 h => ?_)
        refine ax_mv 1 309 [some (.ref r), some (ax_i x1), some (ax_i x2), some (ax_i (V 520 x2)), some (ax_i (V 519 x2))] [] rfl ?_
        refine ax_inc (x := x2) (pc' := 312) (L' := [some (.ref r), some (ax_i x1), some (ax_i (x2 + 1)), some (ax_i (V 520 x2)), some (ax_i (V 519 x2))]) ⟨_, rfl⟩ rfl rfl rfl rfl ?_
        refine ax_mv 1 49 [some (.ref r), some (ax_i x1), some (ax_i (x2 + 1)), some (ax_i (V 520 x2)), some (ax_i (V 519 x2))] [] rfl ?_
        exact h
      · have h := h.1 (Classical.not_not.mp hc)
        refine ax_mv 3 191 [some (.ref r), some (ax_i x1), some (ax_i x2), some (ax_i (V 520 x2)), some (ax_i (V 519 x2))] [ax_i (V 519 x2), ax_i 1, .ref r] rfl ?_
        refine ax_callN (pc' := 194) ⟨_, rfl⟩ ml_3_123 (rest := []) rfl (fun ss hs => ⟨_, _, (az_e 0 rfl) ss hs⟩) (Nat.le_of_ble_eq_true rfl) rfl rfl h (fun V4 hg4 h => ?_)
        refine ax_mv 1 309 [some (.ref r), some (ax_i x1), some (ax_i x2), some (ax_i (V 520 x2)), some (ax_i (V 519 x2))] [] rfl ?_
        refine ax_inc (x := x2) (pc' := 312) (L' := [some (.ref r), some (ax_i x1), some (ax_i (x2 + 1)), some (ax_i (V 520 x2)), some (ax_i (V 519 x2))]) ⟨_, rfl⟩ rfl rfl rfl rfl ?_
        refine ax_mv 1 49 [some (.ref r), some (ax_i x1), some (ax_i (x2 + 1)), some (ax_i (V 520 x2)), some (ax_i (V 519 x2))] [] rfl ?_
        exact h
    have t2 : (V 517 x2 = 20) → ax_R (az_W B (az_EJ B r)) ax_t d m_Judge_judgeNames 197 [some (.ref r), some (ax_i x1), some (ax_i x2), some (ax_i (V 520 x2)), some (ax_i (V 519 x2))] [] V (ax_Nr Φ) Θ := fun hk => by
      have h := h.2.2.1 hk
      refine ax_mv 4 201 [some (.ref r), some (ax_i x1), some (ax_i x2), some (ax_i (V 520 x2)), some (ax_i (V 519 x2))] [ax_i 1, ax_i (V 520 x2), .ref r, .ref r] rfl ?_
      refine ax_rshr (pc' := 202) ⟨_, rfl⟩ rfl ?_
      refine ax_callI (pc' := 205) ⟨_, rfl⟩ ml_3_165 (rest := [.ref r]) rfl (fun ss hs => ⟨_, _, (az_e 0 rfl) ss hs⟩) (Nat.le_of_ble_eq_true rfl) rfl rfl h (fun r5 V5 hg5 hr5 h => ?_)
      refine ax_if (p1 := 212) (p2 := 208) ⟨_, rfl⟩ (by decide) rfl hr5 (fun hc => ?_) (fun hc => ?_)
      · have h := h.2 hc
        refine ax_mv 2 215 [some (.ref r), some (ax_i x1), some (ax_i x2), some (ax_i (V 520 x2)), some (ax_i (V 519 x2))] [ax_i (V 519 x2), ax_i 0, .ref r] rfl ?_
        refine ax_callN (pc' := 218) ⟨_, rfl⟩ ml_3_123 (rest := []) rfl (fun ss hs => ⟨_, _, (az_e 0 rfl) ss hs⟩) (Nat.le_of_ble_eq_true rfl) rfl rfl h (fun V6 hg6 h => ?_)
        refine ax_mv 1 309 [some (.ref r), some (ax_i x1), some (ax_i x2), some (ax_i (V 520 x2)), some (ax_i (V 519 x2))] [] rfl ?_
        refine ax_inc (x := x2) (pc' := 312) (L' := [some (.ref r), some (ax_i x1), some (ax_i (x2 + 1)), some (ax_i (V 520 x2)), some (ax_i (V 519 x2))]) ⟨_, rfl⟩ rfl rfl rfl rfl ?_
        refine ax_mv 1 49 [some (.ref r), some (ax_i x1), some (ax_i (x2 + 1)), some (ax_i (V 520 x2)), some (ax_i (V 519 x2))] [] rfl ?_
        exact h
      · have h := h.1 (Classical.not_not.mp hc)
        refine ax_mv 3 215 [some (.ref r), some (ax_i x1), some (ax_i x2), some (ax_i (V 520 x2)), some (ax_i (V 519 x2))] [ax_i (V 519 x2), ax_i 1, .ref r] rfl ?_
        refine ax_callN (pc' := 218) ⟨_, rfl⟩ ml_3_123 (rest := []) rfl (fun ss hs => ⟨_, _, (az_e 0 rfl) ss hs⟩) (Nat.le_of_ble_eq_true rfl) rfl rfl h (fun V7 hg7 h => ?_)
        refine ax_mv 1 309 [some (.ref r), some (ax_i x1), some (ax_i x2), some (ax_i (V 520 x2)), some (ax_i (V 519 x2))] [] rfl ?_
        refine ax_inc (x := x2) (pc' := 312) (L' := [some (.ref r), some (ax_i x1), some (ax_i (x2 + 1)), some (ax_i (V 520 x2)), some (ax_i (V 519 x2))]) ⟨_, rfl⟩ rfl rfl rfl rfl ?_
        refine ax_mv 1 49 [some (.ref r), some (ax_i x1), some (ax_i (x2 + 1)), some (ax_i (V 520 x2)), some (ax_i (V 519 x2))] [] rfl ?_
        exact h
    have t3 : (V 517 x2 = 21) → ax_R (az_W B (az_EJ B r)) ax_t d m_Judge_judgeNames 221 [some (.ref r), some (ax_i x1), some (ax_i x2), some (ax_i (V 520 x2)), some (ax_i (V 519 x2))] [] V (ax_Nr Φ) Θ := fun hk => by
      have h := h.2.2.2.1 hk
      refine ax_mv 3 224 [some (.ref r), some (ax_i x1), some (ax_i x2), some (ax_i (V 520 x2)), some (ax_i (V 519 x2))] [ax_i (V 520 x2), .ref r, .ref r] rfl ?_
      refine ax_callI (pc' := 227) ⟨_, rfl⟩ ml_3_165 (rest := [.ref r]) rfl (fun ss hs => ⟨_, _, (az_e 0 rfl) ss hs⟩) (Nat.le_of_ble_eq_true rfl) rfl rfl h (fun r8 V8 hg8 hr8 h => ?_)
      refine ax_if (p1 := 234) (p2 := 230) ⟨_, rfl⟩ (by decide) rfl hr8 (fun hc => ?_) (fun hc => ?_)
      · have h := h.2 hc
        refine ax_mv 2 237 [some (.ref r), some (ax_i x1), some (ax_i x2), some (ax_i (V 520 x2)), some (ax_i (V 519 x2))] [ax_i (V 519 x2), ax_i 0, .ref r] rfl ?_
        refine ax_callN (pc' := 240) ⟨_, rfl⟩ ml_3_123 (rest := []) rfl (fun ss hs => ⟨_, _, (az_e 0 rfl) ss hs⟩) (Nat.le_of_ble_eq_true rfl) rfl rfl h (fun V9 hg9 h => ?_)
        refine ax_mv 1 309 [some (.ref r), some (ax_i x1), some (ax_i x2), some (ax_i (V 520 x2)), some (ax_i (V 519 x2))] [] rfl ?_
        refine ax_inc (x := x2) (pc' := 312) (L' := [some (.ref r), some (ax_i x1), some (ax_i (x2 + 1)), some (ax_i (V 520 x2)), some (ax_i (V 519 x2))]) ⟨_, rfl⟩ rfl rfl rfl rfl ?_
        refine ax_mv 1 49 [some (.ref r), some (ax_i x1), some (ax_i (x2 + 1)), some (ax_i (V 520 x2)), some (ax_i (V 519 x2))] [] rfl ?_
        exact h
      · have h := h.1 (Classical.not_not.mp hc)
        refine ax_mv 3 237 [some (.ref r), some (ax_i x1), some (ax_i x2), some (ax_i (V 520 x2)), some (ax_i (V 519 x2))] [ax_i (V 519 x2), ax_i 1, .ref r] rfl ?_
        refine ax_callN (pc' := 240) ⟨_, rfl⟩ ml_3_123 (rest := []) rfl (fun ss hs => ⟨_, _, (az_e 0 rfl) ss hs⟩) (Nat.le_of_ble_eq_true rfl) rfl rfl h (fun V10 hg10 h => ?_)
        refine ax_mv 1 309 [some (.ref r), some (ax_i x1), some (ax_i x2), some (ax_i (V 520 x2)), some (ax_i (V 519 x2))] [] rfl ?_
        refine ax_inc (x := x2) (pc' := 312) (L' := [some (.ref r), some (ax_i x1), some (ax_i (x2 + 1)), some (ax_i (V 520 x2)), some (ax_i (V 519 x2))]) ⟨_, rfl⟩ rfl rfl rfl rfl ?_
        refine ax_mv 1 49 [some (.ref r), some (ax_i x1), some (ax_i (x2 + 1)), some (ax_i (V 520 x2)), some (ax_i (V 519 x2))] [] rfl ?_
        exact h
    have t4 : (V 517 x2 = 22) → ax_R (az_W B (az_EJ B r)) ax_t d m_Judge_judgeNames 243 [some (.ref r), some (ax_i x1), some (ax_i x2), some (ax_i (V 520 x2)), some (ax_i (V 519 x2))] [] V (ax_Nr Φ) Θ := fun hk => by
      have h := h.2.2.2.2.1 hk
      refine ax_mv 3 246 [some (.ref r), some (ax_i x1), some (ax_i x2), some (ax_i (V 520 x2)), some (ax_i (V 519 x2))] [ax_i (-1), ax_i (V 520 x2), .ref r] rfl ?_
      refine ax_if2 (p1 := 253) (p2 := 249) ⟨_, rfl⟩ (by decide) rfl (hg _ _) (by decide) (fun hc => ?_) (fun hc => ?_)
      · have h := h.2 hc
        refine ax_mv 1 254 [some (.ref r), some (ax_i x1), some (ax_i x2), some (ax_i (V 520 x2)), some (ax_i (V 519 x2))] [ax_i 0, .ref r] rfl ?_
        exact h
      · have h := h.1 (Classical.not_not.mp hc)
        refine ax_mv 2 254 [some (.ref r), some (ax_i x1), some (ax_i x2), some (ax_i (V 520 x2)), some (ax_i (V 519 x2))] [ax_i 1, .ref r] rfl ?_
        exact h
    have tD : ¬ V 517 x2 = 2 → ¬ V 517 x2 = 3 → ¬ V 517 x2 = 20 → ¬ V 517 x2 = 21 → ¬ V 517 x2 = 22 → ax_R (az_W B (az_EJ B r)) ax_t d m_Judge_judgeNames 309 [some (.ref r), some (ax_i x1), some (ax_i x2), some (ax_i (V 520 x2)), some (ax_i (V 519 x2))] [] V (ax_Nr Φ) Θ := fun n0 n1 n2 n3 n4 => by
      have h := h.2.2.2.2.2 n0 n1 n2 n3 n4
      refine ax_inc (x := x2) (pc' := 312) (L' := [some (.ref r), some (ax_i x1), some (ax_i (x2 + 1)), some (ax_i (V 520 x2)), some (ax_i (V 519 x2))]) ⟨_, rfl⟩ rfl rfl rfl rfl ?_
      refine ax_mv 1 49 [some (.ref r), some (ax_i x1), some (ax_i (x2 + 1)), some (ax_i (V 520 x2)), some (ax_i (V 519 x2))] [] rfl ?_
      exact h
    by_cases e2 : V 517 x2 = 2
    · exact ax_ls (off := 50) (p1 := 144) ⟨_, rfl⟩ (hg _ _) (by decide) (by rw [e2]; rfl) (by decide) (t0 (e2))
    by_cases e3 : V 517 x2 = 3
    · exact ax_ls (off := 77) (p1 := 171) ⟨_, rfl⟩ (hg _ _) (by decide) (by rw [e3]; rfl) (by decide) (t1 (e3))
    by_cases e20 : V 517 x2 = 20
    · exact ax_ls (off := 103) (p1 := 197) ⟨_, rfl⟩ (hg _ _) (by decide) (by rw [e20]; rfl) (by decide) (t2 (e20))
    by_cases e21 : V 517 x2 = 21
    · exact ax_ls (off := 127) (p1 := 221) ⟨_, rfl⟩ (hg _ _) (by decide) (by rw [e21]; rfl) (by decide) (t3 (e21))
    by_cases e22 : V 517 x2 = 22
    · exact ax_ls (off := 149) (p1 := 243) ⟨_, rfl⟩ (hg _ _) (by decide) (by rw [e22]; rfl) (by decide) (t4 (e22))
    exact ax_ls (off := 215) (p1 := 309) ⟨_, rfl⟩ (hg _ _) (by decide) (by simp [Op.lookupswitch.offset, Ne.symm e2, Ne.symm e3, Ne.symm e20, Ne.symm e21, Ne.symm e22]) (by decide) (tD e2 e3 e20 e21 e22)
set_option maxRecDepth 20000 in
theorem r_Judge_judgeNames_254 {B : Nat} {r : Nat} {d : Nat} {V : ax_V} {Φ : ax_V → Prop} {Θ : ax_V → Prop} {x1 : Int} {x2 : Int} {y3 : Option Value} {x4 : Int} {s0 : Int} (hg : ax_g V) (hx1 : ax_rg x1) (hx2 : ax_rg x2) (hy3 : ax_y y3) (hx4 : ax_rg x4) (hs0 : ax_rg s0) (h : ax_N (az_W B (az_EJ B r)) d q_Judge_blameIf [.ref r, ax_i s0, ax_i x4] V (fun V1 => (0 ≤ x2 ∧ x2 < 700) ∧ ((V1 523 x2 = -1 → (0 ≤ x2 ∧ x2 < 700) ∧ ax_N (az_W B (az_EJ B r)) d q_Judge_blameIf [.ref r, ax_i 0, ax_i (V1 524 x2)] V1 (fun V2 => k_Judge_judgeNames_49 B r d x1 (x2 + 1) y3 (some (ax_i x4)) V2 Φ Θ) Θ) ∧ (¬ V1 523 x2 = -1 → (0 ≤ x2 ∧ x2 < 700) ∧ ax_I (az_W B (az_EJ B r)) d q_Judge_isTruth [.ref r, ax_i (V1 523 x2)] V1 (fun r3 V3 => ((r3 = 0 → (0 ≤ x2 ∧ x2 < 700) ∧ ax_N (az_W B (az_EJ B r)) d q_Judge_blameIf [.ref r, ax_i 1, ax_i (V3 524 x2)] V3 (fun V5 => k_Judge_judgeNames_49 B r d x1 (x2 + 1) y3 (some (ax_i x4)) V5 Φ Θ) Θ) ∧ (¬ r3 = 0 → (0 ≤ x2 ∧ x2 < 700) ∧ ax_N (az_W B (az_EJ B r)) d q_Judge_blameIf [.ref r, ax_i 0, ax_i (V3 524 x2)] V3 (fun V4 => k_Judge_judgeNames_49 B r d x1 (x2 + 1) y3 (some (ax_i x4)) V4 Φ Θ) Θ))) Θ))) Θ) : k_Judge_judgeNames_254 B r d x1 x2 y3 x4 s0 V Φ Θ := by
  refine ax_mv 1 256 [some (.ref r), some (ax_i x1), some (ax_i x2), y3, some (ax_i x4)] [ax_i x4, ax_i s0, .ref r] rfl ?_
  refine ax_callN (pc' := 259) ⟨_, rfl⟩ ml_3_123 (rest := []) rfl (fun ss hs => ⟨_, _, (az_e 0 rfl) ss hs⟩) (Nat.le_of_ble_eq_true rfl) rfl rfl h (fun V1 hg1 h => ?_)
  refine ax_mv 2 261 [some (.ref r), some (ax_i x1), some (ax_i x2), y3, some (ax_i x4)] [.ref r, .ref r] rfl ?_
  refine ax_gR (v := .ref (B + 16)) (pc' := 264) ⟨_, rfl⟩ fl_3_25 (az_e 0 rfl) rfl rfl ?_
  refine ax_gR (v := .ref (B + 23)) (pc' := 267) ⟨_, rfl⟩ fl_3_169 (az_b 16 rfl) rfl rfl ?_
  refine ax_mv 1 268 [some (.ref r), some (ax_i x1), some (ax_i x2), y3, some (ax_i x4)] [ax_i x2, .ref (B + 23), .ref r] rfl ?_
  obtain ⟨o7, h⟩ := h
  refine ax_ild (n := 700) (pc' := 269) ⟨_, rfl⟩ (az_b 23 rfl) (by decide) o7 rfl ?_
  refine ax_mv 1 270 [some (.ref r), some (ax_i x1), some (ax_i x2), y3, some (ax_i x4)] [ax_i (-1), ax_i (V1 523 x2), .ref r] rfl ?_
  refine ax_if2 (p1 := 293) (p2 := 273) ⟨_, rfl⟩ (by decide) rfl (hg1 _ _) (by decide) (fun hc => ?_) (fun hc => ?_)
  · have h := h.1 hc
    refine ax_mv 2 295 [some (.ref r), some (ax_i x1), some (ax_i x2), y3, some (ax_i x4)] [.ref r, ax_i 0, .ref r] rfl ?_
    refine ax_gR (v := .ref (B + 16)) (pc' := 298) ⟨_, rfl⟩ fl_3_25 (az_e 0 rfl) rfl rfl ?_
    refine ax_gR (v := .ref (B + 24)) (pc' := 301) ⟨_, rfl⟩ fl_3_172 (az_b 16 rfl) rfl rfl ?_
    refine ax_mv 1 302 [some (.ref r), some (ax_i x1), some (ax_i x2), y3, some (ax_i x4)] [ax_i x2, .ref (B + 24), ax_i 0, .ref r] rfl ?_
    obtain ⟨o8, h⟩ := h
    refine ax_ild (n := 700) (pc' := 303) ⟨_, rfl⟩ (az_b 24 rfl) (by decide) o8 rfl ?_
    refine ax_callN (pc' := 306) ⟨_, rfl⟩ ml_3_123 (rest := []) rfl (fun ss hs => ⟨_, _, (az_e 0 rfl) ss hs⟩) (Nat.le_of_ble_eq_true rfl) rfl rfl h (fun V2 hg2 h => ?_)
    refine ax_mv 1 309 [some (.ref r), some (ax_i x1), some (ax_i x2), y3, some (ax_i x4)] [] rfl ?_
    refine ax_inc (x := x2) (pc' := 312) (L' := [some (.ref r), some (ax_i x1), some (ax_i (x2 + 1)), y3, some (ax_i x4)]) ⟨_, rfl⟩ rfl rfl rfl rfl ?_
    refine ax_mv 1 49 [some (.ref r), some (ax_i x1), some (ax_i (x2 + 1)), y3, some (ax_i x4)] [] rfl ?_
    exact h
  · have h := h.2 hc
    refine ax_mv 2 275 [some (.ref r), some (ax_i x1), some (ax_i x2), y3, some (ax_i x4)] [.ref r, .ref r, .ref r] rfl ?_
    refine ax_gR (v := .ref (B + 16)) (pc' := 278) ⟨_, rfl⟩ fl_3_25 (az_e 0 rfl) rfl rfl ?_
    refine ax_gR (v := .ref (B + 23)) (pc' := 281) ⟨_, rfl⟩ fl_3_169 (az_b 16 rfl) rfl rfl ?_
    refine ax_mv 1 282 [some (.ref r), some (ax_i x1), some (ax_i x2), y3, some (ax_i x4)] [ax_i x2, .ref (B + 23), .ref r, .ref r] rfl ?_
    obtain ⟨o9, h⟩ := h
    refine ax_ild (n := 700) (pc' := 283) ⟨_, rfl⟩ (az_b 23 rfl) (by decide) o9 rfl ?_
    refine ax_callI (pc' := 286) ⟨_, rfl⟩ ml_3_165 (rest := [.ref r]) rfl (fun ss hs => ⟨_, _, (az_e 0 rfl) ss hs⟩) (Nat.le_of_ble_eq_true rfl) rfl rfl h (fun r3 V3 hg3 hr3 h => ?_)
    refine ax_if (p1 := 293) (p2 := 289) ⟨_, rfl⟩ (by decide) rfl hr3 (fun hc => ?_) (fun hc => ?_)
    · have h := h.2 hc
      refine ax_mv 2 295 [some (.ref r), some (ax_i x1), some (ax_i x2), y3, some (ax_i x4)] [.ref r, ax_i 0, .ref r] rfl ?_
      refine ax_gR (v := .ref (B + 16)) (pc' := 298) ⟨_, rfl⟩ fl_3_25 (az_e 0 rfl) rfl rfl ?_
      refine ax_gR (v := .ref (B + 24)) (pc' := 301) ⟨_, rfl⟩ fl_3_172 (az_b 16 rfl) rfl rfl ?_
      refine ax_mv 1 302 [some (.ref r), some (ax_i x1), some (ax_i x2), y3, some (ax_i x4)] [ax_i x2, .ref (B + 24), ax_i 0, .ref r] rfl ?_
      obtain ⟨o10, h⟩ := h
      refine ax_ild (n := 700) (pc' := 303) ⟨_, rfl⟩ (az_b 24 rfl) (by decide) o10 rfl ?_
      refine ax_callN (pc' := 306) ⟨_, rfl⟩ ml_3_123 (rest := []) rfl (fun ss hs => ⟨_, _, (az_e 0 rfl) ss hs⟩) (Nat.le_of_ble_eq_true rfl) rfl rfl h (fun V4 hg4 h => ?_)
      refine ax_mv 1 309 [some (.ref r), some (ax_i x1), some (ax_i x2), y3, some (ax_i x4)] [] rfl ?_
      refine ax_inc (x := x2) (pc' := 312) (L' := [some (.ref r), some (ax_i x1), some (ax_i (x2 + 1)), y3, some (ax_i x4)]) ⟨_, rfl⟩ rfl rfl rfl rfl ?_
      refine ax_mv 1 49 [some (.ref r), some (ax_i x1), some (ax_i (x2 + 1)), y3, some (ax_i x4)] [] rfl ?_
      exact h
    · have h := h.1 (Classical.not_not.mp hc)
      refine ax_mv 3 295 [some (.ref r), some (ax_i x1), some (ax_i x2), y3, some (ax_i x4)] [.ref r, ax_i 1, .ref r] rfl ?_
      refine ax_gR (v := .ref (B + 16)) (pc' := 298) ⟨_, rfl⟩ fl_3_25 (az_e 0 rfl) rfl rfl ?_
      refine ax_gR (v := .ref (B + 24)) (pc' := 301) ⟨_, rfl⟩ fl_3_172 (az_b 16 rfl) rfl rfl ?_
      refine ax_mv 1 302 [some (.ref r), some (ax_i x1), some (ax_i x2), y3, some (ax_i x4)] [ax_i x2, .ref (B + 24), ax_i 1, .ref r] rfl ?_
      obtain ⟨o11, h⟩ := h
      refine ax_ild (n := 700) (pc' := 303) ⟨_, rfl⟩ (az_b 24 rfl) (by decide) o11 rfl ?_
      refine ax_callN (pc' := 306) ⟨_, rfl⟩ ml_3_123 (rest := []) rfl (fun ss hs => ⟨_, _, (az_e 0 rfl) ss hs⟩) (Nat.le_of_ble_eq_true rfl) rfl rfl h (fun V5 hg5 h => ?_)
      refine ax_mv 1 309 [some (.ref r), some (ax_i x1), some (ax_i x2), y3, some (ax_i x4)] [] rfl ?_
      refine ax_inc (x := x2) (pc' := 312) (L' := [some (.ref r), some (ax_i x1), some (ax_i (x2 + 1)), y3, some (ax_i x4)]) ⟨_, rfl⟩ rfl rfl rfl rfl ?_
      refine ax_mv 1 49 [some (.ref r), some (ax_i x1), some (ax_i (x2 + 1)), y3, some (ax_i x4)] [] rfl ?_
      exact h
set_option maxRecDepth 20000 in
theorem r_Judge_judgeNames {B : Nat} {r : Nat} {d : Nat} {V : ax_V} {Φ : ax_V → Prop} {Θ : ax_V → Prop} {x1 : Int} (hg : ax_g V) (hx1 : ax_rg x1) (h : (0 ≤ x1 ∧ x1 < 8) ∧ ax_I (az_W B (az_EJ B r)) d q_Program_find [.ref B, ax_i (V 501 x1), ax_i x1] V (fun r1 V1 => ((r1 = -1 → (0 ≤ x1 ∧ x1 < 8) ∧ ax_N (az_W B (az_EJ B r)) d q_Judge_blameIf [.ref r, ax_i 0, ax_i (V1 502 x1)] V1 (fun V2 => (0 ≤ x1 ∧ x1 < 9) ∧ k_Judge_judgeNames_49 B r d x1 (V2 508 x1) none none V2 Φ Θ) Θ) ∧ (¬ r1 = -1 → (0 ≤ x1 ∧ x1 < 8) ∧ ax_N (az_W B (az_EJ B r)) d q_Judge_blameIf [.ref r, ax_i 1, ax_i (V1 502 x1)] V1 (fun V3 => (0 ≤ x1 ∧ x1 < 9) ∧ k_Judge_judgeNames_49 B r d x1 (V3 508 x1) none none V3 Φ Θ) Θ))) Θ) : ax_N (az_W B (az_EJ B r)) (d + 1) q_Judge_judgeNames [.ref r, ax_i x1] V Φ Θ := by
  refine ax_T.of (M := m_Judge_judgeNames) rfl (Nat.le_of_ble_eq_true rfl) ?_
  refine ax_mv 0 0 [some (.ref r), some (ax_i x1), none, none, none] [] rfl ?_
  refine ax_mv 2 2 [some (.ref r), some (ax_i x1), none, none, none] [.ref r, .ref r] rfl ?_
  refine ax_gR (v := .ref B) (pc' := 5) ⟨_, rfl⟩ fl_3_15 (az_e 0 rfl) rfl rfl ?_
  refine ax_mv 1 6 [some (.ref r), some (ax_i x1), none, none, none] [.ref r, .ref B, .ref r] rfl ?_
  refine ax_gR (v := .ref B) (pc' := 9) ⟨_, rfl⟩ fl_3_15 (az_e 0 rfl) rfl rfl ?_
  refine ax_gR (v := .ref (B + 1)) (pc' := 12) ⟨_, rfl⟩ fl_3_139 (az_b 0 rfl) rfl rfl ?_
  refine ax_mv 1 13 [some (.ref r), some (ax_i x1), none, none, none] [ax_i x1, .ref (B + 1), .ref B, .ref r] rfl ?_
  obtain ⟨o12, h⟩ := h
  refine ax_ild (n := 8) (pc' := 14) ⟨_, rfl⟩ (az_b 1 rfl) (by decide) o12 rfl ?_
  refine ax_mv 1 15 [some (.ref r), some (ax_i x1), none, none, none] [ax_i x1, ax_i (V 501 x1), .ref B, .ref r] rfl ?_
  refine ax_callI (pc' := 18) ⟨_, rfl⟩ ml_3_142 (rest := [.ref r]) rfl (fun ss hs => ⟨_, _, (az_b 0 rfl) ss hs⟩) (Nat.le_of_ble_eq_true rfl) rfl rfl h (fun r1 V1 hg1 hr1 h => ?_)
  refine ax_mv 1 19 [some (.ref r), some (ax_i x1), none, none, none] [ax_i (-1), ax_i r1, .ref r] rfl ?_
  refine ax_if2 (p1 := 26) (p2 := 22) ⟨_, rfl⟩ (by decide) rfl hr1 (by decide) (fun hc => ?_) (fun hc => ?_)
  · have h := h.1 hc
    refine ax_mv 2 28 [some (.ref r), some (ax_i x1), none, none, none] [.ref r, ax_i 0, .ref r] rfl ?_
    refine ax_gR (v := .ref B) (pc' := 31) ⟨_, rfl⟩ fl_3_15 (az_e 0 rfl) rfl rfl ?_
    refine ax_gR (v := .ref (B + 2)) (pc' := 34) ⟨_, rfl⟩ fl_3_146 (az_b 0 rfl) rfl rfl ?_
    refine ax_mv 1 35 [some (.ref r), some (ax_i x1), none, none, none] [ax_i x1, .ref (B + 2), ax_i 0, .ref r] rfl ?_
    obtain ⟨o13, h⟩ := h
    refine ax_ild (n := 8) (pc' := 36) ⟨_, rfl⟩ (az_b 2 rfl) (by decide) o13 rfl ?_
    refine ax_callN (pc' := 39) ⟨_, rfl⟩ ml_3_123 (rest := []) rfl (fun ss hs => ⟨_, _, (az_e 0 rfl) ss hs⟩) (Nat.le_of_ble_eq_true rfl) rfl rfl h (fun V2 hg2 h => ?_)
    refine ax_mv 1 40 [some (.ref r), some (ax_i x1), none, none, none] [.ref r] rfl ?_
    refine ax_gR (v := .ref B) (pc' := 43) ⟨_, rfl⟩ fl_3_15 (az_e 0 rfl) rfl rfl ?_
    refine ax_gR (v := .ref (B + 8)) (pc' := 46) ⟨_, rfl⟩ fl_3_149 (az_b 0 rfl) rfl rfl ?_
    refine ax_mv 1 47 [some (.ref r), some (ax_i x1), none, none, none] [ax_i x1, .ref (B + 8)] rfl ?_
    obtain ⟨o14, h⟩ := h
    refine ax_ild (n := 9) (pc' := 48) ⟨_, rfl⟩ (az_b 8 rfl) (by decide) o14 rfl ?_
    refine ax_sti (i := 0) (k := 2) (n := 1) (pc' := 49) (L' := [some (.ref r), some (ax_i x1), some (ax_i (V2 508 x1)), none, none]) ⟨_, rfl⟩ rfl rfl rfl (Nat.le_of_ble_eq_true rfl) rfl rfl ?_
    exact h
  · have h := h.2 hc
    refine ax_mv 3 28 [some (.ref r), some (ax_i x1), none, none, none] [.ref r, ax_i 1, .ref r] rfl ?_
    refine ax_gR (v := .ref B) (pc' := 31) ⟨_, rfl⟩ fl_3_15 (az_e 0 rfl) rfl rfl ?_
    refine ax_gR (v := .ref (B + 2)) (pc' := 34) ⟨_, rfl⟩ fl_3_146 (az_b 0 rfl) rfl rfl ?_
    refine ax_mv 1 35 [some (.ref r), some (ax_i x1), none, none, none] [ax_i x1, .ref (B + 2), ax_i 1, .ref r] rfl ?_
    obtain ⟨o15, h⟩ := h
    refine ax_ild (n := 8) (pc' := 36) ⟨_, rfl⟩ (az_b 2 rfl) (by decide) o15 rfl ?_
    refine ax_callN (pc' := 39) ⟨_, rfl⟩ ml_3_123 (rest := []) rfl (fun ss hs => ⟨_, _, (az_e 0 rfl) ss hs⟩) (Nat.le_of_ble_eq_true rfl) rfl rfl h (fun V3 hg3 h => ?_)
    refine ax_mv 1 40 [some (.ref r), some (ax_i x1), none, none, none] [.ref r] rfl ?_
    refine ax_gR (v := .ref B) (pc' := 43) ⟨_, rfl⟩ fl_3_15 (az_e 0 rfl) rfl rfl ?_
    refine ax_gR (v := .ref (B + 8)) (pc' := 46) ⟨_, rfl⟩ fl_3_149 (az_b 0 rfl) rfl rfl ?_
    refine ax_mv 1 47 [some (.ref r), some (ax_i x1), none, none, none] [ax_i x1, .ref (B + 8)] rfl ?_
    obtain ⟨o16, h⟩ := h
    refine ax_ild (n := 9) (pc' := 48) ⟨_, rfl⟩ (az_b 8 rfl) (by decide) o16 rfl ?_
    refine ax_sti (i := 0) (k := 2) (n := 1) (pc' := 49) (L' := [some (.ref r), some (ax_i x1), some (ax_i (V3 508 x1)), none, none]) ⟨_, rfl⟩ rfl rfl rfl (Nat.le_of_ble_eq_true rfl) rfl rfl ?_
    exact h
theorem r_Judge_isTruth {B : Nat} {r : Nat} {d : Nat} {V : ax_V} {Φ : Int → ax_V → Prop} {Θ : ax_V → Prop} {x1 : Int} (hg : ax_g V) (hx1 : ax_rg x1) (h : (0 ≤ x1 ∧ x1 < 208) ∧ ((V 533 x1 = -1 → Φ 0 V) ∧ (¬ V 533 x1 = -1 → (0 ≤ x1 ∧ x1 < 208) ∧ ((V 535 x1 = 1 → Φ 1 V) ∧ (¬ V 535 x1 = 1 → Φ 0 V))))) : ax_I (az_W B (az_EJ B r)) (d + 1) q_Judge_isTruth [.ref r, ax_i x1] V Φ Θ := by
  refine ax_T.of (M := m_Judge_isTruth) rfl (Nat.le_of_ble_eq_true rfl) ?_
  refine ax_mv 0 0 [some (.ref r), some (ax_i x1)] [] rfl ?_
  refine ax_mv 1 1 [some (.ref r), some (ax_i x1)] [.ref r] rfl ?_
  refine ax_gR (v := .ref (B + 32)) (pc' := 4) ⟨_, rfl⟩ fl_3_30 (az_e 0 rfl) rfl rfl ?_
  refine ax_gR (v := .ref (B + 33)) (pc' := 7) ⟨_, rfl⟩ fl_3_85 (az_b 32 rfl) rfl rfl ?_
  refine ax_mv 1 8 [some (.ref r), some (ax_i x1)] [ax_i x1, .ref (B + 33)] rfl ?_
  obtain ⟨o1, h⟩ := h
  refine ax_ild (n := 208) (pc' := 9) ⟨_, rfl⟩ (az_b 33 rfl) (by decide) o1 rfl ?_
  refine ax_mv 1 10 [some (.ref r), some (ax_i x1)] [ax_i (-1), ax_i (V 533 x1)] rfl ?_
  refine ax_if2 (p1 := 30) (p2 := 13) ⟨_, rfl⟩ (by decide) rfl (hg _ _) (by decide) (fun hc => ?_) (fun hc => ?_)
  · have h := h.1 hc
    refine ax_mv 1 31 [some (.ref r), some (ax_i x1)] [ax_i 0] rfl ?_
    exact ax_iret ⟨_, rfl⟩ rfl (ax_nbv (by decide)) (by decide) hg h
  · have h := h.2 hc
    refine ax_mv 1 14 [some (.ref r), some (ax_i x1)] [.ref r] rfl ?_
    refine ax_gR (v := .ref (B + 32)) (pc' := 17) ⟨_, rfl⟩ fl_3_30 (az_e 0 rfl) rfl rfl ?_
    refine ax_gR (v := .ref (B + 35)) (pc' := 20) ⟨_, rfl⟩ fl_3_91 (az_b 32 rfl) rfl rfl ?_
    refine ax_mv 1 21 [some (.ref r), some (ax_i x1)] [ax_i x1, .ref (B + 35)] rfl ?_
    obtain ⟨o2, h⟩ := h
    refine ax_ild (n := 208) (pc' := 22) ⟨_, rfl⟩ (az_b 35 rfl) (by decide) o2 rfl ?_
    refine ax_mv 1 23 [some (.ref r), some (ax_i x1)] [ax_i 1, ax_i (V 535 x1)] rfl ?_
    refine ax_if2 (p1 := 30) (p2 := 26) ⟨_, rfl⟩ (by decide) rfl (hg _ _) (by decide) (fun hc => ?_) (fun hc => ?_)
    · have h := h.2 hc
      refine ax_mv 1 31 [some (.ref r), some (ax_i x1)] [ax_i 0] rfl ?_
      exact ax_iret ⟨_, rfl⟩ rfl (ax_nbv (by decide)) (by decide) hg h
    · have h := h.1 (Classical.not_not.mp hc)
      refine ax_mv 2 31 [some (.ref r), some (ax_i x1)] [ax_i 1] rfl ?_
      exact ax_iret ⟨_, rfl⟩ rfl (ax_nbv (by decide)) (by decide) hg h
abbrev k_Judge_judgeStates_10 (B : Nat) (r : Nat) (d : Nat) (x1 : Int) (x2 : Int) (y3 : Option Value) (y4 : Option Value) (V : ax_V) (Φ : ax_V → Prop) (Θ : ax_V → Prop) : Prop := ax_R (az_W B (az_EJ B r)) ax_t d m_Judge_judgeStates 10 [some (.ref r), some (ax_i x1), some (ax_i x2), y3, y4] [] V (ax_Nr Φ) Θ
abbrev k_Judge_judgeStates_38 (B : Nat) (r : Nat) (d : Nat) (x1 : Int) (x2 : Int) (x3 : Int) (x4 : Int) (V : ax_V) (Φ : ax_V → Prop) (Θ : ax_V → Prop) : Prop := ax_R (az_W B (az_EJ B r)) ax_t d m_Judge_judgeStates 38 [some (.ref r), some (ax_i x1), some (ax_i x2), some (ax_i x3), some (ax_i x4)] [] V (ax_Nr Φ) Θ
abbrev k_Judge_judgeStates_111 (B : Nat) (r : Nat) (d : Nat) (x1 : Int) (x2 : Int) (x3 : Int) (x4 : Int) (V : ax_V) (Φ : ax_V → Prop) (Θ : ax_V → Prop) : Prop := ax_R (az_W B (az_EJ B r)) ax_t d m_Judge_judgeStates 111 [some (.ref r), some (ax_i x1), some (ax_i x2), some (ax_i x3), some (ax_i x4)] [] V (ax_Nr Φ) Θ
set_option maxRecDepth 20000 in
theorem r_Judge_judgeStates_10 {B : Nat} {r : Nat} {d : Nat} {V : ax_V} {Φ : ax_V → Prop} {Θ : ax_V → Prop} {x1 : Int} {x2 : Int} {y3 : Option Value} {y4 : Option Value} (hg : ax_g V) (hx1 : ax_rg x1) (hx2 : ax_rg x2) (hy3 : ax_y y3) (hy4 : ax_y y4) (h : (0 ≤ x1 + 1 ∧ x1 + 1 < 9) ∧ ((V 510 (x1 + 1) ≤ x2 → Φ V) ∧ (x2 < V 510 (x1 + 1) → (0 ≤ x2 ∧ x2 < 351) ∧ k_Judge_judgeStates_38 B r d x1 x2 (V 558 x2) (V 558 x2) V Φ Θ))) : k_Judge_judgeStates_10 B r d x1 x2 y3 y4 V Φ Θ := by
  refine ax_mv 2 12 [some (.ref r), some (ax_i x1), some (ax_i x2), y3, y4] [.ref r, ax_i x2] rfl ?_
  refine ax_gR (v := .ref B) (pc' := 15) ⟨_, rfl⟩ fl_3_15 (az_e 0 rfl) rfl rfl ?_
  refine ax_gR (v := .ref (B + 10)) (pc' := 18) ⟨_, rfl⟩ fl_3_175 (az_b 0 rfl) rfl rfl ?_
  refine ax_mv 2 20 [some (.ref r), some (ax_i x1), some (ax_i x2), y3, y4] [ax_i 1, ax_i x1, .ref (B + 10), ax_i x2] rfl ?_
  refine ax_add (pc' := 21) ⟨_, rfl⟩ rfl ?_
  obtain ⟨o1, h⟩ := h
  refine ax_ild (n := 9) (pc' := 22) ⟨_, rfl⟩ (az_b 10 rfl) (by decide) o1 rfl ?_
  refine ax_if2 (p1 := 184) (p2 := 25) ⟨_, rfl⟩ (by decide) rfl hx2 (hg _ _) (fun hc => ?_) (fun hc => ?_)
  · have h := h.1 hc
    exact ax_nret ⟨_, rfl⟩ rfl hg h
  · have h := h.2 (Int.not_le.mp hc)
    refine ax_mv 1 26 [some (.ref r), some (ax_i x1), some (ax_i x2), y3, y4] [.ref r] rfl ?_
    refine ax_gR (v := .ref (B + 56)) (pc' := 29) ⟨_, rfl⟩ fl_3_40 (az_e 0 rfl) rfl rfl ?_
    refine ax_gR (v := .ref (B + 58)) (pc' := 32) ⟨_, rfl⟩ fl_3_178 (az_b 56 rfl) rfl rfl ?_
    refine ax_mv 1 33 [some (.ref r), some (ax_i x1), some (ax_i x2), y3, y4] [ax_i x2, .ref (B + 58)] rfl ?_
    obtain ⟨o2, h⟩ := h
    refine ax_ild (n := 351) (pc' := 34) ⟨_, rfl⟩ (az_b 58 rfl) (by decide) o2 rfl ?_
    refine ax_sti (i := 0) (k := 3) (n := 1) (pc' := 35) (L' := [some (.ref r), some (ax_i x1), some (ax_i x2), some (ax_i (V 558 x2)), y4]) ⟨_, rfl⟩ rfl rfl rfl (Nat.le_of_ble_eq_true rfl) rfl rfl ?_
    refine ax_mv 1 36 [some (.ref r), some (ax_i x1), some (ax_i x2), some (ax_i (V 558 x2)), y4] [ax_i (V 558 x2)] rfl ?_
    refine ax_sti (i := 0) (k := 4) (n := 2) (pc' := 38) (L' := [some (.ref r), some (ax_i x1), some (ax_i x2), some (ax_i (V 558 x2)), some (ax_i (V 558 x2))]) ⟨_, rfl⟩ rfl rfl rfl (Nat.le_of_ble_eq_true rfl) rfl rfl ?_
    exact h
set_option maxRecDepth 20000 in
theorem r_Judge_judgeStates_38 {B : Nat} {r : Nat} {d : Nat} {V : ax_V} {Φ : ax_V → Prop} {Θ : ax_V → Prop} {x1 : Int} {x2 : Int} {x3 : Int} {x4 : Int} (hg : ax_g V) (hx1 : ax_rg x1) (hx2 : ax_rg x2) (hx3 : ax_rg x3) (hx4 : ax_rg x4) (h : (0 ≤ x2 + 1 ∧ x2 + 1 < 351) ∧ ((V 558 (x2 + 1) ≤ x4 → (0 ≤ x2 ∧ x2 < 351) ∧ k_Judge_judgeStates_111 B r d x1 x2 x3 (V 559 x2) V Φ Θ) ∧ (x4 < V 558 (x2 + 1) → (0 ≤ x4 ∧ x4 < 350) ∧ (0 ≤ x3 ∧ x3 < 350) ∧ ((V 564 x4 = V 564 x3 → (0 ≤ x2 ∧ x2 < 350) ∧ ax_N (az_W B (az_EJ B r)) d q_Judge_blameIf [.ref r, ax_i 0, ax_i (V 557 x2)] V (fun V1 => k_Judge_judgeStates_38 B r d x1 x2 x3 (x4 + 1) V1 Φ Θ) Θ) ∧ (¬ V 564 x4 = V 564 x3 → (0 ≤ x2 ∧ x2 < 350) ∧ ax_N (az_W B (az_EJ B r)) d q_Judge_blameIf [.ref r, ax_i 1, ax_i (V 557 x2)] V (fun V2 => k_Judge_judgeStates_38 B r d x1 x2 x3 (x4 + 1) V2 Φ Θ) Θ))))) : k_Judge_judgeStates_38 B r d x1 x2 x3 x4 V Φ Θ := by
  refine ax_mv 2 41 [some (.ref r), some (ax_i x1), some (ax_i x2), some (ax_i x3), some (ax_i x4)] [.ref r, ax_i x4] rfl ?_
  refine ax_gR (v := .ref (B + 56)) (pc' := 44) ⟨_, rfl⟩ fl_3_40 (az_e 0 rfl) rfl rfl ?_
  refine ax_gR (v := .ref (B + 58)) (pc' := 47) ⟨_, rfl⟩ fl_3_178 (az_b 56 rfl) rfl rfl ?_
  refine ax_mv 2 49 [some (.ref r), some (ax_i x1), some (ax_i x2), some (ax_i x3), some (ax_i x4)] [ax_i 1, ax_i x2, .ref (B + 58), ax_i x4] rfl ?_
  refine ax_add (pc' := 50) ⟨_, rfl⟩ rfl ?_
  obtain ⟨o3, h⟩ := h
  refine ax_ild (n := 351) (pc' := 51) ⟨_, rfl⟩ (az_b 58 rfl) (by decide) o3 rfl ?_
  refine ax_if2 (p1 := 100) (p2 := 54) ⟨_, rfl⟩ (by decide) rfl hx4 (hg _ _) (fun hc => ?_) (fun hc => ?_)
  · have h := h.1 hc
    refine ax_mv 1 101 [some (.ref r), some (ax_i x1), some (ax_i x2), some (ax_i x3), some (ax_i x4)] [.ref r] rfl ?_
    refine ax_gR (v := .ref (B + 56)) (pc' := 104) ⟨_, rfl⟩ fl_3_40 (az_e 0 rfl) rfl rfl ?_
    refine ax_gR (v := .ref (B + 59)) (pc' := 107) ⟨_, rfl⟩ fl_3_184 (az_b 56 rfl) rfl rfl ?_
    refine ax_mv 1 108 [some (.ref r), some (ax_i x1), some (ax_i x2), some (ax_i x3), some (ax_i x4)] [ax_i x2, .ref (B + 59)] rfl ?_
    obtain ⟨o4, h⟩ := h
    refine ax_ild (n := 351) (pc' := 109) ⟨_, rfl⟩ (az_b 59 rfl) (by decide) o4 rfl ?_
    refine ax_sti (i := 0) (k := 4) (n := 2) (pc' := 111) (L' := [some (.ref r), some (ax_i x1), some (ax_i x2), some (ax_i x3), some (ax_i (V 559 x2))]) ⟨_, rfl⟩ rfl rfl rfl (Nat.le_of_ble_eq_true rfl) rfl rfl ?_
    exact h
  · have h := h.2 (Int.not_le.mp hc)
    refine ax_mv 2 56 [some (.ref r), some (ax_i x1), some (ax_i x2), some (ax_i x3), some (ax_i x4)] [.ref r, .ref r] rfl ?_
    refine ax_gR (v := .ref (B + 56)) (pc' := 59) ⟨_, rfl⟩ fl_3_40 (az_e 0 rfl) rfl rfl ?_
    refine ax_gR (v := .ref (B + 64)) (pc' := 62) ⟨_, rfl⟩ fl_3_127 (az_b 56 rfl) rfl rfl ?_
    refine ax_mv 1 64 [some (.ref r), some (ax_i x1), some (ax_i x2), some (ax_i x3), some (ax_i x4)] [ax_i x4, .ref (B + 64), .ref r] rfl ?_
    obtain ⟨o5, h⟩ := h
    refine ax_ild (n := 350) (pc' := 65) ⟨_, rfl⟩ (az_b 64 rfl) (by decide) o5 rfl ?_
    refine ax_mv 1 66 [some (.ref r), some (ax_i x1), some (ax_i x2), some (ax_i x3), some (ax_i x4)] [.ref r, ax_i (V 564 x4), .ref r] rfl ?_
    refine ax_gR (v := .ref (B + 56)) (pc' := 69) ⟨_, rfl⟩ fl_3_40 (az_e 0 rfl) rfl rfl ?_
    refine ax_gR (v := .ref (B + 64)) (pc' := 72) ⟨_, rfl⟩ fl_3_127 (az_b 56 rfl) rfl rfl ?_
    refine ax_mv 1 73 [some (.ref r), some (ax_i x1), some (ax_i x2), some (ax_i x3), some (ax_i x4)] [ax_i x3, .ref (B + 64), ax_i (V 564 x4), .ref r] rfl ?_
    obtain ⟨o6, h⟩ := h
    refine ax_ild (n := 350) (pc' := 74) ⟨_, rfl⟩ (az_b 64 rfl) (by decide) o6 rfl ?_
    refine ax_if2 (p1 := 81) (p2 := 77) ⟨_, rfl⟩ (by decide) rfl (hg _ _) (hg _ _) (fun hc => ?_) (fun hc => ?_)
    · have h := h.1 hc
      refine ax_mv 2 83 [some (.ref r), some (ax_i x1), some (ax_i x2), some (ax_i x3), some (ax_i x4)] [.ref r, ax_i 0, .ref r] rfl ?_
      refine ax_gR (v := .ref (B + 56)) (pc' := 86) ⟨_, rfl⟩ fl_3_40 (az_e 0 rfl) rfl rfl ?_
      refine ax_gR (v := .ref (B + 57)) (pc' := 89) ⟨_, rfl⟩ fl_3_181 (az_b 56 rfl) rfl rfl ?_
      refine ax_mv 1 90 [some (.ref r), some (ax_i x1), some (ax_i x2), some (ax_i x3), some (ax_i x4)] [ax_i x2, .ref (B + 57), ax_i 0, .ref r] rfl ?_
      obtain ⟨o7, h⟩ := h
      refine ax_ild (n := 350) (pc' := 91) ⟨_, rfl⟩ (az_b 57 rfl) (by decide) o7 rfl ?_
      refine ax_callN (pc' := 94) ⟨_, rfl⟩ ml_3_123 (rest := []) rfl (fun ss hs => ⟨_, _, (az_e 0 rfl) ss hs⟩) (Nat.le_of_ble_eq_true rfl) rfl rfl h (fun V1 hg1 h => ?_)
      refine ax_inc (x := x4) (pc' := 97) (L' := [some (.ref r), some (ax_i x1), some (ax_i x2), some (ax_i x3), some (ax_i (x4 + 1))]) ⟨_, rfl⟩ rfl rfl rfl rfl ?_
      refine ax_mv 1 38 [some (.ref r), some (ax_i x1), some (ax_i x2), some (ax_i x3), some (ax_i (x4 + 1))] [] rfl ?_
      exact h
    · have h := h.2 hc
      refine ax_mv 3 83 [some (.ref r), some (ax_i x1), some (ax_i x2), some (ax_i x3), some (ax_i x4)] [.ref r, ax_i 1, .ref r] rfl ?_
      refine ax_gR (v := .ref (B + 56)) (pc' := 86) ⟨_, rfl⟩ fl_3_40 (az_e 0 rfl) rfl rfl ?_
      refine ax_gR (v := .ref (B + 57)) (pc' := 89) ⟨_, rfl⟩ fl_3_181 (az_b 56 rfl) rfl rfl ?_
      refine ax_mv 1 90 [some (.ref r), some (ax_i x1), some (ax_i x2), some (ax_i x3), some (ax_i x4)] [ax_i x2, .ref (B + 57), ax_i 1, .ref r] rfl ?_
      obtain ⟨o8, h⟩ := h
      refine ax_ild (n := 350) (pc' := 91) ⟨_, rfl⟩ (az_b 57 rfl) (by decide) o8 rfl ?_
      refine ax_callN (pc' := 94) ⟨_, rfl⟩ ml_3_123 (rest := []) rfl (fun ss hs => ⟨_, _, (az_e 0 rfl) ss hs⟩) (Nat.le_of_ble_eq_true rfl) rfl rfl h (fun V2 hg2 h => ?_)
      refine ax_inc (x := x4) (pc' := 97) (L' := [some (.ref r), some (ax_i x1), some (ax_i x2), some (ax_i x3), some (ax_i (x4 + 1))]) ⟨_, rfl⟩ rfl rfl rfl rfl ?_
      refine ax_mv 1 38 [some (.ref r), some (ax_i x1), some (ax_i x2), some (ax_i x3), some (ax_i (x4 + 1))] [] rfl ?_
      exact h
set_option maxRecDepth 20000 in
theorem r_Judge_judgeStates_111 {B : Nat} {r : Nat} {d : Nat} {V : ax_V} {Φ : ax_V → Prop} {Θ : ax_V → Prop} {x1 : Int} {x2 : Int} {x3 : Int} {x4 : Int} (hg : ax_g V) (hx1 : ax_rg x1) (hx2 : ax_rg x2) (hx3 : ax_rg x3) (hx4 : ax_rg x4) (h : (0 ≤ x2 + 1 ∧ x2 + 1 < 351) ∧ ((V 559 (x2 + 1) ≤ x4 → k_Judge_judgeStates_10 B r d x1 (x2 + 1) (some (ax_i x3)) (some (ax_i x4)) V Φ Θ) ∧ (x4 < V 559 (x2 + 1) → (0 ≤ x4 ∧ x4 < 350) ∧ (0 ≤ x2 + 1 ∧ x2 + 1 < 351) ∧ ax_rg ((V 558 (x2 + 1)) - x3) ∧ ((V 572 x4 < (V 558 (x2 + 1)) - x3 → (0 ≤ x4 ∧ x4 < 350) ∧ ax_N (az_W B (az_EJ B r)) d q_Judge_blameIf [.ref r, ax_i 0, ax_i (V 573 x4)] V (fun V1 => k_Judge_judgeStates_111 B r d x1 x2 x3 (x4 + 1) V1 Φ Θ) Θ) ∧ ((V 558 (x2 + 1)) - x3 ≤ V 572 x4 → (0 ≤ x4 ∧ x4 < 350) ∧ ax_N (az_W B (az_EJ B r)) d q_Judge_blameIf [.ref r, ax_i 1, ax_i (V 573 x4)] V (fun V2 => k_Judge_judgeStates_111 B r d x1 x2 x3 (x4 + 1) V2 Φ Θ) Θ))))) : k_Judge_judgeStates_111 B r d x1 x2 x3 x4 V Φ Θ := by
  refine ax_mv 2 114 [some (.ref r), some (ax_i x1), some (ax_i x2), some (ax_i x3), some (ax_i x4)] [.ref r, ax_i x4] rfl ?_
  refine ax_gR (v := .ref (B + 56)) (pc' := 117) ⟨_, rfl⟩ fl_3_40 (az_e 0 rfl) rfl rfl ?_
  refine ax_gR (v := .ref (B + 59)) (pc' := 120) ⟨_, rfl⟩ fl_3_184 (az_b 56 rfl) rfl rfl ?_
  refine ax_mv 2 122 [some (.ref r), some (ax_i x1), some (ax_i x2), some (ax_i x3), some (ax_i x4)] [ax_i 1, ax_i x2, .ref (B + 59), ax_i x4] rfl ?_
  refine ax_add (pc' := 123) ⟨_, rfl⟩ rfl ?_
  obtain ⟨o9, h⟩ := h
  refine ax_ild (n := 351) (pc' := 124) ⟨_, rfl⟩ (az_b 59 rfl) (by decide) o9 rfl ?_
  refine ax_if2 (p1 := 178) (p2 := 127) ⟨_, rfl⟩ (by decide) rfl hx4 (hg _ _) (fun hc => ?_) (fun hc => ?_)
  · have h := h.1 hc
    refine ax_inc (x := x2) (pc' := 181) (L' := [some (.ref r), some (ax_i x1), some (ax_i (x2 + 1)), some (ax_i x3), some (ax_i x4)]) ⟨_, rfl⟩ rfl rfl rfl rfl ?_
    refine ax_mv 1 10 [some (.ref r), some (ax_i x1), some (ax_i (x2 + 1)), some (ax_i x3), some (ax_i x4)] [] rfl ?_
    exact h
  · have h := h.2 (Int.not_le.mp hc)
    refine ax_mv 2 129 [some (.ref r), some (ax_i x1), some (ax_i x2), some (ax_i x3), some (ax_i x4)] [.ref r, .ref r] rfl ?_
    refine ax_gR (v := .ref (B + 56)) (pc' := 132) ⟨_, rfl⟩ fl_3_40 (az_e 0 rfl) rfl rfl ?_
    refine ax_gR (v := .ref (B + 72)) (pc' := 135) ⟨_, rfl⟩ fl_3_187 (az_b 56 rfl) rfl rfl ?_
    refine ax_mv 1 137 [some (.ref r), some (ax_i x1), some (ax_i x2), some (ax_i x3), some (ax_i x4)] [ax_i x4, .ref (B + 72), .ref r] rfl ?_
    obtain ⟨o10, h⟩ := h
    refine ax_ild (n := 350) (pc' := 138) ⟨_, rfl⟩ (az_b 72 rfl) (by decide) o10 rfl ?_
    refine ax_mv 1 139 [some (.ref r), some (ax_i x1), some (ax_i x2), some (ax_i x3), some (ax_i x4)] [.ref r, ax_i (V 572 x4), .ref r] rfl ?_
    refine ax_gR (v := .ref (B + 56)) (pc' := 142) ⟨_, rfl⟩ fl_3_40 (az_e 0 rfl) rfl rfl ?_
    refine ax_gR (v := .ref (B + 58)) (pc' := 145) ⟨_, rfl⟩ fl_3_178 (az_b 56 rfl) rfl rfl ?_
    refine ax_mv 2 147 [some (.ref r), some (ax_i x1), some (ax_i x2), some (ax_i x3), some (ax_i x4)] [ax_i 1, ax_i x2, .ref (B + 58), ax_i (V 572 x4), .ref r] rfl ?_
    refine ax_add (pc' := 148) ⟨_, rfl⟩ rfl ?_
    obtain ⟨o11, h⟩ := h
    refine ax_ild (n := 351) (pc' := 149) ⟨_, rfl⟩ (az_b 58 rfl) (by decide) o11 rfl ?_
    refine ax_mv 1 150 [some (.ref r), some (ax_i x1), some (ax_i x2), some (ax_i x3), some (ax_i x4)] [ax_i x3, ax_i (V 558 (x2 + 1)), ax_i (V 572 x4), .ref r] rfl ?_
    refine ax_sub (pc' := 151) ⟨_, rfl⟩ rfl ?_
    obtain ⟨o12, h⟩ := h
    refine ax_if2 (p1 := 158) (p2 := 154) ⟨_, rfl⟩ (by decide) rfl (hg _ _) o12 (fun hc => ?_) (fun hc => ?_)
    · have h := h.1 hc
      refine ax_mv 2 160 [some (.ref r), some (ax_i x1), some (ax_i x2), some (ax_i x3), some (ax_i x4)] [.ref r, ax_i 0, .ref r] rfl ?_
      refine ax_gR (v := .ref (B + 56)) (pc' := 163) ⟨_, rfl⟩ fl_3_40 (az_e 0 rfl) rfl rfl ?_
      refine ax_gR (v := .ref (B + 73)) (pc' := 166) ⟨_, rfl⟩ fl_3_190 (az_b 56 rfl) rfl rfl ?_
      refine ax_mv 1 168 [some (.ref r), some (ax_i x1), some (ax_i x2), some (ax_i x3), some (ax_i x4)] [ax_i x4, .ref (B + 73), ax_i 0, .ref r] rfl ?_
      obtain ⟨o13, h⟩ := h
      refine ax_ild (n := 350) (pc' := 169) ⟨_, rfl⟩ (az_b 73 rfl) (by decide) o13 rfl ?_
      refine ax_callN (pc' := 172) ⟨_, rfl⟩ ml_3_123 (rest := []) rfl (fun ss hs => ⟨_, _, (az_e 0 rfl) ss hs⟩) (Nat.le_of_ble_eq_true rfl) rfl rfl h (fun V1 hg1 h => ?_)
      refine ax_inc (x := x4) (pc' := 175) (L' := [some (.ref r), some (ax_i x1), some (ax_i x2), some (ax_i x3), some (ax_i (x4 + 1))]) ⟨_, rfl⟩ rfl rfl rfl rfl ?_
      refine ax_mv 1 111 [some (.ref r), some (ax_i x1), some (ax_i x2), some (ax_i x3), some (ax_i (x4 + 1))] [] rfl ?_
      exact h
    · have h := h.2 (Int.not_lt.mp hc)
      refine ax_mv 3 160 [some (.ref r), some (ax_i x1), some (ax_i x2), some (ax_i x3), some (ax_i x4)] [.ref r, ax_i 1, .ref r] rfl ?_
      refine ax_gR (v := .ref (B + 56)) (pc' := 163) ⟨_, rfl⟩ fl_3_40 (az_e 0 rfl) rfl rfl ?_
      refine ax_gR (v := .ref (B + 73)) (pc' := 166) ⟨_, rfl⟩ fl_3_190 (az_b 56 rfl) rfl rfl ?_
      refine ax_mv 1 168 [some (.ref r), some (ax_i x1), some (ax_i x2), some (ax_i x3), some (ax_i x4)] [ax_i x4, .ref (B + 73), ax_i 1, .ref r] rfl ?_
      obtain ⟨o14, h⟩ := h
      refine ax_ild (n := 350) (pc' := 169) ⟨_, rfl⟩ (az_b 73 rfl) (by decide) o14 rfl ?_
      refine ax_callN (pc' := 172) ⟨_, rfl⟩ ml_3_123 (rest := []) rfl (fun ss hs => ⟨_, _, (az_e 0 rfl) ss hs⟩) (Nat.le_of_ble_eq_true rfl) rfl rfl h (fun V2 hg2 h => ?_)
      refine ax_inc (x := x4) (pc' := 175) (L' := [some (.ref r), some (ax_i x1), some (ax_i x2), some (ax_i x3), some (ax_i (x4 + 1))]) ⟨_, rfl⟩ rfl rfl rfl rfl ?_
      refine ax_mv 1 111 [some (.ref r), some (ax_i x1), some (ax_i x2), some (ax_i x3), some (ax_i (x4 + 1))] [] rfl ?_
      exact h
set_option maxRecDepth 20000 in
theorem r_Judge_judgeStates {B : Nat} {r : Nat} {d : Nat} {V : ax_V} {Φ : ax_V → Prop} {Θ : ax_V → Prop} {x1 : Int} (hg : ax_g V) (hx1 : ax_rg x1) (h : (0 ≤ x1 ∧ x1 < 9) ∧ k_Judge_judgeStates_10 B r d x1 (V 510 x1) none none V Φ Θ) : ax_N (az_W B (az_EJ B r)) (d + 1) q_Judge_judgeStates [.ref r, ax_i x1] V Φ Θ := by
  refine ax_T.of (M := m_Judge_judgeStates) rfl (Nat.le_of_ble_eq_true rfl) ?_
  refine ax_mv 0 0 [some (.ref r), some (ax_i x1), none, none, none] [] rfl ?_
  refine ax_mv 1 1 [some (.ref r), some (ax_i x1), none, none, none] [.ref r] rfl ?_
  refine ax_gR (v := .ref B) (pc' := 4) ⟨_, rfl⟩ fl_3_15 (az_e 0 rfl) rfl rfl ?_
  refine ax_gR (v := .ref (B + 10)) (pc' := 7) ⟨_, rfl⟩ fl_3_175 (az_b 0 rfl) rfl rfl ?_
  refine ax_mv 1 8 [some (.ref r), some (ax_i x1), none, none, none] [ax_i x1, .ref (B + 10)] rfl ?_
  obtain ⟨o15, h⟩ := h
  refine ax_ild (n := 9) (pc' := 9) ⟨_, rfl⟩ (az_b 10 rfl) (by decide) o15 rfl ?_
  refine ax_sti (i := 0) (k := 2) (n := 1) (pc' := 10) (L' := [some (.ref r), some (ax_i x1), some (ax_i (V 510 x1)), none, none]) ⟨_, rfl⟩ rfl rfl rfl (Nat.le_of_ble_eq_true rfl) rfl rfl ?_
  exact h
abbrev k_Judge_judgeTellings_5 (B : Nat) (r : Nat) (d : Nat) (x1 : Int) (x2 : Int) (y3 : Option Value) (V : ax_V) (Φ : ax_V → Prop) (Θ : ax_V → Prop) : Prop := ax_R (az_W B (az_EJ B r)) ax_t d m_Judge_judgeTellings 5 [some (.ref r), some (ax_i x1), some (ax_i x2), y3] [] V (ax_Nr Φ) Θ
abbrev k_Judge_judgeTellings_61 (B : Nat) (r : Nat) (d : Nat) (x1 : Int) (x2 : Int) (y3 : Option Value) (s0 : Int) (V : ax_V) (Φ : ax_V → Prop) (Θ : ax_V → Prop) : Prop := ax_R (az_W B (az_EJ B r)) ax_t d m_Judge_judgeTellings 61 [some (.ref r), some (ax_i x1), some (ax_i x2), y3] [ax_i s0, .ref r] V (ax_Nr Φ) Θ
set_option maxRecDepth 20000 in
theorem r_Judge_judgeTellings_5 {B : Nat} {r : Nat} {d : Nat} {V : ax_V} {Φ : ax_V → Prop} {Θ : ax_V → Prop} {x1 : Int} {x2 : Int} {y3 : Option Value} (hg : ax_g V) (hx1 : ax_rg x1) (hx2 : ax_rg x2) (hy3 : ax_y y3) (h : ax_rg ((x1 + 1) * 26) ∧ (((x1 + 1) * 26 ≤ x2 → Φ V) ∧ (x2 < (x1 + 1) * 26 → (0 ≤ x2 ∧ x2 < 208) ∧ ((V 533 x2 = -1 → k_Judge_judgeTellings_5 B r d x1 (x2 + 1) y3 V Φ Θ) ∧ (¬ V 533 x2 = -1 → (0 ≤ x2 ∧ x2 < 208) ∧ ((V 534 x2 = 1 → k_Judge_judgeTellings_61 B r d x1 x2 y3 0 V Φ Θ) ∧ (¬ V 534 x2 = 1 → (0 ≤ x2 ∧ x2 < 208) ∧ ((V 541 x2 = -2 → k_Judge_judgeTellings_61 B r d x1 x2 y3 1 V Φ Θ) ∧ (¬ V 541 x2 = -2 → k_Judge_judgeTellings_61 B r d x1 x2 y3 0 V Φ Θ))))))))) : k_Judge_judgeTellings_5 B r d x1 x2 y3 V Φ Θ := by
  refine ax_mv 3 8 [some (.ref r), some (ax_i x1), some (ax_i x2), y3] [ax_i 1, ax_i x1, ax_i x2] rfl ?_
  refine ax_add (pc' := 9) ⟨_, rfl⟩ rfl ?_
  refine ax_bip (pc' := 11) ⟨_, rfl⟩ (by decide) rfl ?_
  refine ax_mul (pc' := 12) ⟨_, rfl⟩ rfl ?_
  obtain ⟨o1, h⟩ := h
  refine ax_if2 (p1 := 121) (p2 := 15) ⟨_, rfl⟩ (by decide) rfl hx2 o1 (fun hc => ?_) (fun hc => ?_)
  · have h := h.1 hc
    exact ax_nret ⟨_, rfl⟩ rfl hg h
  · have h := h.2 (Int.not_le.mp hc)
    refine ax_mv 1 16 [some (.ref r), some (ax_i x1), some (ax_i x2), y3] [.ref r] rfl ?_
    refine ax_gR (v := .ref (B + 32)) (pc' := 19) ⟨_, rfl⟩ fl_3_30 (az_e 0 rfl) rfl rfl ?_
    refine ax_gR (v := .ref (B + 33)) (pc' := 22) ⟨_, rfl⟩ fl_3_85 (az_b 32 rfl) rfl rfl ?_
    refine ax_mv 1 23 [some (.ref r), some (ax_i x1), some (ax_i x2), y3] [ax_i x2, .ref (B + 33)] rfl ?_
    obtain ⟨o2, h⟩ := h
    refine ax_ild (n := 208) (pc' := 24) ⟨_, rfl⟩ (az_b 33 rfl) (by decide) o2 rfl ?_
    refine ax_mv 1 25 [some (.ref r), some (ax_i x1), some (ax_i x2), y3] [ax_i (-1), ax_i (V 533 x2)] rfl ?_
    refine ax_if2 (p1 := 115) (p2 := 28) ⟨_, rfl⟩ (by decide) rfl (hg _ _) (by decide) (fun hc => ?_) (fun hc => ?_)
    · have h := h.1 hc
      refine ax_inc (x := x2) (pc' := 118) (L' := [some (.ref r), some (ax_i x1), some (ax_i (x2 + 1)), y3]) ⟨_, rfl⟩ rfl rfl rfl rfl ?_
      refine ax_mv 1 5 [some (.ref r), some (ax_i x1), some (ax_i (x2 + 1)), y3] [] rfl ?_
      exact h
    · have h := h.2 hc
      refine ax_mv 2 30 [some (.ref r), some (ax_i x1), some (ax_i x2), y3] [.ref r, .ref r] rfl ?_
      refine ax_gR (v := .ref (B + 32)) (pc' := 33) ⟨_, rfl⟩ fl_3_30 (az_e 0 rfl) rfl rfl ?_
      refine ax_gR (v := .ref (B + 34)) (pc' := 36) ⟨_, rfl⟩ fl_3_120 (az_b 32 rfl) rfl rfl ?_
      refine ax_mv 1 37 [some (.ref r), some (ax_i x1), some (ax_i x2), y3] [ax_i x2, .ref (B + 34), .ref r] rfl ?_
      obtain ⟨o3, h⟩ := h
      refine ax_ild (n := 208) (pc' := 38) ⟨_, rfl⟩ (az_b 34 rfl) (by decide) o3 rfl ?_
      refine ax_mv 1 39 [some (.ref r), some (ax_i x1), some (ax_i x2), y3] [ax_i 1, ax_i (V 534 x2), .ref r] rfl ?_
      refine ax_if2 (p1 := 60) (p2 := 42) ⟨_, rfl⟩ (by decide) rfl (hg _ _) (by decide) (fun hc => ?_) (fun hc => ?_)
      · have h := h.1 hc
        refine ax_mv 1 61 [some (.ref r), some (ax_i x1), some (ax_i x2), y3] [ax_i 0, .ref r] rfl ?_
        exact h
      · have h := h.2 hc
        refine ax_mv 1 43 [some (.ref r), some (ax_i x1), some (ax_i x2), y3] [.ref r, .ref r] rfl ?_
        refine ax_gR (v := .ref (B + 32)) (pc' := 46) ⟨_, rfl⟩ fl_3_30 (az_e 0 rfl) rfl rfl ?_
        refine ax_gR (v := .ref (B + 41)) (pc' := 49) ⟨_, rfl⟩ fl_3_134 (az_b 32 rfl) rfl rfl ?_
        refine ax_mv 1 50 [some (.ref r), some (ax_i x1), some (ax_i x2), y3] [ax_i x2, .ref (B + 41), .ref r] rfl ?_
        obtain ⟨o4, h⟩ := h
        refine ax_ild (n := 208) (pc' := 51) ⟨_, rfl⟩ (az_b 41 rfl) (by decide) o4 rfl ?_
        refine ax_bip (pc' := 53) ⟨_, rfl⟩ (by decide) rfl ?_
        refine ax_if2 (p1 := 60) (p2 := 56) ⟨_, rfl⟩ (by decide) rfl (hg _ _) (by decide) (fun hc => ?_) (fun hc => ?_)
        · have h := h.2 hc
          refine ax_mv 1 61 [some (.ref r), some (ax_i x1), some (ax_i x2), y3] [ax_i 0, .ref r] rfl ?_
          exact h
        · have h := h.1 (Classical.not_not.mp hc)
          refine ax_mv 2 61 [some (.ref r), some (ax_i x1), some (ax_i x2), y3] [ax_i 1, .ref r] rfl ?_
          exact h
set_option maxRecDepth 20000 in
theorem r_Judge_judgeTellings_61 {B : Nat} {r : Nat} {d : Nat} {V : ax_V} {Φ : ax_V → Prop} {Θ : ax_V → Prop} {x1 : Int} {x2 : Int} {y3 : Option Value} {s0 : Int} (hg : ax_g V) (hx1 : ax_rg x1) (hx2 : ax_rg x2) (hy3 : ax_y y3) (hs0 : ax_rg s0) (h : (0 ≤ x2 ∧ x2 < 208) ∧ ax_N (az_W B (az_EJ B r)) d q_Judge_blameIf [.ref r, ax_i s0, ax_i (V 533 x2)] V (fun V1 => (0 ≤ x2 ∧ x2 < 208) ∧ ((V1 536 x2 < 0 → (0 ≤ x2 ∧ x2 < 208) ∧ ax_N (az_W B (az_EJ B r)) d q_Judge_blameIf [.ref r, ax_i 0, ax_i (V1 537 x2)] V1 (fun V2 => k_Judge_judgeTellings_5 B r d x1 (x2 + 1) (some (ax_i (V1 536 x2))) V2 Φ Θ) Θ) ∧ (0 ≤ V1 536 x2 → ax_I (az_W B (az_EJ B r)) d q_Judge_isTruth [.ref r, ax_i (ax_shr (V1 536 x2) 1)] V1 (fun r3 V3 => ((r3 = 0 → (0 ≤ x2 ∧ x2 < 208) ∧ ax_N (az_W B (az_EJ B r)) d q_Judge_blameIf [.ref r, ax_i 1, ax_i (V3 537 x2)] V3 (fun V5 => k_Judge_judgeTellings_5 B r d x1 (x2 + 1) (some (ax_i (V1 536 x2))) V5 Φ Θ) Θ) ∧ (¬ r3 = 0 → (0 ≤ x2 ∧ x2 < 208) ∧ ax_N (az_W B (az_EJ B r)) d q_Judge_blameIf [.ref r, ax_i 0, ax_i (V3 537 x2)] V3 (fun V4 => k_Judge_judgeTellings_5 B r d x1 (x2 + 1) (some (ax_i (V1 536 x2))) V4 Φ Θ) Θ))) Θ))) Θ) : k_Judge_judgeTellings_61 B r d x1 x2 y3 s0 V Φ Θ := by
  refine ax_mv 1 62 [some (.ref r), some (ax_i x1), some (ax_i x2), y3] [.ref r, ax_i s0, .ref r] rfl ?_
  refine ax_gR (v := .ref (B + 32)) (pc' := 65) ⟨_, rfl⟩ fl_3_30 (az_e 0 rfl) rfl rfl ?_
  refine ax_gR (v := .ref (B + 33)) (pc' := 68) ⟨_, rfl⟩ fl_3_85 (az_b 32 rfl) rfl rfl ?_
  refine ax_mv 1 69 [some (.ref r), some (ax_i x1), some (ax_i x2), y3] [ax_i x2, .ref (B + 33), ax_i s0, .ref r] rfl ?_
  obtain ⟨o5, h⟩ := h
  refine ax_ild (n := 208) (pc' := 70) ⟨_, rfl⟩ (az_b 33 rfl) (by decide) o5 rfl ?_
  refine ax_callN (pc' := 73) ⟨_, rfl⟩ ml_3_123 (rest := []) rfl (fun ss hs => ⟨_, _, (az_e 0 rfl) ss hs⟩) (Nat.le_of_ble_eq_true rfl) rfl rfl h (fun V1 hg1 h => ?_)
  refine ax_mv 1 74 [some (.ref r), some (ax_i x1), some (ax_i x2), y3] [.ref r] rfl ?_
  refine ax_gR (v := .ref (B + 32)) (pc' := 77) ⟨_, rfl⟩ fl_3_30 (az_e 0 rfl) rfl rfl ?_
  refine ax_gR (v := .ref (B + 36)) (pc' := 80) ⟨_, rfl⟩ fl_3_193 (az_b 32 rfl) rfl rfl ?_
  refine ax_mv 1 81 [some (.ref r), some (ax_i x1), some (ax_i x2), y3] [ax_i x2, .ref (B + 36)] rfl ?_
  obtain ⟨o6, h⟩ := h
  refine ax_ild (n := 208) (pc' := 82) ⟨_, rfl⟩ (az_b 36 rfl) (by decide) o6 rfl ?_
  refine ax_sti (i := 0) (k := 3) (n := 1) (pc' := 83) (L' := [some (.ref r), some (ax_i x1), some (ax_i x2), some (ax_i (V1 536 x2))]) ⟨_, rfl⟩ rfl rfl rfl (Nat.le_of_ble_eq_true rfl) rfl rfl ?_
  refine ax_mv 2 85 [some (.ref r), some (ax_i x1), some (ax_i x2), some (ax_i (V1 536 x2))] [ax_i (V1 536 x2), .ref r] rfl ?_
  refine ax_if (p1 := 102) (p2 := 88) ⟨_, rfl⟩ (by decide) rfl (hg1 _ _) (fun hc => ?_) (fun hc => ?_)
  · have h := h.1 hc
    refine ax_mv 2 104 [some (.ref r), some (ax_i x1), some (ax_i x2), some (ax_i (V1 536 x2))] [.ref r, ax_i 0, .ref r] rfl ?_
    refine ax_gR (v := .ref (B + 32)) (pc' := 107) ⟨_, rfl⟩ fl_3_30 (az_e 0 rfl) rfl rfl ?_
    refine ax_gR (v := .ref (B + 37)) (pc' := 110) ⟨_, rfl⟩ fl_3_196 (az_b 32 rfl) rfl rfl ?_
    refine ax_mv 1 111 [some (.ref r), some (ax_i x1), some (ax_i x2), some (ax_i (V1 536 x2))] [ax_i x2, .ref (B + 37), ax_i 0, .ref r] rfl ?_
    obtain ⟨o7, h⟩ := h
    refine ax_ild (n := 208) (pc' := 112) ⟨_, rfl⟩ (az_b 37 rfl) (by decide) o7 rfl ?_
    refine ax_callN (pc' := 115) ⟨_, rfl⟩ ml_3_123 (rest := []) rfl (fun ss hs => ⟨_, _, (az_e 0 rfl) ss hs⟩) (Nat.le_of_ble_eq_true rfl) rfl rfl h (fun V2 hg2 h => ?_)
    refine ax_inc (x := x2) (pc' := 118) (L' := [some (.ref r), some (ax_i x1), some (ax_i (x2 + 1)), some (ax_i (V1 536 x2))]) ⟨_, rfl⟩ rfl rfl rfl rfl ?_
    refine ax_mv 1 5 [some (.ref r), some (ax_i x1), some (ax_i (x2 + 1)), some (ax_i (V1 536 x2))] [] rfl ?_
    exact h
  · have h := h.2 (Int.not_lt.mp hc)
    refine ax_mv 3 91 [some (.ref r), some (ax_i x1), some (ax_i x2), some (ax_i (V1 536 x2))] [ax_i 1, ax_i (V1 536 x2), .ref r, .ref r] rfl ?_
    refine ax_rshr (pc' := 92) ⟨_, rfl⟩ rfl ?_
    refine ax_callI (pc' := 95) ⟨_, rfl⟩ ml_3_165 (rest := [.ref r]) rfl (fun ss hs => ⟨_, _, (az_e 0 rfl) ss hs⟩) (Nat.le_of_ble_eq_true rfl) rfl rfl h (fun r3 V3 hg3 hr3 h => ?_)
    refine ax_if (p1 := 102) (p2 := 98) ⟨_, rfl⟩ (by decide) rfl hr3 (fun hc => ?_) (fun hc => ?_)
    · have h := h.2 hc
      refine ax_mv 2 104 [some (.ref r), some (ax_i x1), some (ax_i x2), some (ax_i (V1 536 x2))] [.ref r, ax_i 0, .ref r] rfl ?_
      refine ax_gR (v := .ref (B + 32)) (pc' := 107) ⟨_, rfl⟩ fl_3_30 (az_e 0 rfl) rfl rfl ?_
      refine ax_gR (v := .ref (B + 37)) (pc' := 110) ⟨_, rfl⟩ fl_3_196 (az_b 32 rfl) rfl rfl ?_
      refine ax_mv 1 111 [some (.ref r), some (ax_i x1), some (ax_i x2), some (ax_i (V1 536 x2))] [ax_i x2, .ref (B + 37), ax_i 0, .ref r] rfl ?_
      obtain ⟨o8, h⟩ := h
      refine ax_ild (n := 208) (pc' := 112) ⟨_, rfl⟩ (az_b 37 rfl) (by decide) o8 rfl ?_
      refine ax_callN (pc' := 115) ⟨_, rfl⟩ ml_3_123 (rest := []) rfl (fun ss hs => ⟨_, _, (az_e 0 rfl) ss hs⟩) (Nat.le_of_ble_eq_true rfl) rfl rfl h (fun V4 hg4 h => ?_)
      refine ax_inc (x := x2) (pc' := 118) (L' := [some (.ref r), some (ax_i x1), some (ax_i (x2 + 1)), some (ax_i (V1 536 x2))]) ⟨_, rfl⟩ rfl rfl rfl rfl ?_
      refine ax_mv 1 5 [some (.ref r), some (ax_i x1), some (ax_i (x2 + 1)), some (ax_i (V1 536 x2))] [] rfl ?_
      exact h
    · have h := h.1 (Classical.not_not.mp hc)
      refine ax_mv 3 104 [some (.ref r), some (ax_i x1), some (ax_i x2), some (ax_i (V1 536 x2))] [.ref r, ax_i 1, .ref r] rfl ?_
      refine ax_gR (v := .ref (B + 32)) (pc' := 107) ⟨_, rfl⟩ fl_3_30 (az_e 0 rfl) rfl rfl ?_
      refine ax_gR (v := .ref (B + 37)) (pc' := 110) ⟨_, rfl⟩ fl_3_196 (az_b 32 rfl) rfl rfl ?_
      refine ax_mv 1 111 [some (.ref r), some (ax_i x1), some (ax_i x2), some (ax_i (V1 536 x2))] [ax_i x2, .ref (B + 37), ax_i 1, .ref r] rfl ?_
      obtain ⟨o9, h⟩ := h
      refine ax_ild (n := 208) (pc' := 112) ⟨_, rfl⟩ (az_b 37 rfl) (by decide) o9 rfl ?_
      refine ax_callN (pc' := 115) ⟨_, rfl⟩ ml_3_123 (rest := []) rfl (fun ss hs => ⟨_, _, (az_e 0 rfl) ss hs⟩) (Nat.le_of_ble_eq_true rfl) rfl rfl h (fun V5 hg5 h => ?_)
      refine ax_inc (x := x2) (pc' := 118) (L' := [some (.ref r), some (ax_i x1), some (ax_i (x2 + 1)), some (ax_i (V1 536 x2))]) ⟨_, rfl⟩ rfl rfl rfl rfl ?_
      refine ax_mv 1 5 [some (.ref r), some (ax_i x1), some (ax_i (x2 + 1)), some (ax_i (V1 536 x2))] [] rfl ?_
      exact h
set_option maxRecDepth 20000 in
theorem r_Judge_judgeTellings {B : Nat} {r : Nat} {d : Nat} {V : ax_V} {Φ : ax_V → Prop} {Θ : ax_V → Prop} {x1 : Int} (hg : ax_g V) (hx1 : ax_rg x1) (h : k_Judge_judgeTellings_5 B r d x1 (x1 * 26) none V Φ Θ) : ax_N (az_W B (az_EJ B r)) (d + 1) q_Judge_judgeTellings [.ref r, ax_i x1] V Φ Θ := by
  refine ax_T.of (M := m_Judge_judgeTellings) rfl (Nat.le_of_ble_eq_true rfl) ?_
  refine ax_mv 0 0 [some (.ref r), some (ax_i x1), none, none] [] rfl ?_
  refine ax_mv 1 1 [some (.ref r), some (ax_i x1), none, none] [ax_i x1] rfl ?_
  refine ax_bip (pc' := 3) ⟨_, rfl⟩ (by decide) rfl ?_
  refine ax_mul (pc' := 4) ⟨_, rfl⟩ rfl ?_
  refine ax_sti (i := 0) (k := 2) (n := 1) (pc' := 5) (L' := [some (.ref r), some (ax_i x1), some (ax_i (x1 * 26)), none]) ⟨_, rfl⟩ rfl rfl rfl (Nat.le_of_ble_eq_true rfl) rfl rfl ?_
  exact h
