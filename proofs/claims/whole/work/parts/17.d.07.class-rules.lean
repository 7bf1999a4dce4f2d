/-! RULES of the methods of the class: a method each, and each loop of it. PRINTED by wip/gen/rules.py -/
abbrev k_Judge_isBare_101 (B : Nat) (r : Nat) (d : Nat) (y1 : Option Value) (x2 : Int) (y3 : Option Value) (x4 : Int) (x5 : Int) (V : ax_V) (Φ : Int → ax_V → Prop) (Θ : ax_V → Prop) : Prop := ax_R (az_W B (az_EJ B r)) ax_t d m_Judge_isBare 101 [some (.ref r), y1, some (ax_i x2), y3, some (ax_i x4), some (ax_i x5)] [] V (ax_Ir Φ) Θ
set_option maxRecDepth 20000 in
theorem r_Judge_isBare_101 {B : Nat} {r : Nat} {d : Nat} {V : ax_V} {Φ : Int → ax_V → Prop} {Θ : ax_V → Prop} {y1 : Option Value} {x2 : Int} {y3 : Option Value} {x4 : Int} {x5 : Int} (hg : ax_g V) (hy1 : ax_y y1) (hx2 : ax_rg x2) (hy3 : ax_y y3) (hx4 : ax_rg x4) (hx5 : ax_rg x5) (h : ((700 ≤ x5 → (x4 = 0 ∨ x4 = 1) ∧ Φ x4 V) ∧ (x5 < 700 → ((x2 < 0 → (x4 = 0 ∨ x4 = 1) ∧ Φ x4 V) ∧ (0 ≤ x2 → ((x4 = 0 → (0 ≤ x2 ∧ x2 < 700) ∧ ((V 530 x2 = 0 → (0 ≤ x2 ∧ x2 < 700) ∧ k_Judge_isBare_101 B r d y1 (V 522 x2) y3 0 (x5 + 1) V Φ Θ) ∧ (¬ V 530 x2 = 0 → (0 ≤ x2 ∧ x2 < 700) ∧ k_Judge_isBare_101 B r d y1 (V 522 x2) y3 1 (x5 + 1) V Φ Θ))) ∧ (¬ x4 = 0 → (0 ≤ x2 ∧ x2 < 700) ∧ k_Judge_isBare_101 B r d y1 (V 522 x2) y3 1 (x5 + 1) V Φ Θ))))))) : k_Judge_isBare_101 B r d y1 x2 y3 x4 x5 V Φ Θ := by
  refine ax_mv 1 103 [some (.ref r), y1, some (ax_i x2), y3, some (ax_i x4), some (ax_i x5)] [ax_i x5] rfl ?_
  refine ax_sip (pc' := 106) ⟨_, rfl⟩ (by decide) rfl ?_
  refine ax_if2 (p1 := 153) (p2 := 109) ⟨_, rfl⟩ (by decide) rfl hx5 (by decide) (fun hc => ?_) (fun hc => ?_)
  · have h := h.1 hc
    refine ax_mv 1 155 [some (.ref r), y1, some (ax_i x2), y3, some (ax_i x4), some (ax_i x5)] [ax_i x4] rfl ?_
    obtain ⟨o1, h⟩ := h
    exact ax_iret ⟨_, rfl⟩ rfl (ax_nbv o1) hx4 hg h
  · have h := h.2 (Int.not_le.mp hc)
    refine ax_mv 1 110 [some (.ref r), y1, some (ax_i x2), y3, some (ax_i x4), some (ax_i x5)] [ax_i x2] rfl ?_
    refine ax_if (p1 := 153) (p2 := 113) ⟨_, rfl⟩ (by decide) rfl hx2 (fun hc => ?_) (fun hc => ?_)
    · have h := h.1 hc
      refine ax_mv 1 155 [some (.ref r), y1, some (ax_i x2), y3, some (ax_i x4), some (ax_i x5)] [ax_i x4] rfl ?_
      obtain ⟨o2, h⟩ := h
      exact ax_iret ⟨_, rfl⟩ rfl (ax_nbv o2) hx4 hg h
    · have h := h.2 (Int.not_lt.mp hc)
      refine ax_mv 1 115 [some (.ref r), y1, some (ax_i x2), y3, some (ax_i x4), some (ax_i x5)] [ax_i x4] rfl ?_
      refine ax_if (p1 := 130) (p2 := 118) ⟨_, rfl⟩ (by decide) rfl hx4 (fun hc => ?_) (fun hc => ?_)
      · have h := h.2 hc
        refine ax_mv 2 135 [some (.ref r), y1, some (ax_i x2), y3, some (ax_i x4), some (ax_i x5)] [ax_i 1] rfl ?_
        refine ax_sti (i := 0) (k := 4) (n := 2) (pc' := 137) (L' := [some (.ref r), y1, some (ax_i x2), y3, some (ax_i 1), some (ax_i x5)]) ⟨_, rfl⟩ rfl rfl (ax_kill_y (k := 3) rfl hy3) (Nat.le_of_ble_eq_true rfl) rfl rfl ?_
        refine ax_mv 1 138 [some (.ref r), y1, some (ax_i x2), y3, some (ax_i 1), some (ax_i x5)] [.ref r] rfl ?_
        refine ax_gR (v := .ref (B + 16)) (pc' := 141) ⟨_, rfl⟩ fl_3_25 (az_e 0 rfl) rfl rfl ?_
        refine ax_gR (v := .ref (B + 22)) (pc' := 144) ⟨_, rfl⟩ fl_3_224 (az_b 16 rfl) rfl rfl ?_
        refine ax_mv 1 145 [some (.ref r), y1, some (ax_i x2), y3, some (ax_i 1), some (ax_i x5)] [ax_i x2, .ref (B + 22)] rfl ?_
        obtain ⟨o3, h⟩ := h
        refine ax_ild (n := 700) (pc' := 146) ⟨_, rfl⟩ (az_b 22 rfl) (by decide) o3 rfl ?_
        refine ax_sti (i := 0) (k := 2) (n := 1) (pc' := 147) (L' := [some (.ref r), y1, some (ax_i (V 522 x2)), y3, some (ax_i 1), some (ax_i x5)]) ⟨_, rfl⟩ rfl rfl (ax_kill_y (k := 1) rfl hy1) (Nat.le_of_ble_eq_true rfl) rfl rfl ?_
        refine ax_inc (x := x5) (pc' := 150) (L' := [some (.ref r), y1, some (ax_i (V 522 x2)), y3, some (ax_i 1), some (ax_i (x5 + 1))]) ⟨_, rfl⟩ rfl rfl rfl rfl ?_
        refine ax_mv 1 101 [some (.ref r), y1, some (ax_i (V 522 x2)), y3, some (ax_i 1), some (ax_i (x5 + 1))] [] rfl ?_
        exact h
      · have h := h.1 (Classical.not_not.mp hc)
        refine ax_mv 1 119 [some (.ref r), y1, some (ax_i x2), y3, some (ax_i x4), some (ax_i x5)] [.ref r] rfl ?_
        refine ax_gR (v := .ref (B + 16)) (pc' := 122) ⟨_, rfl⟩ fl_3_25 (az_e 0 rfl) rfl rfl ?_
        refine ax_gR (v := .ref (B + 30)) (pc' := 125) ⟨_, rfl⟩ fl_3_262 (az_b 16 rfl) rfl rfl ?_
        refine ax_mv 1 126 [some (.ref r), y1, some (ax_i x2), y3, some (ax_i x4), some (ax_i x5)] [ax_i x2, .ref (B + 30)] rfl ?_
        obtain ⟨o4, h⟩ := h
        refine ax_bld (n := 700) (pc' := 127) ⟨_, rfl⟩ (az_b 30 rfl) (by decide) o4 rfl ?_
        refine ax_if (p1 := 134) (p2 := 130) ⟨_, rfl⟩ (by decide) rfl (hg _ _) (fun hc => ?_) (fun hc => ?_)
        · have h := h.1 hc
          refine ax_mv 1 135 [some (.ref r), y1, some (ax_i x2), y3, some (ax_i x4), some (ax_i x5)] [ax_i 0] rfl ?_
          refine ax_sti (i := 0) (k := 4) (n := 2) (pc' := 137) (L' := [some (.ref r), y1, some (ax_i x2), y3, some (ax_i 0), some (ax_i x5)]) ⟨_, rfl⟩ rfl rfl (ax_kill_y (k := 3) rfl hy3) (Nat.le_of_ble_eq_true rfl) rfl rfl ?_
          refine ax_mv 1 138 [some (.ref r), y1, some (ax_i x2), y3, some (ax_i 0), some (ax_i x5)] [.ref r] rfl ?_
          refine ax_gR (v := .ref (B + 16)) (pc' := 141) ⟨_, rfl⟩ fl_3_25 (az_e 0 rfl) rfl rfl ?_
          refine ax_gR (v := .ref (B + 22)) (pc' := 144) ⟨_, rfl⟩ fl_3_224 (az_b 16 rfl) rfl rfl ?_
          refine ax_mv 1 145 [some (.ref r), y1, some (ax_i x2), y3, some (ax_i 0), some (ax_i x5)] [ax_i x2, .ref (B + 22)] rfl ?_
          obtain ⟨o5, h⟩ := h
          refine ax_ild (n := 700) (pc' := 146) ⟨_, rfl⟩ (az_b 22 rfl) (by decide) o5 rfl ?_
          refine ax_sti (i := 0) (k := 2) (n := 1) (pc' := 147) (L' := [some (.ref r), y1, some (ax_i (V 522 x2)), y3, some (ax_i 0), some (ax_i x5)]) ⟨_, rfl⟩ rfl rfl (ax_kill_y (k := 1) rfl hy1) (Nat.le_of_ble_eq_true rfl) rfl rfl ?_
          refine ax_inc (x := x5) (pc' := 150) (L' := [some (.ref r), y1, some (ax_i (V 522 x2)), y3, some (ax_i 0), some (ax_i (x5 + 1))]) ⟨_, rfl⟩ rfl rfl rfl rfl ?_
          refine ax_mv 1 101 [some (.ref r), y1, some (ax_i (V 522 x2)), y3, some (ax_i 0), some (ax_i (x5 + 1))] [] rfl ?_
          exact h
        · have h := h.2 hc
          refine ax_mv 2 135 [some (.ref r), y1, some (ax_i x2), y3, some (ax_i x4), some (ax_i x5)] [ax_i 1] rfl ?_
          refine ax_sti (i := 0) (k := 4) (n := 2) (pc' := 137) (L' := [some (.ref r), y1, some (ax_i x2), y3, some (ax_i 1), some (ax_i x5)]) ⟨_, rfl⟩ rfl rfl (ax_kill_y (k := 3) rfl hy3) (Nat.le_of_ble_eq_true rfl) rfl rfl ?_
          refine ax_mv 1 138 [some (.ref r), y1, some (ax_i x2), y3, some (ax_i 1), some (ax_i x5)] [.ref r] rfl ?_
          refine ax_gR (v := .ref (B + 16)) (pc' := 141) ⟨_, rfl⟩ fl_3_25 (az_e 0 rfl) rfl rfl ?_
          refine ax_gR (v := .ref (B + 22)) (pc' := 144) ⟨_, rfl⟩ fl_3_224 (az_b 16 rfl) rfl rfl ?_
          refine ax_mv 1 145 [some (.ref r), y1, some (ax_i x2), y3, some (ax_i 1), some (ax_i x5)] [ax_i x2, .ref (B + 22)] rfl ?_
          obtain ⟨o6, h⟩ := h
          refine ax_ild (n := 700) (pc' := 146) ⟨_, rfl⟩ (az_b 22 rfl) (by decide) o6 rfl ?_
          refine ax_sti (i := 0) (k := 2) (n := 1) (pc' := 147) (L' := [some (.ref r), y1, some (ax_i (V 522 x2)), y3, some (ax_i 1), some (ax_i x5)]) ⟨_, rfl⟩ rfl rfl (ax_kill_y (k := 1) rfl hy1) (Nat.le_of_ble_eq_true rfl) rfl rfl ?_
          refine ax_inc (x := x5) (pc' := 150) (L' := [some (.ref r), y1, some (ax_i (V 522 x2)), y3, some (ax_i 1), some (ax_i (x5 + 1))]) ⟨_, rfl⟩ rfl rfl rfl rfl ?_
          refine ax_mv 1 101 [some (.ref r), y1, some (ax_i (V 522 x2)), y3, some (ax_i 1), some (ax_i (x5 + 1))] [] rfl ?_
          exact h
set_option maxRecDepth 20000 in
theorem r_Judge_isBare {B : Nat} {r : Nat} {d : Nat} {V : ax_V} {Φ : Int → ax_V → Prop} {Θ : ax_V → Prop} {x1 : Int} (hg : ax_g V) (hx1 : ax_rg x1) (h : (0 ≤ x1 ∧ x1 < 700) ∧ (0 ≤ x1 ∧ x1 < 700) ∧ ((V 517 x1 = 6 → Φ 1 V) ∧ (V 517 x1 = 19 → (0 ≤ V 521 x1 ∧ V 521 x1 < 700) ∧ (V 530 (V 521 x1) = 0 ∨ V 530 (V 521 x1) = 1) ∧ Φ (V 530 (V 521 x1)) V) ∧ (V 517 x1 = 22 → Φ 0 V) ∧ (¬ V 517 x1 = 6 → ¬ V 517 x1 = 19 → ¬ V 517 x1 = 22 → ax_I (az_W B (az_EJ B r)) d q_Parts_ownLetter [.ref (B + 16), ax_i x1] V (fun r1 V1 => ((r1 < 0 → k_Judge_isBare_101 B r d (some (ax_i x1)) (V 521 x1) (some (ax_i r1)) 0 0 V1 Φ Θ) ∧ (0 ≤ r1 → (0 ≤ r1 ∧ r1 < 208) ∧ ((V1 544 r1 = 0 → k_Judge_isBare_101 B r d (some (ax_i x1)) (V 521 x1) (some (ax_i r1)) 0 0 V1 Φ Θ) ∧ (¬ V1 544 r1 = 0 → k_Judge_isBare_101 B r d (some (ax_i x1)) (V 521 x1) (some (ax_i r1)) 1 0 V1 Φ Θ))))) Θ))) : ax_I (az_W B (az_EJ B r)) (d + 1) q_Judge_isBare [.ref r, ax_i x1] V Φ Θ := by
  refine ax_T.of (M := m_Judge_isBare) rfl (Nat.le_of_ble_eq_true rfl) ?_
  refine ax_mv 0 0 [some (.ref r), some (ax_i x1), none, none, none, none] [] rfl ?_
  refine ax_mv 1 1 [some (.ref r), some (ax_i x1), none, none, none, none] [.ref r] rfl ?_
  refine ax_gR (v := .ref (B + 16)) (pc' := 4) ⟨_, rfl⟩ fl_3_25 (az_e 0 rfl) rfl rfl ?_
  refine ax_gR (v := .ref (B + 21)) (pc' := 7) ⟨_, rfl⟩ fl_3_215 (az_b 16 rfl) rfl rfl ?_
  refine ax_mv 1 8 [some (.ref r), some (ax_i x1), none, none, none, none] [ax_i x1, .ref (B + 21)] rfl ?_
  obtain ⟨o7, h⟩ := h
  refine ax_ild (n := 700) (pc' := 9) ⟨_, rfl⟩ (az_b 21 rfl) (by decide) o7 rfl ?_
  refine ax_sti (i := 0) (k := 2) (n := 1) (pc' := 10) (L' := [some (.ref r), some (ax_i x1), some (ax_i (V 521 x1)), none, none, none]) ⟨_, rfl⟩ rfl rfl rfl (Nat.le_of_ble_eq_true rfl) rfl rfl ?_
  refine ax_mv 1 11 [some (.ref r), some (ax_i x1), some (ax_i (V 521 x1)), none, none, none] [.ref r] rfl ?_
  refine ax_gR (v := .ref (B + 16)) (pc' := 14) ⟨_, rfl⟩ fl_3_25 (az_e 0 rfl) rfl rfl ?_
  refine ax_gR (v := .ref (B + 17)) (pc' := 17) ⟨_, rfl⟩ fl_3_158 (az_b 16 rfl) rfl rfl ?_
  refine ax_mv 1 18 [some (.ref r), some (ax_i x1), some (ax_i (V 521 x1)), none, none, none] [ax_i x1, .ref (B + 17)] rfl ?_
  obtain ⟨o8, h⟩ := h
  refine ax_ild (n := 700) (pc' := 19) ⟨_, rfl⟩ (az_b 17 rfl) (by decide) o8 rfl ?_
  have t0 : (V 517 x1 = 6) → ax_R (az_W B (az_EJ B r)) ax_t d m_Judge_isBare 52 [some (.ref r), some (ax_i x1), some (ax_i (V 521 x1)), none, none, none] [] V (ax_Ir Φ) Θ := fun hk => by
    have h := h.1 hk
    refine ax_mv 1 53 [some (.ref r), some (ax_i x1), some (ax_i (V 521 x1)), none, none, none] [ax_i 1] rfl ?_
    exact ax_iret ⟨_, rfl⟩ rfl (ax_nbv (by decide)) (by decide) hg h
  have t1 : (V 517 x1 = 19) → ax_R (az_W B (az_EJ B r)) ax_t d m_Judge_isBare 56 [some (.ref r), some (ax_i x1), some (ax_i (V 521 x1)), none, none, none] [] V (ax_Ir Φ) Θ := fun hk => by
    have h := h.2.1 hk
    refine ax_mv 1 57 [some (.ref r), some (ax_i x1), some (ax_i (V 521 x1)), none, none, none] [.ref r] rfl ?_
    refine ax_gR (v := .ref (B + 16)) (pc' := 60) ⟨_, rfl⟩ fl_3_25 (az_e 0 rfl) rfl rfl ?_
    refine ax_gR (v := .ref (B + 30)) (pc' := 63) ⟨_, rfl⟩ fl_3_262 (az_b 16 rfl) rfl rfl ?_
    refine ax_mv 1 64 [some (.ref r), some (ax_i x1), some (ax_i (V 521 x1)), none, none, none] [ax_i (V 521 x1), .ref (B + 30)] rfl ?_
    obtain ⟨o9, h⟩ := h
    refine ax_bld (n := 700) (pc' := 65) ⟨_, rfl⟩ (az_b 30 rfl) (by decide) o9 rfl ?_
    obtain ⟨o10, h⟩ := h
    exact ax_iret ⟨_, rfl⟩ rfl (ax_nbv o10) (hg _ _) hg h
  have t2 : (V 517 x1 = 22) → ax_R (az_W B (az_EJ B r)) ax_t d m_Judge_isBare 54 [some (.ref r), some (ax_i x1), some (ax_i (V 521 x1)), none, none, none] [] V (ax_Ir Φ) Θ := fun hk => by
    have h := h.2.2.1 hk
    refine ax_mv 1 55 [some (.ref r), some (ax_i x1), some (ax_i (V 521 x1)), none, none, none] [ax_i 0] rfl ?_
    exact ax_iret ⟨_, rfl⟩ rfl (ax_nbv (by decide)) (by decide) hg h
  have tD : ¬ V 517 x1 = 6 → ¬ V 517 x1 = 19 → ¬ V 517 x1 = 22 → ax_R (az_W B (az_EJ B r)) ax_t d m_Judge_isBare 66 [some (.ref r), some (ax_i x1), some (ax_i (V 521 x1)), none, none, none] [] V (ax_Ir Φ) Θ := fun n0 n1 n2 => by
    have h := h.2.2.2 n0 n1 n2
    refine ax_mv 1 67 [some (.ref r), some (ax_i x1), some (ax_i (V 521 x1)), none, none, none] [.ref r] rfl ?_
    refine ax_gR (v := .ref (B + 16)) (pc' := 70) ⟨_, rfl⟩ fl_3_25 (az_e 0 rfl) rfl rfl ?_
    refine ax_mv 1 71 [some (.ref r), some (ax_i x1), some (ax_i (V 521 x1)), none, none, none] [ax_i x1, .ref (B + 16)] rfl ?_
    refine ax_callI (pc' := 74) ⟨_, rfl⟩ ml_3_269 (rest := []) rfl (fun ss hs => ⟨_, _, (az_b 16 rfl) ss hs⟩) (Nat.le_of_ble_eq_true rfl) rfl rfl h (fun r1 V1 hg1 hr1 h => ?_)
    refine ax_sti (i := 0) (k := 3) (n := 1) (pc' := 75) (L' := [some (.ref r), some (ax_i x1), some (ax_i (V 521 x1)), some (ax_i r1), none, none]) ⟨_, rfl⟩ rfl rfl rfl (Nat.le_of_ble_eq_true rfl) rfl rfl ?_
    refine ax_mv 1 76 [some (.ref r), some (ax_i x1), some (ax_i (V 521 x1)), some (ax_i r1), none, none] [ax_i r1] rfl ?_
    refine ax_if (p1 := 95) (p2 := 79) ⟨_, rfl⟩ (by decide) rfl hr1 (fun hc => ?_) (fun hc => ?_)
    · have h := h.1 hc
      refine ax_mv 1 96 [some (.ref r), some (ax_i x1), some (ax_i (V 521 x1)), some (ax_i r1), none, none] [ax_i 0] rfl ?_
      refine ax_sti (i := 0) (k := 4) (n := 2) (pc' := 98) (L' := [some (.ref r), some (ax_i x1), some (ax_i (V 521 x1)), some (ax_i r1), some (ax_i 0), none]) ⟨_, rfl⟩ rfl rfl rfl (Nat.le_of_ble_eq_true rfl) rfl rfl ?_
      refine ax_mv 1 99 [some (.ref r), some (ax_i x1), some (ax_i (V 521 x1)), some (ax_i r1), some (ax_i 0), none] [ax_i 0] rfl ?_
      refine ax_sti (i := 0) (k := 5) (n := 2) (pc' := 101) (L' := [some (.ref r), some (ax_i x1), some (ax_i (V 521 x1)), some (ax_i r1), some (ax_i 0), some (ax_i 0)]) ⟨_, rfl⟩ rfl rfl rfl (Nat.le_of_ble_eq_true rfl) rfl rfl ?_
      exact h
    · have h := h.2 (Int.not_lt.mp hc)
      refine ax_mv 1 80 [some (.ref r), some (ax_i x1), some (ax_i (V 521 x1)), some (ax_i r1), none, none] [.ref r] rfl ?_
      refine ax_gR (v := .ref (B + 32)) (pc' := 83) ⟨_, rfl⟩ fl_3_30 (az_e 0 rfl) rfl rfl ?_
      refine ax_gR (v := .ref (B + 44)) (pc' := 86) ⟨_, rfl⟩ fl_3_268 (az_b 32 rfl) rfl rfl ?_
      refine ax_mv 1 87 [some (.ref r), some (ax_i x1), some (ax_i (V 521 x1)), some (ax_i r1), none, none] [ax_i r1, .ref (B + 44)] rfl ?_
      obtain ⟨o11, h⟩ := h
      refine ax_bld (n := 208) (pc' := 88) ⟨_, rfl⟩ (az_b 44 rfl) (by decide) o11 rfl ?_
      refine ax_if (p1 := 95) (p2 := 91) ⟨_, rfl⟩ (by decide) rfl (hg1 _ _) (fun hc => ?_) (fun hc => ?_)
      · have h := h.1 hc
        refine ax_mv 1 96 [some (.ref r), some (ax_i x1), some (ax_i (V 521 x1)), some (ax_i r1), none, none] [ax_i 0] rfl ?_
        refine ax_sti (i := 0) (k := 4) (n := 2) (pc' := 98) (L' := [some (.ref r), some (ax_i x1), some (ax_i (V 521 x1)), some (ax_i r1), some (ax_i 0), none]) ⟨_, rfl⟩ rfl rfl rfl (Nat.le_of_ble_eq_true rfl) rfl rfl ?_
        refine ax_mv 1 99 [some (.ref r), some (ax_i x1), some (ax_i (V 521 x1)), some (ax_i r1), some (ax_i 0), none] [ax_i 0] rfl ?_
        refine ax_sti (i := 0) (k := 5) (n := 2) (pc' := 101) (L' := [some (.ref r), some (ax_i x1), some (ax_i (V 521 x1)), some (ax_i r1), some (ax_i 0), some (ax_i 0)]) ⟨_, rfl⟩ rfl rfl rfl (Nat.le_of_ble_eq_true rfl) rfl rfl ?_
        exact h
      · have h := h.2 hc
        refine ax_mv 2 96 [some (.ref r), some (ax_i x1), some (ax_i (V 521 x1)), some (ax_i r1), none, none] [ax_i 1] rfl ?_
        refine ax_sti (i := 0) (k := 4) (n := 2) (pc' := 98) (L' := [some (.ref r), some (ax_i x1), some (ax_i (V 521 x1)), some (ax_i r1), some (ax_i 1), none]) ⟨_, rfl⟩ rfl rfl rfl (Nat.le_of_ble_eq_true rfl) rfl rfl ?_
        refine ax_mv 1 99 [some (.ref r), some (ax_i x1), some (ax_i (V 521 x1)), some (ax_i r1), some (ax_i 1), none] [ax_i 0] rfl ?_
        refine ax_sti (i := 0) (k := 5) (n := 2) (pc' := 101) (L' := [some (.ref r), some (ax_i x1), some (ax_i (V 521 x1)), some (ax_i r1), some (ax_i 1), some (ax_i 0)]) ⟨_, rfl⟩ rfl rfl rfl (Nat.le_of_ble_eq_true rfl) rfl rfl ?_
        exact h
  by_cases e6 : V 517 x1 = 6
  · exact ax_ls (off := 33) (p1 := 52) ⟨_, rfl⟩ (hg _ _) (by decide) (by rw [e6]; rfl) (by decide) (t0 (e6))
  by_cases e19 : V 517 x1 = 19
  · exact ax_ls (off := 37) (p1 := 56) ⟨_, rfl⟩ (hg _ _) (by decide) (by rw [e19]; rfl) (by decide) (t1 (e19))
  by_cases e22 : V 517 x1 = 22
  · exact ax_ls (off := 35) (p1 := 54) ⟨_, rfl⟩ (hg _ _) (by decide) (by rw [e22]; rfl) (by decide) (t2 (e22))
  exact ax_ls (off := 47) (p1 := 66) ⟨_, rfl⟩ (hg _ _) (by decide) (by simp [Op.lookupswitch.offset, Ne.symm e6, Ne.symm e19, Ne.symm e22]) (by decide) (tD e6 e19 e22)
abbrev k_Judge_judgeBareParts_10 (B : Nat) (r : Nat) (d : Nat) (x1 : Int) (x2 : Int) (y3 : Option Value) (y4 : Option Value) (V : ax_V) (Φ : ax_V → Prop) (Θ : ax_V → Prop) : Prop := ax_R (az_W B (az_EJ B r)) ax_t d m_Judge_judgeBareParts 10 [some (.ref r), some (ax_i x1), some (ax_i x2), y3, y4] [] V (ax_Nr Φ) Θ
abbrev k_Judge_judgeBareParts_171 (B : Nat) (r : Nat) (d : Nat) (x1 : Int) (x2 : Int) (x3 : Int) (x4 : Int) (V : ax_V) (Φ : ax_V → Prop) (Θ : ax_V → Prop) : Prop := ax_R (az_W B (az_EJ B r)) ax_t d m_Judge_judgeBareParts 171 [some (.ref r), some (ax_i x1), some (ax_i x2), some (ax_i x3), some (ax_i x4)] [] V (ax_Nr Φ) Θ
abbrev k_Judge_judgeBareParts_204 (B : Nat) (r : Nat) (d : Nat) (x1 : Int) (x2 : Int) (y3 : Option Value) (y4 : Option Value) (V : ax_V) (Φ : ax_V → Prop) (Θ : ax_V → Prop) : Prop := ax_R (az_W B (az_EJ B r)) ax_t d m_Judge_judgeBareParts 204 [some (.ref r), some (ax_i x1), some (ax_i x2), y3, y4] [] V (ax_Nr Φ) Θ
set_option maxRecDepth 20000 in
theorem r_Judge_judgeBareParts_10 {B : Nat} {r : Nat} {d : Nat} {V : ax_V} {Φ : ax_V → Prop} {Θ : ax_V → Prop} {x1 : Int} {x2 : Int} {y3 : Option Value} {y4 : Option Value} (hg : ax_g V) (hx1 : ax_rg x1) (hx2 : ax_rg x2) (hy3 : ax_y y3) (hy4 : ax_y y4) (h : (0 ≤ x1 + 1 ∧ x1 + 1 < 9) ∧ ((V 508 (x1 + 1) ≤ x2 → Φ V) ∧ (x2 < V 508 (x1 + 1) → (0 ≤ x2 ∧ x2 < 700) ∧ (0 ≤ x2 ∧ x2 < 700) ∧ (((V 517 x2 = 6 ∨ V 517 x2 = 18 ∨ V 517 x2 = 19) → ax_N (az_W B (az_EJ B r)) d q_Judge_mustHave [.ref r, ax_i (V 521 x2)] V (fun V1 => k_Judge_judgeBareParts_10 B r d x1 (x2 + 1) (some (ax_i (V 521 x2))) y4 V1 Φ Θ) Θ) ∧ ((V 517 x2 = 20 ∨ V 517 x2 = 21) → ax_I (az_W B (az_EJ B r)) d q_Parts_ownLetter [.ref (B + 16), ax_i x2] V (fun r2 V2 => (0 ≤ r2 ∧ r2 < 208) ∧ (0 ≤ x2 ∧ x2 < 700) ∧ ax_N (az_W B (az_EJ B r)) d q_Judge_blameIf [.ref r, ax_i (V2 544 r2), ax_i (V2 519 x2)] V2 (fun V3 => k_Judge_judgeBareParts_10 B r d x1 (x2 + 1) (some (ax_i (V 521 x2))) y4 V3 Φ Θ) Θ) Θ) ∧ (V 517 x2 = 22 → k_Judge_judgeBareParts_171 B r d x1 x2 (V 521 x2) 0 V Φ Θ) ∧ (¬ V 517 x2 = 6 → ¬ V 517 x2 = 18 → ¬ V 517 x2 = 19 → ¬ V 517 x2 = 20 → ¬ V 517 x2 = 21 → ¬ V 517 x2 = 22 → k_Judge_judgeBareParts_10 B r d x1 (x2 + 1) (some (ax_i (V 521 x2))) y4 V Φ Θ))))) : k_Judge_judgeBareParts_10 B r d x1 x2 y3 y4 V Φ Θ := by
  refine ax_mv 2 12 [some (.ref r), some (ax_i x1), some (ax_i x2), y3, y4] [.ref r, ax_i x2] rfl ?_
  refine ax_gR (v := .ref B) (pc' := 15) ⟨_, rfl⟩ fl_3_15 (az_e 0 rfl) rfl rfl ?_
  refine ax_gR (v := .ref (B + 8)) (pc' := 18) ⟨_, rfl⟩ fl_3_149 (az_b 0 rfl) rfl rfl ?_
  refine ax_mv 2 20 [some (.ref r), some (ax_i x1), some (ax_i x2), y3, y4] [ax_i 1, ax_i x1, .ref (B + 8), ax_i x2] rfl ?_
  refine ax_add (pc' := 21) ⟨_, rfl⟩ rfl ?_
  obtain ⟨o1, h⟩ := h
  refine ax_ild (n := 9) (pc' := 22) ⟨_, rfl⟩ (az_b 8 rfl) (by decide) o1 rfl ?_
  refine ax_if2 (p1 := 263) (p2 := 25) ⟨_, rfl⟩ (by decide) rfl hx2 (hg _ _) (fun hc => ?_) (fun hc => ?_)
  · have h := h.1 hc
    exact ax_nret ⟨_, rfl⟩ rfl hg h
  · have h := h.2 (Int.not_le.mp hc)
    refine ax_mv 1 26 [some (.ref r), some (ax_i x1), some (ax_i x2), y3, y4] [.ref r] rfl ?_
    refine ax_gR (v := .ref (B + 16)) (pc' := 29) ⟨_, rfl⟩ fl_3_25 (az_e 0 rfl) rfl rfl ?_
    refine ax_gR (v := .ref (B + 21)) (pc' := 32) ⟨_, rfl⟩ fl_3_215 (az_b 16 rfl) rfl rfl ?_
    refine ax_mv 1 33 [some (.ref r), some (ax_i x1), some (ax_i x2), y3, y4] [ax_i x2, .ref (B + 21)] rfl ?_
    obtain ⟨o2, h⟩ := h
    refine ax_ild (n := 700) (pc' := 34) ⟨_, rfl⟩ (az_b 21 rfl) (by decide) o2 rfl ?_
    refine ax_sti (i := 0) (k := 3) (n := 1) (pc' := 35) (L' := [some (.ref r), some (ax_i x1), some (ax_i x2), some (ax_i (V 521 x2)), y4]) ⟨_, rfl⟩ rfl rfl rfl (Nat.le_of_ble_eq_true rfl) rfl rfl ?_
    refine ax_mv 1 36 [some (.ref r), some (ax_i x1), some (ax_i x2), some (ax_i (V 521 x2)), y4] [.ref r] rfl ?_
    refine ax_gR (v := .ref (B + 16)) (pc' := 39) ⟨_, rfl⟩ fl_3_25 (az_e 0 rfl) rfl rfl ?_
    refine ax_gR (v := .ref (B + 17)) (pc' := 42) ⟨_, rfl⟩ fl_3_158 (az_b 16 rfl) rfl rfl ?_
    refine ax_mv 1 43 [some (.ref r), some (ax_i x1), some (ax_i x2), some (ax_i (V 521 x2)), y4] [ax_i x2, .ref (B + 17)] rfl ?_
    obtain ⟨o3, h⟩ := h
    refine ax_ild (n := 700) (pc' := 44) ⟨_, rfl⟩ (az_b 17 rfl) (by decide) o3 rfl ?_
    have t0 : (V 517 x2 = 6 ∨ V 517 x2 = 18 ∨ V 517 x2 = 19) → ax_R (az_W B (az_EJ B r)) ax_t d m_Judge_judgeBareParts 128 [some (.ref r), some (ax_i x1), some (ax_i x2), some (ax_i (V 521 x2)), y4] [] V (ax_Nr Φ) Θ := fun hk => by
      have h := h.1 hk
      refine ax_mv 2 130 [some (.ref r), some (ax_i x1), some (ax_i x2), some (ax_i (V 521 x2)), y4] [ax_i (V 521 x2), .ref r] rfl ?_
      refine ax_callN (pc' := 133) ⟨_, rfl⟩ ml_3_272 (rest := []) rfl (fun ss hs => ⟨_, _, (az_e 0 rfl) ss hs⟩) (Nat.le_of_ble_eq_true rfl) rfl rfl h (fun V1 hg1 h => ?_)
      refine ax_mv 1 257 [some (.ref r), some (ax_i x1), some (ax_i x2), some (ax_i (V 521 x2)), y4] [] rfl ?_
      refine ax_inc (x := x2) (pc' := 260) (L' := [some (.ref r), some (ax_i x1), some (ax_i (x2 + 1)), some (ax_i (V 521 x2)), y4]) ⟨_, rfl⟩ rfl rfl rfl rfl ?_
      refine ax_mv 1 10 [some (.ref r), some (ax_i x1), some (ax_i (x2 + 1)), some (ax_i (V 521 x2)), y4] [] rfl ?_
      exact h
    have t1 : (V 517 x2 = 20 ∨ V 517 x2 = 21) → ax_R (az_W B (az_EJ B r)) ax_t d m_Judge_judgeBareParts 136 [some (.ref r), some (ax_i x1), some (ax_i x2), some (ax_i (V 521 x2)), y4] [] V (ax_Nr Φ) Θ := fun hk => by
      have h := h.2.1 hk
      refine ax_mv 2 138 [some (.ref r), some (ax_i x1), some (ax_i x2), some (ax_i (V 521 x2)), y4] [.ref r, .ref r] rfl ?_
      refine ax_gR (v := .ref (B + 32)) (pc' := 141) ⟨_, rfl⟩ fl_3_30 (az_e 0 rfl) rfl rfl ?_
      refine ax_gR (v := .ref (B + 44)) (pc' := 144) ⟨_, rfl⟩ fl_3_268 (az_b 32 rfl) rfl rfl ?_
      refine ax_mv 1 145 [some (.ref r), some (ax_i x1), some (ax_i x2), some (ax_i (V 521 x2)), y4] [.ref r, .ref (B + 44), .ref r] rfl ?_
      refine ax_gR (v := .ref (B + 16)) (pc' := 148) ⟨_, rfl⟩ fl_3_25 (az_e 0 rfl) rfl rfl ?_
      refine ax_mv 1 149 [some (.ref r), some (ax_i x1), some (ax_i x2), some (ax_i (V 521 x2)), y4] [ax_i x2, .ref (B + 16), .ref (B + 44), .ref r] rfl ?_
      refine ax_callI (pc' := 152) ⟨_, rfl⟩ ml_3_269 (rest := [.ref (B + 44), .ref r]) rfl (fun ss hs => ⟨_, _, (az_b 16 rfl) ss hs⟩) (Nat.le_of_ble_eq_true rfl) rfl rfl h (fun r2 V2 hg2 hr2 h => ?_)
      obtain ⟨o4, h⟩ := h
      refine ax_bld (n := 208) (pc' := 153) ⟨_, rfl⟩ (az_b 44 rfl) (by decide) o4 rfl ?_
      refine ax_mv 1 154 [some (.ref r), some (ax_i x1), some (ax_i x2), some (ax_i (V 521 x2)), y4] [.ref r, ax_i (V2 544 r2), .ref r] rfl ?_
      refine ax_gR (v := .ref (B + 16)) (pc' := 157) ⟨_, rfl⟩ fl_3_25 (az_e 0 rfl) rfl rfl ?_
      refine ax_gR (v := .ref (B + 19)) (pc' := 160) ⟨_, rfl⟩ fl_3_157 (az_b 16 rfl) rfl rfl ?_
      refine ax_mv 1 161 [some (.ref r), some (ax_i x1), some (ax_i x2), some (ax_i (V 521 x2)), y4] [ax_i x2, .ref (B + 19), ax_i (V2 544 r2), .ref r] rfl ?_
      obtain ⟨o5, h⟩ := h
      refine ax_ild (n := 700) (pc' := 162) ⟨_, rfl⟩ (az_b 19 rfl) (by decide) o5 rfl ?_
      refine ax_callN (pc' := 165) ⟨_, rfl⟩ ml_3_123 (rest := []) rfl (fun ss hs => ⟨_, _, (az_e 0 rfl) ss hs⟩) (Nat.le_of_ble_eq_true rfl) rfl rfl h (fun V3 hg3 h => ?_)
      refine ax_mv 1 257 [some (.ref r), some (ax_i x1), some (ax_i x2), some (ax_i (V 521 x2)), y4] [] rfl ?_
      refine ax_inc (x := x2) (pc' := 260) (L' := [some (.ref r), some (ax_i x1), some (ax_i (x2 + 1)), some (ax_i (V 521 x2)), y4]) ⟨_, rfl⟩ rfl rfl rfl rfl ?_
      refine ax_mv 1 10 [some (.ref r), some (ax_i x1), some (ax_i (x2 + 1)), some (ax_i (V 521 x2)), y4] [] rfl ?_
      exact h
    have t2 : (V 517 x2 = 22) → ax_R (az_W B (az_EJ B r)) ax_t d m_Judge_judgeBareParts 168 [some (.ref r), some (ax_i x1), some (ax_i x2), some (ax_i (V 521 x2)), y4] [] V (ax_Nr Φ) Θ := fun hk => by
      have h := h.2.2.1 hk
      refine ax_mv 1 169 [some (.ref r), some (ax_i x1), some (ax_i x2), some (ax_i (V 521 x2)), y4] [ax_i 0] rfl ?_
      refine ax_sti (i := 0) (k := 4) (n := 2) (pc' := 171) (L' := [some (.ref r), some (ax_i x1), some (ax_i x2), some (ax_i (V 521 x2)), some (ax_i 0)]) ⟨_, rfl⟩ rfl rfl rfl (Nat.le_of_ble_eq_true rfl) rfl rfl ?_
      exact h
    have tD : ¬ V 517 x2 = 6 → ¬ V 517 x2 = 18 → ¬ V 517 x2 = 19 → ¬ V 517 x2 = 20 → ¬ V 517 x2 = 21 → ¬ V 517 x2 = 22 → ax_R (az_W B (az_EJ B r)) ax_t d m_Judge_judgeBareParts 257 [some (.ref r), some (ax_i x1), some (ax_i x2), some (ax_i (V 521 x2)), y4] [] V (ax_Nr Φ) Θ := fun n0 n1 n2 n3 n4 n5 => by
      have h := h.2.2.2 n0 n1 n2 n3 n4 n5
      refine ax_inc (x := x2) (pc' := 260) (L' := [some (.ref r), some (ax_i x1), some (ax_i (x2 + 1)), some (ax_i (V 521 x2)), y4]) ⟨_, rfl⟩ rfl rfl rfl rfl ?_
      refine ax_mv 1 10 [some (.ref r), some (ax_i x1), some (ax_i (x2 + 1)), some (ax_i (V 521 x2)), y4] [] rfl ?_
      exact h
    by_cases e6 : V 517 x2 = 6
    · exact ax_tsC (off := 84) (p1 := 128) ⟨_, rfl⟩ (hg _ _) (by omega) (by omega) (by rw [e6]; rfl) (by decide) (t0 (Or.inl e6))
    by_cases e7 : V 517 x2 = 7
    · exact ax_tsC (off := 213) (p1 := 257) ⟨_, rfl⟩ (hg _ _) (by omega) (by omega) (by rw [e7]; rfl) (by decide) (tD (by omega) (by omega) (by omega) (by omega) (by omega) (by omega))
    by_cases e8 : V 517 x2 = 8
    · exact ax_tsC (off := 213) (p1 := 257) ⟨_, rfl⟩ (hg _ _) (by omega) (by omega) (by rw [e8]; rfl) (by decide) (tD (by omega) (by omega) (by omega) (by omega) (by omega) (by omega))
    by_cases e9 : V 517 x2 = 9
    · exact ax_tsC (off := 213) (p1 := 257) ⟨_, rfl⟩ (hg _ _) (by omega) (by omega) (by rw [e9]; rfl) (by decide) (tD (by omega) (by omega) (by omega) (by omega) (by omega) (by omega))
    by_cases e10 : V 517 x2 = 10
    · exact ax_tsC (off := 213) (p1 := 257) ⟨_, rfl⟩ (hg _ _) (by omega) (by omega) (by rw [e10]; rfl) (by decide) (tD (by omega) (by omega) (by omega) (by omega) (by omega) (by omega))
    by_cases e11 : V 517 x2 = 11
    · exact ax_tsC (off := 213) (p1 := 257) ⟨_, rfl⟩ (hg _ _) (by omega) (by omega) (by rw [e11]; rfl) (by decide) (tD (by omega) (by omega) (by omega) (by omega) (by omega) (by omega))
    by_cases e12 : V 517 x2 = 12
    · exact ax_tsC (off := 213) (p1 := 257) ⟨_, rfl⟩ (hg _ _) (by omega) (by omega) (by rw [e12]; rfl) (by decide) (tD (by omega) (by omega) (by omega) (by omega) (by omega) (by omega))
    by_cases e13 : V 517 x2 = 13
    · exact ax_tsC (off := 213) (p1 := 257) ⟨_, rfl⟩ (hg _ _) (by omega) (by omega) (by rw [e13]; rfl) (by decide) (tD (by omega) (by omega) (by omega) (by omega) (by omega) (by omega))
    by_cases e14 : V 517 x2 = 14
    · exact ax_tsC (off := 213) (p1 := 257) ⟨_, rfl⟩ (hg _ _) (by omega) (by omega) (by rw [e14]; rfl) (by decide) (tD (by omega) (by omega) (by omega) (by omega) (by omega) (by omega))
    by_cases e15 : V 517 x2 = 15
    · exact ax_tsC (off := 213) (p1 := 257) ⟨_, rfl⟩ (hg _ _) (by omega) (by omega) (by rw [e15]; rfl) (by decide) (tD (by omega) (by omega) (by omega) (by omega) (by omega) (by omega))
    by_cases e16 : V 517 x2 = 16
    · exact ax_tsC (off := 213) (p1 := 257) ⟨_, rfl⟩ (hg _ _) (by omega) (by omega) (by rw [e16]; rfl) (by decide) (tD (by omega) (by omega) (by omega) (by omega) (by omega) (by omega))
    by_cases e17 : V 517 x2 = 17
    · exact ax_tsC (off := 213) (p1 := 257) ⟨_, rfl⟩ (hg _ _) (by omega) (by omega) (by rw [e17]; rfl) (by decide) (tD (by omega) (by omega) (by omega) (by omega) (by omega) (by omega))
    by_cases e18 : V 517 x2 = 18
    · exact ax_tsC (off := 84) (p1 := 128) ⟨_, rfl⟩ (hg _ _) (by omega) (by omega) (by rw [e18]; rfl) (by decide) (t0 (Or.inr (Or.inl e18)))
    by_cases e19 : V 517 x2 = 19
    · exact ax_tsC (off := 84) (p1 := 128) ⟨_, rfl⟩ (hg _ _) (by omega) (by omega) (by rw [e19]; rfl) (by decide) (t0 (Or.inr (Or.inr (e19))))
    by_cases e20 : V 517 x2 = 20
    · exact ax_tsC (off := 92) (p1 := 136) ⟨_, rfl⟩ (hg _ _) (by omega) (by omega) (by rw [e20]; rfl) (by decide) (t1 (Or.inl e20))
    by_cases e21 : V 517 x2 = 21
    · exact ax_tsC (off := 92) (p1 := 136) ⟨_, rfl⟩ (hg _ _) (by omega) (by omega) (by rw [e21]; rfl) (by decide) (t1 (Or.inr (e21)))
    by_cases e22 : V 517 x2 = 22
    · exact ax_tsC (off := 124) (p1 := 168) ⟨_, rfl⟩ (hg _ _) (by omega) (by omega) (by rw [e22]; rfl) (by decide) (t2 (e22))
    exact ax_tsD (p1 := 257) ⟨_, rfl⟩ (hg _ _) (by omega) (by decide) (tD e6 e18 e19 e20 e21 e22)
set_option maxRecDepth 20000 in
theorem r_Judge_judgeBareParts_171 {B : Nat} {r : Nat} {d : Nat} {V : ax_V} {Φ : ax_V → Prop} {Θ : ax_V → Prop} {x1 : Int} {x2 : Int} {x3 : Int} {x4 : Int} (hg : ax_g V) (hx1 : ax_rg x1) (hx2 : ax_rg x2) (hx3 : ax_rg x3) (hx4 : ax_rg x4) (h : ((700 ≤ x4 → k_Judge_judgeBareParts_204 B r d x1 x2 (some (ax_i x3)) (some (ax_i x4)) V Φ Θ) ∧ (x4 < 700 → ((x3 < 0 → k_Judge_judgeBareParts_204 B r d x1 x2 (some (ax_i x3)) (some (ax_i x4)) V Φ Θ) ∧ (0 ≤ x3 → ax_N (az_W B (az_EJ B r)) d q_Judge_mustHave [.ref r, ax_i x3] V (fun V1 => (0 ≤ x3 ∧ x3 < 700) ∧ k_Judge_judgeBareParts_171 B r d x1 x2 (V1 522 x3) (x4 + 1) V1 Φ Θ) Θ))))) : k_Judge_judgeBareParts_171 B r d x1 x2 x3 x4 V Φ Θ := by
  refine ax_mv 1 173 [some (.ref r), some (ax_i x1), some (ax_i x2), some (ax_i x3), some (ax_i x4)] [ax_i x4] rfl ?_
  refine ax_sip (pc' := 176) ⟨_, rfl⟩ (by decide) rfl ?_
  refine ax_if2 (p1 := 204) (p2 := 179) ⟨_, rfl⟩ (by decide) rfl hx4 (by decide) (fun hc => ?_) (fun hc => ?_)
  · have h := h.1 hc
    exact h
  · have h := h.2 (Int.not_le.mp hc)
    refine ax_mv 1 180 [some (.ref r), some (ax_i x1), some (ax_i x2), some (ax_i x3), some (ax_i x4)] [ax_i x3] rfl ?_
    refine ax_if (p1 := 204) (p2 := 183) ⟨_, rfl⟩ (by decide) rfl hx3 (fun hc => ?_) (fun hc => ?_)
    · have h := h.1 hc
      exact h
    · have h := h.2 (Int.not_lt.mp hc)
      refine ax_mv 2 185 [some (.ref r), some (ax_i x1), some (ax_i x2), some (ax_i x3), some (ax_i x4)] [ax_i x3, .ref r] rfl ?_
      refine ax_callN (pc' := 188) ⟨_, rfl⟩ ml_3_272 (rest := []) rfl (fun ss hs => ⟨_, _, (az_e 0 rfl) ss hs⟩) (Nat.le_of_ble_eq_true rfl) rfl rfl h (fun V1 hg1 h => ?_)
      refine ax_mv 1 189 [some (.ref r), some (ax_i x1), some (ax_i x2), some (ax_i x3), some (ax_i x4)] [.ref r] rfl ?_
      refine ax_gR (v := .ref (B + 16)) (pc' := 192) ⟨_, rfl⟩ fl_3_25 (az_e 0 rfl) rfl rfl ?_
      refine ax_gR (v := .ref (B + 22)) (pc' := 195) ⟨_, rfl⟩ fl_3_224 (az_b 16 rfl) rfl rfl ?_
      refine ax_mv 1 196 [some (.ref r), some (ax_i x1), some (ax_i x2), some (ax_i x3), some (ax_i x4)] [ax_i x3, .ref (B + 22)] rfl ?_
      obtain ⟨o6, h⟩ := h
      refine ax_ild (n := 700) (pc' := 197) ⟨_, rfl⟩ (az_b 22 rfl) (by decide) o6 rfl ?_
      refine ax_sti (i := 0) (k := 3) (n := 1) (pc' := 198) (L' := [some (.ref r), some (ax_i x1), some (ax_i x2), some (ax_i (V1 522 x3)), some (ax_i x4)]) ⟨_, rfl⟩ rfl rfl rfl (Nat.le_of_ble_eq_true rfl) rfl rfl ?_
      refine ax_inc (x := x4) (pc' := 201) (L' := [some (.ref r), some (ax_i x1), some (ax_i x2), some (ax_i (V1 522 x3)), some (ax_i (x4 + 1))]) ⟨_, rfl⟩ rfl rfl rfl rfl ?_
      refine ax_mv 1 171 [some (.ref r), some (ax_i x1), some (ax_i x2), some (ax_i (V1 522 x3)), some (ax_i (x4 + 1))] [] rfl ?_
      exact h
set_option maxRecDepth 20000 in
theorem r_Judge_judgeBareParts_204 {B : Nat} {r : Nat} {d : Nat} {V : ax_V} {Φ : ax_V → Prop} {Θ : ax_V → Prop} {x1 : Int} {x2 : Int} {y3 : Option Value} {y4 : Option Value} (hg : ax_g V) (hx1 : ax_rg x1) (hx2 : ax_rg x2) (hy3 : ax_y y3) (hy4 : ax_y y4) (h : (0 ≤ x2 ∧ x2 < 700) ∧ ((V 523 x2 < 0 → (0 ≤ x2 ∧ x2 < 700) ∧ ax_N (az_W B (az_EJ B r)) d q_Judge_blameIf [.ref r, ax_i 0, ax_i (V 524 x2)] V (fun V1 => k_Judge_judgeBareParts_10 B r d x1 (x2 + 1) y3 y4 V1 Φ Θ) Θ) ∧ (0 ≤ V 523 x2 → (0 ≤ x2 ∧ x2 < 700) ∧ (0 ≤ V 523 x2 ∧ V 523 x2 < 208) ∧ ((V 544 (V 523 x2) = 0 → (0 ≤ x2 ∧ x2 < 700) ∧ ax_N (az_W B (az_EJ B r)) d q_Judge_blameIf [.ref r, ax_i 0, ax_i (V 524 x2)] V (fun V2 => k_Judge_judgeBareParts_10 B r d x1 (x2 + 1) y3 y4 V2 Φ Θ) Θ) ∧ (¬ V 544 (V 523 x2) = 0 → (0 ≤ x2 ∧ x2 < 700) ∧ ax_N (az_W B (az_EJ B r)) d q_Judge_blameIf [.ref r, ax_i 1, ax_i (V 524 x2)] V (fun V3 => k_Judge_judgeBareParts_10 B r d x1 (x2 + 1) y3 y4 V3 Φ Θ) Θ))))) : k_Judge_judgeBareParts_204 B r d x1 x2 y3 y4 V Φ Θ := by
  refine ax_mv 2 206 [some (.ref r), some (ax_i x1), some (ax_i x2), y3, y4] [.ref r, .ref r] rfl ?_
  refine ax_gR (v := .ref (B + 16)) (pc' := 209) ⟨_, rfl⟩ fl_3_25 (az_e 0 rfl) rfl rfl ?_
  refine ax_gR (v := .ref (B + 23)) (pc' := 212) ⟨_, rfl⟩ fl_3_169 (az_b 16 rfl) rfl rfl ?_
  refine ax_mv 1 213 [some (.ref r), some (ax_i x1), some (ax_i x2), y3, y4] [ax_i x2, .ref (B + 23), .ref r] rfl ?_
  obtain ⟨o7, h⟩ := h
  refine ax_ild (n := 700) (pc' := 214) ⟨_, rfl⟩ (az_b 23 rfl) (by decide) o7 rfl ?_
  refine ax_if (p1 := 241) (p2 := 217) ⟨_, rfl⟩ (by decide) rfl (hg _ _) (fun hc => ?_) (fun hc => ?_)
  · have h := h.1 hc
    refine ax_mv 2 243 [some (.ref r), some (ax_i x1), some (ax_i x2), y3, y4] [.ref r, ax_i 0, .ref r] rfl ?_
    refine ax_gR (v := .ref (B + 16)) (pc' := 246) ⟨_, rfl⟩ fl_3_25 (az_e 0 rfl) rfl rfl ?_
    refine ax_gR (v := .ref (B + 24)) (pc' := 249) ⟨_, rfl⟩ fl_3_172 (az_b 16 rfl) rfl rfl ?_
    refine ax_mv 1 250 [some (.ref r), some (ax_i x1), some (ax_i x2), y3, y4] [ax_i x2, .ref (B + 24), ax_i 0, .ref r] rfl ?_
    obtain ⟨o8, h⟩ := h
    refine ax_ild (n := 700) (pc' := 251) ⟨_, rfl⟩ (az_b 24 rfl) (by decide) o8 rfl ?_
    refine ax_callN (pc' := 254) ⟨_, rfl⟩ ml_3_123 (rest := []) rfl (fun ss hs => ⟨_, _, (az_e 0 rfl) ss hs⟩) (Nat.le_of_ble_eq_true rfl) rfl rfl h (fun V1 hg1 h => ?_)
    refine ax_mv 1 257 [some (.ref r), some (ax_i x1), some (ax_i x2), y3, y4] [] rfl ?_
    refine ax_inc (x := x2) (pc' := 260) (L' := [some (.ref r), some (ax_i x1), some (ax_i (x2 + 1)), y3, y4]) ⟨_, rfl⟩ rfl rfl rfl rfl ?_
    refine ax_mv 1 10 [some (.ref r), some (ax_i x1), some (ax_i (x2 + 1)), y3, y4] [] rfl ?_
    exact h
  · have h := h.2 (Int.not_lt.mp hc)
    refine ax_mv 1 218 [some (.ref r), some (ax_i x1), some (ax_i x2), y3, y4] [.ref r, .ref r] rfl ?_
    refine ax_gR (v := .ref (B + 32)) (pc' := 221) ⟨_, rfl⟩ fl_3_30 (az_e 0 rfl) rfl rfl ?_
    refine ax_gR (v := .ref (B + 44)) (pc' := 224) ⟨_, rfl⟩ fl_3_268 (az_b 32 rfl) rfl rfl ?_
    refine ax_mv 1 225 [some (.ref r), some (ax_i x1), some (ax_i x2), y3, y4] [.ref r, .ref (B + 44), .ref r] rfl ?_
    refine ax_gR (v := .ref (B + 16)) (pc' := 228) ⟨_, rfl⟩ fl_3_25 (az_e 0 rfl) rfl rfl ?_
    refine ax_gR (v := .ref (B + 23)) (pc' := 231) ⟨_, rfl⟩ fl_3_169 (az_b 16 rfl) rfl rfl ?_
    refine ax_mv 1 232 [some (.ref r), some (ax_i x1), some (ax_i x2), y3, y4] [ax_i x2, .ref (B + 23), .ref (B + 44), .ref r] rfl ?_
    obtain ⟨o9, h⟩ := h
    refine ax_ild (n := 700) (pc' := 233) ⟨_, rfl⟩ (az_b 23 rfl) (by decide) o9 rfl ?_
    obtain ⟨o10, h⟩ := h
    refine ax_bld (n := 208) (pc' := 234) ⟨_, rfl⟩ (az_b 44 rfl) (by decide) o10 rfl ?_
    refine ax_if (p1 := 241) (p2 := 237) ⟨_, rfl⟩ (by decide) rfl (hg _ _) (fun hc => ?_) (fun hc => ?_)
    · have h := h.1 hc
      refine ax_mv 2 243 [some (.ref r), some (ax_i x1), some (ax_i x2), y3, y4] [.ref r, ax_i 0, .ref r] rfl ?_
      refine ax_gR (v := .ref (B + 16)) (pc' := 246) ⟨_, rfl⟩ fl_3_25 (az_e 0 rfl) rfl rfl ?_
      refine ax_gR (v := .ref (B + 24)) (pc' := 249) ⟨_, rfl⟩ fl_3_172 (az_b 16 rfl) rfl rfl ?_
      refine ax_mv 1 250 [some (.ref r), some (ax_i x1), some (ax_i x2), y3, y4] [ax_i x2, .ref (B + 24), ax_i 0, .ref r] rfl ?_
      obtain ⟨o11, h⟩ := h
      refine ax_ild (n := 700) (pc' := 251) ⟨_, rfl⟩ (az_b 24 rfl) (by decide) o11 rfl ?_
      refine ax_callN (pc' := 254) ⟨_, rfl⟩ ml_3_123 (rest := []) rfl (fun ss hs => ⟨_, _, (az_e 0 rfl) ss hs⟩) (Nat.le_of_ble_eq_true rfl) rfl rfl h (fun V2 hg2 h => ?_)
      refine ax_mv 1 257 [some (.ref r), some (ax_i x1), some (ax_i x2), y3, y4] [] rfl ?_
      refine ax_inc (x := x2) (pc' := 260) (L' := [some (.ref r), some (ax_i x1), some (ax_i (x2 + 1)), y3, y4]) ⟨_, rfl⟩ rfl rfl rfl rfl ?_
      refine ax_mv 1 10 [some (.ref r), some (ax_i x1), some (ax_i (x2 + 1)), y3, y4] [] rfl ?_
      exact h
    · have h := h.2 hc
      refine ax_mv 3 243 [some (.ref r), some (ax_i x1), some (ax_i x2), y3, y4] [.ref r, ax_i 1, .ref r] rfl ?_
      refine ax_gR (v := .ref (B + 16)) (pc' := 246) ⟨_, rfl⟩ fl_3_25 (az_e 0 rfl) rfl rfl ?_
      refine ax_gR (v := .ref (B + 24)) (pc' := 249) ⟨_, rfl⟩ fl_3_172 (az_b 16 rfl) rfl rfl ?_
      refine ax_mv 1 250 [some (.ref r), some (ax_i x1), some (ax_i x2), y3, y4] [ax_i x2, .ref (B + 24), ax_i 1, .ref r] rfl ?_
      obtain ⟨o12, h⟩ := h
      refine ax_ild (n := 700) (pc' := 251) ⟨_, rfl⟩ (az_b 24 rfl) (by decide) o12 rfl ?_
      refine ax_callN (pc' := 254) ⟨_, rfl⟩ ml_3_123 (rest := []) rfl (fun ss hs => ⟨_, _, (az_e 0 rfl) ss hs⟩) (Nat.le_of_ble_eq_true rfl) rfl rfl h (fun V3 hg3 h => ?_)
      refine ax_mv 1 257 [some (.ref r), some (ax_i x1), some (ax_i x2), y3, y4] [] rfl ?_
      refine ax_inc (x := x2) (pc' := 260) (L' := [some (.ref r), some (ax_i x1), some (ax_i (x2 + 1)), y3, y4]) ⟨_, rfl⟩ rfl rfl rfl rfl ?_
      refine ax_mv 1 10 [some (.ref r), some (ax_i x1), some (ax_i (x2 + 1)), y3, y4] [] rfl ?_
      exact h
set_option maxRecDepth 20000 in
theorem r_Judge_judgeBareParts {B : Nat} {r : Nat} {d : Nat} {V : ax_V} {Φ : ax_V → Prop} {Θ : ax_V → Prop} {x1 : Int} (hg : ax_g V) (hx1 : ax_rg x1) (h : (0 ≤ x1 ∧ x1 < 9) ∧ k_Judge_judgeBareParts_10 B r d x1 (V 508 x1) none none V Φ Θ) : ax_N (az_W B (az_EJ B r)) (d + 1) q_Judge_judgeBareParts [.ref r, ax_i x1] V Φ Θ := by
  refine ax_T.of (M := m_Judge_judgeBareParts) rfl (Nat.le_of_ble_eq_true rfl) ?_
  refine ax_mv 0 0 [some (.ref r), some (ax_i x1), none, none, none] [] rfl ?_
  refine ax_mv 1 1 [some (.ref r), some (ax_i x1), none, none, none] [.ref r] rfl ?_
  refine ax_gR (v := .ref B) (pc' := 4) ⟨_, rfl⟩ fl_3_15 (az_e 0 rfl) rfl rfl ?_
  refine ax_gR (v := .ref (B + 8)) (pc' := 7) ⟨_, rfl⟩ fl_3_149 (az_b 0 rfl) rfl rfl ?_
  refine ax_mv 1 8 [some (.ref r), some (ax_i x1), none, none, none] [ax_i x1, .ref (B + 8)] rfl ?_
  obtain ⟨o13, h⟩ := h
  refine ax_ild (n := 9) (pc' := 9) ⟨_, rfl⟩ (az_b 8 rfl) (by decide) o13 rfl ?_
  refine ax_sti (i := 0) (k := 2) (n := 1) (pc' := 10) (L' := [some (.ref r), some (ax_i x1), some (ax_i (V 508 x1)), none, none]) ⟨_, rfl⟩ rfl rfl rfl (Nat.le_of_ble_eq_true rfl) rfl rfl ?_
  exact h
theorem r_Judge_mustHave {B : Nat} {r : Nat} {d : Nat} {V : ax_V} {Φ : ax_V → Prop} {Θ : ax_V → Prop} {x1 : Int} (hg : ax_g V) (hx1 : ax_rg x1) (h : (0 ≤ x1 ∧ x1 < 700) ∧ (0 ≤ x1 ∧ x1 < 700) ∧ ax_N (az_W B (az_EJ B r)) d q_Judge_blameIf [.ref r, ax_i (V 530 x1), ax_i (V 518 x1)] V (fun V1 => Φ V1) Θ) : ax_N (az_W B (az_EJ B r)) (d + 1) q_Judge_mustHave [.ref r, ax_i x1] V Φ Θ := by
  refine ax_T.of (M := m_Judge_mustHave) rfl (Nat.le_of_ble_eq_true rfl) ?_
  refine ax_mv 0 0 [some (.ref r), some (ax_i x1)] [] rfl ?_
  refine ax_mv 2 2 [some (.ref r), some (ax_i x1)] [.ref r, .ref r] rfl ?_
  refine ax_gR (v := .ref (B + 16)) (pc' := 5) ⟨_, rfl⟩ fl_3_25 (az_e 0 rfl) rfl rfl ?_
  refine ax_gR (v := .ref (B + 30)) (pc' := 8) ⟨_, rfl⟩ fl_3_262 (az_b 16 rfl) rfl rfl ?_
  refine ax_mv 1 9 [some (.ref r), some (ax_i x1)] [ax_i x1, .ref (B + 30), .ref r] rfl ?_
  obtain ⟨o1, h⟩ := h
  refine ax_bld (n := 700) (pc' := 10) ⟨_, rfl⟩ (az_b 30 rfl) (by decide) o1 rfl ?_
  refine ax_mv 1 11 [some (.ref r), some (ax_i x1)] [.ref r, ax_i (V 530 x1), .ref r] rfl ?_
  refine ax_gR (v := .ref (B + 16)) (pc' := 14) ⟨_, rfl⟩ fl_3_25 (az_e 0 rfl) rfl rfl ?_
  refine ax_gR (v := .ref (B + 18)) (pc' := 17) ⟨_, rfl⟩ fl_3_227 (az_b 16 rfl) rfl rfl ?_
  refine ax_mv 1 18 [some (.ref r), some (ax_i x1)] [ax_i x1, .ref (B + 18), ax_i (V 530 x1), .ref r] rfl ?_
  obtain ⟨o2, h⟩ := h
  refine ax_ild (n := 700) (pc' := 19) ⟨_, rfl⟩ (az_b 18 rfl) (by decide) o2 rfl ?_
  refine ax_callN (pc' := 22) ⟨_, rfl⟩ ml_3_123 (rest := []) rfl (fun ss hs => ⟨_, _, (az_e 0 rfl) ss hs⟩) (Nat.le_of_ble_eq_true rfl) rfl rfl h (fun V1 hg1 h => ?_)
  exact ax_nret ⟨_, rfl⟩ rfl hg1 h
abbrev k_Judge_judgeBareRest_10 (B : Nat) (r : Nat) (d : Nat) (x1 : Int) (x2 : Int) (y3 : Option Value) (y4 : Option Value) (V : ax_V) (Φ : ax_V → Prop) (Θ : ax_V → Prop) : Prop := ax_R (az_W B (az_EJ B r)) ax_t d m_Judge_judgeBareRest 10 [some (.ref r), some (ax_i x1), some (ax_i x2), y3, y4] [] V (ax_Nr Φ) Θ
abbrev k_Judge_judgeBareRest_35 (B : Nat) (r : Nat) (d : Nat) (x1 : Int) (x2 : Int) (x3 : Int) (y4 : Option Value) (V : ax_V) (Φ : ax_V → Prop) (Θ : ax_V → Prop) : Prop := ax_R (az_W B (az_EJ B r)) ax_t d m_Judge_judgeBareRest 35 [some (.ref r), some (ax_i x1), some (ax_i x2), some (ax_i x3), y4] [] V (ax_Nr Φ) Θ
abbrev k_Judge_judgeBareRest_85 (B : Nat) (r : Nat) (d : Nat) (x1 : Int) (x2 : Int) (y3 : Option Value) (y4 : Option Value) (V : ax_V) (Φ : ax_V → Prop) (Θ : ax_V → Prop) : Prop := ax_R (az_W B (az_EJ B r)) ax_t d m_Judge_judgeBareRest 85 [some (.ref r), some (ax_i x1), some (ax_i x2), y3, y4] [] V (ax_Nr Φ) Θ
abbrev k_Judge_judgeBareRest_137 (B : Nat) (r : Nat) (d : Nat) (x1 : Int) (x2 : Int) (y3 : Option Value) (y4 : Option Value) (V : ax_V) (Φ : ax_V → Prop) (Θ : ax_V → Prop) : Prop := ax_R (az_W B (az_EJ B r)) ax_t d m_Judge_judgeBareRest 137 [some (.ref r), some (ax_i x1), some (ax_i x2), y3, y4] [] V (ax_Nr Φ) Θ
abbrev k_Judge_judgeBareRest_200 (B : Nat) (r : Nat) (d : Nat) (x1 : Int) (x2 : Int) (y3 : Option Value) (y4 : Option Value) (s0 : Int) (V : ax_V) (Φ : ax_V → Prop) (Θ : ax_V → Prop) : Prop := ax_R (az_W B (az_EJ B r)) ax_t d m_Judge_judgeBareRest 200 [some (.ref r), some (ax_i x1), some (ax_i x2), y3, y4] [ax_i s0, .ref r] V (ax_Nr Φ) Θ
set_option maxRecDepth 20000 in
theorem r_Judge_judgeBareRest_10 {B : Nat} {r : Nat} {d : Nat} {V : ax_V} {Φ : ax_V → Prop} {Θ : ax_V → Prop} {x1 : Int} {x2 : Int} {y3 : Option Value} {y4 : Option Value} (hg : ax_g V) (hx1 : ax_rg x1) (hx2 : ax_rg x2) (hy3 : ax_y y3) (hy4 : ax_y y4) (h : (0 ≤ x1 + 1 ∧ x1 + 1 < 9) ∧ ((V 510 (x1 + 1) ≤ x2 → (0 ≤ x1 ∧ x1 < 9) ∧ k_Judge_judgeBareRest_85 B r d x1 (V 509 x1) y3 y4 V Φ Θ) ∧ (x2 < V 510 (x1 + 1) → (0 ≤ x2 ∧ x2 < 351) ∧ k_Judge_judgeBareRest_35 B r d x1 x2 (V 559 x2) y4 V Φ Θ))) : k_Judge_judgeBareRest_10 B r d x1 x2 y3 y4 V Φ Θ := by
  refine ax_mv 2 12 [some (.ref r), some (ax_i x1), some (ax_i x2), y3, y4] [.ref r, ax_i x2] rfl ?_
  refine ax_gR (v := .ref B) (pc' := 15) ⟨_, rfl⟩ fl_3_15 (az_e 0 rfl) rfl rfl ?_
  refine ax_gR (v := .ref (B + 10)) (pc' := 18) ⟨_, rfl⟩ fl_3_175 (az_b 0 rfl) rfl rfl ?_
  refine ax_mv 2 20 [some (.ref r), some (ax_i x1), some (ax_i x2), y3, y4] [ax_i 1, ax_i x1, .ref (B + 10), ax_i x2] rfl ?_
  refine ax_add (pc' := 21) ⟨_, rfl⟩ rfl ?_
  obtain ⟨o1, h⟩ := h
  refine ax_ild (n := 9) (pc' := 22) ⟨_, rfl⟩ (az_b 10 rfl) (by decide) o1 rfl ?_
  refine ax_if2 (p1 := 75) (p2 := 25) ⟨_, rfl⟩ (by decide) rfl hx2 (hg _ _) (fun hc => ?_) (fun hc => ?_)
  · have h := h.1 hc
    refine ax_mv 1 76 [some (.ref r), some (ax_i x1), some (ax_i x2), y3, y4] [.ref r] rfl ?_
    refine ax_gR (v := .ref B) (pc' := 79) ⟨_, rfl⟩ fl_3_15 (az_e 0 rfl) rfl rfl ?_
    refine ax_gR (v := .ref (B + 9)) (pc' := 82) ⟨_, rfl⟩ fl_3_94 (az_b 0 rfl) rfl rfl ?_
    refine ax_mv 1 83 [some (.ref r), some (ax_i x1), some (ax_i x2), y3, y4] [ax_i x1, .ref (B + 9)] rfl ?_
    obtain ⟨o2, h⟩ := h
    refine ax_ild (n := 9) (pc' := 84) ⟨_, rfl⟩ (az_b 9 rfl) (by decide) o2 rfl ?_
    refine ax_sti (i := 0) (k := 2) (n := 1) (pc' := 85) (L' := [some (.ref r), some (ax_i x1), some (ax_i (V 509 x1)), y3, y4]) ⟨_, rfl⟩ rfl rfl rfl (Nat.le_of_ble_eq_true rfl) rfl rfl ?_
    exact h
  · have h := h.2 (Int.not_le.mp hc)
    refine ax_mv 1 26 [some (.ref r), some (ax_i x1), some (ax_i x2), y3, y4] [.ref r] rfl ?_
    refine ax_gR (v := .ref (B + 56)) (pc' := 29) ⟨_, rfl⟩ fl_3_40 (az_e 0 rfl) rfl rfl ?_
    refine ax_gR (v := .ref (B + 59)) (pc' := 32) ⟨_, rfl⟩ fl_3_184 (az_b 56 rfl) rfl rfl ?_
    refine ax_mv 1 33 [some (.ref r), some (ax_i x1), some (ax_i x2), y3, y4] [ax_i x2, .ref (B + 59)] rfl ?_
    obtain ⟨o3, h⟩ := h
    refine ax_ild (n := 351) (pc' := 34) ⟨_, rfl⟩ (az_b 59 rfl) (by decide) o3 rfl ?_
    refine ax_sti (i := 0) (k := 3) (n := 1) (pc' := 35) (L' := [some (.ref r), some (ax_i x1), some (ax_i x2), some (ax_i (V 559 x2)), y4]) ⟨_, rfl⟩ rfl rfl rfl (Nat.le_of_ble_eq_true rfl) rfl rfl ?_
    exact h
set_option maxRecDepth 20000 in
theorem r_Judge_judgeBareRest_35 {B : Nat} {r : Nat} {d : Nat} {V : ax_V} {Φ : ax_V → Prop} {Θ : ax_V → Prop} {x1 : Int} {x2 : Int} {x3 : Int} {y4 : Option Value} (hg : ax_g V) (hx1 : ax_rg x1) (hx2 : ax_rg x2) (hx3 : ax_rg x3) (hy4 : ax_y y4) (h : (0 ≤ x2 + 1 ∧ x2 + 1 < 351) ∧ ((V 559 (x2 + 1) ≤ x3 → k_Judge_judgeBareRest_10 B r d x1 (x2 + 1) (some (ax_i x3)) y4 V Φ Θ) ∧ (x3 < V 559 (x2 + 1) → (0 ≤ x3 ∧ x3 < 350) ∧ ax_N (az_W B (az_EJ B r)) d q_Judge_mustHave [.ref r, ax_i (V 571 x3)] V (fun V1 => k_Judge_judgeBareRest_35 B r d x1 x2 (x3 + 1) y4 V1 Φ Θ) Θ))) : k_Judge_judgeBareRest_35 B r d x1 x2 x3 y4 V Φ Θ := by
  refine ax_mv 2 37 [some (.ref r), some (ax_i x1), some (ax_i x2), some (ax_i x3), y4] [.ref r, ax_i x3] rfl ?_
  refine ax_gR (v := .ref (B + 56)) (pc' := 40) ⟨_, rfl⟩ fl_3_40 (az_e 0 rfl) rfl rfl ?_
  refine ax_gR (v := .ref (B + 59)) (pc' := 43) ⟨_, rfl⟩ fl_3_184 (az_b 56 rfl) rfl rfl ?_
  refine ax_mv 2 45 [some (.ref r), some (ax_i x1), some (ax_i x2), some (ax_i x3), y4] [ax_i 1, ax_i x2, .ref (B + 59), ax_i x3] rfl ?_
  refine ax_add (pc' := 46) ⟨_, rfl⟩ rfl ?_
  obtain ⟨o4, h⟩ := h
  refine ax_ild (n := 351) (pc' := 47) ⟨_, rfl⟩ (az_b 59 rfl) (by decide) o4 rfl ?_
  refine ax_if2 (p1 := 69) (p2 := 50) ⟨_, rfl⟩ (by decide) rfl hx3 (hg _ _) (fun hc => ?_) (fun hc => ?_)
  · have h := h.1 hc
    refine ax_inc (x := x2) (pc' := 72) (L' := [some (.ref r), some (ax_i x1), some (ax_i (x2 + 1)), some (ax_i x3), y4]) ⟨_, rfl⟩ rfl rfl rfl rfl ?_
    refine ax_mv 1 10 [some (.ref r), some (ax_i x1), some (ax_i (x2 + 1)), some (ax_i x3), y4] [] rfl ?_
    exact h
  · have h := h.2 (Int.not_le.mp hc)
    refine ax_mv 2 52 [some (.ref r), some (ax_i x1), some (ax_i x2), some (ax_i x3), y4] [.ref r, .ref r] rfl ?_
    refine ax_gR (v := .ref (B + 56)) (pc' := 55) ⟨_, rfl⟩ fl_3_40 (az_e 0 rfl) rfl rfl ?_
    refine ax_gR (v := .ref (B + 71)) (pc' := 58) ⟨_, rfl⟩ fl_3_209 (az_b 56 rfl) rfl rfl ?_
    refine ax_mv 1 59 [some (.ref r), some (ax_i x1), some (ax_i x2), some (ax_i x3), y4] [ax_i x3, .ref (B + 71), .ref r] rfl ?_
    obtain ⟨o5, h⟩ := h
    refine ax_ild (n := 350) (pc' := 60) ⟨_, rfl⟩ (az_b 71 rfl) (by decide) o5 rfl ?_
    refine ax_callN (pc' := 63) ⟨_, rfl⟩ ml_3_272 (rest := []) rfl (fun ss hs => ⟨_, _, (az_e 0 rfl) ss hs⟩) (Nat.le_of_ble_eq_true rfl) rfl rfl h (fun V1 hg1 h => ?_)
    refine ax_inc (x := x3) (pc' := 66) (L' := [some (.ref r), some (ax_i x1), some (ax_i x2), some (ax_i (x3 + 1)), y4]) ⟨_, rfl⟩ rfl rfl rfl rfl ?_
    refine ax_mv 1 35 [some (.ref r), some (ax_i x1), some (ax_i x2), some (ax_i (x3 + 1)), y4] [] rfl ?_
    exact h
set_option maxRecDepth 20000 in
theorem r_Judge_judgeBareRest_85 {B : Nat} {r : Nat} {d : Nat} {V : ax_V} {Φ : ax_V → Prop} {Θ : ax_V → Prop} {x1 : Int} {x2 : Int} {y3 : Option Value} {y4 : Option Value} (hg : ax_g V) (hx1 : ax_rg x1) (hx2 : ax_rg x2) (hy3 : ax_y y3) (hy4 : ax_y y4) (h : (0 ≤ x1 + 1 ∧ x1 + 1 < 9) ∧ ((V 509 (x1 + 1) ≤ x2 → k_Judge_judgeBareRest_137 B r d x1 (x1 * 26) y3 y4 V Φ Θ) ∧ (x2 < V 509 (x1 + 1) → (0 ≤ x2 ∧ x2 < 350) ∧ ((V 551 x2 = -1 → k_Judge_judgeBareRest_85 B r d x1 (x2 + 1) y3 y4 V Φ Θ) ∧ (¬ V 551 x2 = -1 → (0 ≤ x2 ∧ x2 < 350) ∧ ax_N (az_W B (az_EJ B r)) d q_Judge_mustHave [.ref r, ax_i (V 550 x2)] V (fun V1 => k_Judge_judgeBareRest_85 B r d x1 (x2 + 1) y3 y4 V1 Φ Θ) Θ))))) : k_Judge_judgeBareRest_85 B r d x1 x2 y3 y4 V Φ Θ := by
  refine ax_mv 2 87 [some (.ref r), some (ax_i x1), some (ax_i x2), y3, y4] [.ref r, ax_i x2] rfl ?_
  refine ax_gR (v := .ref B) (pc' := 90) ⟨_, rfl⟩ fl_3_15 (az_e 0 rfl) rfl rfl ?_
  refine ax_gR (v := .ref (B + 9)) (pc' := 93) ⟨_, rfl⟩ fl_3_94 (az_b 0 rfl) rfl rfl ?_
  refine ax_mv 2 95 [some (.ref r), some (ax_i x1), some (ax_i x2), y3, y4] [ax_i 1, ax_i x1, .ref (B + 9), ax_i x2] rfl ?_
  refine ax_add (pc' := 96) ⟨_, rfl⟩ rfl ?_
  obtain ⟨o6, h⟩ := h
  refine ax_ild (n := 9) (pc' := 97) ⟨_, rfl⟩ (az_b 9 rfl) (by decide) o6 rfl ?_
  refine ax_if2 (p1 := 132) (p2 := 100) ⟨_, rfl⟩ (by decide) rfl hx2 (hg _ _) (fun hc => ?_) (fun hc => ?_)
  · have h := h.1 hc
    refine ax_mv 1 133 [some (.ref r), some (ax_i x1), some (ax_i x2), y3, y4] [ax_i x1] rfl ?_
    refine ax_bip (pc' := 135) ⟨_, rfl⟩ (by decide) rfl ?_
    refine ax_mul (pc' := 136) ⟨_, rfl⟩ rfl ?_
    refine ax_sti (i := 0) (k := 2) (n := 1) (pc' := 137) (L' := [some (.ref r), some (ax_i x1), some (ax_i (x1 * 26)), y3, y4]) ⟨_, rfl⟩ rfl rfl rfl (Nat.le_of_ble_eq_true rfl) rfl rfl ?_
    exact h
  · have h := h.2 (Int.not_le.mp hc)
    refine ax_mv 1 101 [some (.ref r), some (ax_i x1), some (ax_i x2), y3, y4] [.ref r] rfl ?_
    refine ax_gR (v := .ref (B + 47)) (pc' := 104) ⟨_, rfl⟩ fl_3_35 (az_e 0 rfl) rfl rfl ?_
    refine ax_gR (v := .ref (B + 51)) (pc' := 107) ⟨_, rfl⟩ fl_3_108 (az_b 47 rfl) rfl rfl ?_
    refine ax_mv 1 108 [some (.ref r), some (ax_i x1), some (ax_i x2), y3, y4] [ax_i x2, .ref (B + 51)] rfl ?_
    obtain ⟨o7, h⟩ := h
    refine ax_ild (n := 350) (pc' := 109) ⟨_, rfl⟩ (az_b 51 rfl) (by decide) o7 rfl ?_
    refine ax_mv 1 110 [some (.ref r), some (ax_i x1), some (ax_i x2), y3, y4] [ax_i (-1), ax_i (V 551 x2)] rfl ?_
    refine ax_if2 (p1 := 126) (p2 := 113) ⟨_, rfl⟩ (by decide) rfl (hg _ _) (by decide) (fun hc => ?_) (fun hc => ?_)
    · have h := h.1 hc
      refine ax_inc (x := x2) (pc' := 129) (L' := [some (.ref r), some (ax_i x1), some (ax_i (x2 + 1)), y3, y4]) ⟨_, rfl⟩ rfl rfl rfl rfl ?_
      refine ax_mv 1 85 [some (.ref r), some (ax_i x1), some (ax_i (x2 + 1)), y3, y4] [] rfl ?_
      exact h
    · have h := h.2 hc
      refine ax_mv 2 115 [some (.ref r), some (ax_i x1), some (ax_i x2), y3, y4] [.ref r, .ref r] rfl ?_
      refine ax_gR (v := .ref (B + 47)) (pc' := 118) ⟨_, rfl⟩ fl_3_35 (az_e 0 rfl) rfl rfl ?_
      refine ax_gR (v := .ref (B + 50)) (pc' := 121) ⟨_, rfl⟩ fl_3_245 (az_b 47 rfl) rfl rfl ?_
      refine ax_mv 1 122 [some (.ref r), some (ax_i x1), some (ax_i x2), y3, y4] [ax_i x2, .ref (B + 50), .ref r] rfl ?_
      obtain ⟨o8, h⟩ := h
      refine ax_ild (n := 350) (pc' := 123) ⟨_, rfl⟩ (az_b 50 rfl) (by decide) o8 rfl ?_
      refine ax_callN (pc' := 126) ⟨_, rfl⟩ ml_3_272 (rest := []) rfl (fun ss hs => ⟨_, _, (az_e 0 rfl) ss hs⟩) (Nat.le_of_ble_eq_true rfl) rfl rfl h (fun V1 hg1 h => ?_)
      refine ax_inc (x := x2) (pc' := 129) (L' := [some (.ref r), some (ax_i x1), some (ax_i (x2 + 1)), y3, y4]) ⟨_, rfl⟩ rfl rfl rfl rfl ?_
      refine ax_mv 1 85 [some (.ref r), some (ax_i x1), some (ax_i (x2 + 1)), y3, y4] [] rfl ?_
      exact h
set_option maxRecDepth 20000 in
theorem r_Judge_judgeBareRest_137 {B : Nat} {r : Nat} {d : Nat} {V : ax_V} {Φ : ax_V → Prop} {Θ : ax_V → Prop} {x1 : Int} {x2 : Int} {y3 : Option Value} {y4 : Option Value} (hg : ax_g V) (hx1 : ax_rg x1) (hx2 : ax_rg x2) (hy3 : ax_y y3) (hy4 : ax_y y4) (h : ax_rg ((x1 + 1) * 26) ∧ (((x1 + 1) * 26 ≤ x2 → Φ V) ∧ (x2 < (x1 + 1) * 26 → (0 ≤ x2 ∧ x2 < 208) ∧ ((V 534 x2 = 2 → (0 ≤ x2 ∧ x2 < 208) ∧ ((V 544 x2 = 0 → k_Judge_judgeBareRest_200 B r d x1 x2 (some (ax_i 1)) y4 0 V Φ Θ) ∧ (¬ V 544 x2 = 0 → k_Judge_judgeBareRest_200 B r d x1 x2 (some (ax_i 1)) y4 1 V Φ Θ))) ∧ (¬ V 534 x2 = 2 → (0 ≤ x2 ∧ x2 < 208) ∧ ((V 538 x2 = 0 → k_Judge_judgeBareRest_200 B r d x1 x2 (some (ax_i 0)) y4 0 V Φ Θ) ∧ (¬ V 538 x2 = 0 → (0 ≤ x2 ∧ x2 < 208) ∧ ((V 544 x2 = 0 → k_Judge_judgeBareRest_200 B r d x1 x2 (some (ax_i 1)) y4 0 V Φ Θ) ∧ (¬ V 544 x2 = 0 → k_Judge_judgeBareRest_200 B r d x1 x2 (some (ax_i 1)) y4 1 V Φ Θ))))))))) : k_Judge_judgeBareRest_137 B r d x1 x2 y3 y4 V Φ Θ := by
  refine ax_mv 3 140 [some (.ref r), some (ax_i x1), some (ax_i x2), y3, y4] [ax_i 1, ax_i x1, ax_i x2] rfl ?_
  refine ax_add (pc' := 141) ⟨_, rfl⟩ rfl ?_
  refine ax_bip (pc' := 143) ⟨_, rfl⟩ (by decide) rfl ?_
  refine ax_mul (pc' := 144) ⟨_, rfl⟩ rfl ?_
  obtain ⟨o9, h⟩ := h
  refine ax_if2 (p1 := 267) (p2 := 147) ⟨_, rfl⟩ (by decide) rfl hx2 o9 (fun hc => ?_) (fun hc => ?_)
  · have h := h.1 hc
    exact ax_nret ⟨_, rfl⟩ rfl hg h
  · have h := h.2 (Int.not_le.mp hc)
    refine ax_mv 1 148 [some (.ref r), some (ax_i x1), some (ax_i x2), y3, y4] [.ref r] rfl ?_
    refine ax_gR (v := .ref (B + 32)) (pc' := 151) ⟨_, rfl⟩ fl_3_30 (az_e 0 rfl) rfl rfl ?_
    refine ax_gR (v := .ref (B + 34)) (pc' := 154) ⟨_, rfl⟩ fl_3_120 (az_b 32 rfl) rfl rfl ?_
    refine ax_mv 1 155 [some (.ref r), some (ax_i x1), some (ax_i x2), y3, y4] [ax_i x2, .ref (B + 34)] rfl ?_
    obtain ⟨o10, h⟩ := h
    refine ax_ild (n := 208) (pc' := 156) ⟨_, rfl⟩ (az_b 34 rfl) (by decide) o10 rfl ?_
    refine ax_mv 1 157 [some (.ref r), some (ax_i x1), some (ax_i x2), y3, y4] [ax_i 2, ax_i (V 534 x2)] rfl ?_
    refine ax_if2 (p1 := 172) (p2 := 160) ⟨_, rfl⟩ (by decide) rfl (hg _ _) (by decide) (fun hc => ?_) (fun hc => ?_)
    · have h := h.1 hc
      refine ax_mv 2 177 [some (.ref r), some (ax_i x1), some (ax_i x2), y3, y4] [ax_i 1] rfl ?_
      refine ax_sti (i := 0) (k := 3) (n := 1) (pc' := 178) (L' := [some (.ref r), some (ax_i x1), some (ax_i x2), some (ax_i 1), y4]) ⟨_, rfl⟩ rfl rfl rfl (Nat.le_of_ble_eq_true rfl) rfl rfl ?_
      refine ax_mv 2 180 [some (.ref r), some (ax_i x1), some (ax_i x2), some (ax_i 1), y4] [ax_i 1, .ref r] rfl ?_
      refine ax_if (p1 := 199) (p2 := 183) ⟨_, rfl⟩ (by decide) rfl (by decide) (fun hc => absurd hc (by unfold ax_k0; decide)) (fun _ => ?_)
      refine ax_mv 1 184 [some (.ref r), some (ax_i x1), some (ax_i x2), some (ax_i 1), y4] [.ref r, .ref r] rfl ?_
      refine ax_gR (v := .ref (B + 32)) (pc' := 187) ⟨_, rfl⟩ fl_3_30 (az_e 0 rfl) rfl rfl ?_
      refine ax_gR (v := .ref (B + 44)) (pc' := 190) ⟨_, rfl⟩ fl_3_268 (az_b 32 rfl) rfl rfl ?_
      refine ax_mv 1 191 [some (.ref r), some (ax_i x1), some (ax_i x2), some (ax_i 1), y4] [ax_i x2, .ref (B + 44), .ref r] rfl ?_
      obtain ⟨o11, h⟩ := h
      refine ax_bld (n := 208) (pc' := 192) ⟨_, rfl⟩ (az_b 44 rfl) (by decide) o11 rfl ?_
      refine ax_if (p1 := 199) (p2 := 195) ⟨_, rfl⟩ (by decide) rfl (hg _ _) (fun hc => ?_) (fun hc => ?_)
      · have h := h.1 hc
        refine ax_mv 1 200 [some (.ref r), some (ax_i x1), some (ax_i x2), some (ax_i 1), y4] [ax_i 0, .ref r] rfl ?_
        exact h
      · have h := h.2 hc
        refine ax_mv 2 200 [some (.ref r), some (ax_i x1), some (ax_i x2), some (ax_i 1), y4] [ax_i 1, .ref r] rfl ?_
        exact h
    · have h := h.2 hc
      refine ax_mv 1 161 [some (.ref r), some (ax_i x1), some (ax_i x2), y3, y4] [.ref r] rfl ?_
      refine ax_gR (v := .ref (B + 32)) (pc' := 164) ⟨_, rfl⟩ fl_3_30 (az_e 0 rfl) rfl rfl ?_
      refine ax_gR (v := .ref (B + 38)) (pc' := 167) ⟨_, rfl⟩ fl_3_161 (az_b 32 rfl) rfl rfl ?_
      refine ax_mv 1 168 [some (.ref r), some (ax_i x1), some (ax_i x2), y3, y4] [ax_i x2, .ref (B + 38)] rfl ?_
      obtain ⟨o12, h⟩ := h
      refine ax_bld (n := 208) (pc' := 169) ⟨_, rfl⟩ (az_b 38 rfl) (by decide) o12 rfl ?_
      refine ax_if (p1 := 176) (p2 := 172) ⟨_, rfl⟩ (by decide) rfl (hg _ _) (fun hc => ?_) (fun hc => ?_)
      · have h := h.1 hc
        refine ax_mv 1 177 [some (.ref r), some (ax_i x1), some (ax_i x2), y3, y4] [ax_i 0] rfl ?_
        refine ax_sti (i := 0) (k := 3) (n := 1) (pc' := 178) (L' := [some (.ref r), some (ax_i x1), some (ax_i x2), some (ax_i 0), y4]) ⟨_, rfl⟩ rfl rfl rfl (Nat.le_of_ble_eq_true rfl) rfl rfl ?_
        refine ax_mv 2 180 [some (.ref r), some (ax_i x1), some (ax_i x2), some (ax_i 0), y4] [ax_i 0, .ref r] rfl ?_
        refine ax_if (p1 := 199) (p2 := 183) ⟨_, rfl⟩ (by decide) rfl (by decide) (fun _ => ?_) (fun hc => absurd (by unfold ax_k0; decide) hc)
        refine ax_mv 1 200 [some (.ref r), some (ax_i x1), some (ax_i x2), some (ax_i 0), y4] [ax_i 0, .ref r] rfl ?_
        exact h
      · have h := h.2 hc
        refine ax_mv 2 177 [some (.ref r), some (ax_i x1), some (ax_i x2), y3, y4] [ax_i 1] rfl ?_
        refine ax_sti (i := 0) (k := 3) (n := 1) (pc' := 178) (L' := [some (.ref r), some (ax_i x1), some (ax_i x2), some (ax_i 1), y4]) ⟨_, rfl⟩ rfl rfl rfl (Nat.le_of_ble_eq_true rfl) rfl rfl ?_
        refine ax_mv 2 180 [some (.ref r), some (ax_i x1), some (ax_i x2), some (ax_i 1), y4] [ax_i 1, .ref r] rfl ?_
        refine ax_if (p1 := 199) (p2 := 183) ⟨_, rfl⟩ (by decide) rfl (by decide) (fun hc => absurd hc (by unfold ax_k0; decide)) (fun _ => ?_)
        refine ax_mv 1 184 [some (.ref r), some (ax_i x1), some (ax_i x2), some (ax_i 1), y4] [.ref r, .ref r] rfl ?_
        refine ax_gR (v := .ref (B + 32)) (pc' := 187) ⟨_, rfl⟩ fl_3_30 (az_e 0 rfl) rfl rfl ?_
        refine ax_gR (v := .ref (B + 44)) (pc' := 190) ⟨_, rfl⟩ fl_3_268 (az_b 32 rfl) rfl rfl ?_
        refine ax_mv 1 191 [some (.ref r), some (ax_i x1), some (ax_i x2), some (ax_i 1), y4] [ax_i x2, .ref (B + 44), .ref r] rfl ?_
        obtain ⟨o13, h⟩ := h
        refine ax_bld (n := 208) (pc' := 192) ⟨_, rfl⟩ (az_b 44 rfl) (by decide) o13 rfl ?_
        refine ax_if (p1 := 199) (p2 := 195) ⟨_, rfl⟩ (by decide) rfl (hg _ _) (fun hc => ?_) (fun hc => ?_)
        · have h := h.1 hc
          refine ax_mv 1 200 [some (.ref r), some (ax_i x1), some (ax_i x2), some (ax_i 1), y4] [ax_i 0, .ref r] rfl ?_
          exact h
        · have h := h.2 hc
          refine ax_mv 2 200 [some (.ref r), some (ax_i x1), some (ax_i x2), some (ax_i 1), y4] [ax_i 1, .ref r] rfl ?_
          exact h
set_option maxRecDepth 20000 in
theorem r_Judge_judgeBareRest_200 {B : Nat} {r : Nat} {d : Nat} {V : ax_V} {Φ : ax_V → Prop} {Θ : ax_V → Prop} {x1 : Int} {x2 : Int} {y3 : Option Value} {y4 : Option Value} {s0 : Int} (hg : ax_g V) (hx1 : ax_rg x1) (hx2 : ax_rg x2) (hy3 : ax_y y3) (hy4 : ax_y y4) (hs0 : ax_rg s0) (h : (0 ≤ x2 ∧ x2 < 208) ∧ ax_N (az_W B (az_EJ B r)) d q_Judge_blameIf [.ref r, ax_i s0, ax_i (V 543 x2)] V (fun V1 => (0 ≤ x2 ∧ x2 < 208) ∧ ((V1 536 x2 < 0 → (0 ≤ x2 ∧ x2 < 208) ∧ ax_N (az_W B (az_EJ B r)) d q_Judge_blameIf [.ref r, ax_i 0, ax_i (V1 537 x2)] V1 (fun V2 => k_Judge_judgeBareRest_137 B r d x1 (x2 + 1) y3 (some (ax_i (V1 536 x2))) V2 Φ Θ) Θ) ∧ (0 ≤ V1 536 x2 → (0 ≤ ax_shr (V1 536 x2) 1 ∧ ax_shr (V1 536 x2) 1 < 208) ∧ ((V1 544 (ax_shr (V1 536 x2) 1) = 0 → (0 ≤ x2 ∧ x2 < 208) ∧ ax_N (az_W B (az_EJ B r)) d q_Judge_blameIf [.ref r, ax_i 0, ax_i (V1 537 x2)] V1 (fun V3 => k_Judge_judgeBareRest_137 B r d x1 (x2 + 1) y3 (some (ax_i (V1 536 x2))) V3 Φ Θ) Θ) ∧ (¬ V1 544 (ax_shr (V1 536 x2) 1) = 0 → (0 ≤ x2 ∧ x2 < 208) ∧ ax_N (az_W B (az_EJ B r)) d q_Judge_blameIf [.ref r, ax_i 1, ax_i (V1 537 x2)] V1 (fun V4 => k_Judge_judgeBareRest_137 B r d x1 (x2 + 1) y3 (some (ax_i (V1 536 x2))) V4 Φ Θ) Θ))))) Θ) : k_Judge_judgeBareRest_200 B r d x1 x2 y3 y4 s0 V Φ Θ := by
  refine ax_mv 1 201 [some (.ref r), some (ax_i x1), some (ax_i x2), y3, y4] [.ref r, ax_i s0, .ref r] rfl ?_
  refine ax_gR (v := .ref (B + 32)) (pc' := 204) ⟨_, rfl⟩ fl_3_30 (az_e 0 rfl) rfl rfl ?_
  refine ax_gR (v := .ref (B + 43)) (pc' := 207) ⟨_, rfl⟩ fl_3_135 (az_b 32 rfl) rfl rfl ?_
  refine ax_mv 1 208 [some (.ref r), some (ax_i x1), some (ax_i x2), y3, y4] [ax_i x2, .ref (B + 43), ax_i s0, .ref r] rfl ?_
  obtain ⟨o14, h⟩ := h
  refine ax_ild (n := 208) (pc' := 209) ⟨_, rfl⟩ (az_b 43 rfl) (by decide) o14 rfl ?_
  refine ax_callN (pc' := 212) ⟨_, rfl⟩ ml_3_123 (rest := []) rfl (fun ss hs => ⟨_, _, (az_e 0 rfl) ss hs⟩) (Nat.le_of_ble_eq_true rfl) rfl rfl h (fun V1 hg1 h => ?_)
  refine ax_mv 1 213 [some (.ref r), some (ax_i x1), some (ax_i x2), y3, y4] [.ref r] rfl ?_
  refine ax_gR (v := .ref (B + 32)) (pc' := 216) ⟨_, rfl⟩ fl_3_30 (az_e 0 rfl) rfl rfl ?_
  refine ax_gR (v := .ref (B + 36)) (pc' := 219) ⟨_, rfl⟩ fl_3_193 (az_b 32 rfl) rfl rfl ?_
  refine ax_mv 1 220 [some (.ref r), some (ax_i x1), some (ax_i x2), y3, y4] [ax_i x2, .ref (B + 36)] rfl ?_
  obtain ⟨o15, h⟩ := h
  refine ax_ild (n := 208) (pc' := 221) ⟨_, rfl⟩ (az_b 36 rfl) (by decide) o15 rfl ?_
  refine ax_sti (i := 0) (k := 4) (n := 2) (pc' := 223) (L' := [some (.ref r), some (ax_i x1), some (ax_i x2), y3, some (ax_i (V1 536 x2))]) ⟨_, rfl⟩ rfl rfl (ax_kill_y (k := 3) rfl hy3) (Nat.le_of_ble_eq_true rfl) rfl rfl ?_
  refine ax_mv 2 226 [some (.ref r), some (ax_i x1), some (ax_i x2), y3, some (ax_i (V1 536 x2))] [ax_i (V1 536 x2), .ref r] rfl ?_
  refine ax_if (p1 := 248) (p2 := 229) ⟨_, rfl⟩ (by decide) rfl (hg1 _ _) (fun hc => ?_) (fun hc => ?_)
  · have h := h.1 hc
    refine ax_mv 2 250 [some (.ref r), some (ax_i x1), some (ax_i x2), y3, some (ax_i (V1 536 x2))] [.ref r, ax_i 0, .ref r] rfl ?_
    refine ax_gR (v := .ref (B + 32)) (pc' := 253) ⟨_, rfl⟩ fl_3_30 (az_e 0 rfl) rfl rfl ?_
    refine ax_gR (v := .ref (B + 37)) (pc' := 256) ⟨_, rfl⟩ fl_3_196 (az_b 32 rfl) rfl rfl ?_
    refine ax_mv 1 257 [some (.ref r), some (ax_i x1), some (ax_i x2), y3, some (ax_i (V1 536 x2))] [ax_i x2, .ref (B + 37), ax_i 0, .ref r] rfl ?_
    obtain ⟨o16, h⟩ := h
    refine ax_ild (n := 208) (pc' := 258) ⟨_, rfl⟩ (az_b 37 rfl) (by decide) o16 rfl ?_
    refine ax_callN (pc' := 261) ⟨_, rfl⟩ ml_3_123 (rest := []) rfl (fun ss hs => ⟨_, _, (az_e 0 rfl) ss hs⟩) (Nat.le_of_ble_eq_true rfl) rfl rfl h (fun V2 hg2 h => ?_)
    refine ax_inc (x := x2) (pc' := 264) (L' := [some (.ref r), some (ax_i x1), some (ax_i (x2 + 1)), y3, some (ax_i (V1 536 x2))]) ⟨_, rfl⟩ rfl rfl rfl rfl ?_
    refine ax_mv 1 137 [some (.ref r), some (ax_i x1), some (ax_i (x2 + 1)), y3, some (ax_i (V1 536 x2))] [] rfl ?_
    exact h
  · have h := h.2 (Int.not_lt.mp hc)
    refine ax_mv 1 230 [some (.ref r), some (ax_i x1), some (ax_i x2), y3, some (ax_i (V1 536 x2))] [.ref r, .ref r] rfl ?_
    refine ax_gR (v := .ref (B + 32)) (pc' := 233) ⟨_, rfl⟩ fl_3_30 (az_e 0 rfl) rfl rfl ?_
    refine ax_gR (v := .ref (B + 44)) (pc' := 236) ⟨_, rfl⟩ fl_3_268 (az_b 32 rfl) rfl rfl ?_
    refine ax_mv 2 239 [some (.ref r), some (ax_i x1), some (ax_i x2), y3, some (ax_i (V1 536 x2))] [ax_i 1, ax_i (V1 536 x2), .ref (B + 44), .ref r] rfl ?_
    refine ax_rshr (pc' := 240) ⟨_, rfl⟩ rfl ?_
    obtain ⟨o17, h⟩ := h
    refine ax_bld (n := 208) (pc' := 241) ⟨_, rfl⟩ (az_b 44 rfl) (by decide) o17 rfl ?_
    refine ax_if (p1 := 248) (p2 := 244) ⟨_, rfl⟩ (by decide) rfl (hg1 _ _) (fun hc => ?_) (fun hc => ?_)
    · have h := h.1 hc
      refine ax_mv 2 250 [some (.ref r), some (ax_i x1), some (ax_i x2), y3, some (ax_i (V1 536 x2))] [.ref r, ax_i 0, .ref r] rfl ?_
      refine ax_gR (v := .ref (B + 32)) (pc' := 253) ⟨_, rfl⟩ fl_3_30 (az_e 0 rfl) rfl rfl ?_
      refine ax_gR (v := .ref (B + 37)) (pc' := 256) ⟨_, rfl⟩ fl_3_196 (az_b 32 rfl) rfl rfl ?_
      refine ax_mv 1 257 [some (.ref r), some (ax_i x1), some (ax_i x2), y3, some (ax_i (V1 536 x2))] [ax_i x2, .ref (B + 37), ax_i 0, .ref r] rfl ?_
      obtain ⟨o18, h⟩ := h
      refine ax_ild (n := 208) (pc' := 258) ⟨_, rfl⟩ (az_b 37 rfl) (by decide) o18 rfl ?_
      refine ax_callN (pc' := 261) ⟨_, rfl⟩ ml_3_123 (rest := []) rfl (fun ss hs => ⟨_, _, (az_e 0 rfl) ss hs⟩) (Nat.le_of_ble_eq_true rfl) rfl rfl h (fun V3 hg3 h => ?_)
      refine ax_inc (x := x2) (pc' := 264) (L' := [some (.ref r), some (ax_i x1), some (ax_i (x2 + 1)), y3, some (ax_i (V1 536 x2))]) ⟨_, rfl⟩ rfl rfl rfl rfl ?_
      refine ax_mv 1 137 [some (.ref r), some (ax_i x1), some (ax_i (x2 + 1)), y3, some (ax_i (V1 536 x2))] [] rfl ?_
      exact h
    · have h := h.2 hc
      refine ax_mv 3 250 [some (.ref r), some (ax_i x1), some (ax_i x2), y3, some (ax_i (V1 536 x2))] [.ref r, ax_i 1, .ref r] rfl ?_
      refine ax_gR (v := .ref (B + 32)) (pc' := 253) ⟨_, rfl⟩ fl_3_30 (az_e 0 rfl) rfl rfl ?_
      refine ax_gR (v := .ref (B + 37)) (pc' := 256) ⟨_, rfl⟩ fl_3_196 (az_b 32 rfl) rfl rfl ?_
      refine ax_mv 1 257 [some (.ref r), some (ax_i x1), some (ax_i x2), y3, some (ax_i (V1 536 x2))] [ax_i x2, .ref (B + 37), ax_i 1, .ref r] rfl ?_
      obtain ⟨o19, h⟩ := h
      refine ax_ild (n := 208) (pc' := 258) ⟨_, rfl⟩ (az_b 37 rfl) (by decide) o19 rfl ?_
      refine ax_callN (pc' := 261) ⟨_, rfl⟩ ml_3_123 (rest := []) rfl (fun ss hs => ⟨_, _, (az_e 0 rfl) ss hs⟩) (Nat.le_of_ble_eq_true rfl) rfl rfl h (fun V4 hg4 h => ?_)
      refine ax_inc (x := x2) (pc' := 264) (L' := [some (.ref r), some (ax_i x1), some (ax_i (x2 + 1)), y3, some (ax_i (V1 536 x2))]) ⟨_, rfl⟩ rfl rfl rfl rfl ?_
      refine ax_mv 1 137 [some (.ref r), some (ax_i x1), some (ax_i (x2 + 1)), y3, some (ax_i (V1 536 x2))] [] rfl ?_
      exact h
set_option maxRecDepth 20000 in
theorem r_Judge_judgeBareRest {B : Nat} {r : Nat} {d : Nat} {V : ax_V} {Φ : ax_V → Prop} {Θ : ax_V → Prop} {x1 : Int} (hg : ax_g V) (hx1 : ax_rg x1) (h : (0 ≤ x1 ∧ x1 < 9) ∧ k_Judge_judgeBareRest_10 B r d x1 (V 510 x1) none none V Φ Θ) : ax_N (az_W B (az_EJ B r)) (d + 1) q_Judge_judgeBareRest [.ref r, ax_i x1] V Φ Θ := by
  refine ax_T.of (M := m_Judge_judgeBareRest) rfl (Nat.le_of_ble_eq_true rfl) ?_
  refine ax_mv 0 0 [some (.ref r), some (ax_i x1), none, none, none] [] rfl ?_
  refine ax_mv 1 1 [some (.ref r), some (ax_i x1), none, none, none] [.ref r] rfl ?_
  refine ax_gR (v := .ref B) (pc' := 4) ⟨_, rfl⟩ fl_3_15 (az_e 0 rfl) rfl rfl ?_
  refine ax_gR (v := .ref (B + 10)) (pc' := 7) ⟨_, rfl⟩ fl_3_175 (az_b 0 rfl) rfl rfl ?_
  refine ax_mv 1 8 [some (.ref r), some (ax_i x1), none, none, none] [ax_i x1, .ref (B + 10)] rfl ?_
  obtain ⟨o20, h⟩ := h
  refine ax_ild (n := 9) (pc' := 9) ⟨_, rfl⟩ (az_b 10 rfl) (by decide) o20 rfl ?_
  refine ax_sti (i := 0) (k := 2) (n := 1) (pc' := 10) (L' := [some (.ref r), some (ax_i x1), some (ax_i (V 510 x1)), none, none]) ⟨_, rfl⟩ rfl rfl rfl (Nat.le_of_ble_eq_true rfl) rfl rfl ?_
  exact h
abbrev k_Judge_judgeCycles_12 (B : Nat) (r : Nat) (d : Nat) (y1 : Option Value) (x2 : Int) (x3 : Int) (y4 : Option Value) (V : ax_V) (Φ : ax_V → Prop) (Θ : ax_V → Prop) : Prop := ax_R (az_W B (az_EJ B r)) ax_t d m_Judge_judgeCycles 12 [some (.ref r), y1, some (ax_i x2), some (ax_i x3), y4] [] V (ax_Nr Φ) Θ
abbrev k_Judge_judgeCycles_21 (B : Nat) (r : Nat) (d : Nat) (y1 : Option Value) (x2 : Int) (x3 : Int) (x4 : Int) (V : ax_V) (Φ : ax_V → Prop) (Θ : ax_V → Prop) : Prop := ax_R (az_W B (az_EJ B r)) ax_t d m_Judge_judgeCycles 21 [some (.ref r), y1, some (ax_i x2), some (ax_i x3), some (ax_i x4)] [] V (ax_Nr Φ) Θ
abbrev k_Judge_judgeCycles_88 (B : Nat) (r : Nat) (d : Nat) (y1 : Option Value) (x2 : Int) (x3 : Int) (y4 : Option Value) (V : ax_V) (Φ : ax_V → Prop) (Θ : ax_V → Prop) : Prop := ax_R (az_W B (az_EJ B r)) ax_t d m_Judge_judgeCycles 88 [some (.ref r), y1, some (ax_i x2), some (ax_i x3), y4] [] V (ax_Nr Φ) Θ
set_option maxRecDepth 20000 in
theorem r_Judge_judgeCycles_12 {B : Nat} {r : Nat} {d : Nat} {V : ax_V} {Φ : ax_V → Prop} {Θ : ax_V → Prop} {y1 : Option Value} {x2 : Int} {x3 : Int} {y4 : Option Value} (hg : ax_g V) (hy1 : ax_y y1) (hx2 : ax_rg x2) (hx3 : ax_rg x3) (hy4 : ax_y y4) (h : ((26 ≤ x3 → k_Judge_judgeCycles_88 B r d y1 x2 x2 y4 V Φ Θ) ∧ (x3 < 26 → k_Judge_judgeCycles_21 B r d y1 x2 x3 0 V Φ Θ))) : k_Judge_judgeCycles_12 B r d y1 x2 x3 y4 V Φ Θ := by
  refine ax_mv 1 13 [some (.ref r), y1, some (ax_i x2), some (ax_i x3), y4] [ax_i x3] rfl ?_
  refine ax_bip (pc' := 15) ⟨_, rfl⟩ (by decide) rfl ?_
  refine ax_if2 (p1 := 86) (p2 := 18) ⟨_, rfl⟩ (by decide) rfl hx3 (by decide) (fun hc => ?_) (fun hc => ?_)
  · have h := h.1 hc
    refine ax_mv 1 87 [some (.ref r), y1, some (ax_i x2), some (ax_i x3), y4] [ax_i x2] rfl ?_
    refine ax_sti (i := 0) (k := 3) (n := 1) (pc' := 88) (L' := [some (.ref r), y1, some (ax_i x2), some (ax_i x2), y4]) ⟨_, rfl⟩ rfl rfl rfl (Nat.le_of_ble_eq_true rfl) rfl rfl ?_
    exact h
  · have h := h.2 (Int.not_le.mp hc)
    refine ax_mv 1 19 [some (.ref r), y1, some (ax_i x2), some (ax_i x3), y4] [ax_i 0] rfl ?_
    refine ax_sti (i := 0) (k := 4) (n := 2) (pc' := 21) (L' := [some (.ref r), y1, some (ax_i x2), some (ax_i x3), some (ax_i 0)]) ⟨_, rfl⟩ rfl rfl rfl (Nat.le_of_ble_eq_true rfl) rfl rfl ?_
    exact h
set_option maxRecDepth 20000 in
theorem r_Judge_judgeCycles_21 {B : Nat} {r : Nat} {d : Nat} {V : ax_V} {Φ : ax_V → Prop} {Θ : ax_V → Prop} {y1 : Option Value} {x2 : Int} {x3 : Int} {x4 : Int} (hg : ax_g V) (hy1 : ax_y y1) (hx2 : ax_rg x2) (hx3 : ax_rg x3) (hx4 : ax_rg x4) (h : ((26 ≤ x4 → k_Judge_judgeCycles_12 B r d y1 x2 (x3 + 1) (some (ax_i x4)) V Φ Θ) ∧ (x4 < 26 → (0 ≤ x2 + x4 ∧ x2 + x4 < 208) ∧ ax_I (az_W B (az_EJ B r)) d q_Letters_bit [ax_i x3] V (fun r1 V1 => ((ax_and (V 545 (x2 + x4)) r1 = 0 → k_Judge_judgeCycles_21 B r d y1 x2 x3 (x4 + 1) V1 Φ Θ) ∧ (¬ ax_and (V 545 (x2 + x4)) r1 = 0 → (0 ≤ x2 + x4 ∧ x2 + x4 < 208) ∧ (0 ≤ x2 + x3 ∧ x2 + x3 < 208) ∧ (0 ≤ x2 + x4 ∧ x2 + x4 < 208) ∧ (∀ V2, V2 = ax_u V1 545 (x2 + x4) (ax_or (V1 545 (x2 + x4)) (V1 545 (x2 + x3))) → k_Judge_judgeCycles_21 B r d y1 x2 x3 (x4 + 1) V2 Φ Θ)))) (fun _ => False)))) : k_Judge_judgeCycles_21 B r d y1 x2 x3 x4 V Φ Θ := by
  refine ax_mv 1 23 [some (.ref r), y1, some (ax_i x2), some (ax_i x3), some (ax_i x4)] [ax_i x4] rfl ?_
  refine ax_bip (pc' := 25) ⟨_, rfl⟩ (by decide) rfl ?_
  refine ax_if2 (p1 := 80) (p2 := 28) ⟨_, rfl⟩ (by decide) rfl hx4 (by decide) (fun hc => ?_) (fun hc => ?_)
  · have h := h.1 hc
    refine ax_inc (x := x3) (pc' := 83) (L' := [some (.ref r), y1, some (ax_i x2), some (ax_i (x3 + 1)), some (ax_i x4)]) ⟨_, rfl⟩ rfl rfl rfl rfl ?_
    refine ax_mv 1 12 [some (.ref r), y1, some (ax_i x2), some (ax_i (x3 + 1)), some (ax_i x4)] [] rfl ?_
    exact h
  · have h := h.2 (Int.not_le.mp hc)
    refine ax_mv 1 29 [some (.ref r), y1, some (ax_i x2), some (ax_i x3), some (ax_i x4)] [.ref r] rfl ?_
    refine ax_gR (v := .ref (B + 32)) (pc' := 32) ⟨_, rfl⟩ fl_3_30 (az_e 0 rfl) rfl rfl ?_
    refine ax_gR (v := .ref (B + 45)) (pc' := 35) ⟨_, rfl⟩ fl_3_281 (az_b 32 rfl) rfl rfl ?_
    refine ax_mv 2 38 [some (.ref r), y1, some (ax_i x2), some (ax_i x3), some (ax_i x4)] [ax_i x4, ax_i x2, .ref (B + 45)] rfl ?_
    refine ax_add (pc' := 39) ⟨_, rfl⟩ rfl ?_
    obtain ⟨o1, h⟩ := h
    refine ax_ild (n := 208) (pc' := 40) ⟨_, rfl⟩ (az_b 45 rfl) (by decide) o1 rfl ?_
    refine ax_mv 1 41 [some (.ref r), y1, some (ax_i x2), some (ax_i x3), some (ax_i x4)] [ax_i x3, ax_i (V 545 (x2 + x4))] rfl ?_
    refine ax_callS (pc' := 44) ⟨_, rfl⟩ ml_3_130 (Nat.le_of_ble_eq_true rfl) (Nat.le_of_ble_eq_true rfl) rfl h (fun r1 V1 hg1 hr1 h => ?_)
    refine ax_mv 0 44 [some (.ref r), y1, some (ax_i x2), some (ax_i x3), some (ax_i x4)] [ax_i r1, ax_i (V 545 (x2 + x4))] rfl ?_
    refine ax_rand (pc' := 45) ⟨_, rfl⟩ rfl ?_
    refine ax_if (p1 := 74) (p2 := 48) ⟨_, rfl⟩ (by decide) rfl (ax_rg_of _) (fun hc => ?_) (fun hc => ?_)
    · have h := h.1 hc
      refine ax_inc (x := x4) (pc' := 77) (L' := [some (.ref r), y1, some (ax_i x2), some (ax_i x3), some (ax_i (x4 + 1))]) ⟨_, rfl⟩ rfl rfl rfl rfl ?_
      refine ax_mv 1 21 [some (.ref r), y1, some (ax_i x2), some (ax_i x3), some (ax_i (x4 + 1))] [] rfl ?_
      exact h
    · have h := h.2 hc
      refine ax_mv 1 49 [some (.ref r), y1, some (ax_i x2), some (ax_i x3), some (ax_i x4)] [.ref r] rfl ?_
      refine ax_gR (v := .ref (B + 32)) (pc' := 52) ⟨_, rfl⟩ fl_3_30 (az_e 0 rfl) rfl rfl ?_
      refine ax_gR (v := .ref (B + 45)) (pc' := 55) ⟨_, rfl⟩ fl_3_281 (az_b 32 rfl) rfl rfl ?_
      refine ax_mv 2 58 [some (.ref r), y1, some (ax_i x2), some (ax_i x3), some (ax_i x4)] [ax_i x4, ax_i x2, .ref (B + 45)] rfl ?_
      refine ax_add (pc' := 59) ⟨_, rfl⟩ rfl ?_
      refine ax_mv 1 60 [some (.ref r), y1, some (ax_i x2), some (ax_i x3), some (ax_i x4)] [ax_i (x2 + x4), .ref (B + 45), ax_i (x2 + x4), .ref (B + 45)] rfl ?_
      obtain ⟨o2, h⟩ := h
      refine ax_ild (n := 208) (pc' := 61) ⟨_, rfl⟩ (az_b 45 rfl) (by decide) o2 rfl ?_
      refine ax_mv 1 62 [some (.ref r), y1, some (ax_i x2), some (ax_i x3), some (ax_i x4)] [.ref r, ax_i (V1 545 (x2 + x4)), ax_i (x2 + x4), .ref (B + 45)] rfl ?_
      refine ax_gR (v := .ref (B + 32)) (pc' := 65) ⟨_, rfl⟩ fl_3_30 (az_e 0 rfl) rfl rfl ?_
      refine ax_gR (v := .ref (B + 45)) (pc' := 68) ⟨_, rfl⟩ fl_3_281 (az_b 32 rfl) rfl rfl ?_
      refine ax_mv 2 70 [some (.ref r), y1, some (ax_i x2), some (ax_i x3), some (ax_i x4)] [ax_i x3, ax_i x2, .ref (B + 45), ax_i (V1 545 (x2 + x4)), ax_i (x2 + x4), .ref (B + 45)] rfl ?_
      refine ax_add (pc' := 71) ⟨_, rfl⟩ rfl ?_
      obtain ⟨o3, h⟩ := h
      refine ax_ild (n := 208) (pc' := 72) ⟨_, rfl⟩ (az_b 45 rfl) (by decide) o3 rfl ?_
      refine ax_ror (pc' := 73) ⟨_, rfl⟩ rfl ?_
      obtain ⟨o4, h⟩ := h
      obtain ⟨V2, eV2⟩ : ∃ W9 : ax_V, W9 = ax_u V1 545 (x2 + x4) (ax_or (V1 545 (x2 + x4)) (V1 545 (x2 + x3))) := ⟨_, rfl⟩
      have h := h V2 eV2
      have hg2 : ax_g V2 := eV2 ▸ ax_u_g hg1 (ax_rg_of _)
      refine ax_ist (n := 208) (pc' := 74) ⟨_, rfl⟩ az_ok (az_b 45 rfl) (by decide) o4 eV2 rfl ?_
      refine ax_inc (x := x4) (pc' := 77) (L' := [some (.ref r), y1, some (ax_i x2), some (ax_i x3), some (ax_i (x4 + 1))]) ⟨_, rfl⟩ rfl rfl rfl rfl ?_
      refine ax_mv 1 21 [some (.ref r), y1, some (ax_i x2), some (ax_i x3), some (ax_i (x4 + 1))] [] rfl ?_
      exact h
set_option maxRecDepth 20000 in
theorem r_Judge_judgeCycles_88 {B : Nat} {r : Nat} {d : Nat} {V : ax_V} {Φ : ax_V → Prop} {Θ : ax_V → Prop} {y1 : Option Value} {x2 : Int} {x3 : Int} {y4 : Option Value} (hg : ax_g V) (hy1 : ax_y y1) (hx2 : ax_rg x2) (hx3 : ax_rg x3) (hy4 : ax_y y4) (h : ax_rg (x2 + 26) ∧ ((x2 + 26 ≤ x3 → Φ V) ∧ (x3 < x2 + 26 → (0 ≤ x3 ∧ x3 < 208) ∧ ax_I (az_W B (az_EJ B r)) d q_Letters_bit [ax_i x3] V (fun r1 V1 => ((ax_and (V 545 x3) r1 = 0 → (0 ≤ x3 ∧ x3 < 208) ∧ ax_N (az_W B (az_EJ B r)) d q_Judge_blameIf [.ref r, ax_i 0, ax_i (V1 533 x3)] V1 (fun V2 => k_Judge_judgeCycles_88 B r d y1 x2 (x3 + 1) y4 V2 Φ Θ) Θ) ∧ (¬ ax_and (V 545 x3) r1 = 0 → (0 ≤ x3 ∧ x3 < 208) ∧ ax_N (az_W B (az_EJ B r)) d q_Judge_blameIf [.ref r, ax_i 1, ax_i (V1 533 x3)] V1 (fun V3 => k_Judge_judgeCycles_88 B r d y1 x2 (x3 + 1) y4 V3 Φ Θ) Θ))) (fun _ => False)))) : k_Judge_judgeCycles_88 B r d y1 x2 x3 y4 V Φ Θ := by
  refine ax_mv 2 90 [some (.ref r), y1, some (ax_i x2), some (ax_i x3), y4] [ax_i x2, ax_i x3] rfl ?_
  refine ax_bip (pc' := 92) ⟨_, rfl⟩ (by decide) rfl ?_
  refine ax_add (pc' := 93) ⟨_, rfl⟩ rfl ?_
  obtain ⟨o5, h⟩ := h
  refine ax_if2 (p1 := 137) (p2 := 96) ⟨_, rfl⟩ (by decide) rfl hx3 o5 (fun hc => ?_) (fun hc => ?_)
  · have h := h.1 hc
    exact ax_nret ⟨_, rfl⟩ rfl hg h
  · have h := h.2 (Int.not_le.mp hc)
    refine ax_mv 2 98 [some (.ref r), y1, some (ax_i x2), some (ax_i x3), y4] [.ref r, .ref r] rfl ?_
    refine ax_gR (v := .ref (B + 32)) (pc' := 101) ⟨_, rfl⟩ fl_3_30 (az_e 0 rfl) rfl rfl ?_
    refine ax_gR (v := .ref (B + 45)) (pc' := 104) ⟨_, rfl⟩ fl_3_281 (az_b 32 rfl) rfl rfl ?_
    refine ax_mv 1 105 [some (.ref r), y1, some (ax_i x2), some (ax_i x3), y4] [ax_i x3, .ref (B + 45), .ref r] rfl ?_
    obtain ⟨o6, h⟩ := h
    refine ax_ild (n := 208) (pc' := 106) ⟨_, rfl⟩ (az_b 45 rfl) (by decide) o6 rfl ?_
    refine ax_mv 1 107 [some (.ref r), y1, some (ax_i x2), some (ax_i x3), y4] [ax_i x3, ax_i (V 545 x3), .ref r] rfl ?_
    refine ax_callS (pc' := 110) ⟨_, rfl⟩ ml_3_130 (Nat.le_of_ble_eq_true rfl) (Nat.le_of_ble_eq_true rfl) rfl h (fun r1 V1 hg1 hr1 h => ?_)
    refine ax_mv 0 110 [some (.ref r), y1, some (ax_i x2), some (ax_i x3), y4] [ax_i r1, ax_i (V 545 x3), .ref r] rfl ?_
    refine ax_rand (pc' := 111) ⟨_, rfl⟩ rfl ?_
    refine ax_if (p1 := 118) (p2 := 114) ⟨_, rfl⟩ (by decide) rfl (ax_rg_of _) (fun hc => ?_) (fun hc => ?_)
    · have h := h.1 hc
      refine ax_mv 2 120 [some (.ref r), y1, some (ax_i x2), some (ax_i x3), y4] [.ref r, ax_i 0, .ref r] rfl ?_
      refine ax_gR (v := .ref (B + 32)) (pc' := 123) ⟨_, rfl⟩ fl_3_30 (az_e 0 rfl) rfl rfl ?_
      refine ax_gR (v := .ref (B + 33)) (pc' := 126) ⟨_, rfl⟩ fl_3_85 (az_b 32 rfl) rfl rfl ?_
      refine ax_mv 1 127 [some (.ref r), y1, some (ax_i x2), some (ax_i x3), y4] [ax_i x3, .ref (B + 33), ax_i 0, .ref r] rfl ?_
      obtain ⟨o7, h⟩ := h
      refine ax_ild (n := 208) (pc' := 128) ⟨_, rfl⟩ (az_b 33 rfl) (by decide) o7 rfl ?_
      refine ax_callN (pc' := 131) ⟨_, rfl⟩ ml_3_123 (rest := []) rfl (fun ss hs => ⟨_, _, (az_e 0 rfl) ss hs⟩) (Nat.le_of_ble_eq_true rfl) rfl rfl h (fun V2 hg2 h => ?_)
      refine ax_inc (x := x3) (pc' := 134) (L' := [some (.ref r), y1, some (ax_i x2), some (ax_i (x3 + 1)), y4]) ⟨_, rfl⟩ rfl rfl rfl rfl ?_
      refine ax_mv 1 88 [some (.ref r), y1, some (ax_i x2), some (ax_i (x3 + 1)), y4] [] rfl ?_
      exact h
    · have h := h.2 hc
      refine ax_mv 3 120 [some (.ref r), y1, some (ax_i x2), some (ax_i x3), y4] [.ref r, ax_i 1, .ref r] rfl ?_
      refine ax_gR (v := .ref (B + 32)) (pc' := 123) ⟨_, rfl⟩ fl_3_30 (az_e 0 rfl) rfl rfl ?_
      refine ax_gR (v := .ref (B + 33)) (pc' := 126) ⟨_, rfl⟩ fl_3_85 (az_b 32 rfl) rfl rfl ?_
      refine ax_mv 1 127 [some (.ref r), y1, some (ax_i x2), some (ax_i x3), y4] [ax_i x3, .ref (B + 33), ax_i 1, .ref r] rfl ?_
      obtain ⟨o8, h⟩ := h
      refine ax_ild (n := 208) (pc' := 128) ⟨_, rfl⟩ (az_b 33 rfl) (by decide) o8 rfl ?_
      refine ax_callN (pc' := 131) ⟨_, rfl⟩ ml_3_123 (rest := []) rfl (fun ss hs => ⟨_, _, (az_e 0 rfl) ss hs⟩) (Nat.le_of_ble_eq_true rfl) rfl rfl h (fun V3 hg3 h => ?_)
      refine ax_inc (x := x3) (pc' := 134) (L' := [some (.ref r), y1, some (ax_i x2), some (ax_i (x3 + 1)), y4]) ⟨_, rfl⟩ rfl rfl rfl rfl ?_
      refine ax_mv 1 88 [some (.ref r), y1, some (ax_i x2), some (ax_i (x3 + 1)), y4] [] rfl ?_
      exact h
set_option maxRecDepth 20000 in
theorem r_Judge_judgeCycles {B : Nat} {r : Nat} {d : Nat} {V : ax_V} {Φ : ax_V → Prop} {Θ : ax_V → Prop} {x1 : Int} (hg : ax_g V) (hx1 : ax_rg x1) (h : ax_N (az_W B (az_EJ B r)) d q_Judge_findNeeds [.ref r, ax_i x1] V (fun V1 => k_Judge_judgeCycles_12 B r d (some (ax_i x1)) (x1 * 26) 0 none V1 Φ Θ) Θ) : ax_N (az_W B (az_EJ B r)) (d + 1) q_Judge_judgeCycles [.ref r, ax_i x1] V Φ Θ := by
  refine ax_T.of (M := m_Judge_judgeCycles) rfl (Nat.le_of_ble_eq_true rfl) ?_
  refine ax_mv 0 0 [some (.ref r), some (ax_i x1), none, none, none] [] rfl ?_
  refine ax_mv 2 2 [some (.ref r), some (ax_i x1), none, none, none] [ax_i x1, .ref r] rfl ?_
  refine ax_callN (pc' := 5) ⟨_, rfl⟩ ml_3_278 (rest := []) rfl (fun ss hs => ⟨_, _, (az_e 0 rfl) ss hs⟩) (Nat.le_of_ble_eq_true rfl) rfl rfl h (fun V1 hg1 h => ?_)
  refine ax_mv 1 6 [some (.ref r), some (ax_i x1), none, none, none] [ax_i x1] rfl ?_
  refine ax_bip (pc' := 8) ⟨_, rfl⟩ (by decide) rfl ?_
  refine ax_mul (pc' := 9) ⟨_, rfl⟩ rfl ?_
  refine ax_sti (i := 0) (k := 2) (n := 1) (pc' := 10) (L' := [some (.ref r), some (ax_i x1), some (ax_i (x1 * 26)), none, none]) ⟨_, rfl⟩ rfl rfl rfl (Nat.le_of_ble_eq_true rfl) rfl rfl ?_
  refine ax_mv 1 11 [some (.ref r), some (ax_i x1), some (ax_i (x1 * 26)), none, none] [ax_i 0] rfl ?_
  refine ax_sti (i := 0) (k := 3) (n := 1) (pc' := 12) (L' := [some (.ref r), some (ax_i x1), some (ax_i (x1 * 26)), some (ax_i 0), none]) ⟨_, rfl⟩ rfl rfl rfl (Nat.le_of_ble_eq_true rfl) rfl rfl ?_
  exact h
