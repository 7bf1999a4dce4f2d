/-! RULES of the methods of the class: a method each, and each loop of it. PRINTED by wip/gen/rules.py -/
theorem r_Machine_reckon {B : Nat} {d : Nat} {V : ax_V} {Φ : Int → ax_V → Prop} {Θ : ax_V → Prop} {x0 : Int} {x1 : Int} {x2 : Int} (hg : ax_g V) (hx0 : ax_rg x0) (hx1 : ax_rg x1) (hx2 : ax_rg x2) (h : ((x0 = 4 → Φ (ax_wr (-x1)) V) ∧ (x0 = 5 → Φ (ax_wr (1 - x1)) V) ∧ (x0 = 7 → Φ (ax_or x1 x2) V) ∧ (x0 = 8 → Φ (ax_and x1 x2) V) ∧ (x0 = 9 → ((x1 = x2 → Φ 1 V) ∧ (¬ x1 = x2 → Φ 0 V))) ∧ (x0 = 10 → ((x1 = x2 → Φ 0 V) ∧ (¬ x1 = x2 → Φ 1 V))) ∧ (x0 = 11 → ((x2 ≤ x1 → Φ 0 V) ∧ (x1 < x2 → Φ 1 V))) ∧ (x0 = 12 → ((x1 ≤ x2 → Φ 0 V) ∧ (x2 < x1 → Φ 1 V))) ∧ (x0 = 13 → Φ (ax_wr (x1 + x2)) V) ∧ (x0 = 14 → Φ (ax_wr (x1 - x2)) V) ∧ (¬ x0 = 4 → ¬ x0 = 5 → ¬ x0 = 7 → ¬ x0 = 8 → ¬ x0 = 9 → ¬ x0 = 10 → ¬ x0 = 11 → ¬ x0 = 12 → ¬ x0 = 13 → ¬ x0 = 14 → Φ (ax_wr (x1 * x2)) V))) : ax_I (az_W B (az_EM B)) (d + 1) q_Machine_reckon [ax_i x0, ax_i x1, ax_i x2] V Φ Θ := by
  refine ax_T.of (M := m_Machine_reckon) rfl (Nat.le_of_ble_eq_true rfl) ?_
  refine ax_mv 0 0 [some (ax_i x0), some (ax_i x1), some (ax_i x2)] [] rfl ?_
  refine ax_mv 1 1 [some (ax_i x0), some (ax_i x1), some (ax_i x2)] [ax_i x0] rfl ?_
  have t0 : (x0 = 4) → ax_R (az_W B (az_EM B)) ax_t d m_Machine_reckon 60 [some (ax_i x0), some (ax_i x1), some (ax_i x2)] [] V (ax_Ir Φ) Θ := fun hk => by
    have h := h.1 hk
    refine ax_mv 1 61 [some (ax_i x0), some (ax_i x1), some (ax_i x2)] [ax_i x1] rfl ?_
    refine ax_neg (pc' := 62) ⟨_, rfl⟩ rfl ?_
    refine ax_wrap ?_
    exact ax_iret ⟨_, rfl⟩ rfl rfl (ax_rg_of _) hg h
  have t1 : (x0 = 5) → ax_R (az_W B (az_EM B)) ax_t d m_Machine_reckon 63 [some (ax_i x0), some (ax_i x1), some (ax_i x2)] [] V (ax_Ir Φ) Θ := fun hk => by
    have h := h.2.1 hk
    refine ax_mv 2 65 [some (ax_i x0), some (ax_i x1), some (ax_i x2)] [ax_i x1, ax_i 1] rfl ?_
    refine ax_sub (pc' := 66) ⟨_, rfl⟩ rfl ?_
    refine ax_wrap ?_
    exact ax_iret ⟨_, rfl⟩ rfl rfl (ax_rg_of _) hg h
  have t2 : (x0 = 7) → ax_R (az_W B (az_EM B)) ax_t d m_Machine_reckon 67 [some (ax_i x0), some (ax_i x1), some (ax_i x2)] [] V (ax_Ir Φ) Θ := fun hk => by
    have h := h.2.2.1 hk
    refine ax_mv 2 69 [some (ax_i x0), some (ax_i x1), some (ax_i x2)] [ax_i x2, ax_i x1] rfl ?_
    refine ax_ror (pc' := 70) ⟨_, rfl⟩ rfl ?_
    exact ax_iret ⟨_, rfl⟩ rfl rfl (ax_rg_of _) hg h
  have t3 : (x0 = 8) → ax_R (az_W B (az_EM B)) ax_t d m_Machine_reckon 71 [some (ax_i x0), some (ax_i x1), some (ax_i x2)] [] V (ax_Ir Φ) Θ := fun hk => by
    have h := h.2.2.2.1 hk
    refine ax_mv 2 73 [some (ax_i x0), some (ax_i x1), some (ax_i x2)] [ax_i x2, ax_i x1] rfl ?_
    refine ax_rand (pc' := 74) ⟨_, rfl⟩ rfl ?_
    exact ax_iret ⟨_, rfl⟩ rfl rfl (ax_rg_of _) hg h
  have t4 : (x0 = 9) → ax_R (az_W B (az_EM B)) ax_t d m_Machine_reckon 75 [some (ax_i x0), some (ax_i x1), some (ax_i x2)] [] V (ax_Ir Φ) Θ := fun hk => by
    have h := h.2.2.2.2.1 hk
    refine ax_mv 2 77 [some (ax_i x0), some (ax_i x1), some (ax_i x2)] [ax_i x2, ax_i x1] rfl ?_
    refine ax_if2 (p1 := 84) (p2 := 80) ⟨_, rfl⟩ (by decide) rfl hx1 hx2 (fun hc => ?_) (fun hc => ?_)
    · have h := h.2 hc
      refine ax_mv 1 85 [some (ax_i x0), some (ax_i x1), some (ax_i x2)] [ax_i 0] rfl ?_
      exact ax_iret ⟨_, rfl⟩ rfl rfl (by decide) hg h
    · have h := h.1 (Classical.not_not.mp hc)
      refine ax_mv 2 85 [some (ax_i x0), some (ax_i x1), some (ax_i x2)] [ax_i 1] rfl ?_
      exact ax_iret ⟨_, rfl⟩ rfl rfl (by decide) hg h
  have t5 : (x0 = 10) → ax_R (az_W B (az_EM B)) ax_t d m_Machine_reckon 86 [some (ax_i x0), some (ax_i x1), some (ax_i x2)] [] V (ax_Ir Φ) Θ := fun hk => by
    have h := h.2.2.2.2.2.1 hk
    refine ax_mv 2 88 [some (ax_i x0), some (ax_i x1), some (ax_i x2)] [ax_i x2, ax_i x1] rfl ?_
    refine ax_if2 (p1 := 95) (p2 := 91) ⟨_, rfl⟩ (by decide) rfl hx1 hx2 (fun hc => ?_) (fun hc => ?_)
    · have h := h.1 hc
      refine ax_mv 1 96 [some (ax_i x0), some (ax_i x1), some (ax_i x2)] [ax_i 0] rfl ?_
      exact ax_iret ⟨_, rfl⟩ rfl rfl (by decide) hg h
    · have h := h.2 hc
      refine ax_mv 2 96 [some (ax_i x0), some (ax_i x1), some (ax_i x2)] [ax_i 1] rfl ?_
      exact ax_iret ⟨_, rfl⟩ rfl rfl (by decide) hg h
  have t6 : (x0 = 11) → ax_R (az_W B (az_EM B)) ax_t d m_Machine_reckon 97 [some (ax_i x0), some (ax_i x1), some (ax_i x2)] [] V (ax_Ir Φ) Θ := fun hk => by
    have h := h.2.2.2.2.2.2.1 hk
    refine ax_mv 2 99 [some (ax_i x0), some (ax_i x1), some (ax_i x2)] [ax_i x2, ax_i x1] rfl ?_
    refine ax_if2 (p1 := 106) (p2 := 102) ⟨_, rfl⟩ (by decide) rfl hx1 hx2 (fun hc => ?_) (fun hc => ?_)
    · have h := h.1 hc
      refine ax_mv 1 107 [some (ax_i x0), some (ax_i x1), some (ax_i x2)] [ax_i 0] rfl ?_
      exact ax_iret ⟨_, rfl⟩ rfl rfl (by decide) hg h
    · have h := h.2 (Int.not_le.mp hc)
      refine ax_mv 2 107 [some (ax_i x0), some (ax_i x1), some (ax_i x2)] [ax_i 1] rfl ?_
      exact ax_iret ⟨_, rfl⟩ rfl rfl (by decide) hg h
  have t7 : (x0 = 12) → ax_R (az_W B (az_EM B)) ax_t d m_Machine_reckon 108 [some (ax_i x0), some (ax_i x1), some (ax_i x2)] [] V (ax_Ir Φ) Θ := fun hk => by
    have h := h.2.2.2.2.2.2.2.1 hk
    refine ax_mv 2 110 [some (ax_i x0), some (ax_i x1), some (ax_i x2)] [ax_i x2, ax_i x1] rfl ?_
    refine ax_if2 (p1 := 117) (p2 := 113) ⟨_, rfl⟩ (by decide) rfl hx1 hx2 (fun hc => ?_) (fun hc => ?_)
    · have h := h.1 hc
      refine ax_mv 1 118 [some (ax_i x0), some (ax_i x1), some (ax_i x2)] [ax_i 0] rfl ?_
      exact ax_iret ⟨_, rfl⟩ rfl rfl (by decide) hg h
    · have h := h.2 (Int.not_le.mp hc)
      refine ax_mv 2 118 [some (ax_i x0), some (ax_i x1), some (ax_i x2)] [ax_i 1] rfl ?_
      exact ax_iret ⟨_, rfl⟩ rfl rfl (by decide) hg h
  have t8 : (x0 = 13) → ax_R (az_W B (az_EM B)) ax_t d m_Machine_reckon 119 [some (ax_i x0), some (ax_i x1), some (ax_i x2)] [] V (ax_Ir Φ) Θ := fun hk => by
    have h := h.2.2.2.2.2.2.2.2.1 hk
    refine ax_mv 2 121 [some (ax_i x0), some (ax_i x1), some (ax_i x2)] [ax_i x2, ax_i x1] rfl ?_
    refine ax_add (pc' := 122) ⟨_, rfl⟩ rfl ?_
    refine ax_wrap ?_
    exact ax_iret ⟨_, rfl⟩ rfl rfl (ax_rg_of _) hg h
  have t9 : (x0 = 14) → ax_R (az_W B (az_EM B)) ax_t d m_Machine_reckon 123 [some (ax_i x0), some (ax_i x1), some (ax_i x2)] [] V (ax_Ir Φ) Θ := fun hk => by
    have h := h.2.2.2.2.2.2.2.2.2.1 hk
    refine ax_mv 2 125 [some (ax_i x0), some (ax_i x1), some (ax_i x2)] [ax_i x2, ax_i x1] rfl ?_
    refine ax_sub (pc' := 126) ⟨_, rfl⟩ rfl ?_
    refine ax_wrap ?_
    exact ax_iret ⟨_, rfl⟩ rfl rfl (ax_rg_of _) hg h
  have tD : ¬ x0 = 4 → ¬ x0 = 5 → ¬ x0 = 7 → ¬ x0 = 8 → ¬ x0 = 9 → ¬ x0 = 10 → ¬ x0 = 11 → ¬ x0 = 12 → ¬ x0 = 13 → ¬ x0 = 14 → ax_R (az_W B (az_EM B)) ax_t d m_Machine_reckon 127 [some (ax_i x0), some (ax_i x1), some (ax_i x2)] [] V (ax_Ir Φ) Θ := fun n0 n1 n2 n3 n4 n5 n6 n7 n8 n9 => by
    have h := h.2.2.2.2.2.2.2.2.2.2 n0 n1 n2 n3 n4 n5 n6 n7 n8 n9
    refine ax_mv 2 129 [some (ax_i x0), some (ax_i x1), some (ax_i x2)] [ax_i x2, ax_i x1] rfl ?_
    refine ax_mul (pc' := 130) ⟨_, rfl⟩ rfl ?_
    refine ax_wrap ?_
    exact ax_iret ⟨_, rfl⟩ rfl rfl (ax_rg_of _) hg h
  by_cases e4 : x0 = 4
  · exact ax_tsC (off := 59) (p1 := 60) ⟨_, rfl⟩ hx0 (by omega) (by omega) (by rw [e4]; rfl) (by decide) (t0 (e4))
  by_cases e5 : x0 = 5
  · exact ax_tsC (off := 62) (p1 := 63) ⟨_, rfl⟩ hx0 (by omega) (by omega) (by rw [e5]; rfl) (by decide) (t1 (e5))
  by_cases e6 : x0 = 6
  · exact ax_tsC (off := 126) (p1 := 127) ⟨_, rfl⟩ hx0 (by omega) (by omega) (by rw [e6]; rfl) (by decide) (tD (by omega) (by omega) (by omega) (by omega) (by omega) (by omega) (by omega) (by omega) (by omega) (by omega))
  by_cases e7 : x0 = 7
  · exact ax_tsC (off := 66) (p1 := 67) ⟨_, rfl⟩ hx0 (by omega) (by omega) (by rw [e7]; rfl) (by decide) (t2 (e7))
  by_cases e8 : x0 = 8
  · exact ax_tsC (off := 70) (p1 := 71) ⟨_, rfl⟩ hx0 (by omega) (by omega) (by rw [e8]; rfl) (by decide) (t3 (e8))
  by_cases e9 : x0 = 9
  · exact ax_tsC (off := 74) (p1 := 75) ⟨_, rfl⟩ hx0 (by omega) (by omega) (by rw [e9]; rfl) (by decide) (t4 (e9))
  by_cases e10 : x0 = 10
  · exact ax_tsC (off := 85) (p1 := 86) ⟨_, rfl⟩ hx0 (by omega) (by omega) (by rw [e10]; rfl) (by decide) (t5 (e10))
  by_cases e11 : x0 = 11
  · exact ax_tsC (off := 96) (p1 := 97) ⟨_, rfl⟩ hx0 (by omega) (by omega) (by rw [e11]; rfl) (by decide) (t6 (e11))
  by_cases e12 : x0 = 12
  · exact ax_tsC (off := 107) (p1 := 108) ⟨_, rfl⟩ hx0 (by omega) (by omega) (by rw [e12]; rfl) (by decide) (t7 (e12))
  by_cases e13 : x0 = 13
  · exact ax_tsC (off := 118) (p1 := 119) ⟨_, rfl⟩ hx0 (by omega) (by omega) (by rw [e13]; rfl) (by decide) (t8 (e13))
  by_cases e14 : x0 = 14
  · exact ax_tsC (off := 122) (p1 := 123) ⟨_, rfl⟩ hx0 (by omega) (by omega) (by rw [e14]; rfl) (by decide) (t9 (e14))
  exact ax_tsD (p1 := 127) ⟨_, rfl⟩ hx0 (by omega) (by decide) (tD e4 e5 e7 e8 e9 e10 e11 e12 e13 e14)
abbrev k_Machine_assign_34 (B : Nat) (d : Nat) (x1 : Int) (y2 : Option Value) (y3 : Option Value) (y4 : Option Value) (y5 : Option Value) (y6 : Option Value) (y7 : Option Value) (y8 : Option Value) (V : ax_V) (Φ : ax_V → Prop) (Θ : ax_V → Prop) : Prop := ax_R (az_W B (az_EM B)) ax_t d m_Machine_assign 34 [some (.ref 150), some (ax_i x1), y2, y3, y4, y5, y6, y7, y8] [] V (ax_Nr Φ) Θ
abbrev k_Machine_assign_95 (B : Nat) (d : Nat) (x1 : Int) (y2 : Option Value) (x3 : Int) (x4 : Int) (x5 : Int) (x6 : Int) (y7 : Option Value) (y8 : Option Value) (V : ax_V) (Φ : ax_V → Prop) (Θ : ax_V → Prop) : Prop := ax_R (az_W B (az_EM B)) ax_t d m_Machine_assign 95 [some (.ref 150), some (ax_i x1), y2, some (ax_i x3), some (ax_i x4), some (ax_i x5), some (ax_i x6), y7, y8] [] V (ax_Nr Φ) Θ
abbrev k_Machine_assign_169 (B : Nat) (d : Nat) (x1 : Int) (y2 : Option Value) (x3 : Int) (x4 : Int) (x5 : Int) (x6 : Int) (x7 : Int) (x8 : Int) (V : ax_V) (Φ : ax_V → Prop) (Θ : ax_V → Prop) : Prop := ax_R (az_W B (az_EM B)) ax_t d m_Machine_assign 169 [some (.ref 150), some (ax_i x1), y2, some (ax_i x3), some (ax_i x4), some (ax_i x5), some (ax_i x6), some (ax_i x7), some (ax_i x8)] [] V (ax_Nr Φ) Θ
set_option maxRecDepth 20000 in
theorem r_Machine_assign_34 {B : Nat} {d : Nat} {V : ax_V} {Φ : ax_V → Prop} {Θ : ax_V → Prop} {x1 : Int} {y2 : Option Value} {y3 : Option Value} {y4 : Option Value} {y5 : Option Value} {y6 : Option Value} {y7 : Option Value} {y8 : Option Value} (hg : ax_g V) (hx1 : ax_rg x1) (hy2 : ax_y y2) (hy3 : ax_y y3) (hy4 : ax_y y4) (hy5 : ax_y y5) (hy6 : ax_y y6) (hy7 : ax_y y7) (hy8 : ax_y y8) (h : (0 ≤ x1 ∧ x1 < 350) ∧ (0 ≤ x1 ∧ x1 < 351) ∧ (0 ≤ x1 + 1 ∧ x1 + 1 < 351) ∧ ax_rg ((V 548 (x1 + 1)) - (V 548 x1)) ∧ (((V 548 (x1 + 1)) - (V 548 x1) ≤ 1 → k_Machine_assign_95 B d x1 y2 (V 550 x1) (V 548 x1) 0 (V 548 x1) y7 y8 V Φ Θ) ∧ (1 < (V 548 (x1 + 1)) - (V 548 x1) → ax_I (az_W B (az_EM B)) d q_Parts_isCall [.ref (B + 16), ax_i (V 550 x1)] V (fun r1 V1 => ((r1 = 0 → k_Machine_assign_95 B d x1 y2 (V 550 x1) (V 548 x1) 0 (V 548 x1) y7 y8 V1 Φ Θ) ∧ (¬ r1 = 0 → k_Machine_assign_95 B d x1 y2 (V 550 x1) (V 548 x1) 1 (V 548 x1) y7 y8 V1 Φ Θ))) Θ))) : k_Machine_assign_34 B d x1 y2 y3 y4 y5 y6 y7 y8 V Φ Θ := by
  refine ax_mv 1 35 [some (.ref 150), some (ax_i x1), y2, y3, y4, y5, y6, y7, y8] [.ref 150] rfl ?_
  refine ax_gR (v := .ref (B + 47)) (pc' := 38) ⟨_, rfl⟩ fl_5_52 (az_e 0 rfl) rfl rfl ?_
  refine ax_gR (v := .ref (B + 50)) (pc' := 41) ⟨_, rfl⟩ fl_5_186 (az_b 47 rfl) rfl rfl ?_
  refine ax_mv 1 42 [some (.ref 150), some (ax_i x1), y2, y3, y4, y5, y6, y7, y8] [ax_i x1, .ref (B + 50)] rfl ?_
  obtain ⟨o1, h⟩ := h
  refine ax_ild (n := 350) (pc' := 43) ⟨_, rfl⟩ (az_b 50 rfl) (by decide) o1 rfl ?_
  refine ax_sti (i := 0) (k := 3) (n := 1) (pc' := 44) (L' := [some (.ref 150), some (ax_i x1), y2, some (ax_i (V 550 x1)), y4, y5, y6, y7, y8]) ⟨_, rfl⟩ rfl rfl (ax_kill_y (k := 2) rfl hy2) (Nat.le_of_ble_eq_true rfl) rfl rfl ?_
  refine ax_mv 1 45 [some (.ref 150), some (ax_i x1), y2, some (ax_i (V 550 x1)), y4, y5, y6, y7, y8] [.ref 150] rfl ?_
  refine ax_gR (v := .ref (B + 47)) (pc' := 48) ⟨_, rfl⟩ fl_5_52 (az_e 0 rfl) rfl rfl ?_
  refine ax_gR (v := .ref (B + 48)) (pc' := 51) ⟨_, rfl⟩ fl_5_189 (az_b 47 rfl) rfl rfl ?_
  refine ax_mv 1 52 [some (.ref 150), some (ax_i x1), y2, some (ax_i (V 550 x1)), y4, y5, y6, y7, y8] [ax_i x1, .ref (B + 48)] rfl ?_
  obtain ⟨o2, h⟩ := h
  refine ax_ild (n := 351) (pc' := 53) ⟨_, rfl⟩ (az_b 48 rfl) (by decide) o2 rfl ?_
  refine ax_sti (i := 0) (k := 4) (n := 2) (pc' := 55) (L' := [some (.ref 150), some (ax_i x1), y2, some (ax_i (V 550 x1)), some (ax_i (V 548 x1)), y5, y6, y7, y8]) ⟨_, rfl⟩ rfl rfl rfl (Nat.le_of_ble_eq_true rfl) rfl rfl ?_
  refine ax_mv 1 56 [some (.ref 150), some (ax_i x1), y2, some (ax_i (V 550 x1)), some (ax_i (V 548 x1)), y5, y6, y7, y8] [.ref 150] rfl ?_
  refine ax_gR (v := .ref (B + 47)) (pc' := 59) ⟨_, rfl⟩ fl_5_52 (az_e 0 rfl) rfl rfl ?_
  refine ax_gR (v := .ref (B + 48)) (pc' := 62) ⟨_, rfl⟩ fl_5_189 (az_b 47 rfl) rfl rfl ?_
  refine ax_mv 2 64 [some (.ref 150), some (ax_i x1), y2, some (ax_i (V 550 x1)), some (ax_i (V 548 x1)), y5, y6, y7, y8] [ax_i 1, ax_i x1, .ref (B + 48)] rfl ?_
  refine ax_add (pc' := 65) ⟨_, rfl⟩ rfl ?_
  obtain ⟨o3, h⟩ := h
  refine ax_ild (n := 351) (pc' := 66) ⟨_, rfl⟩ (az_b 48 rfl) (by decide) o3 rfl ?_
  refine ax_mv 1 68 [some (.ref 150), some (ax_i x1), y2, some (ax_i (V 550 x1)), some (ax_i (V 548 x1)), y5, y6, y7, y8] [ax_i (V 548 x1), ax_i (V 548 (x1 + 1))] rfl ?_
  refine ax_sub (pc' := 69) ⟨_, rfl⟩ rfl ?_
  refine ax_mv 1 70 [some (.ref 150), some (ax_i x1), y2, some (ax_i (V 550 x1)), some (ax_i (V 548 x1)), y5, y6, y7, y8] [ax_i 1, ax_i ((V 548 (x1 + 1)) - (V 548 x1))] rfl ?_
  obtain ⟨o4, h⟩ := h
  refine ax_if2 (p1 := 88) (p2 := 73) ⟨_, rfl⟩ (by decide) rfl o4 (by decide) (fun hc => ?_) (fun hc => ?_)
  · have h := h.1 hc
    refine ax_mv 1 89 [some (.ref 150), some (ax_i x1), y2, some (ax_i (V 550 x1)), some (ax_i (V 548 x1)), y5, y6, y7, y8] [ax_i 0] rfl ?_
    refine ax_sti (i := 0) (k := 5) (n := 2) (pc' := 91) (L' := [some (.ref 150), some (ax_i x1), y2, some (ax_i (V 550 x1)), some (ax_i (V 548 x1)), some (ax_i 0), y6, y7, y8]) ⟨_, rfl⟩ rfl rfl rfl (Nat.le_of_ble_eq_true rfl) rfl rfl ?_
    refine ax_mv 1 93 [some (.ref 150), some (ax_i x1), y2, some (ax_i (V 550 x1)), some (ax_i (V 548 x1)), some (ax_i 0), y6, y7, y8] [ax_i (V 548 x1)] rfl ?_
    refine ax_sti (i := 0) (k := 6) (n := 2) (pc' := 95) (L' := [some (.ref 150), some (ax_i x1), y2, some (ax_i (V 550 x1)), some (ax_i (V 548 x1)), some (ax_i 0), some (ax_i (V 548 x1)), y7, y8]) ⟨_, rfl⟩ rfl rfl rfl (Nat.le_of_ble_eq_true rfl) rfl rfl ?_
    exact h
  · have h := h.2 (Int.not_le.mp hc)
    refine ax_mv 1 74 [some (.ref 150), some (ax_i x1), y2, some (ax_i (V 550 x1)), some (ax_i (V 548 x1)), y5, y6, y7, y8] [.ref 150] rfl ?_
    refine ax_gR (v := .ref (B + 16)) (pc' := 77) ⟨_, rfl⟩ fl_5_42 (az_e 0 rfl) rfl rfl ?_
    refine ax_mv 1 78 [some (.ref 150), some (ax_i x1), y2, some (ax_i (V 550 x1)), some (ax_i (V 548 x1)), y5, y6, y7, y8] [ax_i (V 550 x1), .ref (B + 16)] rfl ?_
    refine ax_callI (pc' := 81) ⟨_, rfl⟩ ml_5_192 (rest := []) rfl (fun ss hs => ⟨_, _, (az_b 16 rfl) ss hs⟩) (Nat.le_of_ble_eq_true rfl) rfl rfl h (fun r1 V1 hg1 hr1 h => ?_)
    refine ax_if (p1 := 88) (p2 := 84) ⟨_, rfl⟩ (by decide) rfl hr1 (fun hc => ?_) (fun hc => ?_)
    · have h := h.1 hc
      refine ax_mv 1 89 [some (.ref 150), some (ax_i x1), y2, some (ax_i (V 550 x1)), some (ax_i (V 548 x1)), y5, y6, y7, y8] [ax_i 0] rfl ?_
      refine ax_sti (i := 0) (k := 5) (n := 2) (pc' := 91) (L' := [some (.ref 150), some (ax_i x1), y2, some (ax_i (V 550 x1)), some (ax_i (V 548 x1)), some (ax_i 0), y6, y7, y8]) ⟨_, rfl⟩ rfl rfl rfl (Nat.le_of_ble_eq_true rfl) rfl rfl ?_
      refine ax_mv 1 93 [some (.ref 150), some (ax_i x1), y2, some (ax_i (V 550 x1)), some (ax_i (V 548 x1)), some (ax_i 0), y6, y7, y8] [ax_i (V 548 x1)] rfl ?_
      refine ax_sti (i := 0) (k := 6) (n := 2) (pc' := 95) (L' := [some (.ref 150), some (ax_i x1), y2, some (ax_i (V 550 x1)), some (ax_i (V 548 x1)), some (ax_i 0), some (ax_i (V 548 x1)), y7, y8]) ⟨_, rfl⟩ rfl rfl rfl (Nat.le_of_ble_eq_true rfl) rfl rfl ?_
      exact h
    · have h := h.2 hc
      refine ax_mv 2 89 [some (.ref 150), some (ax_i x1), y2, some (ax_i (V 550 x1)), some (ax_i (V 548 x1)), y5, y6, y7, y8] [ax_i 1] rfl ?_
      refine ax_sti (i := 0) (k := 5) (n := 2) (pc' := 91) (L' := [some (.ref 150), some (ax_i x1), y2, some (ax_i (V 550 x1)), some (ax_i (V 548 x1)), some (ax_i 1), y6, y7, y8]) ⟨_, rfl⟩ rfl rfl rfl (Nat.le_of_ble_eq_true rfl) rfl rfl ?_
      refine ax_mv 1 93 [some (.ref 150), some (ax_i x1), y2, some (ax_i (V 550 x1)), some (ax_i (V 548 x1)), some (ax_i 1), y6, y7, y8] [ax_i (V 548 x1)] rfl ?_
      refine ax_sti (i := 0) (k := 6) (n := 2) (pc' := 95) (L' := [some (.ref 150), some (ax_i x1), y2, some (ax_i (V 550 x1)), some (ax_i (V 548 x1)), some (ax_i 1), some (ax_i (V 548 x1)), y7, y8]) ⟨_, rfl⟩ rfl rfl rfl (Nat.le_of_ble_eq_true rfl) rfl rfl ?_
      exact h
set_option maxRecDepth 20000 in
theorem r_Machine_assign_95 {B : Nat} {d : Nat} {V : ax_V} {Φ : ax_V → Prop} {Θ : ax_V → Prop} {x1 : Int} {y2 : Option Value} {x3 : Int} {x4 : Int} {x5 : Int} {x6 : Int} {y7 : Option Value} {y8 : Option Value} (hg : ax_g V) (hx1 : ax_rg x1) (hy2 : ax_y y2) (hx3 : ax_rg x3) (hx4 : ax_rg x4) (hx5 : ax_rg x5) (hx6 : ax_rg x6) (hy7 : ax_y y7) (hy8 : ax_y y8) (h : (0 ≤ x1 + 1 ∧ x1 + 1 < 351) ∧ ((V 548 (x1 + 1) ≤ x6 → Φ V) ∧ (x6 < V 548 (x1 + 1) → (0 ≤ x6 ∧ x6 < 350) ∧ (0 ≤ x3 ∧ x3 < 700) ∧ ((x5 = 0 → k_Machine_assign_169 B d x1 y2 x3 x4 x5 x6 (V 554 x6) (V 151 x3) V Φ Θ) ∧ (¬ x5 = 0 → (0 ≤ x3 ∧ x3 < 700) ∧ (0 ≤ ((V 520 x3) * 26) + (x6 - x4) ∧ ((V 520 x3) * 26) + (x6 - x4) < 208) ∧ (0 ≤ V 507 (((V 520 x3) * 26) + (x6 - x4)) ∧ V 507 (((V 520 x3) * 26) + (x6 - x4)) < 208) ∧ k_Machine_assign_169 B d x1 y2 x3 x4 x5 x6 (V 554 x6) (V 152 (V 507 (((V 520 x3) * 26) + (x6 - x4)))) V Φ Θ))))) : k_Machine_assign_95 B d x1 y2 x3 x4 x5 x6 y7 y8 V Φ Θ := by
  refine ax_mv 2 98 [some (.ref 150), some (ax_i x1), y2, some (ax_i x3), some (ax_i x4), some (ax_i x5), some (ax_i x6), y7, y8] [.ref 150, ax_i x6] rfl ?_
  refine ax_gR (v := .ref (B + 47)) (pc' := 101) ⟨_, rfl⟩ fl_5_52 (az_e 0 rfl) rfl rfl ?_
  refine ax_gR (v := .ref (B + 48)) (pc' := 104) ⟨_, rfl⟩ fl_5_189 (az_b 47 rfl) rfl rfl ?_
  refine ax_mv 2 106 [some (.ref 150), some (ax_i x1), y2, some (ax_i x3), some (ax_i x4), some (ax_i x5), some (ax_i x6), y7, y8] [ax_i 1, ax_i x1, .ref (B + 48), ax_i x6] rfl ?_
  refine ax_add (pc' := 107) ⟨_, rfl⟩ rfl ?_
  obtain ⟨o5, h⟩ := h
  refine ax_ild (n := 351) (pc' := 108) ⟨_, rfl⟩ (az_b 48 rfl) (by decide) o5 rfl ?_
  refine ax_if2 (p1 := 219) (p2 := 111) ⟨_, rfl⟩ (by decide) rfl hx6 (hg _ _) (fun hc => ?_) (fun hc => ?_)
  · have h := h.1 hc
    exact ax_nret ⟨_, rfl⟩ rfl hg h
  · have h := h.2 (Int.not_le.mp hc)
    refine ax_mv 1 112 [some (.ref 150), some (ax_i x1), y2, some (ax_i x3), some (ax_i x4), some (ax_i x5), some (ax_i x6), y7, y8] [.ref 150] rfl ?_
    refine ax_gR (v := .ref (B + 47)) (pc' := 115) ⟨_, rfl⟩ fl_5_52 (az_e 0 rfl) rfl rfl ?_
    refine ax_gR (v := .ref (B + 54)) (pc' := 118) ⟨_, rfl⟩ fl_5_195 (az_b 47 rfl) rfl rfl ?_
    refine ax_mv 1 120 [some (.ref 150), some (ax_i x1), y2, some (ax_i x3), some (ax_i x4), some (ax_i x5), some (ax_i x6), y7, y8] [ax_i x6, .ref (B + 54)] rfl ?_
    obtain ⟨o6, h⟩ := h
    refine ax_ild (n := 350) (pc' := 121) ⟨_, rfl⟩ (az_b 54 rfl) (by decide) o6 rfl ?_
    refine ax_sti (i := 0) (k := 7) (n := 2) (pc' := 123) (L' := [some (.ref 150), some (ax_i x1), y2, some (ax_i x3), some (ax_i x4), some (ax_i x5), some (ax_i x6), some (ax_i (V 554 x6)), y8]) ⟨_, rfl⟩ rfl rfl rfl (Nat.le_of_ble_eq_true rfl) rfl rfl ?_
    refine ax_mv 1 124 [some (.ref 150), some (ax_i x1), y2, some (ax_i x3), some (ax_i x4), some (ax_i x5), some (ax_i x6), some (ax_i (V 554 x6)), y8] [.ref 150] rfl ?_
    refine ax_gR (v := .ref 151) (pc' := 127) ⟨_, rfl⟩ fl_5_9 (az_e 0 rfl) rfl rfl ?_
    refine ax_mv 1 128 [some (.ref 150), some (ax_i x1), y2, some (ax_i x3), some (ax_i x4), some (ax_i x5), some (ax_i x6), some (ax_i (V 554 x6)), y8] [ax_i x3, .ref 151] rfl ?_
    obtain ⟨o7, h⟩ := h
    refine ax_ild (n := 700) (pc' := 129) ⟨_, rfl⟩ (az_e 1 rfl) (by decide) o7 rfl ?_
    refine ax_sti (i := 0) (k := 8) (n := 2) (pc' := 131) (L' := [some (.ref 150), some (ax_i x1), y2, some (ax_i x3), some (ax_i x4), some (ax_i x5), some (ax_i x6), some (ax_i (V 554 x6)), some (ax_i (V 151 x3))]) ⟨_, rfl⟩ rfl rfl rfl (Nat.le_of_ble_eq_true rfl) rfl rfl ?_
    refine ax_mv 1 133 [some (.ref 150), some (ax_i x1), y2, some (ax_i x3), some (ax_i x4), some (ax_i x5), some (ax_i x6), some (ax_i (V 554 x6)), some (ax_i (V 151 x3))] [ax_i x5] rfl ?_
    refine ax_if (p1 := 169) (p2 := 136) ⟨_, rfl⟩ (by decide) rfl hx5 (fun hc => ?_) (fun hc => ?_)
    · have h := h.1 hc
      exact h
    · have h := h.2 hc
      refine ax_mv 1 137 [some (.ref 150), some (ax_i x1), y2, some (ax_i x3), some (ax_i x4), some (ax_i x5), some (ax_i x6), some (ax_i (V 554 x6)), some (ax_i (V 151 x3))] [.ref 150] rfl ?_
      refine ax_gR (v := .ref 152) (pc' := 140) ⟨_, rfl⟩ fl_5_15 (az_e 0 rfl) rfl rfl ?_
      refine ax_mv 1 141 [some (.ref 150), some (ax_i x1), y2, some (ax_i x3), some (ax_i x4), some (ax_i x5), some (ax_i x6), some (ax_i (V 554 x6)), some (ax_i (V 151 x3))] [.ref 150, .ref 152] rfl ?_
      refine ax_gR (v := .ref B) (pc' := 144) ⟨_, rfl⟩ fl_5_32 (az_e 0 rfl) rfl rfl ?_
      refine ax_gR (v := .ref (B + 7)) (pc' := 147) ⟨_, rfl⟩ fl_5_177 (az_b 0 rfl) rfl rfl ?_
      refine ax_mv 1 148 [some (.ref 150), some (ax_i x1), y2, some (ax_i x3), some (ax_i x4), some (ax_i x5), some (ax_i x6), some (ax_i (V 554 x6)), some (ax_i (V 151 x3))] [.ref 150, .ref (B + 7), .ref 152] rfl ?_
      refine ax_gR (v := .ref (B + 16)) (pc' := 151) ⟨_, rfl⟩ fl_5_42 (az_e 0 rfl) rfl rfl ?_
      refine ax_gR (v := .ref (B + 20)) (pc' := 154) ⟨_, rfl⟩ fl_5_143 (az_b 16 rfl) rfl rfl ?_
      refine ax_mv 1 155 [some (.ref 150), some (ax_i x1), y2, some (ax_i x3), some (ax_i x4), some (ax_i x5), some (ax_i x6), some (ax_i (V 554 x6)), some (ax_i (V 151 x3))] [ax_i x3, .ref (B + 20), .ref (B + 7), .ref 152] rfl ?_
      obtain ⟨o8, h⟩ := h
      refine ax_ild (n := 700) (pc' := 156) ⟨_, rfl⟩ (az_b 20 rfl) (by decide) o8 rfl ?_
      refine ax_bip (pc' := 158) ⟨_, rfl⟩ (by decide) rfl ?_
      refine ax_mul (pc' := 159) ⟨_, rfl⟩ rfl ?_
      refine ax_mv 2 163 [some (.ref 150), some (ax_i x1), y2, some (ax_i x3), some (ax_i x4), some (ax_i x5), some (ax_i x6), some (ax_i (V 554 x6)), some (ax_i (V 151 x3))] [ax_i x4, ax_i x6, ax_i ((V 520 x3) * 26), .ref (B + 7), .ref 152] rfl ?_
      refine ax_sub (pc' := 164) ⟨_, rfl⟩ rfl ?_
      refine ax_add (pc' := 165) ⟨_, rfl⟩ rfl ?_
      obtain ⟨o9, h⟩ := h
      refine ax_ild (n := 208) (pc' := 166) ⟨_, rfl⟩ (az_b 7 rfl) (by decide) o9 rfl ?_
      obtain ⟨o10, h⟩ := h
      refine ax_ild (n := 208) (pc' := 167) ⟨_, rfl⟩ (az_e 2 rfl) (by decide) o10 rfl ?_
      refine ax_sti (i := 0) (k := 8) (n := 2) (pc' := 169) (L' := [some (.ref 150), some (ax_i x1), y2, some (ax_i x3), some (ax_i x4), some (ax_i x5), some (ax_i x6), some (ax_i (V 554 x6)), some (ax_i (V 152 (V 507 (((V 520 x3) * 26) + (x6 - x4)))))]) ⟨_, rfl⟩ rfl rfl rfl (Nat.le_of_ble_eq_true rfl) rfl rfl ?_
      exact h
set_option maxRecDepth 20000 in
theorem r_Machine_assign_169 {B : Nat} {d : Nat} {V : ax_V} {Φ : ax_V → Prop} {Θ : ax_V → Prop} {x1 : Int} {y2 : Option Value} {x3 : Int} {x4 : Int} {x5 : Int} {x6 : Int} {x7 : Int} {x8 : Int} (hg : ax_g V) (hx1 : ax_rg x1) (hy2 : ax_y y2) (hx3 : ax_rg x3) (hx4 : ax_rg x4) (hx5 : ax_rg x5) (hx6 : ax_rg x6) (hx7 : ax_rg x7) (hx8 : ax_rg x8) (h : (0 ≤ x7 ∧ x7 < 208) ∧ ax_I (az_W B (az_EM B)) d q_Machine_isPresent [.ref 150, ax_i (V 536 x7)] V (fun r1 V1 => (0 ≤ x7 ∧ x7 < 208) ∧ (r1 = 0 ∨ r1 = 1) ∧ (∀ V2, V2 = ax_u V1 153 x7 r1 → (0 ≤ x7 ∧ x7 < 208) ∧ ((V2 153 x7 = 0 → (0 ≤ x7 ∧ x7 < 208) ∧ (∀ V3, V3 = ax_u V2 152 x7 0 → k_Machine_assign_95 B d x1 y2 x3 x4 x5 (x6 + 1) (some (ax_i x7)) (some (ax_i x8)) V3 Φ Θ)) ∧ (¬ V2 153 x7 = 0 → (0 ≤ x7 ∧ x7 < 208) ∧ (∀ V4, V4 = ax_u V2 152 x7 x8 → k_Machine_assign_95 B d x1 y2 x3 x4 x5 (x6 + 1) (some (ax_i x7)) (some (ax_i x8)) V4 Φ Θ))))) Θ) : k_Machine_assign_169 B d x1 y2 x3 x4 x5 x6 x7 x8 V Φ Θ := by
  refine ax_mv 1 170 [some (.ref 150), some (ax_i x1), y2, some (ax_i x3), some (ax_i x4), some (ax_i x5), some (ax_i x6), some (ax_i x7), some (ax_i x8)] [.ref 150] rfl ?_
  refine ax_gR (v := .ref 153) (pc' := 173) ⟨_, rfl⟩ fl_5_18 (az_e 0 rfl) rfl rfl ?_
  refine ax_mv 3 177 [some (.ref 150), some (ax_i x1), y2, some (ax_i x3), some (ax_i x4), some (ax_i x5), some (ax_i x6), some (ax_i x7), some (ax_i x8)] [.ref 150, .ref 150, ax_i x7, .ref 153] rfl ?_
  refine ax_gR (v := .ref (B + 32)) (pc' := 180) ⟨_, rfl⟩ fl_5_47 (az_e 0 rfl) rfl rfl ?_
  refine ax_gR (v := .ref (B + 36)) (pc' := 183) ⟨_, rfl⟩ fl_5_198 (az_b 32 rfl) rfl rfl ?_
  refine ax_mv 1 185 [some (.ref 150), some (ax_i x1), y2, some (ax_i x3), some (ax_i x4), some (ax_i x5), some (ax_i x6), some (ax_i x7), some (ax_i x8)] [ax_i x7, .ref (B + 36), .ref 150, ax_i x7, .ref 153] rfl ?_
  obtain ⟨o11, h⟩ := h
  refine ax_ild (n := 208) (pc' := 186) ⟨_, rfl⟩ (az_b 36 rfl) (by decide) o11 rfl ?_
  refine ax_callI (pc' := 189) ⟨_, rfl⟩ ml_5_134 (rest := [ax_i x7, .ref 153]) rfl (fun ss hs => ⟨_, _, (az_e 0 rfl) ss hs⟩) (Nat.le_of_ble_eq_true rfl) rfl rfl h (fun r1 V1 hg1 hr1 h => ?_)
  obtain ⟨o12, o13, h⟩ := h
  obtain ⟨V2, eV2⟩ : ∃ W9 : ax_V, W9 = ax_u V1 153 x7 r1 := ⟨_, rfl⟩
  have h := h V2 eV2
  have hg2 : ax_g V2 := eV2 ▸ ax_u_g hg1 hr1
  refine ax_bst (n := 208) (pc' := 190) ⟨_, rfl⟩ az_ok (az_e 3 rfl) (by decide) o12 o13 eV2 rfl ?_
  refine ax_mv 1 191 [some (.ref 150), some (ax_i x1), y2, some (ax_i x3), some (ax_i x4), some (ax_i x5), some (ax_i x6), some (ax_i x7), some (ax_i x8)] [.ref 150] rfl ?_
  refine ax_gR (v := .ref 152) (pc' := 194) ⟨_, rfl⟩ fl_5_15 (az_e 0 rfl) rfl rfl ?_
  refine ax_mv 2 197 [some (.ref 150), some (ax_i x1), y2, some (ax_i x3), some (ax_i x4), some (ax_i x5), some (ax_i x6), some (ax_i x7), some (ax_i x8)] [.ref 150, ax_i x7, .ref 152] rfl ?_
  refine ax_gR (v := .ref 153) (pc' := 200) ⟨_, rfl⟩ fl_5_18 (az_e 0 rfl) rfl rfl ?_
  refine ax_mv 1 202 [some (.ref 150), some (ax_i x1), y2, some (ax_i x3), some (ax_i x4), some (ax_i x5), some (ax_i x6), some (ax_i x7), some (ax_i x8)] [ax_i x7, .ref 153, ax_i x7, .ref 152] rfl ?_
  obtain ⟨o14, h⟩ := h
  refine ax_bld (n := 208) (pc' := 203) ⟨_, rfl⟩ (az_e 3 rfl) (by decide) o14 rfl ?_
  refine ax_if (p1 := 211) (p2 := 206) ⟨_, rfl⟩ (by decide) rfl (hg2 _ _) (fun hc => ?_) (fun hc => ?_)
  · have h := h.1 hc
    refine ax_mv 1 212 [some (.ref 150), some (ax_i x1), y2, some (ax_i x3), some (ax_i x4), some (ax_i x5), some (ax_i x6), some (ax_i x7), some (ax_i x8)] [ax_i 0, ax_i x7, .ref 152] rfl ?_
    obtain ⟨o15, h⟩ := h
    obtain ⟨V3, eV3⟩ : ∃ W9 : ax_V, W9 = ax_u V2 152 x7 0 := ⟨_, rfl⟩
    have h := h V3 eV3
    have hg3 : ax_g V3 := eV3 ▸ ax_u_g hg2 (by decide)
    refine ax_ist (n := 208) (pc' := 213) ⟨_, rfl⟩ az_ok (az_e 2 rfl) (by decide) o15 eV3 rfl ?_
    refine ax_inc (x := x6) (pc' := 216) (L' := [some (.ref 150), some (ax_i x1), y2, some (ax_i x3), some (ax_i x4), some (ax_i x5), some (ax_i (x6 + 1)), some (ax_i x7), some (ax_i x8)]) ⟨_, rfl⟩ rfl rfl rfl rfl ?_
    refine ax_mv 1 95 [some (.ref 150), some (ax_i x1), y2, some (ax_i x3), some (ax_i x4), some (ax_i x5), some (ax_i (x6 + 1)), some (ax_i x7), some (ax_i x8)] [] rfl ?_
    exact h
  · have h := h.2 hc
    refine ax_mv 2 212 [some (.ref 150), some (ax_i x1), y2, some (ax_i x3), some (ax_i x4), some (ax_i x5), some (ax_i x6), some (ax_i x7), some (ax_i x8)] [ax_i x8, ax_i x7, .ref 152] rfl ?_
    obtain ⟨o16, h⟩ := h
    obtain ⟨V4, eV4⟩ : ∃ W9 : ax_V, W9 = ax_u V2 152 x7 x8 := ⟨_, rfl⟩
    have h := h V4 eV4
    have hg4 : ax_g V4 := eV4 ▸ ax_u_g hg2 hx8
    refine ax_ist (n := 208) (pc' := 213) ⟨_, rfl⟩ az_ok (az_e 2 rfl) (by decide) o16 eV4 rfl ?_
    refine ax_inc (x := x6) (pc' := 216) (L' := [some (.ref 150), some (ax_i x1), y2, some (ax_i x3), some (ax_i x4), some (ax_i x5), some (ax_i (x6 + 1)), some (ax_i x7), some (ax_i x8)]) ⟨_, rfl⟩ rfl rfl rfl rfl ?_
    refine ax_mv 1 95 [some (.ref 150), some (ax_i x1), y2, some (ax_i x3), some (ax_i x4), some (ax_i x5), some (ax_i (x6 + 1)), some (ax_i x7), some (ax_i x8)] [] rfl ?_
    exact h
set_option maxRecDepth 20000 in
theorem r_Machine_assign {B : Nat} {d : Nat} {V : ax_V} {Φ : ax_V → Prop} {Θ : ax_V → Prop} {x1 : Int} (hg : ax_g V) (hx1 : ax_rg x1) (h : (0 ≤ x1 ∧ x1 < 350) ∧ ((V 551 x1 = -1 → k_Machine_assign_34 B d x1 (some (ax_i (V 551 x1))) none none none none none none V Φ Θ) ∧ (¬ V 551 x1 = -1 → (0 ≤ V 551 x1 ∧ V 551 x1 < 350) ∧ (0 ≤ V 563 (V 551 x1) ∧ V 563 (V 551 x1) < 350) ∧ ((V 154 (V 563 (V 551 x1)) = V 551 x1 → k_Machine_assign_34 B d x1 (some (ax_i (V 551 x1))) none none none none none none V Φ Θ) ∧ (¬ V 154 (V 563 (V 551 x1)) = V 551 x1 → Φ V))))) : ax_N (az_W B (az_EM B)) (d + 1) q_Machine_assign [.ref 150, ax_i x1] V Φ Θ := by
  refine ax_T.of (M := m_Machine_assign) rfl (Nat.le_of_ble_eq_true rfl) ?_
  refine ax_mv 0 0 [some (.ref 150), some (ax_i x1), none, none, none, none, none, none, none] [] rfl ?_
  refine ax_mv 1 1 [some (.ref 150), some (ax_i x1), none, none, none, none, none, none, none] [.ref 150] rfl ?_
  refine ax_gR (v := .ref (B + 47)) (pc' := 4) ⟨_, rfl⟩ fl_5_52 (az_e 0 rfl) rfl rfl ?_
  refine ax_gR (v := .ref (B + 51)) (pc' := 7) ⟨_, rfl⟩ fl_5_183 (az_b 47 rfl) rfl rfl ?_
  refine ax_mv 1 8 [some (.ref 150), some (ax_i x1), none, none, none, none, none, none, none] [ax_i x1, .ref (B + 51)] rfl ?_
  obtain ⟨o17, h⟩ := h
  refine ax_ild (n := 350) (pc' := 9) ⟨_, rfl⟩ (az_b 51 rfl) (by decide) o17 rfl ?_
  refine ax_sti (i := 0) (k := 2) (n := 1) (pc' := 10) (L' := [some (.ref 150), some (ax_i x1), some (ax_i (V 551 x1)), none, none, none, none, none, none]) ⟨_, rfl⟩ rfl rfl rfl (Nat.le_of_ble_eq_true rfl) rfl rfl ?_
  refine ax_mv 2 12 [some (.ref 150), some (ax_i x1), some (ax_i (V 551 x1)), none, none, none, none, none, none] [ax_i (-1), ax_i (V 551 x1)] rfl ?_
  refine ax_if2 (p1 := 34) (p2 := 15) ⟨_, rfl⟩ (by decide) rfl (hg _ _) (by decide) (fun hc => ?_) (fun hc => ?_)
  · have h := h.1 hc
    exact h
  · have h := h.2 hc
    refine ax_mv 1 16 [some (.ref 150), some (ax_i x1), some (ax_i (V 551 x1)), none, none, none, none, none, none] [.ref 150] rfl ?_
    refine ax_gR (v := .ref 154) (pc' := 19) ⟨_, rfl⟩ fl_5_22 (az_e 0 rfl) rfl rfl ?_
    refine ax_mv 1 20 [some (.ref 150), some (ax_i x1), some (ax_i (V 551 x1)), none, none, none, none, none, none] [.ref 150, .ref 154] rfl ?_
    refine ax_gR (v := .ref (B + 56)) (pc' := 23) ⟨_, rfl⟩ fl_5_57 (az_e 0 rfl) rfl rfl ?_
    refine ax_gR (v := .ref (B + 63)) (pc' := 26) ⟨_, rfl⟩ fl_5_128 (az_b 56 rfl) rfl rfl ?_
    refine ax_mv 1 27 [some (.ref 150), some (ax_i x1), some (ax_i (V 551 x1)), none, none, none, none, none, none] [ax_i (V 551 x1), .ref (B + 63), .ref 154] rfl ?_
    obtain ⟨o18, h⟩ := h
    refine ax_ild (n := 350) (pc' := 28) ⟨_, rfl⟩ (az_b 63 rfl) (by decide) o18 rfl ?_
    obtain ⟨o19, h⟩ := h
    refine ax_ild (n := 350) (pc' := 29) ⟨_, rfl⟩ (az_e 4 rfl) (by decide) o19 rfl ?_
    refine ax_mv 1 30 [some (.ref 150), some (ax_i x1), some (ax_i (V 551 x1)), none, none, none, none, none, none] [ax_i (V 551 x1), ax_i (V 154 (V 563 (V 551 x1)))] rfl ?_
    refine ax_if2 (p1 := 34) (p2 := 33) ⟨_, rfl⟩ (by decide) rfl (hg _ _) (hg _ _) (fun hc => ?_) (fun hc => ?_)
    · have h := h.1 hc
      exact h
    · have h := h.2 hc
      exact ax_nret ⟨_, rfl⟩ rfl hg h
abbrev k_Machine_goOver_91 (B : Nat) (d : Nat) (x1 : Int) (x2 : Int) (y3 : Option Value) (x4 : Int) (y5 : Option Value) (x6 : Int) (V : ax_V) (Φ : ax_V → Prop) (Θ : ax_V → Prop) : Prop := ax_R (az_W B (az_EM B)) ax_t d m_Machine_goOver 91 [some (.ref 150), some (ax_i x1), some (ax_i x2), y3, some (ax_i x4), y5, some (ax_i x6)] [] V (ax_Nr Φ) Θ
set_option maxRecDepth 20000 in
theorem r_Machine_goOver_91 {B : Nat} {d : Nat} {V : ax_V} {Φ : ax_V → Prop} {Θ : ax_V → Prop} {x1 : Int} {x2 : Int} {y3 : Option Value} {x4 : Int} {y5 : Option Value} {x6 : Int} (hg : ax_g V) (hx1 : ax_rg x1) (hx2 : ax_rg x2) (hy3 : ax_y y3) (hx4 : ax_rg x4) (hy5 : ax_y y5) (hx6 : ax_rg x6) (h : ((x2 = 0 → (0 ≤ x1 ∧ x1 < 350) ∧ (0 ≤ x1 ∧ x1 < 351) ∧ (0 ≤ x4 + (V 560 x1) ∧ x4 + (V 560 x1) < 300) ∧ ax_rg (x6 - (V 558 x1)) ∧ (∀ V1, V1 = ax_u V 155 (x4 + (V 560 x1)) (x6 - (V 558 x1)) → Φ V1)) ∧ (¬ x2 = 0 → (0 ≤ x1 ∧ x1 < 350) ∧ (∀ V2, V2 = ax_u V 154 x1 x6 → Φ V2)))) : k_Machine_goOver_91 B d x1 x2 y3 x4 y5 x6 V Φ Θ := by
  refine ax_mv 1 92 [some (.ref 150), some (ax_i x1), some (ax_i x2), y3, some (ax_i x4), y5, some (ax_i x6)] [ax_i x2] rfl ?_
  refine ax_if (p1 := 106) (p2 := 95) ⟨_, rfl⟩ (by decide) rfl hx2 (fun hc => ?_) (fun hc => ?_)
  · have h := h.1 hc
    refine ax_mv 1 107 [some (.ref 150), some (ax_i x1), some (ax_i x2), y3, some (ax_i x4), y5, some (ax_i x6)] [.ref 150] rfl ?_
    refine ax_gR (v := .ref 155) (pc' := 110) ⟨_, rfl⟩ fl_5_25 (az_e 0 rfl) rfl rfl ?_
    refine ax_mv 2 113 [some (.ref 150), some (ax_i x1), some (ax_i x2), y3, some (ax_i x4), y5, some (ax_i x6)] [.ref 150, ax_i x4, .ref 155] rfl ?_
    refine ax_gR (v := .ref (B + 56)) (pc' := 116) ⟨_, rfl⟩ fl_5_57 (az_e 0 rfl) rfl rfl ?_
    refine ax_gR (v := .ref (B + 60)) (pc' := 119) ⟨_, rfl⟩ fl_5_89 (az_b 56 rfl) rfl rfl ?_
    refine ax_mv 1 120 [some (.ref 150), some (ax_i x1), some (ax_i x2), y3, some (ax_i x4), y5, some (ax_i x6)] [ax_i x1, .ref (B + 60), ax_i x4, .ref 155] rfl ?_
    obtain ⟨o1, h⟩ := h
    refine ax_ild (n := 350) (pc' := 121) ⟨_, rfl⟩ (az_b 60 rfl) (by decide) o1 rfl ?_
    refine ax_add (pc' := 122) ⟨_, rfl⟩ rfl ?_
    refine ax_mv 2 125 [some (.ref 150), some (ax_i x1), some (ax_i x2), y3, some (ax_i x4), y5, some (ax_i x6)] [.ref 150, ax_i x6, ax_i (x4 + (V 560 x1)), .ref 155] rfl ?_
    refine ax_gR (v := .ref (B + 56)) (pc' := 128) ⟨_, rfl⟩ fl_5_57 (az_e 0 rfl) rfl rfl ?_
    refine ax_gR (v := .ref (B + 58)) (pc' := 131) ⟨_, rfl⟩ fl_5_84 (az_b 56 rfl) rfl rfl ?_
    refine ax_mv 1 132 [some (.ref 150), some (ax_i x1), some (ax_i x2), y3, some (ax_i x4), y5, some (ax_i x6)] [ax_i x1, .ref (B + 58), ax_i x6, ax_i (x4 + (V 560 x1)), .ref 155] rfl ?_
    obtain ⟨o2, h⟩ := h
    refine ax_ild (n := 351) (pc' := 133) ⟨_, rfl⟩ (az_b 58 rfl) (by decide) o2 rfl ?_
    refine ax_sub (pc' := 134) ⟨_, rfl⟩ rfl ?_
    obtain ⟨o3, o4, h⟩ := h
    obtain ⟨V1, eV1⟩ : ∃ W9 : ax_V, W9 = ax_u V 155 (x4 + (V 560 x1)) (x6 - (V 558 x1)) := ⟨_, rfl⟩
    have h := h V1 eV1
    have hg1 : ax_g V1 := eV1 ▸ ax_u_g hg o4
    refine ax_ist (n := 300) (pc' := 135) ⟨_, rfl⟩ az_ok (az_e 5 rfl) (by decide) o3 eV1 rfl ?_
    exact ax_nret ⟨_, rfl⟩ rfl hg1 h
  · have h := h.2 hc
    refine ax_mv 1 96 [some (.ref 150), some (ax_i x1), some (ax_i x2), y3, some (ax_i x4), y5, some (ax_i x6)] [.ref 150] rfl ?_
    refine ax_gR (v := .ref 154) (pc' := 99) ⟨_, rfl⟩ fl_5_22 (az_e 0 rfl) rfl rfl ?_
    refine ax_mv 2 102 [some (.ref 150), some (ax_i x1), some (ax_i x2), y3, some (ax_i x4), y5, some (ax_i x6)] [ax_i x6, ax_i x1, .ref 154] rfl ?_
    obtain ⟨o5, h⟩ := h
    obtain ⟨V2, eV2⟩ : ∃ W9 : ax_V, W9 = ax_u V 154 x1 x6 := ⟨_, rfl⟩
    have h := h V2 eV2
    have hg2 : ax_g V2 := eV2 ▸ ax_u_g hg hx6
    refine ax_ist (n := 350) (pc' := 103) ⟨_, rfl⟩ az_ok (az_e 4 rfl) (by decide) o5 eV2 rfl ?_
    refine ax_mv 1 135 [some (.ref 150), some (ax_i x1), some (ax_i x2), y3, some (ax_i x4), y5, some (ax_i x6)] [] rfl ?_
    exact ax_nret ⟨_, rfl⟩ rfl hg2 h
set_option maxRecDepth 20000 in
theorem r_Machine_goOver {B : Nat} {d : Nat} {V : ax_V} {Φ : ax_V → Prop} {Θ : ax_V → Prop} {x1 : Int} {x2 : Int} {x3 : Int} {x4 : Int} (hg : ax_g V) (hx1 : ax_rg x1) (hx2 : ax_rg x2) (hx3 : ax_rg x3) (hx4 : ax_rg x4) (h : ax_I (az_W B (az_EM B)) d q_Machine_firstMove [.ref 150, ax_i x1, ax_i x2] V (fun r1 V1 => ((r1 = -1 → (0 ≤ x1 ∧ x1 < 350) ∧ ((r1 = -1 → k_Machine_goOver_91 B d x1 x2 (some (ax_i x3)) x4 (some (ax_i r1)) (V1 154 x1) V1 Φ Θ) ∧ (¬ r1 = -1 → (0 ≤ r1 ∧ r1 < 350) ∧ ((V1 569 r1 = 0 → k_Machine_goOver_91 B d x1 x2 (some (ax_i x3)) x4 (some (ax_i r1)) (V1 154 x1) V1 Φ Θ) ∧ (¬ V1 569 r1 = 0 → (0 ≤ V1 154 x1 ∧ V1 154 x1 < 350) ∧ (0 ≤ V1 154 x1 ∧ V1 154 x1 < 350) ∧ ax_N (az_W B (az_EM B)) d q_Machine_renew [.ref 150, ax_i x3, ax_i (V1 565 (V1 154 x1)), ax_i (V1 566 (V1 154 x1)), ax_i x4] V1 (fun V3 => k_Machine_goOver_91 B d x1 x2 (some (ax_i x3)) x4 (some (ax_i r1)) (V1 154 x1) V3 Φ Θ) Θ))))) ∧ (¬ r1 = -1 → (0 ≤ x1 ∧ x1 < 351) ∧ (0 ≤ r1 ∧ r1 < 350) ∧ ((r1 = -1 → k_Machine_goOver_91 B d x1 x2 (some (ax_i x3)) x4 (some (ax_i r1)) ((V1 558 x1) + (V1 572 r1)) V1 Φ Θ) ∧ (¬ r1 = -1 → (0 ≤ r1 ∧ r1 < 350) ∧ ((V1 569 r1 = 0 → k_Machine_goOver_91 B d x1 x2 (some (ax_i x3)) x4 (some (ax_i r1)) ((V1 558 x1) + (V1 572 r1)) V1 Φ Θ) ∧ (¬ V1 569 r1 = 0 → (0 ≤ (V1 558 x1) + (V1 572 r1) ∧ (V1 558 x1) + (V1 572 r1) < 350) ∧ (0 ≤ (V1 558 x1) + (V1 572 r1) ∧ (V1 558 x1) + (V1 572 r1) < 350) ∧ ax_N (az_W B (az_EM B)) d q_Machine_renew [.ref 150, ax_i x3, ax_i (V1 565 ((V1 558 x1) + (V1 572 r1))), ax_i (V1 566 ((V1 558 x1) + (V1 572 r1))), ax_i x4] V1 (fun V2 => k_Machine_goOver_91 B d x1 x2 (some (ax_i x3)) x4 (some (ax_i r1)) ((V1 558 x1) + (V1 572 r1)) V2 Φ Θ) Θ))))))) Θ) : ax_N (az_W B (az_EM B)) (d + 1) q_Machine_goOver [.ref 150, ax_i x1, ax_i x2, ax_i x3, ax_i x4] V Φ Θ := by
  refine ax_T.of (M := m_Machine_goOver) rfl (Nat.le_of_ble_eq_true rfl) ?_
  refine ax_mv 0 0 [some (.ref 150), some (ax_i x1), some (ax_i x2), some (ax_i x3), some (ax_i x4), none, none] [] rfl ?_
  refine ax_mv 3 3 [some (.ref 150), some (ax_i x1), some (ax_i x2), some (ax_i x3), some (ax_i x4), none, none] [ax_i x2, ax_i x1, .ref 150] rfl ?_
  refine ax_callI (pc' := 6) ⟨_, rfl⟩ ml_5_211 (rest := []) rfl (fun ss hs => ⟨_, _, (az_e 0 rfl) ss hs⟩) (Nat.le_of_ble_eq_true rfl) rfl rfl h (fun r1 V1 hg1 hr1 h => ?_)
  refine ax_sti (i := 0) (k := 5) (n := 2) (pc' := 8) (L' := [some (.ref 150), some (ax_i x1), some (ax_i x2), some (ax_i x3), some (ax_i x4), some (ax_i r1), none]) ⟨_, rfl⟩ rfl rfl rfl (Nat.le_of_ble_eq_true rfl) rfl rfl ?_
  refine ax_mv 2 11 [some (.ref 150), some (ax_i x1), some (ax_i x2), some (ax_i x3), some (ax_i x4), some (ax_i r1), none] [ax_i (-1), ax_i r1] rfl ?_
  refine ax_if2 (p1 := 23) (p2 := 14) ⟨_, rfl⟩ (by decide) rfl hr1 (by decide) (fun hc => ?_) (fun hc => ?_)
  · have h := h.2 hc
    refine ax_mv 1 24 [some (.ref 150), some (ax_i x1), some (ax_i x2), some (ax_i x3), some (ax_i x4), some (ax_i r1), none] [.ref 150] rfl ?_
    refine ax_gR (v := .ref (B + 56)) (pc' := 27) ⟨_, rfl⟩ fl_5_57 (az_e 0 rfl) rfl rfl ?_
    refine ax_gR (v := .ref (B + 58)) (pc' := 30) ⟨_, rfl⟩ fl_5_84 (az_b 56 rfl) rfl rfl ?_
    refine ax_mv 1 31 [some (.ref 150), some (ax_i x1), some (ax_i x2), some (ax_i x3), some (ax_i x4), some (ax_i r1), none] [ax_i x1, .ref (B + 58)] rfl ?_
    obtain ⟨o6, h⟩ := h
    refine ax_ild (n := 351) (pc' := 32) ⟨_, rfl⟩ (az_b 58 rfl) (by decide) o6 rfl ?_
    refine ax_mv 1 33 [some (.ref 150), some (ax_i x1), some (ax_i x2), some (ax_i x3), some (ax_i x4), some (ax_i r1), none] [.ref 150, ax_i (V1 558 x1)] rfl ?_
    refine ax_gR (v := .ref (B + 56)) (pc' := 36) ⟨_, rfl⟩ fl_5_57 (az_e 0 rfl) rfl rfl ?_
    refine ax_gR (v := .ref (B + 72)) (pc' := 39) ⟨_, rfl⟩ fl_5_215 (az_b 56 rfl) rfl rfl ?_
    refine ax_mv 1 41 [some (.ref 150), some (ax_i x1), some (ax_i x2), some (ax_i x3), some (ax_i x4), some (ax_i r1), none] [ax_i r1, .ref (B + 72), ax_i (V1 558 x1)] rfl ?_
    obtain ⟨o7, h⟩ := h
    refine ax_ild (n := 350) (pc' := 42) ⟨_, rfl⟩ (az_b 72 rfl) (by decide) o7 rfl ?_
    refine ax_add (pc' := 43) ⟨_, rfl⟩ rfl ?_
    refine ax_sti (i := 0) (k := 6) (n := 2) (pc' := 45) (L' := [some (.ref 150), some (ax_i x1), some (ax_i x2), some (ax_i x3), some (ax_i x4), some (ax_i r1), some (ax_i ((V1 558 x1) + (V1 572 r1)))]) ⟨_, rfl⟩ rfl rfl rfl (Nat.le_of_ble_eq_true rfl) rfl rfl ?_
    refine ax_mv 2 48 [some (.ref 150), some (ax_i x1), some (ax_i x2), some (ax_i x3), some (ax_i x4), some (ax_i r1), some (ax_i ((V1 558 x1) + (V1 572 r1)))] [ax_i (-1), ax_i r1] rfl ?_
    refine ax_if2 (p1 := 91) (p2 := 51) ⟨_, rfl⟩ (by decide) rfl hr1 (by decide) (fun hc => ?_) (fun hc => ?_)
    · have h := h.1 hc
      exact h
    · have h := h.2 hc
      refine ax_mv 1 52 [some (.ref 150), some (ax_i x1), some (ax_i x2), some (ax_i x3), some (ax_i x4), some (ax_i r1), some (ax_i ((V1 558 x1) + (V1 572 r1)))] [.ref 150] rfl ?_
      refine ax_gR (v := .ref (B + 56)) (pc' := 55) ⟨_, rfl⟩ fl_5_57 (az_e 0 rfl) rfl rfl ?_
      refine ax_gR (v := .ref (B + 69)) (pc' := 58) ⟨_, rfl⟩ fl_5_218 (az_b 56 rfl) rfl rfl ?_
      refine ax_mv 1 60 [some (.ref 150), some (ax_i x1), some (ax_i x2), some (ax_i x3), some (ax_i x4), some (ax_i r1), some (ax_i ((V1 558 x1) + (V1 572 r1)))] [ax_i r1, .ref (B + 69)] rfl ?_
      obtain ⟨o8, h⟩ := h
      refine ax_bld (n := 350) (pc' := 61) ⟨_, rfl⟩ (az_b 69 rfl) (by decide) o8 rfl ?_
      refine ax_if (p1 := 91) (p2 := 64) ⟨_, rfl⟩ (by decide) rfl (hg1 _ _) (fun hc => ?_) (fun hc => ?_)
      · have h := h.1 hc
        exact h
      · have h := h.2 hc
        refine ax_mv 3 67 [some (.ref 150), some (ax_i x1), some (ax_i x2), some (ax_i x3), some (ax_i x4), some (ax_i r1), some (ax_i ((V1 558 x1) + (V1 572 r1)))] [.ref 150, ax_i x3, .ref 150] rfl ?_
        refine ax_gR (v := .ref (B + 56)) (pc' := 70) ⟨_, rfl⟩ fl_5_57 (az_e 0 rfl) rfl rfl ?_
        refine ax_gR (v := .ref (B + 65)) (pc' := 73) ⟨_, rfl⟩ fl_5_221 (az_b 56 rfl) rfl rfl ?_
        refine ax_mv 1 75 [some (.ref 150), some (ax_i x1), some (ax_i x2), some (ax_i x3), some (ax_i x4), some (ax_i r1), some (ax_i ((V1 558 x1) + (V1 572 r1)))] [ax_i ((V1 558 x1) + (V1 572 r1)), .ref (B + 65), ax_i x3, .ref 150] rfl ?_
        obtain ⟨o9, h⟩ := h
        refine ax_ild (n := 350) (pc' := 76) ⟨_, rfl⟩ (az_b 65 rfl) (by decide) o9 rfl ?_
        refine ax_mv 1 77 [some (.ref 150), some (ax_i x1), some (ax_i x2), some (ax_i x3), some (ax_i x4), some (ax_i r1), some (ax_i ((V1 558 x1) + (V1 572 r1)))] [.ref 150, ax_i (V1 565 ((V1 558 x1) + (V1 572 r1))), ax_i x3, .ref 150] rfl ?_
        refine ax_gR (v := .ref (B + 56)) (pc' := 80) ⟨_, rfl⟩ fl_5_57 (az_e 0 rfl) rfl rfl ?_
        refine ax_gR (v := .ref (B + 66)) (pc' := 83) ⟨_, rfl⟩ fl_5_224 (az_b 56 rfl) rfl rfl ?_
        refine ax_mv 1 85 [some (.ref 150), some (ax_i x1), some (ax_i x2), some (ax_i x3), some (ax_i x4), some (ax_i r1), some (ax_i ((V1 558 x1) + (V1 572 r1)))] [ax_i ((V1 558 x1) + (V1 572 r1)), .ref (B + 66), ax_i (V1 565 ((V1 558 x1) + (V1 572 r1))), ax_i x3, .ref 150] rfl ?_
        obtain ⟨o10, h⟩ := h
        refine ax_ild (n := 350) (pc' := 86) ⟨_, rfl⟩ (az_b 66 rfl) (by decide) o10 rfl ?_
        refine ax_mv 1 88 [some (.ref 150), some (ax_i x1), some (ax_i x2), some (ax_i x3), some (ax_i x4), some (ax_i r1), some (ax_i ((V1 558 x1) + (V1 572 r1)))] [ax_i x4, ax_i (V1 566 ((V1 558 x1) + (V1 572 r1))), ax_i (V1 565 ((V1 558 x1) + (V1 572 r1))), ax_i x3, .ref 150] rfl ?_
        refine ax_callN (pc' := 91) ⟨_, rfl⟩ ml_5_173 (rest := []) rfl (fun ss hs => ⟨_, _, (az_e 0 rfl) ss hs⟩) (Nat.le_of_ble_eq_true rfl) rfl rfl h (fun V2 hg2 h => ?_)
        exact h
  · have h := h.1 (Classical.not_not.mp hc)
    refine ax_mv 1 15 [some (.ref 150), some (ax_i x1), some (ax_i x2), some (ax_i x3), some (ax_i x4), some (ax_i r1), none] [.ref 150] rfl ?_
    refine ax_gR (v := .ref 154) (pc' := 18) ⟨_, rfl⟩ fl_5_22 (az_e 0 rfl) rfl rfl ?_
    refine ax_mv 1 19 [some (.ref 150), some (ax_i x1), some (ax_i x2), some (ax_i x3), some (ax_i x4), some (ax_i r1), none] [ax_i x1, .ref 154] rfl ?_
    obtain ⟨o11, h⟩ := h
    refine ax_ild (n := 350) (pc' := 20) ⟨_, rfl⟩ (az_e 4 rfl) (by decide) o11 rfl ?_
    refine ax_mv 1 43 [some (.ref 150), some (ax_i x1), some (ax_i x2), some (ax_i x3), some (ax_i x4), some (ax_i r1), none] [ax_i (V1 154 x1)] rfl ?_
    refine ax_sti (i := 0) (k := 6) (n := 2) (pc' := 45) (L' := [some (.ref 150), some (ax_i x1), some (ax_i x2), some (ax_i x3), some (ax_i x4), some (ax_i r1), some (ax_i (V1 154 x1))]) ⟨_, rfl⟩ rfl rfl rfl (Nat.le_of_ble_eq_true rfl) rfl rfl ?_
    refine ax_mv 2 48 [some (.ref 150), some (ax_i x1), some (ax_i x2), some (ax_i x3), some (ax_i x4), some (ax_i r1), some (ax_i (V1 154 x1))] [ax_i (-1), ax_i r1] rfl ?_
    refine ax_if2 (p1 := 91) (p2 := 51) ⟨_, rfl⟩ (by decide) rfl hr1 (by decide) (fun hc => ?_) (fun hc => ?_)
    · have h := h.1 hc
      exact h
    · have h := h.2 hc
      refine ax_mv 1 52 [some (.ref 150), some (ax_i x1), some (ax_i x2), some (ax_i x3), some (ax_i x4), some (ax_i r1), some (ax_i (V1 154 x1))] [.ref 150] rfl ?_
      refine ax_gR (v := .ref (B + 56)) (pc' := 55) ⟨_, rfl⟩ fl_5_57 (az_e 0 rfl) rfl rfl ?_
      refine ax_gR (v := .ref (B + 69)) (pc' := 58) ⟨_, rfl⟩ fl_5_218 (az_b 56 rfl) rfl rfl ?_
      refine ax_mv 1 60 [some (.ref 150), some (ax_i x1), some (ax_i x2), some (ax_i x3), some (ax_i x4), some (ax_i r1), some (ax_i (V1 154 x1))] [ax_i r1, .ref (B + 69)] rfl ?_
      obtain ⟨o12, h⟩ := h
      refine ax_bld (n := 350) (pc' := 61) ⟨_, rfl⟩ (az_b 69 rfl) (by decide) o12 rfl ?_
      refine ax_if (p1 := 91) (p2 := 64) ⟨_, rfl⟩ (by decide) rfl (hg1 _ _) (fun hc => ?_) (fun hc => ?_)
      · have h := h.1 hc
        exact h
      · have h := h.2 hc
        refine ax_mv 3 67 [some (.ref 150), some (ax_i x1), some (ax_i x2), some (ax_i x3), some (ax_i x4), some (ax_i r1), some (ax_i (V1 154 x1))] [.ref 150, ax_i x3, .ref 150] rfl ?_
        refine ax_gR (v := .ref (B + 56)) (pc' := 70) ⟨_, rfl⟩ fl_5_57 (az_e 0 rfl) rfl rfl ?_
        refine ax_gR (v := .ref (B + 65)) (pc' := 73) ⟨_, rfl⟩ fl_5_221 (az_b 56 rfl) rfl rfl ?_
        refine ax_mv 1 75 [some (.ref 150), some (ax_i x1), some (ax_i x2), some (ax_i x3), some (ax_i x4), some (ax_i r1), some (ax_i (V1 154 x1))] [ax_i (V1 154 x1), .ref (B + 65), ax_i x3, .ref 150] rfl ?_
        obtain ⟨o13, h⟩ := h
        refine ax_ild (n := 350) (pc' := 76) ⟨_, rfl⟩ (az_b 65 rfl) (by decide) o13 rfl ?_
        refine ax_mv 1 77 [some (.ref 150), some (ax_i x1), some (ax_i x2), some (ax_i x3), some (ax_i x4), some (ax_i r1), some (ax_i (V1 154 x1))] [.ref 150, ax_i (V1 565 (V1 154 x1)), ax_i x3, .ref 150] rfl ?_
        refine ax_gR (v := .ref (B + 56)) (pc' := 80) ⟨_, rfl⟩ fl_5_57 (az_e 0 rfl) rfl rfl ?_
        refine ax_gR (v := .ref (B + 66)) (pc' := 83) ⟨_, rfl⟩ fl_5_224 (az_b 56 rfl) rfl rfl ?_
        refine ax_mv 1 85 [some (.ref 150), some (ax_i x1), some (ax_i x2), some (ax_i x3), some (ax_i x4), some (ax_i r1), some (ax_i (V1 154 x1))] [ax_i (V1 154 x1), .ref (B + 66), ax_i (V1 565 (V1 154 x1)), ax_i x3, .ref 150] rfl ?_
        obtain ⟨o14, h⟩ := h
        refine ax_ild (n := 350) (pc' := 86) ⟨_, rfl⟩ (az_b 66 rfl) (by decide) o14 rfl ?_
        refine ax_mv 1 88 [some (.ref 150), some (ax_i x1), some (ax_i x2), some (ax_i x3), some (ax_i x4), some (ax_i r1), some (ax_i (V1 154 x1))] [ax_i x4, ax_i (V1 566 (V1 154 x1)), ax_i (V1 565 (V1 154 x1)), ax_i x3, .ref 150] rfl ?_
        refine ax_callN (pc' := 91) ⟨_, rfl⟩ ml_5_173 (rest := []) rfl (fun ss hs => ⟨_, _, (az_e 0 rfl) ss hs⟩) (Nat.le_of_ble_eq_true rfl) rfl rfl h (fun V3 hg3 h => ?_)
        exact h
abbrev k_Machine_firstMove_10 (B : Nat) (d : Nat) (x1 : Int) (x2 : Int) (x3 : Int) (y4 : Option Value) (V : ax_V) (Φ : Int → ax_V → Prop) (Θ : ax_V → Prop) : Prop := ax_R (az_W B (az_EM B)) ax_t d m_Machine_firstMove 10 [some (.ref 150), some (ax_i x1), some (ax_i x2), some (ax_i x3), y4] [] V (ax_Ir Φ) Θ
theorem r_Machine_firstMove_10 {B : Nat} {d : Nat} {V : ax_V} {Φ : Int → ax_V → Prop} {Θ : ax_V → Prop} {x1 : Int} {x2 : Int} {x3 : Int} {y4 : Option Value} (hg : ax_g V) (hx1 : ax_rg x1) (hx2 : ax_rg x2) (hx3 : ax_rg x3) (hy4 : ax_y y4) (h : (0 ≤ x1 + 1 ∧ x1 + 1 < 351) ∧ ((V 559 (x1 + 1) ≤ x3 → Φ (-1) V) ∧ (x3 < V 559 (x1 + 1) → (0 ≤ x3 ∧ x3 < 350) ∧ ((V 568 x3 = x2 → (0 ≤ x3 ∧ x3 < 350) ∧ (0 ≤ x1 ∧ x1 < 350) ∧ ((V 567 x3 = V 154 x1 → (0 ≤ x3 ∧ x3 < 350) ∧ (0 ≤ V 571 x3 ∧ V 571 x3 < 700) ∧ ((V 151 (V 571 x3) = 1 → Φ x3 V) ∧ (¬ V 151 (V 571 x3) = 1 → k_Machine_firstMove_10 B d x1 x2 (x3 + 1) (some (ax_i 1)) V Φ Θ))) ∧ (¬ V 567 x3 = V 154 x1 → k_Machine_firstMove_10 B d x1 x2 (x3 + 1) (some (ax_i 0)) V Φ Θ))) ∧ (¬ V 568 x3 = x2 → k_Machine_firstMove_10 B d x1 x2 (x3 + 1) (some (ax_i 0)) V Φ Θ))))) : k_Machine_firstMove_10 B d x1 x2 x3 y4 V Φ Θ := by
  refine ax_mv 2 12 [some (.ref 150), some (ax_i x1), some (ax_i x2), some (ax_i x3), y4] [.ref 150, ax_i x3] rfl ?_
  refine ax_gR (v := .ref (B + 56)) (pc' := 15) ⟨_, rfl⟩ fl_5_57 (az_e 0 rfl) rfl rfl ?_
  refine ax_gR (v := .ref (B + 59)) (pc' := 18) ⟨_, rfl⟩ fl_5_199 (az_b 56 rfl) rfl rfl ?_
  refine ax_mv 2 20 [some (.ref 150), some (ax_i x1), some (ax_i x2), some (ax_i x3), y4] [ax_i 1, ax_i x1, .ref (B + 59), ax_i x3] rfl ?_
  refine ax_add (pc' := 21) ⟨_, rfl⟩ rfl ?_
  obtain ⟨o1, h⟩ := h
  refine ax_ild (n := 351) (pc' := 22) ⟨_, rfl⟩ (az_b 59 rfl) (by decide) o1 rfl ?_
  refine ax_if2 (p1 := 94) (p2 := 25) ⟨_, rfl⟩ (by decide) rfl hx3 (hg _ _) (fun hc => ?_) (fun hc => ?_)
  · have h := h.1 hc
    refine ax_mv 1 95 [some (.ref 150), some (ax_i x1), some (ax_i x2), some (ax_i x3), y4] [ax_i (-1)] rfl ?_
    exact ax_iret ⟨_, rfl⟩ rfl rfl (by decide) hg h
  · have h := h.2 (Int.not_le.mp hc)
    refine ax_mv 1 26 [some (.ref 150), some (ax_i x1), some (ax_i x2), some (ax_i x3), y4] [.ref 150] rfl ?_
    refine ax_gR (v := .ref (B + 56)) (pc' := 29) ⟨_, rfl⟩ fl_5_57 (az_e 0 rfl) rfl rfl ?_
    refine ax_gR (v := .ref (B + 68)) (pc' := 32) ⟨_, rfl⟩ fl_5_202 (az_b 56 rfl) rfl rfl ?_
    refine ax_mv 1 33 [some (.ref 150), some (ax_i x1), some (ax_i x2), some (ax_i x3), y4] [ax_i x3, .ref (B + 68)] rfl ?_
    obtain ⟨o2, h⟩ := h
    refine ax_bld (n := 350) (pc' := 34) ⟨_, rfl⟩ (az_b 68 rfl) (by decide) o2 rfl ?_
    refine ax_mv 1 35 [some (.ref 150), some (ax_i x1), some (ax_i x2), some (ax_i x3), y4] [ax_i x2, ax_i (V 568 x3)] rfl ?_
    refine ax_if2 (p1 := 60) (p2 := 38) ⟨_, rfl⟩ (by decide) rfl (hg _ _) hx2 (fun hc => ?_) (fun hc => ?_)
    · have h := h.2 hc
      refine ax_mv 1 61 [some (.ref 150), some (ax_i x1), some (ax_i x2), some (ax_i x3), y4] [ax_i 0] rfl ?_
      refine ax_sti (i := 0) (k := 4) (n := 2) (pc' := 63) (L' := [some (.ref 150), some (ax_i x1), some (ax_i x2), some (ax_i x3), some (ax_i 0)]) ⟨_, rfl⟩ rfl rfl rfl (Nat.le_of_ble_eq_true rfl) rfl rfl ?_
      refine ax_mv 1 65 [some (.ref 150), some (ax_i x1), some (ax_i x2), some (ax_i x3), some (ax_i 0)] [ax_i 0] rfl ?_
      refine ax_if (p1 := 88) (p2 := 68) ⟨_, rfl⟩ (by decide) rfl (by decide) (fun _ => ?_) (fun hc => absurd (by unfold ax_k0; decide) hc)
      refine ax_inc (x := x3) (pc' := 91) (L' := [some (.ref 150), some (ax_i x1), some (ax_i x2), some (ax_i (x3 + 1)), some (ax_i 0)]) ⟨_, rfl⟩ rfl rfl rfl rfl ?_
      refine ax_mv 1 10 [some (.ref 150), some (ax_i x1), some (ax_i x2), some (ax_i (x3 + 1)), some (ax_i 0)] [] rfl ?_
      exact h
    · have h := h.1 (Classical.not_not.mp hc)
      refine ax_mv 1 39 [some (.ref 150), some (ax_i x1), some (ax_i x2), some (ax_i x3), y4] [.ref 150] rfl ?_
      refine ax_gR (v := .ref (B + 56)) (pc' := 42) ⟨_, rfl⟩ fl_5_57 (az_e 0 rfl) rfl rfl ?_
      refine ax_gR (v := .ref (B + 67)) (pc' := 45) ⟨_, rfl⟩ fl_5_205 (az_b 56 rfl) rfl rfl ?_
      refine ax_mv 1 46 [some (.ref 150), some (ax_i x1), some (ax_i x2), some (ax_i x3), y4] [ax_i x3, .ref (B + 67)] rfl ?_
      obtain ⟨o3, h⟩ := h
      refine ax_ild (n := 350) (pc' := 47) ⟨_, rfl⟩ (az_b 67 rfl) (by decide) o3 rfl ?_
      refine ax_mv 1 48 [some (.ref 150), some (ax_i x1), some (ax_i x2), some (ax_i x3), y4] [.ref 150, ax_i (V 567 x3)] rfl ?_
      refine ax_gR (v := .ref 154) (pc' := 51) ⟨_, rfl⟩ fl_5_22 (az_e 0 rfl) rfl rfl ?_
      refine ax_mv 1 52 [some (.ref 150), some (ax_i x1), some (ax_i x2), some (ax_i x3), y4] [ax_i x1, .ref 154, ax_i (V 567 x3)] rfl ?_
      obtain ⟨o4, h⟩ := h
      refine ax_ild (n := 350) (pc' := 53) ⟨_, rfl⟩ (az_e 4 rfl) (by decide) o4 rfl ?_
      refine ax_if2 (p1 := 60) (p2 := 56) ⟨_, rfl⟩ (by decide) rfl (hg _ _) (hg _ _) (fun hc => ?_) (fun hc => ?_)
      · have h := h.2 hc
        refine ax_mv 1 61 [some (.ref 150), some (ax_i x1), some (ax_i x2), some (ax_i x3), y4] [ax_i 0] rfl ?_
        refine ax_sti (i := 0) (k := 4) (n := 2) (pc' := 63) (L' := [some (.ref 150), some (ax_i x1), some (ax_i x2), some (ax_i x3), some (ax_i 0)]) ⟨_, rfl⟩ rfl rfl rfl (Nat.le_of_ble_eq_true rfl) rfl rfl ?_
        refine ax_mv 1 65 [some (.ref 150), some (ax_i x1), some (ax_i x2), some (ax_i x3), some (ax_i 0)] [ax_i 0] rfl ?_
        refine ax_if (p1 := 88) (p2 := 68) ⟨_, rfl⟩ (by decide) rfl (by decide) (fun _ => ?_) (fun hc => absurd (by unfold ax_k0; decide) hc)
        refine ax_inc (x := x3) (pc' := 91) (L' := [some (.ref 150), some (ax_i x1), some (ax_i x2), some (ax_i (x3 + 1)), some (ax_i 0)]) ⟨_, rfl⟩ rfl rfl rfl rfl ?_
        refine ax_mv 1 10 [some (.ref 150), some (ax_i x1), some (ax_i x2), some (ax_i (x3 + 1)), some (ax_i 0)] [] rfl ?_
        exact h
      · have h := h.1 (Classical.not_not.mp hc)
        refine ax_mv 2 61 [some (.ref 150), some (ax_i x1), some (ax_i x2), some (ax_i x3), y4] [ax_i 1] rfl ?_
        refine ax_sti (i := 0) (k := 4) (n := 2) (pc' := 63) (L' := [some (.ref 150), some (ax_i x1), some (ax_i x2), some (ax_i x3), some (ax_i 1)]) ⟨_, rfl⟩ rfl rfl rfl (Nat.le_of_ble_eq_true rfl) rfl rfl ?_
        refine ax_mv 1 65 [some (.ref 150), some (ax_i x1), some (ax_i x2), some (ax_i x3), some (ax_i 1)] [ax_i 1] rfl ?_
        refine ax_if (p1 := 88) (p2 := 68) ⟨_, rfl⟩ (by decide) rfl (by decide) (fun hc => absurd hc (by unfold ax_k0; decide)) (fun _ => ?_)
        refine ax_mv 1 69 [some (.ref 150), some (ax_i x1), some (ax_i x2), some (ax_i x3), some (ax_i 1)] [.ref 150] rfl ?_
        refine ax_gR (v := .ref 151) (pc' := 72) ⟨_, rfl⟩ fl_5_9 (az_e 0 rfl) rfl rfl ?_
        refine ax_mv 1 73 [some (.ref 150), some (ax_i x1), some (ax_i x2), some (ax_i x3), some (ax_i 1)] [.ref 150, .ref 151] rfl ?_
        refine ax_gR (v := .ref (B + 56)) (pc' := 76) ⟨_, rfl⟩ fl_5_57 (az_e 0 rfl) rfl rfl ?_
        refine ax_gR (v := .ref (B + 71)) (pc' := 79) ⟨_, rfl⟩ fl_5_208 (az_b 56 rfl) rfl rfl ?_
        refine ax_mv 1 80 [some (.ref 150), some (ax_i x1), some (ax_i x2), some (ax_i x3), some (ax_i 1)] [ax_i x3, .ref (B + 71), .ref 151] rfl ?_
        obtain ⟨o5, h⟩ := h
        refine ax_ild (n := 350) (pc' := 81) ⟨_, rfl⟩ (az_b 71 rfl) (by decide) o5 rfl ?_
        obtain ⟨o6, h⟩ := h
        refine ax_ild (n := 700) (pc' := 82) ⟨_, rfl⟩ (az_e 1 rfl) (by decide) o6 rfl ?_
        refine ax_mv 1 83 [some (.ref 150), some (ax_i x1), some (ax_i x2), some (ax_i x3), some (ax_i 1)] [ax_i 1, ax_i (V 151 (V 571 x3))] rfl ?_
        refine ax_if2 (p1 := 88) (p2 := 86) ⟨_, rfl⟩ (by decide) rfl (hg _ _) (by decide) (fun hc => ?_) (fun hc => ?_)
        · have h := h.2 hc
          refine ax_inc (x := x3) (pc' := 91) (L' := [some (.ref 150), some (ax_i x1), some (ax_i x2), some (ax_i (x3 + 1)), some (ax_i 1)]) ⟨_, rfl⟩ rfl rfl rfl rfl ?_
          refine ax_mv 1 10 [some (.ref 150), some (ax_i x1), some (ax_i x2), some (ax_i (x3 + 1)), some (ax_i 1)] [] rfl ?_
          exact h
        · have h := h.1 (Classical.not_not.mp hc)
          refine ax_mv 1 87 [some (.ref 150), some (ax_i x1), some (ax_i x2), some (ax_i x3), some (ax_i 1)] [ax_i x3] rfl ?_
          exact ax_iret ⟨_, rfl⟩ rfl rfl hx3 hg h
theorem r_Machine_firstMove {B : Nat} {d : Nat} {V : ax_V} {Φ : Int → ax_V → Prop} {Θ : ax_V → Prop} {x1 : Int} {x2 : Int} (hg : ax_g V) (hx1 : ax_rg x1) (hx2 : ax_rg x2) (h : (0 ≤ x1 ∧ x1 < 351) ∧ k_Machine_firstMove_10 B d x1 x2 (V 559 x1) none V Φ Θ) : ax_I (az_W B (az_EM B)) (d + 1) q_Machine_firstMove [.ref 150, ax_i x1, ax_i x2] V Φ Θ := by
  refine ax_T.of (M := m_Machine_firstMove) rfl (Nat.le_of_ble_eq_true rfl) ?_
  refine ax_mv 0 0 [some (.ref 150), some (ax_i x1), some (ax_i x2), none, none] [] rfl ?_
  refine ax_mv 1 1 [some (.ref 150), some (ax_i x1), some (ax_i x2), none, none] [.ref 150] rfl ?_
  refine ax_gR (v := .ref (B + 56)) (pc' := 4) ⟨_, rfl⟩ fl_5_57 (az_e 0 rfl) rfl rfl ?_
  refine ax_gR (v := .ref (B + 59)) (pc' := 7) ⟨_, rfl⟩ fl_5_199 (az_b 56 rfl) rfl rfl ?_
  refine ax_mv 1 8 [some (.ref 150), some (ax_i x1), some (ax_i x2), none, none] [ax_i x1, .ref (B + 59)] rfl ?_
  obtain ⟨o7, h⟩ := h
  refine ax_ild (n := 351) (pc' := 9) ⟨_, rfl⟩ (az_b 59 rfl) (by decide) o7 rfl ?_
  refine ax_sti (i := 0) (k := 3) (n := 1) (pc' := 10) (L' := [some (.ref 150), some (ax_i x1), some (ax_i x2), some (ax_i (V 559 x1)), none]) ⟨_, rfl⟩ rfl rfl rfl (Nat.le_of_ble_eq_true rfl) rfl rfl ?_
  exact h
abbrev k_Machine_goes_23 (B : Nat) (a : Nat) (na : Nat) (b : Nat) (nb : Nat) (d : Nat) (x1 : Int) (y3 : Option Value) (y4 : Option Value) (x5 : Int) (V : ax_V) (Φ : Int → ax_V → Prop) (Θ : ax_V → Prop) : Prop := ax_R (az_W B (az_EN B a na b nb)) ax_t d m_Machine_goes 23 [some (.ref 150), some (ax_i x1), some (.ref a), y3, y4, some (ax_i x5)] [] V (ax_Ir Φ) Θ
theorem r_Machine_goes_23 {B : Nat} {a : Nat} {na : Nat} {b : Nat} {nb : Nat} (hna : na ≤ 1000000) (hnb : nb ≤ 1000000) {d : Nat} {V : ax_V} {Φ : Int → ax_V → Prop} {Θ : ax_V → Prop} {x1 : Int} {y3 : Option Value} {y4 : Option Value} {x5 : Int} (hg : ax_g V) (hx1 : ax_rg x1) (hy3 : ax_y y3) (hy4 : ax_y y4) (hx5 : ax_rg x5) (h : (0 ≤ x1 ∧ x1 < 8) ∧ ((V 503 x1 ≤ x5 → (∀ V1, V1 = ax_u V 150 10 700 → ax_N (az_W B (az_EN B a na b nb)) d q_Machine_go [.ref 150, ax_i x1, ax_i 0] V1 (fun V2 => ((V2 150 10 = 700 → Φ 1 V2) ∧ (¬ V2 150 10 = 700 → Φ 0 V2))) Θ)) ∧ (x5 < V 503 x1 → (0 ≤ x5 ∧ x5 < (na : Int)) ∧ ax_N (az_W B (az_EN B a na b nb)) d q_Machine_feedOne [.ref 150, ax_i x1, ax_i x5, ax_i (V 610 x5)] V (fun V3 => k_Machine_goes_23 B a na b nb d x1 y3 y4 (x5 + 1) V3 Φ Θ) Θ))) : k_Machine_goes_23 B a na b nb d x1 y3 y4 x5 V Φ Θ := by
  refine ax_mv 2 26 [some (.ref 150), some (ax_i x1), some (.ref a), y3, y4, some (ax_i x5)] [.ref 150, ax_i x5] rfl ?_
  refine ax_gR (v := .ref B) (pc' := 29) ⟨_, rfl⟩ fl_5_32 (az_e 0 rfl) rfl rfl ?_
  refine ax_gR (v := .ref (B + 3)) (pc' := 32) ⟨_, rfl⟩ fl_5_70 (az_b 0 rfl) rfl rfl ?_
  refine ax_mv 1 33 [some (.ref 150), some (ax_i x1), some (.ref a), y3, y4, some (ax_i x5)] [ax_i x1, .ref (B + 3), ax_i x5] rfl ?_
  obtain ⟨o1, h⟩ := h
  refine ax_ild (n := 8) (pc' := 34) ⟨_, rfl⟩ (az_b 3 rfl) (by decide) o1 rfl ?_
  refine ax_if2 (p1 := 54) (p2 := 37) ⟨_, rfl⟩ (by decide) rfl hx5 (hg _ _) (fun hc => ?_) (fun hc => ?_)
  · have h := h.1 hc
    refine ax_mv 1 55 [some (.ref 150), some (ax_i x1), some (.ref a), y3, y4, some (ax_i x5)] [.ref 150] rfl ?_
    refine ax_sip (pc' := 58) ⟨_, rfl⟩ (by decide) rfl ?_
    obtain ⟨V1, eV1⟩ : ∃ W9 : ax_V, W9 = ax_u V 150 10 700 := ⟨_, rfl⟩
    have h := h V1 eV1
    have hg1 : ax_g V1 := eV1 ▸ ax_u_g hg (by decide)
    refine ax_pI (kI := 10) (pc' := 61) ⟨_, rfl⟩ fl_5_28 az_ok (az_e 0 rfl) rfl rfl rfl rfl eV1 rfl ?_
    refine ax_mv 3 64 [some (.ref 150), some (ax_i x1), some (.ref a), y3, y4, some (ax_i x5)] [ax_i 0, ax_i x1, .ref 150] rfl ?_
    refine ax_callN (pc' := 67) ⟨_, rfl⟩ ml_5_77 (rest := []) rfl (fun ss hs => ⟨_, _, (az_e 0 rfl) ss hs⟩) (Nat.le_of_ble_eq_true rfl) rfl rfl h (fun V2 hg2 h => ?_)
    refine ax_mv 1 68 [some (.ref 150), some (ax_i x1), some (.ref a), y3, y4, some (ax_i x5)] [.ref 150] rfl ?_
    refine ax_gI (kI := 10) (pc' := 71) ⟨_, rfl⟩ fl_5_28 (az_e 0 rfl) rfl rfl rfl ?_
    refine ax_sip (pc' := 74) ⟨_, rfl⟩ (by decide) rfl ?_
    refine ax_if2 (p1 := 81) (p2 := 77) ⟨_, rfl⟩ (by decide) rfl (hg2 _ _) (by decide) (fun hc => ?_) (fun hc => ?_)
    · have h := h.2 hc
      refine ax_mv 1 82 [some (.ref 150), some (ax_i x1), some (.ref a), y3, y4, some (ax_i x5)] [ax_i 0] rfl ?_
      exact ax_iret ⟨_, rfl⟩ rfl (ax_nbv (by decide)) (by decide) hg2 h
    · have h := h.1 (Classical.not_not.mp hc)
      refine ax_mv 2 82 [some (.ref 150), some (ax_i x1), some (.ref a), y3, y4, some (ax_i x5)] [ax_i 1] rfl ?_
      exact ax_iret ⟨_, rfl⟩ rfl (ax_nbv (by decide)) (by decide) hg2 h
  · have h := h.2 (Int.not_le.mp hc)
    refine ax_mv 5 44 [some (.ref 150), some (ax_i x1), some (.ref a), y3, y4, some (ax_i x5)] [ax_i x5, .ref a, ax_i x5, ax_i x1, .ref 150] rfl ?_
    obtain ⟨o2, h⟩ := h
    refine ax_ild (n := na) (pc' := 45) ⟨_, rfl⟩ (az_e 6 rfl) (by omega) o2 rfl ?_
    refine ax_callN (pc' := 48) ⟨_, rfl⟩ ml_5_73 (rest := []) rfl (fun ss hs => ⟨_, _, (az_e 0 rfl) ss hs⟩) (Nat.le_of_ble_eq_true rfl) rfl rfl h (fun V3 hg3 h => ?_)
    refine ax_inc (x := x5) (pc' := 51) (L' := [some (.ref 150), some (ax_i x1), some (.ref a), y3, y4, some (ax_i (x5 + 1))]) ⟨_, rfl⟩ rfl (ax_kill_y (k := 4) rfl hy4) rfl rfl ?_
    refine ax_mv 1 23 [some (.ref 150), some (ax_i x1), some (.ref a), y3, y4, some (ax_i (x5 + 1))] [] rfl ?_
    exact h
theorem r_Machine_goes {B : Nat} {a : Nat} {na : Nat} {b : Nat} {nb : Nat} (hna : na ≤ 1000000) (hnb : nb ≤ 1000000) {d : Nat} {V : ax_V} {Φ : Int → ax_V → Prop} {Θ : ax_V → Prop} {x1 : Int} {x4 : Int} (hg : ax_g V) (hx1 : ax_rg x1) (hx4 : ax_rg x4) (h : (0 ≤ x1 ∧ x1 < 8) ∧ ((0 : Int) ≤ x4 ∧ (0 : Int) ≤ 0 ∧ (0 : Int) ≤ V 514 x1 ∧ (x4 + (V 514 x1) : Int) ≤ (nb : Int) ∧ (0 + (V 514 x1) : Int) ≤ 300) ∧ (∀ V1, V1 = ax_cp V 611 155 x4 0 (V 514 x1) → k_Machine_goes_23 B a na b nb d x1 (some (.ref b)) (some (ax_i x4)) 0 V1 Φ Θ)) : ax_I (az_W B (az_EN B a na b nb)) (d + 1) q_Machine_goes [.ref 150, ax_i x1, .ref a, .ref b, ax_i x4] V Φ Θ := by
  refine ax_T.of (M := m_Machine_goes) rfl (Nat.le_of_ble_eq_true rfl) ?_
  refine ax_mv 0 0 [some (.ref 150), some (ax_i x1), some (.ref a), some (.ref b), some (ax_i x4), none] [] rfl ?_
  refine ax_mv 3 4 [some (.ref 150), some (ax_i x1), some (.ref a), some (.ref b), some (ax_i x4), none] [.ref 150, ax_i x4, .ref b] rfl ?_
  refine ax_gR (v := .ref 155) (pc' := 7) ⟨_, rfl⟩ fl_5_25 (az_e 0 rfl) rfl rfl ?_
  refine ax_mv 2 9 [some (.ref 150), some (ax_i x1), some (.ref a), some (.ref b), some (ax_i x4), none] [.ref 150, ax_i 0, .ref 155, ax_i x4, .ref b] rfl ?_
  refine ax_gR (v := .ref B) (pc' := 12) ⟨_, rfl⟩ fl_5_32 (az_e 0 rfl) rfl rfl ?_
  refine ax_gR (v := .ref (B + 14)) (pc' := 15) ⟨_, rfl⟩ fl_5_61 (az_b 0 rfl) rfl rfl ?_
  refine ax_mv 1 16 [some (.ref 150), some (ax_i x1), some (.ref a), some (.ref b), some (ax_i x4), none] [ax_i x1, .ref (B + 14), ax_i 0, .ref 155, ax_i x4, .ref b] rfl ?_
  obtain ⟨o3, h⟩ := h
  refine ax_ild (n := 8) (pc' := 17) ⟨_, rfl⟩ (az_b 14 rfl) (by decide) o3 rfl ?_
  obtain ⟨o4, h⟩ := h
  obtain ⟨V1, eV1⟩ : ∃ W9 : ax_V, W9 = ax_cp V 611 155 x4 0 (V 514 x1) := ⟨_, rfl⟩
  have h := h V1 eV1
  have hg1 : ax_g V1 := eV1 ▸ ax_cp_g hg
  refine ax_acp (na := 300) (nb := nb) (pc' := 20) ⟨_, rfl⟩ ml_5_64 az_ok (az_e 7 rfl) (az_e 5 rfl) (by decide) (by omega) o4 (Nat.le_of_ble_eq_true rfl) eV1 rfl ?_
  refine ax_mv 1 21 [some (.ref 150), some (ax_i x1), some (.ref a), some (.ref b), some (ax_i x4), none] [ax_i 0] rfl ?_
  refine ax_sti (i := 0) (k := 5) (n := 2) (pc' := 23) (L' := [some (.ref 150), some (ax_i x1), some (.ref a), some (.ref b), some (ax_i x4), some (ax_i 0)]) ⟨_, rfl⟩ rfl rfl rfl (Nat.le_of_ble_eq_true rfl) rfl rfl ?_
  exact h
theorem r_Instance_begin {B : Nat} {q : Nat} {d : Nat} {V : ax_V} {Φ : ax_V → Prop} {Θ : ax_V → Prop} {x2 : Int} (hg : ax_g V) (hx2 : ax_rg x2) (h : (∀ V1, V1 = ax_u V 800 0 x2 → (∀ V2, V2 = ax_u V1 800 1 0 → (∀ V3, V3 = ax_u V2 800 2 0 → ax_N (az_W B (az_EI B q)) d q_Arrays_fill [.ref (q + 1), ax_i 0] V3 (fun V4 => ((0 : Int) ≤ x2 * 300 ∧ (0 : Int) ≤ 0 ∧ (0 : Int) ≤ 300 ∧ ((x2 * 300) + 300 : Int) ≤ 2400 ∧ (0 + 300 : Int) ≤ 300) ∧ (∀ V5, V5 = ax_cp V4 515 802 (x2 * 300) 0 300 → ax_N (az_W B (az_EI B q)) d q_Arrays_fill [.ref (q + 6), ax_i (-1)] V5 (fun V6 => Φ V6) (fun _ => False))) (fun _ => False))))) : ax_N (az_W B (az_EI B q)) (d + 1) q_Instance_begin [.ref q, .ref B, ax_i x2] V Φ Θ := by
  refine ax_T.of (M := m_Instance_begin) rfl (Nat.le_of_ble_eq_true rfl) ?_
  refine ax_mv 0 0 [some (.ref q), some (.ref B), some (ax_i x2)] [] rfl ?_
  refine ax_mv 2 2 [some (.ref q), some (.ref B), some (ax_i x2)] [ax_i x2, .ref q] rfl ?_
  obtain ⟨V1, eV1⟩ : ∃ W9 : ax_V, W9 = ax_u V 800 0 x2 := ⟨_, rfl⟩
  have h := h V1 eV1
  have hg1 : ax_g V1 := eV1 ▸ ax_u_g hg hx2
  refine ax_pI (kI := 0) (pc' := 5) ⟨_, rfl⟩ fl_2_31 az_ok (az_e 6 rfl) rfl rfl rfl rfl eV1 rfl ?_
  refine ax_mv 2 7 [some (.ref q), some (.ref B), some (ax_i x2)] [ax_i 0, .ref q] rfl ?_
  obtain ⟨V2, eV2⟩ : ∃ W9 : ax_V, W9 = ax_u V1 800 1 0 := ⟨_, rfl⟩
  have h := h V2 eV2
  have hg2 : ax_g V2 := eV2 ▸ ax_u_g hg1 (by decide)
  refine ax_pI (kI := 1) (pc' := 10) ⟨_, rfl⟩ fl_2_35 az_ok (az_e 6 rfl) rfl rfl rfl rfl eV2 rfl ?_
  refine ax_mv 2 12 [some (.ref q), some (.ref B), some (ax_i x2)] [ax_i 0, .ref q] rfl ?_
  obtain ⟨V3, eV3⟩ : ∃ W9 : ax_V, W9 = ax_u V2 800 2 0 := ⟨_, rfl⟩
  have h := h V3 eV3
  have hg3 : ax_g V3 := eV3 ▸ ax_u_g hg2 (by decide)
  refine ax_pI (kI := 2) (pc' := 15) ⟨_, rfl⟩ fl_2_38 az_ok (az_e 6 rfl) rfl rfl (ax_nbv (by decide)) rfl eV3 rfl ?_
  refine ax_mv 1 16 [some (.ref q), some (.ref B), some (ax_i x2)] [.ref q] rfl ?_
  refine ax_gR (v := .ref (q + 1)) (pc' := 19) ⟨_, rfl⟩ fl_2_9 (az_e 6 rfl) rfl rfl ?_
  refine ax_mv 1 20 [some (.ref q), some (.ref B), some (ax_i x2)] [ax_i 0, .ref (q + 1)] rfl ?_
  refine ax_callSN (pc' := 23) ⟨_, rfl⟩ ml_2_42 (Nat.le_of_ble_eq_true rfl) (Nat.le_of_ble_eq_true rfl) rfl h (fun V4 hg4 h => ?_)
  refine ax_mv 0 23 [some (.ref q), some (.ref B), some (ax_i x2)] [] rfl ?_
  refine ax_mv 1 24 [some (.ref q), some (.ref B), some (ax_i x2)] [.ref B] rfl ?_
  refine ax_gR (v := .ref (B + 15)) (pc' := 27) ⟨_, rfl⟩ fl_2_48 (az_b 0 rfl) rfl rfl ?_
  refine ax_mv 1 28 [some (.ref q), some (.ref B), some (ax_i x2)] [ax_i x2, .ref (B + 15)] rfl ?_
  refine ax_sip (pc' := 31) ⟨_, rfl⟩ (by decide) rfl ?_
  refine ax_mul (pc' := 32) ⟨_, rfl⟩ rfl ?_
  refine ax_mv 1 33 [some (.ref q), some (.ref B), some (ax_i x2)] [.ref q, ax_i (x2 * 300), .ref (B + 15)] rfl ?_
  refine ax_gR (v := .ref (q + 2)) (pc' := 36) ⟨_, rfl⟩ fl_2_15 (az_e 6 rfl) rfl rfl ?_
  refine ax_mv 1 37 [some (.ref q), some (.ref B), some (ax_i x2)] [ax_i 0, .ref (q + 2), ax_i (x2 * 300), .ref (B + 15)] rfl ?_
  refine ax_sip (pc' := 40) ⟨_, rfl⟩ (by decide) rfl ?_
  obtain ⟨o1, h⟩ := h
  obtain ⟨V5, eV5⟩ : ∃ W9 : ax_V, W9 = ax_cp V4 515 802 (x2 * 300) 0 300 := ⟨_, rfl⟩
  have h := h V5 eV5
  have hg5 : ax_g V5 := eV5 ▸ ax_cp_g hg4
  refine ax_acp (na := 300) (nb := 2400) (pc' := 43) ⟨_, rfl⟩ ml_2_53 az_ok (az_b 15 rfl) (az_e 8 rfl) (by decide) (by decide) o1 (Nat.le_of_ble_eq_true rfl) eV5 rfl ?_
  refine ax_mv 1 44 [some (.ref q), some (.ref B), some (ax_i x2)] [.ref q] rfl ?_
  refine ax_gR (v := .ref (q + 6)) (pc' := 47) ⟨_, rfl⟩ fl_2_28 (az_e 6 rfl) rfl rfl ?_
  refine ax_mv 1 48 [some (.ref q), some (.ref B), some (ax_i x2)] [ax_i (-1), .ref (q + 6)] rfl ?_
  refine ax_callSN (pc' := 51) ⟨_, rfl⟩ ml_2_42 (Nat.le_of_ble_eq_true rfl) (Nat.le_of_ble_eq_true rfl) rfl h (fun V6 hg6 h => ?_)
  refine ax_mv 0 51 [some (.ref q), some (.ref B), some (ax_i x2)] [] rfl ?_
  exact ax_nret ⟨_, rfl⟩ rfl hg6 h
abbrev k_Instance_takeOver_16 (B : Nat) (q : Nat) (d : Nat) (y2 : Option Value) (x3 : Int) (y4 : Option Value) (y5 : Option Value) (V : ax_V) (Φ : ax_V → Prop) (Θ : ax_V → Prop) : Prop := ax_R (az_W B (az_EI B q)) ax_t d m_Instance_takeOver 16 [some (.ref q), some (.ref 150), y2, some (ax_i x3), y4, y5] [] V (ax_Nr Φ) Θ
abbrev k_Instance_takeOver_52 (B : Nat) (q : Nat) (d : Nat) (y2 : Option Value) (x3 : Int) (x4 : Int) (y5 : Option Value) (s0 : Int) (V : ax_V) (Φ : ax_V → Prop) (Θ : ax_V → Prop) : Prop := ax_R (az_W B (az_EI B q)) ax_t d m_Instance_takeOver 52 [some (.ref q), some (.ref 150), y2, some (ax_i x3), some (ax_i x4), y5] [ax_i s0] V (ax_Nr Φ) Θ
set_option maxRecDepth 20000 in
theorem r_Instance_takeOver_16 {B : Nat} {q : Nat} {d : Nat} {V : ax_V} {Φ : ax_V → Prop} {Θ : ax_V → Prop} {y2 : Option Value} {x3 : Int} {y4 : Option Value} {y5 : Option Value} (hg : ax_g V) (hy2 : ax_y y2) (hx3 : ax_rg x3) (hy4 : ax_y y4) (hy5 : ax_y y5) (h : ((26 ≤ x3 → (∀ V1, V1 = ax_u V 800 2 1 → ax_rg ((V1 800 1) + 1) ∧ (∀ V2, V2 = ax_u V1 800 1 ((V1 800 1) + 1) → Φ V2))) ∧ (x3 < 26 → (0 ≤ ((V 800 0) * 26) + x3 ∧ ((V 800 0) * 26) + x3 < 208) ∧ ((V 533 (((V 800 0) * 26) + x3) = -1 → k_Instance_takeOver_52 B q d y2 x3 (((V 800 0) * 26) + x3) y5 0 V Φ Θ) ∧ (¬ V 533 (((V 800 0) * 26) + x3) = -1 → k_Instance_takeOver_52 B q d y2 x3 (((V 800 0) * 26) + x3) y5 1 V Φ Θ))))) : k_Instance_takeOver_16 B q d y2 x3 y4 y5 V Φ Θ := by
  refine ax_mv 1 17 [some (.ref q), some (.ref 150), y2, some (ax_i x3), y4, y5] [ax_i x3] rfl ?_
  refine ax_bip (pc' := 19) ⟨_, rfl⟩ (by decide) rfl ?_
  refine ax_if2 (p1 := 99) (p2 := 22) ⟨_, rfl⟩ (by decide) rfl hx3 (by decide) (fun hc => ?_) (fun hc => ?_)
  · have h := h.1 hc
    refine ax_mv 2 101 [some (.ref q), some (.ref 150), y2, some (ax_i x3), y4, y5] [ax_i 1, .ref q] rfl ?_
    obtain ⟨V1, eV1⟩ : ∃ W9 : ax_V, W9 = ax_u V 800 2 1 := ⟨_, rfl⟩
    have h := h V1 eV1
    have hg1 : ax_g V1 := eV1 ▸ ax_u_g hg (by decide)
    refine ax_pI (kI := 2) (pc' := 104) ⟨_, rfl⟩ fl_2_38 az_ok (az_e 6 rfl) rfl rfl (ax_nbv (by decide)) rfl eV1 rfl ?_
    refine ax_mv 2 106 [some (.ref q), some (.ref 150), y2, some (ax_i x3), y4, y5] [.ref q, .ref q] rfl ?_
    refine ax_gI (kI := 1) (pc' := 109) ⟨_, rfl⟩ fl_2_35 (az_e 6 rfl) rfl rfl rfl ?_
    refine ax_mv 1 110 [some (.ref q), some (.ref 150), y2, some (ax_i x3), y4, y5] [ax_i 1, ax_i (V1 800 1), .ref q] rfl ?_
    refine ax_add (pc' := 111) ⟨_, rfl⟩ rfl ?_
    obtain ⟨o1, h⟩ := h
    obtain ⟨V2, eV2⟩ : ∃ W9 : ax_V, W9 = ax_u V1 800 1 ((V1 800 1) + 1) := ⟨_, rfl⟩
    have h := h V2 eV2
    have hg2 : ax_g V2 := eV2 ▸ ax_u_g hg1 o1
    refine ax_pI (kI := 1) (pc' := 114) ⟨_, rfl⟩ fl_2_35 az_ok (az_e 6 rfl) rfl rfl rfl rfl eV2 rfl ?_
    exact ax_nret ⟨_, rfl⟩ rfl hg2 h
  · have h := h.2 (Int.not_le.mp hc)
    refine ax_mv 1 23 [some (.ref q), some (.ref 150), y2, some (ax_i x3), y4, y5] [.ref q] rfl ?_
    refine ax_gI (kI := 0) (pc' := 26) ⟨_, rfl⟩ fl_2_31 (az_e 6 rfl) rfl rfl rfl ?_
    refine ax_bip (pc' := 28) ⟨_, rfl⟩ (by decide) rfl ?_
    refine ax_mul (pc' := 29) ⟨_, rfl⟩ rfl ?_
    refine ax_mv 1 30 [some (.ref q), some (.ref 150), y2, some (ax_i x3), y4, y5] [ax_i x3, ax_i ((V 800 0) * 26)] rfl ?_
    refine ax_add (pc' := 31) ⟨_, rfl⟩ rfl ?_
    refine ax_sti (i := 0) (k := 4) (n := 2) (pc' := 33) (L' := [some (.ref q), some (.ref 150), y2, some (ax_i x3), some (ax_i (((V 800 0) * 26) + x3)), y5]) ⟨_, rfl⟩ rfl rfl rfl (Nat.le_of_ble_eq_true rfl) rfl rfl ?_
    refine ax_mv 1 34 [some (.ref q), some (.ref 150), y2, some (ax_i x3), some (ax_i (((V 800 0) * 26) + x3)), y5] [.ref 150] rfl ?_
    refine ax_gR (v := .ref (B + 32)) (pc' := 37) ⟨_, rfl⟩ fl_2_62 (az_e 0 rfl) rfl rfl ?_
    refine ax_gR (v := .ref (B + 33)) (pc' := 40) ⟨_, rfl⟩ fl_2_66 (az_b 32 rfl) rfl rfl ?_
    refine ax_mv 1 42 [some (.ref q), some (.ref 150), y2, some (ax_i x3), some (ax_i (((V 800 0) * 26) + x3)), y5] [ax_i (((V 800 0) * 26) + x3), .ref (B + 33)] rfl ?_
    obtain ⟨o2, h⟩ := h
    refine ax_ild (n := 208) (pc' := 43) ⟨_, rfl⟩ (az_b 33 rfl) (by decide) o2 rfl ?_
    refine ax_mv 1 44 [some (.ref q), some (.ref 150), y2, some (ax_i x3), some (ax_i (((V 800 0) * 26) + x3)), y5] [ax_i (-1), ax_i (V 533 (((V 800 0) * 26) + x3))] rfl ?_
    refine ax_if2 (p1 := 51) (p2 := 47) ⟨_, rfl⟩ (by decide) rfl (hg _ _) (by decide) (fun hc => ?_) (fun hc => ?_)
    · have h := h.1 hc
      refine ax_mv 1 52 [some (.ref q), some (.ref 150), y2, some (ax_i x3), some (ax_i (((V 800 0) * 26) + x3)), y5] [ax_i 0] rfl ?_
      exact h
    · have h := h.2 hc
      refine ax_mv 2 52 [some (.ref q), some (.ref 150), y2, some (ax_i x3), some (ax_i (((V 800 0) * 26) + x3)), y5] [ax_i 1] rfl ?_
      exact h
set_option maxRecDepth 20000 in
theorem r_Instance_takeOver_52 {B : Nat} {q : Nat} {d : Nat} {V : ax_V} {Φ : ax_V → Prop} {Θ : ax_V → Prop} {y2 : Option Value} {x3 : Int} {x4 : Int} {y5 : Option Value} {s0 : Int} (hg : ax_g V) (hy2 : ax_y y2) (hx3 : ax_rg x3) (hx4 : ax_rg x4) (hy5 : ax_y y5) (hs0 : ax_rg s0) (h : ((s0 = 0 → (0 ≤ x3 ∧ x3 < 26) ∧ (∀ V1, V1 = ax_u V 804 x3 0 → (0 ≤ x4 ∧ x4 < 208) ∧ (0 ≤ x3 ∧ x3 < 26) ∧ (∀ V2, V2 = ax_u V1 803 x3 (V1 152 x4) → k_Instance_takeOver_16 B q d y2 (x3 + 1) (some (ax_i x4)) (some (ax_i s0)) V2 Φ Θ))) ∧ (¬ s0 = 0 → (0 ≤ x4 ∧ x4 < 208) ∧ ((V 153 x4 = 0 → (0 ≤ x3 ∧ x3 < 26) ∧ (∀ V3, V3 = ax_u V 804 x3 0 → (0 ≤ x4 ∧ x4 < 208) ∧ (0 ≤ x3 ∧ x3 < 26) ∧ (∀ V4, V4 = ax_u V3 803 x3 (V3 152 x4) → k_Instance_takeOver_16 B q d y2 (x3 + 1) (some (ax_i x4)) (some (ax_i s0)) V4 Φ Θ))) ∧ (¬ V 153 x4 = 0 → (0 ≤ x3 ∧ x3 < 26) ∧ (∀ V5, V5 = ax_u V 804 x3 1 → (0 ≤ x4 ∧ x4 < 208) ∧ (0 ≤ x3 ∧ x3 < 26) ∧ (∀ V6, V6 = ax_u V5 803 x3 (V5 152 x4) → k_Instance_takeOver_16 B q d y2 (x3 + 1) (some (ax_i x4)) (some (ax_i s0)) V6 Φ Θ))))))) : k_Instance_takeOver_52 B q d y2 x3 x4 y5 s0 V Φ Θ := by
  refine ax_sti (i := 0) (k := 5) (n := 2) (pc' := 54) (L' := [some (.ref q), some (.ref 150), y2, some (ax_i x3), some (ax_i x4), some (ax_i s0)]) ⟨_, rfl⟩ rfl rfl rfl (Nat.le_of_ble_eq_true rfl) rfl rfl ?_
  refine ax_mv 1 55 [some (.ref q), some (.ref 150), y2, some (ax_i x3), some (ax_i x4), some (ax_i s0)] [.ref q] rfl ?_
  refine ax_gR (v := .ref (q + 4)) (pc' := 58) ⟨_, rfl⟩ fl_2_21 (az_e 6 rfl) rfl rfl ?_
  refine ax_mv 2 61 [some (.ref q), some (.ref 150), y2, some (ax_i x3), some (ax_i x4), some (ax_i s0)] [ax_i s0, ax_i x3, .ref (q + 4)] rfl ?_
  refine ax_if (p1 := 78) (p2 := 64) ⟨_, rfl⟩ (by decide) rfl hs0 (fun hc => ?_) (fun hc => ?_)
  · have h := h.1 hc
    refine ax_mv 1 79 [some (.ref q), some (.ref 150), y2, some (ax_i x3), some (ax_i x4), some (ax_i s0)] [ax_i 0, ax_i x3, .ref (q + 4)] rfl ?_
    obtain ⟨o3, h⟩ := h
    obtain ⟨V1, eV1⟩ : ∃ W9 : ax_V, W9 = ax_u V 804 x3 0 := ⟨_, rfl⟩
    have h := h V1 eV1
    have hg1 : ax_g V1 := eV1 ▸ ax_u_g hg (by decide)
    refine ax_bst (n := 26) (pc' := 80) ⟨_, rfl⟩ az_ok (az_e 10 rfl) (by decide) o3 (by decide) eV1 rfl ?_
    refine ax_mv 1 81 [some (.ref q), some (.ref 150), y2, some (ax_i x3), some (ax_i x4), some (ax_i s0)] [.ref q] rfl ?_
    refine ax_gR (v := .ref (q + 3)) (pc' := 84) ⟨_, rfl⟩ fl_2_18 (az_e 6 rfl) rfl rfl ?_
    refine ax_mv 2 86 [some (.ref q), some (.ref 150), y2, some (ax_i x3), some (ax_i x4), some (ax_i s0)] [.ref 150, ax_i x3, .ref (q + 3)] rfl ?_
    refine ax_gR (v := .ref 152) (pc' := 89) ⟨_, rfl⟩ fl_2_72 (az_e 0 rfl) rfl rfl ?_
    refine ax_mv 1 91 [some (.ref q), some (.ref 150), y2, some (ax_i x3), some (ax_i x4), some (ax_i s0)] [ax_i x4, .ref 152, ax_i x3, .ref (q + 3)] rfl ?_
    obtain ⟨o4, h⟩ := h
    refine ax_ild (n := 208) (pc' := 92) ⟨_, rfl⟩ (az_e 2 rfl) (by decide) o4 rfl ?_
    obtain ⟨o5, h⟩ := h
    obtain ⟨V2, eV2⟩ : ∃ W9 : ax_V, W9 = ax_u V1 803 x3 (V1 152 x4) := ⟨_, rfl⟩
    have h := h V2 eV2
    have hg2 : ax_g V2 := eV2 ▸ ax_u_g hg1 (hg1 _ _)
    refine ax_ist (n := 26) (pc' := 93) ⟨_, rfl⟩ az_ok (az_e 9 rfl) (by decide) o5 eV2 rfl ?_
    refine ax_inc (x := x3) (pc' := 96) (L' := [some (.ref q), some (.ref 150), y2, some (ax_i (x3 + 1)), some (ax_i x4), some (ax_i s0)]) ⟨_, rfl⟩ rfl (ax_kill_y (k := 2) rfl hy2) rfl rfl ?_
    refine ax_mv 1 16 [some (.ref q), some (.ref 150), y2, some (ax_i (x3 + 1)), some (ax_i x4), some (ax_i s0)] [] rfl ?_
    exact h
  · have h := h.2 hc
    refine ax_mv 1 65 [some (.ref q), some (.ref 150), y2, some (ax_i x3), some (ax_i x4), some (ax_i s0)] [.ref 150, ax_i x3, .ref (q + 4)] rfl ?_
    refine ax_gR (v := .ref 153) (pc' := 68) ⟨_, rfl⟩ fl_2_71 (az_e 0 rfl) rfl rfl ?_
    refine ax_mv 1 70 [some (.ref q), some (.ref 150), y2, some (ax_i x3), some (ax_i x4), some (ax_i s0)] [ax_i x4, .ref 153, ax_i x3, .ref (q + 4)] rfl ?_
    obtain ⟨o6, h⟩ := h
    refine ax_bld (n := 208) (pc' := 71) ⟨_, rfl⟩ (az_e 3 rfl) (by decide) o6 rfl ?_
    refine ax_if (p1 := 78) (p2 := 74) ⟨_, rfl⟩ (by decide) rfl (hg _ _) (fun hc => ?_) (fun hc => ?_)
    · have h := h.1 hc
      refine ax_mv 1 79 [some (.ref q), some (.ref 150), y2, some (ax_i x3), some (ax_i x4), some (ax_i s0)] [ax_i 0, ax_i x3, .ref (q + 4)] rfl ?_
      obtain ⟨o7, h⟩ := h
      obtain ⟨V3, eV3⟩ : ∃ W9 : ax_V, W9 = ax_u V 804 x3 0 := ⟨_, rfl⟩
      have h := h V3 eV3
      have hg3 : ax_g V3 := eV3 ▸ ax_u_g hg (by decide)
      refine ax_bst (n := 26) (pc' := 80) ⟨_, rfl⟩ az_ok (az_e 10 rfl) (by decide) o7 (by decide) eV3 rfl ?_
      refine ax_mv 1 81 [some (.ref q), some (.ref 150), y2, some (ax_i x3), some (ax_i x4), some (ax_i s0)] [.ref q] rfl ?_
      refine ax_gR (v := .ref (q + 3)) (pc' := 84) ⟨_, rfl⟩ fl_2_18 (az_e 6 rfl) rfl rfl ?_
      refine ax_mv 2 86 [some (.ref q), some (.ref 150), y2, some (ax_i x3), some (ax_i x4), some (ax_i s0)] [.ref 150, ax_i x3, .ref (q + 3)] rfl ?_
      refine ax_gR (v := .ref 152) (pc' := 89) ⟨_, rfl⟩ fl_2_72 (az_e 0 rfl) rfl rfl ?_
      refine ax_mv 1 91 [some (.ref q), some (.ref 150), y2, some (ax_i x3), some (ax_i x4), some (ax_i s0)] [ax_i x4, .ref 152, ax_i x3, .ref (q + 3)] rfl ?_
      obtain ⟨o8, h⟩ := h
      refine ax_ild (n := 208) (pc' := 92) ⟨_, rfl⟩ (az_e 2 rfl) (by decide) o8 rfl ?_
      obtain ⟨o9, h⟩ := h
      obtain ⟨V4, eV4⟩ : ∃ W9 : ax_V, W9 = ax_u V3 803 x3 (V3 152 x4) := ⟨_, rfl⟩
      have h := h V4 eV4
      have hg4 : ax_g V4 := eV4 ▸ ax_u_g hg3 (hg3 _ _)
      refine ax_ist (n := 26) (pc' := 93) ⟨_, rfl⟩ az_ok (az_e 9 rfl) (by decide) o9 eV4 rfl ?_
      refine ax_inc (x := x3) (pc' := 96) (L' := [some (.ref q), some (.ref 150), y2, some (ax_i (x3 + 1)), some (ax_i x4), some (ax_i s0)]) ⟨_, rfl⟩ rfl (ax_kill_y (k := 2) rfl hy2) rfl rfl ?_
      refine ax_mv 1 16 [some (.ref q), some (.ref 150), y2, some (ax_i (x3 + 1)), some (ax_i x4), some (ax_i s0)] [] rfl ?_
      exact h
    · have h := h.2 hc
      refine ax_mv 2 79 [some (.ref q), some (.ref 150), y2, some (ax_i x3), some (ax_i x4), some (ax_i s0)] [ax_i 1, ax_i x3, .ref (q + 4)] rfl ?_
      obtain ⟨o10, h⟩ := h
      obtain ⟨V5, eV5⟩ : ∃ W9 : ax_V, W9 = ax_u V 804 x3 1 := ⟨_, rfl⟩
      have h := h V5 eV5
      have hg5 : ax_g V5 := eV5 ▸ ax_u_g hg (by decide)
      refine ax_bst (n := 26) (pc' := 80) ⟨_, rfl⟩ az_ok (az_e 10 rfl) (by decide) o10 (by decide) eV5 rfl ?_
      refine ax_mv 1 81 [some (.ref q), some (.ref 150), y2, some (ax_i x3), some (ax_i x4), some (ax_i s0)] [.ref q] rfl ?_
      refine ax_gR (v := .ref (q + 3)) (pc' := 84) ⟨_, rfl⟩ fl_2_18 (az_e 6 rfl) rfl rfl ?_
      refine ax_mv 2 86 [some (.ref q), some (.ref 150), y2, some (ax_i x3), some (ax_i x4), some (ax_i s0)] [.ref 150, ax_i x3, .ref (q + 3)] rfl ?_
      refine ax_gR (v := .ref 152) (pc' := 89) ⟨_, rfl⟩ fl_2_72 (az_e 0 rfl) rfl rfl ?_
      refine ax_mv 1 91 [some (.ref q), some (.ref 150), y2, some (ax_i x3), some (ax_i x4), some (ax_i s0)] [ax_i x4, .ref 152, ax_i x3, .ref (q + 3)] rfl ?_
      obtain ⟨o11, h⟩ := h
      refine ax_ild (n := 208) (pc' := 92) ⟨_, rfl⟩ (az_e 2 rfl) (by decide) o11 rfl ?_
      obtain ⟨o12, h⟩ := h
      obtain ⟨V6, eV6⟩ : ∃ W9 : ax_V, W9 = ax_u V5 803 x3 (V5 152 x4) := ⟨_, rfl⟩
      have h := h V6 eV6
      have hg6 : ax_g V6 := eV6 ▸ ax_u_g hg5 (hg5 _ _)
      refine ax_ist (n := 26) (pc' := 93) ⟨_, rfl⟩ az_ok (az_e 9 rfl) (by decide) o12 eV6 rfl ?_
      refine ax_inc (x := x3) (pc' := 96) (L' := [some (.ref q), some (.ref 150), y2, some (ax_i (x3 + 1)), some (ax_i x4), some (ax_i s0)]) ⟨_, rfl⟩ rfl (ax_kill_y (k := 2) rfl hy2) rfl rfl ?_
      refine ax_mv 1 16 [some (.ref q), some (.ref 150), y2, some (ax_i (x3 + 1)), some (ax_i x4), some (ax_i s0)] [] rfl ?_
      exact h
set_option maxRecDepth 20000 in
theorem r_Instance_takeOver {B : Nat} {q : Nat} {d : Nat} {V : ax_V} {Φ : ax_V → Prop} {Θ : ax_V → Prop} {x2 : Int} (hg : ax_g V) (hx2 : ax_rg x2) (h : ((0 : Int) ≤ 0 ∧ (0 : Int) ≤ 0 ∧ (0 : Int) ≤ x2 ∧ (0 + x2 : Int) ≤ 300 ∧ (0 + x2 : Int) ≤ 300) ∧ (∀ V1, V1 = ax_cp V 155 802 0 0 x2 → k_Instance_takeOver_16 B q d (some (ax_i x2)) 0 none none V1 Φ Θ)) : ax_N (az_W B (az_EI B q)) (d + 1) q_Instance_takeOver [.ref q, .ref 150, ax_i x2] V Φ Θ := by
  refine ax_T.of (M := m_Instance_takeOver) rfl (Nat.le_of_ble_eq_true rfl) ?_
  refine ax_mv 0 0 [some (.ref q), some (.ref 150), some (ax_i x2), none, none, none] [] rfl ?_
  refine ax_mv 1 1 [some (.ref q), some (.ref 150), some (ax_i x2), none, none, none] [.ref 150] rfl ?_
  refine ax_gR (v := .ref 155) (pc' := 4) ⟨_, rfl⟩ fl_2_59 (az_e 0 rfl) rfl rfl ?_
  refine ax_mv 2 6 [some (.ref q), some (.ref 150), some (ax_i x2), none, none, none] [.ref q, ax_i 0, .ref 155] rfl ?_
  refine ax_gR (v := .ref (q + 2)) (pc' := 9) ⟨_, rfl⟩ fl_2_15 (az_e 6 rfl) rfl rfl ?_
  refine ax_mv 2 11 [some (.ref q), some (.ref 150), some (ax_i x2), none, none, none] [ax_i x2, ax_i 0, .ref (q + 2), ax_i 0, .ref 155] rfl ?_
  obtain ⟨o13, h⟩ := h
  obtain ⟨V1, eV1⟩ : ∃ W9 : ax_V, W9 = ax_cp V 155 802 0 0 x2 := ⟨_, rfl⟩
  have h := h V1 eV1
  have hg1 : ax_g V1 := eV1 ▸ ax_cp_g hg
  refine ax_acp (na := 300) (nb := 300) (pc' := 14) ⟨_, rfl⟩ ml_2_53 az_ok (az_e 5 rfl) (az_e 8 rfl) (by decide) (by decide) o13 (Nat.le_of_ble_eq_true rfl) eV1 rfl ?_
  refine ax_mv 1 15 [some (.ref q), some (.ref 150), some (ax_i x2), none, none, none] [ax_i 0] rfl ?_
  refine ax_sti (i := 0) (k := 3) (n := 1) (pc' := 16) (L' := [some (.ref q), some (.ref 150), some (ax_i x2), some (ax_i 0), none, none]) ⟨_, rfl⟩ rfl rfl rfl (Nat.le_of_ble_eq_true rfl) rfl rfl ?_
  exact h
theorem r_Instance_keep {B : Nat} {q : Nat} {d : Nat} {V : ax_V} {Φ : ax_V → Prop} {Θ : ax_V → Prop} {x1 : Int} (hg : ax_g V) (hx1 : ax_rg x1) (h : ((0 : Int) ≤ 0 ∧ (0 : Int) ≤ x1 * 300 ∧ (0 : Int) ≤ 300 ∧ (0 + 300 : Int) ≤ 300 ∧ ((x1 * 300) + 300 : Int) ≤ 1200) ∧ (∀ V1, V1 = ax_cp V 802 805 0 (x1 * 300) 300 → (0 ≤ x1 ∧ x1 < 4) ∧ (∀ V2, V2 = ax_u V1 806 x1 (V1 800 1) → Φ V2))) : ax_N (az_W B (az_EI B q)) (d + 1) q_Instance_keep [.ref q, ax_i x1] V Φ Θ := by
  refine ax_T.of (M := m_Instance_keep) rfl (Nat.le_of_ble_eq_true rfl) ?_
  refine ax_mv 0 0 [some (.ref q), some (ax_i x1)] [] rfl ?_
  refine ax_mv 1 1 [some (.ref q), some (ax_i x1)] [.ref q] rfl ?_
  refine ax_gR (v := .ref (q + 2)) (pc' := 4) ⟨_, rfl⟩ fl_2_15 (az_e 6 rfl) rfl rfl ?_
  refine ax_mv 2 6 [some (.ref q), some (ax_i x1)] [.ref q, ax_i 0, .ref (q + 2)] rfl ?_
  refine ax_gR (v := .ref (q + 5)) (pc' := 9) ⟨_, rfl⟩ fl_2_25 (az_e 6 rfl) rfl rfl ?_
  refine ax_mv 1 10 [some (.ref q), some (ax_i x1)] [ax_i x1, .ref (q + 5), ax_i 0, .ref (q + 2)] rfl ?_
  refine ax_sip (pc' := 13) ⟨_, rfl⟩ (by decide) rfl ?_
  refine ax_mul (pc' := 14) ⟨_, rfl⟩ rfl ?_
  refine ax_sip (pc' := 17) ⟨_, rfl⟩ (by decide) rfl ?_
  obtain ⟨o1, h⟩ := h
  obtain ⟨V1, eV1⟩ : ∃ W9 : ax_V, W9 = ax_cp V 802 805 0 (x1 * 300) 300 := ⟨_, rfl⟩
  have h := h V1 eV1
  have hg1 : ax_g V1 := eV1 ▸ ax_cp_g hg
  refine ax_acp (na := 1200) (nb := 300) (pc' := 20) ⟨_, rfl⟩ ml_2_53 az_ok (az_e 8 rfl) (az_e 11 rfl) (by decide) (by decide) o1 (Nat.le_of_ble_eq_true rfl) eV1 rfl ?_
  refine ax_mv 1 21 [some (.ref q), some (ax_i x1)] [.ref q] rfl ?_
  refine ax_gR (v := .ref (q + 6)) (pc' := 24) ⟨_, rfl⟩ fl_2_28 (az_e 6 rfl) rfl rfl ?_
  refine ax_mv 2 26 [some (.ref q), some (ax_i x1)] [.ref q, ax_i x1, .ref (q + 6)] rfl ?_
  refine ax_gI (kI := 1) (pc' := 29) ⟨_, rfl⟩ fl_2_35 (az_e 6 rfl) rfl rfl rfl ?_
  obtain ⟨o2, h⟩ := h
  obtain ⟨V2, eV2⟩ : ∃ W9 : ax_V, W9 = ax_u V1 806 x1 (V1 800 1) := ⟨_, rfl⟩
  have h := h V2 eV2
  have hg2 : ax_g V2 := eV2 ▸ ax_u_g hg1 (hg1 _ _)
  refine ax_ist (n := 4) (pc' := 30) ⟨_, rfl⟩ az_ok (az_e 12 rfl) (by decide) o2 eV2 rfl ?_
  exact ax_nret ⟨_, rfl⟩ rfl hg2 h
theorem r_Instance_bringBack {B : Nat} {q : Nat} {d : Nat} {V : ax_V} {Φ : Int → ax_V → Prop} {Θ : ax_V → Prop} {x1 : Int} (hg : ax_g V) (hx1 : ax_rg x1) (h : (0 ≤ x1 ∧ x1 < 4) ∧ ((V 806 x1 = -1 → Φ 0 V) ∧ (¬ V 806 x1 = -1 → ((0 : Int) ≤ x1 * 300 ∧ (0 : Int) ≤ 0 ∧ (0 : Int) ≤ 300 ∧ ((x1 * 300) + 300 : Int) ≤ 1200 ∧ (0 + 300 : Int) ≤ 300) ∧ (∀ V1, V1 = ax_cp V 805 802 (x1 * 300) 0 300 → (0 ≤ x1 ∧ x1 < 4) ∧ (∀ V2, V2 = ax_u V1 800 1 (V1 806 x1) → Φ 1 V2))))) : ax_I (az_W B (az_EI B q)) (d + 1) q_Instance_bringBack [.ref q, ax_i x1] V Φ Θ := by
  refine ax_T.of (M := m_Instance_bringBack) rfl (Nat.le_of_ble_eq_true rfl) ?_
  refine ax_mv 0 0 [some (.ref q), some (ax_i x1)] [] rfl ?_
  refine ax_mv 1 1 [some (.ref q), some (ax_i x1)] [.ref q] rfl ?_
  refine ax_gR (v := .ref (q + 6)) (pc' := 4) ⟨_, rfl⟩ fl_2_28 (az_e 6 rfl) rfl rfl ?_
  refine ax_mv 1 5 [some (.ref q), some (ax_i x1)] [ax_i x1, .ref (q + 6)] rfl ?_
  obtain ⟨o1, h⟩ := h
  refine ax_ild (n := 4) (pc' := 6) ⟨_, rfl⟩ (az_e 12 rfl) (by decide) o1 rfl ?_
  refine ax_mv 1 7 [some (.ref q), some (ax_i x1)] [ax_i (-1), ax_i (V 806 x1)] rfl ?_
  refine ax_if2 (p1 := 12) (p2 := 10) ⟨_, rfl⟩ (by decide) rfl (hg _ _) (by decide) (fun hc => ?_) (fun hc => ?_)
  · have h := h.2 hc
    refine ax_mv 1 13 [some (.ref q), some (ax_i x1)] [.ref q] rfl ?_
    refine ax_gR (v := .ref (q + 5)) (pc' := 16) ⟨_, rfl⟩ fl_2_25 (az_e 6 rfl) rfl rfl ?_
    refine ax_mv 1 17 [some (.ref q), some (ax_i x1)] [ax_i x1, .ref (q + 5)] rfl ?_
    refine ax_sip (pc' := 20) ⟨_, rfl⟩ (by decide) rfl ?_
    refine ax_mul (pc' := 21) ⟨_, rfl⟩ rfl ?_
    refine ax_mv 1 22 [some (.ref q), some (ax_i x1)] [.ref q, ax_i (x1 * 300), .ref (q + 5)] rfl ?_
    refine ax_gR (v := .ref (q + 2)) (pc' := 25) ⟨_, rfl⟩ fl_2_15 (az_e 6 rfl) rfl rfl ?_
    refine ax_mv 1 26 [some (.ref q), some (ax_i x1)] [ax_i 0, .ref (q + 2), ax_i (x1 * 300), .ref (q + 5)] rfl ?_
    refine ax_sip (pc' := 29) ⟨_, rfl⟩ (by decide) rfl ?_
    obtain ⟨o2, h⟩ := h
    obtain ⟨V1, eV1⟩ : ∃ W9 : ax_V, W9 = ax_cp V 805 802 (x1 * 300) 0 300 := ⟨_, rfl⟩
    have h := h V1 eV1
    have hg1 : ax_g V1 := eV1 ▸ ax_cp_g hg
    refine ax_acp (na := 300) (nb := 1200) (pc' := 32) ⟨_, rfl⟩ ml_2_53 az_ok (az_e 11 rfl) (az_e 8 rfl) (by decide) (by decide) o2 (Nat.le_of_ble_eq_true rfl) eV1 rfl ?_
    refine ax_mv 2 34 [some (.ref q), some (ax_i x1)] [.ref q, .ref q] rfl ?_
    refine ax_gR (v := .ref (q + 6)) (pc' := 37) ⟨_, rfl⟩ fl_2_28 (az_e 6 rfl) rfl rfl ?_
    refine ax_mv 1 38 [some (.ref q), some (ax_i x1)] [ax_i x1, .ref (q + 6), .ref q] rfl ?_
    obtain ⟨o3, h⟩ := h
    refine ax_ild (n := 4) (pc' := 39) ⟨_, rfl⟩ (az_e 12 rfl) (by decide) o3 rfl ?_
    obtain ⟨V2, eV2⟩ : ∃ W9 : ax_V, W9 = ax_u V1 800 1 (V1 806 x1) := ⟨_, rfl⟩
    have h := h V2 eV2
    have hg2 : ax_g V2 := eV2 ▸ ax_u_g hg1 (hg1 _ _)
    refine ax_pI (kI := 1) (pc' := 42) ⟨_, rfl⟩ fl_2_35 az_ok (az_e 6 rfl) rfl rfl rfl rfl eV2 rfl ?_
    refine ax_mv 1 43 [some (.ref q), some (ax_i x1)] [ax_i 1] rfl ?_
    exact ax_iret ⟨_, rfl⟩ rfl (ax_nbv (by decide)) (by decide) hg2 h
  · have h := h.1 (Classical.not_not.mp hc)
    refine ax_mv 1 11 [some (.ref q), some (ax_i x1)] [ax_i 0] rfl ?_
    exact ax_iret ⟨_, rfl⟩ rfl (ax_nbv (by decide)) (by decide) hg h
abbrev k_Prover_search_37 (B : Nat) (w : Nat) (nw : Nat) (d : Nat) (x1 : Int) (x2 : Int) (y3 : Option Value) (y4 : Option Value) (V : ax_V) (Φ : Int → ax_V → Prop) (Θ : ax_V → Prop) : Prop := ax_R (az_W B (az_EP B w nw)) ax_t d m_Prover_search 37 [some (.ref 157), some (ax_i x1), some (ax_i x2), y3, y4] [] V (ax_Ir Φ) Θ
abbrev k_Prover_search_54 (B : Nat) (w : Nat) (nw : Nat) (d : Nat) (x1 : Int) (x2 : Int) (x3 : Int) (y4 : Option Value) (V : ax_V) (Φ : Int → ax_V → Prop) (Θ : ax_V → Prop) : Prop := ax_R (az_W B (az_EP B w nw)) ax_t d m_Prover_search 54 [some (.ref 157), some (ax_i x1), some (ax_i x2), some (ax_i x3), y4] [] V (ax_Ir Φ) Θ
abbrev k_Prover_search_62 (B : Nat) (w : Nat) (nw : Nat) (d : Nat) (x1 : Int) (x2 : Int) (x3 : Int) (x4 : Int) (V : ax_V) (Φ : Int → ax_V → Prop) (Θ : ax_V → Prop) : Prop := ax_R (az_W B (az_EP B w nw)) ax_t d m_Prover_search 62 [some (.ref 157), some (ax_i x1), some (ax_i x2), some (ax_i x3), some (ax_i x4)] [] V (ax_Ir Φ) Θ
set_option maxRecDepth 20000 in
theorem r_Prover_search_37 {B : Nat} {w : Nat} {nw : Nat} (hnw : nw ≤ 1000000) {d : Nat} {V : ax_V} {Φ : Int → ax_V → Prop} {Θ : ax_V → Prop} {x1 : Int} {x2 : Int} {y3 : Option Value} {y4 : Option Value} (hg : ax_g V) (hx1 : ax_rg x1) (hx2 : ax_rg x2) (hy3 : ax_y y3) (hy4 : ax_y y4) (h : ((V 157 1 ≤ x2 → Φ 1 V) ∧ (x2 < V 157 1 → ((300 ≤ x2 → Φ 1 V) ∧ (x2 < 300 → k_Prover_search_54 B w nw d x1 x2 0 y4 V Φ Θ))))) : k_Prover_search_37 B w nw d x1 x2 y3 y4 V Φ Θ := by
  refine ax_mv 2 39 [some (.ref 157), some (ax_i x1), some (ax_i x2), y3, y4] [.ref 157, ax_i x2] rfl ?_
  refine ax_gI (kI := 1) (pc' := 42) ⟨_, rfl⟩ fl_9_84 (az_e 6 rfl) rfl rfl rfl ?_
  refine ax_if2 (p1 := 154) (p2 := 45) ⟨_, rfl⟩ (by decide) rfl hx2 (hg _ _) (fun hc => ?_) (fun hc => ?_)
  · have h := h.1 hc
    refine ax_mv 1 155 [some (.ref 157), some (ax_i x1), some (ax_i x2), y3, y4] [ax_i 1] rfl ?_
    exact ax_iret ⟨_, rfl⟩ rfl rfl (by decide) hg h
  · have h := h.2 (Int.not_le.mp hc)
    refine ax_mv 1 46 [some (.ref 157), some (ax_i x1), some (ax_i x2), y3, y4] [ax_i x2] rfl ?_
    refine ax_sip (pc' := 49) ⟨_, rfl⟩ (by decide) rfl ?_
    refine ax_if2 (p1 := 154) (p2 := 52) ⟨_, rfl⟩ (by decide) rfl hx2 (by decide) (fun hc => ?_) (fun hc => ?_)
    · have h := h.1 hc
      refine ax_mv 1 155 [some (.ref 157), some (ax_i x1), some (ax_i x2), y3, y4] [ax_i 1] rfl ?_
      exact ax_iret ⟨_, rfl⟩ rfl rfl (by decide) hg h
    · have h := h.2 (Int.not_le.mp hc)
      refine ax_mv 1 53 [some (.ref 157), some (ax_i x1), some (ax_i x2), y3, y4] [ax_i 0] rfl ?_
      refine ax_sti (i := 0) (k := 3) (n := 1) (pc' := 54) (L' := [some (.ref 157), some (ax_i x1), some (ax_i x2), some (ax_i 0), y4]) ⟨_, rfl⟩ rfl rfl rfl (Nat.le_of_ble_eq_true rfl) rfl rfl ?_
      exact h
set_option maxRecDepth 20000 in
theorem r_Prover_search_54 {B : Nat} {w : Nat} {nw : Nat} (hnw : nw ≤ 1000000) {d : Nat} {V : ax_V} {Φ : Int → ax_V → Prop} {Θ : ax_V → Prop} {x1 : Int} {x2 : Int} {x3 : Int} {y4 : Option Value} (hg : ax_g V) (hx1 : ax_rg x1) (hx2 : ax_rg x2) (hx3 : ax_rg x3) (hy4 : ax_y y4) (h : ((x1 ≤ x3 → k_Prover_search_37 B w nw d x1 (x2 + 1) (some (ax_i x3)) y4 V Φ Θ) ∧ (x3 < x1 → k_Prover_search_62 B w nw d x1 x2 x3 0 V Φ Θ))) : k_Prover_search_54 B w nw d x1 x2 x3 y4 V Φ Θ := by
  refine ax_mv 2 56 [some (.ref 157), some (ax_i x1), some (ax_i x2), some (ax_i x3), y4] [ax_i x1, ax_i x3] rfl ?_
  refine ax_if2 (p1 := 148) (p2 := 59) ⟨_, rfl⟩ (by decide) rfl hx3 hx1 (fun hc => ?_) (fun hc => ?_)
  · have h := h.1 hc
    refine ax_inc (x := x2) (pc' := 151) (L' := [some (.ref 157), some (ax_i x1), some (ax_i (x2 + 1)), some (ax_i x3), y4]) ⟨_, rfl⟩ rfl rfl rfl rfl ?_
    refine ax_mv 1 37 [some (.ref 157), some (ax_i x1), some (ax_i (x2 + 1)), some (ax_i x3), y4] [] rfl ?_
    exact h
  · have h := h.2 (Int.not_le.mp hc)
    refine ax_mv 1 60 [some (.ref 157), some (ax_i x1), some (ax_i x2), some (ax_i x3), y4] [ax_i 0] rfl ?_
    refine ax_sti (i := 0) (k := 4) (n := 2) (pc' := 62) (L' := [some (.ref 157), some (ax_i x1), some (ax_i x2), some (ax_i x3), some (ax_i 0)]) ⟨_, rfl⟩ rfl rfl rfl (Nat.le_of_ble_eq_true rfl) rfl rfl ?_
    exact h
set_option maxRecDepth 20000 in
theorem r_Prover_search_62 {B : Nat} {w : Nat} {nw : Nat} (hnw : nw ≤ 1000000) {d : Nat} {V : ax_V} {Φ : Int → ax_V → Prop} {Θ : ax_V → Prop} {x1 : Int} {x2 : Int} {x3 : Int} {x4 : Int} (hg : ax_g V) (hx1 : ax_rg x1) (hx2 : ax_rg x2) (hx3 : ax_rg x3) (hx4 : ax_rg x4) (h : ((4 ≤ x4 → ax_I (az_W B (az_EP B w nw)) d q_Prover_holds [.ref 157, ax_i x2] V (fun r1 V1 => ((r1 = 0 → ax_N (az_W B (az_EP B w nw)) d q_Prover_tellPath [.ref 157, ax_i x2, ax_i x3] V1 (fun V5 => Φ 0 V5) Θ) ∧ (¬ r1 = 0 → ax_I (az_W B (az_EP B w nw)) d q_Prover_findSpot [.ref 157] V1 (fun r2 V2 => ((r2 = -1 → ((r2 = -1 → k_Prover_search_54 B w nw d x1 x2 (x3 + 1) (some (ax_i r2)) V2 Φ Θ) ∧ (¬ r2 = -1 → ax_N (az_W B (az_EP B w nw)) d q_Prover_keepRow [.ref 157, ax_i r2, ax_i x2, ax_i x3] V2 (fun V3 => k_Prover_search_54 B w nw d x1 x2 (x3 + 1) (some (ax_i r2)) V3 Φ Θ) Θ))) ∧ (¬ r2 = -1 → ((V2 157 1 < V2 157 16 → ((r2 = -1 → k_Prover_search_54 B w nw d x1 x2 (x3 + 1) (some (ax_i r2)) V2 Φ Θ) ∧ (¬ r2 = -1 → ax_N (az_W B (az_EP B w nw)) d q_Prover_keepRow [.ref 157, ax_i r2, ax_i x2, ax_i x3] V2 (fun V4 => k_Prover_search_54 B w nw d x1 x2 (x3 + 1) (some (ax_i r2)) V4 Φ Θ) Θ))) ∧ (V2 157 16 ≤ V2 157 1 → Φ 2 V2))))) Θ))) Θ) ∧ (x4 < 4 → (0 ≤ x4 ∧ x4 < 4) ∧ (∀ V6, V6 = ax_u V 165 x4 (ax_and (ax_shr x3 x4) 1) → k_Prover_search_62 B w nw d x1 x2 x3 (x4 + 1) V6 Φ Θ)))) : k_Prover_search_62 B w nw d x1 x2 x3 x4 V Φ Θ := by
  refine ax_mv 2 65 [some (.ref 157), some (ax_i x1), some (ax_i x2), some (ax_i x3), some (ax_i x4)] [ax_i 4, ax_i x4] rfl ?_
  refine ax_if2 (p1 := 87) (p2 := 68) ⟨_, rfl⟩ (by decide) rfl hx4 (by decide) (fun hc => ?_) (fun hc => ?_)
  · have h := h.1 hc
    refine ax_mv 2 89 [some (.ref 157), some (ax_i x1), some (ax_i x2), some (ax_i x3), some (ax_i x4)] [ax_i x2, .ref 157] rfl ?_
    refine ax_callI (pc' := 92) ⟨_, rfl⟩ ml_9_100 (rest := []) rfl (fun ss hs => ⟨_, _, (az_e 6 rfl) ss hs⟩) (Nat.le_of_ble_eq_true rfl) rfl rfl h (fun r1 V1 hg1 hr1 h => ?_)
    refine ax_if (p1 := 103) (p2 := 95) ⟨_, rfl⟩ (by decide) rfl hr1 (fun hc => ?_) (fun hc => ?_)
    · have h := h.2 hc
      refine ax_mv 1 104 [some (.ref 157), some (ax_i x1), some (ax_i x2), some (ax_i x3), some (ax_i x4)] [.ref 157] rfl ?_
      refine ax_callI (pc' := 107) ⟨_, rfl⟩ ml_9_108 (rest := []) rfl (fun ss hs => ⟨_, _, (az_e 6 rfl) ss hs⟩) (Nat.le_of_ble_eq_true rfl) rfl rfl h (fun r2 V2 hg2 hr2 h => ?_)
      refine ax_sti (i := 0) (k := 4) (n := 2) (pc' := 109) (L' := [some (.ref 157), some (ax_i x1), some (ax_i x2), some (ax_i x3), some (ax_i r2)]) ⟨_, rfl⟩ rfl rfl rfl (Nat.le_of_ble_eq_true rfl) rfl rfl ?_
      refine ax_mv 2 112 [some (.ref 157), some (ax_i x1), some (ax_i x2), some (ax_i x3), some (ax_i r2)] [ax_i (-1), ax_i r2] rfl ?_
      refine ax_if2 (p1 := 128) (p2 := 115) ⟨_, rfl⟩ (by decide) rfl hr2 (by decide) (fun hc => ?_) (fun hc => ?_)
      · have h := h.1 hc
        refine ax_mv 2 131 [some (.ref 157), some (ax_i x1), some (ax_i x2), some (ax_i x3), some (ax_i r2)] [ax_i (-1), ax_i r2] rfl ?_
        refine ax_if2 (p1 := 142) (p2 := 134) ⟨_, rfl⟩ (by decide) rfl hr2 (by decide) (fun hc => ?_) (fun hc => ?_)
        · have h := h.1 hc
          refine ax_inc (x := x3) (pc' := 145) (L' := [some (.ref 157), some (ax_i x1), some (ax_i x2), some (ax_i (x3 + 1)), some (ax_i r2)]) ⟨_, rfl⟩ rfl rfl rfl rfl ?_
          refine ax_mv 1 54 [some (.ref 157), some (ax_i x1), some (ax_i x2), some (ax_i (x3 + 1)), some (ax_i r2)] [] rfl ?_
          exact h
        · have h := h.2 hc
          refine ax_mv 4 139 [some (.ref 157), some (ax_i x1), some (ax_i x2), some (ax_i x3), some (ax_i r2)] [ax_i x3, ax_i x2, ax_i r2, .ref 157] rfl ?_
          refine ax_callN (pc' := 142) ⟨_, rfl⟩ ml_9_112 (rest := []) rfl (fun ss hs => ⟨_, _, (az_e 6 rfl) ss hs⟩) (Nat.le_of_ble_eq_true rfl) rfl rfl h (fun V3 hg3 h => ?_)
          refine ax_inc (x := x3) (pc' := 145) (L' := [some (.ref 157), some (ax_i x1), some (ax_i x2), some (ax_i (x3 + 1)), some (ax_i r2)]) ⟨_, rfl⟩ rfl rfl rfl rfl ?_
          refine ax_mv 1 54 [some (.ref 157), some (ax_i x1), some (ax_i x2), some (ax_i (x3 + 1)), some (ax_i r2)] [] rfl ?_
          exact h
      · have h := h.2 hc
        refine ax_mv 1 116 [some (.ref 157), some (ax_i x1), some (ax_i x2), some (ax_i x3), some (ax_i r2)] [.ref 157] rfl ?_
        refine ax_gI (kI := 1) (pc' := 119) ⟨_, rfl⟩ fl_9_84 (az_e 6 rfl) rfl rfl rfl ?_
        refine ax_mv 1 120 [some (.ref 157), some (ax_i x1), some (ax_i x2), some (ax_i x3), some (ax_i r2)] [.ref 157, ax_i (V2 157 1)] rfl ?_
        refine ax_gI (kI := 16) (pc' := 123) ⟨_, rfl⟩ fl_9_57 (az_e 6 rfl) rfl rfl rfl ?_
        refine ax_if2 (p1 := 128) (p2 := 126) ⟨_, rfl⟩ (by decide) rfl (hg2 _ _) (hg2 _ _) (fun hc => ?_) (fun hc => ?_)
        · have h := h.1 hc
          refine ax_mv 2 131 [some (.ref 157), some (ax_i x1), some (ax_i x2), some (ax_i x3), some (ax_i r2)] [ax_i (-1), ax_i r2] rfl ?_
          refine ax_if2 (p1 := 142) (p2 := 134) ⟨_, rfl⟩ (by decide) rfl hr2 (by decide) (fun hc => ?_) (fun hc => ?_)
          · have h := h.1 hc
            refine ax_inc (x := x3) (pc' := 145) (L' := [some (.ref 157), some (ax_i x1), some (ax_i x2), some (ax_i (x3 + 1)), some (ax_i r2)]) ⟨_, rfl⟩ rfl rfl rfl rfl ?_
            refine ax_mv 1 54 [some (.ref 157), some (ax_i x1), some (ax_i x2), some (ax_i (x3 + 1)), some (ax_i r2)] [] rfl ?_
            exact h
          · have h := h.2 hc
            refine ax_mv 4 139 [some (.ref 157), some (ax_i x1), some (ax_i x2), some (ax_i x3), some (ax_i r2)] [ax_i x3, ax_i x2, ax_i r2, .ref 157] rfl ?_
            refine ax_callN (pc' := 142) ⟨_, rfl⟩ ml_9_112 (rest := []) rfl (fun ss hs => ⟨_, _, (az_e 6 rfl) ss hs⟩) (Nat.le_of_ble_eq_true rfl) rfl rfl h (fun V4 hg4 h => ?_)
            refine ax_inc (x := x3) (pc' := 145) (L' := [some (.ref 157), some (ax_i x1), some (ax_i x2), some (ax_i (x3 + 1)), some (ax_i r2)]) ⟨_, rfl⟩ rfl rfl rfl rfl ?_
            refine ax_mv 1 54 [some (.ref 157), some (ax_i x1), some (ax_i x2), some (ax_i (x3 + 1)), some (ax_i r2)] [] rfl ?_
            exact h
        · have h := h.2 (Int.not_lt.mp hc)
          refine ax_mv 1 127 [some (.ref 157), some (ax_i x1), some (ax_i x2), some (ax_i x3), some (ax_i r2)] [ax_i 2] rfl ?_
          exact ax_iret ⟨_, rfl⟩ rfl rfl (by decide) hg2 h
    · have h := h.1 (Classical.not_not.mp hc)
      refine ax_mv 3 98 [some (.ref 157), some (ax_i x1), some (ax_i x2), some (ax_i x3), some (ax_i x4)] [ax_i x3, ax_i x2, .ref 157] rfl ?_
      refine ax_callN (pc' := 101) ⟨_, rfl⟩ ml_9_104 (rest := []) rfl (fun ss hs => ⟨_, _, (az_e 6 rfl) ss hs⟩) (Nat.le_of_ble_eq_true rfl) rfl rfl h (fun V5 hg5 h => ?_)
      refine ax_mv 1 102 [some (.ref 157), some (ax_i x1), some (ax_i x2), some (ax_i x3), some (ax_i x4)] [ax_i 0] rfl ?_
      exact ax_iret ⟨_, rfl⟩ rfl rfl (by decide) hg5 h
  · have h := h.2 (Int.not_le.mp hc)
    refine ax_mv 1 69 [some (.ref 157), some (ax_i x1), some (ax_i x2), some (ax_i x3), some (ax_i x4)] [.ref 157] rfl ?_
    refine ax_gR (v := .ref 165) (pc' := 72) ⟨_, rfl⟩ fl_9_33 (az_e 6 rfl) rfl rfl ?_
    refine ax_mv 3 77 [some (.ref 157), some (ax_i x1), some (ax_i x2), some (ax_i x3), some (ax_i x4)] [ax_i x4, ax_i x3, ax_i x4, .ref 165] rfl ?_
    refine ax_rshr (pc' := 78) ⟨_, rfl⟩ rfl ?_
    refine ax_mv 1 79 [some (.ref 157), some (ax_i x1), some (ax_i x2), some (ax_i x3), some (ax_i x4)] [ax_i 1, ax_i (ax_shr x3 x4), ax_i x4, .ref 165] rfl ?_
    refine ax_rand (pc' := 80) ⟨_, rfl⟩ rfl ?_
    obtain ⟨o1, h⟩ := h
    obtain ⟨V6, eV6⟩ : ∃ W9 : ax_V, W9 = ax_u V 165 x4 (ax_and (ax_shr x3 x4) 1) := ⟨_, rfl⟩
    have h := h V6 eV6
    have hg6 : ax_g V6 := eV6 ▸ ax_u_g hg (ax_rg_of _)
    refine ax_ist (n := 4) (pc' := 81) ⟨_, rfl⟩ az_ok (az_e 13 rfl) (by decide) o1 eV6 rfl ?_
    refine ax_inc (x := x4) (pc' := 84) (L' := [some (.ref 157), some (ax_i x1), some (ax_i x2), some (ax_i x3), some (ax_i (x4 + 1))]) ⟨_, rfl⟩ rfl rfl rfl rfl ?_
    refine ax_mv 1 62 [some (.ref 157), some (ax_i x1), some (ax_i x2), some (ax_i x3), some (ax_i (x4 + 1))] [] rfl ?_
    exact h
set_option maxRecDepth 20000 in
theorem r_Prover_search {B : Nat} {w : Nat} {nw : Nat} (hnw : nw ≤ 1000000) {d : Nat} {V : ax_V} {Φ : Int → ax_V → Prop} {Θ : ax_V → Prop} (hg : ax_g V) (h : ax_N (az_W B (az_EP B w nw)) d q_Prover_takeFirstRow [.ref 157] V (fun V1 => (0 ≤ V1 157 13 ∧ V1 157 13 < 8) ∧ k_Prover_search_37 B w nw d (ax_shl 1 (V1 503 (V1 157 13))) 0 none none V1 Φ Θ) Θ) : ax_I (az_W B (az_EP B w nw)) (d + 1) q_Prover_search [.ref 157] V Φ Θ := by
  refine ax_T.of (M := m_Prover_search) rfl (Nat.le_of_ble_eq_true rfl) ?_
  refine ax_mv 0 0 [some (.ref 157), none, none, none, none] [] rfl ?_
  refine ax_mv 1 1 [some (.ref 157), none, none, none, none] [.ref 157] rfl ?_
  refine ax_gR (v := .ref 150) (pc' := 4) ⟨_, rfl⟩ fl_9_36 (az_e 6 rfl) rfl rfl ?_
  refine ax_mv 1 7 [some (.ref 157), none, none, none, none] [] rfl ?_
  refine ax_mv 1 8 [some (.ref 157), none, none, none, none] [.ref 157] rfl ?_
  refine ax_gR (v := .ref B) (pc' := 11) ⟨_, rfl⟩ fl_9_46 (az_e 6 rfl) rfl rfl ?_
  refine ax_mv 1 16 [some (.ref 157), none, none, none, none] [] rfl ?_
  refine ax_mv 1 17 [some (.ref 157), none, none, none, none] [.ref 157] rfl ?_
  refine ax_callN (pc' := 20) ⟨_, rfl⟩ ml_9_94 (rest := []) rfl (fun ss hs => ⟨_, _, (az_e 6 rfl) ss hs⟩) (Nat.le_of_ble_eq_true rfl) rfl rfl h (fun V1 hg1 h => ?_)
  refine ax_mv 2 22 [some (.ref 157), none, none, none, none] [.ref 157, ax_i 1] rfl ?_
  refine ax_gR (v := .ref B) (pc' := 25) ⟨_, rfl⟩ fl_9_46 (az_e 6 rfl) rfl rfl ?_
  refine ax_gR (v := .ref (B + 3)) (pc' := 28) ⟨_, rfl⟩ fl_9_97 (az_b 0 rfl) rfl rfl ?_
  refine ax_mv 1 29 [some (.ref 157), none, none, none, none] [.ref 157, .ref (B + 3), ax_i 1] rfl ?_
  refine ax_gI (kI := 13) (pc' := 32) ⟨_, rfl⟩ fl_9_47 (az_e 6 rfl) rfl rfl rfl ?_
  obtain ⟨o2, h⟩ := h
  refine ax_ild (n := 8) (pc' := 33) ⟨_, rfl⟩ (az_b 3 rfl) (by decide) o2 rfl ?_
  refine ax_rshl (pc' := 34) ⟨_, rfl⟩ rfl ?_
  refine ax_sti (i := 0) (k := 1) (n := 1) (pc' := 35) (L' := [some (.ref 157), some (ax_i (ax_shl 1 (V1 503 (V1 157 13)))), none, none, none]) ⟨_, rfl⟩ rfl rfl rfl (Nat.le_of_ble_eq_true rfl) rfl rfl ?_
  refine ax_mv 1 36 [some (.ref 157), some (ax_i (ax_shl 1 (V1 503 (V1 157 13)))), none, none, none] [ax_i 0] rfl ?_
  refine ax_sti (i := 0) (k := 2) (n := 1) (pc' := 37) (L' := [some (.ref 157), some (ax_i (ax_shl 1 (V1 503 (V1 157 13)))), some (ax_i 0), none, none]) ⟨_, rfl⟩ rfl rfl rfl (Nat.le_of_ble_eq_true rfl) rfl rfl ?_
  exact h
theorem r_Prover_takeFirstRow {B : Nat} {w : Nat} {nw : Nat} (hnw : nw ≤ 1000000) {d : Nat} {V : ax_V} {Φ : ax_V → Prop} {Θ : ax_V → Prop} (hg : ax_g V) (h : (0 ≤ V 157 13 ∧ V 157 13 < 8) ∧ ((0 : Int) ≤ (V 157 13) * 300 ∧ (0 : Int) ≤ 0 ∧ (0 : Int) ≤ V 514 (V 157 13) ∧ (((V 157 13) * 300) + (V 514 (V 157 13)) : Int) ≤ 2400 ∧ (0 + (V 514 (V 157 13)) : Int) ≤ 600) ∧ (∀ V1, V1 = ax_cp V 515 160 ((V 157 13) * 300) 0 (V 514 (V 157 13)) → ((V1 157 14 < 0 → ax_I (az_W B (az_EP B w nw)) d q_Prover_findSpot [.ref 157] V1 (fun r2 V2 => ((r2 = -1 → Φ V2) ∧ (¬ r2 = -1 → ax_N (az_W B (az_EP B w nw)) d q_Prover_keepRow [.ref 157, ax_i r2, ax_i (-1), ax_i 0] V2 (fun V3 => Φ V3) Θ))) Θ) ∧ (0 ≤ V1 157 14 → ((0 : Int) ≤ (V1 157 14) * 300 ∧ (0 : Int) ≤ V 514 (V 157 13) ∧ (0 : Int) ≤ (V1 157 17) - (V 514 (V 157 13)) ∧ (((V1 157 14) * 300) + ((V1 157 17) - (V 514 (V 157 13))) : Int) ≤ 2400 ∧ ((V 514 (V 157 13)) + ((V1 157 17) - (V 514 (V 157 13))) : Int) ≤ 600) ∧ (∀ V4, V4 = ax_cp V1 515 160 ((V1 157 14) * 300) (V 514 (V 157 13)) ((V1 157 17) - (V 514 (V 157 13))) → ax_I (az_W B (az_EP B w nw)) d q_Prover_findSpot [.ref 157] V4 (fun r5 V5 => ((r5 = -1 → Φ V5) ∧ (¬ r5 = -1 → ax_N (az_W B (az_EP B w nw)) d q_Prover_keepRow [.ref 157, ax_i r5, ax_i (-1), ax_i 0] V5 (fun V6 => Φ V6) Θ))) Θ))))) : ax_N (az_W B (az_EP B w nw)) (d + 1) q_Prover_takeFirstRow [.ref 157] V Φ Θ := by
  refine ax_T.of (M := m_Prover_takeFirstRow) rfl (Nat.le_of_ble_eq_true rfl) ?_
  refine ax_mv 0 0 [some (.ref 157), none, none] [] rfl ?_
  refine ax_mv 1 1 [some (.ref 157), none, none] [.ref 157] rfl ?_
  refine ax_gR (v := .ref B) (pc' := 4) ⟨_, rfl⟩ fl_9_46 (az_e 6 rfl) rfl rfl ?_
  refine ax_gR (v := .ref (B + 14)) (pc' := 7) ⟨_, rfl⟩ fl_9_60 (az_b 0 rfl) rfl rfl ?_
  refine ax_mv 1 8 [some (.ref 157), none, none] [.ref 157, .ref (B + 14)] rfl ?_
  refine ax_gI (kI := 13) (pc' := 11) ⟨_, rfl⟩ fl_9_47 (az_e 6 rfl) rfl rfl rfl ?_
  obtain ⟨o1, h⟩ := h
  refine ax_ild (n := 8) (pc' := 12) ⟨_, rfl⟩ (az_b 14 rfl) (by decide) o1 rfl ?_
  refine ax_sti (i := 0) (k := 1) (n := 1) (pc' := 13) (L' := [some (.ref 157), some (ax_i (V 514 (V 157 13))), none]) ⟨_, rfl⟩ rfl rfl rfl (Nat.le_of_ble_eq_true rfl) rfl rfl ?_
  refine ax_mv 1 14 [some (.ref 157), some (ax_i (V 514 (V 157 13))), none] [.ref 157] rfl ?_
  refine ax_gR (v := .ref B) (pc' := 17) ⟨_, rfl⟩ fl_9_46 (az_e 6 rfl) rfl rfl ?_
  refine ax_gR (v := .ref (B + 15)) (pc' := 20) ⟨_, rfl⟩ fl_9_116 (az_b 0 rfl) rfl rfl ?_
  refine ax_mv 1 21 [some (.ref 157), some (ax_i (V 514 (V 157 13))), none] [.ref 157, .ref (B + 15)] rfl ?_
  refine ax_gI (kI := 13) (pc' := 24) ⟨_, rfl⟩ fl_9_47 (az_e 6 rfl) rfl rfl rfl ?_
  refine ax_sip (pc' := 27) ⟨_, rfl⟩ (by decide) rfl ?_
  refine ax_mul (pc' := 28) ⟨_, rfl⟩ rfl ?_
  refine ax_mv 1 29 [some (.ref 157), some (ax_i (V 514 (V 157 13))), none] [.ref 157, ax_i ((V 157 13) * 300), .ref (B + 15)] rfl ?_
  refine ax_gR (v := .ref 160) (pc' := 32) ⟨_, rfl⟩ fl_9_18 (az_e 6 rfl) rfl rfl ?_
  refine ax_mv 2 34 [some (.ref 157), some (ax_i (V 514 (V 157 13))), none] [ax_i (V 514 (V 157 13)), ax_i 0, .ref 160, ax_i ((V 157 13) * 300), .ref (B + 15)] rfl ?_
  obtain ⟨o2, h⟩ := h
  obtain ⟨V1, eV1⟩ : ∃ W9 : ax_V, W9 = ax_cp V 515 160 ((V 157 13) * 300) 0 (V 514 (V 157 13)) := ⟨_, rfl⟩
  have h := h V1 eV1
  have hg1 : ax_g V1 := eV1 ▸ ax_cp_g hg
  refine ax_acp (na := 600) (nb := 2400) (pc' := 37) ⟨_, rfl⟩ ml_9_119 az_ok (az_b 15 rfl) (az_e 8 rfl) (by decide) (by decide) o2 (Nat.le_of_ble_eq_true rfl) eV1 rfl ?_
  refine ax_mv 1 38 [some (.ref 157), some (ax_i (V 514 (V 157 13))), none] [.ref 157] rfl ?_
  refine ax_gI (kI := 14) (pc' := 41) ⟨_, rfl⟩ fl_9_51 (az_e 6 rfl) rfl rfl rfl ?_
  refine ax_if (p1 := 73) (p2 := 44) ⟨_, rfl⟩ (by decide) rfl (hg1 _ _) (fun hc => ?_) (fun hc => ?_)
  · have h := h.1 hc
    refine ax_mv 1 74 [some (.ref 157), some (ax_i (V 514 (V 157 13))), none] [.ref 157] rfl ?_
    refine ax_callI (pc' := 77) ⟨_, rfl⟩ ml_9_108 (rest := []) rfl (fun ss hs => ⟨_, _, (az_e 6 rfl) ss hs⟩) (Nat.le_of_ble_eq_true rfl) rfl rfl h (fun r2 V2 hg2 hr2 h => ?_)
    refine ax_sti (i := 0) (k := 2) (n := 1) (pc' := 78) (L' := [some (.ref 157), some (ax_i (V 514 (V 157 13))), some (ax_i r2)]) ⟨_, rfl⟩ rfl rfl rfl (Nat.le_of_ble_eq_true rfl) rfl rfl ?_
    refine ax_mv 2 80 [some (.ref 157), some (ax_i (V 514 (V 157 13))), some (ax_i r2)] [ax_i (-1), ax_i r2] rfl ?_
    refine ax_if2 (p1 := 90) (p2 := 83) ⟨_, rfl⟩ (by decide) rfl hr2 (by decide) (fun hc => ?_) (fun hc => ?_)
    · have h := h.1 hc
      exact ax_nret ⟨_, rfl⟩ rfl hg2 h
    · have h := h.2 hc
      refine ax_mv 4 87 [some (.ref 157), some (ax_i (V 514 (V 157 13))), some (ax_i r2)] [ax_i 0, ax_i (-1), ax_i r2, .ref 157] rfl ?_
      refine ax_callN (pc' := 90) ⟨_, rfl⟩ ml_9_112 (rest := []) rfl (fun ss hs => ⟨_, _, (az_e 6 rfl) ss hs⟩) (Nat.le_of_ble_eq_true rfl) rfl rfl h (fun V3 hg3 h => ?_)
      exact ax_nret ⟨_, rfl⟩ rfl hg3 h
  · have h := h.2 (Int.not_lt.mp hc)
    refine ax_mv 1 45 [some (.ref 157), some (ax_i (V 514 (V 157 13))), none] [.ref 157] rfl ?_
    refine ax_gR (v := .ref B) (pc' := 48) ⟨_, rfl⟩ fl_9_46 (az_e 6 rfl) rfl rfl ?_
    refine ax_gR (v := .ref (B + 15)) (pc' := 51) ⟨_, rfl⟩ fl_9_116 (az_b 0 rfl) rfl rfl ?_
    refine ax_mv 1 52 [some (.ref 157), some (ax_i (V 514 (V 157 13))), none] [.ref 157, .ref (B + 15)] rfl ?_
    refine ax_gI (kI := 14) (pc' := 55) ⟨_, rfl⟩ fl_9_51 (az_e 6 rfl) rfl rfl rfl ?_
    refine ax_sip (pc' := 58) ⟨_, rfl⟩ (by decide) rfl ?_
    refine ax_mul (pc' := 59) ⟨_, rfl⟩ rfl ?_
    refine ax_mv 1 60 [some (.ref 157), some (ax_i (V 514 (V 157 13))), none] [.ref 157, ax_i ((V1 157 14) * 300), .ref (B + 15)] rfl ?_
    refine ax_gR (v := .ref 160) (pc' := 63) ⟨_, rfl⟩ fl_9_18 (az_e 6 rfl) rfl rfl ?_
    refine ax_mv 2 65 [some (.ref 157), some (ax_i (V 514 (V 157 13))), none] [.ref 157, ax_i (V 514 (V 157 13)), .ref 160, ax_i ((V1 157 14) * 300), .ref (B + 15)] rfl ?_
    refine ax_gI (kI := 17) (pc' := 68) ⟨_, rfl⟩ fl_9_65 (az_e 6 rfl) rfl rfl rfl ?_
    refine ax_mv 1 69 [some (.ref 157), some (ax_i (V 514 (V 157 13))), none] [ax_i (V 514 (V 157 13)), ax_i (V1 157 17), ax_i (V 514 (V 157 13)), .ref 160, ax_i ((V1 157 14) * 300), .ref (B + 15)] rfl ?_
    refine ax_sub (pc' := 70) ⟨_, rfl⟩ rfl ?_
    obtain ⟨o3, h⟩ := h
    obtain ⟨V4, eV4⟩ : ∃ W9 : ax_V, W9 = ax_cp V1 515 160 ((V1 157 14) * 300) (V 514 (V 157 13)) ((V1 157 17) - (V 514 (V 157 13))) := ⟨_, rfl⟩
    have h := h V4 eV4
    have hg4 : ax_g V4 := eV4 ▸ ax_cp_g hg1
    refine ax_acp (na := 600) (nb := 2400) (pc' := 73) ⟨_, rfl⟩ ml_9_119 az_ok (az_b 15 rfl) (az_e 8 rfl) (by decide) (by decide) o3 (Nat.le_of_ble_eq_true rfl) eV4 rfl ?_
    refine ax_mv 1 74 [some (.ref 157), some (ax_i (V 514 (V 157 13))), none] [.ref 157] rfl ?_
    refine ax_callI (pc' := 77) ⟨_, rfl⟩ ml_9_108 (rest := []) rfl (fun ss hs => ⟨_, _, (az_e 6 rfl) ss hs⟩) (Nat.le_of_ble_eq_true rfl) rfl rfl h (fun r5 V5 hg5 hr5 h => ?_)
    refine ax_sti (i := 0) (k := 2) (n := 1) (pc' := 78) (L' := [some (.ref 157), some (ax_i (V 514 (V 157 13))), some (ax_i r5)]) ⟨_, rfl⟩ rfl rfl rfl (Nat.le_of_ble_eq_true rfl) rfl rfl ?_
    refine ax_mv 2 80 [some (.ref 157), some (ax_i (V 514 (V 157 13))), some (ax_i r5)] [ax_i (-1), ax_i r5] rfl ?_
    refine ax_if2 (p1 := 90) (p2 := 83) ⟨_, rfl⟩ (by decide) rfl hr5 (by decide) (fun hc => ?_) (fun hc => ?_)
    · have h := h.1 hc
      exact ax_nret ⟨_, rfl⟩ rfl hg5 h
    · have h := h.2 hc
      refine ax_mv 4 87 [some (.ref 157), some (ax_i (V 514 (V 157 13))), some (ax_i r5)] [ax_i 0, ax_i (-1), ax_i r5, .ref 157] rfl ?_
      refine ax_callN (pc' := 90) ⟨_, rfl⟩ ml_9_112 (rest := []) rfl (fun ss hs => ⟨_, _, (az_e 6 rfl) ss hs⟩) (Nat.le_of_ble_eq_true rfl) rfl rfl h (fun V6 hg6 h => ?_)
      exact ax_nret ⟨_, rfl⟩ rfl hg6 h
