/-! RULES of the methods of the class: a method each, and each loop of it. PRINTED by wip/gen/rules.py -/
abbrev k_House_canProve_28 (B : Nat) (S : az_H) (q : Nat) (J : Int) (d : Nat) (x1 : Int) (x2 : Int) (V : ax_V) (Φ : Int → ax_V → Prop) (Θ : ax_V → Prop) : Prop := ax_R (az_W B (az_EH B S q J)) ax_t d m_House_canProve 28 [some (.ref 0), some (ax_i x1), some (ax_i x2)] [] V (ax_Ir Φ) Θ
theorem r_House_canProve_28 {B : Nat} {S : az_H} {q : Nat} {J : Int} {d : Nat} {V : ax_V} {Φ : Int → ax_V → Prop} {Θ : ax_V → Prop} {x1 : Int} {x2 : Int} (hg : ax_g V) (hx1 : ax_rg x1) (hx2 : ax_rg x2) (h : (0 ≤ x1 ∧ x1 < 8) ∧ ((V 503 x1 ≤ x2 → Φ 1 V) ∧ (x2 < V 503 x1 → (0 ≤ (x1 * 26) + x2 ∧ (x1 * 26) + x2 < 208) ∧ (0 ≤ V 506 ((x1 * 26) + x2) ∧ V 506 ((x1 * 26) + x2) < 208) ∧ ((V 535 (V 506 ((x1 * 26) + x2)) = 1 → k_House_canProve_28 B S q J d x1 (x2 + 1) V Φ Θ) ∧ (¬ V 535 (V 506 ((x1 * 26) + x2)) = 1 → Φ 0 V))))) : k_House_canProve_28 B S q J d x1 x2 V Φ Θ := by
  refine ax_mv 2 30 [some (.ref 0), some (ax_i x1), some (ax_i x2)] [.ref 0, ax_i x2] rfl ?_
  refine ax_gR (v := .ref B) (pc' := 33) ⟨_, rfl⟩ fl_11_16 (az_e 0 rfl) rfl rfl ?_
  refine ax_gR (v := .ref (B + 3)) (pc' := 36) ⟨_, rfl⟩ fl_11_115 (az_b 0 rfl) rfl rfl ?_
  refine ax_mv 1 37 [some (.ref 0), some (ax_i x1), some (ax_i x2)] [ax_i x1, .ref (B + 3), ax_i x2] rfl ?_
  obtain ⟨o1, h⟩ := h
  refine ax_ild (n := 8) (pc' := 38) ⟨_, rfl⟩ (az_b 3 rfl) (by decide) o1 rfl ?_
  refine ax_if2 (p1 := 78) (p2 := 41) ⟨_, rfl⟩ (by decide) rfl hx2 (hg _ _) (fun hc => ?_) (fun hc => ?_)
  · have h := h.1 hc
    refine ax_mv 1 79 [some (.ref 0), some (ax_i x1), some (ax_i x2)] [ax_i 1] rfl ?_
    exact ax_iret ⟨_, rfl⟩ rfl (ax_nbv (by decide)) (by decide) hg h
  · have h := h.2 (Int.not_le.mp hc)
    refine ax_mv 1 42 [some (.ref 0), some (ax_i x1), some (ax_i x2)] [.ref 0] rfl ?_
    refine ax_gR (v := .ref B) (pc' := 45) ⟨_, rfl⟩ fl_11_16 (az_e 0 rfl) rfl rfl ?_
    refine ax_gR (v := .ref (B + 32)) (pc' := 48) ⟨_, rfl⟩ fl_11_145 (az_b 0 rfl) rfl rfl ?_
    refine ax_gR (v := .ref (B + 35)) (pc' := 51) ⟨_, rfl⟩ fl_11_149 (az_b 32 rfl) rfl rfl ?_
    refine ax_mv 1 52 [some (.ref 0), some (ax_i x1), some (ax_i x2)] [.ref 0, .ref (B + 35)] rfl ?_
    refine ax_gR (v := .ref B) (pc' := 55) ⟨_, rfl⟩ fl_11_16 (az_e 0 rfl) rfl rfl ?_
    refine ax_gR (v := .ref (B + 6)) (pc' := 58) ⟨_, rfl⟩ fl_11_142 (az_b 0 rfl) rfl rfl ?_
    refine ax_mv 1 59 [some (.ref 0), some (ax_i x1), some (ax_i x2)] [ax_i x1, .ref (B + 6), .ref (B + 35)] rfl ?_
    refine ax_bip (pc' := 61) ⟨_, rfl⟩ (by decide) rfl ?_
    refine ax_mul (pc' := 62) ⟨_, rfl⟩ rfl ?_
    refine ax_mv 1 63 [some (.ref 0), some (ax_i x1), some (ax_i x2)] [ax_i x2, ax_i (x1 * 26), .ref (B + 6), .ref (B + 35)] rfl ?_
    refine ax_add (pc' := 64) ⟨_, rfl⟩ rfl ?_
    obtain ⟨o2, h⟩ := h
    refine ax_ild (n := 208) (pc' := 65) ⟨_, rfl⟩ (az_b 6 rfl) (by decide) o2 rfl ?_
    obtain ⟨o3, h⟩ := h
    refine ax_ild (n := 208) (pc' := 66) ⟨_, rfl⟩ (az_b 35 rfl) (by decide) o3 rfl ?_
    refine ax_mv 1 67 [some (.ref 0), some (ax_i x1), some (ax_i x2)] [ax_i 1, ax_i (V 535 (V 506 ((x1 * 26) + x2)))] rfl ?_
    refine ax_if2 (p1 := 72) (p2 := 70) ⟨_, rfl⟩ (by decide) rfl (hg _ _) (by decide) (fun hc => ?_) (fun hc => ?_)
    · have h := h.1 hc
      refine ax_inc (x := x2) (pc' := 75) (L' := [some (.ref 0), some (ax_i x1), some (ax_i (x2 + 1))]) ⟨_, rfl⟩ rfl rfl rfl rfl ?_
      refine ax_mv 1 28 [some (.ref 0), some (ax_i x1), some (ax_i (x2 + 1))] [] rfl ?_
      exact h
    · have h := h.2 hc
      refine ax_mv 1 71 [some (.ref 0), some (ax_i x1), some (ax_i x2)] [ax_i 0] rfl ?_
      exact ax_iret ⟨_, rfl⟩ rfl (ax_nbv (by decide)) (by decide) hg h
theorem r_House_canProve {B : Nat} {S : az_H} {q : Nat} {J : Int} {d : Nat} {V : ax_V} {Φ : Int → ax_V → Prop} {Θ : ax_V → Prop} {x1 : Int} (hg : ax_g V) (hx1 : ax_rg x1) (h : ax_I (az_W B (az_EH B S q J)) d q_Program_canMake [.ref B, ax_i x1] V (fun r1 V1 => ((r1 = 0 → Φ 0 V1) ∧ (¬ r1 = 0 → (0 ≤ x1 ∧ x1 < 8) ∧ ((V1 503 x1 ≤ 4 → k_House_canProve_28 B S q J d x1 0 V1 Φ Θ) ∧ (4 < V1 503 x1 → Φ 0 V1))))) Θ) : ax_I (az_W B (az_EH B S q J)) (d + 1) q_House_canProve [.ref 0, ax_i x1] V Φ Θ := by
  refine ax_T.of (M := m_House_canProve) rfl (Nat.le_of_ble_eq_true rfl) ?_
  refine ax_mv 0 0 [some (.ref 0), some (ax_i x1), none] [] rfl ?_
  refine ax_mv 1 1 [some (.ref 0), some (ax_i x1), none] [.ref 0] rfl ?_
  refine ax_gR (v := .ref B) (pc' := 4) ⟨_, rfl⟩ fl_11_16 (az_e 0 rfl) rfl rfl ?_
  refine ax_mv 1 5 [some (.ref 0), some (ax_i x1), none] [ax_i x1, .ref B] rfl ?_
  refine ax_callI (pc' := 8) ⟨_, rfl⟩ ml_11_129 (rest := []) rfl (fun ss hs => ⟨_, _, (az_b 0 rfl) ss hs⟩) (Nat.le_of_ble_eq_true rfl) rfl rfl h (fun r1 V1 hg1 hr1 h => ?_)
  refine ax_if (p1 := 24) (p2 := 11) ⟨_, rfl⟩ (by decide) rfl hr1 (fun hc => ?_) (fun hc => ?_)
  · have h := h.1 hc
    refine ax_mv 1 25 [some (.ref 0), some (ax_i x1), none] [ax_i 0] rfl ?_
    exact ax_iret ⟨_, rfl⟩ rfl (ax_nbv (by decide)) (by decide) hg1 h
  · have h := h.2 hc
    refine ax_mv 1 12 [some (.ref 0), some (ax_i x1), none] [.ref 0] rfl ?_
    refine ax_gR (v := .ref B) (pc' := 15) ⟨_, rfl⟩ fl_11_16 (az_e 0 rfl) rfl rfl ?_
    refine ax_gR (v := .ref (B + 3)) (pc' := 18) ⟨_, rfl⟩ fl_11_115 (az_b 0 rfl) rfl rfl ?_
    refine ax_mv 1 19 [some (.ref 0), some (ax_i x1), none] [ax_i x1, .ref (B + 3)] rfl ?_
    obtain ⟨o4, h⟩ := h
    refine ax_ild (n := 8) (pc' := 20) ⟨_, rfl⟩ (az_b 3 rfl) (by decide) o4 rfl ?_
    refine ax_mv 1 21 [some (.ref 0), some (ax_i x1), none] [ax_i 4, ax_i (V1 503 x1)] rfl ?_
    refine ax_if2 (p1 := 26) (p2 := 24) ⟨_, rfl⟩ (by decide) rfl (hg1 _ _) (by decide) (fun hc => ?_) (fun hc => ?_)
    · have h := h.1 hc
      refine ax_mv 1 27 [some (.ref 0), some (ax_i x1), none] [ax_i 0] rfl ?_
      refine ax_sti (i := 0) (k := 2) (n := 1) (pc' := 28) (L' := [some (.ref 0), some (ax_i x1), some (ax_i 0)]) ⟨_, rfl⟩ rfl rfl rfl (Nat.le_of_ble_eq_true rfl) rfl rfl ?_
      exact h
    · have h := h.2 (Int.not_le.mp hc)
      refine ax_mv 1 25 [some (.ref 0), some (ax_i x1), none] [ax_i 0] rfl ?_
      exact ax_iret ⟨_, rfl⟩ rfl (ax_nbv (by decide)) (by decide) hg1 h
theorem r_House_alike {B : Nat} {S : az_H} {q : Nat} {J : Int} {d : Nat} {V : ax_V} {Φ : Int → ax_V → Prop} {Θ : ax_V → Prop} {x1 : Int} {x2 : Int} {x3 : Int} (hg : ax_g V) (hx1 : ax_rg x1) (hx2 : ax_rg x2) (hx3 : ax_rg x3) (h : ax_I (az_W B (az_EH B S q J)) d q_House_canProve [.ref 0, ax_i x1] V (fun r1 V1 => ((r1 = 0 → Φ (-1) V1) ∧ (¬ r1 = 0 → ax_I (az_W B (az_EH B S q J)) d q_House_canProve [.ref 0, ax_i x2] V1 (fun r2 V2 => ((r2 = 0 → Φ (-1) V2) ∧ (¬ r2 = 0 → ((x3 < 1 → Φ (-1) V2) ∧ (1 ≤ x3 → ((x3 ≤ 300 → (0 ≤ x1 ∧ x1 < 8) ∧ (0 ≤ x2 ∧ x2 < 8) ∧ ((V2 503 x1 = V2 503 x2 → ax_I (az_W B (az_EH B S q J)) d q_House_haveSameOutputs [.ref 0, ax_i x1, ax_i x2] V2 (fun r3 V3 => ((r3 = 0 → Φ (-1) V3) ∧ (¬ r3 = 0 → ax_N (az_W B (az_EH B S q J)) d q_Prover_begin [.ref 157, .ref 150, ax_i x1, ax_i x2, ax_i (-1), ax_i x3] V3 (fun V4 => ax_I (az_W B (az_EH B S q J)) d q_Prover_search [.ref 157] V4 (fun r5 V5 => Φ r5 V5) Θ) Θ))) Θ) ∧ (¬ V2 503 x1 = V2 503 x2 → Φ (-1) V2))) ∧ (300 < x3 → Φ (-1) V2))))))) Θ))) Θ) : ax_I (az_W B (az_EH B S q J)) (d + 1) q_House_alike [.ref 0, ax_i x1, ax_i x2, ax_i x3] V Φ Θ := by
  refine ax_T.of (M := m_House_alike) rfl (Nat.le_of_ble_eq_true rfl) ?_
  refine ax_mv 0 0 [some (.ref 0), some (ax_i x1), some (ax_i x2), some (ax_i x3)] [] rfl ?_
  refine ax_mv 2 2 [some (.ref 0), some (ax_i x1), some (ax_i x2), some (ax_i x3)] [ax_i x1, .ref 0] rfl ?_
  refine ax_callI (pc' := 5) ⟨_, rfl⟩ ml_11_212 (rest := []) rfl (fun ss hs => ⟨_, _, (az_e 0 rfl) ss hs⟩) (Nat.le_of_ble_eq_true rfl) rfl rfl h (fun r1 V1 hg1 hr1 h => ?_)
  refine ax_if (p1 := 28) (p2 := 8) ⟨_, rfl⟩ (by decide) rfl hr1 (fun hc => ?_) (fun hc => ?_)
  · have h := h.1 hc
    refine ax_mv 1 29 [some (.ref 0), some (ax_i x1), some (ax_i x2), some (ax_i x3)] [ax_i (-1)] rfl ?_
    exact ax_iret ⟨_, rfl⟩ rfl rfl (by decide) hg1 h
  · have h := h.2 hc
    refine ax_mv 2 10 [some (.ref 0), some (ax_i x1), some (ax_i x2), some (ax_i x3)] [ax_i x2, .ref 0] rfl ?_
    refine ax_callI (pc' := 13) ⟨_, rfl⟩ ml_11_212 (rest := []) rfl (fun ss hs => ⟨_, _, (az_e 0 rfl) ss hs⟩) (Nat.le_of_ble_eq_true rfl) rfl rfl h (fun r2 V2 hg2 hr2 h => ?_)
    refine ax_if (p1 := 28) (p2 := 16) ⟨_, rfl⟩ (by decide) rfl hr2 (fun hc => ?_) (fun hc => ?_)
    · have h := h.1 hc
      refine ax_mv 1 29 [some (.ref 0), some (ax_i x1), some (ax_i x2), some (ax_i x3)] [ax_i (-1)] rfl ?_
      exact ax_iret ⟨_, rfl⟩ rfl rfl (by decide) hg2 h
    · have h := h.2 hc
      refine ax_mv 2 18 [some (.ref 0), some (ax_i x1), some (ax_i x2), some (ax_i x3)] [ax_i 1, ax_i x3] rfl ?_
      refine ax_if2 (p1 := 28) (p2 := 21) ⟨_, rfl⟩ (by decide) rfl hx3 (by decide) (fun hc => ?_) (fun hc => ?_)
      · have h := h.1 hc
        refine ax_mv 1 29 [some (.ref 0), some (ax_i x1), some (ax_i x2), some (ax_i x3)] [ax_i (-1)] rfl ?_
        exact ax_iret ⟨_, rfl⟩ rfl rfl (by decide) hg2 h
      · have h := h.2 (Int.not_lt.mp hc)
        refine ax_mv 1 22 [some (.ref 0), some (ax_i x1), some (ax_i x2), some (ax_i x3)] [ax_i x3] rfl ?_
        refine ax_sip (pc' := 25) ⟨_, rfl⟩ (by decide) rfl ?_
        refine ax_if2 (p1 := 30) (p2 := 28) ⟨_, rfl⟩ (by decide) rfl hx3 (by decide) (fun hc => ?_) (fun hc => ?_)
        · have h := h.1 hc
          refine ax_mv 1 31 [some (.ref 0), some (ax_i x1), some (ax_i x2), some (ax_i x3)] [.ref 0] rfl ?_
          refine ax_gR (v := .ref B) (pc' := 34) ⟨_, rfl⟩ fl_11_16 (az_e 0 rfl) rfl rfl ?_
          refine ax_gR (v := .ref (B + 3)) (pc' := 37) ⟨_, rfl⟩ fl_11_115 (az_b 0 rfl) rfl rfl ?_
          refine ax_mv 1 38 [some (.ref 0), some (ax_i x1), some (ax_i x2), some (ax_i x3)] [ax_i x1, .ref (B + 3)] rfl ?_
          obtain ⟨o1, h⟩ := h
          refine ax_ild (n := 8) (pc' := 39) ⟨_, rfl⟩ (az_b 3 rfl) (by decide) o1 rfl ?_
          refine ax_mv 1 40 [some (.ref 0), some (ax_i x1), some (ax_i x2), some (ax_i x3)] [.ref 0, ax_i (V2 503 x1)] rfl ?_
          refine ax_gR (v := .ref B) (pc' := 43) ⟨_, rfl⟩ fl_11_16 (az_e 0 rfl) rfl rfl ?_
          refine ax_gR (v := .ref (B + 3)) (pc' := 46) ⟨_, rfl⟩ fl_11_115 (az_b 0 rfl) rfl rfl ?_
          refine ax_mv 1 47 [some (.ref 0), some (ax_i x1), some (ax_i x2), some (ax_i x3)] [ax_i x2, .ref (B + 3), ax_i (V2 503 x1)] rfl ?_
          obtain ⟨o2, h⟩ := h
          refine ax_ild (n := 8) (pc' := 48) ⟨_, rfl⟩ (az_b 3 rfl) (by decide) o2 rfl ?_
          refine ax_if2 (p1 := 60) (p2 := 51) ⟨_, rfl⟩ (by decide) rfl (hg2 _ _) (hg2 _ _) (fun hc => ?_) (fun hc => ?_)
          · have h := h.2 hc
            refine ax_mv 1 61 [some (.ref 0), some (ax_i x1), some (ax_i x2), some (ax_i x3)] [ax_i (-1)] rfl ?_
            exact ax_iret ⟨_, rfl⟩ rfl rfl (by decide) hg2 h
          · have h := h.1 (Classical.not_not.mp hc)
            refine ax_mv 3 54 [some (.ref 0), some (ax_i x1), some (ax_i x2), some (ax_i x3)] [ax_i x2, ax_i x1, .ref 0] rfl ?_
            refine ax_callI (pc' := 57) ⟨_, rfl⟩ ml_11_222 (rest := []) rfl (fun ss hs => ⟨_, _, (az_e 0 rfl) ss hs⟩) (Nat.le_of_ble_eq_true rfl) rfl rfl h (fun r3 V3 hg3 hr3 h => ?_)
            refine ax_if (p1 := 62) (p2 := 60) ⟨_, rfl⟩ (by decide) rfl hr3 (fun hc => ?_) (fun hc => ?_)
            · have h := h.2 hc
              refine ax_mv 1 63 [some (.ref 0), some (ax_i x1), some (ax_i x2), some (ax_i x3)] [.ref 0] rfl ?_
              refine ax_gR (v := .ref 157) (pc' := 66) ⟨_, rfl⟩ fl_11_41 (az_e 0 rfl) rfl rfl ?_
              refine ax_mv 1 67 [some (.ref 0), some (ax_i x1), some (ax_i x2), some (ax_i x3)] [.ref 0, .ref 157] rfl ?_
              refine ax_gR (v := .ref 150) (pc' := 70) ⟨_, rfl⟩ fl_11_28 (az_e 0 rfl) rfl rfl ?_
              refine ax_mv 4 74 [some (.ref 0), some (ax_i x1), some (ax_i x2), some (ax_i x3)] [ax_i x3, ax_i (-1), ax_i x2, ax_i x1, .ref 150, .ref 157] rfl ?_
              refine ax_callN (pc' := 77) ⟨_, rfl⟩ ml_11_215 (rest := []) rfl (fun ss hs => ⟨_, _, (az_e 15 rfl) ss hs⟩) (Nat.le_of_ble_eq_true rfl) rfl rfl h (fun V4 hg4 h => ?_)
              refine ax_mv 1 78 [some (.ref 0), some (ax_i x1), some (ax_i x2), some (ax_i x3)] [.ref 0] rfl ?_
              refine ax_gR (v := .ref 157) (pc' := 81) ⟨_, rfl⟩ fl_11_41 (az_e 0 rfl) rfl rfl ?_
              refine ax_callI (pc' := 84) ⟨_, rfl⟩ ml_11_218 (rest := []) rfl (fun ss hs => ⟨_, _, (az_e 15 rfl) ss hs⟩) (Nat.le_of_ble_eq_true rfl) rfl rfl h (fun r5 V5 hg5 hr5 h => ?_)
              exact ax_iret ⟨_, rfl⟩ rfl rfl hr5 hg5 h
            · have h := h.1 (Classical.not_not.mp hc)
              refine ax_mv 1 61 [some (.ref 0), some (ax_i x1), some (ax_i x2), some (ax_i x3)] [ax_i (-1)] rfl ?_
              exact ax_iret ⟨_, rfl⟩ rfl rfl (by decide) hg3 h
        · have h := h.2 (Int.not_le.mp hc)
          refine ax_mv 1 29 [some (.ref 0), some (ax_i x1), some (ax_i x2), some (ax_i x3)] [ax_i (-1)] rfl ?_
          exact ax_iret ⟨_, rfl⟩ rfl rfl (by decide) hg2 h
abbrev k_House_haveSameOutputs_25 (B : Nat) (S : az_H) (q : Nat) (J : Int) (d : Nat) (x1 : Int) (x2 : Int) (x3 : Int) (y4 : Option Value) (y5 : Option Value) (V : ax_V) (Φ : Int → ax_V → Prop) (Θ : ax_V → Prop) : Prop := ax_R (az_W B (az_EH B S q J)) ax_t d m_House_haveSameOutputs 25 [some (.ref 0), some (ax_i x1), some (ax_i x2), some (ax_i x3), y4, y5] [] V (ax_Ir Φ) Θ
set_option maxRecDepth 20000 in
theorem r_House_haveSameOutputs_25 {B : Nat} {S : az_H} {q : Nat} {J : Int} {d : Nat} {V : ax_V} {Φ : Int → ax_V → Prop} {Θ : ax_V → Prop} {x1 : Int} {x2 : Int} {x3 : Int} {y4 : Option Value} {y5 : Option Value} (hg : ax_g V) (hx1 : ax_rg x1) (hx2 : ax_rg x2) (hx3 : ax_rg x3) (hy4 : ax_y y4) (hy5 : ax_y y5) (h : (0 ≤ x1 ∧ x1 < 8) ∧ ((V 504 x1 ≤ x3 → Φ 1 V) ∧ (x3 < V 504 x1 → (0 ≤ (x1 * 26) + x3 ∧ (x1 * 26) + x3 < 208) ∧ (0 ≤ (x2 * 26) + x3 ∧ (x2 * 26) + x3 < 208) ∧ (0 ≤ V 507 ((x1 * 26) + x3) ∧ V 507 ((x1 * 26) + x3) < 208) ∧ (0 ≤ V 507 ((x2 * 26) + x3) ∧ V 507 ((x2 * 26) + x3) < 208) ∧ ((V 535 (V 507 ((x1 * 26) + x3)) = V 535 (V 507 ((x2 * 26) + x3)) → k_House_haveSameOutputs_25 B S q J d x1 x2 (x3 + 1) (some (ax_i (V 507 ((x1 * 26) + x3)))) (some (ax_i (V 507 ((x2 * 26) + x3)))) V Φ Θ) ∧ (¬ V 535 (V 507 ((x1 * 26) + x3)) = V 535 (V 507 ((x2 * 26) + x3)) → Φ 0 V))))) : k_House_haveSameOutputs_25 B S q J d x1 x2 x3 y4 y5 V Φ Θ := by
  refine ax_mv 2 27 [some (.ref 0), some (ax_i x1), some (ax_i x2), some (ax_i x3), y4, y5] [.ref 0, ax_i x3] rfl ?_
  refine ax_gR (v := .ref B) (pc' := 30) ⟨_, rfl⟩ fl_11_16 (az_e 0 rfl) rfl rfl ?_
  refine ax_gR (v := .ref (B + 4)) (pc' := 33) ⟨_, rfl⟩ fl_11_118 (az_b 0 rfl) rfl rfl ?_
  refine ax_mv 1 34 [some (.ref 0), some (ax_i x1), some (ax_i x2), some (ax_i x3), y4, y5] [ax_i x1, .ref (B + 4), ax_i x3] rfl ?_
  obtain ⟨o1, h⟩ := h
  refine ax_ild (n := 8) (pc' := 35) ⟨_, rfl⟩ (az_b 4 rfl) (by decide) o1 rfl ?_
  refine ax_if2 (p1 := 107) (p2 := 38) ⟨_, rfl⟩ (by decide) rfl hx3 (hg _ _) (fun hc => ?_) (fun hc => ?_)
  · have h := h.1 hc
    refine ax_mv 1 108 [some (.ref 0), some (ax_i x1), some (ax_i x2), some (ax_i x3), y4, y5] [ax_i 1] rfl ?_
    exact ax_iret ⟨_, rfl⟩ rfl (ax_nbv (by decide)) (by decide) hg h
  · have h := h.2 (Int.not_le.mp hc)
    refine ax_mv 1 39 [some (.ref 0), some (ax_i x1), some (ax_i x2), some (ax_i x3), y4, y5] [.ref 0] rfl ?_
    refine ax_gR (v := .ref B) (pc' := 42) ⟨_, rfl⟩ fl_11_16 (az_e 0 rfl) rfl rfl ?_
    refine ax_gR (v := .ref (B + 7)) (pc' := 45) ⟨_, rfl⟩ fl_11_181 (az_b 0 rfl) rfl rfl ?_
    refine ax_mv 1 46 [some (.ref 0), some (ax_i x1), some (ax_i x2), some (ax_i x3), y4, y5] [ax_i x1, .ref (B + 7)] rfl ?_
    refine ax_bip (pc' := 48) ⟨_, rfl⟩ (by decide) rfl ?_
    refine ax_mul (pc' := 49) ⟨_, rfl⟩ rfl ?_
    refine ax_mv 1 50 [some (.ref 0), some (ax_i x1), some (ax_i x2), some (ax_i x3), y4, y5] [ax_i x3, ax_i (x1 * 26), .ref (B + 7)] rfl ?_
    refine ax_add (pc' := 51) ⟨_, rfl⟩ rfl ?_
    obtain ⟨o2, h⟩ := h
    refine ax_ild (n := 208) (pc' := 52) ⟨_, rfl⟩ (az_b 7 rfl) (by decide) o2 rfl ?_
    refine ax_sti (i := 0) (k := 4) (n := 2) (pc' := 54) (L' := [some (.ref 0), some (ax_i x1), some (ax_i x2), some (ax_i x3), some (ax_i (V 507 ((x1 * 26) + x3))), y5]) ⟨_, rfl⟩ rfl rfl rfl (Nat.le_of_ble_eq_true rfl) rfl rfl ?_
    refine ax_mv 1 55 [some (.ref 0), some (ax_i x1), some (ax_i x2), some (ax_i x3), some (ax_i (V 507 ((x1 * 26) + x3))), y5] [.ref 0] rfl ?_
    refine ax_gR (v := .ref B) (pc' := 58) ⟨_, rfl⟩ fl_11_16 (az_e 0 rfl) rfl rfl ?_
    refine ax_gR (v := .ref (B + 7)) (pc' := 61) ⟨_, rfl⟩ fl_11_181 (az_b 0 rfl) rfl rfl ?_
    refine ax_mv 1 62 [some (.ref 0), some (ax_i x1), some (ax_i x2), some (ax_i x3), some (ax_i (V 507 ((x1 * 26) + x3))), y5] [ax_i x2, .ref (B + 7)] rfl ?_
    refine ax_bip (pc' := 64) ⟨_, rfl⟩ (by decide) rfl ?_
    refine ax_mul (pc' := 65) ⟨_, rfl⟩ rfl ?_
    refine ax_mv 1 66 [some (.ref 0), some (ax_i x1), some (ax_i x2), some (ax_i x3), some (ax_i (V 507 ((x1 * 26) + x3))), y5] [ax_i x3, ax_i (x2 * 26), .ref (B + 7)] rfl ?_
    refine ax_add (pc' := 67) ⟨_, rfl⟩ rfl ?_
    obtain ⟨o3, h⟩ := h
    refine ax_ild (n := 208) (pc' := 68) ⟨_, rfl⟩ (az_b 7 rfl) (by decide) o3 rfl ?_
    refine ax_sti (i := 0) (k := 5) (n := 2) (pc' := 70) (L' := [some (.ref 0), some (ax_i x1), some (ax_i x2), some (ax_i x3), some (ax_i (V 507 ((x1 * 26) + x3))), some (ax_i (V 507 ((x2 * 26) + x3)))]) ⟨_, rfl⟩ rfl rfl rfl (Nat.le_of_ble_eq_true rfl) rfl rfl ?_
    refine ax_mv 1 71 [some (.ref 0), some (ax_i x1), some (ax_i x2), some (ax_i x3), some (ax_i (V 507 ((x1 * 26) + x3))), some (ax_i (V 507 ((x2 * 26) + x3)))] [.ref 0] rfl ?_
    refine ax_gR (v := .ref B) (pc' := 74) ⟨_, rfl⟩ fl_11_16 (az_e 0 rfl) rfl rfl ?_
    refine ax_gR (v := .ref (B + 32)) (pc' := 77) ⟨_, rfl⟩ fl_11_145 (az_b 0 rfl) rfl rfl ?_
    refine ax_gR (v := .ref (B + 35)) (pc' := 80) ⟨_, rfl⟩ fl_11_149 (az_b 32 rfl) rfl rfl ?_
    refine ax_mv 1 82 [some (.ref 0), some (ax_i x1), some (ax_i x2), some (ax_i x3), some (ax_i (V 507 ((x1 * 26) + x3))), some (ax_i (V 507 ((x2 * 26) + x3)))] [ax_i (V 507 ((x1 * 26) + x3)), .ref (B + 35)] rfl ?_
    obtain ⟨o4, h⟩ := h
    refine ax_ild (n := 208) (pc' := 83) ⟨_, rfl⟩ (az_b 35 rfl) (by decide) o4 rfl ?_
    refine ax_mv 1 84 [some (.ref 0), some (ax_i x1), some (ax_i x2), some (ax_i x3), some (ax_i (V 507 ((x1 * 26) + x3))), some (ax_i (V 507 ((x2 * 26) + x3)))] [.ref 0, ax_i (V 535 (V 507 ((x1 * 26) + x3)))] rfl ?_
    refine ax_gR (v := .ref B) (pc' := 87) ⟨_, rfl⟩ fl_11_16 (az_e 0 rfl) rfl rfl ?_
    refine ax_gR (v := .ref (B + 32)) (pc' := 90) ⟨_, rfl⟩ fl_11_145 (az_b 0 rfl) rfl rfl ?_
    refine ax_gR (v := .ref (B + 35)) (pc' := 93) ⟨_, rfl⟩ fl_11_149 (az_b 32 rfl) rfl rfl ?_
    refine ax_mv 1 95 [some (.ref 0), some (ax_i x1), some (ax_i x2), some (ax_i x3), some (ax_i (V 507 ((x1 * 26) + x3))), some (ax_i (V 507 ((x2 * 26) + x3)))] [ax_i (V 507 ((x2 * 26) + x3)), .ref (B + 35), ax_i (V 535 (V 507 ((x1 * 26) + x3)))] rfl ?_
    obtain ⟨o5, h⟩ := h
    refine ax_ild (n := 208) (pc' := 96) ⟨_, rfl⟩ (az_b 35 rfl) (by decide) o5 rfl ?_
    refine ax_if2 (p1 := 101) (p2 := 99) ⟨_, rfl⟩ (by decide) rfl (hg _ _) (hg _ _) (fun hc => ?_) (fun hc => ?_)
    · have h := h.1 hc
      refine ax_inc (x := x3) (pc' := 104) (L' := [some (.ref 0), some (ax_i x1), some (ax_i x2), some (ax_i (x3 + 1)), some (ax_i (V 507 ((x1 * 26) + x3))), some (ax_i (V 507 ((x2 * 26) + x3)))]) ⟨_, rfl⟩ rfl rfl rfl rfl ?_
      refine ax_mv 1 25 [some (.ref 0), some (ax_i x1), some (ax_i x2), some (ax_i (x3 + 1)), some (ax_i (V 507 ((x1 * 26) + x3))), some (ax_i (V 507 ((x2 * 26) + x3)))] [] rfl ?_
      exact h
    · have h := h.2 hc
      refine ax_mv 1 100 [some (.ref 0), some (ax_i x1), some (ax_i x2), some (ax_i x3), some (ax_i (V 507 ((x1 * 26) + x3))), some (ax_i (V 507 ((x2 * 26) + x3)))] [ax_i 0] rfl ?_
      exact ax_iret ⟨_, rfl⟩ rfl (ax_nbv (by decide)) (by decide) hg h
set_option maxRecDepth 20000 in
theorem r_House_haveSameOutputs {B : Nat} {S : az_H} {q : Nat} {J : Int} {d : Nat} {V : ax_V} {Φ : Int → ax_V → Prop} {Θ : ax_V → Prop} {x1 : Int} {x2 : Int} (hg : ax_g V) (hx1 : ax_rg x1) (hx2 : ax_rg x2) (h : (0 ≤ x1 ∧ x1 < 8) ∧ (0 ≤ x2 ∧ x2 < 8) ∧ ((V 504 x1 = V 504 x2 → k_House_haveSameOutputs_25 B S q J d x1 x2 0 none none V Φ Θ) ∧ (¬ V 504 x1 = V 504 x2 → Φ 0 V))) : ax_I (az_W B (az_EH B S q J)) (d + 1) q_House_haveSameOutputs [.ref 0, ax_i x1, ax_i x2] V Φ Θ := by
  refine ax_T.of (M := m_House_haveSameOutputs) rfl (Nat.le_of_ble_eq_true rfl) ?_
  refine ax_mv 0 0 [some (.ref 0), some (ax_i x1), some (ax_i x2), none, none, none] [] rfl ?_
  refine ax_mv 1 1 [some (.ref 0), some (ax_i x1), some (ax_i x2), none, none, none] [.ref 0] rfl ?_
  refine ax_gR (v := .ref B) (pc' := 4) ⟨_, rfl⟩ fl_11_16 (az_e 0 rfl) rfl rfl ?_
  refine ax_gR (v := .ref (B + 4)) (pc' := 7) ⟨_, rfl⟩ fl_11_118 (az_b 0 rfl) rfl rfl ?_
  refine ax_mv 1 8 [some (.ref 0), some (ax_i x1), some (ax_i x2), none, none, none] [ax_i x1, .ref (B + 4)] rfl ?_
  obtain ⟨o6, h⟩ := h
  refine ax_ild (n := 8) (pc' := 9) ⟨_, rfl⟩ (az_b 4 rfl) (by decide) o6 rfl ?_
  refine ax_mv 1 10 [some (.ref 0), some (ax_i x1), some (ax_i x2), none, none, none] [.ref 0, ax_i (V 504 x1)] rfl ?_
  refine ax_gR (v := .ref B) (pc' := 13) ⟨_, rfl⟩ fl_11_16 (az_e 0 rfl) rfl rfl ?_
  refine ax_gR (v := .ref (B + 4)) (pc' := 16) ⟨_, rfl⟩ fl_11_118 (az_b 0 rfl) rfl rfl ?_
  refine ax_mv 1 17 [some (.ref 0), some (ax_i x1), some (ax_i x2), none, none, none] [ax_i x2, .ref (B + 4), ax_i (V 504 x1)] rfl ?_
  obtain ⟨o7, h⟩ := h
  refine ax_ild (n := 8) (pc' := 18) ⟨_, rfl⟩ (az_b 4 rfl) (by decide) o7 rfl ?_
  refine ax_if2 (p1 := 23) (p2 := 21) ⟨_, rfl⟩ (by decide) rfl (hg _ _) (hg _ _) (fun hc => ?_) (fun hc => ?_)
  · have h := h.1 hc
    refine ax_mv 1 24 [some (.ref 0), some (ax_i x1), some (ax_i x2), none, none, none] [ax_i 0] rfl ?_
    refine ax_sti (i := 0) (k := 3) (n := 1) (pc' := 25) (L' := [some (.ref 0), some (ax_i x1), some (ax_i x2), some (ax_i 0), none, none]) ⟨_, rfl⟩ rfl rfl rfl (Nat.le_of_ble_eq_true rfl) rfl rfl ?_
    exact h
  · have h := h.2 hc
    refine ax_mv 1 22 [some (.ref 0), some (ax_i x1), some (ax_i x2), none, none, none] [ax_i 0] rfl ?_
    exact ax_iret ⟨_, rfl⟩ rfl (ax_nbv (by decide)) (by decide) hg h
theorem r_House_run {B : Nat} {S : az_H} {q : Nat} {J : Int} {d : Nat} {V : ax_V} {Φ : Int → ax_V → Prop} {Θ : ax_V → Prop} {x1 : Int} (hg : ax_g V) (hx1 : ax_rg x1) (h : ((V 157 0 = 0 → Φ (-1) V) ∧ (¬ V 157 0 = 0 → ((x1 = -1 → Φ (V 157 2) V) ∧ (¬ x1 = -1 → ((x1 = -2 → Φ (V 157 1) V) ∧ (¬ x1 = -2 → ((x1 < 0 → Φ (-1) V) ∧ (0 ≤ x1 → ((V 157 2 ≤ x1 → Φ (-1) V) ∧ (x1 < V 157 2 → (0 ≤ x1 ∧ x1 < 300) ∧ Φ (V 158 x1) V))))))))))) : ax_I (az_W B (az_EH B S q J)) (d + 1) q_House_run [.ref 0, ax_i x1] V Φ Θ := by
  refine ax_T.of (M := m_House_run) rfl (Nat.le_of_ble_eq_true rfl) ?_
  refine ax_mv 0 0 [some (.ref 0), some (ax_i x1)] [] rfl ?_
  refine ax_mv 1 1 [some (.ref 0), some (ax_i x1)] [.ref 0] rfl ?_
  refine ax_gR (v := .ref 157) (pc' := 4) ⟨_, rfl⟩ fl_11_41 (az_e 0 rfl) rfl rfl ?_
  refine ax_gI (kI := 0) (pc' := 7) ⟨_, rfl⟩ fl_11_226 (az_e 15 rfl) rfl rfl rfl ?_
  refine ax_if (p1 := 12) (p2 := 10) ⟨_, rfl⟩ (by decide) rfl (hg _ _) (fun hc => ?_) (fun hc => ?_)
  · have h := h.2 hc
    refine ax_mv 2 14 [some (.ref 0), some (ax_i x1)] [ax_i (-1), ax_i x1] rfl ?_
    refine ax_if2 (p1 := 25) (p2 := 17) ⟨_, rfl⟩ (by decide) rfl hx1 (by decide) (fun hc => ?_) (fun hc => ?_)
    · have h := h.2 hc
      refine ax_mv 1 26 [some (.ref 0), some (ax_i x1)] [ax_i x1] rfl ?_
      refine ax_bip (pc' := 28) ⟨_, rfl⟩ (by decide) rfl ?_
      refine ax_if2 (p1 := 39) (p2 := 31) ⟨_, rfl⟩ (by decide) rfl hx1 (by decide) (fun hc => ?_) (fun hc => ?_)
      · have h := h.2 hc
        refine ax_mv 1 40 [some (.ref 0), some (ax_i x1)] [ax_i x1] rfl ?_
        refine ax_if (p1 := 66) (p2 := 43) ⟨_, rfl⟩ (by decide) rfl hx1 (fun hc => ?_) (fun hc => ?_)
        · have h := h.1 hc
          refine ax_mv 1 67 [some (.ref 0), some (ax_i x1)] [ax_i (-1)] rfl ?_
          exact ax_iret ⟨_, rfl⟩ rfl rfl (by decide) hg h
        · have h := h.2 (Int.not_lt.mp hc)
          refine ax_mv 2 45 [some (.ref 0), some (ax_i x1)] [.ref 0, ax_i x1] rfl ?_
          refine ax_gR (v := .ref 157) (pc' := 48) ⟨_, rfl⟩ fl_11_41 (az_e 0 rfl) rfl rfl ?_
          refine ax_gI (kI := 2) (pc' := 51) ⟨_, rfl⟩ fl_11_229 (az_e 15 rfl) rfl rfl rfl ?_
          refine ax_if2 (p1 := 66) (p2 := 54) ⟨_, rfl⟩ (by decide) rfl hx1 (hg _ _) (fun hc => ?_) (fun hc => ?_)
          · have h := h.1 hc
            refine ax_mv 1 67 [some (.ref 0), some (ax_i x1)] [ax_i (-1)] rfl ?_
            exact ax_iret ⟨_, rfl⟩ rfl rfl (by decide) hg h
          · have h := h.2 (Int.not_le.mp hc)
            refine ax_mv 1 55 [some (.ref 0), some (ax_i x1)] [.ref 0] rfl ?_
            refine ax_gR (v := .ref 157) (pc' := 58) ⟨_, rfl⟩ fl_11_41 (az_e 0 rfl) rfl rfl ?_
            refine ax_gR (v := .ref 158) (pc' := 61) ⟨_, rfl⟩ fl_11_235 (az_e 15 rfl) rfl rfl ?_
            refine ax_mv 1 62 [some (.ref 0), some (ax_i x1)] [ax_i x1, .ref 158] rfl ?_
            obtain ⟨o1, h⟩ := h
            refine ax_ild (n := 300) (pc' := 63) ⟨_, rfl⟩ (az_e 16 rfl) (by decide) o1 rfl ?_
            refine ax_mv 1 67 [some (.ref 0), some (ax_i x1)] [ax_i (V 158 x1)] rfl ?_
            exact ax_iret ⟨_, rfl⟩ rfl rfl (hg _ _) hg h
      · have h := h.1 (Classical.not_not.mp hc)
        refine ax_mv 1 32 [some (.ref 0), some (ax_i x1)] [.ref 0] rfl ?_
        refine ax_gR (v := .ref 157) (pc' := 35) ⟨_, rfl⟩ fl_11_41 (az_e 0 rfl) rfl rfl ?_
        refine ax_gI (kI := 1) (pc' := 38) ⟨_, rfl⟩ fl_11_232 (az_e 15 rfl) rfl rfl rfl ?_
        exact ax_iret ⟨_, rfl⟩ rfl rfl (hg _ _) hg h
    · have h := h.1 (Classical.not_not.mp hc)
      refine ax_mv 1 18 [some (.ref 0), some (ax_i x1)] [.ref 0] rfl ?_
      refine ax_gR (v := .ref 157) (pc' := 21) ⟨_, rfl⟩ fl_11_41 (az_e 0 rfl) rfl rfl ?_
      refine ax_gI (kI := 2) (pc' := 24) ⟨_, rfl⟩ fl_11_229 (az_e 15 rfl) rfl rfl rfl ?_
      exact ax_iret ⟨_, rfl⟩ rfl rfl (hg _ _) hg h
  · have h := h.1 (Classical.not_not.mp hc)
    refine ax_mv 1 11 [some (.ref 0), some (ax_i x1)] [ax_i (-1)] rfl ?_
    exact ax_iret ⟨_, rfl⟩ rfl rfl (by decide) hg h
theorem r_House_total {B : Nat} {S : az_H} {q : Nat} {J : Int} {d : Nat} {V : ax_V} {Φ : Int → ax_V → Prop} {Θ : ax_V → Prop} {x1 : Int} (hg : ax_g V) (hx1 : ax_rg x1) (h : ((x1 = 0 → Φ (V 500 0) V) ∧ (x1 = 1 → Φ (V 0 1) V) ∧ (x1 = 2 → Φ (V 0 8) V) ∧ (¬ x1 = 0 → ¬ x1 = 1 → ¬ x1 = 2 → Φ (-1) V))) : ax_I (az_W B (az_EH B S q J)) (d + 1) q_House_total [.ref 0, ax_i x1] V Φ Θ := by
  refine ax_T.of (M := m_House_total) rfl (Nat.le_of_ble_eq_true rfl) ?_
  refine ax_mv 0 0 [some (.ref 0), some (ax_i x1)] [] rfl ?_
  refine ax_mv 1 1 [some (.ref 0), some (ax_i x1)] [ax_i x1] rfl ?_
  have t0 : (x1 = 0) → ax_R (az_W B (az_EH B S q J)) ax_t d m_House_total 28 [some (.ref 0), some (ax_i x1)] [] V (ax_Ir Φ) Θ := fun hk => by
    have h := h.1 hk
    refine ax_mv 1 29 [some (.ref 0), some (ax_i x1)] [.ref 0] rfl ?_
    refine ax_gR (v := .ref B) (pc' := 32) ⟨_, rfl⟩ fl_11_16 (az_e 0 rfl) rfl rfl ?_
    refine ax_gI (kI := 0) (pc' := 35) ⟨_, rfl⟩ fl_11_104 (az_b 0 rfl) rfl rfl rfl ?_
    exact ax_iret ⟨_, rfl⟩ rfl rfl (hg _ _) hg h
  have t1 : (x1 = 1) → ax_R (az_W B (az_EH B S q J)) ax_t d m_House_total 36 [some (.ref 0), some (ax_i x1)] [] V (ax_Ir Φ) Θ := fun hk => by
    have h := h.2.1 hk
    refine ax_mv 1 37 [some (.ref 0), some (ax_i x1)] [.ref 0] rfl ?_
    refine ax_gI (kI := 1) (pc' := 40) ⟨_, rfl⟩ fl_11_46 (az_e 0 rfl) rfl rfl rfl ?_
    exact ax_iret ⟨_, rfl⟩ rfl rfl (hg _ _) hg h
  have t2 : (x1 = 2) → ax_R (az_W B (az_EH B S q J)) ax_t d m_House_total 41 [some (.ref 0), some (ax_i x1)] [] V (ax_Ir Φ) Θ := fun hk => by
    have h := h.2.2.1 hk
    refine ax_mv 1 42 [some (.ref 0), some (ax_i x1)] [.ref 0] rfl ?_
    refine ax_gI (kI := 8) (pc' := 45) ⟨_, rfl⟩ fl_11_101 (az_e 0 rfl) rfl rfl rfl ?_
    exact ax_iret ⟨_, rfl⟩ rfl rfl (hg _ _) hg h
  have tD : ¬ x1 = 0 → ¬ x1 = 1 → ¬ x1 = 2 → ax_R (az_W B (az_EH B S q J)) ax_t d m_House_total 46 [some (.ref 0), some (ax_i x1)] [] V (ax_Ir Φ) Θ := fun n0 n1 n2 => by
    have h := h.2.2.2 n0 n1 n2
    refine ax_mv 1 47 [some (.ref 0), some (ax_i x1)] [ax_i (-1)] rfl ?_
    exact ax_iret ⟨_, rfl⟩ rfl rfl (by decide) hg h
  by_cases e0 : x1 = 0
  · exact ax_tsC (off := 27) (p1 := 28) ⟨_, rfl⟩ hx1 (by omega) (by omega) (by rw [e0]; rfl) (by decide) (t0 (e0))
  by_cases e1 : x1 = 1
  · exact ax_tsC (off := 35) (p1 := 36) ⟨_, rfl⟩ hx1 (by omega) (by omega) (by rw [e1]; rfl) (by decide) (t1 (e1))
  by_cases e2 : x1 = 2
  · exact ax_tsC (off := 40) (p1 := 41) ⟨_, rfl⟩ hx1 (by omega) (by omega) (by rw [e2]; rfl) (by decide) (t2 (e2))
  exact ax_tsD (p1 := 46) ⟨_, rfl⟩ hx1 (by omega) (by decide) (tD e0 e1 e2)
