/-! RULES of the methods of the class: a method each, and each loop of it. PRINTED by wip/gen/rules.py -/
abbrev k_Arrays_fill_5 (lay : ax_Lay) (a : Nat) (id : Nat) (n : Nat) (d : Nat) (x1 : Int) (x2 : Int) (x3 : Int) (V : ax_V) (Φ : ax_V → Prop) (Θ : ax_V → Prop) : Prop := ax_R lay ax_t d m_Arrays_fill 5 [some (.ref a), some (ax_i x1), some (ax_i x2), some (ax_i x3)] [] V (ax_Nr Φ) Θ
theorem r_Arrays_fill_5 {lay : ax_Lay} {a : Nat} {id : Nat} {n : Nat} (hok : ∀ ss, lay ss → ax_ok ss) (hs : ∀ ss, lay ss → ss[a]? = some (.inr (id, .inl (0, n)))) (hn : n ≤ 1000000) {d : Nat} {V : ax_V} {Φ : ax_V → Prop} {Θ : ax_V → Prop} {x1 : Int} {x2 : Int} {x3 : Int} (hg : ax_g V) (hx1 : ax_rg x1) (hx2 : ax_rg x2) (hx3 : ax_rg x3) (h : ((x3 ≤ x2 → Φ V) ∧ (x2 < x3 → (0 ≤ x2 ∧ x2 < (n : Int)) ∧ (∀ V1, V1 = ax_u V id x2 x1 → k_Arrays_fill_5 lay a id n d x1 (x2 + 1) x3 V1 Φ Θ)))) : k_Arrays_fill_5 lay a id n d x1 x2 x3 V Φ Θ := by
  refine ax_mv 2 7 [some (.ref a), some (ax_i x1), some (ax_i x2), some (ax_i x3)] [ax_i x3, ax_i x2] rfl ?_
  refine ax_if2 (p1 := 20) (p2 := 10) ⟨_, rfl⟩ (by decide) rfl hx2 hx3 (fun hc => ?_) (fun hc => ?_)
  · have h := h.1 hc
    exact ax_nret ⟨_, rfl⟩ rfl hg h
  · have h := h.2 (Int.not_le.mp hc)
    refine ax_mv 3 13 [some (.ref a), some (ax_i x1), some (ax_i x2), some (ax_i x3)] [ax_i x1, ax_i x2, .ref a] rfl ?_
    obtain ⟨o1, h⟩ := h
    obtain ⟨V1, eV1⟩ : ∃ W9 : ax_V, W9 = ax_u V id x2 x1 := ⟨_, rfl⟩
    have h := h V1 eV1
    have hg1 : ax_g V1 := eV1 ▸ ax_u_g hg hx1
    refine ax_ist (n := n) (pc' := 14) ⟨_, rfl⟩ hok hs (by omega) o1 eV1 rfl ?_
    refine ax_inc (x := x2) (pc' := 17) (L' := [some (.ref a), some (ax_i x1), some (ax_i (x2 + 1)), some (ax_i x3)]) ⟨_, rfl⟩ rfl rfl rfl rfl ?_
    refine ax_mv 1 5 [some (.ref a), some (ax_i x1), some (ax_i (x2 + 1)), some (ax_i x3)] [] rfl ?_
    exact h
theorem r_Arrays_fill {lay : ax_Lay} {a : Nat} {id : Nat} {n : Nat} (hok : ∀ ss, lay ss → ax_ok ss) (hs : ∀ ss, lay ss → ss[a]? = some (.inr (id, .inl (0, n)))) (hn : n ≤ 1000000) {d : Nat} {V : ax_V} {Φ : ax_V → Prop} {Θ : ax_V → Prop} {x1 : Int} (hg : ax_g V) (hx1 : ax_rg x1) (h : k_Arrays_fill_5 lay a id n d x1 0 ((n : Int)) V Φ Θ) : ax_N lay (d + 1) q_Arrays_fill [.ref a, ax_i x1] V Φ Θ := by
  refine ax_T.of (M := m_Arrays_fill) rfl (Nat.le_of_ble_eq_true rfl) ?_
  refine ax_mv 0 0 [some (.ref a), some (ax_i x1), none, none] [] rfl ?_
  refine ax_mv 1 1 [some (.ref a), some (ax_i x1), none, none] [ax_i 0] rfl ?_
  refine ax_sti (i := 0) (k := 2) (n := 1) (pc' := 2) (L' := [some (.ref a), some (ax_i x1), some (ax_i 0), none]) ⟨_, rfl⟩ rfl rfl rfl (Nat.le_of_ble_eq_true rfl) rfl rfl ?_
  refine ax_mv 1 3 [some (.ref a), some (ax_i x1), some (ax_i 0), none] [.ref a] rfl ?_
  refine ax_len (n := n) (pc' := 4) ⟨_, rfl⟩ hs rfl ?_
  refine ax_sti (i := 0) (k := 3) (n := 1) (pc' := 5) (L' := [some (.ref a), some (ax_i x1), some (ax_i 0), some (ax_i ((n : Int)))]) ⟨_, rfl⟩ rfl rfl rfl (Nat.le_of_ble_eq_true rfl) rfl rfl ?_
  exact h
theorem r_Machine_feedOne {B : Nat} {d : Nat} {V : ax_V} {Φ : ax_V → Prop} {Θ : ax_V → Prop} {x1 : Int} {x2 : Int} {x3 : Int} (hg : ax_g V) (hx1 : ax_rg x1) (hx2 : ax_rg x2) (hx3 : ax_rg x3) (h : (0 ≤ (x1 * 26) + x2 ∧ (x1 * 26) + x2 < 208) ∧ (0 ≤ V 506 ((x1 * 26) + x2) ∧ V 506 ((x1 * 26) + x2) < 208) ∧ (∀ V1, V1 = ax_u V 152 (V 506 ((x1 * 26) + x2)) x3 → (0 ≤ V 506 ((x1 * 26) + x2) ∧ V 506 ((x1 * 26) + x2) < 208) ∧ (∀ V2, V2 = ax_u V1 153 (V 506 ((x1 * 26) + x2)) 1 → Φ V2))) : ax_N (az_W B (az_EM B)) (d + 1) q_Machine_feedOne [.ref 150, ax_i x1, ax_i x2, ax_i x3] V Φ Θ := by
  refine ax_T.of (M := m_Machine_feedOne) rfl (Nat.le_of_ble_eq_true rfl) ?_
  refine ax_mv 0 0 [some (.ref 150), some (ax_i x1), some (ax_i x2), some (ax_i x3), none] [] rfl ?_
  refine ax_mv 1 1 [some (.ref 150), some (ax_i x1), some (ax_i x2), some (ax_i x3), none] [.ref 150] rfl ?_
  refine ax_gR (v := .ref B) (pc' := 4) ⟨_, rfl⟩ fl_5_32 (az_e 0 rfl) rfl rfl ?_
  refine ax_gR (v := .ref (B + 6)) (pc' := 7) ⟨_, rfl⟩ fl_5_58 (az_b 0 rfl) rfl rfl ?_
  refine ax_mv 1 8 [some (.ref 150), some (ax_i x1), some (ax_i x2), some (ax_i x3), none] [ax_i x1, .ref (B + 6)] rfl ?_
  refine ax_bip (pc' := 10) ⟨_, rfl⟩ (by decide) rfl ?_
  refine ax_mul (pc' := 11) ⟨_, rfl⟩ rfl ?_
  refine ax_mv 1 12 [some (.ref 150), some (ax_i x1), some (ax_i x2), some (ax_i x3), none] [ax_i x2, ax_i (x1 * 26), .ref (B + 6)] rfl ?_
  refine ax_add (pc' := 13) ⟨_, rfl⟩ rfl ?_
  obtain ⟨o1, h⟩ := h
  refine ax_ild (n := 208) (pc' := 14) ⟨_, rfl⟩ (az_b 6 rfl) (by decide) o1 rfl ?_
  refine ax_sti (i := 0) (k := 4) (n := 2) (pc' := 16) (L' := [some (.ref 150), some (ax_i x1), some (ax_i x2), some (ax_i x3), some (ax_i (V 506 ((x1 * 26) + x2)))]) ⟨_, rfl⟩ rfl rfl rfl (Nat.le_of_ble_eq_true rfl) rfl rfl ?_
  refine ax_mv 1 17 [some (.ref 150), some (ax_i x1), some (ax_i x2), some (ax_i x3), some (ax_i (V 506 ((x1 * 26) + x2)))] [.ref 150] rfl ?_
  refine ax_gR (v := .ref 152) (pc' := 20) ⟨_, rfl⟩ fl_5_15 (az_e 0 rfl) rfl rfl ?_
  refine ax_mv 2 23 [some (.ref 150), some (ax_i x1), some (ax_i x2), some (ax_i x3), some (ax_i (V 506 ((x1 * 26) + x2)))] [ax_i x3, ax_i (V 506 ((x1 * 26) + x2)), .ref 152] rfl ?_
  obtain ⟨o2, h⟩ := h
  obtain ⟨V1, eV1⟩ : ∃ W9 : ax_V, W9 = ax_u V 152 (V 506 ((x1 * 26) + x2)) x3 := ⟨_, rfl⟩
  have h := h V1 eV1
  have hg1 : ax_g V1 := eV1 ▸ ax_u_g hg hx3
  refine ax_ist (n := 208) (pc' := 24) ⟨_, rfl⟩ az_ok (az_e 2 rfl) (by decide) o2 eV1 rfl ?_
  refine ax_mv 1 25 [some (.ref 150), some (ax_i x1), some (ax_i x2), some (ax_i x3), some (ax_i (V 506 ((x1 * 26) + x2)))] [.ref 150] rfl ?_
  refine ax_gR (v := .ref 153) (pc' := 28) ⟨_, rfl⟩ fl_5_18 (az_e 0 rfl) rfl rfl ?_
  refine ax_mv 2 31 [some (.ref 150), some (ax_i x1), some (ax_i x2), some (ax_i x3), some (ax_i (V 506 ((x1 * 26) + x2)))] [ax_i 1, ax_i (V 506 ((x1 * 26) + x2)), .ref 153] rfl ?_
  obtain ⟨o3, h⟩ := h
  obtain ⟨V2, eV2⟩ : ∃ W9 : ax_V, W9 = ax_u V1 153 (V 506 ((x1 * 26) + x2)) 1 := ⟨_, rfl⟩
  have h := h V2 eV2
  have hg2 : ax_g V2 := eV2 ▸ ax_u_g hg1 (by decide)
  refine ax_bst (n := 208) (pc' := 32) ⟨_, rfl⟩ az_ok (az_e 3 rfl) (by decide) o3 (by decide) eV2 rfl ?_
  exact ax_nret ⟨_, rfl⟩ rfl hg2 h
abbrev k_Machine_go_10 (B : Nat) (d : Nat) (x1 : Int) (x2 : Int) (x3 : Int) (y4 : Option Value) (V : ax_V) (Φ : ax_V → Prop) (Θ : ax_V → Prop) : Prop := ax_R (az_W B (az_EM B)) ax_t d m_Machine_go 10 [some (.ref 150), some (ax_i x1), some (ax_i x2), some (ax_i x3), y4] [] V (ax_Nr Φ) Θ
abbrev k_Machine_go_73 (B : Nat) (d : Nat) (x1 : Int) (x2 : Int) (x3 : Int) (y4 : Option Value) (V : ax_V) (Φ : ax_V → Prop) (Θ : ax_V → Prop) : Prop := ax_R (az_W B (az_EM B)) ax_t d m_Machine_go 73 [some (.ref 150), some (ax_i x1), some (ax_i x2), some (ax_i x3), y4] [] V (ax_Nr Φ) Θ
set_option maxRecDepth 20000 in set_option maxHeartbeats 8000000 in
theorem r_Machine_go_10 {B : Nat} {d : Nat} {V : ax_V} {Φ : ax_V → Prop} {Θ : ax_V → Prop} {x1 : Int} {x2 : Int} {x3 : Int} {y4 : Option Value} (hg : ax_g V) (hx1 : ax_rg x1) (hx2 : ax_rg x2) (hx3 : ax_rg x3) (hy4 : ax_y y4) (h : (0 ≤ x1 + 1 ∧ x1 + 1 < 9) ∧ ((V 510 (x1 + 1) ≤ x3 → (0 ≤ x1 ∧ x1 < 9) ∧ k_Machine_go_73 B d x1 x2 (V 511 x1) y4 V Φ Θ) ∧ (x3 < V 510 (x1 + 1) → (0 ≤ x3 ∧ x3 < 351) ∧ (0 ≤ x3 ∧ x3 < 350) ∧ (0 ≤ x2 + (V 560 x3) ∧ x2 + (V 560 x3) < 300) ∧ (0 ≤ x3 ∧ x3 < 350) ∧ ax_rg ((V 558 x3) + (V 155 (x2 + (V 560 x3)))) ∧ (∀ V1, V1 = ax_u V 154 x3 ((V 558 x3) + (V 155 (x2 + (V 560 x3)))) → k_Machine_go_10 B d x1 x2 (x3 + 1) y4 V1 Φ Θ)))) : k_Machine_go_10 B d x1 x2 x3 y4 V Φ Θ := by
  refine ax_mv 2 12 [some (.ref 150), some (ax_i x1), some (ax_i x2), some (ax_i x3), y4] [.ref 150, ax_i x3] rfl ?_
  refine ax_gR (v := .ref B) (pc' := 15) ⟨_, rfl⟩ fl_5_32 (az_e 0 rfl) rfl rfl ?_
  refine ax_gR (v := .ref (B + 10)) (pc' := 18) ⟨_, rfl⟩ fl_5_81 (az_b 0 rfl) rfl rfl ?_
  refine ax_mv 2 20 [some (.ref 150), some (ax_i x1), some (ax_i x2), some (ax_i x3), y4] [ax_i 1, ax_i x1, .ref (B + 10), ax_i x3] rfl ?_
  refine ax_add (pc' := 21) ⟨_, rfl⟩ rfl ?_
  obtain ⟨o1, h⟩ := h
  refine ax_ild (n := 9) (pc' := 22) ⟨_, rfl⟩ (az_b 10 rfl) (by decide) o1 rfl ?_
  refine ax_if2 (p1 := 63) (p2 := 25) ⟨_, rfl⟩ (by decide) rfl hx3 (hg _ _) (fun hc => ?_) (fun hc => ?_)
  · have h := h.1 hc
    refine ax_mv 1 64 [some (.ref 150), some (ax_i x1), some (ax_i x2), some (ax_i x3), y4] [.ref 150] rfl ?_
    refine ax_gR (v := .ref B) (pc' := 67) ⟨_, rfl⟩ fl_5_32 (az_e 0 rfl) rfl rfl ?_
    refine ax_gR (v := .ref (B + 11)) (pc' := 70) ⟨_, rfl⟩ fl_5_92 (az_b 0 rfl) rfl rfl ?_
    refine ax_mv 1 71 [some (.ref 150), some (ax_i x1), some (ax_i x2), some (ax_i x3), y4] [ax_i x1, .ref (B + 11)] rfl ?_
    obtain ⟨o2, h⟩ := h
    refine ax_ild (n := 9) (pc' := 72) ⟨_, rfl⟩ (az_b 11 rfl) (by decide) o2 rfl ?_
    refine ax_sti (i := 0) (k := 3) (n := 1) (pc' := 73) (L' := [some (.ref 150), some (ax_i x1), some (ax_i x2), some (ax_i (V 511 x1)), y4]) ⟨_, rfl⟩ rfl rfl rfl (Nat.le_of_ble_eq_true rfl) rfl rfl ?_
    exact h
  · have h := h.2 (Int.not_le.mp hc)
    refine ax_mv 1 26 [some (.ref 150), some (ax_i x1), some (ax_i x2), some (ax_i x3), y4] [.ref 150] rfl ?_
    refine ax_gR (v := .ref 154) (pc' := 29) ⟨_, rfl⟩ fl_5_22 (az_e 0 rfl) rfl rfl ?_
    refine ax_mv 2 31 [some (.ref 150), some (ax_i x1), some (ax_i x2), some (ax_i x3), y4] [.ref 150, ax_i x3, .ref 154] rfl ?_
    refine ax_gR (v := .ref (B + 56)) (pc' := 34) ⟨_, rfl⟩ fl_5_57 (az_e 0 rfl) rfl rfl ?_
    refine ax_gR (v := .ref (B + 58)) (pc' := 37) ⟨_, rfl⟩ fl_5_84 (az_b 56 rfl) rfl rfl ?_
    refine ax_mv 1 38 [some (.ref 150), some (ax_i x1), some (ax_i x2), some (ax_i x3), y4] [ax_i x3, .ref (B + 58), ax_i x3, .ref 154] rfl ?_
    obtain ⟨o3, h⟩ := h
    refine ax_ild (n := 351) (pc' := 39) ⟨_, rfl⟩ (az_b 58 rfl) (by decide) o3 rfl ?_
    refine ax_mv 1 40 [some (.ref 150), some (ax_i x1), some (ax_i x2), some (ax_i x3), y4] [.ref 150, ax_i (V 558 x3), ax_i x3, .ref 154] rfl ?_
    refine ax_gR (v := .ref 155) (pc' := 43) ⟨_, rfl⟩ fl_5_25 (az_e 0 rfl) rfl rfl ?_
    refine ax_mv 2 45 [some (.ref 150), some (ax_i x1), some (ax_i x2), some (ax_i x3), y4] [.ref 150, ax_i x2, .ref 155, ax_i (V 558 x3), ax_i x3, .ref 154] rfl ?_
    refine ax_gR (v := .ref (B + 56)) (pc' := 48) ⟨_, rfl⟩ fl_5_57 (az_e 0 rfl) rfl rfl ?_
    refine ax_gR (v := .ref (B + 60)) (pc' := 51) ⟨_, rfl⟩ fl_5_89 (az_b 56 rfl) rfl rfl ?_
    refine ax_mv 1 52 [some (.ref 150), some (ax_i x1), some (ax_i x2), some (ax_i x3), y4] [ax_i x3, .ref (B + 60), ax_i x2, .ref 155, ax_i (V 558 x3), ax_i x3, .ref 154] rfl ?_
    obtain ⟨o4, h⟩ := h
    refine ax_ild (n := 350) (pc' := 53) ⟨_, rfl⟩ (az_b 60 rfl) (by decide) o4 rfl ?_
    refine ax_add (pc' := 54) ⟨_, rfl⟩ rfl ?_
    obtain ⟨o5, h⟩ := h
    refine ax_ild (n := 300) (pc' := 55) ⟨_, rfl⟩ (az_e 5 rfl) (by decide) o5 rfl ?_
    refine ax_add (pc' := 56) ⟨_, rfl⟩ rfl ?_
    obtain ⟨o6, o7, h⟩ := h
    obtain ⟨V1, eV1⟩ : ∃ W9 : ax_V, W9 = ax_u V 154 x3 ((V 558 x3) + (V 155 (x2 + (V 560 x3)))) := ⟨_, rfl⟩
    have h := h V1 eV1
    have hg1 : ax_g V1 := eV1 ▸ ax_u_g hg o7
    refine ax_ist (n := 350) (pc' := 57) ⟨_, rfl⟩ az_ok (az_e 4 rfl) (by decide) o6 eV1 rfl ?_
    refine ax_inc (x := x3) (pc' := 60) (L' := [some (.ref 150), some (ax_i x1), some (ax_i x2), some (ax_i (x3 + 1)), y4]) ⟨_, rfl⟩ rfl rfl rfl rfl ?_
    refine ax_mv 1 10 [some (.ref 150), some (ax_i x1), some (ax_i x2), some (ax_i (x3 + 1)), y4] [] rfl ?_
    exact h
set_option maxRecDepth 20000 in set_option maxHeartbeats 8000000 in
theorem r_Machine_go_73 {B : Nat} {d : Nat} {V : ax_V} {Φ : ax_V → Prop} {Θ : ax_V → Prop} {x1 : Int} {x2 : Int} {x3 : Int} {y4 : Option Value} (hg : ax_g V) (hx1 : ax_rg x1) (hx2 : ax_rg x2) (hx3 : ax_rg x3) (hy4 : ax_y y4) (h : (0 ≤ x1 + 1 ∧ x1 + 1 < 9) ∧ ((V 511 (x1 + 1) ≤ x3 → Φ V) ∧ (x3 < V 511 (x1 + 1) → (0 ≤ x3 ∧ x3 < 2048) ∧ (0 ≤ x3 ∧ x3 < 2048) ∧ ((ax_shr (V 512 x3) 10 = 0 → ax_I (az_W B (az_EM B)) d q_Machine_isOn [.ref 150, ax_i (ax_and (V 512 x3) 1023)] V (fun r1 V1 => ((r1 = 0 → k_Machine_go_73 B d x1 x2 (x3 + 1) (some (ax_i (ax_and (V 512 x3) 1023))) V1 Φ Θ) ∧ (¬ r1 = 0 → ax_I (az_W B (az_EM B)) d q_Machine_worth [.ref 150, ax_i (ax_and (V 512 x3) 1023), ax_i x1, ax_i x2] V1 (fun r2 V2 => (0 ≤ ax_and (V 512 x3) 1023 ∧ ax_and (V 512 x3) 1023 < 700) ∧ (∀ V3, V3 = ax_u V2 151 (ax_and (V 512 x3) 1023) r2 → k_Machine_go_73 B d x1 x2 (x3 + 1) (some (ax_i (ax_and (V 512 x3) 1023))) V3 Φ Θ)) Θ))) Θ) ∧ (ax_shr (V 512 x3) 10 = 1 → ax_N (az_W B (az_EM B)) d q_Machine_assign [.ref 150, ax_i (ax_and (V 512 x3) 1023)] V (fun V4 => k_Machine_go_73 B d x1 x2 (x3 + 1) (some (ax_i (ax_and (V 512 x3) 1023))) V4 Φ Θ) Θ) ∧ (ax_shr (V 512 x3) 10 = 2 → ax_N (az_W B (az_EM B)) d q_Machine_goOver [.ref 150, ax_i (ax_and (V 512 x3) 1023), ax_i 1, ax_i x1, ax_i x2] V (fun V5 => k_Machine_go_73 B d x1 x2 (x3 + 1) (some (ax_i (ax_and (V 512 x3) 1023))) V5 Φ Θ) Θ) ∧ (ax_shr (V 512 x3) 10 = 3 → ax_I (az_W B (az_EM B)) d q_Machine_isOn [.ref 150, ax_i (ax_and (V 512 x3) 1023)] V (fun r6 V6 => ((r6 = 0 → k_Machine_go_73 B d x1 x2 (x3 + 1) (some (ax_i (ax_and (V 512 x3) 1023))) V6 Φ Θ) ∧ (¬ r6 = 0 → (0 ≤ ax_and (V 512 x3) 1023 ∧ ax_and (V 512 x3) 1023 < 700) ∧ (0 ≤ ax_and (V 512 x3) 1023 ∧ ax_and (V 512 x3) 1023 < 700) ∧ (0 ≤ V6 521 (ax_and (V 512 x3) 1023) ∧ V6 521 (ax_and (V 512 x3) 1023) < 700) ∧ (0 ≤ x2 + (V6 531 (ax_and (V 512 x3) 1023)) ∧ x2 + (V6 531 (ax_and (V 512 x3) 1023)) < 300) ∧ (∀ V7, V7 = ax_u V6 155 (x2 + (V6 531 (ax_and (V 512 x3) 1023))) (V6 151 (V6 521 (ax_and (V 512 x3) 1023))) → k_Machine_go_73 B d x1 x2 (x3 + 1) (some (ax_i (ax_and (V 512 x3) 1023))) V7 Φ Θ)))) Θ) ∧ (ax_shr (V 512 x3) 10 = 4 → (0 ≤ ax_and (V 512 x3) 1023 ∧ ax_and (V 512 x3) 1023 < 208) ∧ ((V 153 (ax_and (V 512 x3) 1023) = 0 → k_Machine_go_73 B d x1 x2 (x3 + 1) (some (ax_i (ax_and (V 512 x3) 1023))) V Φ Θ) ∧ (¬ V 153 (ax_and (V 512 x3) 1023) = 0 → (0 ≤ ax_and (V 512 x3) 1023 ∧ ax_and (V 512 x3) 1023 < 208) ∧ (0 ≤ ax_and (V 512 x3) 1023 ∧ ax_and (V 512 x3) 1023 < 208) ∧ (0 ≤ x2 + (V 540 (ax_and (V 512 x3) 1023)) ∧ x2 + (V 540 (ax_and (V 512 x3) 1023)) < 300) ∧ (∀ V8, V8 = ax_u V 155 (x2 + (V 540 (ax_and (V 512 x3) 1023))) (V 152 (ax_and (V 512 x3) 1023)) → k_Machine_go_73 B d x1 x2 (x3 + 1) (some (ax_i (ax_and (V 512 x3) 1023))) V8 Φ Θ)))) ∧ (¬ ax_shr (V 512 x3) 10 = 0 → ¬ ax_shr (V 512 x3) 10 = 1 → ¬ ax_shr (V 512 x3) 10 = 2 → ¬ ax_shr (V 512 x3) 10 = 3 → ¬ ax_shr (V 512 x3) 10 = 4 → ax_N (az_W B (az_EM B)) d q_Machine_goOver [.ref 150, ax_i (ax_and (V 512 x3) 1023), ax_i 0, ax_i x1, ax_i x2] V (fun V9 => k_Machine_go_73 B d x1 x2 (x3 + 1) (some (ax_i (ax_and (V 512 x3) 1023))) V9 Φ Θ) Θ))))) : k_Machine_go_73 B d x1 x2 x3 y4 V Φ Θ := by
  refine ax_mv 2 75 [some (.ref 150), some (ax_i x1), some (ax_i x2), some (ax_i x3), y4] [.ref 150, ax_i x3] rfl ?_
  refine ax_gR (v := .ref B) (pc' := 78) ⟨_, rfl⟩ fl_5_32 (az_e 0 rfl) rfl rfl ?_
  refine ax_gR (v := .ref (B + 11)) (pc' := 81) ⟨_, rfl⟩ fl_5_92 (az_b 0 rfl) rfl rfl ?_
  refine ax_mv 2 83 [some (.ref 150), some (ax_i x1), some (ax_i x2), some (ax_i x3), y4] [ax_i 1, ax_i x1, .ref (B + 11), ax_i x3] rfl ?_
  refine ax_add (pc' := 84) ⟨_, rfl⟩ rfl ?_
  obtain ⟨o8, h⟩ := h
  refine ax_ild (n := 9) (pc' := 85) ⟨_, rfl⟩ (az_b 11 rfl) (by decide) o8 rfl ?_
  refine ax_if2 (p1 := 292) (p2 := 88) ⟨_, rfl⟩ (by decide) rfl hx3 (hg _ _) (fun hc => ?_) (fun hc => ?_)
  · have h := h.1 hc
    exact ax_nret ⟨_, rfl⟩ rfl hg h
  · have h := h.2 (Int.not_le.mp hc)
    refine ax_mv 1 89 [some (.ref 150), some (ax_i x1), some (ax_i x2), some (ax_i x3), y4] [.ref 150] rfl ?_
    refine ax_gR (v := .ref B) (pc' := 92) ⟨_, rfl⟩ fl_5_32 (az_e 0 rfl) rfl rfl ?_
    refine ax_gR (v := .ref (B + 12)) (pc' := 95) ⟨_, rfl⟩ fl_5_95 (az_b 0 rfl) rfl rfl ?_
    refine ax_mv 1 96 [some (.ref 150), some (ax_i x1), some (ax_i x2), some (ax_i x3), y4] [ax_i x3, .ref (B + 12)] rfl ?_
    obtain ⟨o9, h⟩ := h
    refine ax_ild (n := 2048) (pc' := 97) ⟨_, rfl⟩ (az_b 12 rfl) (by decide) o9 rfl ?_
    refine ax_sip (pc' := 100) ⟨_, rfl⟩ (by decide) rfl ?_
    refine ax_rand (pc' := 101) ⟨_, rfl⟩ rfl ?_
    refine ax_sti (i := 0) (k := 4) (n := 2) (pc' := 103) (L' := [some (.ref 150), some (ax_i x1), some (ax_i x2), some (ax_i x3), some (ax_i (ax_and (V 512 x3) 1023))]) ⟨_, rfl⟩ rfl rfl rfl (Nat.le_of_ble_eq_true rfl) rfl rfl ?_
    refine ax_mv 1 104 [some (.ref 150), some (ax_i x1), some (ax_i x2), some (ax_i x3), some (ax_i (ax_and (V 512 x3) 1023))] [.ref 150] rfl ?_
    refine ax_gR (v := .ref B) (pc' := 107) ⟨_, rfl⟩ fl_5_32 (az_e 0 rfl) rfl rfl ?_
    refine ax_gR (v := .ref (B + 12)) (pc' := 110) ⟨_, rfl⟩ fl_5_95 (az_b 0 rfl) rfl rfl ?_
    refine ax_mv 1 111 [some (.ref 150), some (ax_i x1), some (ax_i x2), some (ax_i x3), some (ax_i (ax_and (V 512 x3) 1023))] [ax_i x3, .ref (B + 12)] rfl ?_
    obtain ⟨o10, h⟩ := h
    refine ax_ild (n := 2048) (pc' := 112) ⟨_, rfl⟩ (az_b 12 rfl) (by decide) o10 rfl ?_
    refine ax_bip (pc' := 114) ⟨_, rfl⟩ (by decide) rfl ?_
    refine ax_rshr (pc' := 115) ⟨_, rfl⟩ rfl ?_
    have t0 : (ax_shr (V 512 x3) 10 = 0) → ax_R (az_W B (az_EM B)) ax_t d m_Machine_go 148 [some (.ref 150), some (ax_i x1), some (ax_i x2), some (ax_i x3), some (ax_i (ax_and (V 512 x3) 1023))] [] V (ax_Nr Φ) Θ := fun hk => by
      have h := h.1 hk
      refine ax_mv 2 151 [some (.ref 150), some (ax_i x1), some (ax_i x2), some (ax_i x3), some (ax_i (ax_and (V 512 x3) 1023))] [ax_i (ax_and (V 512 x3) 1023), .ref 150] rfl ?_
      refine ax_callI (pc' := 154) ⟨_, rfl⟩ ml_5_98 (rest := []) rfl (fun ss hs => ⟨_, _, (az_e 0 rfl) ss hs⟩) (Nat.le_of_ble_eq_true rfl) rfl rfl h (fun r1 V1 hg1 hr1 h => ?_)
      refine ax_if (p1 := 286) (p2 := 157) ⟨_, rfl⟩ (by decide) rfl hr1 (fun hc => ?_) (fun hc => ?_)
      · have h := h.1 hc
        refine ax_inc (x := x3) (pc' := 289) (L' := [some (.ref 150), some (ax_i x1), some (ax_i x2), some (ax_i (x3 + 1)), some (ax_i (ax_and (V 512 x3) 1023))]) ⟨_, rfl⟩ rfl rfl rfl rfl ?_
        refine ax_mv 1 73 [some (.ref 150), some (ax_i x1), some (ax_i x2), some (ax_i (x3 + 1)), some (ax_i (ax_and (V 512 x3) 1023))] [] rfl ?_
        exact h
      · have h := h.2 hc
        refine ax_mv 1 158 [some (.ref 150), some (ax_i x1), some (ax_i x2), some (ax_i x3), some (ax_i (ax_and (V 512 x3) 1023))] [.ref 150] rfl ?_
        refine ax_gR (v := .ref 151) (pc' := 161) ⟨_, rfl⟩ fl_5_9 (az_e 0 rfl) rfl rfl ?_
        refine ax_mv 5 168 [some (.ref 150), some (ax_i x1), some (ax_i x2), some (ax_i x3), some (ax_i (ax_and (V 512 x3) 1023))] [ax_i x2, ax_i x1, ax_i (ax_and (V 512 x3) 1023), .ref 150, ax_i (ax_and (V 512 x3) 1023), .ref 151] rfl ?_
        refine ax_callI (pc' := 171) ⟨_, rfl⟩ ml_5_102 (rest := [ax_i (ax_and (V 512 x3) 1023), .ref 151]) rfl (fun ss hs => ⟨_, _, (az_e 0 rfl) ss hs⟩) (Nat.le_of_ble_eq_true rfl) rfl rfl h (fun r2 V2 hg2 hr2 h => ?_)
        obtain ⟨o11, h⟩ := h
        obtain ⟨V3, eV3⟩ : ∃ W9 : ax_V, W9 = ax_u V2 151 (ax_and (V 512 x3) 1023) r2 := ⟨_, rfl⟩
        have h := h V3 eV3
        have hg3 : ax_g V3 := eV3 ▸ ax_u_g hg2 hr2
        refine ax_ist (n := 700) (pc' := 172) ⟨_, rfl⟩ az_ok (az_e 1 rfl) (by decide) o11 eV3 rfl ?_
        refine ax_mv 1 286 [some (.ref 150), some (ax_i x1), some (ax_i x2), some (ax_i x3), some (ax_i (ax_and (V 512 x3) 1023))] [] rfl ?_
        refine ax_inc (x := x3) (pc' := 289) (L' := [some (.ref 150), some (ax_i x1), some (ax_i x2), some (ax_i (x3 + 1)), some (ax_i (ax_and (V 512 x3) 1023))]) ⟨_, rfl⟩ rfl rfl rfl rfl ?_
        refine ax_mv 1 73 [some (.ref 150), some (ax_i x1), some (ax_i x2), some (ax_i (x3 + 1)), some (ax_i (ax_and (V 512 x3) 1023))] [] rfl ?_
        exact h
    have t1 : (ax_shr (V 512 x3) 10 = 1) → ax_R (az_W B (az_EM B)) ax_t d m_Machine_go 175 [some (.ref 150), some (ax_i x1), some (ax_i x2), some (ax_i x3), some (ax_i (ax_and (V 512 x3) 1023))] [] V (ax_Nr Φ) Θ := fun hk => by
      have h := h.2.1 hk
      refine ax_mv 2 178 [some (.ref 150), some (ax_i x1), some (ax_i x2), some (ax_i x3), some (ax_i (ax_and (V 512 x3) 1023))] [ax_i (ax_and (V 512 x3) 1023), .ref 150] rfl ?_
      refine ax_callN (pc' := 181) ⟨_, rfl⟩ ml_5_106 (rest := []) rfl (fun ss hs => ⟨_, _, (az_e 0 rfl) ss hs⟩) (Nat.le_of_ble_eq_true rfl) rfl rfl h (fun V4 hg4 h => ?_)
      refine ax_mv 1 286 [some (.ref 150), some (ax_i x1), some (ax_i x2), some (ax_i x3), some (ax_i (ax_and (V 512 x3) 1023))] [] rfl ?_
      refine ax_inc (x := x3) (pc' := 289) (L' := [some (.ref 150), some (ax_i x1), some (ax_i x2), some (ax_i (x3 + 1)), some (ax_i (ax_and (V 512 x3) 1023))]) ⟨_, rfl⟩ rfl rfl rfl rfl ?_
      refine ax_mv 1 73 [some (.ref 150), some (ax_i x1), some (ax_i x2), some (ax_i (x3 + 1)), some (ax_i (ax_and (V 512 x3) 1023))] [] rfl ?_
      exact h
    have t2 : (ax_shr (V 512 x3) 10 = 2) → ax_R (az_W B (az_EM B)) ax_t d m_Machine_go 184 [some (.ref 150), some (ax_i x1), some (ax_i x2), some (ax_i x3), some (ax_i (ax_and (V 512 x3) 1023))] [] V (ax_Nr Φ) Θ := fun hk => by
      have h := h.2.2.1 hk
      refine ax_mv 5 190 [some (.ref 150), some (ax_i x1), some (ax_i x2), some (ax_i x3), some (ax_i (ax_and (V 512 x3) 1023))] [ax_i x2, ax_i x1, ax_i 1, ax_i (ax_and (V 512 x3) 1023), .ref 150] rfl ?_
      refine ax_callN (pc' := 193) ⟨_, rfl⟩ ml_5_110 (rest := []) rfl (fun ss hs => ⟨_, _, (az_e 0 rfl) ss hs⟩) (Nat.le_of_ble_eq_true rfl) rfl rfl h (fun V5 hg5 h => ?_)
      refine ax_mv 1 286 [some (.ref 150), some (ax_i x1), some (ax_i x2), some (ax_i x3), some (ax_i (ax_and (V 512 x3) 1023))] [] rfl ?_
      refine ax_inc (x := x3) (pc' := 289) (L' := [some (.ref 150), some (ax_i x1), some (ax_i x2), some (ax_i (x3 + 1)), some (ax_i (ax_and (V 512 x3) 1023))]) ⟨_, rfl⟩ rfl rfl rfl rfl ?_
      refine ax_mv 1 73 [some (.ref 150), some (ax_i x1), some (ax_i x2), some (ax_i (x3 + 1)), some (ax_i (ax_and (V 512 x3) 1023))] [] rfl ?_
      exact h
    have t3 : (ax_shr (V 512 x3) 10 = 3) → ax_R (az_W B (az_EM B)) ax_t d m_Machine_go 196 [some (.ref 150), some (ax_i x1), some (ax_i x2), some (ax_i x3), some (ax_i (ax_and (V 512 x3) 1023))] [] V (ax_Nr Φ) Θ := fun hk => by
      have h := h.2.2.2.1 hk
      refine ax_mv 2 199 [some (.ref 150), some (ax_i x1), some (ax_i x2), some (ax_i x3), some (ax_i (ax_and (V 512 x3) 1023))] [ax_i (ax_and (V 512 x3) 1023), .ref 150] rfl ?_
      refine ax_callI (pc' := 202) ⟨_, rfl⟩ ml_5_98 (rest := []) rfl (fun ss hs => ⟨_, _, (az_e 0 rfl) ss hs⟩) (Nat.le_of_ble_eq_true rfl) rfl rfl h (fun r6 V6 hg6 hr6 h => ?_)
      refine ax_if (p1 := 286) (p2 := 205) ⟨_, rfl⟩ (by decide) rfl hr6 (fun hc => ?_) (fun hc => ?_)
      · have h := h.1 hc
        refine ax_inc (x := x3) (pc' := 289) (L' := [some (.ref 150), some (ax_i x1), some (ax_i x2), some (ax_i (x3 + 1)), some (ax_i (ax_and (V 512 x3) 1023))]) ⟨_, rfl⟩ rfl rfl rfl rfl ?_
        refine ax_mv 1 73 [some (.ref 150), some (ax_i x1), some (ax_i x2), some (ax_i (x3 + 1)), some (ax_i (ax_and (V 512 x3) 1023))] [] rfl ?_
        exact h
      · have h := h.2 hc
        refine ax_mv 1 206 [some (.ref 150), some (ax_i x1), some (ax_i x2), some (ax_i x3), some (ax_i (ax_and (V 512 x3) 1023))] [.ref 150] rfl ?_
        refine ax_gR (v := .ref 155) (pc' := 209) ⟨_, rfl⟩ fl_5_25 (az_e 0 rfl) rfl rfl ?_
        refine ax_mv 2 211 [some (.ref 150), some (ax_i x1), some (ax_i x2), some (ax_i x3), some (ax_i (ax_and (V 512 x3) 1023))] [.ref 150, ax_i x2, .ref 155] rfl ?_
        refine ax_gR (v := .ref (B + 16)) (pc' := 214) ⟨_, rfl⟩ fl_5_42 (az_e 0 rfl) rfl rfl ?_
        refine ax_gR (v := .ref (B + 31)) (pc' := 217) ⟨_, rfl⟩ fl_5_114 (az_b 16 rfl) rfl rfl ?_
        refine ax_mv 1 219 [some (.ref 150), some (ax_i x1), some (ax_i x2), some (ax_i x3), some (ax_i (ax_and (V 512 x3) 1023))] [ax_i (ax_and (V 512 x3) 1023), .ref (B + 31), ax_i x2, .ref 155] rfl ?_
        obtain ⟨o12, h⟩ := h
        refine ax_ild (n := 700) (pc' := 220) ⟨_, rfl⟩ (az_b 31 rfl) (by decide) o12 rfl ?_
        refine ax_add (pc' := 221) ⟨_, rfl⟩ rfl ?_
        refine ax_mv 1 222 [some (.ref 150), some (ax_i x1), some (ax_i x2), some (ax_i x3), some (ax_i (ax_and (V 512 x3) 1023))] [.ref 150, ax_i (x2 + (V6 531 (ax_and (V 512 x3) 1023))), .ref 155] rfl ?_
        refine ax_gR (v := .ref 151) (pc' := 225) ⟨_, rfl⟩ fl_5_9 (az_e 0 rfl) rfl rfl ?_
        refine ax_mv 1 226 [some (.ref 150), some (ax_i x1), some (ax_i x2), some (ax_i x3), some (ax_i (ax_and (V 512 x3) 1023))] [.ref 150, .ref 151, ax_i (x2 + (V6 531 (ax_and (V 512 x3) 1023))), .ref 155] rfl ?_
        refine ax_gR (v := .ref (B + 16)) (pc' := 229) ⟨_, rfl⟩ fl_5_42 (az_e 0 rfl) rfl rfl ?_
        refine ax_gR (v := .ref (B + 21)) (pc' := 232) ⟨_, rfl⟩ fl_5_117 (az_b 16 rfl) rfl rfl ?_
        refine ax_mv 1 234 [some (.ref 150), some (ax_i x1), some (ax_i x2), some (ax_i x3), some (ax_i (ax_and (V 512 x3) 1023))] [ax_i (ax_and (V 512 x3) 1023), .ref (B + 21), .ref 151, ax_i (x2 + (V6 531 (ax_and (V 512 x3) 1023))), .ref 155] rfl ?_
        obtain ⟨o13, h⟩ := h
        refine ax_ild (n := 700) (pc' := 235) ⟨_, rfl⟩ (az_b 21 rfl) (by decide) o13 rfl ?_
        obtain ⟨o14, h⟩ := h
        refine ax_ild (n := 700) (pc' := 236) ⟨_, rfl⟩ (az_e 1 rfl) (by decide) o14 rfl ?_
        obtain ⟨o15, h⟩ := h
        obtain ⟨V7, eV7⟩ : ∃ W9 : ax_V, W9 = ax_u V6 155 (x2 + (V6 531 (ax_and (V 512 x3) 1023))) (V6 151 (V6 521 (ax_and (V 512 x3) 1023))) := ⟨_, rfl⟩
        have h := h V7 eV7
        have hg7 : ax_g V7 := eV7 ▸ ax_u_g hg6 (hg6 _ _)
        refine ax_ist (n := 300) (pc' := 237) ⟨_, rfl⟩ az_ok (az_e 5 rfl) (by decide) o15 eV7 rfl ?_
        refine ax_mv 1 286 [some (.ref 150), some (ax_i x1), some (ax_i x2), some (ax_i x3), some (ax_i (ax_and (V 512 x3) 1023))] [] rfl ?_
        refine ax_inc (x := x3) (pc' := 289) (L' := [some (.ref 150), some (ax_i x1), some (ax_i x2), some (ax_i (x3 + 1)), some (ax_i (ax_and (V 512 x3) 1023))]) ⟨_, rfl⟩ rfl rfl rfl rfl ?_
        refine ax_mv 1 73 [some (.ref 150), some (ax_i x1), some (ax_i x2), some (ax_i (x3 + 1)), some (ax_i (ax_and (V 512 x3) 1023))] [] rfl ?_
        exact h
    have t4 : (ax_shr (V 512 x3) 10 = 4) → ax_R (az_W B (az_EM B)) ax_t d m_Machine_go 240 [some (.ref 150), some (ax_i x1), some (ax_i x2), some (ax_i x3), some (ax_i (ax_and (V 512 x3) 1023))] [] V (ax_Nr Φ) Θ := fun hk => by
      have h := h.2.2.2.2.1 hk
      refine ax_mv 1 241 [some (.ref 150), some (ax_i x1), some (ax_i x2), some (ax_i x3), some (ax_i (ax_and (V 512 x3) 1023))] [.ref 150] rfl ?_
      refine ax_gR (v := .ref 153) (pc' := 244) ⟨_, rfl⟩ fl_5_18 (az_e 0 rfl) rfl rfl ?_
      refine ax_mv 1 246 [some (.ref 150), some (ax_i x1), some (ax_i x2), some (ax_i x3), some (ax_i (ax_and (V 512 x3) 1023))] [ax_i (ax_and (V 512 x3) 1023), .ref 153] rfl ?_
      obtain ⟨o16, h⟩ := h
      refine ax_bld (n := 208) (pc' := 247) ⟨_, rfl⟩ (az_e 3 rfl) (by decide) o16 rfl ?_
      refine ax_if (p1 := 286) (p2 := 250) ⟨_, rfl⟩ (by decide) rfl (hg _ _) (fun hc => ?_) (fun hc => ?_)
      · have h := h.1 hc
        refine ax_inc (x := x3) (pc' := 289) (L' := [some (.ref 150), some (ax_i x1), some (ax_i x2), some (ax_i (x3 + 1)), some (ax_i (ax_and (V 512 x3) 1023))]) ⟨_, rfl⟩ rfl rfl rfl rfl ?_
        refine ax_mv 1 73 [some (.ref 150), some (ax_i x1), some (ax_i x2), some (ax_i (x3 + 1)), some (ax_i (ax_and (V 512 x3) 1023))] [] rfl ?_
        exact h
      · have h := h.2 hc
        refine ax_mv 1 251 [some (.ref 150), some (ax_i x1), some (ax_i x2), some (ax_i x3), some (ax_i (ax_and (V 512 x3) 1023))] [.ref 150] rfl ?_
        refine ax_gR (v := .ref 155) (pc' := 254) ⟨_, rfl⟩ fl_5_25 (az_e 0 rfl) rfl rfl ?_
        refine ax_mv 2 256 [some (.ref 150), some (ax_i x1), some (ax_i x2), some (ax_i x3), some (ax_i (ax_and (V 512 x3) 1023))] [.ref 150, ax_i x2, .ref 155] rfl ?_
        refine ax_gR (v := .ref (B + 32)) (pc' := 259) ⟨_, rfl⟩ fl_5_47 (az_e 0 rfl) rfl rfl ?_
        refine ax_gR (v := .ref (B + 40)) (pc' := 262) ⟨_, rfl⟩ fl_5_120 (az_b 32 rfl) rfl rfl ?_
        refine ax_mv 1 264 [some (.ref 150), some (ax_i x1), some (ax_i x2), some (ax_i x3), some (ax_i (ax_and (V 512 x3) 1023))] [ax_i (ax_and (V 512 x3) 1023), .ref (B + 40), ax_i x2, .ref 155] rfl ?_
        obtain ⟨o17, h⟩ := h
        refine ax_ild (n := 208) (pc' := 265) ⟨_, rfl⟩ (az_b 40 rfl) (by decide) o17 rfl ?_
        refine ax_add (pc' := 266) ⟨_, rfl⟩ rfl ?_
        refine ax_mv 1 267 [some (.ref 150), some (ax_i x1), some (ax_i x2), some (ax_i x3), some (ax_i (ax_and (V 512 x3) 1023))] [.ref 150, ax_i (x2 + (V 540 (ax_and (V 512 x3) 1023))), .ref 155] rfl ?_
        refine ax_gR (v := .ref 152) (pc' := 270) ⟨_, rfl⟩ fl_5_15 (az_e 0 rfl) rfl rfl ?_
        refine ax_mv 1 272 [some (.ref 150), some (ax_i x1), some (ax_i x2), some (ax_i x3), some (ax_i (ax_and (V 512 x3) 1023))] [ax_i (ax_and (V 512 x3) 1023), .ref 152, ax_i (x2 + (V 540 (ax_and (V 512 x3) 1023))), .ref 155] rfl ?_
        obtain ⟨o18, h⟩ := h
        refine ax_ild (n := 208) (pc' := 273) ⟨_, rfl⟩ (az_e 2 rfl) (by decide) o18 rfl ?_
        obtain ⟨o19, h⟩ := h
        obtain ⟨V8, eV8⟩ : ∃ W9 : ax_V, W9 = ax_u V 155 (x2 + (V 540 (ax_and (V 512 x3) 1023))) (V 152 (ax_and (V 512 x3) 1023)) := ⟨_, rfl⟩
        have h := h V8 eV8
        have hg8 : ax_g V8 := eV8 ▸ ax_u_g hg (hg _ _)
        refine ax_ist (n := 300) (pc' := 274) ⟨_, rfl⟩ az_ok (az_e 5 rfl) (by decide) o19 eV8 rfl ?_
        refine ax_mv 1 286 [some (.ref 150), some (ax_i x1), some (ax_i x2), some (ax_i x3), some (ax_i (ax_and (V 512 x3) 1023))] [] rfl ?_
        refine ax_inc (x := x3) (pc' := 289) (L' := [some (.ref 150), some (ax_i x1), some (ax_i x2), some (ax_i (x3 + 1)), some (ax_i (ax_and (V 512 x3) 1023))]) ⟨_, rfl⟩ rfl rfl rfl rfl ?_
        refine ax_mv 1 73 [some (.ref 150), some (ax_i x1), some (ax_i x2), some (ax_i (x3 + 1)), some (ax_i (ax_and (V 512 x3) 1023))] [] rfl ?_
        exact h
    have tD : ¬ ax_shr (V 512 x3) 10 = 0 → ¬ ax_shr (V 512 x3) 10 = 1 → ¬ ax_shr (V 512 x3) 10 = 2 → ¬ ax_shr (V 512 x3) 10 = 3 → ¬ ax_shr (V 512 x3) 10 = 4 → ax_R (az_W B (az_EM B)) ax_t d m_Machine_go 277 [some (.ref 150), some (ax_i x1), some (ax_i x2), some (ax_i x3), some (ax_i (ax_and (V 512 x3) 1023))] [] V (ax_Nr Φ) Θ := fun n0 n1 n2 n3 n4 => by
      have h := h.2.2.2.2.2 n0 n1 n2 n3 n4
      refine ax_mv 5 283 [some (.ref 150), some (ax_i x1), some (ax_i x2), some (ax_i x3), some (ax_i (ax_and (V 512 x3) 1023))] [ax_i x2, ax_i x1, ax_i 0, ax_i (ax_and (V 512 x3) 1023), .ref 150] rfl ?_
      refine ax_callN (pc' := 286) ⟨_, rfl⟩ ml_5_110 (rest := []) rfl (fun ss hs => ⟨_, _, (az_e 0 rfl) ss hs⟩) (Nat.le_of_ble_eq_true rfl) rfl rfl h (fun V9 hg9 h => ?_)
      refine ax_inc (x := x3) (pc' := 289) (L' := [some (.ref 150), some (ax_i x1), some (ax_i x2), some (ax_i (x3 + 1)), some (ax_i (ax_and (V 512 x3) 1023))]) ⟨_, rfl⟩ rfl rfl rfl rfl ?_
      refine ax_mv 1 73 [some (.ref 150), some (ax_i x1), some (ax_i x2), some (ax_i (x3 + 1)), some (ax_i (ax_and (V 512 x3) 1023))] [] rfl ?_
      exact h
    by_cases e0 : ax_shr (V 512 x3) 10 = 0
    · exact ax_tsC (off := 33) (p1 := 148) ⟨_, rfl⟩ (ax_rg_of _) (by omega) (by omega) (by rw [e0]; rfl) (by decide) (t0 (e0))
    by_cases e1 : ax_shr (V 512 x3) 10 = 1
    · exact ax_tsC (off := 60) (p1 := 175) ⟨_, rfl⟩ (ax_rg_of _) (by omega) (by omega) (by rw [e1]; rfl) (by decide) (t1 (e1))
    by_cases e2 : ax_shr (V 512 x3) 10 = 2
    · exact ax_tsC (off := 69) (p1 := 184) ⟨_, rfl⟩ (ax_rg_of _) (by omega) (by omega) (by rw [e2]; rfl) (by decide) (t2 (e2))
    by_cases e3 : ax_shr (V 512 x3) 10 = 3
    · exact ax_tsC (off := 81) (p1 := 196) ⟨_, rfl⟩ (ax_rg_of _) (by omega) (by omega) (by rw [e3]; rfl) (by decide) (t3 (e3))
    by_cases e4 : ax_shr (V 512 x3) 10 = 4
    · exact ax_tsC (off := 125) (p1 := 240) ⟨_, rfl⟩ (ax_rg_of _) (by omega) (by omega) (by rw [e4]; rfl) (by decide) (t4 (e4))
    exact ax_tsD (p1 := 277) ⟨_, rfl⟩ (ax_rg_of _) (by omega) (by decide) (tD e0 e1 e2 e3 e4)
set_option maxRecDepth 20000 in set_option maxHeartbeats 8000000 in
theorem r_Machine_go {B : Nat} {d : Nat} {V : ax_V} {Φ : ax_V → Prop} {Θ : ax_V → Prop} {x1 : Int} {x2 : Int} (hg : ax_g V) (hx1 : ax_rg x1) (hx2 : ax_rg x2) (h : (0 ≤ x1 ∧ x1 < 9) ∧ k_Machine_go_10 B d x1 x2 (V 510 x1) none V Φ Θ) : ax_N (az_W B (az_EM B)) (d + 1) q_Machine_go [.ref 150, ax_i x1, ax_i x2] V Φ Θ := by
  refine ax_T.of (M := m_Machine_go) rfl (Nat.le_of_ble_eq_true rfl) ?_
  refine ax_mv 0 0 [some (.ref 150), some (ax_i x1), some (ax_i x2), none, none] [] rfl ?_
  refine ax_mv 1 1 [some (.ref 150), some (ax_i x1), some (ax_i x2), none, none] [.ref 150] rfl ?_
  refine ax_gR (v := .ref B) (pc' := 4) ⟨_, rfl⟩ fl_5_32 (az_e 0 rfl) rfl rfl ?_
  refine ax_gR (v := .ref (B + 10)) (pc' := 7) ⟨_, rfl⟩ fl_5_81 (az_b 0 rfl) rfl rfl ?_
  refine ax_mv 1 8 [some (.ref 150), some (ax_i x1), some (ax_i x2), none, none] [ax_i x1, .ref (B + 10)] rfl ?_
  obtain ⟨o20, h⟩ := h
  refine ax_ild (n := 9) (pc' := 9) ⟨_, rfl⟩ (az_b 10 rfl) (by decide) o20 rfl ?_
  refine ax_sti (i := 0) (k := 3) (n := 1) (pc' := 10) (L' := [some (.ref 150), some (ax_i x1), some (ax_i x2), some (ax_i (V 510 x1)), none]) ⟨_, rfl⟩ rfl rfl rfl (Nat.le_of_ble_eq_true rfl) rfl rfl ?_
  exact h
theorem r_Machine_isOn {B : Nat} {d : Nat} {V : ax_V} {Φ : Int → ax_V → Prop} {Θ : ax_V → Prop} {x1 : Int} (hg : ax_g V) (hx1 : ax_rg x1) (h : (0 ≤ x1 ∧ x1 < 700) ∧ ((V 525 x1 = -1 → (0 ≤ x1 ∧ x1 < 700) ∧ ax_I (az_W B (az_EM B)) d q_Machine_isPresent [.ref 150, ax_i (V 529 x1)] V (fun r1 V1 => (r1 = 0 ∨ r1 = 1) ∧ Φ r1 V1) Θ) ∧ (¬ V 525 x1 = -1 → (0 ≤ V 525 x1 ∧ V 525 x1 < 350) ∧ (0 ≤ V 563 (V 525 x1) ∧ V 563 (V 525 x1) < 350) ∧ ((V 154 (V 563 (V 525 x1)) = V 525 x1 → Φ 1 V) ∧ (¬ V 154 (V 563 (V 525 x1)) = V 525 x1 → Φ 0 V))))) : ax_I (az_W B (az_EM B)) (d + 1) q_Machine_isOn [.ref 150, ax_i x1] V Φ Θ := by
  refine ax_T.of (M := m_Machine_isOn) rfl (Nat.le_of_ble_eq_true rfl) ?_
  refine ax_mv 0 0 [some (.ref 150), some (ax_i x1), none] [] rfl ?_
  refine ax_mv 1 1 [some (.ref 150), some (ax_i x1), none] [.ref 150] rfl ?_
  refine ax_gR (v := .ref (B + 16)) (pc' := 4) ⟨_, rfl⟩ fl_5_42 (az_e 0 rfl) rfl rfl ?_
  refine ax_gR (v := .ref (B + 25)) (pc' := 7) ⟨_, rfl⟩ fl_5_125 (az_b 16 rfl) rfl rfl ?_
  refine ax_mv 1 8 [some (.ref 150), some (ax_i x1), none] [ax_i x1, .ref (B + 25)] rfl ?_
  obtain ⟨o1, h⟩ := h
  refine ax_ild (n := 700) (pc' := 9) ⟨_, rfl⟩ (az_b 25 rfl) (by decide) o1 rfl ?_
  refine ax_sti (i := 0) (k := 2) (n := 1) (pc' := 10) (L' := [some (.ref 150), some (ax_i x1), some (ax_i (V 525 x1))]) ⟨_, rfl⟩ rfl rfl rfl (Nat.le_of_ble_eq_true rfl) rfl rfl ?_
  refine ax_mv 2 12 [some (.ref 150), some (ax_i x1), some (ax_i (V 525 x1))] [ax_i (-1), ax_i (V 525 x1)] rfl ?_
  refine ax_if2 (p1 := 39) (p2 := 15) ⟨_, rfl⟩ (by decide) rfl (hg _ _) (by decide) (fun hc => ?_) (fun hc => ?_)
  · have h := h.1 hc
    refine ax_mv 2 41 [some (.ref 150), some (ax_i x1), some (ax_i (V 525 x1))] [.ref 150, .ref 150] rfl ?_
    refine ax_gR (v := .ref (B + 16)) (pc' := 44) ⟨_, rfl⟩ fl_5_42 (az_e 0 rfl) rfl rfl ?_
    refine ax_gR (v := .ref (B + 29)) (pc' := 47) ⟨_, rfl⟩ fl_5_131 (az_b 16 rfl) rfl rfl ?_
    refine ax_mv 1 48 [some (.ref 150), some (ax_i x1), some (ax_i (V 525 x1))] [ax_i x1, .ref (B + 29), .ref 150] rfl ?_
    obtain ⟨o2, h⟩ := h
    refine ax_ild (n := 700) (pc' := 49) ⟨_, rfl⟩ (az_b 29 rfl) (by decide) o2 rfl ?_
    refine ax_callI (pc' := 52) ⟨_, rfl⟩ ml_5_134 (rest := []) rfl (fun ss hs => ⟨_, _, (az_e 0 rfl) ss hs⟩) (Nat.le_of_ble_eq_true rfl) rfl rfl h (fun r1 V1 hg1 hr1 h => ?_)
    obtain ⟨o3, h⟩ := h
    exact ax_iret ⟨_, rfl⟩ rfl (ax_nbv o3) hr1 hg1 h
  · have h := h.2 hc
    refine ax_mv 1 16 [some (.ref 150), some (ax_i x1), some (ax_i (V 525 x1))] [.ref 150] rfl ?_
    refine ax_gR (v := .ref 154) (pc' := 19) ⟨_, rfl⟩ fl_5_22 (az_e 0 rfl) rfl rfl ?_
    refine ax_mv 1 20 [some (.ref 150), some (ax_i x1), some (ax_i (V 525 x1))] [.ref 150, .ref 154] rfl ?_
    refine ax_gR (v := .ref (B + 56)) (pc' := 23) ⟨_, rfl⟩ fl_5_57 (az_e 0 rfl) rfl rfl ?_
    refine ax_gR (v := .ref (B + 63)) (pc' := 26) ⟨_, rfl⟩ fl_5_128 (az_b 56 rfl) rfl rfl ?_
    refine ax_mv 1 27 [some (.ref 150), some (ax_i x1), some (ax_i (V 525 x1))] [ax_i (V 525 x1), .ref (B + 63), .ref 154] rfl ?_
    obtain ⟨o4, h⟩ := h
    refine ax_ild (n := 350) (pc' := 28) ⟨_, rfl⟩ (az_b 63 rfl) (by decide) o4 rfl ?_
    obtain ⟨o5, h⟩ := h
    refine ax_ild (n := 350) (pc' := 29) ⟨_, rfl⟩ (az_e 4 rfl) (by decide) o5 rfl ?_
    refine ax_mv 1 30 [some (.ref 150), some (ax_i x1), some (ax_i (V 525 x1))] [ax_i (V 525 x1), ax_i (V 154 (V 563 (V 525 x1)))] rfl ?_
    refine ax_if2 (p1 := 37) (p2 := 33) ⟨_, rfl⟩ (by decide) rfl (hg _ _) (hg _ _) (fun hc => ?_) (fun hc => ?_)
    · have h := h.2 hc
      refine ax_mv 1 38 [some (.ref 150), some (ax_i x1), some (ax_i (V 525 x1))] [ax_i 0] rfl ?_
      exact ax_iret ⟨_, rfl⟩ rfl (ax_nbv (by decide)) (by decide) hg h
    · have h := h.1 (Classical.not_not.mp hc)
      refine ax_mv 2 38 [some (.ref 150), some (ax_i x1), some (ax_i (V 525 x1))] [ax_i 1] rfl ?_
      exact ax_iret ⟨_, rfl⟩ rfl (ax_nbv (by decide)) (by decide) hg h
theorem r_Machine_isPresent {B : Nat} {d : Nat} {V : ax_V} {Φ : Int → ax_V → Prop} {Θ : ax_V → Prop} {x1 : Int} (hg : ax_g V) (hx1 : ax_rg x1) (h : ((0 ≤ x1 → (0 ≤ ax_shr x1 1 ∧ ax_shr x1 1 < 208) ∧ ((V 153 (ax_shr x1 1) = 0 → Φ 0 V) ∧ (¬ V 153 (ax_shr x1 1) = 0 → (0 ≤ ax_shr x1 1 ∧ ax_shr x1 1 < 208) ∧ ax_rg (1 - (ax_and x1 1)) ∧ ((V 152 (ax_shr x1 1) = 1 - (ax_and x1 1) → Φ 1 V) ∧ (¬ V 152 (ax_shr x1 1) = 1 - (ax_and x1 1) → Φ 0 V))))) ∧ (x1 < 0 → Φ 1 V))) : ax_I (az_W B (az_EM B)) (d + 1) q_Machine_isPresent [.ref 150, ax_i x1] V Φ Θ := by
  refine ax_T.of (M := m_Machine_isPresent) rfl (Nat.le_of_ble_eq_true rfl) ?_
  refine ax_mv 0 0 [some (.ref 150), some (ax_i x1)] [] rfl ?_
  refine ax_mv 1 1 [some (.ref 150), some (ax_i x1)] [ax_i x1] rfl ?_
  refine ax_if (p1 := 6) (p2 := 4) ⟨_, rfl⟩ (by decide) rfl hx1 (fun hc => ?_) (fun hc => ?_)
  · have h := h.1 hc
    refine ax_mv 1 7 [some (.ref 150), some (ax_i x1)] [.ref 150] rfl ?_
    refine ax_gR (v := .ref 153) (pc' := 10) ⟨_, rfl⟩ fl_5_18 (az_e 0 rfl) rfl rfl ?_
    refine ax_mv 2 12 [some (.ref 150), some (ax_i x1)] [ax_i 1, ax_i x1, .ref 153] rfl ?_
    refine ax_rshr (pc' := 13) ⟨_, rfl⟩ rfl ?_
    obtain ⟨o1, h⟩ := h
    refine ax_bld (n := 208) (pc' := 14) ⟨_, rfl⟩ (az_e 3 rfl) (by decide) o1 rfl ?_
    refine ax_if (p1 := 37) (p2 := 17) ⟨_, rfl⟩ (by decide) rfl (hg _ _) (fun hc => ?_) (fun hc => ?_)
    · have h := h.1 hc
      refine ax_mv 1 38 [some (.ref 150), some (ax_i x1)] [ax_i 0] rfl ?_
      exact ax_iret ⟨_, rfl⟩ rfl (ax_nbv (by decide)) (by decide) hg h
    · have h := h.2 hc
      refine ax_mv 1 18 [some (.ref 150), some (ax_i x1)] [.ref 150] rfl ?_
      refine ax_gR (v := .ref 152) (pc' := 21) ⟨_, rfl⟩ fl_5_15 (az_e 0 rfl) rfl rfl ?_
      refine ax_mv 2 23 [some (.ref 150), some (ax_i x1)] [ax_i 1, ax_i x1, .ref 152] rfl ?_
      refine ax_rshr (pc' := 24) ⟨_, rfl⟩ rfl ?_
      obtain ⟨o2, h⟩ := h
      refine ax_ild (n := 208) (pc' := 25) ⟨_, rfl⟩ (az_e 2 rfl) (by decide) o2 rfl ?_
      refine ax_mv 3 28 [some (.ref 150), some (ax_i x1)] [ax_i 1, ax_i x1, ax_i 1, ax_i (V 152 (ax_shr x1 1))] rfl ?_
      refine ax_rand (pc' := 29) ⟨_, rfl⟩ rfl ?_
      refine ax_sub (pc' := 30) ⟨_, rfl⟩ rfl ?_
      obtain ⟨o3, h⟩ := h
      refine ax_if2 (p1 := 37) (p2 := 33) ⟨_, rfl⟩ (by decide) rfl (hg _ _) o3 (fun hc => ?_) (fun hc => ?_)
      · have h := h.2 hc
        refine ax_mv 1 38 [some (.ref 150), some (ax_i x1)] [ax_i 0] rfl ?_
        exact ax_iret ⟨_, rfl⟩ rfl (ax_nbv (by decide)) (by decide) hg h
      · have h := h.1 (Classical.not_not.mp hc)
        refine ax_mv 2 38 [some (.ref 150), some (ax_i x1)] [ax_i 1] rfl ?_
        exact ax_iret ⟨_, rfl⟩ rfl (ax_nbv (by decide)) (by decide) hg h
  · have h := h.2 (Int.not_le.mp hc)
    refine ax_mv 1 5 [some (.ref 150), some (ax_i x1)] [ax_i 1] rfl ?_
    exact ax_iret ⟨_, rfl⟩ rfl (ax_nbv (by decide)) (by decide) hg h
abbrev k_Machine_worth_30 (B : Nat) (d : Nat) (x1 : Int) (x2 : Int) (x3 : Int) (x4 : Int) (y5 : Option Value) (y6 : Option Value) (y7 : Option Value) (s0 : Int) (V : ax_V) (Φ : Int → ax_V → Prop) (Θ : ax_V → Prop) : Prop := ax_R (az_W B (az_EM B)) ax_t d m_Machine_worth 30 [some (.ref 150), some (ax_i x1), some (ax_i x2), some (ax_i x3), some (ax_i x4), y5, y6, y7] [ax_i s0] V (ax_Ir Φ) Θ
abbrev k_Machine_worth_66 (B : Nat) (d : Nat) (x1 : Int) (x2 : Int) (x3 : Int) (y4 : Option Value) (x5 : Int) (x6 : Int) (y7 : Option Value) (s0 : Int) (V : ax_V) (Φ : Int → ax_V → Prop) (Θ : ax_V → Prop) : Prop := ax_R (az_W B (az_EM B)) ax_t d m_Machine_worth 66 [some (.ref 150), some (ax_i x1), some (ax_i x2), some (ax_i x3), y4, some (ax_i x5), some (ax_i x6), y7] [ax_i s0] V (ax_Ir Φ) Θ
set_option maxRecDepth 20000 in set_option maxHeartbeats 8000000 in
theorem r_Machine_worth_30 {B : Nat} {d : Nat} {V : ax_V} {Φ : Int → ax_V → Prop} {Θ : ax_V → Prop} {x1 : Int} {x2 : Int} {x3 : Int} {x4 : Int} {y5 : Option Value} {y6 : Option Value} {y7 : Option Value} {s0 : Int} (hg : ax_g V) (hx1 : ax_rg x1) (hx2 : ax_rg x2) (hx3 : ax_rg x3) (hx4 : ax_rg x4) (hy5 : ax_y y5) (hy6 : ax_y y6) (hy7 : ax_y y7) (hs0 : ax_rg s0) (h : ((0 ≤ x4 → (0 ≤ x4 ∧ x4 < 700) ∧ ((0 ≤ s0 → (0 ≤ s0 ∧ s0 < 700) ∧ k_Machine_worth_66 B d x1 x2 x3 (some (ax_i x4)) s0 (V 151 x4) y7 (V 151 s0) V Φ Θ) ∧ (s0 < 0 → k_Machine_worth_66 B d x1 x2 x3 (some (ax_i x4)) s0 (V 151 x4) y7 0 V Φ Θ))) ∧ (x4 < 0 → ((0 ≤ s0 → (0 ≤ s0 ∧ s0 < 700) ∧ k_Machine_worth_66 B d x1 x2 x3 (some (ax_i x4)) s0 0 y7 (V 151 s0) V Φ Θ) ∧ (s0 < 0 → k_Machine_worth_66 B d x1 x2 x3 (some (ax_i x4)) s0 0 y7 0 V Φ Θ))))) : k_Machine_worth_30 B d x1 x2 x3 x4 y5 y6 y7 s0 V Φ Θ := by
  refine ax_sti (i := 0) (k := 5) (n := 2) (pc' := 32) (L' := [some (.ref 150), some (ax_i x1), some (ax_i x2), some (ax_i x3), some (ax_i x4), some (ax_i s0), y6, y7]) ⟨_, rfl⟩ rfl rfl rfl (Nat.le_of_ble_eq_true rfl) rfl rfl ?_
  refine ax_mv 1 34 [some (.ref 150), some (ax_i x1), some (ax_i x2), some (ax_i x3), some (ax_i x4), some (ax_i s0), y6, y7] [ax_i x4] rfl ?_
  refine ax_if (p1 := 41) (p2 := 37) ⟨_, rfl⟩ (by decide) rfl hx4 (fun hc => ?_) (fun hc => ?_)
  · have h := h.1 hc
    refine ax_mv 1 42 [some (.ref 150), some (ax_i x1), some (ax_i x2), some (ax_i x3), some (ax_i x4), some (ax_i s0), y6, y7] [.ref 150] rfl ?_
    refine ax_gR (v := .ref 151) (pc' := 45) ⟨_, rfl⟩ fl_5_9 (az_e 0 rfl) rfl rfl ?_
    refine ax_mv 1 47 [some (.ref 150), some (ax_i x1), some (ax_i x2), some (ax_i x3), some (ax_i x4), some (ax_i s0), y6, y7] [ax_i x4, .ref 151] rfl ?_
    obtain ⟨o1, h⟩ := h
    refine ax_ild (n := 700) (pc' := 48) ⟨_, rfl⟩ (az_e 1 rfl) (by decide) o1 rfl ?_
    refine ax_sti (i := 0) (k := 6) (n := 2) (pc' := 50) (L' := [some (.ref 150), some (ax_i x1), some (ax_i x2), some (ax_i x3), some (ax_i x4), some (ax_i s0), some (ax_i (V 151 x4)), y7]) ⟨_, rfl⟩ rfl rfl rfl (Nat.le_of_ble_eq_true rfl) rfl rfl ?_
    refine ax_mv 1 52 [some (.ref 150), some (ax_i x1), some (ax_i x2), some (ax_i x3), some (ax_i x4), some (ax_i s0), some (ax_i (V 151 x4)), y7] [ax_i s0] rfl ?_
    refine ax_if (p1 := 59) (p2 := 55) ⟨_, rfl⟩ (by decide) rfl hs0 (fun hc => ?_) (fun hc => ?_)
    · have h := h.1 hc
      refine ax_mv 1 60 [some (.ref 150), some (ax_i x1), some (ax_i x2), some (ax_i x3), some (ax_i x4), some (ax_i s0), some (ax_i (V 151 x4)), y7] [.ref 150] rfl ?_
      refine ax_gR (v := .ref 151) (pc' := 63) ⟨_, rfl⟩ fl_5_9 (az_e 0 rfl) rfl rfl ?_
      refine ax_mv 1 65 [some (.ref 150), some (ax_i x1), some (ax_i x2), some (ax_i x3), some (ax_i x4), some (ax_i s0), some (ax_i (V 151 x4)), y7] [ax_i s0, .ref 151] rfl ?_
      obtain ⟨o2, h⟩ := h
      refine ax_ild (n := 700) (pc' := 66) ⟨_, rfl⟩ (az_e 1 rfl) (by decide) o2 rfl ?_
      exact h
    · have h := h.2 (Int.not_le.mp hc)
      refine ax_mv 2 66 [some (.ref 150), some (ax_i x1), some (ax_i x2), some (ax_i x3), some (ax_i x4), some (ax_i s0), some (ax_i (V 151 x4)), y7] [ax_i 0] rfl ?_
      exact h
  · have h := h.2 (Int.not_le.mp hc)
    refine ax_mv 2 48 [some (.ref 150), some (ax_i x1), some (ax_i x2), some (ax_i x3), some (ax_i x4), some (ax_i s0), y6, y7] [ax_i 0] rfl ?_
    refine ax_sti (i := 0) (k := 6) (n := 2) (pc' := 50) (L' := [some (.ref 150), some (ax_i x1), some (ax_i x2), some (ax_i x3), some (ax_i x4), some (ax_i s0), some (ax_i 0), y7]) ⟨_, rfl⟩ rfl rfl rfl (Nat.le_of_ble_eq_true rfl) rfl rfl ?_
    refine ax_mv 1 52 [some (.ref 150), some (ax_i x1), some (ax_i x2), some (ax_i x3), some (ax_i x4), some (ax_i s0), some (ax_i 0), y7] [ax_i s0] rfl ?_
    refine ax_if (p1 := 59) (p2 := 55) ⟨_, rfl⟩ (by decide) rfl hs0 (fun hc => ?_) (fun hc => ?_)
    · have h := h.1 hc
      refine ax_mv 1 60 [some (.ref 150), some (ax_i x1), some (ax_i x2), some (ax_i x3), some (ax_i x4), some (ax_i s0), some (ax_i 0), y7] [.ref 150] rfl ?_
      refine ax_gR (v := .ref 151) (pc' := 63) ⟨_, rfl⟩ fl_5_9 (az_e 0 rfl) rfl rfl ?_
      refine ax_mv 1 65 [some (.ref 150), some (ax_i x1), some (ax_i x2), some (ax_i x3), some (ax_i x4), some (ax_i s0), some (ax_i 0), y7] [ax_i s0, .ref 151] rfl ?_
      obtain ⟨o3, h⟩ := h
      refine ax_ild (n := 700) (pc' := 66) ⟨_, rfl⟩ (az_e 1 rfl) (by decide) o3 rfl ?_
      exact h
    · have h := h.2 (Int.not_le.mp hc)
      refine ax_mv 2 66 [some (.ref 150), some (ax_i x1), some (ax_i x2), some (ax_i x3), some (ax_i x4), some (ax_i s0), some (ax_i 0), y7] [ax_i 0] rfl ?_
      exact h
set_option maxRecDepth 20000 in set_option maxHeartbeats 8000000 in
theorem r_Machine_worth_66 {B : Nat} {d : Nat} {V : ax_V} {Φ : Int → ax_V → Prop} {Θ : ax_V → Prop} {x1 : Int} {x2 : Int} {x3 : Int} {y4 : Option Value} {x5 : Int} {x6 : Int} {y7 : Option Value} {s0 : Int} (hg : ax_g V) (hx1 : ax_rg x1) (hx2 : ax_rg x2) (hx3 : ax_rg x3) (hy4 : ax_y y4) (hx5 : ax_rg x5) (hx6 : ax_rg x6) (hy7 : ax_y y7) (hs0 : ax_rg s0) (h : (0 ≤ x1 ∧ x1 < 700) ∧ ((V 517 x1 = 0 → (0 ≤ x1 ∧ x1 < 700) ∧ Φ (V 520 x1) V) ∧ (V 517 x1 = 1 → (0 ≤ x1 ∧ x1 < 700) ∧ Φ (V 520 x1) V) ∧ (V 517 x1 = 2 → (0 ≤ x1 ∧ x1 < 700) ∧ (0 ≤ V 520 x1 ∧ V 520 x1 < 208) ∧ Φ (V 152 (V 520 x1)) V) ∧ (V 517 x1 = 3 → (0 ≤ x1 ∧ x1 < 700) ∧ (0 ≤ V 520 x1 ∧ V 520 x1 < 208) ∧ (0 ≤ x3 + (V 540 (V 520 x1)) ∧ x3 + (V 540 (V 520 x1)) < 300) ∧ Φ (V 155 (x3 + (V 540 (V 520 x1)))) V) ∧ (V 517 x1 = 6 → (0 ≤ x1 ∧ x1 < 700) ∧ (0 ≤ x3 + (V 531 x1) ∧ x3 + (V 531 x1) < 300) ∧ Φ (V 155 (x3 + (V 531 x1))) V) ∧ (V 517 x1 = 16 → (0 ≤ x1 ∧ x1 < 700) ∧ ax_I (az_W B (az_EM B)) d q_Machine_divide [.ref 150, ax_i x6, ax_i s0, ax_i (V 519 x1)] V (fun r1 V1 => Φ r1 V1) Θ) ∧ (V 517 x1 = 17 → (0 ≤ x1 ∧ x1 < 700) ∧ ax_I (az_W B (az_EM B)) d q_Machine_rest [.ref 150, ax_i x6, ax_i s0, ax_i (V 519 x1)] V (fun r2 V2 => Φ r2 V2) Θ) ∧ (V 517 x1 = 18 → ((x6 = 0 → (0 ≤ x5 ∧ x5 < 700) ∧ (0 ≤ V 522 x5 ∧ V 522 x5 < 700) ∧ Φ (V 151 (V 522 x5)) V) ∧ (¬ x6 = 0 → Φ s0 V))) ∧ (V 517 x1 = 19 → (0 ≤ x1 ∧ x1 < 700) ∧ ax_I (az_W B (az_EM B)) d q_Machine_firstThenLater [.ref 150, ax_i (x3 + (V 531 x1)), ax_i x6, ax_i s0] V (fun r3 V3 => Φ r3 V3) Θ) ∧ (V 517 x1 = 20 → Φ x6 V) ∧ (V 517 x1 = 21 → (0 ≤ x1 ∧ x1 < 700) ∧ (0 ≤ V 520 x1 ∧ V 520 x1 < 208) ∧ ((V 152 (V 520 x1) = 0 → Φ s0 V) ∧ (¬ V 152 (V 520 x1) = 0 → Φ x6 V))) ∧ (V 517 x1 = 22 → (0 ≤ x1 ∧ x1 < 700) ∧ ax_I (az_W B (az_EM B)) d q_Machine_call [.ref 150, ax_i x1, ax_i x2, ax_i (x3 + (V 531 x1))] V (fun r4 V4 => Φ r4 V4) Θ) ∧ (¬ V 517 x1 = 0 → ¬ V 517 x1 = 1 → ¬ V 517 x1 = 2 → ¬ V 517 x1 = 3 → ¬ V 517 x1 = 6 → ¬ V 517 x1 = 16 → ¬ V 517 x1 = 17 → ¬ V 517 x1 = 18 → ¬ V 517 x1 = 19 → ¬ V 517 x1 = 20 → ¬ V 517 x1 = 21 → ¬ V 517 x1 = 22 → (0 ≤ x1 ∧ x1 < 700) ∧ ax_I (az_W B (az_EM B)) d q_Machine_reckon [ax_i (V 517 x1), ax_i x6, ax_i s0] V (fun r5 V5 => Φ r5 V5) (fun _ => False)))) : k_Machine_worth_66 B d x1 x2 x3 y4 x5 x6 y7 s0 V Φ Θ := by
  refine ax_sti (i := 0) (k := 7) (n := 2) (pc' := 68) (L' := [some (.ref 150), some (ax_i x1), some (ax_i x2), some (ax_i x3), y4, some (ax_i x5), some (ax_i x6), some (ax_i s0)]) ⟨_, rfl⟩ rfl rfl rfl (Nat.le_of_ble_eq_true rfl) rfl rfl ?_
  refine ax_mv 1 69 [some (.ref 150), some (ax_i x1), some (ax_i x2), some (ax_i x3), y4, some (ax_i x5), some (ax_i x6), some (ax_i s0)] [.ref 150] rfl ?_
  refine ax_gR (v := .ref (B + 16)) (pc' := 72) ⟨_, rfl⟩ fl_5_42 (az_e 0 rfl) rfl rfl ?_
  refine ax_gR (v := .ref (B + 17)) (pc' := 75) ⟨_, rfl⟩ fl_5_140 (az_b 16 rfl) rfl rfl ?_
  refine ax_mv 1 76 [some (.ref 150), some (ax_i x1), some (ax_i x2), some (ax_i x3), y4, some (ax_i x5), some (ax_i x6), some (ax_i s0)] [ax_i x1, .ref (B + 17)] rfl ?_
  obtain ⟨o4, h⟩ := h
  refine ax_ild (n := 700) (pc' := 77) ⟨_, rfl⟩ (az_b 17 rfl) (by decide) o4 rfl ?_
  have t0 : (V 517 x1 = 0) → ax_R (az_W B (az_EM B)) ax_t d m_Machine_worth 184 [some (.ref 150), some (ax_i x1), some (ax_i x2), some (ax_i x3), y4, some (ax_i x5), some (ax_i x6), some (ax_i s0)] [] V (ax_Ir Φ) Θ := fun hk => by
    have h := h.1 hk
    refine ax_mv 1 185 [some (.ref 150), some (ax_i x1), some (ax_i x2), some (ax_i x3), y4, some (ax_i x5), some (ax_i x6), some (ax_i s0)] [.ref 150] rfl ?_
    refine ax_gR (v := .ref (B + 16)) (pc' := 188) ⟨_, rfl⟩ fl_5_42 (az_e 0 rfl) rfl rfl ?_
    refine ax_gR (v := .ref (B + 20)) (pc' := 191) ⟨_, rfl⟩ fl_5_143 (az_b 16 rfl) rfl rfl ?_
    refine ax_mv 1 192 [some (.ref 150), some (ax_i x1), some (ax_i x2), some (ax_i x3), y4, some (ax_i x5), some (ax_i x6), some (ax_i s0)] [ax_i x1, .ref (B + 20)] rfl ?_
    obtain ⟨o5, h⟩ := h
    refine ax_ild (n := 700) (pc' := 193) ⟨_, rfl⟩ (az_b 20 rfl) (by decide) o5 rfl ?_
    exact ax_iret ⟨_, rfl⟩ rfl rfl (hg _ _) hg h
  have t1 : (V 517 x1 = 1) → ax_R (az_W B (az_EM B)) ax_t d m_Machine_worth 194 [some (.ref 150), some (ax_i x1), some (ax_i x2), some (ax_i x3), y4, some (ax_i x5), some (ax_i x6), some (ax_i s0)] [] V (ax_Ir Φ) Θ := fun hk => by
    have h := h.2.1 hk
    refine ax_mv 1 195 [some (.ref 150), some (ax_i x1), some (ax_i x2), some (ax_i x3), y4, some (ax_i x5), some (ax_i x6), some (ax_i s0)] [.ref 150] rfl ?_
    refine ax_gR (v := .ref (B + 16)) (pc' := 198) ⟨_, rfl⟩ fl_5_42 (az_e 0 rfl) rfl rfl ?_
    refine ax_gR (v := .ref (B + 20)) (pc' := 201) ⟨_, rfl⟩ fl_5_143 (az_b 16 rfl) rfl rfl ?_
    refine ax_mv 1 202 [some (.ref 150), some (ax_i x1), some (ax_i x2), some (ax_i x3), y4, some (ax_i x5), some (ax_i x6), some (ax_i s0)] [ax_i x1, .ref (B + 20)] rfl ?_
    obtain ⟨o6, h⟩ := h
    refine ax_ild (n := 700) (pc' := 203) ⟨_, rfl⟩ (az_b 20 rfl) (by decide) o6 rfl ?_
    exact ax_iret ⟨_, rfl⟩ rfl rfl (hg _ _) hg h
  have t2 : (V 517 x1 = 2) → ax_R (az_W B (az_EM B)) ax_t d m_Machine_worth 204 [some (.ref 150), some (ax_i x1), some (ax_i x2), some (ax_i x3), y4, some (ax_i x5), some (ax_i x6), some (ax_i s0)] [] V (ax_Ir Φ) Θ := fun hk => by
    have h := h.2.2.1 hk
    refine ax_mv 1 205 [some (.ref 150), some (ax_i x1), some (ax_i x2), some (ax_i x3), y4, some (ax_i x5), some (ax_i x6), some (ax_i s0)] [.ref 150] rfl ?_
    refine ax_gR (v := .ref 152) (pc' := 208) ⟨_, rfl⟩ fl_5_15 (az_e 0 rfl) rfl rfl ?_
    refine ax_mv 1 209 [some (.ref 150), some (ax_i x1), some (ax_i x2), some (ax_i x3), y4, some (ax_i x5), some (ax_i x6), some (ax_i s0)] [.ref 150, .ref 152] rfl ?_
    refine ax_gR (v := .ref (B + 16)) (pc' := 212) ⟨_, rfl⟩ fl_5_42 (az_e 0 rfl) rfl rfl ?_
    refine ax_gR (v := .ref (B + 20)) (pc' := 215) ⟨_, rfl⟩ fl_5_143 (az_b 16 rfl) rfl rfl ?_
    refine ax_mv 1 216 [some (.ref 150), some (ax_i x1), some (ax_i x2), some (ax_i x3), y4, some (ax_i x5), some (ax_i x6), some (ax_i s0)] [ax_i x1, .ref (B + 20), .ref 152] rfl ?_
    obtain ⟨o7, h⟩ := h
    refine ax_ild (n := 700) (pc' := 217) ⟨_, rfl⟩ (az_b 20 rfl) (by decide) o7 rfl ?_
    obtain ⟨o8, h⟩ := h
    refine ax_ild (n := 208) (pc' := 218) ⟨_, rfl⟩ (az_e 2 rfl) (by decide) o8 rfl ?_
    exact ax_iret ⟨_, rfl⟩ rfl rfl (hg _ _) hg h
  have t3 : (V 517 x1 = 3) → ax_R (az_W B (az_EM B)) ax_t d m_Machine_worth 219 [some (.ref 150), some (ax_i x1), some (ax_i x2), some (ax_i x3), y4, some (ax_i x5), some (ax_i x6), some (ax_i s0)] [] V (ax_Ir Φ) Θ := fun hk => by
    have h := h.2.2.2.1 hk
    refine ax_mv 1 220 [some (.ref 150), some (ax_i x1), some (ax_i x2), some (ax_i x3), y4, some (ax_i x5), some (ax_i x6), some (ax_i s0)] [.ref 150] rfl ?_
    refine ax_gR (v := .ref 155) (pc' := 223) ⟨_, rfl⟩ fl_5_25 (az_e 0 rfl) rfl rfl ?_
    refine ax_mv 2 225 [some (.ref 150), some (ax_i x1), some (ax_i x2), some (ax_i x3), y4, some (ax_i x5), some (ax_i x6), some (ax_i s0)] [.ref 150, ax_i x3, .ref 155] rfl ?_
    refine ax_gR (v := .ref (B + 32)) (pc' := 228) ⟨_, rfl⟩ fl_5_47 (az_e 0 rfl) rfl rfl ?_
    refine ax_gR (v := .ref (B + 40)) (pc' := 231) ⟨_, rfl⟩ fl_5_120 (az_b 32 rfl) rfl rfl ?_
    refine ax_mv 1 232 [some (.ref 150), some (ax_i x1), some (ax_i x2), some (ax_i x3), y4, some (ax_i x5), some (ax_i x6), some (ax_i s0)] [.ref 150, .ref (B + 40), ax_i x3, .ref 155] rfl ?_
    refine ax_gR (v := .ref (B + 16)) (pc' := 235) ⟨_, rfl⟩ fl_5_42 (az_e 0 rfl) rfl rfl ?_
    refine ax_gR (v := .ref (B + 20)) (pc' := 238) ⟨_, rfl⟩ fl_5_143 (az_b 16 rfl) rfl rfl ?_
    refine ax_mv 1 239 [some (.ref 150), some (ax_i x1), some (ax_i x2), some (ax_i x3), y4, some (ax_i x5), some (ax_i x6), some (ax_i s0)] [ax_i x1, .ref (B + 20), .ref (B + 40), ax_i x3, .ref 155] rfl ?_
    obtain ⟨o9, h⟩ := h
    refine ax_ild (n := 700) (pc' := 240) ⟨_, rfl⟩ (az_b 20 rfl) (by decide) o9 rfl ?_
    obtain ⟨o10, h⟩ := h
    refine ax_ild (n := 208) (pc' := 241) ⟨_, rfl⟩ (az_b 40 rfl) (by decide) o10 rfl ?_
    refine ax_add (pc' := 242) ⟨_, rfl⟩ rfl ?_
    obtain ⟨o11, h⟩ := h
    refine ax_ild (n := 300) (pc' := 243) ⟨_, rfl⟩ (az_e 5 rfl) (by decide) o11 rfl ?_
    exact ax_iret ⟨_, rfl⟩ rfl rfl (hg _ _) hg h
  have t4 : (V 517 x1 = 6) → ax_R (az_W B (az_EM B)) ax_t d m_Machine_worth 244 [some (.ref 150), some (ax_i x1), some (ax_i x2), some (ax_i x3), y4, some (ax_i x5), some (ax_i x6), some (ax_i s0)] [] V (ax_Ir Φ) Θ := fun hk => by
    have h := h.2.2.2.2.1 hk
    refine ax_mv 1 245 [some (.ref 150), some (ax_i x1), some (ax_i x2), some (ax_i x3), y4, some (ax_i x5), some (ax_i x6), some (ax_i s0)] [.ref 150] rfl ?_
    refine ax_gR (v := .ref 155) (pc' := 248) ⟨_, rfl⟩ fl_5_25 (az_e 0 rfl) rfl rfl ?_
    refine ax_mv 2 250 [some (.ref 150), some (ax_i x1), some (ax_i x2), some (ax_i x3), y4, some (ax_i x5), some (ax_i x6), some (ax_i s0)] [.ref 150, ax_i x3, .ref 155] rfl ?_
    refine ax_gR (v := .ref (B + 16)) (pc' := 253) ⟨_, rfl⟩ fl_5_42 (az_e 0 rfl) rfl rfl ?_
    refine ax_gR (v := .ref (B + 31)) (pc' := 256) ⟨_, rfl⟩ fl_5_114 (az_b 16 rfl) rfl rfl ?_
    refine ax_mv 1 257 [some (.ref 150), some (ax_i x1), some (ax_i x2), some (ax_i x3), y4, some (ax_i x5), some (ax_i x6), some (ax_i s0)] [ax_i x1, .ref (B + 31), ax_i x3, .ref 155] rfl ?_
    obtain ⟨o12, h⟩ := h
    refine ax_ild (n := 700) (pc' := 258) ⟨_, rfl⟩ (az_b 31 rfl) (by decide) o12 rfl ?_
    refine ax_add (pc' := 259) ⟨_, rfl⟩ rfl ?_
    obtain ⟨o13, h⟩ := h
    refine ax_ild (n := 300) (pc' := 260) ⟨_, rfl⟩ (az_e 5 rfl) (by decide) o13 rfl ?_
    exact ax_iret ⟨_, rfl⟩ rfl rfl (hg _ _) hg h
  have t5 : (V 517 x1 = 16) → ax_R (az_W B (az_EM B)) ax_t d m_Machine_worth 353 [some (.ref 150), some (ax_i x1), some (ax_i x2), some (ax_i x3), y4, some (ax_i x5), some (ax_i x6), some (ax_i s0)] [] V (ax_Ir Φ) Θ := fun hk => by
    have h := h.2.2.2.2.2.1 hk
    refine ax_mv 4 359 [some (.ref 150), some (ax_i x1), some (ax_i x2), some (ax_i x3), y4, some (ax_i x5), some (ax_i x6), some (ax_i s0)] [.ref 150, ax_i s0, ax_i x6, .ref 150] rfl ?_
    refine ax_gR (v := .ref (B + 16)) (pc' := 362) ⟨_, rfl⟩ fl_5_42 (az_e 0 rfl) rfl rfl ?_
    refine ax_gR (v := .ref (B + 19)) (pc' := 365) ⟨_, rfl⟩ fl_5_152 (az_b 16 rfl) rfl rfl ?_
    refine ax_mv 1 366 [some (.ref 150), some (ax_i x1), some (ax_i x2), some (ax_i x3), y4, some (ax_i x5), some (ax_i x6), some (ax_i s0)] [ax_i x1, .ref (B + 19), ax_i s0, ax_i x6, .ref 150] rfl ?_
    obtain ⟨o14, h⟩ := h
    refine ax_ild (n := 700) (pc' := 367) ⟨_, rfl⟩ (az_b 19 rfl) (by decide) o14 rfl ?_
    refine ax_callI (pc' := 370) ⟨_, rfl⟩ ml_5_155 (rest := []) rfl (fun ss hs => ⟨_, _, (az_e 0 rfl) ss hs⟩) (Nat.le_of_ble_eq_true rfl) rfl rfl h (fun r1 V1 hg1 hr1 h => ?_)
    exact ax_iret ⟨_, rfl⟩ rfl rfl hr1 hg1 h
  have t6 : (V 517 x1 = 17) → ax_R (az_W B (az_EM B)) ax_t d m_Machine_worth 371 [some (.ref 150), some (ax_i x1), some (ax_i x2), some (ax_i x3), y4, some (ax_i x5), some (ax_i x6), some (ax_i s0)] [] V (ax_Ir Φ) Θ := fun hk => by
    have h := h.2.2.2.2.2.2.1 hk
    refine ax_mv 4 377 [some (.ref 150), some (ax_i x1), some (ax_i x2), some (ax_i x3), y4, some (ax_i x5), some (ax_i x6), some (ax_i s0)] [.ref 150, ax_i s0, ax_i x6, .ref 150] rfl ?_
    refine ax_gR (v := .ref (B + 16)) (pc' := 380) ⟨_, rfl⟩ fl_5_42 (az_e 0 rfl) rfl rfl ?_
    refine ax_gR (v := .ref (B + 19)) (pc' := 383) ⟨_, rfl⟩ fl_5_152 (az_b 16 rfl) rfl rfl ?_
    refine ax_mv 1 384 [some (.ref 150), some (ax_i x1), some (ax_i x2), some (ax_i x3), y4, some (ax_i x5), some (ax_i x6), some (ax_i s0)] [ax_i x1, .ref (B + 19), ax_i s0, ax_i x6, .ref 150] rfl ?_
    obtain ⟨o15, h⟩ := h
    refine ax_ild (n := 700) (pc' := 385) ⟨_, rfl⟩ (az_b 19 rfl) (by decide) o15 rfl ?_
    refine ax_callI (pc' := 388) ⟨_, rfl⟩ ml_5_158 (rest := []) rfl (fun ss hs => ⟨_, _, (az_e 0 rfl) ss hs⟩) (Nat.le_of_ble_eq_true rfl) rfl rfl h (fun r2 V2 hg2 hr2 h => ?_)
    exact ax_iret ⟨_, rfl⟩ rfl rfl hr2 hg2 h
  have t7 : (V 517 x1 = 18) → ax_R (az_W B (az_EM B)) ax_t d m_Machine_worth 281 [some (.ref 150), some (ax_i x1), some (ax_i x2), some (ax_i x3), y4, some (ax_i x5), some (ax_i x6), some (ax_i s0)] [] V (ax_Ir Φ) Θ := fun hk => by
    have h := h.2.2.2.2.2.2.2.1 hk
    refine ax_mv 1 283 [some (.ref 150), some (ax_i x1), some (ax_i x2), some (ax_i x3), y4, some (ax_i x5), some (ax_i x6), some (ax_i s0)] [ax_i x6] rfl ?_
    refine ax_if (p1 := 291) (p2 := 286) ⟨_, rfl⟩ (by decide) rfl hx6 (fun hc => ?_) (fun hc => ?_)
    · have h := h.1 hc
      refine ax_mv 1 292 [some (.ref 150), some (ax_i x1), some (ax_i x2), some (ax_i x3), y4, some (ax_i x5), some (ax_i x6), some (ax_i s0)] [.ref 150] rfl ?_
      refine ax_gR (v := .ref 151) (pc' := 295) ⟨_, rfl⟩ fl_5_9 (az_e 0 rfl) rfl rfl ?_
      refine ax_mv 1 296 [some (.ref 150), some (ax_i x1), some (ax_i x2), some (ax_i x3), y4, some (ax_i x5), some (ax_i x6), some (ax_i s0)] [.ref 150, .ref 151] rfl ?_
      refine ax_gR (v := .ref (B + 16)) (pc' := 299) ⟨_, rfl⟩ fl_5_42 (az_e 0 rfl) rfl rfl ?_
      refine ax_gR (v := .ref (B + 22)) (pc' := 302) ⟨_, rfl⟩ fl_5_137 (az_b 16 rfl) rfl rfl ?_
      refine ax_mv 1 304 [some (.ref 150), some (ax_i x1), some (ax_i x2), some (ax_i x3), y4, some (ax_i x5), some (ax_i x6), some (ax_i s0)] [ax_i x5, .ref (B + 22), .ref 151] rfl ?_
      obtain ⟨o16, h⟩ := h
      refine ax_ild (n := 700) (pc' := 305) ⟨_, rfl⟩ (az_b 22 rfl) (by decide) o16 rfl ?_
      obtain ⟨o17, h⟩ := h
      refine ax_ild (n := 700) (pc' := 306) ⟨_, rfl⟩ (az_e 1 rfl) (by decide) o17 rfl ?_
      exact ax_iret ⟨_, rfl⟩ rfl rfl (hg _ _) hg h
    · have h := h.2 hc
      refine ax_mv 2 306 [some (.ref 150), some (ax_i x1), some (ax_i x2), some (ax_i x3), y4, some (ax_i x5), some (ax_i x6), some (ax_i s0)] [ax_i s0] rfl ?_
      exact ax_iret ⟨_, rfl⟩ rfl rfl hs0 hg h
  have t8 : (V 517 x1 = 19) → ax_R (az_W B (az_EM B)) ax_t d m_Machine_worth 261 [some (.ref 150), some (ax_i x1), some (ax_i x2), some (ax_i x3), y4, some (ax_i x5), some (ax_i x6), some (ax_i s0)] [] V (ax_Ir Φ) Θ := fun hk => by
    have h := h.2.2.2.2.2.2.2.2.1 hk
    refine ax_mv 3 264 [some (.ref 150), some (ax_i x1), some (ax_i x2), some (ax_i x3), y4, some (ax_i x5), some (ax_i x6), some (ax_i s0)] [.ref 150, ax_i x3, .ref 150] rfl ?_
    refine ax_gR (v := .ref (B + 16)) (pc' := 267) ⟨_, rfl⟩ fl_5_42 (az_e 0 rfl) rfl rfl ?_
    refine ax_gR (v := .ref (B + 31)) (pc' := 270) ⟨_, rfl⟩ fl_5_114 (az_b 16 rfl) rfl rfl ?_
    refine ax_mv 1 271 [some (.ref 150), some (ax_i x1), some (ax_i x2), some (ax_i x3), y4, some (ax_i x5), some (ax_i x6), some (ax_i s0)] [ax_i x1, .ref (B + 31), ax_i x3, .ref 150] rfl ?_
    obtain ⟨o18, h⟩ := h
    refine ax_ild (n := 700) (pc' := 272) ⟨_, rfl⟩ (az_b 31 rfl) (by decide) o18 rfl ?_
    refine ax_add (pc' := 273) ⟨_, rfl⟩ rfl ?_
    refine ax_mv 2 277 [some (.ref 150), some (ax_i x1), some (ax_i x2), some (ax_i x3), y4, some (ax_i x5), some (ax_i x6), some (ax_i s0)] [ax_i s0, ax_i x6, ax_i (x3 + (V 531 x1)), .ref 150] rfl ?_
    refine ax_callI (pc' := 280) ⟨_, rfl⟩ ml_5_146 (rest := []) rfl (fun ss hs => ⟨_, _, (az_e 0 rfl) ss hs⟩) (Nat.le_of_ble_eq_true rfl) rfl rfl h (fun r3 V3 hg3 hr3 h => ?_)
    exact ax_iret ⟨_, rfl⟩ rfl rfl hr3 hg3 h
  have t9 : (V 517 x1 = 20) → ax_R (az_W B (az_EM B)) ax_t d m_Machine_worth 307 [some (.ref 150), some (ax_i x1), some (ax_i x2), some (ax_i x3), y4, some (ax_i x5), some (ax_i x6), some (ax_i s0)] [] V (ax_Ir Φ) Θ := fun hk => by
    have h := h.2.2.2.2.2.2.2.2.2.1 hk
    refine ax_mv 1 309 [some (.ref 150), some (ax_i x1), some (ax_i x2), some (ax_i x3), y4, some (ax_i x5), some (ax_i x6), some (ax_i s0)] [ax_i x6] rfl ?_
    exact ax_iret ⟨_, rfl⟩ rfl rfl hx6 hg h
  have t10 : (V 517 x1 = 21) → ax_R (az_W B (az_EM B)) ax_t d m_Machine_worth 310 [some (.ref 150), some (ax_i x1), some (ax_i x2), some (ax_i x3), y4, some (ax_i x5), some (ax_i x6), some (ax_i s0)] [] V (ax_Ir Φ) Θ := fun hk => by
    have h := h.2.2.2.2.2.2.2.2.2.2.1 hk
    refine ax_mv 1 311 [some (.ref 150), some (ax_i x1), some (ax_i x2), some (ax_i x3), y4, some (ax_i x5), some (ax_i x6), some (ax_i s0)] [.ref 150] rfl ?_
    refine ax_gR (v := .ref 152) (pc' := 314) ⟨_, rfl⟩ fl_5_15 (az_e 0 rfl) rfl rfl ?_
    refine ax_mv 1 315 [some (.ref 150), some (ax_i x1), some (ax_i x2), some (ax_i x3), y4, some (ax_i x5), some (ax_i x6), some (ax_i s0)] [.ref 150, .ref 152] rfl ?_
    refine ax_gR (v := .ref (B + 16)) (pc' := 318) ⟨_, rfl⟩ fl_5_42 (az_e 0 rfl) rfl rfl ?_
    refine ax_gR (v := .ref (B + 20)) (pc' := 321) ⟨_, rfl⟩ fl_5_143 (az_b 16 rfl) rfl rfl ?_
    refine ax_mv 1 322 [some (.ref 150), some (ax_i x1), some (ax_i x2), some (ax_i x3), y4, some (ax_i x5), some (ax_i x6), some (ax_i s0)] [ax_i x1, .ref (B + 20), .ref 152] rfl ?_
    obtain ⟨o19, h⟩ := h
    refine ax_ild (n := 700) (pc' := 323) ⟨_, rfl⟩ (az_b 20 rfl) (by decide) o19 rfl ?_
    obtain ⟨o20, h⟩ := h
    refine ax_ild (n := 208) (pc' := 324) ⟨_, rfl⟩ (az_e 2 rfl) (by decide) o20 rfl ?_
    refine ax_if (p1 := 332) (p2 := 327) ⟨_, rfl⟩ (by decide) rfl (hg _ _) (fun hc => ?_) (fun hc => ?_)
    · have h := h.1 hc
      refine ax_mv 1 334 [some (.ref 150), some (ax_i x1), some (ax_i x2), some (ax_i x3), y4, some (ax_i x5), some (ax_i x6), some (ax_i s0)] [ax_i s0] rfl ?_
      exact ax_iret ⟨_, rfl⟩ rfl rfl hs0 hg h
    · have h := h.2 hc
      refine ax_mv 2 334 [some (.ref 150), some (ax_i x1), some (ax_i x2), some (ax_i x3), y4, some (ax_i x5), some (ax_i x6), some (ax_i s0)] [ax_i x6] rfl ?_
      exact ax_iret ⟨_, rfl⟩ rfl rfl hx6 hg h
  have t11 : (V 517 x1 = 22) → ax_R (az_W B (az_EM B)) ax_t d m_Machine_worth 335 [some (.ref 150), some (ax_i x1), some (ax_i x2), some (ax_i x3), y4, some (ax_i x5), some (ax_i x6), some (ax_i s0)] [] V (ax_Ir Φ) Θ := fun hk => by
    have h := h.2.2.2.2.2.2.2.2.2.2.2.1 hk
    refine ax_mv 5 340 [some (.ref 150), some (ax_i x1), some (ax_i x2), some (ax_i x3), y4, some (ax_i x5), some (ax_i x6), some (ax_i s0)] [.ref 150, ax_i x3, ax_i x2, ax_i x1, .ref 150] rfl ?_
    refine ax_gR (v := .ref (B + 16)) (pc' := 343) ⟨_, rfl⟩ fl_5_42 (az_e 0 rfl) rfl rfl ?_
    refine ax_gR (v := .ref (B + 31)) (pc' := 346) ⟨_, rfl⟩ fl_5_114 (az_b 16 rfl) rfl rfl ?_
    refine ax_mv 1 347 [some (.ref 150), some (ax_i x1), some (ax_i x2), some (ax_i x3), y4, some (ax_i x5), some (ax_i x6), some (ax_i s0)] [ax_i x1, .ref (B + 31), ax_i x3, ax_i x2, ax_i x1, .ref 150] rfl ?_
    obtain ⟨o21, h⟩ := h
    refine ax_ild (n := 700) (pc' := 348) ⟨_, rfl⟩ (az_b 31 rfl) (by decide) o21 rfl ?_
    refine ax_add (pc' := 349) ⟨_, rfl⟩ rfl ?_
    refine ax_callI (pc' := 352) ⟨_, rfl⟩ ml_5_149 (rest := []) rfl (fun ss hs => ⟨_, _, (az_e 0 rfl) ss hs⟩) (Nat.le_of_ble_eq_true rfl) rfl rfl h (fun r4 V4 hg4 hr4 h => ?_)
    exact ax_iret ⟨_, rfl⟩ rfl rfl hr4 hg4 h
  have tD : ¬ V 517 x1 = 0 → ¬ V 517 x1 = 1 → ¬ V 517 x1 = 2 → ¬ V 517 x1 = 3 → ¬ V 517 x1 = 6 → ¬ V 517 x1 = 16 → ¬ V 517 x1 = 17 → ¬ V 517 x1 = 18 → ¬ V 517 x1 = 19 → ¬ V 517 x1 = 20 → ¬ V 517 x1 = 21 → ¬ V 517 x1 = 22 → ax_R (az_W B (az_EM B)) ax_t d m_Machine_worth 389 [some (.ref 150), some (ax_i x1), some (ax_i x2), some (ax_i x3), y4, some (ax_i x5), some (ax_i x6), some (ax_i s0)] [] V (ax_Ir Φ) Θ := fun n0 n1 n2 n3 n4 n5 n6 n7 n8 n9 n10 n11 => by
    have h := h.2.2.2.2.2.2.2.2.2.2.2.2 n0 n1 n2 n3 n4 n5 n6 n7 n8 n9 n10 n11
    refine ax_mv 1 390 [some (.ref 150), some (ax_i x1), some (ax_i x2), some (ax_i x3), y4, some (ax_i x5), some (ax_i x6), some (ax_i s0)] [.ref 150] rfl ?_
    refine ax_gR (v := .ref (B + 16)) (pc' := 393) ⟨_, rfl⟩ fl_5_42 (az_e 0 rfl) rfl rfl ?_
    refine ax_gR (v := .ref (B + 17)) (pc' := 396) ⟨_, rfl⟩ fl_5_140 (az_b 16 rfl) rfl rfl ?_
    refine ax_mv 1 397 [some (.ref 150), some (ax_i x1), some (ax_i x2), some (ax_i x3), y4, some (ax_i x5), some (ax_i x6), some (ax_i s0)] [ax_i x1, .ref (B + 17)] rfl ?_
    obtain ⟨o22, h⟩ := h
    refine ax_ild (n := 700) (pc' := 398) ⟨_, rfl⟩ (az_b 17 rfl) (by decide) o22 rfl ?_
    refine ax_mv 2 402 [some (.ref 150), some (ax_i x1), some (ax_i x2), some (ax_i x3), y4, some (ax_i x5), some (ax_i x6), some (ax_i s0)] [ax_i s0, ax_i x6, ax_i (V 517 x1)] rfl ?_
    refine ax_callS (pc' := 405) ⟨_, rfl⟩ ml_5_161 (Nat.le_of_ble_eq_true rfl) (Nat.le_of_ble_eq_true rfl) rfl h (fun r5 V5 hg5 hr5 h => ?_)
    refine ax_mv 0 405 [some (.ref 150), some (ax_i x1), some (ax_i x2), some (ax_i x3), y4, some (ax_i x5), some (ax_i x6), some (ax_i s0)] [ax_i r5] rfl ?_
    exact ax_iret ⟨_, rfl⟩ rfl rfl hr5 hg5 h
  by_cases e0 : V 517 x1 = 0
  · exact ax_tsC (off := 107) (p1 := 184) ⟨_, rfl⟩ (hg _ _) (by omega) (by omega) (by rw [e0]; rfl) (by decide) (t0 (e0))
  by_cases e1 : V 517 x1 = 1
  · exact ax_tsC (off := 117) (p1 := 194) ⟨_, rfl⟩ (hg _ _) (by omega) (by omega) (by rw [e1]; rfl) (by decide) (t1 (e1))
  by_cases e2 : V 517 x1 = 2
  · exact ax_tsC (off := 127) (p1 := 204) ⟨_, rfl⟩ (hg _ _) (by omega) (by omega) (by rw [e2]; rfl) (by decide) (t2 (e2))
  by_cases e3 : V 517 x1 = 3
  · exact ax_tsC (off := 142) (p1 := 219) ⟨_, rfl⟩ (hg _ _) (by omega) (by omega) (by rw [e3]; rfl) (by decide) (t3 (e3))
  by_cases e4 : V 517 x1 = 4
  · exact ax_tsC (off := 312) (p1 := 389) ⟨_, rfl⟩ (hg _ _) (by omega) (by omega) (by rw [e4]; rfl) (by decide) (tD (by omega) (by omega) (by omega) (by omega) (by omega) (by omega) (by omega) (by omega) (by omega) (by omega) (by omega) (by omega))
  by_cases e5 : V 517 x1 = 5
  · exact ax_tsC (off := 312) (p1 := 389) ⟨_, rfl⟩ (hg _ _) (by omega) (by omega) (by rw [e5]; rfl) (by decide) (tD (by omega) (by omega) (by omega) (by omega) (by omega) (by omega) (by omega) (by omega) (by omega) (by omega) (by omega) (by omega))
  by_cases e6 : V 517 x1 = 6
  · exact ax_tsC (off := 167) (p1 := 244) ⟨_, rfl⟩ (hg _ _) (by omega) (by omega) (by rw [e6]; rfl) (by decide) (t4 (e6))
  by_cases e7 : V 517 x1 = 7
  · exact ax_tsC (off := 312) (p1 := 389) ⟨_, rfl⟩ (hg _ _) (by omega) (by omega) (by rw [e7]; rfl) (by decide) (tD (by omega) (by omega) (by omega) (by omega) (by omega) (by omega) (by omega) (by omega) (by omega) (by omega) (by omega) (by omega))
  by_cases e8 : V 517 x1 = 8
  · exact ax_tsC (off := 312) (p1 := 389) ⟨_, rfl⟩ (hg _ _) (by omega) (by omega) (by rw [e8]; rfl) (by decide) (tD (by omega) (by omega) (by omega) (by omega) (by omega) (by omega) (by omega) (by omega) (by omega) (by omega) (by omega) (by omega))
  by_cases e9 : V 517 x1 = 9
  · exact ax_tsC (off := 312) (p1 := 389) ⟨_, rfl⟩ (hg _ _) (by omega) (by omega) (by rw [e9]; rfl) (by decide) (tD (by omega) (by omega) (by omega) (by omega) (by omega) (by omega) (by omega) (by omega) (by omega) (by omega) (by omega) (by omega))
  by_cases e10 : V 517 x1 = 10
  · exact ax_tsC (off := 312) (p1 := 389) ⟨_, rfl⟩ (hg _ _) (by omega) (by omega) (by rw [e10]; rfl) (by decide) (tD (by omega) (by omega) (by omega) (by omega) (by omega) (by omega) (by omega) (by omega) (by omega) (by omega) (by omega) (by omega))
  by_cases e11 : V 517 x1 = 11
  · exact ax_tsC (off := 312) (p1 := 389) ⟨_, rfl⟩ (hg _ _) (by omega) (by omega) (by rw [e11]; rfl) (by decide) (tD (by omega) (by omega) (by omega) (by omega) (by omega) (by omega) (by omega) (by omega) (by omega) (by omega) (by omega) (by omega))
  by_cases e12 : V 517 x1 = 12
  · exact ax_tsC (off := 312) (p1 := 389) ⟨_, rfl⟩ (hg _ _) (by omega) (by omega) (by rw [e12]; rfl) (by decide) (tD (by omega) (by omega) (by omega) (by omega) (by omega) (by omega) (by omega) (by omega) (by omega) (by omega) (by omega) (by omega))
  by_cases e13 : V 517 x1 = 13
  · exact ax_tsC (off := 312) (p1 := 389) ⟨_, rfl⟩ (hg _ _) (by omega) (by omega) (by rw [e13]; rfl) (by decide) (tD (by omega) (by omega) (by omega) (by omega) (by omega) (by omega) (by omega) (by omega) (by omega) (by omega) (by omega) (by omega))
  by_cases e14 : V 517 x1 = 14
  · exact ax_tsC (off := 312) (p1 := 389) ⟨_, rfl⟩ (hg _ _) (by omega) (by omega) (by rw [e14]; rfl) (by decide) (tD (by omega) (by omega) (by omega) (by omega) (by omega) (by omega) (by omega) (by omega) (by omega) (by omega) (by omega) (by omega))
  by_cases e15 : V 517 x1 = 15
  · exact ax_tsC (off := 312) (p1 := 389) ⟨_, rfl⟩ (hg _ _) (by omega) (by omega) (by rw [e15]; rfl) (by decide) (tD (by omega) (by omega) (by omega) (by omega) (by omega) (by omega) (by omega) (by omega) (by omega) (by omega) (by omega) (by omega))
  by_cases e16 : V 517 x1 = 16
  · exact ax_tsC (off := 276) (p1 := 353) ⟨_, rfl⟩ (hg _ _) (by omega) (by omega) (by rw [e16]; rfl) (by decide) (t5 (e16))
  by_cases e17 : V 517 x1 = 17
  · exact ax_tsC (off := 294) (p1 := 371) ⟨_, rfl⟩ (hg _ _) (by omega) (by omega) (by rw [e17]; rfl) (by decide) (t6 (e17))
  by_cases e18 : V 517 x1 = 18
  · exact ax_tsC (off := 204) (p1 := 281) ⟨_, rfl⟩ (hg _ _) (by omega) (by omega) (by rw [e18]; rfl) (by decide) (t7 (e18))
  by_cases e19 : V 517 x1 = 19
  · exact ax_tsC (off := 184) (p1 := 261) ⟨_, rfl⟩ (hg _ _) (by omega) (by omega) (by rw [e19]; rfl) (by decide) (t8 (e19))
  by_cases e20 : V 517 x1 = 20
  · exact ax_tsC (off := 230) (p1 := 307) ⟨_, rfl⟩ (hg _ _) (by omega) (by omega) (by rw [e20]; rfl) (by decide) (t9 (e20))
  by_cases e21 : V 517 x1 = 21
  · exact ax_tsC (off := 233) (p1 := 310) ⟨_, rfl⟩ (hg _ _) (by omega) (by omega) (by rw [e21]; rfl) (by decide) (t10 (e21))
  by_cases e22 : V 517 x1 = 22
  · exact ax_tsC (off := 258) (p1 := 335) ⟨_, rfl⟩ (hg _ _) (by omega) (by omega) (by rw [e22]; rfl) (by decide) (t11 (e22))
  exact ax_tsD (p1 := 389) ⟨_, rfl⟩ (hg _ _) (by omega) (by decide) (tD e0 e1 e2 e3 e6 e16 e17 e18 e19 e20 e21 e22)
set_option maxRecDepth 20000 in set_option maxHeartbeats 8000000 in
theorem r_Machine_worth {B : Nat} {d : Nat} {V : ax_V} {Φ : Int → ax_V → Prop} {Θ : ax_V → Prop} {x1 : Int} {x2 : Int} {x3 : Int} (hg : ax_g V) (hx1 : ax_rg x1) (hx2 : ax_rg x2) (hx3 : ax_rg x3) (h : (0 ≤ x1 ∧ x1 < 700) ∧ ((0 ≤ V 521 x1 → (0 ≤ V 521 x1 ∧ V 521 x1 < 700) ∧ k_Machine_worth_30 B d x1 x2 x3 (V 521 x1) none none none (V 522 (V 521 x1)) V Φ Θ) ∧ (V 521 x1 < 0 → k_Machine_worth_30 B d x1 x2 x3 (V 521 x1) none none none (-1) V Φ Θ))) : ax_I (az_W B (az_EM B)) (d + 1) q_Machine_worth [.ref 150, ax_i x1, ax_i x2, ax_i x3] V Φ Θ := by
  refine ax_T.of (M := m_Machine_worth) rfl (Nat.le_of_ble_eq_true rfl) ?_
  refine ax_mv 0 0 [some (.ref 150), some (ax_i x1), some (ax_i x2), some (ax_i x3), none, none, none, none] [] rfl ?_
  refine ax_mv 1 1 [some (.ref 150), some (ax_i x1), some (ax_i x2), some (ax_i x3), none, none, none, none] [.ref 150] rfl ?_
  refine ax_gR (v := .ref (B + 16)) (pc' := 4) ⟨_, rfl⟩ fl_5_42 (az_e 0 rfl) rfl rfl ?_
  refine ax_gR (v := .ref (B + 21)) (pc' := 7) ⟨_, rfl⟩ fl_5_117 (az_b 16 rfl) rfl rfl ?_
  refine ax_mv 1 8 [some (.ref 150), some (ax_i x1), some (ax_i x2), some (ax_i x3), none, none, none, none] [ax_i x1, .ref (B + 21)] rfl ?_
  obtain ⟨o23, h⟩ := h
  refine ax_ild (n := 700) (pc' := 9) ⟨_, rfl⟩ (az_b 21 rfl) (by decide) o23 rfl ?_
  refine ax_sti (i := 0) (k := 4) (n := 2) (pc' := 11) (L' := [some (.ref 150), some (ax_i x1), some (ax_i x2), some (ax_i x3), some (ax_i (V 521 x1)), none, none, none]) ⟨_, rfl⟩ rfl rfl rfl (Nat.le_of_ble_eq_true rfl) rfl rfl ?_
  refine ax_mv 1 13 [some (.ref 150), some (ax_i x1), some (ax_i x2), some (ax_i x3), some (ax_i (V 521 x1)), none, none, none] [ax_i (V 521 x1)] rfl ?_
  refine ax_if (p1 := 20) (p2 := 16) ⟨_, rfl⟩ (by decide) rfl (hg _ _) (fun hc => ?_) (fun hc => ?_)
  · have h := h.1 hc
    refine ax_mv 1 21 [some (.ref 150), some (ax_i x1), some (ax_i x2), some (ax_i x3), some (ax_i (V 521 x1)), none, none, none] [.ref 150] rfl ?_
    refine ax_gR (v := .ref (B + 16)) (pc' := 24) ⟨_, rfl⟩ fl_5_42 (az_e 0 rfl) rfl rfl ?_
    refine ax_gR (v := .ref (B + 22)) (pc' := 27) ⟨_, rfl⟩ fl_5_137 (az_b 16 rfl) rfl rfl ?_
    refine ax_mv 1 29 [some (.ref 150), some (ax_i x1), some (ax_i x2), some (ax_i x3), some (ax_i (V 521 x1)), none, none, none] [ax_i (V 521 x1), .ref (B + 22)] rfl ?_
    obtain ⟨o24, h⟩ := h
    refine ax_ild (n := 700) (pc' := 30) ⟨_, rfl⟩ (az_b 22 rfl) (by decide) o24 rfl ?_
    exact h
  · have h := h.2 (Int.not_le.mp hc)
    refine ax_mv 2 30 [some (.ref 150), some (ax_i x1), some (ax_i x2), some (ax_i x3), some (ax_i (V 521 x1)), none, none, none] [ax_i (-1)] rfl ?_
    exact h
theorem r_Machine_firstThenLater {B : Nat} {d : Nat} {V : ax_V} {Φ : Int → ax_V → Prop} {Θ : ax_V → Prop} {x1 : Int} {x2 : Int} {x3 : Int} (hg : ax_g V) (hx1 : ax_rg x1) (hx2 : ax_rg x2) (hx3 : ax_rg x3) (h : (0 ≤ x1 ∧ x1 < 300) ∧ ((V 155 x1 = 0 → (0 ≤ x1 ∧ x1 < 300) ∧ (∀ V2, V2 = ax_u V 155 x1 1 → Φ x2 V2)) ∧ (¬ V 155 x1 = 0 → (0 ≤ x1 ∧ x1 < 300) ∧ (∀ V1, V1 = ax_u V 155 x1 1 → Φ x3 V1)))) : ax_I (az_W B (az_EM B)) (d + 1) q_Machine_firstThenLater [.ref 150, ax_i x1, ax_i x2, ax_i x3] V Φ Θ := by
  refine ax_T.of (M := m_Machine_firstThenLater) rfl (Nat.le_of_ble_eq_true rfl) ?_
  refine ax_mv 0 0 [some (.ref 150), some (ax_i x1), some (ax_i x2), some (ax_i x3), none] [] rfl ?_
  refine ax_mv 1 1 [some (.ref 150), some (ax_i x1), some (ax_i x2), some (ax_i x3), none] [.ref 150] rfl ?_
  refine ax_gR (v := .ref 155) (pc' := 4) ⟨_, rfl⟩ fl_5_25 (az_e 0 rfl) rfl rfl ?_
  refine ax_mv 1 5 [some (.ref 150), some (ax_i x1), some (ax_i x2), some (ax_i x3), none] [ax_i x1, .ref 155] rfl ?_
  obtain ⟨o1, h⟩ := h
  refine ax_ild (n := 300) (pc' := 6) ⟨_, rfl⟩ (az_e 5 rfl) (by decide) o1 rfl ?_
  refine ax_if (p1 := 13) (p2 := 9) ⟨_, rfl⟩ (by decide) rfl (hg _ _) (fun hc => ?_) (fun hc => ?_)
  · have h := h.2 hc
    refine ax_mv 1 14 [some (.ref 150), some (ax_i x1), some (ax_i x2), some (ax_i x3), none] [ax_i 0] rfl ?_
    refine ax_sti (i := 0) (k := 4) (n := 2) (pc' := 16) (L' := [some (.ref 150), some (ax_i x1), some (ax_i x2), some (ax_i x3), some (ax_i 0)]) ⟨_, rfl⟩ rfl rfl rfl (Nat.le_of_ble_eq_true rfl) rfl rfl ?_
    refine ax_mv 1 17 [some (.ref 150), some (ax_i x1), some (ax_i x2), some (ax_i x3), some (ax_i 0)] [.ref 150] rfl ?_
    refine ax_gR (v := .ref 155) (pc' := 20) ⟨_, rfl⟩ fl_5_25 (az_e 0 rfl) rfl rfl ?_
    refine ax_mv 2 22 [some (.ref 150), some (ax_i x1), some (ax_i x2), some (ax_i x3), some (ax_i 0)] [ax_i 1, ax_i x1, .ref 155] rfl ?_
    obtain ⟨o2, h⟩ := h
    obtain ⟨V1, eV1⟩ : ∃ W9 : ax_V, W9 = ax_u V 155 x1 1 := ⟨_, rfl⟩
    have h := h V1 eV1
    have hg1 : ax_g V1 := eV1 ▸ ax_u_g hg (by decide)
    refine ax_ist (n := 300) (pc' := 23) ⟨_, rfl⟩ az_ok (az_e 5 rfl) (by decide) o2 eV1 rfl ?_
    refine ax_mv 1 25 [some (.ref 150), some (ax_i x1), some (ax_i x2), some (ax_i x3), some (ax_i 0)] [ax_i 0] rfl ?_
    refine ax_if (p1 := 32) (p2 := 28) ⟨_, rfl⟩ (by decide) rfl (by decide) (fun _ => ?_) (fun hc => absurd (by unfold ax_k0; decide) hc)
    refine ax_mv 1 33 [some (.ref 150), some (ax_i x1), some (ax_i x2), some (ax_i x3), some (ax_i 0)] [ax_i x3] rfl ?_
    exact ax_iret ⟨_, rfl⟩ rfl rfl hx3 hg1 h
  · have h := h.1 (Classical.not_not.mp hc)
    refine ax_mv 2 14 [some (.ref 150), some (ax_i x1), some (ax_i x2), some (ax_i x3), none] [ax_i 1] rfl ?_
    refine ax_sti (i := 0) (k := 4) (n := 2) (pc' := 16) (L' := [some (.ref 150), some (ax_i x1), some (ax_i x2), some (ax_i x3), some (ax_i 1)]) ⟨_, rfl⟩ rfl rfl rfl (Nat.le_of_ble_eq_true rfl) rfl rfl ?_
    refine ax_mv 1 17 [some (.ref 150), some (ax_i x1), some (ax_i x2), some (ax_i x3), some (ax_i 1)] [.ref 150] rfl ?_
    refine ax_gR (v := .ref 155) (pc' := 20) ⟨_, rfl⟩ fl_5_25 (az_e 0 rfl) rfl rfl ?_
    refine ax_mv 2 22 [some (.ref 150), some (ax_i x1), some (ax_i x2), some (ax_i x3), some (ax_i 1)] [ax_i 1, ax_i x1, .ref 155] rfl ?_
    obtain ⟨o3, h⟩ := h
    obtain ⟨V2, eV2⟩ : ∃ W9 : ax_V, W9 = ax_u V 155 x1 1 := ⟨_, rfl⟩
    have h := h V2 eV2
    have hg2 : ax_g V2 := eV2 ▸ ax_u_g hg (by decide)
    refine ax_ist (n := 300) (pc' := 23) ⟨_, rfl⟩ az_ok (az_e 5 rfl) (by decide) o3 eV2 rfl ?_
    refine ax_mv 1 25 [some (.ref 150), some (ax_i x1), some (ax_i x2), some (ax_i x3), some (ax_i 1)] [ax_i 1] rfl ?_
    refine ax_if (p1 := 32) (p2 := 28) ⟨_, rfl⟩ (by decide) rfl (by decide) (fun hc => absurd hc (by unfold ax_k0; decide)) (fun _ => ?_)
    refine ax_mv 2 33 [some (.ref 150), some (ax_i x1), some (ax_i x2), some (ax_i x3), some (ax_i 1)] [ax_i x2] rfl ?_
    exact ax_iret ⟨_, rfl⟩ rfl rfl hx2 hg2 h
abbrev k_Machine_call_38 (B : Nat) (d : Nat) (x1 : Int) (y2 : Option Value) (x3 : Int) (x4 : Int) (x5 : Int) (x6 : Int) (V : ax_V) (Φ : Int → ax_V → Prop) (Θ : ax_V → Prop) : Prop := ax_R (az_W B (az_EM B)) ax_t d m_Machine_call 38 [some (.ref 150), some (ax_i x1), y2, some (ax_i x3), some (ax_i x4), some (ax_i x5), some (ax_i x6)] [] V (ax_Ir Φ) Θ
abbrev k_Machine_call_91 (B : Nat) (d : Nat) (x1 : Int) (y2 : Option Value) (x3 : Int) (x4 : Int) (y5 : Option Value) (y6 : Option Value) (V : ax_V) (Φ : Int → ax_V → Prop) (Θ : ax_V → Prop) : Prop := ax_R (az_W B (az_EM B)) ax_t d m_Machine_call 91 [some (.ref 150), some (ax_i x1), y2, some (ax_i x3), some (ax_i x4), y5, y6] [] V (ax_Ir Φ) Θ
set_option maxRecDepth 20000 in
theorem r_Machine_call_38 {B : Nat} {d : Nat} {V : ax_V} {Φ : Int → ax_V → Prop} {Θ : ax_V → Prop} {x1 : Int} {y2 : Option Value} {x3 : Int} {x4 : Int} {x5 : Int} {x6 : Int} (hg : ax_g V) (hx1 : ax_rg x1) (hy2 : ax_y y2) (hx3 : ax_rg x3) (hx4 : ax_rg x4) (hx5 : ax_rg x5) (hx6 : ax_rg x6) (h : (0 ≤ x4 ∧ x4 < 8) ∧ ((V 503 x4 ≤ x6 → k_Machine_call_91 B d x1 y2 x3 x4 (some (ax_i x5)) (some (ax_i x6)) V Φ Θ) ∧ (x6 < V 503 x4 → ((x5 < 0 → k_Machine_call_91 B d x1 y2 x3 x4 (some (ax_i x5)) (some (ax_i x6)) V Φ Θ) ∧ (0 ≤ x5 → (0 ≤ x5 ∧ x5 < 700) ∧ ax_N (az_W B (az_EM B)) d q_Machine_feedOne [.ref 150, ax_i x4, ax_i x6, ax_i (V 151 x5)] V (fun V1 => (0 ≤ x5 ∧ x5 < 700) ∧ k_Machine_call_38 B d x1 y2 x3 x4 (V1 522 x5) (x6 + 1) V1 Φ Θ) Θ))))) : k_Machine_call_38 B d x1 y2 x3 x4 x5 x6 V Φ Θ := by
  refine ax_mv 2 41 [some (.ref 150), some (ax_i x1), y2, some (ax_i x3), some (ax_i x4), some (ax_i x5), some (ax_i x6)] [.ref 150, ax_i x6] rfl ?_
  refine ax_gR (v := .ref B) (pc' := 44) ⟨_, rfl⟩ fl_5_32 (az_e 0 rfl) rfl rfl ?_
  refine ax_gR (v := .ref (B + 3)) (pc' := 47) ⟨_, rfl⟩ fl_5_70 (az_b 0 rfl) rfl rfl ?_
  refine ax_mv 1 49 [some (.ref 150), some (ax_i x1), y2, some (ax_i x3), some (ax_i x4), some (ax_i x5), some (ax_i x6)] [ax_i x4, .ref (B + 3), ax_i x6] rfl ?_
  obtain ⟨o1, h⟩ := h
  refine ax_ild (n := 8) (pc' := 50) ⟨_, rfl⟩ (az_b 3 rfl) (by decide) o1 rfl ?_
  refine ax_if2 (p1 := 91) (p2 := 53) ⟨_, rfl⟩ (by decide) rfl hx6 (hg _ _) (fun hc => ?_) (fun hc => ?_)
  · have h := h.1 hc
    exact h
  · have h := h.2 (Int.not_le.mp hc)
    refine ax_mv 1 55 [some (.ref 150), some (ax_i x1), y2, some (ax_i x3), some (ax_i x4), some (ax_i x5), some (ax_i x6)] [ax_i x5] rfl ?_
    refine ax_if (p1 := 91) (p2 := 58) ⟨_, rfl⟩ (by decide) rfl hx5 (fun hc => ?_) (fun hc => ?_)
    · have h := h.1 hc
      exact h
    · have h := h.2 (Int.not_lt.mp hc)
      refine ax_mv 4 64 [some (.ref 150), some (ax_i x1), y2, some (ax_i x3), some (ax_i x4), some (ax_i x5), some (ax_i x6)] [.ref 150, ax_i x6, ax_i x4, .ref 150] rfl ?_
      refine ax_gR (v := .ref 151) (pc' := 67) ⟨_, rfl⟩ fl_5_9 (az_e 0 rfl) rfl rfl ?_
      refine ax_mv 1 69 [some (.ref 150), some (ax_i x1), y2, some (ax_i x3), some (ax_i x4), some (ax_i x5), some (ax_i x6)] [ax_i x5, .ref 151, ax_i x6, ax_i x4, .ref 150] rfl ?_
      obtain ⟨o2, h⟩ := h
      refine ax_ild (n := 700) (pc' := 70) ⟨_, rfl⟩ (az_e 1 rfl) (by decide) o2 rfl ?_
      refine ax_callN (pc' := 73) ⟨_, rfl⟩ ml_5_73 (rest := []) rfl (fun ss hs => ⟨_, _, (az_e 0 rfl) ss hs⟩) (Nat.le_of_ble_eq_true rfl) rfl rfl h (fun V1 hg1 h => ?_)
      refine ax_mv 1 74 [some (.ref 150), some (ax_i x1), y2, some (ax_i x3), some (ax_i x4), some (ax_i x5), some (ax_i x6)] [.ref 150] rfl ?_
      refine ax_gR (v := .ref (B + 16)) (pc' := 77) ⟨_, rfl⟩ fl_5_42 (az_e 0 rfl) rfl rfl ?_
      refine ax_gR (v := .ref (B + 22)) (pc' := 80) ⟨_, rfl⟩ fl_5_137 (az_b 16 rfl) rfl rfl ?_
      refine ax_mv 1 82 [some (.ref 150), some (ax_i x1), y2, some (ax_i x3), some (ax_i x4), some (ax_i x5), some (ax_i x6)] [ax_i x5, .ref (B + 22)] rfl ?_
      obtain ⟨o3, h⟩ := h
      refine ax_ild (n := 700) (pc' := 83) ⟨_, rfl⟩ (az_b 22 rfl) (by decide) o3 rfl ?_
      refine ax_sti (i := 0) (k := 5) (n := 2) (pc' := 85) (L' := [some (.ref 150), some (ax_i x1), y2, some (ax_i x3), some (ax_i x4), some (ax_i (V1 522 x5)), some (ax_i x6)]) ⟨_, rfl⟩ rfl rfl rfl (Nat.le_of_ble_eq_true rfl) rfl rfl ?_
      refine ax_inc (x := x6) (pc' := 88) (L' := [some (.ref 150), some (ax_i x1), y2, some (ax_i x3), some (ax_i x4), some (ax_i (V1 522 x5)), some (ax_i (x6 + 1))]) ⟨_, rfl⟩ rfl rfl rfl rfl ?_
      refine ax_mv 1 38 [some (.ref 150), some (ax_i x1), y2, some (ax_i x3), some (ax_i x4), some (ax_i (V1 522 x5)), some (ax_i (x6 + 1))] [] rfl ?_
      exact h
set_option maxRecDepth 20000 in
theorem r_Machine_call_91 {B : Nat} {d : Nat} {V : ax_V} {Φ : Int → ax_V → Prop} {Θ : ax_V → Prop} {x1 : Int} {y2 : Option Value} {x3 : Int} {x4 : Int} {y5 : Option Value} {y6 : Option Value} (hg : ax_g V) (hx1 : ax_rg x1) (hy2 : ax_y y2) (hx3 : ax_rg x3) (hx4 : ax_rg x4) (hy5 : ax_y y5) (hy6 : ax_y y6) (h : (0 ≤ x1 ∧ x1 < 700) ∧ ((V 523 x1 < 0 → ax_N (az_W B (az_EM B)) d q_Machine_go [.ref 150, ax_i x4, ax_i x3] V (fun V1 => (0 ≤ x4 * 26 ∧ x4 * 26 < 208) ∧ (0 ≤ V1 507 (x4 * 26) ∧ V1 507 (x4 * 26) < 208) ∧ Φ (V1 152 (V1 507 (x4 * 26))) V1) Θ) ∧ (0 ≤ V 523 x1 → (0 ≤ V 523 x1 ∧ V 523 x1 < 208) ∧ ((V 152 (V 523 x1) = 1 → (0 ≤ x4 ∧ x4 < 8) ∧ ax_N (az_W B (az_EM B)) d q_Machine_renew [.ref 150, ax_i x4, ax_i 0, ax_i (V 514 x4), ax_i x3] V (fun V3 => ax_N (az_W B (az_EM B)) d q_Machine_go [.ref 150, ax_i x4, ax_i x3] V3 (fun V4 => (0 ≤ x4 * 26 ∧ x4 * 26 < 208) ∧ (0 ≤ V4 507 (x4 * 26) ∧ V4 507 (x4 * 26) < 208) ∧ Φ (V4 152 (V4 507 (x4 * 26))) V4) Θ) Θ) ∧ (¬ V 152 (V 523 x1) = 1 → ax_N (az_W B (az_EM B)) d q_Machine_go [.ref 150, ax_i x4, ax_i x3] V (fun V2 => (0 ≤ x4 * 26 ∧ x4 * 26 < 208) ∧ (0 ≤ V2 507 (x4 * 26) ∧ V2 507 (x4 * 26) < 208) ∧ Φ (V2 152 (V2 507 (x4 * 26))) V2) Θ))))) : k_Machine_call_91 B d x1 y2 x3 x4 y5 y6 V Φ Θ := by
  refine ax_mv 1 92 [some (.ref 150), some (ax_i x1), y2, some (ax_i x3), some (ax_i x4), y5, y6] [.ref 150] rfl ?_
  refine ax_gR (v := .ref (B + 16)) (pc' := 95) ⟨_, rfl⟩ fl_5_42 (az_e 0 rfl) rfl rfl ?_
  refine ax_gR (v := .ref (B + 23)) (pc' := 98) ⟨_, rfl⟩ fl_5_170 (az_b 16 rfl) rfl rfl ?_
  refine ax_mv 1 99 [some (.ref 150), some (ax_i x1), y2, some (ax_i x3), some (ax_i x4), y5, y6] [ax_i x1, .ref (B + 23)] rfl ?_
  obtain ⟨o4, h⟩ := h
  refine ax_ild (n := 700) (pc' := 100) ⟨_, rfl⟩ (az_b 23 rfl) (by decide) o4 rfl ?_
  refine ax_sti (i := 0) (k := 6) (n := 2) (pc' := 102) (L' := [some (.ref 150), some (ax_i x1), y2, some (ax_i x3), some (ax_i x4), y5, some (ax_i (V 523 x1))]) ⟨_, rfl⟩ rfl rfl (ax_kill_y (k := 5) rfl hy5) (Nat.le_of_ble_eq_true rfl) rfl rfl ?_
  refine ax_mv 1 104 [some (.ref 150), some (ax_i x1), y2, some (ax_i x3), some (ax_i x4), y5, some (ax_i (V 523 x1))] [ax_i (V 523 x1)] rfl ?_
  refine ax_if (p1 := 136) (p2 := 107) ⟨_, rfl⟩ (by decide) rfl (hg _ _) (fun hc => ?_) (fun hc => ?_)
  · have h := h.1 hc
    refine ax_mv 3 140 [some (.ref 150), some (ax_i x1), y2, some (ax_i x3), some (ax_i x4), y5, some (ax_i (V 523 x1))] [ax_i x3, ax_i x4, .ref 150] rfl ?_
    refine ax_callN (pc' := 143) ⟨_, rfl⟩ ml_5_77 (rest := []) rfl (fun ss hs => ⟨_, _, (az_e 0 rfl) ss hs⟩) (Nat.le_of_ble_eq_true rfl) rfl rfl h (fun V1 hg1 h => ?_)
    refine ax_mv 1 144 [some (.ref 150), some (ax_i x1), y2, some (ax_i x3), some (ax_i x4), y5, some (ax_i (V 523 x1))] [.ref 150] rfl ?_
    refine ax_gR (v := .ref 152) (pc' := 147) ⟨_, rfl⟩ fl_5_15 (az_e 0 rfl) rfl rfl ?_
    refine ax_mv 1 148 [some (.ref 150), some (ax_i x1), y2, some (ax_i x3), some (ax_i x4), y5, some (ax_i (V 523 x1))] [.ref 150, .ref 152] rfl ?_
    refine ax_gR (v := .ref B) (pc' := 151) ⟨_, rfl⟩ fl_5_32 (az_e 0 rfl) rfl rfl ?_
    refine ax_gR (v := .ref (B + 7)) (pc' := 154) ⟨_, rfl⟩ fl_5_177 (az_b 0 rfl) rfl rfl ?_
    refine ax_mv 1 156 [some (.ref 150), some (ax_i x1), y2, some (ax_i x3), some (ax_i x4), y5, some (ax_i (V 523 x1))] [ax_i x4, .ref (B + 7), .ref 152] rfl ?_
    refine ax_bip (pc' := 158) ⟨_, rfl⟩ (by decide) rfl ?_
    refine ax_mul (pc' := 159) ⟨_, rfl⟩ rfl ?_
    obtain ⟨o5, h⟩ := h
    refine ax_ild (n := 208) (pc' := 160) ⟨_, rfl⟩ (az_b 7 rfl) (by decide) o5 rfl ?_
    obtain ⟨o6, h⟩ := h
    refine ax_ild (n := 208) (pc' := 161) ⟨_, rfl⟩ (az_e 2 rfl) (by decide) o6 rfl ?_
    exact ax_iret ⟨_, rfl⟩ rfl rfl (hg1 _ _) hg1 h
  · have h := h.2 (Int.not_lt.mp hc)
    refine ax_mv 1 108 [some (.ref 150), some (ax_i x1), y2, some (ax_i x3), some (ax_i x4), y5, some (ax_i (V 523 x1))] [.ref 150] rfl ?_
    refine ax_gR (v := .ref 152) (pc' := 111) ⟨_, rfl⟩ fl_5_15 (az_e 0 rfl) rfl rfl ?_
    refine ax_mv 1 113 [some (.ref 150), some (ax_i x1), y2, some (ax_i x3), some (ax_i x4), y5, some (ax_i (V 523 x1))] [ax_i (V 523 x1), .ref 152] rfl ?_
    obtain ⟨o7, h⟩ := h
    refine ax_ild (n := 208) (pc' := 114) ⟨_, rfl⟩ (az_e 2 rfl) (by decide) o7 rfl ?_
    refine ax_mv 1 115 [some (.ref 150), some (ax_i x1), y2, some (ax_i x3), some (ax_i x4), y5, some (ax_i (V 523 x1))] [ax_i 1, ax_i (V 152 (V 523 x1))] rfl ?_
    refine ax_if2 (p1 := 136) (p2 := 118) ⟨_, rfl⟩ (by decide) rfl (hg _ _) (by decide) (fun hc => ?_) (fun hc => ?_)
    · have h := h.2 hc
      refine ax_mv 3 140 [some (.ref 150), some (ax_i x1), y2, some (ax_i x3), some (ax_i x4), y5, some (ax_i (V 523 x1))] [ax_i x3, ax_i x4, .ref 150] rfl ?_
      refine ax_callN (pc' := 143) ⟨_, rfl⟩ ml_5_77 (rest := []) rfl (fun ss hs => ⟨_, _, (az_e 0 rfl) ss hs⟩) (Nat.le_of_ble_eq_true rfl) rfl rfl h (fun V2 hg2 h => ?_)
      refine ax_mv 1 144 [some (.ref 150), some (ax_i x1), y2, some (ax_i x3), some (ax_i x4), y5, some (ax_i (V 523 x1))] [.ref 150] rfl ?_
      refine ax_gR (v := .ref 152) (pc' := 147) ⟨_, rfl⟩ fl_5_15 (az_e 0 rfl) rfl rfl ?_
      refine ax_mv 1 148 [some (.ref 150), some (ax_i x1), y2, some (ax_i x3), some (ax_i x4), y5, some (ax_i (V 523 x1))] [.ref 150, .ref 152] rfl ?_
      refine ax_gR (v := .ref B) (pc' := 151) ⟨_, rfl⟩ fl_5_32 (az_e 0 rfl) rfl rfl ?_
      refine ax_gR (v := .ref (B + 7)) (pc' := 154) ⟨_, rfl⟩ fl_5_177 (az_b 0 rfl) rfl rfl ?_
      refine ax_mv 1 156 [some (.ref 150), some (ax_i x1), y2, some (ax_i x3), some (ax_i x4), y5, some (ax_i (V 523 x1))] [ax_i x4, .ref (B + 7), .ref 152] rfl ?_
      refine ax_bip (pc' := 158) ⟨_, rfl⟩ (by decide) rfl ?_
      refine ax_mul (pc' := 159) ⟨_, rfl⟩ rfl ?_
      obtain ⟨o8, h⟩ := h
      refine ax_ild (n := 208) (pc' := 160) ⟨_, rfl⟩ (az_b 7 rfl) (by decide) o8 rfl ?_
      obtain ⟨o9, h⟩ := h
      refine ax_ild (n := 208) (pc' := 161) ⟨_, rfl⟩ (az_e 2 rfl) (by decide) o9 rfl ?_
      exact ax_iret ⟨_, rfl⟩ rfl rfl (hg2 _ _) hg2 h
    · have h := h.1 (Classical.not_not.mp hc)
      refine ax_mv 4 123 [some (.ref 150), some (ax_i x1), y2, some (ax_i x3), some (ax_i x4), y5, some (ax_i (V 523 x1))] [.ref 150, ax_i 0, ax_i x4, .ref 150] rfl ?_
      refine ax_gR (v := .ref B) (pc' := 126) ⟨_, rfl⟩ fl_5_32 (az_e 0 rfl) rfl rfl ?_
      refine ax_gR (v := .ref (B + 14)) (pc' := 129) ⟨_, rfl⟩ fl_5_61 (az_b 0 rfl) rfl rfl ?_
      refine ax_mv 1 131 [some (.ref 150), some (ax_i x1), y2, some (ax_i x3), some (ax_i x4), y5, some (ax_i (V 523 x1))] [ax_i x4, .ref (B + 14), ax_i 0, ax_i x4, .ref 150] rfl ?_
      obtain ⟨o10, h⟩ := h
      refine ax_ild (n := 8) (pc' := 132) ⟨_, rfl⟩ (az_b 14 rfl) (by decide) o10 rfl ?_
      refine ax_mv 1 133 [some (.ref 150), some (ax_i x1), y2, some (ax_i x3), some (ax_i x4), y5, some (ax_i (V 523 x1))] [ax_i x3, ax_i (V 514 x4), ax_i 0, ax_i x4, .ref 150] rfl ?_
      refine ax_callN (pc' := 136) ⟨_, rfl⟩ ml_5_173 (rest := []) rfl (fun ss hs => ⟨_, _, (az_e 0 rfl) ss hs⟩) (Nat.le_of_ble_eq_true rfl) rfl rfl h (fun V3 hg3 h => ?_)
      refine ax_mv 3 140 [some (.ref 150), some (ax_i x1), y2, some (ax_i x3), some (ax_i x4), y5, some (ax_i (V 523 x1))] [ax_i x3, ax_i x4, .ref 150] rfl ?_
      refine ax_callN (pc' := 143) ⟨_, rfl⟩ ml_5_77 (rest := []) rfl (fun ss hs => ⟨_, _, (az_e 0 rfl) ss hs⟩) (Nat.le_of_ble_eq_true rfl) rfl rfl h (fun V4 hg4 h => ?_)
      refine ax_mv 1 144 [some (.ref 150), some (ax_i x1), y2, some (ax_i x3), some (ax_i x4), y5, some (ax_i (V 523 x1))] [.ref 150] rfl ?_
      refine ax_gR (v := .ref 152) (pc' := 147) ⟨_, rfl⟩ fl_5_15 (az_e 0 rfl) rfl rfl ?_
      refine ax_mv 1 148 [some (.ref 150), some (ax_i x1), y2, some (ax_i x3), some (ax_i x4), y5, some (ax_i (V 523 x1))] [.ref 150, .ref 152] rfl ?_
      refine ax_gR (v := .ref B) (pc' := 151) ⟨_, rfl⟩ fl_5_32 (az_e 0 rfl) rfl rfl ?_
      refine ax_gR (v := .ref (B + 7)) (pc' := 154) ⟨_, rfl⟩ fl_5_177 (az_b 0 rfl) rfl rfl ?_
      refine ax_mv 1 156 [some (.ref 150), some (ax_i x1), y2, some (ax_i x3), some (ax_i x4), y5, some (ax_i (V 523 x1))] [ax_i x4, .ref (B + 7), .ref 152] rfl ?_
      refine ax_bip (pc' := 158) ⟨_, rfl⟩ (by decide) rfl ?_
      refine ax_mul (pc' := 159) ⟨_, rfl⟩ rfl ?_
      obtain ⟨o11, h⟩ := h
      refine ax_ild (n := 208) (pc' := 160) ⟨_, rfl⟩ (az_b 7 rfl) (by decide) o11 rfl ?_
      obtain ⟨o12, h⟩ := h
      refine ax_ild (n := 208) (pc' := 161) ⟨_, rfl⟩ (az_e 2 rfl) (by decide) o12 rfl ?_
      exact ax_iret ⟨_, rfl⟩ rfl rfl (hg4 _ _) hg4 h
set_option maxRecDepth 20000 in
theorem r_Machine_call {B : Nat} {d : Nat} {V : ax_V} {Φ : Int → ax_V → Prop} {Θ : ax_V → Prop} {x1 : Int} {x2 : Int} {x3 : Int} (hg : ax_g V) (hx1 : ax_rg x1) (hx2 : ax_rg x2) (hx3 : ax_rg x3) (h : (0 ≤ x1 ∧ x1 < 700) ∧ ((V 520 x1 < 0 → Φ 0 V) ∧ (0 ≤ V 520 x1 → ((V 520 x1 < x2 → (0 ≤ x1 ∧ x1 < 700) ∧ k_Machine_call_38 B d x1 (some (ax_i x2)) x3 (V 520 x1) (V 521 x1) 0 V Φ Θ) ∧ (x2 ≤ V 520 x1 → Φ 0 V))))) : ax_I (az_W B (az_EM B)) (d + 1) q_Machine_call [.ref 150, ax_i x1, ax_i x2, ax_i x3] V Φ Θ := by
  refine ax_T.of (M := m_Machine_call) rfl (Nat.le_of_ble_eq_true rfl) ?_
  refine ax_mv 0 0 [some (.ref 150), some (ax_i x1), some (ax_i x2), some (ax_i x3), none, none, none] [] rfl ?_
  refine ax_mv 1 1 [some (.ref 150), some (ax_i x1), some (ax_i x2), some (ax_i x3), none, none, none] [.ref 150] rfl ?_
  refine ax_gR (v := .ref (B + 16)) (pc' := 4) ⟨_, rfl⟩ fl_5_42 (az_e 0 rfl) rfl rfl ?_
  refine ax_gR (v := .ref (B + 20)) (pc' := 7) ⟨_, rfl⟩ fl_5_143 (az_b 16 rfl) rfl rfl ?_
  refine ax_mv 1 8 [some (.ref 150), some (ax_i x1), some (ax_i x2), some (ax_i x3), none, none, none] [ax_i x1, .ref (B + 20)] rfl ?_
  obtain ⟨o13, h⟩ := h
  refine ax_ild (n := 700) (pc' := 9) ⟨_, rfl⟩ (az_b 20 rfl) (by decide) o13 rfl ?_
  refine ax_sti (i := 0) (k := 4) (n := 2) (pc' := 11) (L' := [some (.ref 150), some (ax_i x1), some (ax_i x2), some (ax_i x3), some (ax_i (V 520 x1)), none, none]) ⟨_, rfl⟩ rfl rfl rfl (Nat.le_of_ble_eq_true rfl) rfl rfl ?_
  refine ax_mv 1 13 [some (.ref 150), some (ax_i x1), some (ax_i x2), some (ax_i x3), some (ax_i (V 520 x1)), none, none] [ax_i (V 520 x1)] rfl ?_
  refine ax_if (p1 := 22) (p2 := 16) ⟨_, rfl⟩ (by decide) rfl (hg _ _) (fun hc => ?_) (fun hc => ?_)
  · have h := h.1 hc
    refine ax_mv 1 23 [some (.ref 150), some (ax_i x1), some (ax_i x2), some (ax_i x3), some (ax_i (V 520 x1)), none, none] [ax_i 0] rfl ?_
    exact ax_iret ⟨_, rfl⟩ rfl rfl (by decide) hg h
  · have h := h.2 (Int.not_lt.mp hc)
    refine ax_mv 2 19 [some (.ref 150), some (ax_i x1), some (ax_i x2), some (ax_i x3), some (ax_i (V 520 x1)), none, none] [ax_i x2, ax_i (V 520 x1)] rfl ?_
    refine ax_if2 (p1 := 24) (p2 := 22) ⟨_, rfl⟩ (by decide) rfl (hg _ _) hx2 (fun hc => ?_) (fun hc => ?_)
    · have h := h.1 hc
      refine ax_mv 1 25 [some (.ref 150), some (ax_i x1), some (ax_i x2), some (ax_i x3), some (ax_i (V 520 x1)), none, none] [.ref 150] rfl ?_
      refine ax_gR (v := .ref (B + 16)) (pc' := 28) ⟨_, rfl⟩ fl_5_42 (az_e 0 rfl) rfl rfl ?_
      refine ax_gR (v := .ref (B + 21)) (pc' := 31) ⟨_, rfl⟩ fl_5_117 (az_b 16 rfl) rfl rfl ?_
      refine ax_mv 1 32 [some (.ref 150), some (ax_i x1), some (ax_i x2), some (ax_i x3), some (ax_i (V 520 x1)), none, none] [ax_i x1, .ref (B + 21)] rfl ?_
      obtain ⟨o14, h⟩ := h
      refine ax_ild (n := 700) (pc' := 33) ⟨_, rfl⟩ (az_b 21 rfl) (by decide) o14 rfl ?_
      refine ax_sti (i := 0) (k := 5) (n := 2) (pc' := 35) (L' := [some (.ref 150), some (ax_i x1), some (ax_i x2), some (ax_i x3), some (ax_i (V 520 x1)), some (ax_i (V 521 x1)), none]) ⟨_, rfl⟩ rfl rfl rfl (Nat.le_of_ble_eq_true rfl) rfl rfl ?_
      refine ax_mv 1 36 [some (.ref 150), some (ax_i x1), some (ax_i x2), some (ax_i x3), some (ax_i (V 520 x1)), some (ax_i (V 521 x1)), none] [ax_i 0] rfl ?_
      refine ax_sti (i := 0) (k := 6) (n := 2) (pc' := 38) (L' := [some (.ref 150), some (ax_i x1), some (ax_i x2), some (ax_i x3), some (ax_i (V 520 x1)), some (ax_i (V 521 x1)), some (ax_i 0)]) ⟨_, rfl⟩ rfl rfl rfl (Nat.le_of_ble_eq_true rfl) rfl rfl ?_
      exact h
    · have h := h.2 (Int.not_lt.mp hc)
      refine ax_mv 1 23 [some (.ref 150), some (ax_i x1), some (ax_i x2), some (ax_i x3), some (ax_i (V 520 x1)), none, none] [ax_i 0] rfl ?_
      exact ax_iret ⟨_, rfl⟩ rfl rfl (by decide) hg h
theorem r_Machine_renew {B : Nat} {d : Nat} {V : ax_V} {Φ : ax_V → Prop} {Θ : ax_V → Prop} {x1 : Int} {x2 : Int} {x3 : Int} {x4 : Int} (hg : ax_g V) (hx1 : ax_rg x1) (hx2 : ax_rg x2) (hx3 : ax_rg x3) (hx4 : ax_rg x4) (h : ((0 : Int) ≤ (x1 * 300) + x2 ∧ (0 : Int) ≤ x4 + x2 ∧ (0 : Int) ≤ x3 - x2 ∧ (((x1 * 300) + x2) + (x3 - x2) : Int) ≤ 2400 ∧ ((x4 + x2) + (x3 - x2) : Int) ≤ 300) ∧ (∀ V1, V1 = ax_cp V 515 155 ((x1 * 300) + x2) (x4 + x2) (x3 - x2) → Φ V1)) : ax_N (az_W B (az_EM B)) (d + 1) q_Machine_renew [.ref 150, ax_i x1, ax_i x2, ax_i x3, ax_i x4] V Φ Θ := by
  refine ax_T.of (M := m_Machine_renew) rfl (Nat.le_of_ble_eq_true rfl) ?_
  refine ax_mv 0 0 [some (.ref 150), some (ax_i x1), some (ax_i x2), some (ax_i x3), some (ax_i x4)] [] rfl ?_
  refine ax_mv 1 1 [some (.ref 150), some (ax_i x1), some (ax_i x2), some (ax_i x3), some (ax_i x4)] [.ref 150] rfl ?_
  refine ax_gR (v := .ref B) (pc' := 4) ⟨_, rfl⟩ fl_5_32 (az_e 0 rfl) rfl rfl ?_
  refine ax_gR (v := .ref (B + 15)) (pc' := 7) ⟨_, rfl⟩ fl_5_180 (az_b 0 rfl) rfl rfl ?_
  refine ax_mv 1 8 [some (.ref 150), some (ax_i x1), some (ax_i x2), some (ax_i x3), some (ax_i x4)] [ax_i x1, .ref (B + 15)] rfl ?_
  refine ax_sip (pc' := 11) ⟨_, rfl⟩ (by decide) rfl ?_
  refine ax_mul (pc' := 12) ⟨_, rfl⟩ rfl ?_
  refine ax_mv 1 13 [some (.ref 150), some (ax_i x1), some (ax_i x2), some (ax_i x3), some (ax_i x4)] [ax_i x2, ax_i (x1 * 300), .ref (B + 15)] rfl ?_
  refine ax_add (pc' := 14) ⟨_, rfl⟩ rfl ?_
  refine ax_mv 1 15 [some (.ref 150), some (ax_i x1), some (ax_i x2), some (ax_i x3), some (ax_i x4)] [.ref 150, ax_i ((x1 * 300) + x2), .ref (B + 15)] rfl ?_
  refine ax_gR (v := .ref 155) (pc' := 18) ⟨_, rfl⟩ fl_5_25 (az_e 0 rfl) rfl rfl ?_
  refine ax_mv 2 21 [some (.ref 150), some (ax_i x1), some (ax_i x2), some (ax_i x3), some (ax_i x4)] [ax_i x2, ax_i x4, .ref 155, ax_i ((x1 * 300) + x2), .ref (B + 15)] rfl ?_
  refine ax_add (pc' := 22) ⟨_, rfl⟩ rfl ?_
  refine ax_mv 2 24 [some (.ref 150), some (ax_i x1), some (ax_i x2), some (ax_i x3), some (ax_i x4)] [ax_i x2, ax_i x3, ax_i (x4 + x2), .ref 155, ax_i ((x1 * 300) + x2), .ref (B + 15)] rfl ?_
  refine ax_sub (pc' := 25) ⟨_, rfl⟩ rfl ?_
  obtain ⟨o1, h⟩ := h
  obtain ⟨V1, eV1⟩ : ∃ W9 : ax_V, W9 = ax_cp V 515 155 ((x1 * 300) + x2) (x4 + x2) (x3 - x2) := ⟨_, rfl⟩
  have h := h V1 eV1
  have hg1 : ax_g V1 := eV1 ▸ ax_cp_g hg
  refine ax_acp (na := 300) (nb := 2400) (pc' := 28) ⟨_, rfl⟩ ml_5_64 az_ok (az_b 15 rfl) (az_e 5 rfl) (by decide) (by decide) o1 (Nat.le_of_ble_eq_true rfl) eV1 rfl ?_
  exact ax_nret ⟨_, rfl⟩ rfl hg1 h
theorem r_Machine_divide {B : Nat} {d : Nat} {V : ax_V} {Φ : Int → ax_V → Prop} {Θ : ax_V → Prop} {x1 : Int} {x2 : Int} {x3 : Int} (hg : ax_g V) (hx1 : ax_rg x1) (hx2 : ax_rg x2) (hx3 : ax_rg x3) (h : ((x2 = 0 → (∀ V1, V1 = ax_u V 150 10 (if x3 < V 150 10 then x3 else V 150 10) → Φ 0 V1)) ∧ (¬ x2 = 0 → ((x2 = -1 → Φ (ax_wr (-x1)) V) ∧ (¬ x2 = -1 → ¬ x2 = 0 ∧ Φ (ax_div x1 x2) V))))) : ax_I (az_W B (az_EM B)) (d + 1) q_Machine_divide [.ref 150, ax_i x1, ax_i x2, ax_i x3] V Φ Θ := by
  refine ax_T.of (M := m_Machine_divide) rfl (Nat.le_of_ble_eq_true rfl) ?_
  refine ax_mv 0 0 [some (.ref 150), some (ax_i x1), some (ax_i x2), some (ax_i x3)] [] rfl ?_
  refine ax_mv 1 1 [some (.ref 150), some (ax_i x1), some (ax_i x2), some (ax_i x3)] [ax_i x2] rfl ?_
  refine ax_if (p1 := 18) (p2 := 4) ⟨_, rfl⟩ (by decide) rfl hx2 (fun hc => ?_) (fun hc => ?_)
  · have h := h.2 hc
    refine ax_mv 2 20 [some (.ref 150), some (ax_i x1), some (ax_i x2), some (ax_i x3)] [ax_i (-1), ax_i x2] rfl ?_
    refine ax_if2 (p1 := 28) (p2 := 23) ⟨_, rfl⟩ (by decide) rfl hx2 (by decide) (fun hc => ?_) (fun hc => ?_)
    · have h := h.2 hc
      refine ax_mv 2 30 [some (.ref 150), some (ax_i x1), some (ax_i x2), some (ax_i x3)] [ax_i x2, ax_i x1] rfl ?_
      obtain ⟨o1, h⟩ := h
      refine ax_rdiv (pc' := 31) ⟨_, rfl⟩ hx2 o1 rfl ?_
      exact ax_iret ⟨_, rfl⟩ rfl rfl (ax_rg_of _) hg h
    · have h := h.1 (Classical.not_not.mp hc)
      refine ax_mv 1 24 [some (.ref 150), some (ax_i x1), some (ax_i x2), some (ax_i x3)] [ax_i x1] rfl ?_
      refine ax_neg (pc' := 25) ⟨_, rfl⟩ rfl ?_
      refine ax_wrap ?_
      refine ax_mv 1 31 [some (.ref 150), some (ax_i x1), some (ax_i x2), some (ax_i x3)] [ax_i (ax_wr (-x1))] rfl ?_
      exact ax_iret ⟨_, rfl⟩ rfl rfl (ax_rg_of _) hg h
  · have h := h.1 (Classical.not_not.mp hc)
    refine ax_mv 2 6 [some (.ref 150), some (ax_i x1), some (ax_i x2), some (ax_i x3)] [.ref 150, .ref 150] rfl ?_
    refine ax_gI (kI := 10) (pc' := 9) ⟨_, rfl⟩ fl_5_28 (az_e 0 rfl) rfl rfl rfl ?_
    refine ax_mv 1 10 [some (.ref 150), some (ax_i x1), some (ax_i x2), some (ax_i x3)] [ax_i x3, ax_i (V 150 10), .ref 150] rfl ?_
    refine ax_min (pc' := 13) ⟨_, rfl⟩ ml_5_164 (hg _ _) hx3 (Nat.le_of_ble_eq_true rfl) rfl ?_
    obtain ⟨V1, eV1⟩ : ∃ W9 : ax_V, W9 = ax_u V 150 10 (if x3 < V 150 10 then x3 else V 150 10) := ⟨_, rfl⟩
    have h := h V1 eV1
    have hg1 : ax_g V1 := eV1 ▸ ax_u_g hg (ax_ite_rg hx3 (hg _ _))
    refine ax_pI (kI := 10) (pc' := 16) ⟨_, rfl⟩ fl_5_28 az_ok (az_e 0 rfl) rfl rfl rfl rfl eV1 rfl ?_
    refine ax_mv 1 17 [some (.ref 150), some (ax_i x1), some (ax_i x2), some (ax_i x3)] [ax_i 0] rfl ?_
    exact ax_iret ⟨_, rfl⟩ rfl rfl (by decide) hg1 h
theorem r_Machine_rest {B : Nat} {d : Nat} {V : ax_V} {Φ : Int → ax_V → Prop} {Θ : ax_V → Prop} {x1 : Int} {x2 : Int} {x3 : Int} (hg : ax_g V) (hx1 : ax_rg x1) (hx2 : ax_rg x2) (hx3 : ax_rg x3) (h : ((x2 = 0 → (∀ V1, V1 = ax_u V 150 10 (if x3 < V 150 10 then x3 else V 150 10) → Φ 0 V1)) ∧ (¬ x2 = 0 → ((x2 = -1 → Φ 0 V) ∧ (¬ x2 = -1 → ¬ x2 = 0 ∧ Φ (ax_rem x1 x2) V))))) : ax_I (az_W B (az_EM B)) (d + 1) q_Machine_rest [.ref 150, ax_i x1, ax_i x2, ax_i x3] V Φ Θ := by
  refine ax_T.of (M := m_Machine_rest) rfl (Nat.le_of_ble_eq_true rfl) ?_
  refine ax_mv 0 0 [some (.ref 150), some (ax_i x1), some (ax_i x2), some (ax_i x3)] [] rfl ?_
  refine ax_mv 1 1 [some (.ref 150), some (ax_i x1), some (ax_i x2), some (ax_i x3)] [ax_i x2] rfl ?_
  refine ax_if (p1 := 18) (p2 := 4) ⟨_, rfl⟩ (by decide) rfl hx2 (fun hc => ?_) (fun hc => ?_)
  · have h := h.2 hc
    refine ax_mv 2 20 [some (.ref 150), some (ax_i x1), some (ax_i x2), some (ax_i x3)] [ax_i (-1), ax_i x2] rfl ?_
    refine ax_if2 (p1 := 27) (p2 := 23) ⟨_, rfl⟩ (by decide) rfl hx2 (by decide) (fun hc => ?_) (fun hc => ?_)
    · have h := h.2 hc
      refine ax_mv 2 29 [some (.ref 150), some (ax_i x1), some (ax_i x2), some (ax_i x3)] [ax_i x2, ax_i x1] rfl ?_
      obtain ⟨o1, h⟩ := h
      refine ax_rrem (pc' := 30) ⟨_, rfl⟩ hx2 o1 rfl ?_
      exact ax_iret ⟨_, rfl⟩ rfl rfl (ax_rg_of _) hg h
    · have h := h.1 (Classical.not_not.mp hc)
      refine ax_mv 2 30 [some (.ref 150), some (ax_i x1), some (ax_i x2), some (ax_i x3)] [ax_i 0] rfl ?_
      exact ax_iret ⟨_, rfl⟩ rfl rfl (by decide) hg h
  · have h := h.1 (Classical.not_not.mp hc)
    refine ax_mv 2 6 [some (.ref 150), some (ax_i x1), some (ax_i x2), some (ax_i x3)] [.ref 150, .ref 150] rfl ?_
    refine ax_gI (kI := 10) (pc' := 9) ⟨_, rfl⟩ fl_5_28 (az_e 0 rfl) rfl rfl rfl ?_
    refine ax_mv 1 10 [some (.ref 150), some (ax_i x1), some (ax_i x2), some (ax_i x3)] [ax_i x3, ax_i (V 150 10), .ref 150] rfl ?_
    refine ax_min (pc' := 13) ⟨_, rfl⟩ ml_5_164 (hg _ _) hx3 (Nat.le_of_ble_eq_true rfl) rfl ?_
    obtain ⟨V1, eV1⟩ : ∃ W9 : ax_V, W9 = ax_u V 150 10 (if x3 < V 150 10 then x3 else V 150 10) := ⟨_, rfl⟩
    have h := h V1 eV1
    have hg1 : ax_g V1 := eV1 ▸ ax_u_g hg (ax_ite_rg hx3 (hg _ _))
    refine ax_pI (kI := 10) (pc' := 16) ⟨_, rfl⟩ fl_5_28 az_ok (az_e 0 rfl) rfl rfl rfl rfl eV1 rfl ?_
    refine ax_mv 1 17 [some (.ref 150), some (ax_i x1), some (ax_i x2), some (ax_i x3)] [ax_i 0] rfl ?_
    exact ax_iret ⟨_, rfl⟩ rfl rfl (by decide) hg1 h
