/-! RULES of Reader.read, which catches what its calls throw: it gives 0 then, and what was thrown lies behind all. PRINTED by wip/gen/readrules.py -/
def ax_t0 (_ : List ax_S) : Option Value := some (ax_i 0)
def ax_C (lay : ax_Lay) (d key : Nat) (vs : List Value) (V : ax_V) (Φ : Int → ax_V → Prop) (Θ : ax_V → Prop) : Prop :=
  (∃ (x : Int) (V' : ax_V), ax_rg x ∧ ax_g V' ∧ Φ x V' ∧ ∀ ss, lay ss → ai_Ex ai_P0 d key vs (ax_w ss V) (some (ax_i x), ax_w ss V')) ∨
  (∃ V' : ax_V, ax_g V' ∧ Θ V' ∧ ∀ ss, lay ss → ai_Ex ai_P0 d key vs (ax_w ss V) (some (ax_i 0), ax_w (ss ++ [ax_ex]) V'))
theorem ax_C.of {lay : ax_Lay} {d key : Nat} {vs : List Value} {V : ax_V} {Φ : Int → ax_V → Prop} {Θ : ax_V → Prop} {M : ai_M} (hM : ai_P0.1 key = some M) (hl : (lg_sl vs).length ≤ M.2.2.1) (h : ax_R lay ax_t0 d M 0 (ai_lv vs M.2.2.1) [] V (ax_Ir Φ) Θ) : ax_C lay (d + 1) key vs V Φ Θ := by
  rcases h with ⟨r, V', h1, h2, ⟨x, rfl, hx, h3⟩, h4⟩ | ⟨V', h2, h3, h4⟩
  · exact Or.inl ⟨x, V', hx, h2, h3, fun ss hs => ai_Ex.of hM hl (h4 ss hs)⟩
  · exact Or.inr ⟨V', h2, h3, fun ss hs => ai_Ex.of hM hl (h4 ss hs)⟩
theorem ax_callNF {lay : ax_Lay} {τ : List ax_S → Option Value} {d : Nat} {M : ai_M} {pc pc' : Nat} {L : List (Option Value)} {st : List Value} {V : ax_V} {Φ : Option Value → ax_V → Prop} {Θ : ax_V → Prop} {Ψ : ax_V → Prop} {idx key n ci a : Nat} {rest : List Value} (hf : ai_In M pc (.invokevirtual idx)) (hl : ai_P0.2.2.2.1 M.2.2.2.2.1 idx = some (0, key, n, ci)) (hs : st.drop n = .ref a :: rest) (ha : ∀ ss, lay ss → ∃ id fs, ss[a]? = some (.inr (id, .inr (ci, fs)))) (hroom : (rest.map fun v => v.category).sum ≤ 8) (hp : pc + 3 = pc') (hc : ax_N lay d key (.ref a :: (st.take n).reverse) V Ψ (fun _ => False)) (h : ∀ V1, ax_g V1 → Ψ V1 → ax_R lay τ d M pc' L rest V1 Φ Θ) : ax_R lay τ d M pc L st V Φ Θ := by
  subst hp
  rcases hc with ⟨r, V1, c1, c2, ⟨rfl, c4⟩, c5⟩ | ⟨V1, c2, c3, c5⟩
  · refine ax_R.go (fun ss hss r hr => ?_) (h V1 c2 c4)
    obtain ⟨id, fs, h9⟩ := ha ss hss
    exact ai_Rn.callv hf hl hs (ax_w_get h9) hroom c1 (c5 ss hss) hr
  · exact c3.elim
theorem ax_catR {d a : Nat} (x y : Option Value) (ss : List ax_S) (V' : ax_V) : ai_Rn none ai_P0 d m_Reader_read (114, [some (.ref a), x, y], [.ref ss.length], ax_w (ss ++ [ax_ex]) V') (ax_t0 ss, ax_w (ss ++ [ax_ex]) V') :=
  ai_mv_Rn 2 (114, [some (.ref a), x, y], [.ref ss.length]) (116, [some (.ref a), some (.ref ss.length), y], [ax_i 0]) rfl (ai_Rn.iret ⟨_, rfl⟩ rfl (ax_nbv (by decide)))
abbrev k_Reader_read_9 (B : Nat) (r : Nat) (d : Nat) (x1 : Int) (y2 : Option Value) (V : ax_V) (Φ : Int → ax_V → Prop) (Θ : ax_V → Prop) : Prop := ax_R (az_W B (az_ER B r)) ax_t0 d m_Reader_read 9 [some (.ref r), some (ax_i x1), y2] [] V (ax_Ir Φ) Θ
abbrev k_Reader_read_39 (B : Nat) (r : Nat) (d : Nat) (x1 : Int) (x2 : Int) (V : ax_V) (Φ : Int → ax_V → Prop) (Θ : ax_V → Prop) : Prop := ax_R (az_W B (az_ER B r)) ax_t0 d m_Reader_read 39 [some (.ref r), some (ax_i x1), some (ax_i x2)] [] V (ax_Ir Φ) Θ
theorem r_Reader_read_9 {B : Nat} {r : Nat} {d : Nat} {V : ax_V} {Φ : Int → ax_V → Prop} {Θ : ax_V → Prop} {x1 : Int} {y2 : Option Value} (hg : ax_g V) (hx1 : ax_rg x1) (hy2 : ax_y y2) (h : ((8 < x1 → Φ 0 V) ∧ (x1 ≤ 8 → ((x1 ≤ 0 → ax_N (az_W B (az_ER B r)) d q_Reader_readHead [.ref r, ax_i x1] V (fun V1 => k_Reader_read_39 B r d x1 0 V1 Φ Θ) Θ) ∧ (0 < x1 → ((V 600 6 < V 600 1 → ax_N (az_W B (az_ER B r)) d q_Reader_readHead [.ref r, ax_i x1] V (fun V2 => k_Reader_read_39 B r d x1 0 V2 Φ Θ) Θ) ∧ (V 600 1 ≤ V 600 6 → Φ 1 V))))))) : k_Reader_read_9 B r d x1 y2 V Φ Θ := by
  refine ax_mv 1 10 [some (.ref r), some (ax_i x1), y2] [ax_i x1] rfl ?_
  refine ax_bip (pc' := 12) ⟨_, rfl⟩ (by decide) rfl ?_
  refine ax_if2 (p1 := 111) (p2 := 15) ⟨_, rfl⟩ (by decide) rfl hx1 (by decide) (fun hc => ?_) (fun hc => ?_)
  · have h := h.1 hc
    refine ax_mv 2 118 [some (.ref r), some (ax_i x1), y2] [ax_i 0] rfl ?_
    exact ax_iret ⟨_, rfl⟩ rfl (ax_nbv (by decide)) (by decide) hg h
  · have h := h.2 (Int.not_lt.mp hc)
    refine ax_mv 1 16 [some (.ref r), some (ax_i x1), y2] [ax_i x1] rfl ?_
    refine ax_if (p1 := 32) (p2 := 19) ⟨_, rfl⟩ (by decide) rfl hx1 (fun hc => ?_) (fun hc => ?_)
    · have h := h.1 hc
      refine ax_mv 2 34 [some (.ref r), some (ax_i x1), y2] [ax_i x1, .ref r] rfl ?_
      refine ax_callNC (pc' := 37) (hd := (32, 111, 114, 77, 13)) ⟨_, rfl⟩ ml_10_52 (rest := []) rfl (fun ss hs => ⟨_, _, (az_e 1 rfl) ss hs⟩) (Nat.le_of_ble_eq_true rfl) rfl rfl (ax_catR _ _) rfl h (fun V1 hg1 h => ?_)
      refine ax_mv 1 38 [some (.ref r), some (ax_i x1), y2] [ax_i 0] rfl ?_
      refine ax_sti (i := 0) (k := 2) (n := 1) (pc' := 39) (L' := [some (.ref r), some (ax_i x1), some (ax_i 0)]) ⟨_, rfl⟩ rfl rfl rfl (Nat.le_of_ble_eq_true rfl) rfl rfl ?_
      exact h
    · have h := h.2 (Int.not_le.mp hc)
      refine ax_mv 1 20 [some (.ref r), some (ax_i x1), y2] [.ref r] rfl ?_
      refine ax_gI (kI := 6) (pc' := 23) ⟨_, rfl⟩ fl_10_49 (az_e 1 rfl) rfl rfl rfl ?_
      refine ax_mv 1 24 [some (.ref r), some (ax_i x1), y2] [.ref r, ax_i (V 600 6)] rfl ?_
      refine ax_gI (kI := 1) (pc' := 27) ⟨_, rfl⟩ fl_10_22 (az_e 1 rfl) rfl rfl rfl ?_
      refine ax_if2 (p1 := 32) (p2 := 30) ⟨_, rfl⟩ (by decide) rfl (hg _ _) (hg _ _) (fun hc => ?_) (fun hc => ?_)
      · have h := h.1 hc
        refine ax_mv 2 34 [some (.ref r), some (ax_i x1), y2] [ax_i x1, .ref r] rfl ?_
        refine ax_callNC (pc' := 37) (hd := (32, 111, 114, 77, 13)) ⟨_, rfl⟩ ml_10_52 (rest := []) rfl (fun ss hs => ⟨_, _, (az_e 1 rfl) ss hs⟩) (Nat.le_of_ble_eq_true rfl) rfl rfl (ax_catR _ _) rfl h (fun V2 hg2 h => ?_)
        refine ax_mv 1 38 [some (.ref r), some (ax_i x1), y2] [ax_i 0] rfl ?_
        refine ax_sti (i := 0) (k := 2) (n := 1) (pc' := 39) (L' := [some (.ref r), some (ax_i x1), some (ax_i 0)]) ⟨_, rfl⟩ rfl rfl rfl (Nat.le_of_ble_eq_true rfl) rfl rfl ?_
        exact h
      · have h := h.2 (Int.not_lt.mp hc)
        refine ax_mv 1 31 [some (.ref r), some (ax_i x1), y2] [ax_i 1] rfl ?_
        exact ax_iret ⟨_, rfl⟩ rfl (ax_nbv (by decide)) (by decide) hg h
theorem r_Reader_read_39 {B : Nat} {r : Nat} {d : Nat} {V : ax_V} {Φ : Int → ax_V → Prop} {Θ : ax_V → Prop} {x1 : Int} {x2 : Int} (hg : ax_g V) (hx1 : ax_rg x1) (hx2 : ax_rg x2) (h : ((700 ≤ x2 → ax_N (az_W B (az_ER B r)) d q_Reader_expect [.ref r, ax_i 125] V (fun V1 => ax_N (az_W B (az_ER B r)) d q_Program_endNode [.ref B, ax_i x1] V1 (fun V2 => k_Reader_read_9 B r d (x1 + 1) (some (ax_i x2)) V2 Φ Θ) Θ) Θ) ∧ (x2 < 700 → ax_I (az_W B (az_ER B r)) d q_Reader_look [.ref r] V (fun r3 V3 => ax_I (az_W B (az_ER B r)) d q_Reader_isLetter [ax_i r3] V3 (fun r4 V4 => ((r4 = 0 → ax_I (az_W B (az_ER B r)) d q_Reader_look [.ref r] V4 (fun r8 V8 => ((r8 = 36 → ax_I (az_W B (az_ER B r)) d q_Reader_look [.ref r] V8 (fun r11 V11 => ((r11 = 36 → ax_N (az_W B (az_ER B r)) d q_Reader_readAutomaton [.ref r] V11 (fun V13 => k_Reader_read_39 B r d x1 (x2 + 1) V13 Φ Θ) Θ) ∧ (¬ r11 = 36 → ax_N (az_W B (az_ER B r)) d q_Reader_readEquation [.ref r] V11 (fun V12 => k_Reader_read_39 B r d x1 (x2 + 1) V12 Φ Θ) Θ))) Θ) ∧ (¬ r8 = 36 → ax_N (az_W B (az_ER B r)) d q_Reader_expect [.ref r, ax_i 125] V8 (fun V9 => ax_N (az_W B (az_ER B r)) d q_Program_endNode [.ref B, ax_i x1] V9 (fun V10 => k_Reader_read_9 B r d (x1 + 1) (some (ax_i x2)) V10 Φ Θ) Θ) Θ))) Θ) ∧ (¬ r4 = 0 → ax_I (az_W B (az_ER B r)) d q_Reader_look [.ref r] V4 (fun r5 V5 => ((r5 = 36 → ax_N (az_W B (az_ER B r)) d q_Reader_readAutomaton [.ref r] V5 (fun V7 => k_Reader_read_39 B r d x1 (x2 + 1) V7 Φ Θ) Θ) ∧ (¬ r5 = 36 → ax_N (az_W B (az_ER B r)) d q_Reader_readEquation [.ref r] V5 (fun V6 => k_Reader_read_39 B r d x1 (x2 + 1) V6 Φ Θ) Θ))) Θ))) (fun _ => False)) Θ))) : k_Reader_read_39 B r d x1 x2 V Φ Θ := by
  refine ax_mv 1 40 [some (.ref r), some (ax_i x1), some (ax_i x2)] [ax_i x2] rfl ?_
  refine ax_sip (pc' := 43) ⟨_, rfl⟩ (by decide) rfl ?_
  refine ax_if2 (p1 := 91) (p2 := 46) ⟨_, rfl⟩ (by decide) rfl hx2 (by decide) (fun hc => ?_) (fun hc => ?_)
  · have h := h.1 hc
    refine ax_mv 1 92 [some (.ref r), some (ax_i x1), some (ax_i x2)] [.ref r] rfl ?_
    refine ax_bip (pc' := 94) ⟨_, rfl⟩ (by decide) rfl ?_
    refine ax_callNC (pc' := 97) (hd := (32, 111, 114, 77, 13)) ⟨_, rfl⟩ ml_10_70 (rest := []) rfl (fun ss hs => ⟨_, _, (az_e 1 rfl) ss hs⟩) (Nat.le_of_ble_eq_true rfl) rfl rfl (ax_catR _ _) rfl h (fun V1 hg1 h => ?_)
    refine ax_mv 1 98 [some (.ref r), some (ax_i x1), some (ax_i x2)] [.ref r] rfl ?_
    refine ax_gR (v := .ref B) (pc' := 101) ⟨_, rfl⟩ fl_10_25 (az_e 1 rfl) rfl rfl ?_
    refine ax_mv 1 102 [some (.ref r), some (ax_i x1), some (ax_i x2)] [ax_i x1, .ref B] rfl ?_
    refine ax_callNC (pc' := 105) (hd := (32, 111, 114, 77, 13)) ⟨_, rfl⟩ ml_10_74 (rest := []) rfl (fun ss hs => ⟨_, _, (az_b 0 rfl) ss hs⟩) (Nat.le_of_ble_eq_true rfl) rfl rfl (ax_catR _ _) rfl h (fun V2 hg2 h => ?_)
    refine ax_inc (x := x1) (pc' := 108) (L' := [some (.ref r), some (ax_i (x1 + 1)), some (ax_i x2)]) ⟨_, rfl⟩ rfl rfl rfl rfl ?_
    refine ax_mv 1 9 [some (.ref r), some (ax_i (x1 + 1)), some (ax_i x2)] [] rfl ?_
    exact h
  · have h := h.2 (Int.not_le.mp hc)
    refine ax_mv 1 47 [some (.ref r), some (ax_i x1), some (ax_i x2)] [.ref r] rfl ?_
    refine ax_callIC (pc' := 50) (hd := (32, 111, 114, 77, 13)) ⟨_, rfl⟩ ml_10_56 (rest := []) rfl (fun ss hs => ⟨_, _, (az_e 1 rfl) ss hs⟩) (Nat.le_of_ble_eq_true rfl) rfl rfl (ax_catR _ _) rfl h (fun r3 V3 hg3 hr3 h => ?_)
    refine ax_callS (pc' := 53) ⟨_, rfl⟩ ml_10_60 (Nat.le_of_ble_eq_true rfl) (Nat.le_of_ble_eq_true rfl) rfl h (fun r4 V4 hg4 hr4 h => ?_)
    refine ax_mv 0 53 [some (.ref r), some (ax_i x1), some (ax_i x2)] [ax_i r4] rfl ?_
    refine ax_if (p1 := 65) (p2 := 56) ⟨_, rfl⟩ (by decide) rfl hr4 (fun hc => ?_) (fun hc => ?_)
    · have h := h.2 hc
      refine ax_mv 1 66 [some (.ref r), some (ax_i x1), some (ax_i x2)] [.ref r] rfl ?_
      refine ax_callIC (pc' := 69) (hd := (32, 111, 114, 77, 13)) ⟨_, rfl⟩ ml_10_56 (rest := []) rfl (fun ss hs => ⟨_, _, (az_e 1 rfl) ss hs⟩) (Nat.le_of_ble_eq_true rfl) rfl rfl (ax_catR _ _) rfl h (fun r5 V5 hg5 hr5 h => ?_)
      refine ax_bip (pc' := 71) ⟨_, rfl⟩ (by decide) rfl ?_
      refine ax_if2 (p1 := 81) (p2 := 74) ⟨_, rfl⟩ (by decide) rfl hr5 (by decide) (fun hc => ?_) (fun hc => ?_)
      · have h := h.2 hc
        refine ax_mv 1 82 [some (.ref r), some (ax_i x1), some (ax_i x2)] [.ref r] rfl ?_
        refine ax_callNC (pc' := 85) (hd := (32, 111, 114, 77, 13)) ⟨_, rfl⟩ ml_10_67 (rest := []) rfl (fun ss hs => ⟨_, _, (az_e 1 rfl) ss hs⟩) (Nat.le_of_ble_eq_true rfl) rfl rfl (ax_catR _ _) rfl h (fun V6 hg6 h => ?_)
        refine ax_inc (x := x2) (pc' := 88) (L' := [some (.ref r), some (ax_i x1), some (ax_i (x2 + 1))]) ⟨_, rfl⟩ rfl rfl rfl rfl ?_
        refine ax_mv 1 39 [some (.ref r), some (ax_i x1), some (ax_i (x2 + 1))] [] rfl ?_
        exact h
      · have h := h.1 (Classical.not_not.mp hc)
        refine ax_mv 1 75 [some (.ref r), some (ax_i x1), some (ax_i x2)] [.ref r] rfl ?_
        refine ax_callNC (pc' := 78) (hd := (32, 111, 114, 77, 13)) ⟨_, rfl⟩ ml_10_64 (rest := []) rfl (fun ss hs => ⟨_, _, (az_e 1 rfl) ss hs⟩) (Nat.le_of_ble_eq_true rfl) rfl rfl (ax_catR _ _) rfl h (fun V7 hg7 h => ?_)
        refine ax_mv 1 85 [some (.ref r), some (ax_i x1), some (ax_i x2)] [] rfl ?_
        refine ax_inc (x := x2) (pc' := 88) (L' := [some (.ref r), some (ax_i x1), some (ax_i (x2 + 1))]) ⟨_, rfl⟩ rfl rfl rfl rfl ?_
        refine ax_mv 1 39 [some (.ref r), some (ax_i x1), some (ax_i (x2 + 1))] [] rfl ?_
        exact h
    · have h := h.1 (Classical.not_not.mp hc)
      refine ax_mv 1 57 [some (.ref r), some (ax_i x1), some (ax_i x2)] [.ref r] rfl ?_
      refine ax_callIC (pc' := 60) (hd := (32, 111, 114, 77, 13)) ⟨_, rfl⟩ ml_10_56 (rest := []) rfl (fun ss hs => ⟨_, _, (az_e 1 rfl) ss hs⟩) (Nat.le_of_ble_eq_true rfl) rfl rfl (ax_catR _ _) rfl h (fun r8 V8 hg8 hr8 h => ?_)
      refine ax_bip (pc' := 62) ⟨_, rfl⟩ (by decide) rfl ?_
      refine ax_if2 (p1 := 91) (p2 := 65) ⟨_, rfl⟩ (by decide) rfl hr8 (by decide) (fun hc => ?_) (fun hc => ?_)
      · have h := h.2 hc
        refine ax_mv 1 92 [some (.ref r), some (ax_i x1), some (ax_i x2)] [.ref r] rfl ?_
        refine ax_bip (pc' := 94) ⟨_, rfl⟩ (by decide) rfl ?_
        refine ax_callNC (pc' := 97) (hd := (32, 111, 114, 77, 13)) ⟨_, rfl⟩ ml_10_70 (rest := []) rfl (fun ss hs => ⟨_, _, (az_e 1 rfl) ss hs⟩) (Nat.le_of_ble_eq_true rfl) rfl rfl (ax_catR _ _) rfl h (fun V9 hg9 h => ?_)
        refine ax_mv 1 98 [some (.ref r), some (ax_i x1), some (ax_i x2)] [.ref r] rfl ?_
        refine ax_gR (v := .ref B) (pc' := 101) ⟨_, rfl⟩ fl_10_25 (az_e 1 rfl) rfl rfl ?_
        refine ax_mv 1 102 [some (.ref r), some (ax_i x1), some (ax_i x2)] [ax_i x1, .ref B] rfl ?_
        refine ax_callNC (pc' := 105) (hd := (32, 111, 114, 77, 13)) ⟨_, rfl⟩ ml_10_74 (rest := []) rfl (fun ss hs => ⟨_, _, (az_b 0 rfl) ss hs⟩) (Nat.le_of_ble_eq_true rfl) rfl rfl (ax_catR _ _) rfl h (fun V10 hg10 h => ?_)
        refine ax_inc (x := x1) (pc' := 108) (L' := [some (.ref r), some (ax_i (x1 + 1)), some (ax_i x2)]) ⟨_, rfl⟩ rfl rfl rfl rfl ?_
        refine ax_mv 1 9 [some (.ref r), some (ax_i (x1 + 1)), some (ax_i x2)] [] rfl ?_
        exact h
      · have h := h.1 (Classical.not_not.mp hc)
        refine ax_mv 1 66 [some (.ref r), some (ax_i x1), some (ax_i x2)] [.ref r] rfl ?_
        refine ax_callIC (pc' := 69) (hd := (32, 111, 114, 77, 13)) ⟨_, rfl⟩ ml_10_56 (rest := []) rfl (fun ss hs => ⟨_, _, (az_e 1 rfl) ss hs⟩) (Nat.le_of_ble_eq_true rfl) rfl rfl (ax_catR _ _) rfl h (fun r11 V11 hg11 hr11 h => ?_)
        refine ax_bip (pc' := 71) ⟨_, rfl⟩ (by decide) rfl ?_
        refine ax_if2 (p1 := 81) (p2 := 74) ⟨_, rfl⟩ (by decide) rfl hr11 (by decide) (fun hc => ?_) (fun hc => ?_)
        · have h := h.2 hc
          refine ax_mv 1 82 [some (.ref r), some (ax_i x1), some (ax_i x2)] [.ref r] rfl ?_
          refine ax_callNC (pc' := 85) (hd := (32, 111, 114, 77, 13)) ⟨_, rfl⟩ ml_10_67 (rest := []) rfl (fun ss hs => ⟨_, _, (az_e 1 rfl) ss hs⟩) (Nat.le_of_ble_eq_true rfl) rfl rfl (ax_catR _ _) rfl h (fun V12 hg12 h => ?_)
          refine ax_inc (x := x2) (pc' := 88) (L' := [some (.ref r), some (ax_i x1), some (ax_i (x2 + 1))]) ⟨_, rfl⟩ rfl rfl rfl rfl ?_
          refine ax_mv 1 39 [some (.ref r), some (ax_i x1), some (ax_i (x2 + 1))] [] rfl ?_
          exact h
        · have h := h.1 (Classical.not_not.mp hc)
          refine ax_mv 1 75 [some (.ref r), some (ax_i x1), some (ax_i x2)] [.ref r] rfl ?_
          refine ax_callNC (pc' := 78) (hd := (32, 111, 114, 77, 13)) ⟨_, rfl⟩ ml_10_64 (rest := []) rfl (fun ss hs => ⟨_, _, (az_e 1 rfl) ss hs⟩) (Nat.le_of_ble_eq_true rfl) rfl rfl (ax_catR _ _) rfl h (fun V13 hg13 h => ?_)
          refine ax_mv 1 85 [some (.ref r), some (ax_i x1), some (ax_i x2)] [] rfl ?_
          refine ax_inc (x := x2) (pc' := 88) (L' := [some (.ref r), some (ax_i x1), some (ax_i (x2 + 1))]) ⟨_, rfl⟩ rfl rfl rfl rfl ?_
          refine ax_mv 1 39 [some (.ref r), some (ax_i x1), some (ax_i (x2 + 1))] [] rfl ?_
          exact h
theorem r_Reader_read {B : Nat} {r : Nat} {d : Nat} {V : ax_V} {Φ : Int → ax_V → Prop} {Θ : ax_V → Prop} (hg : ax_g V) (h : ax_N (az_W B (az_ER B r)) d q_Program_clear [.ref B] V (fun V1 => k_Reader_read_9 B r d 0 none V1 Φ Θ) (fun _ => False)) : ax_C (az_W B (az_ER B r)) (d + 1) q_Reader_read [.ref r] V Φ Θ := by
  refine ax_C.of (M := m_Reader_read) rfl (Nat.le_of_ble_eq_true rfl) ?_
  refine ax_mv 0 0 [some (.ref r), none, none] [] rfl ?_
  refine ax_mv 1 1 [some (.ref r), none, none] [.ref r] rfl ?_
  refine ax_gR (v := .ref B) (pc' := 4) ⟨_, rfl⟩ fl_10_25 (az_e 1 rfl) rfl rfl ?_
  refine ax_callNF (pc' := 7) ⟨_, rfl⟩ ml_10_46 (rest := []) rfl (fun ss hs => ⟨_, _, (az_b 0 rfl) ss hs⟩) (Nat.le_of_ble_eq_true rfl) rfl h (fun V1 hg1 h => ?_)
  refine ax_mv 1 8 [some (.ref r), none, none] [ax_i 0] rfl ?_
  refine ax_sti (i := 0) (k := 1) (n := 1) (pc' := 9) (L' := [some (.ref r), some (ax_i 0), none]) ⟨_, rfl⟩ rfl rfl rfl (Nat.le_of_ble_eq_true rfl) rfl rfl ?_
  exact h
