/-! House.out, House.flow -/
/-- a NoSuchElementException -/
def y_ex : ax_S := .inl (.inr (14, List.replicate 6 .null))
section GrowY
variable {ss : List ax_S} {d : Nat} {M : ai_M} {pc pc' : Nat} {L L' : List (Option Value)} {st st' : List Value} {V V1 : ax_V} {Q Q' : Option Value → List va_E → Prop}
theorem ax_Q.ald {a j : Nat} {i : Int} (hf : ai_In M pc .aaload) (hs : ss[a]? = some (.inl y_A)) (h0 : 0 ≤ i ∧ i < 8) (hj : i.toNat = j) (hp : pc + 1 = pc') (h : ax_Q ss d M pc' L (.ref (166 + 7 * j) :: st) V Q) : ax_Q ss d M pc L (ax_i i :: .ref a :: st) V Q := by
  subst hp hj
  refine ax_Q.go (fun r hr => ?_) h
  refine ai_Rn.world hf rfl ?_ hr
  have e : (ax_w ss V)[a]? = some (.inl (4, 8, .inr (.inr (.inr (.inr y_f1))))) := ax_w_get hs
  have hin : vp_in (Int32.ofInt i) 8 := ax_in (n := 8) h0 (by decide)
  show ai_aald 4 pc (.int (Int32.ofInt i) :: .ref a :: st) (ax_w ss V) = _
  unfold ai_aald
  simp only [e]
  rw [if_pos ⟨trivial, hin⟩]
  have e2 : (((Int32.ofInt i).toNatClampNeg : Nat) : Int) = i := ax_idx (n := 8) h0 (by decide)
  have e3 : (Int32.ofInt i).toNatClampNeg = i.toNat := by omega
  rw [e3, y_f1_j (by omega)]
  rfl
theorem ax_Q.bld {a id n : Nat} {i : Int} (hf : ai_In M pc .baload) (hs : ss[a]? = some (.inr (id, .inl (1, n)))) (hn : n ≤ 2147483647) (hi : 0 ≤ i ∧ i < (n : Int)) (hp : pc + 1 = pc') (h : ax_Q ss d M pc' L (ax_i (V id i) :: st) V Q) : ax_Q ss d M pc L (ax_i i :: .ref a :: st) V Q := by
  subst hp
  refine ax_Q.go (fun r hr => ?_) h
  refine ai_Rn.bald hf (ax_w_get hs) (ax_in hi hn) ?_
  show ai_Rn none ai_P0 d M (pc + 1, L, .int (Int32.ofInt (V id (((Int32.ofInt i).toNatClampNeg : Nat) : Int))) :: st, ax_w ss V) r
  rw [ax_idx hi hn]
  exact hr
theorem ax_Q.cst {a id n : Nat} {i x : Int} (hf : ai_In M pc .castore) (hok : ax_ok ss) (hs : ss[a]? = some (.inr (id, .inl (2, n)))) (hn : n ≤ 2147483647) (hi : 0 ≤ i ∧ i < (n : Int)) (hx : vp_nar .char (Int32.ofInt x) = Int32.ofInt x) (hV : V1 = ax_u V id i x) (hp : pc + 1 = pc') (h : ax_Q ss d M pc' L st V1 Q) : ax_Q ss d M pc L (ax_i x :: ax_i i :: .ref a :: st) V Q := by
  subst hp hV
  refine ax_Q.go (fun r hr => ?_) h
  refine ai_Rn.cast hf (ax_w_get hs) (ax_in hi hn) ?_
  rw [hx, ax_upd (V := V) (id := id) (x := x) hi.1 (by omega)]
  have e2 : (ax_w ss V).set a (.inl (2, n, .inl (fun j : Nat => Int32.ofInt (ax_u V id i x id (j : Int))))) = ax_w ss (ax_u V id i x) := ax_w_set (V := V) (V' := ax_u V id i x) hok hs (fun c hc => ax_u_ne hc)
  rw [e2]
  exact hr
end GrowY
section HOut
variable {B Sp w nw d : Nat} {m p : Value} {ss : List ax_S} {C0 M0 V : ax_V} {n x i : Int}
theorem y_made (h : y_L B Sp w nw m p ss) (hg : ax_g V) (rx : ax_rg x) : ∃ r, ax_rg r ∧ (r = if 0 ≤ x ∧ x < V 0 8 then 1 else 0) ∧ ai_Ex ai_P0 (d + 1) q_House_isMade [.ref 0, ax_i x] (ax_w ss V) (some (ax_i r), ax_w ss V) := by
  obtain ⟨r, W, rr, gW, ⟨q, eW⟩, ex⟩ := h.I (d := d + 1) (j := 0) (key := q_House_isMade) (vs := [.ref 0, ax_i x]) (Φ := fun r W => (r = if 0 ≤ x ∧ x < V 0 8 then 1 else 0) ∧ W = y_v 0 V) (by decide) hg (t_isMade (d := d) (y_v_g hg) rx ⟨by rw [y_v_k (by decide)], rfl⟩)
  rw [eW, y_b_id hg] at ex
  exact ⟨r, rr, q, ex⟩
set_option maxHeartbeats 2000000 in
/-- House.out -/
theorem t_outH (h : y_L B Sp w nw m p ss) (hS : (0 ≤ x ∧ x < V 0 8) → g_S C0 M0) (hP : (0 ≤ x ∧ x < V 0 8) → ∀ c, 500 ≤ c → c ≤ 573 → c ∉ g_XP → V c = C0 c) (hg : ax_g V) (rx : ax_rg x) (ri : ax_rg i) (hm : V 0 8 ≤ 8) (en : (0 ≤ x ∧ x < V 0 8) → V (900 + 7 * x.toNat) 0 = n ∧ 0 ≤ n ∧ n < (M0 222 86)) :
    ax_E ss (d + 2) q_House_out [.ref 0, ax_i x, ax_i i] V (fun res z => (((0 ≤ x ∧ x < V 0 8) ∧ ¬ V (900 + 7 * x.toNat) 2 = 0 ∧ 0 ≤ i ∧ i < M0 228 n) ∧ res = some (ax_i (V (903 + 7 * x.toNat) (M0 231 (26 * n + i)))) ∧ z = ax_w ss V) ∨ (¬ ((0 ≤ x ∧ x < V 0 8) ∧ ¬ V (900 + 7 * x.toNat) 2 = 0 ∧ 0 ≤ i ∧ i < M0 228 n) ∧ res = some (.retAddr ss.length) ∧ z = ax_w (ss ++ [y_ex]) V)) := by
  obtain ⟨Q, eQ⟩ : ∃ Q : Option Value → List va_E → Prop, Q = (fun res z => (((0 ≤ x ∧ x < V 0 8) ∧ ¬ V (900 + 7 * x.toNat) 2 = 0 ∧ 0 ≤ i ∧ i < M0 228 n) ∧ res = some (ax_i (V (903 + 7 * x.toNat) (M0 231 (26 * n + i)))) ∧ z = ax_w ss V) ∨ (¬ ((0 ≤ x ∧ x < V 0 8) ∧ ¬ V (900 + 7 * x.toNat) 2 = 0 ∧ 0 ≤ i ∧ i < M0 228 n) ∧ res = some (.retAddr ss.length) ∧ z = ax_w (ss ++ [y_ex]) V)) := ⟨_, rfl⟩
  rw [← eQ]
  have h0 := h.at 0 rfl
  have hA : ss[156]? = some (.inl y_A) := h.at 2 rfl
  have kB : ss[B]? = (az_P B)[0]? := h.2.1 0 _ rfl
  refine ax_E.of (M := m_House_out) rfl (Nat.le_of_ble_eq_true rfl) ?_
  show ax_Q ss (d + 1) m_House_out 0 [some (.ref 0), some (ax_i x), some (ax_i i), none] [] V Q
  have bad : ¬ ((0 ≤ x ∧ x < V 0 8) ∧ ¬ V (900 + 7 * x.toNat) 2 = 0 ∧ 0 ≤ i ∧ i < M0 228 n) → ax_Q ss (d + 1) m_House_out 45 [some (.ref 0), some (ax_i x), some (ax_i i), none] [] V Q := fun z => by
    refine ax_Q.thr ⟨_, rfl⟩ rfl rfl rfl (Nat.le_of_ble_eq_true rfl) ?_
    rw [eQ]
    exact Or.inr ⟨z, rfl, rfl⟩
  obtain ⟨r, rr, er, ex⟩ := y_made (d := d) h hg rx
  refine ax_Q.mv 2 2 [some (.ref 0), some (ax_i x), some (ax_i i), none] [ax_i x, .ref 0] rfl ?_
  refine ax_Q.callv (v := some (ax_i r)) (rest := []) (pc' := 5) ⟨_, rfl⟩ ml_11_136 rfl h0 (Nat.le_of_ble_eq_true rfl) (ai_nt_i _) rfl ex ?_
  refine ax_Q.if1 (p1 := 45) (p2 := 8) ⟨_, rfl⟩ (by decide) rfl rr (fun hq => ?_) (fun hq => ?_)
  · have hq1 : r = 0 := hq
    refine bad (fun z => ?_)
    rw [if_pos z.1] at er
    omega
  have hq1 : ¬ r = 0 := hq
  by_cases md : 0 ≤ x ∧ x < V 0 8
  rotate_left
  · rw [if_neg md] at er; exact absurd er hq1
  obtain ⟨e0, n0, n1⟩ := en md
  have hS := hS md
  have hP := hP md
  have hN := hS.2.1
  have x8 : 0 ≤ x ∧ x < 8 := ⟨md.1, by omega⟩
  have j8 : x.toNat < 8 := by omega
  have J := h.2.2.2.1 x.toNat
  obtain ⟨jn, ej⟩ : ∃ jn : Nat, jn = x.toNat := ⟨_, rfl⟩
  rw [← ej] at e0 J j8
  have J0 := J 0 _ j8 rfl
  refine ax_Q.mv 1 9 [some (.ref 0), some (ax_i x), some (ax_i i), none] [.ref 0] rfl ?_
  refine ax_Q.gR (v := .ref 156) (pc' := 12) ⟨_, rfl⟩ fl_11_34 h0 rfl rfl ?_
  refine ax_Q.mv 1 13 [some (.ref 0), some (ax_i x), some (ax_i i), none] [ax_i x, .ref 156] rfl ?_
  refine ax_Q.ald (j := jn) (pc' := 14) ⟨_, rfl⟩ hA x8 ej.symm rfl ?_
  refine ax_Q.gI (kI := 2) (pc' := 17) ⟨_, rfl⟩ fl_11_169 J0 rfl rfl rfl ?_
  refine ax_Q.if1 (p1 := 45) (p2 := 20) ⟨_, rfl⟩ (by decide) rfl (hg _ _) (fun hq => ?_) (fun hq => ?_)
  · have hq2 : V (900 + 7 * jn) 2 = 0 := hq
    exact bad (fun z => z.2.1 (by rw [← ej]; exact hq2))
  have hq2 : ¬ V (900 + 7 * jn) 2 = 0 := hq
  refine ax_Q.mv 1 21 [some (.ref 0), some (ax_i x), some (ax_i i), none] [ax_i i] rfl ?_
  refine ax_Q.if1 (p1 := 45) (p2 := 24) ⟨_, rfl⟩ (by decide) rfl ri (fun hq => ?_) (fun hq => ?_)
  · have hq3 : i < 0 := hq
    exact bad (fun z => by have := z.2.2.1; omega)
  have hq3 : ¬ i < 0 := hq
  have fl := hS.fl n0 n1
  have b26 := (f_cn_le M0 n 26).2
  have q1 := fl.2.2.2.1
  have q2 := fl.2.1.2
  have q3 := fl.2.2.1.2
  have q4 := fl.1.2
  have n8 : 0 ≤ n ∧ n < 8 := ⟨n0, by omega⟩
  refine ax_Q.mv 2 26 [some (.ref 0), some (ax_i x), some (ax_i i), none] [.ref 0, ax_i i] rfl ?_
  refine ax_Q.gR (v := .ref B) (pc' := 29) ⟨_, rfl⟩ fl_11_16 h0 rfl rfl ?_
  refine ax_Q.gR (v := .ref (B + 4)) (pc' := 32) ⟨_, rfl⟩ fl_11_118 kB rfl rfl ?_
  refine ax_Q.mv 1 33 [some (.ref 0), some (ax_i x), some (ax_i i), none] [.ref 0, .ref (B + 4), ax_i i] rfl ?_
  refine ax_Q.gR (v := .ref 156) (pc' := 36) ⟨_, rfl⟩ fl_11_34 h0 rfl rfl ?_
  refine ax_Q.mv 1 37 [some (.ref 0), some (ax_i x), some (ax_i i), none] [ax_i x, .ref 156, .ref (B + 4), ax_i i] rfl ?_
  refine ax_Q.ald (j := jn) (pc' := 38) ⟨_, rfl⟩ hA x8 ej.symm rfl ?_
  refine ax_Q.gI (kI := 0) (pc' := 41) ⟨_, rfl⟩ fl_11_139 J0 rfl rfl rfl ?_
  rw [e0]
  refine ax_Q.ild (n := 8) (id := 504) (pc' := 42) ⟨_, rfl⟩ (h.2.1 4 _ rfl) (by decide) n8 rfl ?_
  rw [hP 504 (by decide) (by decide) (by decide), show C0 504 n = M0 228 n from fl.2.1.1]
  refine ax_Q.if2 (p1 := 55) (p2 := 45) ⟨_, rfl⟩ (by decide) rfl ri ⟨by omega, by omega⟩ (fun hq => ?_) (fun hq => ?_)
  rotate_left
  · have hq4 : ¬ i < M0 228 n := hq
    exact bad (fun z => by have := z.2.2.2; omega)
  have hq4 : i < M0 228 n := hq
  have op := fl.2.2.2.2.2.1 i (by omega) hq4
  have o26 := op.2.1
  refine ax_Q.mv 1 56 [some (.ref 0), some (ax_i x), some (ax_i i), none] [.ref 0] rfl ?_
  refine ax_Q.gR (v := .ref 156) (pc' := 59) ⟨_, rfl⟩ fl_11_34 h0 rfl rfl ?_
  refine ax_Q.mv 1 60 [some (.ref 0), some (ax_i x), some (ax_i i), none] [ax_i x, .ref 156] rfl ?_
  refine ax_Q.ald (j := jn) (pc' := 61) ⟨_, rfl⟩ hA x8 ej.symm rfl ?_
  refine ax_Q.gI (kI := 0) (pc' := 64) ⟨_, rfl⟩ fl_11_139 J0 rfl rfl rfl ?_
  rw [e0]
  refine ax_Q.sti (k := 3) (n := 1) (L' := [some (.ref 0), some (ax_i x), some (ax_i i), some (ax_i n)]) (pc' := 65) ⟨_, rfl⟩ rfl rfl rfl (Nat.le_of_ble_eq_true rfl) rfl rfl ?_
  refine ax_Q.mv 1 66 [some (.ref 0), some (ax_i x), some (ax_i i), some (ax_i n)] [.ref 0] rfl ?_
  refine ax_Q.gR (v := .ref 156) (pc' := 69) ⟨_, rfl⟩ fl_11_34 h0 rfl rfl ?_
  refine ax_Q.mv 1 70 [some (.ref 0), some (ax_i x), some (ax_i i), some (ax_i n)] [ax_i x, .ref 156] rfl ?_
  refine ax_Q.ald (j := jn) (pc' := 71) ⟨_, rfl⟩ hA x8 ej.symm rfl ?_
  refine ax_Q.gR (v := .ref (166 + 7 * jn + 3)) (pc' := 74) ⟨_, rfl⟩ fl_11_178 J0 rfl rfl ?_
  refine ax_Q.mv 1 75 [some (.ref 0), some (ax_i x), some (ax_i i), some (ax_i n)] [.ref 0, .ref (166 + 7 * jn + 3)] rfl ?_
  refine ax_Q.gR (v := .ref B) (pc' := 78) ⟨_, rfl⟩ fl_11_16 h0 rfl rfl ?_
  refine ax_Q.gR (v := .ref (B + 7)) (pc' := 81) ⟨_, rfl⟩ fl_11_181 kB rfl rfl ?_
  refine ax_Q.mv 1 82 [some (.ref 0), some (ax_i x), some (ax_i i), some (ax_i n)] [ax_i n, .ref (B + 7), .ref (166 + 7 * jn + 3)] rfl ?_
  refine ax_Q.bip (n := 26) (pc' := 84) ⟨_, rfl⟩ (by decide) rfl ?_
  refine ax_Q.mul (pc' := 85) ⟨_, rfl⟩ rfl ?_
  refine ax_Q.mv 1 86 [some (.ref 0), some (ax_i x), some (ax_i i), some (ax_i n)] [ax_i i, ax_i (n * 26), .ref (B + 7), .ref (166 + 7 * jn + 3)] rfl ?_
  refine ax_Q.add (pc' := 87) ⟨_, rfl⟩ rfl ?_
  refine ax_Q.ild (n := 208) (id := 507) (pc' := 88) ⟨_, rfl⟩ (h.2.1 7 _ rfl) (by decide) ⟨by omega, by omega⟩ rfl ?_
  rw [hP 507 (by decide) (by decide) (by decide), show n * 26 + i = 26 * n + i by omega, show C0 507 (26 * n + i) = 26 * n + M0 231 (26 * n + i) from op.1]
  refine ax_Q.mv 1 89 [some (.ref 0), some (ax_i x), some (ax_i i), some (ax_i n)] [ax_i n, ax_i (26 * n + M0 231 (26 * n + i)), .ref (166 + 7 * jn + 3)] rfl ?_
  refine ax_Q.bip (n := 26) (pc' := 91) ⟨_, rfl⟩ (by decide) rfl ?_
  refine ax_Q.mul (pc' := 92) ⟨_, rfl⟩ rfl ?_
  refine ax_Q.sub (pc' := 93) ⟨_, rfl⟩ rfl ?_
  rw [show 26 * n + M0 231 (26 * n + i) - n * 26 = M0 231 (26 * n + i) by omega]
  refine ax_Q.ild (n := 26) (id := 903 + 7 * jn) (pc' := 94) ⟨_, rfl⟩ (J 3 _ j8 rfl) (by decide) ⟨o26.1, o26.2⟩ rfl ?_
  refine ax_Q.iret ⟨_, rfl⟩ rfl rfl ?_
  rw [eQ]
  rw [← ej]
  exact Or.inl ⟨⟨md, hq2, by omega, hq4⟩, rfl, rfl⟩
set_option maxHeartbeats 2000000 in
/-- House.flow -/
theorem t_flowH (h : y_L B Sp w nw m p ss) (hg : ax_g V) (rx : ax_rg x) (ri : ax_rg i) (hm : V 0 8 ≤ 8) :
    ax_E ss (d + 2) q_House_flow [.ref 0, ax_i x, ax_i i] V (fun res z => (((0 ≤ x ∧ x < V 0 8) ∧ ¬ V (900 + 7 * x.toNat) 2 = 0 ∧ (97 ≤ i ∧ i ≤ 122) ∧ ¬ V (904 + 7 * x.toNat) (i - 97) = 0) ∧ res = some (ax_i (V (903 + 7 * x.toNat) (i - 97))) ∧ z = ax_w ss V) ∨ (¬ ((0 ≤ x ∧ x < V 0 8) ∧ ¬ V (900 + 7 * x.toNat) 2 = 0 ∧ (97 ≤ i ∧ i ≤ 122) ∧ ¬ V (904 + 7 * x.toNat) (i - 97) = 0) ∧ res = some (.retAddr ss.length) ∧ z = ax_w (ss ++ [y_ex]) V)) := by
  obtain ⟨Q, eQ⟩ : ∃ Q : Option Value → List va_E → Prop, Q = (fun res z => (((0 ≤ x ∧ x < V 0 8) ∧ ¬ V (900 + 7 * x.toNat) 2 = 0 ∧ (97 ≤ i ∧ i ≤ 122) ∧ ¬ V (904 + 7 * x.toNat) (i - 97) = 0) ∧ res = some (ax_i (V (903 + 7 * x.toNat) (i - 97))) ∧ z = ax_w ss V) ∨ (¬ ((0 ≤ x ∧ x < V 0 8) ∧ ¬ V (900 + 7 * x.toNat) 2 = 0 ∧ (97 ≤ i ∧ i ≤ 122) ∧ ¬ V (904 + 7 * x.toNat) (i - 97) = 0) ∧ res = some (.retAddr ss.length) ∧ z = ax_w (ss ++ [y_ex]) V)) := ⟨_, rfl⟩
  rw [← eQ]
  have h0 := h.at 0 rfl
  have hA : ss[156]? = some (.inl y_A) := h.at 2 rfl
  refine ax_E.of (M := m_House_flow) rfl (Nat.le_of_ble_eq_true rfl) ?_
  show ax_Q ss (d + 1) m_House_flow 0 [some (.ref 0), some (ax_i x), some (ax_i i)] [] V Q
  have bad : ¬ ((0 ≤ x ∧ x < V 0 8) ∧ ¬ V (900 + 7 * x.toNat) 2 = 0 ∧ (97 ≤ i ∧ i ≤ 122) ∧ ¬ V (904 + 7 * x.toNat) (i - 97) = 0) → ax_Q ss (d + 1) m_House_flow 49 [some (.ref 0), some (ax_i x), some (ax_i i)] [] V Q := fun z => by
    refine ax_Q.thr ⟨_, rfl⟩ rfl rfl rfl (Nat.le_of_ble_eq_true rfl) ?_
    rw [eQ]
    exact Or.inr ⟨z, rfl, rfl⟩
  obtain ⟨r, rr, er, ex⟩ := y_made (d := d) h hg rx
  refine ax_Q.mv 2 2 [some (.ref 0), some (ax_i x), some (ax_i i)] [ax_i x, .ref 0] rfl ?_
  refine ax_Q.callv (v := some (ax_i r)) (rest := []) (pc' := 5) ⟨_, rfl⟩ ml_11_136 rfl h0 (Nat.le_of_ble_eq_true rfl) (ai_nt_i _) rfl ex ?_
  refine ax_Q.if1 (p1 := 49) (p2 := 8) ⟨_, rfl⟩ (by decide) rfl rr (fun hq => ?_) (fun hq => ?_)
  · have hq1 : r = 0 := hq
    refine bad (fun z => ?_)
    rw [if_pos z.1] at er
    omega
  have hq1 : ¬ r = 0 := hq
  by_cases md : 0 ≤ x ∧ x < V 0 8
  rotate_left
  · rw [if_neg md] at er; exact absurd er hq1
  have x8 : 0 ≤ x ∧ x < 8 := ⟨md.1, by omega⟩
  have j8 : x.toNat < 8 := by omega
  have J := h.2.2.2.1 x.toNat
  obtain ⟨jn, ej⟩ : ∃ jn : Nat, jn = x.toNat := ⟨_, rfl⟩
  rw [← ej] at J j8
  have J0 := J 0 _ j8 rfl
  refine ax_Q.mv 1 9 [some (.ref 0), some (ax_i x), some (ax_i i)] [ax_i i] rfl ?_
  refine ax_Q.bip (n := 97) (pc' := 11) ⟨_, rfl⟩ (by decide) rfl ?_
  refine ax_Q.if2 (p1 := 49) (p2 := 14) ⟨_, rfl⟩ (by decide) rfl ri (by decide) (fun hq => ?_) (fun hq => ?_)
  · have hq2 : i < 97 := hq
    exact bad (fun z => by have := z.2.2.1; omega)
  have i1 : ¬ i < 97 := hq
  refine ax_Q.mv 1 15 [some (.ref 0), some (ax_i x), some (ax_i i)] [ax_i i] rfl ?_
  refine ax_Q.bip (n := 122) (pc' := 17) ⟨_, rfl⟩ (by decide) rfl ?_
  refine ax_Q.if2 (p1 := 49) (p2 := 20) ⟨_, rfl⟩ (by decide) rfl ri (by decide) (fun hq => ?_) (fun hq => ?_)
  · have hq2 : 122 < i := hq
    exact bad (fun z => by have := z.2.2.1; omega)
  have i2 : ¬ 122 < i := hq
  refine ax_Q.mv 1 21 [some (.ref 0), some (ax_i x), some (ax_i i)] [.ref 0] rfl ?_
  refine ax_Q.gR (v := .ref 156) (pc' := 24) ⟨_, rfl⟩ fl_11_34 h0 rfl rfl ?_
  refine ax_Q.mv 1 25 [some (.ref 0), some (ax_i x), some (ax_i i)] [ax_i x, .ref 156] rfl ?_
  refine ax_Q.ald (j := jn) (pc' := 26) ⟨_, rfl⟩ hA x8 ej.symm rfl ?_
  refine ax_Q.gI (kI := 2) (pc' := 29) ⟨_, rfl⟩ fl_11_169 J0 rfl rfl rfl ?_
  refine ax_Q.if1 (p1 := 49) (p2 := 32) ⟨_, rfl⟩ (by decide) rfl (hg _ _) (fun hq => ?_) (fun hq => ?_)
  · have hq2 : V (900 + 7 * jn) 2 = 0 := hq
    exact bad (fun z => z.2.1 (by rw [← ej]; exact hq2))
  have hq2 : ¬ V (900 + 7 * jn) 2 = 0 := hq
  refine ax_Q.mv 1 33 [some (.ref 0), some (ax_i x), some (ax_i i)] [.ref 0] rfl ?_
  refine ax_Q.gR (v := .ref 156) (pc' := 36) ⟨_, rfl⟩ fl_11_34 h0 rfl rfl ?_
  refine ax_Q.mv 1 37 [some (.ref 0), some (ax_i x), some (ax_i i)] [ax_i x, .ref 156] rfl ?_
  refine ax_Q.ald (j := jn) (pc' := 38) ⟨_, rfl⟩ hA x8 ej.symm rfl ?_
  refine ax_Q.gR (v := .ref (166 + 7 * jn + 4)) (pc' := 41) ⟨_, rfl⟩ fl_11_184 J0 rfl rfl ?_
  refine ax_Q.mv 1 42 [some (.ref 0), some (ax_i x), some (ax_i i)] [ax_i i, .ref (166 + 7 * jn + 4)] rfl ?_
  refine ax_Q.bip (n := 97) (pc' := 44) ⟨_, rfl⟩ (by decide) rfl ?_
  refine ax_Q.sub (pc' := 45) ⟨_, rfl⟩ rfl ?_
  refine ax_Q.bld (n := 26) (id := 904 + 7 * jn) (pc' := 46) ⟨_, rfl⟩ (J 4 _ j8 rfl) (by decide) ⟨by omega, by omega⟩ rfl ?_
  refine ax_Q.if1 (p1 := 59) (p2 := 49) ⟨_, rfl⟩ (by decide) rfl (hg _ _) (fun hq => ?_) (fun hq => ?_)
  rotate_left
  · have hq3 : ¬ ¬ V (904 + 7 * jn) (i - 97) = 0 := hq
    exact bad (fun z => hq3 (by rw [ej]; exact z.2.2.2))
  have hq3 : ¬ V (904 + 7 * jn) (i - 97) = 0 := hq
  refine ax_Q.mv 1 60 [some (.ref 0), some (ax_i x), some (ax_i i)] [.ref 0] rfl ?_
  refine ax_Q.gR (v := .ref 156) (pc' := 63) ⟨_, rfl⟩ fl_11_34 h0 rfl rfl ?_
  refine ax_Q.mv 1 64 [some (.ref 0), some (ax_i x), some (ax_i i)] [ax_i x, .ref 156] rfl ?_
  refine ax_Q.ald (j := jn) (pc' := 65) ⟨_, rfl⟩ hA x8 ej.symm rfl ?_
  refine ax_Q.gR (v := .ref (166 + 7 * jn + 3)) (pc' := 68) ⟨_, rfl⟩ fl_11_178 J0 rfl rfl ?_
  refine ax_Q.mv 1 69 [some (.ref 0), some (ax_i x), some (ax_i i)] [ax_i i, .ref (166 + 7 * jn + 3)] rfl ?_
  refine ax_Q.bip (n := 97) (pc' := 71) ⟨_, rfl⟩ (by decide) rfl ?_
  refine ax_Q.sub (pc' := 72) ⟨_, rfl⟩ rfl ?_
  refine ax_Q.ild (n := 26) (id := 903 + 7 * jn) (pc' := 73) ⟨_, rfl⟩ (J 3 _ j8 rfl) (by decide) ⟨by omega, by omega⟩ rfl ?_
  refine ax_Q.iret ⟨_, rfl⟩ rfl rfl ?_
  rw [eQ]
  rw [← ej]
  exact Or.inl ⟨⟨md, hq2, ⟨by omega, by omega⟩, hq3⟩, rfl, rfl⟩
end HOut
