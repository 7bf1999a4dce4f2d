/-! House.alike -/
section HAlike
variable {B Sp w nw w2 nw2 j d key : Nat} {m p : Value} {ss ss2 : List ax_S} {C0 M0 P V W N : ax_V} {F G Hh S U J Im : Int → Int} {k o i most : Int}
theorem y_same (h : y_L B Sp w nw m p ss) (hX : h_X C0 M0 P F G Hh S U J Im) (hP : ∀ c, 500 ≤ c → c ≤ 573 → V c = P c) (hg : ax_g V) (k0 : 0 ≤ k ∧ k < (M0 222 86)) (o0 : 0 ≤ o ∧ o < (M0 222 86)) : ∃ x, ax_rg x ∧ ((x = 1 ∧ p_so M0 k o) ∨ (x = 0 ∧ ¬ p_so M0 k o)) ∧ ai_Ex ai_P0 (d + 1) q_House_haveSameOutputs [.ref 0, ax_i k, ax_i o] (ax_w ss V) (some (ax_i x), ax_w ss V) := by
  have kk : ∀ c, 500 ≤ c → c ≤ 573 → y_v 0 V c = V c := fun c a b => y_v_k (by omega)
  obtain ⟨x, W, rx, gW, ⟨q, eW⟩, ex⟩ := h.I (d := d + 1) (j := 0) (key := q_House_haveSameOutputs) (vs := [.ref 0, ax_i k, ax_i o]) (Φ := fun x W => ((x = 1 ∧ p_so M0 k o) ∨ (x = 0 ∧ ¬ p_so M0 k o)) ∧ W = y_v 0 V) (by decide) hg (t_haveSame (d := d) hX (fun c a b => by rw [kk c a b]; exact hP c a b) (y_v_g hg) k0 o0 (fun z => ⟨Or.inl ⟨rfl, z⟩, rfl⟩) (fun z => ⟨Or.inr ⟨rfl, z⟩, rfl⟩))
  rw [eW, y_b_id hg] at ex
  exact ⟨x, rx, q, ex⟩
set_option maxHeartbeats 2000000 in
/-- House.alike -/
theorem t_alikeH (h : y_L B Sp w nw m p ss) (B150 : B + 74 ≤ 150) (hX : h_X C0 M0 P F G Hh S U J Im) (hP : ∀ c, 500 ≤ c → c ≤ 573 → V c = P c) (hg : ax_g V) (hc : V 500 0 = (M0 222 86)) (hU : ∀ m, 0 ≤ m → m < (M0 222 86) → V 513 m = J m ∧ V 514 m = U m) (hnw : nw ≤ 180000) (rk : ax_rg k) (ro : ax_rg o) (rm : ax_rg most) :
    ax_E ss (d + 29) q_House_alike [.ref 0, ax_i k, ax_i o, ax_i most] V (fun res z => (¬ p_al M0 U J k o most ∧ res = some (ax_i (-1)) ∧ z = ax_w ss V) ∨ (p_al M0 U J k o most ∧ ∃ (r f' l : Int) (wf : Int → Int), res = some (ax_i r) ∧ (r = 0 ∨ r = 1 ∨ r = 2) ∧ (0 ≤ l ∧ l ≤ 300) ∧ (0 ≤ f' ∧ f' ≤ 300) ∧ y_PO B Sp w nw ss V r f' l wf z ∧
      ∀ N, h_RM C0 M0 S U J Im N → ax_g N → ∀ (d : Nat) (Φ : Int → ax_V → Prop) (Θ : ax_V → Prop), (∀ W, p_NH N W → W 222 113 = 1 → W 222 115 = f' → W 222 120 = l → (∀ i, 0 ≤ i → i < l → W 312 i = wf i) → Φ r W) → ax_I ay_lay (d + 83) q_Model_search [.ref 222, ax_i k, ax_i 0, ax_i o, ax_i most] N Φ Θ)) := by
  have h0 := h.at 0 rfl
  have hN := hX.hS.2.1
  have kB : ss[B]? = (az_P B)[0]? := h.2.1 0 _ rfl
  refine ax_E.of (M := m_House_alike) rfl (Nat.le_of_ble_eq_true rfl) ?_
  obtain ⟨Q, eQ⟩ : ∃ Q : Option Value → List va_E → Prop, Q = (fun res z => (¬ p_al M0 U J k o most ∧ res = some (ax_i (-1)) ∧ z = ax_w ss V) ∨ (p_al M0 U J k o most ∧ ∃ (r f' l : Int) (wf : Int → Int), res = some (ax_i r) ∧ (r = 0 ∨ r = 1 ∨ r = 2) ∧ (0 ≤ l ∧ l ≤ 300) ∧ (0 ≤ f' ∧ f' ≤ 300) ∧ y_PO B Sp w nw ss V r f' l wf z ∧
      ∀ N, h_RM C0 M0 S U J Im N → ax_g N → ∀ (d : Nat) (Φ : Int → ax_V → Prop) (Θ : ax_V → Prop), (∀ W, p_NH N W → W 222 113 = 1 → W 222 115 = f' → W 222 120 = l → (∀ i, 0 ≤ i → i < l → W 312 i = wf i) → Φ r W) → ax_I ay_lay (d + 83) q_Model_search [.ref 222, ax_i k, ax_i 0, ax_i o, ax_i most] N Φ Θ)) := ⟨_, rfl⟩
  rw [← eQ]
  have out : ¬ p_al M0 U J k o most → Q (some (ax_i (-1))) (ax_w ss V) := fun z => by rw [eQ]; exact Or.inl ⟨z, rfl, rfl⟩
  have bad : ¬ p_al M0 U J k o most → ax_Q ss (d + 28) m_House_alike 28 [some (.ref 0), some (ax_i k), some (ax_i o), some (ax_i most)] [] V Q := fun z => by
    refine ax_Q.mv 1 29 [some (.ref 0), some (ax_i k), some (ax_i o), some (ax_i most)] [ax_i (-1)] rfl ?_
    exact ax_Q.iret ⟨_, rfl⟩ rfl rfl (out z)
  have bad2 : ¬ p_al M0 U J k o most → ax_Q ss (d + 28) m_House_alike 60 [some (.ref 0), some (ax_i k), some (ax_i o), some (ax_i most)] [] V Q := fun z => by
    refine ax_Q.mv 1 61 [some (.ref 0), some (ax_i k), some (ax_i o), some (ax_i most)] [ax_i (-1)] rfl ?_
    exact ax_Q.iret ⟨_, rfl⟩ rfl rfl (out z)
  show ax_Q ss (d + 28) m_House_alike 0 [some (.ref 0), some (ax_i k), some (ax_i o), some (ax_i most)] [] V Q
  obtain ⟨x, rx, hx, ex⟩ := y_can (d := d) (k := k) h hX hP hg hc hU rk
  refine ax_Q.mv 2 2 [some (.ref 0), some (ax_i k), some (ax_i o), some (ax_i most)] [ax_i k, .ref 0] rfl ?_
  refine ax_Q.callv (v := some (ax_i x)) (rest := []) (pc' := 5) ⟨_, rfl⟩ ml_11_212 rfl h0 (Nat.le_of_ble_eq_true rfl) (ai_nt_i _) rfl (ex.up (by omega)) ?_
  refine ax_Q.if1 (p1 := 28) (p2 := 8) ⟨_, rfl⟩ (by decide) rfl rx (fun hq => ?_) (fun hq => ?_)
  · have hq' : x = 0 := hq
    refine bad (fun z => ?_)
    rcases hx with ⟨e, _⟩ | ⟨_, e⟩
    · omega
    · exact e z.1
  have hq' : ¬ x = 0 := hq
  have cp : p_cp M0 U J k := by
    rcases hx with ⟨_, e⟩ | ⟨e, _⟩
    · exact e
    · omega
  have k0 := cp.1.1
  have k8 : 0 ≤ k ∧ k < 8 := ⟨k0.1, by omega⟩
  obtain ⟨x2, rx2, hx2, ex2⟩ := y_can (d := d) (k := o) h hX hP hg hc hU ro
  refine ax_Q.mv 2 10 [some (.ref 0), some (ax_i k), some (ax_i o), some (ax_i most)] [ax_i o, .ref 0] rfl ?_
  refine ax_Q.callv (v := some (ax_i x2)) (rest := []) (pc' := 13) ⟨_, rfl⟩ ml_11_212 rfl h0 (Nat.le_of_ble_eq_true rfl) (ai_nt_i _) rfl (ex2.up (by omega)) ?_
  refine ax_Q.if1 (p1 := 28) (p2 := 16) ⟨_, rfl⟩ (by decide) rfl rx2 (fun hq => ?_) (fun hq => ?_)
  · have hq' : x2 = 0 := hq
    refine bad (fun z => ?_)
    rcases hx2 with ⟨e, _⟩ | ⟨_, e⟩
    · omega
    · exact e z.2.1
  have hq2 : ¬ x2 = 0 := hq
  have cp2 : p_cp M0 U J o := by
    rcases hx2 with ⟨_, e⟩ | ⟨e, _⟩
    · exact e
    · omega
  have o0 := cp2.1.1
  have o8 : 0 ≤ o ∧ o < 8 := ⟨o0.1, by omega⟩
  refine ax_Q.mv 2 18 [some (.ref 0), some (ax_i k), some (ax_i o), some (ax_i most)] [ax_i 1, ax_i most] rfl ?_
  refine ax_Q.if2 (p1 := 28) (p2 := 21) ⟨_, rfl⟩ (by decide) rfl rm (by decide) (fun hq => ?_) (fun hq => ?_)
  · have hq1 : most < 1 := hq
    exact bad (fun z => by have := z.2.2.2.2; omega)
  have m1 : ¬ most < 1 := hq
  refine ax_Q.mv 1 22 [some (.ref 0), some (ax_i k), some (ax_i o), some (ax_i most)] [ax_i most] rfl ?_
  refine ax_Q.sip (n := 300) (pc' := 25) ⟨_, rfl⟩ (by decide) rfl ?_
  refine ax_Q.if2 (p1 := 30) (p2 := 28) ⟨_, rfl⟩ (by decide) rfl rm (by decide) (fun hq => ?_) (fun hq => ?_)
  rotate_left
  · have hq1 : ¬ most ≤ 300 := hq
    exact bad (fun z => by have := z.2.2.2.2; omega)
  have m2 : most ≤ 300 := hq
  obtain ⟨⟨e503, e504⟩, ⟨q1, q2, q3⟩, inp, outp⟩ := p_let hX hP k0
  obtain ⟨⟨f503, f504⟩, ⟨u1, u2, u3⟩, inp2, outp2⟩ := p_let hX hP o0
  refine ax_Q.mv 1 31 [some (.ref 0), some (ax_i k), some (ax_i o), some (ax_i most)] [.ref 0] rfl ?_
  refine ax_Q.gR (v := .ref B) (pc' := 34) ⟨_, rfl⟩ fl_11_16 h0 rfl rfl ?_
  refine ax_Q.gR (v := .ref (B + 3)) (pc' := 37) ⟨_, rfl⟩ fl_11_115 kB rfl rfl ?_
  refine ax_Q.mv 1 38 [some (.ref 0), some (ax_i k), some (ax_i o), some (ax_i most)] [ax_i k, .ref (B + 3)] rfl ?_
  refine ax_Q.ild (n := 8) (id := 503) (pc' := 39) ⟨_, rfl⟩ (h.2.1 3 _ rfl) (by decide) k8 rfl ?_
  rw [e503]
  refine ax_Q.mv 1 40 [some (.ref 0), some (ax_i k), some (ax_i o), some (ax_i most)] [.ref 0, ax_i (M0 227 k)] rfl ?_
  refine ax_Q.gR (v := .ref B) (pc' := 43) ⟨_, rfl⟩ fl_11_16 h0 rfl rfl ?_
  refine ax_Q.gR (v := .ref (B + 3)) (pc' := 46) ⟨_, rfl⟩ fl_11_115 kB rfl rfl ?_
  refine ax_Q.mv 1 47 [some (.ref 0), some (ax_i k), some (ax_i o), some (ax_i most)] [ax_i o, .ref (B + 3), ax_i (M0 227 k)] rfl ?_
  refine ax_Q.ild (n := 8) (id := 503) (pc' := 48) ⟨_, rfl⟩ (h.2.1 3 _ rfl) (by decide) o8 rfl ?_
  rw [f503]
  refine ax_Q.if2 (p1 := 60) (p2 := 51) ⟨_, rfl⟩ (by decide) rfl ⟨by omega, by omega⟩ ⟨by omega, by omega⟩ (fun hq => ?_) (fun hq => ?_)
  · have hq1 : ¬ M0 227 k = M0 227 o := hq
    exact bad2 (fun z => hq1 z.2.2.1)
  have ei : M0 227 k = M0 227 o := Classical.byContradiction fun z => hq z
  obtain ⟨x3, rx3, hx3, ex3⟩ := y_same (d := d) h hX hP hg k0 o0
  refine ax_Q.mv 3 54 [some (.ref 0), some (ax_i k), some (ax_i o), some (ax_i most)] [ax_i o, ax_i k, .ref 0] rfl ?_
  refine ax_Q.callv (v := some (ax_i x3)) (rest := []) (pc' := 57) ⟨_, rfl⟩ ml_11_222 rfl h0 (Nat.le_of_ble_eq_true rfl) (ai_nt_i _) rfl (ex3.up (by omega)) ?_
  refine ax_Q.if1 (p1 := 62) (p2 := 60) ⟨_, rfl⟩ (by decide) rfl rx3 (fun hq => ?_) (fun hq => ?_)
  rotate_left
  · have hq1 : ¬ ¬ x3 = 0 := hq
    refine bad2 (fun z => ?_)
    rcases hx3 with ⟨e, _⟩ | ⟨_, e⟩
    · omega
    · exact e z.2.2.2.1
  have hq3 : ¬ x3 = 0 := hq
  have so : p_so M0 k o := by
    rcases hx3 with ⟨_, e⟩ | ⟨e, _⟩
    · exact e
    · omega
  have al : p_al M0 U J k o most := ⟨cp, cp2, ei, so, by omega, m2⟩
  obtain ⟨ss1, V1, r, f', l, wf, w1, m3, p3, ex4, k157, k0', rr, hr, hl, hf', ⟨z, ex5, ss2, V2, es2, ez, po⟩, im⟩ := y_search (d := d) (most := most) (pv := -1) h B150 hX hP hg hU hnw al.ok ⟨by omega, m2⟩ (by decide) (fun z => by omega)
  refine ax_Q.mv 1 63 [some (.ref 0), some (ax_i k), some (ax_i o), some (ax_i most)] [.ref 0] rfl ?_
  refine ax_Q.gR (v := .ref 157) (pc' := 66) ⟨_, rfl⟩ fl_11_41 h0 rfl rfl ?_
  refine ax_Q.mv 1 67 [some (.ref 0), some (ax_i k), some (ax_i o), some (ax_i most)] [.ref 0, .ref 157] rfl ?_
  refine ax_Q.gR (v := .ref 150) (pc' := 70) ⟨_, rfl⟩ fl_11_28 h0 rfl rfl ?_
  refine ax_Q.mv 4 74 [some (.ref 0), some (ax_i k), some (ax_i o), some (ax_i most)] [ax_i most, ax_i (-1), ax_i o, ax_i k, .ref 150, .ref 157] rfl ?_
  refine ax_Q.callv (v := none) (rest := []) (pc' := 77) ⟨_, rfl⟩ ml_11_215 rfl (h.at 9 rfl) (Nat.le_of_ble_eq_true rfl) ai_nt_n rfl (ex4.up (by omega)) ?_
  refine ax_Q.mv 1 78 [some (.ref 0), some (ax_i k), some (ax_i o), some (ax_i most)] [.ref 0] rfl ?_
  refine ax_Q.gR (v := .ref 157) (pc' := 81) ⟨_, rfl⟩ fl_11_41 (k0'.trans h0) rfl rfl ?_
  rw [ez] at ex5
  refine ax_Q.callv (v := some (ax_i r)) (rest := []) (pc' := 84) ⟨_, rfl⟩ ml_11_218 rfl k157 (Nat.le_of_ble_eq_true rfl) (ai_nt_i _) rfl ex5 ?_
  refine ax_Q.iret ⟨_, rfl⟩ rfl rfl ?_
  rw [eQ]
  exact Or.inr ⟨al, r, f', l, wf, rfl, hr, hl, hf', by rw [← ez]; exact po, im⟩
end HAlike
