/-! CALLS THAT ONLY TELL: total, fault, node, ticks, run, state; what is not made -/
section NotMade
variable {B q d : Nat} {Sp : az_H} {Jx : Int} {V : ax_V} {x i v : Int} {Φ : Int → ax_V → Prop} {Θ : ax_V → Prop}
theorem t_stateN (hg : ax_g V) (rx : ax_rg x) (ri : ax_rg i) (hm : ¬ (0 ≤ x ∧ x < V 0 8)) (h : Φ (-1) V) : ax_I (az_W B (az_EH B Sp q Jx)) (d + 2) q_House_state [.ref 0, ax_i x, ax_i i] V Φ Θ := r_House_state hg rx ri (t_isMade (d := d) hg rx (by rw [if_neg hm]; exact ⟨fun _ => h, fun y => absurd rfl y⟩))
theorem t_putN (hg : ax_g V) (rx : ax_rg x) (ri : ax_rg i) (rv : ax_rg v) (hm : ¬ (0 ≤ x ∧ x < V 0 8)) (h : Φ 0 V) : ax_I (az_W B (az_EH B Sp q Jx)) (d + 2) q_House_put [.ref 0, ax_i x, ax_i i, ax_i v] V Φ Θ := r_House_put hg rx ri rv (t_isMade (d := d) hg rx (by rw [if_neg hm]; exact ⟨fun _ => h, fun y => absurd rfl y⟩))
theorem t_tickN (hg : ax_g V) (rx : ax_rg x) (hm : ¬ (0 ≤ x ∧ x < V 0 8)) (h : Φ (-1) V) : ax_I (az_W B (az_EH B Sp q Jx)) (d + 2) q_House_tick [.ref 0, ax_i x] V Φ Θ := r_House_tick hg rx (t_isMade (d := d) hg rx (by rw [if_neg hm]; exact ⟨fun _ => h, fun y => absurd rfl y⟩))
theorem s_stateN (hg : ax_g V) (rx : ax_rg x) (ri : ax_rg i) (hi : 0 ≤ V 222 102 ∧ V 222 102 ≤ 8) (hm : ¬ (0 ≤ x ∧ x < V 222 102)) (h : ∀ W, W = ax_u V 222 0 0 → Φ (-1) W) : ax_I ay_lay (d + 3) q_Model_state [.ref 222, ax_i x, ax_i i] V Φ Θ := by
  refine r_Model_state (d := d + 2) hg rx ri (fun V1 e1 => ?_)
  have s1 : V1 222 102 = V 222 102 := by rw [e1]; exact ax_u_k (by decide)
  exact s_isInstance (d := d) (by rw [e1]; exact ax_u_g hg (by decide)) rx (by rw [s1]; exact hi) (by rw [s1, if_neg hm]; exact ⟨fun _ => h V1 e1, fun y => absurd rfl y⟩)
theorem s_putN (hg : ax_g V) (rx : ax_rg x) (ri : ax_rg i) (rv : ax_rg v) (hi : 0 ≤ V 222 102 ∧ V 222 102 ≤ 8) (hm : ¬ (0 ≤ x ∧ x < V 222 102)) (h : ∀ W, W = ax_u V 222 0 0 → Φ 0 W) : ax_I ay_lay (d + 3) q_Model_put [.ref 222, ax_i x, ax_i i, ax_i v] V Φ Θ := by
  refine r_Model_put (d := d + 2) hg rx ri rv (fun V1 e1 => ?_)
  have s1 : V1 222 102 = V 222 102 := by rw [e1]; exact ax_u_k (by decide)
  exact s_isInstance (d := d) (by rw [e1]; exact ax_u_g hg (by decide)) rx (by rw [s1]; exact hi) (by rw [s1, if_neg hm]; exact ⟨fun _ => h V1 e1, fun y => absurd rfl y⟩)
theorem s_tickN (hg : ax_g V) (rx : ax_rg x) (hi : 0 ≤ V 222 102 ∧ V 222 102 ≤ 8) (hm : ¬ (0 ≤ x ∧ x < V 222 102)) (h : ∀ W, W = ax_u V 222 0 0 → Φ (-1) W) : ax_I ay_lay (d + 3) q_Model_tick [.ref 222, ax_i x] V Φ Θ := by
  refine r_Model_tick (d := d + 2) hg rx (fun V1 e1 => ?_)
  have s1 : V1 222 102 = V 222 102 := by rw [e1]; exact ax_u_k (by decide)
  exact s_isInstance (d := d) (by rw [e1]; exact ax_u_g hg (by decide)) rx (by rw [s1]; exact hi) (by rw [s1, if_neg hm]; exact ⟨fun _ => h V1 e1, fun y => absurd rfl y⟩)
end NotMade
/-- the instance that x means -/
def y_jx (x : Int) : Nat := if 0 ≤ x ∧ x < 8 then x.toNat else 0
theorem y_jx_lt (x : Int) : y_jx x < 8 := by
  unfold y_jx
  split <;> omega
theorem y_jx_e {x : Int} (h : 0 ≤ x ∧ x < 8) : ((y_jx x : Nat) : Int) = x := by
  unfold y_jx
  rw [if_pos h]
  omega
section Tell
variable {B Sp w nw : Nat} {m p : Value} {ss : List ax_S} {C N : ax_V} {T T' x k i : Int}
theorem y_RL.gC (h : y_RL B Sp nw ss C N T) : ax_g C := h.2.2.1.1
theorem y_RL.gN (h : y_RL B Sp nw ss C N T) : ax_g N := h.2.2.1.2
theorem y_RL.mi (h : y_RL B Sp nw ss C N T) : 0 ≤ N 222 102 ∧ N 222 102 ≤ 8 := h.2.2.2.1.2.2.1.2
theorem y_RL.md (h : y_RL B Sp nw ss C N T) : C 0 8 = N 222 102 := h.2.2.2.1.2.2.1.1
theorem y_RL.c8 (h : y_RL B Sp nw ss C N T) : ¬ N 222 7 = 0 → 0 ≤ N 222 86 ∧ N 222 86 ≤ 8 := fun z => by
  rcases h.2.2.2.2 with a | ⟨_, _, P, C1, M1, F, G, Hh, S, U, J, a, _⟩
  · exact absurd a.1 z
  · have e := a.2.2.2.2.2.2
    have hN := a.2.1.hS.2.1
    omega
theorem y_RL.cnt (h : y_RL B Sp nw ss C N T) : C 500 0 = if N 222 7 = 0 then 0 else N 222 86 := by
  rcases h.2.2.2.2 with a | ⟨b, _, P, C1, M1, F, G, Hh, S, U, J, a, _⟩
  · rw [if_pos a.1]; exact a.2.1
  · rw [if_neg (by omega), a.1 500 (by decide) (by decide), a.2.2.2.2.2.1, a.2.2.2.2.2.2]
theorem y_RL.jx (h : y_RL B Sp nw ss C N T) (hx : 0 ≤ x ∧ x < C 0 8) : ((y_jx x : Nat) : Int) = x ∧ x < 8 := by
  have a := h.md
  have b := h.mi
  exact ⟨y_jx_e ⟨hx.1, by omega⟩, by omega⟩
/-- an instance that is made -/
theorem y_RL.ins (h : y_RL B Sp nw ss C N T) (hx : 0 ≤ x ∧ x < C 0 8) : N 222 7 = 1 ∧ y_og B (ax_w ss C) N ∧ ∃ (P C1 M1 : ax_V) (F G Hh S U J : Int → Int), y_pw C N P C1 M1 F G Hh S U J ∧ (∀ j : Nat, (j : Int) < C 0 8 → ∃ n, h_iq C1 M1 U J F (y_v j C) N (j : Int) T n) ∧ ∃ n, h_iq C1 M1 U J F (y_v (y_jx x) C) N x T n := by
  rcases h.2.2.2.2 with a | ⟨b, c, P, C1, M1, F, G, Hh, S, U, J, a, hi⟩
  · have := a.2.2; omega
  · have e := h.jx hx
    refine ⟨b, c, P, C1, M1, F, G, Hh, S, U, J, a, hi, ?_⟩
    have u := hi (y_jx x) (by omega)
    rw [e.1] at u
    exact u
theorem y_pw.node {P C1 M1 : ax_V} {F G Hh S U J : Int → Int} (h : y_pw C N P C1 M1 F G Hh S U J) (k0 : 0 ≤ k ∧ k < (M1 222 86)) : C 501 k = N 226 k ∧ C 503 k = N 227 k ∧ C 504 k = N 228 k ∧ C 505 k = N 229 k ∧ C 513 k = N 289 k ∧ C 514 k = N 288 k := by
  obtain ⟨a1, hX, a3, a4, a5, a6, a7⟩ := h
  have hS := hX.hS
  have hN := hS.2.1
  have fl := hS.fl k0.1 k0.2
  have na := a3.2.2.2.2.2.2.2.1 k k0.1 k0.2
  have cell : ∀ c, 226 ≤ c → c ≤ 277 → c ∉ h_CM → N c = M1 c := a3.1
  have pc : ∀ c, 500 ≤ c → c ≤ 573 → c ∉ g_XP → C c = C1 c := fun c a b z => by rw [a1 c a b, hX.hP c z]
  refine ⟨?_, ?_, ?_, ?_, ?_, ?_⟩
  · rw [pc 501 (by decide) (by decide) (by decide), cell 226 (by decide) (by decide) (by decide)]
    exact hS.2.2.1.2.1 k k0.1 (by omega)
  · rw [pc 503 (by decide) (by decide) (by decide), cell 227 (by decide) (by decide) (by decide)]
    exact fl.1.1
  · rw [pc 504 (by decide) (by decide) (by decide), cell 228 (by decide) (by decide) (by decide)]
    exact fl.2.1.1
  · rw [pc 505 (by decide) (by decide) (by decide), cell 229 (by decide) (by decide) (by decide)]
    exact fl.2.2.1.1
  · rw [a1 513 (by decide) (by decide), (a4 k k0.1 k0.2).1, na.2.1]
  · rw [a1 514 (by decide) (by decide), (a4 k k0.1 k0.2).2, na.1]
theorem y_total (h : y_L B Sp w nw m p ss) (hR : y_RL B Sp nw ss C N T) (hT : T ≤ T') (rx : ax_rg x) : y_ST 1 q_House_total [.ref 0, ax_i x] 1 q_Model_total [.ref 222, ax_i x] T' B Sp w nw m p ss C N := by
  refine y_tell (j := 0) (r := p_tot (C 500 0) (C 0 1) (C 0 8) x) h hR (by decide) hT (t_totalH (d := 0) (y_v_g hR.gC) rx ⟨rfl, rfl⟩) (s_totalM (d := 0) hR.gN rx (fun W e => ⟨?_, e⟩))
  rw [hR.cnt, hR.2.2.2.1.1.1, hR.md]
theorem y_fault (h : y_L B Sp w nw m p ss) (hR : y_RL B Sp nw ss C N T) (hT : T ≤ T') (rx : ax_rg x) : y_ST 1 q_House_fault [.ref 0, ax_i x] 1 q_Model_fault [.ref 222, ax_i x] T' B Sp w nw m p ss C N := by
  refine y_tell (j := 0) (r := p_flt (C 0 2) (C 0 3) x) h hR (by decide) hT (t_faultH (d := 0) (y_v_g hR.gC) rx ⟨rfl, rfl⟩) (s_faultM (d := 0) hR.gN rx (fun W e => ⟨?_, e⟩))
  rw [hR.2.2.2.1.2.1.1, hR.2.2.2.1.2.1.2]
theorem y_run (h : y_L B Sp w nw m p ss) (hR : y_RL B Sp nw ss C N T) (hT : T ≤ T') (rx : ax_rg x) : y_ST 1 q_House_run [.ref 0, ax_i x] 2 q_Model_run [.ref 222, ax_i x] T' B Sp w nw m p ss C N := by
  obtain ⟨t1, t2, t3, t4, t5⟩ := hR.2.2.2.1.2.2.2.1
  refine y_tell (j := 0) (r := p_run (C 157 0) (C 157 2) (C 157 1) (C 158) x) h hR (by decide) hT (t_runH (d := 0) (y_v_g hR.gC) rx (by show C 157 2 ≤ 300; omega) ⟨rfl, rfl⟩) (s_runM (d := 0) hR.gN rx t4 (fun W e => ⟨?_, e⟩))
  unfold p_run
  rw [t1, t2, t3]
  by_cases z : N 222 113 = 0
  · rw [if_pos z, if_pos z]
  · rw [if_neg z, if_neg z]
    by_cases y1 : x = -1
    · rw [if_pos y1, if_pos y1]
    · rw [if_neg y1, if_neg y1]
      by_cases y2 : x = -2
      · rw [if_pos y2, if_pos y2]
      · rw [if_neg y2, if_neg y2]
        by_cases y3 : 0 ≤ x ∧ x < N 222 120
        · rw [if_pos y3, if_pos y3, t5 x y3.1 y3.2]
        · rw [if_neg y3, if_neg y3]
theorem y_node (h : y_L B Sp w nw m p ss) (hR : y_RL B Sp nw ss C N T) (hT : T ≤ T') (rk : ax_rg k) (rx : ax_rg x) : y_ST 2 q_House_node [.ref 0, ax_i k, ax_i x] 3 q_Model_node [.ref 222, ax_i k, ax_i x] T' B Sp w nw m p ss C N := by
  have c8 := hR.c8
  have cn := hR.cnt
  have b8 : C 500 0 ≤ 8 := by
    rw [cn]
    by_cases z : N 222 7 = 0
    · rw [if_pos z]; decide
    · rw [if_neg z]; exact (c8 z).2
  by_cases hk : 0 ≤ k ∧ k < C 500 0
  · refine y_tell (j := 0) (r := p_nod (C 501 k) (C 503 k) (C 504 k) (C 505 k) (C 513 k) (C 514 k) x) h hR (by decide) hT (t_nodeH (d := 0) (y_v_g hR.gC) rk rx b8 (fun z => absurd hk z) (fun _ => ⟨rfl, rfl⟩)) ?_
    have th : ¬ N 222 7 = 0 := fun z => by rw [cn, if_pos z] at hk; omega
    have k1 := hk.2
    rw [cn, if_neg th] at k1
    refine s_nodeM (d := 0) hR.gN rk rx c8 (fun z => absurd ⟨th, hk.1, k1⟩ z) (fun _ W e => ⟨?_, e⟩)
    rcases hR.2.2.2.2 with a | ⟨_, _, P, C1, M1, F, G, Hh, S, U, J, a, _⟩
    · exact absurd a.1 th
    · have e7 := a.2.2.2.2.2.2
      obtain ⟨u1, u2, u3, u4, u5, u6⟩ := a.node (k := k) ⟨hk.1, by omega⟩
      rw [u1, u2, u3, u4, u5, u6]
  · refine y_tell (j := 0) (r := -1) h hR (by decide) hT (t_nodeH (d := 0) (y_v_g hR.gC) rk rx b8 (fun _ => ⟨rfl, rfl⟩) (fun z => absurd z hk)) ?_
    refine s_nodeM (d := 0) hR.gN rk rx c8 (fun _ W e => ⟨rfl, e⟩) (fun z => absurd ?_ hk)
    rw [cn, if_neg z.1]; exact z.2
theorem y_ticks (h : y_L B Sp w nw m p ss) (hR : y_RL B Sp nw ss C N T) (hT : T ≤ T') (rx : ax_rg x) : y_ST 2 q_House_ticks [.ref 0, ax_i x] 3 q_Model_ticks [.ref 222, ax_i x] T' B Sp w nw m p ss C N := by
  refine y_tell (j := y_jx x) (r := if 0 ≤ x ∧ x < C 0 8 then y_v (y_jx x) C 800 1 else -1) h hR (y_jx_lt x) hT (t_ticksH (d := 0) (y_v_g hR.gC) rx (fun a b => ⟨((hR.jx ⟨a, b⟩).1).symm, (hR.jx ⟨a, b⟩).2⟩) ⟨rfl, rfl⟩) (s_ticksM (d := 0) hR.gN rx hR.mi (fun W e => ⟨?_, e⟩))
  rw [← hR.md]
  by_cases z : 0 ≤ x ∧ x < C 0 8
  · obtain ⟨_, _, P, C1, M1, F, G, Hh, S, U, J, _, _, n, hi⟩ := hR.ins z
    rw [if_pos z, if_pos z, hi.2.1.1]
  · rw [if_neg z, if_neg z]
theorem y_state (h : y_L B Sp w nw m p ss) (hR : y_RL B Sp nw ss C N T) (hT : T ≤ T') (rx : ax_rg x) (rk : ax_rg k) : y_ST 2 q_House_state [.ref 0, ax_i x, ax_i k] 3 q_Model_state [.ref 222, ax_i x, ax_i k] T' B Sp w nw m p ss C N := by
  by_cases z : 0 ≤ x ∧ x < C 0 8
  · obtain ⟨_, _, P, C1, M1, F, G, Hh, S, U, J, pw, _, n, hi⟩ := hR.ins z
    have z' : 0 ≤ x ∧ x < N 222 102 := by rw [← hR.md]; exact z
    have hX := pw.2.1
    have hn := hi.1.2
    have hP : ∀ c, 500 ≤ c → c ≤ 573 → y_v (y_jx x) C c = P c := fun c a b => by rw [y_v_k (by omega)]; exact pw.1 c a b
    by_cases y : 0 ≤ k ∧ C1 510 n + k < C1 510 (n + 1)
    · refine y_tell (j := y_jx x) (r := y_v (y_jx x) C 802 (g_cp C1 M1 U n ((M1 222 26)).toNat + g_ca M1 n (C1 510 n + k).toNat)) h hR (y_jx_lt x) hT (t_stateH (d := 0) hX hP (y_v_g hR.gC) rx rk (fun a b => ⟨((hR.jx ⟨a, b⟩).1).symm, (hR.jx ⟨a, b⟩).2⟩) (fun _ => ⟨hi.1.1.1, hn⟩) (fun w => absurd ⟨z, y⟩ w) (fun _ _ _ => ⟨rfl, rfl⟩)) (s_stateM (d := 0) hX pw.2.2.1 hR.gN rx rk hR.mi (fun _ => ⟨hi.1.1.2, hn⟩) (fun w => absurd ⟨z', y⟩ w) (fun _ _ _ W e => ⟨?_, e⟩))
      have E0 := hX.hS.eqF hn.1.1 (by have := hn.1.2; omega)
      have E1 := hX.hS.eqF (n := n + 1) (by have := hn.1.1; omega) (by have := hn.1.2; omega)
      have an := (hX.hS.aN (a := C1 510 n + k) (by omega) (by omega) hn.1.1 hn.1.2).mp ⟨by omega, y.2⟩
      refine (hi.2.2.2.2.1.1 _ _ (Or.inr (Or.inl ⟨(C1 510 n + k).toNat, by omega, ?_, rfl, ?_⟩))).symm
      · rw [show (((C1 510 n + k).toNat : Nat) : Int) = C1 510 n + k by omega]; exact an
      · rfl
    · refine y_tell (j := y_jx x) (r := -1) h hR (y_jx_lt x) hT (t_stateH (d := 0) hX hP (y_v_g hR.gC) rx rk (fun a b => ⟨((hR.jx ⟨a, b⟩).1).symm, (hR.jx ⟨a, b⟩).2⟩) (fun _ => ⟨hi.1.1.1, hn⟩) (fun _ => ⟨rfl, rfl⟩) (fun _ a b => absurd ⟨a, b⟩ y)) (s_stateM (d := 0) hX pw.2.2.1 hR.gN rx rk hR.mi (fun _ => ⟨hi.1.1.2, hn⟩) (fun _ W e => ⟨rfl, e⟩) (fun _ a b => absurd ⟨a, b⟩ y))
  · exact y_tell (j := y_jx x) (r := -1) h hR (y_jx_lt x) hT (t_stateN (d := 0) (y_v_g hR.gC) rx rk z ⟨rfl, rfl⟩) (s_stateN (d := 0) hR.gN rx rk hR.mi (by rw [← hR.md]; exact z) (fun W e => ⟨rfl, e⟩))
end Tell
