/-! out, flow; prove, alike: both sides -/
section Throws
variable {B Sp w nw : Nat} {m p : Value} {ss : List ax_S} {C N C' N' : ax_V} {T T' x i k o most : Int} {Φ : Int → ax_V → Prop}
theorem s_outN {d : Nat} {V : ax_V} {Θ : ax_V → Prop} (hg : ax_g V) (rx : ax_rg x) (ri : ax_rg i) (hi : 0 ≤ V 222 102 ∧ V 222 102 ≤ 8) (hm : ¬ (0 ≤ x ∧ x < V 222 102)) (h : ∀ W, W = ax_u V 222 0 1 → Φ 0 W) : ax_I ay_lay (d + 3) q_Model_out [.ref 222, ax_i x, ax_i i] V Φ Θ := by
  refine r_Model_out (d := d + 2) hg rx ri (s_isInstance (d := d) hg rx hi ?_)
  rw [if_neg hm]
  refine ⟨fun _ => r_Model_out_44 hg rx ri (by decide) (fun V1 e1 => ?_), fun y => absurd rfl y⟩
  have e : V1 222 0 = 1 := by rw [e1, ax_u_s]
  rw [e]
  exact ⟨fun y => absurd y (by decide), fun _ => h V1 e1⟩
theorem s_flowN {d : Nat} {V : ax_V} {Θ : ax_V → Prop} (hg : ax_g V) (rx : ax_rg x) (ri : ax_rg i) (hi : 0 ≤ V 222 102 ∧ V 222 102 ≤ 8) (hm : ¬ (0 ≤ x ∧ x < V 222 102)) (h : ∀ W, W = ax_u V 222 0 1 → Φ 0 W) : ax_I ay_lay (d + 3) q_Model_flow [.ref 222, ax_i x, ax_i i] V Φ Θ := by
  refine r_Model_flow (d := d + 2) hg rx ri (s_isInstance (d := d) hg rx hi ?_)
  rw [if_neg hm]
  refine ⟨fun _ V1 e1 => ?_, fun y => absurd rfl y⟩
  have e : V1 222 0 = 1 := by rw [e1, ax_u_s]
  rw [e]
  exact ⟨fun y => absurd y (by decide), fun _ => h V1 e1⟩
/-- cells more don't matter -/
theorem y_RL.app {l : List ax_S} (h : y_L B Sp w nw m p ss) (hR : y_RL B Sp nw ss C N T) : y_RL B Sp nw (ss ++ l) C N T := by
  obtain ⟨b1, b2, b3, b5, b6⟩ := hR
  refine ⟨b1, b2, b3, b5, ?_⟩
  rcases b6 with a | ⟨a, og, c⟩
  · exact Or.inl a
  · refine Or.inr ⟨a, og.th rfl rfl (fun k hk => ?_), c⟩
    have l74 : (az_P B).length = 74 := rfl
    obtain ⟨s, hs⟩ : ∃ s, (az_P B)[k]? = some s := ⟨_, List.getElem?_eq_getElem (by omega)⟩
    have u := h.2.1 k s hs
    rw [ax_w_get u, ax_w_get (y_app u)]
/-- a call of the house that may throw, one of the model behind it -/
def y_TH (d key : Nat) (vs : List Value) (d' key' : Nat) (vs' : List Value) (T' : Int) (B Sp w nw : Nat) (m p : Value) (ss : List ax_S) (C N : ax_V) : Prop := ∃ (r : Int) (N' : ax_V), ax_rg r ∧
  ((ai_Ex ai_P0 d key vs (ax_w ss (y_n C N)) (some (ax_i r), ax_w ss (y_n C N)) ∧ ai_Ex ai_P0 d' key' vs' (ax_w ss (y_n C N)) (some (ax_i r), ax_w ss (y_n C N')) ∧ y_RL B Sp nw ss C N' T' ∧ N' 222 0 = 0 ∧ ∀ s2, y_L B Sp w nw m p s2 → ai_Ex ai_P0 d' key' vs' (ax_w s2 (y_n C N)) (some (ax_i r), ax_w s2 (y_n C N'))) ∨
   (ai_Ex ai_P0 d key vs (ax_w ss (y_n C N)) (some (.retAddr ss.length), ax_w (ss ++ [y_ex]) (y_n C N)) ∧ ai_Ex ai_P0 d' key' vs' (ax_w (ss ++ [y_ex]) (y_n C N)) (some (ax_i r), ax_w (ss ++ [y_ex]) (y_n C N')) ∧ y_L B Sp w nw m p (ss ++ [y_ex]) ∧ y_RL B Sp nw (ss ++ [y_ex]) C N' T' ∧ N' 222 0 = 1))
theorem y_L.ex (h : y_L B Sp w nw m p ss) : y_L B Sp w nw m p (ss ++ [y_ex]) := h.app (ax_ok_ap1 h.1)
theorem y_out (h : y_L B Sp w nw m p ss) (hR : y_RL B Sp nw ss C N T) (hT : T ≤ T') (rx : ax_rg x) (ri : ax_rg i) : y_TH 2 q_House_out [.ref 0, ax_i x, ax_i i] 3 q_Model_out [.ref 222, ax_i x, ax_i i] T' B Sp w nw m p ss C N := by
  have md := hR.md
  have mi := hR.mi
  have gC := hR.gC
  have gN := hR.gN
  have v0 : y_n C N 0 = C 0 := y_n_n (by decide)
  have vI : ∀ c, 900 ≤ c → y_n C N c = C c := fun c a => y_n_n (by omega)
  by_cases z : 0 ≤ x ∧ x < C 0 8
  · obtain ⟨th, og, P, C1, M1, F, G, Hh, S, U, J, pw, ins, n, hi⟩ := hR.ins z
    have z1 : 0 ≤ x ∧ x < N 222 102 := by rw [← md]; exact z
    have hX := pw.2.1
    have hS := hX.hS
    have nn := hi.1.2.1
    have jx := hR.jx z
    have ej : y_jx x = x.toNat := by omega
    have e0 : y_n C N (900 + 7 * x.toNat) = y_v (y_jx x) C 800 := by rw [vI _ (by omega), ej]; exact (y_v_j (c := 0) (by decide)).symm
    have e3 : y_n C N (903 + 7 * x.toNat) = y_v (y_jx x) C 803 := by rw [vI _ (by omega), ej, show 903 + 7 * x.toNat = 900 + 7 * x.toNat + 3 by omega]; exact (y_v_j (c := 3) (by decide)).symm
    obtain ⟨res, zz, q, ex⟩ := t_outH (d := 0) (C0 := C1) (M0 := M1) (V := y_n C N) (x := x) (i := i) (n := n) h (fun _ => hS) (fun _ c a b y => by rw [y_n_n (by omega), pw.1 c a b, hX.hP c y]) (y_n_g gC gN) rx ri (by rw [v0]; omega) (fun _ => by rw [e0]; exact ⟨hi.1.1.1, nn⟩)
    rw [v0, e0, e3] at q
    rcases q with ⟨c, er, ez⟩ | ⟨c, er, ez⟩
    · rw [er, ez] at ex
      have c2 := hi.2.2.1.1
      have c3 : ¬ N 303 x = 0 := by rw [← c2]; exact c.2.1
      obtain ⟨r', N', rr, gN', ⟨e1, e2⟩, ex'⟩ := h.N2 (C := C) (N := N) (d := 3) (key := q_Model_out) (vs := [.ref 222, ax_i x, ax_i i]) (Φ := fun r W => r = N 304 (26 * x + M1 231 (26 * n + i)) ∧ W = ax_u N 222 0 0) gC gN (s_outM (d := 0) hS pw.2.2.1 gN rx ri mi (fun _ => ⟨hi.1.1.2, nn⟩) (fun y => absurd ⟨z1, c3, c.2.2⟩ y) (fun _ _ _ W e => ⟨rfl, e⟩))
      have ev := (hi.2.2.2.2.2.1 c.2.1).2 i c.2.2.1 c.2.2.2
      rw [e1, ev] at ex'
      refine ⟨_, N', ?_, Or.inl ⟨ex, ex', hR.th (by decide) e2 hT, by rw [e2, ax_u_s], fun s2 L2 => ?_⟩⟩
      rotate_left
      · obtain ⟨q1, Q1, _, _, ⟨d1, d2⟩, dx⟩ := L2.N2 (C := C) (N := N) (d := 3) (key := q_Model_out) (vs := [.ref 222, ax_i x, ax_i i]) (Φ := fun r W => r = N 304 (26 * x + M1 231 (26 * n + i)) ∧ W = ax_u N 222 0 0) gC gN (s_outM (d := 0) hS pw.2.2.1 gN rx ri mi (fun _ => ⟨hi.1.1.2, nn⟩) (fun y => absurd ⟨z1, c3, c.2.2⟩ y) (fun _ _ _ W e => ⟨rfl, e⟩))
        rw [d1, ev, d2, ← e2] at dx
        exact dx
      rw [← ev, ← e1]; exact rr
    · rw [er, ez] at ex
      have c3 : ¬ ((0 ≤ x ∧ x < N 222 102) ∧ ¬ N 303 x = 0 ∧ 0 ≤ i ∧ i < M1 228 n) := fun y => c ⟨z, by rw [hi.2.2.1.1]; exact y.2.1, y.2.2⟩
      obtain ⟨r', N', rr, gN', ⟨e1, e2⟩, ex'⟩ := h.ex.N2 (C := C) (N := N) (d := 3) (key := q_Model_out) (vs := [.ref 222, ax_i x, ax_i i]) (Φ := fun r W => r = 0 ∧ W = ax_u N 222 0 1) gC gN (s_outM (d := 0) hS pw.2.2.1 gN rx ri mi (fun _ => ⟨hi.1.1.2, nn⟩) (fun _ W e => ⟨rfl, e⟩) (fun a b c' => absurd ⟨a, b, c'⟩ c3))
      exact ⟨r', N', rr, Or.inr ⟨ex, ex', h.ex, (hR.th (by decide) e2 hT).app h, by rw [e2, ax_u_s]⟩⟩
  · obtain ⟨res, zz, q, ex⟩ := t_outH (d := 0) (C0 := C) (M0 := C) (V := y_n C N) (x := x) (i := i) (n := 0) h (fun y => absurd (by rw [v0] at y; exact y) z) (fun y => absurd (by rw [v0] at y; exact y) z) (y_n_g gC gN) rx ri (by rw [v0]; omega) (fun y => absurd (by rw [v0] at y; exact y) z)
    rw [v0] at q
    rcases q with ⟨c, er, ez⟩ | ⟨c, er, ez⟩
    · exact absurd c.1 z
    · rw [er, ez] at ex
      obtain ⟨r', N', rr, gN', ⟨e1, e2⟩, ex'⟩ := h.ex.N2 (C := C) (N := N) (d := 3) (key := q_Model_out) (vs := [.ref 222, ax_i x, ax_i i]) (Φ := fun r W => r = 0 ∧ W = ax_u N 222 0 1) gC gN (s_outN (d := 0) gN rx ri mi (by rw [← md]; exact z) (fun W e => ⟨rfl, e⟩))
      exact ⟨r', N', rr, Or.inr ⟨ex, ex', h.ex, (hR.th (by decide) e2 hT).app h, by rw [e2, ax_u_s]⟩⟩
theorem y_flow (h : y_L B Sp w nw m p ss) (hR : y_RL B Sp nw ss C N T) (hT : T ≤ T') (rx : ax_rg x) (ri : ax_rg i) : y_TH 2 q_House_flow [.ref 0, ax_i x, ax_i i] 3 q_Model_flow [.ref 222, ax_i x, ax_i i] T' B Sp w nw m p ss C N := by
  have md := hR.md
  have mi := hR.mi
  have gC := hR.gC
  have gN := hR.gN
  have v0 : y_n C N 0 = C 0 := y_n_n (by decide)
  have vI : ∀ c, 900 ≤ c → y_n C N c = C c := fun c a => y_n_n (by omega)
  obtain ⟨res, zz, q, ex⟩ := t_flowH (d := 0) (V := y_n C N) (x := x) (i := i) h (y_n_g gC gN) rx ri (by rw [v0]; omega)
  rw [v0] at q
  by_cases z : 0 ≤ x ∧ x < C 0 8
  · obtain ⟨th, og, P, C1, M1, F, G, Hh, S, U, J, pw, ins, n, hi⟩ := hR.ins z
    have z1 : 0 ≤ x ∧ x < N 222 102 := by rw [← md]; exact z
    have hX := pw.2.1
    have hS := hX.hS
    have nn := hi.1.2.1
    have jx := hR.jx z
    have ej : y_jx x = x.toNat := by omega
    have e0 : y_n C N (900 + 7 * x.toNat) = y_v (y_jx x) C 800 := by rw [vI _ (by omega), ej]; exact (y_v_j (c := 0) (by decide)).symm
    have e3 : y_n C N (903 + 7 * x.toNat) = y_v (y_jx x) C 803 := by rw [vI _ (by omega), ej, show 903 + 7 * x.toNat = 900 + 7 * x.toNat + 3 by omega]; exact (y_v_j (c := 3) (by decide)).symm
    have e4 : y_n C N (904 + 7 * x.toNat) = y_v (y_jx x) C 804 := by rw [vI _ (by omega), ej, show 904 + 7 * x.toNat = 900 + 7 * x.toNat + 4 by omega]; exact (y_v_j (c := 4) (by decide)).symm
    rw [e0, e3, e4] at q
    rcases q with ⟨c, er, ez⟩ | ⟨c, er, ez⟩
    · rw [er, ez] at ex
      obtain ⟨c1, c2, c3, c4⟩ := c
      have c5 : ¬ N 303 x = 0 := by rw [← hi.2.2.1.1]; exact c2
      have lt := (hi.2.2.2.2.2.1 c2).1 (i - 97) (by omega) (by omega)
      have kd : ¬ M1 232 (26 * n + (i - 97)) = 0 := fun y => c4 (lt.2 y)
      have u := lt.1 kd
      have c6 : ¬ N 305 (26 * x + (i - 97)) = 0 := by rw [u.2.1]; exact c4
      obtain ⟨r', N', rr, gN', ⟨e1, e2⟩, ex'⟩ := h.N2 (C := C) (N := N) (d := 3) (key := q_Model_flow) (vs := [.ref 222, ax_i x, ax_i i]) (Φ := fun r W => r = N 304 (26 * x + (i - 97)) ∧ W = ax_u N 222 0 0) gC gN (s_flowM (d := 0) hS pw.2.2.1 gN rx ri mi (fun _ => ⟨hi.1.1.2, nn⟩) (fun y => absurd ⟨z1, c5, c3, kd, c6⟩ y) (fun _ _ _ _ _ W e => ⟨rfl, e⟩))
      have ev := u.2.2 c4
      rw [e1, ev] at ex'
      refine ⟨_, N', ?_, Or.inl ⟨ex, ex', hR.th (by decide) e2 hT, by rw [e2, ax_u_s], fun s2 L2 => ?_⟩⟩
      rotate_left
      · obtain ⟨q1, Q1, _, _, ⟨d1, d2⟩, dx⟩ := L2.N2 (C := C) (N := N) (d := 3) (key := q_Model_flow) (vs := [.ref 222, ax_i x, ax_i i]) (Φ := fun r W => r = N 304 (26 * x + (i - 97)) ∧ W = ax_u N 222 0 0) gC gN (s_flowM (d := 0) hS pw.2.2.1 gN rx ri mi (fun _ => ⟨hi.1.1.2, nn⟩) (fun y => absurd ⟨z1, c5, c3, kd, c6⟩ y) (fun _ _ _ _ _ W e => ⟨rfl, e⟩))
        rw [d1, ev, d2, ← e2] at dx
        exact dx
      rw [← ev, ← e1]; exact rr
    · rw [er, ez] at ex
      have c3 : ¬ ((0 ≤ x ∧ x < N 222 102) ∧ ¬ N 303 x = 0 ∧ (97 ≤ i ∧ i ≤ 122) ∧ ¬ M1 232 (26 * n + (i - 97)) = 0 ∧ ¬ N 305 (26 * x + (i - 97)) = 0) := fun y => by
        obtain ⟨y1, y2, y3, y4, y5⟩ := y
        have c2 : ¬ y_v (y_jx x) C 800 2 = 0 := by rw [hi.2.2.1.1]; exact y2
        have lt := ((hi.2.2.2.2.2.1 c2).1 (i - 97) (by omega) (by omega)).1 y4
        exact c ⟨z, c2, y3, by rw [← lt.2.1]; exact y5⟩
      obtain ⟨r', N', rr, gN', ⟨e1, e2⟩, ex'⟩ := h.ex.N2 (C := C) (N := N) (d := 3) (key := q_Model_flow) (vs := [.ref 222, ax_i x, ax_i i]) (Φ := fun r W => r = 0 ∧ W = ax_u N 222 0 1) gC gN (s_flowM (d := 0) hS pw.2.2.1 gN rx ri mi (fun _ => ⟨hi.1.1.2, nn⟩) (fun _ W e => ⟨rfl, e⟩) (fun a1 a2 a3 a4 a5 => absurd ⟨a1, a2, a3, a4, a5⟩ c3))
      exact ⟨r', N', rr, Or.inr ⟨ex, ex', h.ex, (hR.th (by decide) e2 hT).app h, by rw [e2, ax_u_s]⟩⟩
  · rcases q with ⟨c, er, ez⟩ | ⟨c, er, ez⟩
    · exact absurd c.1 z
    · rw [er, ez] at ex
      obtain ⟨r', N', rr, gN', ⟨e1, e2⟩, ex'⟩ := h.ex.N2 (C := C) (N := N) (d := 3) (key := q_Model_flow) (vs := [.ref 222, ax_i x, ax_i i]) (Φ := fun r W => r = 0 ∧ W = ax_u N 222 0 1) gC gN (s_flowN (d := 0) gN rx ri mi (by rw [← md]; exact z) (fun W e => ⟨rfl, e⟩))
      exact ⟨r', N', rr, Or.inr ⟨ex, ex', h.ex, (hR.th (by decide) e2 hT).app h, by rw [e2, ax_u_s]⟩⟩
end Throws
