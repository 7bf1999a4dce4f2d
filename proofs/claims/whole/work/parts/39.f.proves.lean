/-! prove, alike: both sides -/
section Proves
variable {B Sp w nw : Nat} {m p : Value} {ss : List ax_S} {C N V : ax_V} {T T' k i o most : Int}
theorem y_can0 {d : Nat} (h : y_L B Sp w nw m p ss) (hg : ax_g V) (hc : V 500 0 = 0) (rk : ax_rg k) : ai_Ex ai_P0 (d + 3) q_House_canProve [.ref 0, ax_i k] (ax_w ss V) (some (ax_i 0), ax_w ss V) := by
  have c0 : y_v 0 V 500 0 = 0 := hc
  obtain ⟨x, W, rx, gW, ⟨q, eW⟩, ex⟩ := h.I (d := d + 3) (j := 0) (key := q_House_canProve) (vs := [.ref 0, ax_i k]) (Φ := fun x W => x = 0 ∧ W = y_v 0 V) (by decide) hg (by
    refine r_House_canProve (d := d + 2) (y_v_g hg) rk (r_Program_canMake (d := d + 1) (y_v_g hg) rk (r_Program_has (d := d) (y_v_g hg) rk ?_))
    rw [c0]
    exact ⟨fun z => ⟨fun _ => ⟨fun _ => ⟨rfl, rfl⟩, fun y => absurd rfl y⟩, fun y => absurd rfl y⟩, fun z => ⟨fun y => ⟨fun _ => ⟨fun _ => ⟨rfl, rfl⟩, fun u => absurd rfl u⟩, fun u => absurd rfl u⟩, fun y => by omega⟩⟩)
  rw [q, eW, y_b_id hg] at ex
  exact ex
theorem t_prove0 {d : Nat} (h : y_L B Sp w nw m p ss) (hg : ax_g V) (hc : V 500 0 = 0) (rk : ax_rg k) : ai_Ex ai_P0 (d + 4) q_House_prove [.ref 0, ax_i k, ax_i i, ax_i most] (ax_w ss V) (some (ax_i (-1)), ax_w ss V) := by
  obtain ⟨r, z, ⟨e1, e2⟩, ex⟩ : ax_E ss (d + 4) q_House_prove [.ref 0, ax_i k, ax_i i, ax_i most] V (fun r z => r = some (ax_i (-1)) ∧ z = ax_w ss V) := by
    refine ax_E.of (M := m_House_prove) rfl (Nat.le_of_ble_eq_true rfl) ?_
    show ax_Q ss (d + 3) m_House_prove 0 [some (.ref 0), some (ax_i k), some (ax_i i), some (ax_i most), none] [] V _
    refine ax_Q.mv 2 2 [some (.ref 0), some (ax_i k), some (ax_i i), some (ax_i most), none] [ax_i k, .ref 0] rfl ?_
    refine ax_Q.callv (v := some (ax_i 0)) (rest := []) (pc' := 5) ⟨_, rfl⟩ ml_11_212 rfl (h.at 0 rfl) (Nat.le_of_ble_eq_true rfl) (ai_nt_i _) rfl (y_can0 h hg hc rk) ?_
    refine ax_Q.if1 (p1 := 37) (p2 := 8) ⟨_, rfl⟩ (by decide) rfl (by decide) (fun _ => ?_) (fun hq => absurd rfl hq)
    refine ax_Q.mv 1 38 [some (.ref 0), some (ax_i k), some (ax_i i), some (ax_i most), none] [ax_i (-1)] rfl ?_
    exact ax_Q.iret ⟨_, rfl⟩ rfl rfl ⟨rfl, rfl⟩
  rw [e1, e2] at ex
  exact ex
theorem t_alike0 {d : Nat} (h : y_L B Sp w nw m p ss) (hg : ax_g V) (hc : V 500 0 = 0) (rk : ax_rg k) : ai_Ex ai_P0 (d + 4) q_House_alike [.ref 0, ax_i k, ax_i o, ax_i most] (ax_w ss V) (some (ax_i (-1)), ax_w ss V) := by
  obtain ⟨r, z, ⟨e1, e2⟩, ex⟩ : ax_E ss (d + 4) q_House_alike [.ref 0, ax_i k, ax_i o, ax_i most] V (fun r z => r = some (ax_i (-1)) ∧ z = ax_w ss V) := by
    refine ax_E.of (M := m_House_alike) rfl (Nat.le_of_ble_eq_true rfl) ?_
    show ax_Q ss (d + 3) m_House_alike 0 [some (.ref 0), some (ax_i k), some (ax_i o), some (ax_i most)] [] V _
    refine ax_Q.mv 2 2 [some (.ref 0), some (ax_i k), some (ax_i o), some (ax_i most)] [ax_i k, .ref 0] rfl ?_
    refine ax_Q.callv (v := some (ax_i 0)) (rest := []) (pc' := 5) ⟨_, rfl⟩ ml_11_212 rfl (h.at 0 rfl) (Nat.le_of_ble_eq_true rfl) (ai_nt_i _) rfl (y_can0 h hg hc rk) ?_
    refine ax_Q.if1 (p1 := 28) (p2 := 8) ⟨_, rfl⟩ (by decide) rfl (by decide) (fun _ => ?_) (fun hq => absurd rfl hq)
    refine ax_Q.mv 1 29 [some (.ref 0), some (ax_i k), some (ax_i o), some (ax_i most)] [ax_i (-1)] rfl ?_
    exact ax_Q.iret ⟨_, rfl⟩ rfl rfl ⟨rfl, rfl⟩
  rw [e1, e2] at ex
  exact ex
/-- a step in which the prover's rows may grow -/
def y_SG (d key : Nat) (vs : List Value) (d' key' : Nat) (vs' : List Value) (T' : Int) (B Sp nw : Nat) (ss : List ax_S) (C N : ax_V) : Prop := ∃ (r : Int) (ss' : List ax_S) (C' N' : ax_V) (w' nw' : Nat) (m' p' : Value), ax_rg r ∧ ai_Ex ai_P0 d key vs (ax_w ss (y_n C N)) (some (ax_i r), ax_w ss' (y_n C' N)) ∧ ai_Ex ai_P0 d' key' vs' (ax_w ss' (y_n C' N)) (some (ax_i r), ax_w ss' (y_n C' N')) ∧ y_L B Sp w' nw' m' p' ss' ∧ y_RL B Sp nw' ss' C' N' T' ∧ y_G ss ss' nw nw'
theorem y_SG.of (h : y_L B Sp w nw m p ss) {d key d' key' : Nat} {vs vs' : List Value} {r : Int} {N' : ax_V} (rr : ax_rg r) (e1 : ai_Ex ai_P0 d key vs (ax_w ss (y_n C N)) (some (ax_i r), ax_w ss (y_n C N))) (e2 : ai_Ex ai_P0 d' key' vs' (ax_w ss (y_n C N)) (some (ax_i r), ax_w ss (y_n C N'))) (hR : y_RL B Sp nw ss C N' T') : y_SG d key vs d' key' vs' T' B Sp nw ss C N := ⟨r, ss, C, N', w, nw, m, p, rr, e1, e2, h, hR, fun _ _ z => z, Or.inl ⟨rfl, rfl, rfl⟩⟩
/-- the relation behind a search -/
theorem y_RL.told {P C1 M1 : ax_V} {F G Hh S U J wf : Int → Int} {r f' l : Int} {N' : ax_V} {z : List va_E} (h : y_L B Sp w nw m p ss) (hR : y_RL B Sp nw ss C N T) (hT : T ≤ T') (og : y_og B (ax_w ss C) N) (th : N 222 7 = 1) (pw : y_pw C N P C1 M1 F G Hh S U J) (ins : ∀ j : Nat, (j : Int) < C 0 8 → ∃ n, h_iq C1 M1 U J F (y_v j C) N (j : Int) T n) (hl : 0 ≤ l ∧ l ≤ 300) (po : y_PO B Sp w nw ss (y_n C N) r f' l wf z) (gN' : ax_g N') (nv : p_NV N N') (e0 : N' 222 113 = 1) (e1 : N' 222 115 = f') (e2 : N' 222 120 = l) (e3 : ∀ i, 0 ≤ i → i < l → N' 312 i = wf i) :
    ∃ (ss' : List ax_S) (C' : ax_V) (w' nw' : Nat), z = ax_w ss' (y_n C' N) ∧ ax_g C' ∧ y_L B Sp w' nw' (.ref 150) (.ref B) ss' ∧ y_RL B Sp nw' ss' C' N' T' ∧ y_G ss ss' nw nw' := by
  obtain ⟨ss2, V2, w2, nw2, ez, L2, G2, f2, g2, p0, p1, p2, p3⟩ := po
  have vc : ∀ c, c ∉ [150, 151, 152, 153, 154, 155, 157, 158, 160, 161, 162, 163, 164, 165, 620] → ¬ (222 ≤ c ∧ c ≤ 313) → V2 c = C c := fun c a b => by rw [f2 c a, y_n_n b]
  have vn : y_n V2 N = V2 := by
    funext c
    by_cases y : 222 ≤ c ∧ c ≤ 313
    · rw [y_n_k y, f2 c (by simp; omega), y_n_k y]
    · rw [y_n_n y]
  have nb : nw2 ≤ 180000 := by
    rcases G2.2 with ⟨_, _, e⟩ | ⟨_, _, e, _⟩
    · rw [e]; exact hR.2.1
    · exact e
  refine ⟨ss2, V2, w2, nw2, by rw [vn]; exact ez, g2, L2, ?_, G2⟩
  obtain ⟨b1, b2, b3, b5, b6⟩ := hR
  obtain ⟨t1, t2, t3, t4, t5, t6⟩ := b5
  have nc : ∀ c, 223 ≤ c → c ≤ 290 ∨ (299 ≤ c ∧ c ≤ 308) → N' c = N c := fun c a b => nv.1 c (by simp; omega)
  have ns : ∀ j : Int, j ∉ ([0, 101, 113, 114, 115, 116, 120, 123] : List Int) → N' 222 j = N 222 j := nv.2.1
  have c0 := vc 0 (by decide) (by decide)
  have ck : ∀ c, 500 ≤ c → c ≤ 573 → V2 c = C c := fun c a b => vc c (by simp; omega) (by omega)
  refine ⟨b1, nb, ⟨g2, gN'⟩, ⟨?_, ?_, ?_, ?_, ?_, ?_⟩, Or.inr ⟨by rw [ns 7 (by decide)]; exact th, og.th (ns 5 (by decide)) (nc 225 (by decide) (by decide)) (fun k hk => ?_), P, C1, M1, F, G, Hh, S, U, J, pw.th ck (fun c a b => nc c (by omega) (by omega)) (fun k y => ns k (by simp; omega)), fun j hj => ?_⟩⟩
  · rw [c0, vc 1 (by decide) (by decide), ns 1 (by decide), nc 223 (by decide) (by decide)]; exact t1
  · rw [c0, ns 8 (by decide), ns 9 (by decide)]; exact t2
  · rw [c0, ns 102 (by decide)]; exact t3
  · rw [p0, p1, p2, e0, e1, e2]; exact ⟨rfl, rfl, rfl, hl, fun i a b => by rw [p3 i a b, e3 i a b]⟩
  · rw [ck 508 (by decide) (by decide), ck 509 (by decide) (by decide), ck 510 (by decide) (by decide)]; exact t5
  · rw [vc 1008 (by decide) (by decide), vc 1009 (by decide) (by decide), vc 1010 (by decide) (by decide), ns 5 (by decide)]; exact t6
  · have l74 : (az_P B).length = 74 := rfl
    obtain ⟨s, hs⟩ : ∃ s, (az_P B)[k]? = some s := ⟨_, List.getElem?_eq_getElem (by omega)⟩
    obtain ⟨_, y, ey⟩ := az_P_e hs
    rw [ax_w_get (h.2.1 k s hs), ax_w_get (L2.2.1 k s hs), ey, ax_c_ne (ck (500 + k) (by omega) (by omega))]
  · rw [c0] at hj
    have j8 : j < 8 := by
      have a := t3.1
      have b := t3.2
      omega
    obtain ⟨n, hi⟩ := ins j hj
    refine ⟨n, (hi.at (fun c a b => ?_) (fun c a b => nc c (by omega) (by omega))).up hT⟩
    obtain ⟨q, rfl⟩ : ∃ q, c = 800 + q := ⟨c - 800, by omega⟩
    rw [y_v_j (by omega), y_v_j (by omega)]
    exact vc _ (by simp; omega) (by omega)
theorem y_prove (h : y_L B Sp w nw m p ss) (hR : y_RL B Sp nw ss C N T) (hT : T ≤ T') (rk : ax_rg k) (ri : ax_rg i) (rm : ax_rg most) : y_SG 29 q_House_prove [.ref 0, ax_i k, ax_i i, ax_i most] 84 q_Model_prove [.ref 222, ax_i k, ax_i i, ax_i most] T' B Sp nw ss C N := by
  have gC := hR.gC
  have gN := hR.gN
  have b8 : B + 74 ≤ 150 := by rcases hR.1 with y | y <;> omega
  rcases hR.2.2.2.2 with a | ⟨th, og, P, C1, M1, F, G, Hh, S, U, J, pw, ins⟩
  · obtain ⟨r', N', rr, gN', ⟨e1, e2⟩, ex'⟩ := h.N2 (C := C) (N := N) (d := 5) (key := q_Model_prove) (vs := [.ref 222, ax_i k, ax_i i, ax_i most]) (Φ := fun r W => r = -1 ∧ W = ax_u N 222 0 0) gC gN (s_prove0 (d := 0) gN a.1 rk ri rm (fun W e => ⟨rfl, e⟩))
    rw [e1] at ex'
    exact y_SG.of h (by decide) ((t_prove0 (d := 0) h (y_n_g gC gN) (by rw [y_n_n (by decide)]; exact a.2.1) rk).up (by decide)) (ex'.up (by decide)) (hR.th (by decide) e2 hT)
  · have hX := pw.2.1
    have th' : ¬ N 222 7 = 0 := by omega
    have hP : ∀ c, 500 ≤ c → c ≤ 573 → y_n C N c = P c := fun c u v => by rw [y_n_n (by omega)]; exact pw.1 c u v
    obtain ⟨res, z, q, ex⟩ := t_proveH (d := 0) (k := k) (i := i) (most := most) h b8 hX hP (y_n_g gC gN) (by rw [hP 500 (by decide) (by decide)]; exact pw.2.2.2.2.2.1) (fun n u v => by rw [hP 513 (by decide) (by decide), hP 514 (by decide) (by decide)]; exact pw.2.2.2.1 n u v) hR.2.1 rk ri rm
    rcases q with ⟨np, er, ez⟩ | ⟨pv, r, f', l, wf, er, hr, hl, hf, po, im⟩
    · rw [er, ez] at ex
      obtain ⟨r', N', rr, gN', ⟨e1, e2⟩, ex'⟩ := h.N2 (C := C) (N := N) (d := 84) (key := q_Model_prove) (vs := [.ref 222, ax_i k, ax_i i, ax_i most]) (Φ := fun r W => r = -1 ∧ W = ax_u N 222 0 0) gC gN (s_proveM (d := 0) (r := 0) (f' := 0) (l := 0) (wf := fun _ => 0) hX pw.2.2.1 gN pw.2.2.2.2.2.2 th' rk ri rm (by decide) (fun y => absurd y np) (fun _ W e => ⟨rfl, e⟩) (fun y => absurd y np))
      rw [e1] at ex'
      exact y_SG.of h (by decide) ex ex' (hR.th (by decide) e2 hT)
    · have rr : ax_rg r := by rcases hr with e | e | e <;> rw [e] <;> decide
      rw [er] at ex
      obtain ⟨x', N', _, gN', ⟨e1, nv, n0, n1, n2, n3, n4⟩, rn⟩ := ax_I.ex1 (s_proveM (d := 0) (r := r) (f' := f') (l := l) (wf := wf) (Φ := fun x W => x = r ∧ p_NV N W ∧ W 222 0 = 0 ∧ W 222 113 = 1 ∧ W 222 115 = f' ∧ W 222 120 = l ∧ ∀ i, 0 ≤ i → i < l → W 312 i = wf i) (Θ := fun _ => False) hX pw.2.2.1 gN pw.2.2.2.2.2.2 th' rk ri rm rr (fun _ => im) (fun y => absurd pv y) (fun _ W a1 a2 a3 a4 a5 a6 => ⟨rfl, a1, a2, a3, a4, a5, a6⟩))
      rw [e1] at rn
      obtain ⟨ss', C', w', nw', ez, gC', L', R', G'⟩ := hR.told h hT og th pw ins hl po gN' nv n1 n2 n3 n4
      obtain ⟨x2, W2, _, _, ⟨f1, f2⟩, ex2⟩ := L'.N2 (C := C') (N := N) (d := 84) (key := q_Model_prove) (vs := [.ref 222, ax_i k, ax_i i, ax_i most]) (Φ := fun x W => x = r ∧ W = N') gC' gN (ax_I.run rn (Nat.le_refl _) rr gN' ⟨rfl, rfl⟩)
      rw [f1, f2] at ex2
      rw [ez] at ex
      exact ⟨r, ss', C', N', w', nw', _, _, rr, ex, ex2, L', R', G'⟩
theorem y_alike (h : y_L B Sp w nw m p ss) (hR : y_RL B Sp nw ss C N T) (hT : T ≤ T') (rk : ax_rg k) (ro : ax_rg o) (rm : ax_rg most) : y_SG 29 q_House_alike [.ref 0, ax_i k, ax_i o, ax_i most] 84 q_Model_alike [.ref 222, ax_i k, ax_i o, ax_i most] T' B Sp nw ss C N := by
  have gC := hR.gC
  have gN := hR.gN
  have b8 : B + 74 ≤ 150 := by rcases hR.1 with y | y <;> omega
  rcases hR.2.2.2.2 with a | ⟨th, og, P, C1, M1, F, G, Hh, S, U, J, pw, ins⟩
  · obtain ⟨r', N', rr, gN', ⟨e1, e2⟩, ex'⟩ := h.N2 (C := C) (N := N) (d := 5) (key := q_Model_alike) (vs := [.ref 222, ax_i k, ax_i o, ax_i most]) (Φ := fun r W => r = -1 ∧ W = ax_u N 222 0 0) gC gN (s_alike0 (d := 0) gN a.1 rk ro rm (fun W e => ⟨rfl, e⟩))
    rw [e1] at ex'
    exact y_SG.of h (by decide) ((t_alike0 (d := 0) h (y_n_g gC gN) (by rw [y_n_n (by decide)]; exact a.2.1) rk).up (by decide)) (ex'.up (by decide)) (hR.th (by decide) e2 hT)
  · have hX := pw.2.1
    have th' : ¬ N 222 7 = 0 := by omega
    have hP : ∀ c, 500 ≤ c → c ≤ 573 → y_n C N c = P c := fun c u v => by rw [y_n_n (by omega)]; exact pw.1 c u v
    obtain ⟨res, z, q, ex⟩ := t_alikeH (d := 0) (k := k) (o := o) (most := most) h b8 hX hP (y_n_g gC gN) (by rw [hP 500 (by decide) (by decide)]; exact pw.2.2.2.2.2.1) (fun n u v => by rw [hP 513 (by decide) (by decide), hP 514 (by decide) (by decide)]; exact pw.2.2.2.1 n u v) hR.2.1 rk ro rm
    rcases q with ⟨np, er, ez⟩ | ⟨al, r, f', l, wf, er, hr, hl, hf, po, im⟩
    · rw [er, ez] at ex
      obtain ⟨r', N', rr, gN', ⟨e1, e2⟩, ex'⟩ := h.N2 (C := C) (N := N) (d := 84) (key := q_Model_alike) (vs := [.ref 222, ax_i k, ax_i o, ax_i most]) (Φ := fun r W => r = -1 ∧ W = ax_u N 222 0 0) gC gN (s_alikeM (d := 0) (r := 0) (f' := 0) (l := 0) (wf := fun _ => 0) hX pw.2.2.1 gN pw.2.2.2.2.2.2 th' rk ro rm (by decide) (fun y => absurd y np) (fun _ W e => ⟨rfl, e⟩) (fun y => absurd y np))
      rw [e1] at ex'
      exact y_SG.of h (by decide) ex ex' (hR.th (by decide) e2 hT)
    · have rr : ax_rg r := by rcases hr with e | e | e <;> rw [e] <;> decide
      rw [er] at ex
      obtain ⟨x', N', _, gN', ⟨e1, nv, n0, n1, n2, n3, n4⟩, rn⟩ := ax_I.ex1 (s_alikeM (d := 0) (r := r) (f' := f') (l := l) (wf := wf) (Φ := fun x W => x = r ∧ p_NV N W ∧ W 222 0 = 0 ∧ W 222 113 = 1 ∧ W 222 115 = f' ∧ W 222 120 = l ∧ ∀ i, 0 ≤ i → i < l → W 312 i = wf i) (Θ := fun _ => False) hX pw.2.2.1 gN pw.2.2.2.2.2.2 th' rk ro rm rr (fun _ => im) (fun y => absurd al y) (fun _ W a1 a2 a3 a4 a5 a6 => ⟨rfl, a1, a2, a3, a4, a5, a6⟩))
      rw [e1] at rn
      obtain ⟨ss', C', w', nw', ez, gC', L', R', G'⟩ := hR.told h hT og th pw ins hl po gN' nv n1 n2 n3 n4
      obtain ⟨x2, W2, _, _, ⟨f1, f2⟩, ex2⟩ := L'.N2 (C := C') (N := N) (d := 84) (key := q_Model_alike) (vs := [.ref 222, ax_i k, ax_i o, ax_i most]) (Φ := fun x W => x = r ∧ W = N') gC' gN (ax_I.run rn (Nat.le_refl _) rr gN' ⟨rfl, rfl⟩)
      rw [f1, f2] at ex2
      rw [ez] at ex
      exact ⟨r, ss', C', N', w', nw', _, _, rr, ex, ex2, L', R', G'⟩
end Proves
