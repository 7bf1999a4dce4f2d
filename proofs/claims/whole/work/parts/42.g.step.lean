/-! THE LAW'S LOOP: one step keeps all -/
theorem l_upd0 (f : Nat → Int64) (x : Int64) : vp_updL f 0 x 0 = x := by
  unfold vp_updL
  simp
def l_I (k : Nat) (ss : List ax_S) (C N : ax_V) : Prop := ∃ (B Sp w nw : Nat) (m p : Value) (f : Nat → Int64), y_L B Sp w nw m p ss ∧ y_RL B Sp nw ss C N (k : Int) ∧ ss[314]? = some (.inl (y_bx f)) ∧ ss.length ≤ 315 + 4 * k ∧ y_c ss ≤ 400000 + 40 * k + 2 * nw + (if nw < 180000 then 0 else 180000)
section LawStep
variable {B Sp w nw n b : Nat} {m p : Value} {ss : List ax_S} {C N : ax_V} {T T' i : Int} {xs : Nat → Int32} {q : ai_R}
theorem y_RL.up (hR : y_RL B Sp nw ss C N T) (hT : T ≤ T') : y_RL B Sp nw ss C N T' := hR.th (hR.gN _ _) (show N = ax_u N 222 0 (N 222 0) from funext fun c => funext fun j => by
  by_cases z : c = 222 ∧ j = 0
  · rw [z.1, z.2, ax_u_s]
  · rw [ax_u_o z]) hT
/-- Model.thrown -/
theorem s_thrown (h : y_L B Sp w nw m p ss) : ai_Ex ai_P0 1 q_Model_thrown [.ref 222] (ax_w ss (y_n C N)) (some (ax_i (N 222 0)), ax_w ss (y_n C N)) := by
  obtain ⟨r, z, ⟨e1, e2⟩, ex⟩ : ax_E ss 1 q_Model_thrown [.ref 222] (y_n C N) (fun r z => r = some (ax_i (N 222 0)) ∧ z = ax_w ss (y_n C N)) := by
    refine ax_E.of (d := 0) (M := m_Model_thrown) rfl (Nat.le_of_ble_eq_true rfl) ?_
    refine ax_Q.mv 1 1 [some (.ref 222)] [.ref 222] rfl ?_
    refine ax_Q.gI (id := 222) (kI := 0) (pc' := 4) ⟨_, rfl⟩ fk_12_285 (h.2.2.2.2.2 0 _ rfl) rfl rfl rfl ?_
    rw [y_n_k (c := 222) (by decide)]
    exact ax_Q.iret ⟨_, rfl⟩ rfl rfl ⟨rfl, rfl⟩
  rw [e1, e2] at ex
  exact ex
theorem y_L.m222 (h : y_L B Sp w nw m p ss) (V : ax_V) : ∃ gs, (ax_w ss V)[222]? = some (.inr (12, gs)) := ⟨_, ax_w_get (h.2.2.2.2.2 0 _ rfl)⟩
theorem y_L.h0 (h : y_L B Sp w nw m p ss) (V : ax_V) : ∃ fs, (ax_w ss V)[0]? = some (.inr (11, fs)) := ⟨_, ax_w_get (h.at 0 rfl)⟩
theorem l_rg (j : Int) : ax_rg (l_x xs j) := ax_rg_of _
set_option maxHeartbeats 2000000 in
theorem l_step {k : Nat} {y5 y6 : Option Value} (hk : k ≤ 1000) (hn : n ≤ 2048) (hi : 0 ≤ i ∧ i + 4 ≤ (n : Int)) (I : l_I k ss C N) : ∀ pc, pc ∈ [120, 189, 233, 258, 295, 320, 369, 394, 462, 530, 567, 592, 629, 666, 715, 764, 789, 814] → ∃ (ss' : List ax_S) (C' N' : ax_V) (a5 a6 : Option Value), l_I (k + 1) ss' C' N' ∧ ∀ q, ai_Rn (some (b, n, xs)) ai_P0 430 m_Law_law (814, [some (.retAddr b), some (.ref 0), some (.ref 222), some (.ref 314), some (ax_i i), a5, a6], [], ax_w ss' (y_n C' N')) q → ai_Rn (some (b, n, xs)) ai_P0 430 m_Law_law (pc, [some (.retAddr b), some (.ref 0), some (.ref 222), some (.ref 314), some (ax_i i), y5, y6], [], ax_w ss (y_n C N)) q := by
  obtain ⟨B, Sp, w, nw, m, p, f, h, hR, hb, hl, hc⟩ := I
  have hT : (k : Int) ≤ ((k + 1 : Nat) : Int) := by omega
  obtain ⟨fs, h0⟩ := h.h0 (y_n C N)
  have one : ∀ {C' N' : ax_V}, y_RL B Sp nw ss C' N' ((k + 1 : Nat) : Int) → l_I (k + 1) ss C' N' := fun R' => ⟨B, Sp, w, nw, m, p, f, h, R', hb, by omega, by omega⟩
  intro pc hpc
  simp only [List.mem_cons, List.not_mem_nil, or_false] at hpc
  rcases hpc with e | e | e | e | e | e | e | e | e | e | e | e | e | e | e | e | e | e <;> rw [e]
  · obtain ⟨r, C', N', rr, e1, e2, R'⟩ := y_type (T' := ((k + 1 : Nat) : Int)) (a := l_a (l_x xs (i + 1)) (l_x xs (i + 2))) (n := l_x xs (i + 3)) h hR hT (l_rg _)
    obtain ⟨gs, h1⟩ := h.m222 (y_n C' N)
    exact ⟨ss, C', N', y5, y6, one R', fun q kk => l_type hn hi rr h0 h1 (e1.up (by decide)) (e2.up (by decide)) kk⟩
  · obtain ⟨r, ss', C', C2, N', B', Sp', res, rr, e1, e2, L', R', ⟨l1, l2, l3⟩, cs⟩ := y_module (T' := ((k + 1 : Nat) : Int)) h hR hT
    have hb' : ss'[314]? = some (.inl (y_bx f)) := l3 314 _ hb
    rcases cs with ⟨er, n0, any⟩ | ⟨a, er, ea, n0⟩
    · rw [er] at e1
      have bw := ax_w_bx (V := y_n C' N) (f' := vp_updL f 0 (Int32.ofInt r).toInt64) hb'
      have c1 := l_module_ok h0 e1 bw.1
      rw [bw.2] at c1
      have Lb := L'.bx (f' := vp_updL f 0 (Int32.ofInt r).toInt64) hb'
      have Rb := R'.bx (f' := vp_updL f 0 (Int32.ofInt r).toInt64) L' hb'
      obtain ⟨gs, h1⟩ := Lb.m222 (y_n C' N)
      obtain ⟨hs, h2⟩ := Lb.m222 (y_n C2 N')
      have c3 := s_thrown (C := C2) (N := N') Lb
      rw [n0] at c3
      have hb2 : (ss'.set 314 (.inl (y_bx (vp_updL f 0 (Int32.ofInt r).toInt64))))[314]? = some (.inl (y_bx (vp_updL f 0 (Int32.ofInt r).toInt64))) := ax_set_get hb'
      refine ⟨_, C2, N', _, _, ⟨B', Sp', w, nw, m, p, _, Lb, Rb, hb2, ?_, ?_⟩, fun q kk => l_module (t := 0) (f := vp_updL f 0 (Int32.ofInt r).toInt64) hn hi (Or.inl rfl) h1 h2 (c1.up (by decide)) ((any _ Lb).up (by decide)) (c3.up (by decide)) (fun _ => ⟨ax_w_get hb2, l_upd0 f _⟩) kk⟩
      · rw [List.length_set]; omega
      · rw [y_c_bx hb']; omega
    · rw [er] at e1
      have c1 := l_module_no h0 e1 (ax_w_get ea)
      obtain ⟨gs, h1⟩ := L'.m222 (y_n C' N)
      obtain ⟨hs, h2⟩ := L'.m222 (y_n C2 N')
      have c3 := s_thrown (C := C2) (N := N') L'
      rw [n0] at c3
      exact ⟨_, C2, N', _, _, ⟨B', Sp', w, nw, m, p, f, L', R', hb', by omega, by omega⟩, fun q kk => l_module (t := 1) (f := f) hn hi (Or.inr rfl) h1 h2 (c1.up (by decide)) (e2.up (by decide)) (c3.up (by decide)) (fun y => absurd y (by decide)) kk⟩
  · obtain ⟨r, C', N', rr, e1, e2, R'⟩ := y_fault (T' := ((k + 1 : Nat) : Int)) (x := l_x xs (i + 1)) h hR hT (l_rg _)
    obtain ⟨gs, h1⟩ := h.m222 (y_n C' N)
    exact ⟨ss, C', N', y5, y6, one R', fun q kk => l_fault hn hi rr h0 h1 (e1.up (by decide)) (e2.up (by decide)) kk⟩
  · obtain ⟨r, C', N', rr, e1, e2, R'⟩ := y_node (T' := ((k + 1 : Nat) : Int)) (k := l_x xs (i + 1)) (x := l_x xs (i + 2)) h hR hT (l_rg _) (l_rg _)
    obtain ⟨gs, h1⟩ := h.m222 (y_n C' N)
    exact ⟨ss, C', N', y5, y6, one R', fun q kk => l_node hn hi rr h0 h1 (e1.up (by decide)) (e2.up (by decide)) kk⟩
  · obtain ⟨r, C', N', rr, e1, e2, R'⟩ := y_make (T' := ((k + 1 : Nat) : Int)) (k := l_x xs (i + 1)) h hR hT (by omega) (l_rg _)
    obtain ⟨gs, h1⟩ := h.m222 (y_n C' N)
    exact ⟨ss, C', N', y5, y6, one R', fun q kk => l_make hn hi rr h0 h1 (e1.up (by decide)) (e2.up (by decide)) kk⟩
  · obtain ⟨r, C', N', rr, e1, e2, R'⟩ := y_put (T' := ((k + 1 : Nat) : Int)) (x := l_x xs (i + 1)) (i := l_x xs (i + 2)) (v := l_x xs (i + 3)) h hR hT (l_rg _) (l_rg _) (l_rg _)
    obtain ⟨gs, h1⟩ := h.m222 (y_n C' N)
    exact ⟨ss, C', N', y5, y6, one R', fun q kk => l_put hn hi rr h0 h1 (e1.up (by decide)) (e2.up (by decide)) kk⟩
  · obtain ⟨r, C', N', rr, e1, e2, R'⟩ := y_tick (T' := ((k + 1 : Nat) : Int)) (x := l_x xs (i + 1)) h hR (by omega) ⟨by omega, by omega⟩ (l_rg _)
    obtain ⟨gs, h1⟩ := h.m222 (y_n C' N)
    exact ⟨ss, C', N', y5, y6, one R', fun q kk => l_tick hn hi rr h0 h1 (e1.up (by decide)) (e2.up (by decide)) kk⟩
  · obtain ⟨r, N', rr, cs⟩ := y_out (T' := ((k + 1 : Nat) : Int)) (x := l_x xs (i + 1)) (i := l_x xs (i + 2)) h hR hT (l_rg _) (l_rg _)
    rcases cs with ⟨e1, e2, R', n0, any⟩ | ⟨e1, e2, L', R', n0⟩
    · have bw := ax_w_bx (V := y_n C N) (f' := vp_updL f 0 (Int32.ofInt r).toInt64) hb
      have c1 := l_out_ok h0 e1 bw.1
      rw [bw.2] at c1
      have Lb := h.bx (f' := vp_updL f 0 (Int32.ofInt r).toInt64) hb
      have Rb := R'.bx (f' := vp_updL f 0 (Int32.ofInt r).toInt64) h hb
      obtain ⟨gs, h1⟩ := Lb.m222 (y_n C N)
      obtain ⟨hs, h2⟩ := Lb.m222 (y_n C N')
      have c3 := s_thrown (C := C) (N := N') Lb
      rw [n0] at c3
      have hb2 : (ss.set 314 (.inl (y_bx (vp_updL f 0 (Int32.ofInt r).toInt64))))[314]? = some (.inl (y_bx (vp_updL f 0 (Int32.ofInt r).toInt64))) := ax_set_get hb
      refine ⟨_, C, N', _, _, ⟨B, Sp, w, nw, m, p, _, Lb, Rb, hb2, ?_, ?_⟩, fun q kk => l_out (t := 0) (f := vp_updL f 0 (Int32.ofInt r).toInt64) hn hi (Or.inl rfl) h1 h2 (c1.up (by decide)) ((any _ Lb).up (by decide)) (c3.up (by decide)) (fun _ => ⟨ax_w_get hb2, l_upd0 f _⟩) kk⟩
      · rw [List.length_set]; omega
      · rw [y_c_bx hb]; omega
    · have c1 := l_out_no h0 e1 (ax_w_get (y_glast _))
      obtain ⟨gs, h1⟩ := L'.m222 (y_n C N)
      obtain ⟨hs, h2⟩ := L'.m222 (y_n C N')
      have c3 := s_thrown (C := C) (N := N') L'
      rw [n0] at c3
      refine ⟨_, C, N', _, _, ⟨B, Sp, w, nw, m, p, f, L', R', y_app hb, ?_, ?_⟩, fun q kk => l_out (t := 1) (f := f) hn hi (Or.inr rfl) h1 h2 (c1.up (by decide)) (e2.up (by decide)) (c3.up (by decide)) (fun y => absurd y (by decide)) kk⟩
      · rw [List.length_append]
        show ss.length + 1 ≤ _
        omega
      · rw [y_c_app]
        show y_c ss + 6 ≤ _
        omega
  · obtain ⟨r, N', rr, cs⟩ := y_flow (T' := ((k + 1 : Nat) : Int)) (x := l_x xs (i + 1)) (i := l_x xs (i + 2)) h hR hT (l_rg _) (l_rg _)
    rcases cs with ⟨e1, e2, R', n0, any⟩ | ⟨e1, e2, L', R', n0⟩
    · have bw := ax_w_bx (V := y_n C N) (f' := vp_updL f 0 (Int32.ofInt r).toInt64) hb
      have c1 := l_flow_ok h0 e1 bw.1
      rw [bw.2] at c1
      have Lb := h.bx (f' := vp_updL f 0 (Int32.ofInt r).toInt64) hb
      have Rb := R'.bx (f' := vp_updL f 0 (Int32.ofInt r).toInt64) h hb
      obtain ⟨gs, h1⟩ := Lb.m222 (y_n C N)
      obtain ⟨hs, h2⟩ := Lb.m222 (y_n C N')
      have c3 := s_thrown (C := C) (N := N') Lb
      rw [n0] at c3
      have hb2 : (ss.set 314 (.inl (y_bx (vp_updL f 0 (Int32.ofInt r).toInt64))))[314]? = some (.inl (y_bx (vp_updL f 0 (Int32.ofInt r).toInt64))) := ax_set_get hb
      refine ⟨_, C, N', _, _, ⟨B, Sp, w, nw, m, p, _, Lb, Rb, hb2, ?_, ?_⟩, fun q kk => l_flow (t := 0) (f := vp_updL f 0 (Int32.ofInt r).toInt64) hn hi (Or.inl rfl) h1 h2 (c1.up (by decide)) ((any _ Lb).up (by decide)) (c3.up (by decide)) (fun _ => ⟨ax_w_get hb2, l_upd0 f _⟩) kk⟩
      · rw [List.length_set]; omega
      · rw [y_c_bx hb]; omega
    · have c1 := l_flow_no h0 e1 (ax_w_get (y_glast _))
      obtain ⟨gs, h1⟩ := L'.m222 (y_n C N)
      obtain ⟨hs, h2⟩ := L'.m222 (y_n C N')
      have c3 := s_thrown (C := C) (N := N') L'
      rw [n0] at c3
      refine ⟨_, C, N', _, _, ⟨B, Sp, w, nw, m, p, f, L', R', y_app hb, ?_, ?_⟩, fun q kk => l_flow (t := 1) (f := f) hn hi (Or.inr rfl) h1 h2 (c1.up (by decide)) (e2.up (by decide)) (c3.up (by decide)) (fun y => absurd y (by decide)) kk⟩
      · rw [List.length_append]
        show ss.length + 1 ≤ _
        omega
      · rw [y_c_app]
        show y_c ss + 6 ≤ _
        omega
  · obtain ⟨r, C', N', rr, e1, e2, R'⟩ := y_state (T' := ((k + 1 : Nat) : Int)) (x := l_x xs (i + 1)) (k := l_x xs (i + 2)) h hR hT (l_rg _) (l_rg _)
    obtain ⟨gs, h1⟩ := h.m222 (y_n C' N)
    exact ⟨ss, C', N', y5, y6, one R', fun q kk => l_state hn hi rr h0 h1 (e1.up (by decide)) (e2.up (by decide)) kk⟩
  · obtain ⟨r, C', N', rr, e1, e2, R'⟩ := y_ticks (T' := ((k + 1 : Nat) : Int)) (x := l_x xs (i + 1)) h hR hT (l_rg _)
    obtain ⟨gs, h1⟩ := h.m222 (y_n C' N)
    exact ⟨ss, C', N', y5, y6, one R', fun q kk => l_ticks hn hi rr h0 h1 (e1.up (by decide)) (e2.up (by decide)) kk⟩
  · obtain ⟨r, C', N', rr, e1, e2, R'⟩ := y_save (T' := ((k + 1 : Nat) : Int)) (x := l_x xs (i + 1)) (k := l_x xs (i + 2)) h hR hT (l_rg _) (l_rg _)
    obtain ⟨gs, h1⟩ := h.m222 (y_n C' N)
    exact ⟨ss, C', N', y5, y6, one R', fun q kk => l_save hn hi rr h0 h1 (e1.up (by decide)) (e2.up (by decide)) kk⟩
  · obtain ⟨r, C', N', rr, e1, e2, R'⟩ := y_back (T' := ((k + 1 : Nat) : Int)) (x := l_x xs (i + 1)) (k := l_x xs (i + 2)) h hR hT (l_rg _) (l_rg _)
    obtain ⟨gs, h1⟩ := h.m222 (y_n C' N)
    exact ⟨ss, C', N', y5, y6, one R', fun q kk => l_back hn hi rr h0 h1 (e1.up (by decide)) (e2.up (by decide)) kk⟩
  · obtain ⟨r, ss', C', N', w', nw', m', p', rr, e1, e2, L', R', G'⟩ := y_prove (T' := ((k + 1 : Nat) : Int)) (k := l_x xs (i + 1)) (i := l_x xs (i + 2)) (most := l_x xs (i + 3)) h hR hT (l_rg _) (l_rg _) (l_rg _)
    obtain ⟨gs, h1⟩ := L'.m222 (y_n C' N)
    refine ⟨ss', C', N', y5, y6, ⟨B, Sp, w', nw', m', p', f, L', R', G'.1 314 _ hb, ?_, ?_⟩, fun q kk => l_prove hn hi rr h0 h1 (e1.up (by decide)) (e2.up (by decide)) kk⟩
    · rcases G'.2 with g | g <;> omega
    · have nb := hR.2.1
      rcases G'.2 with ⟨g1, g2, g3⟩ | ⟨g1, g2, g3, g4, g5⟩
      · rw [g2, g3]; omega
      · rw [g2]
        rw [if_pos (show nw < 180000 by omega)] at hc
        by_cases y : nw' < 180000
        · rw [if_pos y]; omega
        · rw [if_neg y]; omega
  · obtain ⟨r, ss', C', N', w', nw', m', p', rr, e1, e2, L', R', G'⟩ := y_alike (T' := ((k + 1 : Nat) : Int)) (k := l_x xs (i + 1)) (o := l_x xs (i + 2)) (most := l_x xs (i + 3)) h hR hT (l_rg _) (l_rg _) (l_rg _)
    obtain ⟨gs, h1⟩ := L'.m222 (y_n C' N)
    refine ⟨ss', C', N', y5, y6, ⟨B, Sp, w', nw', m', p', f, L', R', G'.1 314 _ hb, ?_, ?_⟩, fun q kk => l_alike hn hi rr h0 h1 (e1.up (by decide)) (e2.up (by decide)) kk⟩
    · rcases G'.2 with g | g <;> omega
    · have nb := hR.2.1
      rcases G'.2 with ⟨g1, g2, g3⟩ | ⟨g1, g2, g3, g4, g5⟩
      · rw [g2, g3]; omega
      · rw [g2]
        rw [if_pos (show nw < 180000 by omega)] at hc
        by_cases y : nw' < 180000
        · rw [if_pos y]; omega
        · rw [if_neg y]; omega
  · obtain ⟨r, C', N', rr, e1, e2, R'⟩ := y_run (T' := ((k + 1 : Nat) : Int)) (x := l_x xs (i + 1)) h hR hT (l_rg _)
    obtain ⟨gs, h1⟩ := h.m222 (y_n C' N)
    exact ⟨ss, C', N', y5, y6, one R', fun q kk => l_run hn hi rr h0 h1 (e1.up (by decide)) (e2.up (by decide)) kk⟩
  · obtain ⟨r, C', N', rr, e1, e2, R'⟩ := y_total (T' := ((k + 1 : Nat) : Int)) (x := l_x xs (i + 1)) h hR hT (l_rg _)
    obtain ⟨gs, h1⟩ := h.m222 (y_n C' N)
    exact ⟨ss, C', N', y5, y6, one R', fun q kk => l_total hn hi rr h0 h1 (e1.up (by decide)) (e2.up (by decide)) kk⟩
  · exact ⟨ss, C, N, y5, y6, one (hR.up hT), fun q kk => kk⟩
end LawStep
