/-! THE LAW'S LOOP: module, out, flow -/
theorem l_cmp (x : Int64) : lg_cmp x x = 0 := by
  unfold lg_cmp
  simp
theorem l_lal {sc : ai_SC} {d pc : Nat} {L : List (Option Value)} {st : List Value} {z : List va_E} {f : Nat → Int64} {q : ai_R} (hf : ai_In m_Law_law pc .laload) (hb : z[314]? = some (y_bx f)) (h : ai_Rn sc ai_P0 d m_Law_law (pc + 1, L, .long (f 0) :: st, z) q) : ai_Rn sc ai_P0 d m_Law_law (pc, L, ax_i 0 :: .ref 314 :: st, z) q := by
  refine ai_Rn.world (pc' := pc + 1) (st' := .long (f 0) :: st) (z' := z) hf rfl ?_ h
  have hb' : z[314]? = some (.inl (3, 1, .inr (.inl f))) := hb
  show ai_lald pc (.int (Int32.ofInt 0) :: .ref 314 :: st) z = _
  unfold ai_lald
  simp only [hb']
  rw [if_pos ⟨trivial, by decide⟩]
  rfl
section LawThrows
variable {b n d : Nat} {xs : Nat → Int32} {z z1 z2 : List va_E} {gs hs : List Value} {i r t : Int} {y5 y6 : Option Value} {q : ai_R} {f : Nat → Int64}
set_option maxRecDepth 100000 in
theorem l_module (hn : n ≤ 2048) (hi : 0 ≤ i ∧ i + 4 ≤ (n : Int)) (ht : t = 0 ∨ t = 1) (h1 : z1[222]? = some (.inr (12, gs))) (h2 : z2[222]? = some (.inr (12, hs))) (c1 : ai_Ex ai_P0 d q_Law_module [.ref 0, .ref 314] z (some (ax_i t), z1)) (c2 : ai_Ex ai_P0 d q_Model_module [.ref 222] z1 (some (ax_i r), z2)) (c3 : ai_Ex ai_P0 d q_Model_thrown [.ref 222] z2 (some (ax_i t), z2)) (bx : t = 0 → z2[314]? = some (y_bx f) ∧ f 0 = (Int32.ofInt r).toInt64) (k : ai_Rn (some (b, n, xs)) ai_P0 d m_Law_law (814, [some (.retAddr b), some (.ref 0), some (.ref 222), some (.ref 314), some (ax_i i), some (ax_i t), some (ax_i r)], [], z2) q) : ai_Rn (some (b, n, xs)) ai_P0 d m_Law_law (189, [some (.retAddr b), some (.ref 0), some (.ref 222), some (.ref 314), some (ax_i i), y5, y6], [], z) q := by
  have rt : ax_rg t := by rcases ht with e | e <;> rw [e] <;> decide
  refine ai_mv_Rn 1 (189, [some (.retAddr b), some (.ref 0), some (.ref 222), some (.ref 314), some (ax_i i), y5, y6], []) (190, [some (.retAddr b), some (.ref 0), some (.ref 222), some (.ref 314), some (ax_i i), y5, y6], [.ref 0]) rfl ?_
  refine ai_mv_Rn 1 (190, [some (.retAddr b), some (.ref 0), some (.ref 222), some (.ref 314), some (ax_i i), y5, y6], [.ref 0]) (191, [some (.retAddr b), some (.ref 0), some (.ref 222), some (.ref 314), some (ax_i i), y5, y6], [.ref 314, .ref 0]) rfl ?_
  refine ai_Rn.calls (pc := 191) (v := some (ax_i t)) ⟨_, rfl⟩ lk_15_35 (Nat.le_of_ble_eq_true rfl) (Nat.le_of_ble_eq_true rfl) (ai_nt_i _) c1 ?_
  refine ai_mv_Rn 2 (194, [some (.retAddr b), some (.ref 0), some (.ref 222), some (.ref 314), some (ax_i i), y5, y6], [ax_i t]) (197, [some (.retAddr b), some (.ref 0), some (.ref 222), some (.ref 314), some (ax_i i), some (ax_i t), y6], [.ref 222]) rfl ?_
  refine ai_Rn.callv (pc := 197) (v := some (ax_i r)) (rest := []) ⟨_, rfl⟩ lk_15_40 rfl h1 (Nat.le_of_ble_eq_true rfl) (ai_nt_i _) c2 ?_
  refine ai_mv_Rn 2 (200, [some (.retAddr b), some (.ref 0), some (.ref 222), some (.ref 314), some (ax_i i), some (ax_i t), y6], [ax_i r]) (203, [some (.retAddr b), some (.ref 0), some (.ref 222), some (.ref 314), some (ax_i i), some (ax_i t), some (ax_i r)], [.ref 222]) rfl ?_
  refine ai_Rn.callv (pc := 203) (v := some (ax_i t)) (rest := []) ⟨_, rfl⟩ lk_15_41 rfl h2 (Nat.le_of_ble_eq_true rfl) (ai_nt_i _) c3 ?_
  refine ai_mv_Rn 1 (206, [some (.retAddr b), some (.ref 0), some (.ref 222), some (.ref 314), some (ax_i i), some (ax_i t), some (ax_i r)], [ax_i t]) (208, [some (.retAddr b), some (.ref 0), some (.ref 222), some (.ref 314), some (ax_i i), some (ax_i t), some (ax_i r)], [ax_i t, ax_i t]) rfl ?_
  refine l_c2 (k := .eq) (pc := 208) (p1 := 213) ⟨_, rfl⟩ (by decide) rt rt (fun _ => ?_) (fun y => absurd rfl y)
  refine ai_mv_Rn 1 (213, [some (.retAddr b), some (.ref 0), some (.ref 222), some (.ref 314), some (ax_i i), some (ax_i t), some (ax_i r)], []) (215, [some (.retAddr b), some (.ref 0), some (.ref 222), some (.ref 314), some (ax_i i), some (ax_i t), some (ax_i r)], [ax_i t]) rfl ?_
  have last : ai_Rn (some (b, n, xs)) ai_P0 d m_Law_law (230, [some (.retAddr b), some (.ref 0), some (.ref 222), some (.ref 314), some (ax_i i), some (ax_i t), some (ax_i r)], [], z2) q := ai_mv_Rn 1 (230, [some (.retAddr b), some (.ref 0), some (.ref 222), some (.ref 314), some (ax_i i), some (ax_i t), some (ax_i r)], []) (814, [some (.retAddr b), some (.ref 0), some (.ref 222), some (.ref 314), some (ax_i i), some (ax_i t), some (ax_i r)], []) rfl k
  refine l_c0 (k := .ne) (pc := 215) (p1 := 230) ⟨_, rfl⟩ (by decide) rt (fun _ => last) (fun y => ?_)
  have t0 : t = 0 := by
    rcases ht with e | e
    · exact e
    · exact absurd (show ¬ t = 0 by omega) y
  obtain ⟨hb, f0⟩ := bx t0
  refine ai_mv_Rn 2 (218, [some (.retAddr b), some (.ref 0), some (.ref 222), some (.ref 314), some (ax_i i), some (ax_i t), some (ax_i r)], []) (220, [some (.retAddr b), some (.ref 0), some (.ref 222), some (.ref 314), some (ax_i i), some (ax_i t), some (ax_i r)], [ax_i 0, .ref 314]) rfl ?_
  refine l_lal (pc := 220) ⟨_, rfl⟩ hb ?_
  rw [f0]
  refine ai_mv_Rn 3 (221, [some (.retAddr b), some (.ref 0), some (.ref 222), some (.ref 314), some (ax_i i), some (ax_i t), some (ax_i r)], [.long (Int32.ofInt r).toInt64]) (225, [some (.retAddr b), some (.ref 0), some (.ref 222), some (.ref 314), some (ax_i i), some (ax_i t), some (ax_i r)], [.int (lg_cmp (Int32.ofInt r).toInt64 (Int32.ofInt r).toInt64)]) rfl ?_
  rw [l_cmp]
  exact l_c0 (k := .eq) (x := 0) (pc := 225) (p1 := 230) ⟨_, rfl⟩ (by decide) (by decide) (fun _ => last) (fun y => absurd rfl y)
set_option maxRecDepth 100000 in
theorem l_out (hn : n ≤ 2048) (hi : 0 ≤ i ∧ i + 4 ≤ (n : Int)) (ht : t = 0 ∨ t = 1) (h1 : z1[222]? = some (.inr (12, gs))) (h2 : z2[222]? = some (.inr (12, hs))) (c1 : ai_Ex ai_P0 d q_Law_out [.ref 0, ax_i (l_x xs (i + 1)), ax_i (l_x xs (i + 2)), .ref 314] z (some (ax_i t), z1)) (c2 : ai_Ex ai_P0 d q_Model_out [.ref 222, ax_i (l_x xs (i + 1)), ax_i (l_x xs (i + 2))] z1 (some (ax_i r), z2)) (c3 : ai_Ex ai_P0 d q_Model_thrown [.ref 222] z2 (some (ax_i t), z2)) (bx : t = 0 → z2[314]? = some (y_bx f) ∧ f 0 = (Int32.ofInt r).toInt64) (k : ai_Rn (some (b, n, xs)) ai_P0 d m_Law_law (814, [some (.retAddr b), some (.ref 0), some (.ref 222), some (.ref 314), some (ax_i i), some (ax_i t), some (ax_i r)], [], z2) q) : ai_Rn (some (b, n, xs)) ai_P0 d m_Law_law (394, [some (.retAddr b), some (.ref 0), some (.ref 222), some (.ref 314), some (ax_i i), y5, y6], [], z) q := by
  have rt : ax_rg t := by rcases ht with e | e <;> rw [e] <;> decide
  refine ai_mv_Rn 1 (394, [some (.retAddr b), some (.ref 0), some (.ref 222), some (.ref 314), some (ax_i i), y5, y6], []) (395, [some (.retAddr b), some (.ref 0), some (.ref 222), some (.ref 314), some (ax_i i), y5, y6], [.ref 0]) rfl ?_
  refine l_arg (pc := 395) (t := 1) hn ⟨by omega, by omega⟩ rfl ⟨_, rfl⟩ ⟨_, rfl⟩ ?_
  refine l_arg (pc := 401) (t := 2) hn ⟨by omega, by omega⟩ rfl ⟨_, rfl⟩ ⟨_, rfl⟩ ?_
  refine ai_mv_Rn 1 (407, [some (.retAddr b), some (.ref 0), some (.ref 222), some (.ref 314), some (ax_i i), y5, y6], [ax_i (l_x xs (i + 2)), ax_i (l_x xs (i + 1)), .ref 0]) (408, [some (.retAddr b), some (.ref 0), some (.ref 222), some (.ref 314), some (ax_i i), y5, y6], [.ref 314, ax_i (l_x xs (i + 2)), ax_i (l_x xs (i + 1)), .ref 0]) rfl ?_
  refine ai_Rn.calls (pc := 408) (v := some (ax_i t)) ⟨_, rfl⟩ lk_15_66 (Nat.le_of_ble_eq_true rfl) (Nat.le_of_ble_eq_true rfl) (ai_nt_i _) c1 ?_
  refine ai_mv_Rn 2 (411, [some (.retAddr b), some (.ref 0), some (.ref 222), some (.ref 314), some (ax_i i), y5, y6], [ax_i t]) (414, [some (.retAddr b), some (.ref 0), some (.ref 222), some (.ref 314), some (ax_i i), some (ax_i t), y6], [.ref 222]) rfl ?_
  refine l_arg (pc := 414) (t := 1) hn ⟨by omega, by omega⟩ rfl ⟨_, rfl⟩ ⟨_, rfl⟩ ?_
  refine l_arg (pc := 420) (t := 2) hn ⟨by omega, by omega⟩ rfl ⟨_, rfl⟩ ⟨_, rfl⟩ ?_
  refine ai_Rn.callv (pc := 426) (v := some (ax_i r)) (rest := []) ⟨_, rfl⟩ lk_15_69 rfl h1 (Nat.le_of_ble_eq_true rfl) (ai_nt_i _) c2 ?_
  refine ai_mv_Rn 2 (429, [some (.retAddr b), some (.ref 0), some (.ref 222), some (.ref 314), some (ax_i i), some (ax_i t), y6], [ax_i r]) (432, [some (.retAddr b), some (.ref 0), some (.ref 222), some (.ref 314), some (ax_i i), some (ax_i t), some (ax_i r)], [.ref 222]) rfl ?_
  refine ai_Rn.callv (pc := 432) (v := some (ax_i t)) (rest := []) ⟨_, rfl⟩ lk_15_41 rfl h2 (Nat.le_of_ble_eq_true rfl) (ai_nt_i _) c3 ?_
  refine ai_mv_Rn 1 (435, [some (.retAddr b), some (.ref 0), some (.ref 222), some (.ref 314), some (ax_i i), some (ax_i t), some (ax_i r)], [ax_i t]) (437, [some (.retAddr b), some (.ref 0), some (.ref 222), some (.ref 314), some (ax_i i), some (ax_i t), some (ax_i r)], [ax_i t, ax_i t]) rfl ?_
  refine l_c2 (k := .eq) (pc := 437) (p1 := 442) ⟨_, rfl⟩ (by decide) rt rt (fun _ => ?_) (fun y => absurd rfl y)
  refine ai_mv_Rn 1 (442, [some (.retAddr b), some (.ref 0), some (.ref 222), some (.ref 314), some (ax_i i), some (ax_i t), some (ax_i r)], []) (444, [some (.retAddr b), some (.ref 0), some (.ref 222), some (.ref 314), some (ax_i i), some (ax_i t), some (ax_i r)], [ax_i t]) rfl ?_
  have last : ai_Rn (some (b, n, xs)) ai_P0 d m_Law_law (459, [some (.retAddr b), some (.ref 0), some (.ref 222), some (.ref 314), some (ax_i i), some (ax_i t), some (ax_i r)], [], z2) q := ai_mv_Rn 1 (459, [some (.retAddr b), some (.ref 0), some (.ref 222), some (.ref 314), some (ax_i i), some (ax_i t), some (ax_i r)], []) (814, [some (.retAddr b), some (.ref 0), some (.ref 222), some (.ref 314), some (ax_i i), some (ax_i t), some (ax_i r)], []) rfl k
  refine l_c0 (k := .ne) (pc := 444) (p1 := 459) ⟨_, rfl⟩ (by decide) rt (fun _ => last) (fun y => ?_)
  have t0 : t = 0 := by
    rcases ht with e | e
    · exact e
    · exact absurd (show ¬ t = 0 by omega) y
  obtain ⟨hb, f0⟩ := bx t0
  refine ai_mv_Rn 2 (447, [some (.retAddr b), some (.ref 0), some (.ref 222), some (.ref 314), some (ax_i i), some (ax_i t), some (ax_i r)], []) (449, [some (.retAddr b), some (.ref 0), some (.ref 222), some (.ref 314), some (ax_i i), some (ax_i t), some (ax_i r)], [ax_i 0, .ref 314]) rfl ?_
  refine l_lal (pc := 449) ⟨_, rfl⟩ hb ?_
  rw [f0]
  refine ai_mv_Rn 3 (450, [some (.retAddr b), some (.ref 0), some (.ref 222), some (.ref 314), some (ax_i i), some (ax_i t), some (ax_i r)], [.long (Int32.ofInt r).toInt64]) (454, [some (.retAddr b), some (.ref 0), some (.ref 222), some (.ref 314), some (ax_i i), some (ax_i t), some (ax_i r)], [.int (lg_cmp (Int32.ofInt r).toInt64 (Int32.ofInt r).toInt64)]) rfl ?_
  rw [l_cmp]
  exact l_c0 (k := .eq) (x := 0) (pc := 454) (p1 := 459) ⟨_, rfl⟩ (by decide) (by decide) (fun _ => last) (fun y => absurd rfl y)
set_option maxRecDepth 100000 in
theorem l_flow (hn : n ≤ 2048) (hi : 0 ≤ i ∧ i + 4 ≤ (n : Int)) (ht : t = 0 ∨ t = 1) (h1 : z1[222]? = some (.inr (12, gs))) (h2 : z2[222]? = some (.inr (12, hs))) (c1 : ai_Ex ai_P0 d q_Law_flow [.ref 0, ax_i (l_x xs (i + 1)), ax_i (l_x xs (i + 2)), .ref 314] z (some (ax_i t), z1)) (c2 : ai_Ex ai_P0 d q_Model_flow [.ref 222, ax_i (l_x xs (i + 1)), ax_i (l_x xs (i + 2))] z1 (some (ax_i r), z2)) (c3 : ai_Ex ai_P0 d q_Model_thrown [.ref 222] z2 (some (ax_i t), z2)) (bx : t = 0 → z2[314]? = some (y_bx f) ∧ f 0 = (Int32.ofInt r).toInt64) (k : ai_Rn (some (b, n, xs)) ai_P0 d m_Law_law (814, [some (.retAddr b), some (.ref 0), some (.ref 222), some (.ref 314), some (ax_i i), some (ax_i t), some (ax_i r)], [], z2) q) : ai_Rn (some (b, n, xs)) ai_P0 d m_Law_law (462, [some (.retAddr b), some (.ref 0), some (.ref 222), some (.ref 314), some (ax_i i), y5, y6], [], z) q := by
  have rt : ax_rg t := by rcases ht with e | e <;> rw [e] <;> decide
  refine ai_mv_Rn 1 (462, [some (.retAddr b), some (.ref 0), some (.ref 222), some (.ref 314), some (ax_i i), y5, y6], []) (463, [some (.retAddr b), some (.ref 0), some (.ref 222), some (.ref 314), some (ax_i i), y5, y6], [.ref 0]) rfl ?_
  refine l_arg (pc := 463) (t := 1) hn ⟨by omega, by omega⟩ rfl ⟨_, rfl⟩ ⟨_, rfl⟩ ?_
  refine l_arg (pc := 469) (t := 2) hn ⟨by omega, by omega⟩ rfl ⟨_, rfl⟩ ⟨_, rfl⟩ ?_
  refine ai_mv_Rn 1 (475, [some (.retAddr b), some (.ref 0), some (.ref 222), some (.ref 314), some (ax_i i), y5, y6], [ax_i (l_x xs (i + 2)), ax_i (l_x xs (i + 1)), .ref 0]) (476, [some (.retAddr b), some (.ref 0), some (.ref 222), some (.ref 314), some (ax_i i), y5, y6], [.ref 314, ax_i (l_x xs (i + 2)), ax_i (l_x xs (i + 1)), .ref 0]) rfl ?_
  refine ai_Rn.calls (pc := 476) (v := some (ax_i t)) ⟨_, rfl⟩ lk_15_70 (Nat.le_of_ble_eq_true rfl) (Nat.le_of_ble_eq_true rfl) (ai_nt_i _) c1 ?_
  refine ai_mv_Rn 2 (479, [some (.retAddr b), some (.ref 0), some (.ref 222), some (.ref 314), some (ax_i i), y5, y6], [ax_i t]) (482, [some (.retAddr b), some (.ref 0), some (.ref 222), some (.ref 314), some (ax_i i), some (ax_i t), y6], [.ref 222]) rfl ?_
  refine l_arg (pc := 482) (t := 1) hn ⟨by omega, by omega⟩ rfl ⟨_, rfl⟩ ⟨_, rfl⟩ ?_
  refine l_arg (pc := 488) (t := 2) hn ⟨by omega, by omega⟩ rfl ⟨_, rfl⟩ ⟨_, rfl⟩ ?_
  refine ai_Rn.callv (pc := 494) (v := some (ax_i r)) (rest := []) ⟨_, rfl⟩ lk_15_72 rfl h1 (Nat.le_of_ble_eq_true rfl) (ai_nt_i _) c2 ?_
  refine ai_mv_Rn 2 (497, [some (.retAddr b), some (.ref 0), some (.ref 222), some (.ref 314), some (ax_i i), some (ax_i t), y6], [ax_i r]) (500, [some (.retAddr b), some (.ref 0), some (.ref 222), some (.ref 314), some (ax_i i), some (ax_i t), some (ax_i r)], [.ref 222]) rfl ?_
  refine ai_Rn.callv (pc := 500) (v := some (ax_i t)) (rest := []) ⟨_, rfl⟩ lk_15_41 rfl h2 (Nat.le_of_ble_eq_true rfl) (ai_nt_i _) c3 ?_
  refine ai_mv_Rn 1 (503, [some (.retAddr b), some (.ref 0), some (.ref 222), some (.ref 314), some (ax_i i), some (ax_i t), some (ax_i r)], [ax_i t]) (505, [some (.retAddr b), some (.ref 0), some (.ref 222), some (.ref 314), some (ax_i i), some (ax_i t), some (ax_i r)], [ax_i t, ax_i t]) rfl ?_
  refine l_c2 (k := .eq) (pc := 505) (p1 := 510) ⟨_, rfl⟩ (by decide) rt rt (fun _ => ?_) (fun y => absurd rfl y)
  refine ai_mv_Rn 1 (510, [some (.retAddr b), some (.ref 0), some (.ref 222), some (.ref 314), some (ax_i i), some (ax_i t), some (ax_i r)], []) (512, [some (.retAddr b), some (.ref 0), some (.ref 222), some (.ref 314), some (ax_i i), some (ax_i t), some (ax_i r)], [ax_i t]) rfl ?_
  have last : ai_Rn (some (b, n, xs)) ai_P0 d m_Law_law (527, [some (.retAddr b), some (.ref 0), some (.ref 222), some (.ref 314), some (ax_i i), some (ax_i t), some (ax_i r)], [], z2) q := ai_mv_Rn 1 (527, [some (.retAddr b), some (.ref 0), some (.ref 222), some (.ref 314), some (ax_i i), some (ax_i t), some (ax_i r)], []) (814, [some (.retAddr b), some (.ref 0), some (.ref 222), some (.ref 314), some (ax_i i), some (ax_i t), some (ax_i r)], []) rfl k
  refine l_c0 (k := .ne) (pc := 512) (p1 := 527) ⟨_, rfl⟩ (by decide) rt (fun _ => last) (fun y => ?_)
  have t0 : t = 0 := by
    rcases ht with e | e
    · exact e
    · exact absurd (show ¬ t = 0 by omega) y
  obtain ⟨hb, f0⟩ := bx t0
  refine ai_mv_Rn 2 (515, [some (.retAddr b), some (.ref 0), some (.ref 222), some (.ref 314), some (ax_i i), some (ax_i t), some (ax_i r)], []) (517, [some (.retAddr b), some (.ref 0), some (.ref 222), some (.ref 314), some (ax_i i), some (ax_i t), some (ax_i r)], [ax_i 0, .ref 314]) rfl ?_
  refine l_lal (pc := 517) ⟨_, rfl⟩ hb ?_
  rw [f0]
  refine ai_mv_Rn 3 (518, [some (.retAddr b), some (.ref 0), some (.ref 222), some (.ref 314), some (ax_i i), some (ax_i t), some (ax_i r)], [.long (Int32.ofInt r).toInt64]) (522, [some (.retAddr b), some (.ref 0), some (.ref 222), some (.ref 314), some (ax_i i), some (ax_i t), some (ax_i r)], [.int (lg_cmp (Int32.ofInt r).toInt64 (Int32.ofInt r).toInt64)]) rfl ?_
  rw [l_cmp]
  exact l_c0 (k := .eq) (x := 0) (pc := 522) (p1 := 527) ⟨_, rfl⟩ (by decide) (by decide) (fun _ => last) (fun y => absurd rfl y)
end LawThrows
