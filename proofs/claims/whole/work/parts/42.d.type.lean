/-! THE LAW'S LOOP: type -/
def l_a (x y : Int) : Int64 := ((Int32.ofInt x).toInt64 <<< ((Int8.ofInt 32).toInt32.toInt64 &&& 63)) ||| ((Int32.ofInt y).toInt64 &&& 4294967295)
theorem ck_15_28 : ai_P0.2.2.2.2.2 15 28 = some (.long 4294967295) := rfl
theorem l_ldk {cs : Nat → Option Value} {idx pc : Nat} {v : Int64} {st : List Value} {z : List va_E} (h : cs idx = some (.long v)) : ai_ldk cs idx 4 pc st z = some (pc + 3, .long v :: st, z) := by
  unfold ai_ldk
  rw [h]
  rfl
section LawType
variable {b n d : Nat} {xs : Nat → Int32} {z z1 z2 : List va_E} {fs gs : List Value} {i r : Int} {y5 y6 : Option Value} {q : ai_R}
/-- two words as a long -/
theorem l_pair {pc : Nat} {L : List (Option Value)} {st : List Value} (hn : n ≤ 2048) (hi : 0 ≤ i ∧ i + 4 ≤ (n : Int)) (m1 : ai_mv m_Law_law 3 (pc, L, st) = some (pc + 4, L, ax_i 1 :: ax_i i :: .retAddr b :: st)) (m2 : ai_In m_Law_law (pc + 4) .iadd) (m3 : ai_In m_Law_law (pc + 5) .iaload)
    (m4 : ∀ x : Int, ai_mv m_Law_law 3 (pc + 6, L, ax_i x :: st) = some (pc + 10, L, .long ((Int32.ofInt x).toInt64 <<< ((Int8.ofInt 32).toInt32.toInt64 &&& 63)) :: st))
    (m5 : ∀ v : Int64, ai_mv m_Law_law 3 (pc + 10, L, .long v :: st) = some (pc + 14, L, ax_i 2 :: ax_i i :: .retAddr b :: .long v :: st)) (m6 : ai_In m_Law_law (pc + 14) .iadd) (m7 : ai_In m_Law_law (pc + 15) .iaload)
    (m8 : ∀ (y : Int) (v : Int64), ai_mv m_Law_law 1 (pc + 16, L, ax_i y :: .long v :: st) = some (pc + 17, L, .long (Int32.ofInt y).toInt64 :: .long v :: st)) (m9 : ai_In m_Law_law (pc + 17) (.ldc2_w 28))
    (m10 : ∀ u v : Int64, ai_mv m_Law_law 2 (pc + 20, L, .long 4294967295 :: .long u :: .long v :: st) = some (pc + 22, L, .long (v ||| (u &&& 4294967295)) :: st))
    (h : ai_Rn (some (b, n, xs)) ai_P0 d m_Law_law (pc + 22, L, .long (l_a (l_x xs (i + 1)) (l_x xs (i + 2))) :: st, z) q) : ai_Rn (some (b, n, xs)) ai_P0 d m_Law_law (pc, L, st, z) q := by
  refine l_arg (t := 1) hn ⟨by omega, by omega⟩ m1 m2 m3 ?_
  refine ai_mv_Rn 3 (pc + 6, L, ax_i (l_x xs (i + 1)) :: st) (pc + 10, L, _) (m4 _) ?_
  refine l_arg (t := 2) (pc := pc + 10) hn ⟨by omega, by omega⟩ (m5 _) m6 m7 ?_
  refine ai_mv_Rn 1 (pc + 16, L, _) (pc + 17, L, _) (m8 _ _) ?_
  refine ai_Rn.world (i := .ldc2_w 28) (pc' := pc + 20) (st' := .long 4294967295 :: .long (Int32.ofInt (l_x xs (i + 2))).toInt64 :: .long ((Int32.ofInt (l_x xs (i + 1))).toInt64 <<< ((Int8.ofInt 32).toInt32.toInt64 &&& 63)) :: st) (z' := z) m9 rfl ?_ (ai_mv_Rn 2 (pc + 20, L, .long 4294967295 :: .long (Int32.ofInt (l_x xs (i + 2))).toInt64 :: .long ((Int32.ofInt (l_x xs (i + 1))).toInt64 <<< ((Int8.ofInt 32).toInt32.toInt64 &&& 63)) :: st) (pc + 22, L, .long (l_a (l_x xs (i + 1)) (l_x xs (i + 2))) :: st) (m10 _ _) h)
  exact l_ldk (cs := ai_P0.2.2.2.2.2 15) ck_15_28
set_option maxRecDepth 100000 in
theorem l_type (hn : n ≤ 2048) (hi : 0 ≤ i ∧ i + 4 ≤ (n : Int)) (rr : ax_rg r) (h0 : z[0]? = some (.inr (11, fs))) (h1 : z1[222]? = some (.inr (12, gs))) (c1 : ai_Ex ai_P0 d q_House_type [.ref 0, .long (l_a (l_x xs (i + 1)) (l_x xs (i + 2))), ax_i (l_x xs (i + 3))] z (some (ax_i r), z1)) (c2 : ai_Ex ai_P0 d q_Model_type [.ref 222, .long (l_a (l_x xs (i + 1)) (l_x xs (i + 2))), ax_i (l_x xs (i + 3))] z1 (some (ax_i r), z2)) (k : ai_Rn (some (b, n, xs)) ai_P0 d m_Law_law (814, [some (.retAddr b), some (.ref 0), some (.ref 222), some (.ref 314), some (ax_i i), y5, y6], [], z2) q) : ai_Rn (some (b, n, xs)) ai_P0 d m_Law_law (120, [some (.retAddr b), some (.ref 0), some (.ref 222), some (.ref 314), some (ax_i i), y5, y6], [], z) q := by
  refine ai_mv_Rn 1 (120, [some (.retAddr b), some (.ref 0), some (.ref 222), some (.ref 314), some (ax_i i), y5, y6], []) (121, [some (.retAddr b), some (.ref 0), some (.ref 222), some (.ref 314), some (ax_i i), y5, y6], [.ref 0]) rfl ?_
  refine l_pair (pc := 121) hn hi rfl ⟨_, rfl⟩ ⟨_, rfl⟩ (fun _ => rfl) (fun _ => rfl) ⟨_, rfl⟩ ⟨_, rfl⟩ (fun _ _ => rfl) ⟨_, rfl⟩ (fun _ _ => rfl) ?_
  refine l_arg (t := 3) (pc := 143) hn ⟨by omega, by omega⟩ rfl ⟨_, rfl⟩ ⟨_, rfl⟩ ?_
  refine ai_Rn.callv (pc := 149) (v := some (ax_i r)) (rest := []) ⟨_, rfl⟩ lk_15_30 rfl h0 (Nat.le_of_ble_eq_true rfl) (ai_nt_i _) c1 ?_
  refine ai_mv_Rn 1 (152, [some (.retAddr b), some (.ref 0), some (.ref 222), some (.ref 314), some (ax_i i), y5, y6], [ax_i r]) (153, [some (.retAddr b), some (.ref 0), some (.ref 222), some (.ref 314), some (ax_i i), y5, y6], [.ref 222, ax_i r]) rfl ?_
  refine l_pair (pc := 153) hn hi rfl ⟨_, rfl⟩ ⟨_, rfl⟩ (fun _ => rfl) (fun _ => rfl) ⟨_, rfl⟩ ⟨_, rfl⟩ (fun _ _ => rfl) ⟨_, rfl⟩ (fun _ _ => rfl) ?_
  refine l_arg (t := 3) (pc := 175) hn ⟨by omega, by omega⟩ rfl ⟨_, rfl⟩ ⟨_, rfl⟩ ?_
  refine ai_Rn.callv (pc := 181) (v := some (ax_i r)) (rest := [ax_i r]) ⟨_, rfl⟩ lk_15_34 rfl h1 (Nat.le_of_ble_eq_true rfl) (ai_nt_i _) c2 ?_
  exact l_c2 (k := .eq) (pc := 184) (p1 := 814) ⟨_, rfl⟩ (by decide) rr rr (fun _ => k) (fun y => absurd rfl y)
end LawType
