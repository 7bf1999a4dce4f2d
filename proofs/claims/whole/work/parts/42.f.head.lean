/-! THE LAW'S LOOP: its head, its switch, its end -/
section LawHead
variable {b n d : Nat} {xs : Nat → Int32} {z : List va_E} {i : Int} {y5 y6 : Option Value} {q : ai_R}
set_option maxRecDepth 100000 in
theorem l_sw1 (y : Int32) : ∃ pc, pc ∈ [120, 189, 233, 258, 295, 320, 369, 394, 462, 530, 567, 592, 629, 666, 715, 764, 789, 814] ∧ ∀ (L : List (Option Value)) (z : List va_E) (q : ai_R), ai_Rn (some (b, n, xs)) ai_P0 d m_Law_law (pc, L, [], z) q → ai_Rn (some (b, n, xs)) ai_P0 d m_Law_law (39, L, [.int y], z) q := by
  have key : ∃ pc, pc ∈ [120, 189, 233, 258, 295, 320, 369, 394, 462, 530, 567, 592, 629, 666, 715, 764, 789, 814] ∧ ∀ L : List (Option Value), ai_tsw 39 775 0 16 #[81, 150, 194, 219, 256, 281, 330, 355, 423, 491, 528, 553, 590, 627, 676, 725, 750] L [.int y] = some (pc, L, []) := by
    by_cases c : y.toInt < 0 ∨ 16 < y.toInt
    · refine ⟨814, by decide, fun L => ?_⟩
      show (if y.toInt < 0 ∨ 16 < y.toInt then ai_go 39 775 L [] else _) = _
      rw [if_pos c]
      rfl
    · have e : y.toInt = 0 ∨ y.toInt = 1 ∨ y.toInt = 2 ∨ y.toInt = 3 ∨ y.toInt = 4 ∨ y.toInt = 5 ∨ y.toInt = 6 ∨ y.toInt = 7 ∨ y.toInt = 8 ∨ y.toInt = 9 ∨ y.toInt = 10 ∨ y.toInt = 11 ∨ y.toInt = 12 ∨ y.toInt = 13 ∨ y.toInt = 14 ∨ y.toInt = 15 ∨ y.toInt = 16 := by omega
      have go : ∀ (k : Nat) (off : Int) (pc : Nat), y.toInt = (k : Int) → (#[81, 150, 194, 219, 256, 281, 330, 355, 423, 491, 528, 553, 590, 627, 676, 725, 750] : Array Int)[k]? = some off → (∀ L : List (Option Value), ai_go 39 off L [] = some (pc, L, [])) → ∀ L : List (Option Value), ai_tsw 39 775 0 16 #[81, 150, 194, 219, 256, 281, 330, 355, 423, 491, 528, 553, 590, 627, 676, 725, 750] L [.int y] = some (pc, L, []) := fun k off pc ek eo eg L => by
        show (if y.toInt < 0 ∨ 16 < y.toInt then ai_go 39 775 L [] else match (#[81, 150, 194, 219, 256, 281, 330, 355, 423, 491, 528, 553, 590, 627, 676, 725, 750] : Array Int)[(y.toInt - 0).toNat]? with | some off => ai_go 39 off L [] | none => none) = _
        rw [if_neg c, show (y.toInt - 0).toNat = k by omega, eo]
        exact eg L
      rcases e with e | e | e | e | e | e | e | e | e | e | e | e | e | e | e | e | e
      · exact ⟨120, by decide, go 0 81 120 e rfl (fun _ => rfl)⟩
      · exact ⟨189, by decide, go 1 150 189 e rfl (fun _ => rfl)⟩
      · exact ⟨233, by decide, go 2 194 233 e rfl (fun _ => rfl)⟩
      · exact ⟨258, by decide, go 3 219 258 e rfl (fun _ => rfl)⟩
      · exact ⟨295, by decide, go 4 256 295 e rfl (fun _ => rfl)⟩
      · exact ⟨320, by decide, go 5 281 320 e rfl (fun _ => rfl)⟩
      · exact ⟨369, by decide, go 6 330 369 e rfl (fun _ => rfl)⟩
      · exact ⟨394, by decide, go 7 355 394 e rfl (fun _ => rfl)⟩
      · exact ⟨462, by decide, go 8 423 462 e rfl (fun _ => rfl)⟩
      · exact ⟨530, by decide, go 9 491 530 e rfl (fun _ => rfl)⟩
      · exact ⟨567, by decide, go 10 528 567 e rfl (fun _ => rfl)⟩
      · exact ⟨592, by decide, go 11 553 592 e rfl (fun _ => rfl)⟩
      · exact ⟨629, by decide, go 12 590 629 e rfl (fun _ => rfl)⟩
      · exact ⟨666, by decide, go 13 627 666 e rfl (fun _ => rfl)⟩
      · exact ⟨715, by decide, go 14 676 715 e rfl (fun _ => rfl)⟩
      · exact ⟨764, by decide, go 15 725 764 e rfl (fun _ => rfl)⟩
      · exact ⟨789, by decide, go 16 750 789 e rfl (fun _ => rfl)⟩
  obtain ⟨pc, m, e⟩ := key
  exact ⟨pc, m, fun L z q h => ai_Rn.simple (u := (pc, L, [])) ⟨_, rfl⟩ rfl (e L) h⟩
set_option maxRecDepth 100000 in
/-- the head: the script is done, or the switch -/
theorem l_head (hn : n ≤ 2048) (hi : 0 ≤ i ∧ i ≤ 3000) (fin : (n : Int) - 4 < i → q = (some (ax_i 1), z)) (go : i + 4 ≤ (n : Int) → ai_Rn (some (b, n, xs)) ai_P0 d m_Law_law (39, [some (.retAddr b), some (.ref 0), some (.ref 222), some (.ref 314), some (ax_i i), y5, y6], [.int (Int32.ofInt (l_x xs i) &&& (Int8.ofInt 31).toInt32)], z) q) : ai_Rn (some (b, n, xs)) ai_P0 d m_Law_law (23, [some (.retAddr b), some (.ref 0), some (.ref 222), some (.ref 314), some (ax_i i), y5, y6], [], z) q := by
  refine ai_mv_Rn 2 (23, [some (.retAddr b), some (.ref 0), some (.ref 222), some (.ref 314), some (ax_i i), y5, y6], []) (26, [some (.retAddr b), some (.ref 0), some (.ref 222), some (.ref 314), some (ax_i i), y5, y6], [.retAddr b, ax_i i]) rfl ?_
  refine ai_Rn.world (pc' := 27) (st' := [ax_i (n : Int), ax_i i]) (z' := z) ⟨_, rfl⟩ rfl ?_ ?_
  · show (if b = b then some (26 + 1, Value.int (Int32.ofNat n) :: [ax_i i], z) else none) = _
    rw [if_pos rfl]
    show some (27, [Value.int (Int32.ofNat n), ax_i i], z) = some (27, [Value.int (Int32.ofInt (n : Int)), ax_i i], z)
    rw [Int32.ofInt_eq_ofNat]
  refine ai_mv_Rn 1 (27, [some (.retAddr b), some (.ref 0), some (.ref 222), some (.ref 314), some (ax_i i), y5, y6], [ax_i (n : Int), ax_i i]) (28, [some (.retAddr b), some (.ref 0), some (.ref 222), some (.ref 314), some (ax_i i), y5, y6], [ax_i 4, ax_i (n : Int), ax_i i]) rfl ?_
  refine ai_Rn.simple (u := (29, [some (.retAddr b), some (.ref 0), some (.ref 222), some (.ref 314), some (ax_i i), y5, y6], [ax_i ((n : Int) - 4), ax_i i])) ⟨_, rfl⟩ rfl ?_ ?_
  · show some (28 + 1, _, Value.int (Int32.ofInt (n : Int) - Int32.ofInt 4) :: [ax_i i]) = _
    rw [← Int32.ofInt_sub]; rfl
  have r1 : ax_rg i := ⟨by omega, by omega⟩
  have r2 : ax_rg ((n : Int) - 4) := ⟨by omega, by omega⟩
  refine l_c2 (k := .gt) (pc := 29) (p1 := 820) ⟨_, rfl⟩ (by decide) r1 r2 (fun c => ?_) (fun c => ?_)
  · have c' : (n : Int) - 4 < i := c
    rw [fin c']
    refine ai_mv_Rn 1 (820, [some (.retAddr b), some (.ref 0), some (.ref 222), some (.ref 314), some (ax_i i), y5, y6], []) (821, [some (.retAddr b), some (.ref 0), some (.ref 222), some (.ref 314), some (ax_i i), y5, y6], [ax_i 1]) rfl ?_
    exact ai_Rn.iret (pc := 821) ⟨_, rfl⟩ rfl (by decide)
  · have c' : ¬ (n : Int) - 4 < i := c
    refine ai_mv_Rn 2 (32, [some (.retAddr b), some (.ref 0), some (.ref 222), some (.ref 314), some (ax_i i), y5, y6], []) (35, [some (.retAddr b), some (.ref 0), some (.ref 222), some (.ref 314), some (ax_i i), y5, y6], [ax_i i, .retAddr b]) rfl ?_
    refine l_iald (pc := 35) ⟨_, rfl⟩ hn ⟨hi.1, by omega⟩ ?_
    exact ai_mv_Rn 2 (36, [some (.retAddr b), some (.ref 0), some (.ref 222), some (.ref 314), some (ax_i i), y5, y6], [ax_i (l_x xs i)]) (39, [some (.retAddr b), some (.ref 0), some (.ref 222), some (.ref 314), some (ax_i i), y5, y6], [.int (Int32.ofInt (l_x xs i) &&& (Int8.ofInt 31).toInt32)]) rfl (go (by omega))
set_option maxRecDepth 100000 in
/-- the next round -/
theorem l_next (k : ai_Rn (some (b, n, xs)) ai_P0 d m_Law_law (23, [some (.retAddr b), some (.ref 0), some (.ref 222), some (.ref 314), some (ax_i (i + 4)), y5, y6], [], z) q) : ai_Rn (some (b, n, xs)) ai_P0 d m_Law_law (814, [some (.retAddr b), some (.ref 0), some (.ref 222), some (.ref 314), some (ax_i i), y5, y6], [], z) q := by
  refine ai_Rn.simple (u := (817, [some (.retAddr b), some (.ref 0), some (.ref 222), some (.ref 314), some (ax_i (i + 4)), y5, y6], [])) ⟨_, rfl⟩ rfl ?_ ?_
  · show some (814 + 3, [some (.retAddr b), some (.ref 0), some (.ref 222), some (.ref 314), some (Value.int (Int32.ofInt i + Int32.ofInt 4)), y5, y6], []) = _
    rw [← Int32.ofInt_add]; rfl
  · exact ai_mv_Rn 1 (817, [some (.retAddr b), some (.ref 0), some (.ref 222), some (.ref 314), some (ax_i (i + 4)), y5, y6], []) (23, [some (.retAddr b), some (.ref 0), some (.ref 222), some (.ref 314), some (ax_i (i + 4)), y5, y6], []) rfl k
end LawHead
