/-! THE LAW'S LOOP: one call of both, and what is loaded for it -/
def l_x (xs : Nat → Int32) (i : Int) : Int := (xs i.toNat).toInt
section LawRules
variable {b n d : Nat} {xs : Nat → Int32} {M : ai_M} {L : List (Option Value)} {st : List Value} {z : List va_E} {r : ai_R} {i : Int} {pc : Nat}
theorem l_iald (hf : ai_In M pc .iaload) (hn : n ≤ 2048) (hi : 0 ≤ i ∧ i < (n : Int)) (h : ai_Rn (some (b, n, xs)) ai_P0 d M (pc + 1, L, ax_i (l_x xs i) :: st, z) r) : ai_Rn (some (b, n, xs)) ai_P0 d M (pc, L, ax_i i :: .retAddr b :: st, z) r := by
  refine ai_Rn.world (pc' := pc + 1) (st' := ax_i (l_x xs i) :: st) (z' := z) hf rfl ?_ h
  have e2 : (((Int32.ofInt i).toNatClampNeg : Nat) : Int) = i := ax_idx (n := n) hi (by omega)
  have hin : vp_in (Int32.ofInt i) n := ax_in (n := n) hi (by omega)
  have e3 : (Int32.ofInt i).toNatClampNeg = i.toNat := by omega
  show ai_iald (some (b, n, xs)) pc (.int (Int32.ofInt i) :: .retAddr b :: st) z = _
  show (if b = b ∧ ¬ (Int32.ofInt i < 0 ∨ n ≤ (Int32.ofInt i).toNatClampNeg) then some (pc + 1, Value.int (xs (Int32.ofInt i).toNatClampNeg) :: st, z) else none) = _
  rw [if_pos ⟨rfl, hin⟩, e3]
  unfold ax_i l_x
  rw [Int32.ofInt_toInt]
/-- the t-th word behind the place i of the script -/
theorem l_arg {t : Int} (hn : n ≤ 2048) (hi : 0 ≤ i + t ∧ i + t < (n : Int)) (m1 : ai_mv M 3 (pc, L, st) = some (pc + 4, L, ax_i t :: ax_i i :: .retAddr b :: st)) (m2 : ai_In M (pc + 4) .iadd) (m3 : ai_In M (pc + 5) .iaload) (h : ai_Rn (some (b, n, xs)) ai_P0 d M (pc + 6, L, ax_i (l_x xs (i + t)) :: st, z) r) : ai_Rn (some (b, n, xs)) ai_P0 d M (pc, L, st, z) r := by
  refine ai_mv_Rn 3 (pc, L, st) (pc + 4, L, ax_i t :: ax_i i :: .retAddr b :: st) m1 ?_
  refine ai_Rn.simple (u := (pc + 5, L, ax_i (i + t) :: .retAddr b :: st)) m2 rfl ?_ ?_
  · show some (pc + 4 + 1, L, Value.int (Int32.ofInt i + Int32.ofInt t) :: .retAddr b :: st) = _
    rw [← Int32.ofInt_add]; rfl
  · exact l_iald m3 hn hi h
theorem l_c2 {sc : ai_SC} {k : Jvm.ClassFile.Cond} {off x y : Int} {p1 : Nat} (hf : ai_In M pc (.if_icmp k off)) (hp : (pc : Int) + off = (p1 : Int)) (rx : ax_rg x) (ry : ax_rg y) (h1 : ax_k2 k x y → ai_Rn sc ai_P0 d M (p1, L, st, z) r) (h0 : ¬ ax_k2 k x y → ai_Rn sc ai_P0 d M (pc + 3, L, st, z) r) : ai_Rn sc ai_P0 d M (pc, L, ax_i y :: ax_i x :: st, z) r := by
  refine ai_Rn.br (b := ai_c2 k (Int32.ofInt x) (Int32.ofInt y)) (p1 := p1) (p2 := pc + 3) (L' := L) (st' := st) hf rfl ?_ (fun e => h1 ((ax_c2_iff rx ry).mp e)) (fun e => h0 (fun c => by rw [(ax_c2_iff rx ry).mpr c] at e; cases e))
  show ai_ifc (ai_c2 k (Int32.ofInt x) (Int32.ofInt y)) pc off L st = _
  exact ax_ifc hp
theorem l_c0 {sc : ai_SC} {k : Jvm.ClassFile.Cond} {off x : Int} {p1 : Nat} (hf : ai_In M pc (.ifCond k off)) (hp : (pc : Int) + off = (p1 : Int)) (rx : ax_rg x) (h1 : ax_k0 k x → ai_Rn sc ai_P0 d M (p1, L, st, z) r) (h0 : ¬ ax_k0 k x → ai_Rn sc ai_P0 d M (pc + 3, L, st, z) r) : ai_Rn sc ai_P0 d M (pc, L, ax_i x :: st, z) r := by
  refine ai_Rn.br (b := ai_c0 k (Int32.ofInt x)) (p1 := p1) (p2 := pc + 3) (L' := L) (st' := st) hf rfl ?_ (fun e => h1 ((ax_c0_iff rx).mp e)) (fun e => h0 (fun c => by rw [(ax_c0_iff rx).mpr c] at e; cases e))
  show ai_ifc (ai_c0 k (Int32.ofInt x)) pc off L st = _
  exact ax_ifc hp
end LawRules
theorem lk_15_30 : ai_P0.2.2.2.1 15 30 = some (0, 9, 2, 11) := rfl
theorem lk_15_34 : ai_P0.2.2.2.1 15 34 = some (0, 160, 2, 12) := rfl
theorem lk_15_40 : ai_P0.2.2.2.1 15 40 = some (0, 161, 0, 12) := rfl
theorem lk_15_41 : ai_P0.2.2.2.1 15 41 = some (0, 159, 0, 12) := rfl
theorem lk_15_44 : ai_P0.2.2.2.1 15 44 = some (0, 11, 1, 11) := rfl
theorem lk_15_48 : ai_P0.2.2.2.1 15 48 = some (0, 242, 1, 12) := rfl
theorem lk_15_49 : ai_P0.2.2.2.1 15 49 = some (0, 12, 2, 11) := rfl
theorem lk_15_52 : ai_P0.2.2.2.1 15 52 = some (0, 243, 2, 12) := rfl
theorem lk_15_53 : ai_P0.2.2.2.1 15 53 = some (0, 14, 1, 11) := rfl
theorem lk_15_56 : ai_P0.2.2.2.1 15 56 = some (0, 245, 1, 12) := rfl
theorem lk_15_57 : ai_P0.2.2.2.1 15 57 = some (0, 18, 3, 11) := rfl
theorem lk_15_61 : ai_P0.2.2.2.1 15 61 = some (0, 247, 3, 12) := rfl
theorem lk_15_62 : ai_P0.2.2.2.1 15 62 = some (0, 20, 1, 11) := rfl
theorem lk_15_65 : ai_P0.2.2.2.1 15 65 = some (0, 249, 1, 12) := rfl
theorem lk_15_69 : ai_P0.2.2.2.1 15 69 = some (0, 266, 2, 12) := rfl
theorem lk_15_72 : ai_P0.2.2.2.1 15 72 = some (0, 267, 2, 12) := rfl
theorem lk_15_73 : ai_P0.2.2.2.1 15 73 = some (0, 38, 2, 11) := rfl
theorem lk_15_76 : ai_P0.2.2.2.1 15 76 = some (0, 268, 2, 12) := rfl
theorem lk_15_77 : ai_P0.2.2.2.1 15 77 = some (0, 39, 1, 11) := rfl
theorem lk_15_80 : ai_P0.2.2.2.1 15 80 = some (0, 269, 1, 12) := rfl
theorem lk_15_81 : ai_P0.2.2.2.1 15 81 = some (0, 40, 2, 11) := rfl
theorem lk_15_85 : ai_P0.2.2.2.1 15 85 = some (0, 270, 2, 12) := rfl
theorem lk_15_86 : ai_P0.2.2.2.1 15 86 = some (0, 42, 2, 11) := rfl
theorem lk_15_89 : ai_P0.2.2.2.1 15 89 = some (0, 271, 2, 12) := rfl
theorem lk_15_90 : ai_P0.2.2.2.1 15 90 = some (0, 44, 3, 11) := rfl
theorem lk_15_94 : ai_P0.2.2.2.1 15 94 = some (0, 272, 3, 12) := rfl
theorem lk_15_95 : ai_P0.2.2.2.1 15 95 = some (0, 56, 3, 11) := rfl
theorem lk_15_98 : ai_P0.2.2.2.1 15 98 = some (0, 282, 3, 12) := rfl
theorem lk_15_99 : ai_P0.2.2.2.1 15 99 = some (0, 58, 1, 11) := rfl
theorem lk_15_102 : ai_P0.2.2.2.1 15 102 = some (0, 283, 1, 12) := rfl
theorem lk_15_103 : ai_P0.2.2.2.1 15 103 = some (0, 59, 1, 11) := rfl
theorem lk_15_106 : ai_P0.2.2.2.1 15 106 = some (0, 284, 1, 12) := rfl
theorem lk_15_35 : ai_P0.2.2.2.1 15 35 = some (2, 285, 2, 0) := rfl
theorem lk_15_66 : ai_P0.2.2.2.1 15 66 = some (2, 287, 4, 0) := rfl
theorem lk_15_70 : ai_P0.2.2.2.1 15 70 = some (2, 288, 4, 0) := rfl
section LawOps
variable {b n d : Nat} {xs : Nat → Int32} {z z1 z2 : List va_E} {fs gs : List Value} {i r : Int} {y5 y6 : Option Value} {q : ai_R}
set_option maxRecDepth 100000 in
theorem l_fault (hn : n ≤ 2048) (hi : 0 ≤ i ∧ i + 4 ≤ (n : Int)) (rr : ax_rg r) (h0 : z[0]? = some (.inr (11, fs))) (h1 : z1[222]? = some (.inr (12, gs))) (c1 : ai_Ex ai_P0 d q_House_fault [.ref 0, ax_i (l_x xs (i + 1))] z (some (ax_i r), z1)) (c2 : ai_Ex ai_P0 d q_Model_fault [.ref 222, ax_i (l_x xs (i + 1))] z1 (some (ax_i r), z2)) (k : ai_Rn (some (b, n, xs)) ai_P0 d m_Law_law (814, [some (.retAddr b), some (.ref 0), some (.ref 222), some (.ref 314), some (ax_i i), y5, y6], [], z2) q) : ai_Rn (some (b, n, xs)) ai_P0 d m_Law_law (233, [some (.retAddr b), some (.ref 0), some (.ref 222), some (.ref 314), some (ax_i i), y5, y6], [], z) q := by
  refine ai_mv_Rn 1 (233, [some (.retAddr b), some (.ref 0), some (.ref 222), some (.ref 314), some (ax_i i), y5, y6], []) (234, [some (.retAddr b), some (.ref 0), some (.ref 222), some (.ref 314), some (ax_i i), y5, y6], [.ref 0]) rfl ?_
  refine l_arg (pc := 234) (t := 1) hn ⟨by omega, by omega⟩ rfl ⟨_, rfl⟩ ⟨_, rfl⟩ ?_
  refine ai_Rn.callv (pc := 240) (v := some (ax_i r)) (rest := []) ⟨_, rfl⟩ lk_15_44 rfl h0 (Nat.le_of_ble_eq_true rfl) (ai_nt_i _) c1 ?_
  refine ai_mv_Rn 1 (243, [some (.retAddr b), some (.ref 0), some (.ref 222), some (.ref 314), some (ax_i i), y5, y6], [ax_i r]) (244, [some (.retAddr b), some (.ref 0), some (.ref 222), some (.ref 314), some (ax_i i), y5, y6], [.ref 222, ax_i r]) rfl ?_
  refine l_arg (pc := 244) (t := 1) hn ⟨by omega, by omega⟩ rfl ⟨_, rfl⟩ ⟨_, rfl⟩ ?_
  refine ai_Rn.callv (pc := 250) (v := some (ax_i r)) (rest := [ax_i r]) ⟨_, rfl⟩ lk_15_48 rfl h1 (Nat.le_of_ble_eq_true rfl) (ai_nt_i _) c2 ?_
  exact l_c2 (k := .eq) (pc := 253) (p1 := 814) ⟨_, rfl⟩ (by decide) rr rr (fun _ => k) (fun y => absurd rfl y)
set_option maxRecDepth 100000 in
theorem l_node (hn : n ≤ 2048) (hi : 0 ≤ i ∧ i + 4 ≤ (n : Int)) (rr : ax_rg r) (h0 : z[0]? = some (.inr (11, fs))) (h1 : z1[222]? = some (.inr (12, gs))) (c1 : ai_Ex ai_P0 d q_House_node [.ref 0, ax_i (l_x xs (i + 1)), ax_i (l_x xs (i + 2))] z (some (ax_i r), z1)) (c2 : ai_Ex ai_P0 d q_Model_node [.ref 222, ax_i (l_x xs (i + 1)), ax_i (l_x xs (i + 2))] z1 (some (ax_i r), z2)) (k : ai_Rn (some (b, n, xs)) ai_P0 d m_Law_law (814, [some (.retAddr b), some (.ref 0), some (.ref 222), some (.ref 314), some (ax_i i), y5, y6], [], z2) q) : ai_Rn (some (b, n, xs)) ai_P0 d m_Law_law (258, [some (.retAddr b), some (.ref 0), some (.ref 222), some (.ref 314), some (ax_i i), y5, y6], [], z) q := by
  refine ai_mv_Rn 1 (258, [some (.retAddr b), some (.ref 0), some (.ref 222), some (.ref 314), some (ax_i i), y5, y6], []) (259, [some (.retAddr b), some (.ref 0), some (.ref 222), some (.ref 314), some (ax_i i), y5, y6], [.ref 0]) rfl ?_
  refine l_arg (pc := 259) (t := 1) hn ⟨by omega, by omega⟩ rfl ⟨_, rfl⟩ ⟨_, rfl⟩ ?_
  refine l_arg (pc := 265) (t := 2) hn ⟨by omega, by omega⟩ rfl ⟨_, rfl⟩ ⟨_, rfl⟩ ?_
  refine ai_Rn.callv (pc := 271) (v := some (ax_i r)) (rest := []) ⟨_, rfl⟩ lk_15_49 rfl h0 (Nat.le_of_ble_eq_true rfl) (ai_nt_i _) c1 ?_
  refine ai_mv_Rn 1 (274, [some (.retAddr b), some (.ref 0), some (.ref 222), some (.ref 314), some (ax_i i), y5, y6], [ax_i r]) (275, [some (.retAddr b), some (.ref 0), some (.ref 222), some (.ref 314), some (ax_i i), y5, y6], [.ref 222, ax_i r]) rfl ?_
  refine l_arg (pc := 275) (t := 1) hn ⟨by omega, by omega⟩ rfl ⟨_, rfl⟩ ⟨_, rfl⟩ ?_
  refine l_arg (pc := 281) (t := 2) hn ⟨by omega, by omega⟩ rfl ⟨_, rfl⟩ ⟨_, rfl⟩ ?_
  refine ai_Rn.callv (pc := 287) (v := some (ax_i r)) (rest := [ax_i r]) ⟨_, rfl⟩ lk_15_52 rfl h1 (Nat.le_of_ble_eq_true rfl) (ai_nt_i _) c2 ?_
  exact l_c2 (k := .eq) (pc := 290) (p1 := 814) ⟨_, rfl⟩ (by decide) rr rr (fun _ => k) (fun y => absurd rfl y)
set_option maxRecDepth 100000 in
theorem l_make (hn : n ≤ 2048) (hi : 0 ≤ i ∧ i + 4 ≤ (n : Int)) (rr : ax_rg r) (h0 : z[0]? = some (.inr (11, fs))) (h1 : z1[222]? = some (.inr (12, gs))) (c1 : ai_Ex ai_P0 d q_House_make [.ref 0, ax_i (l_x xs (i + 1))] z (some (ax_i r), z1)) (c2 : ai_Ex ai_P0 d q_Model_make [.ref 222, ax_i (l_x xs (i + 1))] z1 (some (ax_i r), z2)) (k : ai_Rn (some (b, n, xs)) ai_P0 d m_Law_law (814, [some (.retAddr b), some (.ref 0), some (.ref 222), some (.ref 314), some (ax_i i), y5, y6], [], z2) q) : ai_Rn (some (b, n, xs)) ai_P0 d m_Law_law (295, [some (.retAddr b), some (.ref 0), some (.ref 222), some (.ref 314), some (ax_i i), y5, y6], [], z) q := by
  refine ai_mv_Rn 1 (295, [some (.retAddr b), some (.ref 0), some (.ref 222), some (.ref 314), some (ax_i i), y5, y6], []) (296, [some (.retAddr b), some (.ref 0), some (.ref 222), some (.ref 314), some (ax_i i), y5, y6], [.ref 0]) rfl ?_
  refine l_arg (pc := 296) (t := 1) hn ⟨by omega, by omega⟩ rfl ⟨_, rfl⟩ ⟨_, rfl⟩ ?_
  refine ai_Rn.callv (pc := 302) (v := some (ax_i r)) (rest := []) ⟨_, rfl⟩ lk_15_53 rfl h0 (Nat.le_of_ble_eq_true rfl) (ai_nt_i _) c1 ?_
  refine ai_mv_Rn 1 (305, [some (.retAddr b), some (.ref 0), some (.ref 222), some (.ref 314), some (ax_i i), y5, y6], [ax_i r]) (306, [some (.retAddr b), some (.ref 0), some (.ref 222), some (.ref 314), some (ax_i i), y5, y6], [.ref 222, ax_i r]) rfl ?_
  refine l_arg (pc := 306) (t := 1) hn ⟨by omega, by omega⟩ rfl ⟨_, rfl⟩ ⟨_, rfl⟩ ?_
  refine ai_Rn.callv (pc := 312) (v := some (ax_i r)) (rest := [ax_i r]) ⟨_, rfl⟩ lk_15_56 rfl h1 (Nat.le_of_ble_eq_true rfl) (ai_nt_i _) c2 ?_
  exact l_c2 (k := .eq) (pc := 315) (p1 := 814) ⟨_, rfl⟩ (by decide) rr rr (fun _ => k) (fun y => absurd rfl y)
set_option maxRecDepth 100000 in
theorem l_put (hn : n ≤ 2048) (hi : 0 ≤ i ∧ i + 4 ≤ (n : Int)) (rr : ax_rg r) (h0 : z[0]? = some (.inr (11, fs))) (h1 : z1[222]? = some (.inr (12, gs))) (c1 : ai_Ex ai_P0 d q_House_put [.ref 0, ax_i (l_x xs (i + 1)), ax_i (l_x xs (i + 2)), ax_i (l_x xs (i + 3))] z (some (ax_i r), z1)) (c2 : ai_Ex ai_P0 d q_Model_put [.ref 222, ax_i (l_x xs (i + 1)), ax_i (l_x xs (i + 2)), ax_i (l_x xs (i + 3))] z1 (some (ax_i r), z2)) (k : ai_Rn (some (b, n, xs)) ai_P0 d m_Law_law (814, [some (.retAddr b), some (.ref 0), some (.ref 222), some (.ref 314), some (ax_i i), y5, y6], [], z2) q) : ai_Rn (some (b, n, xs)) ai_P0 d m_Law_law (320, [some (.retAddr b), some (.ref 0), some (.ref 222), some (.ref 314), some (ax_i i), y5, y6], [], z) q := by
  refine ai_mv_Rn 1 (320, [some (.retAddr b), some (.ref 0), some (.ref 222), some (.ref 314), some (ax_i i), y5, y6], []) (321, [some (.retAddr b), some (.ref 0), some (.ref 222), some (.ref 314), some (ax_i i), y5, y6], [.ref 0]) rfl ?_
  refine l_arg (pc := 321) (t := 1) hn ⟨by omega, by omega⟩ rfl ⟨_, rfl⟩ ⟨_, rfl⟩ ?_
  refine l_arg (pc := 327) (t := 2) hn ⟨by omega, by omega⟩ rfl ⟨_, rfl⟩ ⟨_, rfl⟩ ?_
  refine l_arg (pc := 333) (t := 3) hn ⟨by omega, by omega⟩ rfl ⟨_, rfl⟩ ⟨_, rfl⟩ ?_
  refine ai_Rn.callv (pc := 339) (v := some (ax_i r)) (rest := []) ⟨_, rfl⟩ lk_15_57 rfl h0 (Nat.le_of_ble_eq_true rfl) (ai_nt_i _) c1 ?_
  refine ai_mv_Rn 1 (342, [some (.retAddr b), some (.ref 0), some (.ref 222), some (.ref 314), some (ax_i i), y5, y6], [ax_i r]) (343, [some (.retAddr b), some (.ref 0), some (.ref 222), some (.ref 314), some (ax_i i), y5, y6], [.ref 222, ax_i r]) rfl ?_
  refine l_arg (pc := 343) (t := 1) hn ⟨by omega, by omega⟩ rfl ⟨_, rfl⟩ ⟨_, rfl⟩ ?_
  refine l_arg (pc := 349) (t := 2) hn ⟨by omega, by omega⟩ rfl ⟨_, rfl⟩ ⟨_, rfl⟩ ?_
  refine l_arg (pc := 355) (t := 3) hn ⟨by omega, by omega⟩ rfl ⟨_, rfl⟩ ⟨_, rfl⟩ ?_
  refine ai_Rn.callv (pc := 361) (v := some (ax_i r)) (rest := [ax_i r]) ⟨_, rfl⟩ lk_15_61 rfl h1 (Nat.le_of_ble_eq_true rfl) (ai_nt_i _) c2 ?_
  exact l_c2 (k := .eq) (pc := 364) (p1 := 814) ⟨_, rfl⟩ (by decide) rr rr (fun _ => k) (fun y => absurd rfl y)
set_option maxRecDepth 100000 in
theorem l_tick (hn : n ≤ 2048) (hi : 0 ≤ i ∧ i + 4 ≤ (n : Int)) (rr : ax_rg r) (h0 : z[0]? = some (.inr (11, fs))) (h1 : z1[222]? = some (.inr (12, gs))) (c1 : ai_Ex ai_P0 d q_House_tick [.ref 0, ax_i (l_x xs (i + 1))] z (some (ax_i r), z1)) (c2 : ai_Ex ai_P0 d q_Model_tick [.ref 222, ax_i (l_x xs (i + 1))] z1 (some (ax_i r), z2)) (k : ai_Rn (some (b, n, xs)) ai_P0 d m_Law_law (814, [some (.retAddr b), some (.ref 0), some (.ref 222), some (.ref 314), some (ax_i i), y5, y6], [], z2) q) : ai_Rn (some (b, n, xs)) ai_P0 d m_Law_law (369, [some (.retAddr b), some (.ref 0), some (.ref 222), some (.ref 314), some (ax_i i), y5, y6], [], z) q := by
  refine ai_mv_Rn 1 (369, [some (.retAddr b), some (.ref 0), some (.ref 222), some (.ref 314), some (ax_i i), y5, y6], []) (370, [some (.retAddr b), some (.ref 0), some (.ref 222), some (.ref 314), some (ax_i i), y5, y6], [.ref 0]) rfl ?_
  refine l_arg (pc := 370) (t := 1) hn ⟨by omega, by omega⟩ rfl ⟨_, rfl⟩ ⟨_, rfl⟩ ?_
  refine ai_Rn.callv (pc := 376) (v := some (ax_i r)) (rest := []) ⟨_, rfl⟩ lk_15_62 rfl h0 (Nat.le_of_ble_eq_true rfl) (ai_nt_i _) c1 ?_
  refine ai_mv_Rn 1 (379, [some (.retAddr b), some (.ref 0), some (.ref 222), some (.ref 314), some (ax_i i), y5, y6], [ax_i r]) (380, [some (.retAddr b), some (.ref 0), some (.ref 222), some (.ref 314), some (ax_i i), y5, y6], [.ref 222, ax_i r]) rfl ?_
  refine l_arg (pc := 380) (t := 1) hn ⟨by omega, by omega⟩ rfl ⟨_, rfl⟩ ⟨_, rfl⟩ ?_
  refine ai_Rn.callv (pc := 386) (v := some (ax_i r)) (rest := [ax_i r]) ⟨_, rfl⟩ lk_15_65 rfl h1 (Nat.le_of_ble_eq_true rfl) (ai_nt_i _) c2 ?_
  exact l_c2 (k := .eq) (pc := 389) (p1 := 814) ⟨_, rfl⟩ (by decide) rr rr (fun _ => k) (fun y => absurd rfl y)
set_option maxRecDepth 100000 in
theorem l_state (hn : n ≤ 2048) (hi : 0 ≤ i ∧ i + 4 ≤ (n : Int)) (rr : ax_rg r) (h0 : z[0]? = some (.inr (11, fs))) (h1 : z1[222]? = some (.inr (12, gs))) (c1 : ai_Ex ai_P0 d q_House_state [.ref 0, ax_i (l_x xs (i + 1)), ax_i (l_x xs (i + 2))] z (some (ax_i r), z1)) (c2 : ai_Ex ai_P0 d q_Model_state [.ref 222, ax_i (l_x xs (i + 1)), ax_i (l_x xs (i + 2))] z1 (some (ax_i r), z2)) (k : ai_Rn (some (b, n, xs)) ai_P0 d m_Law_law (814, [some (.retAddr b), some (.ref 0), some (.ref 222), some (.ref 314), some (ax_i i), y5, y6], [], z2) q) : ai_Rn (some (b, n, xs)) ai_P0 d m_Law_law (530, [some (.retAddr b), some (.ref 0), some (.ref 222), some (.ref 314), some (ax_i i), y5, y6], [], z) q := by
  refine ai_mv_Rn 1 (530, [some (.retAddr b), some (.ref 0), some (.ref 222), some (.ref 314), some (ax_i i), y5, y6], []) (531, [some (.retAddr b), some (.ref 0), some (.ref 222), some (.ref 314), some (ax_i i), y5, y6], [.ref 0]) rfl ?_
  refine l_arg (pc := 531) (t := 1) hn ⟨by omega, by omega⟩ rfl ⟨_, rfl⟩ ⟨_, rfl⟩ ?_
  refine l_arg (pc := 537) (t := 2) hn ⟨by omega, by omega⟩ rfl ⟨_, rfl⟩ ⟨_, rfl⟩ ?_
  refine ai_Rn.callv (pc := 543) (v := some (ax_i r)) (rest := []) ⟨_, rfl⟩ lk_15_73 rfl h0 (Nat.le_of_ble_eq_true rfl) (ai_nt_i _) c1 ?_
  refine ai_mv_Rn 1 (546, [some (.retAddr b), some (.ref 0), some (.ref 222), some (.ref 314), some (ax_i i), y5, y6], [ax_i r]) (547, [some (.retAddr b), some (.ref 0), some (.ref 222), some (.ref 314), some (ax_i i), y5, y6], [.ref 222, ax_i r]) rfl ?_
  refine l_arg (pc := 547) (t := 1) hn ⟨by omega, by omega⟩ rfl ⟨_, rfl⟩ ⟨_, rfl⟩ ?_
  refine l_arg (pc := 553) (t := 2) hn ⟨by omega, by omega⟩ rfl ⟨_, rfl⟩ ⟨_, rfl⟩ ?_
  refine ai_Rn.callv (pc := 559) (v := some (ax_i r)) (rest := [ax_i r]) ⟨_, rfl⟩ lk_15_76 rfl h1 (Nat.le_of_ble_eq_true rfl) (ai_nt_i _) c2 ?_
  exact l_c2 (k := .eq) (pc := 562) (p1 := 814) ⟨_, rfl⟩ (by decide) rr rr (fun _ => k) (fun y => absurd rfl y)
set_option maxRecDepth 100000 in
theorem l_ticks (hn : n ≤ 2048) (hi : 0 ≤ i ∧ i + 4 ≤ (n : Int)) (rr : ax_rg r) (h0 : z[0]? = some (.inr (11, fs))) (h1 : z1[222]? = some (.inr (12, gs))) (c1 : ai_Ex ai_P0 d q_House_ticks [.ref 0, ax_i (l_x xs (i + 1))] z (some (ax_i r), z1)) (c2 : ai_Ex ai_P0 d q_Model_ticks [.ref 222, ax_i (l_x xs (i + 1))] z1 (some (ax_i r), z2)) (k : ai_Rn (some (b, n, xs)) ai_P0 d m_Law_law (814, [some (.retAddr b), some (.ref 0), some (.ref 222), some (.ref 314), some (ax_i i), y5, y6], [], z2) q) : ai_Rn (some (b, n, xs)) ai_P0 d m_Law_law (567, [some (.retAddr b), some (.ref 0), some (.ref 222), some (.ref 314), some (ax_i i), y5, y6], [], z) q := by
  refine ai_mv_Rn 1 (567, [some (.retAddr b), some (.ref 0), some (.ref 222), some (.ref 314), some (ax_i i), y5, y6], []) (568, [some (.retAddr b), some (.ref 0), some (.ref 222), some (.ref 314), some (ax_i i), y5, y6], [.ref 0]) rfl ?_
  refine l_arg (pc := 568) (t := 1) hn ⟨by omega, by omega⟩ rfl ⟨_, rfl⟩ ⟨_, rfl⟩ ?_
  refine ai_Rn.callv (pc := 574) (v := some (ax_i r)) (rest := []) ⟨_, rfl⟩ lk_15_77 rfl h0 (Nat.le_of_ble_eq_true rfl) (ai_nt_i _) c1 ?_
  refine ai_mv_Rn 1 (577, [some (.retAddr b), some (.ref 0), some (.ref 222), some (.ref 314), some (ax_i i), y5, y6], [ax_i r]) (578, [some (.retAddr b), some (.ref 0), some (.ref 222), some (.ref 314), some (ax_i i), y5, y6], [.ref 222, ax_i r]) rfl ?_
  refine l_arg (pc := 578) (t := 1) hn ⟨by omega, by omega⟩ rfl ⟨_, rfl⟩ ⟨_, rfl⟩ ?_
  refine ai_Rn.callv (pc := 584) (v := some (ax_i r)) (rest := [ax_i r]) ⟨_, rfl⟩ lk_15_80 rfl h1 (Nat.le_of_ble_eq_true rfl) (ai_nt_i _) c2 ?_
  exact l_c2 (k := .eq) (pc := 587) (p1 := 814) ⟨_, rfl⟩ (by decide) rr rr (fun _ => k) (fun y => absurd rfl y)
set_option maxRecDepth 100000 in
theorem l_save (hn : n ≤ 2048) (hi : 0 ≤ i ∧ i + 4 ≤ (n : Int)) (rr : ax_rg r) (h0 : z[0]? = some (.inr (11, fs))) (h1 : z1[222]? = some (.inr (12, gs))) (c1 : ai_Ex ai_P0 d q_House_save [.ref 0, ax_i (l_x xs (i + 1)), ax_i (l_x xs (i + 2))] z (some (ax_i r), z1)) (c2 : ai_Ex ai_P0 d q_Model_save [.ref 222, ax_i (l_x xs (i + 1)), ax_i (l_x xs (i + 2))] z1 (some (ax_i r), z2)) (k : ai_Rn (some (b, n, xs)) ai_P0 d m_Law_law (814, [some (.retAddr b), some (.ref 0), some (.ref 222), some (.ref 314), some (ax_i i), y5, y6], [], z2) q) : ai_Rn (some (b, n, xs)) ai_P0 d m_Law_law (592, [some (.retAddr b), some (.ref 0), some (.ref 222), some (.ref 314), some (ax_i i), y5, y6], [], z) q := by
  refine ai_mv_Rn 1 (592, [some (.retAddr b), some (.ref 0), some (.ref 222), some (.ref 314), some (ax_i i), y5, y6], []) (593, [some (.retAddr b), some (.ref 0), some (.ref 222), some (.ref 314), some (ax_i i), y5, y6], [.ref 0]) rfl ?_
  refine l_arg (pc := 593) (t := 1) hn ⟨by omega, by omega⟩ rfl ⟨_, rfl⟩ ⟨_, rfl⟩ ?_
  refine l_arg (pc := 599) (t := 2) hn ⟨by omega, by omega⟩ rfl ⟨_, rfl⟩ ⟨_, rfl⟩ ?_
  refine ai_Rn.callv (pc := 605) (v := some (ax_i r)) (rest := []) ⟨_, rfl⟩ lk_15_81 rfl h0 (Nat.le_of_ble_eq_true rfl) (ai_nt_i _) c1 ?_
  refine ai_mv_Rn 1 (608, [some (.retAddr b), some (.ref 0), some (.ref 222), some (.ref 314), some (ax_i i), y5, y6], [ax_i r]) (609, [some (.retAddr b), some (.ref 0), some (.ref 222), some (.ref 314), some (ax_i i), y5, y6], [.ref 222, ax_i r]) rfl ?_
  refine l_arg (pc := 609) (t := 1) hn ⟨by omega, by omega⟩ rfl ⟨_, rfl⟩ ⟨_, rfl⟩ ?_
  refine l_arg (pc := 615) (t := 2) hn ⟨by omega, by omega⟩ rfl ⟨_, rfl⟩ ⟨_, rfl⟩ ?_
  refine ai_Rn.callv (pc := 621) (v := some (ax_i r)) (rest := [ax_i r]) ⟨_, rfl⟩ lk_15_85 rfl h1 (Nat.le_of_ble_eq_true rfl) (ai_nt_i _) c2 ?_
  exact l_c2 (k := .eq) (pc := 624) (p1 := 814) ⟨_, rfl⟩ (by decide) rr rr (fun _ => k) (fun y => absurd rfl y)
set_option maxRecDepth 100000 in
theorem l_back (hn : n ≤ 2048) (hi : 0 ≤ i ∧ i + 4 ≤ (n : Int)) (rr : ax_rg r) (h0 : z[0]? = some (.inr (11, fs))) (h1 : z1[222]? = some (.inr (12, gs))) (c1 : ai_Ex ai_P0 d q_House_back [.ref 0, ax_i (l_x xs (i + 1)), ax_i (l_x xs (i + 2))] z (some (ax_i r), z1)) (c2 : ai_Ex ai_P0 d q_Model_back [.ref 222, ax_i (l_x xs (i + 1)), ax_i (l_x xs (i + 2))] z1 (some (ax_i r), z2)) (k : ai_Rn (some (b, n, xs)) ai_P0 d m_Law_law (814, [some (.retAddr b), some (.ref 0), some (.ref 222), some (.ref 314), some (ax_i i), y5, y6], [], z2) q) : ai_Rn (some (b, n, xs)) ai_P0 d m_Law_law (629, [some (.retAddr b), some (.ref 0), some (.ref 222), some (.ref 314), some (ax_i i), y5, y6], [], z) q := by
  refine ai_mv_Rn 1 (629, [some (.retAddr b), some (.ref 0), some (.ref 222), some (.ref 314), some (ax_i i), y5, y6], []) (630, [some (.retAddr b), some (.ref 0), some (.ref 222), some (.ref 314), some (ax_i i), y5, y6], [.ref 0]) rfl ?_
  refine l_arg (pc := 630) (t := 1) hn ⟨by omega, by omega⟩ rfl ⟨_, rfl⟩ ⟨_, rfl⟩ ?_
  refine l_arg (pc := 636) (t := 2) hn ⟨by omega, by omega⟩ rfl ⟨_, rfl⟩ ⟨_, rfl⟩ ?_
  refine ai_Rn.callv (pc := 642) (v := some (ax_i r)) (rest := []) ⟨_, rfl⟩ lk_15_86 rfl h0 (Nat.le_of_ble_eq_true rfl) (ai_nt_i _) c1 ?_
  refine ai_mv_Rn 1 (645, [some (.retAddr b), some (.ref 0), some (.ref 222), some (.ref 314), some (ax_i i), y5, y6], [ax_i r]) (646, [some (.retAddr b), some (.ref 0), some (.ref 222), some (.ref 314), some (ax_i i), y5, y6], [.ref 222, ax_i r]) rfl ?_
  refine l_arg (pc := 646) (t := 1) hn ⟨by omega, by omega⟩ rfl ⟨_, rfl⟩ ⟨_, rfl⟩ ?_
  refine l_arg (pc := 652) (t := 2) hn ⟨by omega, by omega⟩ rfl ⟨_, rfl⟩ ⟨_, rfl⟩ ?_
  refine ai_Rn.callv (pc := 658) (v := some (ax_i r)) (rest := [ax_i r]) ⟨_, rfl⟩ lk_15_89 rfl h1 (Nat.le_of_ble_eq_true rfl) (ai_nt_i _) c2 ?_
  exact l_c2 (k := .eq) (pc := 661) (p1 := 814) ⟨_, rfl⟩ (by decide) rr rr (fun _ => k) (fun y => absurd rfl y)
set_option maxRecDepth 100000 in
theorem l_prove (hn : n ≤ 2048) (hi : 0 ≤ i ∧ i + 4 ≤ (n : Int)) (rr : ax_rg r) (h0 : z[0]? = some (.inr (11, fs))) (h1 : z1[222]? = some (.inr (12, gs))) (c1 : ai_Ex ai_P0 d q_House_prove [.ref 0, ax_i (l_x xs (i + 1)), ax_i (l_x xs (i + 2)), ax_i (l_x xs (i + 3))] z (some (ax_i r), z1)) (c2 : ai_Ex ai_P0 d q_Model_prove [.ref 222, ax_i (l_x xs (i + 1)), ax_i (l_x xs (i + 2)), ax_i (l_x xs (i + 3))] z1 (some (ax_i r), z2)) (k : ai_Rn (some (b, n, xs)) ai_P0 d m_Law_law (814, [some (.retAddr b), some (.ref 0), some (.ref 222), some (.ref 314), some (ax_i i), y5, y6], [], z2) q) : ai_Rn (some (b, n, xs)) ai_P0 d m_Law_law (666, [some (.retAddr b), some (.ref 0), some (.ref 222), some (.ref 314), some (ax_i i), y5, y6], [], z) q := by
  refine ai_mv_Rn 1 (666, [some (.retAddr b), some (.ref 0), some (.ref 222), some (.ref 314), some (ax_i i), y5, y6], []) (667, [some (.retAddr b), some (.ref 0), some (.ref 222), some (.ref 314), some (ax_i i), y5, y6], [.ref 0]) rfl ?_
  refine l_arg (pc := 667) (t := 1) hn ⟨by omega, by omega⟩ rfl ⟨_, rfl⟩ ⟨_, rfl⟩ ?_
  refine l_arg (pc := 673) (t := 2) hn ⟨by omega, by omega⟩ rfl ⟨_, rfl⟩ ⟨_, rfl⟩ ?_
  refine l_arg (pc := 679) (t := 3) hn ⟨by omega, by omega⟩ rfl ⟨_, rfl⟩ ⟨_, rfl⟩ ?_
  refine ai_Rn.callv (pc := 685) (v := some (ax_i r)) (rest := []) ⟨_, rfl⟩ lk_15_90 rfl h0 (Nat.le_of_ble_eq_true rfl) (ai_nt_i _) c1 ?_
  refine ai_mv_Rn 1 (688, [some (.retAddr b), some (.ref 0), some (.ref 222), some (.ref 314), some (ax_i i), y5, y6], [ax_i r]) (689, [some (.retAddr b), some (.ref 0), some (.ref 222), some (.ref 314), some (ax_i i), y5, y6], [.ref 222, ax_i r]) rfl ?_
  refine l_arg (pc := 689) (t := 1) hn ⟨by omega, by omega⟩ rfl ⟨_, rfl⟩ ⟨_, rfl⟩ ?_
  refine l_arg (pc := 695) (t := 2) hn ⟨by omega, by omega⟩ rfl ⟨_, rfl⟩ ⟨_, rfl⟩ ?_
  refine l_arg (pc := 701) (t := 3) hn ⟨by omega, by omega⟩ rfl ⟨_, rfl⟩ ⟨_, rfl⟩ ?_
  refine ai_Rn.callv (pc := 707) (v := some (ax_i r)) (rest := [ax_i r]) ⟨_, rfl⟩ lk_15_94 rfl h1 (Nat.le_of_ble_eq_true rfl) (ai_nt_i _) c2 ?_
  exact l_c2 (k := .eq) (pc := 710) (p1 := 814) ⟨_, rfl⟩ (by decide) rr rr (fun _ => k) (fun y => absurd rfl y)
set_option maxRecDepth 100000 in
theorem l_alike (hn : n ≤ 2048) (hi : 0 ≤ i ∧ i + 4 ≤ (n : Int)) (rr : ax_rg r) (h0 : z[0]? = some (.inr (11, fs))) (h1 : z1[222]? = some (.inr (12, gs))) (c1 : ai_Ex ai_P0 d q_House_alike [.ref 0, ax_i (l_x xs (i + 1)), ax_i (l_x xs (i + 2)), ax_i (l_x xs (i + 3))] z (some (ax_i r), z1)) (c2 : ai_Ex ai_P0 d q_Model_alike [.ref 222, ax_i (l_x xs (i + 1)), ax_i (l_x xs (i + 2)), ax_i (l_x xs (i + 3))] z1 (some (ax_i r), z2)) (k : ai_Rn (some (b, n, xs)) ai_P0 d m_Law_law (814, [some (.retAddr b), some (.ref 0), some (.ref 222), some (.ref 314), some (ax_i i), y5, y6], [], z2) q) : ai_Rn (some (b, n, xs)) ai_P0 d m_Law_law (715, [some (.retAddr b), some (.ref 0), some (.ref 222), some (.ref 314), some (ax_i i), y5, y6], [], z) q := by
  refine ai_mv_Rn 1 (715, [some (.retAddr b), some (.ref 0), some (.ref 222), some (.ref 314), some (ax_i i), y5, y6], []) (716, [some (.retAddr b), some (.ref 0), some (.ref 222), some (.ref 314), some (ax_i i), y5, y6], [.ref 0]) rfl ?_
  refine l_arg (pc := 716) (t := 1) hn ⟨by omega, by omega⟩ rfl ⟨_, rfl⟩ ⟨_, rfl⟩ ?_
  refine l_arg (pc := 722) (t := 2) hn ⟨by omega, by omega⟩ rfl ⟨_, rfl⟩ ⟨_, rfl⟩ ?_
  refine l_arg (pc := 728) (t := 3) hn ⟨by omega, by omega⟩ rfl ⟨_, rfl⟩ ⟨_, rfl⟩ ?_
  refine ai_Rn.callv (pc := 734) (v := some (ax_i r)) (rest := []) ⟨_, rfl⟩ lk_15_95 rfl h0 (Nat.le_of_ble_eq_true rfl) (ai_nt_i _) c1 ?_
  refine ai_mv_Rn 1 (737, [some (.retAddr b), some (.ref 0), some (.ref 222), some (.ref 314), some (ax_i i), y5, y6], [ax_i r]) (738, [some (.retAddr b), some (.ref 0), some (.ref 222), some (.ref 314), some (ax_i i), y5, y6], [.ref 222, ax_i r]) rfl ?_
  refine l_arg (pc := 738) (t := 1) hn ⟨by omega, by omega⟩ rfl ⟨_, rfl⟩ ⟨_, rfl⟩ ?_
  refine l_arg (pc := 744) (t := 2) hn ⟨by omega, by omega⟩ rfl ⟨_, rfl⟩ ⟨_, rfl⟩ ?_
  refine l_arg (pc := 750) (t := 3) hn ⟨by omega, by omega⟩ rfl ⟨_, rfl⟩ ⟨_, rfl⟩ ?_
  refine ai_Rn.callv (pc := 756) (v := some (ax_i r)) (rest := [ax_i r]) ⟨_, rfl⟩ lk_15_98 rfl h1 (Nat.le_of_ble_eq_true rfl) (ai_nt_i _) c2 ?_
  exact l_c2 (k := .eq) (pc := 759) (p1 := 814) ⟨_, rfl⟩ (by decide) rr rr (fun _ => k) (fun y => absurd rfl y)
set_option maxRecDepth 100000 in
theorem l_run (hn : n ≤ 2048) (hi : 0 ≤ i ∧ i + 4 ≤ (n : Int)) (rr : ax_rg r) (h0 : z[0]? = some (.inr (11, fs))) (h1 : z1[222]? = some (.inr (12, gs))) (c1 : ai_Ex ai_P0 d q_House_run [.ref 0, ax_i (l_x xs (i + 1))] z (some (ax_i r), z1)) (c2 : ai_Ex ai_P0 d q_Model_run [.ref 222, ax_i (l_x xs (i + 1))] z1 (some (ax_i r), z2)) (k : ai_Rn (some (b, n, xs)) ai_P0 d m_Law_law (814, [some (.retAddr b), some (.ref 0), some (.ref 222), some (.ref 314), some (ax_i i), y5, y6], [], z2) q) : ai_Rn (some (b, n, xs)) ai_P0 d m_Law_law (764, [some (.retAddr b), some (.ref 0), some (.ref 222), some (.ref 314), some (ax_i i), y5, y6], [], z) q := by
  refine ai_mv_Rn 1 (764, [some (.retAddr b), some (.ref 0), some (.ref 222), some (.ref 314), some (ax_i i), y5, y6], []) (765, [some (.retAddr b), some (.ref 0), some (.ref 222), some (.ref 314), some (ax_i i), y5, y6], [.ref 0]) rfl ?_
  refine l_arg (pc := 765) (t := 1) hn ⟨by omega, by omega⟩ rfl ⟨_, rfl⟩ ⟨_, rfl⟩ ?_
  refine ai_Rn.callv (pc := 771) (v := some (ax_i r)) (rest := []) ⟨_, rfl⟩ lk_15_99 rfl h0 (Nat.le_of_ble_eq_true rfl) (ai_nt_i _) c1 ?_
  refine ai_mv_Rn 1 (774, [some (.retAddr b), some (.ref 0), some (.ref 222), some (.ref 314), some (ax_i i), y5, y6], [ax_i r]) (775, [some (.retAddr b), some (.ref 0), some (.ref 222), some (.ref 314), some (ax_i i), y5, y6], [.ref 222, ax_i r]) rfl ?_
  refine l_arg (pc := 775) (t := 1) hn ⟨by omega, by omega⟩ rfl ⟨_, rfl⟩ ⟨_, rfl⟩ ?_
  refine ai_Rn.callv (pc := 781) (v := some (ax_i r)) (rest := [ax_i r]) ⟨_, rfl⟩ lk_15_102 rfl h1 (Nat.le_of_ble_eq_true rfl) (ai_nt_i _) c2 ?_
  exact l_c2 (k := .eq) (pc := 784) (p1 := 814) ⟨_, rfl⟩ (by decide) rr rr (fun _ => k) (fun y => absurd rfl y)
set_option maxRecDepth 100000 in
theorem l_total (hn : n ≤ 2048) (hi : 0 ≤ i ∧ i + 4 ≤ (n : Int)) (rr : ax_rg r) (h0 : z[0]? = some (.inr (11, fs))) (h1 : z1[222]? = some (.inr (12, gs))) (c1 : ai_Ex ai_P0 d q_House_total [.ref 0, ax_i (l_x xs (i + 1))] z (some (ax_i r), z1)) (c2 : ai_Ex ai_P0 d q_Model_total [.ref 222, ax_i (l_x xs (i + 1))] z1 (some (ax_i r), z2)) (k : ai_Rn (some (b, n, xs)) ai_P0 d m_Law_law (814, [some (.retAddr b), some (.ref 0), some (.ref 222), some (.ref 314), some (ax_i i), y5, y6], [], z2) q) : ai_Rn (some (b, n, xs)) ai_P0 d m_Law_law (789, [some (.retAddr b), some (.ref 0), some (.ref 222), some (.ref 314), some (ax_i i), y5, y6], [], z) q := by
  refine ai_mv_Rn 1 (789, [some (.retAddr b), some (.ref 0), some (.ref 222), some (.ref 314), some (ax_i i), y5, y6], []) (790, [some (.retAddr b), some (.ref 0), some (.ref 222), some (.ref 314), some (ax_i i), y5, y6], [.ref 0]) rfl ?_
  refine l_arg (pc := 790) (t := 1) hn ⟨by omega, by omega⟩ rfl ⟨_, rfl⟩ ⟨_, rfl⟩ ?_
  refine ai_Rn.callv (pc := 796) (v := some (ax_i r)) (rest := []) ⟨_, rfl⟩ lk_15_103 rfl h0 (Nat.le_of_ble_eq_true rfl) (ai_nt_i _) c1 ?_
  refine ai_mv_Rn 1 (799, [some (.retAddr b), some (.ref 0), some (.ref 222), some (.ref 314), some (ax_i i), y5, y6], [ax_i r]) (800, [some (.retAddr b), some (.ref 0), some (.ref 222), some (.ref 314), some (ax_i i), y5, y6], [.ref 222, ax_i r]) rfl ?_
  refine l_arg (pc := 800) (t := 1) hn ⟨by omega, by omega⟩ rfl ⟨_, rfl⟩ ⟨_, rfl⟩ ?_
  refine ai_Rn.callv (pc := 806) (v := some (ax_i r)) (rest := [ax_i r]) ⟨_, rfl⟩ lk_15_106 rfl h1 (Nat.le_of_ble_eq_true rfl) (ai_nt_i _) c2 ?_
  exact l_c2 (k := .eq) (pc := 809) (p1 := 814) ⟨_, rfl⟩ (by decide) rr rr (fun _ => k) (fun y => absurd rfl y)
end LawOps
