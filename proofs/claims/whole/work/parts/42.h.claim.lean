/-! THE LAW'S LOOP, and the claim -/
theorem nk_15_8 : ai_P0.2.2.1 15 8 = some 11 := rfl
theorem nk_15_25 : ai_P0.2.2.1 15 25 = some 12 := rfl
theorem lk_15_24 : ai_P0.2.2.2.1 15 24 = some (1, 0, 0, 0) := rfl
theorem lk_15_27 : ai_P0.2.2.2.1 15 27 = some (1, 158, 0, 0) := rfl
theorem l_new {nw : Nat → Option Nat} {df : Nat → List Value} {idx ci pc n : Nat} {st : List Value} {z : List va_E} (h : nw idx = some ci) (hl : z.length = n) : ai_new nw df idx pc st z = some (pc + 3, .ref n :: st, z ++ [.inr (ci, df ci)]) := by
  unfold ai_new
  simp only [h, hl]
theorem l_one : (Int32.ofInt 1).toNatClampNeg = 1 := by decide
theorem l_nwl {pc n : Nat} {z : List va_E} (hl : z.length = n) : ai_nwl pc [ax_i 1] z = some (pc + 2, [.ref n], z ++ [y_bx (fun _ => 0)]) := by
  show (if Int32.ofInt 1 < 0 ∨ 1000000 < (Int32.ofInt 1).toNatClampNeg then none else some (pc + 2, [Value.ref z.length], z ++ [(.inl (3, (Int32.ofInt 1).toNatClampNeg, .inr (.inl (fun _ => 0))) : va_E)])) = _
  rw [if_neg (by decide), hl, l_one]
  rfl
theorem l_wap (ss : List ax_S) (e : va_E) (V : ax_V) : ax_w (ss ++ [.inl e]) V = ax_w ss V ++ [e] := by
  unfold ax_w
  rw [List.map_append]
  rfl
section LawClaim
variable {n b : Nat} {xs : Nat → Int32}
theorem l_loop (hn : n ≤ 2048) : ∀ (j k : Nat) (ss : List ax_S) (C N : ax_V) (i : Int) (y5 y6 : Option Value), (n : Int) - i ≤ 4 * (j : Int) → k + j ≤ 1000 → 0 ≤ i → i ≤ 2400 → l_I k ss C N → ∃ z2, z2.length ≤ 601024 ∧ ai_c z2 ≤ 7293034 ∧ ai_Rn (some (b, n, xs)) ai_P0 430 m_Law_law (23, [some (.retAddr b), some (.ref 0), some (.ref 222), some (.ref 314), some (ax_i i), y5, y6], [], ax_w ss (y_n C N)) (some (ax_i 1), z2) := by
  intro j
  induction j with
  | zero =>
    intro k ss C N i y5 y6 hj hk i0 i1 I
    obtain ⟨B, Sp, w, nw, m, p, f, h, hR, hb, hl, hc⟩ := I
    have nb := hR.2.1
    refine ⟨ax_w ss (y_n C N), by rw [ax_w_len]; omega, ?_, l_head hn ⟨i0, by omega⟩ (fun _ => rfl) (fun y => by omega)⟩
    rw [y_c_w]
    by_cases y : nw < 180000
    · rw [if_pos y] at hc; omega
    · rw [if_neg y] at hc; omega
  | succ j ih =>
    intro k ss C N i y5 y6 hj hk i0 i1 I
    by_cases e : (n : Int) - 4 < i
    · obtain ⟨B, Sp, w, nw, m, p, f, h, hR, hb, hl, hc⟩ := I
      have nb := hR.2.1
      refine ⟨ax_w ss (y_n C N), by rw [ax_w_len]; omega, ?_, l_head hn ⟨i0, by omega⟩ (fun _ => rfl) (fun y => by omega)⟩
      rw [y_c_w]
      by_cases y : nw < 180000
      · rw [if_pos y] at hc; omega
      · rw [if_neg y] at hc; omega
    · -- which case it is, is not known yet: all end, but each in its own world
      obtain ⟨y0, ey⟩ : ∃ y0 : Int32, y0 = Int32.ofInt (l_x xs i) &&& (Int8.ofInt 31).toInt32 := ⟨_, rfl⟩
      obtain ⟨pc, mpc, sw⟩ := l_sw1 (b := b) (n := n) (xs := xs) (d := 430) y0
      obtain ⟨ss', C', N', a5, a6, I', go⟩ := l_step (b := b) (xs := xs) (y5 := y5) (y6 := y6) (by omega) hn ⟨i0, by omega⟩ I pc mpc
      obtain ⟨z2, a1, a2, run⟩ := ih (k + 1) ss' C' N' (i + 4) a5 a6 (by omega) (by omega) (by omega) (by omega) I'
      refine ⟨z2, a1, a2, l_head hn ⟨i0, by omega⟩ (fun y => absurd y e) (fun _ => ?_)⟩
      rw [← ey]
      exact sw _ _ _ (go _ (l_next run))
set_option maxRecDepth 100000 in
/-- the law up to its loop -/
theorem l_start (hn : n ≤ 2048) : ∃ z2, z2.length ≤ 601024 ∧ ai_c z2 ≤ 7293034 ∧ ai_Rn (some (b, n, xs)) ai_P0 430 m_Law_law (0, [some (.retAddr b), none, none, none, none, none, none], [], []) (some (ax_i 1), z2) := by
  have lS : (y_S0 ++ [(.inl (y_bx (fun _ => 0)) : ax_S)]).length = 315 := by rw [List.length_append, y_S0_len]; rfl
  have b314 : (y_S0 ++ [(.inl (y_bx (fun _ => 0)) : ax_S)])[314]? = some (.inl (y_bx (fun _ => 0))) := by
    have u := y_glast (ss := y_S0) (.inl (y_bx (fun _ => 0)))
    rw [y_S0_len] at u
    exact u
  have I : l_I 0 (y_S0 ++ [(.inl (y_bx (fun _ => 0)) : ax_S)]) y_V0 y_V0 := by
    refine ⟨2, 76, 159, 0, .null, .null, fun _ => 0, y_S0_L.app (ax_ok_ap1 y_S0_L.1), y_S0_R _, b314, Nat.le_of_eq lS, ?_⟩
    rw [y_c_app]
    have u := y_c_S0
    show y_c y_S0 + 1 ≤ _
    rw [if_pos (by decide)]
    omega
  obtain ⟨z2, a1, a2, run⟩ := l_loop (b := b) (xs := xs) hn 513 0 _ y_V0 y_V0 0 none none (by omega) (by decide) (by decide) (by decide) I
  refine ⟨z2, a1, a2, ?_⟩
  rw [y_n_id, l_wap, y_S0_w] at run
  refine ai_Rn.world (i := .new 8) (pc' := 3) (st' := [.ref 0]) (z' := [.inr (11, ai_df 11)]) ⟨_, rfl⟩ rfl (l_new (ci := 11) (n := 0) nk_15_8 rfl) ?_
  refine ai_mv_Rn 1 (3, [some (.retAddr b), none, none, none, none, none, none], [.ref 0]) (4, [some (.retAddr b), none, none, none, none, none, none], [.ref 0, .ref 0]) rfl ?_
  refine ai_Rn.calli (v := none) (rest := [.ref 0]) ⟨_, rfl⟩ lk_15_24 (Or.inl rfl) rfl (Nat.le_of_ble_eq_true rfl) ai_nt_n (zH_ex.up (by decide)) ?_
  refine ai_mv_Rn 1 (7, [some (.retAddr b), none, none, none, none, none, none], [.ref 0]) (8, [some (.retAddr b), some (.ref 0), none, none, none, none, none], []) rfl ?_
  refine ai_Rn.world (i := .new 25) (pc' := 11) (st' := [.ref 222]) (z' := zH ++ [(.inr (12, ai_df 12) : va_E)]) ⟨_, rfl⟩ rfl (show ai_new (ai_P0.2.2.1 15) ai_df 25 8 [] zH = some (11, [.ref 222], zH ++ [(.inr (12, ai_df 12) : va_E)]) from l_new nk_15_25 zH_len) ?_
  refine ai_mv_Rn 1 (11, [some (.retAddr b), some (.ref 0), none, none, none, none, none], [.ref 222]) (12, [some (.retAddr b), some (.ref 0), none, none, none, none, none], [.ref 222, .ref 222]) rfl ?_
  refine ai_Rn.calli (v := none) (rest := [.ref 222]) ⟨_, rfl⟩ lk_15_27 (Or.inl rfl) rfl (Nat.le_of_ble_eq_true rfl) ai_nt_n (zM_ex.up (by decide)) ?_
  refine ai_mv_Rn 2 (15, [some (.retAddr b), some (.ref 0), none, none, none, none, none], [.ref 222]) (17, [some (.retAddr b), some (.ref 0), some (.ref 222), none, none, none, none], [ax_i 1]) rfl ?_
  refine ai_Rn.world (i := .newarray .long) (pc' := 19) (st' := [.ref 314]) (z' := zM ++ [y_bx (fun _ => 0)]) ⟨_, rfl⟩ rfl (show ai_nwl 17 [ax_i 1] zM = some (19, [.ref 314], zM ++ [y_bx (fun _ => 0)]) from l_nwl zM_len) ?_
  exact ai_mv_Rn 3 (19, [some (.retAddr b), some (.ref 0), some (.ref 222), none, none, none, none], [.ref 314]) (23, [some (.retAddr b), some (.ref 0), some (.ref 222), some (.ref 314), some (ax_i 0), none, none], []) rfl run
/-- what the claim needs of the machine -/
theorem l_claim (hn : n ≤ 2048) : ai_Claim b n xs := by
  obtain ⟨z2, a1, a2, k0, h⟩ := l_start (b := b) (xs := xs) hn
  exact ⟨430, k0, z2, h k0 (Nat.le_refl _) k0 (Nat.le_refl _), by decide, a1, a2⟩
end LawClaim
