/-! THE OTHER LEAVES -/
theorem c_mk_see {C : ax_V} {o f a w : Int} : c_see (c_mk C o f a w) = c_see C := by simp [c_see, c_mk, ax_u]
theorem e_nC.on (C : ax_V) (k : Int) : e_nC C (c_on C k) := ⟨fun c hc => ax_u_ne hc, fun k hk => by simp [c_on, ax_u, hk]⟩
theorem e_nM.on (M : ax_V) (k : Int) : e_nM M (m_on M k) := ⟨fun c hc => ax_u_ne hc, fun k hk _ => by simp [m_on, ax_u, hk]⟩
theorem e_nC.tr {C C1 C2 : ax_V} (h : e_nC C C1) (k : e_nC C1 C2) : e_nC C C2 := ⟨fun c hc => (k.1 c hc).trans (h.1 c hc), fun j hj => (k.2 j hj).trans (h.2 j hj)⟩
theorem e_nM.tr {M M1 M2 : ax_V} (h : e_nM M M1) (k : e_nM M1 M2) : e_nM M M2 := ⟨fun c hc => (k.1 c hc).trans (h.1 c hc), fun j hj hj2 => (k.2 j hj hj2).trans (h.2 j hj hj2)⟩
theorem e_nC.fr {C C1 : ax_V} {P : Int} (hC : e_nC C C1) : e_fC C C1 P := ⟨fun c x _ => hC.1 c x, fun c p x y _ => by rw [hC.1 c (by omega)], fun k x _ _ _ => hC.2 k x⟩
theorem e_nM.fr {M M1 : ax_V} {P : Int} (hM : e_nM M M1) : e_fM M M1 P := ⟨fun c x _ => hM.1 c x, fun c p x y _ => by rw [hM.1 c (by omega)], fun k _ x _ _ _ y => hM.2 k x y⟩
theorem ax_Xe.ofI {lay : ax_Lay} {d key : Nat} {vs : List Value} {V V' : ax_V} (h : ax_I lay d key vs V (fun _ _ => False) (fun W => W = V')) : ax_Xe lay d key vs V V' := ax_T.mono h (Nat.le_refl _) (fun r W _ q => by obtain ⟨x, -, -, q⟩ := q; exact q) (fun _ _ q => q)
theorem ax_Xe.ofN {lay : ax_Lay} {d key : Nat} {vs : List Value} {V V' : ax_V} (h : ax_N lay d key vs V (fun _ => False) (fun W => W = V')) : ax_Xe lay d key vs V V' := ax_T.mono h (Nat.le_refl _) (fun r W _ q => q.2) (fun _ _ q => q)
section Leaves2
variable {B r dc dm : Nat} {C M : ax_V}
set_option maxHeartbeats 1000000 in
theorem e_number (h : e_R C M) (hd : m_isD M) : e_out e_dig B r (dc + 4) q_Reader_readK [.ref r] (dm + 5) q_Model_readK [.ref 222] C M := by
  have hs := h.see
  have hlt := h.lt (by omega)
  have ci := h.ci
  have mi := h.mi
  obtain ⟨hgC, hgM⟩ := id h.1
  obtain ⟨p1, p2, p3⟩ := id h.2.2.2.1
  have hat : (C 600 6) = (M 222 68) := h.2.2.1.1.1
  have hsz := h.2.1.2.2.1
  obtain ⟨w, j, C1, M1, k1, k2, k3, k4, k5, k6, k7, k8, k9⟩ := e_num (B := B) (r := r) (dc := dc + 1) (dm := dm + 1) h hd
  obtain ⟨hgC1, hgM1⟩ := id k5.1
  have m1 : (M1 222 26) = (M 222 26) := k7.2 26 (by decide) (by decide)
  have ms : (M1 222 3) = (M 222 3) := k7.2 3 (by decide) (by decide)
  have c1 : (C1 516 0) = (M 222 26) := by rw [k6.1 516 (by decide)]; exact p1
  have q5 := k5.2.2.1.1
  have rw0 : ax_rg w := ⟨by omega, by omega⟩
  have kC : ax_Ie (az_W B (az_ER B r)) (dc + 4) q_Reader_readK [.ref r] C (M 222 26) (c_mk C1 0 (C 600 6) (C 600 6) w) := by
    refine r_Reader_readK hgC (t_look hgC ci (t_isLetter hgC (c_see_rg hgC) (ax_b_n (by omega) (t_isDigit hgC (c_see_rg hgC) (ax_b_y (by rw [hs]; exact hd) (k1.k (by omega) (fun _ _ => ?_)))))))
    exact t_addPart hgC1 (by decide) (hgC _ _) (hgC _ _) rw0 (by rw [c1]; exact ⟨by omega, by omega⟩) ⟨c1, rfl⟩
  by_cases hd1 : m_isD M1
  · refine Or.inr (Or.inr ⟨(M 222 26), _, M1, kC, ?_, ⟨⟨⟨c_mk_g hgC1 (by decide) (hgC _ _) (hgC _ _) rw0 (by rw [c1]; exact ⟨by omega, by omega⟩), hgM1⟩, ?_, ?_, k7.fr⟩, ?_, ?_, ?_⟩, ?_⟩)
    · refine r_Model_readK hgM (s_see hgM mi ⟨fun q => by omega, fun _ => ⟨fun q => by omega, fun _ => ⟨fun q => by omega, fun _ => ⟨fun q => by omega, fun _ => ⟨fun q => by omega, fun _ => ?_⟩⟩⟩⟩⟩)
      refine s_isName hgM mi (ax_b_n (by omega) (s_isDigit hgM mi (ax_b_y hd (k2.k (by omega) (fun _ _ => ?_)))))
      exact ⟨fun _ => ⟨rfl, rfl⟩, fun q => absurd (ax_b_f (fun z => z hd1)) q⟩
    · rw [(c_mk_at (C := C1) rfl).2.2.2.2.2.2.2.2.2.2.2.2.1]; exact q5.1
    · exact k6.fr.tr (c_mk_f.mono (by omega)) (Int.le_refl _)
    · rw [(c_mk_at (C := C1) rfl).1]; exact ⟨Int.le_refl _, by omega⟩
    · rw [(c_mk_at (C := C1) rfl).1, (c_mk_at (C := C1) rfl).2.2.2.2.2.2.2.2.2.2.2.2.1]; exact ⟨by omega, by omega, by omega⟩
    · obtain ⟨-, -, -, -, -, -, -, -, -, -, -, -, -, b14, b15, b16⟩ := c_mk_at (C := C1) (o := 0) (f := (C 600 6)) (a := (C 600 6)) (w := w) rfl
      rw [b14, b15, b16]
      exact ⟨k6.2 11 (by decide), k6.2 12 (by decide), k6.2 13 (by decide)⟩
    · show 48 ≤ c_see _ ∧ c_see _ ≤ 57
      rw [c_mk_see, k5.see]; exact hd1
  · have ev : (m_mk M1 0 (M 222 68) (-1) (-1) (-1)) 222 75 = w := by rw [← k9]; simp [m_mk, ax_u]
    obtain ⟨-, d2, d3, d4, d5, d6, d7, d8, d9, d10, d11, d12, d13, d14, d15, d16, d17, d18⟩ := m_mk_at (M := M1) (o := 0) (f := (M 222 68)) (x := -1) (y := -1) (z := -1) rfl
    rw [m1] at d2 d3 d4 d5 d6 d7 d8 d9 d10 d11 d12 d13 d14 d15
    refine Or.inl ⟨(M 222 26), _, ax_u (m_mk M1 0 (M 222 68) (-1) (-1) (-1)) 249 (M 222 26) w, kC, ?_, ?_⟩
    · refine r_Model_readK hgM (s_see hgM mi ⟨fun q => by omega, fun _ => ⟨fun q => by omega, fun _ => ⟨fun q => by omega, fun _ => ⟨fun q => by omega, fun _ => ⟨fun q => by omega, fun _ => ?_⟩⟩⟩⟩⟩)
      refine s_isName hgM mi (ax_b_n (by omega) (s_isDigit hgM mi (ax_b_y hd (k2.k (by omega) (fun _ _ => ?_)))))
      refine ⟨fun q => absurd q (by rw [ax_b_t hd1]; decide), fun _ => s_makePart hgM1 (by decide) (hgM _ _) (by decide) (by decide) (by decide) (by rw [m1]; exact ⟨by omega, by omega⟩) ?_⟩
      rw [m1, ev]
      exact ⟨⟨by omega, by omega⟩, fun V7 e7 => ⟨rfl, e7⟩⟩
    · refine e_leafG (om := 0) h k5 k6 k7 (by omega) (by decide) rfl rfl hat hlt (hgC _ _) rw0 (ax_u_g (m_mk_g hgM1 (by decide) (hgM _ _) (by decide) (by decide) (by decide) (by rw [m1]; exact ⟨by omega, by omega⟩)) rw0) (fun c p hcp => ?_) ?_
      · unfold ax_u; rw [if_neg (by omega)]
      · obtain ⟨-, -, -, -, b5, -, -, b8, -⟩ := c_mk_at (C := C1) (o := 0) (f := (C 600 6)) (a := (C 600 6)) (w := w) rfl
        rw [c1] at b5 b8
        have f1 : (ax_u (m_mk M1 0 (M 222 68) (-1) (-1) (-1)) 249 (M 222 26) w) 241 (M 222 26) = 0 := by simp [ax_u, d3]
        have f2 : (ax_u (m_mk M1 0 (M 222 68) (-1) (-1) (-1)) 249 (M 222 26) w) 249 (M 222 26) = w := by simp [ax_u]
        have f3 : (ax_u (m_mk M1 0 (M 222 68) (-1) (-1) (-1)) 249 (M 222 26) w) 248 (M 222 26) = -1 := by simp [ax_u, d10]
        unfold e_dt
        rw [f1, f2, f3, b5, b8]
        exact ⟨fun _ => ⟨rfl, rfl, rfl⟩, fun q => by omega, fun q => by omega, fun q => by omega, fun q => by omega, fun q => by omega, fun q => by omega⟩
set_option maxHeartbeats 1000000 in
theorem e_word (h : e_R C M) (hv : m_see M = 84 ∨ m_see M = 85) : e_out e_dig B r (dc + 4) q_Reader_readK [.ref r] (dm + 5) q_Model_readK [.ref 222] C M := by
  have hs := h.see
  have hlt := h.lt (by omega)
  have ci := h.ci
  have mi := h.mi
  have h1 := h.on (k := 1) (by omega) (by omega)
  obtain ⟨hgC, hgM⟩ := id h.1
  obtain ⟨hgC1, hgM1⟩ := id h1.1
  obtain ⟨p1, p2, p3⟩ := id h.2.2.2.1
  have hat : (C 600 6) = (M 222 68) := h.2.2.1.1.1
  have hsz := h.2.1.2.2.1
  have m1 : (m_on M 1) 222 26 = (M 222 26) := by simp [m_on, ax_u]
  have ma : (m_on M 1) 222 68 = (M 222 68) + 1 := by simp [m_on, ax_u]
  have c1 : (c_on C 1) 516 0 = (M 222 26) := by rw [← p1]; simp [c_on, ax_u]
  obtain ⟨v, ev⟩ : ∃ x : Int, x = ax_b (m_see M = 84) := ⟨_, rfl⟩
  have rv : ax_rg v := by rw [ev]; exact ax_b_rg
  have v01 : v = 0 ∨ v = 1 := by rw [ev]; exact ax_b_01
  obtain ⟨-, d2, d3, d4, d5, d6, d7, d8, d9, d10, d11, d12, d13, d14, d15, d16, d17, d18⟩ := m_mk_at (M := m_on M 1) (o := 1) (f := (M 222 68)) (x := -1) (y := -1) (z := -1) rfl
  rw [m1] at d2 d3 d4 d5 d6 d7 d8 d9 d10 d11 d12 d13 d14 d15
  refine Or.inl ⟨(M 222 26), c_mk (c_on C 1) 1 (C 600 6) (C 600 6) v, ax_u (m_mk (m_on M 1) 1 (M 222 68) (-1) (-1) (-1)) 249 (M 222 26) v, ?_, ?_, ?_⟩
  · refine r_Reader_readK hgC (t_look hgC ci (t_isLetter hgC (c_see_rg hgC) (ax_b_n (by omega) (t_isDigit hgC (c_see_rg hgC) (ax_b_n (by omega) (t_isName hgC (c_see_rg hgC) (ax_b_n (by omega) ?_)))))))
    refine ⟨fun q => by omega, fun q => by omega, fun q => by omega, fun q => by omega, fun q => by omega, fun q => by omega, fun _ _ _ _ _ _ => ?_⟩
    by_cases w : m_see M = 84
    · have e1 : v = 1 := by rw [ev]; exact ax_b_t w
      refine ⟨fun _ => ⟨⟨by omega, by omega⟩, fun C2 e2 => ⟨fun _ => ?_, fun q => by omega⟩⟩, fun q => by omega⟩
      have e2 : C2 = c_on C 1 := e2
      rw [e2]
      exact t_addPart hgC1 (by decide) (hgC _ _) (hgC _ _) (by decide) (by rw [c1]; exact ⟨by omega, by omega⟩) ⟨c1, by rw [e1]⟩
    · have e1 : v = 0 := by rw [ev]; exact ax_b_f w
      refine ⟨fun q => by omega, fun _ => ⟨fun _ => ⟨⟨by omega, by omega⟩, fun C2 e2 => ⟨fun q => by omega, fun _ => ?_⟩⟩, fun q => by omega⟩⟩
      have e2 : C2 = c_on C 1 := e2
      rw [e2]
      exact t_addPart hgC1 (by decide) (hgC _ _) (hgC _ _) (by decide) (by rw [c1]; exact ⟨by omega, by omega⟩) ⟨c1, by rw [e1]⟩
  · refine r_Model_readK hgM (s_see hgM mi ⟨fun q => by omega, fun _ => ⟨fun q => by omega, fun _ => ⟨fun q => by omega, fun _ => ⟨fun q => by omega, fun _ => ⟨fun q => by omega, fun _ => ?_⟩⟩⟩⟩⟩)
    refine s_isName hgM mi (ax_b_n (by omega) (s_isDigit hgM mi (ax_b_n (by omega) ?_)))
    have key : k_Model_readK_161 (dm + 4) (m_see M) (M 222 68) none none none none M (fun y W => y = 1 ∧ W = ax_u (m_mk (m_on M 1) 1 (M 222 68) (-1) (-1) (-1)) 249 (M 222 26) v) (fun _ => False) := by
      refine r_Model_readK_161 hgM (m_see_rg hgM) (hgM _ _) ax_y_n ax_y_n ax_y_n ax_y_n ⟨⟨by omega, by omega⟩, fun V1 e1 => ?_⟩
      have e1 : V1 = m_on M 1 := e1
      rw [e1]
      refine s_makePart hgM1 (by decide) (hgM _ _) (by decide) (by decide) (by decide) (by rw [m1]; exact ⟨by omega, by omega⟩) ?_
      rw [m1]
      refine ⟨fun w => ⟨⟨by omega, by omega⟩, fun V4 e4 => ⟨rfl, ?_⟩⟩, fun w => ⟨⟨by omega, by omega⟩, fun V4 e4 => ⟨rfl, ?_⟩⟩⟩
      · rw [e4, ev, ax_b_t w]
      · rw [e4, ev, ax_b_f w]
    rcases hv with w | w
    · exact ⟨fun _ => key, fun q => absurd w q⟩
    · exact ⟨fun q => by omega, fun _ => ⟨fun _ => key, fun q => absurd w q⟩⟩
  · refine e_leafG (om := 1) h h1 (e_nC.on C 1) (e_nM.on M 1) (by omega) (by decide) rfl rfl hat hlt (hgC _ _) rv (ax_u_g (m_mk_g hgM1 (by decide) (hgM _ _) (by decide) (by decide) (by decide) (by rw [m1]; exact ⟨by omega, by omega⟩)) rv) (fun c p hcp => ?_) ?_
    · unfold ax_u; rw [if_neg (by omega)]
    · obtain ⟨-, -, -, -, b5, -, -, b8, -⟩ := c_mk_at (C := c_on C 1) (o := 1) (f := (C 600 6)) (a := (C 600 6)) (w := v) rfl
      rw [c1] at b5 b8
      have f1 : (ax_u (m_mk (m_on M 1) 1 (M 222 68) (-1) (-1) (-1)) 249 (M 222 26) v) 241 (M 222 26) = 1 := by simp [ax_u, d3]
      have f2 : (ax_u (m_mk (m_on M 1) 1 (M 222 68) (-1) (-1) (-1)) 249 (M 222 26) v) 249 (M 222 26) = v := by simp [ax_u]
      have f3 : (ax_u (m_mk (m_on M 1) 1 (M 222 68) (-1) (-1) (-1)) 249 (M 222 26) v) 248 (M 222 26) = -1 := by simp [ax_u, d10]
      unfold e_dt
      rw [f1, f2, f3, b5, b8]
      exact ⟨fun _ => ⟨rfl, rfl, rfl⟩, fun _ => v01, fun q => by omega, fun q => by omega, fun q => by omega, fun q => by omega, fun q => by omega⟩
set_option maxHeartbeats 1000000 in
theorem e_last (h : e_R C M) (hv : m_see M = 39) : e_out e_dig B r (dc + 4) q_Reader_readK [.ref r] (dm + 5) q_Model_readK [.ref 222] C M := by
  have hs := h.see
  have hlt := h.lt (by omega)
  have ci := h.ci
  have mi := h.mi
  have h1 := h.on (k := 1) (by omega) (by omega)
  have ci1 := h1.ci
  have mi1 := h1.mi
  have hs1 := h1.see
  obtain ⟨hgC, hgM⟩ := id h.1
  obtain ⟨hgC1, hgM1⟩ := id h1.1
  obtain ⟨p1, p2, p3⟩ := id h.2.2.2.1
  have hn := h.2.2.1.2.1
  have hat : (C 600 6) = (M 222 68) := h.2.2.1.1.1
  have hsz := h.2.1.2.2.1
  have m1 : (m_on M 1) 222 26 = (M 222 26) := by simp [m_on, ax_u]
  have ms : (m_on M 1) 222 3 = (M 222 3) := by simp [m_on, ax_u]
  have ma : (m_on M 1) 222 68 = (M 222 68) + 1 := by simp [m_on, ax_u]
  have c1 : (c_on C 1) 516 0 = (M 222 26) := by rw [← p1]; simp [c_on, ax_u]
  have cr : (c_on C 1) 600 8 = (C 600 8) := by simp [c_on, ax_u]
  have ca : (c_on C 1) 600 6 = (M 222 68) + 1 := by rw [← hat]; simp [c_on, ax_u]
  by_cases hl : m_isL (m_on M 1)
  · have hl' : 97 ≤ m_see (m_on M 1) ∧ m_see (m_on M 1) ≤ 122 := hl
    have hlt1 := h1.lt (by omega)
    have h2 := h1.on (k := 1) (by omega) (by omega)
    obtain ⟨hgC2, hgM2⟩ := id h2.1
    have n1 : (m_on (m_on M 1) 1) 222 26 = (M 222 26) := by rw [← m1]; simp [m_on, ax_u]
    have na : (m_on (m_on M 1) 1) 222 68 = (M 222 68) + 2 := by simp [m_on, ax_u]; omega
    have e1 : (c_on (c_on C 1) 1) 516 0 = (M 222 26) := by rw [← c1]; simp [c_on, ax_u]
    have en : (m_on (m_on M 1) 1) 222 10 = (M 222 10) := by simp [m_on, ax_u]
    obtain ⟨-, d2, d3, d4, d5, d6, d7, d8, d9, d10, d11, d12, d13, d14, d15, d16, d17, d18⟩ := m_mk_at (M := m_on (m_on M 1) 1) (o := 3) (f := (M 222 68)) (x := -1) (y := -1) (z := -1) rfl
    rw [n1] at d2 d3 d4 d5 d6 d7 d8 d9 d10 d11 d12 d13 d14 d15
    refine Or.inl ⟨(M 222 26), c_mk (c_on (c_on C 1) 1) 3 (C 600 6) ((C 600 6) + 1) ((C 600 8) * 26 + (m_see (m_on M 1) - 97)), ax_u (ax_u (m_mk (m_on (m_on M 1) 1) 3 (M 222 68) (-1) (-1) (-1)) 248 (M 222 26) (m_see (m_on M 1) - 97)) 244 (M 222 26) ((M 222 68) + 1), ?_, ?_, ?_⟩
    · refine r_Reader_readK hgC (t_look hgC ci (t_isLetter hgC (c_see_rg hgC) (ax_b_n (by omega) (t_isDigit hgC (c_see_rg hgC) (ax_b_n (by omega) (t_isName hgC (c_see_rg hgC) (ax_b_n (by omega) ?_)))))))
      refine ⟨fun q => by omega, fun _ => ⟨⟨by omega, by omega⟩, fun C2 e2 => ?_⟩, fun q => by omega, fun q => by omega, fun q => by omega, fun q => by omega, fun _ q => by omega⟩
      have e2 : C2 = c_on C 1 := e2
      rw [e2]
      refine t_takeLetter hgC1 ci1 (by rw [cr]; exact ⟨by omega, by omega⟩) (fun _ => ?_) (fun w => absurd (by rw [hs1]; exact hl') w)
      rw [cr, hs1]
      exact t_addPart hgC2 (by decide) (hgC _ _) ⟨by omega, by omega⟩ ⟨by omega, by omega⟩ (by rw [e1]; exact ⟨by omega, by omega⟩) ⟨e1, rfl⟩
    · refine r_Model_readK hgM (s_see hgM mi ⟨fun q => by omega, fun _ => ⟨fun q => by omega, fun _ => ⟨fun q => by omega, fun _ => ⟨fun q => by omega, fun _ => ⟨fun q => by omega, fun _ => ?_⟩⟩⟩⟩⟩)
      refine s_isName hgM mi (ax_b_n (by omega) (s_isDigit hgM mi (ax_b_n (by omega) ?_)))
      refine ⟨fun q => by omega, fun _ => ⟨fun q => by omega, fun _ => ⟨fun _ => ⟨⟨by omega, by omega⟩, fun V4 e4 => ?_⟩, fun q => absurd hv q⟩⟩⟩
      have e4 : V4 = m_on M 1 := e4
      rw [e4]
      refine r_Model_readK_226 hgM1 (ax_y_i _) (hgM _ _) (by decide) ax_y_n ax_y_n ax_y_n ?_
      refine s_takeLetter hgM1 mi1 (fun _ => ?_) (fun w => absurd hl w)
      refine ⟨fun q => by omega, fun _ => ⟨fun q => absurd q (by decide), fun _ => ?_⟩⟩
      refine s_makePart hgM2 (by decide) (hgM _ _) (by decide) (by decide) (by decide) (by rw [n1]; exact ⟨by omega, by omega⟩) ?_
      rw [n1, ma]
      exact ⟨⟨by omega, by omega⟩, fun V3 e3 => ⟨⟨by omega, by omega⟩, fun V4 e4 => ⟨rfl, by rw [e4, e3]⟩⟩⟩
    · refine e_leafG (om := 3) h h2 ((e_nC.on C 1).tr (e_nC.on _ 1)) ((e_nM.on M 1).tr (e_nM.on _ 1)) (by omega) (by decide) rfl rfl hat hlt ⟨by omega, by omega⟩ ⟨by omega, by omega⟩ (ax_u_g (ax_u_g (m_mk_g hgM2 (by decide) (hgM _ _) (by decide) (by decide) (by decide) (by rw [n1]; exact ⟨by omega, by omega⟩)) ⟨by omega, by omega⟩) ⟨by omega, by omega⟩) (fun c p hcp => ?_) ?_
      · unfold ax_u; rw [if_neg (by omega), if_neg (by omega)]
      · obtain ⟨-, -, -, b4, b5, -, -, b8, -⟩ := c_mk_at (C := c_on (c_on C 1) 1) (o := 3) (f := (C 600 6)) (a := (C 600 6) + 1) (w := (C 600 8) * 26 + (m_see (m_on M 1) - 97)) rfl
        rw [e1] at b4 b5 b8
        obtain ⟨M', eM⟩ : ∃ X : ax_V, X = ax_u (ax_u (m_mk (m_on (m_on M 1) 1) 3 (M 222 68) (-1) (-1) (-1)) 248 (M 222 26) (m_see (m_on M 1) - 97)) 244 (M 222 26) ((M 222 68) + 1) := ⟨_, rfl⟩
        rw [← eM]
        have f1 : M' 241 (M 222 26) = 3 := by rw [eM]; simp [ax_u, d3]
        have f2 : M' 244 (M 222 26) = (M 222 68) + 1 := by rw [eM]; simp [ax_u]
        have f3 : M' 248 (M 222 26) = m_see (m_on M 1) - 97 := by rw [eM]; simp [ax_u]
        have f4 : M' 250 (M 222 26) = (M 222 10) := by rw [eM]; simp [ax_u, d12, en]
        unfold e_dt
        rw [f1, f2, f3, f4, b4, b5, b8]
        exact ⟨fun q => by omega, fun q => by omega, fun _ => ⟨⟨by omega, by omega⟩, by omega, by omega, ⟨by omega, by omega⟩, rfl⟩, fun q => by omega, fun q => by omega, fun q => by omega, fun q => by omega⟩
  · refine Or.inr (Or.inl ⟨c_on C 1, m_on M 1, ?_, ?_, ⟨hgC1, hgM1⟩, by omega, (e_nC.on C 1).fr, (e_nM.on M 1).fr⟩)
    · refine ax_Xe.ofI (r_Reader_readK hgC (t_look hgC ci (t_isLetter hgC (c_see_rg hgC) (ax_b_n (by omega) (t_isDigit hgC (c_see_rg hgC) (ax_b_n (by omega) (t_isName hgC (c_see_rg hgC) (ax_b_n (by omega) ?_))))))))
      refine ⟨fun q => by omega, fun _ => ⟨⟨by omega, by omega⟩, fun C2 e2 => ?_⟩, fun q => by omega, fun q => by omega, fun q => by omega, fun q => by omega, fun _ q => by omega⟩
      have e2 : C2 = c_on C 1 := e2
      rw [e2]
      exact t_takeLetter hgC1 ci1 (by rw [cr]; exact ⟨by omega, by omega⟩) (fun w => absurd (by rw [hs1] at w; exact w) hl) (fun _ => rfl)
    · refine r_Model_readK hgM (s_see hgM mi ⟨fun q => by omega, fun _ => ⟨fun q => by omega, fun _ => ⟨fun q => by omega, fun _ => ⟨fun q => by omega, fun _ => ⟨fun q => by omega, fun _ => ?_⟩⟩⟩⟩⟩)
      refine s_isName hgM mi (ax_b_n (by omega) (s_isDigit hgM mi (ax_b_n (by omega) ?_)))
      refine ⟨fun q => by omega, fun _ => ⟨fun q => by omega, fun _ => ⟨fun _ => ⟨⟨by omega, by omega⟩, fun V4 e4 => ?_⟩, fun q => absurd hv q⟩⟩⟩
      have e4 : V4 = m_on M 1 := e4
      rw [e4]
      refine r_Model_readK_226 hgM1 (ax_y_i _) (hgM _ _) (by decide) ax_y_n ax_y_n ax_y_n ?_
      exact s_takeLetter hgM1 mi1 (fun w => absurd w hl) (fun _ => ⟨fun _ => ⟨rfl, rfl⟩, fun q => absurd rfl q⟩)
theorem e_refused (h : e_R C M) (h1 : ¬ m_isL M) (h2 : ¬ m_isD M) (h3 : ¬ m_isN M) (hv : ¬ m_see M = 33 ∧ ¬ m_see M = 39 ∧ ¬ m_see M = 40 ∧ ¬ m_see M = 45 ∧ ¬ m_see M = 91 ∧ ¬ m_see M = 126 ∧ ¬ m_see M = 84 ∧ ¬ m_see M = 85) : e_out e_dig B r (dc + 4) q_Reader_readK [.ref r] (dm + 5) q_Model_readK [.ref 222] C M := by
  have hs := h.see
  have ci := h.ci
  have mi := h.mi
  obtain ⟨hgC, hgM⟩ := id h.1
  refine Or.inr (Or.inl ⟨C, M, ?_, ?_, h.1, h.2.2.1.1.1, e_fC.rf _ _, e_fM.rf _ _⟩)
  · refine ax_Xe.ofI (r_Reader_readK hgC (t_look hgC ci (t_isLetter hgC (c_see_rg hgC) (ax_b_n (by rw [hs]; exact h1) (t_isDigit hgC (c_see_rg hgC) (ax_b_n (by rw [hs]; exact h2) (t_isName hgC (c_see_rg hgC) (ax_b_n (by rw [hs]; exact h3) ?_))))))))
    exact ⟨fun q => by omega, fun q => by omega, fun q => by omega, fun q => by omega, fun q => by omega, fun q => by omega, fun _ _ _ _ _ _ => ⟨fun q => by omega, fun _ => ⟨fun q => by omega, fun _ => t_refuse hgC rfl⟩⟩⟩
  · refine r_Model_readK hgM (s_see hgM mi ⟨fun q => by omega, fun _ => ⟨fun q => by omega, fun _ => ⟨fun q => by omega, fun _ => ⟨fun q => by omega, fun _ => ⟨fun q => by omega, fun _ => ?_⟩⟩⟩⟩⟩)
    refine s_isName hgM mi (ax_b_n h3 (s_isDigit hgM mi (ax_b_n h2 ?_)))
    refine ⟨fun q => by omega, fun _ => ⟨fun q => by omega, fun _ => ⟨fun q => by omega, fun _ => ?_⟩⟩⟩
    refine r_Model_readK_226 hgM (ax_y_i _) (hgM _ _) (by decide) ax_y_n ax_y_n ax_y_n ?_
    exact s_takeLetter hgM mi (fun w => absurd w h1) (fun _ => ⟨fun _ => ⟨rfl, rfl⟩, fun q => absurd rfl q⟩)
end Leaves2
