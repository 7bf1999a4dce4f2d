/-! NUMBERS: up to nine digits, on both sides -/
/-- places alone have changed: in the class the place, in the model the place and the value -/
def e_nC (C C' : ax_V) : Prop := (∀ c, c ≠ 600 → C' c = C c) ∧ ∀ k, k ≠ 6 → C' 600 k = C 600 k
def e_nM (M M' : ax_V) : Prop := (∀ c, c ≠ 222 → M' c = M c) ∧ ∀ k, k ≠ 68 → k ≠ 75 → M' 222 k = M 222 k
theorem e_R.num {C M C' M' : ax_V} (h : e_R C M) (hg : ax_g C' ∧ ax_g M') (hC : e_nC C C') (hM : e_nM M M') (hat : (C' 600 6) = (M' 222 68)) (h0 : (M 222 68) ≤ (M' 222 68) ∧ (M' 222 68) ≤ (M 222 3)) : e_R C' M' := by
  have h9 := h
  obtain ⟨-, ⟨t1, t2, t3, t4⟩, ⟨a1, a2, a3, a4, a5, a6, a7⟩, ⟨p1, p2, p3⟩, p4, p5⟩ := h
  have m1 := hM.2 3 (by decide) (by decide)
  have m2 := hM.2 10 (by decide) (by decide)
  have m3 := hM.2 26 (by decide) (by decide)
  have m4 := hM.2 69 (by decide) (by decide)
  have m5 := hM.2 70 (by decide) (by decide)
  have m6 := hM.2 71 (by decide) (by decide)
  have m7 := hM.2 72 (by decide) (by decide)
  have c1 := hC.2 1 (by decide)
  have c2 := hC.2 8 (by decide)
  have c3 := hC.2 9 (by decide)
  have c4 := hC.2 10 (by decide)
  have c5 := hC.2 11 (by decide)
  have c6 := hC.2 12 (by decide)
  have c7 := hC.2 13 (by decide)
  refine h9.sc hg hC.1 hM.1 c1 m1 m2 m3 ?_ (by omega)
  unfold e_S
  rw [m1, m2, m4, m5, m6, m7, c2, c3, c4, c5, c6, c7]
  exact ⟨⟨hat, by omega, by omega⟩, a2, a3, a4, a5, a6, a7⟩
section Numbers
variable {B r dc dm : Nat}
theorem e_numL : ∀ (n : Nat) (i v : Int) (C M : ax_V), e_R C M → i + (n : Int) = 9 → 0 ≤ i → 0 ≤ v → (v + 1) * (10 : Int) ^ n ≤ 1000000000 → (M 222 75) = v →
    ∃ (w j : Int) (C' M' : ax_V), ax_KI (az_W B (az_ER B r)) ax_t (dc + 1) m_Reader_takeNumber 18 [some (.ref r), some (ax_i v), some (ax_i i)] [] C w C' ∧ ax_KI ay_lay ax_t (dm + 2) m_Model_readNumber 16 [some (.ref 222), some (ax_i i)] [] M (ax_b (¬ m_isD M')) M' ∧ (0 ≤ j ∧ (m_isD M → 1 ≤ n → 1 ≤ j)) ∧ (0 ≤ w ∧ w ≤ 999999999) ∧ e_R C' M' ∧ e_nC C C' ∧ e_nM M M' ∧ (M' 222 68) = (M 222 68) + j ∧ (M' 222 75) = w := by
  intro n
  induction n with
  | zero =>
    intro i v C M h hi i0 v0 hv hval
    have ci := h.ci
    have mi := h.mi
    obtain ⟨hgC, hgM⟩ := h.1
    have hv1 : v + 1 ≤ 1000000000 := by simpa using hv
    refine ⟨v, 0, C, M, ?_, ?_, ⟨by omega, fun _ w => by omega⟩, ⟨v0, by omega⟩, h, ⟨fun _ _ => rfl, fun _ _ => rfl⟩, ⟨fun _ _ => rfl, fun _ _ _ => rfl⟩, by omega, hval⟩
    · exact r_Reader_takeNumber_18 hgC ⟨by omega, by omega⟩ ⟨by omega, by omega⟩ ⟨fun _ => ⟨rfl, rfl⟩, fun q => by omega⟩
    · refine r_Model_readNumber_16 hgM ⟨by omega, by omega⟩ (s_isDigit hgM mi ?_)
      by_cases hd : m_isD M
      · exact ax_b_y hd ⟨fun _ => s_isDigit hgM mi (ax_b_y hd ⟨(ax_b_f (fun q => q hd)).symm, rfl⟩), fun q => by omega⟩
      · exact ax_b_n hd (s_isDigit hgM mi (ax_b_n hd ⟨(ax_b_t hd).symm, rfl⟩))
  | succ n ih =>
    intro i v C M h hi i0 v0 hv hval
    have ci := h.ci
    have mi := h.mi
    have hs := h.see
    obtain ⟨hgC, hgM⟩ := id h.1
    have hP : (0 : Int) < 10 ^ n := Int.pow_pos (by decide)
    have hv1 : (v + 1) * 10 * 10 ^ n ≤ 1000000000 := by
      rw [Int.pow_succ] at hv
      have e : (v + 1) * (10 ^ n * 10) = (v + 1) * 10 * 10 ^ n := by rw [Int.mul_comm (10 ^ n) 10, Int.mul_assoc]
      omega
    have hv2 : (v + 1) * 10 ≤ 1000000000 := by
      have : (v + 1) * 10 * 1 ≤ (v + 1) * 10 * 10 ^ n := Int.mul_le_mul_of_nonneg_left (by omega) (by omega)
      omega
    by_cases hd : m_isD M
    · have hlt := h.lt (by omega)
      obtain ⟨v', ev⟩ : ∃ x : Int, x = v * 10 + (m_see M - 48) := ⟨_, rfl⟩
      obtain ⟨M2, eM⟩ : ∃ X : ax_V, X = ax_u (ax_u M 222 75 v') 222 68 ((M 222 68) + 1) := ⟨_, rfl⟩
      have hat : (C 600 6) = (M 222 68) := h.2.2.1.1.1
      have hsz := h.2.1.2.2.1
      have rv : ax_rg v' := ⟨by omega, by omega⟩
      have hgM2 : ax_g M2 := by rw [eM]; exact ax_u_g (ax_u_g hgM rv) ⟨by omega, by omega⟩
      have hgC2 : ax_g (c_on C 1) := ax_u_g hgC ⟨by omega, by omega⟩
      have ma : (M2 222 68) = (M 222 68) + 1 := by rw [eM]; simp [ax_u]
      have mv : (M2 222 75) = v' := by rw [eM]; simp [ax_u]
      have ca : (c_on C 1) 600 6 = (M 222 68) + 1 := by rw [← hat]; simp [c_on, ax_u]
      have nC : e_nC C (c_on C 1) := ⟨fun c hc => ax_u_ne hc, fun k hk => by simp [c_on, ax_u, hk]⟩
      have nM : e_nM M M2 := ⟨fun c hc => by rw [eM, ax_u_ne hc, ax_u_ne hc], fun k hk1 hk2 => by rw [eM]; simp [ax_u, hk1, hk2]⟩
      have h2 : e_R (c_on C 1) M2 := h.num ⟨hgC2, hgM2⟩ nC nM (by omega) ⟨by omega, by omega⟩
      have hp2 : (v' + 1) * (10 : Int) ^ n ≤ 1000000000 := by
        have : (v' + 1) * (10 : Int) ^ n ≤ (v + 1) * 10 * 10 ^ n := Int.mul_le_mul_of_nonneg_right (by omega) (by omega)
        omega
      obtain ⟨w, j, C', M', k1, k2, k3, k4, k5, k6, k7, k8, k9⟩ := ih (i + 1) v' (c_on C 1) M2 h2 (by omega) (by omega) (by omega) hp2 mv
      refine ⟨w, j + 1, C', M', ?_, ?_, ⟨by omega, fun _ _ => by omega⟩, k4, k5, ⟨fun c hc => (k6.1 c hc).trans (nC.1 c hc), fun k hk => (k6.2 k hk).trans (nC.2 k hk)⟩, ⟨fun c hc => (k7.1 c hc).trans (nM.1 c hc), fun k hk1 hk2 => (k7.2 k hk1 hk2).trans (nM.2 k hk1 hk2)⟩, by omega, k9⟩
      · refine r_Reader_takeNumber_18 hgC ⟨by omega, by omega⟩ ⟨by omega, by omega⟩ ⟨fun q => by omega, fun _ => t_look hgC ci (t_isDigit hgC (c_see_rg hgC) (ax_b_y (by rw [hs]; exact hd) (t_look hgC ci ⟨⟨by omega, by omega⟩, fun C2 e2 => ?_⟩)))⟩
        rw [hs, ← ev, e2]
        exact k1
      · refine r_Model_readNumber_16 hgM ⟨by omega, by omega⟩ (s_isDigit hgM mi (ax_b_y hd ⟨fun q => by omega, fun _ => s_see hgM mi ?_⟩))
        have e5 : 10 * (M 222 75) + m_see M - 48 = v' := by rw [hval, ev]; omega
        rw [e5]
        refine ⟨rv, fun V5 e5 => ?_⟩
        have e6 : V5 222 68 = (M 222 68) := by rw [e5]; simp [ax_u]
        rw [e6]
        refine ⟨⟨by omega, by omega⟩, fun V6 e7 => ?_⟩
        rw [e7, e5, ← eM]
        exact k2
    · refine ⟨v, 0, C, M, ?_, ?_, ⟨by omega, fun w _ => absurd w hd⟩, ⟨v0, by omega⟩, h, ⟨fun _ _ => rfl, fun _ _ => rfl⟩, ⟨fun _ _ => rfl, fun _ _ _ => rfl⟩, by omega, hval⟩
      · exact r_Reader_takeNumber_18 hgC ⟨by omega, by omega⟩ ⟨by omega, by omega⟩ ⟨fun q => ⟨rfl, rfl⟩, fun q => t_look hgC ci (t_isDigit hgC (c_see_rg hgC) (ax_b_n (by rw [hs]; exact hd) ⟨rfl, rfl⟩))⟩
      · exact r_Model_readNumber_16 hgM ⟨by omega, by omega⟩ (s_isDigit hgM mi (ax_b_n hd (s_isDigit hgM mi (ax_b_n hd ⟨(ax_b_t hd).symm, rfl⟩))))
theorem e_num {C M : ax_V} (h : e_R C M) (hd : m_isD M) : ∃ (w j : Int) (C' M' : ax_V), ax_Ie (az_W B (az_ER B r)) (dc + 2) q_Reader_takeNumber [.ref r] C w C' ∧ ax_Ie ay_lay (dm + 3) q_Model_readNumber [.ref 222] M (ax_b (¬ m_isD M')) M' ∧ 1 ≤ j ∧ (0 ≤ w ∧ w ≤ 999999999) ∧ e_R C' M' ∧ e_nC C C' ∧ e_nM M M' ∧ (M' 222 68) = (M 222 68) + j ∧ (M' 222 75) = w := by
  have ci := h.ci
  have mi := h.mi
  have hs := h.see
  obtain ⟨hgC, hgM⟩ := id h.1
  obtain ⟨M1, eM⟩ : ∃ X : ax_V, X = ax_u M 222 75 0 := ⟨_, rfl⟩
  have hgM1 : ax_g M1 := by rw [eM]; exact ax_u_g hgM (by decide)
  have nM : e_nM M M1 := ⟨fun c hc => by rw [eM, ax_u_ne hc], fun k hk1 hk2 => by rw [eM]; simp [ax_u, hk2]⟩
  have ma : (M1 222 68) = (M 222 68) := by rw [eM]; simp [ax_u]
  have ms : m_isD M1 := by
    have e : m_see M1 = m_see M := by rw [eM]; simp [m_see, ax_u]
    show 48 ≤ m_see M1 ∧ m_see M1 ≤ 57
    rw [e]; exact hd
  have h1 : e_R C M1 := h.num ⟨hgC, hgM1⟩ ⟨fun _ _ => rfl, fun _ _ => rfl⟩ nM (by rw [ma]; exact h.2.2.1.1.1) ⟨by omega, by rw [ma]; exact h.2.2.1.1.2.2⟩
  obtain ⟨w, j, C', M', k1, k2, k3, k4, k5, k6, k7, k8, k9⟩ := e_numL (B := B) (r := r) (dc := dc) (dm := dm) 9 0 0 C M1 h1 (by decide) (by decide) (by decide) (by decide) (by rw [eM]; simp [ax_u])
  refine ⟨w, j, C', M', ?_, ?_, k3.2 ms (by decide), k4, k5, k6, ⟨fun c hc => (k7.1 c hc).trans (nM.1 c hc), fun k hk1 hk2 => (k7.2 k hk1 hk2).trans (nM.2 k hk1 hk2)⟩, by omega, k9⟩
  · exact r_Reader_takeNumber hgC (t_look hgC ci (t_isDigit hgC (c_see_rg hgC) (ax_b_y (by rw [hs]; exact hd) k1)))
  · refine r_Model_readNumber hgM (s_isDigit hgM mi (ax_b_y hd (fun V2 e2 => ?_)))
    rw [e2, ← eM]
    exact k2
end Numbers
/-! any leaf -/
theorem e_leafG {C M C1 M1 M' : ax_V} {oc om fc f a w : Int} (h : e_R C M) (h1 : e_R C1 M1) (hC : e_nC C C1) (hM : e_nM M M1) (ka : (M 222 68) < (M1 222 68)) (ho : 0 ≤ om ∧ om ≤ 3) (hoc : oc = e_op om) (hf : f = (M 222 68)) (hfc : fc = f) (hlt : (M 222 68) < (M 222 3)) (ha : ax_rg a) (hw : ax_rg w) (hg' : ax_g M')
    (hM' : ∀ c p, ¬ (p = (M 222 26) ∧ (c = 244 ∨ c = 248 ∨ c = 249)) → M' c p = m_mk M1 om f (-1) (-1) (-1) c p) (hdt : e_dt (c_mk C1 oc fc a w) M' (M 222 26)) : e_ok C M (c_mk C1 oc fc a w) M' (M 222 26) := by
  subst hf hfc
  obtain ⟨⟨hgC, hgM⟩, ⟨t1, t2, t3, t4⟩, ⟨a1, a2, a3, a4, a5, a6, a7⟩, ⟨p1, p2, p3⟩, p4, p5⟩ := h
  obtain ⟨hgC1, hgM1⟩ := id h1.1
  have m1 : (M1 222 26) = (M 222 26) := hM.2 26 (by decide) (by decide)
  have m2 : (M1 222 10) = (M 222 10) := hM.2 10 (by decide) (by decide)
  have m3 : (M1 222 69) = (M 222 69) := hM.2 69 (by decide) (by decide)
  have m4 : (M1 222 72) = (M 222 72) := hM.2 72 (by decide) (by decide)
  have c1 : (C1 516 0) = (M 222 26) := by rw [hC.1 516 (by decide)]; exact p1
  have c2 : (C1 600 13) = (C 600 13) := hC.2 13 (by decide)
  have roc : ax_rg oc := by
    rw [hoc]; unfold e_op
    exact ⟨by omega, by omega⟩
  have hgC2 : ax_g (c_mk C1 oc (M 222 68) a w) := c_mk_g hgC1 roc (hgM _ _) ha hw (by rw [c1]; exact ⟨by omega, by omega⟩)
  obtain ⟨b1, b2, b3, b4, b5, b6, b7, b8, b9, b10, b11, b12, b13, b14, b15, b16⟩ := c_mk_at (C := C1) (o := oc) (f := (M 222 68)) (a := a) (w := w) rfl
  obtain ⟨d1, d2, d3, d4, d5, d6, d7, d8, d9, d10, d11, d12, d13, d14, d15, d16, d17, d18⟩ := m_mk_at (M := M1) (o := om) (f := (M 222 68)) (x := -1) (y := -1) (z := -1) rfl
  rw [c1] at b1 b2 b3 b4 b5 b6 b7 b8 b9 b10 b11 b12
  rw [m1] at d1 d2 d3 d4 d5 d6 d7 d8 d9 d10 d11 d12 d13 d14 d15
  obtain ⟨C', eC⟩ : ∃ X : ax_V, X = c_mk C1 oc (M 222 68) a w := ⟨_, rfl⟩
  have fC : e_fC C1 C' (M 222 26) := by rw [eC]; exact c_mk_f.mono (by omega)
  rw [← eC] at hgC2 hdt b1 b2 b3 b4 b5 b6 b7 b8 b9 b10 b11 b12 b13 b14 b15 b16 ⊢
  have f1 : M' 241 (M 222 26) = om := by rw [hM' _ _ (by omega)]; exact d3
  have f2 : M' 242 (M 222 26) = (M 222 68) := by rw [hM' _ _ (by omega)]; exact d4
  have f4 : M' 245 (M 222 26) = -1 := by rw [hM' _ _ (by omega)]; exact d7
  have f5 : M' 246 (M 222 26) = -1 := by rw [hM' _ _ (by omega)]; exact d8
  have f6 : M' 247 (M 222 26) = -1 := by rw [hM' _ _ (by omega)]; exact d9
  have f8 : M' 250 (M 222 26) = (M 222 10) := by rw [hM' _ _ (by omega), d12]; exact m2
  have f9 : M' 252 (M 222 26) = -1 := by rw [hM' _ _ (by omega)]; exact d14
  have hk0 := e_noKid (M := M') (q := (M 222 26)) (by omega) f4 f5 f6
  have fM : e_fM M1 M' (M 222 26) := by
    have g : e_fM M1 (m_mk M1 om (M 222 68) (-1) (-1) (-1)) (M 222 26) := m_mk_f.mono (by omega)
    refine ⟨fun c x y => ?_, fun c p x y z => ?_, fun k x1 x2 x3 x4 x5 x6 => ?_⟩
    · funext p; rw [hM' _ _ (by omega), g.1 c x y]
    · rw [hM' _ _ (by omega), g.2.1 c p x y z]
    · rw [hM' _ _ (by omega), g.2.2 k x1 x2 x3 x4 x5 x6]
  have hd : C' 526 (M 222 26) = ax_b (0 < (C 600 13)) := by rw [b12, c2]
  have fC1 : e_fC C C1 (M 222 26) := ⟨fun c x _ => hC.1 c x, fun c p x y _ => by rw [hC.1 c (by omega)], fun k x _ _ _ => hC.2 k x⟩
  have fM1 : e_fM M M1 (M 222 26) := ⟨fun c x _ => hM.1 c x, fun c p x y _ => by rw [hM.1 c (by omega)], fun k _ x _ _ _ y => hM.2 k x y⟩
  refine e_leaf h1 fC1 fM1 m1 ka p3 m3 m4 c2 ⟨hgC2, hg'⟩ fC fM b13 (by rw [hM' _ _ (by omega)]; exact d16) b14 (by rw [hM' _ _ (by omega)]; exact d17) b15 (by rw [hM' _ _ (by omega)]; exact d18) b16 b1 (by rw [hM' _ _ (by omega)]; exact d1) (by rw [hM' _ _ (by omega)]; exact d2) ?_ ⟨b7, f9, hd⟩ hk0 (e_nw.mk fC1 fM1 b11 b10 f1 (by rw [f2]; omega) (by rw [f8]; exact m2.symm) (by rw [hM' _ _ (by omega)]; exact d15) (e_opk.lo (by omega)))
  exact ⟨by rw [b2, f1]; exact hoc, by rw [b3, f2], by rw [f2]; exact ⟨by omega, by omega⟩, by rw [f8]; exact ⟨by omega, by omega⟩, by rw [hd]; exact ax_b_01, Or.inl ⟨by rw [f1]; exact ho, f4, f5, f6⟩, hdt, by rw [b6, f4], fun _ => ⟨fun w => by omega, fun w => by omega, fun w => by omega⟩, fun w => by omega, fun x hx => absurd hx (hk0 x)⟩
