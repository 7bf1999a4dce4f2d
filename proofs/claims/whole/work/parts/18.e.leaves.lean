/-! LEAVES: a letter, a number, T and U, a quoted letter -/
theorem ax_b_y {p A D : Prop} [Decidable p] (hp : p) (h : D) : (ax_b p = 0 → A) ∧ (¬ ax_b p = 0 → D) := ⟨fun q => absurd hp (ax_b_0.mp q), fun _ => h⟩
theorem ax_b_n {p A D : Prop} [Decidable p] (hp : ¬ p) (h : A) : (ax_b p = 0 → A) ∧ (¬ ax_b p = 0 → D) := ⟨fun _ => h, fun q => absurd (ax_b_f hp) q⟩
theorem c_on_g {C : ax_V} {k : Int} (hg : ax_g C) (h : ax_rg ((C 600 6) + k)) : ax_g (c_on C k) := ax_u_g hg h
theorem m_on_g {M : ax_V} {k : Int} (hg : ax_g M) (h : ax_rg ((M 222 68) + k)) : ax_g (m_on M k) := ax_u_g hg h
/-- some characters on, on both sides -/
theorem e_R.on {C M : ax_V} {k : Int} (h : e_R C M) (hk : 0 ≤ k) (hs : (M 222 68) + k ≤ (M 222 3)) : e_R (c_on C k) (m_on M k) := by
  have h0 := h
  obtain ⟨⟨hgC, hgM⟩, ⟨t1, t2, t3, t4⟩, ⟨a1, a2, a3, a4, a5, a6, a7⟩, ⟨p1, p2, p3⟩, p4, p5⟩ := h
  refine h0.sc ⟨c_on_g hgC ⟨by omega, by omega⟩, m_on_g hgM ⟨by omega, by omega⟩⟩ (fun c hc => ax_u_ne hc) (fun c hc => ax_u_ne hc) (by simp [c_on, ax_u]) (by simp [m_on, ax_u]) (by simp [m_on, ax_u]) (by simp [m_on, ax_u]) ?_ (by simp [m_on, ax_u]; omega)
  simp only [e_S, c_on, m_on, ax_u]
  simp
  refine ⟨⟨by omega, by omega, by omega⟩, a2, a3, a4, a5, a6, a7⟩
/-- a leaf: nothing of its own, made behind at least one character -/
theorem e_leaf {C M C1 M1 C' M' : ax_V} (h1 : e_R C1 M1) (fC1 : e_fC C C1 (M 222 26)) (fM1 : e_fM M M1 (M 222 26)) (kp : (M1 222 26) = (M 222 26)) (ka : (M 222 68) < (M1 222 68)) (kb : (M 222 26) ≤ (M 222 68)) (kd : (M1 222 69) = (M 222 69)) (ke : (M1 222 72) = (M 222 72)) (kf : (C1 600 13) = (C 600 13))
    (hg : ax_g C' ∧ ax_g M') (fC : e_fC C1 C' (M 222 26)) (fM : e_fM M1 M' (M 222 26)) (s1 : (C' 600 6) = (C1 600 6)) (s2 : (M' 222 68) = (M1 222 68)) (s3 : (C' 600 11) = (C1 600 11)) (s4 : (M' 222 69) = (M1 222 69)) (s5 : (C' 600 12) = (C1 600 12)) (s6 : (M' 222 72) = (M1 222 72)) (s7 : (C' 600 13) = (C1 600 13)) (c1 : (C' 516 0) = (M 222 26) + 1) (c2 : (M' 222 26) = (M 222 26) + 1) (c3 : (M' 222 74) = (M 222 26))
    (hn : e_p C' M' (M 222 26)) (hk : C' 522 (M 222 26) = -1 ∧ M' 252 (M 222 26) = -1 ∧ C' 526 (M 222 26) = ax_b (0 < (C 600 13))) (hl : ∀ x, ¬ e_kid M' (M 222 26) x) (hw : e_nw C M C' M' (M 222 26)) : e_ok C M C' M' (M 222 26) := by
  have p0 : 0 ≤ (M 222 26) := by have := h1.2.2.2.1.2.1; omega
  have hR : e_R C' M' := by
    refine h1.new hg (fC.mono p0) (fM.mono p0) s1 s2 s3 s4 s5 s6 s7 (by omega) (by omega) (by omega) (fun q q0 q1 => ?_) (by rw [kp]; exact hn)
    exact (h1.2.2.2.2.2 q q0 q1).below fC fM (by omega)
  refine ⟨hR, fC1.tr fC (Int.le_refl _), fM1.tr fM (Int.le_refl _), ⟨c3.symm, by omega, Int.le_refl _⟩, hk, ⟨by omega, by omega, fun q q0 q1 => by rw [show q = (M 222 26) by omega]; exact hw⟩, ⟨by omega, by omega, by omega⟩, fun q x q0 q1 hx => ?_, fun q q0 q1 => by omega⟩
  have e : q = (M 222 26) := by omega
  rw [e] at hx
  exact absurd hx (hl x)
theorem e_noKid {M : ax_V} {q : Int} (h1 : ¬ M 241 q = 22) (h2 : M 245 q = -1) (h3 : M 246 q = -1) (h4 : M 247 q = -1) : ∀ x, ¬ e_kid M q x := by
  intro x hx
  obtain ⟨x0, hx⟩ := hx
  rw [h2, h3, h4] at hx
  rcases hx with ⟨-, w⟩ | ⟨w, -⟩
  · omega
  · exact h1 w
section Leaves
variable {B r dc dm : Nat} {C M : ax_V}
set_option maxHeartbeats 1000000 in
theorem e_letter (h : e_R C M) (hv : 97 ≤ m_see M ∧ m_see M ≤ 122) : e_out e_dig B r (dc + 4) q_Reader_readK [.ref r] (dm + 4) q_Model_readK [.ref 222] C M := by
  have hs := h.see
  have hlt := h.lt (by omega)
  have h1 := h.on (k := 1) (by omega) (by omega)
  have ci := h.ci
  have mi := h.mi
  obtain ⟨⟨hgC, hgM⟩, ⟨t1, t2, t3, t4⟩, ⟨a1, a2, a3, a4, a5, a6, a7⟩, ⟨p1, p2, p3⟩, p4, p5⟩ := h
  obtain ⟨⟨hgC1, hgM1⟩, -, -, -, -, -⟩ := id h1
  have ec : (c_on C 1) 516 0 = (M 222 26) := by rw [← p1]; simp [c_on, ax_u]
  have em : (m_on M 1) 222 26 = (M 222 26) := by simp [m_on, ax_u]
  have en : (m_on M 1) 222 10 = (M 222 10) := by simp [m_on, ax_u]
  have ea : (m_on M 1) 222 68 = (M 222 68) + 1 := by simp [m_on, ax_u]
  have hgC2 : ax_g (c_mk (c_on C 1) 2 (C 600 6) (C 600 6) ((C 600 8) * 26 + (c_see C - 97))) := c_mk_g hgC1 (by decide) (hgC _ _) (hgC _ _) ⟨by omega, by omega⟩ ⟨by omega, by omega⟩
  have hgM2 : ax_g (ax_u (ax_u (m_mk (m_on M 1) 2 (M 222 68) (-1) (-1) (-1)) 248 (M 222 26) (m_see M - 97)) 244 (M 222 26) (M 222 68)) := ax_u_g (ax_u_g (m_mk_g hgM1 (by decide) (hgM _ _) (by decide) (by decide) (by decide) ⟨by omega, by omega⟩) ⟨by omega, by omega⟩) (hgM _ _)
  refine Or.inl ⟨(M 222 26), c_mk (c_on C 1) 2 (C 600 6) (C 600 6) ((C 600 8) * 26 + (c_see C - 97)), ax_u (ax_u (m_mk (m_on M 1) 2 (M 222 68) (-1) (-1) (-1)) 248 (M 222 26) (m_see M - 97)) 244 (M 222 26) (M 222 68), ?_, ?_, ?_⟩
  · refine r_Reader_readK hgC (t_look hgC ci (t_isLetter hgC (c_see_rg hgC) (ax_b_y (by rw [hs]; exact hv) ?_)))
    refine t_takeLetter hgC ci ⟨by omega, by omega⟩ (fun _ => ?_) (fun w => absurd (by rw [hs]; exact hv) w)
    refine t_addPart hgC1 (by decide) (hgC _ _) (hgC _ _) ⟨by omega, by omega⟩ ⟨by omega, by omega⟩ ?_
    exact ⟨ec, rfl⟩
  · refine r_Model_readK hgM (s_see hgM mi ⟨fun q => by omega, fun _ => ⟨fun q => by omega, fun _ => ⟨fun q => by omega, fun _ => ⟨fun q => by omega, fun _ => ⟨fun q => by omega, fun _ => ?_⟩⟩⟩⟩⟩)
    refine s_isName hgM mi (ax_b_n (by omega) ?_)
    refine s_isDigit hgM mi (ax_b_n (by omega) ?_)
    refine ⟨fun q => by omega, fun _ => ⟨fun q => by omega, fun _ => ⟨fun q => by omega, fun _ => ?_⟩⟩⟩
    refine r_Model_readK_226 hgM (ax_y_i _) (hgM _ _) (by decide) ax_y_n ax_y_n ax_y_n ?_
    refine s_takeLetter hgM mi (fun _ => ?_) (fun w => absurd hv w)
    refine ⟨fun q => by omega, fun _ => ⟨fun _ => ?_, fun q => absurd rfl q⟩⟩
    refine s_makePart hgM1 (by decide) (hgM _ _) (by decide) (by decide) (by decide) ⟨by omega, by omega⟩ ?_
    rw [em]
    exact ⟨⟨by omega, by omega⟩, fun V3 e3 => ⟨⟨by omega, by omega⟩, fun V4 e4 => ⟨rfl, by rw [e4, e3]⟩⟩⟩
  · obtain ⟨b1, b2, b3, b4, b5, b6, b7, b8, b9, b10, b11, b12, b13, b14, b15, b16⟩ := c_mk_at (C := c_on C 1) (o := 2) (f := (C 600 6)) (a := (C 600 6)) (w := (C 600 8) * 26 + (c_see C - 97)) rfl
    obtain ⟨d1, d2, d3, d4, d5, d6, d7, d8, d9, d10, d11, d12, d13, d14, d15, d16, d17, d18⟩ := m_mk_at (M := m_on M 1) (o := 2) (f := (M 222 68)) (x := -1) (y := -1) (z := -1) rfl
    rw [ec] at b1 b2 b3 b4 b5 b6 b7 b8 b9 b10 b11 b12
    rw [em] at d1 d2 d3 d4 d5 d6 d7 d8 d9 d10 d11 d12 d13 d14 d15
    obtain ⟨M', eM⟩ : ∃ X : ax_V, X = ax_u (ax_u (m_mk (m_on M 1) 2 (M 222 68) (-1) (-1) (-1)) 248 (M 222 26) (m_see M - 97)) 244 (M 222 26) (M 222 68) := ⟨_, rfl⟩
    obtain ⟨C', eC⟩ : ∃ X : ax_V, X = c_mk (c_on C 1) 2 (C 600 6) (C 600 6) ((C 600 8) * 26 + (c_see C - 97)) := ⟨_, rfl⟩
    rw [← eM] at hgM2 ⊢
    rw [← eC] at hgC2 b1 b2 b3 b4 b5 b6 b7 b8 b9 b10 b11 b12 b13 b14 b15 b16 ⊢
    have f1 : M' 241 (M 222 26) = 2 := by rw [eM]; simp [ax_u, d3]
    have f2 : M' 242 (M 222 26) = (M 222 68) := by rw [eM]; simp [ax_u, d4]
    have f3 : M' 244 (M 222 26) = (M 222 68) := by rw [eM]; simp [ax_u]
    have f4 : M' 245 (M 222 26) = -1 := by rw [eM]; simp [ax_u, d7]
    have f5 : M' 246 (M 222 26) = -1 := by rw [eM]; simp [ax_u, d8]
    have f6 : M' 247 (M 222 26) = -1 := by rw [eM]; simp [ax_u, d9]
    have f7 : M' 248 (M 222 26) = m_see M - 97 := by rw [eM]; simp [ax_u]
    have f8 : M' 250 (M 222 26) = (M 222 10) := by rw [eM]; simp [ax_u, d12, en]
    have f9 : M' 252 (M 222 26) = -1 := by rw [eM]; simp [ax_u, d14]
    have hk0 := e_noKid (M := M') (q := (M 222 26)) (by omega) f4 f5 f6
    have fM : e_fM (m_on M 1) M' (M 222 26) := by
      rw [eM]
      exact (m_mk_f.mono (by omega)).tr ((e_fM.ua (by decide) (Int.le_refl _)).tr (e_fM.ua (by decide) (Int.le_refl _)) (Int.le_refl _)) (Int.le_refl _)
    have fC : e_fC (c_on C 1) C' (M 222 26) := by
      rw [eC]
      exact c_mk_f.mono (by omega)
    have hd : C' 526 (M 222 26) = ax_b (0 < (C 600 13)) := by
      rw [b12]
      simp [c_on, ax_u]
    refine e_leaf h1 (e_fC.us (by decide)) (e_fM.us (by decide)) em (by omega) (by omega) (by simp [m_on, ax_u]) (by simp [m_on, ax_u]) (by simp [c_on, ax_u]) ⟨hgC2, hgM2⟩ fC fM b13 (by rw [eM]; simp [ax_u, d16]) b14 (by rw [eM]; simp [ax_u, d17]) b15 (by rw [eM]; simp [ax_u, d18]) b16 b1 (by rw [eM]; simp [ax_u, d1]) (by rw [eM]; simp [ax_u, d2]) ?_ ⟨b7, f9, hd⟩ hk0 (e_nw.mk (e_fC.us (C := C) (P := 0) (k := 6) (by decide)) (e_fM.us (M := M) (P := 0) (k := 68) (by decide)) (by rw [b11]; rfl) b10 f1 (by rw [f2]; omega) (by rw [f8]; exact en.symm) (by rw [eM]; simp [ax_u, d15]) (e_opk.lo (by decide)))
    refine ⟨by rw [b2, f1]; rfl, by rw [b3, f2]; exact a1.1, by rw [f2]; exact ⟨by omega, by omega⟩, by rw [f8]; exact ⟨by omega, by omega⟩, by rw [hd]; exact ax_b_01, Or.inl ⟨by rw [f1]; decide, f4, f5, f6⟩, ?_, by rw [b6, f4], fun _ => ⟨fun w => by omega, fun w => by omega, fun w => by omega⟩, fun w => by omega, fun x hx => absurd hx (hk0 x)⟩
    unfold e_dt
    rw [f1, f7, f3, f8, b4, b5, b8]
    refine ⟨fun w => by omega, fun w => by omega, fun _ => ⟨⟨by omega, by omega⟩, by rw [hs]; omega, a1.1, ⟨by omega, by omega⟩, rfl⟩, fun w => by omega, fun w => by omega, fun w => by omega, fun w => by omega⟩
end Leaves
