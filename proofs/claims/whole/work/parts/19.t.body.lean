/-! A NODE'S BODY IS READ, and its end -/
theorem f_B.u {C M : ax_V} {u v : Int} (h : f_B C M u) (e : v = u) : f_B C M v := by rw [e]; exact h
section Body
variable {B r : Nat} {C0 M0 : ax_V} {n : Int} {y1 y2 : Option Value}
/-- no letter: the model's equation is none -/
theorem s_eqNo {M : ax_V} (hg : ax_g M) (mi : m_in M) (hl : ¬ m_isL M) (he : 0 ≤ (M 222 44) ∧ (M 222 44) < 351) (hf : 0 ≤ (M 222 52) ∧ (M 222 52) < 701) : ∃ M', ax_g M' ∧ (∀ c, c ≠ 222 → (c < 258 ∨ 266 < c) → M' c = M c) ∧ M' 222 = M 222 ∧ ∀ (Φ : Int → ax_V → Prop) (Θ : ax_V → Prop), Φ 0 M' → ax_I ay_lay 422 q_Model_readEquation [.ref 222, ax_i (-1), ax_i (-1)] M Φ Θ := by
  obtain ⟨e, ee⟩ : ∃ e : Int, e = (M 222 44) := ⟨_, rfl⟩
  obtain ⟨L, eL⟩ : ∃ L : Int, L = (M 222 52) := ⟨_, rfl⟩
  obtain ⟨p, ep⟩ : ∃ p : Int, p = (M 222 68) := ⟨_, rfl⟩
  rw [← ee] at he
  rw [← eL] at hf
  obtain ⟨M1, eM1⟩ : ∃ X : ax_V, X = ax_u (ax_u (ax_u (ax_u (ax_u (ax_u M 258 e (M 222 10)) 259 e L) 260 e 0) 263 e (-1)) 264 e (-1)) 266 L p := ⟨_, rfl⟩
  have M1_g : ax_g M1 := by rw [eM1]; exact (ax_u_g (ax_u_g (ax_u_g (ax_u_g (ax_u_g (ax_u_g hg (hg _ _)) ⟨by omega, by omega⟩) (by decide)) (by decide)) (by decide)) (by rw [ep]; exact hg _ _))
  have M1_n : ∀ c, c ≠ 258 → c ≠ 259 → c ≠ 260 → c ≠ 263 → c ≠ 264 → c ≠ 266 → M1 c = M c := fun c a258 a259 a260 a263 a264 a266 => by rw [eM1, ax_u_ne a266, ax_u_ne a264, ax_u_ne a263, ax_u_ne a260, ax_u_ne a259, ax_u_ne a258]
  have M1_v0 : M1 258 e = (M 222 10) := by rw [eM1, ax_u_ne (by decide), ax_u_ne (by decide), ax_u_ne (by decide), ax_u_ne (by decide), ax_u_ne (by decide)]; exact ax_u_s _ _ _ _
  have M1_v1 : M1 259 e = L := by rw [eM1, ax_u_ne (by decide), ax_u_ne (by decide), ax_u_ne (by decide), ax_u_ne (by decide)]; exact ax_u_s _ _ _ _
  have M1_v2 : M1 260 e = 0 := by rw [eM1, ax_u_ne (by decide), ax_u_ne (by decide), ax_u_ne (by decide)]; exact ax_u_s _ _ _ _
  have M1_v3 : M1 263 e = (-1) := by rw [eM1, ax_u_ne (by decide), ax_u_ne (by decide)]; exact ax_u_s _ _ _ _
  have M1_v4 : M1 264 e = (-1) := by rw [eM1, ax_u_ne (by decide)]; exact ax_u_s _ _ _ _
  have M1_v5 : M1 266 L = p := by rw [eM1]; exact ax_u_s _ _ _ _
  have M1_o258 : ∀ i, i ≠ e → M1 258 i = M 258 i := fun i b0 => by rw [eM1, ax_u_ne (by decide), ax_u_ne (by decide), ax_u_ne (by decide), ax_u_ne (by decide), ax_u_ne (by decide), ax_u_k b0]
  have M1_o259 : ∀ i, i ≠ e → M1 259 i = M 259 i := fun i b0 => by rw [eM1, ax_u_ne (by decide), ax_u_ne (by decide), ax_u_ne (by decide), ax_u_ne (by decide), ax_u_k b0, ax_u_ne (by decide)]
  have M1_o260 : ∀ i, i ≠ e → M1 260 i = M 260 i := fun i b0 => by rw [eM1, ax_u_ne (by decide), ax_u_ne (by decide), ax_u_ne (by decide), ax_u_k b0, ax_u_ne (by decide), ax_u_ne (by decide)]
  have M1_o263 : ∀ i, i ≠ e → M1 263 i = M 263 i := fun i b0 => by rw [eM1, ax_u_ne (by decide), ax_u_ne (by decide), ax_u_k b0, ax_u_ne (by decide), ax_u_ne (by decide), ax_u_ne (by decide)]
  have M1_o264 : ∀ i, i ≠ e → M1 264 i = M 264 i := fun i b0 => by rw [eM1, ax_u_ne (by decide), ax_u_k b0, ax_u_ne (by decide), ax_u_ne (by decide), ax_u_ne (by decide), ax_u_ne (by decide)]
  have M1_o266 : ∀ i, i ≠ L → M1 266 i = M 266 i := fun i b0 => by rw [eM1, ax_u_k b0, ax_u_ne (by decide), ax_u_ne (by decide), ax_u_ne (by decide), ax_u_ne (by decide), ax_u_ne (by decide)]
  obtain ⟨M2, eM2⟩ : ∃ X : ax_V, X = ax_u M1 265 L (-1) := ⟨_, rfl⟩
  have M2_g : ax_g M2 := by rw [eM2]; exact (ax_u_g M1_g (by decide))
  have M2_n : ∀ c, c ≠ 265 → M2 c = M1 c := fun c a265 => by rw [eM2, ax_u_ne a265]
  have M2_v0 : M2 265 L = (-1) := by rw [eM2]; exact ax_u_s _ _ _ _
  have M2_o265 : ∀ i, i ≠ L → M2 265 i = M1 265 i := fun i b0 => by rw [eM2, ax_u_k b0]
  have sc1 : ∀ j, M1 222 j = M 222 j := fun j => by rw [M1_n 222 (by decide) (by decide) (by decide) (by decide) (by decide) (by decide)]
  have see1 : m_see M1 = m_see M := by unfold m_see; rw [sc1, sc1, M1_n 224 (by decide) (by decide) (by decide) (by decide) (by decide) (by decide)]
  have mi1 : m_in M1 := by unfold m_in at mi ⊢; rw [sc1, sc1]; exact mi
  refine ⟨M2, M2_g, fun c a b => by rw [M2_n c (by omega), M1_n c (by omega) (by omega) (by omega) (by omega) (by omega) (by omega)], by funext j; rw [M2_n 222 (by decide), sc1], fun Φ Θ z => r_Model_readEquation hg (by decide) (by decide) ?_⟩
  rw [← ee]
  have b : 0 ≤ e ∧ e < 351 := he
  refine ⟨b, fun V1 e1 => ⟨b, fun V2 e2 => ⟨b, fun V3 e3 => ⟨b, fun V4 e4 => ⟨b, fun V5 e5 => ?_⟩⟩⟩⟩⟩
  have d1 : V1 222 52 = L := by rw [e1, ax_u_ne (by decide), eL]
  rw [d1] at e2
  obtain ⟨M0', eM0⟩ : ∃ X : ax_V, X = ax_u (ax_u (ax_u (ax_u (ax_u M 258 e (M 222 10)) 259 e L) 260 e 0) 263 e (-1)) 264 e (-1) := ⟨_, rfl⟩
  have e6 : V5 = M0' := by rw [e5, e4, e3, e2, e1, eM0]
  have hg0 : ax_g M0' := by rw [eM0]; exact ax_u_g (ax_u_g (ax_u_g (ax_u_g (ax_u_g hg (hg _ _)) ⟨by omega, by omega⟩) (by decide)) (by decide)) (by decide)
  have d5 : M0' 222 = M 222 := by rw [eM0, ax_u_ne (by decide), ax_u_ne (by decide), ax_u_ne (by decide), ax_u_ne (by decide), ax_u_ne (by decide)]
  rw [e6]
  refine r_Model_readEquation_49 hg0 (ax_y_i _) (ax_y_i _) ⟨by omega, by omega⟩ (by decide) ⟨fun q => absurd q (by decide), fun _ => ?_⟩
  rw [d5, ← eL, ← ep]
  refine ⟨⟨by omega, by omega⟩, fun V7 e7 => ?_⟩
  have e8 : V7 = M1 := by rw [e7, eM0, eM1]
  rw [e8]
  refine s_takeLetter M1_g mi1 (fun q => absurd (by show 97 ≤ m_see M ∧ m_see M ≤ 122; rw [← see1]; exact q) hl) (fun _ => ?_)
  rw [sc1, ← eL]
  refine ⟨⟨by omega, by omega⟩, fun V9 e9 => ?_⟩
  rw [← eM2] at e9
  have d9 : V9 222 52 = L := by rw [e9, M2_n 222 (by decide), sc1, eL]
  rw [d9]
  refine ⟨⟨by omega, by omega⟩, fun _ => by rw [e9]; exact z, fun q => ?_⟩
  exact absurd (by rw [e9]; exact M2_v0) q
set_option maxHeartbeats 2000000 in
/-- a node ends -/
theorem f_nodeEnd {C M : ax_V} (h : f_I C0 M0 C M (M 222 55)) (hh : f_hd C M n) (hno : f_no1 M (n + 1)) (hn : 0 ≤ n ∧ n < 8) (hlt : (M 222 68) < (M 222 3)) {C2 M2 : ax_V} (eC2 : C2 = ax_u (ax_u (ax_u (ax_u (c_on C 1) 508 (n + 1) (M 222 26)) 509 (n + 1) (M 222 44)) 510 (n + 1) (M 222 55)) 500 0 (n + 1)) (eM2 : M2 = ax_u (m_on M 1) 222 10 (n + 1)) : f_N C0 M0 C2 M2 (n + 1) := by
  have i1 := h.on hlt
  obtain ⟨hR, ⟨fC, fM⟩, hLL, hB, hd, hcs⟩ := i1
  obtain ⟨C1, eC1⟩ : ∃ X : ax_V, X = c_on C 1 := ⟨_, rfl⟩
  obtain ⟨M1, eM1⟩ : ∃ X : ax_V, X = m_on M 1 := ⟨_, rfl⟩
  rw [← eC1, ← eM1] at hR hLL hcs
  rw [← eM1] at hd
  rw [← eC1, ← eM1] at hB
  rw [← eC1] at fC eC2
  rw [← eM1] at fM eM2
  obtain ⟨hgC, hgM⟩ := id hR.1
  have nC1 : e_nC C C1 := by rw [eC1]; exact e_nC.on C 1
  have nM1 : e_nM M M1 := by rw [eM1]; exact e_nM.on M 1
  have s1 : ∀ j, j ≠ 68 → M1 222 j = M 222 j := fun j z => by rw [eM1]; exact ax_u_k z
  obtain ⟨hh1, hh2, hh3, hh4, hh5, hh6, hh7⟩ := hh
  have p0 := hR.2.2.2.1
  have hS := hR.2.2.1
  have hat := hR.2.2.1.1
  have hsz := hR.2.1.2.2.1
  have hct := hB.1
  have c1 := hct.1
  have c3 := hct.2.2.1
  have pe : (M 222 26) = (M1 222 26) := (s1 26 (by decide)).symm
  have qe : (M 222 44) = (M1 222 44) := (s1 44 (by decide)).symm
  have ae : (M 222 55) = (M1 222 55) := (s1 55 (by decide)).symm
  rw [ae] at hB
  rw [pe, qe, ae] at eC2
  have n1 : M1 222 10 = n := by rw [s1 10 (by decide)]; exact hh2
  have c2n : ∀ c, c ≠ 500 → c ≠ 508 → c ≠ 509 → c ≠ 510 → C2 c = C1 c := fun c a b x y => by rw [eC2, ax_u_ne a, ax_u_ne y, ax_u_ne x, ax_u_ne b]
  have m2n : ∀ c, c ≠ 222 → M2 c = M1 c := fun c a => by rw [eM2]; exact ax_u_ne a
  have m2s : ∀ j, j ≠ 10 → M2 222 j = M1 222 j := fun j a => by rw [eM2]; exact ax_u_k a
  have m2v : M2 222 10 = n + 1 := by rw [eM2]; exact ax_u_s _ _ _ _
  have g2C : ax_g C2 := by rw [eC2]; exact ax_u_g (ax_u_g (ax_u_g (ax_u_g hgC (hgM _ _)) (hgM _ _)) (hgM _ _)) ⟨by omega, by omega⟩
  have g2M : ax_g M2 := by rw [eM2]; exact ax_u_g hgM ⟨by omega, by omega⟩
  have v8 : C2 508 (n + 1) = (M1 222 26) := by rw [eC2, ax_u_ne (by decide), ax_u_ne (by decide), ax_u_ne (by decide)]; exact ax_u_s _ _ _ _
  have v9 : C2 509 (n + 1) = (M1 222 44) := by rw [eC2, ax_u_ne (by decide), ax_u_ne (by decide)]; exact ax_u_s _ _ _ _
  have v10 : C2 510 (n + 1) = (M1 222 55) := by rw [eC2, ax_u_ne (by decide)]; exact ax_u_s _ _ _ _
  have vI : ∀ c k, 508 ≤ c → c ≤ 510 → k ≠ n + 1 → C2 c k = C1 c k := fun c k a b z => by rw [eC2, ax_u_o (fun q => by omega), ax_u_o (fun q => z q.2), ax_u_o (fun q => z q.2), ax_u_o (fun q => z q.2)]
  have st1 : C1 600 9 = -1 := by rw [nC1.2 9 (by decide)]; exact hh1
  have ia : M1 222 70 = 0 := by
    rcases hS.2.2.2.2.2.1 with z | z
    · exact z.1
    · omega
  have cs2 : ∀ j, C2 600 j = C1 600 j := fun j => by rw [c2n 600 (by decide) (by decide) (by decide) (by decide)]
  obtain ⟨a1, a2, a3, a4, a5, a6, a7⟩ := hS
  refine ⟨⟨g2C, g2M⟩, ?_, ?_, ⟨m2v.symm, by omega, by omega⟩, ?_, ?_, ⟨?_, ?_⟩, ?_, ?_, ⟨?_, ?_, ?_⟩, ?_, ?_, by rw [eC2]; exact ax_u_s _ _ _ _⟩
  · have hT := hR.2.1
    unfold e_T at hT ⊢
    rw [cs2, c2n 1 (by decide) (by decide) (by decide) (by decide), m2s 3 (by decide), m2n 224 (by decide)]; exact hT
  · rw [cs2, m2s 68 (by decide), m2s 3 (by decide)]; exact a1
  · rw [cs2, cs2, cs2, cs2, cs2, m2s 69 (by decide), m2s 71 (by decide), m2s 72 (by decide), m2s 70 (by decide)]
    exact ⟨⟨by omega, hd.1⟩, ⟨by omega, hd.2.1⟩, ⟨by omega, by omega⟩, ⟨st1, ia⟩, by omega⟩
  · obtain ⟨-, p2, p3⟩ := hR.2.2.2
    refine ⟨by rw [c2n 516 (by decide) (by decide) (by decide) (by decide), m2s 26 (by decide), m2s 68 (by decide)]; exact p0, fun k a b => ?_, fun q a b => ?_⟩
    · rw [m2v] at b
      rw [c2n 501 (by decide) (by decide) (by decide) (by decide), m2n 226 (by decide)]
      by_cases w : k = n
      · rw [w, nC1.1 501 (by decide), nM1.1 226 (by decide)]; exact hh3
      · exact p2 k a (by omega)
    · rw [m2s 26 (by decide)] at b
      exact (p3 q a b).keep (fun c x y z => by rw [c2n c (by omega) (by omega) (by omega) (by omega)]) (fun c x y => by rw [m2n c (by omega)]) (fun k x y => by rw [m2n 226 (by decide)]) (fun x hx => ⟨by rw [c2n 522 (by decide) (by decide) (by decide) (by decide)], by rw [c2n 526 (by decide) (by decide) (by decide) (by decide)], by rw [m2n 252 (by decide)], by rw [m2n 242 (by decide)]⟩)
  · rw [eC2]; exact (((fC.un (by decide) (by omega)).un (by decide) (by omega)).un (by decide) (by omega)).ua (by decide)
  · rw [eM2]; exact fM.us (by decide)
  · rw [n1] at hLL
    exact hLL.keep (fun c z => c2n c (by omega) (by omega) (by omega) (by omega)) (fun c z => m2n c (by omega)) (cs2 7) (m2s 73 (by decide)) (m2s 77 (by decide)) (by rw [m2s 68 (by decide)]; exact Int.le_refl _)
  · rw [m2s 55 (by decide)]
    exact hB.nx hR n1.symm (fun c z => c2n c (by omega) (by omega) (by omega) (by omega)) vI ⟨v8, v9, v10⟩ (c2n 502 (by decide) (by decide) (by decide) (by decide)) (by rw [nC1.1 502 (by decide), nM1.1 287 (by decide)]; exact hh4) m2n (fun j z => m2s j (by omega)) m2v (by rw [m2s 68 (by decide)]; exact Int.le_refl _)
  · rw [m2s 26 (by decide)]; exact v8
  · rw [m2s 44 (by decide)]; exact v9
  · rw [m2s 55 (by decide)]; exact v10
  · intro z k a b
    rw [m2s 73 (by decide), s1 73 (by decide)] at z
    rw [m2n 228 (by decide), nM1.1 228 (by decide)]
    exact hno z k a b
  · rw [m2s 26 (by decide), m2s 44 (by decide), m2s 55 (by decide), m2s 68 (by decide), ← pe, ← qe, ← ae, eM1]; unfold m_on; rw [ax_u_s]; omega
set_option maxHeartbeats 4000000 in
theorem f_body (hX : e_X B r 20) (hn : 0 ≤ n ∧ n < 8) (hy1 : ax_y y1) (hy2 : ax_y y2) : ∀ (m : Nat) (C M : ax_V) (x : Int), f_I C0 M0 C M (M 222 55) → f_hd C M n → f_no1 M (n + 1) → 700 - (M 222 68) ≤ (m : Int) → 0 ≤ x → x ≤ (M 222 68) →
    f_go f_nv (fun Φ Θ => k_Reader_read_39 B r 422 n x C (fun v V => v = 1 ∧ Φ V) Θ) (fun C' Φ Θ => ∀ y, ax_y y → k_Reader_read_9 B r 422 (n + 1) y C' (fun v V => v = 1 ∧ Φ V) Θ) (fun Φ Θ => k_Model_readNode_245 423 y1 y2 M Φ Θ) (fun M' Φ _ => Φ 1 M') C0 M0 (fun C' M' => f_N C0 M0 C' M' (n + 1) ∧ (M 222 68) < (M' 222 68)) := by
  intro m
  induction m with
  | zero =>
    intro C M x h hh hno hm x0 x1
    have hR := h.1
    obtain ⟨hgC, hgM⟩ := id hR.1
    have hat := hR.2.2.1.1
    have hsz := hR.2.1.2.2.1
    have hs := hR.see
    have es : m_see M = 0 := if_neg (by omega)
    have hct := h.2.2.2.1.1
    have c1 := hct.1
    have c2 := hct.2.1
    have rn : ax_rg n := ⟨by omega, by omega⟩
    obtain ⟨M', g', n', s', k'⟩ := s_eqNo hgM hR.mi (by omega) ⟨by omega, by omega⟩ ⟨by omega, by omega⟩
    refine f_go.stop (C' := C) (M' := M') (fun Φ Θ z => r_Reader_read_39 hgC rn ⟨by omega, by omega⟩ ⟨fun _ => t_expect hgC (by decide) hR.ci (fun q => by omega) (fun _ => z), fun _ => t_look hgC hR.ci (t_isLetter hgC (c_see_rg hgC) (ax_b_n (by omega) (t_look hgC hR.ci ⟨fun q => by omega, fun _ => t_expect hgC (by decide) hR.ci (fun q => by omega) (fun _ => z)⟩)))⟩) (fun Φ Θ z => r_Model_readNode_245 hgM hy1 hy2 (s_see hgM hR.mi ⟨fun q => by omega, fun _ => s_see hgM hR.mi ⟨fun q => by omega, fun _ => ax_I.mono (k' _ Θ ⟨fun _ => z, fun q => absurd rfl q⟩) (by decide) (fun _ _ _ _ q => q) (fun _ _ q => q)⟩⟩)) ⟨⟨hgC, g'⟩, by rw [s']; exact hat.1, h.2.1.1, ⟨fun c a b => by rw [n' c b (by omega)]; exact h.2.1.2.1 c a b, fun j a => by rw [s']; exact h.2.1.2.2 j a⟩⟩
  | succ m ih =>
    intro C M x h hh hno hm x0 x1
    have hR := h.1
    obtain ⟨hgC, hgM⟩ := id hR.1
    have hat := hR.2.2.1.1
    have hsz := hR.2.1.2.2.1
    have hs := hR.see
    have hct := h.2.2.2.1.1
    have c1 := hct.1
    have c2 := hct.2.1
    have rn : ax_rg n := ⟨by omega, by omega⟩
    by_cases w : m_isL M
    · have hlt := hR.lt (by have := w.1; omega)
      have k0 := f_equation (B := B) (r := r) (x1 := -1) (x2 := -1) hX h (Or.inl ⟨hh.1, rfl, rfl⟩) (by decide) (by decide) hlt
      have k1 := (k0.cont (L := fun V Φ Θ => k_Reader_read_39 B r 422 n (x + 1) V (fun v V => v = 1 ∧ Φ V) Θ)).contM (L := fun V Φ Θ => k_Model_readNode_245 423 y1 y2 V Φ Θ)
      refine (k1.bind0 (fun C1 M1 q1 => ?_)).of (fun Φ Θ z => r_Reader_read_39 hgC rn ⟨by omega, by omega⟩ ⟨fun q => by omega, fun _ => t_look hgC hR.ci (t_isLetter hgC (c_see_rg hgC) (ax_b_y (by rw [hs]; exact w) (t_look hgC hR.ci ⟨fun q => by have := w.1; omega, fun _ => ax_N.mono z (by decide) (fun _ _ q => q) (fun _ _ q => q)⟩)))⟩) (fun Φ Θ z => r_Model_readNode_245 hgM hy1 hy2 (s_see hgM hR.mi ⟨fun q => by have := w.2; omega, fun _ => s_see hgM hR.mi ⟨fun q => by have := w.1; omega, fun _ => ax_I.mono z (by decide) (fun _ _ _ _ q => q) (fun _ _ q => q)⟩⟩))
      obtain ⟨i1, a1, s1, j1⟩ := q1
      have hat1 := i1.1.2.2.1.1
      have au1 : (M1 222 55) = (M 222 55) := s1.2.2 55 (by decide) (by decide) (by decide) (by decide) (by decide) (by decide)
      rw [← au1] at i1
      have hh1 : f_hd C1 M1 n := by
        obtain ⟨u1, u2, u3, u4, u5, u6, u7⟩ := hh
        refine ⟨by rw [s1.1.2 9 (by decide)]; exact u1, by rw [s1.2.2 10 (by decide) (by decide) (by decide) (by decide) (by decide) (by decide)]; exact u2, by rw [s1.1.1 501 (by decide) (by decide), s1.2.1 226 (by decide) (by decide)]; exact u3, by rw [s1.1.1 502 (by decide) (by decide), s1.2.1 287 (by decide) (by decide)]; exact u4, fun z k a b => ?_, by omega, by omega⟩
        rw [s1.2.2 73 (by decide) (by decide) (by decide) (by decide) (by decide) (by decide)] at z
        rw [s1.2.1 228 (by decide) (by decide)]; exact u5 z k a b
      have hno1 : f_no1 M1 (n + 1) := fun z k a b => by
        rw [s1.2.2 73 (by decide) (by decide) (by decide) (by decide) (by decide) (by decide)] at z
        rw [s1.2.1 228 (by decide) (by decide)]; exact hno z k a b
      exact (ih C1 M1 (x + 1) i1 hh1 hno1 (by omega) (by omega) (by omega)).mono (fun C2 M2 q2 => ⟨q2.1, by have := q2.2; omega⟩)
    · by_cases w2 : m_see M = 36
      · have hlt := hR.lt (by omega)
        have k0 := f_automaton (B := B) (r := r) hX h hh.1 hh.2.2.2.2.2.2 hh.2.2.2.2.2.1 w2
        have k1 := (k0.cont (L := fun V Φ Θ => k_Reader_read_39 B r 422 n (x + 1) V (fun v V => v = 1 ∧ Φ V) Θ)).contM (L := fun V Φ Θ => k_Model_readNode_245 423 y1 y2 V Φ Θ)
        refine (k1.bind0 (fun C1 M1 q1 => ?_)).of (fun Φ Θ z => r_Reader_read_39 hgC rn ⟨by omega, by omega⟩ ⟨fun q => by omega, fun _ => t_look hgC hR.ci (t_isLetter hgC (c_see_rg hgC) (ax_b_n (by rw [hs]; exact w) (t_look hgC hR.ci ⟨fun _ => t_look hgC hR.ci ⟨fun _ => z, fun q => absurd (hs.trans w2) q⟩, fun q => absurd (hs.trans w2) q⟩)))⟩) (fun Φ Θ z => r_Model_readNode_245 hgM hy1 hy2 (s_see hgM hR.mi ⟨fun q => by omega, fun _ => s_see hgM hR.mi ⟨fun _ => z, fun q => absurd w2 q⟩⟩))
        obtain ⟨i1, st1, au1, s1, a1, j1⟩ := q1
        have hat1 := i1.1.2.2.1.1
        rw [← au1] at i1
        have hh1 : f_hd C1 M1 n := by
          obtain ⟨u1, u2, u3, u4, u5, u6, u7⟩ := hh
          refine ⟨st1, by rw [s1.2.2.1]; exact u2, by rw [s1.1 501 (by decide), s1.2.1 226 (by decide) (by decide)]; exact u3, by rw [s1.1 502 (by decide), s1.2.1 287 (by decide) (by decide)]; exact u4, fun z k a b => ?_, by omega, by rw [au1]; omega⟩
          rw [s1.2.2.2] at z
          rw [s1.2.1 228 (by decide) (by decide)]; exact u5 z k a b
        have hno1 : f_no1 M1 (n + 1) := fun z k a b => by
          rw [s1.2.2.2] at z
          rw [s1.2.1 228 (by decide) (by decide)]; exact hno z k a b
        exact (ih C1 M1 (x + 1) i1 hh1 hno1 (by omega) (by omega) (by omega)).mono (fun C2 M2 q2 => ⟨q2.1, by have := q2.2; omega⟩)
      · -- the class comes to the }
        have hcl : ∀ (Φ Θ : ax_V → Prop), ax_N (az_W B (az_ER B r)) (420 + 2) q_Reader_expect [.ref r, ax_i 125] C (fun V9 => ax_N (az_W B (az_ER B r)) 422 q_Program_endNode [.ref B, ax_i n] V9 (fun V10 => k_Reader_read_9 B r 422 (n + 1) (some (ax_i x)) V10 (fun v V => v = 1 ∧ Φ V) Θ) Θ) Θ → k_Reader_read_39 B r 422 n x C (fun v V => v = 1 ∧ Φ V) Θ := by
          intro Φ Θ z
          exact r_Reader_read_39 hgC rn ⟨by omega, by omega⟩ ⟨fun _ => z, fun _ => t_look hgC hR.ci (t_isLetter hgC (c_see_rg hgC) (ax_b_n (by rw [hs]; exact w) (t_look hgC hR.ci ⟨fun q => absurd (hs.symm.trans q) w2, fun _ => z⟩)))⟩
        by_cases w3 : m_see M = 125
        · have hlt := hR.lt (by omega)
          have p0 := hR.2.2.2.1
          have c3 := hct.2.2.1
          obtain ⟨C2, eC2⟩ : ∃ X : ax_V, X = ax_u (ax_u (ax_u (ax_u (c_on C 1) 508 (n + 1) (M 222 26)) 509 (n + 1) (M 222 44)) 510 (n + 1) (M 222 55)) 500 0 (n + 1) := ⟨_, rfl⟩
          obtain ⟨M2, eM2⟩ : ∃ X : ax_V, X = ax_u (m_on M 1) 222 10 (n + 1) := ⟨_, rfl⟩
          have hN := f_nodeEnd h hh hno hn hlt eC2 eM2
          have nC1 := e_nC.on C 1
          have hgC1 : ax_g (c_on C 1) := ax_u_g hgC ⟨by omega, by omega⟩
          refine f_go.ok (C' := C2) (M' := M2) (fun Φ Θ z => hcl Φ Θ (t_expect hgC (by decide) hR.ci (fun _ => r_Program_endNode hgC1 rn ⟨⟨by omega, by omega⟩, fun V1 e1 => ⟨⟨by omega, by omega⟩, fun V2 e2 => ⟨⟨by omega, by omega⟩, fun V3 e3 => ⟨⟨by omega, by omega⟩, fun V4 e4 => ?_⟩⟩⟩⟩) (fun q => absurd (hs.trans w3) q))) (fun Φ Θ z => r_Model_readNode_245 hgM hy1 hy2 (s_see hgM hR.mi ⟨fun _ => ⟨⟨by omega, by omega⟩, fun V2 e2 => ?_⟩, fun q => absurd w3 q⟩)) ⟨hN, ?_⟩
          · have d0 : (c_on C 1) 516 0 = (M 222 26) := by rw [nC1.1 516 (by decide)]; exact p0.1
            have d1 : V1 547 0 = (M 222 44) := by rw [e1, ax_u_ne (by decide), nC1.1 547 (by decide)]; exact c1.1
            have d2 : V2 556 0 = (M 222 55) := by rw [e2, ax_u_ne (by decide), e1, ax_u_ne (by decide), nC1.1 556 (by decide)]; exact c3.1
            have e5 : V4 = C2 := by rw [e4, e3, d2, e2, d1, e1, d0, eC2]
            rw [e5]; exact z _ (ax_y_i x)
          · have d2 : V2 222 10 = n := by rw [e2, ax_u_k (by decide)]; exact hh.2.1
            rw [d2]
            refine ⟨⟨by omega, by omega⟩, fun V3 e3 => ?_⟩
            have e4 : V3 = M2 := by rw [e3, e2, eM2]; rfl
            rw [e4]; exact z
          · rw [eM2]; show _ < (ax_u (m_on M 1) 222 10 (n + 1)) 222 68
            rw [ax_u_k (by decide)]; unfold m_on; rw [ax_u_s]; omega
        · obtain ⟨M', g', n', s', k'⟩ := s_eqNo hgM hR.mi w ⟨by omega, by omega⟩ ⟨by omega, by omega⟩
          exact f_go.stop (C' := C) (M' := M') (fun Φ Θ z => hcl Φ Θ (t_expect hgC (by decide) hR.ci (fun q => absurd (hs.symm.trans q) w3) (fun _ => z))) (fun Φ Θ z => r_Model_readNode_245 hgM hy1 hy2 (s_see hgM hR.mi ⟨fun q => absurd q w3, fun _ => s_see hgM hR.mi ⟨fun q => absurd q w2, fun _ => ax_I.mono (k' _ Θ ⟨fun _ => z, fun q => absurd rfl q⟩) (by decide) (fun _ _ _ _ q => q) (fun _ _ q => q)⟩⟩)) ⟨⟨hgC, g'⟩, by rw [s']; exact hat.1, h.2.1.1, ⟨fun c a b => by rw [n' c b (by omega)]; exact h.2.1.2.1 c a b, fun j a => by rw [s']; exact h.2.1.2.2 j a⟩⟩
end Body
