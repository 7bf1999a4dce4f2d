/-- a call is made of its arguments -/
theorem e_mig.closeCall {C M C2 M2 C3 M3 : ax_V} {R : Int → Prop} {f l w v : Int} (h : e_mig C M C2 M2 R) (cn : e_cn C2 M2 f l R (C2 600 13)) (hd : (M2 222 69) = (M 222 69) ∧ (M2 222 72) = (M 222 72) ∧ (C2 600 13) = (C 600 13)) (hf : e_pl (M 222 68)) (hat : (C 600 6) = (M 222 68)) (hw : ax_rg w) (hfd : e_fd M2 (M2 222 10) v w) (hg3 : ax_g C3 ∧ ax_g M3) (rf : -1 ≤ f)
    (eC : C3 = ax_u (c_mk C2 22 (C 600 6) (C 600 6) w) 521 (M2 222 26) f) (eM : M3 = ax_u (ax_u (m_mk M2 22 (M 222 68) f (-1) (-1)) 243 (M2 222 26) (M 222 68)) 249 (M2 222 26) v) (hT : (M 222 71) = 0) : e_ok C M C3 M3 (M2 222 26) := by
  have h9 := h
  obtain ⟨h1, h2, h3, h4, h5, h6, h7⟩ := h
  obtain ⟨c0, m0, m9⟩ := id h1.2.2.2.1
  have an := h1.2.2.1.2.1
  obtain ⟨b1, b2, b3, b4, b5, b6, b7, b8, b9, b10, b11, b12, b13, b14, b15, b16⟩ := c_mk_at (C := C2) (o := 22) (f := (C 600 6)) (a := (C 600 6)) (w := w) rfl
  obtain ⟨d1, d2, d3, d4, d5, d6, d7, d8, d9, d10, d11, d12, d13, d14, d15, d16, d17, d18⟩ := m_mk_at (M := M2) (o := 22) (f := (M 222 68)) (x := f) (y := -1) (z := -1) rfl
  rw [c0] at b1 b2 b3 b4 b5 b6 b7 b8 b9 b10 b11 b12
  have fN : e_fC C2 C3 (M2 222 26) := by
    rw [eC]
    exact (c_mk_f.mono (by omega)).tr (e_fC.ua (by decide) (Int.le_refl _)) (Int.le_refl _)
  have fM : e_fM M2 M3 (M2 222 26) := by
    rw [eM]
    exact m_mk_f.tr ((e_fM.ua (by decide) (Int.le_refl _)).tr (e_fM.ua (by decide) (Int.le_refl _)) (Int.le_refl _)) (Int.le_refl _)
  have g1 : C3 517 (M2 222 26) = 22 := by rw [eC, ax_u_ne (c' := 517) (by decide)]; exact b2
  have g2 : C3 518 (M2 222 26) = (C 600 6) := by rw [eC, ax_u_ne (c' := 518) (by decide)]; exact b3
  have g3 : C3 521 (M2 222 26) = f := by rw [eC]; exact ax_u_s _ _ _ _
  have g4 : C3 522 (M2 222 26) = -1 := by rw [eC, ax_u_ne (c' := 522) (by decide)]; exact b7
  have g5 : C3 526 (M2 222 26) = ax_b (0 < (C2 600 13)) := by rw [eC, ax_u_ne (c' := 526) (by decide)]; exact b12
  have g6 : C3 519 (M2 222 26) = (C 600 6) := by rw [eC, ax_u_ne (c' := 519) (by decide)]; exact b4
  have g8 : C3 523 (M2 222 26) = -1 := by rw [eC, ax_u_ne (c' := 523) (by decide)]; exact b8
  have g9 : C3 520 (M2 222 26) = w := by rw [eC, ax_u_ne (c' := 520) (by decide)]; exact b5
  have n1 : ∀ c, c ≠ 243 → c ≠ 249 → M3 c = m_mk M2 22 (M 222 68) f (-1) (-1) c := fun c x y => by rw [eM, ax_u_ne y, ax_u_ne x]
  have f1 : M3 241 (M2 222 26) = 22 := by rw [n1 241 (by decide) (by decide)]; exact d3
  have f2 : M3 242 (M2 222 26) = (M 222 68) := by rw [n1 242 (by decide) (by decide)]; exact d4
  have f3 : M3 243 (M2 222 26) = (M 222 68) := by rw [eM, ax_u_ne (c' := 243) (by decide)]; exact ax_u_s _ _ _ _
  have f4 : M3 245 (M2 222 26) = f := by rw [n1 245 (by decide) (by decide)]; exact d7
  have f5 : M3 246 (M2 222 26) = -1 := by rw [n1 246 (by decide) (by decide)]; exact d8
  have f6 : M3 247 (M2 222 26) = -1 := by rw [n1 247 (by decide) (by decide)]; exact d9
  have f7 : M3 248 (M2 222 26) = -1 := by rw [n1 248 (by decide) (by decide)]; exact d10
  have f8 : M3 250 (M2 222 26) = (M2 222 10) := by rw [n1 250 (by decide) (by decide)]; exact d12
  have f9 : M3 252 (M2 222 26) = -1 := by rw [n1 252 (by decide) (by decide)]; exact d14
  have f10 : M3 249 (M2 222 26) = v := by rw [eM]; exact ax_u_s _ _ _ _
  have m0' : ∀ k, M3 222 k = m_mk M2 22 (M 222 68) f (-1) (-1) 222 k := fun k => by rw [n1 222 (by decide) (by decide)]
  have hRb : ∀ x, R x → x < (M2 222 26) := fun x hx => (h5 x hx).2
  -- the chain as the new part sees it
  have hch : (∀ x, R x ↔ (0 ≤ x ∧ ∃ i, e_arg M3 (M2 222 26) i = x)) ∧ ∀ x, R x → C3 522 x = M3 252 x ∧ (M3 252 x = -1 ∨ x < M3 252 x) ∧ C3 526 x = ax_b (0 < (C2 600 13)) := by
    have nx : ∀ x, x < (M2 222 26) → C3 522 x = C2 522 x ∧ C3 526 x = C2 526 x ∧ M3 252 x = M2 252 x := fun x hx => ⟨fN.2.1 522 x (by decide) (by decide) hx, fN.2.1 526 x (by decide) (by decide) hx, fM.2.1 252 x (by decide) (by decide) hx⟩
    have cn3 := cn.keep (C' := C3) (M' := M3) (fun x hx => nx x (hRb x hx))
    have ea : ∀ i, e_arg M3 (M2 222 26) i = e_ag M3 f i := fun i => by rw [e_arg_ag, f4]
    rcases cn3 with ⟨z1, z2, z3⟩ | ⟨z1, z2, z3, z4, z5, z6, z7⟩
    · refine ⟨fun x => ⟨fun q => absurd q (z3 x), ?_⟩, fun x q => absurd q (z3 x)⟩
      rintro ⟨x0, i, q⟩
      rw [ea i, z1] at q
      have : ∀ i, e_ag M3 (-1) i = -1 := by
        intro i
        induction i with
        | zero => rfl
        | succ i ih =>
          show (if e_ag M3 (-1) i = -1 then -1 else M3 252 (e_ag M3 (-1) i)) = -1
          rw [if_pos ih]
      rw [this i] at q
      omega
    · refine ⟨fun x => ?_, fun x q => ?_⟩
      · rw [z2 x]
        constructor
        · rintro ⟨x0, i, q⟩; exact ⟨x0, i, by rw [ea i]; exact q⟩
        · rintro ⟨x0, i, q⟩; exact ⟨x0, i, by rw [← ea i]; exact q⟩
      · obtain ⟨y1, y2, y3, y4⟩ := z7 x q
        refine ⟨y2, ?_, y4⟩
        rcases y3 with y3 | y3
        · exact Or.inl (by rw [y3]; exact z5)
        · exact Or.inr y3
  have hkid : ∀ x, e_kid M3 (M2 222 26) x ↔ R x := by
    intro x
    rw [hch.1 x]
    unfold e_kid
    rw [f1]
    constructor
    · rintro ⟨x0, ⟨z, -⟩ | ⟨-, z⟩⟩
      · exact absurd rfl z
      · exact ⟨x0, z⟩
    · rintro ⟨x0, z⟩
      exact ⟨x0, Or.inr ⟨rfl, z⟩⟩
  refine h9.close hd hg3 (fN.mono (by omega)) fM (fun c q x y _ hq => fN.2.1 c q (by omega) (by omega) hq) (fun q hq _ => fN.2.1 522 q (by decide) (by decide) hq) (by rw [eC, ax_u_ne (c' := 600) (by decide)]; exact b13) (by rw [m0']; exact d16) (by rw [eC, ax_u_ne (c' := 600) (by decide)]; exact b14) (by rw [m0']; exact d17) (by rw [eC, ax_u_ne (c' := 600) (by decide)]; exact b15) (by rw [m0']; exact d18) (by rw [eC, ax_u_ne (c' := 600) (by decide)]; exact b16) (by rw [eC, ax_u_ne (c' := 516) (by decide)]; exact b1) (by rw [m0']; exact d1) (by rw [m0']; exact d2) ?_ ⟨g4, f9, by rw [g5, hd.2.2]⟩ hkid (e_nw.mk h2 h3 (by rw [eC, ax_u_ne (c' := 525) (by decide)]; exact b11) (by rw [eC, ax_u_ne (c' := 527) (by decide)]; exact b10) f1 (by rw [f2]; exact Int.le_refl _) f8 (by rw [n1 256 (by decide) (by decide)]; exact d15) (e_opk.tr hT (by decide)))
  refine ⟨by rw [g1, f1]; rfl, by rw [g2, f2]; exact hat, by rw [f2]; exact hf, by rw [f8]; exact ⟨an.2.1, an.2.2⟩, by rw [g5]; exact ax_b_01, Or.inr (Or.inr (Or.inr (Or.inr ⟨f1, by rw [f4]; exact rf, f5, f6⟩))), ?_, by rw [g3, f4], fun z => absurd f1 z, fun _ i hi => ?_, fun x hx => ?_⟩
  · have nm : e_fd M3 (M2 222 10) v w := by
      have e : M3 226 = M2 226 := fM.1 226 (by decide) (by decide)
      unfold e_fd
      rw [e]
      exact hfd
    unfold e_dt
    rw [f1, f3, f7, f8, f10, g6, g8, g9]
    exact ⟨fun q => by rcases q with q | q <;> omega, fun q => by omega, fun q => by rcases q with q | q | q <;> omega, fun q => by omega, fun q => by omega, fun q => by omega, fun _ => ⟨⟨hat, hf⟩, ⟨by decide, by decide⟩, fun _ => rfl, fun q => absurd q (by decide), nm⟩⟩
  · have hR' := (hch.1 _).mpr ⟨hi, i, rfl⟩
    have hr := hch.2 _ hR'
    have hb := h5 _ hR'
    refine ⟨hr.1, hr.2.1, ?_⟩
    rw [f2, fM.2.1 242 _ (by decide) (by decide) hb.2]
    exact (h4.2.2.2.2 _ hb.1 hb.2).2.2.2.2.1
  · have hx' := (hkid x).mp hx
    rw [f1, if_neg (by decide), g5]
    exact ⟨hRb x hx', (hch.2 x hx').2.2⟩
