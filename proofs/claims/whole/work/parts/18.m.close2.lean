/-- a part with two of its own is made -/
theorem e_mid.close2 {C M C2 M2 C3 M3 : ax_V} {R : Int → Prop} {oc om f a w s t : Int} (h : e_mid C M C2 M2 R) (hRp : ∀ x, R x ↔ (x = s ∨ x = t)) (hst : s < t) (hd : (M2 222 69) = (M 222 69) ∧ (M2 222 72) = (M 222 72) ∧ (C2 600 13) = (C 600 13)) (ho : (7 ≤ om ∧ om ≤ 17) ∨ om = 19 ∨ om = 21) (hoc : oc = e_op om) (hf : e_pl f) (ha : ax_rg a) (hw : ax_rg w) (hg3 : ax_g C3 ∧ ax_g M3)
    (hC3 : ∀ c q, ¬ (c = 522 ∧ (q = s ∨ q = t)) → C3 c q = ax_u (c_mk C2 oc f a w) 521 (M2 222 26) s c q) (n1 : C3 522 s = t) (n2 : C3 522 t = -1)
    (hM3 : ∀ c q, ¬ (q = (M2 222 26) ∧ (c = 243 ∨ c = 244 ∨ c = 248 ∨ c = 249)) → M3 c q = m_mk M2 om f s t (-1) c q) (hl1 : C2 526 s = ax_b (0 < (C2 600 13))) (hl2 : C2 526 t = ax_b (0 < (C2 600 13))) (hdt : e_dt C3 M3 (M2 222 26)) (hfa : (M 222 68) ≤ f) (hop : e_opk M om) : e_ok C M C3 M3 (M2 222 26) := by
  have h9 := h
  obtain ⟨h1, h2, h3, h4, h5, h6, h7⟩ := h
  obtain ⟨u1, u2, u3, u4⟩ := h5 s ((hRp s).mpr (Or.inl rfl))
  obtain ⟨v1, v2, v3, v4⟩ := h5 t ((hRp t).mpr (Or.inr rfl))
  obtain ⟨hgC2, hgM2⟩ := id h1.1
  obtain ⟨c0, m0, m9⟩ := id h1.2.2.2.1
  have an := h1.2.2.1.2.1
  have asz := h1.2.1.2.2.1
  have aat := h1.2.2.1.1
  have om6 : ¬ om = 6 := by rcases ho with z | z | z <;> omega
  have om22 : ¬ om = 22 := by rcases ho with z | z | z <;> omega
  obtain ⟨b1, b2, b3, b4, b5, b6, b7, b8, b9, b10, b11, b12, b13, b14, b15, b16⟩ := c_mk_at (C := C2) (o := oc) (f := f) (a := a) (w := w) rfl
  obtain ⟨d1, d2, d3, d4, d5, d6, d7, d8, d9, d10, d11, d12, d13, d14, d15, d16, d17, d18⟩ := m_mk_at (M := M2) (o := om) (f := f) (x := s) (y := t) (z := -1) rfl
  rw [c0] at b1 b2 b3 b4 b5 b6 b7 b8 b9 b10 b11 b12
  obtain ⟨C9, eC⟩ : ∃ X : ax_V, X = ax_u (c_mk C2 oc f a w) 521 (M2 222 26) s := ⟨_, rfl⟩
  rw [← eC] at hC3
  have fN : e_fC C2 C9 (M2 222 26) := by
    rw [eC]
    exact (c_mk_f.mono (by omega)).tr (e_fC.ua (by decide) (Int.le_refl _)) (Int.le_refl _)
  have g1 : C3 517 (M2 222 26) = oc := by rw [hC3 _ _ (fun z => absurd z.1 (by decide)), eC]; simp [ax_u, b2]
  have g2 : C3 518 (M2 222 26) = f := by rw [hC3 _ _ (fun z => absurd z.1 (by decide)), eC]; simp [ax_u, b3]
  have g3 : C3 521 (M2 222 26) = s := by rw [hC3 _ _ (fun z => absurd z.1 (by decide)), eC]; simp [ax_u]
  have g4 : C3 522 (M2 222 26) = -1 := by rw [hC3 _ _ (fun z => by rcases z.2 with z | z <;> omega), eC]; simp [ax_u, b7]
  have g5 : C3 526 (M2 222 26) = ax_b (0 < (C2 600 13)) := by rw [hC3 _ _ (fun z => absurd z.1 (by decide)), eC]; simp [ax_u, b12]
  have g7 : ∀ x, x < (M2 222 26) → C3 526 x = C2 526 x := fun x hx => by rw [hC3 _ _ (fun z => absurd z.1 (by decide))]; exact fN.2.1 526 x (by decide) (by decide) hx
  have f1 : M3 241 (M2 222 26) = om := by rw [hM3 _ _ (fun z => absurd z.2 (by decide))]; exact d3
  have f2 : M3 242 (M2 222 26) = f := by rw [hM3 _ _ (fun z => absurd z.2 (by decide))]; exact d4
  have f4 : M3 245 (M2 222 26) = s := by rw [hM3 _ _ (fun z => absurd z.2 (by decide))]; exact d7
  have f5 : M3 246 (M2 222 26) = t := by rw [hM3 _ _ (fun z => absurd z.2 (by decide))]; exact d8
  have f6 : M3 247 (M2 222 26) = -1 := by rw [hM3 _ _ (fun z => absurd z.2 (by decide))]; exact d9
  have f8 : M3 250 (M2 222 26) = (M2 222 10) := by rw [hM3 _ _ (fun z => absurd z.2 (by decide))]; exact d12
  have f9 : M3 252 (M2 222 26) = -1 := by rw [hM3 _ _ (fun z => absurd z.2 (by decide))]; exact d14
  have fM : e_fM M2 M3 (M2 222 26) := by
    have g : e_fM M2 (m_mk M2 om f s t (-1)) (M2 222 26) := m_mk_f
    refine ⟨fun c x y => ?_, fun c q x y z => ?_, fun k x1 x2 x3 x4 x5 x6 => ?_⟩
    · funext q; rw [hM3 _ _ (by omega), g.1 c x y]
    · rw [hM3 _ _ (fun w => by have := w.1; omega), g.2.1 c q x y z]
    · rw [hM3 _ _ (fun z => absurd z.2 (by decide)), g.2.2 k x1 x2 x3 x4 x5 x6]
  have fC : e_fC C2 C3 (M 222 26) := by
    refine ⟨fun c x y => ?_, fun c q x y z => ?_, fun k x1 x2 x3 x4 => ?_⟩
    · funext q; rw [hC3 _ _ (fun w => by have := w.1; omega), fN.1 c x y]
    · rw [hC3 _ _ (fun w => by rcases w.2 with w | w <;> omega), fN.2.1 c q x y (by omega)]
    · rw [hC3 _ _ (fun z => absurd z.1 (by decide)), fN.2.2 k x1 x2 x3 x4]
  have hkid : ∀ x, e_kid M3 (M2 222 26) x ↔ (x = s ∨ x = t) := by
    intro x
    unfold e_kid
    rw [f1, f4, f5, f6]
    constructor
    · rintro ⟨x0, ⟨-, z | z | z⟩ | ⟨z, -⟩⟩
      · exact Or.inl z.symm
      · exact Or.inr z.symm
      · omega
      · exact absurd z om22
    · rintro (z | z)
      · exact ⟨by omega, Or.inl ⟨om22, Or.inl z.symm⟩⟩
      · exact ⟨by omega, Or.inl ⟨om22, Or.inr (Or.inl z.symm)⟩⟩
  have q1 : (C3 600 6) = (C2 600 6) := by rw [hC3 _ _ (fun z => absurd z.1 (by decide)), eC]; simp [ax_u, b13]
  have q3 : (C3 600 11) = (C2 600 11) := by rw [hC3 _ _ (fun z => absurd z.1 (by decide)), eC]; simp [ax_u, b14]
  have q5 : (C3 600 12) = (C2 600 12) := by rw [hC3 _ _ (fun z => absurd z.1 (by decide)), eC]; simp [ax_u, b15]
  have q7 : (C3 600 13) = (C2 600 13) := by rw [hC3 _ _ (fun z => absurd z.1 (by decide)), eC]; simp [ax_u, b16]
  have q8 : (C3 516 0) = (M2 222 26) + 1 := by rw [hC3 _ _ (fun z => absurd z.1 (by decide)), eC]; simp [ax_u, b1]
  refine h9.close hd hg3 fC fM (fun c q x y z hq => by rw [hC3 _ _ (fun w => absurd w.1 z)]; exact fN.2.1 c q (by omega) (by omega) hq) (fun q hq z => by rw [hC3 _ _ (fun w => z ((hRp q).mpr w.2))]; exact fN.2.1 522 q (by decide) (by decide) hq) q1 (by rw [hM3 _ _ (fun z => absurd z.2 (by decide))]; exact d16) q3 (by rw [hM3 _ _ (fun z => absurd z.2 (by decide))]; exact d17) q5 (by rw [hM3 _ _ (fun z => absurd z.2 (by decide))]; exact d18) q7 q8 (by rw [hM3 _ _ (fun z => absurd z.2 (by decide))]; exact d1) (by rw [hM3 _ _ (fun z => absurd z.2 (by decide))]; exact d2) ?_ ⟨g4, f9, by rw [g5, hd.2.2]⟩ (fun x => by rw [hkid x, hRp x]) (e_nw.mk h2 h3 (by rw [hC3 _ _ (fun z => absurd z.1 (by decide)), eC, ax_u_ne (c' := 525) (by decide)]; exact b11) (by rw [hC3 _ _ (fun z => absurd z.1 (by decide)), eC, ax_u_ne (c' := 527) (by decide)]; exact b10) f1 (by rw [f2]; exact hfa) f8 (by rw [hM3 _ _ (fun z => absurd z.2 (by decide))]; exact d15) hop)
  refine ⟨by rw [g1, f1]; exact hoc, by rw [g2, f2], by rw [f2]; exact hf, by rw [f8]; exact ⟨an.2.1, an.2.2⟩, by rw [g5]; exact ax_b_01, Or.inr (Or.inr (Or.inl ⟨by rw [f1]; exact ho, by rw [f4]; omega, by rw [f5]; omega, f6⟩)), hdt, by rw [g3, f4], fun _ => ⟨fun _ => by rw [f4, f5]; exact n1, fun _ => by rw [f5, f6]; exact n2, fun z => by omega⟩, fun z => absurd (by rw [← f1]; exact z) om22, fun x hx => ?_⟩
  rw [f1, if_neg om6, g5]
  rcases (hkid x).mp hx with e | e
  · rw [e, g7 s u2]; exact ⟨u2, hl1⟩
  · rw [e, g7 t v2]; exact ⟨v2, hl2⟩
/-- a part with three of its own is made -/
theorem e_mid.close3 {C M C2 M2 C3 M3 : ax_V} {R : Int → Prop} {f a w s t v : Int} (h : e_mid C M C2 M2 R) (hRp : ∀ x, R x ↔ (x = s ∨ x = t ∨ x = v)) (hst : s < t) (htv : t < v) (hd : (M2 222 69) = (M 222 69) ∧ (M2 222 72) = (M 222 72) ∧ (C2 600 13) = (C 600 13)) (hf : e_pl f) (ha : ax_rg a) (hw : ax_rg w) (hg3 : ax_g C3 ∧ ax_g M3)
    (hC3 : ∀ c q, ¬ (c = 522 ∧ (q = s ∨ q = t ∨ q = v)) → C3 c q = ax_u (c_mk C2 18 f a w) 521 (M2 222 26) s c q) (n1 : C3 522 s = t) (n2 : C3 522 t = v) (n3 : C3 522 v = -1)
    (hM3 : ∀ c q, M3 c q = m_mk M2 18 f s t v c q) (hl1 : C2 526 s = ax_b (0 < (C2 600 13))) (hl2 : C2 526 t = ax_b (0 < (C2 600 13))) (hl3 : C2 526 v = ax_b (0 < (C2 600 13))) (hfa : (M 222 68) ≤ f) : e_ok C M C3 M3 (M2 222 26) := by
  have h9 := h
  obtain ⟨h1, h2, h3, h4, h5, h6, h7⟩ := h
  obtain ⟨u1, u2, u3, u4⟩ := h5 s ((hRp s).mpr (Or.inl rfl))
  obtain ⟨v1, v2, v3, v4⟩ := h5 t ((hRp t).mpr (Or.inr (Or.inl rfl)))
  obtain ⟨w1, w2, w3, w4⟩ := h5 v ((hRp v).mpr (Or.inr (Or.inr rfl)))
  obtain ⟨hgC2, hgM2⟩ := id h1.1
  obtain ⟨c0, m0, m9⟩ := id h1.2.2.2.1
  have an := h1.2.2.1.2.1
  have asz := h1.2.1.2.2.1
  have aat := h1.2.2.1.1
  obtain ⟨b1, b2, b3, b4, b5, b6, b7, b8, b9, b10, b11, b12, b13, b14, b15, b16⟩ := c_mk_at (C := C2) (o := 18) (f := f) (a := a) (w := w) rfl
  obtain ⟨d1, d2, d3, d4, d5, d6, d7, d8, d9, d10, d11, d12, d13, d14, d15, d16, d17, d18⟩ := m_mk_at (M := M2) (o := 18) (f := f) (x := s) (y := t) (z := v) rfl
  rw [c0] at b1 b2 b3 b4 b5 b6 b7 b8 b9 b10 b11 b12
  obtain ⟨C9, eC⟩ : ∃ X : ax_V, X = ax_u (c_mk C2 18 f a w) 521 (M2 222 26) s := ⟨_, rfl⟩
  rw [← eC] at hC3
  have fN : e_fC C2 C9 (M2 222 26) := by
    rw [eC]
    exact (c_mk_f.mono (by omega)).tr (e_fC.ua (by decide) (Int.le_refl _)) (Int.le_refl _)
  have g1 : C3 517 (M2 222 26) = 18 := by rw [hC3 _ _ (fun z => absurd z.1 (by decide)), eC]; simp [ax_u, b2]
  have g2 : C3 518 (M2 222 26) = f := by rw [hC3 _ _ (fun z => absurd z.1 (by decide)), eC]; simp [ax_u, b3]
  have g3 : C3 521 (M2 222 26) = s := by rw [hC3 _ _ (fun z => absurd z.1 (by decide)), eC]; simp [ax_u]
  have g4 : C3 522 (M2 222 26) = -1 := by rw [hC3 _ _ (fun z => by rcases z.2 with z | z | z <;> omega), eC]; simp [ax_u, b7]
  have g5 : C3 526 (M2 222 26) = ax_b (0 < (C2 600 13)) := by rw [hC3 _ _ (fun z => absurd z.1 (by decide)), eC]; simp [ax_u, b12]
  have g8 : C3 523 (M2 222 26) = -1 := by rw [hC3 _ _ (fun z => absurd z.1 (by decide)), eC]; simp [ax_u, b8]
  have g7 : ∀ x, x < (M2 222 26) → C3 526 x = C2 526 x := fun x hx => by rw [hC3 _ _ (fun z => absurd z.1 (by decide))]; exact fN.2.1 526 x (by decide) (by decide) hx
  have f1 : M3 241 (M2 222 26) = 18 := by rw [hM3]; exact d3
  have f2 : M3 242 (M2 222 26) = f := by rw [hM3]; exact d4
  have f4 : M3 245 (M2 222 26) = s := by rw [hM3]; exact d7
  have f5 : M3 246 (M2 222 26) = t := by rw [hM3]; exact d8
  have f6 : M3 247 (M2 222 26) = v := by rw [hM3]; exact d9
  have f7 : M3 248 (M2 222 26) = -1 := by rw [hM3]; exact d10
  have f8 : M3 250 (M2 222 26) = (M2 222 10) := by rw [hM3]; exact d12
  have f9 : M3 252 (M2 222 26) = -1 := by rw [hM3]; exact d14
  have fM : e_fM M2 M3 (M2 222 26) := by
    have e : M3 = m_mk M2 18 f s t v := by funext c q; exact hM3 c q
    rw [e]; exact m_mk_f
  have fC : e_fC C2 C3 (M 222 26) := by
    refine ⟨fun c x y => ?_, fun c q x y z => ?_, fun k x1 x2 x3 x4 => ?_⟩
    · funext q; rw [hC3 _ _ (fun w => by have := w.1; omega), fN.1 c x y]
    · rw [hC3 _ _ (fun w => by rcases w.2 with w | w | w <;> omega), fN.2.1 c q x y (by omega)]
    · rw [hC3 _ _ (fun z => absurd z.1 (by decide)), fN.2.2 k x1 x2 x3 x4]
  have hkid : ∀ x, e_kid M3 (M2 222 26) x ↔ (x = s ∨ x = t ∨ x = v) := by
    intro x
    unfold e_kid
    rw [f1, f4, f5, f6]
    constructor
    · rintro ⟨x0, ⟨-, z | z | z⟩ | ⟨z, -⟩⟩
      · exact Or.inl z.symm
      · exact Or.inr (Or.inl z.symm)
      · exact Or.inr (Or.inr z.symm)
      · exact absurd z (by decide)
    · rintro (z | z | z)
      · exact ⟨by omega, Or.inl ⟨by decide, Or.inl z.symm⟩⟩
      · exact ⟨by omega, Or.inl ⟨by decide, Or.inr (Or.inl z.symm)⟩⟩
      · exact ⟨by omega, Or.inl ⟨by decide, Or.inr (Or.inr z.symm)⟩⟩
  have q1 : (C3 600 6) = (C2 600 6) := by rw [hC3 _ _ (fun z => absurd z.1 (by decide)), eC]; simp [ax_u, b13]
  have q3 : (C3 600 11) = (C2 600 11) := by rw [hC3 _ _ (fun z => absurd z.1 (by decide)), eC]; simp [ax_u, b14]
  have q5 : (C3 600 12) = (C2 600 12) := by rw [hC3 _ _ (fun z => absurd z.1 (by decide)), eC]; simp [ax_u, b15]
  have q7 : (C3 600 13) = (C2 600 13) := by rw [hC3 _ _ (fun z => absurd z.1 (by decide)), eC]; simp [ax_u, b16]
  have q8 : (C3 516 0) = (M2 222 26) + 1 := by rw [hC3 _ _ (fun z => absurd z.1 (by decide)), eC]; simp [ax_u, b1]
  refine h9.close hd hg3 fC fM (fun c q x y z hq => by rw [hC3 _ _ (fun w => absurd w.1 z)]; exact fN.2.1 c q (by omega) (by omega) hq) (fun q hq z => by rw [hC3 _ _ (fun w => z ((hRp q).mpr w.2))]; exact fN.2.1 522 q (by decide) (by decide) hq) q1 (by rw [hM3]; exact d16) q3 (by rw [hM3]; exact d17) q5 (by rw [hM3]; exact d18) q7 q8 (by rw [hM3]; exact d1) (by rw [hM3]; exact d2) ?_ ⟨g4, f9, by rw [g5, hd.2.2]⟩ (fun x => by rw [hkid x, hRp x]) (e_nw.mk h2 h3 (by rw [hC3 _ _ (fun z => absurd z.1 (by decide)), eC, ax_u_ne (c' := 525) (by decide)]; exact b11) (by rw [hC3 _ _ (fun z => absurd z.1 (by decide)), eC, ax_u_ne (c' := 527) (by decide)]; exact b10) f1 (by rw [f2]; exact hfa) f8 (by rw [hM3]; exact d15) (e_opk.lo (by decide)))
  refine ⟨by rw [g1, f1]; rfl, by rw [g2, f2], by rw [f2]; exact hf, by rw [f8]; exact ⟨an.2.1, an.2.2⟩, by rw [g5]; exact ax_b_01, Or.inr (Or.inr (Or.inr (Or.inl ⟨f1, by rw [f4]; omega, by rw [f5]; omega, by rw [f6]; omega⟩))), ?_, by rw [g3, f4], fun _ => ⟨fun _ => by rw [f4, f5]; exact n1, fun _ => by rw [f5, f6]; exact n2, fun _ => by rw [f6]; exact n3⟩, fun z => by rw [f1] at z; exact absurd z (by decide), fun x hx => ?_⟩
  · unfold e_dt
    rw [f1, f7, g8]
    exact ⟨fun q => by rcases q with q | q <;> omega, fun q => by omega, fun q => by rcases q with q | q | q <;> omega, fun q => by omega, fun _ => ⟨rfl, rfl⟩, fun q => by omega, fun q => by omega⟩
  · rw [f1, if_neg (by decide), g5]
    rcases (hkid x).mp hx with e | e | e
    · rw [e, g7 s u2]; exact ⟨u2, hl1⟩
    · rw [e, g7 t v2]; exact ⟨v2, hl2⟩
    · rw [e, g7 v w2]; exact ⟨w2, hl3⟩
