/-! READER.READ AND READALL: the whole of reading -/
/-- a new reader of the model's text, over tables of any kind -/
def f_st0 (C M : ax_V) : Prop := (ax_g C ∧ ax_g M) ∧ e_T C M ∧ ((C 600 6) = 0 ∧ (C 600 7) = 700 ∧ (C 600 8) = 0 ∧ (C 600 9) = -1 ∧ (C 600 10) = 0 ∧ (C 600 11) = 0 ∧ (C 600 12) = 0 ∧ (C 600 13) = 0) ∧ (C 508 0 = 0 ∧ C 509 0 = 0 ∧ C 510 0 = 0)
theorem c_cl_ne {C : ax_V} {c : Nat} (h : (c < 500 ∨ (500 < c ∧ c < 503) ∨ (505 < c ∧ c < 516) ∨ (516 < c ∧ c < 533) ∨ c = 535 ∨ c = 539 ∨ (547 < c ∧ c < 556) ∨ 556 < c)) : c_cl C c = C c := by
  unfold c_cl
  rw [ax_fl_ne (by omega), ax_fl_ne (by omega), ax_fl_ne (by omega), ax_fl_ne (by omega), ax_fl_ne (by omega), ax_fl_ne (by omega), ax_fl_ne (by omega), ax_fl_ne (by omega), ax_fl_ne (by omega), ax_fl_ne (by omega), ax_fl_ne (by omega), ax_fl_ne (by omega), ax_u_ne (by omega), ax_u_ne (by omega), ax_u_ne (by omega), ax_u_ne (by omega), ax_u_ne (by omega), ax_u_ne (by omega), ax_fl_ne (by omega), ax_fl_ne (by omega), ax_fl_ne (by omega), ax_u_ne (by omega)]
theorem c_cl_lt {C : ax_V} {i : Int} (h : 0 ≤ i ∧ i < 208) : c_cl C 533 i = -1 ∧ c_cl C 534 i = 0 ∧ c_cl C 536 i = -1 ∧ c_cl C 538 i = 0 ∧ c_cl C 540 i = -1 ∧ c_cl C 541 i = -2 ∧ c_cl C 542 i = -1 ∧ c_cl C 543 i = -1 ∧ c_cl C 544 i = 0 ∧ c_cl C 545 i = 0 ∧ c_cl C 546 i = 0 := by
  unfold c_cl ax_fl
  simp [h]
theorem c_cl_nd {C : ax_V} {i : Int} (h : 0 ≤ i ∧ i < 8) : c_cl C 503 i = 0 ∧ c_cl C 504 i = 0 ∧ c_cl C 505 i = 0 := by
  unfold c_cl ax_fl ax_u
  simp [h]
theorem c_cl_sc {C : ax_V} : c_cl C 516 0 = 0 ∧ c_cl C 547 0 = 0 ∧ c_cl C 547 1 = 0 ∧ c_cl C 556 0 = 0 ∧ c_cl C 556 1 = 0 ∧ c_cl C 556 2 = 0 := by
  unfold c_cl ax_fl ax_u
  simp
theorem c_cl_nn {C : ax_V} : c_cl C 500 0 = 0 := by
  unfold c_cl ax_fl ax_u
  simp
theorem c_cl_g {C : ax_V} (hg : ax_g C) : ax_g (c_cl C) := by
  unfold c_cl
  repeat (first | exact hg | refine ax_fl_g ?_ (by decide) | refine ax_u_g ?_ (by decide))
def m_cl0 (M : ax_V) : ax_V := ax_u (ax_u (ax_u (ax_u (ax_u (ax_u (ax_u (ax_u (ax_u (ax_u (ax_u (ax_u (ax_u M 222 68 0) 222 69 0) 222 10 0) 222 26 0) 222 44 0) 222 52 0) 222 55 0) 222 60 0) 222 77 0) 222 70 0) 222 71 0) 222 72 0) 222 73 (-1)
section Read
variable {B r : Nat} {C M : ax_V}
set_option maxHeartbeats 2000000 in
theorem f_N.first (h : f_st0 C M) : f_N C M (c_cl C) (m_cl0 M) 0 := by
  obtain ⟨⟨hgC, hgM⟩, hT, ⟨a1, a2, a3, a4, a5, a6, a7, a8⟩, ⟨b1, b2, b3⟩⟩ := h
  obtain ⟨C1, eC1⟩ : ∃ X : ax_V, X = c_cl C := ⟨_, rfl⟩
  obtain ⟨M1, eM1⟩ : ∃ X : ax_V, X = m_cl0 M := ⟨_, rfl⟩
  rw [← eC1, ← eM1]
  have gC : ax_g C1 := by rw [eC1]; exact c_cl_g hgC
  have gM : ax_g M1 := by rw [eM1]; unfold m_cl0; repeat (first | exact hgM | refine ax_u_g ?_ (by decide))
  have mn : ∀ c, c ≠ 222 → M1 c = M c := fun c z => by rw [eM1]; unfold m_cl0; simp only [ax_u_ne z]
  have mo : ∀ j, j ≠ 68 → j ≠ 69 → j ≠ 10 → j ≠ 26 → j ≠ 44 → j ≠ 52 → j ≠ 55 → j ≠ 60 → j ≠ 77 → j ≠ 70 → j ≠ 71 → j ≠ 72 → j ≠ 73 → M1 222 j = M 222 j := fun j q1 q2 q3 q4 q5 q6 q7 q8 q9 q10 q11 q12 q13 => by
    rw [eM1]; unfold m_cl0
    rw [ax_u_k q13, ax_u_k q12, ax_u_k q11, ax_u_k q10, ax_u_k q9, ax_u_k q8, ax_u_k q7, ax_u_k q6, ax_u_k q5, ax_u_k q4, ax_u_k q3, ax_u_k q2, ax_u_k q1]
  have v : M1 222 68 = 0 ∧ M1 222 69 = 0 ∧ M1 222 10 = 0 ∧ M1 222 26 = 0 ∧ M1 222 44 = 0 ∧ M1 222 52 = 0 ∧ M1 222 55 = 0 ∧ M1 222 60 = 0 ∧ M1 222 77 = 0 ∧ M1 222 70 = 0 ∧ M1 222 71 = 0 ∧ M1 222 72 = 0 ∧ M1 222 73 = -1 := by
    rw [eM1]; unfold m_cl0 ax_u; simp
  obtain ⟨v68, v69, v10, v26, v44, v52, v55, v60, v77, v70, v71, v72, v73⟩ := v
  have v3 : M1 222 3 = M 222 3 := mo 3 (by decide) (by decide) (by decide) (by decide) (by decide) (by decide) (by decide) (by decide) (by decide) (by decide) (by decide) (by decide) (by decide)
  have cn : ∀ c, (c < 500 ∨ (500 < c ∧ c < 503) ∨ (505 < c ∧ c < 516) ∨ (516 < c ∧ c < 533) ∨ c = 535 ∨ c = 539 ∨ (547 < c ∧ c < 556) ∨ 556 < c) → C1 c = C c := fun c z => by rw [eC1]; exact c_cl_ne z
  have c6 : ∀ j, C1 600 j = C 600 j := fun j => by rw [cn 600 (by decide)]
  have cl := fun i (h : 0 ≤ i ∧ i < 208) => c_cl_lt (C := C) h
  rw [← eC1] at cl
  have cd := fun i (h : 0 ≤ i ∧ i < 8) => c_cl_nd (C := C) h
  rw [← eC1] at cd
  have cz0 := c_cl_nn (C := C)
  rw [← eC1] at cz0
  have cz := c_cl_sc (C := C)
  rw [← eC1] at cz
  refine ⟨⟨gC, gM⟩, ?_, ⟨by rw [c6, v68]; exact a1, by rw [v68]; decide, by rw [v68, v3]; exact hT.2.1⟩, ⟨v10.symm, by decide, by decide⟩, ?_, ⟨?_, fun k a b => by rw [v10] at b; omega, fun q a b => by rw [v26] at b; omega⟩, ⟨⟨fun c a b => cn c (by omega), c6 1, fun c a b => by rw [cn c (by omega)]⟩, ⟨fun c a b => mn c b, fun j a => ?_⟩⟩, ⟨⟨fun n l a b => by omega, fun s a b => ?_, fun s a b => ?_⟩, ⟨fun n a b => by omega, fun n a b => ?_⟩, ⟨?_, fun n l a b => by omega, fun j a b => by rw [v77] at b; omega⟩, ?_⟩, ?_, ⟨?_, ?_, ?_⟩, fun z k a b => by omega, by rw [v26, v44, v55, v68]; decide, cz0⟩
  · unfold e_T at hT ⊢
    rw [c6, v3, cn 1 (by decide), mn 224 (by decide)]; exact hT
  · rw [c6, c6, c6, c6, c6, v69, v71, v72, v70]
    exact ⟨⟨a6, rfl⟩, ⟨a5, rfl⟩, ⟨a7, rfl⟩, ⟨a4, rfl⟩, a8⟩
  · rw [v26, v68]; exact ⟨cz.1, by decide, by decide⟩
  · exact mo j (by omega) (by omega) (by omega) (by omega) (by omega) (by omega) (by omega) (by omega) (by omega) (by omega) (by omega) (by omega) (by omega)
  · obtain ⟨u1, u2, u3, u4, -⟩ := cl s ⟨by omega, b⟩
    exact ⟨u1, u2, u3, u4⟩
  · obtain ⟨-, -, -, -, u5, u6, u7, u8, u9, u10, u11⟩ := cl s ⟨a, b⟩
    exact ⟨u5, u6, u7, u8, u9, u10, u11⟩
  · exact cd n ⟨a, b⟩
  · rw [v77, v68]; decide
  · exact Or.inl ⟨v73, by rw [c6]; exact a2⟩
  · rw [v55]
    have n8 : C1 508 = C 508 := cn 508 (by decide)
    have n9 : C1 509 = C 509 := cn 509 (by decide)
    have n10 : C1 510 = C 510 := cn 510 (by decide)
    refine ⟨?_, fun e a b => by rw [v44] at b; omega, fun a z w => by rw [v55] at w; omega, fun a z w => by omega, fun m a b => by rw [v60] at b; omega, ⟨fun q a b => by rw [v26] at b; omega, fun q p w a b z y => by rw [v26] at y; omega, ⟨fun e e' a b z => by rw [v44] at z; omega, fun m m' a b z => by rw [v60] at z; omega, fun e m a b => by rw [v44] at b; omega⟩, fun i j a b z => by rw [v52] at z; omega, fun i a b => by rw [v52] at b; omega, fun e q a b => by rw [v44] at b; omega, fun z => by rw [v44] at z; omega, fun _ => v52⟩, ⟨fun q a b => by rw [v26] at b; omega, fun e a b => by rw [v44] at b; omega, fun a z w => by rw [v55] at w; omega, fun n a b => by rw [v10] at b; omega, ?_, ?_⟩⟩
    · unfold f_ct
      rw [v44, v52, v55, v60, v68, cz.2.1, cz.2.2.1, cz.2.2.2.1, cz.2.2.2.2.1, cz.2.2.2.2.2]
      exact ⟨⟨rfl, by decide, by decide⟩, ⟨rfl, by decide, by decide⟩, ⟨rfl, by decide, by decide⟩, ⟨by decide, by decide⟩, ⟨rfl, by decide, by decide⟩, Or.inl rfl, Or.inl rfl, fun _ => rfl, fun z => absurd z (by decide)⟩
    · rw [n8, n9, n10]; exact ⟨b1, b2, b3⟩
    · rw [v10, v26, v44, v55, n8, n9, n10, b1, b2, b3]; exact ⟨Int.le_refl _, Int.le_refl _, Int.le_refl _⟩
  · rw [v26, cn 508 (by decide)]; exact b1
  · rw [v44, cn 509 (by decide)]; exact b2
  · rw [v55, cn 510 (by decide)]; exact b3
theorem f_read (h : f_st0 C M) :
    (∃ C' M', (∀ (Φ : Int → ax_V → Prop) (Θ : ax_V → Prop), Φ 1 C' → ax_C (az_W B (az_ER B r)) 423 q_Reader_read [.ref r] C Φ Θ) ∧ (∀ (Φ : Int → ax_V → Prop) (Θ : ax_V → Prop), Φ 1 M' → ax_I ay_lay 425 q_Model_readAll [.ref 222] M Φ Θ) ∧ f_M C M C' M') ∨
    (∃ C' M', (∀ (Φ : Int → ax_V → Prop) (Θ : ax_V → Prop), Θ C' → ax_C (az_W B (az_ER B r)) 423 q_Reader_read [.ref r] C Φ Θ) ∧ (∀ (Φ : Int → ax_V → Prop) (Θ : ax_V → Prop), Φ 0 M' → ax_I ay_lay 425 q_Model_readAll [.ref 222] M Φ Θ) ∧ f_no C M C' M') := by
  have hX : e_X B r 20 := (e_all B r 20).2.2
  have hgC := h.1.1
  have hgM := h.1.2
  have rdM : ∀ (Φ : Int → ax_V → Prop) (Θ : ax_V → Prop), ax_I ay_lay 424 q_Model_readNode [.ref 222] (m_cl0 M) (fun r14 V14 => k_Model_readAll_70 424 r14 V14 Φ Θ) Θ → ax_I ay_lay 425 q_Model_readAll [.ref 222] M Φ Θ := by
    intro Φ Θ z
    refine r_Model_readAll hgM (fun V1 e1 V2 e2 V3 e3 V4 e4 V5 e5 V6 e6 V7 e7 V8 e8 V9 e9 V10 e10 V11 e11 V12 e12 V13 e13 => ?_)
    have e : V13 = m_cl0 M := by rw [e13, e12, e11, e10, e9, e8, e7, e6, e5, e4, e3, e2, e1]; rfl
    rw [e]; exact z
  rcases f_nodes (B := B) (r := r) (C0 := C) (M0 := M) hX 8 (c_cl C) (m_cl0 M) 0 (f_N.first h) (by decide) (Or.inl rfl) with ⟨C1, M1, a, b, q⟩ | ⟨C1, M1, a, b, q⟩ | ⟨C1, M1, a, b, q, ci, w⟩
  · refine Or.inl ⟨C1, M1, fun Φ Θ z => r_Reader_read hgC (t_clear hgC ?_), fun Φ Θ z => rdM Φ Θ (b Φ Θ z), q⟩
    refine ax_R.mono (a (fun V => Φ 1 V) Θ z none ax_y_n) (fun _ V' _ q => ?_) (fun _ _ q => q)
    obtain ⟨x, e, hx, e1, q⟩ := q
    exact ⟨x, e, hx, by rw [e1]; exact q⟩
  · refine Or.inr ⟨C1, M1, fun Φ Θ z => r_Reader_read hgC (t_clear hgC ?_), fun Φ Θ z => rdM Φ Θ (b Φ Θ z), q⟩
    refine ax_R.mono (a (fun V => Φ 1 V) Θ z none ax_y_n) (fun _ V' _ q => ?_) (fun _ _ q => q)
    obtain ⟨x, e, hx, e1, q⟩ := q
    exact ⟨x, e, hx, by rw [e1]; exact q⟩
  · exact absurd w id
end Read
