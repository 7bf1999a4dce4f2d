/-- a part with one of its own is made -/
theorem e_mid.close1 {C M C2 M2 M3 : ax_V} {R : Int → Prop} {oc om f fc a w p : Int} (h : e_mid C M C2 M2 R) (hRp : ∀ x, R x ↔ x = p) (hd : (M2 222 69) = (M 222 69) ∧ (M2 222 72) = (M 222 72) ∧ (C2 600 13) = (C 600 13)) (ho : (4 ≤ om ∧ om ≤ 6) ∨ om = 20) (hoc : oc = e_op om) (hfc : fc = f) (hf : e_pl f) (ha : ax_rg a) (hw : ax_rg w) (hg3 : ax_g M3)
    (hM3 : ∀ c q, ¬ (q = (M2 222 26) ∧ (c = 244 ∨ c = 248 ∨ c = 249)) → M3 c q = m_mk M2 om f p (-1) (-1) c q) (hlate : C2 526 p = if om = 6 then 1 else ax_b (0 < (C2 600 13))) (hdt : e_dt (ax_u (c_mk C2 oc fc a w) 521 (M2 222 26) p) M3 (M2 222 26)) (hfa : (M 222 68) ≤ f) (hop : e_opk M om) : e_ok C M (ax_u (c_mk C2 oc fc a w) 521 (M2 222 26) p) M3 (M2 222 26) := by
  subst hfc
  have h9 := h
  obtain ⟨h1, h2, h3, h4, h5, h6, h7⟩ := h
  obtain ⟨u1, u2, u3, u4⟩ := h5 p ((hRp p).mpr rfl)
  obtain ⟨hgC2, hgM2⟩ := id h1.1
  obtain ⟨c0, m0, m9⟩ := id h1.2.2.2.1
  have an := h1.2.2.1.2.1
  have asz := h1.2.1.2.2.1
  have aat := h1.2.2.1.1
  have roc : ax_rg oc := by
    rw [hoc]; unfold e_op
    repeat' split
    all_goals exact ⟨by omega, by omega⟩
  have rp : ax_rg p := ⟨by omega, by omega⟩
  obtain ⟨b1, b2, b3, b4, b5, b6, b7, b8, b9, b10, b11, b12, b13, b14, b15, b16⟩ := c_mk_at (C := C2) (o := oc) (f := fc) (a := a) (w := w) rfl
  obtain ⟨d1, d2, d3, d4, d5, d6, d7, d8, d9, d10, d11, d12, d13, d14, d15, d16, d17, d18⟩ := m_mk_at (M := M2) (o := om) (f := fc) (x := p) (y := -1) (z := -1) rfl
  rw [c0] at b1 b2 b3 b4 b5 b6 b7 b8 b9 b10 b11 b12
  have hg1 : ax_g (c_mk C2 oc fc a w) := c_mk_g hgC2 roc ⟨by omega, by omega⟩ ha hw (by rw [c0]; exact ⟨by omega, by omega⟩)
  obtain ⟨C3, eC⟩ : ∃ X : ax_V, X = ax_u (c_mk C2 oc fc a w) 521 (M2 222 26) p := ⟨_, rfl⟩
  have hgC3 : ax_g C3 := by rw [eC]; exact ax_u_g hg1 rp
  have fN : e_fC C2 C3 (M2 222 26) := by
    rw [eC]
    exact (c_mk_f.mono (by omega)).tr (e_fC.ua (by decide) (Int.le_refl _)) (Int.le_refl _)
  have g1 : C3 517 (M2 222 26) = oc := by rw [eC]; simp [ax_u, b2]
  have g2 : C3 518 (M2 222 26) = fc := by rw [eC]; simp [ax_u, b3]
  have g3 : C3 521 (M2 222 26) = p := by rw [eC]; simp [ax_u]
  have g4 : C3 522 (M2 222 26) = -1 := by rw [eC]; simp [ax_u, b7]
  have g5 : C3 526 (M2 222 26) = ax_b (0 < (C2 600 13)) := by rw [eC]; simp [ax_u, b12]
  have g6 : C3 522 p = -1 := by rw [fN.2.1 522 p (by decide) (by decide) (by omega)]; exact u3
  have g7 : C3 526 p = C2 526 p := fN.2.1 526 p (by decide) (by decide) (by omega)
  have f1 : M3 241 (M2 222 26) = om := by rw [hM3 _ _ (by omega)]; exact d3
  have f2 : M3 242 (M2 222 26) = fc := by rw [hM3 _ _ (by omega)]; exact d4
  have f4 : M3 245 (M2 222 26) = p := by rw [hM3 _ _ (by omega)]; exact d7
  have f5 : M3 246 (M2 222 26) = -1 := by rw [hM3 _ _ (by omega)]; exact d8
  have f6 : M3 247 (M2 222 26) = -1 := by rw [hM3 _ _ (by omega)]; exact d9
  have f8 : M3 250 (M2 222 26) = (M2 222 10) := by rw [hM3 _ _ (by omega)]; exact d12
  have f9 : M3 252 (M2 222 26) = -1 := by rw [hM3 _ _ (by omega)]; exact d14
  have fM : e_fM M2 M3 (M2 222 26) := by
    have g : e_fM M2 (m_mk M2 om fc p (-1) (-1)) (M2 222 26) := m_mk_f
    refine ⟨fun c x y => ?_, fun c q x y z => ?_, fun k x1 x2 x3 x4 x5 x6 => ?_⟩
    · funext q; rw [hM3 _ _ (by omega), g.1 c x y]
    · rw [hM3 _ _ (by omega), g.2.1 c q x y z]
    · rw [hM3 _ _ (by omega), g.2.2 k x1 x2 x3 x4 x5 x6]
  have hkid : ∀ x, e_kid M3 (M2 222 26) x ↔ x = p := by
    intro x
    unfold e_kid
    rw [f1, f4, f5, f6]
    constructor
    · rintro ⟨x0, ⟨-, z⟩ | ⟨z, -⟩⟩
      · omega
      · omega
    · intro z
      exact ⟨by omega, Or.inl ⟨by omega, Or.inl z.symm⟩⟩
  rw [← eC] at hdt ⊢
  refine h9.close hd ⟨hgC3, hg3⟩ (fN.mono (by omega)) fM (fun c q x y _ hq => fN.2.1 c q (by omega) (by omega) hq) (fun q hq _ => fN.2.1 522 q (by decide) (by decide) hq) (by rw [eC]; simp [ax_u, b13]) (by rw [hM3 _ _ (by omega)]; exact d16) (by rw [eC]; simp [ax_u, b14]) (by rw [hM3 _ _ (by omega)]; exact d17) (by rw [eC]; simp [ax_u, b15]) (by rw [hM3 _ _ (by omega)]; exact d18) (by rw [eC]; simp [ax_u, b16]) (by rw [eC]; simp [ax_u, b1]) (by rw [hM3 _ _ (by omega)]; exact d1) (by rw [hM3 _ _ (by omega)]; exact d2) ?_ ⟨g4, f9, by rw [g5, hd.2.2]⟩ (fun x => by rw [hkid x, hRp x]) (e_nw.mk h2 h3 (by rw [eC, ax_u_ne (c' := 525) (by decide)]; exact b11) (by rw [eC, ax_u_ne (c' := 527) (by decide)]; exact b10) f1 (by rw [f2]; exact hfa) f8 (by rw [hM3 _ _ (by omega)]; exact d15) hop)
  refine ⟨by rw [g1, f1]; exact hoc, by rw [g2, f2], by rw [f2]; exact hf, by rw [f8]; exact ⟨by omega, by omega⟩, by rw [g5]; exact ax_b_01, Or.inr (Or.inl ⟨by rw [f1]; exact ho, by rw [f4]; omega, f5, f6⟩), hdt, by rw [g3, f4], fun _ => ⟨fun _ => by rw [f4, f5]; exact g6, fun z => by omega, fun z => by omega⟩, fun z => by omega, fun x hx => ?_⟩
  have e := (hkid x).mp hx
  rw [e, g7, hlate, g5, f1]
  exact ⟨by omega, rfl⟩
section Behind
variable {B r : Nat} {C M : ax_V}
set_option maxHeartbeats 2000000 in
theorem e_behind {k : Nat} {oc : Int} (ih : e_K B r k) (h : e_R C M) (hk : (M 222 69) + ((k : Int) + 1) = 20) (hoc : oc = 4 ∨ oc = 5 ∨ oc = 6) (hA : ¬ m_isA M) (hT : oc = 6 → (M 222 71) = 0) (hv : ¬ m_see M = 0) : e_out e_dig B r (20 * k + 29) q_Reader_readBehind [.ref r, ax_i oc] (20 * k + 31) q_Model_readPrefix [.ref 222, ax_i oc] C M := by
  have hlt := h.lt hv
  have ci := h.ci
  have mi := h.mi
  have hA' : ¬ c_isA C := fun w => hA (h.isA.mp w)
  obtain ⟨hgC, hgM⟩ := id h.1
  obtain ⟨⟨a1, a1b, a1c⟩, a2, a3, a4, a5, a6, a7⟩ := id h.2.2.1
  obtain ⟨p1, p2, p3⟩ := id h.2.2.2.1
  have hsz := h.2.1.2.2.1
  have ho2 : 4 ≤ oc ∧ oc ≤ 6 := by rcases hoc with z | z | z <;> subst z <;> decide
  have roc : ax_rg oc := ⟨by omega, by omega⟩
  obtain ⟨dl, edl⟩ : ∃ x : Int, x = ax_b (oc = 6) := ⟨_, rfl⟩
  have dl01 : dl = 0 ∨ dl = 1 := by rw [edl]; exact ax_b_01
  -- the class goes in
  obtain ⟨C3, x1, x2, x3, x4, x5, x6, x7⟩ : ∃ C3 : ax_V, e_mvC C C3 ∧ ax_g C3 ∧ (C3 600 6) = (C 600 6) + 1 ∧ (C3 600 11) = (C 600 11) + 1 ∧ (C3 600 12) = (C 600 12) + 0 ∧ (C3 600 13) = (C 600 13) + dl ∧ ∀ (Φ : Int → ax_V → Prop) (Θ : ax_V → Prop), k_Reader_readBehind_59 B r (20 * k + 28) oc (C 600 6) none none C3 Φ Θ → ax_I (az_W B (az_ER B r)) (20 * k + 29) q_Reader_readBehind [.ref r, ax_i oc] C Φ Θ := by
    by_cases w : oc = 6
    · have e : dl = 1 := by rw [edl]; exact ax_b_t w
      refine ⟨ax_u (ax_u (ax_u C 600 11 ((C 600 11) + 1)) 600 6 ((C 600 6) + 1)) 600 13 ((C 600 13) + 1), ((e_mvC.rf C).u (by decide)).u (by decide) |>.u (by decide), ax_u_g (ax_u_g (ax_u_g hgC ⟨by omega, by omega⟩) ⟨by omega, by omega⟩) ⟨by omega, by omega⟩, by simp [ax_u], by simp [ax_u], by simp [ax_u], by simp [ax_u, e], fun Φ Θ hh => ?_⟩
      refine r_Reader_readBehind hgC roc (t_atArrow hgC ci (ax_b_n hA' ⟨fun _ => ⟨fun _ => ?_, fun z => by omega⟩, fun z => absurd w z⟩))
      refine t_deepen hgC (by omega) (fun _ => ?_) (fun z => by omega)
      have e1 : (ax_u C 600 11 ((C 600 11) + 1)) 600 6 = (C 600 6) := by simp [ax_u]
      rw [e1]
      refine ⟨⟨by omega, by omega⟩, fun V1 ev => ⟨fun _ => ?_, fun z => absurd w z⟩⟩
      have e2 : V1 600 13 = (C 600 13) := by rw [ev]; simp [ax_u]
      rw [e2]
      refine ⟨⟨by omega, by omega⟩, fun V2 ev2 => ?_⟩
      rw [ev2, ev]
      exact hh
    · have e : dl = 0 := by rw [edl]; exact ax_b_f w
      refine ⟨ax_u (ax_u C 600 11 ((C 600 11) + 1)) 600 6 ((C 600 6) + 1), ((e_mvC.rf C).u (by decide)).u (by decide), ax_u_g (ax_u_g hgC ⟨by omega, by omega⟩) ⟨by omega, by omega⟩, by simp [ax_u], by simp [ax_u], by simp [ax_u], by simp [ax_u, e], fun Φ Θ hh => ?_⟩
      refine r_Reader_readBehind hgC roc (t_atArrow hgC ci (ax_b_n hA' ⟨fun z => absurd z w, fun _ => ?_⟩))
      refine t_deepen hgC (by omega) (fun _ => ?_) (fun z => by omega)
      have e1 : (ax_u C 600 11 ((C 600 11) + 1)) 600 6 = (C 600 6) := by simp [ax_u]
      rw [e1]
      refine ⟨⟨by omega, by omega⟩, fun V1 ev => ⟨fun z => absurd z w, fun _ => ?_⟩⟩
      rw [ev]
      exact hh
  -- and the model
  obtain ⟨M1, eM1⟩ : ∃ X : ax_V, X = ax_u (ax_u M 222 69 ((M 222 69) + 1)) 222 68 ((M 222 68) + 1) := ⟨_, rfl⟩
  have hgM1 : ax_g M1 := by rw [eM1]; exact ax_u_g (ax_u_g hgM ⟨by omega, by omega⟩) ⟨by omega, by omega⟩
  have y1 : e_mvM M M1 := by rw [eM1]; exact ((e_mvM.rf M).u (by decide)).u (by decide)
  have y2 : (M1 222 68) = (M 222 68) + 1 := by rw [eM1]; simp [ax_u]
  have y3 : (M1 222 69) = (M 222 69) + 1 := by rw [eM1]; simp [ax_u]
  have y4 : (M1 222 72) = (M 222 72) + 0 := by rw [eM1]; simp [ax_u]
  have y5 : (M1 222 26) = (M 222 26) := y1.2 26 (by decide) (by decide) (by decide) (by decide)
  have h3 : e_R C3 M1 := h.in (w := 1) (by omega) (by omega) (by omega) x1 y1 ⟨x2, hgM1⟩ x3 x4 x5 x6 y2 y3 y4 (Or.inl rfl) dl01
  have mid := e_mid.none h h3 x1 y1 (by omega)
  have hrm : ∀ (Φ : Int → ax_V → Prop) (Θ : ax_V → Prop), ax_I ay_lay (20 * k + 30) q_Model_readK [.ref 222] M1 (fun r2 V2 => ((r2 = 0 → Φ 0 V2) ∧ (¬ r2 = 0 → ax_rg ((V2 222 69) - 1) ∧ (∀ V3, V3 = ax_u V2 222 69 ((V2 222 69) - 1) → ax_I ay_lay (20 * k + 30) q_Model_makePart [.ref 222, ax_i oc, ax_i (M 222 68), ax_i (V3 222 74), ax_i (-1), ax_i (-1)] V3 (fun r4 V4 => ((r4 < 0 → Φ 0 V4) ∧ (0 ≤ r4 → Φ 1 V4))) Θ)))) Θ → ax_I ay_lay (20 * k + 31) q_Model_readPrefix [.ref 222, ax_i oc] M Φ Θ := by
    intro Φ Θ hh
    refine r_Model_readPrefix hgM roc (s_open hgM ⟨by decide, by decide⟩ ⟨by omega, by omega⟩ ⟨by omega, by omega⟩ (fun _ => ⟨fun z => absurd z (by decide), fun _ => ?_⟩) (fun z => by omega))
    rw [← eM1]
    exact hh
  have hback : ∀ (p : Int) (C4 : ax_V), ax_Ie (az_W B (az_ER B r)) (20 * k + 10) q_Reader_readK [.ref r] C3 p C4 → ax_g C4 → (C4 600 11) = (C3 600 11) → (C4 600 13) = (C3 600 13) → ∃ C6 : ax_V, e_mvC C4 C6 ∧ ax_g C6 ∧ (C6 600 6) = (C4 600 6) ∧ (C6 600 11) = (C 600 11) ∧ (C6 600 12) = (C4 600 12) ∧ (C6 600 13) = (C 600 13) ∧ ∀ (Φ : Int → ax_V → Prop) (Θ : ax_V → Prop), ax_I (az_W B (az_ER B r)) (20 * k + 28) q_Reader_addPart [.ref r, ax_i oc, ax_i (C 600 6), ax_i (C 600 6), ax_i 0] C6 (fun r7 V7 => (0 ≤ r7 ∧ r7 < 700) ∧ (∀ V8, V8 = ax_u V7 521 r7 p → Φ r7 V8)) Θ → ax_I (az_W B (az_ER B r)) (20 * k + 29) q_Reader_readBehind [.ref r, ax_i oc] C Φ Θ := by
    intro p C4 ia hg4 z1 z2
    by_cases w : oc = 6
    · have e : dl = 1 := by rw [edl]; exact ax_b_t w
      refine ⟨ax_u (ax_u C4 600 13 ((C4 600 13) - 1)) 600 11 ((C4 600 11) - 1), ((e_mvC.rf C4).u (by decide)).u (by decide), ax_u_g (ax_u_g hg4 ⟨by omega, by omega⟩) ⟨by omega, by omega⟩, by simp [ax_u], by simp [ax_u]; omega, by simp [ax_u], by simp [ax_u]; omega, fun Φ Θ hh => x7 Φ Θ (r_Reader_readBehind_59 x2 roc (hgC _ _) ax_y_n ax_y_n (ia.k (by omega) (fun _ _ => ⟨fun _ => ⟨⟨by omega, by omega⟩, fun V5 e5 => ?_⟩, fun z => absurd w z⟩)))⟩
      have e6 : V5 600 11 = (C4 600 11) := by rw [e5]; simp [ax_u]
      rw [e6]
      refine ⟨⟨by omega, by omega⟩, fun V6 e7 => ?_⟩
      rw [e7, e5]
      exact hh
    · have e : dl = 0 := by rw [edl]; exact ax_b_f w
      refine ⟨ax_u C4 600 11 ((C4 600 11) - 1), (e_mvC.rf C4).u (by decide), ax_u_g hg4 ⟨by omega, by omega⟩, by simp [ax_u], by simp [ax_u]; omega, by simp [ax_u], by simp [ax_u]; omega, fun Φ Θ hh => x7 Φ Θ (r_Reader_readBehind_59 x2 roc (hgC _ _) ax_y_n ax_y_n (ia.k (by omega) (fun _ _ => ⟨fun z => absurd z w, fun _ => ⟨⟨by omega, by omega⟩, fun V6 e7 => ?_⟩⟩)))⟩
      rw [e7]
      exact hh
  rcases ih C3 M1 h3 (by omega) with ⟨p, C4, M4, ia, ib, ok⟩ | ⟨C4, M4, ia, ib, no⟩ | ⟨p, C4, M4, ia, ib, hf, dg⟩
  · obtain ⟨k1, k2, k3, k4, k5, k6, k7, k8, k9⟩ := id ok
    obtain ⟨hgC4, hgM4⟩ := id k1.1
    obtain ⟨n1, n2, n3⟩ := id k1.2.2.2.1
    obtain ⟨⟨s1, s1b, s1c⟩, s2, s3, s4, s5, s6, s7⟩ := id k1.2.2.1
    have zsz := k1.2.1.2.2.1
    obtain ⟨C6, z1, z2, z3, z4, z5, z6, z7⟩ := hback p C4 ia hgC4 (by omega) k7.2.2
    obtain ⟨M6, eM6⟩ : ∃ X : ax_V, X = ax_u M4 222 69 ((M4 222 69) - 1) := ⟨_, rfl⟩
    have hgM6 : ax_g M6 := by rw [eM6]; exact ax_u_g hgM4 ⟨by omega, by omega⟩
    have v1 : e_mvM M4 M6 := by rw [eM6]; exact (e_mvM.rf M4).u (by decide)
    have v2 : (M6 222 68) = (M4 222 68) := by rw [eM6]; simp [ax_u]
    have v3 : (M6 222 69) = (M4 222 69) - 1 := by rw [eM6]; simp [ax_u]
    have v4 : (M6 222 72) = (M4 222 72) := by rw [eM6]; simp [ax_u]
    have v5 : (M6 222 26) = (M4 222 26) := v1.2 26 (by decide) (by decide) (by decide) (by decide)
    have v6 : (M6 222 74) = p := by rw [v1.2 74 (by decide) (by decide) (by decide) (by decide)]; exact k4.1.symm
    have c6 : (C6 516 0) = (M6 222 26) := by rw [z1.1 516 (by decide), v5]; exact n1
    have h6 : e_R C6 M6 := k1.mv ⟨z2, hgM6⟩ z1 v1 ⟨by omega, by omega, by omega⟩ ⟨by omega, by omega, by omega⟩ ⟨by omega, by omega, by omega⟩ ⟨by omega, by omega⟩
    have m3 := (mid.part ok).mv h6 z1 v1 (by omega)
    have rp : ax_rg p := ⟨by omega, by omega⟩
    have hR0 : ∀ x, (fun q => (fun _ : Int => False) q ∨ q = p) x ↔ x = p := fun x => ⟨fun z => z.elim (fun z => z.elim) (fun z => z), fun z => Or.inr z⟩
    have hopE : oc = e_op oc := by rcases hoc with z | z | z <;> subst z <;> rfl
    have hlt0 : C6 526 p = if oc = 6 then 1 else ax_b (0 < (C6 600 13)) := by
      rw [z1.1 526 (by decide), k5.2.2, z6, x6]
      by_cases w : oc = 6
      · rw [if_pos w, edl, ax_b_t w]; exact ax_b_t (by omega)
      · rw [if_neg w, edl, ax_b_f w, Int.add_zero]
    have hgM7 : ax_g (m_mk M6 oc (M 222 68) p (-1) (-1)) := m_mk_g hgM6 roc (hgM _ _) rp (by decide) (by decide) ⟨by omega, by omega⟩
    obtain ⟨C7, eC7⟩ : ∃ X : ax_V, X = ax_u (c_mk C6 oc (C 600 6) (C 600 6) 0) 521 (M6 222 26) p := ⟨_, rfl⟩
    obtain ⟨M7, eM7⟩ : ∃ X : ax_V, X = m_mk M6 oc (M 222 68) p (-1) (-1) := ⟨_, rfl⟩
    have hdt : e_dt C7 M7 (M6 222 26) := by
      obtain ⟨-, -, -, -, -, -, -, b8, -⟩ := c_mk_at (C := C6) (o := oc) (f := (C 600 6)) (a := (C 600 6)) (w := 0) rfl
      obtain ⟨-, -, d3, -, -, -, -, -, -, d10, -⟩ := m_mk_at (M := M6) (o := oc) (f := (M 222 68)) (x := p) (y := -1) (z := -1) rfl
      rw [c6] at b8
      rw [← eM7] at d3 d10
      have g1 : C7 523 (M6 222 26) = -1 := by rw [eC7]; simp [ax_u, b8]
      unfold e_dt
      rw [d3, d10, g1]
      exact ⟨fun q => by rcases q with q | q <;> omega, fun q => by omega, fun q => by rcases q with q | q | q <;> omega, fun q => by omega, fun _ => ⟨rfl, rfl⟩, fun q => by omega, fun q => by omega⟩
    have fin : e_ok C M C7 M7 (M6 222 26) := by
      rw [eC7] at hdt ⊢
      exact m3.close1 (M3 := M7) (f := (M 222 68)) (om := oc) (oc := oc) (fc := (C 600 6)) (a := (C 600 6)) (w := 0) (p := p) hR0 ⟨by omega, by omega, by omega⟩ (Or.inl ho2) hopE a1 ⟨by omega, by omega⟩ (hgC _ _) (by decide) (by rw [eM7]; exact hgM7) (fun _ _ _ => by rw [eM7]) hlt0 hdt (Int.le_refl _) ⟨fun z => ⟨fun y => by have := hT y; omega, by omega, by omega⟩, fun _ => ⟨by omega, by omega⟩⟩
    refine Or.inl ⟨(M6 222 26), C7, M7, ?_, ?_, fin⟩
    · refine z7 _ _ (t_addPart z2 roc (hgC _ _) (hgC _ _) (by decide) ⟨by omega, by omega⟩ ?_)
      rw [c6]
      exact ⟨⟨by omega, by omega⟩, fun V8 e8 => ⟨rfl, by rw [e8, eC7]⟩⟩
    · refine hrm _ _ (ib.k (by omega) (fun _ _ => ⟨fun z => absurd z (by decide), fun _ => ⟨⟨by omega, by omega⟩, fun V3 e3 => ?_⟩⟩))
      rw [← eM6] at e3
      rw [e3, v6]
      exact s_makePart hgM6 roc (hgM _ _) rp (by decide) (by decide) ⟨by omega, by omega⟩ ⟨fun z => by omega, fun _ => ⟨rfl, eM7.symm⟩⟩
  · refine Or.inr (Or.inl ⟨C4, M4, ax_Xe.ofI (x7 _ _ (r_Reader_readBehind_59 x2 roc (hgC _ _) ax_y_n ax_y_n (ia.kI (by omega) (fun _ => rfl)))), hrm _ _ (ib.k (by omega) (fun _ _ => ⟨fun _ => ⟨rfl, rfl⟩, fun z => absurd rfl z⟩)), no.1, no.2.1, x1.fr.tr no.2.2.1 (by omega), y1.fr.tr no.2.2.2 (by omega)⟩)
  · obtain ⟨⟨hg4, f1, f2, f3⟩, f4, f5, f6⟩ := id hf
    obtain ⟨C6, z1, z2, z3, z4, z5, z6, z7⟩ := hback p C4 ia hg4.1 f6.1 f6.2.2
    have c6 : (C6 516 0) = (C4 516 0) := by rw [z1.1 516 (by decide)]
    have y6 : (M1 222 3) = (M 222 3) := y1.2 3 (by decide) (by decide) (by decide) (by decide)
    have rp : ax_rg p := ⟨by omega, by omega⟩
    obtain ⟨b1, b2, b3, b4, b5, b6, b7, b8, b9, b10, b11, b12, b13, b14, b15, b16⟩ := c_mk_at (C := C6) (o := oc) (f := (C 600 6)) (a := (C 600 6)) (w := 0) rfl
    have hg7 : ax_g (c_mk C6 oc (C 600 6) (C 600 6) 0) := c_mk_g z2 roc (hgC _ _) (hgC _ _) (by decide) ⟨by omega, by omega⟩
    refine Or.inr (Or.inr ⟨(C6 516 0), ax_u (c_mk C6 oc (C 600 6) (C 600 6) 0) 521 (C6 516 0) p, M4, ?_, hrm _ _ (ib.k (by omega) (fun _ _ => ⟨fun _ => ⟨rfl, rfl⟩, fun z => absurd rfl z⟩)), ⟨⟨⟨ax_u_g hg7 rp, hg4.2⟩, ?_, ?_, y1.fr.tr f3 (by omega)⟩, ?_, ?_, ?_⟩, ?_⟩)
    · refine z7 _ _ (t_addPart z2 roc (hgC _ _) (hgC _ _) (by decide) ⟨by omega, by omega⟩ ?_)
      exact ⟨⟨by omega, by omega⟩, fun V8 e8 => ⟨rfl, e8⟩⟩
    · have : (ax_u (c_mk C6 oc (C 600 6) (C 600 6) 0) 521 (C6 516 0) p) 600 6 = (C6 600 6) := by simp [ax_u, b13]
      rw [this, z3]; exact f1
    · exact ((x1.fr.tr f2 (by omega)).tr z1.fr (Int.le_refl _)).tr ((c_mk_f.mono (by omega)).tr (e_fC.ua (by decide) (by omega)) (Int.le_refl _)) (Int.le_refl _)
    · have : (ax_u (c_mk C6 oc (C 600 6) (C 600 6) 0) 521 (C6 516 0) p) 516 0 = (C6 516 0) + 1 := by simp [ax_u, b1]
      rw [this]; exact ⟨by omega, by omega⟩
    · have e1 : (ax_u (c_mk C6 oc (C 600 6) (C 600 6) 0) 521 (C6 516 0) p) 516 0 = (C6 516 0) + 1 := by simp [ax_u, b1]
      have e2 : (ax_u (c_mk C6 oc (C 600 6) (C 600 6) 0) 521 (C6 516 0) p) 600 6 = (C6 600 6) := by simp [ax_u, b13]
      rw [e1, e2]; exact ⟨by omega, by omega, by omega⟩
    · have e1 : (ax_u (c_mk C6 oc (C 600 6) (C 600 6) 0) 521 (C6 516 0) p) 600 11 = (C6 600 11) := by simp [ax_u, b14]
      have e2 : (ax_u (c_mk C6 oc (C 600 6) (C 600 6) 0) 521 (C6 516 0) p) 600 12 = (C6 600 12) := by simp [ax_u, b15]
      have e3 : (ax_u (c_mk C6 oc (C 600 6) (C 600 6) 0) 521 (C6 516 0) p) 600 13 = (C6 600 13) := by simp [ax_u, b16]
      rw [e1, e2, e3]; exact ⟨z4, by omega, z6⟩
    · have e1 : c_see (ax_u (c_mk C6 oc (C 600 6) (C 600 6) 0) 521 (C6 516 0) p) = c_see C6 := by rw [← c_mk_see (C := C6) (o := oc) (f := (C 600 6)) (a := (C 600 6)) (w := 0)]; simp [c_see, ax_u]
      have e2 : c_see C6 = c_see C4 := by
        unfold c_see
        rw [z3, z1.1 1 (by decide), z1.2 1 (by decide) (by decide) (by decide) (by decide)]
      show 48 ≤ c_see _ ∧ c_see _ ≤ 57
      rw [e1, e2]; exact dg
end Behind
