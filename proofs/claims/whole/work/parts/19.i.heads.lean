/-! THE LETTERS OF AN EQUATION -/
def f_lp (C1 M1 C M : ax_V) (e L n b : Int) : Prop :=
  e_R C M ∧ ((∀ c, c ≠ 547 → c ≠ 548 → c ≠ 554 → c ≠ 555 → c ≠ 600 → C c = C1 c) ∧ C 547 0 = C1 547 0 ∧ (∀ i, i ≠ e + 1 → C 548 i = C1 548 i) ∧ (∀ i, i < L → C 554 i = C1 554 i ∧ C 555 i = C1 555 i) ∧ ∀ j, j ≠ 6 → C 600 j = C1 600 j) ∧
  ((∀ c, c ≠ 260 → c ≠ 265 → c ≠ 266 → c ≠ 222 → M c = M1 c) ∧ (∀ i, i ≠ e → M 260 i = M1 260 i) ∧ (∀ i, i < L → M 265 i = M1 265 i ∧ M 266 i = M1 266 i) ∧ ∀ j, j ≠ 52 → j ≠ 68 → M 222 j = M1 222 j) ∧
  ((C 547 1) = (M 222 52) ∧ (0 ≤ L ∧ L ≤ (M 222 52)) ∧ M 260 e = (M 222 52) - L ∧ C 548 (e + 1) = (M 222 52) ∧ 2 * (M 222 52) ≤ (M 222 68) + b) ∧ (∀ h, L ≤ h → h < (M 222 52) → f_h C M n h) ∧ (M1 222 68) ≤ (M 222 68) ∧ (∀ h, L ≤ h → h < (M 222 52) → (M1 222 68) ≤ M 266 h ∧ M 266 h < (M 222 68)) ∧ ∀ i j, L ≤ i → i < j → j < (M 222 52) → M 266 i < M 266 j
theorem f_lp.f {C1 M1 C M : ax_V} {e L n b : Int} (h : f_lp C1 M1 C M e L n b) : f_fC C1 C ∧ f_fM M1 M :=
  ⟨⟨fun c a z => h.2.1.1 c (by omega) (by omega) (by omega) (by omega) z, h.2.1.2.2.2.2 1 (by decide), fun c a b => by rw [h.2.1.1 c (by omega) (by omega) (by omega) (by omega) (by omega)]⟩, ⟨fun c a z => h.2.2.1.1 c (by omega) (by omega) (by omega) z, fun j a => h.2.2.1.2.2.2 j (by omega) (by omega)⟩⟩
def c_ah (C : ax_V) (e s p : Int) : ax_V := ax_u (ax_u (ax_u (ax_u C 554 (C 547 1) s) 555 (C 547 1) p) 547 1 ((C 547 1) + 1)) 548 (e + 1) ((C 547 1) + 1)
theorem t_addHead {B r d : Nat} {C : ax_V} {Ψ Θ : ax_V → Prop} {e s p : Int} (hg : ax_g C) (he : 0 ≤ e ∧ e < 350) (hs : ax_rg s) (hp : ax_rg p) (hh : 0 ≤ (C 547 1) ∧ (C 547 1) < 350) (h : Ψ (c_ah C e s p)) : ax_N (az_W B (az_ER B r)) (d + 1) q_Equations_addHead [.ref (B + 47), ax_i e, ax_i s, ax_i p] C Ψ Θ := by
  refine r_Equations_addHead hg ⟨by omega, by omega⟩ hs hp ⟨hh, fun V1 e1 => ?_⟩
  have d1 : V1 547 1 = C 547 1 := by rw [e1, ax_u_ne (by decide)]
  rw [d1]
  refine ⟨hh, fun V2 e2 => ?_⟩
  have d2 : V2 547 1 = C 547 1 := by rw [e2, ax_u_ne (by decide), d1]
  rw [d2]
  refine ⟨⟨by omega, by omega⟩, fun V3 e3 => ⟨⟨by omega, by omega⟩, fun V4 e4 => ?_⟩⟩
  have d3 : V3 547 1 = C 547 1 + 1 := by rw [e3]; exact ax_u_s _ _ _ _
  rw [e4, d3, e3, e2, e1]
  exact h
def m_ah (M : ax_V) (e l : Int) : ax_V := ax_u (ax_u (ax_u (m_on (ax_u M 266 (M 222 52) (M 222 68)) 1) 265 (M 222 52) l) 222 52 ((M 222 52) + 1)) 260 e (M 260 e + 1)
section Heads
variable {B r dc dm : Nat} {C0 M0 C1 M1 : ax_V} {e L n : Int}
/-- one letter more -/
theorem f_lp.more {C M : ax_V} {l : Int} (h : f_lp C1 M1 C M e L n 0) (hn : n = (M 222 10)) (he : 0 ≤ e ∧ e < 350) (hl : 0 ≤ l ∧ l < 26) (hlt : (M 222 68) < (M 222 3)) : f_lp C1 M1 (c_ah (c_on C 1) e (26 * n + l) (M 222 68)) (m_ah M e l) e L n 1 := by
  obtain ⟨hR, ⟨u1, u2, u3, u4, u5⟩, ⟨v1, v2, v3, v4⟩, ⟨w1, w2, w3, w4, w5⟩, hh, ha, hb, hc⟩ := h
  obtain ⟨hgC, hgM⟩ := id hR.1
  have hat := hR.2.2.1.1
  have hsz := hR.2.1.2.2.1
  have hnn := hR.2.2.1.2.1
  have R1 : e_R (c_on C 1) (m_on M 1) := hR.on (by decide) (by omega)
  have nC := e_nC.on C 1
  have hd1 : (c_on C 1) 547 1 = (M 222 52) := by rw [nC.1 547 (by decide)]; exact w1
  obtain ⟨C', eC⟩ : ∃ X : ax_V, X = c_ah (c_on C 1) e (26 * n + l) (M 222 68) := ⟨_, rfl⟩
  obtain ⟨M', eM⟩ : ∃ X : ax_V, X = m_ah M e l := ⟨_, rfl⟩
  rw [← eC, ← eM]
  have eC' : C' = ax_u (ax_u (ax_u (ax_u (c_on C 1) 554 (M 222 52) (26 * n + l)) 555 (M 222 52) (M 222 68)) 547 1 ((M 222 52) + 1)) 548 (e + 1) ((M 222 52) + 1) := by rw [eC]; unfold c_ah; rw [hd1]
  have hgC' : ax_g C' := by rw [eC']; exact ax_u_g (ax_u_g (ax_u_g (ax_u_g R1.1.1 ⟨by omega, by omega⟩) ⟨by omega, by omega⟩) ⟨by omega, by omega⟩) ⟨by omega, by omega⟩
  have hgM' : ax_g M' := by rw [eM]; exact ax_u_g (ax_u_g (ax_u_g (ax_u_g (ax_u_g hgM ⟨by omega, by omega⟩) (by rw [ax_u_ne (by decide)]; exact ⟨by omega, by omega⟩)) ⟨by omega, by omega⟩) ⟨by omega, by omega⟩) ⟨by omega, by omega⟩
  have cne : ∀ c, c ≠ 547 → c ≠ 548 → c ≠ 554 → c ≠ 555 → c ≠ 600 → C' c = C c := fun c a b x y z => by rw [eC', ax_u_ne b, ax_u_ne a, ax_u_ne y, ax_u_ne x, nC.1 c z]
  have c600 : ∀ j, C' 600 j = (c_on C 1) 600 j := fun j => by rw [eC', ax_u_ne (by decide), ax_u_ne (by decide), ax_u_ne (by decide), ax_u_ne (by decide)]
  have mne : ∀ c, c ≠ 260 → c ≠ 265 → c ≠ 266 → c ≠ 222 → M' c = M c := fun c a b x y => by rw [eM]; unfold m_ah m_on; rw [ax_u_ne a, ax_u_ne y, ax_u_ne b, ax_u_ne y, ax_u_ne x]
  have m222 : ∀ j, j ≠ 52 → j ≠ 68 → M' 222 j = M 222 j := fun j a b => by rw [eM]; unfold m_ah m_on; rw [ax_u_ne (by decide), ax_u_k a, ax_u_ne (by decide), ax_u_k b, ax_u_ne (by decide)]
  have mat : M' 222 68 = (M 222 68) + 1 := by rw [eM]; unfold m_ah m_on; rw [ax_u_ne (by decide), ax_u_k (by decide), ax_u_ne (by decide), ax_u_s, ax_u_ne (by decide)]
  have mlf : M' 222 52 = (M 222 52) + 1 := by rw [eM]; unfold m_ah; rw [ax_u_ne (by decide)]; exact ax_u_s _ _ _ _
  have m260 : M' 260 e = M 260 e + 1 := by rw [eM]; exact ax_u_s _ _ _ _
  have m260' : ∀ i, i ≠ e → M' 260 i = M 260 i := fun i z => by rw [eM]; unfold m_ah m_on; rw [ax_u_k z, ax_u_ne (by decide), ax_u_ne (by decide), ax_u_ne (by decide), ax_u_ne (by decide)]
  have m265 : ∀ i, M' 265 i = if i = (M 222 52) then l else M 265 i := fun i => by
    rw [eM]; unfold m_ah m_on; rw [ax_u_ne (by decide), ax_u_ne (by decide)]
    by_cases z : i = (M 222 52)
    · rw [if_pos z, z]; exact ax_u_s _ _ _ _
    · rw [if_neg z, ax_u_k z, ax_u_ne (by decide), ax_u_ne (by decide)]
  have m266 : ∀ i, M' 266 i = if i = (M 222 52) then (M 222 68) else M 266 i := fun i => by
    rw [eM]; unfold m_ah m_on; rw [ax_u_ne (by decide), ax_u_ne (by decide), ax_u_ne (by decide), ax_u_ne (by decide)]
    by_cases z : i = (M 222 52)
    · rw [if_pos z, z]; exact ax_u_s _ _ _ _
    · rw [if_neg z, ax_u_k z]
  have c554 : ∀ i, C' 554 i = if i = (M 222 52) then 26 * n + l else C 554 i := fun i => by
    rw [eC', ax_u_ne (by decide), ax_u_ne (by decide), ax_u_ne (by decide)]
    by_cases z : i = (M 222 52)
    · rw [if_pos z, z]; exact ax_u_s _ _ _ _
    · rw [if_neg z, ax_u_k z, nC.1 554 (by decide)]
  have c555 : ∀ i, C' 555 i = if i = (M 222 52) then (M 222 68) else C 555 i := fun i => by
    rw [eC', ax_u_ne (by decide), ax_u_ne (by decide)]
    by_cases z : i = (M 222 52)
    · rw [if_pos z, z]; exact ax_u_s _ _ _ _
    · rw [if_neg z, ax_u_k z, ax_u_ne (by decide), nC.1 555 (by decide)]
  have c548 : ∀ i, i ≠ e + 1 → C' 548 i = C 548 i := fun i z => by rw [eC', ax_u_k z, ax_u_ne (by decide), ax_u_ne (by decide), ax_u_ne (by decide), nC.1 548 (by decide)]
  have c547 : C' 547 0 = C 547 0 := by rw [eC', ax_u_ne (by decide), ax_u_k (by decide), ax_u_ne (by decide), ax_u_ne (by decide), nC.1 547 (by decide)]
  have R' : e_R C' M' := by
    refine R1.tab ⟨hgC', hgM'⟩ (fun c z => ?_) (fun c z => ?_) (fun j _ => c600 j) (fun j z => ?_)
    · rw [cne c (by omega) (by omega) (by omega) (by omega) (by omega), nC.1 c (by omega)]
    · rw [mne c (by omega) (by omega) (by omega) (by omega), (e_nM.on M 1).1 c (by omega)]
    · by_cases w : j = 68
      · rw [w, mat]; exact (ax_u_s _ _ _ _).symm
      · rw [m222 j (by omega) w, (e_nM.on M 1).2 j w (by omega)]
  refine ⟨R', ⟨fun c a b x y z => by rw [cne c a b x y z]; exact u1 c a b x y z, by rw [c547]; exact u2, fun i z => by rw [c548 i z]; exact u3 i z, fun i z => ?_, fun j z => by rw [c600, nC.2 j z]; exact u5 j z⟩, ⟨fun c a b x y => by rw [mne c a b x y]; exact v1 c a b x y, fun i z => by rw [m260' i z]; exact v2 i z, fun i z => ?_, fun j a b => by rw [m222 j a b]; exact v4 j a b⟩, ⟨?_, ⟨w2.1, by omega⟩, by omega, ?_, by omega⟩, fun h a b => ?_, by omega, fun h a b => ?_, fun i j a b c => ?_⟩
  · rw [c554, c555, if_neg (by omega), if_neg (by omega)]; exact u4 i z
  · rw [m265, m266, if_neg (by omega), if_neg (by omega)]; exact v3 i z
  · rw [mlf, eC', ax_u_ne (by decide)]; exact ax_u_s _ _ _ _
  · rw [mlf, eC']; exact ax_u_s _ _ _ _
  · unfold f_h
    rw [c554, c555, m265, m266]
    by_cases z : h = (M 222 52)
    · rw [if_pos z, if_pos z, if_pos z, if_pos z]
      exact ⟨rfl, hl, rfl, ⟨by omega, by omega⟩⟩
    · rw [if_neg z, if_neg z, if_neg z, if_neg z]
      exact hh h a (by omega)
  · rw [m266, mat]
    by_cases z : h = (M 222 52)
    · rw [if_pos z]; exact ⟨by omega, by omega⟩
    · rw [if_neg z]; have := hb h a (by omega); omega
  · rw [m266, m266, if_neg (by omega)]
    by_cases z : j = (M 222 52)
    · rw [if_pos z]; have := hb i a (by omega); omega
    · rw [if_neg z]; exact hc i j a b (by omega)
theorem f_lp.on {C M : ax_V} (h : f_lp C1 M1 C M e L n 1) (hlt : (M 222 68) < (M 222 3)) : f_lp C1 M1 (c_on C 1) (m_on M 1) e L n 0 := by
  obtain ⟨hR, ⟨u1, u2, u3, u4, u5⟩, ⟨v1, v2, v3, v4⟩, ⟨w1, w2, w3, w4, w5⟩, hh, ha, hb, hc⟩ := h
  have nC := e_nC.on C 1
  have nM := e_nM.on M 1
  have a1 : (m_on M 1) 222 68 = (M 222 68) + 1 := ax_u_s _ _ _ _
  have l1 : (m_on M 1) 222 52 = (M 222 52) := nM.2 52 (by decide) (by decide)
  refine ⟨hR.on (by decide) (by omega), ⟨fun c a b x y z => by rw [nC.1 c z]; exact u1 c a b x y z, by rw [nC.1 547 (by decide)]; exact u2, fun i z => by rw [nC.1 548 (by decide)]; exact u3 i z, fun i z => by rw [nC.1 554 (by decide), nC.1 555 (by decide)]; exact u4 i z, fun j z => by rw [nC.2 j z]; exact u5 j z⟩, ⟨fun c a b x y => by rw [nM.1 c y]; exact v1 c a b x y, fun i z => by rw [nM.1 260 (by decide)]; exact v2 i z, fun i z => by rw [nM.1 265 (by decide), nM.1 266 (by decide)]; exact v3 i z, fun j a b => ?_⟩, ⟨by rw [nC.1 547 (by decide), l1]; exact w1, by rw [l1]; exact w2, by rw [nM.1 260 (by decide), l1]; exact w3, by rw [nC.1 548 (by decide), l1]; exact w4, by omega⟩, fun h a b => ?_, by omega, fun h a b => by rw [l1] at b; rw [nM.1 266 (by decide), a1]; have := hb h a b; omega, fun i j a b c => by rw [l1] at c; rw [nM.1 266 (by decide)]; exact hc i j a b c⟩
  · rw [show (m_on M 1) 222 j = M 222 j from ax_u_k b]; exact v4 j a b
  · unfold f_h
    rw [nC.1 554 (by decide), nC.1 555 (by decide), nM.1 265 (by decide), nM.1 266 (by decide)]
    exact hh h a (by omega)
theorem f_heads {y1 y2 : Option Value} (hy1 : ax_y y1) (hy2 : ax_y y2) (he : 0 ≤ e ∧ e < 350) (fC : f_fC C0 C1) (fM : f_fM M0 M1) (hn : n = (M1 222 10)) : ∀ (m : Nat) (C M : ax_V) (x : Int) (y3 y4 : Option Value), ax_y y3 → ax_y y4 → f_lp C1 M1 C M e L n 0 → 700 - (M 222 68) ≤ (m : Int) → 0 ≤ x → 2 * x ≤ (M 222 68) →
    f_go f_nv (fun Φ Θ => k_Reader_readEquation_38 B r (dc + 3) e x y3 y4 C Φ Θ) (fun C' Φ Θ => ∀ z2 z3 z4, ax_y z2 → ax_y z3 → ax_y z4 → k_Reader_readEquation_112 B r (dc + 3) e z2 z3 z4 C' Φ Θ) (fun Φ Θ => k_Model_readEquation_49 (dm + 4) y1 y2 e 1 M Φ Θ) (fun M' Φ Θ => k_Model_readEquation_49 (dm + 4) y1 y2 e 0 M' Φ Θ) C0 M0 (fun C' M' => f_lp C1 M1 C' M' e L n 1 ∧ L < (M' 222 52) ∧ (M 222 68) < (M' 222 68)) := by
  have re : ax_rg e := ⟨by omega, by omega⟩
  intro m
  induction m with
  | zero =>
    intro C M x y3 y4 hy3 hy4 h hm x0 x1
    have hR := h.1
    obtain ⟨hgC, hgM⟩ := id hR.1
    have hat := hR.2.2.1.1
    have hsz := hR.2.1.2.2.1
    have hw := h.2.2.2.1
    have hnn := hR.2.2.1.2.1
    have es : m_see M = 0 := if_neg (by omega)
    have hs := hR.see
    obtain ⟨M2, eM2⟩ : ∃ X : ax_V, X = ax_u M 266 (M 222 52) (M 222 68) := ⟨_, rfl⟩
    have hgM2 : ax_g M2 := by rw [eM2]; exact ax_u_g hgM ⟨by omega, by omega⟩
    have sc : ∀ j, M2 222 j = M 222 j := fun j => by rw [eM2, ax_u_ne (by decide)]
    have mi2 : m_in M2 := by
      have := hR.mi
      show 0 ≤ M2 222 68 ∧ M2 222 68 ≤ 1000000 ∧ M2 222 3 ≤ 700
      rw [sc, sc]; exact this
    have es2 : m_see M2 = 0 := if_neg (by rw [sc, sc]; omega)
    refine f_go.stop (C' := C) (M' := ax_u M2 265 (M 222 52) (-1)) (fun Φ Θ z => r_Reader_readEquation_38 hgC re ⟨by omega, by omega⟩ hy3 hy4 ⟨fun q => by omega, fun _ => t_takeLetter hgC hR.ci (by rw [hnn.1]; exact hnn.2) (fun q => by omega) (fun _ => z)⟩) (fun Φ Θ z => r_Model_readEquation_49 hgM hy1 hy2 re (by decide) ⟨fun q => absurd q (by decide), fun _ => ⟨⟨by omega, by omega⟩, fun V7 e7 => ?_⟩⟩) ⟨⟨hgC, ax_u_g hgM2 (by decide)⟩, by rw [ax_u_ne (by decide), sc]; exact hat.1, fC.tr h.f.1, ?_⟩
    · have e7' : V7 = M2 := by rw [e7, eM2]
      rw [e7']
      refine s_takeLetter hgM2 mi2 (fun q => by have := q.1; omega) (fun _ => ?_)
      rw [sc]
      refine ⟨⟨by omega, by omega⟩, fun V9 e9 => ?_⟩
      have d1 : V9 222 52 = M 222 52 := by rw [e9, ax_u_ne (by decide), sc]
      rw [d1]
      refine ⟨⟨by omega, by omega⟩, fun _ => by rw [e9]; exact z, fun q => ?_⟩
      exact absurd (by rw [e9]; exact ax_u_s _ _ _ _) q
    · rw [eM2]; exact ((fM.tr h.f.2).ua (by decide)).ua (by decide)
  | succ m ih =>
    intro C M x y3 y4 hy3 hy4 h hm x0 x1
    have hR := h.1
    obtain ⟨hgC, hgM⟩ := id hR.1
    have hat := hR.2.2.1.1
    have hsz := hR.2.1.2.2.1
    have hw := h.2.2.2.1
    have hnn := hR.2.2.1.2.1
    have hs := hR.see
    have hnM : n = (M 222 10) := by rw [hn]; exact (h.2.2.1.2.2.2 10 (by decide) (by decide)).symm
    obtain ⟨M2, eM2⟩ : ∃ X : ax_V, X = ax_u M 266 (M 222 52) (M 222 68) := ⟨_, rfl⟩
    have hgM2 : ax_g M2 := by rw [eM2]; exact ax_u_g hgM ⟨by omega, by omega⟩
    have sc : ∀ j, M2 222 j = M 222 j := fun j => by rw [eM2, ax_u_ne (by decide)]
    have mi2 : m_in M2 := by
      have := hR.mi
      show 0 ≤ M2 222 68 ∧ M2 222 68 ≤ 1000000 ∧ M2 222 3 ≤ 700
      rw [sc, sc]; exact this
    have es2 : m_see M2 = m_see M := by unfold m_see; rw [sc, sc, eM2, ax_u_ne (by decide)]
    by_cases w : m_isL M
    · have hlt := hR.lt (by have := w.1; omega)
      obtain ⟨l, el⟩ : ∃ l : Int, l = m_see M - 97 := ⟨_, rfl⟩
      have hl : 0 ≤ l ∧ l < 26 := ⟨by have := w.1; omega, by have := w.2; omega⟩
      have h2 := h.more hnM he hl hlt
      obtain ⟨C3, eC3⟩ : ∃ X : ax_V, X = c_ah (c_on C 1) e (26 * n + l) (M 222 68) := ⟨_, rfl⟩
      obtain ⟨M3, eM3⟩ : ∃ X : ax_V, X = m_ah M e l := ⟨_, rfl⟩
      rw [← eC3, ← eM3] at h2
      have R3 := h2.1
      obtain ⟨hgC3, hgM3⟩ := id R3.1
      have hs3 := R3.see
      have hgC1 : ax_g (c_on C 1) := ax_u_g hgC ⟨by omega, by omega⟩
      have hd1 : (c_on C 1) 547 1 = (M 222 52) := by rw [(e_nC.on C 1).1 547 (by decide)]; exact hw.1
      have at3 : (M3 222 68) = (M 222 68) + 1 := by rw [eM3]; unfold m_ah m_on; rw [ax_u_ne (by decide), ax_u_k (by decide), ax_u_ne (by decide), ax_u_s, ax_u_ne (by decide)]
      have lf3 : (M3 222 52) = (M 222 52) + 1 := by rw [eM3]; unfold m_ah; rw [ax_u_ne (by decide)]; exact ax_u_s _ _ _ _
      have hat3 := R3.2.2.1.1
      have hsz3 := R3.2.1.2.2.1
      have eslot : (C 600 8) * 26 + (c_see C - 97) = 26 * n + l := by omega
      have hcl : ∀ (Φ Θ : ax_V → Prop), ax_I (az_W B (az_ER B r)) (dc + 3) q_Reader_look [.ref r] C3 (fun r3 V3 => ((r3 = 44 → ax_rg ((V3 600 6) + 1) ∧ (∀ V4, V4 = ax_u V3 600 6 ((V3 600 6) + 1) → k_Reader_readEquation_38 B r (dc + 3) e (x + 1) (some (ax_i (C 600 6))) (some (ax_i (26 * n + l))) V4 Φ Θ)) ∧ (¬ r3 = 44 → k_Reader_readEquation_112 B r (dc + 3) e (some (ax_i x)) (some (ax_i (C 600 6))) (some (ax_i (26 * n + l))) V3 Φ Θ))) Θ → k_Reader_readEquation_38 B r (dc + 3) e x y3 y4 C Φ Θ := by
        intro Φ Θ z
        refine r_Reader_readEquation_38 hgC re ⟨by omega, by omega⟩ hy3 hy4 ⟨fun q => by omega, fun _ => t_takeLetter hgC hR.ci (by rw [hnn.1]; exact hnn.2) (fun _ => ?_) (fun q => absurd (by rw [hs]; exact w) q)⟩
        rw [eslot, hd1]
        refine ⟨fun _ => ?_, fun q => by omega⟩
        refine t_addHead hgC1 he ⟨by omega, by omega⟩ (hgC _ _) (by rw [hd1]; exact ⟨by omega, by omega⟩) ?_
        rw [hat.1, ← eC3]
        rw [hat.1] at z
        exact z
      have hml : ∀ (Φ : Int → ax_V → Prop) (Θ : ax_V → Prop), ax_I ay_lay (dm + 4) q_Model_see [.ref 222] M3 (fun r12 V12 => ((r12 = 44 → ax_rg ((V12 222 68) + 1) ∧ (∀ V14, V14 = ax_u V12 222 68 ((V12 222 68) + 1) → k_Model_readEquation_49 (dm + 4) y1 y2 e 1 V14 Φ Θ)) ∧ (¬ r12 = 44 → ax_rg ((V12 222 68) + 0) ∧ (∀ V13, V13 = ax_u V12 222 68 ((V12 222 68) + 0) → k_Model_readEquation_49 (dm + 4) y1 y2 e 0 V13 Φ Θ)))) Θ → k_Model_readEquation_49 (dm + 4) y1 y2 e 1 M Φ Θ := by
        intro Φ Θ z
        refine r_Model_readEquation_49 hgM hy1 hy2 re (by decide) ⟨fun q => absurd q (by decide), fun _ => ⟨⟨by omega, by omega⟩, fun V7 e7 => ?_⟩⟩
        have e7' : V7 = M2 := by rw [e7, eM2]
        rw [e7']
        refine s_takeLetter hgM2 mi2 (fun _ => ?_) (fun q => absurd (by show 97 ≤ m_see M2 ∧ m_see M2 ≤ 122; rw [es2]; exact w) q)
        rw [sc, es2, ← el]
        refine ⟨⟨by omega, by omega⟩, fun V9 e9 => ?_⟩
        have d0 : (m_on M2 1) 222 52 = M 222 52 := by unfold m_on; rw [ax_u_k (by decide), sc]
        have d1 : V9 222 52 = M 222 52 := by rw [e9, ax_u_ne (by decide), d0]
        rw [d1]
        refine ⟨⟨by omega, by omega⟩, fun q => ?_, fun _ => ⟨⟨by omega, by omega⟩, fun V10 e10 => ⟨⟨by omega, by omega⟩, ⟨by omega, by omega⟩, ?_⟩⟩⟩
        · have : V9 265 (M 222 52) = l := by rw [e9]; exact ax_u_s _ _ _ _
          omega
        · have d2 : V10 260 e = M 260 e := by rw [e10, ax_u_ne (by decide), e9, ax_u_ne (by decide)]; unfold m_on; rw [ax_u_ne (by decide), eM2, ax_u_ne (by decide)]
          rw [d2]
          refine ⟨⟨by omega, by omega⟩, fun V11 e11 => ?_⟩
          have e12 : V11 = M3 := by rw [e11, e10, e9, eM3, eM2]; rfl
          rw [e12]
          exact z
      by_cases w2 : m_see M3 = 44
      · have hlt3 := R3.lt (by omega)
        have h4 := h2.on hlt3
        have a4 : (m_on M3 1) 222 68 = (M3 222 68) + 1 := ax_u_s _ _ _ _
        have k2 := ih (c_on C3 1) (m_on M3 1) (x + 1) (some (ax_i (C 600 6))) (some (ax_i (26 * n + l))) (ax_y_i _) (ax_y_i _) h4 (by omega) (by omega) (by omega)
        refine (k2.of (fun Φ Θ z => hcl Φ Θ (t_look hgC3 R3.ci ⟨fun _ => ⟨⟨by omega, by omega⟩, fun V4 e4 => by rw [e4]; exact z⟩, fun q => absurd (hs3.trans w2) q⟩)) (fun Φ Θ z => hml Φ Θ (s_see hgM3 R3.mi ⟨fun _ => ⟨⟨by omega, by omega⟩, fun V4 e4 => by rw [e4]; exact z⟩, fun q => absurd w2 q⟩))).mono (fun C5 M5 q5 => ⟨q5.1, q5.2.1, by have := q5.2.2; omega⟩)
      · have e0 : ax_u M3 222 68 (M3 222 68 + 0) = M3 := by
          funext c i
          unfold ax_u
          split
          · next z => rw [z.1, z.2, Int.add_zero]
          · rfl
        exact f_go.ok (C' := C3) (M' := M3) (fun Φ Θ z => hcl Φ Θ (t_look hgC3 R3.ci ⟨fun q => absurd (hs3.symm.trans q) w2, fun _ => z _ _ _ (ax_y_i _) (ax_y_i _) (ax_y_i _)⟩)) (fun Φ Θ z => hml Φ Θ (s_see hgM3 R3.mi ⟨fun q => absurd q w2, fun _ => ⟨⟨by omega, by omega⟩, fun V4 e4 => by rw [e4, e0]; exact z⟩⟩)) ⟨h2, by omega, by omega⟩
    · refine f_go.stop (C' := C) (M' := ax_u M2 265 (M 222 52) (-1)) (fun Φ Θ z => r_Reader_readEquation_38 hgC re ⟨by omega, by omega⟩ hy3 hy4 ⟨fun q => by omega, fun _ => t_takeLetter hgC hR.ci (by rw [hnn.1]; exact hnn.2) (fun q => absurd (by rw [hs] at q; exact q) w) (fun _ => z)⟩) (fun Φ Θ z => r_Model_readEquation_49 hgM hy1 hy2 re (by decide) ⟨fun q => absurd q (by decide), fun _ => ⟨⟨by omega, by omega⟩, fun V7 e7 => ?_⟩⟩) ⟨⟨hgC, ax_u_g hgM2 (by decide)⟩, by rw [ax_u_ne (by decide), sc]; exact hat.1, fC.tr h.f.1, ?_⟩
      · have e7' : V7 = M2 := by rw [e7, eM2]
        rw [e7']
        refine s_takeLetter hgM2 mi2 (fun q => absurd (by have := q; show 97 ≤ m_see M ∧ m_see M ≤ 122; rw [← es2]; exact this) w) (fun _ => ?_)
        rw [sc]
        refine ⟨⟨by omega, by omega⟩, fun V9 e9 => ?_⟩
        have d1 : V9 222 52 = M 222 52 := by rw [e9, ax_u_ne (by decide), sc]
        rw [d1]
        refine ⟨⟨by omega, by omega⟩, fun _ => by rw [e9]; exact z, fun q => ?_⟩
        exact absurd (by rw [e9]; exact ax_u_s _ _ _ _) q
      · rw [eM2]; exact ((fM.tr h.f.2).ua (by decide)).ua (by decide)
end Heads
