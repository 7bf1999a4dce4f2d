/-! STEPS OF READING that keep what class and model have in common -/
/-- places alone have changed -/
theorem e_R.sc {C M C' M' : ax_V} (h : e_R C M) (hg : ax_g C' ∧ ax_g M') (hC : ∀ c, c ≠ 600 → C' c = C c) (hM : ∀ c, c ≠ 222 → M' c = M c) (k1 : (C' 600 1) = (C 600 1)) (k2 : (M' 222 3) = (M 222 3)) (k3 : (M' 222 10) = (M 222 10)) (k4 : (M' 222 26) = (M 222 26)) (hS : e_S C' M') (hp : (M' 222 26) ≤ (M' 222 68)) : e_R C' M' := by
  obtain ⟨-, ⟨t1, t2, t3, t4⟩, -, ⟨p1, p2, p3⟩, p4, p5⟩ := h
  refine ⟨hg, ⟨by rw [k1, k2]; exact t1, by rw [k2]; exact t2, by rw [k2]; exact t3, fun i i0 i1 => ?_⟩, hS, ⟨?_, by rw [k4]; exact p2, hp⟩, fun k k0 k1 => ?_, fun q q0 q1 => ?_⟩
  · rw [hC 1 (by decide), hM 224 (by decide)]
    exact t4 i i0 (by omega)
  · rw [hC 516 (by decide), k4]; exact p1
  · rw [hC 501 (by decide), hM 226 (by decide)]
    exact p4 k k0 (by omega)
  · refine (p5 q q0 (by omega)).keep (fun c a b _ => by rw [hC c (by omega)]) (fun c a b => by rw [hM c (by omega)]) (fun k _ _ => by rw [hM 226 (by decide)]) (fun x _ => ?_)
    exact ⟨by rw [hC 522 (by decide)], by rw [hC 526 (by decide)], by rw [hM 252 (by decide)], by rw [hM 242 (by decide)]⟩
/-- a new part has come -/
theorem e_R.new {C M C' M' : ax_V} (h : e_R C M) (hg : ax_g C' ∧ ax_g M') (fC : e_fC C C' 0) (fM : e_fM M M' 0) (s1 : (C' 600 6) = (C 600 6)) (s2 : (M' 222 68) = (M 222 68)) (s3 : (C' 600 11) = (C 600 11)) (s4 : (M' 222 69) = (M 222 69)) (s5 : (C' 600 12) = (C 600 12)) (s6 : (M' 222 72) = (M 222 72)) (s7 : (C' 600 13) = (C 600 13)) (c1 : (C' 516 0) = (M 222 26) + 1) (c2 : (M' 222 26) = (M 222 26) + 1) (hN : (M 222 26) + 1 ≤ (M 222 68)) (hq : ∀ q, 0 ≤ q → q < (M 222 26) → e_p C' M' q) (hn : e_p C' M' (M 222 26)) : e_R C' M' := by
  obtain ⟨-, ⟨t1, t2, t3, t4⟩, ⟨a1, a2, a3, a4, a5, a6, a7⟩, ⟨p1, p2, p3⟩, p4, p5⟩ := h
  obtain ⟨f1, f2, f3⟩ := fC
  obtain ⟨g1, g2, g3⟩ := fM
  have k1 : (C' 600 1) = (C 600 1) := f3 1 (by decide) (by decide) (by decide) (by decide)
  have k2 : (M' 222 3) = (M 222 3) := g3 3 (by decide) (by decide) (by decide) (by decide) (by decide) (by decide)
  have k3 : (M' 222 10) = (M 222 10) := g3 10 (by decide) (by decide) (by decide) (by decide) (by decide) (by decide)
  have k4 : (C' 600 8) = (C 600 8) := f3 8 (by decide) (by decide) (by decide) (by decide)
  have k5 : (C' 600 9) = (C 600 9) := f3 9 (by decide) (by decide) (by decide) (by decide)
  have k6 : (C' 600 10) = (C 600 10) := f3 10 (by decide) (by decide) (by decide) (by decide)
  have k7 : (M' 222 70) = (M 222 70) := g3 70 (by decide) (by decide) (by decide) (by decide) (by decide) (by decide)
  have k8 : (M' 222 71) = (M 222 71) := g3 71 (by decide) (by decide) (by decide) (by decide) (by decide) (by decide)
  refine ⟨hg, ⟨by rw [k1, k2]; exact t1, by rw [k2]; exact t2, by rw [k2]; exact t3, fun i i0 i1 => ?_⟩, ⟨by rw [s1, s2, k2]; exact a1, by rw [k4, k3]; exact a2, by rw [s3, s4]; exact a3, by rw [k6, k8]; exact a4, by rw [s5, s6, s4]; exact a5, by rw [k7, k5]; exact a6, by rw [s7, s4]; exact a7⟩, ⟨by omega, by omega, by omega⟩, fun k k0 k1 => ?_, fun q q0 q1 => ?_⟩
  · rw [f1 1 (by decide) (by decide), g1 224 (by decide) (by decide)]
    exact t4 i i0 (by omega)
  · rw [f1 501 (by decide) (by decide), g1 226 (by decide) (by decide)]
    exact p4 k k0 (by omega)
  · rcases Int.lt_or_le q (M 222 26) with w | w
    · exact hq q q0 w
    · have e : q = (M 222 26) := by omega
      rw [e]; exact hn
/-- parts ahead of the new ones are as they were -/
theorem e_p.below {C M C' M' : ax_V} {P q : Int} (h : e_p C M q) (fC : e_fC C C' P) (fM : e_fM M M' P) (hq : q < P) : e_p C' M' q := by
  have hk := h.2.2.2.2.2.2.2.2.2.2
  refine h.keep (fun c a b _ => fC.2.1 c q (by omega) (by omega) hq) (fun c a b => fM.2.1 c q (by omega) (by omega) hq) (fun k _ _ => by rw [fM.1 226 (by decide) (by decide)]) (fun x hx => ?_)
  have := (hk x hx).1
  exact ⟨fC.2.1 522 x (by decide) (by decide) (by omega), fC.2.1 526 x (by decide) (by decide) (by omega), fM.2.1 252 x (by decide) (by decide) (by omega), fM.2.1 242 x (by decide) (by decide) (by omega)⟩
theorem e_fC.mono {C C' : ax_V} {P P' : Int} (h : e_fC C C' P) (hP : P' ≤ P) : e_fC C C' P' := ⟨h.1, fun c p a b q => h.2.1 c p a b (by omega), h.2.2⟩
theorem e_fM.mono {M M' : ax_V} {P P' : Int} (h : e_fM M M' P) (hP : P' ≤ P) : e_fM M M' P' := ⟨h.1, fun c p a b q => h.2.1 c p a b (by omega), h.2.2⟩
