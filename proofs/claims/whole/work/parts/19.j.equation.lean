/-! AN EQUATION -/
def f_I (C0 M0 C M : ax_V) (u : Int) : Prop := e_R C M ∧ (f_fC C0 C ∧ f_fM M0 M) ∧ f_LL C M ((M 222 10) + 1) ∧ f_B C M u ∧ ((M 222 69) = 0 ∧ (M 222 71) = 0 ∧ u ≤ (M 222 55)) ∧ (0 ≤ (C 600 9) → ∀ q p, 0 ≤ q → q ≤ p → p < (M 222 26) → C 525 q = (C 600 9) → C 525 p = (C 600 9))
/-- what an equation leaves as it is -/
def f_sq (C M C' M' : ax_V) : Prop := ((∀ c, (c < 516 ∨ (531 < c ∧ c < 547) ∨ 555 < c) → c ≠ 600 → C' c = C c) ∧ ∀ j, j ≠ 6 → C' 600 j = C 600 j) ∧ (∀ c, (c < 241 ∨ 266 < c) → c ≠ 222 → M' c = M c) ∧ ∀ j, j ≠ 26 → j ≠ 44 → j ≠ 52 → j ≠ 68 → j ≠ 74 → j ≠ 75 → M' 222 j = M 222 j
def c_ea (C : ax_V) : ax_V := ax_u (ax_u (ax_u (ax_u (ax_u (ax_u (ax_u (ax_u C 547 0 ((C 547 0) + 1)) 548 (C 547 0) (C 547 1)) 548 ((C 547 0) + 1) (C 547 1)) 549 (C 547 0) (C 516 0)) 550 (C 547 0) (C 516 0)) 551 (C 547 0) (C 600 9)) 552 (C 547 0) 0) 553 (C 547 0) 0
theorem t_addEq {B r d : Nat} {C : ax_V} {Φ : Int → ax_V → Prop} {Θ : ax_V → Prop} (hg : ax_g C) (he : 0 ≤ (C 547 0) ∧ (C 547 0) < 350) (h : Φ (C 547 0) (c_ea C)) : ax_I (az_W B (az_ER B r)) (d + 1) q_Equations_add [.ref (B + 47), ax_i (C 600 9), ax_i (C 516 0)] C Φ Θ := by
  refine r_Equations_add hg (hg _ _) (hg _ _) ⟨⟨by omega, by omega⟩, fun V1 e1 => ⟨⟨by omega, by omega⟩, fun V2 e2 => ⟨⟨by omega, by omega⟩, fun V3 e3 => ⟨he, fun V4 e4 => ⟨he, fun V5 e5 => ⟨he, fun V6 e6 => ⟨he, fun V7 e7 => ⟨he, fun V8 e8 => ?_⟩⟩⟩⟩⟩⟩⟩⟩
  have d1 : V1 547 1 = C 547 1 := by rw [e1, ax_u_k (by decide)]
  have d2 : V2 547 1 = C 547 1 := by rw [e2, ax_u_ne (by decide), d1]
  have e9 : V8 = c_ea C := by rw [e8, e7, e6, e5, e4, e3, d2, e2, d1, e1]; rfl
  rw [e9]; exact h
def m_ea (M : ax_V) (a b : Int) : ax_V := ax_u (ax_u (ax_u (ax_u (ax_u M 258 (M 222 44) (M 222 10)) 259 (M 222 44) (M 222 52)) 260 (M 222 44) 0) 263 (M 222 44) a) 264 (M 222 44) b
/-- the X of an equation or of a transition, where it is read -/
theorem e_ok.x {C M C' M' : ax_V} {p tr : Int} (h : e_R C M) (k : e_ok C M C' M' p) (hd : (C 600 13) = 0) (ht : tr = (M 222 71) ∨ tr = 0) : f_x C' M' (M 222 26) p (M 222 10) (C 600 9) tr 0 := by
  obtain ⟨k1, k2, k3, k4, k5, k6, k7, k8, k9⟩ := k
  have p0 := h.2.2.2.1
  have hs := h.2.2.1.2.2.2.2.2.1
  have dl : C' 526 p = 0 := by rw [k5.2.2, hd]; rfl
  have hp := k6.2.2 p k4.2.2 (by omega)
  refine ⟨⟨p0.2.1, k4.2.2, by omega⟩, ⟨dl, hp.2.1⟩, fun q a b => ?_⟩
  obtain ⟨e1, e2, e3, e4, e5, e6⟩ := k6.2.2 q a (by omega)
  refine ⟨⟨e3, e1, e4⟩, fun z => e6.2 ?_, fun z => e6.1 ?_, fun x hx => k8 q x a (by omega) hx, fun z => ⟨e2, ?_⟩⟩
  · rcases hs with hs | hs
    · exact absurd hs.2 z
    · exact hs.1
  · rcases ht with ht | ht <;> omega
  · obtain ⟨w, w1, w2, w3⟩ := k9 q a z
    exact ⟨w, w1, w2, by rw [k4.2.1]; exact w3⟩
section Equation
variable {B r : Nat} {C0 M0 C M : ax_V} {u x1 x2 : Int}
set_option maxHeartbeats 2000000 in
/-- one equation more in the tables -/
theorem f_B.eq {C' M' : ax_V} {p L2 : Int} (hR : e_R C M) (hB : f_B C M u) (hst : f_st C M (C 600 9) x1 x2 (M 222 10)) (hcs : 0 ≤ (C 600 9) → ∀ q p, 0 ≤ q → q ≤ p → p < (M 222 26) → C 525 q = (C 600 9) → C 525 p = (C 600 9)) (hu : u ≤ (M 222 55))
    (cA : ∀ c, (c < 516 ∨ (531 < c ∧ c < 547) ∨ 555 < c) → c ≠ 600 → C' c = C c) (cP : ∀ c q, 517 ≤ c → c ≤ 531 → q < (M 222 26) → C' c q = C c q) (cE : ∀ c i, 549 ≤ c → c ≤ 553 → i ≠ (M 222 44) → C' c i = C c i) (c48 : ∀ i, i < (M 222 44) → C' 548 i = C 548 i) (c48a : C' 548 (M 222 44) = (M 222 52)) (c48b : C' 548 ((M 222 44) + 1) = L2) (c54 : ∀ i, i < (M 222 52) → C' 554 i = C 554 i ∧ C' 555 i = C 555 i) (c47 : C' 547 0 = (M 222 44) + 1 ∧ C' 547 1 = L2)
    (cV : C' 549 (M 222 44) = (M 222 26) ∧ C' 550 (M 222 44) = p ∧ C' 551 (M 222 44) = (C 600 9) ∧ C' 552 (M 222 44) = 0 ∧ C' 553 (M 222 44) = 0)
    (mA : ∀ c, (c < 241 ∨ 266 < c) → c ≠ 222 → M' c = M c) (mP : ∀ c q, 241 ≤ c → c ≤ 257 → q < (M 222 26) → M' c q = M c q) (mE : ∀ c i, 258 ≤ c → c ≤ 264 → i ≠ (M 222 44) → M' c i = M c i) (m65 : ∀ i, i < (M 222 52) → M' 265 i = M 265 i ∧ M' 266 i = M 266 i) (mV : M' 258 (M 222 44) = (M 222 10) ∧ M' 259 (M 222 44) = (M 222 52) ∧ M' 260 (M 222 44) = L2 - (M 222 52) ∧ M' 261 (M 222 44) = (M 222 26) ∧ M' 262 (M 222 44) = p ∧ M' 263 (M 222 44) = x1 ∧ M' 264 (M 222 44) = x2)
    (mS : (M' 222 44) = (M 222 44) + 1 ∧ (M' 222 52) = L2 ∧ (M' 222 26) = p + 1 ∧ (M' 222 10) = (M 222 10) ∧ (M' 222 55) = (M 222 55) ∧ (M' 222 60) = (M 222 60)) (hL : (M 222 52) < L2) (hat : (M 222 68) + 2 ≤ (M' 222 68) ∧ 2 * L2 ≤ (M' 222 68)) (hx : f_x C' M' (M 222 26) p (M 222 10) (C 600 9) 0 (L2 - (M 222 52))) (hh : ∀ h, (M 222 52) ≤ h → h < L2 → f_h C' M' (M 222 10) h) (hlo : (∀ h, (M 222 52) ≤ h → h < L2 → (M 222 68) ≤ M' 266 h ∧ M' 266 h < (M' 222 68)) ∧ (∀ i j, (M 222 52) ≤ i → i < j → j < L2 → M' 266 i < M' 266 j) ∧ ∀ q, (M 222 26) ≤ q → q ≤ p → M' 266 (M 222 52) ≤ M' 242 q) : f_B C' M' u := by
  obtain ⟨hc, he, ha, hac, ht, hcv, hnd⟩ := hB
  obtain ⟨s1, s2, s3, s4, s5, s6⟩ := mS
  have p0 := hR.2.2.2.1
  have hn := hR.2.2.1.2.1
  have hx1 := hx.1
  have cst : C' 556 = C 556 := cA 556 (by decide) (by decide)
  have g : f_gr C M C' M' := by
    refine ⟨⟨fun c q a b z w => cP c q a (by omega) w, fun c q a b z w => mP c q a (by omega) w⟩, ⟨fun c i a b z w => cE c i a b (by omega), fun i z w v => ?_, fun i z w => c54 i w, fun c i a b z w => mE c i a b (by omega), fun i z w => m65 i w⟩, ⟨fun c a z _ _ => by rw [cA c (by omega) (by omega)], fun _ => by rw [cA 558 (by decide) (by decide), cA 559 (by decide) (by decide)]; exact ⟨Int.le_refl _, Int.le_refl _⟩, fun c s a b _ _ => by rw [cA c (by omega) (by omega)], fun c s a b _ _ => by rw [cA c (by omega) (by omega)], fun c a z _ _ => by rw [mA c (by omega) (by omega)], fun a _ _ => by rw [mA 269 (by decide) (by decide)], fun c s a b _ _ => by rw [mA c (by omega) (by omega)]⟩, by omega, by omega, by omega, by rw [cst]; exact Int.le_refl _, by rw [cst]; exact Int.le_refl _, by rw [cst]; exact Int.le_refl _⟩
    rcases Int.lt_or_le i (M 222 44) with q | q
    · exact c48 i q
    · have e : i = (M 222 44) := by omega
      rw [e, c48a]
      rcases hc.2.2.2.2.2.1 with z2 | z2
      · omega
      · exact z2.symm
  obtain ⟨v1, v2, v3, v4, v5⟩ := cV
  obtain ⟨w1, w2, w3, w4, w5, w6, w7⟩ := mV
  have fe : f_e C' M' (M 222 44) := by
    unfold f_e
    rw [v1, v2, v3, v4, v5, w1, w2, w3, w4, w5, w6, w7, c48a, c48b]
    refine ⟨⟨hn.2.1, by omega⟩, ⟨rfl, by omega⟩, ⟨hc.2.1.2.1, by omega, by omega⟩, ⟨rfl, rfl, rfl, rfl⟩, g.st hc.2.2.1.1 hst, hx, fun h a b => hh h a (by omega)⟩
  refine ⟨?_, fun e a b => ?_, fun a z w => ?_, fun a z w => ?_, fun m a b => ?_, ?_, ?_⟩
  · unfold f_ct
    rw [s1, s2, s5, s6, cst, c47.1, c47.2, c48b, cA 558 (by decide) (by decide), cA 559 (by decide) (by decide)]
    obtain ⟨d1, d2, d3, d4, d5, d6, d7⟩ := hc
    exact ⟨⟨rfl, by omega, by omega⟩, ⟨rfl, by omega, by omega⟩, ⟨d3.1, d3.2.1, by omega⟩, ⟨d4.1, by omega⟩, ⟨d5.1, d5.2.1, by omega⟩, Or.inr rfl, d7⟩
  · rcases Int.lt_or_le e (M 222 44) with q | q
    · exact g.e hR hc a q (he e a q)
    · have e' : e = (M 222 44) := by omega
      rw [e']; exact fe
  · exact g.a hc z (by omega) (Or.inr ⟨by rw [cA 558 (by decide) (by decide)], by rw [cA 559 (by decide) (by decide)]⟩) (ha a z (by omega))
  · exact g.ac z (by omega) (Or.inr ⟨by rw [cA 558 (by decide) (by decide)], by rw [mA 269 (by decide) (by decide)]⟩) (hac a z w)
  · exact g.t hR hc a (by omega) (ht m a (by omega))
  · refine ⟨fun q a b => ?_, fun q p' w a b z y k1 k2 => ?_, ⟨fun e e' a b z => ?_, fun m m' a b z => ?_, fun e m a b z y => ?_⟩, fun i j a b z => ?_, fun i a b => ?_, fun e q a b z y => ?_, fun _ => ?_, fun z => by have := hc.1.2.1; omega⟩
    · rcases Int.lt_or_le q (M 222 26) with z | z
      · rcases hcv.1 q a z with ⟨e, e1, e2, e3, e4⟩ | ⟨m, e1, e2, e3, e4⟩
        · exact Or.inl ⟨e, e1, by omega, by rw [mE 261 e (by decide) (by decide) (by omega)]; exact e3, by rw [mE 262 e (by decide) (by decide) (by omega)]; exact e4⟩
        · exact Or.inr ⟨m, e1, by omega, by rw [mA 276 (by decide) (by decide)]; exact e3, by rw [mA 277 (by decide) (by decide)]; exact e4⟩
      · exact Or.inl ⟨(M 222 44), hc.1.2.1, by omega, by rw [w4]; exact z, by rw [w5]; omega⟩
    · have hs : ∀ q, (M 222 26) ≤ q → q ≤ p → C' 525 q = (C 600 9) := fun q a b => (hx.2.2 q a b).1.2.1
      rcases Int.lt_or_le w (M 222 26) with z1 | z1
      · rw [cP 525 q (by decide) (by decide) (by omega)] at k1 k2 ⊢
        rw [cP 525 w (by decide) (by decide) z1] at k2
        rw [cP 525 p' (by decide) (by decide) (by omega)]
        exact hcv.2.1 q p' w a b z z1 k1 k2
      · rw [hs w z1 (by omega)] at k2
        rcases Int.lt_or_le p' (M 222 26) with z2 | z2
        · rw [cP 525 q (by decide) (by decide) (by omega)] at k1 k2 ⊢
          rw [cP 525 p' (by decide) (by decide) z2, ← k2]
          exact hcs (by omega) q p' a b z2 k2.symm
        · rw [hs p' z2 (by omega)]; exact k2
    · rw [mE 262 e (by decide) (by decide) (by omega)]
      have u := (he e a (by omega)).2.2.2.2.2.1.1
      rcases Int.lt_or_le e' (M 222 44) with q | q
      · rw [mE 261 e' (by decide) (by decide) (by omega)]; exact hcv.2.2.1.1 e e' a b q
      · rw [show e' = (M 222 44) by omega, w4]; omega
    · rw [mA 276 (by decide) (by decide), mA 277 (by decide) (by decide)]; exact hcv.2.2.1.2.1 m m' a b (by omega)
    · rw [mA 276 (by decide) (by decide), mA 277 (by decide) (by decide)]
      have u := (ht m z (by omega)).2.2.2.2.2.2.2.1
      rcases Int.lt_or_le e (M 222 44) with q | q
      · rw [mE 261 e (by decide) (by decide) (by omega), mE 262 e (by decide) (by decide) (by omega)]; exact hcv.2.2.1.2.2 e m a q z (by omega)
      · rw [show e = (M 222 44) by omega, w4]; exact Or.inr (by omega)
    · rw [s2] at z
      rcases Int.lt_or_le j (M 222 52) with q | q
      · rw [(m65 i (by omega)).2, (m65 j q).2]; exact hcv.2.2.2.1 i j a b q
      · rcases Int.lt_or_le i (M 222 52) with q2 | q2
        · rw [(m65 i q2).2]
          have u1 := hcv.2.2.2.2.1 i a q2
          have u2 := (hlo.1 j q z).1
          omega
        · exact hlo.2.1 i j q2 b z
    · rw [s2] at b
      rcases Int.lt_or_le i (M 222 52) with q | q
      · rw [(m65 i q).2]
        have u1 := hcv.2.2.2.2.1 i a q
        omega
      · exact (hlo.1 i q b).2
    · rcases Int.lt_or_le e (M 222 44) with q2 | q2
      · have u := he e a q2
        have u1 := u.2.2.1
        have u2 := u.2.2.2.2.2.1.1
        rw [mE 261 e (by decide) (by decide) (by omega)] at z
        rw [mE 262 e (by decide) (by decide) (by omega)] at y
        rw [mE 259 e (by decide) (by decide) (by omega), (m65 _ (by omega)).2, mP 242 q (by decide) (by decide) (by omega)]
        exact hcv.2.2.2.2.2.1 e q a q2 z y
      · rw [show e = (M 222 44) by omega] at z y ⊢
        rw [w4] at z
        rw [w5] at y
        rw [w2]
        exact hlo.2.2 q z y
    · rcases Int.lt_or_le 0 (M 222 44) with q | q
      · rw [mE 259 0 (by decide) (by decide) (by omega)]; exact hcv.2.2.2.2.2.2.1 q
      · have e0 : (M 222 44) = 0 := by have := hc.1.2.1; omega
        have l0 := hcv.2.2.2.2.2.2.2 e0
        rw [e0, l0] at w2
        exact w2
  · obtain ⟨n1, n2, n3, n4, n5, n6⟩ := hnd
    have cn : ∀ c, c ≤ 515 → C' c = C c := fun c z => cA c (by omega) (by omega)
    unfold f_nd
    rw [cn 502 (by decide), cn 508 (by decide), cn 509 (by decide), cn 510 (by decide), mA 287 (by decide) (by decide), mA 267 (by decide) (by decide), s1, s3, s4, s5]
    refine ⟨fun q a b => ?_, fun e a b => ?_, n3, n4, n5, ⟨by omega, by omega, n6.2.2⟩⟩
    · rcases Int.lt_or_le q (M 222 26) with z | z
      · rw [mP 250 q (by decide) (by decide) z]; exact n1 q a z
      · rw [(hx.2.2 q z (by omega)).1.1]
        exact ⟨⟨hn.2.1, Int.le_refl _⟩, by omega, fun k => by omega⟩
    · rcases Int.lt_or_le e (M 222 44) with z | z
      · rw [mE 258 e (by decide) (by decide) (by omega)]; exact n2 e a z
      · have e' : e = (M 222 44) := by omega
        rw [e', w1]
        exact ⟨by omega, fun k => by omega⟩
end Equation
