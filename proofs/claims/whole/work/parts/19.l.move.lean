/-! A TRANSITION in the tables -/
section Move
variable {C M : ax_V} {x1 x2 : Int}
set_option maxHeartbeats 2000000 in
theorem f_B.mv {C' M' : ax_V} {p st an tg pl : Int} (hR : e_R C M) (hB : f_B C M x1) (hst : f_st C M (C 600 9) x1 x2 (M 222 10)) (h0 : 0 ≤ x1) (hx1 : x1 + 1 = (M 222 55)) (hcs : 0 ≤ (C 600 9) → ∀ q p, 0 ≤ q → q ≤ p → p < (M 222 26) → C 525 q = (C 600 9) → C 525 p = (C 600 9))
    (cA : ∀ c, (c < 516 ∨ (531 < c ∧ c < 556) ∨ (556 < c ∧ c < 559) ∨ (559 < c ∧ c < 567)) → C' c = C c) (c56 : C' 556 0 = C 556 0 ∧ C' 556 1 = C 556 1 ∧ C' 556 2 = (M 222 60) + 1) (c59 : (∀ i, i ≠ (M 222 55) → C' 559 i = C 559 i) ∧ C' 559 (M 222 55) = (M 222 60) + 1) (cM : ∀ c i, 567 ≤ c → c ≤ 573 → i ≠ (M 222 60) → C' c i = C c i) (cP : ∀ c q, 517 ≤ c → c ≤ 531 → q < (M 222 26) → C' c q = C c q)
    (cV : C' 567 (M 222 60) = (C 600 9) ∧ C' 568 (M 222 60) = st ∧ C' 569 (M 222 60) = an ∧ C' 570 (M 222 60) = (M 222 26) ∧ C' 571 (M 222 60) = p ∧ C' 572 (M 222 60) = tg ∧ C' 573 (M 222 60) = pl)
    (mA : ∀ c, (c < 241 ∨ (257 < c ∧ c < 271) ∨ 278 < c) → c ≠ 222 → M' c = M c) (mP : ∀ c q, 241 ≤ c → c ≤ 257 → q < (M 222 26) → M' c q = M c q) (mM : ∀ c i, 271 ≤ c → c ≤ 278 → i ≠ (M 222 60) → M' c i = M c i)
    (mV : M' 271 (M 222 60) = x1 ∧ M' 272 (M 222 60) = x2 ∧ M' 273 (M 222 60) = st ∧ M' 274 (M 222 60) = an ∧ M' 275 (M 222 60) = tg ∧ M' 276 (M 222 60) = (M 222 26) ∧ M' 277 (M 222 60) = p ∧ M' 278 (M 222 60) = pl)
    (mS : (M' 222 44) = (M 222 44) ∧ (M' 222 52) = (M 222 52) ∧ (M' 222 26) = p + 1 ∧ (M' 222 10) = (M 222 10) ∧ (M' 222 55) = (M 222 55) ∧ (M' 222 60) = (M 222 60) + 1) (hat : (M 222 68) + 2 ≤ (M' 222 68)) (hs : st = 0 ∨ st = 1) (ha' : an = 0 ∨ an = 1) (htg : 0 ≤ tg ∧ tg ≤ 9) (hpl : e_pl pl) (hx : f_x C' M' (M 222 26) p (M 222 10) (C 600 9) 1 0) : f_B C' M' x1 := by
  obtain ⟨hc, he, ha, hac, ht, hcv, hnd⟩ := hB
  obtain ⟨s1, s2, s3, s4, s5, s6⟩ := mS
  have p0 := hR.2.2.2.1
  have hn := hR.2.2.1.2.1
  have hxx := hx.1
  have hT0 := hc.2.2.2.2.1
  have hend := hc.2.2.2.2.2.2.1
  have hend' : C 558 (M 222 55) = (C 556 1) ∧ C 559 (M 222 55) = (M 222 60) := by
    rcases hend with z | z
    · omega
    · exact z
  have g : f_gr C M C' M' := by
    refine ⟨⟨fun c q a b z w => cP c q a (by omega) w, fun c q a b z w => mP c q a (by omega) w⟩, ⟨fun c i a b z w => by rw [cA c (by omega)], fun i z w v => by rw [cA 548 (by decide)], fun i z w => by rw [cA 554 (by decide), cA 555 (by decide)]; exact ⟨rfl, rfl⟩, fun c i a b z w => by rw [mA c (by omega) (by omega)], fun i z w => by rw [mA 265 (by decide) (by decide), mA 266 (by decide) (by decide)]; exact ⟨rfl, rfl⟩⟩, ⟨fun c a z u v => ?_, fun _ => ?_, fun c s a b _ _ => by rw [cA c (by omega)], fun c s a b _ w => cM c s a b (by omega), fun c a z _ _ => by rw [mA c (by omega) (by omega)], fun a _ _ => by rw [mA 269 (by decide) (by decide)], fun c s a b _ w => mM c s a b (by omega)⟩, by omega, by omega, by omega, by rw [c56.2.1]; exact Int.le_refl _, by rw [c56.2.2]; omega, by rw [c56.1]; exact Int.le_refl _⟩
    · by_cases w : c = 559
      · rw [w]; exact c59.1 a (by omega)
      · rw [cA c (by omega)]
    · rw [cA 558 (by decide), c59.2, hend'.2]; exact ⟨Int.le_refl _, by omega⟩
  obtain ⟨v1, v2, v3, v4, v5, v6, v7⟩ := cV
  obtain ⟨w1, w2, w3, w4, w5, w6, w7, w8⟩ := mV
  have hst' := hst
  have hnode : M 267 x1 = (M 222 10) := by
    rcases hst' with z | z
    · omega
    · exact z.2.2.2.2.2.2
  have fa := ha x1 h0 (by omega)
  have ft : f_t C' M' (M 222 60) := by
    unfold f_t
    rw [v1, v2, v3, v4, v5, v6, v7, w1, w2, w3, w4, w5, w6, w7, w8, mA 267 (by decide) (by decide), hnode, hx1, c59.2, c59.1 x1 (by omega)]
    have := fa.2.2.2.1
    rw [hx1] at this
    exact ⟨⟨h0, g.st hc.2.2.1.1 hst⟩, ⟨by omega, by omega⟩, ⟨rfl, hs⟩, ⟨rfl, ha'⟩, ⟨rfl, rfl⟩, ⟨rfl, htg.1, htg.2⟩, ⟨rfl, hpl⟩, hx⟩
  refine ⟨?_, fun e a b => ?_, fun a z w => ?_, fun a z w => ?_, fun m a b => ?_, ?_, ?_⟩
  · unfold f_ct
    rw [s1, s2, s5, s6, c56.1, c56.2.1, c56.2.2, cA 547 (by decide), cA 548 (by decide), cA 558 (by decide), c59.2]
    obtain ⟨d1, d2, d3, d4, d5, d6, d7⟩ := hc
    exact ⟨⟨d1.1, d1.2.1, by omega⟩, ⟨d2.1, d2.2.1, by omega⟩, ⟨d3.1, d3.2.1, by omega⟩, ⟨d4.1, by omega⟩, ⟨rfl, by omega, by omega⟩, d6, Or.inr ⟨hend'.1, rfl⟩, d7.2⟩
  · exact g.e hR hc a (by omega) (he e a (by omega))
  · rcases Int.lt_or_le (a + 1) (M 222 55) with q | q
    · exact g.a hc z (by omega) (Or.inl q) (ha a z (by omega))
    · have e' : a = x1 := by omega
      rw [e']
      obtain ⟨k1, k2, k3, k4, k5, k6⟩ := fa
      have d9 : C' 559 x1 = C 559 x1 := c59.1 x1 (by omega)
      have d8 : C' 559 (x1 + 1) = (M 222 60) + 1 := by rw [hx1]; exact c59.2
      rw [hx1, hend'.2] at k4
      unfold f_a
      rw [cA 557 (by decide), cA 558 (by decide), cA 560 (by decide), cA 561 (by decide), cA 562 (by decide), cA 563 (by decide), cA 564 (by decide), cA 565 (by decide), cA 566 (by decide), mA 267 (by decide) (by decide), mA 268 (by decide) (by decide), d9, d8, c56.2.1, c56.2.2, s4]
      exact ⟨k1, k2, k3, ⟨k4.1, by omega, Int.le_refl _⟩, k5, k6⟩
  · exact g.ac z (by omega) (Or.inl (by omega)) (hac a z w)
  · rcases Int.lt_or_le m (M 222 60) with q | q
    · exact g.t hR hc a q (ht m a q)
    · have e' : m = (M 222 60) := by omega
      rw [e']; exact ft
  · refine ⟨fun q a b => ?_, fun q p' w a b z y k1 k2 => ?_, ⟨fun e e' a b z => ?_, fun m m' a b z => ?_, fun e m a b z y => ?_⟩, fun i j a b z => ?_, fun i a b => ?_, fun e q a b z y => ?_, ?_⟩
    · rcases Int.lt_or_le q (M 222 26) with z | z
      · rcases hcv.1 q a z with ⟨e, e1, e2, e3, e4⟩ | ⟨m, e1, e2, e3, e4⟩
        · exact Or.inl ⟨e, e1, by omega, by rw [mA 261 (by decide) (by decide)]; exact e3, by rw [mA 262 (by decide) (by decide)]; exact e4⟩
        · exact Or.inr ⟨m, e1, by omega, by rw [mM 276 m (by decide) (by decide) (by omega)]; exact e3, by rw [mM 277 m (by decide) (by decide) (by omega)]; exact e4⟩
      · exact Or.inr ⟨(M 222 60), hT0.2.1, by omega, by rw [w6]; exact z, by rw [w7]; omega⟩
    · have hs' : ∀ q, (M 222 26) ≤ q → q ≤ p → C' 525 q = (C 600 9) := fun q a b => (hx.2.2 q a b).1.2.1
      rcases Int.lt_or_le w (M 222 26) with z1 | z1
      · rw [cP 525 q (by decide) (by decide) (by omega)] at k1 k2 ⊢
        rw [cP 525 w (by decide) (by decide) z1] at k2
        rw [cP 525 p' (by decide) (by decide) (by omega)]
        exact hcv.2.1 q p' w a b z z1 k1 k2
      · rw [hs' w z1 (by omega)] at k2
        rcases Int.lt_or_le p' (M 222 26) with z2 | z2
        · rw [cP 525 q (by decide) (by decide) (by omega)] at k1 k2 ⊢
          rw [cP 525 p' (by decide) (by decide) z2, ← k2]
          exact hcs (by omega) q p' a b z2 k2.symm
        · rw [hs' p' z2 (by omega)]; exact k2
    · rw [mA 261 (by decide) (by decide), mA 262 (by decide) (by decide)]; exact hcv.2.2.1.1 e e' a b (by omega)
    · rw [mM 277 m (by decide) (by decide) (by omega)]
      have u := (ht m a (by omega)).2.2.2.2.2.2.2.1
      rcases Int.lt_or_le m' (M 222 60) with q | q
      · rw [mM 276 m' (by decide) (by decide) (by omega)]; exact hcv.2.2.1.2.1 m m' a b q
      · rw [show m' = (M 222 60) by omega, w6]; omega
    · rw [mA 261 (by decide) (by decide), mA 262 (by decide) (by decide)]
      have u := (he e a (by omega)).2.2.2.2.2.1.1
      rcases Int.lt_or_le m (M 222 60) with q | q
      · rw [mM 276 m (by decide) (by decide) (by omega), mM 277 m (by decide) (by decide) (by omega)]; exact hcv.2.2.1.2.2 e m a (by omega) z q
      · rw [show m = (M 222 60) by omega, w6]; exact Or.inl (by omega)
    · rw [mA 266 (by decide) (by decide)]; exact hcv.2.2.2.1 i j a b (by omega)
    · rw [mA 266 (by decide) (by decide)]
      have := hcv.2.2.2.2.1 i a (by omega)
      omega
    · rw [mA 261 (by decide) (by decide)] at z
      rw [mA 262 (by decide) (by decide)] at y
      have u := (he e a (by omega)).2.2.2.2.2.1.1
      rw [mA 259 (by decide) (by decide), mA 266 (by decide) (by decide), mP 242 q (by decide) (by decide) (by omega)]
      exact hcv.2.2.2.2.2.1 e q a (by omega) z y
    · rw [s1, s2, mA 259 (by decide) (by decide)]; exact hcv.2.2.2.2.2.2
  · obtain ⟨n1, n2, n3, n4, n5, n6⟩ := hnd
    have cn : ∀ c, c ≤ 515 → C' c = C c := fun c z => cA c (by omega)
    unfold f_nd
    rw [cn 502 (by decide), cn 508 (by decide), cn 509 (by decide), cn 510 (by decide), mA 287 (by decide) (by decide), mA 267 (by decide) (by decide), mA 258 (by decide) (by decide), s1, s3, s4, s5]
    refine ⟨fun q a b => ?_, n2, n3, n4, n5, ⟨by omega, n6.2.1, n6.2.2⟩⟩
    rcases Int.lt_or_le q (M 222 26) with z | z
    · rw [mP 250 q (by decide) (by decide) z]; exact n1 q a z
    · rw [(hx.2.2 q z (by omega)).1.1]
      exact ⟨⟨hn.2.1, Int.le_refl _⟩, by omega, fun k => by omega⟩
end Move
