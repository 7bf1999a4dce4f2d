/-! AN AUTOMATON IS BEGUN, and a state of it: the tables -/
theorem f_B.sl {C M : ax_V} {u q : Int} (h : f_B C M u) (q0 : 0 ≤ q) (q1 : q < (M 222 26)) : C 525 q < (C 556 1) := by
  obtain ⟨hc, he, ha, -, ht, hcv, -⟩ := h
  have hs := hc.2.2.2.1
  have hcc := hc.2.2.1
  rcases hcv.1 q q0 q1 with ⟨e, e1, e2, e3, e4⟩ | ⟨m, e1, e2, e3, e4⟩
  · have fe := he e e1 e2
    rw [(fe.2.2.2.2.2.1.2.2 q e3 e4).1.2.1]
    rcases fe.2.2.2.2.1 with z | ⟨z1, z2, z3, z4, z5, z6, z7⟩
    · omega
    · have := (ha _ z1 (by omega)).2.2.1
      omega
  · have ft := ht m e1 e2
    rw [(ft.2.2.2.2.2.2.2.2.2 q e3 e4).1.2.1]
    rcases ft.1.2 with z | ⟨z1, z2, z3, z4, z5, z6, z7⟩
    · omega
    · have := (ha _ z1 (by omega)).2.2.1
      omega
def c_aa (C : ax_V) (p : Int) : ax_V := ax_u (ax_u (ax_u (ax_u (ax_u (ax_u (ax_u (ax_u (ax_u C 556 0 ((C 556 0) + 1)) 557 (C 556 0) p) 558 (C 556 0) (C 556 1)) 558 ((C 556 0) + 1) (C 556 1)) 559 (C 556 0) (C 556 2)) 559 ((C 556 0) + 1) (C 556 2)) 560 (C 556 0) 0) 561 (C 556 0) 0) 562 (C 556 0) 0
theorem t_addAu {B r d : Nat} {C : ax_V} {Φ : Int → ax_V → Prop} {Θ : ax_V → Prop} {p : Int} (hg : ax_g C) (rp : ax_rg p) (he : 0 ≤ (C 556 0) ∧ (C 556 0) < 350) (h : Φ (C 556 0) (c_aa C p)) : ax_I (az_W B (az_ER B r)) (d + 1) q_Automata_add [.ref (B + 56), ax_i p] C Φ Θ := by
  refine r_Automata_add hg rp ⟨⟨by omega, by omega⟩, fun V1 e1 => ⟨he, fun V2 e2 => ⟨⟨by omega, by omega⟩, fun V3 e3 => ⟨⟨by omega, by omega⟩, fun V4 e4 => ⟨⟨by omega, by omega⟩, fun V5 e5 => ⟨⟨by omega, by omega⟩, fun V6 e6 => ⟨he, fun V7 e7 => ⟨he, fun V8 e8 => ⟨he, fun V9 e9 => ?_⟩⟩⟩⟩⟩⟩⟩⟩⟩
  have d2 : V2 556 1 = C 556 1 := by rw [e2, ax_u_ne (by decide), e1, ax_u_k (by decide)]
  have d3 : V3 556 1 = C 556 1 := by rw [e3, ax_u_ne (by decide), d2]
  have d4 : V4 556 2 = C 556 2 := by rw [e4, ax_u_ne (by decide), e3, ax_u_ne (by decide), e2, ax_u_ne (by decide), e1, ax_u_k (by decide)]
  have d5 : V5 556 2 = C 556 2 := by rw [e5, ax_u_ne (by decide), d4]
  have e10 : V9 = c_aa C p := by rw [e9, e8, e7, e6, d5, e5, d4, e4, d3, e3, d2, e2, e1]; rfl
  rw [e10]; exact h
def c_as (C : ax_V) (a : Int) : ax_V := ax_u (ax_u (ax_u (ax_u (ax_u (ax_u C 556 1 ((C 556 1) + 1)) 558 (a + 1) ((C 556 1) + 1)) 563 (C 556 1) a) 564 (C 556 1) 0) 565 (C 556 1) 0) 566 (C 556 1) 0
theorem t_addState {B r d : Nat} {C : ax_V} {Φ : Int → ax_V → Prop} {Θ : ax_V → Prop} {a : Int} (hg : ax_g C) (ha : 0 ≤ a ∧ a < 350) (he : 0 ≤ (C 556 1) ∧ (C 556 1) < 350) (h : Φ (C 556 1) (c_as C a)) : ax_I (az_W B (az_ER B r)) (d + 1) q_Automata_addState [.ref (B + 56), ax_i a] C Φ Θ := by
  refine r_Automata_addState hg ⟨by omega, by omega⟩ ⟨⟨by omega, by omega⟩, fun V1 e1 => ⟨⟨by omega, by omega⟩, fun V2 e2 => ⟨he, fun V3 e3 => ⟨he, fun V4 e4 => ⟨he, fun V5 e5 => ⟨he, fun V6 e6 => ?_⟩⟩⟩⟩⟩⟩
  have d1 : V1 556 1 = C 556 1 + 1 := by rw [e1]; exact ax_u_s _ _ _ _
  have e10 : V6 = c_as C a := by rw [e6, e5, e4, e3, e2, d1, e1]; rfl
  rw [e10]; exact h
section Begun
variable {C M : ax_V} {u x1 : Int}
set_option maxHeartbeats 2000000 in
/-- one automaton more in the tables, without states -/
theorem f_B.aa {C' M' : ax_V} {A S T p : Int} (hR : e_R C M) (hB : f_B C M A) (eA : A = (M 222 55)) (eS : S = (C 556 1)) (eT : T = (M 222 60)) (hp : e_pl p)
    (cA : ∀ c, c ≠ 600 → c ≠ 556 → c ≠ 557 → c ≠ 558 → c ≠ 559 → c ≠ 560 → c ≠ 561 → c ≠ 562 → C' c = C c) (c56 : C' 556 0 = A + 1 ∧ C' 556 1 = S ∧ C' 556 2 = T) (cI : ∀ c i, 557 ≤ c → c ≤ 562 → i ≠ A → i ≠ A + 1 → C' c i = C c i)
    (cV : C' 557 A = p ∧ C' 558 A = S ∧ C' 558 (A + 1) = S ∧ C' 559 A = T ∧ C' 559 (A + 1) = T ∧ C' 560 A = 0 ∧ C' 561 A = 0 ∧ C' 562 A = 0)
    (mA : ∀ c, c ≠ 222 → c ≠ 267 → c ≠ 268 → c ≠ 269 → M' c = M c) (mI : ∀ c i, i ≠ A → c ≠ 222 → M' c i = M c i) (mV : M' 267 A = (M 222 10) ∧ M' 268 A = p)
    (mS : (M' 222 44) = (M 222 44) ∧ (M' 222 52) = (M 222 52) ∧ (M' 222 26) = (M 222 26) ∧ (M' 222 10) = (M 222 10) ∧ (M' 222 55) = A + 1 ∧ (M' 222 60) = T) (hat : (M 222 68) ≤ (M' 222 68)) (hat2 : 2 * (A + 1) ≤ (M' 222 68)) : f_B C' M' A := by
  obtain ⟨hc, he, ha, hac, ht, hcv, hnd⟩ := hB
  obtain ⟨s1, s2, s3, s4, s5, s6⟩ := mS
  have p0 := hR.2.2.2.1
  have hn := hR.2.2.1.2.1
  have hA0 := hc.2.2.1
  have hS0 := hc.2.2.2.1
  have hT0 := hc.2.2.2.2.1
  have hend := hc.2.2.2.2.2.2.1
  have g : f_gr C M C' M' := by
    refine ⟨⟨fun c q a b z w => by rw [cA c (by omega) (by omega) (by omega) (by omega) (by omega) (by omega) (by omega) (by omega)], fun c q a b z w => by rw [mA c (by omega) (by omega) (by omega) (by omega)]⟩, ⟨fun c i a b z w => by rw [cA c (by omega) (by omega) (by omega) (by omega) (by omega) (by omega) (by omega) (by omega)], fun i z w v => by rw [cA 548 (by decide) (by decide) (by decide) (by decide) (by decide) (by decide) (by decide) (by decide)], fun i z w => by rw [cA 554 (by decide) (by decide) (by decide) (by decide) (by decide) (by decide) (by decide) (by decide), cA 555 (by decide) (by decide) (by decide) (by decide) (by decide) (by decide) (by decide) (by decide)]; exact ⟨rfl, rfl⟩, fun c i a b z w => by rw [mA c (by omega) (by omega) (by omega) (by omega)], fun i z w => by rw [mA 265 (by decide) (by decide) (by decide) (by decide), mA 266 (by decide) (by decide) (by decide) (by decide)]; exact ⟨rfl, rfl⟩⟩, ⟨fun c a z v w => cI c a (by omega) (by omega) (by omega) (by omega), fun z => ?_, fun c s a b _ _ => by rw [cA c (by omega) (by omega) (by omega) (by omega) (by omega) (by omega) (by omega) (by omega)], fun c s a b _ _ => by rw [cA c (by omega) (by omega) (by omega) (by omega) (by omega) (by omega) (by omega) (by omega)], fun c a z v w => mI c a (by omega) (by omega), fun a v w => mI 269 a (by omega) (by decide), fun c s a b _ _ => by rw [mA c (by omega) (by omega) (by omega) (by omega)]⟩, by omega, by omega, by omega, by rw [c56.2.1]; omega, by rw [c56.2.2]; omega, by rw [c56.1]; omega⟩
    rw [← eA, cV.2.1, cV.2.2.2.1]
    rcases hend with w | w
    · omega
    · rw [← eA] at w; omega
  obtain ⟨v1, v2, v3, v4, v5, v6, v7, v8⟩ := cV
  refine ⟨?_, fun e a b => ?_, fun a z w => ?_, fun a z w => ?_, fun m a b => ?_, ?_, ?_⟩
  · unfold f_ct
    rw [s1, s2, s5, s6, c56.1, c56.2.1, c56.2.2, cA 547 (by decide) (by decide) (by decide) (by decide) (by decide) (by decide) (by decide) (by decide), cA 548 (by decide) (by decide) (by decide) (by decide) (by decide) (by decide) (by decide) (by decide), v3, v5]
    obtain ⟨d1, d2, d3, d4, d5, d6, d7⟩ := hc
    exact ⟨⟨d1.1, d1.2.1, by omega⟩, ⟨d2.1, d2.2.1, by omega⟩, ⟨rfl, by omega, hat2⟩, ⟨by omega, by omega⟩, ⟨rfl, by omega, by omega⟩, d6, Or.inr ⟨rfl, rfl⟩, fun z => by omega, fun _ => by
      by_cases zA : A = 0
      · have v2' := v2
        rw [zA] at v2'
        rw [v2', eS]; exact d7.2.1 (by omega)
      · rw [cI 558 0 (by decide) (by decide) (by omega) (by omega)]; exact d7.2.2 (by omega)⟩
  · exact g.e hR hc a (by omega) (he e a (by omega))
  · rcases Int.lt_or_le a A with q | q
    · refine g.a hc z (by omega) ?_ (ha a z (by omega))
      rcases Int.lt_or_le (a + 1) A with q2 | q2
      · exact Or.inl (by omega)
      · rcases hend with w2 | w2
        · omega
        · rw [← eA] at w2 ⊢
          exact Or.inr ⟨by rw [v2, w2.1, eS], by rw [v4, w2.2, eT]⟩
    · have e' : a = A := by omega
      rw [e']
      unfold f_a
      rw [v1, v2, v3, v4, v5, v6, v7, v8, mV.1, mV.2, s4, c56.2.1, c56.2.2]
      exact ⟨⟨hn.2.1, Int.le_refl _⟩, ⟨rfl, hp⟩, ⟨by omega, Int.le_refl _, Int.le_refl _⟩, ⟨by omega, Int.le_refl _, Int.le_refl _⟩, ⟨rfl, rfl, rfl⟩, fun s a b => by omega⟩
  · refine g.ac z (by omega) ?_ (hac a z w)
    rcases Int.lt_or_le (a + 1) A with q2 | q2
    · exact Or.inl (by omega)
    · rcases hend with w2 | w2
      · omega
      · rw [← eA] at w2 ⊢
        exact Or.inr ⟨by rw [v2, w2.1, eS], mI 269 a (by omega) (by decide)⟩
  · exact g.t hR hc a (by omega) (ht m a (by omega))
  · refine ⟨fun q a b => ?_, fun q p w a b z y k1 k2 => ?_, ?_, ?_⟩
    · rw [s1, s6, mA 261 (by decide) (by decide) (by decide) (by decide), mA 262 (by decide) (by decide) (by decide) (by decide), mA 276 (by decide) (by decide) (by decide) (by decide), mA 277 (by decide) (by decide) (by decide) (by decide)]
      have := hcv.1 q a (by omega)
      rw [← eT] at this
      exact this
    · rw [cA 525 (by decide) (by decide) (by decide) (by decide) (by decide) (by decide) (by decide) (by decide)] at k1 k2 ⊢
      exact hcv.2.1 q p w a b z (by omega) k1 k2
    · unfold f_or
      rw [s1, s6, mA 261 (by decide) (by decide) (by decide) (by decide), mA 262 (by decide) (by decide) (by decide) (by decide), mA 276 (by decide) (by decide) (by decide) (by decide), mA 277 (by decide) (by decide) (by decide) (by decide)]
      have := hcv.2.2.1
      unfold f_or at this
      rw [← eT] at this
      exact this
    · unfold f_lo
      rw [s1, s2, mA 242 (by decide) (by decide) (by decide) (by decide), mA 259 (by decide) (by decide) (by decide) (by decide), mA 261 (by decide) (by decide) (by decide) (by decide), mA 262 (by decide) (by decide) (by decide) (by decide), mA 266 (by decide) (by decide) (by decide) (by decide)]
      obtain ⟨x1, x2, x3⟩ := hcv.2.2.2
      exact ⟨x1, fun i a b => by have := x2 i a b; omega, x3⟩
  · obtain ⟨n1, n2, n3, n4, n5, n6⟩ := hnd
    have cn : ∀ c, c ≤ 515 → C' c = C c := fun c z => cA c (by omega) (by omega) (by omega) (by omega) (by omega) (by omega) (by omega) (by omega)
    unfold f_nd
    rw [cn 502 (by decide), cn 508 (by decide), cn 509 (by decide), cn 510 (by decide), mA 287 (by decide) (by decide) (by decide) (by decide), mA 250 (by decide) (by decide) (by decide) (by decide), mA 258 (by decide) (by decide) (by decide) (by decide), s1, s3, s4, s5]
    refine ⟨n1, n2, fun a z w => ?_, n4, n5, ⟨n6.1, n6.2.1, by omega⟩⟩
    rcases Int.lt_or_le a A with q | q
    · rw [mI 267 a (by omega) (by decide)]; exact n3 a z (by omega)
    · rw [show a = A by omega, mV.1]
      exact ⟨by omega, fun z => by omega⟩
set_option maxHeartbeats 2000000 in
/-- one state more -/
theorem f_B.as {C' M' : ax_V} {A S : Int} (hR : e_R C M) (hB : f_B C M A) (eA : A + 1 = (M 222 55)) (hA : 0 ≤ A) (eS : S = (C 556 1))
    (cA : ∀ c, c ≠ 600 → c ≠ 556 → c ≠ 558 → c ≠ 563 → c ≠ 564 → c ≠ 565 → c ≠ 566 → C' c = C c) (c56 : C' 556 0 = C 556 0 ∧ C' 556 1 = S + 1 ∧ C' 556 2 = C 556 2) (c58 : ∀ i, i ≠ A + 1 → C' 558 i = C 558 i) (cI : ∀ c i, 563 ≤ c → c ≤ 566 → i ≠ S → C' c i = C c i)
    (cV : C' 558 (A + 1) = S + 1 ∧ C' 563 S = A ∧ C' 564 S = 0 ∧ C' 565 S = 0 ∧ C' 566 S = 0)
    (mA : ∀ c, c ≠ 222 → M' c = M c)
    (mS : (M' 222 44) = (M 222 44) ∧ (M' 222 52) = (M 222 52) ∧ (M' 222 26) = (M 222 26) ∧ (M' 222 10) = (M 222 10) ∧ (M' 222 55) = (M 222 55) ∧ (M' 222 60) = (M 222 60)) (hat : (M 222 68) ≤ (M' 222 68)) (hat2 : 2 * (S + 1) ≤ (M' 222 68)) : f_B C' M' A := by
  obtain ⟨hc, he, ha, hac, ht, hcv, hnd⟩ := hB
  obtain ⟨s1, s2, s3, s4, s5, s6⟩ := mS
  have p0 := hR.2.2.2.1
  have hn := hR.2.2.1.2.1
  have hA0 := hc.2.2.1
  have hS0 := hc.2.2.2.1
  have hT0 := hc.2.2.2.2.1
  have hend := hc.2.2.2.2.2.2.1
  have hend' : C 558 (M 222 55) = (C 556 1) ∧ C 559 (M 222 55) = (M 222 60) := by
    rcases hend with z | z
    · omega
    · exact z
  have cN : ∀ c, (c < 556 ∨ c = 557 ∨ (558 < c ∧ c < 563) ∨ (566 < c ∧ c < 600)) → C' c = C c := fun c z => cA c (by omega) (by omega) (by omega) (by omega) (by omega) (by omega) (by omega)
  have g : f_gr C M C' M' := by
    refine ⟨⟨fun c q a b z w => by rw [cN c (by omega)], fun c q a b z w => by rw [mA c (by omega)]⟩, ⟨fun c i a b z w => by rw [cN c (by omega)], fun i z w v => by rw [cN 548 (by decide)], fun i z w => by rw [cN 554 (by decide), cN 555 (by decide)]; exact ⟨rfl, rfl⟩, fun c i a b z w => by rw [mA c (by omega)], fun i z w => by rw [mA 265 (by decide), mA 266 (by decide)]; exact ⟨rfl, rfl⟩⟩, ⟨fun c a z v w => ?_, fun _ => ?_, fun c s a b _ w => cI c s a b (by omega), fun c s a b _ _ => by rw [cN c (by omega)], fun c a z v w => by rw [mA c (by omega)], fun a v w => by rw [mA 269 (by decide)], fun c s a b _ _ => by rw [mA c (by omega)]⟩, by omega, by omega, by omega, by rw [c56.2.1]; omega, by rw [c56.2.2]; exact Int.le_refl _, by rw [c56.1]; exact Int.le_refl _⟩
    · by_cases w2 : c = 558
      · rw [w2]; exact c58 a (by omega)
      · rw [cN c (by omega)]
    · rw [← eA, cV.1, cN 559 (by decide), eA, hend'.1]; exact ⟨by omega, Int.le_refl _⟩
  obtain ⟨v1, v2, v3, v4, v5⟩ := cV
  refine ⟨?_, fun e a b => ?_, fun a z w => ?_, fun a z w => ?_, fun m a b => ?_, ?_, ?_⟩
  · unfold f_ct
    rw [s1, s2, s5, s6, c56.1, c56.2.1, c56.2.2, cN 547 (by decide), cN 548 (by decide), cN 559 (by decide), ← eA, v1, eA]
    obtain ⟨d1, d2, d3, d4, d5, d6, d7⟩ := hc
    exact ⟨⟨d1.1, d1.2.1, by omega⟩, ⟨d2.1, d2.2.1, by omega⟩, ⟨d3.1, d3.2.1, by omega⟩, ⟨by omega, hat2⟩, ⟨d5.1, d5.2.1, by omega⟩, d6, Or.inr ⟨rfl, hend'.2⟩, fun z => by omega, fun z => by rw [c58 0 (by omega)]; exact d7.2.2 z⟩
  · exact g.e hR hc a (by omega) (he e a (by omega))
  · rcases Int.lt_or_le (a + 1) (M 222 55) with q | q
    · exact g.a hc z (by omega) (Or.inl q) (ha a z (by omega))
    · have e' : a = A := by omega
      rw [e']
      obtain ⟨k1, k2, k3, k4, k5, k6⟩ := ha A hA (by omega)
      rw [eA, hend'.1] at k3 k6
      unfold f_a
      rw [cN 557 (by decide), cN 559 (by decide), cN 560 (by decide), cN 561 (by decide), cN 562 (by decide), mA 267 (by decide), mA 268 (by decide), c58 A (by omega), v1, c56.2.1, c56.2.2, s4]
      refine ⟨k1, k2, ⟨k3.1, by omega, Int.le_refl _⟩, k4, k5, fun s z1 z2 => ?_⟩
      rcases Int.lt_or_le s S with q2 | q2
      · rw [cI 563 s (by decide) (by decide) (by omega), cI 564 s (by decide) (by decide) (by omega), cI 565 s (by decide) (by decide) (by omega), cI 566 s (by decide) (by decide) (by omega)]
        exact k6 s z1 (by omega)
      · rw [show s = S by omega]
        exact ⟨v2, v3, v4, v5⟩
  · exact g.ac z (by omega) (Or.inl (by omega)) (hac a z w)
  · exact g.t hR hc a (by omega) (ht m a (by omega))
  · refine ⟨fun q a b => ?_, fun q p w a b z y k1 k2 => ?_, ?_, ?_⟩
    · rw [s1, s6, mA 261 (by decide), mA 262 (by decide), mA 276 (by decide), mA 277 (by decide)]
      exact hcv.1 q a (by omega)
    · rw [cN 525 (by decide)] at k1 k2 ⊢
      exact hcv.2.1 q p w a b z (by omega) k1 k2
    · unfold f_or
      rw [s1, s6, mA 261 (by decide), mA 262 (by decide), mA 276 (by decide), mA 277 (by decide)]
      exact hcv.2.2.1
    · unfold f_lo
      rw [s1, s2, mA 242 (by decide), mA 259 (by decide), mA 261 (by decide), mA 262 (by decide), mA 266 (by decide)]
      obtain ⟨x1, x2, x3⟩ := hcv.2.2.2
      exact ⟨x1, fun i a b => by have := x2 i a b; omega, x3⟩
  · obtain ⟨n1, n2, n3, n4, n5, n6⟩ := hnd
    unfold f_nd
    rw [cN 502 (by decide), cN 508 (by decide), cN 509 (by decide), cN 510 (by decide), mA 287 (by decide), mA 250 (by decide), mA 258 (by decide), mA 267 (by decide), s1, s3, s4, s5]
    exact ⟨n1, n2, n3, n4, n5, n6⟩
/-- what the tables rest on -/
theorem f_B.tab {C' M' : ax_V} {A : Int} (hB : f_B C M A) (cA : ∀ c, ((508 ≤ c ∧ c ≤ 510) ∨ (525 ≤ c ∧ c ≤ 527) ∨ (547 ≤ c ∧ c ≤ 573)) → C' c = C c) (cP : ∀ k, 0 ≤ k → k < (M 222 10) → C' 502 k = C 502 k) (mA : ∀ c, ((241 ≤ c ∧ c ≤ 256) ∨ (258 ≤ c ∧ c ≤ 268) ∨ (271 ≤ c ∧ c ≤ 278)) → M' c = M c) (mP : ∀ k, 0 ≤ k → k < (M 222 10) → M' 287 k = M 287 k) (mI : ∀ i, i < A → M' 269 i = M 269 i) (mS : ∀ j, (j = 10 ∨ j = 26 ∨ j = 44 ∨ j = 52 ∨ j = 55 ∨ j = 60) → M' 222 j = M 222 j) (hat : (M 222 68) ≤ (M' 222 68)) : f_B C' M' A := by
  obtain ⟨hc, he, ha, hac, ht, hcv, hnd⟩ := hB
  have ek : ∀ q x, e_kid M' q x ↔ e_kid M q x := fun q x => by
    have ea : ∀ k, e_arg M' q k = e_arg M q k := fun k => by
      induction k with
      | zero => show M' 245 q = M 245 q; rw [mA 245 (by decide)]
      | succ k ih =>
        show (if e_arg M' q k = -1 then -1 else M' 252 (e_arg M' q k)) = (if e_arg M q k = -1 then -1 else M 252 (e_arg M q k))
        rw [ih, mA 252 (by decide)]
    unfold e_kid
    rw [mA 241 (by decide), mA 245 (by decide), mA 246 (by decide), mA 247 (by decide)]
    simp only [ea]
  have hx : ∀ {f w n s tr m : Int}, f_x C M f w n s tr m → f_x C' M' f w n s tr m := by
    intro f w n s tr m k
    unfold f_x e_on1 at k ⊢
    simp only [mS 26 (by decide), cA 525 (by decide), cA 526 (by decide), cA 527 (by decide), mA 250 (by decide), mA 256 (by decide), mA 241 (by decide), ek]
    exact k
  have hst : ∀ {s a t n : Int}, f_st C M s a t n → f_st C' M' s a t n := by
    intro s a t n k
    unfold f_st at k ⊢
    simp only [cA 556 (by decide), cA 558 (by decide), mA 267 (by decide)]
    exact k
  refine ⟨?_, fun e a b => ?_, fun a z w => ?_, fun a z w => ?_, fun m a b => ?_, ?_, ?_⟩
  · unfold f_ct at hc ⊢
    simp only [mS 10 (by decide), mS 26 (by decide), mS 44 (by decide), mS 52 (by decide), mS 55 (by decide), mS 60 (by decide), cA 547 (by decide), cA 548 (by decide), cA 556 (by decide), cA 558 (by decide), cA 559 (by decide)]
    obtain ⟨d1, d2, d3, d4, d5, d6, d7⟩ := hc
    exact ⟨⟨d1.1, d1.2.1, by omega⟩, ⟨d2.1, d2.2.1, by omega⟩, ⟨d3.1, d3.2.1, by omega⟩, ⟨d4.1, by omega⟩, ⟨d5.1, d5.2.1, by omega⟩, d6, d7⟩
  · rw [mS 44 (by decide)] at b
    have k := he e a b
    unfold f_e f_h at k ⊢
    simp only [mS 10 (by decide), mS 52 (by decide), cA 548 (by decide), cA 549 (by decide), cA 550 (by decide), cA 551 (by decide), cA 552 (by decide), cA 553 (by decide), cA 554 (by decide), cA 555 (by decide), mA 258 (by decide), mA 259 (by decide), mA 260 (by decide), mA 261 (by decide), mA 262 (by decide), mA 263 (by decide), mA 264 (by decide), mA 265 (by decide), mA 266 (by decide)]
    obtain ⟨k1, k2, k3, k4, k5, k6, k7⟩ := k
    exact ⟨k1, k2, k3, k4, hst k5, hx k6, k7⟩
  · rw [mS 55 (by decide)] at w
    have k := ha a z w
    unfold f_a at k ⊢
    simp only [mS 10 (by decide), cA 556 (by decide), cA 557 (by decide), cA 558 (by decide), cA 559 (by decide), cA 560 (by decide), cA 561 (by decide), cA 562 (by decide), cA 563 (by decide), cA 564 (by decide), cA 565 (by decide), cA 566 (by decide), mA 267 (by decide), mA 268 (by decide)]
    exact k
  · have k := hac a z w
    unfold f_ac at k ⊢
    rw [mI a w, cA 558 (by decide)]
    exact k
  · rw [mS 60 (by decide)] at b
    have k := ht m a b
    unfold f_t at k ⊢
    simp only [cA 559 (by decide), cA 567 (by decide), cA 568 (by decide), cA 569 (by decide), cA 570 (by decide), cA 571 (by decide), cA 572 (by decide), cA 573 (by decide), mA 267 (by decide), mA 271 (by decide), mA 272 (by decide), mA 273 (by decide), mA 274 (by decide), mA 275 (by decide), mA 276 (by decide), mA 277 (by decide), mA 278 (by decide)]
    obtain ⟨⟨k0, k1⟩, k2, k3, k4, k5, k6, k7, k8⟩ := k
    exact ⟨⟨k0, hst k1⟩, k2, k3, k4, k5, k6, k7, hx k8⟩
  · unfold f_cv f_or f_lo at hcv ⊢
    simp only [mS 26 (by decide), mS 44 (by decide), mS 52 (by decide), mS 60 (by decide), cA 525 (by decide), mA 242 (by decide), mA 259 (by decide), mA 261 (by decide), mA 262 (by decide), mA 266 (by decide), mA 276 (by decide), mA 277 (by decide)]
    obtain ⟨x1, x2, x3, x4, x5, x6⟩ := hcv
    exact ⟨x1, x2, x3, x4, fun i a b => by have := x5 i a b; omega, x6⟩
  · unfold f_nd at hnd ⊢
    simp only [mS 10 (by decide), mS 26 (by decide), mS 44 (by decide), mS 55 (by decide), cA 508 (by decide), cA 509 (by decide), cA 510 (by decide), mA 250 (by decide), mA 258 (by decide), mA 267 (by decide)]
    obtain ⟨n1, n2, n3, n4, n5, n6⟩ := hnd
    refine ⟨n1, n2, n3, fun n a b => ?_, n5, n6⟩
    rw [cP n a b, mP n a b]
    exact n4 n a b
/-- the states of the last automaton are counted; the place goes on -/
theorem f_B.ac {C' M' : ax_V} {A : Int} (hB : f_B C M A) (cA : ∀ c, c ≠ 600 → C' c = C c) (mA : ∀ c, c ≠ 222 → c ≠ 269 → M' c = M c) (mI : ∀ i, i ≠ A → M' 269 i = M 269 i) (mS : ∀ j, (j = 10 ∨ j = 26 ∨ j = 44 ∨ j = 52 ∨ j = 55 ∨ j = 60) → M' 222 j = M 222 j) (hat : (M 222 68) ≤ (M' 222 68)) : f_B C' M' A :=
  hB.tab (fun c z => cA c (by omega)) (fun k _ _ => by rw [cA 502 (by decide)]) (fun c z => mA c (by omega) (by omega)) (fun k _ _ => by rw [mA 287 (by decide) (by decide)]) (fun i z => mI i (by omega)) mS hat
/-- a node ends -/
theorem f_B.nx {C' M' : ax_V} {A N : Int} (hR : e_R C M) (hB : f_B C M A) (eN : N = (M 222 10)) (cA : ∀ c, ((525 ≤ c ∧ c ≤ 527) ∨ (547 ≤ c ∧ c ≤ 573)) → C' c = C c) (cI : ∀ c k, 508 ≤ c → c ≤ 510 → k ≠ N + 1 → C' c k = C c k) (cV : C' 508 (N + 1) = (M 222 26) ∧ C' 509 (N + 1) = (M 222 44) ∧ C' 510 (N + 1) = (M 222 55)) (cP : C' 502 = C 502) (hpl : C 502 N = M 287 N ∧ e_pl (M 287 N)) (mA : ∀ c, c ≠ 222 → M' c = M c) (mS : ∀ j, (j = 26 ∨ j = 44 ∨ j = 52 ∨ j = 55 ∨ j = 60) → M' 222 j = M 222 j) (m10 : M' 222 10 = N + 1) (hat : (M 222 68) ≤ (M' 222 68)) : f_B C' M' A := by
  obtain ⟨hc, he, ha, hac, ht, hcv, hnd⟩ := hB
  have hn := hR.2.2.1.2.1
  have hC1 := hc.1
  have hC3 := hc.2.2.1
  have p0 := hR.2.2.2.1
  have ek : ∀ q x, e_kid M' q x ↔ e_kid M q x := fun q x => by
    have ea : ∀ k, e_arg M' q k = e_arg M q k := fun k => by
      induction k with
      | zero => show M' 245 q = M 245 q; rw [mA 245 (by decide)]
      | succ k ih =>
        show (if e_arg M' q k = -1 then -1 else M' 252 (e_arg M' q k)) = (if e_arg M q k = -1 then -1 else M 252 (e_arg M q k))
        rw [ih, mA 252 (by decide)]
    unfold e_kid
    rw [mA 241 (by decide), mA 245 (by decide), mA 246 (by decide), mA 247 (by decide)]
    simp only [ea]
  have hx : ∀ {f w n s tr m : Int}, f_x C M f w n s tr m → f_x C' M' f w n s tr m := by
    intro f w n s tr m k
    unfold f_x e_on1 at k ⊢
    simp only [mS 26 (by decide), cA 525 (by decide), cA 526 (by decide), cA 527 (by decide), mA 250 (by decide), mA 256 (by decide), mA 241 (by decide), ek]
    exact k
  have hst : ∀ {s a t n : Int}, f_st C M s a t n → f_st C' M' s a t n := by
    intro s a t n k
    unfold f_st at k ⊢
    simp only [cA 556 (by decide), cA 558 (by decide), mA 267 (by decide)]
    exact k
  refine ⟨?_, fun e a b => ?_, fun a z w => ?_, fun a z w => ?_, fun m a b => ?_, ?_, ?_⟩
  · unfold f_ct at hc ⊢
    simp only [mS 26 (by decide), mS 44 (by decide), mS 52 (by decide), mS 55 (by decide), mS 60 (by decide), cA 547 (by decide), cA 548 (by decide), cA 556 (by decide), cA 558 (by decide), cA 559 (by decide)]
    obtain ⟨d1, d2, d3, d4, d5, d6, d7⟩ := hc
    exact ⟨⟨d1.1, d1.2.1, by omega⟩, ⟨d2.1, d2.2.1, by omega⟩, ⟨d3.1, d3.2.1, by omega⟩, ⟨d4.1, by omega⟩, ⟨d5.1, d5.2.1, by omega⟩, d6, d7⟩
  · rw [mS 44 (by decide)] at b
    have k := he e a b
    unfold f_e f_h at k ⊢
    simp only [m10, mS 52 (by decide), cA 548 (by decide), cA 549 (by decide), cA 550 (by decide), cA 551 (by decide), cA 552 (by decide), cA 553 (by decide), cA 554 (by decide), cA 555 (by decide), mA 258 (by decide), mA 259 (by decide), mA 260 (by decide), mA 261 (by decide), mA 262 (by decide), mA 263 (by decide), mA 264 (by decide), mA 265 (by decide), mA 266 (by decide)]
    obtain ⟨k1, k2, k3, k4, k5, k6, k7⟩ := k
    exact ⟨⟨k1.1, by omega⟩, k2, k3, k4, hst k5, hx k6, k7⟩
  · rw [mS 55 (by decide)] at w
    have k := ha a z w
    unfold f_a at k ⊢
    simp only [m10, cA 556 (by decide), cA 557 (by decide), cA 558 (by decide), cA 559 (by decide), cA 560 (by decide), cA 561 (by decide), cA 562 (by decide), cA 563 (by decide), cA 564 (by decide), cA 565 (by decide), cA 566 (by decide), mA 267 (by decide), mA 268 (by decide)]
    obtain ⟨k1, k2⟩ := k
    exact ⟨⟨k1.1, by omega⟩, k2⟩
  · have k := hac a z w
    unfold f_ac at k ⊢
    rw [mA 269 (by decide), cA 558 (by decide)]
    exact k
  · rw [mS 60 (by decide)] at b
    have k := ht m a b
    unfold f_t at k ⊢
    simp only [cA 559 (by decide), cA 567 (by decide), cA 568 (by decide), cA 569 (by decide), cA 570 (by decide), cA 571 (by decide), cA 572 (by decide), cA 573 (by decide), mA 267 (by decide), mA 271 (by decide), mA 272 (by decide), mA 273 (by decide), mA 274 (by decide), mA 275 (by decide), mA 276 (by decide), mA 277 (by decide), mA 278 (by decide)]
    obtain ⟨⟨k0, k1⟩, k2, k3, k4, k5, k6, k7, k8⟩ := k
    exact ⟨⟨k0, hst k1⟩, k2, k3, k4, k5, k6, k7, hx k8⟩
  · unfold f_cv f_or f_lo at hcv ⊢
    simp only [mS 26 (by decide), mS 44 (by decide), mS 52 (by decide), mS 60 (by decide), cA 525 (by decide), mA 242 (by decide), mA 259 (by decide), mA 261 (by decide), mA 262 (by decide), mA 266 (by decide), mA 276 (by decide), mA 277 (by decide)]
    obtain ⟨x1, x2, x3, x4, x5, x6⟩ := hcv
    exact ⟨x1, x2, x3, x4, fun i a b => by have := x5 i a b; omega, x6⟩
  · obtain ⟨n1, n2, n3, n4, n5, n6⟩ := hnd
    have low : ∀ c k, 508 ≤ c → c ≤ 510 → k ≤ N → C' c k = C c k := fun c k a b z => cI c k a b (by omega)
    unfold f_nd
    simp only [m10, mS 26 (by decide), mS 44 (by decide), mS 55 (by decide), mA 250 (by decide), mA 258 (by decide), mA 267 (by decide), mA 287 (by decide), cP]
    refine ⟨fun q a b => ?_, fun e a b => ?_, fun x a b => ?_, fun n a b => ?_, ⟨?_, ?_, ?_⟩, ?_⟩
    · have u := n1 q a b
      refine ⟨⟨u.1.1, by omega⟩, by rw [low 508 _ (by decide) (by decide) (by omega)]; exact u.2.1, fun _ => ?_⟩
      by_cases w : M 250 q = N
      · rw [w, cV.1]; exact b
      · rw [low 508 _ (by decide) (by decide) (by omega)]; exact u.2.2 (by omega)
    · have u := n2 e a b
      have u0 := (he e a b).1
      refine ⟨by rw [low 509 _ (by decide) (by decide) (by omega)]; exact u.1, fun _ => ?_⟩
      by_cases w : M 258 e = N
      · rw [w, cV.2.1]; exact b
      · rw [low 509 _ (by decide) (by decide) (by omega)]; exact u.2 (by omega)
    · have u := n3 x a b
      have u0 := (ha x a b).1
      refine ⟨by rw [low 510 _ (by decide) (by decide) (by omega)]; exact u.1, fun _ => ?_⟩
      by_cases w : M 267 x = N
      · rw [w, cV.2.2]; exact b
      · rw [low 510 _ (by decide) (by decide) (by omega)]; exact u.2 (by omega)
    · by_cases w : n = N
      · rw [w, cV.1, cV.2.1, cV.2.2, low 508 N (by decide) (by decide) (Int.le_refl _), low 509 N (by decide) (by decide) (Int.le_refl _), low 510 N (by decide) (by decide) (Int.le_refl _)]
        rw [← eN] at n6
        exact ⟨n6.1, n6.2.1, n6.2.2, hpl⟩
      · rw [low 508 n (by decide) (by decide) (by omega), low 509 n (by decide) (by decide) (by omega), low 510 n (by decide) (by decide) (by omega), low 508 (n + 1) (by decide) (by decide) (by omega), low 509 (n + 1) (by decide) (by decide) (by omega), low 510 (n + 1) (by decide) (by decide) (by omega)]
        exact n4 n a (by omega)
    · rw [low 508 0 (by decide) (by decide) (by omega)]; exact n5.1
    · rw [low 509 0 (by decide) (by decide) (by omega)]; exact n5.2.1
    · rw [low 510 0 (by decide) (by decide) (by omega)]; exact n5.2.2
    · rw [cV.1, cV.2.1, cV.2.2]; exact ⟨Int.le_refl _, Int.le_refl _, Int.le_refl _⟩
theorem f_B.up {A : Int} (hB : f_B C M A) (h : f_ac C M A) : f_B C M (A + 1) := by
  obtain ⟨hc, he, ha, hac, ht, hcv, hnd⟩ := hB
  refine ⟨hc, he, ha, fun a z w => ?_, ht, hcv, hnd⟩
  rcases Int.lt_or_le a A with q | q
  · exact hac a z q
  · rw [show a = A by omega]; exact h
end Begun
