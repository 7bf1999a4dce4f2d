/-! PROVING: the path told, on both sides -/
def p_it (fr : Int → Int) : Nat → Int → Int
  | 0, m => m
  | e + 1, m => fr (p_it fr e m)
theorem p_it_in (fr : Int → Int) (m : Int) : ∀ e : Nat, p_it fr (e + 1) m = p_it fr e (fr m) := by
  intro e
  induction e with
  | zero => rfl
  | succ e ih => show fr (p_it fr (e + 1) m) = fr (p_it fr e (fr m)); rw [ih]
/-- from m it takes D steps back -/
def p_D (fr : Int → Int) (D : Nat) (m : Int) : Prop := (∀ e : Nat, e < D → 0 < p_it fr e m ∧ p_it fr e m < 300) ∧ p_it fr D m = 0 ∧ D < 300
theorem p_D.is {fr : Int → Int} {f : Int} (f3 : f ≤ 300) (h : ∀ y, 0 < y → y < f → 0 ≤ fr y ∧ fr y < y) : ∀ (k : Nat) (m : Int), m ≤ (k : Int) → 0 ≤ m → m < f → ∃ D : Nat, (D : Int) ≤ m ∧ p_D fr D m := by
  intro k
  induction k with
  | zero =>
    intro m a b c
    have e : m = 0 := by omega
    exact ⟨0, by omega, fun e he => absurd he (Nat.not_lt_zero _), e, by decide⟩
  | succ k ih =>
    intro m a b c
    by_cases e : m = 0
    · exact ⟨0, by omega, fun e he => absurd he (Nat.not_lt_zero _), e, by decide⟩
    · have q := h m (by omega) c
      obtain ⟨D, d1, d2, d3, d4⟩ := ih (fr m) (by omega) q.1 (by omega)
      refine ⟨D + 1, by omega, fun e he => ?_, by rw [p_it_in]; exact d3, by omega⟩
      cases e with
      | zero => exact ⟨by show 0 < m; omega, by show m < 300; omega⟩
      | succ e => rw [p_it_in]; exact d2 e (by omega)
theorem p_it_c {f g : Int → Int} {D : Nat} {m : Int} (h : p_D f D m) (e : ∀ y, 0 < y → y < 300 → g y = f y) : ∀ k : Nat, k ≤ D → p_it g k m = p_it f k m := by
  intro k
  induction k with
  | zero => intro _; rfl
  | succ k ih =>
    intro hk
    have u := h.1 k (by omega)
    show g (p_it g k m) = f (p_it f k m)
    rw [ih (by omega)]
    exact e _ u.1 u.2
theorem p_it_le {fr : Int → Int} {f m : Int} {D : Nat} (h : ∀ y, 0 < y → y < f → 0 ≤ fr y ∧ fr y < y) (mf : m < f) (hD : p_D fr D m) : ∀ e : Nat, e ≤ D → p_it fr e m ≤ m := by
  intro e
  induction e with
  | zero => intro _; exact Int.le_refl _
  | succ e ih =>
    intro he
    have u := ih (by omega)
    have v := hD.1 e (by omega)
    have q := h _ v.1 (by omega)
    show fr (p_it fr e m) ≤ m
    omega
section Paths
variable {B w nw d D : Nat} {V W : ax_V} {x m : Int} {Φ : Int → ax_V → Prop} {Ψ Θ : ax_V → Prop}
set_option maxHeartbeats 1000000 in
theorem t_tellPath (hnw : nw ≤ 1000000) (hg : ax_g V) (hm : 0 ≤ m ∧ m < 300) (rx : ax_rg x) (hD : p_D (V 161) D m) (h : ∀ W, g_fr [157, 158] V W → (∀ k, ¬ k = 2 → W 157 k = V 157 k) → ax_g W → W 157 2 = D + 1 → W 158 D = x → (∀ e : Nat, e < D → W 158 (D - 1 - e) = V 162 (p_it (V 161) e m)) → Ψ W) : ax_N (az_W B (az_EP B w nw)) (d + 1) q_Prover_tellPath [.ref 157, ax_i m, ax_i x] V Ψ Θ := by
  obtain ⟨d1, d2, d3⟩ := hD
  have rm : ax_rg m := ⟨by omega, by omega⟩
  refine r_Prover_tellPath hnw hg rm rx ?_
  refine ax_for (I := fun i X => (0 ≤ i ∧ i ≤ (D : Int)) ∧ X = V) (K := fun i X => k_Prover_tellPath_5 B w nw d m x (1 + i) (p_it (V 161) i.toNat m) none X Ψ Θ) (hi := (D : Int)) (fun i X wi hI nx => ?_) (fun i X wi hI => ?_) 0 V ⟨⟨Int.le_refl _, by omega⟩, rfl⟩
  · obtain ⟨ib, eX⟩ := hI
    have n1 : k_Prover_tellPath_5 B w nw d m x (1 + (i + 1)) (p_it (V 161) (i + 1).toNat m) none V Ψ Θ := nx V ⟨⟨by omega, by omega⟩, rfl⟩
    rw [eX]
    have b := d1 i.toNat (by omega)
    refine r_Prover_tellPath_5 hnw hg rm rx ⟨by omega, by omega⟩ ⟨by omega, by omega⟩ ax_y_n ⟨fun z => by omega, fun _ => ⟨fun z => by omega, fun _ => ⟨⟨by omega, b.2⟩, ?_⟩⟩⟩
    rw [show (i + 1).toNat = i.toNat + 1 by omega, show 1 + (i + 1) = 1 + i + 1 by omega] at n1
    exact n1
  · obtain ⟨ib, eX⟩ := hI
    have ei : i = (D : Int) := by omega
    rw [eX, ei, Int.toNat_natCast, d2]
    refine r_Prover_tellPath_5 hnw hg rm rx ⟨by omega, by omega⟩ (by decide) ax_y_n ⟨fun _ V1 e1 => ⟨⟨by omega, by omega⟩, fun V2 e2 => ?_⟩, fun z => absurd z (by decide)⟩
    rw [show 1 + (D : Int) - 1 = D by omega] at e2
    have g2 : ax_g V2 := by rw [e2, e1]; exact ax_u_g (ax_u_g hg ⟨by omega, by omega⟩) rx
    refine ax_for (I := fun i X => (0 ≤ i ∧ i ≤ (D : Int)) ∧ g_fr [158] V2 X ∧ ax_g X ∧ X 158 D = x ∧ ∀ e : Nat, (e : Int) < i → X 158 (D - 1 - e) = V 162 (p_it (V 161) e m)) (K := fun i X => ∀ y1 y2 y3 x5, ax_y y1 → ax_y y2 → ax_y y3 → x5 = D - 1 - i → k_Prover_tellPath_54 B w nw d y1 y2 y3 (p_it (V 161) i.toNat m) x5 X Ψ Θ) (hi := (D : Int)) (fun i X wi hI nx y1 y2 y3 x5 h1 h2 h3 h5 => ?_) (fun i X wi hI y1 y2 y3 x5 h1 h2 h3 h5 => ?_) 0 V2 ⟨⟨Int.le_refl _, by omega⟩, fun _ _ => rfl, g2, by rw [e2, ax_u_s], fun e he => by omega⟩ _ _ _ _ (ax_y_i _) (ax_y_i _) (ax_y_i _) (by omega)
    · obtain ⟨ib, fX, gX, xD, iX⟩ := hI
      have b := d1 i.toNat (by omega)
      have b0 : 0 ≤ p_it (V 161) i.toNat m ∧ p_it (V 161) i.toNat m < 300 := ⟨by omega, b.2⟩
      have x1 : X 161 = V 161 := by rw [fX 161 (by decide), e2, ax_u_ne (by decide), e1, ax_u_ne (by decide)]
      have x2 : X 162 = V 162 := by rw [fX 162 (by decide), e2, ax_u_ne (by decide), e1, ax_u_ne (by decide)]
      refine r_Prover_tellPath_54 hnw gX h1 h2 h3 ⟨by omega, by omega⟩ ⟨by omega, by omega⟩ ⟨fun z => by omega, fun _ => ⟨fun z => by omega, fun _ => ⟨b0, ⟨by omega, by omega⟩, fun X1 eX1 => ⟨b0, ?_⟩⟩⟩⟩
      have x3 : X1 161 = V 161 := by rw [eX1, ax_u_ne (by decide), x1]
      have n1 : k_Prover_tellPath_54 B w nw d y1 y2 y3 (p_it (V 161) (i + 1).toNat m) (x5 + (-1)) X1 Ψ Θ := by
        refine nx X1 ⟨⟨by omega, by omega⟩, by rw [eX1]; exact fX.u (by decide), by rw [eX1]; exact ax_u_g gX (gX _ _), by rw [eX1, ax_u_k (by omega)]; exact xD, fun e he => ?_⟩ y1 y2 y3 _ h1 h2 h3 (by omega)
        by_cases y : (e : Int) = i
        · have ee : i.toNat = e := by omega
          rw [eX1, show (D : Int) - 1 - e = x5 by omega, ax_u_s, x2, ee]
        · rw [eX1, ax_u_k (by omega)]; exact iX e (by omega)
      rw [x3]
      rw [show (i + 1).toNat = i.toNat + 1 by omega] at n1
      exact n1
    · obtain ⟨ib, fX, gX, xD, iX⟩ := hI
      have ei : i = (D : Int) := by omega
      rw [ei, Int.toNat_natCast, d2]
      refine r_Prover_tellPath_54 hnw gX h1 h2 h3 (by decide) ⟨by omega, by omega⟩ ⟨fun _ => ?_, fun z => by omega⟩
      have x7 : X 157 = V1 157 := by rw [fX 157 (by decide), e2, ax_u_ne (by decide)]
      refine h X (fun c z => ?_) (fun k z => ?_) gX ?_ xD (fun e he => iX e (by omega))
      · simp only [List.mem_cons, List.not_mem_nil, or_false, not_or] at z
        rw [fX c (by simp; exact z.2), e2, ax_u_ne z.2, e1, ax_u_ne z.1]
      · rw [x7, e1, ax_u_k z]
      · rw [x7, e1, ax_u_s]; omega
set_option maxHeartbeats 1000000 in
theorem s_findWay (hg : ax_g V) (hm : 0 ≤ m ∧ m < 300) (rx : ax_rg x) (hD : p_D (V 310) D m) (root : V 310 0 = -1) (nr : ∀ y, 0 < y → y ≤ m → ¬ V 310 y = -1) (le : ∀ e : Nat, e ≤ D → p_it (V 310) e m ≤ m) (h : ∀ W, g_fr [222, 312] V W → g_sc [120] V W → ax_g W → W 222 120 = D + 1 → W 312 D = x → (∀ e : Nat, e < D → W 312 (D - 1 - e) = V 311 (p_it (V 310) e m)) → Ψ W) : ax_N ay_lay (d + 1) q_Model_findWay [.ref 222, ax_i m, ax_i x] V Ψ Θ := by
  obtain ⟨d1, d2, d3⟩ := hD
  have rm : ax_rg m := ⟨by omega, by omega⟩
  refine r_Model_findWay hg rm rx (fun V1 e1 => ?_)
  have g1 : ax_g V1 := by rw [e1]; exact ax_u_g hg (by decide)
  refine ax_for (I := fun i X => (0 ≤ i ∧ i ≤ (D : Int)) ∧ g_fr [222] V X ∧ g_sc [120] V X ∧ ax_g X ∧ X 222 120 = 1 + i) (K := fun i X => k_Model_findWay_7 d m x (p_it (V 310) i.toNat m) none X Ψ Θ) (hi := (D : Int)) (fun i X wi hI nx => ?_) (fun i X wi hI => ?_) 0 V1 ⟨⟨Int.le_refl _, by omega⟩, fun c z => by simp at z; rw [e1, ax_u_ne z], fun k z => by simp at z; rw [e1, ax_u_k z], g1, by rw [e1, ax_u_s]; rfl⟩
  · obtain ⟨ib, fX, sX, gX, pX⟩ := hI
    have b := d1 i.toNat (by omega)
    have b0 : 0 ≤ p_it (V 310) i.toNat m ∧ p_it (V 310) i.toNat m < 300 := ⟨by omega, b.2⟩
    have n1 := nr _ b.1 (le i.toNat (by omega))
    refine r_Model_findWay_7 gX rm rx ⟨by omega, by omega⟩ ax_y_n ⟨b0, ?_⟩
    rw [fX 310 (by decide), pX]
    refine ⟨fun z => absurd z n1, fun _ => ⟨⟨by omega, by omega⟩, fun X1 eX => ⟨b0, ?_⟩⟩⟩
    have x3 : X1 310 = V 310 := by rw [eX, ax_u_ne (by decide), fX 310 (by decide)]
    have n2 : k_Model_findWay_7 d m x (p_it (V 310) (i + 1).toNat m) none X1 Ψ Θ := nx X1 ⟨⟨by omega, by omega⟩, by rw [eX]; exact fX.u (by decide), fun k z => by have z' := z; simp at z'; rw [eX, ax_u_k z']; exact sX k z, by rw [eX]; exact ax_u_g gX ⟨by omega, by omega⟩, by rw [eX, ax_u_s]; omega⟩
    rw [x3]
    rw [show (i + 1).toNat = i.toNat + 1 by omega] at n2
    exact n2
  · obtain ⟨ib, fX, sX, gX, pX⟩ := hI
    have ei : i = (D : Int) := by omega
    rw [ei] at pX
    rw [ei, Int.toNat_natCast, d2]
    refine r_Model_findWay_7 gX rm rx (by decide) ax_y_n ⟨by decide, ?_⟩
    rw [fX 310 (by decide), root, pX, show 1 + (D : Int) - 1 = D by omega]
    refine ⟨fun _ => ⟨⟨by omega, by omega⟩, fun V2 e2 => ?_⟩, fun z => absurd rfl z⟩
    have g2 : ax_g V2 := by rw [e2]; exact ax_u_g gX rx
    have p2 : V2 222 120 = 1 + (D : Int) := by rw [e2, ax_u_ne (by decide)]; exact pX
    rw [p2]
    refine ax_for (I := fun i Y => (0 ≤ i ∧ i ≤ (D : Int)) ∧ g_fr [312] V2 Y ∧ ax_g Y ∧ Y 312 D = x ∧ ∀ e : Nat, (e : Int) < i → Y 312 (D - 1 - e) = V 311 (p_it (V 310) e m)) (K := fun i Y => ∀ y1 y2 x5, ax_y y1 → ax_y y2 → x5 = D - 1 - i → k_Model_findWay_59 d y1 y2 x5 (p_it (V 310) i.toNat m) Y Ψ Θ) (hi := (D : Int)) (fun i Y wi hI nx y1 y2 x5 h1 h2 h5 => ?_) (fun i Y wi hI y1 y2 x5 h1 h2 h5 => ?_) 0 V2 ⟨⟨Int.le_refl _, by omega⟩, fun _ _ => rfl, g2, by rw [e2, ax_u_s], fun e he => by omega⟩ _ _ _ (ax_y_i _) (ax_y_i _) (by omega)
    · obtain ⟨ib', fY, gY, xD, iY⟩ := hI
      have b := d1 i.toNat (by omega)
      have b0 : 0 ≤ p_it (V 310) i.toNat m ∧ p_it (V 310) i.toNat m < 300 := ⟨by omega, b.2⟩
      have n1 := nr _ b.1 (le i.toNat (by omega))
      have x1 : Y 310 = V 310 := by rw [fY 310 (by decide), e2, ax_u_ne (by decide), fX 310 (by decide)]
      have x2 : Y 311 = V 311 := by rw [fY 311 (by decide), e2, ax_u_ne (by decide), fX 311 (by decide)]
      refine r_Model_findWay_59 gY h1 h2 ⟨by omega, by omega⟩ ⟨by omega, by omega⟩ ⟨b0, ?_⟩
      rw [x1, x2]
      refine ⟨fun z => absurd z n1, fun _ => ⟨b0, ⟨by omega, by omega⟩, fun Y1 eY => ⟨b0, ?_⟩⟩⟩
      have x3 : Y1 310 = V 310 := by rw [eY, ax_u_ne (by decide), x1]
      have n2 : k_Model_findWay_59 d y1 y2 (x5 + (-1)) (p_it (V 310) (i + 1).toNat m) Y1 Ψ Θ := by
        refine nx Y1 ⟨⟨by omega, by omega⟩, by rw [eY]; exact fY.u (by decide), by rw [eY]; exact ax_u_g gY (hg _ _), by rw [eY, ax_u_k (by omega)]; exact xD, fun e he => ?_⟩ y1 y2 _ h1 h2 (by omega)
        by_cases y : (e : Int) = i
        · have ee : i.toNat = e := by omega
          rw [eY, show (D : Int) - 1 - e = x5 by omega, ax_u_s, ee]
        · rw [eY, ax_u_k (by omega)]; exact iY e (by omega)
      rw [x3]
      rw [show (i + 1).toNat = i.toNat + 1 by omega] at n2
      exact n2
    · obtain ⟨ib', fY, gY, xD, iY⟩ := hI
      have ei' : i = (D : Int) := by omega
      rw [ei', Int.toNat_natCast, d2]
      refine r_Model_findWay_59 gY h1 h2 ⟨by omega, by omega⟩ (by decide) ⟨by decide, ?_⟩
      rw [fY 310 (by decide), e2, ax_u_ne (by decide), fX 310 (by decide), root]
      refine ⟨fun _ => ?_, fun z => absurd rfl z⟩
      have y2 : Y 222 = X 222 := by rw [fY 222 (by decide), e2, ax_u_ne (by decide)]
      refine h Y (fun c z => ?_) (fun k z => ?_) gY ?_ xD (fun e he => iY e (by omega))
      · simp only [List.mem_cons, List.not_mem_nil, or_false, not_or] at z
        rw [fY c (by simp; exact z.2), e2, ax_u_ne z.2, fX c (by simp; exact z.1)]
      · rw [y2]; exact sX k z
      · rw [y2, pX]; omega
end Paths
