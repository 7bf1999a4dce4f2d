/-! AN EQUATION IS READ -/
section EquationR
variable {B r : Nat} {C0 M0 C M : ax_V} {u x1 x2 : Int}
set_option maxHeartbeats 4000000 in
theorem f_equation (hX : e_X B r 20) (h : f_I C0 M0 C M u) (hst : f_st C M (C 600 9) x1 x2 (M 222 10)) (rx1 : ax_rg x1) (rx2 : ax_rg x2) (hlt : (M 222 68) < (M 222 3)) :
    f_go f_nv (fun Φ Θ => ax_N (az_W B (az_ER B r)) 421 q_Reader_readEquation [.ref r] C Φ Θ) (fun C' Φ _ => Φ C') (fun Φ Θ => ax_I ay_lay 422 q_Model_readEquation [.ref 222, ax_i x1, ax_i x2] M Φ Θ) (fun M' Φ _ => Φ 1 M') C0 M0 (fun C' M' => f_I C0 M0 C' M' u ∧ (M 222 68) < (M' 222 68) ∧ f_sq C M C' M' ∧ (M' 222 26) + (M' 222 44) - ((M 222 26) + (M 222 44)) ≤ (M' 222 68) - (M 222 68)) := by
  obtain ⟨hR, ⟨fC, fM⟩, hLL, hB, ⟨hd, hT, hu⟩, hcs⟩ := h
  obtain ⟨hgC, hgM⟩ := id hR.1
  have hct := hB.1
  have hc1 := hct.1
  have hc2 := hct.2.1
  have hat := hR.2.2.1.1
  have hsz := hR.2.1.2.2.1
  have hn := hR.2.2.1.2.1
  have p0 := hR.2.2.2.1
  have hdl := hR.2.2.1.2.2.2.2.2.2
  obtain ⟨e, ee⟩ : ∃ e : Int, e = (M 222 44) := ⟨_, rfl⟩
  obtain ⟨L, eL⟩ : ∃ L : Int, L = (M 222 52) := ⟨_, rfl⟩
  have ce : (C 547 0) = e := by rw [hct.1.1, ee]
  have cL : (C 547 1) = L := by rw [hct.2.1.1, eL]
  have he : 0 ≤ e ∧ e < 350 := ⟨by omega, by omega⟩
  have re : ax_rg e := ⟨by omega, by omega⟩
  have e351 : 0 ≤ e ∧ e < 351 := ⟨by omega, by omega⟩
  -- the rows are begun
  obtain ⟨C1, eC1⟩ : ∃ X : ax_V, X = c_ea C := ⟨_, rfl⟩
  obtain ⟨M1, eM1⟩ : ∃ X : ax_V, X = m_ea M x1 x2 := ⟨_, rfl⟩
  have eC1' : C1 = ax_u (ax_u (ax_u (ax_u (ax_u (ax_u (ax_u (ax_u C 547 0 (e + 1)) 548 e L) 548 (e + 1) L) 549 e (M 222 26)) 550 e (M 222 26)) 551 e (C 600 9)) 552 e 0) 553 e 0 := by rw [eC1]; unfold c_ea; rw [ce, cL, p0.1]
  have eM1' : M1 = ax_u (ax_u (ax_u (ax_u (ax_u M 258 e (M 222 10)) 259 e L) 260 e 0) 263 e x1) 264 e x2 := by rw [eM1]; unfold m_ea; rw [← ee, ← eL]
  have hgC1 : ax_g C1 := by rw [eC1']; exact ax_u_g (ax_u_g (ax_u_g (ax_u_g (ax_u_g (ax_u_g (ax_u_g (ax_u_g hgC ⟨by omega, by omega⟩) ⟨by omega, by omega⟩) ⟨by omega, by omega⟩) ⟨by omega, by omega⟩) ⟨by omega, by omega⟩) (hgC _ _)) (by decide)) (by decide)
  have hgM1 : ax_g M1 := by rw [eM1']; exact ax_u_g (ax_u_g (ax_u_g (ax_u_g (ax_u_g hgM ⟨by omega, by omega⟩) ⟨by omega, by omega⟩) (by decide)) rx1) rx2
  have cn1 : ∀ c, (c < 547 ∨ 553 < c) → C1 c = C c := fun c z => by rw [eC1', ax_u_ne (by omega), ax_u_ne (by omega), ax_u_ne (by omega), ax_u_ne (by omega), ax_u_ne (by omega), ax_u_ne (by omega), ax_u_ne (by omega), ax_u_ne (by omega)]
  have ci1 : ∀ c i, 549 ≤ c → c ≤ 553 → i ≠ e → C1 c i = C c i := fun c i a b z => by rw [eC1', ax_u_o (fun q => z q.2), ax_u_o (fun q => z q.2), ax_u_o (fun q => z q.2), ax_u_o (fun q => z q.2), ax_u_o (fun q => z q.2), ax_u_ne (by omega), ax_u_ne (by omega), ax_u_ne (by omega)]
  have c48 : ∀ i, i ≠ e → i ≠ e + 1 → C1 548 i = C 548 i := fun i a b => by rw [eC1', ax_u_ne (by decide), ax_u_ne (by decide), ax_u_ne (by decide), ax_u_ne (by decide), ax_u_ne (by decide), ax_u_k b, ax_u_k a, ax_u_ne (by decide)]
  have c48e : C1 548 e = L := by rw [eC1', ax_u_ne (by decide), ax_u_ne (by decide), ax_u_ne (by decide), ax_u_ne (by decide), ax_u_ne (by decide), ax_u_k (by omega)]; exact ax_u_s _ _ _ _
  have c48f : C1 548 (e + 1) = L := by rw [eC1', ax_u_ne (by decide), ax_u_ne (by decide), ax_u_ne (by decide), ax_u_ne (by decide), ax_u_ne (by decide)]; exact ax_u_s _ _ _ _
  have c47 : C1 547 0 = e + 1 := by rw [eC1', ax_u_ne (by decide), ax_u_ne (by decide), ax_u_ne (by decide), ax_u_ne (by decide), ax_u_ne (by decide), ax_u_ne (by decide), ax_u_ne (by decide)]; exact ax_u_s _ _ _ _
  have c47h : C1 547 1 = L := by rw [eC1', ax_u_ne (by decide), ax_u_ne (by decide), ax_u_ne (by decide), ax_u_ne (by decide), ax_u_ne (by decide), ax_u_ne (by decide), ax_u_ne (by decide), ax_u_k (by decide)]; exact cL
  have c49 : C1 549 e = (M 222 26) := by rw [eC1', ax_u_ne (by decide), ax_u_ne (by decide), ax_u_ne (by decide), ax_u_ne (by decide)]; exact ax_u_s _ _ _ _
  have c51 : C1 551 e = (C 600 9) := by rw [eC1', ax_u_ne (by decide), ax_u_ne (by decide)]; exact ax_u_s _ _ _ _
  have c52 : C1 552 e = 0 := by rw [eC1', ax_u_ne (by decide)]; exact ax_u_s _ _ _ _
  have c53 : C1 553 e = 0 := by rw [eC1']; exact ax_u_s _ _ _ _
  have mn1 : ∀ c, (c < 258 ∨ (260 < c ∧ c < 263) ∨ 264 < c) → M1 c = M c := fun c z => by rw [eM1', ax_u_ne (by omega), ax_u_ne (by omega), ax_u_ne (by omega), ax_u_ne (by omega), ax_u_ne (by omega)]
  have mi1 : ∀ c i, i ≠ e → M1 c i = M c i := fun c i z => by rw [eM1', ax_u_o (fun q => z q.2), ax_u_o (fun q => z q.2), ax_u_o (fun q => z q.2), ax_u_o (fun q => z q.2), ax_u_o (fun q => z q.2)]
  have m58 : M1 258 e = (M 222 10) := by rw [eM1', ax_u_ne (by decide), ax_u_ne (by decide), ax_u_ne (by decide), ax_u_ne (by decide)]; exact ax_u_s _ _ _ _
  have m59 : M1 259 e = L := by rw [eM1', ax_u_ne (by decide), ax_u_ne (by decide), ax_u_ne (by decide)]; exact ax_u_s _ _ _ _
  have m60 : M1 260 e = 0 := by rw [eM1', ax_u_ne (by decide), ax_u_ne (by decide)]; exact ax_u_s _ _ _ _
  have m63 : M1 263 e = x1 := by rw [eM1', ax_u_ne (by decide)]; exact ax_u_s _ _ _ _
  have m64 : M1 264 e = x2 := by rw [eM1']; exact ax_u_s _ _ _ _
  have sc1 : ∀ j, M1 222 j = M 222 j := fun j => by rw [mn1 222 (by decide)]
  have cs1 : ∀ j, C1 600 j = C 600 j := fun j => by rw [cn1 600 (by decide)]
  have R1 : e_R C1 M1 := hR.tab ⟨hgC1, hgM1⟩ (fun c z => cn1 c (by omega)) (fun c z => mn1 c (by omega)) (fun j _ => cs1 j) (fun j _ => sc1 j)
  have lp1 : f_lp C1 M1 C1 M1 e L (M 222 10) 0 := by
    refine ⟨R1, ⟨fun _ _ _ _ _ _ => rfl, rfl, fun _ _ => rfl, fun _ _ => ⟨rfl, rfl⟩, fun _ _ => rfl⟩, ⟨fun _ _ _ _ _ => rfl, fun _ _ => rfl, fun _ _ => ⟨rfl, rfl⟩, fun _ _ _ => rfl⟩, ⟨by rw [c47h, sc1, eL], ⟨by omega, by rw [sc1]; omega⟩, by rw [m60, sc1]; omega, by rw [c48f, sc1, eL], by rw [sc1, sc1]; omega⟩, fun h a b => by rw [sc1] at b; omega, Int.le_refl _, fun h a b => by rw [sc1] at b; omega, fun i j a b c => by rw [sc1] at c; omega⟩
  have fC1 : f_fC C0 C1 := by rw [eC1']; exact (((((((fC.ua (by decide)).ua (by decide)).ua (by decide)).ua (by decide)).ua (by decide)).ua (by decide)).ua (by decide)).ua (by decide)
  have fM1 : f_fM M0 M1 := by rw [eM1']; exact ((((fM.ua (by decide)).ua (by decide)).ua (by decide)).ua (by decide)).ua (by decide)
  refine f_go.of (Pc := fun Φ Θ => k_Reader_readEquation_38 B r 420 e 0 none none C1 Φ Θ) (Pm := fun Φ Θ => k_Model_readEquation_49 421 (some (ax_i x1)) (some (ax_i x2)) e 1 M1 Φ Θ) ?_ (fun Φ Θ z => r_Reader_readEquation hgC ⟨fun _ => t_addEq hgC (by rw [ce]; exact he) (by rw [ce, ← eC1]; exact z), fun q => by omega⟩) (fun Φ Θ z => r_Model_readEquation hgM rx1 rx2 ?_)
  rotate_left
  · rw [← ee]
    refine ⟨e351, fun V1 v1 => ⟨e351, fun V2 v2 => ⟨e351, fun V3 v3 => ⟨e351, fun V4 v4 => ⟨e351, fun V5 v5 => ?_⟩⟩⟩⟩⟩
    have d1 : V1 222 52 = L := by rw [v1, ax_u_ne (by decide), eL]
    have e5 : V5 = M1 := by rw [v5, v4, v3, v2, d1, v1, eM1']
    rw [e5]; exact z
  have kh := f_heads (B := B) (r := r) (dc := 417) (dm := 417) (C0 := C0) (M0 := M0) (L := L) (ax_y_i x1) (ax_y_i x2) he fC1 fM1 (sc1 10).symm 700 C1 M1 0 none none ax_y_n ax_y_n lp1 (by rw [sc1]; omega) (by decide) (by rw [sc1]; omega)
  refine kh.bind0 (fun C2 M2 q2 => ?_)
  obtain ⟨lp2, lt2, at2⟩ := q2
  have ff2 := lp2.f
  obtain ⟨R2, ⟨u1, u2, u3, u4, u5⟩, ⟨v1, v2, v3, v4⟩, ⟨w1, w2, w3, w4, w5⟩, hh2, ha2, hb2, hc2⟩ := lp2
  obtain ⟨hgC2, hgM2⟩ := id R2.1
  have hsz2 := R2.2.1.2.2.1
  have hat2 := R2.2.2.1.1
  have pt2 : (M2 222 26) = (M 222 26) := by rw [v4 26 (by decide) (by decide), sc1]
  have nd2 : (M2 222 10) = (M 222 10) := by rw [v4 10 (by decide) (by decide), sc1]
  have sz2 : (M2 222 3) = (M 222 3) := by rw [v4 3 (by decide) (by decide), sc1]
  rw [sc1] at at2 ha2
  -- where its X begins
  obtain ⟨M3, eM3⟩ : ∃ X : ax_V, X = ax_u M2 261 e (M2 222 26) := ⟨_, rfl⟩
  have hgM3 : ax_g M3 := by rw [eM3]; exact ax_u_g hgM2 ⟨by omega, by omega⟩
  have mn3 : ∀ c, c ≠ 261 → M3 c = M2 c := fun c z => by rw [eM3]; exact ax_u_ne z
  have sc3 : ∀ j, M3 222 j = M2 222 j := fun j => by rw [mn3 222 (by decide)]
  have R3 : e_R C2 M3 := R2.tab ⟨hgC2, hgM3⟩ (fun _ _ => rfl) (fun c z => mn3 c (by omega)) (fun _ _ => rfl) (fun j _ => sc3 j)
  have fC2 : f_fC C0 C2 := fC1.tr ff2.1
  have fM3 : f_fM M0 M3 := by rw [eM3]; exact (fM1.tr ff2.2).ua (by decide)
  refine f_go.of (Pc := fun Φ Θ => ax_N (az_W B (az_ER B r)) (418 + 2) q_Reader_expect [.ref r, ax_i 61] C2 (fun V1 => ax_I (az_W B (az_ER B r)) 420 q_Reader_readX [.ref r] V1 (fun r2 V2 => (0 ≤ e ∧ e < 350) ∧ (∀ V3, V3 = ax_u V2 550 e r2 → (0 ≤ e + 1 ∧ e + 1 < 351) ∧ (0 ≤ e ∧ e < 351) ∧ (0 ≤ r2 ∧ r2 < 700) ∧ ax_rg ((V3 548 (e + 1)) - (V3 548 e)) ∧ (∀ V4, V4 = ax_u V3 527 r2 ((V3 548 (e + 1)) - (V3 548 e)) → ax_N (az_W B (az_ER B r)) 420 q_Reader_expect [.ref r, ax_i 59] V4 (fun V5 => Φ V5) Θ))) Θ) Θ) (Pm := fun Φ Θ => ax_I ay_lay (419 + 2) q_Model_want [.ref 222, ax_i 61] M3 (fun r2 V2 => ((r2 = 0 → Φ 0 V2) ∧ (¬ r2 = 0 → ax_I ay_lay 421 q_Model_readX [.ref 222] V2 (fun r3 V3 => ((r3 = 0 → Φ 0 V3) ∧ (¬ r3 = 0 → ax_I ay_lay 421 q_Model_want [.ref 222, ax_i 59] V3 (fun r4 V4 => ((r4 = 0 → Φ 0 V4) ∧ (¬ r4 = 0 → (0 ≤ e ∧ e < 351) ∧ (∀ V5, V5 = ax_u V4 262 e (V4 222 74) → ax_rg ((V5 222 44) + 1) ∧ (∀ V6, V6 = ax_u V5 222 44 ((V5 222 44) + 1) → Φ 1 V6))))) Θ))) Θ))) Θ) ?_ (fun Φ Θ z z2 z3 z4 y2 y3 y4 => r_Reader_readEquation_112 hgC2 re y2 y3 y4 z) (fun Φ Θ z => r_Model_readEquation_49 hgM2 (ax_y_i _) (ax_y_i _) re (by decide) ⟨fun _ => ⟨e351, fun V1 d1 => by rw [d1, ← eM3]; exact z⟩, fun q => absurd rfl q⟩)
  refine (f_expect (v := 61) R3 fC2 fM3 (by decide)).bind0 (fun C4 M4 q4 => ?_)
  obtain ⟨⟨eC4, eM4⟩, ⟨see4, lt4⟩, R4, fC4, fM4⟩ := q4
  obtain ⟨hgC4, hgM4⟩ := id R4.1
  have nC4 : e_nC C2 C4 := by rw [eC4]; exact e_nC.on C2 1
  have nM4 : e_nM M3 M4 := by rw [eM4]; exact e_nM.on M3 1
  have at4 : (M4 222 68) = (M2 222 68) + 1 := by rw [eM4]; unfold m_on; rw [ax_u_s, sc3]
  have sc4 : ∀ j, j ≠ 68 → j ≠ 75 → M4 222 j = M2 222 j := fun j a b => by rw [nM4.2 j a b, sc3]
  have scM : ∀ j, j ≠ 52 → j ≠ 68 → j ≠ 75 → M4 222 j = M 222 j := fun j a b c => by rw [sc4 j b c, v4 j a b, sc1]
  have csM : ∀ j, j ≠ 6 → C4 600 j = C 600 j := fun j a => by rw [nC4.2 j a, u5 j a, cs1]
  have pt4 : (M4 222 26) = (M 222 26) := scM 26 (by decide) (by decide) (by decide)
  have nd4 : (M4 222 10) = (M 222 10) := scM 10 (by decide) (by decide) (by decide)
  have st4 : (C4 600 9) = (C 600 9) := csM 9 (by decide)
  have dl4 : (C4 600 13) = 0 := by rw [csM 13 (by decide)]; omega
  have dp4 : (M4 222 69) = 0 := by rw [scM 69 (by decide) (by decide) (by decide)]; exact hd
  have im4 : (C4 600 10) = 0 := by rw [csM 10 (by decide), hR.2.2.1.2.2.2.1.1]; exact hT
  have hsz4 := R4.2.1.2.2.1
  have sz4 : (M4 222 3) = (M 222 3) := scM 3 (by decide) (by decide) (by decide)
  have h48e : C4 548 e = L := by rw [nC4.1 548 (by decide), u3 e (by omega), c48e]
  have h48f : C4 548 (e + 1) = (M2 222 52) := by rw [nC4.1 548 (by decide)]; exact w4
  have hat4 := R4.2.2.1.1
  rcases hX C4 M4 R4 (by rw [dp4]; rfl) with ⟨p, C5, M5, ia, ib, ok⟩ | ⟨C5, M5, ia, ib, no⟩ | ⟨p, C5, M5, ia, ib, hf, dg⟩
  · have R5 := ok.1
    obtain ⟨hgC5, hgM5⟩ := id R5.1
    have q4 := ok.2.2.2.1
    have q5 := R5.2.2.2.1
    have hat5 := R5.2.2.1.1
    have hsz5 := R5.2.1.2.2.1
    have l5 : C5 548 = C4 548 := ok.2.1.1 548 (by decide) (by decide)
    obtain ⟨mm, emm⟩ : ∃ mm : Int, mm = (M2 222 52) - L := ⟨_, rfl⟩
    obtain ⟨C6, eC6⟩ : ∃ X : ax_V, X = ax_u (ax_u C5 550 e p) 527 p mm := ⟨_, rfl⟩
    have rp : ax_rg p := ⟨by omega, by omega⟩
    have hgC6 : ax_g C6 := by rw [eC6]; exact ax_u_g (ax_u_g hgC5 rp) ⟨by omega, by omega⟩
    have cn6 : ∀ c, c ≠ 527 → c ≠ 550 → C6 c = C5 c := fun c a b => by rw [eC6, ax_u_ne a, ax_u_ne b]
    have R6 : e_R C6 M5 := R5.tab ⟨hgC6, hgM5⟩ (fun c z => cn6 c (by omega) (by omega)) (fun _ _ => rfl) (fun j _ => by rw [cn6 600 (by decide) (by decide)]) (fun _ _ => rfl)
    have fC6 : f_fC C0 C6 := by rw [eC6]; exact ((fC4.tr ok.2.1.f).ua (by decide)).ua (by decide)
    have fM5 : f_fM M0 M5 := fM4.tr ok.2.2.1.f
    refine f_go.of (Pc := fun Φ Θ => ax_N (az_W B (az_ER B r)) (418 + 2) q_Reader_expect [.ref r, ax_i 59] C6 (fun V5 => Φ V5) Θ) (Pm := fun Φ Θ => ax_I ay_lay (419 + 2) q_Model_want [.ref 222, ax_i 59] M5 (fun r4 V4 => ((r4 = 0 → Φ 0 V4) ∧ (¬ r4 = 0 → (0 ≤ e ∧ e < 351) ∧ (∀ V5, V5 = ax_u V4 262 e (V4 222 74) → ax_rg ((V5 222 44) + 1) ∧ (∀ V6, V6 = ax_u V5 222 44 ((V5 222 44) + 1) → Φ 1 V6))))) Θ) ?_ (fun Φ Θ z => ia.k (by omega) (fun _ _ => ⟨he, fun V3 d3 => ?_⟩)) (fun Φ Θ z => ib.k (by omega) (fun _ _ => ⟨fun q => absurd q (by decide), fun _ => z⟩))
    rotate_left
    · have d4 : V3 548 (e + 1) - V3 548 e = mm := by rw [d3, ax_u_ne (by decide), l5, h48f, h48e, emm]
      rw [d4]
      exact ⟨⟨by omega, by omega⟩, ⟨by omega, by omega⟩, ⟨by omega, by omega⟩, ⟨by omega, by omega⟩, fun V4 d5 => by rw [d5, d3, ← eC6]; exact z⟩
    refine (f_expect (v := 59) R6 fC6 fM5 (by decide)).bind0 (fun C7 M7 q7 => ?_)
    obtain ⟨⟨eC7, eM7⟩, ⟨see7, lt7⟩, R7, fC7, fM7⟩ := q7
    obtain ⟨hgC7, hgM7⟩ := id R7.1
    have nC7 : e_nC C6 C7 := by rw [eC7]; exact e_nC.on C6 1
    have nM7 : e_nM M5 M7 := by rw [eM7]; exact e_nM.on M5 1
    have at7 : (M7 222 68) = (M5 222 68) + 1 := by rw [eM7]; exact ax_u_s _ _ _ _
    obtain ⟨M8, eM8⟩ : ∃ X : ax_V, X = ax_u (ax_u M7 262 e p) 222 44 (e + 1) := ⟨_, rfl⟩
    have hgM8 : ax_g M8 := by rw [eM8]; exact ax_u_g (ax_u_g hgM7 rp) ⟨by omega, by omega⟩
    have mn8 : ∀ c, c ≠ 262 → c ≠ 222 → M8 c = M7 c := fun c a b => by rw [eM8, ax_u_ne b, ax_u_ne a]
    have sc8 : ∀ j, j ≠ 44 → M8 222 j = M7 222 j := fun j a => by rw [eM8, ax_u_k a, ax_u_ne (by decide)]
    have pt7 : M7 222 74 = p := by rw [nM7.2 74 (by decide) (by decide)]; exact q4.1.symm
    have eq7 : M7 222 44 = e := by rw [nM7.2 44 (by decide) (by decide), ok.2.2.1.2.2 44 (by decide) (by decide) (by decide) (by decide) (by decide) (by decide), scM 44 (by decide) (by decide) (by decide), ee]
    have R8 : e_R C7 M8 := R7.tab ⟨hgC7, hgM8⟩ (fun _ _ => rfl) (fun c z => mn8 c (by omega) (by omega)) (fun _ _ => rfl) (fun j z => sc8 j (by omega))
    -- what stands where
    have sS : ∀ j, j ≠ 26 → j ≠ 44 → j ≠ 52 → j ≠ 68 → j ≠ 69 → j ≠ 72 → j ≠ 74 → j ≠ 75 → M8 222 j = M 222 j := fun j a b c d f g h i => by rw [sc8 j b, nM7.2 j d i, ok.2.2.1.2.2 j a d f g h i, scM j c d i]
    have sC : ∀ j, j ≠ 6 → j ≠ 11 → j ≠ 12 → j ≠ 13 → C7 600 j = C 600 j := fun j a b c d => by rw [nC7.2 j a, cn6 600 (by decide) (by decide), ok.2.1.2.2 j a b c d, csM j a]
    have cA : ∀ c, (c < 516 ∨ (531 < c ∧ c < 547) ∨ 555 < c) → c ≠ 600 → C7 c = C c := fun c a b => by rw [nC7.1 c b, cn6 c (by omega) (by omega), ok.2.1.1 c b (by omega), nC4.1 c b, u1 c (by omega) (by omega) (by omega) (by omega) b, cn1 c (by omega)]
    have cP : ∀ c q, 517 ≤ c → c ≤ 531 → q < (M 222 26) → C7 c q = C c q := fun c q a b z => by
      have e1 : C6 c q = C5 c q := by rw [eC6, ax_u_o (fun k => by omega), ax_u_ne (by omega)]
      rw [nC7.1 c (by omega), e1, ok.2.1.2.1 c q a b (by rw [pt4]; exact z), nC4.1 c (by omega), u1 c (by omega) (by omega) (by omega) (by omega) (by omega), cn1 c (by omega)]
    have cE1 : ∀ c i, 549 ≤ c → c ≤ 553 → (c ≠ 550 ∨ i ≠ e) → C7 c i = C1 c i := fun c i a b z => by
      have e1 : C6 c i = C5 c i := by rw [eC6, ax_u_ne (by omega), ax_u_o (fun k => by omega)]
      rw [nC7.1 c (by omega), e1, ok.2.1.1 c (by omega) (by omega), nC4.1 c (by omega), u1 c (by omega) (by omega) (by omega) (by omega) (by omega)]
    have c50 : C7 550 e = p := by rw [nC7.1 550 (by decide), eC6, ax_u_ne (by decide)]; exact ax_u_s _ _ _ _
    have c27 : C7 527 p = mm := by rw [nC7.1 527 (by decide), eC6]; exact ax_u_s _ _ _ _
    have c2 : ∀ c, (c = 547 ∨ c = 548 ∨ c = 554 ∨ c = 555) → C7 c = C2 c := fun c z => by rw [nC7.1 c (by omega), cn6 c (by omega) (by omega), ok.2.1.1 c (by omega) (by omega), nC4.1 c (by omega)]
    have mA2 : ∀ c, (c < 241 ∨ 257 < c) → c ≠ 261 → c ≠ 262 → c ≠ 222 → M8 c = M2 c := fun c a b z w => by rw [mn8 c z w, nM7.1 c w, ok.2.2.1.1 c w a, nM4.1 c w, mn3 c b]
    have mA : ∀ c, (c < 241 ∨ 266 < c) → c ≠ 222 → M8 c = M c := fun c a b => by rw [mA2 c (by omega) (by omega) (by omega) b, v1 c (by omega) (by omega) (by omega) b, mn1 c (by omega)]
    have mP : ∀ c q, 241 ≤ c → c ≤ 257 → q < (M 222 26) → M8 c q = M c q := fun c q a b z => by rw [mn8 c (by omega) (by omega), nM7.1 c (by omega), ok.2.2.1.2.1 c q a b (by rw [pt4]; exact z), nM4.1 c (by omega), mn3 c (by omega), v1 c (by omega) (by omega) (by omega) (by omega), mn1 c (by omega)]
    have mE : ∀ c i, 258 ≤ c → c ≤ 264 → i ≠ e → M8 c i = M c i := fun c i a b z => by
      have e1 : M8 c i = M7 c i := by rw [eM8, ax_u_ne (by omega), ax_u_o (fun k => z k.2)]
      have e2 : M3 c i = M2 c i := by rw [eM3, ax_u_o (fun k => z k.2)]
      have e3 : M2 c i = M1 c i := by
        by_cases k : c = 260
        · rw [k]; exact v2 i z
        · rw [v1 c k (by omega) (by omega) (by omega)]
      rw [e1, nM7.1 c (by omega), ok.2.2.1.1 c (by omega) (by omega), nM4.1 c (by omega), e2, e3, mi1 c i z]
    have m62 : M8 262 e = p := by rw [eM8, ax_u_ne (by decide)]; exact ax_u_s _ _ _ _
    have m61 : M8 261 e = (M 222 26) := by rw [mn8 261 (by decide) (by decide), nM7.1 261 (by decide), ok.2.2.1.1 261 (by decide) (by decide), nM4.1 261 (by decide), eM3, ax_u_s]; exact pt2
    have lf8 : M8 222 52 = (M2 222 52) := by rw [sc8 52 (by decide), nM7.2 52 (by decide) (by decide), ok.2.2.1.2.2 52 (by decide) (by decide) (by decide) (by decide) (by decide) (by decide), sc4 52 (by decide) (by decide)]
    have pr8 : M8 222 26 = p + 1 := by rw [sc8 26 (by decide), nM7.2 26 (by decide) (by decide)]; omega
    have at8 : M8 222 68 = (M5 222 68) + 1 := by rw [sc8 68 (by decide)]; exact at7
    have ok6 := ok.2.2.2.2.2.1
    have nd8 : M8 222 10 = (M 222 10) := sS 10 (by decide) (by decide) (by decide) (by decide) (by decide) (by decide) (by decide) (by decide)
    have fx : f_x C7 M8 (M 222 26) p (M 222 10) (C 600 9) 0 mm := by
      have k := ok.x (tr := 0) R4 dl4 (Or.inr rfl)
      rw [pt4, nd4, st4] at k
      obtain ⟨k1, k2, k3⟩ := k
      have k1p := k1.2.2
      have mk : ∀ c q, 241 ≤ c → c ≤ 257 → M8 c q = M5 c q := fun c q a b => by rw [mn8 c (by omega) (by omega), nM7.1 c (by omega)]
      have ck : ∀ c, 517 ≤ c → c ≤ 526 → C7 c = C5 c := fun c a b => by rw [nC7.1 c (by omega), cn6 c (by omega) (by omega)]
      have ek : ∀ q x, e_kid M8 q x ↔ e_kid M5 q x := by
        intro q x
        have ea : ∀ k, e_arg M8 q k = e_arg M5 q k := by
          intro k
          induction k with
          | zero => exact mk 245 q (by decide) (by decide)
          | succ k ih =>
            show (if e_arg M8 q k = -1 then -1 else M8 252 (e_arg M8 q k)) = (if e_arg M5 q k = -1 then -1 else M5 252 (e_arg M5 q k))
            rw [ih, mk 252 _ (by decide) (by decide)]
        unfold e_kid
        rw [mk 241 q (by decide) (by decide), mk 245 q (by decide) (by decide), mk 246 q (by decide) (by decide), mk 247 q (by decide) (by decide)]
        simp only [ea]
      refine ⟨⟨k1.1, k1.2.1, by rw [pr8]; omega⟩, ⟨by rw [ck 526 (by decide) (by decide)]; exact k2.1, c27⟩, fun q a b => ?_⟩
      obtain ⟨t1, t2, t3, t4, t5⟩ := k3 q a b
      rw [mk 250 q (by decide) (by decide), mk 256 q (by decide) (by decide), mk 241 q (by decide) (by decide), ck 525 (by decide) (by decide)]
      refine ⟨t1, t2, t3, fun x hx => t4 x ((ek q x).mp hx), fun z => ⟨?_, ?_⟩⟩
      · rw [nC7.1 527 (by decide), eC6, ax_u_k (by omega), ax_u_ne (by decide)]; exact (t5 z).1
      · obtain ⟨w, y1, y2, y3⟩ := (t5 z).2
        exact ⟨w, y1, y2, (ek w q).mpr y3.1, fun v a' b' k' => y3.2 v a' b' ((ek v q).mp k')⟩
    have hB8 : f_B C7 M8 u := by
      refine hB.eq (p := p) (L2 := (M2 222 52)) hR hst hcs hu cA cP (fun c i a b z => ?_) (fun i z => ?_) ?_ ?_ (fun i z => ?_) ⟨?_, ?_⟩ ⟨?_, ?_, ?_, ?_, ?_⟩ mA mP (fun c i a b z => mE c i a b (by omega)) (fun i z => ?_) ⟨?_, ?_, ?_, ?_, ?_, ?_, ?_⟩ ⟨?_, lf8, pr8, nd8, ?_, ?_⟩ (by omega) ⟨by omega, by omega⟩ (by rw [← eL, ← emm]; exact fx) (fun h a b => ?_) ⟨fun h a b => ?_, fun i j a b c => ?_, fun q a b => ?_⟩
      · rw [cE1 c i a b (Or.inr (by omega)), ci1 c i a b (by omega)]
      · rw [c2 548 (by decide), u3 i (by omega), c48 i (by omega) (by omega)]
      · rw [← ee, c2 548 (by decide), u3 e (by omega), c48e, eL]
      · rw [← ee, c2 548 (by decide)]; exact w4
      · rw [c2 554 (by decide), c2 555 (by decide), (u4 i (by omega)).1, (u4 i (by omega)).2, cn1 554 (by decide), cn1 555 (by decide)]; exact ⟨rfl, rfl⟩
      · rw [c2 547 (by decide), u2, c47, ee]
      · rw [c2 547 (by decide)]; exact w1
      · rw [← ee, cE1 549 e (by decide) (by decide) (Or.inl (by decide))]; exact c49
      · rw [← ee]; exact c50
      · rw [← ee, cE1 551 e (by decide) (by decide) (Or.inl (by decide))]; exact c51
      · rw [← ee, cE1 552 e (by decide) (by decide) (Or.inl (by decide))]; exact c52
      · rw [← ee, cE1 553 e (by decide) (by decide) (Or.inl (by decide))]; exact c53
      · rw [mA2 265 (by decide) (by decide) (by decide) (by decide), mA2 266 (by decide) (by decide) (by decide) (by decide), (v3 i (by omega)).1, (v3 i (by omega)).2, mn1 265 (by decide), mn1 266 (by decide)]; exact ⟨rfl, rfl⟩
      · rw [← ee, mA2 258 (by decide) (by decide) (by decide) (by decide), v1 258 (by decide) (by decide) (by decide) (by decide)]; exact m58
      · rw [← ee, ← eL, mA2 259 (by decide) (by decide) (by decide) (by decide), v1 259 (by decide) (by decide) (by decide) (by decide)]; exact m59
      · rw [← ee, ← eL, mA2 260 (by decide) (by decide) (by decide) (by decide)]; exact w3
      · rw [← ee]; exact m61
      · rw [← ee]; exact m62
      · rw [← ee, mA2 263 (by decide) (by decide) (by decide) (by decide), v1 263 (by decide) (by decide) (by decide) (by decide)]; exact m63
      · rw [← ee, mA2 264 (by decide) (by decide) (by decide) (by decide), v1 264 (by decide) (by decide) (by decide) (by decide)]; exact m64
      · rw [eM8, ax_u_s, ee]
      · exact sS 55 (by decide) (by decide) (by decide) (by decide) (by decide) (by decide) (by decide) (by decide)
      · exact sS 60 (by decide) (by decide) (by decide) (by decide) (by decide) (by decide) (by decide) (by decide)
      · have := hh2 h (by omega) b
        unfold f_h at this ⊢
        rw [c2 554 (by decide), c2 555 (by decide), mA2 265 (by decide) (by decide) (by decide) (by decide), mA2 266 (by decide) (by decide) (by decide) (by decide)]
        exact this
      · rw [mA2 266 (by decide) (by decide) (by decide) (by decide)]
        have := hb2 h (by omega) b
        rw [sc1] at this
        omega
      · rw [mA2 266 (by decide) (by decide) (by decide) (by decide)]
        exact hc2 i j (by omega) b c
      · rw [mA2 266 (by decide) (by decide) (by decide) (by decide), mn8 242 (by decide) (by decide), nM7.1 242 (by decide)]
        have h1 := hb2 (M 222 52) (by omega) (by omega)
        have h2 := (ok.2.2.2.2.2.1.2.2 q (by rw [pt4]; exact a) (by omega)).2.2.2.2.1
        omega
    have stC : C7 600 9 = C 600 9 := sC 9 (by decide) (by decide) (by decide) (by decide)
    have ok7 := ok.2.2.2.2.2.2.1
    have dp8 : M8 222 69 = 0 := by rw [sc8 69 (by decide), nM7.2 69 (by decide) (by decide)]; omega
    have bk8 : M8 222 72 = M 222 72 := by rw [sc8 72 (by decide), nM7.2 72 (by decide) (by decide), ok7.2.1, scM 72 (by decide) (by decide) (by decide)]
    have dl7 : C7 600 13 = C 600 13 := by rw [nC7.2 13 (by decide), cn6 600 (by decide) (by decide), ok7.2.2, csM 13 (by decide)]
    have S8 := R8.2.2.1
    have S0 := hR.2.2.1
    refine f_go.ok (C' := C7) (M' := M8) (fun Φ Θ z => z) (fun Φ Θ z => ⟨e351, fun V5 d5 => ?_⟩) ⟨⟨R8, ⟨fC7, by rw [eM8]; exact (fM7.ua (by decide)).us (by decide)⟩, ?_, hB8, ⟨dp8, by rw [sS 71 (by decide) (by decide) (by decide) (by decide) (by decide) (by decide) (by decide) (by decide)]; exact hT, by rw [sS 55 (by decide) (by decide) (by decide) (by decide) (by decide) (by decide) (by decide) (by decide)]; exact hu⟩, ?_⟩, by omega, ⟨⟨cA, fun j a => ?_⟩, mA, fun j a b c d f g => ?_⟩, by rw [pr8, at8, eM8, ax_u_s]; omega⟩
    · have d6 : V5 222 44 = e := by rw [d5, ax_u_ne (by decide), eq7]
      rw [d6]
      refine ⟨⟨by omega, by omega⟩, fun V6 d7 => ?_⟩
      rw [d7, d5, pt7, ← eM8]; exact z
    · rw [nd8]
      exact hLL.keep (fun c z => cA c (by omega) (by omega)) (fun c z => mA c (by omega) (by omega)) (sC 7 (by decide) (by decide) (by decide) (by decide)) (sS 73 (by decide) (by decide) (by decide) (by decide) (by decide) (by decide) (by decide) (by decide)) (sS 77 (by decide) (by decide) (by decide) (by decide) (by decide) (by decide) (by decide) (by decide)) (by omega)
    · rw [stC, pr8]
      intro z q p' a b c d
      have hs : ∀ q, (M 222 26) ≤ q → q ≤ p → C7 525 q = (C 600 9) := fun q a b => (fx.2.2 q a b).1.2.1
      rcases Int.lt_or_le p' (M 222 26) with y | y
      · rw [cP 525 p' (by decide) (by decide) y]
        rw [cP 525 q (by decide) (by decide) (by omega)] at d
        exact hcs z q p' a b y d
      · exact hs p' y (by omega)
    · by_cases z1 : j = 11
      · rw [z1, S8.2.2.1.1, S0.2.2.1.1]; omega
      · by_cases z2 : j = 12
        · rw [z2, S8.2.2.2.2.1.1, S0.2.2.2.2.1.1]; exact bk8
        · by_cases z3 : j = 13
          · rw [z3]; exact dl7
          · exact sC j a z1 z2 z3
    · by_cases z1 : j = 69
      · rw [z1, dp8]; omega
      · by_cases z2 : j = 72
        · rw [z2]; exact bk8
        · exact sS j a b c d z1 z2 f g
  · exact f_go.stop (C' := C5) (M' := M5) (fun Φ Θ z => ia.kI (by omega) (fun _ => z)) (fun Φ Θ z => ib.k (by omega) (fun _ _ => ⟨fun _ => z, fun q => absurd rfl q⟩)) ⟨no.1, no.2.1, fC4.tr no.2.2.1.f, fM4.tr no.2.2.2.f⟩
  · obtain ⟨⟨hg5, f1, f2, f3⟩, f4, f5, f6⟩ := id hf
    have ci5 := e_half.ci R4 hf
    have im5 : (C5 600 10) = 0 := by rw [f2.2.2 10 (by decide) (by decide) (by decide) (by decide)]; exact im4
    have dg5 : 48 ≤ c_see C5 ∧ c_see C5 ≤ 57 := by
      rcases dg with z | z
      · exact z
      · omega
    have l5 : C5 548 = C4 548 := f2.1 548 (by decide) (by decide)
    obtain ⟨C6, eC6⟩ : ∃ X : ax_V, X = ax_u (ax_u C5 550 e p) 527 p ((M2 222 52) - L) := ⟨_, rfl⟩
    have rp : ax_rg p := ⟨by omega, by omega⟩
    have hgC6 : ax_g C6 := by rw [eC6]; exact ax_u_g (ax_u_g hg5.1 rp) ⟨by omega, by omega⟩
    have cn6 : ∀ c, c ≠ 527 → c ≠ 550 → C6 c = C5 c := fun c a b => by rw [eC6, ax_u_ne a, ax_u_ne b]
    have ci6 : c_in C6 := by
      show 0 ≤ C6 600 6 ∧ C6 600 6 ≤ 1000000 ∧ C6 600 1 ≤ 700 ∧ ∀ i, 0 ≤ i → i < C6 600 1 → 0 ≤ C6 1 i ∧ C6 1 i < 65536
      rw [cn6 600 (by decide) (by decide), cn6 1 (by decide) (by decide)]; exact ci5
    have se6 : c_see C6 = c_see C5 := by unfold c_see; rw [cn6 600 (by decide) (by decide), cn6 1 (by decide) (by decide)]
    refine f_go.stop (C' := C6) (M' := M5) (fun Φ Θ z => ia.k (by omega) (fun _ _ => ⟨he, fun V3 d3 => ?_⟩)) (fun Φ Θ z => ib.k (by omega) (fun _ _ => ⟨fun _ => z, fun q => absurd rfl q⟩)) ⟨⟨hgC6, hg5.2⟩, by rw [cn6 600 (by decide) (by decide)]; exact f1, ?_, fM4.tr f3.f⟩
    · have d4 : V3 548 (e + 1) - V3 548 e = (M2 222 52) - L := by rw [d3, ax_u_ne (by decide), l5, h48f, h48e]
      rw [d4]
      refine ⟨⟨by omega, by omega⟩, ⟨by omega, by omega⟩, ⟨by omega, by omega⟩, ⟨by omega, by omega⟩, fun V4 d5 => ?_⟩
      rw [d5, d3, ← eC6]
      exact t_expect hgC6 (by decide) ci6 (fun q => by omega) (fun _ => z)
    · rw [eC6]; exact ((fC4.tr f2.f).ua (by decide)).ua (by decide)
end EquationR
