/-! A NODE'S HEAD IS READ: the roads -/
section Head2
variable {B r : Nat} {C0 M0 C M : ax_V} {n : Int}
theorem f_I.fl {C' M' : ax_V} {u : Int} (h : f_I C0 M0 C M u) (hR : e_R C' M') (gC : f_gC C C') (gM : f_gM M M') (hL : f_LL C' M' ((M' 222 10) + 1)) (ha : (M 222 68) ≤ (M' 222 68)) : f_I C0 M0 C' M' u := by
  obtain ⟨-, ⟨fC, fM⟩, -, hB, hd, hcs⟩ := h
  have sc := fun j a b c d => gM.2.1 j a b c d
  refine ⟨hR, ⟨fC.tr gC.f, fM.tr gM.f⟩, hL, hB.tab (fun c z => gC.1 c (by omega) (by omega)) (fun k _ _ => by rw [gC.1 502 (by decide) (by decide)]) (fun c z => gM.1 c (by omega) (by omega)) (fun k _ _ => by rw [gM.1 287 (by decide) (by decide)]) (fun i _ => by rw [gM.1 269 (by decide) (by decide)]) (fun j z => sc j (by omega) (by omega) (by omega) (by omega)) ha, ?_, ?_⟩
  · rw [sc 69 (by decide) (by decide) (by decide) (by decide), sc 71 (by decide) (by decide) (by decide) (by decide), sc 55 (by decide) (by decide) (by decide) (by decide)]; exact hd
  · rw [gC.2 9 (by decide) (by decide), sc 26 (by decide) (by decide) (by decide) (by decide), gC.1 525 (by decide) (by decide)]; exact hcs
/-- within a node: what its head has told -/
def f_hd (C M : ax_V) (n : Int) : Prop := (C 600 9) = -1 ∧ (M 222 10) = n ∧ C 501 n = M 226 n ∧ (C 502 n = M 287 n ∧ e_pl (M 287 n)) ∧ f_no1 M n ∧ 1 ≤ (M 222 68) ∧ (M 222 26) + (M 222 44) + 4 * (M 222 55) ≤ (M 222 68)
theorem f_hd.fl {C' M' : ax_V} (h : f_hd C M n) (gC : f_gC C C') (gM : f_gM M M') (ha : (M 222 68) ≤ (M' 222 68)) : f_hd C' M' n := by
  obtain ⟨h1, h2, h3, h4, h5, h6, h7⟩ := h
  refine ⟨by rw [gC.2 9 (by decide) (by decide)]; exact h1, by rw [gM.2.1 10 (by decide) (by decide) (by decide) (by decide)]; exact h2, by rw [gC.1 501 (by decide) (by decide), gM.1 226 (by decide) (by decide)]; exact h3, by rw [gC.1 502 (by decide) (by decide), gM.1 287 (by decide) (by decide)]; exact h4, fun z k a b => ?_, by omega, by rw [gM.2.1 26 (by decide) (by decide) (by decide) (by decide), gM.2.1 44 (by decide) (by decide) (by decide) (by decide), gM.2.1 55 (by decide) (by decide) (by decide) (by decide)]; omega⟩
  exact Int.le_trans (h5 (Classical.not_not.mp (fun q => gM.2.2.2 q z)) k a b) (gM.2.2.1 k)
/-- where the class went on to a digit, it stops at what it expects -/
theorem f_dig_h {Kc : ax_V → f_PC} {Lc : ax_V → f_PC} {v : Int} {C' : ax_V} {d : Nat} (hg : ax_g C') (ci : c_in C') (w : e_dig C') (hv : v = 41 ∨ v = 123) : f_hs f_nv (fun Φ Θ => ax_N (az_W B (az_ER B r)) (d + 2) q_Reader_expect [.ref r, ax_i v] C' (fun V => Kc V Φ Θ) Θ) Lc C' :=
  f_expect_h hg ci ⟨by omega, by omega⟩ (by have := w.1; have := w.2; omega)
set_option maxHeartbeats 2000000 in
/-- from behind the ( to the { -/
theorem f_head81 (h : f_I C0 M0 C M (M 222 55)) (hh : f_hd C M n) (hn : 0 ≤ n ∧ n < 8) :
    f_go f_nv (fun Φ Θ => k_Reader_readHead_81 B r 421 (some (ax_i n)) C Φ Θ) (fun C' Φ _ => Φ C') (fun Φ Θ => k_Model_readNode_186 423 (some (ax_i 26)) (some (ax_i (26 * n + 25))) M Φ Θ) (fun M' Φ Θ => k_Model_readNode_245 423 (some (ax_i 26)) (some (ax_i (26 * n + 25))) M' Φ Θ) C0 M0 (fun C' M' => f_I C0 M0 C' M' (M' 222 55) ∧ f_hd C' M' n ∧ f_no1 M' (n + 1) ∧ (M 222 68) < (M' 222 68)) := by
  have hR := h.1
  obtain ⟨hgC, hgM⟩ := id hR.1
  have k1 := f_expect (B := B) (r := r) (dc := 419) (dm := 421) (v := 41) (Kc := fun V1 Φ Θ => ax_N (az_W B (az_ER B r)) 421 q_Reader_readFlows [.ref r, ax_i 2] V1 (fun V2 => ax_I (az_W B (az_ER B r)) 421 q_Reader_look [.ref r] V2 (fun r3 V3 => ((r3 = 124 → ax_rg ((V3 600 6) + 1) ∧ (∀ V5, V5 = ax_u V3 600 6 ((V3 600 6) + 1) → ax_N (az_W B (az_ER B r)) 421 q_Reader_readFlows [.ref r, ax_i 3] V5 (fun V6 => ax_N (az_W B (az_ER B r)) 421 q_Reader_expect [.ref r, ax_i 123] V6 (fun V7 => Φ V7) Θ) Θ)) ∧ (¬ r3 = 124 → ax_N (az_W B (az_ER B r)) 421 q_Reader_expect [.ref r, ax_i 123] V3 (fun V4 => Φ V4) Θ))) Θ) Θ) (Km := fun V1 Φ Θ => ax_I ay_lay 423 q_Model_readFlows [.ref 222, ax_i 2] V1 (fun r2 V2 => ((r2 = 0 → Φ 0 V2) ∧ (¬ r2 = 0 → ax_I ay_lay 423 q_Model_see [.ref 222] V2 (fun r3 V3 => ((r3 = 124 → ax_rg ((V3 222 68) + 1) ∧ (∀ V5, V5 = ax_u V3 222 68 ((V3 222 68) + 1) → ax_I ay_lay 423 q_Model_readFlows [.ref 222, ax_i 3] V5 (fun r6 V6 => ((r6 = 0 → Φ 0 V6) ∧ (¬ r6 = 0 → ax_I ay_lay 423 q_Model_want [.ref 222, ax_i 123] V6 (fun r7 V7 => ((r7 = 0 → Φ 0 V7) ∧ (¬ r7 = 0 → k_Model_readNode_245 423 (some (ax_i 26)) (some (ax_i (26 * n + 25))) V7 Φ Θ))) Θ))) Θ)) ∧ (¬ r3 = 124 → ax_I ay_lay 423 q_Model_want [.ref 222, ax_i 123] V3 (fun r4 V4 => ((r4 = 0 → Φ 0 V4) ∧ (¬ r4 = 0 → k_Model_readNode_245 423 (some (ax_i 26)) (some (ax_i (26 * n + 25))) V4 Φ Θ))) Θ))) Θ))) Θ) hR h.2.1.1 h.2.1.2 (by decide)
  refine (k1.bind0 (fun C1 M1 q1 => ?_)).of (fun Φ Θ z => r_Reader_readHead_81 hgC (ax_y_i n) z) (fun Φ Θ z => r_Model_readNode_186 hgM (ax_y_i _) (ax_y_i _) z)
  obtain ⟨⟨eC1, eM1⟩, ⟨see1, lt1⟩, R1, fC1, fM1⟩ := q1
  have i1 := h.on lt1
  rw [← eC1, ← eM1] at i1
  have nC1 : e_nC C C1 := by rw [eC1]; exact e_nC.on C 1
  have nM1 : e_nM M M1 := by rw [eM1]; exact e_nM.on M 1
  have at1 : (M1 222 68) = (M 222 68) + 1 := by rw [eM1]; exact ax_u_s _ _ _ _
  have hh1 : f_hd C1 M1 n := hh.fl nC1.g nM1.g (by omega)
  have au1 : (M1 222 55) = (M 222 55) := nM1.2 55 (by decide) (by decide)
  rw [← au1] at i1
  have k2 := ((((f_readFlows (B := B) (r := r) (dc := 416) (dm := 418) (k := 2) (by decide) R1 i1.2.2.1).base fC1 fM1)).cont (L := fun V2 Φ Θ => ax_I (az_W B (az_ER B r)) 421 q_Reader_look [.ref r] V2 (fun r3 V3 => ((r3 = 124 → ax_rg ((V3 600 6) + 1) ∧ (∀ V5, V5 = ax_u V3 600 6 ((V3 600 6) + 1) → ax_N (az_W B (az_ER B r)) 421 q_Reader_readFlows [.ref r, ax_i 3] V5 (fun V6 => ax_N (az_W B (az_ER B r)) 421 q_Reader_expect [.ref r, ax_i 123] V6 (fun V7 => Φ V7) Θ) Θ)) ∧ (¬ r3 = 124 → ax_N (az_W B (az_ER B r)) 421 q_Reader_expect [.ref r, ax_i 123] V3 (fun V4 => Φ V4) Θ))) Θ)).contM (L := fun V2 Φ Θ => ax_I ay_lay 423 q_Model_see [.ref 222] V2 (fun r3 V3 => ((r3 = 124 → ax_rg ((V3 222 68) + 1) ∧ (∀ V5, V5 = ax_u V3 222 68 ((V3 222 68) + 1) → ax_I ay_lay 423 q_Model_readFlows [.ref 222, ax_i 3] V5 (fun r6 V6 => ((r6 = 0 → Φ 0 V6) ∧ (¬ r6 = 0 → ax_I ay_lay 423 q_Model_want [.ref 222, ax_i 123] V6 (fun r7 V7 => ((r7 = 0 → Φ 0 V7) ∧ (¬ r7 = 0 → k_Model_readNode_245 423 (some (ax_i 26)) (some (ax_i (26 * n + 25))) V7 Φ Θ))) Θ))) Θ)) ∧ (¬ r3 = 124 → ax_I ay_lay 423 q_Model_want [.ref 222, ax_i 123] V3 (fun r4 V4 => ((r4 = 0 → Φ 0 V4) ∧ (¬ r4 = 0 → k_Model_readNode_245 423 (some (ax_i 26)) (some (ax_i (26 * n + 25))) V4 Φ Θ))) Θ))) Θ)
  refine k2.bind (fun C2 M2 q2 => ?_) (fun C2 hg ci w => ?_)
  · obtain ⟨R2, ⟨gC2, gM2⟩, L2, a2, n2, o2⟩ := q2
    obtain ⟨hgC2, hgM2⟩ := id R2.1
    have hs2 := R2.see
    have i2 := i1.fl R2 gC2 gM2 L2 (by omega)
    have hh2 := hh1.fl gC2 gM2 (by omega)
    have au2 : (M2 222 55) = (M1 222 55) := gM2.2.1 55 (by decide) (by decide) (by decide) (by decide)
    rw [← au2] at i2
    have hat2 := R2.2.2.1.1
    have hsz2 := R2.2.1.2.2.1
    have no2 : f_no1 M2 (n + 1) := by
      intro z k a b
      by_cases w : k = n
      · rw [w]; have := o2 z rfl; rw [hh2.2.1] at this; exact this
      · exact hh2.2.2.2.2.1 z k a (by omega)
    by_cases w : m_see M2 = 124
    · have hlt := R2.lt (by omega)
      have i3 := i2.on hlt
      obtain ⟨C3, eC3⟩ : ∃ X : ax_V, X = c_on C2 1 := ⟨_, rfl⟩
      obtain ⟨M3, eM3⟩ : ∃ X : ax_V, X = m_on M2 1 := ⟨_, rfl⟩
      rw [← eC3, ← eM3] at i3
      have nC3 : e_nC C2 C3 := by rw [eC3]; exact e_nC.on C2 1
      have nM3 : e_nM M2 M3 := by rw [eM3]; exact e_nM.on M2 1
      have at3 : (M3 222 68) = (M2 222 68) + 1 := by rw [eM3]; exact ax_u_s _ _ _ _
      have hh3 : f_hd C3 M3 n := hh2.fl nC3.g nM3.g (by omega)
      have au3 : (M3 222 55) = (M2 222 55) := nM3.2 55 (by decide) (by decide)
      rw [← au3] at i3
      have R3 := i3.1
      have k3 := ((((f_readFlows (B := B) (r := r) (dc := 416) (dm := 418) (k := 3) (by decide) R3 i3.2.2.1).base i3.2.1.1 i3.2.1.2)).cont (L := fun V6 Φ Θ => ax_N (az_W B (az_ER B r)) (419 + 2) q_Reader_expect [.ref r, ax_i 123] V6 (fun V7 => Φ V7) Θ)).contM (L := fun V6 Φ Θ => ax_I ay_lay (421 + 2) q_Model_want [.ref 222, ax_i 123] V6 (fun r7 V7 => ((r7 = 0 → Φ 0 V7) ∧ (¬ r7 = 0 → k_Model_readNode_245 423 (some (ax_i 26)) (some (ax_i (26 * n + 25))) V7 Φ Θ))) Θ)
      refine (k3.bind (fun C4 M4 q4 => ?_) (fun C4 hg ci w => f_dig_h (Kc := fun V Φ _ => Φ V) hg ci w (Or.inr rfl))).of (fun Φ Θ z => t_look hgC2 R2.ci ⟨fun _ => ⟨⟨by omega, by omega⟩, fun V5 e5 => ?_⟩, fun q => absurd (hs2.trans w) q⟩) (fun Φ Θ z => s_see hgM2 R2.mi ⟨fun _ => ⟨⟨by omega, by omega⟩, fun V5 e5 => ?_⟩, fun q => absurd w q⟩)
      · obtain ⟨R4, ⟨gC4, gM4⟩, L4, a4, n4, o4⟩ := q4
        have i4 := i3.fl R4 gC4 gM4 L4 (by omega)
        have hh4 := hh3.fl gC4 gM4 (by omega)
        have au4 : (M4 222 55) = (M3 222 55) := gM4.2.1 55 (by decide) (by decide) (by decide) (by decide)
        rw [← au4] at i4
        have k4 := f_expect (B := B) (r := r) (dc := 419) (dm := 421) (v := 123) (Kc := fun V Φ _ => Φ V) (Km := fun V Φ Θ => k_Model_readNode_245 423 (some (ax_i 26)) (some (ax_i (26 * n + 25))) V Φ Θ) R4 i4.2.1.1 i4.2.1.2 (by decide)
        refine k4.mono (fun C5 M5 q5 => ?_)
        obtain ⟨⟨eC5, eM5⟩, ⟨see5, lt5⟩, R5, fC5, fM5⟩ := q5
        have i5 := i4.on lt5
        rw [← eC5, ← eM5] at i5
        have nC5 : e_nC C4 C5 := by rw [eC5]; exact e_nC.on C4 1
        have nM5 : e_nM M4 M5 := by rw [eM5]; exact e_nM.on M4 1
        have at5 : (M5 222 68) = (M4 222 68) + 1 := by rw [eM5]; exact ax_u_s _ _ _ _
        have au5 : (M5 222 55) = (M4 222 55) := nM5.2 55 (by decide) (by decide)
        rw [← au5] at i5
        refine ⟨i5, hh4.fl nC5.g nM5.g (by omega), fun z k a b => ?_, by omega⟩
        have z4 : (M4 222 73) = -1 := by rw [← nM5.2 73 (by decide) (by decide)]; exact z
        have z3 : (M3 222 73) = -1 := Classical.not_not.mp (fun q => gM4.2.2.2 q z4)
        have z2 : (M2 222 73) = -1 := by rw [← nM3.2 73 (by decide) (by decide)]; exact z3
        rw [nM5.1 228 (by decide)]
        refine Int.le_trans ?_ (gM4.2.2.1 k)
        rw [nM3.1 228 (by decide)]
        exact no2 z2 k a b
      · have e6 : V5 = C3 := by rw [e5, eC3]; rfl
        rw [e6]; exact z
      · have e6 : V5 = M3 := by rw [e5, eM3]; rfl
        rw [e6]; exact z
    · have k4 := f_expect (B := B) (r := r) (dc := 419) (dm := 421) (v := 123) (Kc := fun V Φ _ => Φ V) (Km := fun V Φ Θ => k_Model_readNode_245 423 (some (ax_i 26)) (some (ax_i (26 * n + 25))) V Φ Θ) R2 i2.2.1.1 i2.2.1.2 (by decide)
      refine (k4.mono (fun C5 M5 q5 => ?_)).of (fun Φ Θ z => t_look hgC2 R2.ci ⟨fun q => absurd (hs2.symm.trans q) w, fun _ => z⟩) (fun Φ Θ z => s_see hgM2 R2.mi ⟨fun q => absurd q w, fun _ => z⟩)
      obtain ⟨⟨eC5, eM5⟩, ⟨see5, lt5⟩, R5, fC5, fM5⟩ := q5
      have i5 := i2.on lt5
      rw [← eC5, ← eM5] at i5
      have nC5 : e_nC C2 C5 := by rw [eC5]; exact e_nC.on C2 1
      have nM5 : e_nM M2 M5 := by rw [eM5]; exact e_nM.on M2 1
      have at5 : (M5 222 68) = (M2 222 68) + 1 := by rw [eM5]; exact ax_u_s _ _ _ _
      have au5 : (M5 222 55) = (M2 222 55) := nM5.2 55 (by decide) (by decide)
      rw [← au5] at i5
      refine ⟨i5, hh2.fl nC5.g nM5.g (by omega), fun z k a b => ?_, by omega⟩
      rw [nM5.1 228 (by decide)]
      exact no2 (by rw [← nM5.2 73 (by decide) (by decide)]; exact z) k a b
  · have hd : 48 ≤ c_see C2 ∧ c_see C2 ≤ 57 := w
    refine Or.inl ⟨C2, fun Φ Θ z => t_look hg ci ⟨fun q => by omega, fun _ => t_expect hg (by decide) ci (fun q => by omega) (fun _ => z)⟩, rfl, f_fC.rf C2, hg⟩
theorem f_N.R (h : f_N C0 M0 C M n) (hn : n < 8) : e_R (ax_u C 600 8 n) M := by
  obtain ⟨⟨hgC, hgM⟩, hT, hat, hnn, ⟨h1, h2, h3, h4, h5⟩, hP, -⟩ := h
  obtain ⟨C1, eC1⟩ : ∃ X : ax_V, X = ax_u C 600 8 n := ⟨_, rfl⟩
  have C1_g : ax_g C1 := by rw [eC1]; exact (ax_u_g hgC ⟨by omega, by omega⟩)
  have C1_n : ∀ c, c ≠ 600 → C1 c = C c := fun c a600 => by rw [eC1, ax_u_ne a600]
  have C1_v0 : C1 600 8 = n := by rw [eC1]; exact ax_u_s _ _ _ _
  have C1_o600 : ∀ i, i ≠ 8 → C1 600 i = C 600 i := fun i b0 => by rw [eC1, ax_u_k b0]
  rw [← eC1]
  refine ⟨⟨C1_g, hgM⟩, ?_, ?_, ?_⟩
  · unfold e_T at hT ⊢
    rw [C1_o600 1 (by decide), C1_n 1 (by decide)]; exact hT
  · unfold e_S
    rw [C1_o600 6 (by decide), C1_o600 11 (by decide), C1_o600 10 (by decide), C1_o600 12 (by decide), C1_o600 9 (by decide), C1_o600 13 (by decide), C1_v0]
    exact ⟨hat, ⟨hnn.1, by omega, by omega⟩, ⟨by omega, by omega, by omega⟩, ⟨by omega, by omega⟩, ⟨by omega, by omega, by omega⟩, Or.inl ⟨h4.2, h4.1⟩, by omega, by omega⟩
  · obtain ⟨p1, p2, p3⟩ := hP
    refine ⟨by rw [C1_n 516 (by decide)]; exact p1, fun k a b => by rw [C1_n 501 (by decide)]; exact p2 k a b, fun q a b => ?_⟩
    exact (p3 q a b).keep (fun c x y z => by rw [C1_n c (by omega)]) (fun c x y => rfl) (fun k x y => rfl) (fun x hx => ⟨by rw [C1_n 522 (by decide)], by rw [C1_n 526 (by decide)], rfl, rfl⟩)
set_option maxHeartbeats 4000000 in
theorem f_head (h : f_N C0 M0 C M n) (hn8 : n < 8) :
    f_go f_nv (fun Φ Θ => ax_N (az_W B (az_ER B r)) 422 q_Reader_readHead [.ref r, ax_i n] C Φ Θ) (fun C' Φ _ => Φ C') (fun Φ Θ => ax_I ay_lay 424 q_Model_readNode [.ref 222] M Φ Θ) (fun M' Φ Θ => k_Model_readNode_245 423 (some (ax_i 26)) (some (ax_i (26 * n + 25))) M' Φ Θ) C0 M0 (fun C' M' => f_I C0 M0 C' M' (M' 222 55) ∧ f_hd C' M' n ∧ f_no1 M' (n + 1) ∧ (M 222 68) < (M' 222 68)) := by
  have Rn := h.R hn8
  obtain ⟨⟨hgC, hgM⟩, hT, hat, hnn, ⟨h1, h2, h3, h4, h5⟩, hP, ⟨fC, fM⟩, hLL, hB, hfr, hno, hJ, hPn⟩ := h
  have hsz := hT.2.2.1
  have rn : ax_rg n := ⟨by omega, by omega⟩
  have hs : c_see C = m_see M := e_T.see hT hat.1 hat.2.1
  have mi : m_in M := ⟨by omega, by omega, by omega⟩
  have ci : c_in C := ⟨by omega, by omega, by rw [hT.1]; omega, fun i i0 i1 => by rw [hT.1] at i1; have := hT.2.2.2 i i0 i1; omega⟩
  by_cases w : m_isN M
  · have hlt : (M 222 68) < (M 222 3) := by
      by_cases q : (M 222 68) < (M 222 3)
      · exact q
      · have : m_see M = 0 := if_neg q
        omega
    obtain ⟨v, ev⟩ : ∃ v : Int, v = m_see M := ⟨_, rfl⟩
    obtain ⟨p, ep⟩ : ∃ p : Int, p = (M 222 68) := ⟨_, rfl⟩
    have rv : ax_rg v := by rw [ev]; exact m_see_rg hgM
    rw [← ev] at hs
    have w : 65 ≤ v ∧ v ≤ 72 := by rw [ev]; exact w
    obtain ⟨Ca, eCa⟩ : ∃ X : ax_V, X = ax_u C 600 8 n := ⟨_, rfl⟩
    have Ca_g : ax_g Ca := by rw [eCa]; exact (ax_u_g hgC ⟨by omega, by omega⟩)
    have Ca_n : ∀ c, c ≠ 600 → Ca c = C c := fun c a600 => by rw [eCa, ax_u_ne a600]
    have Ca_v0 : Ca 600 8 = n := by rw [eCa]; exact ax_u_s _ _ _ _
    have Ca_o600 : ∀ i, i ≠ 8 → Ca 600 i = C 600 i := fun i b0 => by rw [eCa, ax_u_k b0]
    obtain ⟨C3, eC3⟩ : ∃ X : ax_V, X = ax_u (ax_u (ax_u Ca 501 n v) 502 n p) 600 6 (p + 1) := ⟨_, rfl⟩
    have C3_g : ax_g C3 := by rw [eC3]; exact (ax_u_g (ax_u_g (ax_u_g Ca_g rv) ⟨by omega, by omega⟩) ⟨by omega, by omega⟩)
    have C3_n : ∀ c, c ≠ 501 → c ≠ 502 → c ≠ 600 → C3 c = Ca c := fun c a501 a502 a600 => by rw [eC3, ax_u_ne a600, ax_u_ne a502, ax_u_ne a501]
    have C3_v0 : C3 501 n = v := by rw [eC3, ax_u_ne (by decide), ax_u_ne (by decide)]; exact ax_u_s _ _ _ _
    have C3_v1 : C3 502 n = p := by rw [eC3, ax_u_ne (by decide)]; exact ax_u_s _ _ _ _
    have C3_v2 : C3 600 6 = (p + 1) := by rw [eC3]; exact ax_u_s _ _ _ _
    have C3_o501 : ∀ i, i ≠ n → C3 501 i = Ca 501 i := fun i b0 => by rw [eC3, ax_u_ne (by decide), ax_u_ne (by decide), ax_u_k b0]
    have C3_o502 : ∀ i, i ≠ n → C3 502 i = Ca 502 i := fun i b0 => by rw [eC3, ax_u_ne (by decide), ax_u_k b0, ax_u_ne (by decide)]
    have C3_o600 : ∀ i, i ≠ 6 → C3 600 i = Ca 600 i := fun i b0 => by rw [eC3, ax_u_k b0, ax_u_ne (by decide), ax_u_ne (by decide)]
    obtain ⟨M3, eM3⟩ : ∃ X : ax_V, X = ax_u (ax_u (ax_u (ax_u (ax_u (ax_u M 226 n v) 287 n p) 222 68 (p + 1)) 227 n 0) 228 n 0) 229 n 0 := ⟨_, rfl⟩
    have M3_g : ax_g M3 := by rw [eM3]; exact (ax_u_g (ax_u_g (ax_u_g (ax_u_g (ax_u_g (ax_u_g hgM rv) ⟨by omega, by omega⟩) ⟨by omega, by omega⟩) (by decide)) (by decide)) (by decide))
    have M3_n : ∀ c, c ≠ 226 → c ≠ 287 → c ≠ 222 → c ≠ 227 → c ≠ 228 → c ≠ 229 → M3 c = M c := fun c a226 a287 a222 a227 a228 a229 => by rw [eM3, ax_u_ne a229, ax_u_ne a228, ax_u_ne a227, ax_u_ne a222, ax_u_ne a287, ax_u_ne a226]
    have M3_v0 : M3 226 n = v := by rw [eM3, ax_u_ne (by decide), ax_u_ne (by decide), ax_u_ne (by decide), ax_u_ne (by decide), ax_u_ne (by decide)]; exact ax_u_s _ _ _ _
    have M3_v1 : M3 287 n = p := by rw [eM3, ax_u_ne (by decide), ax_u_ne (by decide), ax_u_ne (by decide), ax_u_ne (by decide)]; exact ax_u_s _ _ _ _
    have M3_v2 : M3 222 68 = (p + 1) := by rw [eM3, ax_u_ne (by decide), ax_u_ne (by decide), ax_u_ne (by decide)]; exact ax_u_s _ _ _ _
    have M3_v3 : M3 227 n = 0 := by rw [eM3, ax_u_ne (by decide), ax_u_ne (by decide)]; exact ax_u_s _ _ _ _
    have M3_v4 : M3 228 n = 0 := by rw [eM3, ax_u_ne (by decide)]; exact ax_u_s _ _ _ _
    have M3_v5 : M3 229 n = 0 := by rw [eM3]; exact ax_u_s _ _ _ _
    have M3_o226 : ∀ i, i ≠ n → M3 226 i = M 226 i := fun i b0 => by rw [eM3, ax_u_ne (by decide), ax_u_ne (by decide), ax_u_ne (by decide), ax_u_ne (by decide), ax_u_ne (by decide), ax_u_k b0]
    have M3_o287 : ∀ i, i ≠ n → M3 287 i = M 287 i := fun i b0 => by rw [eM3, ax_u_ne (by decide), ax_u_ne (by decide), ax_u_ne (by decide), ax_u_ne (by decide), ax_u_k b0, ax_u_ne (by decide)]
    have M3_o222 : ∀ i, i ≠ 68 → M3 222 i = M 222 i := fun i b0 => by rw [eM3, ax_u_ne (by decide), ax_u_ne (by decide), ax_u_ne (by decide), ax_u_k b0, ax_u_ne (by decide), ax_u_ne (by decide)]
    have M3_o227 : ∀ i, i ≠ n → M3 227 i = M 227 i := fun i b0 => by rw [eM3, ax_u_ne (by decide), ax_u_ne (by decide), ax_u_k b0, ax_u_ne (by decide), ax_u_ne (by decide), ax_u_ne (by decide)]
    have M3_o228 : ∀ i, i ≠ n → M3 228 i = M 228 i := fun i b0 => by rw [eM3, ax_u_ne (by decide), ax_u_k b0, ax_u_ne (by decide), ax_u_ne (by decide), ax_u_ne (by decide), ax_u_ne (by decide)]
    have M3_o229 : ∀ i, i ≠ n → M3 229 i = M 229 i := fun i b0 => by rw [eM3, ax_u_k b0, ax_u_ne (by decide), ax_u_ne (by decide), ax_u_ne (by decide), ax_u_ne (by decide), ax_u_ne (by decide)]
    rw [← eCa] at Rn
    obtain ⟨M4, eM4⟩ : ∃ X : ax_V, X = m_cl M3 n 26 := ⟨_, rfl⟩
    have M4_g : ax_g M4 := by rw [eM4]; exact m_cl_g M3_g
    have M4_n : ∀ c, (c < 232 ∨ 239 < c) → M4 c = M3 c := fun c z => by rw [eM4]; exact m_cl_ne z
    have mn : ∀ c, c ≠ 222 → c ≠ 226 → c ≠ 227 → c ≠ 228 → c ≠ 229 → c ≠ 287 → (c < 232 ∨ 239 < c) → M4 c = M c := fun c a b x y z u k => by rw [M4_n c k, M3_n c b u a x y z]
    have ms : ∀ j, j ≠ 68 → M4 222 j = M 222 j := fun j a => by rw [M4_n 222 (by decide), M3_o222 j a]
    have cn : ∀ c, c ≠ 600 → c ≠ 501 → c ≠ 502 → C3 c = C c := fun c a b x => by rw [C3_n c b x a, Ca_n c a]
    have cs : ∀ j, j ≠ 6 → j ≠ 8 → C3 600 j = C 600 j := fun j a b => by rw [C3_o600 j a, Ca_o600 j b]
    have at4 : M4 222 68 = p + 1 := by rw [M4_n 222 (by decide)]; exact M3_v2
    have R4 : e_R C3 M4 := by
      obtain ⟨-, hTn, hSn, hPn⟩ := Rn
      refine ⟨⟨C3_g, M4_g⟩, ?_, ?_, ?_⟩
      · unfold e_T at hT ⊢
        rw [cs 1 (by decide) (by decide), cn 1 (by decide) (by decide) (by decide), ms 3 (by decide), mn 224 (by decide) (by decide) (by decide) (by decide) (by decide) (by decide) (by decide)]; exact hT
      · obtain ⟨a1, a2, a3, a4, a5, a6, a7⟩ := hSn
        unfold e_S
        rw [C3_v2, C3_o600 8 (by decide), C3_o600 11 (by decide), C3_o600 10 (by decide), C3_o600 12 (by decide), C3_o600 9 (by decide), C3_o600 13 (by decide), at4, ms 3 (by decide), ms 10 (by decide), ms 69 (by decide), ms 71 (by decide), ms 72 (by decide), ms 70 (by decide)]
        exact ⟨⟨rfl, by omega, by omega⟩, a2, a3, a4, a5, a6, a7⟩
      · obtain ⟨p1, p2, p3⟩ := hP
        refine ⟨⟨?_, ?_, ?_⟩, fun k a b => ?_, fun q a b => ?_⟩
        · rw [cn 516 (by decide) (by decide) (by decide), ms 26 (by decide)]; exact p1.1
        · rw [ms 26 (by decide)]; exact p1.2.1
        · rw [ms 26 (by decide), at4]; omega
        · rw [ms 10 (by decide)] at b
          rw [C3_o501 k (by omega), Ca_n 501 (by decide), M4_n 226 (by decide), M3_o226 k (by omega)]; exact p2 k a b
        · rw [ms 26 (by decide)] at b
          have nq := (hB.2.2.2.2.2.2.1 q a b).1
          exact (p3 q a b).keep (fun c x y z => by rw [cn c (by omega) (by omega) (by omega)]) (fun c x y => by rw [mn c (by omega) (by omega) (by omega) (by omega) (by omega) (by omega) (by omega)]) (fun k x y => by rw [M4_n 226 (by decide), M3_o226 k (by omega)]) (fun x hx => ⟨by rw [cn 522 (by decide) (by decide) (by decide)], by rw [cn 526 (by decide) (by decide) (by decide)], by rw [mn 252 (by decide) (by decide) (by decide) (by decide) (by decide) (by decide) (by decide)], by rw [mn 242 (by decide) (by decide) (by decide) (by decide) (by decide) (by decide) (by decide)]⟩)
    have L4 : f_LL C3 M4 (n + 1) := by
      refine hLL.new ⟨hnn.2.1, hn8⟩ (fun c z => cn c (by omega) (by omega) (by omega)) (cs 7 (by decide) (by decide)) (fun c z => mn c (by omega) (by omega) (by omega) (by omega) (by omega) (by omega) (by omega)) (fun c i a b z => ?_) ⟨?_, ?_, ?_⟩ (fun c i a b z => ?_) (fun c i a b z y => ?_) (ms 73 (by decide)) (ms 77 (by decide)) (by rw [at4]; omega)
      · rw [M4_n c (by omega)]
        have : c = 227 ∨ c = 228 ∨ c = 229 := by omega
        rcases this with e | e | e
        · rw [e]; exact M3_o227 i z
        · rw [e]; exact M3_o228 i z
        · rw [e]; exact M3_o229 i z
      · rw [M4_n 227 (by decide)]; exact M3_v3
      · rw [M4_n 228 (by decide)]; exact M3_v4
      · rw [M4_n 229 (by decide)]; exact M3_v5
      · rw [eM4, m_cl_o z, M3_n c (by omega) (by omega) (by omega) (by omega) (by omega) (by omega)]
      · rw [eM4]; exact m_cl_at ⟨a, b⟩ ⟨z, y⟩
    have B4 : f_B C3 M4 (M 222 55) := hB.tab (fun c z => cn c (by omega) (by omega) (by omega)) (fun k a b => by rw [C3_o502 k (by omega), Ca_n 502 (by decide)]) (fun c z => mn c (by omega) (by omega) (by omega) (by omega) (by omega) (by omega) (by omega)) (fun k a b => by rw [M4_n 287 (by decide), M3_o287 k (by omega)]) (fun i _ => by rw [mn 269 (by decide) (by decide) (by decide) (by decide) (by decide) (by decide) (by decide)]) (fun j z => ms j (by omega)) (by rw [at4]; omega)
    have n4 : (M4 222 10) = n := by rw [ms 10 (by decide)]; exact hnn.1.symm
    have au4 : (M4 222 55) = (M 222 55) := ms 55 (by decide)
    have fC3 : f_fC C0 C3 := by rw [eC3, eCa]; exact (((fC.us (by decide)).ua (by decide)).ua (by decide)).us (by decide)
    have fM4 : f_fM M0 M4 := ⟨fun c a b => by rw [mn c b (by omega) (by omega) (by omega) (by omega) (by omega) (by omega)]; exact fM.1 c a b, fun j a => by rw [ms j (by omega)]; exact fM.2 j a⟩
    have i4 : f_I C0 M0 C3 M4 (M4 222 55) := by
      rw [au4]
      refine ⟨R4, ⟨fC3, fM4⟩, by rw [n4]; exact L4, B4, ?_, fun z => ?_⟩
      · rw [ms 69 (by decide), ms 71 (by decide), au4]; exact ⟨h1.2, h2.2, Int.le_refl _⟩
      · rw [cs 9 (by decide) (by decide), h4.1] at z; omega
    have hh4 : f_hd C3 M4 n := by
      refine ⟨by rw [cs 9 (by decide) (by decide)]; exact h4.1, n4, by rw [C3_v0, M4_n 226 (by decide)]; exact M3_v0.symm, ⟨by rw [C3_v1, M4_n 287 (by decide)]; exact M3_v1.symm, ?_⟩, fun z k a b => ?_, by rw [at4]; omega, by rw [at4, ms 26 (by decide), ms 44 (by decide), au4]; omega⟩
      · rw [M4_n 287 (by decide), M3_v1]; exact ⟨by omega, by omega⟩
      · rw [ms 73 (by decide)] at z
        rw [M4_n 228 (by decide), M3_o228 k (by omega)]
        exact hno z k a b
    -- the roads
    have rdC : ∀ (Φ Θ : ax_V → Prop), ax_N (az_W B (az_ER B r)) (419 + 2) q_Reader_expect [.ref r, ax_i 40] C3 (fun V6 => ax_I (az_W B (az_ER B r)) 421 q_Reader_look [.ref r] V6 (fun r7 V7 => ((r7 = 41 → k_Reader_readHead_81 B r 421 (some (ax_i n)) V7 Φ Θ) ∧ (¬ r7 = 41 → ax_N (az_W B (az_ER B r)) 421 q_Reader_readFlows [.ref r, ax_i 1] V7 (fun V8 => k_Reader_readHead_81 B r 421 (some (ax_i n)) V8 Φ Θ) Θ))) Θ) Θ → ax_N (az_W B (az_ER B r)) 422 q_Reader_readHead [.ref r, ax_i n] C Φ Θ := by
      intro Φ Θ z
      have see_a : c_see Ca = v := by
        have : c_see Ca = c_see C := by unfold c_see; rw [Ca_o600 6 (by decide), Ca_o600 1 (by decide), Ca_n 1 (by decide)]
        rw [this, hs]
      have ci_a : c_in Ca := by
        unfold c_in at ci ⊢
        rw [Ca_o600 6 (by decide), Ca_o600 1 (by decide), Ca_n 1 (by decide)]; exact ci
      refine r_Reader_readHead hgC rn ⟨fun q => by omega, fun _ => t_look hgC ci (t_isName hgC (c_see_rg hgC) (ax_b_y (by rw [hs]; exact w) (r_Reader_readHead_20 hgC rn (fun V1 e1 => ?_))))⟩
      rw [← eCa] at e1
      rw [e1]
      refine t_look Ca_g ci_a ⟨⟨hnn.2.1, hn8⟩, fun V3 e3 => ⟨⟨hnn.2.1, hn8⟩, fun V4 e4 => ?_⟩⟩
      rw [see_a] at e3
      have d3 : V3 600 6 = p := by rw [e3, ax_u_ne (by decide), Ca_o600 6 (by decide), hat.1, ep]
      have d4 : V4 600 6 = p := by rw [e4, ax_u_ne (by decide), d3]
      rw [d4]
      refine ⟨⟨by omega, by omega⟩, fun V5 e5 => ?_⟩
      have e6 : V5 = C3 := by rw [e5, e4, d3, e3, eC3]
      rw [e6]; exact z
    have rdM : ∀ (Φ : Int → ax_V → Prop) (Θ : ax_V → Prop), ax_I ay_lay (421 + 2) q_Model_want [.ref 222, ax_i 40] M4 (fun r1 V1 => ((r1 = 0 → Φ 0 V1) ∧ (¬ r1 = 0 → ax_I ay_lay 423 q_Model_see [.ref 222] V1 (fun r2 V2 => ((r2 = 41 → k_Model_readNode_186 423 (some (ax_i 26)) (some (ax_i (26 * n + 25))) V2 Φ Θ) ∧ (¬ r2 = 41 → ax_I ay_lay 423 q_Model_readFlows [.ref 222, ax_i 1] V2 (fun r3 V3 => ((r3 = 0 → Φ 0 V3) ∧ (¬ r3 = 0 → k_Model_readNode_186 423 (some (ax_i 26)) (some (ax_i (26 * n + 25))) V3 Φ Θ))) Θ))) Θ))) Θ → ax_I ay_lay 424 q_Model_readNode [.ref 222] M Φ Θ := by
      intro Φ Θ z
      have b9 : 0 ≤ n ∧ n < 9 := ⟨by omega, by omega⟩
      refine r_Model_readNode hgM (s_isName hgM mi (ax_b_y (by show 65 ≤ m_see M ∧ m_see M ≤ 72; rw [← ev]; exact w) ⟨fun q => by omega, fun _ => s_see hgM mi ?_⟩))
      rw [← hnn.1, ← ev]
      refine ⟨b9, fun V3 e3 => ?_⟩
      have d3 : V3 222 10 = n := by rw [e3, ax_u_ne (by decide)]; exact hnn.1.symm
      have d3a : V3 222 68 = p := by rw [e3, ax_u_ne (by decide), ep]
      rw [d3, d3a]
      refine ⟨b9, fun V4 e4 => ?_⟩
      have d4a : V4 222 68 = p := by rw [e4, ax_u_ne (by decide), d3a]
      rw [d4a]
      refine ⟨⟨by omega, by omega⟩, fun V5 e5 => ?_⟩
      have d5 : V5 222 10 = n := by rw [e5, ax_u_k (by decide), e4, ax_u_ne (by decide), d3]
      rw [d5]
      refine ⟨b9, fun V6 e6 => ?_⟩
      have d6 : V6 222 10 = n := by rw [e6, ax_u_ne (by decide), d5]
      rw [d6]
      refine ⟨b9, fun V7 e7 => ?_⟩
      have d7 : V7 222 10 = n := by rw [e7, ax_u_ne (by decide), d6]
      rw [d7]
      refine ⟨b9, fun V8 e8 => ?_⟩
      have e9 : V8 = M3 := by rw [e8, e7, e6, e5, e4, e3, eM3]
      rw [e9, ← m_cl_0 M3 n]
      refine s_clear (d := 422) M3_g (by rw [M3_o222 10 (by decide)]; exact hnn.1) ⟨hnn.2.1, hn8⟩ ?_ 26 0 none (by decide) (by decide) (by decide) ax_y_n (fun q => absurd q (by decide))
      rw [← eM4]
      exact r_Model_readNode_86 M4_g (by decide) (ax_y_i _) ⟨fun _ => z, fun q => absurd q (by decide)⟩
    have k1 := f_expect (B := B) (r := r) (dc := 419) (dm := 421) (v := 40) (Kc := fun V6 Φ Θ => ax_I (az_W B (az_ER B r)) 421 q_Reader_look [.ref r] V6 (fun r7 V7 => ((r7 = 41 → k_Reader_readHead_81 B r 421 (some (ax_i n)) V7 Φ Θ) ∧ (¬ r7 = 41 → ax_N (az_W B (az_ER B r)) 421 q_Reader_readFlows [.ref r, ax_i 1] V7 (fun V8 => k_Reader_readHead_81 B r 421 (some (ax_i n)) V8 Φ Θ) Θ))) Θ) (Km := fun V1 Φ Θ => ax_I ay_lay 423 q_Model_see [.ref 222] V1 (fun r2 V2 => ((r2 = 41 → k_Model_readNode_186 423 (some (ax_i 26)) (some (ax_i (26 * n + 25))) V2 Φ Θ) ∧ (¬ r2 = 41 → ax_I ay_lay 423 q_Model_readFlows [.ref 222, ax_i 1] V2 (fun r3 V3 => ((r3 = 0 → Φ 0 V3) ∧ (¬ r3 = 0 → k_Model_readNode_186 423 (some (ax_i 26)) (some (ax_i (26 * n + 25))) V3 Φ Θ))) Θ))) Θ) R4 fC3 fM4 (by decide)
    refine (k1.bind0 (fun C5 M5 q5 => ?_)).of rdC rdM
    obtain ⟨⟨eC5, eM5⟩, ⟨see5, lt5⟩, R5, fC5, fM5⟩ := q5
    have i5 := i4.on lt5
    rw [← eC5, ← eM5] at i5
    have nC5 : e_nC C3 C5 := by rw [eC5]; exact e_nC.on C3 1
    have nM5 : e_nM M4 M5 := by rw [eM5]; exact e_nM.on M4 1
    have at5 : (M5 222 68) = p + 2 := by rw [eM5]; unfold m_on; rw [ax_u_s, at4]; omega
    have au5 : (M5 222 55) = (M4 222 55) := nM5.2 55 (by decide) (by decide)
    rw [← au5] at i5
    have hh5 : f_hd C5 M5 n := hh4.fl nC5.g nM5.g (by omega)
    obtain ⟨hgC5, hgM5⟩ := id R5.1
    have hs5 := R5.see
    by_cases w5 : m_see M5 = 41
    · refine ((f_head81 (B := B) (r := r) i5 hh5 ⟨hnn.2.1, hn8⟩).mono (fun C6 M6 q6 => ⟨q6.1, q6.2.1, q6.2.2.1, by have := q6.2.2.2; omega⟩)).of (fun Φ Θ z => t_look hgC5 R5.ci ⟨fun _ => z, fun q => absurd (hs5.trans w5) q⟩) (fun Φ Θ z => s_see hgM5 R5.mi ⟨fun _ => z, fun q => absurd w5 q⟩)
    · have k2 := (((f_readFlows (B := B) (r := r) (dc := 416) (dm := 418) (k := 1) (by decide) R5 i5.2.2.1).base fC5 fM5).cont (L := fun V8 Φ Θ => k_Reader_readHead_81 B r 421 (some (ax_i n)) V8 Φ Θ)).contM (L := fun V3 Φ Θ => k_Model_readNode_186 423 (some (ax_i 26)) (some (ax_i (26 * n + 25))) V3 Φ Θ)
      refine (k2.bind (fun C6 M6 q6 => ?_) (fun C6 hg ci w => ?_)).of (fun Φ Θ z => t_look hgC5 R5.ci ⟨fun q => absurd (hs5.symm.trans q) w5, fun _ => z⟩) (fun Φ Θ z => s_see hgM5 R5.mi ⟨fun q => absurd q w5, fun _ => z⟩)
      · obtain ⟨R6, ⟨gC6, gM6⟩, L6, a6, n6, o6⟩ := q6
        have i6 := i5.fl R6 gC6 gM6 L6 (by omega)
        have au6 : (M6 222 55) = (M5 222 55) := gM6.2.1 55 (by decide) (by decide) (by decide) (by decide)
        rw [← au6] at i6
        exact (f_head81 (B := B) (r := r) i6 (hh5.fl gC6 gM6 (by omega)) ⟨hnn.2.1, hn8⟩).mono (fun C7 M7 q7 => ⟨q7.1, q7.2.1, q7.2.2.1, by have := q7.2.2.2; omega⟩)
      · have hd : 48 ≤ c_see C6 ∧ c_see C6 ≤ 57 := w
        exact Or.inl ⟨C6, fun Φ Θ z => r_Reader_readHead_81 hg (ax_y_i n) (t_expect hg (by decide) ci (fun q => by omega) (fun _ => z)), rfl, f_fC.rf C6, hg⟩
  · exact f_go.stop (C' := C) (M' := M) (fun Φ Θ z => r_Reader_readHead hgC rn ⟨fun q => by omega, fun _ => t_look hgC ci (t_isName hgC (c_see_rg hgC) (ax_b_n (by rw [hs]; exact w) (t_refuse hgC z)))⟩) (fun Φ Θ z => r_Model_readNode hgM (s_isName hgM mi (ax_b_n w z))) ⟨⟨hgC, hgM⟩, hat.1, fC, fM⟩
end Head2
