/-! a -> b -/
section Arrow
variable {B r k : Nat}
set_option maxHeartbeats 2000000 in
theorem e_readX (hCk : e_Cc B r k) (ihX : ∀ k' : Nat, k = k' + 1 → e_X B r k') : e_X B r k := by
  intro C M h hk
  obtain ⟨hgC, hgM⟩ := id h.1
  have hd0 := h.2.2.1.2.2.1
  have hb0 := h.2.2.1.2.2.2.2.1
  have hl0 := h.2.2.1.2.2.2.2.2.2
  have p0 := h.2.2.2.1
  rcases hCk C M h hk with ⟨p, C1, M1, ia, ib, ok⟩ | ⟨C1, M1, ia, ib, no⟩ | ⟨p, C1, M1, ia, ib, hf, dg⟩
  · have hR := ok.1
    have mi := hR.mi
    have ci := hR.ci
    have hs := hR.see
    obtain ⟨hgC1, hgM1⟩ := id hR.1
    have hsz := hR.2.1.2.2.1
    have hat := hR.2.2.1.1
    have hd1 := hR.2.2.1.2.2.1
    have ht1 := hR.2.2.1.2.2.2.1
    have hb1 := hR.2.2.1.2.2.2.2.1
    have hl1 := hR.2.2.1.2.2.2.2.2.2
    have q4 := ok.2.2.2.1
    have q5 := hR.2.2.2.1
    have q7 := ok.2.2.2.2.2.2.1
    have q6 := ok.2.2.2.2.2.1
    have msz : (M1 222 3) = (M 222 3) := ok.2.2.1.2.2 3 (by decide) (by decide) (by decide) (by decide) (by decide) (by decide)
    have rp : ax_rg p := ⟨by omega, by omega⟩
    by_cases wA : m_isA M1
    · have wA' : c_isA C1 := hR.isA.mpr wA
      by_cases wT : (M1 222 71) = 0
      · have wM : (C1 600 10) = 0 := by rw [ht1.1]; exact wT
        have hlt : (M1 222 68) + 1 < (M1 222 3) := by
          by_cases z : (M1 222 68) + 1 < (M1 222 3)
          · exact z
          · have e : m_nxt M1 = 0 := if_neg z
            have := wA.2
            omega
        by_cases hk0 : k = 0
        · exact Or.inr (Or.inl ⟨C1, M1, ax_Xe.ofI (r_Reader_readX hgC (ia.k (by omega) (fun _ _ => ⟨fun _ => t_atArrow hgC1 ci (ax_b_y wA' (t_deepen hgC1 (by omega) (fun z => by omega) (fun _ => rfl))), fun z => absurd wM z⟩))), r_Model_readX hgM (ib.k (by omega) (fun _ _ => ⟨fun z => absurd z (by decide), fun _ => s_isArrow hgM1 mi (ax_b_y wA (r_Model_readArrow hgM1 ⟨fun _ => s_open hgM1 ⟨by decide, by decide⟩ ⟨by omega, by omega⟩ ⟨by omega, by omega⟩ (fun z => by omega) (fun _ => ⟨fun _ => ⟨fun _ => ⟨rfl, rfl⟩, fun z => absurd rfl z⟩, fun z => absurd rfl z⟩), fun z => absurd wT z⟩))⟩)), hR.1, hat.1, ok.2.1, ok.2.2.1⟩)
        · obtain ⟨k', ek⟩ : ∃ k' : Nat, k = k' + 1 := ⟨k - 1, by omega⟩
          have ihX' := ihX k' ek
          obtain ⟨C2, eC2⟩ : ∃ X : ax_V, X = ax_u (ax_u C1 600 11 ((C1 600 11) + 1)) 600 6 ((C1 600 6) + 2) := ⟨_, rfl⟩
          obtain ⟨M2, eM2⟩ : ∃ X : ax_V, X = ax_u (ax_u M1 222 69 ((M1 222 69) + 1)) 222 68 ((M1 222 68) + 2) := ⟨_, rfl⟩
          have x1 : e_mvC C1 C2 := by rw [eC2]; exact ((e_mvC.rf C1).u (by decide)).u (by decide)
          have y1 : e_mvM M1 M2 := by rw [eM2]; exact ((e_mvM.rf M1).u (by decide)).u (by decide)
          have x2 : ax_g C2 := by rw [eC2]; exact ax_u_g (ax_u_g hgC1 ⟨by omega, by omega⟩) ⟨by omega, by omega⟩
          have y0 : ax_g M2 := by rw [eM2]; exact ax_u_g (ax_u_g hgM1 ⟨by omega, by omega⟩) ⟨by omega, by omega⟩
          have x3 : (C2 600 6) = (C1 600 6) + 2 := by rw [eC2]; simp [ax_u]
          have x4 : (C2 600 11) = (C1 600 11) + 1 := by rw [eC2]; simp [ax_u]
          have x5 : (C2 600 12) = (C1 600 12) + 0 := by rw [eC2]; simp [ax_u]
          have x6 : (C2 600 13) = (C1 600 13) + 0 := by rw [eC2]; simp [ax_u]
          have y2 : (M2 222 68) = (M1 222 68) + 2 := by rw [eM2]; simp [ax_u]
          have y3 : (M2 222 69) = (M1 222 69) + 1 := by rw [eM2]; simp [ax_u]
          have y4 : (M2 222 72) = (M1 222 72) + 0 := by rw [eM2]; simp [ax_u]
          have y5 : (M2 222 26) = (M1 222 26) := y1.2 26 (by decide) (by decide) (by decide) (by decide)
          have y6 : (M2 222 3) = (M1 222 3) := y1.2 3 (by decide) (by decide) (by decide) (by decide)
          have h2 : e_R C2 M2 := hR.in (w := 2) (by omega) (by omega) (by omega) x1 y1 ⟨x2, y0⟩ x3 x4 x5 x6 y2 y3 y4 (Or.inl rfl) (Or.inl rfl)
          have mid1 := e_mid.first h ok h2 x1 y1 (by omega)
          have fC2 := ok.2.1.tr x1.fr (Int.le_refl _)
          have fM2 := ok.2.2.1.tr y1.fr (Int.le_refl _)
          have hcl : ∀ (Φ : Int → ax_V → Prop) (Θ : ax_V → Prop), ax_I (az_W B (az_ER B r)) (20 * k + 18) q_Reader_readX [.ref r] C2 (fun r5 V5 => ax_rg ((V5 600 11) - 1) ∧ (∀ V6, V6 = ax_u V5 600 11 ((V5 600 11) - 1) → ax_I (az_W B (az_ER B r)) (20 * k + 18) q_Reader_join [.ref r, ax_i 19, ax_i (C1 600 6), ax_i p, ax_i r5, ax_i (-1)] V6 (fun r7 V7 => Φ r7 V7) Θ)) Θ → ax_I (az_W B (az_ER B r)) (20 * k + 19) q_Reader_readX [.ref r] C Φ Θ := by
            intro Φ Θ hh
            refine r_Reader_readX hgC (ia.k (by omega) (fun _ _ => ⟨fun _ => t_atArrow hgC1 ci (ax_b_y wA' (t_deepen hgC1 (by omega) (fun _ => ?_) (fun z => by omega))), fun z => absurd wM z⟩))
            have e1 : (ax_u C1 600 11 ((C1 600 11) + 1)) 600 6 = (C1 600 6) := by simp [ax_u]
            rw [e1]
            refine ⟨⟨by omega, by omega⟩, fun V4 e4 => ?_⟩
            rw [e4, ← eC2]
            exact hh
          have hml : ∀ (x : Int) (M' : ax_V), (x = 0 ∨ x = 1) → ax_I ay_lay (20 * k + 18) q_Model_readX [.ref 222] M2 (fun r2 V2 => ((r2 = 0 → 0 = x ∧ V2 = M') ∧ (¬ r2 = 0 → ax_rg ((V2 222 69) - 1) ∧ (∀ V3, V3 = ax_u V2 222 69 ((V2 222 69) - 1) → (0 ≤ (M1 222 74) ∧ (M1 222 74) < 701) ∧ ax_I ay_lay (20 * k + 18) q_Model_makePart [.ref 222, ax_i 19, ax_i (V3 242 (M1 222 74)), ax_i (M1 222 74), ax_i (V3 222 74), ax_i (-1)] V3 (fun r4 V4 => (0 ≤ r4 ∧ r4 < 701) ∧ (∀ V5, V5 = ax_u V4 243 r4 (M1 222 68) → 1 = x ∧ V5 = M')) (fun _ => False))))) (fun _ => False) → ax_Ie ay_lay (20 * k + 20) q_Model_readX [.ref 222] M x M' := by
            intro x M' hx hh
            have key : ax_Ie ay_lay (20 * k + 19) q_Model_readArrow [.ref 222] M1 x M' := by
              refine r_Model_readArrow hgM1 ⟨fun _ => s_open hgM1 ⟨by decide, by decide⟩ ⟨by omega, by omega⟩ ⟨by omega, by omega⟩ (fun _ => ⟨fun z => absurd z (by decide), fun _ => ?_⟩) (fun z => by omega), fun z => absurd wT z⟩
              rw [← eM2]
              exact hh
            refine r_Model_readX hgM (ib.k (by omega) (fun _ _ => ⟨fun z => absurd z (by decide), fun _ => s_isArrow hgM1 mi (ax_b_y wA (key.k (by omega) (fun _ _ => ?_)))⟩))
            rcases hx with z | z
            · subst z; exact ⟨fun _ => ⟨rfl, rfl⟩, fun z => absurd rfl z⟩
            · subst z; exact ⟨fun z => absurd z (by decide), fun _ => ⟨rfl, rfl⟩⟩
          rcases ihX' C2 M2 h2 (by omega) with ⟨p3, C5, M5, la, lb, ok3⟩ | ⟨C5, M5, la, lb, no3⟩ | ⟨p3, C5, M5, la, lb, hf3, dg3⟩
          · have hR5 := ok3.1
            obtain ⟨hgC5, hgM5⟩ := id hR5.1
            have s1 := hR5.2.2.1.1
            have s3 := hR5.2.2.1.2.2.1
            have s5 := hR5.2.2.1.2.2.2.2.1
            have s7 := hR5.2.2.1.2.2.2.2.2.2
            have ssz := hR5.2.1.2.2.1
            have u4 := ok3.2.2.2.1
            have u5 := hR5.2.2.2.1
            have u6 := ok3.2.2.2.2.2.1
            have u7 := ok3.2.2.2.2.2.2.1
            obtain ⟨C6, eC6⟩ : ∃ X : ax_V, X = ax_u C5 600 11 ((C5 600 11) - 1) := ⟨_, rfl⟩
            obtain ⟨M6, eM6⟩ : ∃ X : ax_V, X = ax_u M5 222 69 ((M5 222 69) - 1) := ⟨_, rfl⟩
            have hgC6 : ax_g C6 := by rw [eC6]; exact ax_u_g hgC5 ⟨by omega, by omega⟩
            have hgM6 : ax_g M6 := by rw [eM6]; exact ax_u_g hgM5 ⟨by omega, by omega⟩
            have z1 : e_mvC C5 C6 := by rw [eC6]; exact (e_mvC.rf C5).u (by decide)
            have v1 : e_mvM M5 M6 := by rw [eM6]; exact (e_mvM.rf M5).u (by decide)
            have z3 : (C6 600 6) = (C5 600 6) := by rw [eC6]; simp [ax_u]
            have z4 : (C6 600 11) = (C5 600 11) - 1 := by rw [eC6]; simp [ax_u]
            have z5 : (C6 600 12) = (C5 600 12) := by rw [eC6]; simp [ax_u]
            have z6 : (C6 600 13) = (C5 600 13) := by rw [eC6]; simp [ax_u]
            have v2 : (M6 222 68) = (M5 222 68) := by rw [eM6]; simp [ax_u]
            have v3 : (M6 222 69) = (M5 222 69) - 1 := by rw [eM6]; simp [ax_u]
            have v4 : (M6 222 72) = (M5 222 72) := by rw [eM6]; simp [ax_u]
            have v5 : (M6 222 26) = (M5 222 26) := v1.2 26 (by decide) (by decide) (by decide) (by decide)
            have v6 : (M6 222 74) = p3 := by rw [v1.2 74 (by decide) (by decide) (by decide) (by decide)]; exact u4.1.symm
            have h6 : e_R C6 M6 := hR5.mv ⟨hgC6, hgM6⟩ z1 v1 ⟨by omega, by omega, by omega⟩ ⟨by omega, by omega, by omega⟩ ⟨by omega, by omega, by omega⟩ ⟨by omega, by omega⟩
            have c6 : (C6 516 0) = (M6 222 26) := h6.2.2.2.1.1
            have mid5 := (mid1.part ok3).mv h6 z1 v1 (by omega)
            have bp := (h6.2.2.2.2.2 p (by omega) (by omega)).2
            obtain ⟨M7, eM7⟩ : ∃ X : ax_V, X = ax_u (m_mk M6 19 (M6 242 p) p p3 (-1)) 243 (M6 222 26) (M1 222 68) := ⟨_, rfl⟩
            obtain ⟨C7, eC7⟩ : ∃ X : ax_V, X = c_join C6 19 (C1 600 6) p p3 (-1) := ⟨_, rfl⟩
            have hgM7 : ax_g M7 := by rw [eM7]; exact ax_u_g (m_mk_g hgM6 (by decide) (hgM6 _ _) rp ⟨by omega, by omega⟩ (by decide) ⟨by omega, by omega⟩) (hgM1 _ _)
            have hgC7 : ax_g C7 := by rw [eC7]; exact c_join_g hgC6 (by decide) (hgC1 _ _) rp ⟨by omega, by omega⟩ (by decide) ⟨by omega, by omega⟩
            have eC7' : C7 = ax_u (ax_u (ax_u (c_mk C6 19 (M6 242 p) (C1 600 6) 0) 521 (M6 222 26) p) 522 p p3) 522 p3 (-1) := by rw [eC7]; unfold c_join; rw [c6, bp.1]
            have lt1 : C6 526 p = ax_b (0 < (C6 600 13)) := by
              rw [z1.1 526 (by decide), ok3.2.1.2.1 526 p (by decide) (by decide) (by omega), x1.1 526 (by decide), ok.2.2.2.2.1.2.2]
              rw [z6, u7.2.2, x6, q7.2.2, Int.add_zero]
            have lt3 : C6 526 p3 = ax_b (0 < (C6 600 13)) := by
              rw [z1.1 526 (by decide), ok3.2.2.2.2.1.2.2, z6, u7.2.2]
            obtain ⟨-, -, -, -, -, -, -, b8, -⟩ := c_mk_at (C := C6) (o := 19) (f := M6 242 p) (a := (C1 600 6)) (w := 0) rfl
            rw [c6] at b8
            obtain ⟨-, -, d3, -, -, -, -, -, -, d10, -⟩ := m_mk_at (M := M6) (o := 19) (f := M6 242 p) (x := p) (y := p3) (z := -1) rfl
            have fin : e_ok C M C7 M7 (M6 222 26) := by
              refine mid5.close2 (om := 19) (oc := 19) (f := M6 242 p) (a := (C1 600 6)) (w := 0) (s := p) (t := p3) (fun x => Iff.rfl) (by omega) ⟨by omega, by omega, by omega⟩ (Or.inr (Or.inl rfl)) rfl bp.2.1 (hgC1 _ _) (by decide) ⟨hgC7, hgM7⟩ (fun c q z => ?_) ?_ ?_ (fun c q z => ?_) lt1 lt3 ?_ (mid5.2.2.2.1.2.2.2.2 p (by omega) (by omega)).2.2.2.2.1 (e_opk.tr (by rw [← ok.2.2.1.2.2 71 (by decide) (by decide) (by decide) (by decide) (by decide) (by decide)]; exact wT) (by decide))
              · rw [eC7', ax_u_o (fun y => z ⟨y.1, Or.inr y.2⟩), ax_u_o (fun y => z ⟨y.1, Or.inl y.2⟩)]
              · rw [eC7', ax_u_k (by omega), ax_u_s]
              · rw [eC7']; exact ax_u_s _ _ _ _
              · rw [eM7, ax_u_o (fun y => z ⟨y.2, Or.inl y.1⟩)]
              · have e1 : M7 241 (M6 222 26) = 19 := by rw [eM7, ax_u_ne (c' := 241) (by decide)]; exact d3
                have e2 : M7 248 (M6 222 26) = -1 := by rw [eM7, ax_u_ne (c' := 248) (by decide)]; exact d10
                have e3 : C7 523 (M6 222 26) = -1 := by rw [eC7', ax_u_ne (c' := 523) (by decide), ax_u_ne (c' := 523) (by decide), ax_u_ne (c' := 523) (by decide)]; exact b8
                unfold e_dt
                rw [e1, e2, e3]
                exact ⟨fun q => by rcases q with q | q <;> omega, fun q => by omega, fun q => by rcases q with q | q | q <;> omega, fun q => by omega, fun _ => ⟨rfl, rfl⟩, fun q => by omega, fun q => by omega⟩
            refine Or.inl ⟨(M6 222 26), C7, M7, hcl _ _ (la.k (by omega) (fun _ _ => ⟨⟨by omega, by omega⟩, fun V8 e8 => ?_⟩)), hml 1 M7 (Or.inr rfl) (lb.k (by omega) (fun _ _ => ⟨fun z => absurd z (by decide), fun _ => ⟨⟨by omega, by omega⟩, fun V8 e8 => ?_⟩⟩)), fin⟩
            · rw [e8, ← eC6]
              exact t_join hgC6 (by decide) (hgC1 _ _) ⟨by omega, by omega⟩ ⟨by omega, by omega⟩ (by decide) ⟨by omega, by omega⟩ ⟨c6, eC7.symm⟩
            · rw [e8, ← eM6, v6, ← q4.1]
              exact ⟨⟨by omega, by omega⟩, s_makePart hgM6 (by decide) (hgM6 _ _) rp ⟨by omega, by omega⟩ (by decide) ⟨by omega, by omega⟩ ⟨⟨by omega, by omega⟩, fun V9 e9 => ⟨rfl, by rw [e9, eM7]⟩⟩⟩
          · exact Or.inr (Or.inl ⟨C5, M5, ax_Xe.ofI (hcl _ _ (la.kI (by omega) (fun _ => rfl))), hml 0 M5 (Or.inl rfl) (lb.k (by omega) (fun _ _ => ⟨fun _ => ⟨rfl, rfl⟩, fun z => absurd rfl z⟩)), no3.1, no3.2.1, fC2.tr no3.2.2.1 (by omega), fM2.tr no3.2.2.2 (by omega)⟩)
          · obtain ⟨⟨hg5, f1, f2, f3⟩, f4, f5, f6⟩ := id hf3
            have im5 : (C5 600 10) = 0 := by rw [f2.2.2 10 (by decide) (by decide) (by decide) (by decide), x1.2 10 (by decide) (by decide) (by decide) (by decide)]; exact wM
            have dg5 : e_dig C5 := by rcases dg3 with z | z; exact z; omega
            obtain ⟨C6, eC6⟩ : ∃ X : ax_V, X = ax_u C5 600 11 ((C5 600 11) - 1) := ⟨_, rfl⟩
            have hgC6 : ax_g C6 := by rw [eC6]; exact ax_u_g hg5.1 ⟨by omega, by omega⟩
            have z1 : e_mvC C5 C6 := by rw [eC6]; exact (e_mvC.rf C5).u (by decide)
            have z3 : (C6 600 6) = (C5 600 6) := by rw [eC6]; simp [ax_u]
            have z4 : (C6 600 11) = (C5 600 11) - 1 := by rw [eC6]; simp [ax_u]
            have z5 : (C6 600 12) = (C5 600 12) := by rw [eC6]; simp [ax_u]
            have z6 : (C6 600 13) = (C5 600 13) := by rw [eC6]; simp [ax_u]
            have c6 : (C6 516 0) = (C5 516 0) := by rw [z1.1 516 (by decide)]
            obtain ⟨C7, eC7⟩ : ∃ X : ax_V, X = c_join C6 19 (C1 600 6) p p3 (-1) := ⟨_, rfl⟩
            have hgC7 : ax_g C7 := by rw [eC7]; exact c_join_g hgC6 (by decide) (hgC1 _ _) rp ⟨by omega, by omega⟩ (by decide) ⟨by omega, by omega⟩
            obtain ⟨b1, -, -, -, -, -, -, -, -, -, -, -, b13, b14, b15, b16⟩ := c_mk_at (C := C6) (o := 19) (f := C6 518 p) (a := (C1 600 6)) (w := 0) rfl
            have v1 : (C7 516 0) = (C6 516 0) + 1 := by rw [eC7]; unfold c_join; rw [ax_u_ne (c' := 516) (by decide), ax_u_ne (c' := 516) (by decide), ax_u_ne (c' := 516) (by decide)]; exact b1
            have v2 : (C7 600 6) = (C6 600 6) := by rw [eC7]; unfold c_join; rw [ax_u_ne (c' := 600) (by decide), ax_u_ne (c' := 600) (by decide), ax_u_ne (c' := 600) (by decide)]; exact b13
            have v3 : (C7 600 11) = (C6 600 11) := by rw [eC7]; unfold c_join; rw [ax_u_ne (c' := 600) (by decide), ax_u_ne (c' := 600) (by decide), ax_u_ne (c' := 600) (by decide)]; exact b14
            have v4 : (C7 600 12) = (C6 600 12) := by rw [eC7]; unfold c_join; rw [ax_u_ne (c' := 600) (by decide), ax_u_ne (c' := 600) (by decide), ax_u_ne (c' := 600) (by decide)]; exact b15
            have v5 : (C7 600 13) = (C6 600 13) := by rw [eC7]; unfold c_join; rw [ax_u_ne (c' := 600) (by decide), ax_u_ne (c' := 600) (by decide), ax_u_ne (c' := 600) (by decide)]; exact b16
            have fC7 : e_fC C6 C7 (M 222 26) := by
              rw [eC7]; unfold c_join
              exact ((((c_mk_f.mono (by omega)).tr (e_fC.ua (by decide) (by omega)) (Int.le_refl _)).tr (e_fC.ua (by decide) (by omega)) (Int.le_refl _)).tr (e_fC.ua (by decide) (by omega)) (Int.le_refl _))
            have f57 : e_fC C5 C7 (M 222 26) := z1.fr.tr fC7 (Int.le_refl _)
            have e1 : (C7 600 1) = (C5 600 1) := f57.2.2 1 (by decide) (by decide) (by decide) (by decide)
            have e2 : C7 1 = C5 1 := f57.1 1 (by decide) (by decide)
            have dg7 : e_bad C7 := by
              have : c_see C7 = c_see C5 := by unfold c_see; rw [v2, z3, e1, e2]
              refine Or.inl ?_
              show 48 ≤ c_see C7 ∧ c_see C7 ≤ 57
              rw [this]; exact dg5
            refine Or.inr (Or.inr ⟨(C6 516 0), C7, M5, hcl _ _ (la.k (by omega) (fun _ _ => ⟨⟨by omega, by omega⟩, fun V8 e8 => ?_⟩)), hml 0 M5 (Or.inl rfl) (lb.k (by omega) (fun _ _ => ⟨fun _ => ⟨rfl, rfl⟩, fun z => absurd rfl z⟩)), ⟨⟨⟨hgC7, hg5.2⟩, by omega, (fC2.tr f2 (by omega)).tr f57 (Int.le_refl _), fM2.tr f3 (by omega)⟩, ⟨by omega, by omega⟩, ⟨by omega, by omega, by omega⟩, ⟨by omega, by omega, by omega⟩⟩, dg7⟩)
            rw [e8, ← eC6]
            exact t_join hgC6 (by decide) (hgC1 _ _) ⟨by omega, by omega⟩ ⟨by omega, by omega⟩ (by decide) ⟨by omega, by omega⟩ ⟨rfl, eC7.symm⟩
      · have wM : ¬ (C1 600 10) = 0 := by rw [ht1.1]; exact wT
        have wM1 : (C1 600 10) = 1 := by rcases ht1.2 with z | z; exact absurd z wT; omega
        exact Or.inr (Or.inr ⟨p, C1, M1, r_Reader_readX hgC (ia.k (by omega) (fun _ _ => ⟨fun z => absurd z wM, fun _ => ⟨rfl, rfl⟩⟩)), r_Model_readX hgM (ib.k (by omega) (fun _ _ => ⟨fun z => absurd z (by decide), fun _ => s_isArrow hgM1 mi (ax_b_y wA (r_Model_readArrow hgM1 ⟨fun z => absurd z wT, fun _ => ⟨fun _ => ⟨rfl, rfl⟩, fun z => absurd rfl z⟩⟩))⟩)), ⟨⟨hR.1, hat.1, ok.2.1, ok.2.2.1⟩, ⟨by omega, by omega⟩, ⟨by omega, by omega, by omega⟩, ⟨by omega, by omega, by omega⟩⟩, Or.inr ⟨wA'.1, wM1⟩⟩)
    · have wA' : ¬ c_isA C1 := fun z => wA (hR.isA.mp z)
      exact Or.inl ⟨p, C1, M1, r_Reader_readX hgC (ia.k (by omega) (fun _ _ => ⟨fun _ => t_atArrow hgC1 ci (ax_b_n wA' ⟨rfl, rfl⟩), fun _ => ⟨rfl, rfl⟩⟩)), r_Model_readX hgM (ib.k (by omega) (fun _ _ => ⟨fun z => absurd z (by decide), fun _ => s_isArrow hgM1 mi (ax_b_n wA ⟨rfl, rfl⟩)⟩)), ok⟩
  · exact Or.inr (Or.inl ⟨C1, M1, ax_Xe.ofI (r_Reader_readX hgC (ia.kI (by omega) (fun _ => rfl))), r_Model_readX hgM (ib.k (by omega) (fun _ _ => ⟨fun _ => ⟨rfl, rfl⟩, fun z => absurd rfl z⟩)), no⟩)
  · have ci1 := e_half.ci h hf
    have hg1 := hf.1.1.1
    have dg' : 48 ≤ c_see C1 ∧ c_see C1 ≤ 57 := dg
    have nA : ¬ c_isA C1 := fun z => by have := z.1; omega
    exact Or.inr (Or.inr ⟨p, C1, M1, r_Reader_readX hgC (ia.k (by omega) (fun _ _ => ⟨fun _ => t_atArrow hg1 ci1 (ax_b_n nA ⟨rfl, rfl⟩), fun _ => ⟨rfl, rfl⟩⟩)), r_Model_readX hgM (ib.k (by omega) (fun _ _ => ⟨fun _ => ⟨rfl, rfl⟩, fun z => absurd rfl z⟩)), hf, Or.inl dg⟩)
end Arrow
