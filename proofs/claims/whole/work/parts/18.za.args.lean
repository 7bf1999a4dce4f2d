/-! THE LOOP OVER ARGUMENTS, once one has been read -/
section Args
variable {B r k : Nat} {C M : ax_V}
set_option maxHeartbeats 2000000 in
theorem e_args (ih : e_X B r k) {x1 x2 x3 v2 : Int} (rx1 : ax_rg x1) (rx2 : ax_rg x2) (rv2 : ax_rg v2) (rx3 : ax_rg x3) : ∀ (N : Nat) (C1 M1 : ax_V) (f l x5 : Int) (R : Int → Prop), e_mig C M C1 M1 R → e_cn C1 M1 f l R (C 600 13) → 0 ≤ l → 0 ≤ f → (M1 222 74) = l → (M1 222 69) + (k : Int) = 20 → (C1 600 13) = (C 600 13) → 0 < x5 → x5 < (M1 222 68) → ((M1 222 3) - (M1 222 68)).toNat ≤ N →
    (∃ l' C2 M2 R', e_mig C M C2 M2 R' ∧ e_cn C2 M2 f l' R' (C 600 13) ∧ (M2 222 69) = (M1 222 69) ∧ (M2 222 72) = (M1 222 72) ∧ (C2 600 13) = (C 600 13) ∧ m_see M2 = 41 ∧ ax_rg l' ∧
      (∀ y6, ax_y y6 → ∀ (Φ : Int → ax_V → Prop) (Θ : ax_V → Prop), (∀ z4 z5 z6, ax_y z4 → ax_y z5 → ax_y z6 → k_Reader_readCall_144 B r (20 * k + 28) x1 x2 f z4 z5 z6 C2 Φ Θ) → k_Reader_readCall_77 B r (20 * k + 28) x1 x2 f l x5 y6 C1 Φ Θ) ∧
      (∀ y5 y6 y7, ax_y y5 → ax_y y6 → ax_y y7 → ∀ (Φ : Int → ax_V → Prop) (Θ : ax_V → Prop), (∀ z7, ax_y z7 → k_Model_readCall_75 (20 * k + 30) x1 v2 x3 f l' 0 z7 M2 Φ Θ) → k_Model_readCall_115 (20 * k + 30) x1 v2 x3 f y5 y6 y7 M1 Φ Θ)) ∨
    (∃ C2 M2, e_no C M C2 M2 ∧ (∀ y6, ax_y y6 → ∀ (Φ : Int → ax_V → Prop) (Θ : ax_V → Prop), Θ C2 → k_Reader_readCall_77 B r (20 * k + 28) x1 x2 f l x5 y6 C1 Φ Θ) ∧
      (∀ y5 y6 y7, ax_y y5 → ax_y y6 → ax_y y7 → ∀ (Φ : Int → ax_V → Prop) (Θ : ax_V → Prop), Φ 0 M2 → k_Model_readCall_115 (20 * k + 30) x1 v2 x3 f y5 y6 y7 M1 Φ Θ)) := by
  intro N
  induction N with
  | zero =>
    intro C1 M1 f l x5 R mg cn hl0 hf0 hpt hdk hdl h50 h5 hN
    have hR := mg.1
    have mi := hR.mi
    have ci := hR.ci
    have hs := hR.see
    obtain ⟨hgC1, hgM1⟩ := id hR.1
    have hsz := hR.2.1.2.2.1
    have hat := hR.2.2.1.1
    have e0 : m_see M1 = 0 := if_neg (by omega)
    have rl : ax_rg l := by rw [← hpt]; exact hgM1 _ _
    have rf : ax_rg f := by
      have q5 := hR.2.2.2.1
      rcases cn with z | ⟨-, h2, -, -, -, -, h7⟩
      · omega
      · have := mg.2.2.2.2.1 f ((h2 f).mpr ⟨hf0, 0, rfl⟩)
        exact ⟨by omega, by omega⟩
    refine Or.inr ⟨C1, M1, ⟨hR.1, hat.1, mg.2.1, mg.2.2.1⟩, fun y6 hy6 Φ Θ hh => ?_, fun y5 y6 y7 hy5 hy6 hy7 Φ Θ hh => ?_⟩
    · exact r_Reader_readCall_77 hgC1 rx1 rx2 rf rl ⟨by omega, by omega⟩ hy6 ⟨fun z => by omega, fun _ => t_look hgC1 ci ⟨fun z => by omega, fun _ => ⟨fun z => by omega, fun _ => t_expect hgC1 (by decide) ci (fun z => by omega) (fun _ => hh)⟩⟩⟩
    · refine r_Model_readCall_115 hgM1 rx1 rv2 rx3 rf hy5 hy6 hy7 (s_see hgM1 mi ⟨fun z => by omega, fun _ => ⟨⟨by omega, by omega⟩, fun V2 e2 => ?_⟩⟩)
      rw [Int.add_zero, ax_u_id] at e2
      rw [e2, hpt]
      exact r_Model_readCall_75 hgM1 rx1 rv2 rx3 rf rl (by decide) hy7 ⟨fun _ => s_want hgM1 (by decide) mi (fun z => by omega) (fun _ => ⟨fun _ => hh, fun z => absurd rfl z⟩), fun z => absurd rfl z⟩
  | succ N ihN =>
    intro C1 M1 f l x5 R mg cn hl0 hf0 hpt hdk hdl h50 h5 hN
    have hR := mg.1
    have mi := hR.mi
    have ci := hR.ci
    have hs := hR.see
    obtain ⟨hgC1, hgM1⟩ := id hR.1
    have hsz := hR.2.1.2.2.1
    have hat := hR.2.2.1.1
    have q5 := hR.2.2.2.1
    have rl : ax_rg l := by rw [← hpt]; exact hgM1 _ _
    have hRl : R l := by
      rcases cn with z | ⟨-, -, -, h4, -⟩
      · omega
      · exact h4
    have hRf : R f := by
      rcases cn with z | ⟨-, h2, -⟩
      · omega
      · exact (h2 f).mpr ⟨hf0, 0, rfl⟩
    have bl := mg.2.2.2.2.1 l hRl
    have bf := mg.2.2.2.2.1 f hRf
    have rf : ax_rg f := ⟨by omega, by omega⟩
    by_cases w41 : m_see M1 = 41
    · refine Or.inl ⟨l, C1, M1, R, mg, cn, rfl, rfl, hdl, w41, rl, fun y6 hy6 Φ Θ hh => ?_, fun y5 y6 y7 hy5 hy6 hy7 Φ Θ hh => ?_⟩
      · exact r_Reader_readCall_77 hgC1 rx1 rx2 rf rl ⟨by omega, by omega⟩ hy6 ⟨fun _ => hh _ _ _ (ax_y_i _) (ax_y_i _) hy6, fun _ => t_look hgC1 ci ⟨fun _ => hh _ _ _ (ax_y_i _) (ax_y_i _) hy6, fun z => absurd (by rw [hs]; exact w41) z⟩⟩
      · refine r_Model_readCall_115 hgM1 rx1 rv2 rx3 rf hy5 hy6 hy7 (s_see hgM1 mi ⟨fun z => by omega, fun _ => ⟨⟨by omega, by omega⟩, fun V2 e2 => ?_⟩⟩)
        rw [Int.add_zero, ax_u_id] at e2
        rw [e2, hpt]
        exact hh _ hy7
    · by_cases w44 : m_see M1 = 44
      · have hlt := hR.lt (by omega)
        have h2 : e_R (c_on C1 1) (m_on M1 1) := hR.on (by omega) (by omega)
        obtain ⟨hgC2, hgM2⟩ := id h2.1
        have na : (m_on M1 1) 222 68 = (M1 222 68) + 1 := by simp [m_on, ax_u]
        have np : (m_on M1 1) 222 26 = (M1 222 26) := by simp [m_on, ax_u]
        have nd : (m_on M1 1) 222 69 = (M1 222 69) := by simp [m_on, ax_u]
        have nb : (m_on M1 1) 222 72 = (M1 222 72) := by simp [m_on, ax_u]
        have nz : (m_on M1 1) 222 3 = (M1 222 3) := by simp [m_on, ax_u]
        have cl : (c_on C1 1) 600 13 = (C1 600 13) := by simp [c_on, ax_u]
        have mg2 := mg.mv h2 (e_mvC.on C1 1) (e_mvM.on M1 1) (by omega)
        have bparts := mg.2.2.2.1
        have hcl : ∀ y6, ax_y y6 → ∀ (Φ : Int → ax_V → Prop) (Θ : ax_V → Prop), ax_I (az_W B (az_ER B r)) (20 * k + 28) q_Reader_readX [.ref r] (c_on C1 1) (fun r5 V5 => ((0 ≤ l → (0 ≤ l ∧ l < 700) ∧ (∀ V6, V6 = ax_u V5 522 l r5 → k_Reader_readCall_77 B r (20 * k + 28) x1 x2 f r5 (x5 + 1) (some (ax_i r5)) V6 Φ Θ)) ∧ (l < 0 → k_Reader_readCall_77 B r (20 * k + 28) x1 x2 r5 r5 (x5 + 1) (some (ax_i r5)) V5 Φ Θ))) Θ → k_Reader_readCall_77 B r (20 * k + 28) x1 x2 f l x5 y6 C1 Φ Θ := fun y6 hy6 Φ Θ hh => r_Reader_readCall_77 hgC1 rx1 rx2 rf rl ⟨by omega, by omega⟩ hy6 ⟨fun z => by omega, fun _ => t_look hgC1 ci ⟨fun z => by omega, fun _ => ⟨fun z => by omega, fun _ => t_expect hgC1 (by decide) ci (fun _ => hh) (fun z => absurd (by rw [hs]; exact w44) z)⟩⟩⟩
        have hml : ∀ y5 y6 y7, ax_y y5 → ax_y y6 → ax_y y7 → ∀ (Φ : Int → ax_V → Prop) (Θ : ax_V → Prop), ax_I ay_lay (20 * k + 30) q_Model_readX [.ref 222] (m_on M1 1) (fun r12 V12 => ((r12 = 0 → Φ 0 V12) ∧ (¬ r12 = 0 → (∀ V13, V13 = ax_u V12 252 l (V12 222 74) → k_Model_readCall_115 (20 * k + 30) x1 v2 x3 f (some (ax_i l)) (some (ax_i 1)) y7 V13 Φ Θ)))) Θ → k_Model_readCall_115 (20 * k + 30) x1 v2 x3 f y5 y6 y7 M1 Φ Θ := by
          intro y5 y6 y7 hy5 hy6 hy7 Φ Θ hh
          refine r_Model_readCall_115 hgM1 rx1 rv2 rx3 rf hy5 hy6 hy7 (s_see hgM1 mi ⟨fun _ => ⟨⟨by omega, by omega⟩, fun V3 e3 => ?_⟩, fun z => absurd w44 z⟩)
          rw [show V3 = m_on M1 1 from e3, hpt]
          refine r_Model_readCall_75 hgM2 rx1 rv2 rx3 rf rl (by decide) hy7 ⟨fun z => absurd z (by decide), fun _ => ax_I.mono hh (Nat.le_refl _) (fun x V' hg hx w => ⟨w.1, fun z => ⟨fun q => by omega, fun _ => ⟨⟨by omega, by omega⟩, w.2 z⟩⟩⟩) (fun _ _ q => q)⟩
        rcases ih _ _ h2 (by omega) with ⟨t, C3, M3, ja, jb, ok⟩ | ⟨C3, M3, ja, jb, no⟩ | ⟨t, C3, M3, ja, jb, hf, dg⟩
        · have hR3 := ok.1
          obtain ⟨hgC3, hgM3⟩ := id hR3.1
          have r4 := ok.2.2.2.1
          have r5 := hR3.2.2.2.1
          have r6 := ok.2.2.2.2.2.1
          have r7 := ok.2.2.2.2.2.2.1
          have h3at := hR3.2.2.1.1
          have h3sz := hR3.2.1.2.2.1
          have rt : ax_rg t := ⟨by omega, by omega⟩
          have mg3 := (mg2.part ok).tie (l := l) (t := t) (Or.inl hRl) rt
          have cn3 : e_cn (ax_u C3 522 l t) (ax_u M3 252 l t) f t (fun x => R x ∨ x = t) (C 600 13) := by
            refine (cn.keep (C' := C3) (M' := M3) (fun x hx => ?_)).more hl0 (by omega) ok.2.2.2.2.1.1 ok.2.2.2.2.1.2.1 (by rw [ok.2.2.2.2.1.2.2, cl, hdl]) (fun x hx => ax_u_k hx) (ax_u_s _ _ _ _) (fun x => by rw [ax_u_ne (c' := 526) (by decide)]) (fun x hx => ax_u_k hx) (ax_u_s _ _ _ _)
            have bx := mg.2.2.2.2.1 x hx
            refine ⟨?_, ?_, ?_⟩
            · rw [ok.2.1.2.1 522 x (by decide) (by decide) (by omega), (e_mvC.on C1 1).1 522 (by decide)]
            · rw [ok.2.1.2.1 526 x (by decide) (by decide) (by omega), (e_mvC.on C1 1).1 526 (by decide)]
            · rw [ok.2.2.1.2.1 252 x (by decide) (by decide) (by omega), (e_mvM.on M1 1).1 252 (by decide)]
          have m4 : (ax_u M3 252 l t) 222 = M3 222 := ax_u_ne (by decide)
          have c4 : (ax_u C3 522 l t) 600 = C3 600 := ax_u_ne (by decide)
          have z3 : (M3 222 3) = (M1 222 3) := by rw [← nz]; exact ok.2.2.1.2.2 3 (by decide) (by decide) (by decide) (by decide) (by decide) (by decide)
          rcases ihN _ _ f t (x5 + 1) _ mg3 cn3 (by omega) hf0 (by rw [m4]; exact r4.1.symm) (by rw [m4]; omega) (by rw [c4]; omega) (by omega) (by rw [m4]; omega) (by rw [m4]; omega) with ⟨l', C5, M5, R', a1, a2, a3, a4, a5, a6, a7, a8, a9⟩ | ⟨C5, M5, a1, a2, a3⟩
          · refine Or.inl ⟨l', C5, M5, R', a1, a2, by rw [a3, m4]; omega, by rw [a4, m4]; omega, a5, a6, a7, fun y6 hy6 Φ Θ hh => hcl y6 hy6 Φ Θ (ja.k (by omega) (fun _ _ => ⟨fun _ => ⟨⟨by omega, by omega⟩, fun V6 e6 => ?_⟩, fun z => by omega⟩)), fun y5 y6 y7 hy5 hy6 hy7 Φ Θ hh => hml y5 y6 y7 hy5 hy6 hy7 Φ Θ (jb.k (by omega) (fun _ _ => ⟨fun z => absurd z (by decide), fun _ V13 e13 => ?_⟩))⟩
            · rw [e6]; exact a8 _ (ax_y_i _) Φ Θ hh
            · rw [e13, ← r4.1]; exact a9 _ _ _ (ax_y_i _) (ax_y_i _) hy7 Φ Θ hh
          · refine Or.inr ⟨C5, M5, a1, fun y6 hy6 Φ Θ hh => hcl y6 hy6 Φ Θ (ja.k (by omega) (fun _ _ => ⟨fun _ => ⟨⟨by omega, by omega⟩, fun V6 e6 => ?_⟩, fun z => by omega⟩)), fun y5 y6 y7 hy5 hy6 hy7 Φ Θ hh => hml y5 y6 y7 hy5 hy6 hy7 Φ Θ (jb.k (by omega) (fun _ _ => ⟨fun z => absurd z (by decide), fun _ V13 e13 => ?_⟩))⟩
            · rw [e6]; exact a2 _ (ax_y_i _) Φ Θ hh
            · rw [e13, ← r4.1]; exact a3 _ _ _ (ax_y_i _) (ax_y_i _) hy7 Φ Θ hh
        · exact Or.inr ⟨C3, M3, ⟨no.1, no.2.1, mg2.2.1.tr no.2.2.1 (by omega), mg2.2.2.1.tr no.2.2.2 (by omega)⟩, fun y6 hy6 Φ Θ hh => hcl y6 hy6 Φ Θ (ja.kI (by omega) (fun _ => hh)), fun y5 y6 y7 hy5 hy6 hy7 Φ Θ hh => hml y5 y6 y7 hy5 hy6 hy7 Φ Θ (jb.k (by omega) (fun _ _ => ⟨fun _ => hh, fun z => absurd rfl z⟩))⟩
        · obtain ⟨⟨hg3, f1, f2, f3⟩, f4, f5, f6⟩ := id hf
          have ci3 := e_half.ci h2 hf
          have rt : ax_rg t := ⟨by omega, by omega⟩
          obtain ⟨C4, eC4⟩ : ∃ X : ax_V, X = ax_u C3 522 l t := ⟨_, rfl⟩
          have hg4 : ax_g C4 := by rw [eC4]; exact ax_u_g hg3.1 rt
          have n4 : ∀ c, c ≠ 522 → C4 c = C3 c := fun c hc => by rw [eC4]; exact ax_u_ne hc
          have see4 : c_see C4 = c_see C3 := by unfold c_see; rw [n4 600 (by decide), n4 1 (by decide)]
          have ci4 : c_in C4 := by
            refine ⟨by rw [n4 600 (by decide)]; exact ci3.1, by rw [n4 600 (by decide)]; exact ci3.2.1, by rw [n4 600 (by decide)]; exact ci3.2.2.1, fun i i0 i1 => ?_⟩
            rw [n4 1 (by decide)]
            rw [n4 600 (by decide)] at i1
            exact ci3.2.2.2 i i0 i1
          have nn := dg.ne
          refine Or.inr ⟨C4, M3, ⟨⟨hg4, hg3.2⟩, by rw [n4 600 (by decide)]; exact f1, (mg2.2.1.tr f2 (by omega)).tr (by rw [eC4]; exact e_fC.ua (by decide) bl.1) (Int.le_refl _), mg2.2.2.1.tr f3 (by omega)⟩, fun y6 hy6 Φ Θ hh => hcl y6 hy6 Φ Θ (ja.k (by omega) (fun _ _ => ⟨fun _ => ⟨⟨by omega, by omega⟩, fun V6 e6 => ?_⟩, fun z => by omega⟩)), fun y5 y6 y7 hy5 hy6 hy7 Φ Θ hh => hml y5 y6 y7 hy5 hy6 hy7 Φ Θ (jb.k (by omega) (fun _ _ => ⟨fun _ => hh, fun z => absurd rfl z⟩))⟩
          rw [e6, ← eC4]
          exact r_Reader_readCall_77 hg4 rx1 rx2 rf rt ⟨by omega, by omega⟩ (ax_y_i _) ⟨fun z => by omega, fun _ => t_look hg4 ci4 ⟨fun z => absurd (by rw [← see4]; exact z) nn.2.2.1, fun _ => ⟨fun z => by omega, fun _ => t_expect hg4 (by decide) ci4 (fun z => absurd (by rw [← see4]; exact z) nn.1) (fun _ => hh)⟩⟩⟩
      · refine Or.inr ⟨C1, M1, ⟨hR.1, hat.1, mg.2.1, mg.2.2.1⟩, fun y6 hy6 Φ Θ hh => ?_, fun y5 y6 y7 hy5 hy6 hy7 Φ Θ hh => ?_⟩
        · exact r_Reader_readCall_77 hgC1 rx1 rx2 rf rl ⟨by omega, by omega⟩ hy6 ⟨fun z => by omega, fun _ => t_look hgC1 ci ⟨fun z => absurd (by rw [← hs]; exact z) w41, fun _ => ⟨fun z => by omega, fun _ => t_expect hgC1 (by decide) ci (fun z => absurd (by rw [← hs]; exact z) w44) (fun _ => hh)⟩⟩⟩
        · refine r_Model_readCall_115 hgM1 rx1 rv2 rx3 rf hy5 hy6 hy7 (s_see hgM1 mi ⟨fun z => absurd z w44, fun _ => ⟨⟨by omega, by omega⟩, fun V2 e2 => ?_⟩⟩)
          rw [Int.add_zero, ax_u_id] at e2
          rw [e2, hpt]
          exact r_Model_readCall_75 hgM1 rx1 rv2 rx3 rf rl (by decide) hy7 ⟨fun _ => s_want hgM1 (by decide) mi (fun z => absurd z w41) (fun _ => ⟨fun _ => hh, fun z => absurd rfl z⟩), fun z => absurd rfl z⟩
end Args
