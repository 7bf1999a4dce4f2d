/-! A TRANSITION IS READ -/
def f_sm (C M C' M' : ax_V) : Prop := ((∀ c, (c < 516 ∨ (531 < c ∧ c < 556) ∨ (556 < c ∧ c < 559) ∨ (559 < c ∧ c < 567)) → C' c = C c) ∧ (C' 556 0 = C 556 0 ∧ C' 556 1 = C 556 1) ∧ (∀ i, i ≠ (M 222 55) → C' 559 i = C 559 i) ∧ ∀ j, j ≠ 6 → C' 600 j = C 600 j) ∧ (∀ c, (c < 241 ∨ (257 < c ∧ c < 271) ∨ 278 < c) → c ≠ 222 → M' c = M c) ∧ ∀ j, j ≠ 26 → j ≠ 60 → j ≠ 68 → j ≠ 74 → j ≠ 75 → M' 222 j = M 222 j
def c_am (C : ax_V) (s a st : Int) : ax_V := ax_u (ax_u (ax_u (ax_u (ax_u C 556 2 ((C 556 2) + 1)) 559 (a + 1) ((C 556 2) + 1)) 567 (C 556 2) s) 568 (C 556 2) st) 570 (C 556 2) (C 516 0)
theorem t_addMove {B r d : Nat} {C : ax_V} {Φ : Int → ax_V → Prop} {Θ : ax_V → Prop} {s a st : Int} (hg : ax_g C) (hm : 0 ≤ (C 556 2) ∧ (C 556 2) < 350) (hs : 0 ≤ s ∧ s < 350) (ho : C 563 s = a) (ha : 0 ≤ a ∧ a < 350) (hst : st = 0 ∨ st = 1) (h : Φ (C 556 2) (c_am C s a st)) : ax_I (az_W B (az_ER B r)) (d + 1) q_Automata_addMove [.ref (B + 56), ax_i s, ax_i st, ax_i (C 516 0)] C Φ Θ := by
  refine r_Automata_addMove hg ⟨by omega, by omega⟩ ⟨by omega, by omega⟩ (hg _ _) ⟨⟨by omega, by omega⟩, fun V1 e1 => ?_⟩
  have d1 : V1 563 s = a := by rw [e1, ax_u_ne (by decide)]; exact ho
  have d2 : V1 556 2 = C 556 2 + 1 := by rw [e1]; exact ax_u_s _ _ _ _
  rw [d1, d2]
  refine ⟨hs, ⟨by omega, by omega⟩, fun V2 e2 => ⟨hm, fun V3 e3 => ⟨hm, hst, fun V4 e4 => ⟨hm, fun V5 e5 => ?_⟩⟩⟩⟩
  have e6 : V5 = c_am C s a st := by rw [e5, e4, e3, e2, e1]; rfl
  rw [e6]; exact h
theorem e_R.turn {C M C' M' : ax_V} {v : Int} (h : e_R C M) (hd : (M 222 69) = 0) (hg : ax_g C' ∧ ax_g M') (hC : ∀ c, c ≠ 600 → C' c = C c) (hM : ∀ c, c ≠ 222 → M' c = M c) (hc : ∀ j, j ≠ 10 → C' 600 j = C 600 j) (hm : ∀ j, j ≠ 71 → j ≠ 72 → M' 222 j = M 222 j) (h1 : (C' 600 10) = v) (h2 : (M' 222 71) = v) (hv : v = 0 ∨ v = 1) (h3 : (M' 222 72) = 0) : e_R C' M' := by
  have h9 := h
  obtain ⟨-, -, ⟨a1, a2, a3, a4, a5, a6, a7⟩, p0, -⟩ := h
  refine h9.sc hg hC hM (hc 1 (by decide)) (hm 3 (by decide) (by decide)) (hm 10 (by decide) (by decide)) (hm 26 (by decide) (by decide)) ?_ (by rw [hm 26 (by decide) (by decide), hm 68 (by decide) (by decide)]; exact p0.2.2)
  unfold e_S
  rw [hc 6 (by decide), hc 8 (by decide), hc 11 (by decide), hc 12 (by decide), hc 9 (by decide), hc 13 (by decide), hm 3 (by decide) (by decide), hm 10 (by decide) (by decide), hm 68 (by decide) (by decide), hm 69 (by decide) (by decide), hm 70 (by decide) (by decide), h1, h2, h3]
  exact ⟨a1, a2, a3, ⟨rfl, hv⟩, ⟨by omega, by omega, by omega⟩, a6, a7⟩
section MoveR
variable {B r : Nat} {C0 M0 C M : ax_V} {x1 x2 : Int}
set_option maxHeartbeats 4000000 in
theorem f_move (hX : e_X B r 20) (h : f_I C0 M0 C M x1) (hst : f_st C M (C 600 9) x1 x2 (M 222 10)) (h0 : 0 ≤ x1) (hx1 : x1 + 1 = (M 222 55)) (rx2 : ax_rg x2) (hlt : (M 222 68) < (M 222 3)) :
    f_go f_nv (fun Φ Θ => ax_N (az_W B (az_ER B r)) 421 q_Reader_readMove [.ref r] C Φ Θ) (fun C' Φ _ => Φ C') (fun Φ Θ => ax_I ay_lay 422 q_Model_readTransition [.ref 222, ax_i x1, ax_i x2] M Φ Θ) (fun M' Φ _ => Φ 1 M') C0 M0 (fun C' M' => f_I C0 M0 C' M' x1 ∧ (M 222 68) < (M' 222 68) ∧ f_sm C M C' M' ∧ (M' 222 26) + (M' 222 44) - ((M 222 26) + (M 222 44)) ≤ (M' 222 68) - (M 222 68)) := by
  obtain ⟨hR, ⟨fC, fM⟩, hLL, hB, ⟨hd, hT, hu⟩, hcs⟩ := h
  obtain ⟨hgC, hgM⟩ := id hR.1
  have hct := hB.1
  have hc3 := hct.2.2.1
  have hc4 := hct.2.2.2.1
  have hc5 := hct.2.2.2.2.1
  have hat := hR.2.2.1.1
  have hsz := hR.2.1.2.2.1
  have hn := hR.2.2.1.2.1
  have p0 := hR.2.2.2.1
  have hbk := hR.2.2.1.2.2.2.2.1
  have hdl := hR.2.2.1.2.2.2.2.2.2
  have hs := hR.see
  have im0 : (C 600 10) = 0 := by rw [hR.2.2.1.2.2.2.1.1]; exact hT
  obtain ⟨T, eT⟩ : ∃ T : Int, T = (M 222 60) := ⟨_, rfl⟩
  have cT : (C 556 2) = T := by rw [hct.2.2.2.2.1.1, eT]
  have hT3 : 0 ≤ T ∧ T < 350 := ⟨by omega, by omega⟩
  have hT4 : 0 ≤ T ∧ T < 351 := ⟨by omega, by omega⟩
  have ha3 : 0 ≤ x1 ∧ x1 < 350 := ⟨by omega, by omega⟩
  have rx1 : ax_rg x1 := ⟨by omega, by omega⟩
  have fa := hB.2.2.1 x1 h0 (by omega)
  have hst' : 0 ≤ (C 600 9) ∧ (C 600 9) < C 558 (x1 + 1) ∧ C 558 x1 ≤ (C 600 9) := by
    rcases hst with z | ⟨z1, z2, z3, z4, z5, z6, z7⟩
    · omega
    · exact ⟨by omega, by omega, by omega⟩
  have hown : C 563 (C 600 9) = x1 := (fa.2.2.2.2.2 _ hst'.2.2 hst'.2.1).1
  have hs3 : 0 ≤ (C 600 9) ∧ (C 600 9) < 350 := ⟨hst'.1, by have := fa.2.2.1.2.2; omega⟩
  obtain ⟨st, est⟩ : ∃ st : Int, st = if m_see M = 33 then 1 else 0 := ⟨_, rfl⟩
  have hst1 : st = 0 ∨ st = 1 := by rw [est]; split; exact Or.inr rfl; exact Or.inl rfl
  -- the class's rows, and where its X begins
  obtain ⟨C1, eC1⟩ : ∃ X : ax_V, X = c_am C (C 600 9) x1 st := ⟨_, rfl⟩
  have eC1' : C1 = ax_u (ax_u (ax_u (ax_u (ax_u C 556 2 (T + 1)) 559 (x1 + 1) (T + 1)) 567 T (C 600 9)) 568 T st) 570 T (M 222 26) := by rw [eC1]; unfold c_am; rw [cT, p0.1]
  have hgC1 : ax_g C1 := by rw [eC1']; exact ax_u_g (ax_u_g (ax_u_g (ax_u_g (ax_u_g hgC ⟨by omega, by omega⟩) ⟨by omega, by omega⟩) (hgC _ _)) ⟨by omega, by omega⟩) ⟨by omega, by omega⟩
  have cn1 : ∀ c, c ≠ 556 → c ≠ 559 → c ≠ 567 → c ≠ 568 → c ≠ 570 → C1 c = C c := fun c a b x y z => by rw [eC1', ax_u_ne z, ax_u_ne y, ax_u_ne x, ax_u_ne b, ax_u_ne a]
  obtain ⟨M4, eM4⟩ : ∃ X : ax_V, X = ax_u (m_on (ax_u (ax_u (ax_u M 271 T x1) 272 T x2) 273 T st) 1) 276 T (M 222 26) := ⟨_, rfl⟩
  have mn4 : ∀ c, c ≠ 271 → c ≠ 272 → c ≠ 273 → c ≠ 276 → c ≠ 222 → M4 c = M c := fun c a b x y z => by rw [eM4, ax_u_ne y]; unfold m_on; rw [ax_u_ne z, ax_u_ne x, ax_u_ne b, ax_u_ne a]
  have sc4 : ∀ j, j ≠ 68 → M4 222 j = M 222 j := fun j z => by rw [eM4, ax_u_ne (by decide)]; unfold m_on; rw [ax_u_k z, ax_u_ne (by decide), ax_u_ne (by decide), ax_u_ne (by decide)]
  have at4 : M4 222 68 = (M 222 68) + 1 := by rw [eM4, ax_u_ne (by decide)]; unfold m_on; rw [ax_u_s, ax_u_ne (by decide), ax_u_ne (by decide), ax_u_ne (by decide)]
  have hgM4 : ax_g M4 := by rw [eM4]; exact ax_u_g (ax_u_g (ax_u_g (ax_u_g (ax_u_g hgM rx1) rx2) ⟨by omega, by omega⟩) (by rw [ax_u_ne (by decide), ax_u_ne (by decide), ax_u_ne (by decide)]; exact ⟨by omega, by omega⟩)) ⟨by omega, by omega⟩
  have R4 : e_R (c_on C1 1) M4 := by
    have R0 : e_R (c_on C 1) (m_on M 1) := hR.on (by decide) (by omega)
    refine R0.tab ⟨ax_u_g hgC1 (by rw [cn1 600 (by decide) (by decide) (by decide) (by decide) (by decide)]; exact ⟨by omega, by omega⟩), hgM4⟩ (fun c z => ?_) (fun c z => ?_) (fun j z => ?_) (fun j z => ?_)
    · rw [(e_nC.on C1 1).1 c (by omega), (e_nC.on C 1).1 c (by omega), cn1 c (by omega) (by omega) (by omega) (by omega) (by omega)]
    · rw [mn4 c (by omega) (by omega) (by omega) (by omega) (by omega), (e_nM.on M 1).1 c (by omega)]
    · unfold c_on; rw [cn1 600 (by decide) (by decide) (by decide) (by decide) (by decide)]
      by_cases w : j = 6
      · rw [w, ax_u_s, ax_u_s]
      · rw [ax_u_k w, ax_u_k w, cn1 600 (by decide) (by decide) (by decide) (by decide) (by decide)]
    · by_cases w : j = 68
      · rw [w, at4]; exact (ax_u_s _ _ _ _).symm
      · rw [sc4 j w]; exact (ax_u_k w).symm
  obtain ⟨C3, eC3⟩ : ∃ X : ax_V, X = ax_u (c_on C1 1) 600 10 1 := ⟨_, rfl⟩
  obtain ⟨M5, eM5⟩ : ∃ X : ax_V, X = ax_u (ax_u M4 222 71 1) 222 72 0 := ⟨_, rfl⟩
  have hgC3 : ax_g C3 := by rw [eC3]; exact ax_u_g R4.1.1 (by decide)
  have hgM5 : ax_g M5 := by rw [eM5]; exact ax_u_g (ax_u_g hgM4 (by decide)) (by decide)
  have R5 : e_R C3 M5 := R4.turn (v := 1) (by rw [sc4 69 (by decide)]; exact hd) ⟨hgC3, hgM5⟩ (fun c z => by rw [eC3]; exact ax_u_ne z) (fun c z => by rw [eM5, ax_u_ne z, ax_u_ne z]) (fun j z => by rw [eC3]; exact ax_u_k z) (fun j a b => by rw [eM5, ax_u_k b, ax_u_k a]) (by rw [eC3]; exact ax_u_s _ _ _ _) (by rw [eM5, ax_u_k (by decide)]; exact ax_u_s _ _ _ _) (Or.inr rfl) (by rw [eM5]; exact ax_u_s _ _ _ _)
  have cn3 : ∀ c, c ≠ 600 → C3 c = C1 c := fun c z => by rw [eC3, ax_u_ne z, (e_nC.on C1 1).1 c z]
  have cs3 : ∀ j, j ≠ 6 → j ≠ 10 → C3 600 j = C 600 j := fun j a b => by rw [eC3, ax_u_k b, (e_nC.on C1 1).2 j a, cn1 600 (by decide) (by decide) (by decide) (by decide) (by decide)]
  have mn5 : ∀ c, c ≠ 222 → M5 c = M4 c := fun c z => by rw [eM5, ax_u_ne z, ax_u_ne z]
  have sc5 : ∀ j, j ≠ 68 → j ≠ 71 → j ≠ 72 → M5 222 j = M 222 j := fun j a b c => by rw [eM5, ax_u_k c, ax_u_k b, sc4 j a]
  have at5 : (M5 222 68) = (M 222 68) + 1 := by rw [eM5, ax_u_k (by decide), ax_u_k (by decide)]; exact at4
  have pt5 : (M5 222 26) = (M 222 26) := sc5 26 (by decide) (by decide) (by decide)
  have nd5 : (M5 222 10) = (M 222 10) := sc5 10 (by decide) (by decide) (by decide)
  have dp5 : (M5 222 69) = 0 := by rw [sc5 69 (by decide) (by decide) (by decide)]; exact hd
  have st3 : (C3 600 9) = (C 600 9) := cs3 9 (by decide) (by decide)
  have dl3 : (C3 600 13) = 0 := by rw [cs3 13 (by decide) (by decide)]; omega
  have tr5 : (M5 222 71) = 1 := by rw [eM5, ax_u_k (by decide)]; exact ax_u_s _ _ _ _
  have im3 : (C3 600 10) = 1 := by rw [eC3]; exact ax_u_s _ _ _ _
  have fC3 : f_fC C0 C3 := by rw [eC3, eC1']; exact (((((((fC.ua (by decide)).ua (by decide)).ua (by decide)).ua (by decide)).ua (by decide)).us (i := 6) (by decide))).us (by decide)
  have fM5 : f_fM M0 M5 := by rw [eM5, eM4]; exact ((((((fM.ua (by decide)).ua (by decide)).ua (by decide)).us (i := 68) (by decide)).ua (by decide)).us (by decide)).us (by decide)
  have hat5 := R5.2.2.1.1
  have hsz5 := R5.2.1.2.2.1
  have hcl : ∀ (Φ Θ : ax_V → Prop), ax_I (az_W B (az_ER B r)) 420 q_Reader_readX [.ref r] C3 (fun r4 V4 => (0 ≤ T ∧ T < 350) ∧ (∀ V5, V5 = ax_u V4 571 T r4 → (∀ V6, V6 = ax_u V5 600 10 0 → ax_I (az_W B (az_ER B r)) 420 q_Reader_look [.ref r] V6 (fun r7 V7 => ((r7 = 62 → k_Reader_readMove_105 B r 420 T V7 Φ Θ) ∧ (¬ r7 = 62 → ax_I (az_W B (az_ER B r)) 420 q_Reader_look [.ref r] V7 (fun r8 V8 => ((r8 = 126 → k_Reader_readMove_105 B r 420 T V8 Φ Θ) ∧ (¬ r8 = 126 → ax_N (az_W B (az_ER B r)) 420 q_Reader_refuse [.ref r] V8 (fun V9 => k_Reader_readMove_105 B r 420 T V9 Φ Θ) Θ))) Θ))) Θ))) Θ → ax_N (az_W B (az_ER B r)) 421 q_Reader_readMove [.ref r] C Φ Θ := by
    intro Φ Θ z
    have key : k_Reader_readMove_39 B r 420 none st (C 600 9) C Φ Θ := by
      refine r_Reader_readMove_39 hgC ax_y_n ⟨by omega, by omega⟩ ⟨by omega, by omega⟩ (t_addMove hgC (by rw [cT]; exact hT3) hs3 hown ha3 hst1 ?_)
      rw [cT, ← eC1]
      refine ⟨by rw [cn1 600 (by decide) (by decide) (by decide) (by decide) (by decide)]; exact ⟨by omega, by omega⟩, fun V2 e2 V3 e3 => ?_⟩
      have e4 : V3 = C3 := by rw [e3, e2, eC3]; rfl
      rw [e4]; exact z
    refine r_Reader_readMove hgC ⟨fun _ => t_look hgC hR.ci ⟨fun q => ?_, fun q => ?_⟩, fun q => by omega⟩
    · have e1 : st = 1 := by rw [est, if_pos (by rw [← hs]; exact q)]
      rw [e1] at key; exact key
    · have e1 : st = 0 := by rw [est, if_neg (by rw [← hs]; exact q)]
      rw [e1] at key; exact key
  have hml : ∀ (Φ : Int → ax_V → Prop) (Θ : ax_V → Prop), ax_I ay_lay 421 q_Model_readX [.ref 222] M5 (fun r6 V6 => ((r6 = 0 → Φ 0 V6) ∧ (¬ r6 = 0 → (∀ V7, V7 = ax_u V6 222 71 0 → (0 ≤ T ∧ T < 351) ∧ (∀ V8, V8 = ax_u V7 277 T (V7 222 74) → ax_I ay_lay 421 q_Model_see [.ref 222] V8 (fun r9 V9 => ((r9 = 62 → ax_I ay_lay 421 q_Model_see [.ref 222] V9 (fun r10 V10 => ((r10 = 62 → k_Model_readTransition_132 421 (some (ax_i x1)) (some (ax_i x2)) T 1 T V10 Φ Θ) ∧ (¬ r10 = 62 → k_Model_readTransition_132 421 (some (ax_i x1)) (some (ax_i x2)) T 0 T V10 Φ Θ))) Θ) ∧ (¬ r9 = 62 → ax_I ay_lay 421 q_Model_see [.ref 222] V9 (fun r11 V11 => ((r11 = 126 → ax_I ay_lay 421 q_Model_see [.ref 222] V11 (fun r12 V12 => ((r12 = 62 → k_Model_readTransition_132 421 (some (ax_i x1)) (some (ax_i x2)) T 1 T V12 Φ Θ) ∧ (¬ r12 = 62 → k_Model_readTransition_132 421 (some (ax_i x1)) (some (ax_i x2)) T 0 T V12 Φ Θ))) Θ) ∧ (¬ r11 = 126 → Φ 0 V11))) Θ))) Θ))))) Θ → ax_I ay_lay 422 q_Model_readTransition [.ref 222, ax_i x1, ax_i x2] M Φ Θ := by
    intro Φ Θ z
    obtain ⟨M2, eM2⟩ : ∃ X : ax_V, X = ax_u (ax_u M 271 T x1) 272 T x2 := ⟨_, rfl⟩
    have hgM2 : ax_g M2 := by rw [eM2]; exact ax_u_g (ax_u_g hgM rx1) rx2
    have sc2 : ∀ j, M2 222 j = M 222 j := fun j => by rw [eM2, ax_u_ne (by decide), ax_u_ne (by decide)]
    have mi2 : m_in M2 := by
      have := hR.mi
      show 0 ≤ M2 222 68 ∧ M2 222 68 ≤ 1000000 ∧ M2 222 3 ≤ 700
      rw [sc2, sc2]; exact this
    have se2 : m_see M2 = m_see M := by unfold m_see; rw [sc2, sc2, eM2, ax_u_ne (by decide), ax_u_ne (by decide)]
    have key : k_Model_readTransition_38 421 (some (ax_i x1)) (some (ax_i x2)) T st T M2 Φ Θ := by
      refine r_Model_readTransition_38 hgM2 (ax_y_i _) (ax_y_i _) ⟨by omega, by omega⟩ ⟨by omega, by omega⟩ ⟨by omega, by omega⟩ ⟨hT4, hst1, fun V1 e1 => ?_⟩
      have d1 : V1 222 68 = (M 222 68) := by rw [e1, ax_u_ne (by decide), sc2]
      rw [d1]
      refine ⟨⟨by omega, by omega⟩, fun V2 e2 => ⟨hT4, fun V3 e3 V4 e4 V5 e5 => ?_⟩⟩
      have d2 : V2 222 26 = (M 222 26) := by rw [e2, ax_u_k (by decide), e1, ax_u_ne (by decide), sc2]
      have e6 : V5 = M5 := by
        rw [e5, e4, e3, d2, e2, e1, eM2, eM5, eM4]
        unfold m_on
        rw [ax_u_ne (by decide), ax_u_ne (by decide), ax_u_ne (by decide)]
      rw [e6]; exact z
    refine r_Model_readTransition hgM rx1 rx2 ?_
    rw [← eT]
    refine ⟨hT4, fun V1 e1 => ⟨hT4, fun V2 e2 => ?_⟩⟩
    have e3 : V2 = M2 := by rw [e2, e1, eM2]
    rw [e3]
    refine s_see hgM2 mi2 ⟨fun q => ?_, fun q => ?_⟩
    · have e1 : st = 1 := by rw [est, if_pos (by rw [← se2]; exact q)]
      rw [e1] at key; exact key
    · have e1 : st = 0 := by rw [est, if_neg (by rw [← se2]; exact q)]
      rw [e1] at key; exact key
  rcases hX C3 M5 R5 (by rw [dp5]; rfl) with ⟨p, C4, M6, ia, ib, ok⟩ | ⟨C4, M6, ia, ib, no⟩ | ⟨p, C4, M6, ia, ib, hf, dg⟩
  · have R6 := ok.1
    obtain ⟨hgC4, hgM6⟩ := id R6.1
    have q4 := ok.2.2.2.1
    have q5 := R6.2.2.2.1
    have ok6 := ok.2.2.2.2.2.1
    have ok7 := ok.2.2.2.2.2.2.1
    have hat6 := R6.2.2.1.1
    have hsz6 := R6.2.1.2.2.1
    have rp : ax_rg p := ⟨by omega, by omega⟩
    have bk5 : (M5 222 72) = 0 := by rw [eM5]; exact ax_u_s _ _ _ _
    obtain ⟨C5, eC5⟩ : ∃ X : ax_V, X = ax_u (ax_u C4 571 T p) 600 10 0 := ⟨_, rfl⟩
    obtain ⟨M8, eM8⟩ : ∃ X : ax_V, X = ax_u (ax_u M6 222 71 0) 277 T p := ⟨_, rfl⟩
    have hgC5 : ax_g C5 := by rw [eC5]; exact ax_u_g (ax_u_g hgC4 rp) (by decide)
    have hgM8 : ax_g M8 := by rw [eM8]; exact ax_u_g (ax_u_g hgM6 (by decide)) rp
    have R8 : e_R C5 M8 := by
      have Rt : e_R (ax_u C4 600 10 0) (ax_u M6 222 71 0) := R6.turn (v := 0) (by omega) ⟨ax_u_g hgC4 (by decide), ax_u_g hgM6 (by decide)⟩ (fun c z => ax_u_ne z) (fun c z => ax_u_ne z) (fun j z => ax_u_k z) (fun j z _ => ax_u_k z) (ax_u_s _ _ _ _) (ax_u_s _ _ _ _) (Or.inl rfl) (by rw [ax_u_k (by decide)]; omega)
      refine Rt.tab ⟨hgC5, hgM8⟩ (fun c z => ?_) (fun c z => ?_) (fun j z => ?_) (fun j z => ?_)
      · rw [eC5, ax_u_ne (by omega), ax_u_ne (by omega), ax_u_ne (by omega)]
      · rw [eM8, ax_u_ne (by omega)]
      · rw [eC5]
        by_cases w : j = 10
        · rw [w, ax_u_s, ax_u_s]
        · rw [ax_u_k w, ax_u_k w, ax_u_ne (by decide)]
      · rw [eM8, ax_u_ne (by decide)]
    have hs8 := R8.see
    have hat8 := R8.2.2.1.1
    have at8 : M8 222 68 = (M6 222 68) := by rw [eM8, ax_u_ne (by decide), ax_u_k (by decide)]
    have sz8 : M8 222 3 = (M6 222 3) := by rw [eM8, ax_u_ne (by decide), ax_u_k (by decide)]
    have fC5 : f_fC C0 C5 := by rw [eC5]; exact ((fC3.tr ok.2.1.f).ua (by decide)).us (by decide)
    have fM8 : f_fM M0 M8 := by rw [eM8]; exact ((fM5.tr ok.2.2.1.f).us (by decide)).ua (by decide)
    have hcl2 : ∀ (Φ Θ : ax_V → Prop), ax_I (az_W B (az_ER B r)) 420 q_Reader_look [.ref r] C5 (fun r7 V7 => ((r7 = 62 → k_Reader_readMove_105 B r 420 T V7 Φ Θ) ∧ (¬ r7 = 62 → ax_I (az_W B (az_ER B r)) 420 q_Reader_look [.ref r] V7 (fun r8 V8 => ((r8 = 126 → k_Reader_readMove_105 B r 420 T V8 Φ Θ) ∧ (¬ r8 = 126 → ax_N (az_W B (az_ER B r)) 420 q_Reader_refuse [.ref r] V8 (fun V9 => k_Reader_readMove_105 B r 420 T V9 Φ Θ) Θ))) Θ))) Θ → ax_N (az_W B (az_ER B r)) 421 q_Reader_readMove [.ref r] C Φ Θ := fun Φ Θ z => hcl Φ Θ (ia.k (by omega) (fun _ _ => ⟨hT3, fun V5 e5 V6 e6 => by rw [e6, e5, ← eC5]; exact z⟩))
    have hml2 : ∀ (Φ : Int → ax_V → Prop) (Θ : ax_V → Prop), ax_I ay_lay 421 q_Model_see [.ref 222] M8 (fun r9 V9 => ((r9 = 62 → ax_I ay_lay 421 q_Model_see [.ref 222] V9 (fun r10 V10 => ((r10 = 62 → k_Model_readTransition_132 421 (some (ax_i x1)) (some (ax_i x2)) T 1 T V10 Φ Θ) ∧ (¬ r10 = 62 → k_Model_readTransition_132 421 (some (ax_i x1)) (some (ax_i x2)) T 0 T V10 Φ Θ))) Θ) ∧ (¬ r9 = 62 → ax_I ay_lay 421 q_Model_see [.ref 222] V9 (fun r11 V11 => ((r11 = 126 → ax_I ay_lay 421 q_Model_see [.ref 222] V11 (fun r12 V12 => ((r12 = 62 → k_Model_readTransition_132 421 (some (ax_i x1)) (some (ax_i x2)) T 1 T V12 Φ Θ) ∧ (¬ r12 = 62 → k_Model_readTransition_132 421 (some (ax_i x1)) (some (ax_i x2)) T 0 T V12 Φ Θ))) Θ) ∧ (¬ r11 = 126 → Φ 0 V11))) Θ))) Θ → ax_I ay_lay 422 q_Model_readTransition [.ref 222, ax_i x1, ax_i x2] M Φ Θ := by
      intro Φ Θ z
      refine hml Φ Θ (ib.k (by omega) (fun _ _ => ⟨fun q => absurd q (by decide), fun _ V7 e7 => ⟨hT4, fun V8 e8 => ?_⟩⟩))
      have d1 : V7 222 74 = p := by rw [e7, ax_u_k (by decide)]; exact q4.1.symm
      rw [e8, d1, e7, ← eM8]; exact z
    have rs8 := R8.1.2
    by_cases w : m_see M8 = 62 ∨ m_see M8 = 126
    · have hlt8 := R8.lt (by rcases w with z | z <;> omega)
      obtain ⟨an, ean⟩ : ∃ an : Int, an = if m_see M8 = 62 then 1 else 0 := ⟨_, rfl⟩
      have han : an = 0 ∨ an = 1 := by rw [ean]; split; exact Or.inr rfl; exact Or.inl rfl
      have ran : ax_rg an := ⟨by omega, by omega⟩
      obtain ⟨C7, eC7⟩ : ∃ X : ax_V, X = c_on (ax_u C5 569 T an) 1 := ⟨_, rfl⟩
      obtain ⟨M10, eM10⟩ : ∃ X : ax_V, X = m_on (ax_u M8 274 T an) 1 := ⟨_, rfl⟩
      have R10 : e_R C7 M10 := by
        have Rt : e_R (ax_u C5 569 T an) (ax_u M8 274 T an) := R8.tab ⟨ax_u_g hgC5 ran, ax_u_g hgM8 ran⟩ (fun c z => ax_u_ne (by omega)) (fun c z => ax_u_ne (by omega)) (fun j _ => by rw [ax_u_ne (by decide)]) (fun j _ => by rw [ax_u_ne (by decide)])
        rw [eC7, eM10]
        exact Rt.on (by decide) (by rw [ax_u_ne (by decide)]; omega)
      obtain ⟨hgC7, hgM10⟩ := id R10.1
      have hs10 := R10.see
      have hat10 := R10.2.2.1.1
      have hsz10 := R10.2.1.2.2.1
      have ca5 : (ax_u C5 569 T an) 600 6 = (C5 600 6) := by rw [ax_u_ne (by decide)]
      have ma8 : (ax_u M8 274 T an) 222 68 = (M8 222 68) := by rw [ax_u_ne (by decide)]
      have at10 : M10 222 68 = (M6 222 68) + 1 := by rw [eM10]; unfold m_on; rw [ax_u_s, ma8]; omega
      have fC7 : f_fC C0 C7 := by rw [eC7]; exact (fC5.ua (by decide)).us (i := 6) (by decide)
      have fM10 : f_fM M0 M10 := by rw [eM10]; exact (fM8.ua (by decide)).us (i := 68) (by decide)
      have hcl3 : ∀ (Φ Θ : ax_V → Prop), ax_I (az_W B (az_ER B r)) 420 q_Reader_look [.ref r] C7 (fun r9 V9 => ax_I (az_W B (az_ER B r)) 420 q_Reader_isDigit [ax_i r9] V9 (fun r10 V10 => ((r10 = 0 → ax_N (az_W B (az_ER B r)) 420 q_Reader_refuse [.ref r] V10 (fun V11 => k_Reader_readMove_152 B r 420 T V11 Φ Θ) Θ) ∧ (¬ r10 = 0 → k_Reader_readMove_152 B r 420 T V10 Φ Θ))) (fun _ => False)) Θ → ax_N (az_W B (az_ER B r)) 421 q_Reader_readMove [.ref r] C Φ Θ := by
        intro Φ Θ z
        have key : k_Reader_readMove_105 B r 420 T C5 Φ Θ := by
          refine r_Reader_readMove_105 hgC5 ⟨by omega, by omega⟩ (t_look hgC5 R8.ci ⟨fun q => ⟨hT3, fun V7 e7 => ?_⟩, fun q => ⟨hT3, fun V7 e7 => ?_⟩⟩)
          · have e1 : an = 1 := by rw [ean, if_pos (by rw [← hs8]; exact q)]
            rw [← e1] at e7
            refine ⟨by rw [e7, ax_u_ne (by decide)]; exact ⟨by omega, by omega⟩, fun V8 e8 => ?_⟩
            have e9 : V8 = C7 := by rw [e8, e7, eC7]; rfl
            rw [e9]; exact z
          · have e1 : an = 0 := by rw [ean, if_neg (by rw [← hs8]; exact q)]
            rw [← e1] at e7
            refine ⟨by rw [e7, ax_u_ne (by decide)]; exact ⟨by omega, by omega⟩, fun V8 e8 => ?_⟩
            have e9 : V8 = C7 := by rw [e8, e7, eC7]; rfl
            rw [e9]; exact z
        refine hcl2 Φ Θ (t_look hgC5 R8.ci ⟨fun _ => key, fun q => t_look hgC5 R8.ci ⟨fun _ => key, fun q2 => ?_⟩⟩)
        rw [hs8] at q q2
        rcases w with w | w
        · exact absurd w q
        · exact absurd w q2
      have hml3 : ∀ (Φ : Int → ax_V → Prop) (Θ : ax_V → Prop), ax_I ay_lay 421 q_Model_isDigit [.ref 222] M10 (fun r3 V3 => ((r3 = 0 → Φ 0 V3) ∧ (¬ r3 = 0 → (0 ≤ T ∧ T < 351) ∧ (∀ V4, V4 = ax_u V3 278 T (V3 222 68) → ax_I ay_lay 421 q_Model_see [.ref 222] V4 (fun r5 V5 => (0 ≤ T ∧ T < 351) ∧ ax_rg (r5 - 48) ∧ (∀ V6, V6 = ax_u V5 275 T (r5 - 48) → ax_rg ((V6 222 68) + 1) ∧ (∀ V7, V7 = ax_u V6 222 68 ((V6 222 68) + 1) → ax_rg ((V7 222 60) + 1) ∧ (∀ V8, V8 = ax_u V7 222 60 ((V7 222 60) + 1) → ax_I ay_lay 421 q_Model_want [.ref 222, ax_i 59] V8 (fun r9 V9 => (r9 = 0 ∨ r9 = 1) ∧ Φ r9 V9) Θ)))) Θ)))) Θ → ax_I ay_lay 422 q_Model_readTransition [.ref 222, ax_i x1, ax_i x2] M Φ Θ := by
        intro Φ Θ z
        have key : k_Model_readTransition_132 421 (some (ax_i x1)) (some (ax_i x2)) T an T M8 Φ Θ := by
          refine r_Model_readTransition_132 hgM8 (ax_y_i _) (ax_y_i _) ⟨by omega, by omega⟩ ran ⟨by omega, by omega⟩ ⟨hT4, han, fun V1 e1 => ?_⟩
          refine ⟨by rw [e1, ax_u_ne (by decide)]; exact ⟨by omega, by omega⟩, fun V2 e2 => ?_⟩
          have e3 : V2 = M10 := by rw [e2, e1, eM10]; rfl
          rw [e3]; exact z
        refine hml2 Φ Θ (s_see hgM8 R8.mi ⟨fun q => s_see hgM8 R8.mi ⟨fun q2 => ?_, fun q2 => absurd q q2⟩, fun q => s_see hgM8 R8.mi ⟨fun q2 => s_see hgM8 R8.mi ⟨fun q3 => absurd q3 q, fun _ => ?_⟩, fun q2 => ?_⟩⟩)
        · have e1 : an = 1 := by rw [ean, if_pos q]
          rw [← e1]; exact key
        · have e1 : an = 0 := by rw [ean, if_neg q]
          rw [← e1]; exact key
        · rcases w with w | w
          · exact absurd w q
          · exact absurd w q2
      by_cases hdg : m_isD M10
      · have hlt10 := R10.lt (by have := hdg.1; omega)
        obtain ⟨tg, etg⟩ : ∃ tg : Int, tg = m_see M10 - 48 := ⟨_, rfl⟩
        have htg : 0 ≤ tg ∧ tg ≤ 9 := ⟨by have := hdg.1; omega, by have := hdg.2; omega⟩
        have rtg : ax_rg tg := ⟨by omega, by omega⟩
        obtain ⟨C8, eC8⟩ : ∃ X : ax_V, X = ax_u (ax_u C7 572 T tg) 573 T (M10 222 68) := ⟨_, rfl⟩
        obtain ⟨M12, eM12⟩ : ∃ X : ax_V, X = ax_u (ax_u M10 278 T (M10 222 68)) 275 T tg := ⟨_, rfl⟩
        have hgC8 : ax_g C8 := by rw [eC8]; exact ax_u_g (ax_u_g hgC7 rtg) ⟨by omega, by omega⟩
        have hgM12 : ax_g M12 := by rw [eM12]; exact ax_u_g (ax_u_g hgM10 ⟨by omega, by omega⟩) rtg
        have R12 : e_R C8 M12 := R10.tab ⟨hgC8, hgM12⟩ (fun c z => by rw [eC8, ax_u_ne (by omega), ax_u_ne (by omega)]) (fun c z => by rw [eM12, ax_u_ne (by omega), ax_u_ne (by omega)]) (fun j _ => by rw [eC8, ax_u_ne (by decide), ax_u_ne (by decide)]) (fun j _ => by rw [eM12, ax_u_ne (by decide), ax_u_ne (by decide)])
        have sc12 : ∀ j, M12 222 j = M10 222 j := fun j => by rw [eM12, ax_u_ne (by decide), ax_u_ne (by decide)]
        have cs8 : ∀ j, C8 600 j = C7 600 j := fun j => by rw [eC8, ax_u_ne (by decide), ax_u_ne (by decide)]
        have R13 : e_R (c_on C8 1) (m_on M12 1) := R12.on (by decide) (by rw [sc12, sc12]; omega)
        obtain ⟨M14, eM14⟩ : ∃ X : ax_V, X = ax_u (m_on M12 1) 222 60 (T + 1) := ⟨_, rfl⟩
        have hgM14 : ax_g M14 := by rw [eM14]; exact ax_u_g R13.1.2 ⟨by omega, by omega⟩
        have R14 : e_R (c_on C8 1) M14 := R13.tab ⟨R13.1.1, hgM14⟩ (fun _ _ => rfl) (fun c z => by rw [eM14, ax_u_ne (by omega)]) (fun _ _ => rfl) (fun j z => by rw [eM14, ax_u_k (by omega)])
        have hs14 := R14.see
        have hat14 := R14.2.2.1.1
        have hsz14 := R14.2.1.2.2.1
        have at14 : M14 222 68 = (M6 222 68) + 2 := by rw [eM14, ax_u_k (by decide)]; unfold m_on; rw [ax_u_s, sc12]; omega
        have fC9 : f_fC C0 (c_on C8 1) := by rw [eC8]; exact ((fC7.ua (by decide)).ua (by decide)).us (i := 6) (by decide)
        have fM14 : f_fM M0 M14 := by rw [eM14, eM12]; exact (((fM10.ua (by decide)).ua (by decide)).us (i := 68) (by decide)).us (by decide)
        have tr6 : M6 222 60 = T := by rw [ok.2.2.1.2.2 60 (by decide) (by decide) (by decide) (by decide) (by decide) (by decide), sc5 60 (by decide) (by decide) (by decide), eT]
        have tr10 : ∀ j, j ≠ 68 → j ≠ 71 → M10 222 j = M6 222 j := fun j a b => by rw [eM10]; unfold m_on; rw [ax_u_k a, ax_u_ne (by decide), eM8, ax_u_ne (by decide), ax_u_k b]
        have hcl4 : ∀ (Φ Θ : ax_V → Prop), ax_N (az_W B (az_ER B r)) (418 + 2) q_Reader_expect [.ref r, ax_i 59] (c_on C8 1) (fun V5 => Φ V5) Θ → ax_N (az_W B (az_ER B r)) 421 q_Reader_readMove [.ref r] C Φ Θ := by
          intro Φ Θ z
          refine hcl3 Φ Θ (t_look hgC7 R10.ci (t_isDigit hgC7 (c_see_rg hgC7) (ax_b_y (by rw [hs10]; exact hdg) (r_Reader_readMove_152 hgC7 ⟨by omega, by omega⟩ (t_look hgC7 R10.ci ?_)))))
          rw [hs10, ← etg]
          refine ⟨hT3, rtg, fun V2 e2 => ?_⟩
          have d1 : V2 600 6 = (M10 222 68) := by rw [e2, ax_u_ne (by decide)]; exact hat10.1
          rw [d1]
          refine ⟨hT3, fun V3 e3 => ?_⟩
          have e4 : V3 = C8 := by rw [e3, e2, eC8]
          rw [e4]
          exact ⟨by rw [cs8]; exact ⟨by omega, by omega⟩, fun V4 e5 => by rw [e5]; exact z⟩
        have hml4 : ∀ (Φ : Int → ax_V → Prop) (Θ : ax_V → Prop), ax_I ay_lay (419 + 2) q_Model_want [.ref 222, ax_i 59] M14 (fun r9 V9 => (r9 = 0 ∨ r9 = 1) ∧ Φ r9 V9) Θ → ax_I ay_lay 422 q_Model_readTransition [.ref 222, ax_i x1, ax_i x2] M Φ Θ := by
          intro Φ Θ z
          refine hml3 Φ Θ (s_isDigit hgM10 R10.mi (ax_b_y hdg ⟨hT4, fun V4 e4 => ?_⟩))
          have hgV4 : ax_g V4 := by rw [e4]; exact ax_u_g hgM10 ⟨by omega, by omega⟩
          have d1 : ∀ j, V4 222 j = M10 222 j := fun j => by rw [e4, ax_u_ne (by decide)]
          have d2 : m_in V4 := by
            have := R10.mi
            show 0 ≤ V4 222 68 ∧ V4 222 68 ≤ 1000000 ∧ V4 222 3 ≤ 700
            rw [d1, d1]; exact this
          have d3 : m_see V4 = m_see M10 := by unfold m_see; rw [d1, d1, e4, ax_u_ne (by decide)]
          refine s_see hgV4 d2 ?_
          rw [d3, ← etg]
          refine ⟨hT4, rtg, fun V6 e6 => ?_⟩
          have e7 : V6 = M12 := by rw [e6, e4, eM12]
          rw [e7]
          refine ⟨by rw [sc12]; exact ⟨by omega, by omega⟩, fun V7 e8 => ?_⟩
          have e9 : V7 = m_on M12 1 := e8
          have d4 : (m_on M12 1) 222 60 = T := by unfold m_on; rw [ax_u_k (by decide), sc12, tr10 60 (by decide) (by decide)]; exact tr6
          rw [e9, d4]
          exact ⟨⟨by omega, by omega⟩, fun V8 e10 => by rw [e10, ← eM14]; exact z⟩
        by_cases w9 : m_see M14 = 59
        · have hlt14 := R14.lt (by omega)
          obtain ⟨C10, eC10⟩ : ∃ X : ax_V, X = c_on (c_on C8 1) 1 := ⟨_, rfl⟩
          obtain ⟨M15, eM15⟩ : ∃ X : ax_V, X = m_on M14 1 := ⟨_, rfl⟩
          have R15 : e_R C10 M15 := by rw [eC10, eM15]; exact R14.on (by decide) (by omega)
          have at15 : M15 222 68 = (M6 222 68) + 3 := by rw [eM15]; unfold m_on; rw [ax_u_s]; omega
          have cX : ∀ c, c ≠ 600 → c ≠ 569 → c ≠ 571 → c ≠ 572 → c ≠ 573 → C10 c = C4 c := fun c a b x y z => by rw [eC10]; unfold c_on; rw [ax_u_ne a, ax_u_ne a, eC8, ax_u_ne z, ax_u_ne y, eC7]; unfold c_on; rw [ax_u_ne a, ax_u_ne b, eC5, ax_u_ne a, ax_u_ne x]
          have cXi : ∀ c i, c ≠ 600 → i ≠ T → C10 c i = C4 c i := fun c i a b => by rw [eC10]; unfold c_on; rw [ax_u_ne a, ax_u_ne a, eC8, ax_u_o (fun q => b q.2), ax_u_o (fun q => b q.2), eC7]; unfold c_on; rw [ax_u_ne a, ax_u_o (fun q => b q.2), eC5, ax_u_ne a, ax_u_o (fun q => b q.2)]
          have cS : ∀ j, j ≠ 6 → j ≠ 10 → C10 600 j = C4 600 j := fun j a b => by rw [eC10]; unfold c_on; rw [ax_u_k a, ax_u_k a, eC8, ax_u_ne (by decide), ax_u_ne (by decide), eC7]; unfold c_on; rw [ax_u_k a, ax_u_ne (by decide), eC5, ax_u_k b, ax_u_ne (by decide)]
          have mX : ∀ c, c ≠ 222 → c ≠ 274 → c ≠ 275 → c ≠ 277 → c ≠ 278 → M15 c = M6 c := fun c a b x y z => by rw [eM15]; unfold m_on; rw [ax_u_ne a, eM14, ax_u_ne a]; unfold m_on; rw [ax_u_ne a, eM12, ax_u_ne x, ax_u_ne z, eM10]; unfold m_on; rw [ax_u_ne a, ax_u_ne b, eM8, ax_u_ne y, ax_u_ne a]
          have mXi : ∀ c i, c ≠ 222 → i ≠ T → M15 c i = M6 c i := fun c i a b => by rw [eM15]; unfold m_on; rw [ax_u_ne a, eM14, ax_u_ne a]; unfold m_on; rw [ax_u_ne a, eM12, ax_u_o (fun q => b q.2), ax_u_o (fun q => b q.2), eM10]; unfold m_on; rw [ax_u_ne a, ax_u_o (fun q => b q.2), eM8, ax_u_o (fun q => b q.2), ax_u_ne a]
          have mS : ∀ j, j ≠ 68 → j ≠ 60 → j ≠ 71 → M15 222 j = M6 222 j := fun j a b c => by rw [eM15]; unfold m_on; rw [ax_u_k a, eM14, ax_u_k b]; unfold m_on; rw [ax_u_k a, sc12, tr10 j a c]
          have mSM : ∀ j, j ≠ 26 → j ≠ 60 → j ≠ 68 → j ≠ 69 → j ≠ 71 → j ≠ 72 → j ≠ 74 → j ≠ 75 → M15 222 j = M 222 j := fun j a b c d f g h i => by rw [mS j c b f, ok.2.2.1.2.2 j a c d g h i, sc5 j c f g]
          have m71 : M15 222 71 = 0 := by rw [eM15]; unfold m_on; rw [ax_u_k (by decide), eM14, ax_u_k (by decide)]; unfold m_on; rw [ax_u_k (by decide), sc12, eM10]; unfold m_on; rw [ax_u_k (by decide), ax_u_ne (by decide), eM8, ax_u_ne (by decide)]; exact ax_u_s _ _ _ _
          have m60 : M15 222 60 = T + 1 := by rw [eM15]; unfold m_on; rw [ax_u_k (by decide), eM14]; exact ax_u_s _ _ _ _
          have c10' : C10 600 10 = 0 := by rw [R15.2.2.1.2.2.2.1.1]; exact m71
          have cA1 : ∀ c, (c < 516 ∨ 531 < c) → c ≠ 600 → C4 c = C1 c := fun c a b => by rw [ok.2.1.1 c b a, cn3 c b]
          have cA : ∀ c, (c < 516 ∨ (531 < c ∧ c < 556) ∨ (556 < c ∧ c < 559) ∨ (559 < c ∧ c < 567)) → C10 c = C c := fun c z => by rw [cX c (by omega) (by omega) (by omega) (by omega) (by omega), cA1 c (by omega) (by omega), cn1 c (by omega) (by omega) (by omega) (by omega) (by omega)]
          have cP : ∀ c q, 517 ≤ c → c ≤ 531 → q < (M 222 26) → C10 c q = C c q := fun c q a b z => by rw [cX c (by omega) (by omega) (by omega) (by omega) (by omega), ok.2.1.2.1 c q a b (by rw [pt5]; exact z), cn3 c (by omega), cn1 c (by omega) (by omega) (by omega) (by omega) (by omega)]
          have c56 : ∀ j, C10 556 j = C1 556 j := fun j => by rw [cX 556 (by decide) (by decide) (by decide) (by decide) (by decide), cA1 556 (by decide) (by decide)]
          have c56a : ∀ j, j ≠ 2 → C1 556 j = C 556 j := fun j z => by rw [eC1', ax_u_ne (by decide), ax_u_ne (by decide), ax_u_ne (by decide), ax_u_ne (by decide), ax_u_k z]
          have c56b : C1 556 2 = T + 1 := by rw [eC1', ax_u_ne (by decide), ax_u_ne (by decide), ax_u_ne (by decide), ax_u_ne (by decide)]; exact ax_u_s _ _ _ _
          have c59 : ∀ i, C10 559 i = C1 559 i := fun i => by rw [cX 559 (by decide) (by decide) (by decide) (by decide) (by decide), cA1 559 (by decide) (by decide)]
          have c59a : ∀ i, i ≠ (M 222 55) → C1 559 i = C 559 i := fun i z => by rw [eC1', ax_u_ne (by decide), ax_u_ne (by decide), ax_u_ne (by decide), ax_u_k (by omega), ax_u_ne (by decide)]
          have c59b : C1 559 (M 222 55) = T + 1 := by rw [eC1', ax_u_ne (by decide), ax_u_ne (by decide), ax_u_ne (by decide), ← hx1]; exact ax_u_s _ _ _ _
          have mP : ∀ c q, 241 ≤ c → c ≤ 257 → q < (M 222 26) → M15 c q = M c q := fun c q a b z => by rw [mX c (by omega) (by omega) (by omega) (by omega) (by omega), ok.2.2.1.2.1 c q a b (by rw [pt5]; exact z), mn5 c (by omega), mn4 c (by omega) (by omega) (by omega) (by omega) (by omega)]
          have mA : ∀ c, (c < 241 ∨ (257 < c ∧ c < 271) ∨ 278 < c) → c ≠ 222 → M15 c = M c := fun c a b => by rw [mX c b (by omega) (by omega) (by omega) (by omega), ok.2.2.1.1 c b (by omega), mn5 c b, mn4 c (by omega) (by omega) (by omega) (by omega) b]
          have pr15 : M15 222 26 = p + 1 := by rw [mS 26 (by decide) (by decide) (by decide)]; omega
          have nd15 : M15 222 10 = (M 222 10) := mSM 10 (by decide) (by decide) (by decide) (by decide) (by decide) (by decide) (by decide) (by decide)
          have fx : f_x C10 M15 (M 222 26) p (M 222 10) (C 600 9) 1 0 := by
            have k := ok.x (tr := 1) R5 dl3 (Or.inl tr5.symm)
            rw [pt5, nd5, st3] at k
            obtain ⟨k1, k2, k3⟩ := k
            have k1p := k1.2.2
            have mk : ∀ c q, 241 ≤ c → c ≤ 257 → M15 c q = M6 c q := fun c q a b => by rw [mX c (by omega) (by omega) (by omega) (by omega) (by omega)]
            have ck : ∀ c, 517 ≤ c → c ≤ 531 → C10 c = C4 c := fun c a b => cX c (by omega) (by omega) (by omega) (by omega) (by omega)
            have ek : ∀ q x, e_kid M15 q x ↔ e_kid M6 q x := by
              intro q x
              have ea : ∀ k, e_arg M15 q k = e_arg M6 q k := by
                intro k
                induction k with
                | zero => exact mk 245 q (by decide) (by decide)
                | succ k ih =>
                  show (if e_arg M15 q k = -1 then -1 else M15 252 (e_arg M15 q k)) = (if e_arg M6 q k = -1 then -1 else M6 252 (e_arg M6 q k))
                  rw [ih, mk 252 _ (by decide) (by decide)]
              unfold e_kid
              rw [mk 241 q (by decide) (by decide), mk 245 q (by decide) (by decide), mk 246 q (by decide) (by decide), mk 247 q (by decide) (by decide)]
              simp only [ea]
            refine ⟨⟨k1.1, k1.2.1, by rw [pr15]; omega⟩, ⟨by rw [ck 526 (by decide) (by decide)]; exact k2.1, by rw [ck 527 (by decide) (by decide)]; exact k2.2⟩, fun q a b => ?_⟩
            obtain ⟨t1, t2, t3, t4, t5⟩ := k3 q a b
            rw [mk 250 q (by decide) (by decide), mk 256 q (by decide) (by decide), mk 241 q (by decide) (by decide), ck 525 (by decide) (by decide), ck 527 (by decide) (by decide)]
            refine ⟨t1, t2, t3, fun x hx => t4 x ((ek q x).mp hx), fun z => ⟨(t5 z).1, ?_⟩⟩
            obtain ⟨w, y1, y2, y3⟩ := (t5 z).2
            exact ⟨w, y1, y2, (ek w q).mpr y3.1, fun v a' b' k' => y3.2 v a' b' ((ek v q).mp k')⟩
          have c1v : ∀ c, (c = 567 ∨ c = 568 ∨ c = 570) → C10 c = C1 c := fun c z => by rw [cX c (by omega) (by omega) (by omega) (by omega) (by omega), cA1 c (by omega) (by omega)]
          have m4v : ∀ c, (c = 271 ∨ c = 272 ∨ c = 273 ∨ c = 276) → M15 c = M4 c := fun c z => by rw [mX c (by omega) (by omega) (by omega) (by omega) (by omega), ok.2.2.1.1 c (by omega) (by omega), mn5 c (by omega)]
          have hB15 : f_B C10 M15 x1 := by
            refine hB.mv (p := p) (st := st) (an := an) (tg := tg) (pl := (M10 222 68)) hR hst h0 hx1 hcs cA ⟨?_, ?_, ?_⟩ ⟨fun i z => ?_, ?_⟩ (fun c i a b z => ?_) cP ⟨?_, ?_, ?_, ?_, ?_, ?_, ?_⟩ mA mP (fun c i a b z => ?_) ⟨?_, ?_, ?_, ?_, ?_, ?_, ?_, ?_⟩ ⟨?_, ?_, pr15, nd15, ?_, ?_⟩ (by omega) hst1 han htg ⟨by omega, by omega⟩ fx
            · rw [c56, c56a 0 (by decide)]
            · rw [c56, c56a 1 (by decide)]
            · rw [c56, c56b, eT]
            · rw [c59, c59a i z]
            · rw [c59, c59b, eT]
            · rw [cXi c i (by omega) (by omega), cA1 c (by omega) (by omega), eC1', ax_u_o (fun q => by omega), ax_u_o (fun q => by omega), ax_u_o (fun q => by omega), ax_u_ne (by omega), ax_u_ne (by omega)]
            · rw [← eT, c1v 567 (by decide), eC1', ax_u_ne (by decide), ax_u_ne (by decide)]; exact ax_u_s _ _ _ _
            · rw [← eT, c1v 568 (by decide), eC1', ax_u_ne (by decide)]; exact ax_u_s _ _ _ _
            · rw [← eT, eC10]; unfold c_on; rw [ax_u_ne (by decide), ax_u_ne (by decide), eC8, ax_u_ne (by decide), ax_u_ne (by decide), eC7]; unfold c_on; rw [ax_u_ne (by decide)]; exact ax_u_s _ _ _ _
            · rw [← eT, c1v 570 (by decide), eC1']; exact ax_u_s _ _ _ _
            · rw [← eT, eC10]; unfold c_on; rw [ax_u_ne (by decide), ax_u_ne (by decide), eC8, ax_u_ne (by decide), ax_u_ne (by decide), eC7]; unfold c_on; rw [ax_u_ne (by decide), ax_u_ne (by decide), eC5, ax_u_ne (by decide)]; exact ax_u_s _ _ _ _
            · rw [← eT, eC10]; unfold c_on; rw [ax_u_ne (by decide), ax_u_ne (by decide), eC8, ax_u_ne (by decide)]; exact ax_u_s _ _ _ _
            · rw [← eT, eC10]; unfold c_on; rw [ax_u_ne (by decide), ax_u_ne (by decide), eC8]; exact ax_u_s _ _ _ _
            · rw [mXi c i (by omega) (by omega), ok.2.2.1.1 c (by omega) (by omega), mn5 c (by omega), eM4, ax_u_o (fun q => by omega)]; unfold m_on; rw [ax_u_ne (by omega), ax_u_o (fun q => by omega), ax_u_o (fun q => by omega), ax_u_o (fun q => by omega)]
            · rw [← eT, m4v 271 (by decide), eM4, ax_u_ne (by decide)]; unfold m_on; rw [ax_u_ne (by decide), ax_u_ne (by decide), ax_u_ne (by decide)]; exact ax_u_s _ _ _ _
            · rw [← eT, m4v 272 (by decide), eM4, ax_u_ne (by decide)]; unfold m_on; rw [ax_u_ne (by decide), ax_u_ne (by decide)]; exact ax_u_s _ _ _ _
            · rw [← eT, m4v 273 (by decide), eM4, ax_u_ne (by decide)]; unfold m_on; rw [ax_u_ne (by decide)]; exact ax_u_s _ _ _ _
            · rw [← eT, eM15]; unfold m_on; rw [ax_u_ne (by decide), eM14, ax_u_ne (by decide)]; unfold m_on; rw [ax_u_ne (by decide), eM12, ax_u_ne (by decide), ax_u_ne (by decide), eM10]; unfold m_on; rw [ax_u_ne (by decide)]; exact ax_u_s _ _ _ _
            · rw [← eT, eM15]; unfold m_on; rw [ax_u_ne (by decide), eM14, ax_u_ne (by decide)]; unfold m_on; rw [ax_u_ne (by decide), eM12]; exact ax_u_s _ _ _ _
            · rw [← eT, m4v 276 (by decide), eM4]; exact ax_u_s _ _ _ _
            · rw [← eT, eM15]; unfold m_on; rw [ax_u_ne (by decide), eM14, ax_u_ne (by decide)]; unfold m_on; rw [ax_u_ne (by decide), eM12, ax_u_ne (by decide), ax_u_ne (by decide), eM10]; unfold m_on; rw [ax_u_ne (by decide), ax_u_ne (by decide), eM8]; exact ax_u_s _ _ _ _
            · rw [← eT, eM15]; unfold m_on; rw [ax_u_ne (by decide), eM14, ax_u_ne (by decide)]; unfold m_on; rw [ax_u_ne (by decide), eM12, ax_u_ne (by decide)]; exact ax_u_s _ _ _ _
            · exact mSM 44 (by decide) (by decide) (by decide) (by decide) (by decide) (by decide) (by decide) (by decide)
            · exact mSM 52 (by decide) (by decide) (by decide) (by decide) (by decide) (by decide) (by decide) (by decide)
            · exact mSM 55 (by decide) (by decide) (by decide) (by decide) (by decide) (by decide) (by decide) (by decide)
            · rw [← eT]; exact m60
          have dp15 : M15 222 69 = 0 := by rw [mS 69 (by decide) (by decide) (by decide)]; omega
          have S15 := R15.2.2.1
          have S0 := hR.2.2.1
          have S15b := S15.2.2.2.2.1
          have S15d := S15.2.2.2.2.2.2
          have bk15 : M15 222 72 = 0 := by omega
          have bk0 : M 222 72 = 0 := by omega
          have dl10 : C10 600 13 = C 600 13 := by omega
          have cSM : ∀ j, j ≠ 6 → C10 600 j = C 600 j := fun j a => by
            by_cases z0 : j = 10
            · rw [z0, c10', im0]
            · by_cases z1 : j = 11
              · rw [z1, S15.2.2.1.1, S0.2.2.1.1]; omega
              · by_cases z2 : j = 12
                · rw [z2, S15.2.2.2.2.1.1, S0.2.2.2.2.1.1, bk15, bk0]
                · by_cases z3 : j = 13
                  · rw [z3]; exact dl10
                  · rw [cS j a z0, ok.2.1.2.2 j a z1 z2 z3, cs3 j a z0]
          refine f_go.ok (C' := C10) (M' := M15) (fun Φ Θ z => hcl4 Φ Θ (t_expect R14.1.1 (by decide) R14.ci (fun _ => by rw [← eC10]; exact z) (fun q => absurd (hs14.trans w9) q))) (fun Φ Θ z => hml4 Φ Θ (s_want R14.1.2 (by decide) R14.mi (fun _ => ⟨Or.inr rfl, by rw [← eM15]; exact z⟩) (fun q => absurd w9 q))) ⟨⟨R15, ⟨by rw [eC10]; exact fC9.us (i := 6) (by decide), by rw [eM15]; exact fM14.us (i := 68) (by decide)⟩, ?_, hB15, ⟨dp15, m71, by rw [mSM 55 (by decide) (by decide) (by decide) (by decide) (by decide) (by decide) (by decide) (by decide)]; exact hu⟩, ?_⟩, by omega, ⟨⟨cA, ⟨by rw [c56, c56a 0 (by decide)], by rw [c56, c56a 1 (by decide)]⟩, fun i z => by rw [c59, c59a i z], cSM⟩, mA, fun j a b c d f => ?_⟩, by rw [pr15, mSM 44 (by decide) (by decide) (by decide) (by decide) (by decide) (by decide) (by decide) (by decide)]; omega⟩
          · rw [nd15]
            exact hLL.keep (fun c z => cA c (by omega)) (fun c z => mA c (by omega) (by omega)) (cSM 7 (by decide)) (mSM 73 (by decide) (by decide) (by decide) (by decide) (by decide) (by decide) (by decide) (by decide)) (mSM 77 (by decide) (by decide) (by decide) (by decide) (by decide) (by decide) (by decide) (by decide)) (by omega)
          · rw [cSM 9 (by decide), pr15]
            intro z q p' a b c d
            have hs : ∀ q, (M 222 26) ≤ q → q ≤ p → C10 525 q = (C 600 9) := fun q a b => (fx.2.2 q a b).1.2.1
            rcases Int.lt_or_le p' (M 222 26) with y | y
            · rw [cP 525 p' (by decide) (by decide) y]
              rw [cP 525 q (by decide) (by decide) (by omega)] at d
              exact hcs z q p' a b y d
            · exact hs p' y (by omega)
          · by_cases z1 : j = 69
            · rw [z1, dp15]; omega
            · by_cases z2 : j = 72
              · rw [z2, bk15, bk0]
              · by_cases z3 : j = 71
                · rw [z3, m71]; omega
                · exact mSM j a b c z1 z3 z2 d f
        · exact f_go.stop (C' := c_on C8 1) (M' := M14) (fun Φ Θ z => hcl4 Φ Θ (t_expect R14.1.1 (by decide) R14.ci (fun q => absurd (hs14.symm.trans q) w9) (fun _ => z))) (fun Φ Θ z => hml4 Φ Θ (s_want R14.1.2 (by decide) R14.mi (fun q => absurd q w9) (fun _ => ⟨Or.inl rfl, z⟩))) ⟨R14.1, hat14.1, fC9, fM14⟩
      · exact f_go.stop (C' := C7) (M' := M10) (fun Φ Θ z => hcl3 Φ Θ (t_look hgC7 R10.ci (t_isDigit hgC7 (c_see_rg hgC7) (ax_b_n (by rw [hs10]; exact hdg) (t_refuse hgC7 z))))) (fun Φ Θ z => hml3 Φ Θ (s_isDigit hgM10 R10.mi (ax_b_n hdg z))) ⟨R10.1, hat10.1, fC7, fM10⟩
    · have w1 : ¬ m_see M8 = 62 := fun q => w (Or.inl q)
      have w2 : ¬ m_see M8 = 126 := fun q => w (Or.inr q)
      exact f_go.stop (C' := C5) (M' := M8) (fun Φ Θ z => hcl2 Φ Θ (t_look hgC5 R8.ci ⟨fun q => absurd (hs8.symm.trans q) w1, fun _ => t_look hgC5 R8.ci ⟨fun q => absurd (hs8.symm.trans q) w2, fun _ => t_refuse hgC5 z⟩⟩)) (fun Φ Θ z => hml2 Φ Θ (s_see hgM8 R8.mi ⟨fun q => absurd q w1, fun _ => s_see hgM8 R8.mi ⟨fun q => absurd q w2, fun _ => z⟩⟩)) ⟨R8.1, hat8.1, fC5, fM8⟩
  · exact f_go.stop (C' := C4) (M' := M6) (fun Φ Θ z => hcl Φ Θ (ia.kI (by omega) (fun _ => z))) (fun Φ Θ z => hml Φ Θ (ib.k (by omega) (fun _ _ => ⟨fun _ => z, fun q => absurd rfl q⟩))) ⟨no.1, no.2.1, fC3.tr no.2.2.1.f, fM5.tr no.2.2.2.f⟩
  · obtain ⟨⟨hg4, f1, f2, f3⟩, f4, f5, f6⟩ := id hf
    have ci4 := e_half.ci R5 hf
    have rp : ax_rg p := ⟨by omega, by omega⟩
    have se4 : ¬ c_see C4 = 62 ∧ ¬ c_see C4 = 126 := by
      rcases dg with z | z
      · have z' : 48 ≤ c_see C4 ∧ c_see C4 ≤ 57 := z
        exact ⟨by omega, by omega⟩
      · exact ⟨by omega, by omega⟩
    obtain ⟨C5, eC5⟩ : ∃ X : ax_V, X = ax_u (ax_u C4 571 T p) 600 10 0 := ⟨_, rfl⟩
    have hgC5 : ax_g C5 := by rw [eC5]; exact ax_u_g (ax_u_g hg4.1 rp) (by decide)
    have cs5 : ∀ j, j ≠ 10 → C5 600 j = C4 600 j := fun j z => by rw [eC5, ax_u_k z, ax_u_ne (by decide)]
    have c51 : C5 1 = C4 1 := by rw [eC5, ax_u_ne (by decide), ax_u_ne (by decide)]
    have ci5 : c_in C5 := by
      show 0 ≤ C5 600 6 ∧ C5 600 6 ≤ 1000000 ∧ C5 600 1 ≤ 700 ∧ ∀ i, 0 ≤ i → i < C5 600 1 → 0 ≤ C5 1 i ∧ C5 1 i < 65536
      rw [cs5 6 (by decide), cs5 1 (by decide), c51]; exact ci4
    have se5 : c_see C5 = c_see C4 := by unfold c_see; rw [cs5 6 (by decide), cs5 1 (by decide), c51]
    refine f_go.stop (C' := C5) (M' := M6) (fun Φ Θ z => hcl Φ Θ (ia.k (by omega) (fun _ _ => ⟨hT3, fun V5 e5 V6 e6 => ?_⟩))) (fun Φ Θ z => hml Φ Θ (ib.k (by omega) (fun _ _ => ⟨fun _ => z, fun q => absurd rfl q⟩))) ⟨⟨hgC5, hg4.2⟩, by rw [cs5 6 (by decide)]; exact f1, ?_, fM5.tr f3.f⟩
    · rw [e6, e5, ← eC5]
      exact t_look hgC5 ci5 ⟨fun q => absurd (se5.symm.trans q) se4.1, fun _ => t_look hgC5 ci5 ⟨fun q => absurd (se5.symm.trans q) se4.2, fun _ => t_refuse hgC5 z⟩⟩
    · rw [eC5]; exact ((fC3.tr f2.f).ua (by decide)).us (by decide)
end MoveR
