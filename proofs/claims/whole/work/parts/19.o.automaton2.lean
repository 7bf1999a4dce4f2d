/-! AN AUTOMATON IS READ -/
def f_sa (C M C' M' : ax_V) : Prop := (∀ c, (c < 516 ∨ (531 < c ∧ c < 547)) → C' c = C c) ∧ (∀ c, (c < 241 ∨ 278 < c) → c ≠ 222 → M' c = M c) ∧ (M' 222 10) = (M 222 10) ∧ (M' 222 73) = (M 222 73)
theorem f_sa.rf (C M : ax_V) : f_sa C M C M := ⟨fun _ _ => rfl, fun _ _ _ => rfl, rfl, rfl⟩
theorem f_sa.tr {C M C1 M1 C2 M2 : ax_V} (h : f_sa C M C1 M1) (k : f_sa C1 M1 C2 M2) : f_sa C M C2 M2 := ⟨fun c z => (k.1 c z).trans (h.1 c z), fun c z w => (k.2.1 c z w).trans (h.2.1 c z w), k.2.2.1.trans h.2.2.1, k.2.2.2.trans h.2.2.2⟩
theorem f_sq.sa {C M C' M' : ax_V} (h : f_sq C M C' M') : f_sa C M C' M' := ⟨fun c z => h.1.1 c (by omega) (by omega), fun c z w => h.2.1 c (by omega) w, h.2.2 10 (by decide) (by decide) (by decide) (by decide) (by decide) (by decide), h.2.2 73 (by decide) (by decide) (by decide) (by decide) (by decide) (by decide)⟩
theorem f_sm.sa {C M C' M' : ax_V} (h : f_sm C M C' M') : f_sa C M C' M' := ⟨fun c z => h.1.1 c (by omega), fun c z w => h.2.1 c (by omega) w, h.2.2 10 (by decide) (by decide) (by decide) (by decide) (by decide), h.2.2 73 (by decide) (by decide) (by decide) (by decide) (by decide)⟩
/-- within a state, the t-th of the automaton A -/
def f_S (C0 M0 Ca Ma C M : ax_V) (A t : Int) : Prop := f_I C0 M0 C M A ∧ f_st C M (C 600 9) A t (M 222 10) ∧ (A + 1 = (M 222 55) ∧ 0 ≤ A) ∧ (M 269 A = t ∧ 0 ≤ t ∧ t < 6) ∧ (M 222 70) = 1 ∧ C 558 (A + 1) = C 558 A + t + 1 ∧ f_sa Ca Ma C M ∧ (Ma 222 68) < (M 222 68) ∧ (M 222 26) + (M 222 44) + (4 * A + 2 + 2 * t) ≤ (M 222 68)
/-- ahead of the t-th state -/
def f_T (C0 M0 Ca Ma C M : ax_V) (A t : Int) : Prop := f_I C0 M0 C (ax_u M 222 70 (if t = 0 then 0 else 1)) A ∧ (A + 1 = (M 222 55) ∧ 0 ≤ A ∧ M 267 A = (M 222 10)) ∧ (M 269 A = t ∧ 0 ≤ t ∧ t ≤ 6) ∧ (M 222 70) = 1 ∧ C 558 (A + 1) = C 558 A + t ∧ f_sa Ca Ma C M ∧ (Ma 222 68) < (M 222 68) ∧ 2 * (C 556 1) + 1 ≤ (M 222 68) ∧ (M 222 26) + (M 222 44) + (4 * A + 1 + 2 * t) ≤ (M 222 68)
theorem f_S.keep {C0 M0 Ca Ma C M C' M' : ax_V} {A t : Int} (h : f_S C0 M0 Ca Ma C M A t) (hI : f_I C0 M0 C' M' A) (k : f_sa C M C' M') (c1 : C' 556 0 = C 556 0) (c2 : C' 558 = C 558) (c3 : C' 600 9 = C 600 9) (m1 : M' 267 = M 267) (m2 : M' 269 = M 269) (m3 : ∀ j, (j = 10 ∨ j = 55 ∨ j = 70) → M' 222 j = M 222 j) (ha : (M 222 68) ≤ (M' 222 68)) (hJ : (M' 222 26) + (M' 222 44) - ((M 222 26) + (M 222 44)) ≤ (M' 222 68) - (M 222 68)) : f_S C0 M0 Ca Ma C' M' A t := by
  obtain ⟨h1, h2, h3, h4, h5, h6, h7, h8, h9⟩ := h
  unfold f_S f_st
  rw [c1, c2, c3, m1, m2, m3 10 (by decide), m3 55 (by decide), m3 70 (by decide)]
  exact ⟨hI, h2, h3, h4, h5, h6, h7.tr k, by omega, by omega⟩
section States
variable {B r : Nat} {C0 M0 Ca Ma : ax_V} {A t : Int} {y : Option Value}
set_option maxHeartbeats 1000000 in
theorem f_stE (hX : e_X B r 20) (hy : ax_y y) : ∀ (m : Nat) (C M : ax_V) (x : Int), f_S C0 M0 Ca Ma C M A t → 700 - (M 222 68) ≤ (m : Int) → 0 ≤ x → x ≤ (M 222 68) →
    f_go f_nv (fun Φ Θ => k_Reader_readAutomaton_100 B r 421 A t x C Φ Θ) (fun C' Φ Θ => k_Reader_readAutomaton_129 B r 421 A t 0 C' Φ Θ) (fun Φ Θ => k_Model_readAutomaton_85 422 A y M Φ Θ) (fun M' Φ Θ => k_Model_readAutomaton_108 422 A y M' Φ Θ) C0 M0 (fun C' M' => f_S C0 M0 Ca Ma C' M' A t) := by
  intro m
  induction m with
  | zero =>
    intro C M x h hm x0 x1
    have hR := h.1.1
    obtain ⟨hgC, hgM⟩ := id hR.1
    have hat := hR.2.2.1.1
    have hsz := hR.2.1.2.2.1
    have hct := h.1.2.2.2.1.1.2.2.1
    have h3 := h.2.2.1
    have h4 := h.2.2.2.1
    have rA : ax_rg A := ⟨by omega, by omega⟩
    have rt : ax_rg t := ⟨by omega, by omega⟩
    have hs := hR.see
    have es : m_see M = 0 := if_neg (by omega)
    exact f_go.ok (C' := C) (M' := M) (fun Φ Θ z => r_Reader_readAutomaton_100 hgC rA rt ⟨by omega, by omega⟩ ⟨fun _ => z, fun _ => t_look hgC hR.ci (t_isLetter hgC (c_see_rg hgC) (ax_b_n (by omega) z))⟩) (fun Φ Θ z => r_Model_readAutomaton_85 hgM rA hy (s_isLetter hgM hR.mi (ax_b_n (by omega) z))) h
  | succ m ih =>
    intro C M x h hm x0 x1
    have hR := h.1.1
    obtain ⟨hgC, hgM⟩ := id hR.1
    have hat := hR.2.2.1.1
    have hsz := hR.2.1.2.2.1
    have hct := h.1.2.2.2.1.1.2.2.1
    have h3 := h.2.2.1
    have h4 := h.2.2.2.1
    have rA : ax_rg A := ⟨by omega, by omega⟩
    have rt : ax_rg t := ⟨by omega, by omega⟩
    have hs := hR.see
    by_cases w : m_isL M
    · have hlt := hR.lt (by have := w.1; omega)
      have k1 := ((f_equation hX h.1 h.2.1 rA rt hlt).cont (L := fun V1 Φ Θ => k_Reader_readAutomaton_100 B r 421 A t (x + 1) V1 Φ Θ)).contM (L := fun V1 Φ Θ => k_Model_readAutomaton_85 422 A y V1 Φ Θ)
      refine (k1.bind0 (fun C1 M1 q1 => ?_)).of (fun Φ Θ z => r_Reader_readAutomaton_100 hgC rA rt ⟨by omega, by omega⟩ ⟨fun _ => by omega, fun _ => t_look hgC hR.ci (t_isLetter hgC (c_see_rg hgC) (ax_b_y (by rw [hs]; exact w) z))⟩) (fun Φ Θ z => r_Model_readAutomaton_85 hgM rA hy (s_isLetter hgM hR.mi (ax_b_y w ⟨⟨by omega, by omega⟩, by rw [h4.1]; exact z⟩)))
      obtain ⟨i1, a1, s1, j1⟩ := q1
      have hat1 := i1.1.2.2.1.1
      refine ih C1 M1 (x + 1) (h.keep i1 s1.sa ?_ (s1.1.1 558 (by decide) (by decide)) (s1.1.2 9 (by decide)) (s1.2.1 267 (by decide) (by decide)) (s1.2.1 269 (by decide) (by decide)) (fun j z => s1.2.2 j (by omega) (by omega) (by omega) (by omega) (by omega) (by omega)) (by omega) j1) (by omega) (by omega) (by omega)
      rw [s1.1.1 556 (by decide) (by decide)]
    · exact f_go.ok (C' := C) (M' := M) (fun Φ Θ z => r_Reader_readAutomaton_100 hgC rA rt ⟨by omega, by omega⟩ ⟨fun _ => z, fun _ => t_look hgC hR.ci (t_isLetter hgC (c_see_rg hgC) (ax_b_n (by rw [hs]; exact w) z))⟩) (fun Φ Θ z => r_Model_readAutomaton_85 hgM rA hy (s_isLetter hgM hR.mi (ax_b_n w z))) h
theorem f_I.on {C M : ax_V} {u : Int} (h : f_I C0 M0 C M u) (hlt : (M 222 68) < (M 222 3)) : f_I C0 M0 (c_on C 1) (m_on M 1) u := by
  obtain ⟨hR, ⟨fC, fM⟩, hLL, hB, hd, hcs⟩ := h
  have hat := hR.2.2.1.1
  have nC := e_nC.on C 1
  have nM := e_nM.on M 1
  have at' : (m_on M 1) 222 68 = (M 222 68) + 1 := ax_u_s _ _ _ _
  have sc : ∀ j, j ≠ 68 → (m_on M 1) 222 j = M 222 j := fun j z => ax_u_k z
  have cc : ∀ j, j ≠ 6 → (c_on C 1) 600 j = C 600 j := fun j z => ax_u_k z
  refine ⟨hR.on (by decide) (by omega), ⟨fC.us (by decide), fM.us (by decide)⟩, ?_, hB.ac (fun c z => nC.1 c z) (fun c z _ => nM.1 c z) (fun i _ => by rw [nM.1 269 (by decide)]) (fun j z => sc j (by omega)) (by omega), ?_, ?_⟩
  · rw [sc 10 (by decide)]
    exact hLL.keep (fun c _ => nC.1 c (by omega)) (fun c _ => nM.1 c (by omega)) (nC.2 7 (by decide)) (nM.2 73 (by decide) (by decide)) (nM.2 77 (by decide) (by decide)) (by omega)
  · rw [sc 69 (by decide), sc 71 (by decide), sc 55 (by decide)]; exact hd
  · rw [cc 9 (by decide), sc 26 (by decide), nC.1 525 (by decide)]; exact hcs
set_option maxHeartbeats 2000000 in
theorem f_stM (hX : e_X B r 20) (hy : ax_y y) : ∀ (m : Nat) (C M : ax_V) (x : Int), f_S C0 M0 Ca Ma C M A t → 700 - (M 222 68) ≤ (m : Int) → 0 ≤ x → x ≤ (M 222 68) →
    f_go f_nv (fun Φ Θ => k_Reader_readAutomaton_129 B r 421 A t x C Φ Θ) (fun C' Φ Θ => ∀ y', ax_y y' → k_Reader_readAutomaton_41 B r 421 A (t + 1) y' C' Φ Θ) (fun Φ Θ => k_Model_readAutomaton_108 422 A y M Φ Θ) (fun M' Φ Θ => k_Model_readAutomaton_59 422 A (if m_see M' = 123 then 1 else 0) M' Φ Θ) C0 M0 (fun C' M' => f_T C0 M0 Ca Ma C' M' A (t + 1) ∧ 0 ≤ (C' 600 9)) := by
  intro m
  induction m with
  | zero =>
    intro C M x h hm x0 x1
    have hR := h.1.1
    obtain ⟨hgC, hgM⟩ := id hR.1
    have hat := hR.2.2.1.1
    have hsz := hR.2.1.2.2.1
    have hct := h.1.2.2.2.1.1.2.2.1
    have h3 := h.2.2.1
    have h4 := h.2.2.2.1
    have rA : ax_rg A := ⟨by omega, by omega⟩
    have rt : ax_rg t := ⟨by omega, by omega⟩
    have hs := hR.see
    have es : m_see M = 0 := if_neg (by omega)
    refine f_go.stop (C' := C) (M' := M) (fun Φ Θ z => r_Reader_readAutomaton_129 hgC rA rt ⟨by omega, by omega⟩ ⟨fun _ => t_expect hgC (by decide) hR.ci (fun q => by omega) (fun _ => z), fun _ => t_look hgC hR.ci ⟨fun q => by omega, fun _ => t_look hgC hR.ci ⟨fun q => by omega, fun _ => t_expect hgC (by decide) hR.ci (fun q => by omega) (fun _ => z)⟩⟩⟩) (fun Φ Θ z => r_Model_readAutomaton_108 hgM rA hy (s_see hgM hR.mi ⟨fun q => by omega, fun _ => s_see hgM hR.mi ⟨fun q => by omega, fun _ => s_want hgM (by decide) hR.mi (fun q => by omega) (fun _ => ⟨fun _ => z, fun q => absurd rfl q⟩)⟩⟩)) ⟨hR.1, hat.1, h.1.2.1⟩
  | succ m ih =>
    intro C M x h hm x0 x1
    have hR := h.1.1
    obtain ⟨hgC, hgM⟩ := id hR.1
    have hat := hR.2.2.1.1
    have hsz := hR.2.1.2.2.1
    have hct := h.1.2.2.2.1.1.2.2.1
    have h3 := h.2.2.1
    have h4 := h.2.2.2.1
    have rA : ax_rg A := ⟨by omega, by omega⟩
    have rt : ax_rg t := ⟨by omega, by omega⟩
    have hs := hR.see
    by_cases w : m_see M = 33 ∨ m_see M = 63
    · have hlt := hR.lt (by omega)
      have k1 := ((f_move hX h.1 h.2.1 h3.2 h3.1 rt hlt).cont (L := fun V1 Φ Θ => k_Reader_readAutomaton_129 B r 421 A t (x + 1) V1 Φ Θ)).contM (L := fun V1 Φ Θ => k_Model_readAutomaton_108 422 A y V1 Φ Θ)
      refine (k1.bind0 (fun C1 M1 q1 => ?_)).of (fun Φ Θ z => r_Reader_readAutomaton_129 hgC rA rt ⟨by omega, by omega⟩ ⟨fun _ => by omega, fun _ => t_look hgC hR.ci ⟨fun _ => z, fun q => t_look hgC hR.ci ⟨fun _ => z, fun q2 => by omega⟩⟩⟩) (fun Φ Θ z => r_Model_readAutomaton_108 hgM rA hy (s_see hgM hR.mi ⟨fun _ => ⟨⟨by omega, by omega⟩, by rw [h4.1]; exact z⟩, fun q => s_see hgM hR.mi ⟨fun _ => ⟨⟨by omega, by omega⟩, by rw [h4.1]; exact z⟩, fun q2 => by omega⟩⟩))
      obtain ⟨i1, a1, s1, j1⟩ := q1
      have hat1 := i1.1.2.2.1.1
      exact ih C1 M1 (x + 1) (h.keep i1 s1.sa s1.1.2.1.1 (s1.1.1 558 (by decide)) (s1.1.2.2.2 9 (by decide)) (s1.2.1 267 (by decide) (by decide)) (s1.2.1 269 (by decide) (by decide)) (fun j z => s1.2.2 j (by omega) (by omega) (by omega) (by omega) (by omega)) (by omega) j1) (by omega) (by omega) (by omega)
    · have k1 := f_expect (B := B) (r := r) (dc := 419) (dm := 420) (v := 125) (Kc := fun V1 Φ Θ => k_Reader_readAutomaton_41 B r 421 A (t + 1) (some (ax_i x)) V1 Φ Θ) (Km := fun V4 Φ Θ => (0 ≤ A ∧ A < 351) ∧ (0 ≤ A ∧ A < 351) ∧ ax_rg ((V4 269 A) + 1) ∧ (∀ V5, V5 = ax_u V4 269 A ((V4 269 A) + 1) → ax_I ay_lay 422 q_Model_see [.ref 222] V5 (fun r6 V6 => ((r6 = 123 → k_Model_readAutomaton_59 422 A 1 V6 Φ Θ) ∧ (¬ r6 = 123 → k_Model_readAutomaton_59 422 A 0 V6 Φ Θ))) Θ)) hR h.1.2.1.1 h.1.2.1.2 (by decide)
      refine (k1.bind0 (fun C1 M1 q1 => ?_)).of (fun Φ Θ z => r_Reader_readAutomaton_129 hgC rA rt ⟨by omega, by omega⟩ ⟨fun _ => z, fun _ => t_look hgC hR.ci ⟨fun q => by omega, fun _ => t_look hgC hR.ci ⟨fun q => by omega, fun _ => z⟩⟩⟩) (fun Φ Θ z => r_Model_readAutomaton_108 hgM rA hy (s_see hgM hR.mi ⟨fun q => by omega, fun _ => s_see hgM hR.mi ⟨fun q => by omega, fun _ => z⟩⟩))
      obtain ⟨⟨eC1, eM1⟩, ⟨see1, lt1⟩, R1, fC1, fM1⟩ := q1
      have i1 := h.1.on lt1
      rw [← eC1, ← eM1] at i1
      obtain ⟨hgC1, hgM1⟩ := id R1.1
      have hat1 := R1.2.2.1.1
      have hsz1 := R1.2.1.2.2.1
      have nC1 : e_nC C C1 := by rw [eC1]; exact e_nC.on C 1
      have nM1 : e_nM M M1 := by rw [eM1]; exact e_nM.on M 1
      have at1 : (M1 222 68) = (M 222 68) + 1 := by rw [eM1]; exact ax_u_s _ _ _ _
      have au1 : M1 269 A = t := by rw [nM1.1 269 (by decide)]; exact h4.1
      have sc1 : ∀ j, j ≠ 68 → M1 222 j = M 222 j := fun j z => by rw [eM1]; exact ax_u_k z
      obtain ⟨M2, eM2⟩ : ∃ X : ax_V, X = ax_u M1 269 A (t + 1) := ⟨_, rfl⟩
      have M2_g : ax_g M2 := by rw [eM2]; exact (ax_u_g hgM1 ⟨by omega, by omega⟩)
      have M2_n : ∀ c, c ≠ 269 → M2 c = M1 c := fun c a269 => by rw [eM2, ax_u_ne a269]
      have M2_v0 : M2 269 A = (t + 1) := by rw [eM2]; exact ax_u_s _ _ _ _
      have M2_o269 : ∀ i, i ≠ A → M2 269 i = M1 269 i := fun i b0 => by rw [eM2, ax_u_k b0]
      have sc2 : ∀ j, M2 222 j = M1 222 j := fun j => by rw [M2_n 222 (by decide)]
      have i2 : f_I C0 M0 C1 M2 A := by
        obtain ⟨a1, ⟨a2, a3⟩, a4, a5, a6, a7⟩ := i1
        refine ⟨a1.tab ⟨hgC1, M2_g⟩ (fun _ _ => rfl) (fun c z => M2_n c (by omega)) (fun _ _ => rfl) (fun j _ => sc2 j), ⟨a2, by rw [eM2]; exact a3.ua (by decide)⟩, ?_, a5.ac (fun _ _ => rfl) (fun c z w => M2_n c w) (fun i z => M2_o269 i z) (fun j _ => sc2 j) (by rw [sc2]; exact Int.le_refl _), by rw [sc2, sc2, sc2]; exact a6, by rw [sc2]; exact a7⟩
        rw [sc2]
        exact a4.keep (fun _ _ => rfl) (fun c z => M2_n c (by omega)) rfl (sc2 _) (sc2 _) (by rw [sc2]; exact Int.le_refl _)
      have ia2 : M2 222 70 = 1 := by rw [sc2, sc1 70 (by decide)]; exact h.2.2.2.2.1
      have ei : ax_u M2 222 70 (if t + 1 = 0 then 0 else 1) = M2 := by rw [if_neg (by omega), ← ia2]; exact ax_u_id _ _ _
      have hst := h.2.1
      have st0 : 0 ≤ (C 600 9) ∧ M 267 A = (M 222 10) := by
        rcases hst with z | ⟨z1, z2, z3, z4, z5, z6, z7⟩
        · omega
        · exact ⟨by omega, z7⟩
      refine f_go.ok (C' := C1) (M' := M2) (fun Φ Θ z => z _ (ax_y_i x)) (fun Φ Θ z => ⟨⟨by omega, by omega⟩, ⟨by omega, by omega⟩, by rw [au1]; exact ⟨by omega, by omega⟩, fun V5 e5 => ?_⟩) ⟨⟨by rw [ei]; exact i2, ?_, ?_, ia2, ?_, ?_, ?_⟩, ?_⟩
      · rw [au1, ← eM2] at e5
        rw [e5]
        refine s_see M2_g i2.1.mi ⟨fun q => ?_, fun q => ?_⟩
        · rw [if_pos q] at z; exact z
        · rw [if_neg q] at z; exact z
      · rw [sc2, sc1 55 (by decide), sc2, sc1 10 (by decide), M2_n 267 (by decide), nM1.1 267 (by decide)]; exact ⟨h3.1, h3.2, st0.2⟩
      · exact ⟨M2_v0, by omega, by omega⟩
      · rw [nC1.1 558 (by decide)]; have := h.2.2.2.2.2.1; omega
      · exact h.2.2.2.2.2.2.1.tr ⟨fun c z => nC1.1 c (by omega), fun c z w => by rw [M2_n c (by omega), nM1.1 c w], by rw [sc2, sc1 10 (by decide)], by rw [sc2, sc1 73 (by decide)]⟩
      · rw [sc2, sc2, sc2, sc1 26 (by decide), sc1 44 (by decide), nC1.1 556 (by decide)]; have := h.2.2.2.2.2.2.2; have := h.1.2.2.2.1.1.2.2.2.1; exact ⟨by omega, by omega, by omega⟩
      · rw [nC1.2 9 (by decide)]; exact st0.1
set_option maxHeartbeats 2000000 in
/-- a state is begun -/
theorem f_T.begin {C M : ax_V} (h : f_T C0 M0 Ca Ma C M A t) (ht : t < 6) (hlt : (M 222 68) < (M 222 3)) {S : Int} (eS : S = (C 556 1)) : f_S C0 M0 Ca Ma (ax_u (c_as (c_on C 1) A) 600 9 S) (m_on M 1) A t ∧ (0 ≤ S ∧ S < 350) := by
  obtain ⟨hI, ⟨h1, h1b, h1c⟩, h2, h3, h4, h5, h6⟩ := h
  obtain ⟨Mb, eMb⟩ : ∃ X : ax_V, X = ax_u M 222 70 (if t = 0 then 0 else 1) := ⟨_, rfl⟩
  rw [← eMb] at hI
  have nb : ∀ c, c ≠ 222 → Mb c = M c := fun c z => by rw [eMb]; exact ax_u_ne z
  have sb : ∀ j, j ≠ 70 → Mb 222 j = M 222 j := fun j z => by rw [eMb]; exact ax_u_k z
  have i1 := hI.on (by rw [sb 68 (by decide), sb 3 (by decide)]; exact hlt)
  obtain ⟨hR, ⟨fC, fM⟩, hLL, hB, hd, hcs⟩ := i1
  obtain ⟨C1, eC1⟩ : ∃ X : ax_V, X = c_on C 1 := ⟨_, rfl⟩
  obtain ⟨M1, eM1⟩ : ∃ X : ax_V, X = m_on Mb 1 := ⟨_, rfl⟩
  obtain ⟨M2, eM2⟩ : ∃ X : ax_V, X = m_on M 1 := ⟨_, rfl⟩
  rw [← eC1, ← eM1] at hR hLL hB hcs
  rw [← eM1] at hd
  rw [← eC1] at fC
  rw [← eM1] at fM
  rw [← eC1, ← eM2]
  obtain ⟨hgC1, hgM1⟩ := id hR.1
  have nC1 : e_nC C C1 := by rw [eC1]; exact e_nC.on C 1
  have n2 : ∀ c, c ≠ 222 → M2 c = M1 c := fun c z => by rw [eM2, eM1, (e_nM.on M 1).1 c z, (e_nM.on Mb 1).1 c z, nb c z]
  have s2 : ∀ j, j ≠ 70 → M2 222 j = M1 222 j := fun j z => by
    rw [eM2, eM1]; unfold m_on
    by_cases w : j = 68
    · rw [w, ax_u_s, ax_u_s, sb 68 (by decide)]
    · rw [ax_u_k w, ax_u_k w, sb j z]
  have s1 : ∀ j, j ≠ 68 → j ≠ 70 → M1 222 j = M 222 j := fun j z w => by rw [eM1]; unfold m_on; rw [ax_u_k z, sb j w]
  have at1 : M1 222 68 = (M 222 68) + 1 := by rw [eM1]; unfold m_on; rw [ax_u_s, sb 68 (by decide)]
  have ia2 : M2 222 70 = 1 := by rw [eM2]; unfold m_on; rw [ax_u_k (by decide)]; exact h3
  have eS1 : S = (C1 556 1) := by rw [nC1.1 556 (by decide)]; exact eS
  have hct := hB.1
  have hat := hR.2.2.1.1
  have hsz := hR.2.1.2.2.1
  have hst0 := hct.2.2.2.1
  have hau : M1 222 55 = A + 1 := by rw [s1 55 (by decide) (by decide)]; omega
  have hcA := hct.2.2.1
  have hend : C1 558 (A + 1) = S := by
    rcases hct.2.2.2.2.2.2.1 with z | z
    · omega
    · rw [← hau, eS1]; exact z.1
  have h4' : S = C1 558 A + t := by rw [← hend, nC1.1 558 (by decide)]; exact h4
  have fa := hB.2.2.1 A h1b (by omega)
  have hS1 : 2 * (S + 1) ≤ (M1 222 68) := by
    have := h6.2.1
    omega
  have cD : c_as C1 A = ax_u (ax_u (ax_u (ax_u (ax_u (ax_u C1 556 1 (S + 1)) 558 (A + 1) (S + 1)) 563 S A) 564 S 0) 565 S 0) 566 S 0 := by unfold c_as; rw [← eS1]
  rw [cD]
  obtain ⟨C2, eC2⟩ : ∃ X : ax_V, X = ax_u (ax_u (ax_u (ax_u (ax_u (ax_u C1 556 1 (S + 1)) 558 (A + 1) (S + 1)) 563 S A) 564 S 0) 565 S 0) 566 S 0 := ⟨_, rfl⟩
  have C2_g : ax_g C2 := by rw [eC2]; exact (ax_u_g (ax_u_g (ax_u_g (ax_u_g (ax_u_g (ax_u_g hgC1 ⟨by omega, by omega⟩) ⟨by omega, by omega⟩) ⟨by omega, by omega⟩) (by decide)) (by decide)) (by decide))
  have C2_n : ∀ c, c ≠ 556 → c ≠ 558 → c ≠ 563 → c ≠ 564 → c ≠ 565 → c ≠ 566 → C2 c = C1 c := fun c a556 a558 a563 a564 a565 a566 => by rw [eC2, ax_u_ne a566, ax_u_ne a565, ax_u_ne a564, ax_u_ne a563, ax_u_ne a558, ax_u_ne a556]
  have C2_v0 : C2 556 1 = (S + 1) := by rw [eC2, ax_u_ne (by decide), ax_u_ne (by decide), ax_u_ne (by decide), ax_u_ne (by decide), ax_u_ne (by decide)]; exact ax_u_s _ _ _ _
  have C2_v1 : C2 558 (A + 1) = (S + 1) := by rw [eC2, ax_u_ne (by decide), ax_u_ne (by decide), ax_u_ne (by decide), ax_u_ne (by decide)]; exact ax_u_s _ _ _ _
  have C2_v2 : C2 563 S = A := by rw [eC2, ax_u_ne (by decide), ax_u_ne (by decide), ax_u_ne (by decide)]; exact ax_u_s _ _ _ _
  have C2_v3 : C2 564 S = 0 := by rw [eC2, ax_u_ne (by decide), ax_u_ne (by decide)]; exact ax_u_s _ _ _ _
  have C2_v4 : C2 565 S = 0 := by rw [eC2, ax_u_ne (by decide)]; exact ax_u_s _ _ _ _
  have C2_v5 : C2 566 S = 0 := by rw [eC2]; exact ax_u_s _ _ _ _
  have C2_o556 : ∀ i, i ≠ 1 → C2 556 i = C1 556 i := fun i b0 => by rw [eC2, ax_u_ne (by decide), ax_u_ne (by decide), ax_u_ne (by decide), ax_u_ne (by decide), ax_u_ne (by decide), ax_u_k b0]
  have C2_o558 : ∀ i, i ≠ (A + 1) → C2 558 i = C1 558 i := fun i b0 => by rw [eC2, ax_u_ne (by decide), ax_u_ne (by decide), ax_u_ne (by decide), ax_u_ne (by decide), ax_u_k b0, ax_u_ne (by decide)]
  have C2_o563 : ∀ i, i ≠ S → C2 563 i = C1 563 i := fun i b0 => by rw [eC2, ax_u_ne (by decide), ax_u_ne (by decide), ax_u_ne (by decide), ax_u_k b0, ax_u_ne (by decide), ax_u_ne (by decide)]
  have C2_o564 : ∀ i, i ≠ S → C2 564 i = C1 564 i := fun i b0 => by rw [eC2, ax_u_ne (by decide), ax_u_ne (by decide), ax_u_k b0, ax_u_ne (by decide), ax_u_ne (by decide), ax_u_ne (by decide)]
  have C2_o565 : ∀ i, i ≠ S → C2 565 i = C1 565 i := fun i b0 => by rw [eC2, ax_u_ne (by decide), ax_u_k b0, ax_u_ne (by decide), ax_u_ne (by decide), ax_u_ne (by decide), ax_u_ne (by decide)]
  have C2_o566 : ∀ i, i ≠ S → C2 566 i = C1 566 i := fun i b0 => by rw [eC2, ax_u_k b0, ax_u_ne (by decide), ax_u_ne (by decide), ax_u_ne (by decide), ax_u_ne (by decide), ax_u_ne (by decide)]
  rw [← eC2]
  obtain ⟨C3, eC3⟩ : ∃ X : ax_V, X = ax_u C2 600 9 S := ⟨_, rfl⟩
  have C3_g : ax_g C3 := by rw [eC3]; exact (ax_u_g C2_g ⟨by omega, by omega⟩)
  have C3_n : ∀ c, c ≠ 600 → C3 c = C2 c := fun c a600 => by rw [eC3, ax_u_ne a600]
  have C3_v0 : C3 600 9 = S := by rw [eC3]; exact ax_u_s _ _ _ _
  have C3_o600 : ∀ i, i ≠ 9 → C3 600 i = C2 600 i := fun i b0 => by rw [eC3, ax_u_k b0]
  rw [← eC3]
  have c3 : ∀ c, c ≠ 600 → c ≠ 556 → c ≠ 558 → c ≠ 563 → c ≠ 564 → c ≠ 565 → c ≠ 566 → C3 c = C1 c := fun c a b x y z v w => by rw [C3_n c a, C2_n c b x y z v w]
  have c6 : ∀ j, j ≠ 9 → C3 600 j = C1 600 j := fun j z => by rw [C3_o600 j z, C2_n 600 (by decide) (by decide) (by decide) (by decide) (by decide) (by decide)]
  have hgM2 : ax_g M2 := by
    intro c i
    by_cases w : c = 222
    · by_cases v : i = 70
      · rw [w, v, ia2]; decide
      · rw [w, s2 i v]; exact hgM1 _ _
    · rw [n2 c w]; exact hgM1 _ _
  have hS := hR.2.2.1
  have R3 : e_R C3 M2 := by
    have Ra : e_R C2 M1 := hR.tab ⟨C2_g, hgM1⟩ (fun c z => C2_n c (by omega) (by omega) (by omega) (by omega) (by omega) (by omega)) (fun _ _ => rfl) (fun j _ => by rw [C2_n 600 (by decide) (by decide) (by decide) (by decide) (by decide) (by decide)]) (fun _ _ => rfl)
    refine Ra.sc ⟨C3_g, hgM2⟩ (fun c z => C3_n c z) (fun c z => n2 c z) (C3_o600 1 (by decide)) (s2 3 (by decide)) (s2 10 (by decide)) (s2 26 (by decide)) ?_ (by rw [s2 26 (by decide), s2 68 (by decide)]; exact hR.2.2.2.1.2.2)
    obtain ⟨a1, a2, a3, a4, a5, a6, a7⟩ := hS
    unfold e_S
    rw [c6 6 (by decide), c6 8 (by decide), c6 11 (by decide), c6 10 (by decide), c6 12 (by decide), c6 13 (by decide), C3_v0, s2 68 (by decide), s2 3 (by decide), s2 10 (by decide), s2 69 (by decide), s2 71 (by decide), s2 72 (by decide), ia2]
    exact ⟨a1, a2, a3, a4, a5, Or.inr ⟨rfl, by omega⟩, a7⟩
  have hnodes : M2 222 10 = (M 222 10) := by rw [s2 10 (by decide), s1 10 (by decide) (by decide)]
  refine ⟨⟨⟨R3, ⟨?_, ?_⟩, ?_, ?_, ?_, ?_⟩, ?_, ⟨by rw [s2 55 (by decide), hau], h1b⟩, ⟨?_, h2.2.1, ht⟩, ia2, ?_, ?_, ?_, ?_⟩, by omega, by omega⟩
  · rw [eC3, eC2]; exact ((((((fC.ua (by decide)).ua (by decide)).ua (by decide)).ua (by decide)).ua (by decide)).ua (by decide)).us (by decide)
  · exact ⟨fun c a b => by rw [n2 c b]; exact fM.1 c a b, fun j a => by rw [s2 j (by omega)]; exact fM.2 j a⟩
  · rw [s2 10 (by decide)]
    exact hLL.keep (fun c z => c3 c (by omega) (by omega) (by omega) (by omega) (by omega) (by omega) (by omega)) (fun c z => n2 c (by omega)) (c6 7 (by decide)) (s2 73 (by decide)) (s2 77 (by decide)) (by rw [s2 68 (by decide)]; exact Int.le_refl _)
  · refine hB.as hR hau.symm h1b eS1 c3 ⟨?_, ?_, ?_⟩ (fun i z => ?_) (fun c i a b z => ?_) ⟨?_, ?_, ?_, ?_, ?_⟩ n2 ⟨s2 44 (by decide), s2 52 (by decide), s2 26 (by decide), s2 10 (by decide), s2 55 (by decide), s2 60 (by decide)⟩ (by rw [s2 68 (by decide)]; exact Int.le_refl _) (by rw [s2 68 (by decide)]; exact hS1)
    · rw [C3_n 556 (by decide)]; exact C2_o556 0 (by decide)
    · rw [C3_n 556 (by decide)]; exact C2_v0
    · rw [C3_n 556 (by decide)]; exact C2_o556 2 (by decide)
    · rw [C3_n 558 (by decide)]; exact C2_o558 i z
    · rw [C3_n c (by omega), eC2, ax_u_o (fun q => z q.2), ax_u_o (fun q => z q.2), ax_u_o (fun q => z q.2), ax_u_o (fun q => z q.2), ax_u_ne (by omega), ax_u_ne (by omega)]
    · rw [C3_n 558 (by decide)]; exact C2_v1
    · rw [C3_n 563 (by decide)]; exact C2_v2
    · rw [C3_n 564 (by decide)]; exact C2_v3
    · rw [C3_n 565 (by decide)]; exact C2_v4
    · rw [C3_n 566 (by decide)]; exact C2_v5
  · rw [s2 69 (by decide), s2 71 (by decide), s2 55 (by decide)]; exact hd
  · intro _ q p q0 qp pp eq
    rw [s2 26 (by decide)] at pp
    have := hB.sl q0 (by omega : q < (M1 222 26))
    rw [c3 525 (by decide) (by decide) (by decide) (by decide) (by decide) (by decide) (by decide), C3_v0] at eq
    omega
  · rw [hnodes, C3_v0]
    refine Or.inr ⟨h1b, ?_, h2.2.1, ?_, ?_, ?_, ?_⟩
    · rw [C3_n 556 (by decide), C2_o556 0 (by decide)]; omega
    · rw [C3_n 558 (by decide), C2_o558 A (by omega)]; exact h4'
    · rw [C3_n 558 (by decide), C2_v1]; omega
    · rw [C3_n 558 (by decide), C2_o558 A (by omega)]; exact fa.2.2.1.1
    · rw [n2 267 (by decide), eM1, (e_nM.on Mb 1).1 267 (by decide), nb 267 (by decide)]; exact h1c
  · rw [n2 269 (by decide), eM1, (e_nM.on Mb 1).1 269 (by decide), nb 269 (by decide)]; exact h2.1
  · rw [C3_n 558 (by decide), C2_o558 A (by omega), C2_v1]; omega
  · exact h5.tr ⟨fun c z => by rw [c3 c (by omega) (by omega) (by omega) (by omega) (by omega) (by omega) (by omega), nC1.1 c (by omega)], fun c z w => by rw [n2 c w, eM1, (e_nM.on Mb 1).1 c w, nb c w], hnodes, by rw [s2 73 (by decide), s1 73 (by decide) (by decide)]⟩
  · rw [s2 68 (by decide), at1]; have := h6.1; omega
  · rw [s2 68 (by decide), at1, s2 26 (by decide), s2 44 (by decide), s1 26 (by decide) (by decide), s1 44 (by decide) (by decide)]; have := h6.2.2; omega
end States
