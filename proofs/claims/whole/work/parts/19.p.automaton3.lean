/-! AN AUTOMATON IS READ: all its states, and the end -/
section Automaton
variable {B r : Nat} {C0 M0 Ca Ma : ax_V} {A : Int}
/-- behind an automaton -/
def f_aE (C0 M0 Ca Ma C M : ax_V) (A : Int) : Prop := f_I C0 M0 C M (A + 1) ∧ (C 600 9) = -1 ∧ (M 222 55) = A + 1 ∧ f_sa Ca Ma C M ∧ (Ma 222 68) < (M 222 68) ∧ (M 222 26) + (M 222 44) + 4 * (A + 1) ≤ (M 222 68)
set_option maxHeartbeats 2000000 in
theorem f_aEnd {C M : ax_V} {t : Int} (h : f_T C0 M0 Ca Ma C M A t) (ht : 0 < t) (hst : 0 ≤ (C 600 9)) (hs3 : ¬ m_see M = 123) :
    f_go f_nv (fun Φ Θ => ∀ y, ax_y y → k_Reader_readAutomaton_41 B r 421 A t y C Φ Θ) (fun C' Φ _ => Φ C') (fun Φ Θ => k_Model_readAutomaton_59 422 A 0 M Φ Θ) (fun M' Φ _ => Φ 1 M') C0 M0 (fun C' M' => f_aE C0 M0 Ca Ma C' M' A) := by
  obtain ⟨hI, ⟨h1, h1b, h1c⟩, h2, h3, h4, h5, h6⟩ := h
  have ei : ax_u M 222 70 (if t = 0 then 0 else 1) = M := by rw [if_neg (by omega), ← h3]; exact ax_u_id _ _ _
  rw [ei] at hI
  obtain ⟨hR, ⟨fC, fM⟩, hLL, hB, hd, hcs⟩ := hI
  obtain ⟨hgC, hgM⟩ := id hR.1
  have hat := hR.2.2.1.1
  have hsz := hR.2.1.2.2.1
  have hct := hB.1.2.2.1
  have hs := hR.see
  have rA : ax_rg A := ⟨by omega, by omega⟩
  have rt : ax_rg t := ⟨by omega, by omega⟩
  obtain ⟨C1, eC1⟩ : ∃ X : ax_V, X = ax_u C 600 9 (-1) := ⟨_, rfl⟩
  have C1_g : ax_g C1 := by rw [eC1]; exact (ax_u_g hgC (by decide))
  have C1_n : ∀ c, c ≠ 600 → C1 c = C c := fun c a600 => by rw [eC1, ax_u_ne a600]
  have C1_v0 : C1 600 9 = (-1) := by rw [eC1]; exact ax_u_s _ _ _ _
  have C1_o600 : ∀ i, i ≠ 9 → C1 600 i = C 600 i := fun i b0 => by rw [eC1, ax_u_k b0]
  obtain ⟨M1, eM1⟩ : ∃ X : ax_V, X = ax_u M 222 70 0 := ⟨_, rfl⟩
  have M1_g : ax_g M1 := by rw [eM1]; exact (ax_u_g hgM (by decide))
  have M1_n : ∀ c, c ≠ 222 → M1 c = M c := fun c a222 => by rw [eM1, ax_u_ne a222]
  have M1_v0 : M1 222 70 = 0 := by rw [eM1]; exact ax_u_s _ _ _ _
  have M1_o222 : ∀ i, i ≠ 70 → M1 222 i = M 222 i := fun i b0 => by rw [eM1, ax_u_k b0]
  have R1 : e_R C1 M1 := by
    refine hR.sc ⟨C1_g, M1_g⟩ C1_n M1_n (C1_o600 1 (by decide)) (M1_o222 3 (by decide)) (M1_o222 10 (by decide)) (M1_o222 26 (by decide)) ?_ (by rw [M1_o222 26 (by decide), M1_o222 68 (by decide)]; exact hR.2.2.2.1.2.2)
    obtain ⟨a1, a2, a3, a4, a5, a6, a7⟩ := hR.2.2.1
    unfold e_S
    rw [C1_o600 6 (by decide), C1_o600 8 (by decide), C1_o600 11 (by decide), C1_o600 10 (by decide), C1_o600 12 (by decide), C1_o600 13 (by decide), C1_v0, M1_o222 68 (by decide), M1_o222 3 (by decide), M1_o222 10 (by decide), M1_o222 69 (by decide), M1_o222 71 (by decide), M1_o222 72 (by decide), M1_v0]
    exact ⟨a1, a2, a3, a4, a5, Or.inl ⟨rfl, rfl⟩, a7⟩
  have fC1 : f_fC C0 C1 := by rw [eC1]; exact fC.us (by decide)
  have fM1 : f_fM M0 M1 := by rw [eM1]; exact fM.us (by decide)
  have hs1 := R1.see
  have rC : ∀ (Φ Θ : ax_V → Prop), ax_N (az_W B (az_ER B r)) (419 + 2) q_Reader_expect [.ref r, ax_i 59] C1 (fun V => Φ V) Θ → ∀ y, ax_y y → k_Reader_readAutomaton_41 B r 421 A t y C Φ Θ := by
    intro Φ Θ z y hy
    exact r_Reader_readAutomaton_41 hgC rA rt hy ⟨fun _ => fun V1 e1 => by rw [← eC1] at e1; rw [e1]; exact z, fun _ => ⟨fun _ => by omega, fun _ => t_look hgC hR.ci ⟨fun q => absurd (hs.symm.trans q) hs3, fun _ => fun V1 e1 => by rw [← eC1] at e1; rw [e1]; exact z⟩⟩⟩
  have rM : ∀ (Φ : Int → ax_V → Prop) (Θ : ax_V → Prop), ax_I ay_lay (420 + 2) q_Model_want [.ref 222, ax_i 59] M1 (fun r2 V2 => (r2 = 0 ∨ r2 = 1) ∧ Φ r2 V2) Θ → k_Model_readAutomaton_59 422 A 0 M Φ Θ := by
    intro Φ Θ z
    exact r_Model_readAutomaton_59 hgM rA (by decide) ⟨fun _ => fun V1 e1 => by rw [← eM1] at e1; rw [e1]; exact z, fun q => absurd rfl q⟩
  by_cases w5 : m_see M1 = 59
  · have lt2 := R1.lt (by omega)
    obtain ⟨C2, eC2⟩ : ∃ X : ax_V, X = c_on C1 1 := ⟨_, rfl⟩
    obtain ⟨M2, eM2⟩ : ∃ X : ax_V, X = m_on M1 1 := ⟨_, rfl⟩
    have i1 : f_I C0 M0 C1 M1 A := by
      refine ⟨R1, ⟨fC1, fM1⟩, ?_, hB.ac C1_n (fun c z _ => M1_n c z) (fun i _ => by rw [M1_n 269 (by decide)]) (fun j z => M1_o222 j (by omega)) (by rw [M1_o222 68 (by decide)]; exact Int.le_refl _), by rw [M1_o222 69 (by decide), M1_o222 71 (by decide), M1_o222 55 (by decide)]; exact hd, fun z => by rw [C1_v0] at z; omega⟩
      rw [M1_o222 10 (by decide)]
      exact hLL.keep (fun c _ => C1_n c (by omega)) (fun c _ => M1_n c (by omega)) (C1_o600 7 (by decide)) (M1_o222 73 (by decide)) (M1_o222 77 (by decide)) (by rw [M1_o222 68 (by decide)]; exact Int.le_refl _)
    have i2 := i1.on lt2
    rw [← eC2, ← eM2] at i2
    have nC : e_nC C1 C2 := by rw [eC2]; exact e_nC.on C1 1
    have nM : e_nM M1 M2 := by rw [eM2]; exact e_nM.on M1 1
    have sc : ∀ j, j ≠ 68 → j ≠ 70 → M2 222 j = M 222 j := fun j z w => by rw [eM2]; unfold m_on; rw [ax_u_k z, M1_o222 j w]
    have at2 : M2 222 68 = (M 222 68) + 1 := by rw [eM2]; unfold m_on; rw [ax_u_s, M1_o222 68 (by decide)]
    have fac : f_ac C2 M2 A := by
      unfold f_ac
      rw [nC.1 558 (by decide), C1_n 558 (by decide), nM.1 269 (by decide), M1_n 269 (by decide), h2.1]
      exact ⟨h4, by omega, h2.2.2⟩
    obtain ⟨b1, b2, b3, b4, b5, b6⟩ := i2
    have au2 : M2 222 55 = A + 1 := by rw [sc 55 (by decide) (by decide)]; omega
    refine f_go.ok (C' := C2) (M' := M2) (fun Φ Θ z => rC Φ Θ (t_expect C1_g (by decide) R1.ci (fun _ => by rw [← eC2]; exact z) (fun q => absurd (hs1.trans w5) q))) (fun Φ Θ z => rM Φ Θ (s_want M1_g (by decide) R1.mi (fun _ => ⟨Or.inr rfl, by rw [← eM2]; exact z⟩) (fun q => absurd w5 q))) ⟨⟨b1, b2, b3, b4.up fac, ⟨b5.1, b5.2.1, by omega⟩, b6⟩, ?_, au2, ?_, ?_, ?_⟩
    · rw [nC.2 9 (by decide)]; exact C1_v0
    · exact h5.tr ⟨fun c z => by rw [nC.1 c (by omega), C1_n c (by omega)], fun c z w => by rw [nM.1 c w, M1_n c w], sc 10 (by decide) (by decide), sc 73 (by decide) (by decide)⟩
    · rw [at2]; have := h6.1; omega
    · rw [at2, sc 26 (by decide) (by decide), sc 44 (by decide) (by decide)]; have := h6.2.2; omega
  · exact f_go.stop (C' := C1) (M' := M1) (fun Φ Θ z => rC Φ Θ (t_expect C1_g (by decide) R1.ci (fun q => absurd (hs1.symm.trans q) w5) (fun _ => z))) (fun Φ Θ z => rM Φ Θ (s_want M1_g (by decide) R1.mi (fun q => absurd q w5) (fun _ => ⟨Or.inl rfl, z⟩))) ⟨R1.1, R1.2.2.1.1.1, fC1, fM1⟩
set_option maxHeartbeats 2000000 in
theorem f_states (hX : e_X B r 20) : ∀ (m : Nat) (C M : ax_V) (t : Int), 6 - t ≤ (m : Int) → f_T C0 M0 Ca Ma C M A t → (0 < t → m_see M = 123) → (t = 0 → (C 600 9) = -1) →
    f_go f_nv (fun Φ Θ => ∀ y, ax_y y → k_Reader_readAutomaton_41 B r 421 A t y C Φ Θ) (fun C' Φ _ => Φ C') (fun Φ Θ => k_Model_readAutomaton_59 422 A 1 M Φ Θ) (fun M' Φ _ => Φ 1 M') C0 M0 (fun C' M' => f_aE C0 M0 Ca Ma C' M' A) := by
  intro m
  induction m with
  | zero =>
    intro C M t hm h hs6 _
    have h9 := h
    obtain ⟨hI, ⟨h1, h1b, h1c⟩, h2, h3, h4, h5, h6⟩ := h
    have ei : ax_u M 222 70 (if t = 0 then 0 else 1) = M := by rw [if_neg (by omega), ← h3]; exact ax_u_id _ _ _
    rw [ei] at hI
    obtain ⟨hR, ⟨fC, fM⟩, hLL, hB, hd, hcs⟩ := hI
    obtain ⟨hgC, hgM⟩ := id hR.1
    have hat := hR.2.2.1.1
    have hsz := hR.2.1.2.2.1
    have hct := hB.1.2.2.1
    have hs := hR.see
    have w := hs6 (by omega)
    have rA : ax_rg A := ⟨by omega, by omega⟩
    have rt : ax_rg t := ⟨by omega, by omega⟩
    obtain ⟨C1, eC1⟩ : ∃ X : ax_V, X = ax_u C 600 9 (-1) := ⟨_, rfl⟩
    have C1_g : ax_g C1 := by rw [eC1]; exact (ax_u_g hgC (by decide))
    have C1_n : ∀ c, c ≠ 600 → C1 c = C c := fun c a600 => by rw [eC1, ax_u_ne a600]
    have C1_v0 : C1 600 9 = (-1) := by rw [eC1]; exact ax_u_s _ _ _ _
    have C1_o600 : ∀ i, i ≠ 9 → C1 600 i = C 600 i := fun i b0 => by rw [eC1, ax_u_k b0]
    have ci1 : c_in C1 := by
      have := hR.ci
      unfold c_in at this ⊢
      rw [C1_o600 6 (by decide), C1_o600 1 (by decide), C1_n 1 (by decide)]; exact this
    have see1 : c_see C1 = 123 := by
      have : c_see C1 = c_see C := by unfold c_see; rw [C1_o600 6 (by decide), C1_o600 1 (by decide), C1_n 1 (by decide)]
      rw [this, hs, w]
    exact f_go.stop (C' := C1) (M' := M) (fun Φ Θ z y hy => r_Reader_readAutomaton_41 hgC rA rt hy ⟨fun _ => fun V1 e1 => by rw [← eC1] at e1; rw [e1]; exact t_expect C1_g (by decide) ci1 (fun q => by omega) (fun _ => z), fun q => by omega⟩) (fun Φ Θ z => r_Model_readAutomaton_59 hgM rA (by decide) ⟨fun q => absurd q (by decide), fun _ => ⟨⟨by omega, by omega⟩, fun _ => z, fun q => absurd (by omega) q⟩⟩) ⟨⟨C1_g, hgM⟩, by rw [C1_o600 6 (by decide)]; exact hat.1, by rw [eC1]; exact fC.us (by decide), fM⟩
  | succ m ih =>
    intro C M t hm h hs6 hst
    have h9 := h
    obtain ⟨hI, ⟨h1, h1b, h1c⟩, h2, h3, h4, h5, h6⟩ := h
    obtain ⟨Mb, eMb⟩ : ∃ X : ax_V, X = ax_u M 222 70 (if t = 0 then 0 else 1) := ⟨_, rfl⟩
    rw [← eMb] at hI
    have nb : ∀ c, c ≠ 222 → Mb c = M c := fun c z => by rw [eMb]; exact ax_u_ne z
    have sb : ∀ j, j ≠ 70 → Mb 222 j = M 222 j := fun j z => by rw [eMb]; exact ax_u_k z
    obtain ⟨hR, ⟨fC, fM⟩, hLL, hB, hd, hcs⟩ := hI
    obtain ⟨hgC, hgMb⟩ := id hR.1
    have hgM : ax_g M := by
      intro c i
      by_cases w : c = 222
      · by_cases v : i = 70
        · rw [w, v, h3]; decide
        · rw [w, ← sb i v]; exact hgMb _ _
      · rw [← nb c w]; exact hgMb _ _
    have hat := hR.2.2.1.1
    have hsz := hR.2.1.2.2.1
    have hct := hB.1.2.2.1
    have hs0 := hR.see
    have es : m_see Mb = m_see M := by unfold m_see; rw [sb 68 (by decide), sb 3 (by decide), nb 224 (by decide)]
    have hs : c_see C = m_see M := by rw [hs0, es]
    have mi : m_in M := by
      have := hR.mi
      unfold m_in at this ⊢
      rw [sb 68 (by decide), sb 3 (by decide)] at this
      exact this
    have fM' : f_fM M0 M := ⟨fun c a b => by rw [← nb c b]; exact fM.1 c a b, fun j a => by rw [← sb j (by omega)]; exact fM.2 j a⟩
    rw [sb 68 (by decide), sb 3 (by decide)] at hat
    rw [sb 3 (by decide)] at hsz
    rw [sb 55 (by decide), sb 68 (by decide)] at hct
    have rA : ax_rg A := ⟨by omega, by omega⟩
    have rt : ax_rg t := ⟨by omega, by omega⟩
    by_cases w6 : t = 6
    · have w := hs6 (by omega)
      obtain ⟨C1, eC1⟩ : ∃ X : ax_V, X = ax_u C 600 9 (-1) := ⟨_, rfl⟩
      have C1_g : ax_g C1 := by rw [eC1]; exact (ax_u_g hgC (by decide))
      have C1_n : ∀ c, c ≠ 600 → C1 c = C c := fun c a600 => by rw [eC1, ax_u_ne a600]
      have C1_v0 : C1 600 9 = (-1) := by rw [eC1]; exact ax_u_s _ _ _ _
      have C1_o600 : ∀ i, i ≠ 9 → C1 600 i = C 600 i := fun i b0 => by rw [eC1, ax_u_k b0]
      have ci1 : c_in C1 := by
        have := hR.ci
        unfold c_in at this ⊢
        rw [C1_o600 6 (by decide), C1_o600 1 (by decide), C1_n 1 (by decide)]; exact this
      have see1 : c_see C1 = 123 := by
        have : c_see C1 = c_see C := by unfold c_see; rw [C1_o600 6 (by decide), C1_o600 1 (by decide), C1_n 1 (by decide)]
        rw [this, hs, w]
      exact f_go.stop (C' := C1) (M' := M) (fun Φ Θ z y hy => r_Reader_readAutomaton_41 hgC rA rt hy ⟨fun _ => fun V1 e1 => by rw [← eC1] at e1; rw [e1]; exact t_expect C1_g (by decide) ci1 (fun q => by omega) (fun _ => z), fun q => by omega⟩) (fun Φ Θ z => r_Model_readAutomaton_59 hgM rA (by decide) ⟨fun q => absurd q (by decide), fun _ => ⟨⟨by omega, by omega⟩, fun _ => z, fun q => absurd (by omega) q⟩⟩) ⟨⟨C1_g, hgM⟩, by rw [C1_o600 6 (by decide)]; exact hat.1, by rw [eC1]; exact fC.us (by decide), fM'⟩
    · have ht6 : t < 6 := by omega
      -- the class comes to the {
      have h63 : ∀ (Φ Θ : ax_V → Prop), (∀ y, ax_y y → k_Reader_readAutomaton_63 B r 421 A t y C Φ Θ) → ∀ y, ax_y y → k_Reader_readAutomaton_41 B r 421 A t y C Φ Θ := by
        intro Φ Θ z y hy
        refine r_Reader_readAutomaton_41 hgC rA rt hy ⟨fun q => by omega, fun _ => ⟨fun _ => z y hy, fun q => t_look hgC hR.ci ⟨fun _ => z y hy, fun q2 => absurd (hs.trans (hs6 q)) q2⟩⟩⟩
      by_cases w : m_see M = 123
      · have hlt : (M 222 68) < (M 222 3) := by
          have := hR.lt (by rw [es]; omega)
          rw [sb 68 (by decide), sb 3 (by decide)] at this
          exact this
        obtain ⟨S, eS⟩ : ∃ S : Int, S = (C 556 1) := ⟨_, rfl⟩
        obtain ⟨hS, hS0⟩ := h9.begin ht6 hlt eS
        have hgC1 : ax_g (c_on C 1) := ax_u_g hgC ⟨by omega, by omega⟩
        have eS1 : (c_on C 1) 556 1 = S := by rw [(e_nC.on C 1).1 556 (by decide), eS]
        obtain ⟨C3, eC3⟩ : ∃ X : ax_V, X = ax_u (c_as (c_on C 1) A) 600 9 S := ⟨_, rfl⟩
        obtain ⟨M3, eM3⟩ : ∃ X : ax_V, X = m_on M 1 := ⟨_, rfl⟩
        rw [← eC3, ← eM3] at hS
        have R3 := hS.1.1
        have hat3 := R3.2.2.1.1
        have hsz3 := R3.2.1.2.2.1
        have k1 := f_stE (B := B) (r := r) hX (y := some (ax_i 1)) (ax_y_i 1) 700 C3 M3 0 hS (by omega) (by decide) hat3.2.1
        refine (k1.bind0 (fun C4 M4 q4 => ?_)).of (fun Φ Θ z => h63 Φ Θ (fun y hy => r_Reader_readAutomaton_63 hgC rA rt hy (t_expect hgC (by decide) hR.ci (fun _ => ⟨fun _ => t_addState hgC1 ⟨h1b, by omega⟩ (by rw [eS1]; exact hS0) (fun V3 e3 => ?_), fun q => by omega⟩) (fun q => absurd (hs.trans w) q)))) (fun Φ Θ z => r_Model_readAutomaton_59 hgM rA (by decide) ⟨fun q => absurd q (by decide), fun _ => ⟨⟨by omega, by omega⟩, fun q => by omega, fun _ => s_want hgM (by decide) mi (fun _ => ⟨fun q => absurd q (by decide), fun _ => by rw [← eM3]; exact z⟩) (fun q => absurd w q)⟩⟩)
        · have R4 := q4.1.1
          have hat4 := R4.2.2.1.1
          have hsz4 := R4.2.1.2.2.1
          have k2 := f_stM (B := B) (r := r) hX (y := some (ax_i 1)) (ax_y_i 1) 700 C4 M4 0 q4 (by omega) (by decide) hat4.2.1
          refine k2.bind0 (fun C5 M5 q5 => ?_)
          obtain ⟨q5, st5⟩ := q5
          by_cases v : m_see M5 = 123
          · rw [if_pos v]
            exact ih C5 M5 (t + 1) (by omega) q5 (fun _ => v) (fun z => by omega)
          · rw [if_neg v]
            exact f_aEnd (B := B) (r := r) q5 (by omega) st5 v
        · rw [eS1, ← eC3] at e3
          rw [e3]; exact z
      · refine f_go.stop (C' := C) (M' := M) (fun Φ Θ z => h63 Φ Θ (fun y hy => r_Reader_readAutomaton_63 hgC rA rt hy (t_expect hgC (by decide) hR.ci (fun q => absurd (hs.symm.trans q) w) (fun _ => z)))) (fun Φ Θ z => r_Model_readAutomaton_59 hgM rA (by decide) ⟨fun q => absurd q (by decide), fun _ => ⟨⟨by omega, by omega⟩, fun q => by omega, fun _ => s_want hgM (by decide) mi (fun q => absurd q w) (fun _ => ⟨fun _ => z, fun q => absurd rfl q⟩)⟩⟩) ⟨⟨hgC, hgM⟩, hat.1, fC, fM'⟩
set_option maxHeartbeats 2000000 in
theorem f_automaton {C M : ax_V} (hX : e_X B r 20) (h : f_I C0 M0 C M (M 222 55)) (hst : (C 600 9) = -1) (hJ : (M 222 26) + (M 222 44) + 4 * (M 222 55) ≤ (M 222 68)) (hj1 : 1 ≤ (M 222 68)) (w : m_see M = 36) :
    f_go f_nv (fun Φ Θ => ax_N (az_W B (az_ER B r)) 422 q_Reader_readAutomaton [.ref r] C Φ Θ) (fun C' Φ _ => Φ C') (fun Φ Θ => ax_I ay_lay 423 q_Model_readAutomaton [.ref 222] M Φ Θ) (fun M' Φ _ => Φ 1 M') C0 M0 (fun C' M' => f_aE C0 M0 C M C' M' (M 222 55)) := by
  obtain ⟨hR, ⟨fC, fM⟩, hLL, hB, hd, hcs⟩ := h
  obtain ⟨hgC, hgM⟩ := id hR.1
  have hat := hR.2.2.1.1
  have hsz := hR.2.1.2.2.1
  have hS := hR.2.2.1
  have hct := hB.1
  have hcA := hct.2.2.1
  have hcS := hct.2.2.2.1
  have hcT := hct.2.2.2.2.1
  have hlt := hR.lt (by omega)
  have hs := hR.see
  have ia : (M 222 70) = 0 := by
    rcases hS.2.2.2.2.2.1 with z | z
    · exact z.1
    · omega
  obtain ⟨A, eA⟩ : ∃ A : Int, A = (M 222 55) := ⟨_, rfl⟩
  obtain ⟨S, eS⟩ : ∃ S : Int, S = (C 556 1) := ⟨_, rfl⟩
  obtain ⟨T, eT⟩ : ∃ T : Int, T = (M 222 60) := ⟨_, rfl⟩
  obtain ⟨p, ep⟩ : ∃ p : Int, p = (M 222 68) := ⟨_, rfl⟩
  obtain ⟨N, eN⟩ : ∃ N : Int, N = (M 222 10) := ⟨_, rfl⟩
  have cA : C 556 0 = A := by rw [eA]; exact hcA.1
  have cT : C 556 2 = T := by rw [eT]; exact hcT.1
  have hn := hS.2.1
  have p0 := hR.2.2.2.1
  have hcE := hct.1
  rw [← eA]
  rw [← eA] at hB
  obtain ⟨C1, eC1⟩ : ∃ X : ax_V, X = ax_u (ax_u (ax_u (ax_u (ax_u (ax_u (ax_u (ax_u (ax_u (ax_u C 556 0 (A + 1)) 557 A p) 558 A S) 558 (A + 1) S) 559 A T) 559 (A + 1) T) 560 A 0) 561 A 0) 562 A 0) 600 6 (p + 1) := ⟨_, rfl⟩
  have C1_g : ax_g C1 := by rw [eC1]; exact (ax_u_g (ax_u_g (ax_u_g (ax_u_g (ax_u_g (ax_u_g (ax_u_g (ax_u_g (ax_u_g (ax_u_g hgC ⟨by omega, by omega⟩) ⟨by omega, by omega⟩) ⟨by omega, by omega⟩) ⟨by omega, by omega⟩) ⟨by omega, by omega⟩) ⟨by omega, by omega⟩) (by decide)) (by decide)) (by decide)) ⟨by omega, by omega⟩)
  have C1_n : ∀ c, c ≠ 556 → c ≠ 557 → c ≠ 558 → c ≠ 559 → c ≠ 560 → c ≠ 561 → c ≠ 562 → c ≠ 600 → C1 c = C c := fun c a556 a557 a558 a559 a560 a561 a562 a600 => by rw [eC1, ax_u_ne a600, ax_u_ne a562, ax_u_ne a561, ax_u_ne a560, ax_u_ne a559, ax_u_ne a559, ax_u_ne a558, ax_u_ne a558, ax_u_ne a557, ax_u_ne a556]
  have C1_v0 : C1 556 0 = (A + 1) := by rw [eC1, ax_u_ne (by decide), ax_u_ne (by decide), ax_u_ne (by decide), ax_u_ne (by decide), ax_u_ne (by decide), ax_u_ne (by decide), ax_u_ne (by decide), ax_u_ne (by decide), ax_u_ne (by decide)]; exact ax_u_s _ _ _ _
  have C1_v1 : C1 557 A = p := by rw [eC1, ax_u_ne (by decide), ax_u_ne (by decide), ax_u_ne (by decide), ax_u_ne (by decide), ax_u_ne (by decide), ax_u_ne (by decide), ax_u_ne (by decide), ax_u_ne (by decide)]; exact ax_u_s _ _ _ _
  have C1_v2 : C1 558 A = S := by rw [eC1, ax_u_ne (by decide), ax_u_ne (by decide), ax_u_ne (by decide), ax_u_ne (by decide), ax_u_ne (by decide), ax_u_ne (by decide), ax_u_k (by omega)]; exact ax_u_s _ _ _ _
  have C1_v3 : C1 558 (A + 1) = S := by rw [eC1, ax_u_ne (by decide), ax_u_ne (by decide), ax_u_ne (by decide), ax_u_ne (by decide), ax_u_ne (by decide), ax_u_ne (by decide)]; exact ax_u_s _ _ _ _
  have C1_v4 : C1 559 A = T := by rw [eC1, ax_u_ne (by decide), ax_u_ne (by decide), ax_u_ne (by decide), ax_u_ne (by decide), ax_u_k (by omega)]; exact ax_u_s _ _ _ _
  have C1_v5 : C1 559 (A + 1) = T := by rw [eC1, ax_u_ne (by decide), ax_u_ne (by decide), ax_u_ne (by decide), ax_u_ne (by decide)]; exact ax_u_s _ _ _ _
  have C1_v6 : C1 560 A = 0 := by rw [eC1, ax_u_ne (by decide), ax_u_ne (by decide), ax_u_ne (by decide)]; exact ax_u_s _ _ _ _
  have C1_v7 : C1 561 A = 0 := by rw [eC1, ax_u_ne (by decide), ax_u_ne (by decide)]; exact ax_u_s _ _ _ _
  have C1_v8 : C1 562 A = 0 := by rw [eC1, ax_u_ne (by decide)]; exact ax_u_s _ _ _ _
  have C1_v9 : C1 600 6 = (p + 1) := by rw [eC1]; exact ax_u_s _ _ _ _
  have C1_o556 : ∀ i, i ≠ 0 → C1 556 i = C 556 i := fun i b0 => by rw [eC1, ax_u_ne (by decide), ax_u_ne (by decide), ax_u_ne (by decide), ax_u_ne (by decide), ax_u_ne (by decide), ax_u_ne (by decide), ax_u_ne (by decide), ax_u_ne (by decide), ax_u_ne (by decide), ax_u_k b0]
  have C1_o557 : ∀ i, i ≠ A → C1 557 i = C 557 i := fun i b0 => by rw [eC1, ax_u_ne (by decide), ax_u_ne (by decide), ax_u_ne (by decide), ax_u_ne (by decide), ax_u_ne (by decide), ax_u_ne (by decide), ax_u_ne (by decide), ax_u_ne (by decide), ax_u_k b0, ax_u_ne (by decide)]
  have C1_o558 : ∀ i, i ≠ A → i ≠ (A + 1) → C1 558 i = C 558 i := fun i b0 b1 => by rw [eC1, ax_u_ne (by decide), ax_u_ne (by decide), ax_u_ne (by decide), ax_u_ne (by decide), ax_u_ne (by decide), ax_u_ne (by decide), ax_u_k b1, ax_u_k b0, ax_u_ne (by decide), ax_u_ne (by decide)]
  have C1_o559 : ∀ i, i ≠ A → i ≠ (A + 1) → C1 559 i = C 559 i := fun i b0 b1 => by rw [eC1, ax_u_ne (by decide), ax_u_ne (by decide), ax_u_ne (by decide), ax_u_ne (by decide), ax_u_k b1, ax_u_k b0, ax_u_ne (by decide), ax_u_ne (by decide), ax_u_ne (by decide), ax_u_ne (by decide)]
  have C1_o560 : ∀ i, i ≠ A → C1 560 i = C 560 i := fun i b0 => by rw [eC1, ax_u_ne (by decide), ax_u_ne (by decide), ax_u_ne (by decide), ax_u_k b0, ax_u_ne (by decide), ax_u_ne (by decide), ax_u_ne (by decide), ax_u_ne (by decide), ax_u_ne (by decide), ax_u_ne (by decide)]
  have C1_o561 : ∀ i, i ≠ A → C1 561 i = C 561 i := fun i b0 => by rw [eC1, ax_u_ne (by decide), ax_u_ne (by decide), ax_u_k b0, ax_u_ne (by decide), ax_u_ne (by decide), ax_u_ne (by decide), ax_u_ne (by decide), ax_u_ne (by decide), ax_u_ne (by decide), ax_u_ne (by decide)]
  have C1_o562 : ∀ i, i ≠ A → C1 562 i = C 562 i := fun i b0 => by rw [eC1, ax_u_ne (by decide), ax_u_k b0, ax_u_ne (by decide), ax_u_ne (by decide), ax_u_ne (by decide), ax_u_ne (by decide), ax_u_ne (by decide), ax_u_ne (by decide), ax_u_ne (by decide), ax_u_ne (by decide)]
  have C1_o600 : ∀ i, i ≠ 6 → C1 600 i = C 600 i := fun i b0 => by rw [eC1, ax_u_k b0, ax_u_ne (by decide), ax_u_ne (by decide), ax_u_ne (by decide), ax_u_ne (by decide), ax_u_ne (by decide), ax_u_ne (by decide), ax_u_ne (by decide), ax_u_ne (by decide), ax_u_ne (by decide)]
  have eC1' : C1 = ax_u (c_aa C p) 600 6 (p + 1) := by rw [eC1]; unfold c_aa; rw [cA, cT, ← eS]
  obtain ⟨M1, eM1⟩ : ∃ X : ax_V, X = ax_u (ax_u (ax_u (ax_u (ax_u (ax_u M 267 A N) 268 A p) 269 A 0) 222 55 (A + 1)) 222 68 (p + 1)) 222 70 1 := ⟨_, rfl⟩
  have M1_g : ax_g M1 := by rw [eM1]; exact (ax_u_g (ax_u_g (ax_u_g (ax_u_g (ax_u_g (ax_u_g hgM ⟨by omega, by omega⟩) ⟨by omega, by omega⟩) (by decide)) ⟨by omega, by omega⟩) ⟨by omega, by omega⟩) (by decide))
  have M1_n : ∀ c, c ≠ 267 → c ≠ 268 → c ≠ 269 → c ≠ 222 → M1 c = M c := fun c a267 a268 a269 a222 => by rw [eM1, ax_u_ne a222, ax_u_ne a222, ax_u_ne a222, ax_u_ne a269, ax_u_ne a268, ax_u_ne a267]
  have M1_v0 : M1 267 A = N := by rw [eM1, ax_u_ne (by decide), ax_u_ne (by decide), ax_u_ne (by decide), ax_u_ne (by decide), ax_u_ne (by decide)]; exact ax_u_s _ _ _ _
  have M1_v1 : M1 268 A = p := by rw [eM1, ax_u_ne (by decide), ax_u_ne (by decide), ax_u_ne (by decide), ax_u_ne (by decide)]; exact ax_u_s _ _ _ _
  have M1_v2 : M1 269 A = 0 := by rw [eM1, ax_u_ne (by decide), ax_u_ne (by decide), ax_u_ne (by decide)]; exact ax_u_s _ _ _ _
  have M1_v3 : M1 222 55 = (A + 1) := by rw [eM1, ax_u_k (by omega), ax_u_k (by omega)]; exact ax_u_s _ _ _ _
  have M1_v4 : M1 222 68 = (p + 1) := by rw [eM1, ax_u_k (by omega)]; exact ax_u_s _ _ _ _
  have M1_v5 : M1 222 70 = 1 := by rw [eM1]; exact ax_u_s _ _ _ _
  have M1_o267 : ∀ i, i ≠ A → M1 267 i = M 267 i := fun i b0 => by rw [eM1, ax_u_ne (by decide), ax_u_ne (by decide), ax_u_ne (by decide), ax_u_ne (by decide), ax_u_ne (by decide), ax_u_k b0]
  have M1_o268 : ∀ i, i ≠ A → M1 268 i = M 268 i := fun i b0 => by rw [eM1, ax_u_ne (by decide), ax_u_ne (by decide), ax_u_ne (by decide), ax_u_ne (by decide), ax_u_k b0, ax_u_ne (by decide)]
  have M1_o269 : ∀ i, i ≠ A → M1 269 i = M 269 i := fun i b0 => by rw [eM1, ax_u_ne (by decide), ax_u_ne (by decide), ax_u_ne (by decide), ax_u_k b0, ax_u_ne (by decide), ax_u_ne (by decide)]
  have M1_o222 : ∀ i, i ≠ 55 → i ≠ 68 → i ≠ 70 → M1 222 i = M 222 i := fun i b0 b1 b2 => by rw [eM1, ax_u_k b2, ax_u_k b1, ax_u_k b0, ax_u_ne (by decide), ax_u_ne (by decide), ax_u_ne (by decide)]
  obtain ⟨M2, eM2⟩ : ∃ X : ax_V, X = ax_u (ax_u (ax_u (ax_u (ax_u M 267 A N) 268 A p) 269 A 0) 222 55 (A + 1)) 222 68 (p + 1) := ⟨_, rfl⟩
  have M2_g : ax_g M2 := by rw [eM2]; exact (ax_u_g (ax_u_g (ax_u_g (ax_u_g (ax_u_g hgM ⟨by omega, by omega⟩) ⟨by omega, by omega⟩) (by decide)) ⟨by omega, by omega⟩) ⟨by omega, by omega⟩)
  have M2_n : ∀ c, c ≠ 267 → c ≠ 268 → c ≠ 269 → c ≠ 222 → M2 c = M c := fun c a267 a268 a269 a222 => by rw [eM2, ax_u_ne a222, ax_u_ne a222, ax_u_ne a269, ax_u_ne a268, ax_u_ne a267]
  have M2_v0 : M2 267 A = N := by rw [eM2, ax_u_ne (by decide), ax_u_ne (by decide), ax_u_ne (by decide), ax_u_ne (by decide)]; exact ax_u_s _ _ _ _
  have M2_v1 : M2 268 A = p := by rw [eM2, ax_u_ne (by decide), ax_u_ne (by decide), ax_u_ne (by decide)]; exact ax_u_s _ _ _ _
  have M2_v2 : M2 269 A = 0 := by rw [eM2, ax_u_ne (by decide), ax_u_ne (by decide)]; exact ax_u_s _ _ _ _
  have M2_v3 : M2 222 55 = (A + 1) := by rw [eM2, ax_u_k (by omega)]; exact ax_u_s _ _ _ _
  have M2_v4 : M2 222 68 = (p + 1) := by rw [eM2]; exact ax_u_s _ _ _ _
  have M2_o267 : ∀ i, i ≠ A → M2 267 i = M 267 i := fun i b0 => by rw [eM2, ax_u_ne (by decide), ax_u_ne (by decide), ax_u_ne (by decide), ax_u_ne (by decide), ax_u_k b0]
  have M2_o268 : ∀ i, i ≠ A → M2 268 i = M 268 i := fun i b0 => by rw [eM2, ax_u_ne (by decide), ax_u_ne (by decide), ax_u_ne (by decide), ax_u_k b0, ax_u_ne (by decide)]
  have M2_o269 : ∀ i, i ≠ A → M2 269 i = M 269 i := fun i b0 => by rw [eM2, ax_u_ne (by decide), ax_u_ne (by decide), ax_u_k b0, ax_u_ne (by decide), ax_u_ne (by decide)]
  have M2_o222 : ∀ i, i ≠ 55 → i ≠ 68 → M2 222 i = M 222 i := fun i b0 b1 => by rw [eM2, ax_u_k b1, ax_u_k b0, ax_u_ne (by decide), ax_u_ne (by decide), ax_u_ne (by decide)]
  have eMb : ax_u M1 222 70 (if (0 : Int) = 0 then 0 else 1) = M2 := by
    rw [if_pos rfl, eM1, eM2]
    funext c i
    unfold ax_u
    by_cases z : c = 222 ∧ i = 70
    · rw [if_pos z, if_neg (fun q => by omega), if_neg (fun q => by omega), if_neg (fun q => by omega), if_neg (fun q => by omega), if_neg (fun q => by omega), z.1, z.2]; exact ia.symm
    · rw [if_neg z, if_neg z]
  have cn : ∀ c, c ≠ 600 → c ≠ 556 → c ≠ 557 → c ≠ 558 → c ≠ 559 → c ≠ 560 → c ≠ 561 → c ≠ 562 → C1 c = C c := fun c a b x y z u v w => C1_n c b x y z u v w a
  have mn : ∀ c, c ≠ 222 → c ≠ 267 → c ≠ 268 → c ≠ 269 → M2 c = M c := fun c a b x y => M2_n c b x y a
  have R2 : e_R C1 M2 := by
    have R0 : e_R (c_on C 1) (m_on M 1) := hR.on (by decide) (by omega)
    refine R0.tab ⟨C1_g, M2_g⟩ (fun c z => ?_) (fun c z => ?_) (fun j z => ?_) (fun j z => ?_)
    · rw [cn c (by omega) (by omega) (by omega) (by omega) (by omega) (by omega) (by omega) (by omega), (e_nC.on C 1).1 c (by omega)]
    · rw [mn c (by omega) (by omega) (by omega) (by omega), (e_nM.on M 1).1 c (by omega)]
    · by_cases q : j = 6
      · rw [q, C1_v9]; unfold c_on; rw [ax_u_s, hat.1, ep]
      · rw [C1_o600 j q]; unfold c_on; rw [ax_u_k q]
    · by_cases q : j = 68
      · rw [q, M2_v4]; unfold m_on; rw [ax_u_s, ep]
      · rw [M2_o222 j (by omega) q]; unfold m_on; rw [ax_u_k q]
  have fC1 : f_fC C0 C1 := by rw [eC1]; exact (((((((((fC.ua (by decide)).ua (by decide)).ua (by decide)).ua (by decide)).ua (by decide)).ua (by decide)).ua (by decide)).ua (by decide)).ua (by decide)).us (by decide)
  have fM2 : f_fM M0 M2 := by rw [eM2]; exact ((((fM.ua (by decide)).ua (by decide)).ua (by decide)).us (by decide)).us (by decide)
  have sm : ∀ j, j ≠ 55 → j ≠ 68 → M2 222 j = M 222 j := fun j a b => M2_o222 j a b
  have B2 : f_B C1 M2 A := by
    refine hB.aa hR eA eS eT (p := p) ⟨by omega, by omega⟩ cn ⟨C1_v0, ?_, ?_⟩ (fun c i a b x y => ?_) ⟨C1_v1, C1_v2, C1_v3, C1_v4, C1_v5, C1_v6, C1_v7, C1_v8⟩ mn (fun c i a b => ?_) ⟨by rw [← eN]; exact M2_v0, M2_v1⟩ ⟨sm 44 (by decide) (by decide), sm 52 (by decide) (by decide), sm 26 (by decide) (by decide), sm 10 (by decide) (by decide), M2_v3, by rw [eT]; exact sm 60 (by decide) (by decide)⟩ (by rw [M2_v4]; omega) (by rw [M2_v4]; omega)
    · rw [C1_o556 1 (by decide), eS]
    · rw [C1_o556 2 (by decide)]; exact cT
    · rw [eC1, ax_u_ne (by omega), ax_u_o (by omega), ax_u_o (by omega), ax_u_o (by omega), ax_u_o (by omega), ax_u_o (by omega), ax_u_o (by omega), ax_u_o (by omega), ax_u_o (by omega), ax_u_ne (by omega)]
    · rw [eM2, ax_u_ne b, ax_u_ne b, ax_u_o (fun q => a q.2), ax_u_o (fun q => a q.2), ax_u_o (fun q => a q.2)]
  have hI2 : f_I C0 M0 C1 M2 A := by
    refine ⟨R2, ⟨fC1, fM2⟩, ?_, B2, ?_, fun z => ?_⟩
    · rw [sm 10 (by decide) (by decide)]
      exact hLL.keep (fun c z => cn c (by omega) (by omega) (by omega) (by omega) (by omega) (by omega) (by omega) (by omega)) (fun c z => mn c (by omega) (by omega) (by omega) (by omega)) (C1_o600 7 (by decide)) (sm 73 (by decide) (by decide)) (sm 77 (by decide) (by decide)) (by rw [M2_v4]; omega)
    · rw [sm 69 (by decide) (by decide), sm 71 (by decide) (by decide), M2_v3]; exact ⟨hd.1, hd.2.1, by omega⟩
    · rw [C1_o600 9 (by decide), hst] at z; omega
  have hT : f_T C0 M0 C M C1 M1 A 0 := by
    refine ⟨by rw [eMb]; exact hI2, ⟨M1_v3.symm, by omega, by rw [M1_v0, eN]; exact (M1_o222 10 (by decide) (by decide) (by decide)).symm⟩, ⟨M1_v2, by decide, by decide⟩, M1_v5, by rw [C1_v3, C1_v2]; omega, ⟨fun c z => cn c (by omega) (by omega) (by omega) (by omega) (by omega) (by omega) (by omega) (by omega), fun c z w => M1_n c (by omega) (by omega) (by omega) w, M1_o222 10 (by decide) (by decide) (by decide), M1_o222 73 (by decide) (by decide) (by decide)⟩, by rw [M1_v4]; omega, by rw [M1_v4, C1_o556 1 (by decide)]; omega, by rw [M1_v4, M1_o222 26 (by decide) (by decide) (by decide), M1_o222 44 (by decide) (by decide) (by decide)]; omega⟩
  refine (f_states (B := B) (r := r) hX 6 C1 M1 0 (by decide) hT (fun z => absurd z (by decide)) (fun _ => by rw [C1_o600 9 (by decide)]; exact hst)).of (fun Φ Θ z => r_Reader_readAutomaton hgC ⟨fun _ => t_addAu hgC (hgC _ _) (by rw [cA]; exact ⟨by omega, by omega⟩) ?_, fun q => by omega⟩) (fun Φ Θ z => r_Model_readAutomaton hgM ?_)
  · rw [cA, hat.1, ← ep]
    have e6 : (c_aa C p) 600 6 = p := by unfold c_aa; rw [ax_u_ne (by decide), ax_u_ne (by decide), ax_u_ne (by decide), ax_u_ne (by decide), ax_u_ne (by decide), ax_u_ne (by decide), ax_u_ne (by decide), ax_u_ne (by decide), ax_u_ne (by decide), hat.1, ep]
    rw [e6]
    exact ⟨⟨by omega, by omega⟩, fun V2 e2 => by rw [e2, ← eC1']; exact z none ax_y_n⟩
  · rw [← eA, ← eN]
    have hA : 0 ≤ A ∧ A < 351 := ⟨by omega, by omega⟩
    refine ⟨hA, fun V1 e1 => ⟨hA, fun V2 e2 => ⟨hA, fun V3 e3 => ?_⟩⟩⟩
    have d1 : V1 222 68 = p := by rw [e1, ax_u_ne (by decide), ep]
    rw [d1] at e2
    have d3 : V3 222 55 = A := by rw [e3, ax_u_ne (by decide), e2, ax_u_ne (by decide), e1, ax_u_ne (by decide), eA]
    rw [d3]
    refine ⟨⟨by omega, by omega⟩, fun V4 e4 => ?_⟩
    have d4 : V4 222 68 = p := by rw [e4, ax_u_k (by decide), e3, ax_u_ne (by decide), e2, ax_u_ne (by decide), e1, ax_u_ne (by decide), ep]
    rw [d4]
    refine ⟨⟨by omega, by omega⟩, fun V5 e5 V6 e6 => ?_⟩
    have e7 : V6 = M1 := by rw [e6, e5, e4, e3, e2, e1, eM1]
    rw [e7]; exact z
end Automaton
