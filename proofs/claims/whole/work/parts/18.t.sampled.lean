/-! SAMPLED PARTS: x@y, x@!y .. -/
theorem e_mvC.tr {C C1 C2 : ax_V} (h : e_mvC C C1) (k : e_mvC C1 C2) : e_mvC C C2 := ⟨fun c hc => (k.1 c hc).trans (h.1 c hc), fun j a b c d => (k.2 j a b c d).trans (h.2 j a b c d)⟩
theorem e_mvM.tr {M M1 M2 : ax_V} (h : e_mvM M M1) (k : e_mvM M1 M2) : e_mvM M M2 := ⟨fun c hc => (k.1 c hc).trans (h.1 c hc), fun j a b c d => (k.2 j a b c d).trans (h.2 j a b c d)⟩
theorem e_mvC.on (C : ax_V) (k : Int) : e_mvC C (c_on C k) := (e_mvC.rf C).u (by decide)
theorem e_mvM.on (M : ax_V) (k : Int) : e_mvM M (m_on M k) := (e_mvM.rf M).u (by decide)
theorem e_nC.mv {C C1 : ax_V} (h : e_nC C C1) : e_mvC C C1 := ⟨h.1, fun k a _ _ _ => h.2 k a⟩
theorem e_nM.mv {M M1 : ax_V} (h : e_nM M M1) : e_mvM M M1 := ⟨h.1, fun k a _ _ b => h.2 k a b⟩
def e_smI (B r d : Nat) (p x3 : Int) (C1 : ax_V) (q : Int) (C' : ax_V) : Prop := ∀ y1 y4 y5, ax_y y1 → ax_y y4 → ax_y y5 → ∀ (Φ : Int → ax_V → Prop) (Θ : ax_V → Prop), (ax_g C' → Φ q C') → k_Reader_sampled_4 B r (d + 5) y1 p x3 y4 y5 C1 Φ Θ
def e_smX (B r d : Nat) (p x3 : Int) (C1 : ax_V) (C' : ax_V) : Prop := ∀ y1 y4 y5, ax_y y1 → ax_y y4 → ax_y y5 → ∀ (Φ : Int → ax_V → Prop) (Θ : ax_V → Prop), (ax_g C' → Θ C') → k_Reader_sampled_4 B r (d + 5) y1 p x3 y4 y5 C1 Φ Θ
def m_jt (d : Nat) (M : ax_V) (x : Int) (M' : ax_V) : Prop := ∀ y1 y2 y3 y4, ax_y y1 → ax_y y2 → ax_y y3 → ax_y y4 → ∀ (Φ : Int → ax_V → Prop) (Θ : ax_V → Prop), (ax_g M' → Φ x M') → k_Model_readJ_9 (d + 5) y1 y2 y3 y4 M Φ Θ
section Sampled
variable {B r d dm : Nat} {C M : ax_V}
set_option maxHeartbeats 2000000 in
theorem e_smp (h : e_R C M) : ∀ (N : Nat) (C1 M1 : ax_V) (p x3 : Int), e_ok C M C1 M1 p → ((M1 222 3) - (M1 222 68)).toNat ≤ N → 0 ≤ x3 → x3 < (M1 222 68) →
    (∃ q C' M', e_smI B r d p x3 C1 q C' ∧ m_jt dm M1 1 M' ∧ e_ok C M C' M' q) ∨ (∃ C' M', e_smX B r d p x3 C1 C' ∧ m_jt dm M1 0 M' ∧ e_no C M C' M') := by
  intro N
  induction N with
  | zero =>
    intro C1 M1 p x3 k1 hN x0 x1
    have hR := k1.1
    have mi := hR.mi
    have ci := hR.ci
    have hs := hR.see
    obtain ⟨hgC1, hgM1⟩ := id hR.1
    have hsz := hR.2.1.2.2.1
    have hat := hR.2.2.1.1
    have q4 := k1.2.2.2.1
    have q5 := hR.2.2.2.1
    have p0 := h.2.2.2.1
    have e0 : m_see M1 = 0 := if_neg (by omega)
    refine Or.inl ⟨p, C1, M1, fun y1 y4 y5 hy1 hy4 hy5 Φ Θ hh => ?_, fun y1 y2 y3 y4 hy1 hy2 hy3 hy4 Φ Θ hh => ?_, k1⟩
    · exact r_Reader_sampled_4 hgC1 hy1 ⟨by omega, by omega⟩ ⟨by omega, by omega⟩ hy4 hy5 ⟨fun _ => hh hgC1, fun _ => ⟨fun _ => t_look hgC1 ci ⟨fun z => by omega, fun _ => hh hgC1⟩, fun _ => hh hgC1⟩⟩
    · exact r_Model_readJ_9 hgM1 hy1 hy2 hy3 hy4 (s_see hgM1 mi ⟨fun z => by omega, fun _ => hh hgM1⟩)
  | succ N ih =>
    intro C1 M1 p x3 k1 hN x0 x1
    have hR := k1.1
    have mi := hR.mi
    have ci := hR.ci
    have hs := hR.see
    obtain ⟨hgC1, hgM1⟩ := id hR.1
    have hsz := hR.2.1.2.2.1
    have hat := hR.2.2.1.1
    have hnd := hR.2.2.1.2.1
    have q4 := k1.2.2.2.1
    have q5 := hR.2.2.2.1
    have p0 := h.2.2.2.1
    have q7 := k1.2.2.2.2.2.2.1
    have rp : ax_rg p := ⟨by omega, by omega⟩
    have rx : ax_rg x3 := ⟨by omega, by omega⟩
    by_cases h64 : m_see M1 = 64
    · by_cases hau : (M1 222 70) = 0
      · have hst : (C1 600 9) = -1 := by rcases hR.2.2.1.2.2.2.2.2.1 with z | z; exact z.2; omega
        have hlt := hR.lt (by omega)
        have h2 := hR.on (k := 1) (by omega) (by omega)
        obtain ⟨hgC2, hgM2⟩ := id h2.1
        have mi2 := h2.mi
        have ci2 := h2.ci
        have hs2 := h2.see
        have na2 : (m_on M1 1) 222 68 = (M1 222 68) + 1 := by simp [m_on, ax_u]
        -- with a ! or without
        obtain ⟨nt, C3, M3, nt01, h3, c3, m3, at3, hcl, hml⟩ : ∃ (nt : Int) (C3 M3 : ax_V), (nt = 0 ∨ nt = 1) ∧ e_R C3 M3 ∧ e_nC C1 C3 ∧ e_nM M1 M3 ∧ (M1 222 68) + 1 ≤ (M3 222 68) ∧ (∀ (Φ : Int → ax_V → Prop) (Θ : ax_V → Prop), ax_I (az_W B (az_ER B r)) (d + 4) q_Reader_takeLetter [.ref r] C3 (fun r2 V2 => ax_rg ((2 * r2) + nt) ∧ Φ ((2 * r2) + nt) V2) Θ → ax_I (az_W B (az_ER B r)) (d + 5) q_Reader_takeClock [.ref r] (c_on C1 1) Φ Θ) ∧ (∀ (y3 y4 : Option Value) (Φ : Int → ax_V → Prop) (Θ : ax_V → Prop), k_Model_readJ_63 (dm + 5) (M1 222 74) (1 - nt) y3 y4 M3 Φ Θ → ax_I ay_lay (dm + 5) q_Model_see [.ref 222] (m_on M1 1) (fun r3 V3 => ((r3 = 33 → ax_rg ((V3 222 68) + 1) ∧ (∀ V4, V4 = ax_u V3 222 68 ((V3 222 68) + 1) → k_Model_readJ_63 (dm + 5) (M1 222 74) 0 y3 y4 V4 Φ Θ)) ∧ (¬ r3 = 33 → k_Model_readJ_63 (dm + 5) (M1 222 74) 1 y3 y4 V3 Φ Θ))) Θ) := by
          by_cases h33 : m_see (m_on M1 1) = 33
          · have hl2 := h2.lt (by omega)
            have nsz : (m_on M1 1) 222 3 = (M1 222 3) := by simp [m_on, ax_u]
            have h4 := h2.on (k := 1) (by omega) (by omega)
            have na4 : (m_on (m_on M1 1) 1) 222 68 = (M1 222 68) + 2 := by simp [m_on, ax_u]; omega
            have ca := h2.2.2.1.1
            refine ⟨1, c_on (c_on C1 1) 1, m_on (m_on M1 1) 1, Or.inr rfl, h4, (e_nC.on C1 1).tr (e_nC.on _ 1), (e_nM.on M1 1).tr (e_nM.on _ 1), by omega, fun Φ Θ hh => ?_, fun y3 y4 Φ Θ hh => ?_⟩
            · refine r_Reader_takeClock hgC2 (t_look hgC2 ci2 ⟨fun _ => ⟨⟨by omega, by omega⟩, fun V3 e3 => ?_⟩, fun z => absurd (by rw [hs2]; exact h33) z⟩)
              rw [show V3 = c_on (c_on C1 1) 1 from e3]
              exact hh
            · refine s_see hgM2 mi2 ⟨fun _ => ⟨⟨by omega, by omega⟩, fun V4 e4 => ?_⟩, fun z => absurd h33 z⟩
              rw [show V4 = m_on (m_on M1 1) 1 from e4]
              exact hh
          · refine ⟨0, c_on C1 1, m_on M1 1, Or.inl rfl, h2, e_nC.on C1 1, e_nM.on M1 1, by omega, fun Φ Θ hh => ?_, fun y3 y4 Φ Θ hh => ?_⟩
            · exact r_Reader_takeClock hgC2 (t_look hgC2 ci2 ⟨fun z => absurd (by rw [← hs2]; exact z) h33, fun _ => hh⟩)
            · exact s_see hgM2 mi2 ⟨fun z => absurd z h33, fun _ => hh⟩
        have nt2 : 0 ≤ nt ∧ nt ≤ 1 := by rcases nt01 with z | z <;> omega
        obtain ⟨hgC3, hgM3⟩ := id h3.1
        have hs3 := h3.see
        have hat3 := h3.2.2.1.1
        have hnd3 := h3.2.2.1.2.1
        have hsz3 := h3.2.1.2.2.1
        have m3p : (M3 222 26) = (M1 222 26) := m3.2 26 (by decide) (by decide)
        have m3t : (M3 222 74) = (M1 222 74) := m3.2 74 (by decide) (by decide)
        have hclass : ∀ y1 y4 y5, ax_y y1 → ax_y y4 → ax_y y5 → ∀ (Φ : Int → ax_V → Prop) (Θ : ax_V → Prop), ax_I (az_W B (az_ER B r)) (d + 4) q_Reader_takeLetter [.ref r] C3 (fun r2 V2 => ax_rg ((2 * r2) + nt) ∧ (0 ≤ p ∧ p < 700) ∧ ax_I (az_W B (az_ER B r)) (d + 5) q_Reader_addPart [.ref r, ax_i 20, ax_i (V2 518 p), ax_i ((V2 600 6) - 1), ax_i ((2 * r2) + nt)] V2 (fun r4 V4 => (0 ≤ r4 ∧ r4 < 700) ∧ (∀ V5, V5 = ax_u V4 521 r4 p → k_Reader_sampled_4 B r (d + 5) y1 r4 (x3 + 1) (some (ax_i ((2 * r2) + nt))) (some (ax_i r4)) V5 Φ Θ)) Θ) Θ → k_Reader_sampled_4 B r (d + 5) y1 p x3 y4 y5 C1 Φ Θ := by
          intro y1 y4 y5 hy1 hy4 hy5 Φ Θ hh
          refine r_Reader_sampled_4 hgC1 hy1 rp rx hy4 hy5 ⟨fun z => by omega, fun _ => ⟨fun _ => t_look hgC1 ci ⟨fun _ => ⟨⟨by omega, by omega⟩, fun V2 e2 => ?_⟩, fun z => absurd (by rw [hs]; exact h64) z⟩, fun z => absurd hst z⟩⟩
          rw [show V2 = c_on C1 1 from e2]
          exact hcl _ _ hh
        have hmodel : ∀ y1 y2 y3 y4, ax_y y1 → ax_y y2 → ax_y y3 → ax_y y4 → ∀ (Φ : Int → ax_V → Prop) (Θ : ax_V → Prop), k_Model_readJ_63 (dm + 5) (M1 222 74) (1 - nt) y3 y4 M3 Φ Θ → k_Model_readJ_9 (dm + 5) y1 y2 y3 y4 M1 Φ Θ := by
          intro y1 y2 y3 y4 hy1 hy2 hy3 hy4 Φ Θ hh
          refine r_Model_readJ_9 hgM1 hy1 hy2 hy3 hy4 (s_see hgM1 mi ⟨fun _ => ⟨fun _ => ⟨⟨by omega, by omega⟩, fun V2 e2 => ?_⟩, fun z => absurd hau z⟩, fun z => absurd h64 z⟩)
          rw [show V2 = m_on M1 1 from e2]
          exact hml y3 y4 Φ Θ hh
        by_cases hl : m_isL M3
        · have hl' : 97 ≤ m_see M3 ∧ m_see M3 ≤ 122 := hl
          have hl3 := h3.lt (by omega)
          have h4 := h3.on (k := 1) (by omega) (by omega)
          obtain ⟨hgC4, hgM4⟩ := id h4.1
          have na4 : (m_on M3 1) 222 68 = (M3 222 68) + 1 := by simp [m_on, ax_u]
          have np4 : (m_on M3 1) 222 26 = (M1 222 26) := by rw [← m3p]; simp [m_on, ax_u]
          have nn4 : (m_on M3 1) 222 10 = (M3 222 10) := by simp [m_on, ax_u]
          have ca4 : (c_on C3 1) 600 6 = (M3 222 68) + 1 := by rw [← hat3.1]; simp [c_on, ax_u]
          have cc4 : (c_on C3 1) 516 0 = (M1 222 26) := by rw [← np4]; exact h4.2.2.2.1.1
          have mid1 := e_mid.first h k1 h4 (c3.mv.tr (e_mvC.on C3 1)) (m3.mv.tr (e_mvM.on M3 1)) (by omega)
          have bp := (h4.2.2.2.2.2 p (by omega) (by omega)).2
          obtain ⟨code, ecode⟩ : ∃ x : Int, x = 2 * ((C3 600 8) * 26 + (m_see M3 - 97)) + nt := ⟨_, rfl⟩
          have rcode : ax_rg code := ⟨by omega, by omega⟩
          obtain ⟨C5, eC5⟩ : ∃ X : ax_V, X = ax_u (c_mk (c_on C3 1) 20 ((c_on C3 1) 518 p) (M3 222 68) code) 521 (M1 222 26) p := ⟨_, rfl⟩
          obtain ⟨M5, eM5⟩ : ∃ X : ax_V, X = ax_u (ax_u (ax_u (m_mk (m_on M3 1) 20 ((m_on M3 1) 242 p) p (-1) (-1)) 248 (M1 222 26) (m_see M3 - 97)) 244 (M1 222 26) (M3 222 68)) 249 (M1 222 26) (1 - nt) := ⟨_, rfl⟩
          have hgM5 : ax_g M5 := by rw [eM5]; exact ax_u_g (ax_u_g (ax_u_g (m_mk_g hgM4 (by decide) (hgM4 _ _) rp (by decide) (by decide) (by rw [np4]; exact ⟨by omega, by omega⟩)) ⟨by omega, by omega⟩) ⟨by omega, by omega⟩) ⟨by omega, by omega⟩
          obtain ⟨b1, b2, b3, b4, b5, b6, b7, b8, b9, b10, b11, b12, b13, b14, b15, b16⟩ := c_mk_at (C := c_on C3 1) (o := 20) (f := (c_on C3 1) 518 p) (a := (M3 222 68)) (w := code) rfl
          obtain ⟨d1, d2, d3, d4, d5, d6, d7, d8, d9, d10, d11, d12, d13, d14, d15, d16, d17, d18⟩ := m_mk_at (M := m_on M3 1) (o := 20) (f := (m_on M3 1) 242 p) (x := p) (y := -1) (z := -1) rfl
          rw [cc4] at b4 b5 b8
          rw [np4] at d3 d12
          have hdt : e_dt C5 M5 (M1 222 26) := by
            have f1 : M5 241 (M1 222 26) = 20 := by rw [eM5]; simp [ax_u, d3]
            have f2 : M5 248 (M1 222 26) = m_see M3 - 97 := by rw [eM5]; simp [ax_u]
            have f3 : M5 244 (M1 222 26) = (M3 222 68) := by rw [eM5]; simp [ax_u]
            have f4 : M5 249 (M1 222 26) = 1 - nt := by rw [eM5]; simp [ax_u]
            have f5 : M5 250 (M1 222 26) = (M3 222 10) := by rw [eM5]; simp [ax_u, d12, nn4]
            have g1 : C5 520 (M1 222 26) = code := by rw [eC5]; simp [ax_u, b5]
            have g2 : C5 519 (M1 222 26) = (M3 222 68) := by rw [eC5]; simp [ax_u, b4]
            have g3 : C5 523 (M1 222 26) = -1 := by rw [eC5]; simp [ax_u, b8]
            unfold e_dt
            rw [f1, f2, f3, f4, f5, g1, g2, g3]
            exact ⟨fun q => by rcases q with q | q <;> omega, fun q => by omega, fun q => by rcases q with q | q | q <;> omega, fun _ => ⟨⟨by omega, by omega⟩, by rcases nt01 with z | z <;> omega, by omega, rfl, ⟨by omega, by omega⟩, rfl⟩, fun q => by omega, fun q => by omega, fun q => by omega⟩
          have k5 : e_ok C M C5 M5 (M1 222 26) := by
            have hlate : (c_on C3 1) 526 p = if (20 : Int) = 6 then 1 else ax_b (0 < (c_on C3 1) 600 13) := by
              rw [if_neg (by decide)]
              have e1 : (c_on C3 1) 526 p = C1 526 p := by rw [show (c_on C3 1) 526 = C3 526 from ax_u_ne (by decide), c3.1 526 (by decide)]
              have e2 : (c_on C3 1) 600 13 = (C1 600 13) := by rw [← c3.2 13 (by decide)]; simp [c_on, ax_u]
              rw [e1, e2, k1.2.2.2.2.1.2.2, q7.2.2]
            have hd3 : (m_on M3 1) 222 69 = (M 222 69) ∧ (m_on M3 1) 222 72 = (M 222 72) ∧ (c_on C3 1) 600 13 = (C 600 13) := by
              refine ⟨?_, ?_, ?_⟩
              · rw [← q7.1, ← m3.2 69 (by decide) (by decide)]; simp [m_on, ax_u]
              · rw [← q7.2.1, ← m3.2 72 (by decide) (by decide)]; simp [m_on, ax_u]
              · rw [← q7.2.2, ← c3.2 13 (by decide)]; simp [c_on, ax_u]
            have hM5 : ∀ c q, ¬ (q = (m_on M3 1) 222 26 ∧ (c = 244 ∨ c = 248 ∨ c = 249)) → M5 c q = m_mk (m_on M3 1) 20 ((m_on M3 1) 242 p) p (-1) (-1) c q := by
              intro c q z
              rw [np4] at z
              rw [eM5, ax_u_o (fun w => z ⟨w.2, Or.inr (Or.inr w.1)⟩), ax_u_o (fun w => z ⟨w.2, Or.inl w.1⟩), ax_u_o (fun w => z ⟨w.2, Or.inr (Or.inl w.1)⟩)]
            have fin := mid1.close1 (M3 := M5) (om := 20) (oc := 20) (f := (m_on M3 1) 242 p) (fc := (c_on C3 1) 518 p) (a := (M3 222 68)) (w := code) (p := p) (fun x => Iff.rfl) hd3 (Or.inr rfl) rfl bp.1 bp.2.1 ⟨by omega, by omega⟩ rcode hgM5 hM5 hlate (by rw [np4, ← eC5]; exact hdt) (mid1.2.2.2.1.2.2.2.2 p (by omega) (by omega)).2.2.2.2.1 (e_opk.au (by rw [← k1.2.2.1.2.2 70 (by decide) (by decide) (by decide) (by decide) (by decide) (by decide)]; exact hau) (by decide))
            rw [np4, ← eC5] at fin
            exact fin
          have k5at : (M5 222 68) = (M3 222 68) + 1 := by rw [eM5]; simp [ax_u, d16, na4]
          have k5sz : (M5 222 3) = (M1 222 3) := by rw [← m3.2 3 (by decide) (by decide), eM5]; simp [m_mk, m_on, ax_u]
          have hc5 : ∀ y1 y4 y5, ax_y y1 → ax_y y4 → ax_y y5 → ∀ (Φ : Int → ax_V → Prop) (Θ : ax_V → Prop), (∀ z4 z5, ax_y z4 → ax_y z5 → k_Reader_sampled_4 B r (d + 5) y1 (M1 222 26) (x3 + 1) z4 z5 C5 Φ Θ) → k_Reader_sampled_4 B r (d + 5) y1 p x3 y4 y5 C1 Φ Θ := by
            intro y1 y4 y5 hy1 hy4 hy5 Φ Θ hh
            refine hclass y1 y4 y5 hy1 hy4 hy5 Φ Θ (t_takeLetter hgC3 h3.ci ⟨by omega, by omega⟩ (fun _ => ?_) (fun z => absurd (by rw [hs3]; exact hl') z))
            rw [hs3, ← ecode, ca4, show (M3 222 68) + 1 - 1 = (M3 222 68) by omega]
            refine ⟨rcode, ⟨by omega, by omega⟩, t_addPart hgC4 (by decide) (hgC4 _ _) ⟨by omega, by omega⟩ rcode (by rw [cc4]; exact ⟨by omega, by omega⟩) ?_⟩
            rw [cc4]
            refine ⟨⟨by omega, by omega⟩, fun V5 e5 => ?_⟩
            rw [e5, ← eC5]
            exact hh _ _ (ax_y_i _) (ax_y_i _)
          have hm5 : ∀ y1 y2 y3 y4, ax_y y1 → ax_y y2 → ax_y y3 → ax_y y4 → ∀ (Φ : Int → ax_V → Prop) (Θ : ax_V → Prop), (∀ z1 z2 z3 z4, ax_y z1 → ax_y z2 → ax_y z3 → ax_y z4 → k_Model_readJ_9 (dm + 5) z1 z2 z3 z4 M5 Φ Θ) → k_Model_readJ_9 (dm + 5) y1 y2 y3 y4 M1 Φ Θ := by
            intro y1 y2 y3 y4 hy1 hy2 hy3 hy4 Φ Θ hh
            refine hmodel y1 y2 y3 y4 hy1 hy2 hy3 hy4 Φ Θ (r_Model_readJ_63 hgM3 (hgM1 _ _) ⟨by omega, by omega⟩ hy3 hy4 (s_takeLetter hgM3 h3.mi (fun _ => ?_) (fun z => absurd hl z)))
            rw [← q4.1]
            refine ⟨fun z => by omega, fun _ => ⟨⟨by omega, by omega⟩, s_makePart hgM4 (by decide) (hgM4 _ _) rp (by decide) (by decide) (by rw [np4]; exact ⟨by omega, by omega⟩) ?_⟩⟩
            rw [np4]
            refine ⟨⟨by omega, by omega⟩, fun V3 e3 => ⟨⟨by omega, by omega⟩, fun V4 e4 => ⟨⟨by omega, by omega⟩, fun V5 e5 => ?_⟩⟩⟩
            rw [e5, e4, e3, ← eM5]
            exact hh _ _ _ _ (ax_y_i _) (ax_y_i _) (ax_y_i _) (ax_y_i _)
          rcases ih C5 M5 (M1 222 26) (x3 + 1) k5 (by rw [k5at, k5sz]; omega) (by omega) (by omega) with ⟨q, C', M', la, lb, lc⟩ | ⟨C', M', la, lb, lc⟩
          · exact Or.inl ⟨q, C', M', fun y1 y4 y5 hy1 hy4 hy5 Φ Θ hh => hc5 y1 y4 y5 hy1 hy4 hy5 Φ Θ (fun z4 z5 w4 w5 => la y1 z4 z5 hy1 w4 w5 Φ Θ hh), fun y1 y2 y3 y4 hy1 hy2 hy3 hy4 Φ Θ hh => hm5 y1 y2 y3 y4 hy1 hy2 hy3 hy4 Φ Θ (fun z1 z2 z3 z4 w1 w2 w3 w4 => lb z1 z2 z3 z4 w1 w2 w3 w4 Φ Θ hh), lc⟩
          · exact Or.inr ⟨C', M', fun y1 y4 y5 hy1 hy4 hy5 Φ Θ hh => hc5 y1 y4 y5 hy1 hy4 hy5 Φ Θ (fun z4 z5 w4 w5 => la y1 z4 z5 hy1 w4 w5 Φ Θ hh), fun y1 y2 y3 y4 hy1 hy2 hy3 hy4 Φ Θ hh => hm5 y1 y2 y3 y4 hy1 hy2 hy3 hy4 Φ Θ (fun z1 z2 z3 z4 w1 w2 w3 w4 => lb z1 z2 z3 z4 w1 w2 w3 w4 Φ Θ hh), lc⟩
        · refine Or.inr ⟨C3, M3, fun y1 y4 y5 hy1 hy4 hy5 Φ Θ hh => hclass y1 y4 y5 hy1 hy4 hy5 Φ Θ (t_takeLetter hgC3 h3.ci ⟨by omega, by omega⟩ (fun z => absurd (by rw [hs3] at z; exact z) hl) (fun _ => hh hgC3)), fun y1 y2 y3 y4 hy1 hy2 hy3 hy4 Φ Θ hh => hmodel y1 y2 y3 y4 hy1 hy2 hy3 hy4 Φ Θ (r_Model_readJ_63 hgM3 (hgM1 _ _) ⟨by omega, by omega⟩ hy3 hy4 (s_takeLetter hgM3 h3.mi (fun z => absurd z hl) (fun _ => ⟨fun _ => hh hgM3, fun z => absurd rfl z⟩))), h3.1, hat3.1, k1.2.1.tr c3.fr (Int.le_refl _), k1.2.2.1.tr m3.fr (Int.le_refl _)⟩
      · have hst : ¬ (C1 600 9) = -1 := by rcases hR.2.2.1.2.2.2.2.2.1 with z | z; exact absurd z.1 hau; omega
        refine Or.inl ⟨p, C1, M1, fun y1 y4 y5 hy1 hy4 hy5 Φ Θ hh => ?_, fun y1 y2 y3 y4 hy1 hy2 hy3 hy4 Φ Θ hh => ?_, k1⟩
        · exact r_Reader_sampled_4 hgC1 hy1 rp rx hy4 hy5 ⟨fun _ => hh hgC1, fun _ => ⟨fun z => absurd z hst, fun _ => hh hgC1⟩⟩
        · exact r_Model_readJ_9 hgM1 hy1 hy2 hy3 hy4 (s_see hgM1 mi ⟨fun _ => ⟨fun z => absurd z hau, fun _ => hh hgM1⟩, fun _ => hh hgM1⟩)
    · refine Or.inl ⟨p, C1, M1, fun y1 y4 y5 hy1 hy4 hy5 Φ Θ hh => ?_, fun y1 y2 y3 y4 hy1 hy2 hy3 hy4 Φ Θ hh => ?_, k1⟩
      · exact r_Reader_sampled_4 hgC1 hy1 rp rx hy4 hy5 ⟨fun _ => hh hgC1, fun _ => ⟨fun _ => t_look hgC1 ci ⟨fun z => absurd (by rw [← hs]; exact z) h64, fun _ => hh hgC1⟩, fun _ => hh hgC1⟩⟩
      · exact r_Model_readJ_9 hgM1 hy1 hy2 hy3 hy4 (s_see hgM1 mi ⟨fun z => absurd z h64, fun _ => hh hgM1⟩)
end Sampled
