theorem e_half.ci {C M C' M' : ax_V} {p : Int} (h : e_R C M) (k : e_half C M C' M' p) : c_in C' := by
  obtain ⟨⟨-, -, f, -⟩, -, g, -⟩ := k
  have ci := h.ci
  have e1 : (C' 600 1) = (C 600 1) := f.2.2 1 (by decide) (by decide) (by decide) (by decide)
  have e2 : C' 1 = C 1 := f.1 1 (by decide) (by decide)
  have hsz := h.2.1.2.2.1
  have hat := h.2.2.1.1
  refine ⟨by omega, by omega, by rw [e1]; exact ci.2.2.1, fun i i0 i1 => ?_⟩
  rw [e2]
  rw [e1] at i1
  exact ci.2.2.2 i i0 i1
section Within
variable {B r : Nat} {C M : ax_V}
set_option maxHeartbeats 2000000 in
theorem e_within {k : Nat} (ih : e_X B r k) (h : e_R C M) (hk : (M 222 69) + ((k : Int) + 1) = 20) (hv : ¬ m_see M = 0) : e_out e_dig B r (20 * k + 29) q_Reader_readWithin [.ref r] (20 * k + 31) q_Model_readBracket [.ref 222] C M := by
  have hlt := h.lt hv
  have ci := h.ci
  have mi := h.mi
  obtain ⟨hgC, hgM⟩ := id h.1
  obtain ⟨⟨a1, a1b, a1c⟩, a2, a3, -, a5, -, a7⟩ := id h.2.2.1
  obtain ⟨p1, p2, p3⟩ := id h.2.2.2.1
  have hsz := h.2.1.2.2.1
  obtain ⟨C3, eC3⟩ : ∃ X : ax_V, X = ax_u (ax_u (ax_u C 600 11 ((C 600 11) + 1)) 600 6 ((C 600 6) + 1)) 600 12 ((C 600 12) + 1) := ⟨_, rfl⟩
  have x1 : e_mvC C C3 := by rw [eC3]; exact ((e_mvC.rf C).u (by decide)).u (by decide) |>.u (by decide)
  have x2 : ax_g C3 := by rw [eC3]; exact ax_u_g (ax_u_g (ax_u_g hgC ⟨by omega, by omega⟩) ⟨by omega, by omega⟩) ⟨by omega, by omega⟩
  have x3 : (C3 600 6) = (C 600 6) + 1 := by rw [eC3]; simp [ax_u]
  have x4 : (C3 600 11) = (C 600 11) + 1 := by rw [eC3]; simp [ax_u]
  have x5 : (C3 600 12) = (C 600 12) + 1 := by rw [eC3]; simp [ax_u]
  have x6 : (C3 600 13) = (C 600 13) + 0 := by rw [eC3]; simp [ax_u]
  obtain ⟨M1, eM1⟩ : ∃ X : ax_V, X = ax_u (ax_u (ax_u M 222 69 ((M 222 69) + 1)) 222 68 ((M 222 68) + 1)) 222 72 ((M 222 72) + 1) := ⟨_, rfl⟩
  have hgM1 : ax_g M1 := by rw [eM1]; exact ax_u_g (ax_u_g (ax_u_g hgM ⟨by omega, by omega⟩) ⟨by omega, by omega⟩) ⟨by omega, by omega⟩
  have y1 : e_mvM M M1 := by rw [eM1]; exact ((e_mvM.rf M).u (by decide)).u (by decide) |>.u (by decide)
  have y2 : (M1 222 68) = (M 222 68) + 1 := by rw [eM1]; simp [ax_u]
  have y3 : (M1 222 69) = (M 222 69) + 1 := by rw [eM1]; simp [ax_u]
  have y4 : (M1 222 72) = (M 222 72) + 1 := by rw [eM1]; simp [ax_u]
  have y5 : (M1 222 26) = (M 222 26) := y1.2 26 (by decide) (by decide) (by decide) (by decide)
  have y6 : (M1 222 3) = (M 222 3) := y1.2 3 (by decide) (by decide) (by decide) (by decide)
  have h3 : e_R C3 M1 := h.in (w := 1) (by omega) (by omega) (by omega) x1 y1 ⟨x2, hgM1⟩ x3 x4 x5 x6 y2 y3 y4 (Or.inr rfl) (Or.inl rfl)
  have hcl : ∀ (Φ : Int → ax_V → Prop) (Θ : ax_V → Prop), ax_I (az_W B (az_ER B r)) (20 * k + 28) q_Reader_readX [.ref r] C3 (fun r4 V4 => ax_N (az_W B (az_ER B r)) (20 * k + 28) q_Reader_expect [.ref r, ax_i 41] V4 (fun V5 => ax_rg ((V5 600 12) - 1) ∧ (∀ V6, V6 = ax_u V5 600 12 ((V5 600 12) - 1) → ax_rg ((V6 600 11) - 1) ∧ (∀ V7, V7 = ax_u V6 600 11 ((V6 600 11) - 1) → (0 ≤ r4 ∧ r4 < 700) ∧ (∀ V8, V8 = ax_u V7 518 r4 (C 600 6) → Φ r4 V8)))) Θ) Θ → ax_I (az_W B (az_ER B r)) (20 * k + 29) q_Reader_readWithin [.ref r] C Φ Θ := by
    intro Φ Θ hh
    refine r_Reader_readWithin hgC (t_deepen hgC (by omega) (fun _ => ?_) (fun z => by omega))
    have e1 : (ax_u C 600 11 ((C 600 11) + 1)) 600 6 = (C 600 6) := by simp [ax_u]
    rw [e1]
    refine ⟨⟨by omega, by omega⟩, fun V2 e2 => ?_⟩
    have e3 : V2 600 12 = (C 600 12) := by rw [e2]; simp [ax_u]
    rw [e3]
    refine ⟨⟨by omega, by omega⟩, fun V3 e4 => ?_⟩
    rw [e4, e2, ← eC3]
    exact hh
  have hml : ∀ (Φ : Int → ax_V → Prop) (Θ : ax_V → Prop), ax_I ay_lay (20 * k + 30) q_Model_readX [.ref 222] M1 (fun r3 V3 => ((r3 = 0 → Φ 0 V3) ∧ (¬ r3 = 0 → ax_I ay_lay (20 * k + 30) q_Model_want [.ref 222, ax_i 41] V3 (fun r4 V4 => ((r4 = 0 → Φ 0 V4) ∧ (¬ r4 = 0 → ax_rg ((V4 222 72) - 1) ∧ (∀ V5, V5 = ax_u V4 222 72 ((V4 222 72) - 1) → ax_rg ((V5 222 69) - 1) ∧ (∀ V6, V6 = ax_u V5 222 69 ((V5 222 69) - 1) → (0 ≤ V6 222 74 ∧ V6 222 74 < 701) ∧ (∀ V7, V7 = ax_u V6 242 (V6 222 74) (M 222 68) → Φ 1 V7)))))) Θ))) Θ → ax_I ay_lay (20 * k + 31) q_Model_readBracket [.ref 222] M Φ Θ := by
    intro Φ Θ hh
    refine r_Model_readBracket hgM (s_open hgM ⟨by decide, by decide⟩ ⟨by omega, by omega⟩ ⟨by omega, by omega⟩ (fun _ => ⟨fun z => absurd z (by decide), fun _ => ?_⟩) (fun z => by omega))
    have e1 : (ax_u (ax_u M 222 69 ((M 222 69) + 1)) 222 68 ((M 222 68) + 1)) 222 72 = (M 222 72) := by simp [ax_u]
    rw [e1]
    refine ⟨⟨by omega, by omega⟩, fun V2 e2 => ?_⟩
    rw [e2, ← eM1]
    exact hh
  rcases ih C3 M1 h3 (by omega) with ⟨p, C4, M4, ia, ib, ok⟩ | ⟨C4, M4, ia, ib, no⟩ | ⟨p, C4, M4, ia, ib, hf, dg⟩
  · obtain ⟨k1, k2, k3, k4, k5, k6, k7, k8, k9⟩ := id ok
    obtain ⟨hgC4, hgM4⟩ := id k1.1
    obtain ⟨n1, n2, n3⟩ := id k1.2.2.2.1
    obtain ⟨⟨s1, s1b, s1c⟩, s2, s3, -, s5, -, s7⟩ := id k1.2.2.1
    have zsz := k1.2.1.2.2.1
    have hs4 := k1.see
    by_cases w41 : m_see M4 = 41
    · have hl4 := k1.lt (by omega)
      obtain ⟨C7, eC7⟩ : ∃ X : ax_V, X = ax_u (ax_u (c_on C4 1) 600 12 ((C4 600 12) - 1)) 600 11 ((C4 600 11) - 1) := ⟨_, rfl⟩
      obtain ⟨M7, eM7⟩ : ∃ X : ax_V, X = ax_u (ax_u (m_on M4 1) 222 72 ((M4 222 72) - 1)) 222 69 ((M4 222 69) - 1) := ⟨_, rfl⟩
      have z1 : e_mvC C4 C7 := by rw [eC7]; exact (((e_mvC.rf C4).u (by decide)).u (by decide)).u (by decide)
      have w1 : e_mvM M4 M7 := by rw [eM7]; exact (((e_mvM.rf M4).u (by decide)).u (by decide)).u (by decide)
      have z2 : ax_g C7 := by rw [eC7]; exact ax_u_g (ax_u_g (ax_u_g hgC4 ⟨by omega, by omega⟩) ⟨by omega, by omega⟩) ⟨by omega, by omega⟩
      have w2 : ax_g M7 := by rw [eM7]; exact ax_u_g (ax_u_g (ax_u_g hgM4 ⟨by omega, by omega⟩) ⟨by omega, by omega⟩) ⟨by omega, by omega⟩
      have z3 : (C7 600 6) = (C4 600 6) + 1 := by rw [eC7]; simp [c_on, ax_u]
      have z4 : (C7 600 11) = (C4 600 11) - 1 := by rw [eC7]; simp [ax_u]
      have z5 : (C7 600 12) = (C4 600 12) - 1 := by rw [eC7]; simp [ax_u]
      have z6 : (C7 600 13) = (C4 600 13) := by rw [eC7]; simp [c_on, ax_u]
      have w3 : (M7 222 68) = (M4 222 68) + 1 := by rw [eM7]; simp [m_on, ax_u]
      have w4 : (M7 222 69) = (M4 222 69) - 1 := by rw [eM7]; simp [ax_u]
      have w5 : (M7 222 72) = (M4 222 72) - 1 := by rw [eM7]; simp [ax_u]
      have w6 : (M7 222 74) = p := by rw [w1.2 74 (by decide) (by decide) (by decide) (by decide)]; exact k4.1.symm
      have h7 : e_R C7 M7 := k1.mv ⟨z2, w2⟩ z1 w1 ⟨by omega, by omega, by omega⟩ ⟨by omega, by omega, by omega⟩ ⟨by omega, by omega, by omega⟩ ⟨by omega, by omega⟩
      have fin := e_ok.bracket h x1 y1 (by omega) ok h7 z1 w1 (by omega) ⟨by omega, by omega, by omega⟩ (by omega) hlt
      refine Or.inl ⟨p, _, _, ?_, ?_, fin⟩
      · refine hcl _ _ (ia.k (by omega) (fun _ _ => t_expect hgC4 (by decide) k1.ci (fun _ => ?_) (fun z => absurd (by rw [hs4]; exact w41) z)))
        have e1 : (c_on C4 1) 600 12 = (C4 600 12) := by simp [c_on, ax_u]
        rw [e1]
        refine ⟨⟨by omega, by omega⟩, fun V6 e6 => ?_⟩
        have e2 : V6 600 11 = (C4 600 11) := by rw [e6]; simp [c_on, ax_u]
        rw [e2]
        refine ⟨⟨by omega, by omega⟩, fun V7 e7 => ⟨⟨by omega, by omega⟩, fun V8 e8 => ⟨rfl, ?_⟩⟩⟩
        rw [e8, e7, e6, eC7]
      · refine hml _ _ (ib.k (by omega) (fun _ _ => ⟨fun z => absurd z (by decide), fun _ => s_want hgM4 (by decide) k1.mi (fun _ => ⟨fun z => absurd z (by decide), fun _ => ?_⟩) (fun z => absurd w41 z)⟩))
        have e1 : (m_on M4 1) 222 72 = (M4 222 72) := by simp [m_on, ax_u]
        rw [e1]
        refine ⟨⟨by omega, by omega⟩, fun V6 e6 => ?_⟩
        have e2 : V6 222 69 = (M4 222 69) := by rw [e6]; simp [m_on, ax_u]
        rw [e2]
        refine ⟨⟨by omega, by omega⟩, fun V7 e7 => ?_⟩
        have e3 : V7 = M7 := by rw [e7, e6, eM7]
        rw [e3, w6]
        exact ⟨⟨by omega, by omega⟩, fun V8 e8 => ⟨rfl, e8⟩⟩
    · refine Or.inr (Or.inl ⟨C4, M4, ax_Xe.ofI (hcl _ _ (ia.k (by omega) (fun _ _ => t_expect hgC4 (by decide) k1.ci (fun z => absurd (by rw [← hs4]; exact z) w41) (fun _ => rfl)))), hml _ _ (ib.k (by omega) (fun _ _ => ⟨fun z => absurd z (by decide), fun _ => s_want hgM4 (by decide) k1.mi (fun z => absurd z w41) (fun _ => ⟨fun _ => ⟨rfl, rfl⟩, fun z => absurd rfl z⟩)⟩)), k1.1, s1, x1.fr.tr k2 (by omega), y1.fr.tr k3 (by omega)⟩)
  · exact Or.inr (Or.inl ⟨C4, M4, ax_Xe.ofI (hcl _ _ (ia.kI (by omega) (fun _ => rfl))), hml _ _ (ib.k (by omega) (fun _ _ => ⟨fun _ => ⟨rfl, rfl⟩, fun z => absurd rfl z⟩)), no.1, no.2.1, x1.fr.tr no.2.2.1 (by omega), y1.fr.tr no.2.2.2 (by omega)⟩)
  · have n41 : ¬ c_see C4 = 41 := by
      rcases dg with ⟨u, v⟩ | ⟨u, -⟩ <;> omega
    exact Or.inr (Or.inl ⟨C4, M4, ax_Xe.ofI (hcl _ _ (ia.k (by omega) (fun _ _ => t_expect hf.1.1.1 (by decide) (e_half.ci h3 hf) (fun z => absurd z n41) (fun _ => rfl)))), hml _ _ (ib.k (by omega) (fun _ _ => ⟨fun _ => ⟨rfl, rfl⟩, fun z => absurd rfl z⟩)), hf.1.1, hf.1.2.1, x1.fr.tr hf.1.2.2.1 (by omega), y1.fr.tr hf.1.2.2.2 (by omega)⟩)
end Within
