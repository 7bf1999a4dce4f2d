/-! ALL FLOWS OF A ROW -/
theorem f_go.kM {bad : ax_V → Prop} {Pc : f_PC} {Kc : ax_V → f_PC} {Pm : f_PM} {Km Km' : ax_V → f_PM} {C M : ax_V} {Q : ax_V → ax_V → Prop} (h : f_go bad Pc Kc Pm Km C M Q) (hk : ∀ M' Φ Θ, Km' M' Φ Θ → Km M' Φ Θ) : f_go bad Pc Kc Pm Km' C M Q := by
  rcases h with ⟨C', M', a, b, q⟩ | h | ⟨C', M', a, b, q⟩
  · exact Or.inl ⟨C', M', a, fun Φ Θ z => b Φ Θ (hk M' Φ Θ z), q⟩
  · exact Or.inr (Or.inl h)
  · exact Or.inr (Or.inr ⟨C', M', a, b, q⟩)
section Flows
variable {B r dc dm : Nat}
/-- one flow, from the model's loop head to its end -/
theorem f_flow {C M : ax_V} {y3 y4 y5 y6 y7 : Option Value} {k : Int} (hy3 : ax_y y3) (hy4 : ax_y y4) (hy5 : ax_y y5) (hy6 : ax_y y6) (hy7 : ax_y y7) (h : e_R C M) (hLL : f_LL C M ((M 222 10) + 1)) (hk : k = 1 ∨ k = 2 ∨ k = 3) :
    ∃ z2 z3 z4 z5 z6 z7, (ax_y z2 ∧ ax_y z3 ∧ ax_y z4 ∧ ax_y z5 ∧ ax_y z6 ∧ ax_y z7) ∧ f_go e_dig (fun Φ Θ => ax_N (az_W B (az_ER B r)) (dc + 4) q_Reader_readFlow [.ref r, ax_i k] C Φ Θ) (fun C' Φ _ => Φ C') (fun Φ Θ => k_Model_readFlows_2 (dm + 4) k 1 y3 y4 y5 y6 y7 M Φ Θ) (fun M' Φ Θ => k_Model_readFlows_373 (dm + 4) k z2 z3 z4 z5 z6 z7 M' Φ Θ) C M (fun C' M' => e_R C' M' ∧ (f_gC C C' ∧ f_gM M M') ∧ f_LL C' M' ((M' 222 10) + 1) ∧ (M 222 68) + 2 ≤ (M' 222 68) ∧ (M' 222 10) = (M 222 10) ∧ ((M' 222 73) = -1 → k = 2 → 1 ≤ M' 228 (M' 222 10))) := by
  have hck := hLL.2.2.1.1
  have hat := h.2.2.1.1
  have hsz := h.2.1.2.2.1
  have rat : ax_rg (M 222 68) := ⟨by omega, by omega⟩
  obtain ⟨l, el⟩ : ∃ v : Int, v = m_see M - 97 := ⟨_, rfl⟩
  obtain ⟨ch, ec⟩ : ∃ v : Int, v = m_see (m_on M 1) := ⟨_, rfl⟩
  obtain ⟨x, ex⟩ : ∃ v : Int, v = if M 232 (26 * (M 222 10) + l) = 0 then 0 else 1 := ⟨_, rfl⟩
  obtain ⟨t, et⟩ : ∃ v : Int, v = if ch = 98 then 1 else 0 := ⟨_, rfl⟩
  have hx : x = 0 ∨ x = 1 := by rw [ex]; split; exact Or.inl rfl; exact Or.inr rfl
  have ht : t = 0 ∨ t = 1 := by rw [et]; split; exact Or.inr rfl; exact Or.inl rfl
  refine ⟨some (ax_i 1), some (ax_i (M 222 68)), some (ax_i l), some (ax_i (26 * (M 222 10) + l)), some (ax_i x), some (ax_i t), ⟨ax_y_i _, ax_y_i _, ax_y_i _, ax_y_i _, ax_y_i _, ax_y_i _⟩, ?_⟩
  refine (f_tellF hy3 hy4 hy5 hy6 hy7 h hLL hk el ec ex et).bind0 (fun C1 M1 q1 => ?_)
  obtain ⟨m1, hl, ⟨a1, n1, c1⟩, g1, u1⟩ := q1
  have k1 := f_clock (B := B) (r := r) (dc := dc) (dm := dm) (y2 := some (ax_i 1)) (y3 := some (ax_i (M 222 68))) (y5 := some (ax_i ch)) (y7 := none) (p := (M 222 68)) (t := t) (ax_y_i _) (ax_y_i _) (ax_y_i _) ax_y_n m1 hk hl hx ht ⟨by omega, by omega⟩ (by omega) (by rw [n1]; exact g1) u1
  rw [n1] at k1
  refine k1.bind0 (fun C2 M2 q2 => ?_)
  obtain ⟨m2, g2, a2, n2⟩ := q2
  have k2 := f_last (B := B) (r := r) (dc := dc) (dm := dm) (y2 := some (ax_i 1)) (y3 := some (ax_i (M 222 68))) (y5 := some (ax_i ch)) (p := (M 222 68)) (t := t) (ax_y_i _) (ax_y_i _) (ax_y_i _) m2 hk hl hx ht rat (by rw [n2]; exact g2)
  rw [n2] at k2
  refine k2.bind (fun C3 M3 q3 => ?_) (fun C3 hg ci w => Or.inr ⟨C3, fun Φ Θ z => z, rfl, f_fC.rf C3, hg, ci, w⟩)
  obtain ⟨m3, a3, n3⟩ := q3
  refine (f_end (dm := dm + 4) (y2 := some (ax_i 1)) (p := (M 222 68)) (ax_y_i _) (ax_y_i _) (ax_y_i _) m3 hk hl hx rat).any.mono (fun C4 M4 q4 => ?_)
  obtain ⟨v1, v2, v3, v4, v5, v6⟩ := q4
  exact ⟨v1, v2, v3, by omega, by omega, v6⟩
theorem f_flowsL {k : Int} (hk : k = 1 ∨ k = 2 ∨ k = 3) : ∀ (m : Nat) (C M : ax_V) (x : Int) (y3 y4 y5 y6 y7 : Option Value), ax_y y3 → ax_y y4 → ax_y y5 → ax_y y6 → ax_y y7 → e_R C M → f_LL C M ((M 222 10) + 1) → 700 - (M 222 68) ≤ (m : Int) → 0 ≤ x → 2 * x ≤ (M 222 68) →
    f_go e_dig (fun Φ Θ => k_Reader_readFlows_2 B r (dc + 4) k x C Φ Θ) (fun C' Φ _ => Φ C') (fun Φ Θ => k_Model_readFlows_2 (dm + 4) k 1 y3 y4 y5 y6 y7 M Φ Θ) (fun M' Φ _ => Φ 1 M') C M (fun C' M' => e_R C' M' ∧ (f_gC C C' ∧ f_gM M M') ∧ f_LL C' M' ((M' 222 10) + 1) ∧ (M 222 68) + 2 ≤ (M' 222 68) ∧ (M' 222 10) = (M 222 10) ∧ ((M' 222 73) = -1 → k = 2 → 1 ≤ M' 228 (M' 222 10))) := by
  have rk : ax_rg k := ⟨by omega, by omega⟩
  intro m
  induction m with
  | zero =>
    intro C M x y3 y4 y5 y6 y7 hy3 hy4 hy5 hy6 hy7 h hLL hm x0 x1
    have hat := h.2.2.1.1
    have hsz := h.2.1.2.2.1
    have hgM := h.1.2
    have e : m_see M = 0 := if_neg (by omega)
    have hs := h.see
    have hn := h.2.2.1.2.1
    exact f_go.stop (C' := C) (M' := M) (fun Φ Θ z => r_Reader_readFlows_2 h.1.1 rk ⟨by omega, by omega⟩ ⟨fun q => by omega, fun _ => r_Reader_readFlow h.1.1 rk (t_takeLetter h.1.1 h.ci (by rw [hn.1]; exact hn.2) (fun q => by omega) (fun _ => z))⟩) (fun Φ Θ z => r_Model_readFlows_2 hgM rk (by decide) hy3 hy4 hy5 hy6 hy7 ⟨fun q => absurd q (by decide), fun _ => s_takeLetter hgM h.mi (fun q => by have := q.1; omega) (fun _ => ⟨fun _ => z, fun q => absurd rfl q⟩)⟩) ⟨h.1, hat.1, f_fC.rf C, f_fM.rf M⟩
  | succ m ih =>
    intro C M x y3 y4 y5 y6 y7 hy3 hy4 hy5 hy6 hy7 h hLL hm x0 x1
    have hat := h.2.2.1.1
    have hsz := h.2.1.2.2.1
    obtain ⟨z2, z3, z4, z5, z6, z7, ⟨v2, v3, v4, v5, v6, v7⟩, kf⟩ := f_flow (B := B) (r := r) (dc := dc) (dm := dm) hy3 hy4 hy5 hy6 hy7 h hLL hk
    have k1 := kf.cont (L := fun V1 Φ Θ => ax_I (az_W B (az_ER B r)) (dc + 4) q_Reader_look [.ref r] V1 (fun r2 V2 => ((r2 = 44 → ax_rg ((V2 600 6) + 1) ∧ (∀ V3, V3 = ax_u V2 600 6 ((V2 600 6) + 1) → k_Reader_readFlows_2 B r (dc + 4) k (x + 1) V3 Φ Θ)) ∧ (¬ r2 = 44 → Φ V2))) Θ)
    refine (k1.bind (fun C1 M1 q1 => ?_) (fun C1 hg ci w => ?_)).of (fun Φ Θ z => r_Reader_readFlows_2 h.1.1 rk ⟨by omega, by omega⟩ ⟨fun q => by omega, fun _ => z⟩) (fun Φ Θ z => z)
    · obtain ⟨R1, ⟨gC, gM⟩, L1, a1, n1, o1⟩ := q1
      obtain ⟨hgC1, hgM1⟩ := id R1.1
      have hat1 := R1.2.2.1.1
      have hsz1 := R1.2.1.2.2.1
      have hs1 := R1.see
      have sz : (M1 222 3) = (M 222 3) := gM.2.1 3 (by decide) (by decide) (by decide) (by decide)
      by_cases w : m_see M1 = 44
      · have hlt := R1.lt (by omega)
        have R2 : e_R (c_on C1 1) (m_on M1 1) := R1.on (by decide) (by omega)
        have nC := e_nC.on C1 1
        have nM := e_nM.on M1 1
        have a2 : (m_on M1 1) 222 68 = (M1 222 68) + 1 := ax_u_s _ _ _ _
        have n2 : (m_on M1 1) 222 10 = (M1 222 10) := ax_u_k (by decide)
        have L2 : f_LL (c_on C1 1) (m_on M1 1) ((m_on M1 1) 222 10 + 1) := by
          rw [n2]
          exact L1.keep (fun c _ => nC.1 c (by omega)) (fun c _ => nM.1 c (by omega)) (nC.2 7 (by decide)) (nM.2 73 (by decide) (by decide)) (nM.2 77 (by decide) (by decide)) (by omega)
        have k2 := ih (c_on C1 1) (m_on M1 1) (x + 1) z3 z4 z5 z6 z7 v3 v4 v5 v6 v7 R2 L2 (by omega) (by omega) (by omega)
        have fC2 : f_gC C (c_on C1 1) := gC.tr nC.g
        have fM2 : f_gM M (m_on M1 1) := gM.tr nM.g
        refine ((k2.base fC2.f fM2.f).of (fun Φ Θ z => t_look hgC1 R1.ci ⟨fun _ => ⟨⟨by omega, by omega⟩, fun V3 e3 => by rw [e3]; exact z⟩, fun q => absurd (hs1.trans w) q⟩) (fun Φ Θ z => r_Model_readFlows_373 hgM1 rk v2 v3 v4 v5 v6 v7 (s_see hgM1 R1.mi ⟨fun _ => ⟨⟨by omega, by omega⟩, fun V3 e3 => by rw [e3]; exact z⟩, fun q => absurd w q⟩))).mono (fun C3 M3 q3 => ?_)
        obtain ⟨u1, ⟨u2, u3⟩, u4, u5, u6, u7⟩ := q3
        exact ⟨u1, ⟨fC2.tr u2, fM2.tr u3⟩, u4, by omega, by omega, u7⟩
      · have e0 : ax_u M1 222 68 (M1 222 68 + 0) = M1 := by
          funext c i
          unfold ax_u
          split
          · next z => rw [z.1, z.2, Int.add_zero]
          · rfl
        refine f_go.ok (C' := C1) (M' := M1) (fun Φ Θ z => t_look hgC1 R1.ci ⟨fun q => absurd (hs1.symm.trans q) w, fun _ => z⟩) (fun Φ Θ z => r_Model_readFlows_373 hgM1 rk v2 v3 v4 v5 v6 v7 (s_see hgM1 R1.mi ⟨fun q => absurd q w, fun _ => ⟨⟨by omega, by omega⟩, fun V2 e2 => ?_⟩⟩)) ⟨R1, ⟨gC, gM⟩, L1, a1, n1, o1⟩
        rw [e2, e0]
        exact r_Model_readFlows_2 hgM1 rk (by decide) v3 v4 v5 v6 v7 ⟨fun _ => z, fun q => absurd rfl q⟩
    · have hd : 48 ≤ c_see C1 ∧ c_see C1 ≤ 57 := w
      exact Or.inr ⟨C1, fun Φ Θ z => t_look hg ci ⟨fun q => by omega, fun _ => z⟩, rfl, f_fC.rf C1, hg, ci, w⟩
theorem f_readFlows {C M : ax_V} {k : Int} (hk : k = 1 ∨ k = 2 ∨ k = 3) (h : e_R C M) (hLL : f_LL C M ((M 222 10) + 1)) : f_go e_dig (fun Φ Θ => ax_N (az_W B (az_ER B r)) (dc + 5) q_Reader_readFlows [.ref r, ax_i k] C Φ Θ) (fun C' Φ _ => Φ C') (fun Φ Θ => ax_I ay_lay (dm + 5) q_Model_readFlows [.ref 222, ax_i k] M Φ Θ) (fun M' Φ _ => Φ 1 M') C M (fun C' M' => e_R C' M' ∧ (f_gC C C' ∧ f_gM M M') ∧ f_LL C' M' ((M' 222 10) + 1) ∧ (M 222 68) + 2 ≤ (M' 222 68) ∧ (M' 222 10) = (M 222 10) ∧ ((M' 222 73) = -1 → k = 2 → 1 ≤ M' 228 (M' 222 10))) := by
  have hat := h.2.2.1.1
  have rk : ax_rg k := ⟨by omega, by omega⟩
  exact (f_flowsL hk 700 C M 0 none none none none none ax_y_n ax_y_n ax_y_n ax_y_n ax_y_n h hLL (by omega) (by decide) (by omega)).of (fun Φ Θ z => r_Reader_readFlows h.1.1 rk z) (fun Φ Θ z => r_Model_readFlows h.1.2 rk z)
end Flows
