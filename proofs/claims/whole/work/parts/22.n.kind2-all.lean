/-! FAULTS 2: the whole of it on each side -/
section Kind2R
variable {B r d : Nat} {C0 M0 C M : ax_V} {Φ : Int → ax_V → Prop} {Ψ Θ : ax_V → Prop}
/-- the class's kind k, node by node: what a node adds to what is blamed -/
theorem t_nodes {kd : Int} {J : ax_V → Int → (Int → Prop) → Prop} {w : Int → Int → Prop} (hS : g_S C0 M0) (rk : ax_rg kd) (hg : ∀ C n T, J C n T → ax_g C ∧ C 500 = C0 500 ∧ ∀ t, (C 601 5) ≤ t ↔ T t) (hof : ∀ C n T T', J C n T → (∀ t, T t ↔ T' t) → J C n T') {y1 : Option Value} (hy1 : ax_y y1) (hk : 2 ≤ kd ∧ kd ≤ 6)
    (step : ∀ C n T, 0 ≤ n → n < (M0 222 86) → J C n T → ∀ Ψ : ax_V → Prop, (∀ C', J C' (n + 1) (fun t => T t ∨ w n t) → Ψ C') → ax_N (az_W B (az_EJ B r)) (d + 4) q_Judge_lookFor [.ref r, ax_i kd, ax_i n] C Ψ Θ) {T : Int → Prop} (h0 : J C 0 T)
    (fin : ∀ C', J C' (M0 222 86) (fun t => T t ∨ ∃ n, (0 ≤ n ∧ n < (M0 222 86)) ∧ w n t) → (700 ≤ (C' 601 5) → ∀ y, ax_y y → k_Judge_judge_7 B r (d + 4) y1 (kd + 1) y C' Φ Θ) ∧ ((C' 601 5) < 700 → Φ kd C')) : ∀ y, ax_y y → k_Judge_judge_7 B r (d + 4) y1 kd y C Φ Θ := by
  have hN := hS.2.1
  intro y hy
  refine r_Judge_judge_7 (hg _ _ _ h0).1 hy1 rk hy ⟨fun q => by omega, fun _ => ?_⟩
  refine ax_for (I := fun n V => (0 ≤ n ∧ n ≤ (M0 222 86)) ∧ J V n (fun t => T t ∨ ∃ x, (0 ≤ x ∧ x < n) ∧ w x t)) (K := fun n V => k_Judge_judge_15 B r (d + 4) y1 kd n V Φ Θ) (hi := (M0 222 86)) (fun n V u hI next => ?_) (fun n V u hI => ?_) 0 C ⟨⟨by decide, by omega⟩, hof _ _ _ _ h0 (fun t => ⟨fun z => Or.inl z, fun z => by rcases z with z | ⟨x, x0, -⟩; exact z; omega⟩)⟩
  · obtain ⟨hn, hV⟩ := hI
    obtain ⟨g1, g2, g3⟩ := hg _ _ _ hV
    refine r_Judge_judge_15 g1 hy1 rk ⟨by omega, by omega⟩ ?_
    rw [g2, hN.2.2.2]
    refine ⟨fun q => by omega, fun _ => step V n _ hn.1 u hV _ (fun C' hC' => next C' ⟨⟨by omega, by omega⟩, hof _ _ _ _ hC' (fun t => ?_)⟩)⟩
    constructor
    · rintro ((z | ⟨x, x0, x1⟩) | z)
      · exact Or.inl z
      · exact Or.inr ⟨x, ⟨x0.1, by omega⟩, x1⟩
      · exact Or.inr ⟨n, ⟨hn.1, by omega⟩, z⟩
    · rintro (z | ⟨x, x0, x1⟩)
      · exact Or.inl (Or.inl z)
      · by_cases v : x = n
        · rw [v] at x1; exact Or.inr x1
        · exact Or.inl (Or.inr ⟨x, ⟨x0.1, by omega⟩, x1⟩)
  · obtain ⟨hn, hV⟩ := hI
    have en : n = (M0 222 86) := by omega
    rw [en] at hV
    obtain ⟨g1, g2, g3⟩ := hg _ _ _ hV
    refine r_Judge_judge_15 g1 hy1 rk ⟨by omega, by omega⟩ ?_
    rw [g2, hN.2.2.2]
    have f := fin V hV
    exact ⟨fun _ => ⟨fun q => f.1 q _ (ax_y_i _), fun q => f.2 q⟩, fun q => by omega⟩
/-- the class's faults 2 -/
theorem t_kind2 {T : Int → Prop} (hS : g_S C0 M0) (hf : g_fr [601] C0 C) (hg : ax_g C) (hT : ∀ t, (C 601 5) ≤ t ↔ T t) {y1 : Option Value} (hy1 : ax_y y1)
    (fin : ∀ C', g_J2 C0 M0 C' (g_hf M0 (C0 509 (M0 222 86))) (fun t => T t ∨ ∃ n, (0 ≤ n ∧ n < (M0 222 86)) ∧ g_w2 C0 M0 n t) → (700 ≤ (C' 601 5) → ∀ y, ax_y y → k_Judge_judge_7 B r (d + 4) y1 3 y C' Φ Θ) ∧ ((C' 601 5) < 700 → Φ 2 C')) : ∀ y, ax_y y → k_Judge_judge_7 B r (d + 4) y1 2 y C Φ Θ := by
  refine t_nodes (kd := 2) (J := fun C n T => g_J2 C0 M0 C (g_hf M0 (C0 509 n)) T) (w := fun n t => g_w2 C0 M0 n t) hS (by decide) (fun C n T h => ⟨h.2.1, h.1 500 (by decide), h.2.2.2.2⟩) (fun C n T T' h k => ⟨h.1, h.2.1, h.2.2.1, h.2.2.2.1, fun t => (h.2.2.2.2 t).trans (k t)⟩) hy1 (by decide) (fun C n T n0 n1 h Ψ k => t_look2 hS n0 n1 h k) (hS.first hg hf hT) fin
/-- the model's faults 2 -/
theorem s_kind2 (hS : g_S C0 M0) (k : ∀ M', g_M2 C0 M0 M' (M0 222 86) (fun _ => True) (fun _ => True) (fun t => m_nb M0 ≤ t ∨ ∃ n, (0 ≤ n ∧ n < (M0 222 86)) ∧ g_v2 M0 n t) → Ψ M') : ax_N ay_lay (d + 5) q_Model_checkKind [.ref 222, ax_i 2] M0 Ψ Θ := by
  have hN := hS.2.1
  have hg0 := hS.1.2
  have first : ∀ s, 0 ≤ s → s < 26 * (M0 222 86) → M0 239 s = -1 ∧ M0 238 s = -1 := fun s s0 s1 => by
    have f := hS.l (n := s / 26) (l := s % 26) (by omega) (by omega) (by omega) (by omega)
    rw [show 26 * (s / 26) + s % 26 = s by omega] at f
    exact ⟨f.2.2.2.2.2.2, f.2.2.2.2.2.1⟩
  refine r_Model_checkKind hg0 (by decide) ⟨fun _ => ?_, fun q => absurd q (by decide), fun q => absurd q (by decide), fun q => absurd q (by decide), fun q => absurd rfl q⟩
  refine ax_for (I := fun n V => (0 ≤ n ∧ n ≤ (M0 222 86)) ∧ ∃ m0, g_M2 C0 M0 V m0 (fun q => M0 250 q < n) (fun i => M0 258 (g_eo M0 i) < n) (fun t => m_nb M0 ≤ t ∨ ∃ x, (0 ≤ x ∧ x < n) ∧ g_v2 M0 x t)) (K := fun n V => k_Model_checkKind_34 (d + 4) (some (ax_i 2)) n V Ψ Θ) (hi := (M0 222 86)) (fun n V w hI next => ?_) (fun n V w hI => ?_) 0 M0 ⟨⟨by decide, by omega⟩, (M0 222 10), ⟨g_fr.rf _ _, g_sc.rf _ _, hg0, rfl⟩, fun q q0 q1 q2 => by have := (hS.pnode q0 q1).1.1; omega, fun s s0 s1 => ⟨Or.inl ⟨(first s s0 s1).1, fun i i0 i1 i2 => by have := (hS.slot i0 i1).2.2.1.1; omega⟩, Or.inl ⟨(first s s0 s1).2, fun i i0 i1 i2 => by have := (hS.slot i0 i1).2.2.1.1; omega⟩⟩, fun t w => ⟨fun z => Or.inl z, fun z => by rcases z with z | ⟨x, x0, -⟩; exact z; omega⟩⟩
  · obtain ⟨hn, m0, hV⟩ := hI
    refine r_Model_checkKind_34 hV.1.2.2.1 (ax_y_i _) ⟨by omega, by omega⟩ ?_
    rw [hV.1.2.1 86 (by decide)]
    refine ⟨fun q => by omega, fun _ => s_checkNames hS hV hn.1 w (fun M' hM' => next M' ⟨⟨by omega, by omega⟩, n, (hM'.of (fun t w => ?_)).sub (fun q q0 q1 q2 => ?_) (fun i i0 i1 => ?_)⟩)⟩
    · constructor
      · rintro ((z | ⟨x, x0, x1⟩) | z)
        · exact Or.inl z
        · exact Or.inr ⟨x, ⟨x0.1, by omega⟩, x1⟩
        · exact Or.inr ⟨n, ⟨hn.1, by omega⟩, z⟩
      · rintro (z | ⟨x, x0, x1⟩)
        · exact Or.inl (Or.inl z)
        · by_cases v : x = n
          · rw [v] at x1; exact Or.inr x1
          · exact Or.inl (Or.inr ⟨x, ⟨x0.1, by omega⟩, x1⟩)
    · by_cases v : M0 250 q = n
      · exact Or.inr v
      · exact Or.inl (by omega)
    · constructor
      · rintro (z | z) <;> omega
      · intro z
        by_cases v : M0 258 (g_eo M0 i) = n
        · exact Or.inr v
        · exact Or.inl (by omega)
  · obtain ⟨hn, m0, hV⟩ := hI
    have en : n = (M0 222 86) := by omega
    rw [en] at hV
    refine r_Model_checkKind_34 hV.1.2.2.1 (ax_y_i _) ⟨by omega, by omega⟩ ?_
    rw [hV.1.2.1 86 (by decide)]
    refine ⟨fun _ V1 e1 => k V1 ?_, fun q => by omega⟩
    have h2 := hV.sub (P' := fun _ => True) (D' := fun _ => True) (fun q q0 q1 _ => (hS.pnode q0 q1).1.2) (fun i i0 i1 => ⟨fun _ => trivial, fun _ => (hS.slot i0 i1).2.2.1.2⟩)
    obtain ⟨⟨a1, a2, a3, a4⟩, b, c, e⟩ := h2
    refine ⟨⟨by rw [e1]; exact a1.u (by decide), by rw [e1]; exact a2.u (by decide), by rw [e1]; exact ax_u_g a3 ⟨by omega, by omega⟩, by rw [e1]; exact ax_u_s _ _ _ _⟩, by rw [e1, ax_u_ne (by decide)]; exact b, fun s s0 s1 => by rw [e1, ax_u_ne (by decide), ax_u_ne (by decide)]; exact c s s0 s1, fun t w => ?_⟩
    have : m_nb V1 = m_nb V := by unfold m_nb; rw [e1, ax_u_k (by decide)]
    rw [this]; exact e t w
end Kind2R
