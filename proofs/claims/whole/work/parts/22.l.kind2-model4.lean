/-! THE MODEL, FAULTS 2: states; a node; all nodes -/
/-- the faults of names of a node, as the model sees them -/
def g_v2 (M : ax_V) (n t : Int) : Prop := ((∃ k, 0 ≤ k ∧ k < n ∧ M 226 k = M 226 n) ∧ M 287 n ≤ t) ∨ (∃ j, (0 ≤ j ∧ j < (M 222 77)) ∧ M 281 j = n ∧ g_nt M (26 * n + M 279 j) ∧ M 280 j ≤ t) ∨ (∃ q, (0 ≤ q ∧ q < (M 222 26)) ∧ M 250 q = n ∧ g_bp M q t) ∨ (∃ e i, g_of M e i ∧ M 258 e = n ∧ g_bl M i t) ∨ (∃ l, (0 ≤ l ∧ l < 26) ∧ (M 232 (26 * n + l) = 2 ∨ M 232 (26 * n + l) = 3) ∧ (¬ ∃ e i, g_of M e i ∧ M 258 e = n ∧ M 265 i = l) ∧ M 234 (26 * n + l) ≤ t) ∨ ∃ a, (0 ≤ a ∧ a < (M 222 55)) ∧ M 267 a = n ∧ g_bs M a t
section Kind2P
variable {d : Nat} {M0 C0 M : ax_V} {n : Int} {P D : Int → Prop} {T : Int → Prop} {Ψ Θ : ax_V → Prop}
set_option maxHeartbeats 2000000 in
theorem s_checkStates {a : Int} (hS : g_S C0 M0) (h : g_M2 C0 M0 M n P D T) (ha : 0 ≤ a ∧ a < (M0 222 55)) (k : ∀ M', g_M2 C0 M0 M' n P D (fun t => T t ∨ g_bs M0 a t) → Ψ M') : ax_N ay_lay (d + 3) q_Model_checkStates [.ref 222, ax_i a] M Ψ Θ := by
  have hat := hS.2.2.2.2.2.2.2
  have hct := hS.2.2.2.2.1.1
  have hc3 := hct.2.2.1
  have hc5 := hct.2.2.2.2.1
  obtain ⟨fa, fac⟩ := hS.au ha.1 ha.2
  have fac2 := fac.2
  have b : 0 ≤ a ∧ a < 351 := ⟨ha.1, by omega⟩
  have ra : ax_rg a := ⟨by omega, by omega⟩
  obtain ⟨N, eN⟩ : ∃ N : Int, N = M0 269 a := ⟨_, rfl⟩
  rw [← eN] at fac2
  have pl := fa.2.1.2
  -- the letters
  have lets : ∀ V T1, g_M2 C0 M0 V n P D T1 → (∀ t, t < 701 → (T1 t ↔ (T t ∨ ∃ m, (0 ≤ m ∧ m < (M0 222 60)) ∧ M0 271 m = a ∧ N ≤ M0 275 m ∧ M0 278 m ≤ t))) → ∀ y3 y4, ax_y y3 → ax_y y4 → k_Model_checkStates_53 (d + 2) a 0 y3 y4 V Ψ Θ := by
    intro V T1 hV hT1
    refine ax_for (I := fun l V => (0 ≤ l ∧ l ≤ 26) ∧ g_M2 C0 M0 V n P D (fun t => T1 t ∨ ((∃ l' s s', (0 ≤ l' ∧ l' < l) ∧ (0 ≤ s ∧ s < N) ∧ (0 ≤ s' ∧ s' < N) ∧ g_in M0 a s l' ∧ ¬ g_in M0 a s' l') ∧ M0 268 a ≤ t))) (K := fun l V => ∀ y3 y4, ax_y y3 → ax_y y4 → k_Model_checkStates_53 (d + 2) a l y3 y4 V Ψ Θ) (hi := 26) (fun l V w hI next y3 y4 hy3 hy4 => ?_) (fun l V w hI y3 y4 hy3 hy4 => ?_) 0 V ⟨⟨by decide, by decide⟩, hV.of (fun t w => ⟨fun z => Or.inl z, fun z => by rcases z with z | ⟨⟨l', s, s', hl', -⟩, -⟩; exact z; omega⟩)⟩
    · obtain ⟨hl, hV⟩ := hI
      have rl : ax_rg l := ⟨by omega, by omega⟩
      refine r_Model_checkStates_53 hV.1.2.2.1 ra rl hy3 hy4 ⟨fun q => by omega, fun _ => ?_⟩
      have cnt := ax_for (I := fun s W => W = V ∧ (0 ≤ s ∧ s ≤ N)) (K := fun s W => ∀ x, (0 ≤ x ∧ x ≤ s) → (x = 0 ↔ ∀ u, 0 ≤ u → u < s → ¬ g_in M0 a u l) → (x = s ↔ ∀ u, 0 ≤ u → u < s → g_in M0 a u l) → k_Model_checkStates_64 (d + 2) a l x s W Ψ Θ) (hi := N) (fun s W w2 hI2 next2 x hx x0 x1 => ?_) (fun s W w2 hI2 x hx x0 x1 => ?_)
      · exact cnt 0 V ⟨rfl, by decide, by omega⟩ 0 ⟨by decide, by decide⟩ ⟨fun _ u u0 u1 => by omega, fun _ => rfl⟩ ⟨fun _ u u0 u1 => by omega, fun _ => rfl⟩
      · obtain ⟨eW, hs⟩ := hI2
        subst eW
        refine r_Model_checkStates_64 hV.1.2.2.1 ra rl ⟨by omega, by omega⟩ ⟨by omega, by omega⟩ ⟨b, ?_⟩
        rw [hV.1.1 269 (by decide), ← eN]
        refine ⟨fun q => by omega, fun _ => s_isIn hS hV.1.2.2.1 hV.mE ra ⟨by omega, by omega⟩ rl ?_⟩
        by_cases z : g_in M0 a s l
        · rw [show @ax_b (g_in M0 a s l) (Classical.propDecidable _) = 1 from if_pos z]
          refine ⟨fun q => absurd q (by decide), fun _ => next2 W ⟨rfl, by omega, by omega⟩ (x + 1) ⟨by omega, by omega⟩ ⟨fun q => by omega, fun q => absurd z (q s hs.1 (by omega))⟩ ⟨fun q u u0 u1 => ?_, fun q => ?_⟩⟩
          · by_cases y : u = s
            · rw [y]; exact z
            · exact x1.mp (by omega) u u0 (by omega)
          · have := x1.mpr (fun u u0 u1 => q u u0 (by omega)); omega
        · rw [show @ax_b (g_in M0 a s l) (Classical.propDecidable _) = 0 from if_neg z]
          refine ⟨fun _ => next2 W ⟨rfl, by omega, by omega⟩ (x + 0) ⟨by omega, by omega⟩ ⟨fun q u u0 u1 => ?_, fun q => ?_⟩ ⟨fun q => by omega, fun q => absurd (q s hs.1 (by omega)) z⟩, fun q => absurd rfl q⟩
          · by_cases y : u = s
            · rw [y]; exact z
            · exact x0.mp (by omega) u u0 (by omega)
          · have := x0.mpr (fun u u0 u1 => q u u0 (by omega)); omega
      · obtain ⟨eW, hs⟩ := hI2
        subst eW
        have es : s = N := by omega
        rw [es] at x0 x1 hx
        have mix : (0 < x ∧ x < N) ↔ ∃ s s', (0 ≤ s ∧ s < N) ∧ (0 ≤ s' ∧ s' < N) ∧ g_in M0 a s l ∧ ¬ g_in M0 a s' l := by
          constructor
          · intro q
            have q1 : ¬ ∀ u, 0 ≤ u → u < N → ¬ g_in M0 a u l := fun z => by have := x0.mpr z; omega
            have q2 : ¬ ∀ u, 0 ≤ u → u < N → g_in M0 a u l := fun z => by have := x1.mpr z; omega
            have e1 : ∃ u, (0 ≤ u ∧ u < N) ∧ g_in M0 a u l := Classical.byContradiction (fun z => q1 (fun u u0 u1 u2 => z ⟨u, ⟨u0, u1⟩, u2⟩))
            have e2 : ∃ u, (0 ≤ u ∧ u < N) ∧ ¬ g_in M0 a u l := Classical.byContradiction (fun z => q2 (fun u u0 u1 => Classical.byContradiction (fun u2 => z ⟨u, ⟨u0, u1⟩, u2⟩)))
            obtain ⟨u, u0, u1⟩ := e1
            obtain ⟨v, v0, v1⟩ := e2
            exact ⟨u, v, u0, v0, u1, v1⟩
          · rintro ⟨u, v, u0, v0, u1, v1⟩
            refine ⟨?_, ?_⟩
            · rcases Int.lt_or_le 0 x with z | z
              · exact z
              · exact absurd u1 (x0.mp (by omega) u u0.1 u0.2)
            · rcases Int.lt_or_le x N with z | z
              · exact z
              · exact absurd (x1.mp (by omega) v v0.1 v0.2) v1
        have fin : ∀ W2 T2, g_M2 C0 M0 W2 n P D T2 → (∀ t, t < 701 → (T2 t ↔ ((T1 t ∨ ((∃ l' s s', (0 ≤ l' ∧ l' < l) ∧ (0 ≤ s ∧ s < N) ∧ (0 ≤ s' ∧ s' < N) ∧ g_in M0 a s l' ∧ ¬ g_in M0 a s' l') ∧ M0 268 a ≤ t)) ∨ ((0 < x ∧ x < N) ∧ M0 268 a ≤ t)))) → ∀ y3 y4, ax_y y3 → ax_y y4 → k_Model_checkStates_53 (d + 2) a (l + 1) y3 y4 W2 Ψ Θ := by
          intro W2 T2 h2 hT2
          refine next W2 ⟨⟨by omega, by omega⟩, h2.of (fun t w => ?_)⟩
          rw [hT2 t w, mix]
          constructor
          · rintro ((z | ⟨⟨l', u, v, z1, z2⟩, z3⟩) | ⟨⟨u, v, z2⟩, z3⟩)
            · exact Or.inl z
            · exact Or.inr ⟨⟨l', u, v, ⟨z1.1, by omega⟩, z2⟩, z3⟩
            · exact Or.inr ⟨⟨l, u, v, ⟨hl.1, by omega⟩, z2⟩, z3⟩
          · rintro (z | ⟨⟨l', u, v, z1, z2⟩, z3⟩)
            · exact Or.inl (Or.inl z)
            · by_cases y : l' = l
              · rw [y] at z2; exact Or.inr ⟨⟨u, v, z2⟩, z3⟩
              · exact Or.inl (Or.inr ⟨⟨l', u, v, ⟨z1.1, by omega⟩, z2⟩, z3⟩)
        refine r_Model_checkStates_64 hV.1.2.2.1 ra rl ⟨by omega, by omega⟩ ⟨by omega, by omega⟩ ⟨b, ?_⟩
        rw [hV.1.1 269 (by decide), hV.1.1 268 (by decide), ← eN]
        refine ⟨fun _ => ⟨fun q => fin W _ hV (fun t _ => ⟨fun z => Or.inl z, fun z => by rcases z with z | z; exact z; omega⟩) _ _ (ax_y_i _) (ax_y_i _), fun q => ⟨b, fun q2 => fin W _ hV (fun t _ => ⟨fun z => Or.inl z, fun z => by rcases z with z | z; exact z; omega⟩) _ _ (ax_y_i _) (ax_y_i _), fun q2 => ⟨b, s_noteE hV.1.2.2.1 ⟨by omega, by omega⟩ (fin _ _ (hV.nt pl) (fun t _ => ⟨fun z => by rcases z with z | z; exact Or.inl z; exact Or.inr ⟨⟨q, q2⟩, z⟩, fun z => by rcases z with z | z; exact Or.inl z; exact Or.inr z.2⟩) _ _ (ax_y_i _) (ax_y_i _))⟩⟩⟩, fun q => by omega⟩
    · obtain ⟨hl, hV⟩ := hI
      have el : l = 26 := by omega
      refine r_Model_checkStates_53 hV.1.2.2.1 ra ⟨by omega, by omega⟩ hy3 hy4 ⟨fun _ => k V (hV.of (fun t w => ?_)), fun q => by omega⟩
      unfold g_bs
      rw [hT1 t w, el, ← eN]
      constructor
      · rintro ((z | z) | z)
        · exact Or.inl z
        · exact Or.inr (Or.inr z)
        · exact Or.inr (Or.inl z)
      · rintro (z | z | z)
        · exact Or.inl (Or.inl z)
        · exact Or.inr z
        · exact Or.inl (Or.inr z)
  refine r_Model_checkStates h.1.2.2.1 ra ?_
  refine ax_for (I := fun m V => (0 ≤ m ∧ m ≤ (M0 222 60)) ∧ g_M2 C0 M0 V n P D (fun t => T t ∨ ∃ x, (0 ≤ x ∧ x < m) ∧ M0 271 x = a ∧ N ≤ M0 275 x ∧ M0 278 x ≤ t)) (K := fun m V => ∀ y3 y4, ax_y y3 → ax_y y4 → k_Model_checkStates_2 (d + 2) a m y3 y4 V Ψ Θ) (hi := (M0 222 60)) (fun m V w hI next y3 y4 hy3 hy4 => ?_) (fun m V w hI y3 y4 hy3 hy4 => ?_) 0 M ⟨⟨by decide, by omega⟩, h.of (fun t w => ⟨fun z => Or.inl z, fun z => by rcases z with z | ⟨x, x0, -⟩; exact z; omega⟩)⟩ none none ax_y_n ax_y_n
  · obtain ⟨hm, hV⟩ := hI
    have ft7 := (hS.2.2.2.2.1.2.2.2.2.1 m hm.1 w).2.2.2.2.2.2.1.2
    have b2 : 0 ≤ m ∧ m < 351 := ⟨hm.1, by omega⟩
    have go : ∀ W T2, g_M2 C0 M0 W n P D T2 → (∀ t, t < 701 → (T2 t ↔ ((T t ∨ ∃ x, (0 ≤ x ∧ x < m) ∧ M0 271 x = a ∧ N ≤ M0 275 x ∧ M0 278 x ≤ t) ∨ (M0 271 m = a ∧ N ≤ M0 275 m ∧ M0 278 m ≤ t)))) → k_Model_checkStates_2 (d + 2) a (m + 1) y3 y4 W Ψ Θ := by
      intro W T2 h2 hT2
      refine next W ⟨⟨by omega, by omega⟩, h2.of (fun t w => ?_)⟩ y3 y4 hy3 hy4
      rw [hT2 t w]
      constructor
      · rintro ((z | ⟨x, x0, x1⟩) | z)
        · exact Or.inl z
        · exact Or.inr ⟨x, ⟨x0.1, by omega⟩, x1⟩
        · exact Or.inr ⟨m, ⟨hm.1, by omega⟩, z⟩
      · rintro (z | ⟨x, x0, x1⟩)
        · exact Or.inl (Or.inl z)
        · by_cases y : x = m
          · rw [y] at x1; exact Or.inr x1
          · exact Or.inl (Or.inr ⟨x, ⟨x0.1, by omega⟩, x1⟩)
    refine r_Model_checkStates_2 hV.1.2.2.1 ra ⟨by omega, by omega⟩ hy3 hy4 ?_
    rw [hV.1.2.1 60 (by decide), hV.1.1 271 (by decide), hV.1.1 275 (by decide), hV.1.1 269 (by decide), hV.1.1 278 (by decide), ← eN]
    refine ⟨fun q => by omega, fun _ => ⟨b2, fun q => ⟨b2, b, fun q2 => go V _ hV (fun t _ => ⟨fun z => Or.inl z, fun z => by rcases z with z | z; exact z; omega⟩), fun q2 => ⟨b2, s_noteE hV.1.2.2.1 ⟨by omega, by omega⟩ (go _ _ (hV.nt ft7) (fun t _ => ⟨fun z => by rcases z with z | z; exact Or.inl z; exact Or.inr ⟨q, q2, z⟩, fun z => by rcases z with z | z; exact Or.inl z; exact Or.inr z.2.2⟩))⟩⟩, fun q => go V _ hV (fun t _ => ⟨fun z => Or.inl z, fun z => by rcases z with z | z; exact z; exact absurd z.1 q⟩)⟩⟩
  · obtain ⟨hm, hV⟩ := hI
    have em : m = (M0 222 60) := by omega
    rw [em] at hV
    refine r_Model_checkStates_2 hV.1.2.2.1 ra ⟨by omega, by omega⟩ hy3 hy4 ?_
    rw [hV.1.2.1 60 (by decide)]
    exact ⟨fun _ => lets V _ hV (fun t w => Iff.rfl) _ _ hy3 hy4, fun q => by omega⟩
set_option maxHeartbeats 4000000 in
theorem s_checkNames (hS : g_S C0 M0) {m0 : Int} (h : g_M2 C0 M0 M m0 P D T) (n0 : 0 ≤ n) (n1 : n < (M0 222 86)) (k : ∀ M', g_M2 C0 M0 M' n (fun q => P q ∨ M0 250 q = n) (fun i => D i ∨ M0 258 (g_eo M0 i) = n) (fun t => T t ∨ g_v2 M0 n t) → Ψ M') : ax_N ay_lay (d + 4) q_Model_checkNames [.ref 222, ax_i n] M Ψ Θ := by
  have hN := hS.2.1
  have hat := hS.2.2.2.2.2.2.2
  have hct := hS.2.2.2.2.1.1
  have hc1 := hct.1
  have hc3 := hct.2.2.1
  have p0 := hS.2.2.1.1
  have hn : 0 ≤ n ∧ n < 8 := ⟨n0, by omega⟩
  have rn : ax_rg n := ⟨by omega, by omega⟩
  have pl := (hS.2.2.2.2.1.2.2.2.2.2.2.2.2.2.1 n n0 (by omega)).2.2.2.2
  have hck := hS.2.2.2.1.2.2.1
  have b9 : 0 ≤ n ∧ n < 9 := ⟨n0, by omega⟩
  -- automata
  have s6 : ∀ V P' D' T1, g_M2 C0 M0 V n P' D' T1 → (∀ M', g_M2 C0 M0 M' n P' D' (fun t => T1 t ∨ ∃ a, (0 ≤ a ∧ a < (M0 222 55)) ∧ M0 267 a = n ∧ g_bs M0 a t) → Ψ M') → ∀ y, ax_y y → k_Model_checkNames_232 (d + 3) n 0 y V Ψ Θ := by
    intro V P' D' T1 hV kk
    refine ax_for (I := fun a V => (0 ≤ a ∧ a ≤ (M0 222 55)) ∧ g_M2 C0 M0 V n P' D' (fun t => T1 t ∨ ∃ x, (0 ≤ x ∧ x < a) ∧ M0 267 x = n ∧ g_bs M0 x t)) (K := fun a V => ∀ y, ax_y y → k_Model_checkNames_232 (d + 3) n a y V Ψ Θ) (hi := (M0 222 55)) (fun a V w hI next y hy => ?_) (fun a V w hI y hy => ?_) 0 V ⟨⟨by decide, by omega⟩, hV.of (fun t w => ⟨fun z => Or.inl z, fun z => by rcases z with z | ⟨x, x0, -⟩; exact z; omega⟩)⟩
    · obtain ⟨ha, hV⟩ := hI
      refine r_Model_checkNames_232 hV.1.2.2.1 rn ⟨by omega, by omega⟩ hy ?_
      rw [hV.1.2.1 55 (by decide), hV.1.1 267 (by decide)]
      refine ⟨fun q => by omega, fun _ => ⟨⟨by omega, by omega⟩, fun q => s_checkStates hS hV ⟨ha.1, w⟩ (fun M' hM' => next M' ⟨⟨by omega, by omega⟩, hM'.of (fun t w => ?_)⟩ y hy), fun q => next V ⟨⟨by omega, by omega⟩, hV.of (fun t w => ?_)⟩ y hy⟩⟩
      · constructor
        · rintro ((z | ⟨x, x0, x1⟩) | z)
          · exact Or.inl z
          · exact Or.inr ⟨x, ⟨x0.1, by omega⟩, x1⟩
          · exact Or.inr ⟨a, ⟨ha.1, by omega⟩, q, z⟩
        · rintro (z | ⟨x, x0, x1⟩)
          · exact Or.inl (Or.inl z)
          · by_cases y : x = a
            · rw [y] at x1; exact Or.inr x1.2
            · exact Or.inl (Or.inr ⟨x, ⟨x0.1, by omega⟩, x1⟩)
      · constructor
        · rintro (z | ⟨x, x0, x1⟩)
          · exact Or.inl z
          · exact Or.inr ⟨x, ⟨x0.1, by omega⟩, x1⟩
        · rintro (z | ⟨x, x0, x1⟩)
          · exact Or.inl z
          · by_cases y : x = a
            · rw [y] at x1; exact absurd x1.1 q
            · exact Or.inr ⟨x, ⟨x0.1, by omega⟩, x1⟩
    · obtain ⟨ha, hV⟩ := hI
      have ea : a = (M0 222 55) := by omega
      rw [ea] at hV
      refine r_Model_checkNames_232 hV.1.2.2.1 rn ⟨by omega, by omega⟩ hy ?_
      rw [hV.1.2.1 55 (by decide)]
      exact ⟨fun _ => kk V hV, fun q => by omega⟩
  -- letters that have no equation
  have s5 : ∀ V P' D' T1, g_M2 C0 M0 V n P' D' T1 → (∀ M', g_M2 C0 M0 M' n P' D' (fun t => T1 t ∨ ∃ l, (0 ≤ l ∧ l < 26) ∧ (M0 232 (26 * n + l) = 2 ∨ M0 232 (26 * n + l) = 3) ∧ (¬ ∃ e i, g_of M0 e i ∧ M0 258 e = n ∧ M0 265 i = l) ∧ M0 234 (26 * n + l) ≤ t) → ∀ y, ax_y y → k_Model_checkNames_232 (d + 3) n 0 y M' Ψ Θ) → ∀ y, ax_y y → k_Model_checkNames_157 (d + 3) n 0 y V Ψ Θ := by
    intro V P' D' T1 hV kk
    refine ax_for (I := fun l V => (0 ≤ l ∧ l ≤ 26) ∧ g_M2 C0 M0 V n P' D' (fun t => T1 t ∨ ∃ x, (0 ≤ x ∧ x < l) ∧ (M0 232 (26 * n + x) = 2 ∨ M0 232 (26 * n + x) = 3) ∧ (¬ ∃ e i, g_of M0 e i ∧ M0 258 e = n ∧ M0 265 i = x) ∧ M0 234 (26 * n + x) ≤ t)) (K := fun l V => ∀ y, ax_y y → k_Model_checkNames_157 (d + 3) n l y V Ψ Θ) (hi := 26) (fun l V w hI next y hy => ?_) (fun l V w hI y hy => ?_) 0 V ⟨⟨by decide, by decide⟩, hV.of (fun t w => ⟨fun z => Or.inl z, fun z => by rcases z with z | ⟨x, x0, -⟩; exact z; omega⟩)⟩
    · obtain ⟨hl, hV⟩ := hI
      have rl : ax_rg l := ⟨by omega, by omega⟩
      have f := hS.l n0 n1 hl.1 w
      have b2 : 0 ≤ 26 * n + l ∧ 26 * n + l < 240 := ⟨by omega, by omega⟩
      have go : ∀ W T2, g_M2 C0 M0 W n P' D' T2 → (∀ t, t < 701 → (T2 t ↔ ((T1 t ∨ ∃ x, (0 ≤ x ∧ x < l) ∧ (M0 232 (26 * n + x) = 2 ∨ M0 232 (26 * n + x) = 3) ∧ (¬ ∃ e i, g_of M0 e i ∧ M0 258 e = n ∧ M0 265 i = x) ∧ M0 234 (26 * n + x) ≤ t) ∨ ((M0 232 (26 * n + l) = 2 ∨ M0 232 (26 * n + l) = 3) ∧ (¬ ∃ e i, g_of M0 e i ∧ M0 258 e = n ∧ M0 265 i = l) ∧ M0 234 (26 * n + l) ≤ t)))) → ∀ y, ax_y y → k_Model_checkNames_157 (d + 3) n (l + 1) y W Ψ Θ := by
        intro W T2 h2 hT2
        refine next W ⟨⟨by omega, by omega⟩, h2.of (fun t w => ?_)⟩
        rw [hT2 t w]
        constructor
        · rintro ((z | ⟨x, x0, x1⟩) | z)
          · exact Or.inl z
          · exact Or.inr ⟨x, ⟨x0.1, by omega⟩, x1⟩
          · exact Or.inr ⟨l, ⟨hl.1, by omega⟩, z⟩
        · rintro (z | ⟨x, x0, x1⟩)
          · exact Or.inl (Or.inl z)
          · by_cases y : x = l
            · rw [y] at x1; exact Or.inr x1
            · exact Or.inl (Or.inr ⟨x, ⟨x0.1, by omega⟩, x1⟩)
      -- with a kind that must have one
      have must : (M0 232 (26 * n + l) = 2 ∨ M0 232 (26 * n + l) = 3) → ax_I ay_lay (d + 3) q_Model_isLeft [.ref 222, ax_i n, ax_i l] V (fun r2 V2 => ((r2 = 0 → ax_I ay_lay (d + 3) q_Model_at [.ref 222, ax_i l] V2 (fun r3 V3 => (0 ≤ r3 ∧ r3 < 240) ∧ ax_N ay_lay (d + 3) q_Model_note [.ref 222, ax_i (V3 234 r3)] V3 (fun V4 => k_Model_checkNames_157 (d + 3) n (l + 1) (some (ax_i 1)) V4 Ψ Θ) Θ) Θ) ∧ (¬ r2 = 0 → k_Model_checkNames_157 (d + 3) n (l + 1) (some (ax_i 1)) V2 Ψ Θ))) Θ := by
        intro kd
        have u := f.2.2.1 (by omega)
        refine s_isLeft hS hV.1.2.2.1 hV.mE rn rl ?_
        by_cases z : ∃ e i, g_of M0 e i ∧ M0 258 e = n ∧ M0 265 i = l
        · rw [show @ax_b (∃ e i, g_of M0 e i ∧ M0 258 e = n ∧ M0 265 i = l) (Classical.propDecidable _) = 1 from if_pos z]
          exact ⟨fun q => absurd q (by decide), fun _ => go V _ hV (fun t _ => ⟨fun y => Or.inl y, fun y => by rcases y with y | y; exact y; exact absurd z y.2.1⟩) _ (ax_y_i _)⟩
        · rw [show @ax_b (∃ e i, g_of M0 e i ∧ M0 258 e = n ∧ M0 265 i = l) (Classical.propDecidable _) = 0 from if_neg z]
          refine ⟨fun _ => s_atJ hV hn ⟨hl.1, w⟩ ⟨b2, ?_⟩, fun q => absurd rfl q⟩
          rw [hV.1.1 234 (by decide)]
          have := u.2.1
          exact s_noteE hV.1.2.2.1 ⟨by omega, by omega⟩ (go _ _ (hV.nt u.2.1) (fun t _ => ⟨fun y => by rcases y with y | y; exact Or.inl y; exact Or.inr ⟨kd, z, y⟩, fun y => by rcases y with y | y; exact Or.inl y; exact Or.inr y.2.2⟩) _ (ax_y_i _))
      refine r_Model_checkNames_157 hV.1.2.2.1 rn rl hy ⟨fun q => by omega, fun _ => s_atJ hV hn ⟨hl.1, w⟩ ?_⟩
      rw [hV.1.1 232 (by decide)]
      refine ⟨b2, fun q => must (Or.inl q), fun q => s_atJ hV hn ⟨hl.1, w⟩ ?_⟩
      rw [hV.1.1 232 (by decide)]
      exact ⟨b2, fun q2 => must (Or.inr q2), fun q2 => go V _ hV (fun t _ => ⟨fun y => Or.inl y, fun y => by rcases y with y | y; exact y; omega⟩) _ (ax_y_i _)⟩
    · obtain ⟨hl, hV⟩ := hI
      have el : l = 26 := by omega
      rw [el] at hV
      exact r_Model_checkNames_157 hV.1.2.2.1 rn ⟨by omega, by omega⟩ hy ⟨fun _ => kk V hV y hy, fun q => by omega⟩
  -- equations
  have s4 : ∀ V P' T1, g_M2 C0 M0 V n P' D T1 → (∀ M', g_M2 C0 M0 M' n P' (fun i => D i ∨ M0 258 (g_eo M0 i) = n) (fun t => T1 t ∨ ∃ e i, g_of M0 e i ∧ M0 258 e = n ∧ g_bl M0 i t) → ∀ y, ax_y y → k_Model_checkNames_157 (d + 3) n 0 y M' Ψ Θ) → ∀ y, ax_y y → k_Model_checkNames_126 (d + 3) n 0 y V Ψ Θ := by
    intro V P' T1 hV kk
    refine ax_for (I := fun e V => (0 ≤ e ∧ e ≤ (M0 222 44)) ∧ g_M2 C0 M0 V n P' (fun i => D i ∨ (M0 258 (g_eo M0 i) = n ∧ g_eo M0 i < e)) (fun t => T1 t ∨ ∃ x i, x < e ∧ g_of M0 x i ∧ M0 258 x = n ∧ g_bl M0 i t)) (K := fun e V => ∀ y, ax_y y → k_Model_checkNames_126 (d + 3) n e y V Ψ Θ) (hi := (M0 222 44)) (fun e V w hI next y hy => ?_) (fun e V w hI y hy => ?_) 0 V ⟨⟨by decide, by omega⟩, (hV.of (fun t w => ⟨fun z => Or.inl z, fun z => by rcases z with z | ⟨x, i, x0, x1, -⟩; exact z; have := x1.1.1; omega⟩)).sub (fun _ _ _ z => z) (fun i i0 i1 => ⟨fun z => Or.inl z, fun z => by rcases z with z | z; exact z; have := (hS.eo i0 i1).1.1; omega⟩)⟩
    · obtain ⟨he, hV⟩ := hI
      refine r_Model_checkNames_126 hV.1.2.2.1 rn ⟨by omega, by omega⟩ hy ?_
      rw [hV.1.2.1 44 (by decide), hV.1.1 258 (by decide)]
      refine ⟨fun q => by omega, fun _ => ⟨⟨by omega, by omega⟩, fun q => s_checkLefts hS hV n0 n1 ⟨he.1, w⟩ q (fun M' hM' => next M' ⟨⟨by omega, by omega⟩, (hM'.of (fun t w => ?_)).sub (fun _ _ _ z => z) (fun i i0 i1 => ?_)⟩ y hy), fun q => next V ⟨⟨by omega, by omega⟩, (hV.of (fun t w => ?_)).sub (fun _ _ _ z => z) (fun i i0 i1 => ?_)⟩ y hy⟩⟩
      · constructor
        · rintro ((z | ⟨x, i, x0, x1⟩) | ⟨i, i0, z⟩)
          · exact Or.inl z
          · exact Or.inr ⟨x, i, by omega, x1⟩
          · exact Or.inr ⟨e, i, by omega, i0, q, z⟩
        · rintro (z | ⟨x, i, x0, x1, x2, x3⟩)
          · exact Or.inl (Or.inl z)
          · by_cases y : x = e
            · rw [y] at x1; exact Or.inr ⟨i, x1, x3⟩
            · exact Or.inl (Or.inr ⟨x, i, by omega, x1, x2, x3⟩)
      · constructor
        · rintro ((z | z) | z)
          · exact Or.inl z
          · exact Or.inr ⟨z.1, by omega⟩
          · exact Or.inr ⟨by rw [z]; exact q, by omega⟩
        · rintro (z | z)
          · exact Or.inl (Or.inl z)
          · by_cases y : g_eo M0 i = e
            · exact Or.inr y
            · exact Or.inl (Or.inr ⟨z.1, by omega⟩)
      · constructor
        · rintro (z | ⟨x, i, x0, x1⟩)
          · exact Or.inl z
          · exact Or.inr ⟨x, i, by omega, x1⟩
        · rintro (z | ⟨x, i, x0, x1, x2, x3⟩)
          · exact Or.inl z
          · by_cases y : x = e
            · rw [y] at x2; exact absurd x2 q
            · exact Or.inr ⟨x, i, by omega, x1, x2, x3⟩
      · constructor
        · rintro (z | z)
          · exact Or.inl z
          · exact Or.inr ⟨z.1, by omega⟩
        · rintro (z | z)
          · exact Or.inl z
          · by_cases y : g_eo M0 i = e
            · rw [y] at z; exact absurd z.1 q
            · exact Or.inr ⟨z.1, by omega⟩
    · obtain ⟨he, hV⟩ := hI
      have ee : e = (M0 222 44) := by omega
      refine r_Model_checkNames_126 hV.1.2.2.1 rn ⟨by omega, by omega⟩ hy ?_
      rw [hV.1.2.1 44 (by decide)]
      refine ⟨fun _ => kk V ((hV.of (fun t w => ?_)).sub (fun _ _ _ z => z) (fun i i0 i1 => ?_)) y hy, fun q => by omega⟩
      · constructor
        · rintro (z | ⟨x, i, x0, x1⟩)
          · exact Or.inl z
          · exact Or.inr ⟨x, i, x1⟩
        · rintro (z | ⟨x, i, x1⟩)
          · exact Or.inl z
          · exact Or.inr ⟨x, i, by have := x1.1.1.2; omega, x1⟩
      · constructor
        · rintro (z | z)
          · exact Or.inl z
          · exact Or.inr z.1
        · rintro (z | z)
          · exact Or.inl z
          · exact Or.inr ⟨z, by have := (hS.eo i0 i1).1.2; omega⟩
  -- parts
  have s3 : ∀ V T1, g_M2 C0 M0 V n P D T1 → (∀ M', g_M2 C0 M0 M' n (fun q => P q ∨ M0 250 q = n) D (fun t => T1 t ∨ ∃ q, (0 ≤ q ∧ q < (M0 222 26)) ∧ M0 250 q = n ∧ g_bp M0 q t) → ∀ y, ax_y y → k_Model_checkNames_126 (d + 3) n 0 y M' Ψ Θ) → ∀ y, ax_y y → k_Model_checkNames_95 (d + 3) n 0 y V Ψ Θ := by
    intro V T1 hV kk
    refine ax_for (I := fun q V => (0 ≤ q ∧ q ≤ (M0 222 26)) ∧ g_M2 C0 M0 V n (fun x => P x ∨ (M0 250 x = n ∧ x < q)) D (fun t => T1 t ∨ ∃ x, (0 ≤ x ∧ x < q) ∧ M0 250 x = n ∧ g_bp M0 x t)) (K := fun q V => ∀ y, ax_y y → k_Model_checkNames_95 (d + 3) n q y V Ψ Θ) (hi := (M0 222 26)) (fun q V w hI next y hy => ?_) (fun q V w hI y hy => ?_) 0 V ⟨⟨by decide, by omega⟩, (hV.of (fun t w => ⟨fun z => Or.inl z, fun z => by rcases z with z | ⟨x, x0, -⟩; exact z; omega⟩)).sub (fun x x0 x1 z => by rcases z with z | z; exact z; omega) (fun _ _ _ => Iff.rfl)⟩
    · obtain ⟨hq, hV⟩ := hI
      refine r_Model_checkNames_95 hV.1.2.2.1 rn ⟨by omega, by omega⟩ hy ?_
      rw [hV.1.2.1 26 (by decide), hV.1.1 250 (by decide)]
      refine ⟨fun z => by omega, fun _ => ⟨⟨by omega, by omega⟩, fun z => s_checkPart hS hV n0 n1 hq.1 w z (fun M' hM' => next M' ⟨⟨by omega, by omega⟩, (hM'.of (fun t w => ?_)).sub (fun x x0 x1 u => ?_) (fun _ _ _ => Iff.rfl)⟩ y hy), fun z => next V ⟨⟨by omega, by omega⟩, (hV.of (fun t w => ?_)).sub (fun x x0 x1 u => ?_) (fun _ _ _ => Iff.rfl)⟩ y hy⟩⟩
      · constructor
        · rintro ((u | ⟨x, x0, x1⟩) | u)
          · exact Or.inl u
          · exact Or.inr ⟨x, ⟨x0.1, by omega⟩, x1⟩
          · exact Or.inr ⟨q, ⟨hq.1, by omega⟩, z, u⟩
        · rintro (u | ⟨x, x0, x1, x2⟩)
          · exact Or.inl (Or.inl u)
          · by_cases v : x = q
            · rw [v] at x2; exact Or.inr x2
            · exact Or.inl (Or.inr ⟨x, ⟨x0.1, by omega⟩, x1, x2⟩)
      · rcases u with u | u
        · exact Or.inl (Or.inl u)
        · by_cases v : x = q
          · exact Or.inr v
          · exact Or.inl (Or.inr ⟨u.1, by omega⟩)
      · constructor
        · rintro (u | ⟨x, x0, x1⟩)
          · exact Or.inl u
          · exact Or.inr ⟨x, ⟨x0.1, by omega⟩, x1⟩
        · rintro (u | ⟨x, x0, x1, x2⟩)
          · exact Or.inl u
          · by_cases v : x = q
            · rw [v] at x1; exact absurd x1 z
            · exact Or.inr ⟨x, ⟨x0.1, by omega⟩, x1, x2⟩
      · rcases u with u | u
        · exact Or.inl u
        · by_cases v : x = q
          · rw [v] at u; exact absurd u.1 z
          · exact Or.inr ⟨u.1, by omega⟩
    · obtain ⟨hq, hV⟩ := hI
      have eq : q = (M0 222 26) := by omega
      refine r_Model_checkNames_95 hV.1.2.2.1 rn ⟨by omega, by omega⟩ hy ?_
      rw [hV.1.2.1 26 (by decide)]
      refine ⟨fun _ => kk V ((hV.of (fun t w => ?_)).sub (fun x x0 x1 u => ?_) (fun _ _ _ => Iff.rfl)) y hy, fun z => by omega⟩
      · rw [eq]
      · rcases u with u | u
        · exact Or.inl u
        · exact Or.inr ⟨u, by omega⟩
  -- clocks
  have s2 : ∀ V T1, g_M2 C0 M0 V n P D T1 → (∀ M', g_M2 C0 M0 M' n P D (fun t => T1 t ∨ ∃ j, (0 ≤ j ∧ j < (M0 222 77)) ∧ M0 281 j = n ∧ g_nt M0 (26 * n + M0 279 j) ∧ M0 280 j ≤ t) → ∀ y, ax_y y → k_Model_checkNames_95 (d + 3) n 0 y M' Ψ Θ) → ∀ y, ax_y y → k_Model_checkNames_53 (d + 3) n 0 y V Ψ Θ := by
    intro V T1 hV kk
    have hk1 := hck.1
    refine ax_for (I := fun j V => (0 ≤ j ∧ j ≤ (M0 222 77)) ∧ g_M2 C0 M0 V n P D (fun t => T1 t ∨ ∃ x, (0 ≤ x ∧ x < j) ∧ M0 281 x = n ∧ g_nt M0 (26 * n + M0 279 x) ∧ M0 280 x ≤ t)) (K := fun j V => ∀ y, ax_y y → k_Model_checkNames_53 (d + 3) n j y V Ψ Θ) (hi := (M0 222 77)) (fun j V w hI next y hy => ?_) (fun j V w hI y hy => ?_) 0 V ⟨⟨by decide, by omega⟩, hV.of (fun t w => ⟨fun z => Or.inl z, fun z => by rcases z with z | ⟨x, x0, -⟩; exact z; omega⟩)⟩
    · obtain ⟨hj, hV⟩ := hI
      have cj := hck.2.2 j hj.1 w
      have b2 : 0 ≤ j ∧ j < 240 := ⟨hj.1, by omega⟩
      have go : ∀ W T2, g_M2 C0 M0 W n P D T2 → (∀ t, t < 701 → (T2 t ↔ ((T1 t ∨ ∃ x, (0 ≤ x ∧ x < j) ∧ M0 281 x = n ∧ g_nt M0 (26 * n + M0 279 x) ∧ M0 280 x ≤ t) ∨ (M0 281 j = n ∧ g_nt M0 (26 * n + M0 279 j) ∧ M0 280 j ≤ t)))) → k_Model_checkNames_53 (d + 3) n (j + 1) y W Ψ Θ := by
        intro W T2 h2 hT2
        refine next W ⟨⟨by omega, by omega⟩, h2.of (fun t w => ?_)⟩ y hy
        rw [hT2 t w]
        constructor
        · rintro ((z | ⟨x, x0, x1⟩) | z)
          · exact Or.inl z
          · exact Or.inr ⟨x, ⟨x0.1, by omega⟩, x1⟩
          · exact Or.inr ⟨j, ⟨hj.1, by omega⟩, z⟩
        · rintro (z | ⟨x, x0, x1⟩)
          · exact Or.inl (Or.inl z)
          · by_cases v : x = j
            · rw [v] at x1; exact Or.inr x1
            · exact Or.inl (Or.inr ⟨x, ⟨x0.1, by omega⟩, x1⟩)
      refine r_Model_checkNames_53 hV.1.2.2.1 rn ⟨by omega, by omega⟩ hy ?_
      rw [hV.1.2.1 77 (by decide), hV.1.1 279 (by decide), hV.1.1 280 (by decide), hV.1.1 281 (by decide)]
      refine ⟨fun q => by omega, fun _ => ⟨b2, fun q => ⟨b2, b2, s_needTruth hV hn cj.2.1 cj.2.2.1 (fun z => go _ _ (hV.nt cj.2.2.1) (fun t _ => ?_)) (fun z => go V _ hV (fun t _ => ?_))⟩, fun q => go V _ hV (fun t _ => ?_)⟩⟩
      · exact ⟨fun u => by rcases u with u | u; exact Or.inl u; exact Or.inr ⟨q, z, u⟩, fun u => by rcases u with u | u; exact Or.inl u; exact Or.inr u.2.2⟩
      · exact ⟨fun u => Or.inl u, fun u => by rcases u with u | u; exact u; exact absurd u.2.1 z⟩
      · exact ⟨fun u => Or.inl u, fun u => by rcases u with u | u; exact u; exact absurd u.1 q⟩
    · obtain ⟨hj, hV⟩ := hI
      have ej : j = (M0 222 77) := by omega
      rw [ej] at hV
      refine r_Model_checkNames_53 hV.1.2.2.1 rn ⟨by omega, by omega⟩ hy ?_
      rw [hV.1.2.1 77 (by decide)]
      exact ⟨fun _ => kk V hV y hy, fun q => by omega⟩
  refine r_Model_checkNames h.1.2.2.1 rn (fun V1 e1 => ?_)
  have h1 : g_M2 C0 M0 V1 n P D T := by
    obtain ⟨⟨a1, a2, a3, a4⟩, b, c, e⟩ := h
    refine ⟨⟨by rw [e1]; exact a1.u (by decide), by rw [e1]; exact a2.u (by decide), by rw [e1]; exact ax_u_g a3 rn, by rw [e1]; exact ax_u_s _ _ _ _⟩, by rw [e1, ax_u_ne (by decide)]; exact b, fun s s0 s1 => by rw [e1, ax_u_ne (by decide), ax_u_ne (by decide)]; exact c s s0 s1, fun t w => ?_⟩
    have : m_nb V1 = m_nb M := by unfold m_nb; rw [e1, ax_u_k (by decide)]
    rw [this]; exact e t w
  refine ax_for (I := fun x V => (0 ≤ x ∧ x ≤ (M0 222 86)) ∧ g_M2 C0 M0 V n P D (fun t => T t ∨ ((∃ j, 0 ≤ j ∧ j < x ∧ j < n ∧ M0 226 j = M0 226 n) ∧ M0 287 n ≤ t))) (K := fun x V => ∀ y, ax_y y → k_Model_checkNames_7 (d + 3) n x y V Ψ Θ) (hi := (M0 222 86)) (fun x V w hI next y hy => ?_) (fun x V w hI y hy => ?_) 0 V1 ⟨⟨by decide, by omega⟩, h1.of (fun t w => ⟨fun z => Or.inl z, fun z => by rcases z with z | ⟨⟨j, j0, j1, -⟩, -⟩; exact z; omega⟩)⟩ none ax_y_n
  · obtain ⟨hx, hV⟩ := hI
    have go : ∀ W T2, g_M2 C0 M0 W n P D T2 → (∀ t, t < 701 → (T2 t ↔ ((T t ∨ ((∃ j, 0 ≤ j ∧ j < x ∧ j < n ∧ M0 226 j = M0 226 n) ∧ M0 287 n ≤ t)) ∨ ((x < n ∧ M0 226 x = M0 226 n) ∧ M0 287 n ≤ t)))) → k_Model_checkNames_7 (d + 3) n (x + 1) y W Ψ Θ := by
      intro W T2 h2 hT2
      refine next W ⟨⟨by omega, by omega⟩, h2.of (fun t w => ?_)⟩ y hy
      rw [hT2 t w]
      constructor
      · rintro ((z | ⟨⟨j, j0, j1, j2⟩, z⟩) | z)
        · exact Or.inl z
        · exact Or.inr ⟨⟨j, j0, by omega, j2⟩, z⟩
        · exact Or.inr ⟨⟨x, hx.1, by omega, z.1⟩, z.2⟩
      · rintro (z | ⟨⟨j, j0, j1, j2⟩, z⟩)
        · exact Or.inl (Or.inl z)
        · by_cases v : j = x
          · rw [v] at j2; exact Or.inr ⟨j2, z⟩
          · exact Or.inl (Or.inr ⟨⟨j, j0, by omega, j2⟩, z⟩)
    refine r_Model_checkNames_7 hV.1.2.2.1 rn ⟨by omega, by omega⟩ hy ?_
    rw [hV.1.2.1 86 (by decide), hV.1.1 226 (by decide), hV.1.1 287 (by decide)]
    refine ⟨fun q => by omega, fun _ => ⟨fun q => go V _ hV (fun t _ => ⟨fun u => Or.inl u, fun u => by rcases u with u | u; exact u; omega⟩), fun q => ⟨⟨by omega, by omega⟩, b9, fun q2 => ⟨b9, s_noteE hV.1.2.2.1 ⟨by omega, by omega⟩ (go _ _ (hV.nt pl) (fun t _ => ⟨fun u => by rcases u with u | u; exact Or.inl u; exact Or.inr ⟨⟨q, q2⟩, u⟩, fun u => by rcases u with u | u; exact Or.inl u; exact Or.inr u.2⟩))⟩, fun q2 => go V _ hV (fun t _ => ⟨fun u => Or.inl u, fun u => by rcases u with u | u; exact u; exact absurd u.1.2 q2⟩)⟩⟩⟩
  · obtain ⟨hx, hV⟩ := hI
    have ex : x = (M0 222 86) := by omega
    refine r_Model_checkNames_7 hV.1.2.2.1 rn ⟨by omega, by omega⟩ hy ?_
    rw [hV.1.2.1 86 (by decide)]
    refine ⟨fun _ => s2 V _ hV (fun M2 h2 => s3 M2 _ h2 (fun M3 h3 => s4 M3 _ _ h3 (fun M4 h4 => s5 M4 _ _ _ h4 (fun M5 h5 => s6 M5 _ _ _ h5 (fun M6 h6 => k M6 (h6.of (fun t w => ?_))))))) y hy, fun q => by omega⟩
    unfold g_v2
    have nm : (∃ j, 0 ≤ j ∧ j < x ∧ j < n ∧ M0 226 j = M0 226 n) ↔ ∃ j, 0 ≤ j ∧ j < n ∧ M0 226 j = M0 226 n := ⟨fun ⟨j, a, b, c⟩ => ⟨j, a, c⟩, fun ⟨j, a, c⟩ => ⟨j, a, by omega, c⟩⟩
    rw [nm]
    constructor
    · rintro ((((((z | z) | z) | z) | z) | z) | z)
      · exact Or.inl z
      · exact Or.inr (Or.inl z)
      · exact Or.inr (Or.inr (Or.inl z))
      · exact Or.inr (Or.inr (Or.inr (Or.inl z)))
      · exact Or.inr (Or.inr (Or.inr (Or.inr (Or.inl z))))
      · exact Or.inr (Or.inr (Or.inr (Or.inr (Or.inr (Or.inl z)))))
      · exact Or.inr (Or.inr (Or.inr (Or.inr (Or.inr (Or.inr z)))))
    · rintro (z | z | z | z | z | z | z)
      · exact Or.inl (Or.inl (Or.inl (Or.inl (Or.inl (Or.inl z)))))
      · exact Or.inl (Or.inl (Or.inl (Or.inl (Or.inl (Or.inr z)))))
      · exact Or.inl (Or.inl (Or.inl (Or.inl (Or.inr z))))
      · exact Or.inl (Or.inl (Or.inl (Or.inr z)))
      · exact Or.inl (Or.inl (Or.inr z))
      · exact Or.inl (Or.inr z)
      · exact Or.inr z
end Kind2P
