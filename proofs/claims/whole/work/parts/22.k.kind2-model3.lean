/-! THE MODEL, FAULTS 2: letters of equations, states, a node, all nodes -/
section Kind2O
variable {d : Nat} {M0 C0 M : ax_V} {n : Int} {P D : Int → Prop} {T : Int → Prop} {Ψ Θ : ax_V → Prop}
theorem g_M2.sub {D' P' : Int → Prop} (h : g_M2 C0 M0 M n P D T) (hP : ∀ q, 0 ≤ q → q < (M0 222 26) → P' q → P q) (hD : ∀ i, 0 ≤ i → i < (M0 222 52) → (D i ↔ D' i)) : g_M2 C0 M0 M n P' D' T := by
  refine ⟨h.1, fun q a b c => h.2.1 q a b (hP q a b c), fun s s0 s1 => ?_, h.2.2.2⟩
  obtain ⟨a, b⟩ := h.2.2.1 s s0 s1
  refine ⟨?_, ?_⟩
  · rcases a with ⟨a1, a2⟩ | ⟨i, i0, i1, i2⟩
    · exact Or.inl ⟨a1, fun i i0 i1 i2 => a2 i i0 i1 ((hD i i0 i1).mpr i2)⟩
    · exact Or.inr ⟨i, i0, (hD i i0.1 i0.2).mp i1, i2⟩
  · rcases b with ⟨a1, a2⟩ | ⟨i, i0, i1, i2⟩
    · exact Or.inl ⟨a1, fun i i0 i1 i2 => a2 i i0 i1 ((hD i i0 i1).mpr i2)⟩
    · exact Or.inr ⟨i, i0, (hD i i0.1 i0.2).mp i1, i2⟩
/-- one head more is seen -/
theorem g_M2.head {i : Int} {M' : ax_V} (hS : g_S C0 M0) (h : g_M2 C0 M0 M n P D T) (i0 : 0 ≤ i) (i1 : i < (M0 222 52)) (he : (M0 263 (g_eo M0 i) = -1 ∧ M' = ax_u M 238 (C0 554 i) (g_eo M0 i)) ∨ (¬ M0 263 (g_eo M0 i) = -1 ∧ M' = ax_u M 239 (C0 554 i) (M0 263 (g_eo M0 i)))) : g_M2 C0 M0 M' n P (fun x => D x ∨ x = i) T := by
  have ho := (hS.eo i0 i1).1
  have hc := hS.2.2.2.2.1.1.1
  have hat := hS.2.2.2.2.2.2.2
  have re : ax_rg (g_eo M0 i) := ⟨by omega, by omega⟩
  have ra : ax_rg (M0 263 (g_eo M0 i)) := hS.1.2 _ _
  obtain ⟨⟨a1, a2, a3, a4⟩, b, c, e⟩ := h
  obtain ⟨cc, x, z1, z2, z3, z4⟩ : ∃ (cc : Nat) (x : Int), (cc = 238 ∨ cc = 239) ∧ ax_rg x ∧ M' = ax_u M cc (C0 554 i) x ∧ ((cc = 238 ∧ M0 263 (g_eo M0 i) = -1 ∧ x = g_eo M0 i) ∨ (cc = 239 ∧ ¬ M0 263 (g_eo M0 i) = -1 ∧ x = M0 263 (g_eo M0 i))) := by
    rcases he with ⟨y1, y2⟩ | ⟨y1, y2⟩
    · exact ⟨238, _, Or.inl rfl, re, y2, Or.inl ⟨rfl, y1, rfl⟩⟩
    · exact ⟨239, _, Or.inr rfl, ra, y2, Or.inr ⟨rfl, y1, rfl⟩⟩
  have ne : ∀ c', c' ≠ cc → M' c' = M c' := fun c' z => by rw [z3]; exact ax_u_ne z
  refine ⟨⟨by rw [z3]; exact a1.u (by rcases z1 with z | z <;> rw [z] <;> decide), by rw [z3]; exact a2.a (by omega), by rw [z3]; exact ax_u_g a3 z2, by rw [ne 222 (by omega)]; exact a4⟩, by rw [ne 251 (by omega)]; exact b, fun s s0 s1 => ?_, fun t w => ?_⟩
  · obtain ⟨p1, p2⟩ := c s s0 s1
    refine ⟨?_, ?_⟩
    · rcases z4 with ⟨c1, c2, c3⟩ | ⟨c1, c2, c3⟩
      · rw [ne 239 (by omega)]
        rcases p1 with ⟨q1, q2⟩ | ⟨j, j0, j1, j2⟩
        · refine Or.inl ⟨q1, fun j j0 j1 j2 j3 => ?_⟩
          rcases j2 with j2 | j2
          · exact q2 j j0 j1 j2 j3
          · rw [j2]; exact c2
        · exact Or.inr ⟨j, j0, Or.inl j1, j2⟩
      · by_cases y : s = C0 554 i
        · exact Or.inr ⟨i, ⟨i0, i1⟩, Or.inr rfl, y.symm, c2, by rw [z3, c1, y, ax_u_s]; exact c3⟩
        · have e9 : M' 239 s = M 239 s := by rw [z3, c1, ax_u_k y]
          rw [e9]
          rcases p1 with ⟨q1, q2⟩ | ⟨j, j0, j1, j2⟩
          · refine Or.inl ⟨q1, fun j j0 j1 j2 j3 => ?_⟩
            rcases j2 with j2 | j2
            · exact q2 j j0 j1 j2 j3
            · rw [j2] at j3; exact absurd j3.symm y
          · exact Or.inr ⟨j, j0, Or.inl j1, j2⟩
    · rcases z4 with ⟨c1, c2, c3⟩ | ⟨c1, c2, c3⟩
      · by_cases y : s = C0 554 i
        · exact Or.inr ⟨i, ⟨i0, i1⟩, Or.inr rfl, y.symm, c2, by rw [z3, c1, y, ax_u_s]; exact c3⟩
        · have e9 : M' 238 s = M 238 s := by rw [z3, c1, ax_u_k y]
          rw [e9]
          rcases p2 with ⟨q1, q2⟩ | ⟨j, j0, j1, j2⟩
          · refine Or.inl ⟨q1, fun j j0 j1 j2 j3 => ?_⟩
            rcases j2 with j2 | j2
            · exact q2 j j0 j1 j2 j3
            · rw [j2] at j3; exact absurd j3.symm y
          · exact Or.inr ⟨j, j0, Or.inl j1, j2⟩
      · rw [ne 238 (by omega)]
        rcases p2 with ⟨q1, q2⟩ | ⟨j, j0, j1, j2⟩
        · refine Or.inl ⟨q1, fun j j0 j1 j2 j3 => ?_⟩
          rcases j2 with j2 | j2
          · exact q2 j j0 j1 j2 j3
          · rw [j2]; exact c2
        · exact Or.inr ⟨j, j0, Or.inl j1, j2⟩
  · have : m_nb M' = m_nb M := by unfold m_nb; rw [ne 222 (by omega)]
    rw [this]; exact e t w
/-- a head with a fault, as the model sees it -/
def g_bl (M : ax_V) (i t : Int) : Prop := (M 232 (26 * M 258 (g_eo M i) + M 265 i) = 0 ∨ M 232 (26 * M 258 (g_eo M i) + M 265 i) = 1 ∨ g_c2 M i) ∧ M 266 i ≤ t
set_option maxHeartbeats 2000000 in
theorem s_checkLefts {e : Int} (hS : g_S C0 M0) (h : g_M2 C0 M0 M n P D T) (n0 : 0 ≤ n) (n1 : n < (M0 222 86)) (he : 0 ≤ e ∧ e < (M0 222 44)) (en : M0 258 e = n) (k : ∀ M', g_M2 C0 M0 M' n P (fun x => D x ∨ g_eo M0 x = e) (fun t => T t ∨ ∃ i, g_of M0 e i ∧ g_bl M0 i t) → Ψ M') : ax_N ay_lay (d + 3) q_Model_checkLefts [.ref 222, ax_i e] M Ψ Θ := by
  have hN := hS.2.1
  have hat := hS.2.2.2.2.2.2.2
  have hc1 := hS.2.2.2.2.1.1.1
  have hc2 := hS.2.2.2.2.1.1.2.1
  have hn : 0 ≤ n ∧ n < 8 := ⟨n0, by omega⟩
  have fe := (hS.2.2.2.2.1.2.1 e he.1 he.2).2.2.1
  have b : 0 ≤ e ∧ e < 351 := ⟨he.1, by omega⟩
  have re : ax_rg e := ⟨by omega, by omega⟩
  refine r_Model_checkLefts h.1.2.2.1 re ⟨b, ?_⟩
  rw [h.1.1 259 (by decide)]
  refine ax_for (I := fun i V => (M0 259 e ≤ i ∧ i ≤ M0 259 e + M0 260 e) ∧ g_M2 C0 M0 V n P (fun x => D x ∨ (g_eo M0 x = e ∧ x < i)) (fun t => T t ∨ ∃ j, (g_of M0 e j ∧ j < i) ∧ g_bl M0 j t)) (K := fun i V => ∀ y, ax_y y → k_Model_checkLefts_7 (d + 2) e i y V Ψ Θ) (hi := M0 259 e + M0 260 e) (fun i V w hI next y hy => ?_) (fun i V w hI y hy => ?_) _ M ⟨⟨Int.le_refl _, by omega⟩, ?_⟩ none ax_y_n
  · obtain ⟨hi, hV⟩ := hI
    have ofi : g_of M0 e i := ⟨he, hi.1, w⟩
    have i0 : 0 ≤ i := by omega
    have i1 : i < (M0 222 52) := by omega
    have eo := hS.eoe ofi
    obtain ⟨sl, sl2, sl3, sl4⟩ := hS.slot i0 i1
    rw [eo, en] at sl
    have hh := (hS.h i0 i1).2.2.2
    have gV := hV.1.2.2.1
    have b2 : 0 ≤ 26 * n + M0 265 i ∧ 26 * n + M0 265 i < 240 := ⟨by omega, by omega⟩
    have ri : ax_rg i := ⟨by omega, by omega⟩
    have rs : ax_rg (26 * n + M0 265 i) := ⟨by omega, by omega⟩
    have gb : ∀ t, g_bl M0 i t ↔ (M0 232 (26 * n + M0 265 i) = 0 ∨ M0 232 (26 * n + M0 265 i) = 1 ∨ g_c2 M0 i) ∧ M0 266 i ≤ t := fun t => by unfold g_bl; rw [eo, en]
    -- on to the next head
    have go : ∀ V1 T1, g_M2 C0 M0 V1 n P (fun x => D x ∨ (g_eo M0 x = e ∧ x < i)) T1 → (∀ t, t < 701 → (T1 t ↔ ((T t ∨ ∃ j, (g_of M0 e j ∧ j < i) ∧ g_bl M0 j t) ∨ g_bl M0 i t))) → (0 ≤ e ∧ e < 351) ∧ ((V1 263 e = -1 → (0 ≤ 26 * n + M0 265 i ∧ 26 * n + M0 265 i < 240) ∧ (∀ V4, V4 = ax_u V1 238 (26 * n + M0 265 i) e → ∀ y, ax_y y → k_Model_checkLefts_7 (d + 2) e (i + 1) y V4 Ψ Θ)) ∧ (¬ V1 263 e = -1 → (0 ≤ e ∧ e < 351) ∧ (0 ≤ 26 * n + M0 265 i ∧ 26 * n + M0 265 i < 240) ∧ (∀ V3, V3 = ax_u V1 239 (26 * n + M0 265 i) (V1 263 e) → ∀ y, ax_y y → k_Model_checkLefts_7 (d + 2) e (i + 1) y V3 Ψ Θ))) := by
      intro V1 T1 h1 hT1
      have tt : ∀ t, t < 701 → (T1 t ↔ (T t ∨ ∃ j, (g_of M0 e j ∧ j < i + 1) ∧ g_bl M0 j t)) := by
        intro t w
        rw [hT1 t w]
        constructor
        · rintro ((z | ⟨j, j0, j1⟩) | z)
          · exact Or.inl z
          · exact Or.inr ⟨j, ⟨j0.1, by omega⟩, j1⟩
          · exact Or.inr ⟨i, ⟨ofi, by omega⟩, z⟩
        · rintro (z | ⟨j, j0, j1⟩)
          · exact Or.inl (Or.inl z)
          · by_cases x : j = i
            · rw [x] at j1; exact Or.inr j1
            · exact Or.inl (Or.inr ⟨j, ⟨j0.1, by omega⟩, j1⟩)
      have dd : ∀ x, 0 ≤ x → x < (M0 222 52) → (((D x ∨ (g_eo M0 x = e ∧ x < i)) ∨ x = i) ↔ (D x ∨ (g_eo M0 x = e ∧ x < i + 1))) := by
        intro x _ _
        constructor
        · rintro ((z | z) | z)
          · exact Or.inl z
          · exact Or.inr ⟨z.1, by omega⟩
          · exact Or.inr ⟨by rw [z]; exact eo, by omega⟩
        · rintro (z | z)
          · exact Or.inl (Or.inl z)
          · by_cases u : x = i
            · exact Or.inr u
            · exact Or.inl (Or.inr ⟨z.1, by omega⟩)
      rw [h1.1.1 263 (by decide)]
      refine ⟨b, fun z => ⟨b2, fun V4 e4 => ?_⟩, fun z => ⟨b, b2, fun V4 e4 => ?_⟩⟩
      · exact next V4 ⟨⟨by omega, by omega⟩, ((h1.head hS i0 i1 (Or.inl ⟨by rw [eo]; exact z, by rw [eo, sl]; exact e4⟩)).of tt).sub (fun _ _ _ z => z) dd⟩
      · exact next V4 ⟨⟨by omega, by omega⟩, ((h1.head hS i0 i1 (Or.inr ⟨by rw [eo]; exact z, by rw [eo, sl]; exact e4⟩)).of tt).sub (fun _ _ _ z => z) dd⟩
    have k63 : (M0 232 (26 * n + M0 265 i) = 0 ∨ M0 232 (26 * n + M0 265 i) = 1 ∨ g_c2 M0 i) → k_Model_checkLefts_63 (d + 2) e i (26 * n + M0 265 i) V Ψ Θ := by
      intro z
      refine r_Model_checkLefts_63 gV re ri rs ⟨⟨by omega, by omega⟩, ?_⟩
      rw [hV.1.1 266 (by decide)]
      refine s_noteE gV ⟨by omega, by omega⟩ ?_
      have := go _ _ (hV.nt hh) (fun t w => by rw [gb t]; exact ⟨fun x => by rcases x with x | x; exact Or.inl x; exact Or.inr ⟨z, x⟩, fun x => by rcases x with x | x; exact Or.inl x; exact Or.inr x.2⟩)
      exact ⟨this.1, fun q => ⟨(this.2.1 q).1, fun V3 e3 => (this.2.1 q).2 V3 e3 _ (ax_y_i _)⟩, fun q => ⟨(this.2.2 q).1, (this.2.2 q).2.1, fun V3 e3 => (this.2.2 q).2.2 V3 e3 _ (ax_y_i _)⟩⟩
    refine r_Model_checkLefts_7 gV re ri hy ⟨b, b, ?_⟩
    rw [hV.1.1 259 (by decide), hV.1.1 260 (by decide), hV.1.1 265 (by decide)]
    refine ⟨⟨by omega, by omega⟩, fun q => by omega, fun _ => ⟨⟨by omega, by omega⟩, s_atJ hV hn sl2 ?_⟩⟩
    rw [hV.1.1 232 (by decide)]
    refine ⟨b2, fun q => k63 (Or.inl q), fun q => ⟨b2, fun q2 => k63 (Or.inr (Or.inl q2)), fun q2 => ?_⟩⟩
    have sec := s_isSecond (d := d) (Θ := Θ) (Φ := fun r2 V2 => ((r2 = 0 → (0 ≤ e ∧ e < 351) ∧ ((V2 263 e = -1 → (0 ≤ 26 * n + M0 265 i ∧ 26 * n + M0 265 i < 240) ∧ (∀ V4, V4 = ax_u V2 238 (26 * n + M0 265 i) e → k_Model_checkLefts_7 (d + 2) e (i + 1) (some (ax_i (26 * n + M0 265 i))) V4 Ψ Θ)) ∧ (¬ V2 263 e = -1 → (0 ≤ e ∧ e < 351) ∧ (0 ≤ 26 * n + M0 265 i ∧ 26 * n + M0 265 i < 240) ∧ (∀ V3, V3 = ax_u V2 239 (26 * n + M0 265 i) (V2 263 e) → k_Model_checkLefts_7 (d + 2) e (i + 1) (some (ax_i (26 * n + M0 265 i))) V3 Ψ Θ)))) ∧ (¬ r2 = 0 → k_Model_checkLefts_63 (d + 2) e i (26 * n + M0 265 i) V2 Ψ Θ))) hS gV hV.mE i0 i1 ?_
    · rw [eo] at sec; exact sec
    · by_cases z : g_c2 M0 i
      · rw [show @ax_b (g_c2 M0 i) (Classical.propDecidable _) = 1 from if_pos z]
        exact ⟨fun x => absurd x (by decide), fun _ => k63 (Or.inr (Or.inr z))⟩
      · rw [show @ax_b (g_c2 M0 i) (Classical.propDecidable _) = 0 from if_neg z]
        refine ⟨fun _ => ?_, fun x => absurd rfl x⟩
        have := go _ _ hV (fun t w => by rw [gb t]; exact ⟨fun x => Or.inl x, fun x => by rcases x with x | ⟨x, -⟩; exact x; rcases x with x | x | x; exact absurd x q; exact absurd x q2; exact absurd x z⟩)
        exact ⟨this.1, fun q => ⟨(this.2.1 q).1, fun V3 e3 => (this.2.1 q).2 V3 e3 _ (ax_y_i _)⟩, fun q => ⟨(this.2.2 q).1, (this.2.2 q).2.1, fun V3 e3 => (this.2.2 q).2.2 V3 e3 _ (ax_y_i _)⟩⟩
  · obtain ⟨hi, hV⟩ := hI
    have ei : i = M0 259 e + M0 260 e := by omega
    refine r_Model_checkLefts_7 hV.1.2.2.1 re ⟨by omega, by omega⟩ hy ⟨b, b, ?_⟩
    rw [hV.1.1 259 (by decide), hV.1.1 260 (by decide)]
    refine ⟨⟨by omega, by omega⟩, fun _ => k V ((hV.of (fun t w => ?_)).sub (fun _ _ _ z => z) (fun x x0 x1 => ?_)), fun q => by omega⟩
    · constructor
      · rintro (z | ⟨j, j0, j1⟩)
        · exact Or.inl z
        · exact Or.inr ⟨j, j0.1, j1⟩
      · rintro (z | ⟨j, j0, j1⟩)
        · exact Or.inl z
        · exact Or.inr ⟨j, ⟨j0, by have := j0.2.2; omega⟩, j1⟩
    · constructor
      · rintro (z | z)
        · exact Or.inl z
        · exact Or.inr z.1
      · rintro (z | z)
        · exact Or.inl z
        · have := (hS.eo x0 x1).2.2
          rw [z] at this
          exact Or.inr ⟨z, by omega⟩
  · refine (h.of (fun t w => ?_)).sub (fun _ _ _ z => z) (fun x x0 x1 => ?_)
    · exact ⟨fun z => Or.inl z, fun z => by rcases z with z | ⟨j, j0, -⟩; exact z; have := j0.1.2.1; omega⟩
    · constructor
      · intro z; exact Or.inl z
      · rintro (z | z)
        · exact z
        · have := (hS.eo x0 x1).2.1
          rw [z.1] at this; omega
end Kind2O
