/-! FAULTS 6, the class: what hangs on what -/
def g_nd (C M : ax_V) (a y : Int) : Prop := ∃ m, (0 ≤ m ∧ m < (M 222 60)) ∧ M 271 m = a ∧ ¬ M 273 m = 0 ∧ g_hd C M (M 276 m) (M 277 m) y
def g_en (C M : ax_V) (e y : Int) : Prop := g_hd C M (M 261 e) (M 262 e) y ∨ ∃ i, g_of M e i ∧ ¬ M 235 (26 * M 258 e + M 265 i) = 0 ∧ (M 235 (26 * M 258 e + M 265 i) - 1) / 2 = y
def g_h0 (C M : ax_V) (n l y : Int) : Prop := ∃ e i, g_of M e i ∧ M 258 e = n ∧ M 265 i = l ∧ (g_en C M e y ∨ (¬ M 263 e = -1 ∧ g_nd C M (M 263 e) y))
section Kind6C
variable {B r d : Nat} {C0 M0 V0 : ax_V} {n : Int} {Φ : Int → ax_V → Prop} {Ψ Θ : ax_V → Prop}
set_option maxHeartbeats 8000000 in
theorem t_needs1 (hS : g_S C0 M0) (hv : g_fr g_XJ C0 V0) (hg : ax_g V0) (n0 : 0 ≤ n) (n1 : n < (M0 222 86)) (h61 : ∀ a, C0 510 n ≤ a → a < C0 510 (n + 1) → V0 561 a = 0) (h : ∀ V, g_fr [561] V0 V → ax_g V → (∀ a, C0 510 n ≤ a → a < C0 510 (n + 1) → b_ok (V 561 a) ∧ ∀ y, 0 ≤ y → y < 26 → (b_in (V 561 a) y ↔ g_nd C0 M0 a y)) → (∀ a, ¬ (C0 510 n ≤ a ∧ a < C0 510 (n + 1)) → V 561 a = V0 561 a) → ∀ y3 y4 y5 y6, ax_y y3 → ax_y y4 → ax_y y5 → ax_y y6 → k_Judge_findNeeds_118 B r (d + 2) n (C0 509 n) y3 y4 y5 y6 V Ψ Θ) : ax_N (az_W B (az_EJ B r)) (d + 3) q_Judge_findNeeds [.ref r, ax_i n] V0 Ψ Θ := by
  have p0 := hS.2.2.1.1
  have hat := hS.2.2.2.2.2.2.2
  have hN := hS.2.1
  have hct := hS.2.2.2.2.1.1
  have hc3 := hct.2.2.1
  have hc5 := hct.2.2.2.2.1
  have rn : ax_rg n := ⟨by omega, by omega⟩
  have E0 := hS.eqF n0 (by omega)
  have E1 := hS.eqF (n := n + 1) (by omega) (by omega)
  have E2 := hS.eqS n0 n1
  obtain ⟨A0, eA0⟩ : ∃ A : Int, A = C0 510 n := ⟨_, rfl⟩
  obtain ⟨A1, eA1⟩ : ∃ A : Int, A = C0 510 (n + 1) := ⟨_, rfl⟩
  rw [← eA0, ← eA1] at h h61
  rw [← eA0] at E0 E2
  rw [← eA1] at E1 E2
  have gx : ∀ {V : ax_V}, g_fr [561] V0 V → g_fr g_XJ C0 V := fun f => hv.tr (f.up (by decide))
  refine r_Judge_findNeeds hg rn ⟨⟨n0, by omega⟩, ?_⟩
  rw [hv 510 (by decide), ← eA0]
  refine ax_for (I := fun a V => (A0 ≤ a ∧ a ≤ A1) ∧ g_fr [561] V0 V ∧ ax_g V ∧ (∀ a', A0 ≤ a' → a' < a → b_ok (V 561 a') ∧ ∀ y, 0 ≤ y → y < 26 → (b_in (V 561 a') y ↔ g_nd C0 M0 a' y)) ∧ ∀ a', ¬ (A0 ≤ a' ∧ a' < a) → V 561 a' = V0 561 a') (K := fun a V => ∀ y3 y4 y5 y6, ax_y y3 → ax_y y4 → ax_y y5 → ax_y y6 → k_Judge_findNeeds_10 B r (d + 2) n a y3 y4 y5 y6 V Ψ Θ) (hi := A1) (fun a V w hI next y3 y4 y5 y6 hy3 hy4 hy5 hy6 => ?_) (fun a V w hI y3 y4 y5 y6 hy3 hy4 hy5 hy6 => ?_) A0 V0 ⟨⟨Int.le_refl _, by omega⟩, g_fr.rf _ _, hg, fun a' x y => by omega, fun _ _ => rfl⟩ none none none none ax_y_n ax_y_n ax_y_n ax_y_n
  · obtain ⟨ha, f1, g1, k1, k2⟩ := hI
    have a0 : 0 ≤ a := by omega
    have a1 : a < (M0 222 55) := by omega
    have xV := gx f1
    have v510 : V 510 = C0 510 := xV 510 (by decide)
    have fa := (hS.au a0 a1).1.2.2.2.1
    obtain ⟨F, eF⟩ : ∃ G : Int, G = C0 559 a := ⟨_, rfl⟩
    obtain ⟨F1, eF1⟩ : ∃ G : Int, G = C0 559 (a + 1) := ⟨_, rfl⟩
    have mN := fun m (m0 : 0 ≤ m) (m1 : m < (M0 222 60)) => hS.mvN a0 a1 m0 m1
    rw [← eF, ← eF1] at mN fa
    refine r_Judge_findNeeds_10 g1 rn ⟨by omega, by omega⟩ hy3 hy4 hy5 hy6 ⟨⟨by omega, by omega⟩, fun z => by rw [v510] at z; omega, fun _ => ⟨⟨by omega, by omega⟩, ?_⟩⟩
    rw [xV 559 (by decide), ← eF]
    refine ax_for (I := fun m W => (F ≤ m ∧ m ≤ F1) ∧ g_fr [561] V0 W ∧ ax_g W ∧ (∀ a', a' ≠ a → W 561 a' = V 561 a') ∧ b_ok (W 561 a) ∧ ∀ y, 0 ≤ y → y < 26 → (b_in (W 561 a) y ↔ ∃ x, (F ≤ x ∧ x < m) ∧ ¬ M0 273 x = 0 ∧ g_hd C0 M0 (M0 276 x) (M0 277 x) y)) (K := fun m W => k_Judge_findNeeds_35 B r (d + 2) n a m y4 y5 y6 W Ψ Θ) (hi := F1) (fun m W w2 hI2 next2 => ?_) (fun m W w2 hI2 => ?_) F V ⟨⟨Int.le_refl _, by omega⟩, f1, g1, fun _ _ => rfl, by rw [k2 a (by omega), h61 a (by omega) w]; exact b_ok_0, fun y y0 y1 => by rw [k2 a (by omega), h61 a (by omega) w]; exact ⟨fun z => absurd z (b_in_0 y), fun z => by obtain ⟨x, x0, -⟩ := z; omega⟩⟩
    · obtain ⟨hm, f2, g2, o2, k3, k4⟩ := hI2
      have m0 : 0 ≤ m := by omega
      have m1 : m < (M0 222 60) := by omega
      have xW := gx f2
      have v559 : W 559 = C0 559 := xW 559 (by decide)
      have ft := hS.2.2.2.2.1.2.2.2.2.1 m m0 m1
      have fw := ft.2.2.2.2.2.2.2.1
      have mx := ft.2.2.2.2.1
      have sg := ft.2.2.1.1
      refine r_Judge_findNeeds_35 g2 rn ⟨by omega, by omega⟩ ⟨by omega, by omega⟩ hy4 hy5 hy6 ⟨⟨by omega, by omega⟩, fun z => by rw [v559] at z; omega, fun _ => ⟨⟨m0, by omega⟩, ?_⟩⟩
      rw [xW 568 (by decide), xW 570 (by decide), xW 571 (by decide), sg, mx.1, mx.2]
      refine ⟨fun z => next2 W ⟨⟨by omega, by omega⟩, f2, g2, o2, k3, fun y y0 y1 => ?_⟩, fun z => ⟨⟨a0, by omega⟩, ⟨m0, by omega⟩, ⟨m0, by omega⟩, t_lettersIn hS xW g2 fw.1 fw.2.1 fw.2.2 (fun x hx hin => ⟨⟨a0, by omega⟩, fun W2 e2 => ?_⟩)⟩⟩
      · rw [k4 y y0 y1]
        constructor
        · rintro ⟨x, x0, x1⟩; exact ⟨x, ⟨x0.1, by omega⟩, x1⟩
        · rintro ⟨x, x0, x1⟩
          by_cases e : x = m
          · rw [e] at x1; exact absurd z x1.1
          · exact ⟨x, ⟨x0.1, by omega⟩, x1⟩
      · have bo := b_ok_or k3 hx
        have va : W2 561 a = ax_or (W 561 a) x := by rw [e2, ax_u_s]
        refine next2 W2 ⟨⟨by omega, by omega⟩, by rw [e2]; exact f2.u (by decide), by rw [e2]; exact ax_u_g g2 bo.1, fun a' z => by rw [e2, ax_u_k z]; exact o2 a' z, by rw [va]; exact bo, fun y y0 y1 => ?_⟩
        rw [va, b_in_or, k4 y y0 y1, hin y y0 y1]
        constructor
        · rintro (⟨x, x0, x1⟩ | v)
          · exact ⟨x, ⟨x0.1, by omega⟩, x1⟩
          · exact ⟨m, ⟨hm.1, by omega⟩, z, v⟩
        · rintro ⟨x, x0, x1⟩
          by_cases e : x = m
          · rw [e] at x1; exact Or.inr x1.2
          · exact Or.inl ⟨x, ⟨x0.1, by omega⟩, x1⟩
    · obtain ⟨hm, f2, g2, o2, k3, k4⟩ := hI2
      have xW := gx f2
      have v559 : W 559 = C0 559 := xW 559 (by decide)
      have em : m = F1 := by omega
      rw [em] at k4 ⊢
      refine r_Judge_findNeeds_35 g2 rn ⟨by omega, by omega⟩ ⟨by omega, by omega⟩ hy4 hy5 hy6 ⟨⟨by omega, by omega⟩, fun _ => next W ⟨⟨by omega, by omega⟩, f2, g2, fun a' x y => ?_, fun a' z => by rw [o2 a' (by omega)]; exact k2 a' (by omega)⟩ _ _ _ _ (ax_y_i _) hy4 hy5 hy6, fun z => by rw [v559] at z; omega⟩
      by_cases e : a' = a
      · rw [e]
        refine ⟨k3, fun y y0 y1 => ?_⟩
        rw [k4 y y0 y1]
        constructor
        · rintro ⟨x, x0, x1⟩
          exact ⟨x, ⟨by omega, by omega⟩, (mN x (by omega) (by omega)).mp x0, x1⟩
        · rintro ⟨x, x0, x1, x2⟩
          exact ⟨x, (mN x x0.1 x0.2).mpr x1, x2⟩
      · rw [o2 a' e]; exact k1 a' x (by omega)
  · obtain ⟨ha, f1, g1, k1, k2⟩ := hI
    have xV := gx f1
    have v510 : V 510 = C0 510 := xV 510 (by decide)
    have ea : a = A1 := by omega
    rw [ea] at k1 k2 ⊢
    refine r_Judge_findNeeds_10 g1 rn ⟨by omega, by omega⟩ hy3 hy4 hy5 hy6 ⟨⟨by omega, by omega⟩, fun _ => ⟨⟨n0, by omega⟩, ?_⟩, fun z => by rw [v510] at z; omega⟩
    rw [xV 509 (by decide)]
    exact h V f1 g1 k1 k2 _ _ _ _ hy3 hy4 hy5 hy6
end Kind6C
