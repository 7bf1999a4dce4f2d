/-! FAULTS 6, the model: through others, too -/
def g_cells (V : ax_V) (R : Int → Int → Prop) : Prop := ∀ x y, 0 ≤ x → x < 26 → 0 ≤ y → y < 26 → (¬ V 283 (26 * x + y) = 0 ↔ R x y)
theorem g_wr_c (H : Int → Int → Prop) (b : Nat) (x : Int) : g_wr H (b + 1) x (b : Int) ↔ g_wr H b x (b : Int) := ⟨fun z => by rcases z with z | z; exact z; exact z.1, fun z => Or.inl z⟩
section Kind6H
variable {d : Nat} {V : ax_V} {n : Int} {H : Int → Int → Prop} {Ψ Θ : ax_V → Prop}
set_option maxHeartbeats 8000000 in
theorem s_warshall (hg : ax_g V) (rn : ax_rg n) (hr : g_cells V H) (h : ∀ W, g_fr [283] V W → ax_g W → g_cells W (g_wr H 26) → ∀ y3 y4, ax_y y3 → ax_y y4 → k_Model_checkCycles_98 (d + 1) n 0 y3 y4 W Ψ Θ) : ∀ y3 y4, ax_y y3 → ax_y y4 → k_Model_checkCycles_12 (d + 1) n 0 y3 y4 V Ψ Θ := by
  refine ax_for (I := fun b W => (0 ≤ b ∧ b ≤ 26) ∧ g_fr [283] V W ∧ ax_g W ∧ g_cells W (g_wr H b.toNat)) (K := fun b W => ∀ y3 y4, ax_y y3 → ax_y y4 → k_Model_checkCycles_12 (d + 1) n b y3 y4 W Ψ Θ) (hi := 26) (fun b W w hI next y3 y4 hy3 hy4 => ?_) (fun b W w hI y3 y4 hy3 hy4 => ?_) 0 V ⟨⟨by decide, by decide⟩, g_fr.rf _ _, hg, hr⟩
  · obtain ⟨hb, f1, g1, r1⟩ := hI
    obtain ⟨m, em⟩ : ∃ m : Nat, b = (m : Int) := ⟨b.toNat, by omega⟩
    have et : b.toNat = m := by omega
    have et1 : (b + 1).toNat = m + 1 := by omega
    rw [et] at r1
    have rb : ax_rg b := ⟨by omega, by omega⟩
    refine r_Model_checkCycles_12 g1 rn rb hy3 hy4 ⟨fun z => by omega, fun _ => ?_⟩
    refine ax_for (I := fun x U => (0 ≤ x ∧ x ≤ 26) ∧ g_fr [283] V U ∧ ax_g U ∧ g_cells U (fun j z => (j < x ∧ g_wr H (m + 1) j z) ∨ (x ≤ j ∧ g_wr H m j z))) (K := fun x U => ∀ y4, ax_y y4 → k_Model_checkCycles_20 (d + 1) n b x y4 U Ψ Θ) (hi := 26) (fun x U w2 hI2 next2 y4 hy4 => ?_) (fun x U w2 hI2 y4 hy4 => ?_) 0 W ⟨⟨by decide, by decide⟩, f1, g1, fun j z j0 j1 z0 z1 => by rw [r1 j z j0 j1 z0 z1]; exact ⟨fun v => Or.inr ⟨j0, v⟩, fun v => by rcases v with v | v; have := v.1; omega; exact v.2⟩⟩ y4 hy4
    · obtain ⟨hx, f2, g2, r2⟩ := hI2
      have rx : ax_rg x := ⟨by omega, by omega⟩
      refine r_Model_checkCycles_20 g2 rn rb rx hy4 ⟨fun z => by omega, fun _ => ?_⟩
      refine ax_for (I := fun y X => (0 ≤ y ∧ y ≤ 26) ∧ g_fr [283] V X ∧ ax_g X ∧ ∀ j z, 0 ≤ j → j < 26 → 0 ≤ z → z < 26 → (¬ X 283 (26 * j + z) = 0 ↔ ((j < x ∧ g_wr H (m + 1) j z) ∨ (j = x ∧ ((z < y ∧ g_wr H (m + 1) j z) ∨ (y ≤ z ∧ g_wr H m j z))) ∨ (x < j ∧ g_wr H m j z)))) (K := fun y X => k_Model_checkCycles_29 (d + 1) n b x y X Ψ Θ) (hi := 26) (fun y X w3 hI3 next3 => ?_) (fun y X w3 hI3 => ?_) 0 U ⟨⟨by decide, by decide⟩, f2, g2, fun j z j0 j1 z0 z1 => ?_⟩
      · obtain ⟨hy, f3, g3, r3⟩ := hI3
        have c1 : ¬ X 283 (26 * x + b) = 0 ↔ g_wr H m x b := by
          rw [r3 x b hx.1 w2 hb.1 w]
          have s := g_wr_c H m x
          rw [← em] at s
          constructor
          · rintro (v | ⟨-, v | v⟩ | v)
            · have := v.1; omega
            · exact s.mp v.2
            · exact v.2
            · have := v.1; omega
          · intro v
            by_cases e : b < y
            · exact Or.inr (Or.inl ⟨rfl, Or.inl ⟨e, s.mpr v⟩⟩)
            · exact Or.inr (Or.inl ⟨rfl, Or.inr ⟨by omega, v⟩⟩)
        have c2 : ¬ X 283 (26 * b + y) = 0 ↔ g_wr H m b y := by
          rw [r3 b y hb.1 w hy.1 w3]
          have s := g_wr_s H m y
          rw [← em] at s
          constructor
          · rintro (v | ⟨-, v | v⟩ | v)
            · exact s.mp v.2
            · exact s.mp v.2
            · exact v.2
            · exact v.2
          · intro v
            by_cases e : b < x
            · exact Or.inl ⟨e, s.mpr v⟩
            · by_cases e2 : b = x
              · exact Or.inr (Or.inl ⟨e2, Or.inr ⟨Int.le_refl _, v⟩⟩)
              · exact Or.inr (Or.inr ⟨by omega, v⟩)
        have up : g_wr H (m + 1) x y ↔ (g_wr H m x y ∨ (g_wr H m x b ∧ g_wr H m b y)) := by rw [em]; exact Iff.rfl
        have same : ¬ (g_wr H m x b ∧ g_wr H m b y) → k_Model_checkCycles_29 (d + 1) n b x (y + 1) X Ψ Θ := fun no => next3 X ⟨⟨by omega, by omega⟩, f3, g3, fun j z j0 j1 z0 z1 => by
          rw [r3 j z j0 j1 z0 z1]
          constructor
          · rintro (v | ⟨e, v | v⟩ | v)
            · exact Or.inl v
            · exact Or.inr (Or.inl ⟨e, Or.inl ⟨by omega, v.2⟩⟩)
            · by_cases ez : z = y
              · rw [e, ez] at v
                refine Or.inr (Or.inl ⟨e, Or.inl ⟨by omega, ?_⟩⟩)
                rw [e, ez]; exact up.mpr (Or.inl v.2)
              · exact Or.inr (Or.inl ⟨e, Or.inr ⟨by omega, v.2⟩⟩)
            · exact Or.inr (Or.inr v)
          · rintro (v | ⟨e, v | v⟩ | v)
            · exact Or.inl v
            · by_cases ez : z = y
              · rw [e, ez] at v
                refine Or.inr (Or.inl ⟨e, Or.inr ⟨by omega, ?_⟩⟩)
                rw [e, ez]
                rcases up.mp v.2 with u | u
                · exact u
                · exact absurd u no
              · exact Or.inr (Or.inl ⟨e, Or.inl ⟨by omega, v.2⟩⟩)
            · exact Or.inr (Or.inl ⟨e, Or.inr ⟨by omega, v.2⟩⟩)
            · exact Or.inr (Or.inr v)⟩
        refine r_Model_checkCycles_29 g3 rn rb rx ⟨by omega, by omega⟩ ⟨fun z => by omega, fun _ => ⟨⟨by omega, by omega⟩, fun z => same (fun v => (c1.mpr v.1) z), fun z => ⟨⟨by omega, by omega⟩, fun z2 => same (fun v => (c2.mpr v.2) z2), fun z2 => ⟨⟨by omega, by omega⟩, fun X1 e1 => next3 X1 ⟨⟨by omega, by omega⟩, by rw [e1]; exact f3.u (by decide), by rw [e1]; exact ax_u_g g3 (by decide), fun j z' j0 j1 z0 z1 => ?_⟩⟩⟩⟩⟩
        by_cases ec : 26 * j + z' = 26 * x + y
        · have ej : j = x := by omega
          have ez : z' = y := by omega
          rw [e1, ec, ax_u_s]
          refine ⟨fun _ => Or.inr (Or.inl ⟨ej, Or.inl ⟨by omega, ?_⟩⟩), fun _ => by decide⟩
          rw [ej, ez]
          exact up.mpr (Or.inr ⟨c1.mp z, c2.mp z2⟩)
        · rw [e1, ax_u_k ec, r3 j z' j0 j1 z0 z1]
          constructor
          · rintro (v | ⟨e, v | v⟩ | v)
            · exact Or.inl v
            · exact Or.inr (Or.inl ⟨e, Or.inl ⟨by omega, v.2⟩⟩)
            · exact Or.inr (Or.inl ⟨e, Or.inr ⟨by omega, v.2⟩⟩)
            · exact Or.inr (Or.inr v)
          · rintro (v | ⟨e, v | v⟩ | v)
            · exact Or.inl v
            · exact Or.inr (Or.inl ⟨e, Or.inl ⟨by omega, v.2⟩⟩)
            · exact Or.inr (Or.inl ⟨e, Or.inr ⟨by omega, v.2⟩⟩)
            · exact Or.inr (Or.inr v)
      · obtain ⟨hy, f3, g3, r3⟩ := hI3
        have ey : y = 26 := by omega
        rw [ey] at r3 ⊢
        refine r_Model_checkCycles_29 g3 rn rb rx (by decide) ⟨fun _ => next2 X ⟨⟨by omega, by omega⟩, f3, g3, fun j z j0 j1 z0 z1 => ?_⟩ _ (ax_y_i _), fun z => absurd z (by decide)⟩
        rw [r3 j z j0 j1 z0 z1]
        constructor
        · rintro (v | ⟨e, v | v⟩ | v)
          · exact Or.inl ⟨by omega, v.2⟩
          · exact Or.inl ⟨by omega, v.2⟩
          · have := v.1; omega
          · exact Or.inr ⟨by omega, v.2⟩
        · rintro (v | v)
          · by_cases e : j = x
            · exact Or.inr (Or.inl ⟨e, Or.inl ⟨z1, v.2⟩⟩)
            · exact Or.inl ⟨by omega, v.2⟩
          · exact Or.inr (Or.inr ⟨by omega, v.2⟩)
      · rw [r2 j z j0 j1 z0 z1]
        constructor
        · rintro (v | v)
          · exact Or.inl v
          · by_cases e : j = x
            · exact Or.inr (Or.inl ⟨e, Or.inr ⟨z0, v.2⟩⟩)
            · exact Or.inr (Or.inr ⟨by omega, v.2⟩)
        · rintro (v | ⟨e, v | v⟩ | v)
          · exact Or.inl v
          · have := v.1; omega
          · exact Or.inr ⟨by omega, v.2⟩
          · exact Or.inr ⟨by omega, v.2⟩
    · obtain ⟨hx, f2, g2, r2⟩ := hI2
      have ex : x = 26 := by omega
      rw [ex] at r2 ⊢
      refine r_Model_checkCycles_20 g2 rn rb (by decide) hy4 ⟨fun _ => next U ⟨⟨by omega, by omega⟩, f2, g2, ?_⟩ _ _ (ax_y_i _) hy4, fun z => absurd z (by decide)⟩
      rw [et1]
      exact fun j z j0 j1 z0 z1 => by rw [r2 j z j0 j1 z0 z1]; exact ⟨fun v => by rcases v with v | v; exact v.2; have := v.1; omega, fun v => Or.inl ⟨j1, v⟩⟩
  · obtain ⟨hb, f1, g1, r1⟩ := hI
    have eb : b = 26 := by omega
    rw [eb] at r1 ⊢
    exact r_Model_checkCycles_12 g1 rn (by decide) hy3 hy4 ⟨fun _ => h W f1 g1 r1 _ _ hy3 hy4, fun z => absurd z (by decide)⟩
end Kind6H
