/-! FAULTS 6, the class: through others, too -/
def g_wr (H : Int → Int → Prop) : Nat → Int → Int → Prop
  | 0 => H
  | b + 1 => fun k y => g_wr H b k y ∨ (g_wr H b k (b : Int) ∧ g_wr H b (b : Int) y)
theorem g_wr_s (H : Int → Int → Prop) (b : Nat) (y : Int) : g_wr H (b + 1) (b : Int) y ↔ g_wr H b (b : Int) y := ⟨fun z => by rcases z with z | z; exact z; exact z.2, fun z => Or.inl z⟩
/-- rows of bits -/
def g_rw (V : ax_V) (n : Int) (R : Int → Int → Prop) : Prop := ∀ k, 0 ≤ k → k < 26 → b_ok (V 545 (26 * n + k)) ∧ ∀ y, 0 ≤ y → y < 26 → (b_in (V 545 (26 * n + k)) y ↔ R k y)
theorem b_has {x b : Int} (hx : b_ok x) (hb : 0 ≤ b ∧ b < 26) : ax_and x (b_bit b) = 0 ↔ ¬ b_in x b := by
  rw [b_zero (b_ok_and hx)]
  constructor
  · intro z y
    exact z b hb.1 hb.2 ((b_in_and _ _ _).mpr ⟨y, (b_in_bit hb hb).mpr rfl⟩)
  · intro z l l0 l1 y
    have := (b_in_and _ _ _).mp y
    have e := (b_in_bit hb ⟨l0, l1⟩).mp this.2
    rw [e] at this
    exact z this.1
section Kind6E
variable {B r d : Nat} {C0 M0 V : ax_V} {n : Int} {H : Int → Int → Prop} {T : Int → Prop} {Ψ Θ : ax_V → Prop}
set_option maxHeartbeats 8000000 in
theorem t_warshall (hg : ax_g V) (n0 : 0 ≤ n ∧ n < 8) (hr : g_rw V n H) {y1 : Option Value} (hy1 : ax_y y1) (h : ∀ W, g_fr [545] V W → ax_g W → g_rw W n (g_wr H 26) → (∀ s, ¬ (26 * n ≤ s ∧ s < 26 * n + 26) → W 545 s = V 545 s) → ∀ y4, ax_y y4 → k_Judge_judgeCycles_88 B r (d + 1) y1 (26 * n) (26 * n) y4 W Ψ Θ) : ∀ y4, ax_y y4 → k_Judge_judgeCycles_12 B r (d + 1) y1 (26 * n) 0 y4 V Ψ Θ := by
  have rn : ax_rg (26 * n) := ⟨by omega, by omega⟩
  refine ax_for (I := fun b W => (0 ≤ b ∧ b ≤ 26) ∧ g_fr [545] V W ∧ ax_g W ∧ g_rw W n (g_wr H b.toNat) ∧ ∀ s, ¬ (26 * n ≤ s ∧ s < 26 * n + 26) → W 545 s = V 545 s) (K := fun b W => ∀ y4, ax_y y4 → k_Judge_judgeCycles_12 B r (d + 1) y1 (26 * n) b y4 W Ψ Θ) (hi := 26) (fun b W w hI next y4 hy4 => ?_) (fun b W w hI y4 hy4 => ?_) 0 V ⟨⟨by decide, by decide⟩, g_fr.rf _ _, hg, hr, fun _ _ => rfl⟩
  · obtain ⟨hb, f1, g1, r1, o1⟩ := hI
    obtain ⟨m, em⟩ : ∃ m : Nat, b = (m : Int) := ⟨b.toNat, by omega⟩
    have et : b.toNat = m := by omega
    have et1 : (b + 1).toNat = m + 1 := by omega
    rw [et] at r1
    refine r_Judge_judgeCycles_12 g1 hy1 rn ⟨by omega, by omega⟩ hy4 ⟨fun z => by omega, fun _ => ?_⟩
    refine ax_for (I := fun k U => (0 ≤ k ∧ k ≤ 26) ∧ g_fr [545] V U ∧ ax_g U ∧ g_rw U n (fun j y => (j < k ∧ g_wr H (m + 1) j y) ∨ (k ≤ j ∧ g_wr H m j y)) ∧ ∀ s, ¬ (26 * n ≤ s ∧ s < 26 * n + 26) → U 545 s = V 545 s) (K := fun k U => k_Judge_judgeCycles_21 B r (d + 1) y1 (26 * n) b k U Ψ Θ) (hi := 26) (fun k U w2 hI2 next2 => ?_) (fun k U w2 hI2 => ?_) 0 W ⟨⟨by decide, by decide⟩, f1, g1, fun j j0 j1 => ⟨(r1 j j0 j1).1, fun y y0 y1 => by rw [(r1 j j0 j1).2 y y0 y1]; exact ⟨fun z => Or.inr ⟨j0, z⟩, fun z => by rcases z with z | z; have := z.1; omega; exact z.2⟩⟩, o1⟩
    · obtain ⟨hk, f2, g2, r2, o2⟩ := hI2
      have bk : 0 ≤ 26 * n + k ∧ 26 * n + k < 208 := ⟨by omega, by omega⟩
      have bb : 0 ≤ 26 * n + b ∧ 26 * n + b < 208 := ⟨by omega, by omega⟩
      have r3 : ∀ j, 0 ≤ j → j < 26 → ∀ y, 0 ≤ y → y < 26 → (b_in (U 545 (26 * n + j)) y ↔ ((j < k ∧ g_wr H (m + 1) j y) ∨ (k ≤ j ∧ g_wr H m j y))) := fun j j0 j1 y y0 y1 => (r2 j j0 j1).2 y y0 y1
      have rk := r2 k hk.1 w2
      have rbb := r2 b hb.1 w
      have bit : ∀ {Φ' : Int → ax_V → Prop} {Θ' : ax_V → Prop}, Φ' (b_bit b) U → ax_I (az_W B (az_EJ B r)) (d + 1) q_Letters_bit [ax_i b] U Φ' Θ' := fun {Φ'} {Θ'} hh => by
        have t := t_bit (B := B) (E := az_EJ B r) (d := d) (Φ := Φ') (Θ := Θ') (n := 0) (l := b) g2 (by decide) ⟨hb.1, w⟩ hh
        rw [show 26 * (0 : Int) + b = b by omega] at t
        exact t
      refine r_Judge_judgeCycles_21 g2 hy1 rn ⟨by omega, by omega⟩ ⟨by omega, by omega⟩ ⟨fun z => by omega, fun _ => ⟨bk, bit ?_⟩⟩
      rw [b_has rk.1 ⟨hb.1, w⟩, r3 k hk.1 w2 b hb.1 w]
      have kb : ((k < k ∧ g_wr H (m + 1) k b) ∨ (k ≤ k ∧ g_wr H m k b)) ↔ g_wr H m k b := ⟨fun z => by rcases z with z | z; have := z.1; omega; exact z.2, fun z => Or.inr ⟨Int.le_refl _, z⟩⟩
      have bbm : ∀ y, ((b < k ∧ g_wr H (m + 1) b y) ∨ (k ≤ b ∧ g_wr H m b y)) ↔ g_wr H m b y := fun y => by
        have s := g_wr_s H m y
        rw [← em] at s
        constructor
        · rintro (z | z)
          · exact s.mp z.2
          · exact z.2
        · intro z
          by_cases x : b < k
          · exact Or.inl ⟨x, s.mpr z⟩
          · exact Or.inr ⟨by omega, z⟩
      have row : ∀ y, ((k < k ∧ g_wr H (m + 1) k y) ∨ (k ≤ k ∧ g_wr H m k y)) ↔ g_wr H m k y := fun y => ⟨fun z => by rcases z with z | z; have := z.1; omega; exact z.2, fun z => Or.inr ⟨Int.le_refl _, z⟩⟩
      have up : ∀ y, g_wr H (m + 1) k y ↔ (g_wr H m k y ∨ (g_wr H m k b ∧ g_wr H m b y)) := fun y => by rw [em]; exact Iff.rfl
      rw [kb]
      refine ⟨fun z => next2 U ⟨⟨by omega, by omega⟩, f2, g2, fun j j0 j1 => ⟨(r2 j j0 j1).1, fun y y0 y1 => ?_⟩, o2⟩, fun z => ⟨bk, bb, bk, fun U2 e2 => ?_⟩⟩
      · rw [r3 j j0 j1 y y0 y1]
        by_cases x : j = k
        · rw [x, row y]
          constructor
          · intro v; exact Or.inl ⟨by omega, (up y).mpr (Or.inl v)⟩
          · rintro (v | v)
            · rcases (up y).mp v.2 with v | v
              · exact v
              · exact absurd v.1 z
            · have := v.1; omega
        · constructor
          · rintro (v | v)
            · exact Or.inl ⟨by omega, v.2⟩
            · exact Or.inr ⟨by omega, v.2⟩
          · rintro (v | v)
            · exact Or.inl ⟨by omega, v.2⟩
            · exact Or.inr ⟨by omega, v.2⟩
      · have hz : g_wr H m k b := Classical.byContradiction z
        have bo := b_ok_or rk.1 rbb.1
        have vs : U2 545 (26 * n + k) = ax_or (U 545 (26 * n + k)) (U 545 (26 * n + b)) := by rw [e2, ax_u_s]
        have vk : ∀ s, s ≠ 26 * n + k → U2 545 s = U 545 s := fun s z => by rw [e2, ax_u_k z]
        refine next2 U2 ⟨⟨by omega, by omega⟩, by rw [e2]; exact f2.u (by decide), by rw [e2]; exact ax_u_g g2 bo.1, fun j j0 j1 => ?_, fun s z => by rw [vk s (by omega)]; exact o2 s z⟩
        by_cases x : j = k
        · rw [x, vs]
          refine ⟨bo, fun y y0 y1 => ?_⟩
          rw [b_in_or, r3 k hk.1 w2 y y0 y1, r3 b hb.1 w y y0 y1, row y, bbm y]
          constructor
          · intro v
            refine Or.inl ⟨by omega, (up y).mpr ?_⟩
            rcases v with v | v
            · exact Or.inl v
            · exact Or.inr ⟨hz, v⟩
          · rintro (v | v)
            · rcases (up y).mp v.2 with v | v
              · exact Or.inl v
              · exact Or.inr v.2
            · have := v.1; omega
        · rw [vk _ (by omega)]
          refine ⟨(r2 j j0 j1).1, fun y y0 y1 => ?_⟩
          rw [r3 j j0 j1 y y0 y1]
          constructor
          · rintro (v | v)
            · exact Or.inl ⟨by omega, v.2⟩
            · exact Or.inr ⟨by omega, v.2⟩
          · rintro (v | v)
            · exact Or.inl ⟨by omega, v.2⟩
            · exact Or.inr ⟨by omega, v.2⟩
    · obtain ⟨hk, f2, g2, r2, o2⟩ := hI2
      have ek : k = 26 := by omega
      rw [ek] at r2 ⊢
      refine r_Judge_judgeCycles_21 g2 hy1 rn ⟨by omega, by omega⟩ (by decide) ⟨fun _ => next U ⟨⟨by omega, by omega⟩, f2, g2, ?_, o2⟩ _ (ax_y_i _), fun z => absurd z (by decide)⟩
      rw [et1]
      exact fun j j0 j1 => ⟨(r2 j j0 j1).1, fun y y0 y1 => by rw [(r2 j j0 j1).2 y y0 y1]; exact ⟨fun z => by rcases z with z | z; exact z.2; have := z.1; omega, fun z => Or.inl ⟨j1, z⟩⟩⟩
  · obtain ⟨hb, f1, g1, r1, o1⟩ := hI
    have eb : b = 26 := by omega
    rw [eb] at r1 ⊢
    exact r_Judge_judgeCycles_12 g1 hy1 rn (by decide) hy4 ⟨fun _ => h W f1 g1 r1 o1 _ hy4, fun z => absurd z (by decide)⟩
end Kind6E
