/-! JUDGING, all kinds -/
def g_FA (C0 M0 : ax_V) (F G H : Int → Int) (k t : Int) : Prop := (k = 2 ∧ (m_nb M0 ≤ t ∨ ∃ n, (0 ≤ n ∧ n < (M0 222 86)) ∧ g_w2 C0 M0 n t)) ∨ (k = 3 ∧ ∃ n, (0 ≤ n ∧ n < (M0 222 86)) ∧ g_w3 C0 M0 F n t) ∨ (k = 4 ∧ ∃ n, (0 ≤ n ∧ n < (M0 222 86)) ∧ g_w4 C0 M0 G n t) ∨ (k = 5 ∧ ∃ n, (0 ≤ n ∧ n < (M0 222 86)) ∧ g_w5 C0 M0 H n t) ∨ (k = 6 ∧ ∃ n, (0 ≤ n ∧ n < (M0 222 86)) ∧ g_w6 C0 M0 n t)
/-- no fault of a kind below k -/
def g_FN (C0 M0 : ax_V) (F G H : Int → Int) (k : Int) : Prop := ∀ j t, 2 ≤ j → j < k → t < 700 → ¬ g_FA C0 M0 F G H j t
def g_FK (C0 M0 : ax_V) (F G H : Int → Int) (k p : Int) : Prop := (2 ≤ k ∧ k ≤ 6) ∧ g_FN C0 M0 F G H k ∧ p < 700 ∧ ∀ t, t < 700 → (p ≤ t ↔ g_FA C0 M0 F G H k t)
section JudgeA
variable {C0 M0 C M : ax_V} {F G H : Int → Int} {k p : Int}
theorem g_FA2 (t : Int) : g_FA C0 M0 F G H 2 t ↔ (m_nb M0 ≤ t ∨ ∃ n, (0 ≤ n ∧ n < (M0 222 86)) ∧ g_w2 C0 M0 n t) := ⟨fun z => by rcases z with z | z | z | z | z; exact z.2; exact absurd z.1 (by decide); exact absurd z.1 (by decide); exact absurd z.1 (by decide); exact absurd z.1 (by decide), fun z => Or.inl ⟨rfl, z⟩⟩
theorem g_FA3 (t : Int) : g_FA C0 M0 F G H 3 t ↔ (∃ n, (0 ≤ n ∧ n < (M0 222 86)) ∧ g_w3 C0 M0 F n t) := ⟨fun z => by rcases z with z | z | z | z | z; exact absurd z.1 (by decide); exact z.2; exact absurd z.1 (by decide); exact absurd z.1 (by decide); exact absurd z.1 (by decide), fun z => Or.inr (Or.inl ⟨rfl, z⟩)⟩
theorem g_FA4 (t : Int) : g_FA C0 M0 F G H 4 t ↔ (∃ n, (0 ≤ n ∧ n < (M0 222 86)) ∧ g_w4 C0 M0 G n t) := ⟨fun z => by rcases z with z | z | z | z | z; exact absurd z.1 (by decide); exact absurd z.1 (by decide); exact z.2; exact absurd z.1 (by decide); exact absurd z.1 (by decide), fun z => Or.inr (Or.inr (Or.inl ⟨rfl, z⟩))⟩
theorem g_FA5 (t : Int) : g_FA C0 M0 F G H 5 t ↔ (∃ n, (0 ≤ n ∧ n < (M0 222 86)) ∧ g_w5 C0 M0 H n t) := ⟨fun z => by rcases z with z | z | z | z | z; exact absurd z.1 (by decide); exact absurd z.1 (by decide); exact absurd z.1 (by decide); exact z.2; exact absurd z.1 (by decide), fun z => Or.inr (Or.inr (Or.inr (Or.inl ⟨rfl, z⟩)))⟩
theorem g_FA6 (t : Int) : g_FA C0 M0 F G H 6 t ↔ (∃ n, (0 ≤ n ∧ n < (M0 222 86)) ∧ g_w6 C0 M0 n t) := ⟨fun z => by rcases z with z | z | z | z | z; exact absurd z.1 (by decide); exact absurd z.1 (by decide); exact absurd z.1 (by decide); exact absurd z.1 (by decide); exact z.2, fun z => Or.inr (Or.inr (Or.inr (Or.inr ⟨rfl, z⟩)))⟩
theorem g_FN.two : g_FN C0 M0 F G H 2 := fun j t a b => by omega
theorem g_FN.next (h : g_FN C0 M0 F G H k) (z : ∀ t, t < 700 → ¬ g_FA C0 M0 F G H k t) : g_FN C0 M0 F G H (k + 1) := fun j t a b c => by
  by_cases e : j = k
  · rw [e]; exact z t c
  · exact h j t a (by omega) c
/-- one fault alone -/
theorem g_FK.one {k' p' : Int} (h : g_FK C0 M0 F G H k p) (h' : g_FK C0 M0 F G H k' p') : k = k' ∧ p = p' := by
  have e : k = k' := by
    have a : ¬ k < k' := fun z => h'.2.1 k p h.1.1 z h.2.2.1 ((h.2.2.2 p h.2.2.1).mp (Int.le_refl _))
    have b : ¬ k' < k := fun z => h.2.1 k' p' h'.1.1 z h'.2.2.1 ((h'.2.2.2 p' h'.2.2.1).mp (Int.le_refl _))
    omega
  rw [← e] at h'
  have a := (h.2.2.2 p' h'.2.2.1).mpr ((h'.2.2.2 p' h'.2.2.1).mp (Int.le_refl _))
  have b := (h'.2.2.2 p h.2.2.1).mpr ((h.2.2.2 p h.2.2.1).mp (Int.le_refl _))
  exact ⟨e, by omega⟩
theorem g_FK.none (h : g_FK C0 M0 F G H k p) : ¬ g_FN C0 M0 F G H 7 := fun z => z k p h.1.1 (by have := h.1.2; omega) h.2.2.1 ((h.2.2.2 p h.2.2.1).mp (Int.le_refl _))
theorem g_S.N2 (hS : g_S C0 M0) (h : ∀ t, t < 700 → ¬ g_FA C0 M0 F G H 2 t) : g_N2 M0 := by
  have tw := hS.2.2.2.1.2.2.2
  have z : ∀ t, t < 700 → ¬ (m_nb M0 ≤ t ∨ ∃ n, (0 ≤ n ∧ n < (M0 222 86)) ∧ g_v2 M0 n t) := fun t w v => h t w ((g_FA2 t).mpr ((hS.same2 t).mpr v))
  refine ⟨?_, fun n t n0 n1 w v => z t w (Or.inr ⟨n, ⟨n0, n1⟩, v⟩)⟩
  have q := z 699 (by decide)
  by_cases e : (M0 222 73) = -1
  · exact e
  · rcases tw with v | v
    · exact v.1
    · exfalso
      apply q
      left
      unfold m_nb
      have v2 := v.2
      rw [if_neg e, if_pos (show (M0 222 73) < 700 by omega)]
      omega
theorem g_S.later (hS : g_S C0 M0) {q : Int} (q0 : 0 ≤ q) (q1 : q < (M0 222 26)) : M0 256 q = 0 := by
  have B := hS.2.2.2.2.1
  rcases B.2.2.2.2.2.1.1 q q0 q1 with ⟨e, e0, e1, e2, e3⟩ | ⟨m, m0, m1, m2, m3⟩
  · exact ((B.2.1 e e0 e1).2.2.2.2.2.1.2.2 q e2 e3).1.2.2
  · exact ((B.2.2.2.2.1 m m0 m1).2.2.2.2.2.2.2.2.2 q m2 m3).1.2.2
end JudgeA
/-- the class behind judging, no fault found -/
def g_JC (C0 M0 : ax_V) (F G : Int → Int) (C2 C : ax_V) : Prop := g_fr g_XJ C0 C ∧ ax_g C ∧ g_Own C0 M0 C2 (M0 222 52) ∧ (∀ q, 0 ≤ q → q < (M0 222 26) → C 528 q = F q) ∧ (∀ q, 0 ≤ q → q < (M0 222 26) → C 529 q = g_cc (M0 250 q) (G q)) ∧ (∀ a, 0 ≤ a → a < (M0 222 55) → b_ok (C 561 a) ∧ ∀ y, 0 ≤ y → y < 26 → (b_in (C 561 a) y ↔ g_nd C0 M0 a y)) ∧ (∀ e, 0 ≤ e → e < (M0 222 44) → b_ok (C 552 e) ∧ ∀ y, 0 ≤ y → y < 26 → (b_in (C 552 e) y ↔ g_en C0 M0 e y))
section JudgeB
variable {B r d : Nat} {C0 M0 C : ax_V} {F G : Int → Int} {Φ : Int → ax_V → Prop} {Θ : ax_V → Prop}
set_option maxHeartbeats 4000000 in
/-- the class judges -/
theorem t_judge (hS : g_S C0 M0) (hF : g_N2 M0 → g_F C0 M0 F) (hG : g_G M0 G) (hf : g_fr [601] C0 C) (hg : ax_g C) (hT : ∀ t, (C 601 5) ≤ t ↔ m_nb M0 ≤ t) {y1 : Option Value} (hy1 : ax_y y1)
    (bad : ∀ k C2 C', g_Own C0 M0 C2 (M0 222 52) → ax_g C' → g_fr g_XJ C0 C' → g_FK C0 M0 F G (C2 543) k (C' 601 5) → Φ k C')
    (good : ∀ C2 C', g_FN C0 M0 F G (C2 543) 7 → g_JC C0 M0 F G C2 C' → Φ 0 C') : ∀ y, ax_y y → k_Judge_judge_7 B r (d + 7) y1 2 y C Φ Θ := by
  have hfe := hS.2.2.2.2.2.1
  have hhf : g_hf M0 (C0 509 (M0 222 86)) = (M0 222 52) := by
    rw [hfe.2.1]
    unfold g_hf
    rw [if_neg (by omega)]
  have xu : ∀ {L : List Nat} {C' C'' : ax_V}, (∀ c, c ∈ L → c ∈ g_XJ) → g_fr g_XJ C0 C' → g_fr L C' C'' → g_fr g_XJ C0 C'' := fun sub a b => a.tr (b.up sub)
  -- what least says when the kind before was clean
  have cl : ∀ {C' : ax_V} {T A : Int → Prop}, (∀ t, t < 700 → ¬ T t) → (∀ t, (C' 601 5) ≤ t ↔ (T t ∨ A t)) → ∀ t, t < 700 → ((C' 601 5) ≤ t ↔ A t) := fun a b t w => by
    rw [b t]
    exact ⟨fun z => by rcases z with z | z; exact absurd z (a t w); exact z, fun z => Or.inr z⟩
  refine t_kind2 (d := d + 3) hS hf hg hT hy1 (fun C2 h2 => ⟨fun le2 y hy => ?_, fun lt2 => ?_⟩)
  · rw [hhf] at h2
    have x2 : g_fr g_XJ C0 C2 := h2.1.up (by decide)
    have n2 : ∀ t, t < 700 → ¬ g_FA C0 M0 F G (C2 543) 2 t := fun t w z => by
      have := (h2.2.2.2.2 t).mpr ((g_FA2 t).mp z)
      omega
    have N3 : g_FN C0 M0 F G (C2 543) 3 := g_FN.two.next n2
    have ok := hS.N2 n2
    refine t_kind3 (d := d + 1) hS ok (hF ok) x2 h2.2.1 (T := fun t => (C2 601 5) ≤ t) (fun t => Iff.rfl) hy1 (fun C3 h3 => ⟨fun le3 y hy => ?_, fun lt3 => ?_⟩) y hy
    · have x3 : g_fr g_XJ C0 C3 := xu (by decide) x2 h3.1
      have n3 : ∀ t, t < 700 → ¬ g_FA C0 M0 F G (C2 543) 3 t := fun t w z => by
        have := (h3.2.2.2 t).mpr (Or.inr ((g_FA3 t).mp z))
        omega
      have N4 : g_FN C0 M0 F G (C2 543) 4 := N3.next n3
      refine t_kind4 (d := d) hS hG x3 h3.2.1 (T := fun t => (C3 601 5) ≤ t) (fun t => Iff.rfl) hy1 (fun C4 h4 => ⟨fun le4 y hy => ?_, fun lt4 => ?_⟩) y hy
      · have x4 : g_fr g_XJ C0 C4 := xu (by decide) x3 h4.1
        have n4 : ∀ t, t < 700 → ¬ g_FA C0 M0 F G (C2 543) 4 t := fun t w z => by
          have := (h4.2.2.2 t).mpr (Or.inr ((g_FA4 t).mp z))
          omega
        have N5 : g_FN C0 M0 F G (C2 543) 5 := N4.next n4
        have e43 : C4 543 = C2 543 := by rw [h4.1 543 (by decide), h3.1 543 (by decide)]
        have e44 : C4 544 = C0 544 := by rw [h4.1 544 (by decide), h3.1 544 (by decide), h2.1 544 (by decide)]
        refine t_kind5 (d := d + 3) hS x4 e44 h4.2.1 (T := fun t => (C4 601 5) ≤ t) (fun t => Iff.rfl) hy1 (fun C5 h5 => ⟨fun le5 y hy => ?_, fun lt5 => ?_⟩) y hy
        · have x5 : g_fr g_XJ C0 C5 := xu (by decide) x4 h5.1
          have l5 := h5.2.2.2.2.2
          rw [e43] at l5
          have n5 : ∀ t, t < 700 → ¬ g_FA C0 M0 F G (C2 543) 5 t := fun t w z => by
            have := (l5 t).mpr (Or.inr ((g_FA5 t).mp z))
            omega
          have N6 : g_FN C0 M0 F G (C2 543) 6 := N5.next n5
          have e45 : C5 545 = C0 545 := by rw [h5.1 545 (by decide), h4.1 545 (by decide), h3.1 545 (by decide), h2.1 545 (by decide)]
          have e61 : C5 561 = C0 561 := by rw [h5.1 561 (by decide), h4.1 561 (by decide), h3.1 561 (by decide), h2.1 561 (by decide)]
          refine t_kind6 (d := d + 2) hS x5 e45 e61 h5.2.1 (T := fun t => (C5 601 5) ≤ t) (fun t => Iff.rfl) hy1 (fun C6 h6 => ⟨fun le6 y hy => ?_, fun lt6 => ?_⟩) y hy
          · have x6 : g_fr g_XJ C0 C6 := xu (by decide) x5 h6.1
            have n6 : ∀ t, t < 700 → ¬ g_FA C0 M0 F G (C2 543) 6 t := fun t w z => by
              have := (h6.2.2.2.2.2.2 t).mpr (Or.inr ((g_FA6 t).mp z))
              omega
            have k561 := h6.2.2.1
            have k552 := h6.2.2.2.2.1
            rw [hfe.2.2] at k561
            rw [hfe.2.1] at k552
            refine r_Judge_judge_7 h6.2.1 hy1 (by decide) hy ⟨fun _ => good C2 C6 (N6.next n6) ⟨x6, h6.2.1, h2.2.2.1, fun q a b => ?_, fun q a b => ?_, k561, k552⟩, fun z => absurd z (by decide)⟩
            · rw [h6.1 528 (by decide), h5.1 528 (by decide), h4.1 528 (by decide)]; exact h3.2.2.1 q a b
            · rw [h6.1 529 (by decide), h5.1 529 (by decide)]; exact h4.2.2.1 q a b
          · exact bad 6 C2 C6 h2.2.2.1 h6.2.1 (xu (by decide) x5 h6.1) ⟨by decide, N6, lt6, fun t w => by rw [g_FA6 t]; exact cl (T := fun t => (C5 601 5) ≤ t) (fun t w z => by have z1 : (C5 601 5) ≤ t := z; omega) h6.2.2.2.2.2.2 t w⟩
        · have l5 := h5.2.2.2.2.2
          rw [e43] at l5
          exact bad 5 C2 C5 h2.2.2.1 h5.2.1 (xu (by decide) x4 h5.1) ⟨by decide, N5, lt5, fun t w => by rw [g_FA5 t]; exact cl (T := fun t => (C4 601 5) ≤ t) (fun t w z => by have z1 : (C4 601 5) ≤ t := z; omega) l5 t w⟩
      · exact bad 4 C2 C4 h2.2.2.1 h4.2.1 (xu (by decide) x3 h4.1) ⟨by decide, N4, lt4, fun t w => by rw [g_FA4 t]; exact cl (T := fun t => (C3 601 5) ≤ t) (fun t w z => by have z1 : (C3 601 5) ≤ t := z; omega) h4.2.2.2 t w⟩
    · exact bad 3 C2 C3 h2.2.2.1 h3.2.1 (xu (by decide) x2 h3.1) ⟨by decide, N3, lt3, fun t w => by rw [g_FA3 t]; exact cl (T := fun t => (C2 601 5) ≤ t) (fun t w z => by have z1 : (C2 601 5) ≤ t := z; omega) h3.2.2.2 t w⟩
  · rw [hhf] at h2
    exact bad 2 C2 C2 h2.2.2.1 h2.2.1 (h2.1.up (by decide)) ⟨by decide, g_FN.two, lt2, fun t w => by rw [g_FA2 t]; exact h2.2.2.2.2 t⟩
end JudgeB
