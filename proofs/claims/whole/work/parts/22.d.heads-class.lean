/-! THE CLASS JUDGES THE LETTERS OF EQUATIONS -/
abbrev g_X2 : List Nat := [601, 541, 542, 543, 564]
def g_Own (C0 M0 C : ax_V) (H : Int) : Prop := ∀ s, 0 ≤ s → s < 208 →
  ((∀ i, 0 ≤ i → i < H → ¬ C0 554 i = s) ∧ C 541 s = -2 ∧ C 542 s = -1 ∧ C 543 s = -1) ∨
  (∃ f l, (0 ≤ f ∧ f ≤ l ∧ l < H) ∧ (C0 554 f = s ∧ C0 554 l = s) ∧ (∀ i, 0 ≤ i → i < f → ¬ C0 554 i = s) ∧ (∀ i, l < i → i < H → ¬ C0 554 i = s) ∧ C 541 s = M0 263 (g_eo M0 f) ∧ C 542 s = C0 551 (g_eo M0 l) ∧ C 543 s = C0 555 f)
def g_Msk (C0 M0 C : ax_V) (H : Int) : Prop := ∀ a st, 0 ≤ a → a < (M0 222 55) → 0 ≤ st → C0 558 a ≤ st → st < C0 558 (a + 1) → b_ok (C 564 st) ∧ ∀ l, 0 ≤ l → l < 26 → (b_in (C 564 st) l ↔ ∃ i, (0 ≤ i ∧ i < H) ∧ C0 551 (g_eo M0 i) = st ∧ M0 265 i = l)
/-- it clashes with one ahead of it -/
def g_cf (C0 M0 : ax_V) (i : Int) : Prop := ∃ f l, (0 ≤ f ∧ f ≤ l ∧ l < i) ∧ (C0 554 f = C0 554 i ∧ C0 554 l = C0 554 i) ∧ (∀ k, 0 ≤ k → k < f → ¬ C0 554 k = C0 554 i) ∧ (∀ k, l < k → k < i → ¬ C0 554 k = C0 554 i) ∧ ¬ (0 ≤ M0 263 (g_eo M0 i) ∧ M0 263 (g_eo M0 i) = M0 263 (g_eo M0 f) ∧ ¬ C0 551 (g_eo M0 i) = C0 551 (g_eo M0 l))
def g_bh (C0 M0 : ax_V) (i : Int) : Prop := C0 533 (C0 554 i) = -1 ∨ C0 534 (C0 554 i) = 1 ∨ g_cf C0 M0 i
theorem t_bit {B d : Nat} {E : List (Nat × ax_S)} {C : ax_V} {Φ : Int → ax_V → Prop} {Θ : ax_V → Prop} {n l : Int} (hg : ax_g C) (hn : 0 ≤ n ∧ n < 8) (hl : 0 ≤ l ∧ l < 26) (h : Φ (b_bit l) C) : ax_I (az_W B E) (d + 1) q_Letters_bit [ax_i (26 * n + l)] C Φ Θ := by
  refine r_Letters_bit hg ⟨by omega, by omega⟩ ?_
  rw [b_rem hn hl]; exact h
section ClassHeads
variable {B r d : Nat} {C0 M0 C : ax_V} {i : Int} {Ψ Θ : ax_V → Prop}
theorem g_Own.next {C' : ax_V} (hO : g_Own C0 M0 C i) (i0 : 0 ≤ i) (h1 : ∀ s, s ≠ C0 554 i → C' 541 s = C 541 s ∧ C' 542 s = C 542 s ∧ C' 543 s = C 543 s) (h2 : C' 542 (C0 554 i) = C0 551 (g_eo M0 i)) (h3 : (C' 541 (C0 554 i) = C 541 (C0 554 i) ∧ C' 543 (C0 554 i) = C 543 (C0 554 i) ∧ ∃ k, 0 ≤ k ∧ k < i ∧ C0 554 k = C0 554 i) ∨ (C' 541 (C0 554 i) = M0 263 (g_eo M0 i) ∧ C' 543 (C0 554 i) = C0 555 i ∧ ∀ k, 0 ≤ k → k < i → ¬ C0 554 k = C0 554 i)) : g_Own C0 M0 C' (i + 1) := by
  intro s s0 s1
  by_cases w : s = C0 554 i
  · rcases h3 with ⟨a1, a2, k, k0, k1, k2⟩ | ⟨a1, a2, a3⟩
    · rcases hO s s0 s1 with ⟨b1, -⟩ | ⟨f, l, ⟨f0, fl, l1⟩, ⟨e1, e2⟩, c1, c2, c3, c4, c5⟩
      · exact absurd (k2.trans w.symm) (b1 k k0 k1)
      · refine Or.inr ⟨f, i, ⟨f0, by omega, by omega⟩, ⟨e1, w.symm⟩, c1, fun j a b => by omega, ?_, ?_, ?_⟩
        · rw [w, a1, ← w]; exact c3
        · rw [w]; exact h2
        · rw [w, a2, ← w]; exact c5
    · refine Or.inr ⟨i, i, ⟨i0, Int.le_refl _, by omega⟩, ⟨w.symm, w.symm⟩, fun j a b => by rw [w]; exact a3 j a b, fun j a b => by omega, ?_, ?_, ?_⟩
      · rw [w]; exact a1
      · rw [w]; exact h2
      · rw [w]; exact a2
  · obtain ⟨v1, v2, v3⟩ := h1 s w
    rcases hO s s0 s1 with ⟨b1, b2⟩ | ⟨f, l, ⟨f0, fl, l1⟩, e, c1, c2, c3⟩
    · refine Or.inl ⟨fun j a b => ?_, by rw [v1, v2, v3]; exact b2⟩
      by_cases q : j = i
      · rw [q]; exact fun z => w z.symm
      · exact b1 j a (by omega)
    · refine Or.inr ⟨f, l, ⟨f0, fl, by omega⟩, e, c1, fun j a b => ?_, by rw [v1, v2, v3]; exact c3⟩
      by_cases q : j = i
      · rw [q]; exact fun z => w z.symm
      · exact c2 j a (by omega)
theorem g_Msk.next {C' : ax_V} (hM : g_Msk C0 M0 C i) (i0 : 0 ≤ i) (hl : 0 ≤ M0 265 i ∧ M0 265 i < 26) (h1 : ∀ st, st ≠ C0 551 (g_eo M0 i) → C' 564 st = C 564 st) (h2 : 0 ≤ C0 551 (g_eo M0 i) → C' 564 (C0 551 (g_eo M0 i)) = ax_or (C 564 (C0 551 (g_eo M0 i))) (b_bit (M0 265 i))) : g_Msk C0 M0 C' (i + 1) := by
  intro a st a0 a3 s0 s1 s2
  obtain ⟨a1, a2⟩ := hM a st a0 a3 s0 s1 s2
  by_cases w : st = C0 551 (g_eo M0 i)
  · have e := h2 (by omega)
    rw [← w] at e
    refine ⟨by rw [e]; exact b_ok_or a1 (b_ok_bit hl), fun l l0 l1 => ?_⟩
    rw [e, b_in_or, a2 l l0 l1, b_in_bit hl ⟨l0, l1⟩]
    constructor
    · rintro (⟨k, k0, k1, k2⟩ | q)
      · exact ⟨k, ⟨k0.1, by omega⟩, k1, k2⟩
      · exact ⟨i, ⟨i0, by omega⟩, w.symm, q.symm⟩
    · rintro ⟨k, k0, k1, k2⟩
      by_cases q : k = i
      · rw [q] at k2; exact Or.inr k2.symm
      · exact Or.inl ⟨k, ⟨k0.1, by omega⟩, k1, k2⟩
  · rw [h1 st w]
    refine ⟨a1, fun l l0 l1 => ?_⟩
    rw [a2 l l0 l1]
    constructor
    · rintro ⟨k, k0, k1, k2⟩
      exact ⟨k, ⟨k0.1, by omega⟩, k1, k2⟩
    · rintro ⟨k, k0, k1, k2⟩
      by_cases q : k = i
      · rw [q] at k1; exact absurd k1.symm w
      · exact ⟨k, ⟨k0.1, by omega⟩, k1, k2⟩
set_option maxHeartbeats 4000000 in
theorem t_judgeHead (hS : g_S C0 M0) (hf : g_fr g_X2 C0 C) (hg : ax_g C) (i0 : 0 ≤ i) (i1 : i < (M0 222 52)) (hO : g_Own C0 M0 C i) (hM : g_Msk C0 M0 C i) (h : ∀ C', g_fr g_X2 C0 C' → ax_g C' → g_Own C0 M0 C' (i + 1) → g_Msk C0 M0 C' (i + 1) → (∀ t, C' 601 5 ≤ t ↔ C 601 5 ≤ t ∨ (g_bh C0 M0 i ∧ C0 555 i ≤ t)) → Ψ C') : ax_N (az_W B (az_EJ B r)) (d + 2) q_Judge_judgeHead [.ref r, ax_i (C0 554 i), ax_i (C0 555 i), ax_i (C0 551 (g_eo M0 i))] C Ψ Θ := by
  obtain ⟨sl, sl2, sl3, sl4⟩ := hS.slot i0 i1
  have hh := hS.h i0 i1
  have heo := hS.eo i0 i1
  have hst := hS.st heo.1.1 heo.1.2
  have hn8 := hS.2.1
  obtain ⟨s, es⟩ : ∃ s : Int, s = C0 554 i := ⟨_, rfl⟩
  obtain ⟨p, ep⟩ : ∃ p : Int, p = C0 555 i := ⟨_, rfl⟩
  obtain ⟨st, est⟩ : ∃ st : Int, st = C0 551 (g_eo M0 i) := ⟨_, rfl⟩
  obtain ⟨a, ea⟩ : ∃ a : Int, a = M0 263 (g_eo M0 i) := ⟨_, rfl⟩
  obtain ⟨l, el⟩ : ∃ l : Int, l = M0 265 i := ⟨_, rfl⟩
  obtain ⟨nn, en⟩ : ∃ nn : Int, nn = M0 258 (g_eo M0 i) := ⟨_, rfl⟩
  have rp : ax_rg p := by rw [ep, hh.2.2.1]; have := hh.2.2.2; exact ⟨by omega, by omega⟩
  rw [← es] at sl sl4
  rw [← el] at sl sl2
  rw [← en] at sl sl3
  rw [← est, ← ea] at hst
  have rst : ax_rg st := ⟨by omega, by omega⟩
  have ra : ax_rg a := by have := hS.2.2.2.2.2.2.2; have := hS.2.2.2.2.1.1.2.2.1; exact ⟨by omega, by omega⟩
  have rs : ax_rg s := ⟨by omega, by omega⟩
  have b8 : 0 ≤ s ∧ s < 208 := sl4
  have c533 : C 533 = C0 533 := hf 533 (by decide)
  have c534 : C 534 = C0 534 := hf 534 (by decide)
  have c563 : C 563 = C0 563 := hf 563 (by decide)
  have hst1 : st = -1 → a = -1 := fun q => by omega
  have hst2 : ¬ st = -1 → 0 ≤ st ∧ st < 350 := fun q => by omega
  have hn3 : nn < 8 := by omega
  have hnx := fun (C' : ax_V) => hO.next (C' := C') i0
  have hmx := fun (C' : ax_V) => hM.next (C' := C') i0 (by rw [← el]; exact sl2)
  have hcf : g_cf C0 M0 i ↔ ∃ f l, (0 ≤ f ∧ f ≤ l ∧ l < i) ∧ (C0 554 f = s ∧ C0 554 l = s) ∧ (∀ k, 0 ≤ k → k < f → ¬ C0 554 k = s) ∧ (∀ k, l < k → k < i → ¬ C0 554 k = s) ∧ ¬ (0 ≤ a ∧ a = M0 263 (g_eo M0 f) ∧ ¬ st = C0 551 (g_eo M0 l)) := by unfold g_cf; rw [← es, ← est, ← ea]
  have hbh : g_bh C0 M0 i ↔ C0 533 s = -1 ∨ C0 534 s = 1 ∨ g_cf C0 M0 i := by unfold g_bh; rw [← es]
  rw [← es, ← ep, ← est]
  rw [← ep] at h
  rw [← es, ← est, ← ea, ← ep] at hnx
  rw [← est, ← el] at hmx
  -- the end of it, from where the owner is looked at
  have k77 : ∀ (w : Int) (C2 : ax_V) (y : Option Value), ax_y y → (w = 0 ∨ w = 1) → (¬ w = 0 ↔ (C0 533 s = -1 ∨ C0 534 s = 1)) → g_fr g_X2 C0 C2 → ax_g C2 → (∀ c, c ≠ 601 → c ≠ 564 → C2 c = C c) → (∀ t, C2 601 5 ≤ t ↔ C 601 5 ≤ t ∨ (¬ w = 0 ∧ p ≤ t)) → (∀ k, k ≠ st → C2 564 k = C 564 k) → (0 ≤ st → C2 564 st = ax_or (C 564 st) (b_bit l)) → k_Judge_judgeHead_77 B r (d + 1) s p st a y C2 Ψ Θ := by
    intro w C2 y hy w01 hw f2 g2 n2 t2 m2 m3
    have e541 : C2 541 = C 541 := n2 541 (by decide) (by decide)
    have e542 : C2 542 = C 542 := n2 542 (by decide) (by decide)
    have e543 : C2 543 = C 543 := n2 543 (by decide) (by decide)
    rcases hO s b8.1 b8.2 with ⟨o1, o2, o3, o4⟩ | ⟨f, ll, ⟨f0, fl, l1⟩, ⟨e1, e2⟩, c1, c2, c3, c4, c5⟩
    · refine r_Judge_judgeHead_77 g2 rs rp rst ra hy ⟨b8, fun _ => ⟨b8, fun V1 v1 => ⟨b8, fun V2 v2 => ⟨b8, fun V3 v3 => ?_⟩⟩⟩, fun q => absurd (by rw [e541]; exact o2) q⟩
      have g3 : ax_g V3 := by rw [v3, v2, v1]; exact ax_u_g (ax_u_g (ax_u_g g2 ra) rp) rst
      have x1 : V3 541 s = a := by rw [v3, ax_u_ne (by decide), v2, ax_u_ne (by decide), v1]; exact ax_u_s _ _ _ _
      have x2 : V3 542 s = st := by rw [v3]; exact ax_u_s _ _ _ _
      have x3 : V3 543 s = p := by rw [v3, ax_u_ne (by decide), v2]; exact ax_u_s _ _ _ _
      have x4 : V3 564 = C2 564 := by rw [v3, ax_u_ne (by decide), v2, ax_u_ne (by decide), v1, ax_u_ne (by decide)]
      have x5 : V3 601 = C2 601 := by rw [v3, ax_u_ne (by decide), v2, ax_u_ne (by decide), v1, ax_u_ne (by decide)]
      refine h V3 (by rw [v3, v2, v1]; exact ((f2.u (by decide)).u (by decide)).u (by decide)) g3 (hnx V3 (fun s' z => ?_) x2 (Or.inr ⟨x1, x3, o1⟩)) (hmx V3 (fun k z => by rw [x4]; exact m2 k z) (fun z => by rw [x4]; exact m3 z)) (fun t => ?_)
      · refine ⟨?_, ?_, ?_⟩
        · rw [v3, ax_u_ne (by decide), v2, ax_u_ne (by decide), v1, ax_u_k z, e541]
        · rw [v3, ax_u_k z, v2, ax_u_ne (by decide), v1, ax_u_ne (by decide), e542]
        · rw [v3, ax_u_ne (by decide), v2, ax_u_k z, v1, ax_u_ne (by decide), e543]
      · rw [x5, t2 t, hbh, hw]
        have : ¬ g_cf C0 M0 i := by
          rw [hcf]
          rintro ⟨f, ll, ⟨f0, fl, l1⟩, ⟨e1, -⟩, -⟩
          exact o1 f f0 (by omega) e1
        constructor
        · rintro (q | ⟨q, z⟩)
          · exact Or.inl q
          · exact Or.inr ⟨by rcases q with q | q; exact Or.inl q; exact Or.inr (Or.inl q), z⟩
        · rintro (q | ⟨q, z⟩)
          · exact Or.inl q
          · refine Or.inr ⟨?_, z⟩
            rcases q with q | q | q
            · exact Or.inl q
            · exact Or.inr q
            · exact absurd q this
    · have d1 : C2 541 s = M0 263 (g_eo M0 f) := by rw [e541]; exact c3
      have d2 : C2 542 s = C0 551 (g_eo M0 ll) := by rw [e542]; exact c4
      have ne2 : ¬ C2 541 s = -2 := by
        rw [d1]
        have hq := hS.eo f0 (by omega : f < (M0 222 52))
        rcases hS.st hq.1.1 hq.1.2 with z | z <;> omega
      have hcf2 : g_cf C0 M0 i ↔ ¬ (0 ≤ a ∧ a = C2 541 s ∧ ¬ st = C2 542 s) := by
        rw [hcf, d1, d2]
        constructor
        · rintro ⟨f', l', ⟨f0', fl', l1'⟩, ⟨e1', e2'⟩, c1', c2', c3'⟩
          have ef : f' = f := by
            rcases Int.lt_trichotomy f' f with z | z | z
            · exact absurd e1' (c1 f' f0' z)
            · exact z
            · exact absurd e1 (c1' f f0 z)
          have ell : l' = ll := by
            rcases Int.lt_trichotomy l' ll with z | z | z
            · exact absurd e2 (c2' ll z l1)
            · exact z
            · exact absurd e2' (c2 l' z l1')
          rw [ef, ell] at c3'; exact c3'
        · intro q
          exact ⟨f, ll, ⟨f0, fl, l1⟩, ⟨e1, e2⟩, c1, c2, q⟩
      -- what is left after the blame
      have fin : ∀ (v : Int), (v = 0 ∨ v = 1) → (¬ v = 0 ↔ g_cf C0 M0 i) → ∀ V1, V1 = j_bl C2 v p → (0 ≤ s ∧ s < 208) ∧ (∀ V2, V2 = ax_u V1 542 s st → Ψ V2) := by
        intro v v01 hv V1 v1
        refine ⟨b8, fun V2 v2 => ?_⟩
        have n1 : ∀ c, c ≠ 601 → V1 c = C2 c := fun c z => by rw [v1]; exact j_bl_ne z
        have g1 : ax_g V1 := by rw [v1]; exact j_bl_g g2 rp
        have x4 : V2 564 = C2 564 := by rw [v2, ax_u_ne (by decide), n1 564 (by decide)]
        refine h V2 (by rw [v2, v1]; exact (f2.bl (by decide)).u (by decide)) (by rw [v2]; exact ax_u_g g1 rst) (hnx V2 (fun s' z => ?_) (by rw [v2]; exact ax_u_s _ _ _ _) (Or.inl ⟨?_, ?_, f, f0, by omega, e1⟩)) (hmx V2 (fun k z => by rw [x4]; exact m2 k z) (fun z => by rw [x4]; exact m3 z)) (fun t => ?_)
        · refine ⟨?_, ?_, ?_⟩
          · rw [v2, ax_u_ne (by decide), n1 541 (by decide), e541]
          · rw [v2, ax_u_k z, n1 542 (by decide), e542]
          · rw [v2, ax_u_ne (by decide), n1 543 (by decide), e543]
        · rw [v2, ax_u_ne (by decide), n1 541 (by decide), e541]
        · rw [v2, ax_u_ne (by decide), n1 543 (by decide), e543]
        · rw [v2, ax_u_ne (by decide), v1, j_bl_le, t2 t, hbh, hw, hv]
          constructor
          · rintro ((q | ⟨q, z⟩) | ⟨q, z⟩)
            · exact Or.inl q
            · exact Or.inr ⟨by rcases q with q | q; exact Or.inl q; exact Or.inr (Or.inl q), z⟩
            · exact Or.inr ⟨Or.inr (Or.inr q), z⟩
          · rintro (q | ⟨q, z⟩)
            · exact Or.inl (Or.inl q)
            · rcases q with q | q | q
              · exact Or.inl (Or.inr ⟨Or.inl q, z⟩)
              · exact Or.inl (Or.inr ⟨Or.inr q, z⟩)
              · exact Or.inr ⟨q, z⟩
      refine r_Judge_judgeHead_77 g2 rs rp rst ra hy ⟨b8, fun q => absurd q ne2, fun _ => ⟨fun q => t_blame g2 (by decide) rp (fin 1 (Or.inr rfl) ⟨fun _ => hcf2.mpr (fun z => by omega), fun _ => by decide⟩ _ rfl), fun q => ⟨b8, fun q2 => ⟨b8, fun q3 => t_blame g2 (by decide) rp (fin 1 (Or.inr rfl) ⟨fun _ => hcf2.mpr (fun z => z.2.2 q3), fun _ => by decide⟩ _ rfl), fun q3 => t_blame g2 (by decide) rp (fin 0 (Or.inl rfl) ⟨fun z => absurd rfl z, fun z => absurd ⟨q, q2, q3⟩ (hcf2.mp z)⟩ _ rfl)⟩, fun q2 => t_blame g2 (by decide) rp (fin 1 (Or.inr rfl) ⟨fun _ => hcf2.mpr (fun z => q2 z.2.1), fun _ => by decide⟩ _ rfl)⟩⟩⟩
  -- from where the letter is looked at
  have mid : ∀ (w : Int), (w = 0 ∨ w = 1) → (¬ w = 0 ↔ (C0 533 s = -1 ∨ C0 534 s = 1)) → ∀ V1, V1 = j_bl C w p → ∀ (y5 : Option Value), ax_y y5 → ((st = -1 → k_Judge_judgeHead_77 B r (d + 1) s p st a y5 V1 Ψ Θ) ∧ (¬ st = -1 → (0 ≤ st ∧ st < 350) ∧ ax_I (az_W B (az_EJ B r)) (d + 1) q_Letters_bit [ax_i s] V1 (fun r2 V2 => (0 ≤ st ∧ st < 350) ∧ (∀ V3, V3 = ax_u V2 564 st (ax_or (V1 564 st) r2) → k_Judge_judgeHead_77 B r (d + 1) s p st a y5 V3 Ψ Θ)) (fun _ => False))) := by
    intro w w01 hw V1 v1 y5 hy
    have n1 : ∀ c, c ≠ 601 → V1 c = C c := fun c z => by rw [v1]; exact j_bl_ne z
    have g1 : ax_g V1 := by rw [v1]; exact j_bl_g hg rp
    have f1 : g_fr g_X2 C0 V1 := by rw [v1]; exact hf.bl (by decide)
    refine ⟨fun q => k77 w V1 y5 hy w01 hw f1 g1 (fun c z _ => n1 c z) (fun t => by rw [v1]; exact j_bl_le _ _ _ _) (fun k _ => by rw [n1 564 (by decide)]) (fun z => absurd z (by rw [q]; decide)), fun q => ⟨hst2 q, ?_⟩⟩
    have tb := t_bit (B := B) (d := d) (E := az_EJ B r) (Φ := fun r2 V2 => (0 ≤ st ∧ st < 350) ∧ (∀ V3, V3 = ax_u V2 564 st (ax_or (V1 564 st) r2) → k_Judge_judgeHead_77 B r (d + 1) s p st a y5 V3 Ψ Θ)) (Θ := fun _ => False) (n := nn) (l := l) g1 ⟨sl3.1, hn3⟩ sl2 ⟨hst2 q, fun V3 v3 => ?_⟩
    · rw [← sl] at tb; exact tb
    refine k77 w V3 y5 hy w01 hw (by rw [v3]; exact f1.u (by decide)) (by rw [v3]; exact ax_u_g g1 (ax_rg_of _)) (fun c z1 z2 => by rw [v3, ax_u_ne z2, n1 c z1]) (fun t => by rw [v3, ax_u_ne (by decide), v1]; exact j_bl_le _ _ _ _) (fun k z => by rw [v3, ax_u_k z, n1 564 (by decide)]) (fun _ => by rw [v3, ax_u_s, n1 564 (by decide)])
  have k18 : k_Judge_judgeHead_18 B r (d + 1) s p st none none a C Ψ Θ := by
    refine r_Judge_judgeHead_18 hg rs rp rst ax_y_n ax_y_n ra ⟨b8, fun q => ?_, fun q => ⟨b8, fun q2 => ?_, fun q2 => ?_⟩⟩
    · rw [c533] at q
      exact t_blame hg (by decide) rp (mid 1 (Or.inr rfl) ⟨fun _ => Or.inl q, fun _ => by decide⟩ _ rfl none ax_y_n)
    · rw [c534] at q2
      exact t_blame hg (by decide) rp (mid 1 (Or.inr rfl) ⟨fun _ => Or.inr q2, fun _ => by decide⟩ _ rfl none ax_y_n)
    · rw [c533] at q
      rw [c534] at q2
      exact t_blame hg (by decide) rp (mid 0 (Or.inl rfl) ⟨fun z => absurd rfl z, fun z => by rcases z with z | z; exact absurd z q; exact absurd z q2⟩ _ rfl none ax_y_n)
  refine r_Judge_judgeHead hg rs rp rst ⟨fun q => ?_, fun q => ⟨hst2 q, ?_⟩⟩
  · have : a = -1 := hst1 q
    rw [this] at k18; exact k18
  · have : C 563 st = a := by rw [c563]; rcases hst with z | z; exact absurd z.1 q; exact z.2.2.1
    rw [this]; exact k18
end ClassHeads
