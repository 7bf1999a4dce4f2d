/-! FAULTS 6, the class: needs of equations, what letters hang on -/
section Kind6D
variable {B r d : Nat} {C0 M0 V1 : ax_V} {n : Int} {Φ : Int → ax_V → Prop} {Ψ Θ : ax_V → Prop}
def g_h1 (C M : ax_V) (n e l y : Int) : Prop := ∃ e' i, (C 509 n ≤ e' ∧ e' < e) ∧ g_of M e' i ∧ M 265 i = l ∧ (g_en C M e' y ∨ (¬ M 263 e' = -1 ∧ g_nd C M (M 263 e') y))
set_option maxHeartbeats 8000000 in
theorem t_needs2 (hS : g_S C0 M0) (hv : g_fr g_XJ C0 V1) (hg : ax_g V1) (n0 : 0 ≤ n) (n1 : n < (M0 222 86)) (hA : ∀ a, C0 510 n ≤ a → a < C0 510 (n + 1) → b_ok (V1 561 a) ∧ ∀ y, 0 ≤ y → y < 26 → (b_in (V1 561 a) y ↔ g_nd C0 M0 a y)) (h45 : ∀ s, 26 * n ≤ s → s < 26 * n + 26 → V1 545 s = 0) (h : ∀ V, g_fr [545, 552] V1 V → ax_g V → (∀ e, C0 509 n ≤ e → e < C0 509 (n + 1) → b_ok (V 552 e) ∧ ∀ y, 0 ≤ y → y < 26 → (b_in (V 552 e) y ↔ g_en C0 M0 e y)) → (∀ e, ¬ (C0 509 n ≤ e ∧ e < C0 509 (n + 1)) → V 552 e = V1 552 e) → (∀ l, 0 ≤ l → l < 26 → b_ok (V 545 (26 * n + l)) ∧ ∀ y, 0 ≤ y → y < 26 → (b_in (V 545 (26 * n + l)) y ↔ g_h1 C0 M0 n (C0 509 (n + 1)) l y)) → (∀ s, ¬ (26 * n ≤ s ∧ s < 26 * n + 26) → V 545 s = V1 545 s) → Ψ V) : ∀ y3 y4 y5 y6, ax_y y3 → ax_y y4 → ax_y y5 → ax_y y6 → k_Judge_findNeeds_118 B r (d + 2) n (C0 509 n) y3 y4 y5 y6 V1 Ψ Θ := by
  have p0 := hS.2.2.1.1
  have hat := hS.2.2.2.2.2.2.2
  have hN := hS.2.1
  have hct := hS.2.2.2.2.1.1
  have hc1 := hct.1
  have hc2 := hct.2.1
  have hc3 := hct.2.2.1
  have rn : ax_rg n := ⟨by omega, by omega⟩
  have E0 := hS.eqF n0 (by omega)
  have E1 := hS.eqF (n := n + 1) (by omega) (by omega)
  have E2 := hS.eqS n0 n1
  obtain ⟨Q0, eQ0⟩ : ∃ A : Int, A = C0 509 n := ⟨_, rfl⟩
  obtain ⟨Q1, eQ1⟩ : ∃ A : Int, A = C0 509 (n + 1) := ⟨_, rfl⟩
  have eN := fun e (a : 0 ≤ e) (b : e < (M0 222 44)) => hS.eqN a b n0 n1
  have aN := fun e (a : 0 ≤ e) (b : e < (M0 222 55)) => hS.aN a b n0 n1
  rw [← eQ0, ← eQ1] at eN h
  rw [← eQ0] at E0 E2
  rw [← eQ1] at E1 E2
  have h1e : ∀ e l y, g_h1 C0 M0 n e l y ↔ ∃ e' i, (Q0 ≤ e' ∧ e' < e) ∧ g_of M0 e' i ∧ M0 265 i = l ∧ (g_en C0 M0 e' y ∨ (¬ M0 263 e' = -1 ∧ g_nd C0 M0 (M0 263 e') y)) := fun e l y => by unfold g_h1; rw [← eQ0]
  have gx : ∀ {V : ax_V}, g_fr [545, 552] V1 V → g_fr g_XJ C0 V := fun f => hv.tr (f.up (by decide))
  rw [← eQ0]
  refine ax_for (I := fun e V => (Q0 ≤ e ∧ e ≤ Q1) ∧ g_fr [545, 552] V1 V ∧ ax_g V ∧ (∀ e', Q0 ≤ e' → e' < e → b_ok (V 552 e') ∧ ∀ y, 0 ≤ y → y < 26 → (b_in (V 552 e') y ↔ g_en C0 M0 e' y)) ∧ (∀ e', ¬ (Q0 ≤ e' ∧ e' < e) → V 552 e' = V1 552 e') ∧ (∀ l, 0 ≤ l → l < 26 → b_ok (V 545 (26 * n + l)) ∧ ∀ y, 0 ≤ y → y < 26 → (b_in (V 545 (26 * n + l)) y ↔ g_h1 C0 M0 n e l y)) ∧ ∀ s, ¬ (26 * n ≤ s ∧ s < 26 * n + 26) → V 545 s = V1 545 s) (K := fun e V => ∀ y3 y4 y5 y6, ax_y y3 → ax_y y4 → ax_y y5 → ax_y y6 → k_Judge_findNeeds_118 B r (d + 2) n e y3 y4 y5 y6 V Ψ Θ) (hi := Q1) (fun e V w hI next y3 y4 y5 y6 hy3 hy4 hy5 hy6 => ?_) (fun e V w hI y3 y4 y5 y6 hy3 hy4 hy5 hy6 => ?_) Q0 V1 ⟨⟨Int.le_refl _, by omega⟩, g_fr.rf _ _, hg, fun e' x y => by omega, fun _ _ => rfl, fun l l0 l1 => ⟨by rw [h45 _ (by omega) (by omega)]; exact b_ok_0, fun y y0 y1 => by rw [h45 _ (by omega) (by omega), h1e]; exact ⟨fun z => absurd z (b_in_0 y), fun z => by obtain ⟨e', i, x, -⟩ := z; omega⟩⟩, fun _ _ => rfl⟩
  · obtain ⟨he, f1, g1, k1, k2, k3, k4⟩ := hI
    have e0 : 0 ≤ e := by omega
    have e1 : e < (M0 222 44) := by omega
    have xV := gx f1
    have v509 : V 509 = C0 509 := xV 509 (by decide)
    have fe := hS.2.2.2.2.1.2.1 e e0 e1
    have fe2 := fe.2.1
    have fe3 := fe.2.2.1
    have fe4 := fe.2.2.2.1
    have fx1 := fe.2.2.2.2.2.1.1
    have ne := (eN e e0 e1).mp ⟨he.1, w⟩
    have hd : ∀ i, M0 259 e ≤ i → i < M0 259 e + M0 260 e → (C0 554 i = 26 * n + M0 265 i ∧ (0 ≤ M0 265 i ∧ M0 265 i < 26)) ∧ (C0 536 (26 * n + M0 265 i) = g_cc n (M0 235 (26 * n + M0 265 i)) ∧ 0 ≤ M0 235 (26 * n + M0 265 i) ∧ M0 235 (26 * n + M0 265 i) ≤ 52) ∧ 0 ≤ i ∧ i < 350 := fun i i0 i1 => by
      have a := fe.2.2.2.2.2.2 i i0 i1
      have b := hS.ck n0 n1 a.2.1.1 a.2.1.2
      exact ⟨⟨by rw [← ne]; exact a.1, a.2.1⟩, b, by omega, by omega⟩
    have re : ax_rg e := ⟨by omega, by omega⟩
    have b35 : 0 ≤ e ∧ e < 350 := ⟨e0, by omega⟩
    have b351 : 0 ≤ e ∧ e < 351 := ⟨e0, by omega⟩
    have st := hS.st e0 e1
    obtain ⟨s3, es3⟩ : ∃ s : Int, s = C0 551 e := ⟨_, rfl⟩
    have rs3 : ax_rg s3 := by rw [es3]; exact hS.1.1 _ _
    refine r_Judge_findNeeds_118 g1 rn re hy3 hy4 hy5 hy6 ⟨⟨by omega, by omega⟩, fun z => by rw [v509] at z; omega, fun _ => ⟨b35, b35, b35, ?_⟩⟩
    rw [xV 549 (by decide), xV 550 (by decide), xV 551 (by decide), fe4.1, fe4.2.1, ← es3]
    refine t_lettersIn hS xV g1 fx1.1 fx1.2.1 fx1.2.2 (fun x hx hin => ⟨b351, ?_⟩)
    rw [xV 548 (by decide), fe2.1]
    -- clocks of its letters
    refine ax_for (I := fun i W => W = V ∧ M0 259 e ≤ i ∧ i ≤ M0 259 e + M0 260 e) (K := fun i W => ∀ x4 y6, ax_y y6 → b_ok x4 → (∀ y, 0 ≤ y → y < 26 → (b_in x4 y ↔ (g_hd C0 M0 (M0 261 e) (M0 262 e) y ∨ ∃ j, (M0 259 e ≤ j ∧ j < i) ∧ ¬ M0 235 (26 * n + M0 265 j) = 0 ∧ (M0 235 (26 * n + M0 265 j) - 1) / 2 = y))) → k_Judge_findNeeds_178 B r (d + 2) n e s3 x4 i y6 W Ψ Θ) (hi := M0 259 e + M0 260 e) (fun i W w2 hI2 next2 x4 y6 hy6 ho hin => ?_) (fun i W w2 hI2 x4 y6 hy6 ho hin => ?_) (M0 259 e) V ⟨rfl, Int.le_refl _, by omega⟩ x y6 hy6 hx (fun y y0 y1 => by rw [hin y y0 y1]; exact ⟨fun z => Or.inl z, fun z => by rcases z with z | ⟨j, j0, -⟩; exact z; omega⟩)
    · obtain ⟨eW, hi⟩ := hI2
      subst eW
      have u := hd i hi.1 w2
      have u1 := u.1
      have u2 := u.2.1
      refine r_Judge_findNeeds_178 g1 rn re rs3 ho.1 ⟨by omega, by omega⟩ hy6 ⟨⟨by omega, by omega⟩, ?_⟩
      rw [xV 548 (by decide), xV 554 (by decide), xV 536 (by decide), fe2.2, u1.1, u2.1]
      refine ⟨fun z => absurd w2 (by omega), fun _ => ⟨⟨u.2.2.1, u.2.2.2⟩, ⟨by omega, by omega⟩, ?_⟩⟩
      by_cases c0 : M0 235 (26 * n + M0 265 i) = 0
      · have ec : g_cc n (M0 235 (26 * n + M0 265 i)) = -1 := (g_cc_b n0 (by omega)).mpr c0
        rw [ec]
        refine ⟨fun z => absurd z (by decide), fun _ => next2 W ⟨rfl, by omega, by omega⟩ _ _ (ax_y_i _) (b_ok_or ho b_ok_0) (fun y y0 y1 => ?_)⟩
        rw [b_in_or, hin y y0 y1]
        constructor
        · rintro ((v | ⟨j, j0, v⟩) | v)
          · exact Or.inl v
          · exact Or.inr ⟨j, ⟨j0.1, by omega⟩, v⟩
          · exact absurd v (b_in_0 y)
        · rintro (v | ⟨j, j0, v⟩)
          · exact Or.inl (Or.inl v)
          · by_cases ej : j = i
            · rw [ej] at v; exact absurd c0 v.1
            · exact Or.inl (Or.inr ⟨j, ⟨j0.1, by omega⟩, v⟩)
      · have ec : g_cc n (M0 235 (26 * n + M0 265 i)) = 52 * n + M0 235 (26 * n + M0 265 i) - 1 := if_neg (by omega)
        have es2 : ax_shr (52 * n + M0 235 (26 * n + M0 265 i) - 1) 1 = 26 * n + (M0 235 (26 * n + M0 265 i) - 1) / 2 := by rw [b_shr ⟨by omega, by omega⟩]; omega
        have lb : 0 ≤ (M0 235 (26 * n + M0 265 i) - 1) / 2 ∧ (M0 235 (26 * n + M0 265 i) - 1) / 2 < 26 := by omega
        rw [ec, es2]
        refine ⟨fun _ => t_bit g1 ⟨n0, by omega⟩ lb (next2 W ⟨rfl, by omega, by omega⟩ _ _ (ax_y_i _) (b_ok_or ho (b_ok_bit lb)) (fun y y0 y1 => ?_)), fun z => by omega⟩
        rw [b_in_or, hin y y0 y1, b_in_bit lb ⟨y0, y1⟩]
        constructor
        · rintro ((v | ⟨j, j0, v⟩) | v)
          · exact Or.inl v
          · exact Or.inr ⟨j, ⟨j0.1, by omega⟩, v⟩
          · exact Or.inr ⟨i, ⟨hi.1, by omega⟩, c0, v.symm⟩
        · rintro (v | ⟨j, j0, v⟩)
          · exact Or.inl (Or.inl v)
          · by_cases ej : j = i
            · rw [ej] at v; exact Or.inr v.2.symm
            · exact Or.inl (Or.inr ⟨j, ⟨j0.1, by omega⟩, v⟩)
    · obtain ⟨eW, hi⟩ := hI2
      subst eW
      have ei : i = M0 259 e + M0 260 e := by omega
      rw [ei] at hin ⊢
      have hen : ∀ y, 0 ≤ y → y < 26 → (b_in x4 y ↔ g_en C0 M0 e y) := fun y y0 y1 => by
        rw [hin y y0 y1]
        unfold g_en
        rw [ne]
        constructor
        · rintro (v | ⟨j, j0, v⟩)
          · exact Or.inl v
          · exact Or.inr ⟨j, ⟨⟨e0, e1⟩, j0⟩, v⟩
        · rintro (v | ⟨j, j0, v⟩)
          · exact Or.inl v
          · exact Or.inr ⟨j, j0.2, v⟩
      refine r_Judge_findNeeds_178 g1 rn re rs3 ho.1 ⟨by omega, by omega⟩ hy6 ⟨⟨by omega, by omega⟩, ?_⟩
      rw [xV 548 (by decide), fe2.2]
      refine ⟨fun _ => ⟨b35, fun V2 e2 => ⟨b351, ?_⟩⟩, fun z => by omega⟩
      have f2 : g_fr [545, 552] V1 V2 := by rw [e2]; exact f1.u (by decide)
      have g2 : ax_g V2 := by rw [e2]; exact ax_u_g g1 ho.1
      have ve : V2 552 e = x4 := by rw [e2, ax_u_s]
      have vo : ∀ e', e' ≠ e → V2 552 e' = W 552 e' := fun e' z => by rw [e2, ax_u_k z]
      have v45 : V2 545 = W 545 := by rw [e2, ax_u_ne (by decide)]
      rw [(gx f2) 548 (by decide), fe2.1]
      -- its letters hang on them
      obtain ⟨sm, hsm⟩ : ∃ sm : Int, b_ok sm ∧ (∀ y, 0 ≤ y → y < 26 → (b_in sm y ↔ (¬ M0 263 e = -1 ∧ g_nd C0 M0 (M0 263 e) y))) ∧ ((s3 = -1 ∧ sm = 0) ∨ (¬ s3 = -1 ∧ (0 ≤ s3 ∧ s3 < 350) ∧ C0 563 s3 = M0 263 e ∧ (0 ≤ M0 263 e ∧ M0 263 e < 350) ∧ sm = V1 561 (M0 263 e))) := by
        rw [es3]
        rcases st with z | z
        · exact ⟨0, b_ok_0, fun y _ _ => ⟨fun v => absurd v (b_in_0 y), fun v => absurd z.2.1 v.1⟩, Or.inl ⟨z.1, rfl⟩⟩
        · have z1 := z.1
          have z2 := z.2.1
          have za := (aN (M0 263 e) z2.1 z2.2).mpr (by rw [← ne]; exact z.2.2.2.2.2.2)
          have k := hA (M0 263 e) za.1 za.2
          exact ⟨_, k.1, fun y y0 y1 => by rw [k.2 y y0 y1]; exact ⟨fun v => ⟨by omega, v⟩, fun v => v.2⟩, Or.inr ⟨by omega, ⟨z1.1, z1.2.1⟩, z.2.2.1, ⟨z2.1, by omega⟩, rfl⟩⟩
      refine ax_for (I := fun i U => (M0 259 e ≤ i ∧ i ≤ M0 259 e + M0 260 e) ∧ g_fr [545, 552] V1 U ∧ ax_g U ∧ U 552 = V2 552 ∧ (∀ l, 0 ≤ l → l < 26 → b_ok (U 545 (26 * n + l)) ∧ ∀ y, 0 ≤ y → y < 26 → (b_in (U 545 (26 * n + l)) y ↔ (g_h1 C0 M0 n e l y ∨ ∃ j, (M0 259 e ≤ j ∧ j < i) ∧ M0 265 j = l ∧ (g_en C0 M0 e y ∨ (¬ M0 263 e = -1 ∧ g_nd C0 M0 (M0 263 e) y))))) ∧ ∀ s, ¬ (26 * n ≤ s ∧ s < 26 * n + 26) → U 545 s = V1 545 s) (K := fun i U => ∀ y6, ax_y y6 → k_Judge_findNeeds_263 B r (d + 2) n e s3 x4 i y6 U Ψ Θ) (hi := M0 259 e + M0 260 e) (fun i U w3 hI3 next3 y6 hy6 => ?_) (fun i U w3 hI3 y6 hy6 => ?_) (M0 259 e) V2 ⟨⟨Int.le_refl _, by omega⟩, f2, g2, rfl, fun l l0 l1 => ⟨by rw [v45]; exact (k3 l l0 l1).1, fun y y0 y1 => by rw [v45, (k3 l l0 l1).2 y y0 y1]; exact ⟨fun z => Or.inl z, fun z => by rcases z with z | ⟨j, j0, -⟩; exact z; omega⟩⟩, fun s z => by rw [v45]; exact k4 s z⟩ y6 hy6
      · obtain ⟨hi3, f3, g3, u52, k5, k6⟩ := hI3
        have u := hd i hi3.1 w3
        have u1 := u.1
        have xU := gx f3
        have kl := k5 (M0 265 i) u1.2.1 u1.2.2
        have go : ∀ U2, U2 = ax_u U 545 (26 * n + M0 265 i) (ax_or (U 545 (26 * n + M0 265 i)) (ax_or x4 sm)) → ∀ y6, ax_y y6 → k_Judge_findNeeds_263 B r (d + 2) n e s3 x4 (i + 1) y6 U2 Ψ Θ := by
          intro U2 eU
          have bo := b_ok_or kl.1 (b_ok_or ho hsm.1)
          have vs : U2 545 (26 * n + M0 265 i) = ax_or (U 545 (26 * n + M0 265 i)) (ax_or x4 sm) := by rw [eU, ax_u_s]
          have vk : ∀ s, s ≠ 26 * n + M0 265 i → U2 545 s = U 545 s := fun s z => by rw [eU, ax_u_k z]
          refine next3 U2 ⟨⟨by omega, by omega⟩, by rw [eU]; exact f3.u (by decide), by rw [eU]; exact ax_u_g g3 bo.1, by rw [eU, ax_u_ne (by decide)]; exact u52, fun l l0 l1 => ?_, fun s z => by rw [vk s (by omega)]; exact k6 s z⟩
          by_cases el : l = M0 265 i
          · rw [el, vs]
            refine ⟨bo, fun y y0 y1 => ?_⟩
            rw [b_in_or, b_in_or, kl.2 y y0 y1, hen y y0 y1, hsm.2.1 y y0 y1]
            constructor
            · rintro ((v | ⟨j, j0, v⟩) | v)
              · exact Or.inl v
              · exact Or.inr ⟨j, ⟨j0.1, by omega⟩, v⟩
              · exact Or.inr ⟨i, ⟨hi3.1, by omega⟩, rfl, v⟩
            · rintro (v | ⟨j, j0, v⟩)
              · exact Or.inl (Or.inl v)
              · exact Or.inr v.2
          · rw [vk _ (by omega)]
            refine ⟨(k5 l l0 l1).1, fun y y0 y1 => ?_⟩
            rw [(k5 l l0 l1).2 y y0 y1]
            constructor
            · rintro (v | ⟨j, j0, v⟩)
              · exact Or.inl v
              · exact Or.inr ⟨j, ⟨j0.1, by omega⟩, v⟩
            · rintro (v | ⟨j, j0, v⟩)
              · exact Or.inl v
              · by_cases ej : j = i
                · rw [ej] at v; exact absurd v.1.symm el
                · exact Or.inr ⟨j, ⟨j0.1, by omega⟩, v⟩
        refine r_Judge_findNeeds_263 g3 rn re rs3 ho.1 ⟨by omega, by omega⟩ hy6 ⟨⟨by omega, by omega⟩, ?_⟩
        rw [xU 548 (by decide), xU 554 (by decide), xU 563 (by decide), f3 561 (by decide), fe2.2, u1.1]
        refine ⟨fun z => absurd w3 (by omega), fun _ => ⟨fun z => ⟨⟨u.2.2.1, u.2.2.2⟩, ⟨by omega, by omega⟩, ⟨by omega, by omega⟩, ?_⟩, fun z => ?_⟩⟩
        · rcases hsm.2.2 with y | y
          · rw [← y.2]; exact fun U2 eU => go U2 eU _ (ax_y_i _)
          · exact absurd z y.1
        · rcases hsm.2.2 with y | y
          · exact absurd y.1 z
          · rw [y.2.2.1, ← y.2.2.2.2]
            exact ⟨y.2.1, y.2.2.2.1, ⟨u.2.2.1, u.2.2.2⟩, ⟨by omega, by omega⟩, ⟨by omega, by omega⟩, fun U2 eU => go U2 eU _ (ax_y_i _)⟩
      · obtain ⟨hi3, f3, g3, u52, k5, k6⟩ := hI3
        have ei3 : i = M0 259 e + M0 260 e := by omega
        rw [ei3] at k5 ⊢
        have xU := gx f3
        refine r_Judge_findNeeds_263 g3 rn re rs3 ho.1 ⟨by omega, by omega⟩ hy6 ⟨⟨by omega, by omega⟩, ?_⟩
        rw [xU 548 (by decide), fe2.2]
        refine ⟨fun _ => next U ⟨⟨by omega, by omega⟩, f3, g3, fun e' a b => ?_, fun e' z => by rw [u52, vo e' (by omega)]; exact k2 e' (by omega), fun l l0 l1 => ⟨(k5 l l0 l1).1, fun y y0 y1 => ?_⟩, k6⟩ _ _ _ _ (ax_y_i _) (ax_y_i _) (ax_y_i _) hy6, fun z => by omega⟩
        · by_cases ee : e' = e
          · rw [ee, u52, ve]; exact ⟨ho, hen⟩
          · rw [u52, vo e' ee]; exact k1 e' a (by omega)
        · rw [(k5 l l0 l1).2 y y0 y1, h1e, h1e]
          constructor
          · rintro (⟨e', j, a, b⟩ | ⟨j, j0, v1, v2⟩)
            · exact ⟨e', j, ⟨a.1, by omega⟩, b⟩
            · exact ⟨e, j, ⟨he.1, by omega⟩, ⟨⟨e0, e1⟩, j0⟩, v1, v2⟩
          · rintro ⟨e', j, a, b1, b2, b3⟩
            by_cases ee : e' = e
            · rw [ee] at b1 b3; exact Or.inr ⟨j, b1.2, b2, b3⟩
            · exact Or.inl ⟨e', j, ⟨a.1, by omega⟩, b1, b2, b3⟩
  · obtain ⟨he, f1, g1, k1, k2, k3, k4⟩ := hI
    have ee : e = Q1 := by omega
    rw [ee] at k1 k2 k3 ⊢
    have v509 : V 509 = C0 509 := (gx f1) 509 (by decide)
    exact r_Judge_findNeeds_118 g1 rn ⟨by omega, by omega⟩ hy3 hy4 hy5 hy6 ⟨⟨by omega, by omega⟩, fun _ => h V f1 g1 k1 k2 k3 k4, fun z => by rw [v509] at z; omega⟩
end Kind6D
