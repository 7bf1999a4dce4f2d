/-! FAULTS 5, the class: transitions, states, letters; the whole of it -/
def g_J5 (C0 M C2 C : ax_V) (n : Int) (T : Int → Prop) : Prop := g_fr [601, 530, 544] C2 C ∧ ax_g C ∧ (∀ q, 0 ≤ q → q < C0 508 n → (C 530 q = 0 ∨ C 530 q = 1) ∧ (¬ C 530 q = 0 ↔ g_PB M q)) ∧ (∀ s, 0 ≤ s → s < 26 * n → (C 544 s = 0 ∨ C 544 s = 1) ∧ (¬ C 544 s = 0 ↔ g_LB M s)) ∧ (∀ s, 26 * n ≤ s → s < 208 → C 544 s = 0) ∧ ∀ t, (C 601 5) ≤ t ↔ T t
section Kind5F
variable {B r d : Nat} {C0 M0 V C C2 : ax_V} {q n : Int} {T : Int → Prop} {Φ : Int → ax_V → Prop} {Ψ Θ : ax_V → Prop}
set_option maxHeartbeats 4000000 in
theorem t_bareRest (hS : g_S C0 M0) (hv : g_fr g_XJ C0 C) (hg : ax_g C) (hK : g_N5 C0 M0 C n) (n0 : 0 ≤ n) (n1 : n < (M0 222 86)) (hT : ∀ t, (C 601 5) ≤ t ↔ T t) (h : ∀ V', g_J1 C V' (fun t => ((T t ∨ ∃ m, (0 ≤ m ∧ m < (M0 222 60)) ∧ M0 267 (M0 271 m) = n ∧ g_PB M0 (M0 277 m) ∧ M0 242 (M0 277 m) ≤ t) ∨ ∃ e, (0 ≤ e ∧ e < (M0 222 44)) ∧ M0 258 e = n ∧ ¬ C0 551 e = -1 ∧ g_PB M0 (M0 262 e) ∧ M0 242 (M0 262 e) ≤ t) ∨ ∃ l, (0 ≤ l ∧ l < 26) ∧ g_l5 C0 M0 (C 543) n l t) → Ψ V') : ax_N (az_W B (az_EJ B r)) (d + 3) q_Judge_judgeBareRest [.ref r, ax_i n] C Ψ Θ := by
  have p0 := hS.2.2.1.1
  have hat := hS.2.2.2.2.2.2.2
  have hN := hS.2.1
  have hct := hS.2.2.2.2.1.1
  have hc1 := hct.1
  have hc3 := hct.2.2.1
  have hc5 := hct.2.2.2.2.1
  have rn : ax_rg n := ⟨by omega, by omega⟩
  have E0 := hS.eqF n0 (by omega)
  have E1 := hS.eqF (n := n + 1) (by omega) (by omega)
  have E2 := hS.eqS n0 n1
  have hx : ∀ {V' : ax_V} {T' : Int → Prop}, g_J1 C V' T' → ∀ c, c ∉ g_XJ → V' c = C0 c := fun hJ c z => by rw [hJ.1 c (fun q => z (by simp at q; rw [q]; decide))]; exact hv c z
  obtain ⟨Q0, eQ0⟩ : ∃ A : Int, A = C0 509 n := ⟨_, rfl⟩
  obtain ⟨Q1, eQ1⟩ : ∃ A : Int, A = C0 509 (n + 1) := ⟨_, rfl⟩
  obtain ⟨A0, eA0⟩ : ∃ A : Int, A = C0 510 n := ⟨_, rfl⟩
  obtain ⟨A1, eA1⟩ : ∃ A : Int, A = C0 510 (n + 1) := ⟨_, rfl⟩
  have eN := fun e (a : 0 ≤ e) (b : e < (M0 222 44)) => hS.eqN a b n0 n1
  have aN := fun e (a : 0 ≤ e) (b : e < (M0 222 55)) => hS.aN a b n0 n1
  rw [← eQ0, ← eQ1] at eN
  rw [← eA0, ← eA1] at aN
  rw [← eQ0, ← eA0] at E0 E2
  rw [← eQ1, ← eA1] at E1 E2
  refine r_Judge_judgeBareRest hg rn ⟨⟨n0, by omega⟩, ?_⟩
  rw [hv 510 (by decide), ← eA0]
  refine ax_for (I := fun a V => (A0 ≤ a ∧ a ≤ A1) ∧ g_J1 C V (fun t => T t ∨ ∃ m, (0 ≤ m ∧ m < (M0 222 60)) ∧ (A0 ≤ M0 271 m ∧ M0 271 m < a) ∧ g_PB M0 (M0 277 m) ∧ M0 242 (M0 277 m) ≤ t)) (K := fun a V => ∀ y3 y4, ax_y y3 → ax_y y4 → k_Judge_judgeBareRest_10 B r (d + 2) n a y3 y4 V Ψ Θ) (hi := A1) (fun a V w hI next y3 y4 hy3 hy4 => ?_) (fun a V w hI y3 y4 hy3 hy4 => ?_) A0 C ⟨⟨Int.le_refl _, by omega⟩, g_fr.rf _ _, hg, fun t => by rw [hT t]; exact ⟨fun z => Or.inl z, fun z => by rcases z with z | ⟨x, -, x0, -⟩; exact z; omega⟩⟩ none none ax_y_n ax_y_n
  · obtain ⟨ha, hV⟩ := hI
    have a0 : 0 ≤ a := by omega
    have a1 : a < (M0 222 55) := by omega
    have v510 : V 510 = C0 510 := hx hV 510 (by decide)
    have fa := (hS.au a0 a1).1.2.2.2.1
    have na := (aN a a0 a1).mp ⟨ha.1, w⟩
    obtain ⟨F, eF⟩ : ∃ G : Int, G = C0 559 a := ⟨_, rfl⟩
    obtain ⟨F1, eF1⟩ : ∃ G : Int, G = C0 559 (a + 1) := ⟨_, rfl⟩
    have mN := fun m (m0 : 0 ≤ m) (m1 : m < (M0 222 60)) => hS.mvN a0 a1 m0 m1
    rw [← eF, ← eF1] at mN fa
    refine r_Judge_judgeBareRest_10 hV.2.1 rn ⟨by omega, by omega⟩ hy3 hy4 ⟨⟨by omega, by omega⟩, fun z => by rw [v510] at z; omega, fun _ => ⟨⟨by omega, by omega⟩, ?_⟩⟩
    rw [hx hV 559 (by decide), ← eF]
    obtain ⟨T3, eT3⟩ : ∃ X : Int → Prop, X = (fun t => T t ∨ ∃ m, (0 ≤ m ∧ m < (M0 222 60)) ∧ (A0 ≤ M0 271 m ∧ M0 271 m < a) ∧ g_PB M0 (M0 277 m) ∧ M0 242 (M0 277 m) ≤ t) := ⟨_, rfl⟩
    rw [← eT3] at hV
    refine ax_for (I := fun m V => (F ≤ m ∧ m ≤ F1) ∧ g_J1 C V (fun t => T3 t ∨ ∃ x, (F ≤ x ∧ x < m) ∧ g_PB M0 (M0 277 x) ∧ M0 242 (M0 277 x) ≤ t)) (K := fun m V => k_Judge_judgeBareRest_35 B r (d + 2) n a m y4 V Ψ Θ) (hi := F1) (fun m V w2 hI next2 => ?_) (fun m V w2 hI => ?_) F V ⟨⟨Int.le_refl _, by omega⟩, hV.of (fun t => ⟨fun z => Or.inl z, fun z => by rcases z with z | ⟨x, x0, -⟩; exact z; omega⟩)⟩
    · obtain ⟨hm, hV⟩ := hI
      have m0 : 0 ≤ m := by omega
      have m1 : m < (M0 222 60) := by omega
      have v559 : V 559 = C0 559 := hx hV 559 (by decide)
      have ft := hS.2.2.2.2.1.2.2.2.2.1 m m0 m1
      have fw := ft.2.2.2.2.2.2.2
      have mx := ft.2.2.2.2.1.2
      have ta := (mN m m0 m1).mp ⟨hm.1, w2⟩
      have nw := (fw.2.2 _ fw.1.2.1 (Int.le_refl _)).1.1
      have w0 : 0 ≤ M0 277 m := by have := fw.1; omega
      refine r_Judge_judgeBareRest_35 hV.2.1 rn ⟨by omega, by omega⟩ ⟨by omega, by omega⟩ hy4 ⟨⟨by omega, by omega⟩, fun z => by rw [v559] at z; omega, fun _ => ⟨⟨m0, by omega⟩, ?_⟩⟩
      rw [hx hV 571 (by decide), mx]
      refine t_have hS hv hK n0 n1 hV w0 fw.1.2.2 (by rw [nw, ta, na]) (fun V2 h2 => next2 V2 ⟨⟨by omega, by omega⟩, h2.of (fun t => ?_)⟩)
      constructor
      · rintro ((z | ⟨x, x0, x1⟩) | z)
        · exact Or.inl z
        · exact Or.inr ⟨x, ⟨x0.1, by omega⟩, x1⟩
        · exact Or.inr ⟨m, ⟨hm.1, by omega⟩, z⟩
      · rintro (z | ⟨x, x0, x1⟩)
        · exact Or.inl (Or.inl z)
        · by_cases y : x = m
          · rw [y] at x1; exact Or.inr x1
          · exact Or.inl (Or.inr ⟨x, ⟨x0.1, by omega⟩, x1⟩)
    · obtain ⟨hm, hV⟩ := hI
      have v559 : V 559 = C0 559 := hx hV 559 (by decide)
      refine r_Judge_judgeBareRest_35 hV.2.1 rn ⟨by omega, by omega⟩ ⟨by omega, by omega⟩ hy4 ⟨⟨by omega, by omega⟩, fun _ => next V ⟨⟨by omega, by omega⟩, hV.of (fun t => ?_)⟩ _ _ (ax_y_i _) hy4, fun z => by rw [v559] at z; omega⟩
      rw [eT3]
      constructor
      · rintro ((z | ⟨x, x0, x1, x2⟩) | ⟨x, x0, x1⟩)
        · exact Or.inl z
        · exact Or.inr ⟨x, x0, ⟨x1.1, by omega⟩, x2⟩
        · have := (mN x (by omega) (by omega)).mp ⟨x0.1, by omega⟩
          exact Or.inr ⟨x, ⟨by omega, by omega⟩, ⟨by omega, by omega⟩, x1⟩
      · rintro (z | ⟨x, x0, x1, x2⟩)
        · exact Or.inl (Or.inl z)
        · by_cases y : M0 271 x = a
          · have := (mN x x0.1 x0.2).mpr y
            exact Or.inr ⟨x, ⟨this.1, by omega⟩, x2⟩
          · exact Or.inl (Or.inr ⟨x, x0, ⟨x1.1, by omega⟩, x2⟩)
  · obtain ⟨ha, hV⟩ := hI
    have v510 : V 510 = C0 510 := hx hV 510 (by decide)
    have ea : a = A1 := by omega
    rw [ea] at hV ⊢
    refine r_Judge_judgeBareRest_10 hV.2.1 rn ⟨by omega, by omega⟩ hy3 hy4 ⟨⟨by omega, by omega⟩, fun _ => ⟨⟨n0, by omega⟩, ?_⟩, fun z => by rw [v510] at z; omega⟩
    rw [hx hV 509 (by decide), ← eQ0]
    obtain ⟨T1, eT1⟩ : ∃ X : Int → Prop, X = (fun t => T t ∨ ∃ m, (0 ≤ m ∧ m < (M0 222 60)) ∧ (A0 ≤ M0 271 m ∧ M0 271 m < A1) ∧ g_PB M0 (M0 277 m) ∧ M0 242 (M0 277 m) ≤ t) := ⟨_, rfl⟩
    rw [← eT1] at hV
    refine ax_for (I := fun e V => (Q0 ≤ e ∧ e ≤ Q1) ∧ g_J1 C V (fun t => T1 t ∨ ∃ x, (Q0 ≤ x ∧ x < e) ∧ ¬ C0 551 x = -1 ∧ g_PB M0 (M0 262 x) ∧ M0 242 (M0 262 x) ≤ t)) (K := fun e V => k_Judge_judgeBareRest_85 B r (d + 2) n e y3 y4 V Ψ Θ) (hi := Q1) (fun e V w hI next => ?_) (fun e V w hI => ?_) Q0 V ⟨⟨Int.le_refl _, by omega⟩, hV.of (fun t => ⟨fun z => Or.inl z, fun z => by rcases z with z | ⟨x, x0, -⟩; exact z; omega⟩)⟩
    · obtain ⟨he, hV⟩ := hI
      have e0 : 0 ≤ e := by omega
      have e1 : e < (M0 222 44) := by omega
      have v509 : V 509 = C0 509 := hx hV 509 (by decide)
      have fe := hS.2.2.2.2.1.2.1 e e0 e1
      have ex := fe.2.2.2.1.2.1
      have fxx := fe.2.2.2.2.2.1
      have wb := fxx.1
      have ne := (eN e e0 e1).mp ⟨he.1, w⟩
      have nw := (fxx.2.2 _ fxx.1.2.1 (Int.le_refl _)).1.1
      refine r_Judge_judgeBareRest_85 hV.2.1 rn ⟨by omega, by omega⟩ hy3 hy4 ⟨⟨by omega, by omega⟩, fun z => by rw [v509] at z; omega, fun _ => ⟨⟨e0, by omega⟩, ?_⟩⟩
      rw [hx hV 551 (by decide), hx hV 550 (by decide), ex]
      refine ⟨fun z => next V ⟨⟨by omega, by omega⟩, hV.of (fun t => ?_)⟩, fun z => ⟨⟨e0, by omega⟩, t_have hS hv hK n0 n1 hV (by omega) wb.2.2 (by rw [nw, ne]) (fun V2 h2 => next V2 ⟨⟨by omega, by omega⟩, h2.of (fun t => ?_)⟩)⟩⟩
      · constructor
        · rintro (y | ⟨x, x0, x1⟩)
          · exact Or.inl y
          · exact Or.inr ⟨x, ⟨x0.1, by omega⟩, x1⟩
        · rintro (y | ⟨x, x0, x1⟩)
          · exact Or.inl y
          · by_cases y : x = e
            · rw [y] at x1; exact absurd z x1.1
            · exact Or.inr ⟨x, ⟨x0.1, by omega⟩, x1⟩
      · constructor
        · rintro ((y | ⟨x, x0, x1⟩) | y)
          · exact Or.inl y
          · exact Or.inr ⟨x, ⟨x0.1, by omega⟩, x1⟩
          · exact Or.inr ⟨e, ⟨he.1, by omega⟩, z, y⟩
        · rintro (y | ⟨x, x0, x1⟩)
          · exact Or.inl (Or.inl y)
          · by_cases y : x = e
            · rw [y] at x1; exact Or.inr x1.2
            · exact Or.inl (Or.inr ⟨x, ⟨x0.1, by omega⟩, x1⟩)
    · obtain ⟨he, hV⟩ := hI
      have ee : e = Q1 := by omega
      rw [ee] at hV ⊢
      have v509 : V 509 = C0 509 := hx hV 509 (by decide)
      refine r_Judge_judgeBareRest_85 hV.2.1 rn ⟨by omega, by omega⟩ hy3 hy4 ⟨⟨by omega, by omega⟩, fun _ => ?_, fun z => by rw [v509] at z; omega⟩
      rw [show n * 26 = 26 * n by omega]
      obtain ⟨T2, eT2⟩ : ∃ X : Int → Prop, X = (fun t => T1 t ∨ ∃ x, (Q0 ≤ x ∧ x < Q1) ∧ ¬ C0 551 x = -1 ∧ g_PB M0 (M0 262 x) ∧ M0 242 (M0 262 x) ≤ t) := ⟨_, rfl⟩
      rw [← eT2] at hV
      refine ax_for (I := fun s V => (26 * n ≤ s ∧ s ≤ 26 * n + 26) ∧ g_J1 C V (fun t => T2 t ∨ ∃ l, (0 ≤ l ∧ l < s - 26 * n) ∧ g_l5 C0 M0 (C 543) n l t)) (K := fun s V => ∀ y3 y4, ax_y y3 → ax_y y4 → k_Judge_judgeBareRest_137 B r (d + 2) n s y3 y4 V Ψ Θ) (hi := 26 * n + 26) (fun s V w hI next y3 y4 hy3 hy4 => ?_) (fun s V w hI y3 y4 hy3 hy4 => ?_) (26 * n) V ⟨⟨Int.le_refl _, by omega⟩, hV.of (fun t => ⟨fun z => Or.inl z, fun z => by rcases z with z | ⟨x, x0, -⟩; exact z; omega⟩)⟩ y3 y4 hy3 hy4
      · obtain ⟨hs, hV⟩ := hI
        obtain ⟨l, el⟩ : ∃ l : Int, l = s - 26 * n := ⟨_, rfl⟩
        have es : s = 26 * n + l := by omega
        have l0 : 0 ≤ l := by omega
        have l1 : l < 26 := by omega
        have f := hS.l n0 n1 l0 l1
        have ck := hS.ck n0 n1 l0 l1
        rw [← el] at hV
        rw [es] at next ⊢
        have k := hK.2 (26 * n + l) (by omega) (by omega)
        obtain ⟨T3, eT3⟩ : ∃ X : Int → Prop, X = (fun t => T2 t ∨ ∃ x, (0 ≤ x ∧ x < l) ∧ g_l5 C0 M0 (C 543) n x t) := ⟨_, rfl⟩
        rw [← eT3] at hV
        have out : ∀ V2 T4, g_J1 C V2 T4 → (∀ t, T4 t ↔ (T3 t ∨ g_l5 C0 M0 (C 543) n l t)) → ∀ y3 y4, ax_y y3 → ax_y y4 → k_Judge_judgeBareRest_137 B r (d + 2) n (26 * n + l + 1) y3 y4 V2 Ψ Θ := by
          intro V2 T4 hJ2 hT4
          refine next V2 ⟨⟨by omega, by omega⟩, hJ2.of (fun t => ?_)⟩
          rw [hT4 t, eT3]
          constructor
          · rintro ((z | ⟨x, x0, x1⟩) | z)
            · exact Or.inl z
            · exact Or.inr ⟨x, ⟨x0.1, by omega⟩, x1⟩
            · exact Or.inr ⟨l, ⟨l0, by omega⟩, z⟩
          · rintro (z | ⟨x, x0, x1⟩)
            · exact Or.inl (Or.inl z)
            · by_cases y : x = l
              · rw [y] at x1; exact Or.inr x1
              · exact Or.inl (Or.inr ⟨x, ⟨x0.1, by omega⟩, x1⟩)
        have bs : 0 ≤ 26 * n + l ∧ 26 * n + l < 208 := ⟨by omega, by omega⟩
        have k200 : ∀ s0 : Int, (s0 = 0 ∨ s0 = 1) → (¬ s0 = 0 ↔ ((M0 232 (26 * n + l) = 2 ∨ ¬ M0 236 (26 * n + l) = 0) ∧ g_LB M0 (26 * n + l))) → ∀ y3, ax_y y3 → k_Judge_judgeBareRest_200 B r (d + 2) n (26 * n + l) y3 y4 s0 V Ψ Θ := by
          intro s0 hs0 hs2 y3 hy3
          have rs : ax_rg s0 := by rcases hs0 with z | z <;> rw [z] <;> decide
          have rp : ax_rg (V 543 (26 * n + l)) := hV.2.1 _ _
          refine r_Judge_judgeBareRest_200 hV.2.1 rn ⟨by omega, by omega⟩ hy3 hy4 rs ⟨bs, t_blame hV.2.1 rs rp ⟨bs, ?_⟩⟩
          have hJ2 := hV.bl (w := s0) rp
          obtain ⟨V2, eV2⟩ : ∃ X : ax_V, X = j_bl V s0 (V 543 (26 * n + l)) := ⟨_, rfl⟩
          rw [← eV2] at hJ2 ⊢
          have e43 : V 543 = C 543 := hV.1 543 (by decide)
          rw [e43] at hJ2
          have r37 : ax_rg (C0 537 (26 * n + l)) := hS.1.1 _ _
          rw [hx hJ2 536 (by decide), hx hJ2 537 (by decide), hJ2.1 544 (by decide), ck.1]
          have all : ∀ v : Int, (¬ v = 0 ↔ (¬ M0 235 (26 * n + l) = 0 ∧ g_LB M0 (26 * n + (M0 235 (26 * n + l) - 1) / 2))) → ∀ t, (((T3 t ∨ (¬ s0 = 0 ∧ C 543 (26 * n + l) ≤ t)) ∨ (¬ v = 0 ∧ C0 537 (26 * n + l) ≤ t)) ↔ (T3 t ∨ g_l5 C0 M0 (C 543) n l t)) := fun v hv2 t => by
            rw [hs2, hv2]
            unfold g_l5
            constructor
            · rintro ((y | ⟨⟨y1, y2⟩, y3⟩) | ⟨⟨y1, y2⟩, y3⟩)
              · exact Or.inl y
              · exact Or.inr (Or.inl ⟨y1, y2, y3⟩)
              · exact Or.inr (Or.inr ⟨y1, y2, y3⟩)
            · rintro (y | ⟨y1, y2, y3⟩ | ⟨y1, y2, y3⟩)
              · exact Or.inl (Or.inl y)
              · exact Or.inl (Or.inr ⟨⟨y1, y2⟩, y3⟩)
              · exact Or.inr ⟨⟨y1, y2⟩, y3⟩
          by_cases c0 : M0 235 (26 * n + l) = 0
          · have e1 : g_cc n (M0 235 (26 * n + l)) = -1 := (g_cc_b n0 (by omega)).mpr c0
            rw [e1]
            exact ⟨fun _ => ⟨bs, t_blame hJ2.2.1 (by decide) r37 (out _ _ (hJ2.bl r37) (all 0 ⟨fun y => absurd rfl y, fun y => absurd c0 y.1⟩) _ _ hy3 (ax_y_i _))⟩, fun y => absurd y (by decide)⟩
          · have e1 : g_cc n (M0 235 (26 * n + l)) = 52 * n + M0 235 (26 * n + l) - 1 := if_neg (by omega)
            have es2 : ax_shr (52 * n + M0 235 (26 * n + l) - 1) 1 = 26 * n + (M0 235 (26 * n + l) - 1) / 2 := by rw [b_shr ⟨by omega, by omega⟩]; omega
            have k2 := hK.2 (26 * n + (M0 235 (26 * n + l) - 1) / 2) (by omega) (by omega)
            rw [e1, es2]
            exact ⟨fun y => by omega, fun _ => ⟨⟨by omega, by omega⟩, fun z => ⟨bs, t_blame hJ2.2.1 (by decide) r37 (out _ _ (hJ2.bl r37) (all 0 ⟨fun y => absurd rfl y, fun y => absurd z (k2.2.mpr y.2)⟩) _ _ hy3 (ax_y_i _))⟩, fun z => ⟨bs, t_blame hJ2.2.1 (by decide) r37 (out _ _ (hJ2.bl r37) (all 1 ⟨fun _ => ⟨c0, k2.2.mp z⟩, fun _ => by decide⟩) _ _ hy3 (ax_y_i _))⟩⟩⟩
        refine r_Judge_judgeBareRest_137 hV.2.1 rn ⟨by omega, by omega⟩ hy3 hy4 ⟨⟨by omega, by omega⟩, fun z => by omega, fun _ => ⟨bs, ?_⟩⟩
        rw [hx hV 534 (by decide), hx hV 538 (by decide), hV.1 544 (by decide), f.1.1, f.2.2.2.2.1.1]
        refine ⟨fun z => ⟨bs, fun y => k200 0 (Or.inl rfl) ⟨fun x => absurd rfl x, fun x => absurd y (k.2.mpr x.2)⟩ _ (ax_y_i _), fun y => k200 1 (Or.inr rfl) ⟨fun _ => ⟨Or.inl z, k.2.mp y⟩, fun _ => by decide⟩ _ (ax_y_i _)⟩, fun z => ⟨bs, fun z2 => k200 0 (Or.inl rfl) ⟨fun x => absurd rfl x, fun x => by rcases x.1 with y | y; exact absurd y z; exact absurd z2 y⟩ _ (ax_y_i _), fun z2 => ⟨bs, fun y => k200 0 (Or.inl rfl) ⟨fun x => absurd rfl x, fun x => absurd y (k.2.mpr x.2)⟩ _ (ax_y_i _), fun y => k200 1 (Or.inr rfl) ⟨fun _ => ⟨Or.inr z2, k.2.mp y⟩, fun _ => by decide⟩ _ (ax_y_i _)⟩⟩⟩
      · obtain ⟨hs, hV⟩ := hI
        have es : s = 26 * n + 26 := by omega
        rw [es] at hV ⊢
        refine r_Judge_judgeBareRest_137 hV.2.1 rn ⟨by omega, by omega⟩ hy3 hy4 ⟨⟨by omega, by omega⟩, fun _ => h V (hV.of (fun t => ?_)), fun z => by omega⟩
        rw [show 26 * n + 26 - 26 * n = 26 by omega, eT2, eT1]
        constructor
        · rintro (((z | ⟨x, x0, x1, x2⟩) | ⟨x, x0, x1⟩) | z)
          · exact Or.inl (Or.inl (Or.inl z))
          · exact Or.inl (Or.inl (Or.inr ⟨x, x0, (aN _ (by omega) (by omega)).mp x1, x2⟩))
          · exact Or.inl (Or.inr ⟨x, ⟨by omega, by omega⟩, (eN x (by omega) (by omega)).mp x0, x1⟩)
          · exact Or.inr z
        · rintro (((z | ⟨x, x0, x1, x2⟩) | ⟨x, x0, x1, x2⟩) | z)
          · exact Or.inl (Or.inl (Or.inl z))
          · have tb := (hS.tr x0.1 x0.2).1
            exact Or.inl (Or.inl (Or.inr ⟨x, x0, (aN _ tb.1 tb.2).mpr x1, x2⟩))
          · exact Or.inl (Or.inr ⟨x, (eN x x0.1 x0.2).mpr x1, x2⟩)
          · exact Or.inr z
set_option maxHeartbeats 4000000 in
theorem t_look5 (hS : g_S C0 M0) (h2 : g_fr g_XJ C0 C2) (n0 : 0 ≤ n) (n1 : n < (M0 222 86)) (hJ : g_J5 C0 M0 C2 C n T) (h : ∀ C', g_J5 C0 M0 C2 C' (n + 1) (fun t => T t ∨ g_w5 C0 M0 (C2 543) n t) → Ψ C') : ax_N (az_W B (az_EJ B r)) (d + 4) q_Judge_lookFor [.ref r, ax_i 5, ax_i n] C Ψ Θ := by
  have hN := hS.2.1
  have rn : ax_rg n := ⟨by omega, by omega⟩
  have E2 := hS.eqS n0 n1
  have E0 := hS.eqF n0 (by omega)
  obtain ⟨j1, j2, j3, j4, j5, j6⟩ := hJ
  refine r_Judge_lookFor j2 (by decide) rn ⟨fun q => absurd q (by decide), fun q => absurd q (by decide), fun q => absurd q (by decide), fun _ => ?_, fun _ _ _ q => absurd rfl q⟩
  refine t_findBare hS (h2.tr (j1.up (by decide))) j2 n0 n1 (fun s a b => j5 s a (by omega)) (fun V hV hP hL => ?_)
  obtain ⟨k1, k2, k3, k4, k5⟩ := hV
  have f1 : g_fr [601, 530, 544] C2 V := j1.tr (k1.up (by decide))
  have xV : g_fr g_XJ C0 V := h2.tr (f1.up (by decide))
  have n5 : g_N5 C0 M0 V n := ⟨hP, fun s a b => ⟨(k5 s a b).1, hL s a b⟩⟩
  have tV : ∀ t, (V 601 5) ≤ t ↔ T t := fun t => by rw [k1 601 (by decide)]; exact j6 t
  have e43 : V 543 = C2 543 := f1 543 (by decide)
  refine t_bareParts hS xV k2 n5 n0 n1 tV (fun V1 h1 => ?_)
  have xV1 : g_fr g_XJ C0 V1 := xV.tr (h1.1.up (by decide))
  have n51 : g_N5 C0 M0 V1 n := by unfold g_N5; rw [h1.1 530 (by decide), h1.1 544 (by decide)]; exact n5
  refine t_bareRest hS xV1 h1.2.1 n51 n0 n1 h1.2.2 (fun V2 h2' => h V2 ?_)
  have e43' : V1 543 = C2 543 := by rw [h1.1 543 (by decide)]; exact e43
  have e30 : V2 530 = V 530 := by rw [h2'.1 530 (by decide), h1.1 530 (by decide)]
  have e44 : V2 544 = V 544 := by rw [h2'.1 544 (by decide), h1.1 544 (by decide)]
  refine ⟨(f1.tr (h1.1.up (by decide))).tr (h2'.1.up (by decide)), h2'.2.1, fun q a b => ?_, fun s a b => ?_, fun s a b => ?_, fun t => (h2'.2.2 t).trans ?_⟩
  · rw [e30]
    by_cases z : C0 508 n ≤ q
    · exact hP q z b
    · rw [k4 q (by omega)]; exact j3 q a (by omega)
  · rw [e44]
    by_cases z : 26 * n ≤ s
    · exact n5.2 s z (by omega)
    · rw [k3 s (by omega)]; exact j4 s a (by omega)
  · rw [e44, k3 s (by omega)]
    exact j5 s (by omega) b
  · rw [e43']
    unfold g_w5
    constructor
    · rintro ((((z | z) | z) | z) | z)
      · exact Or.inl z
      · exact Or.inr (Or.inl z)
      · exact Or.inr (Or.inr (Or.inl z))
      · exact Or.inr (Or.inr (Or.inr (Or.inl z)))
      · exact Or.inr (Or.inr (Or.inr (Or.inr z)))
    · rintro (z | z | z | z | z)
      · exact Or.inl (Or.inl (Or.inl (Or.inl z)))
      · exact Or.inl (Or.inl (Or.inl (Or.inr z)))
      · exact Or.inl (Or.inl (Or.inr z))
      · exact Or.inl (Or.inr z)
      · exact Or.inr z
/-- the class's faults 5 -/
theorem t_kind5 (hS : g_S C0 M0) (h2 : g_fr g_XJ C0 C2) (h44 : C2 544 = C0 544) (hg : ax_g C2) (hT : ∀ t, (C2 601 5) ≤ t ↔ T t) {y1 : Option Value} (hy1 : ax_y y1)
    (fin : ∀ C', g_J5 C0 M0 C2 C' (M0 222 86) (fun t => T t ∨ ∃ n, (0 ≤ n ∧ n < (M0 222 86)) ∧ g_w5 C0 M0 (C2 543) n t) → (700 ≤ (C' 601 5) → ∀ y, ax_y y → k_Judge_judge_7 B r (d + 4) y1 6 y C' Φ Θ) ∧ ((C' 601 5) < 700 → Φ 5 C')) : ∀ y, ax_y y → k_Judge_judge_7 B r (d + 4) y1 5 y C2 Φ Θ := by
  have z0 : C0 508 0 = 0 := hS.2.2.2.2.1.2.2.2.2.2.2.2.2.2.2.1.1
  refine t_nodes (d := d) (kd := 5) (J := fun C n T => g_J5 C0 M0 C2 C n T) (w := fun n t => g_w5 C0 M0 (C2 543) n t) hS (by decide) (fun C n T h => ⟨h.2.1, (h.1 500 (by decide)).trans (h2 500 (by decide)), h.2.2.2.2.2⟩) (fun C n T T' h k => ⟨h.1, h.2.1, h.2.2.1, h.2.2.2.1, h.2.2.2.2.1, fun t => (h.2.2.2.2.2 t).trans (k t)⟩) hy1 (by decide) (fun C n T n0 n1 h Ψ k => t_look5 hS h2 n0 n1 h k) (T := T) ⟨g_fr.rf _ _, hg, fun q a b => by rw [z0] at b; omega, fun s a b => by omega, fun s a b => ?_, hT⟩ fin
  rw [h44]
  exact (hS.2.2.2.1.1.2.2 s (by omega) b).2.2.2.2.1
end Kind5F
