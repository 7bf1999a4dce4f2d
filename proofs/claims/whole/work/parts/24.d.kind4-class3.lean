/-! FAULTS 4, the class: what lies in states is on the base -/
section Kind4E
variable {B r d : Nat} {C0 M0 V C C2 : ax_V} {G : Int → Int} {q n : Int} {T : Int → Prop} {Φ : Int → ax_V → Prop} {Ψ Θ : ax_V → Prop}
set_option maxHeartbeats 4000000 in
theorem t_bases (hS : g_S C0 M0) (hv : g_fr g_XJ C0 V) (hg : ax_g V) (n0 : 0 ≤ n) (n1 : n < (M0 222 86)) (hT : ∀ t, (V 601 5) ≤ t ↔ T t) (h : ∀ V', g_J1 V V' (fun t => (T t ∨ ∃ q, (0 ≤ q ∧ q < (M0 222 26)) ∧ M0 250 q = n ∧ g_p4 C0 M0 q t) ∨ ∃ e, (0 ≤ e ∧ e < (M0 222 44)) ∧ M0 258 e = n ∧ g_s4 C0 M0 e t) → Ψ V') : ax_N (az_W B (az_EJ B r)) (d + 2) q_Judge_judgeBases [.ref r, ax_i n] V Ψ Θ := by
  have p0 := hS.2.2.1.1
  have hat := hS.2.2.2.2.2.2.2
  have hN := hS.2.1
  have hct := hS.2.2.2.2.1.1
  have hc1 := hct.1
  have hc2 := hct.2.1
  have rn : ax_rg n := ⟨by omega, by omega⟩
  have E0 := hS.eqF n0 (by omega)
  have E1 := hS.eqF (n := n + 1) (by omega) (by omega)
  have E2 := hS.eqS n0 n1
  have hx : ∀ {V' : ax_V} {T' : Int → Prop}, g_J1 V V' T' → ∀ c, c ∉ g_XJ → V' c = C0 c := fun hJ c z => by rw [hJ.1 c (fun q => z (by simp at q; rw [q]; decide))]; exact hv c z
  obtain ⟨P0, eP0⟩ : ∃ A : Int, A = C0 508 n := ⟨_, rfl⟩
  obtain ⟨P1, eP1⟩ : ∃ A : Int, A = C0 508 (n + 1) := ⟨_, rfl⟩
  obtain ⟨Q0, eQ0⟩ : ∃ A : Int, A = C0 509 n := ⟨_, rfl⟩
  obtain ⟨Q1, eQ1⟩ : ∃ A : Int, A = C0 509 (n + 1) := ⟨_, rfl⟩
  have pN := fun q (q0 : 0 ≤ q) (q1 : q < (M0 222 26)) => hS.pN q0 q1 n0 n1
  have eN := fun e (a : 0 ≤ e) (b : e < (M0 222 44)) => hS.eqN a b n0 n1
  rw [← eP0, ← eP1] at pN
  rw [← eQ0, ← eQ1] at eN
  rw [← eP0, ← eQ0] at E0 E2
  rw [← eP1, ← eQ1] at E1 E2
  refine r_Judge_judgeBases hg rn ⟨⟨n0, by omega⟩, ?_⟩
  rw [hv 508 (by decide), ← eP0]
  refine ax_for (I := fun q V1 => (P0 ≤ q ∧ q ≤ P1) ∧ g_J1 V V1 (fun t => T t ∨ ∃ x, (P0 ≤ x ∧ x < q) ∧ g_p4 C0 M0 x t)) (K := fun q V1 => ∀ y3 y4 y5, ax_y y3 → ax_y y4 → ax_y y5 → k_Judge_judgeBases_10 B r (d + 1) n q y3 y4 y5 V1 Ψ Θ) (hi := P1) (fun q V1 w hI next y3 y4 y5 hy3 hy4 hy5 => ?_) (fun q V1 w hI y3 y4 y5 hy3 hy4 hy5 => ?_) P0 V ⟨⟨Int.le_refl _, by omega⟩, g_fr.rf _ _, hg, fun t => by rw [hT t]; exact ⟨fun z => Or.inl z, fun z => by rcases z with z | ⟨x, x0, -⟩; exact z; omega⟩⟩ none none none ax_y_n ax_y_n ax_y_n
  · obtain ⟨hq, hJ⟩ := hI
    have v508 : V1 508 = C0 508 := hx hJ 508 (by decide)
    have q0 : 0 ≤ q := by omega
    have q1 : q < (M0 222 26) := by omega
    have nq := (pN q q0 q1).mp ⟨hq.1, w⟩
    have b7 : 0 ≤ q ∧ q < 700 := ⟨q0, by omega⟩
    have rq : ax_rg q := ⟨by omega, by omega⟩
    have o9 := hS.op q0 q1
    have dt := (hS.p q0 q1).2.2.2.2.2.2.1
    have pl := fun o => hS.pl q0 q1 o
    have ck := fun o => hS.ck n0 n1 (pl o).1 (pl o).2
    have hE : (C0 517 q = M0 241 q ∧ (M0 241 q ≤ 3 ∨ 20 ≤ M0 241 q)) ∨ ((4 ≤ M0 241 q ∧ M0 241 q ≤ 19) ∧ 4 ≤ C0 517 q ∧ C0 517 q ≤ 19) := by
      rw [o9.2]
      unfold e_op
      split
      · omega
      · split
        · omega
        · split
          · omega
          · split <;> omega
    have o1 := o9.1
    clear o9
    have hh : (¬ (M0 241 q = 22 ∧ ¬ M0 248 q = -1) ∧ C0 523 q = -1) ∨ ((M0 241 q = 22 ∧ ¬ M0 248 q = -1) ∧ C0 523 q = 26 * n + M0 248 q ∧ C0 524 q = M0 244 q ∧ e_pl (M0 244 q)) := by
      by_cases o : M0 241 q = 22
      · have d7 := dt.2.2.2.2.2.2 o
        by_cases l : M0 248 q = -1
        · exact Or.inl ⟨fun z => z.2 l, d7.2.2.1 l⟩
        · have d8 := d7.2.2.2.1 (by omega)
          exact Or.inr ⟨⟨o, l⟩, by rw [← nq]; exact d8.1, d8.2.1, d8.2.2⟩
      · refine Or.inl ⟨fun z => o z.1, ?_⟩
        by_cases a1 : M0 241 q = 0 ∨ M0 241 q = 1
        · exact (dt.1 a1).2.2
        · by_cases a2 : M0 241 q = 2 ∨ M0 241 q = 3 ∨ M0 241 q = 21
          · exact (dt.2.2.1 a2).2.2.2.2
          · by_cases a3 : M0 241 q = 20
            · exact (dt.2.2.2.1 a3).2.2.2.2.2
            · exact (dt.2.2.2.2.1 (by omega)).2
    have step1 : ∀ V2 T2, g_J1 V V2 T2 → (∀ t, T2 t ↔ ((T t ∨ ∃ x, (P0 ≤ x ∧ x < q) ∧ g_p4 C0 M0 x t) ∨ g_p4 C0 M0 q t)) → ∀ y3 y4 y5, ax_y y3 → ax_y y4 → ax_y y5 → k_Judge_judgeBases_10 B r (d + 1) n (q + 1) y3 y4 y5 V2 Ψ Θ := by
      intro V2 T2 hJ2 hT2
      refine next V2 ⟨⟨by omega, by omega⟩, hJ2.of (fun t => ?_)⟩
      rw [hT2 t]
      constructor
      · rintro ((z | ⟨x, x0, x1⟩) | z)
        · exact Or.inl z
        · exact Or.inr ⟨x, ⟨x0.1, by omega⟩, x1⟩
        · exact Or.inr ⟨q, ⟨hq.1, by omega⟩, z⟩
      · rintro (z | ⟨x, x0, x1⟩)
        · exact Or.inl (Or.inl z)
        · by_cases y : x = q
          · rw [y] at x1; exact Or.inr x1
          · exact Or.inl (Or.inr ⟨x, ⟨x0.1, by omega⟩, x1⟩)
    have k97 : ¬ C0 525 q = -1 → ∀ s0 : Int, (s0 = 0 ∨ s0 = 1) → (¬ s0 = 0 ↔ ((M0 241 q = 2 ∨ M0 241 q = 3) ∧ ¬ M0 235 (26 * n + M0 248 q) = 0)) → ∀ y3 y4, ax_y y3 → ax_y y4 → k_Judge_judgeBases_97 B r (d + 1) n q y3 y4 y5 s0 V1 Ψ Θ := by
      intro st s0 hs0 hs y3 y4 hy3 hy4
      have rs : ax_rg s0 := by rcases hs0 with z | z <;> rw [z] <;> decide
      have rp : ax_rg (V1 519 q) := hJ.2.1 _ _
      have e19 : V1 519 q = C0 519 q := by rw [hx hJ 519 (by decide)]
      have sp : (M0 241 q = 2 ∨ M0 241 q = 3) → C0 519 q = M0 244 q := fun o => (dt.2.2.1 (by omega)).2.2.1
      refine r_Judge_judgeBases_97 hJ.2.1 rn rq hy3 hy4 hy5 rs ⟨b7, t_blame hJ.2.1 rs rp ⟨b7, ?_⟩⟩
      have hJ2 := hJ.bl (w := s0) rp
      obtain ⟨V2, eV2⟩ : ∃ X : ax_V, X = j_bl V1 s0 (V1 519 q) := ⟨_, rfl⟩
      rw [← eV2] at hJ2 ⊢
      have p4 : ∀ t, g_p4 C0 M0 q t ↔ ((M0 241 q = 2 ∨ M0 241 q = 3 ∨ (M0 241 q = 22 ∧ ¬ M0 248 q = -1)) ∧ ¬ M0 235 (26 * n + M0 248 q) = 0 ∧ M0 244 q ≤ t) := fun t => by
        unfold g_p4
        rw [nq]
        exact ⟨fun z => z.2, fun z => ⟨st, z⟩⟩
      rcases hh with ⟨nh, h1⟩ | ⟨o22, h1, h2, h3⟩
      · have e23 : V2 523 q = -1 := by rw [hx hJ2 523 (by decide)]; exact h1
        rw [e23]
        refine ⟨fun _ => ⟨b7, t_blame hJ2.2.1 (by decide) (hJ2.2.1 _ _) (step1 _ _ (hJ2.bl (hJ2.2.1 _ _)) (fun t => ?_) _ _ _ hy3 hy4 (ax_y_i _))⟩, fun z => absurd z (by decide)⟩
        rw [hs, p4 t, e19]
        constructor
        · rintro ((y | ⟨y1, y2⟩) | y)
          · exact Or.inl y
          · rw [sp y1.1] at y2
            exact Or.inr ⟨by omega, y1.2, y2⟩
          · exact absurd rfl y.1
        · rintro (y | ⟨y1, y2, y3⟩)
          · exact Or.inl (Or.inl y)
          · have o : M0 241 q = 2 ∨ M0 241 q = 3 := by
              rcases y1 with x | x | x
              · exact Or.inl x
              · exact Or.inr x
              · exact absurd x nh
            refine Or.inl (Or.inr ⟨⟨o, y2⟩, ?_⟩)
            rw [sp o]; exact y3
      · have l := pl (Or.inr (Or.inr (Or.inr (Or.inr o22))))
        have c := ck (Or.inr (Or.inr (Or.inr (Or.inr o22))))
        have rsp : ax_rg (M0 244 q) := ⟨by omega, by omega⟩
        have o22' := o22.1
        rw [hx hJ2 523 (by decide), hx hJ2 524 (by decide), hx hJ2 536 (by decide), h1, h2, c.1, g_cc_b n0 (by omega)]
        have all : ∀ w : Int, (¬ w = 0 ↔ ¬ M0 235 (26 * n + M0 248 q) = 0) → ∀ t, ((((T t ∨ ∃ x, (P0 ≤ x ∧ x < q) ∧ g_p4 C0 M0 x t) ∨ (¬ s0 = 0 ∧ V1 519 q ≤ t)) ∨ (¬ w = 0 ∧ M0 244 q ≤ t)) ↔ ((T t ∨ ∃ x, (P0 ≤ x ∧ x < q) ∧ g_p4 C0 M0 x t) ∨ g_p4 C0 M0 q t)) := fun w hw t => by
          rw [hs, hw, p4 t]
          constructor
          · rintro ((y | y) | y)
            · exact Or.inl y
            · have := y.1.1; omega
            · exact Or.inr ⟨Or.inr (Or.inr o22), y⟩
          · rintro (y | y)
            · exact Or.inl (Or.inl y)
            · exact Or.inr y.2
        exact ⟨fun z => by omega, fun _ => ⟨⟨by omega, by omega⟩, fun z => ⟨b7, t_blame hJ2.2.1 (by decide) rsp (step1 _ _ (hJ2.bl rsp) (all 0 ⟨fun y => absurd rfl y, fun y => absurd z y⟩) _ _ _ hy3 hy4 (ax_y_i _))⟩, fun z => ⟨b7, t_blame hJ2.2.1 (by decide) rsp (step1 _ _ (hJ2.bl rsp) (all 1 ⟨fun _ => z, fun _ => by decide⟩) _ _ _ hy3 hy4 (ax_y_i _))⟩⟩⟩
    refine r_Judge_judgeBases_10 hJ.2.1 rn ⟨by omega, by omega⟩ hy3 hy4 hy5 ⟨⟨by omega, by omega⟩, fun z => by rw [v508] at z; omega, fun _ => ⟨b7, ?_⟩⟩
    rw [hx hJ 525 (by decide), hx hJ 517 (by decide), hx hJ 520 (by decide), hx hJ 536 (by decide)]
    have named : (o : M0 241 q = 2 ∨ M0 241 q = 3) → C0 520 q = 26 * n + M0 248 q ∧ C0 536 (26 * n + M0 248 q) = g_cc n (M0 235 (26 * n + M0 248 q)) ∧ 0 ≤ M0 235 (26 * n + M0 248 q) ∧ 0 ≤ M0 248 q ∧ M0 248 q < 26 := fun o => by
      have d3 := dt.2.2.1 (by omega)
      have c := ck (by omega)
      exact ⟨by rw [← nq]; exact d3.2.1, c.1, c.2.1, d3.1.1, d3.1.2⟩
    refine ⟨fun z => step1 V1 _ hJ (fun t => ⟨fun y => Or.inl y, fun y => by rcases y with y | y; exact y; exact absurd z y.1⟩) _ _ _ hy3 hy4 hy5, fun z => ⟨b7, fun o2 => ?_, fun o2 => ⟨fun o3 => ?_, fun o3 => ?_⟩⟩⟩
    · have o : M0 241 q = 2 ∨ M0 241 q = 3 := by omega
      have m := named o
      rw [m.1, m.2.1, g_cc_b n0 (by omega)]
      exact ⟨b7, ⟨by omega, by omega⟩, fun y => k97 z 0 (Or.inl rfl) ⟨fun x => absurd rfl x, fun x => absurd y x.2⟩ _ _ (ax_y_i _) (ax_y_i _), fun y => k97 z 1 (Or.inr rfl) ⟨fun _ => ⟨o, y⟩, fun _ => by decide⟩ _ _ (ax_y_i _) (ax_y_i _)⟩
    · have o : M0 241 q = 2 ∨ M0 241 q = 3 := by omega
      have m := named o
      rw [m.1, m.2.1, g_cc_b n0 (by omega)]
      exact ⟨b7, ⟨by omega, by omega⟩, fun y => k97 z 0 (Or.inl rfl) ⟨fun x => absurd rfl x, fun x => absurd y x.2⟩ _ _ (ax_y_i _) (ax_y_i _), fun y => k97 z 1 (Or.inr rfl) ⟨fun _ => ⟨o, y⟩, fun _ => by decide⟩ _ _ (ax_y_i _) (ax_y_i _)⟩
    · exact k97 z 0 (Or.inl rfl) ⟨fun x => absurd rfl x, fun x => by have := x.1; omega⟩ _ _ (ax_y_i _) (ax_y_i _)
  · obtain ⟨hq, hJ⟩ := hI
    have eq : q = P1 := by omega
    rw [eq] at hJ ⊢
    have v508 : V1 508 = C0 508 := hx hJ 508 (by decide)
    refine r_Judge_judgeBases_10 hJ.2.1 rn ⟨by omega, by omega⟩ hy3 hy4 hy5 ⟨⟨by omega, by omega⟩, fun _ => ⟨⟨n0, by omega⟩, ?_⟩, fun z => by rw [v508] at z; omega⟩
    rw [hx hJ 509 (by decide), ← eQ0]
    obtain ⟨T1, eT1⟩ : ∃ X : Int → Prop, X = (fun t => T t ∨ ∃ x, (P0 ≤ x ∧ x < P1) ∧ g_p4 C0 M0 x t) := ⟨_, rfl⟩
    rw [← eT1] at hJ
    refine ax_for (I := fun e V1 => (Q0 ≤ e ∧ e ≤ Q1) ∧ g_J1 V V1 (fun t => T1 t ∨ ∃ x, (Q0 ≤ x ∧ x < e) ∧ g_s4 C0 M0 x t)) (K := fun e V1 => ∀ y3, ax_y y3 → k_Judge_judgeBases_173 B r (d + 1) n e y3 y4 y5 V1 Ψ Θ) (hi := Q1) (fun e V1 w hI next y3 hy3 => ?_) (fun e V1 w hI y3 hy3 => ?_) Q0 V1 ⟨⟨Int.le_refl _, by omega⟩, hJ.of (fun t => ⟨fun z => Or.inl z, fun z => by rcases z with z | ⟨x, x0, -⟩; exact z; omega⟩)⟩ y3 hy3
    · obtain ⟨he, hJ⟩ := hI
      have e0 : 0 ≤ e := by omega
      have e1 : e < (M0 222 44) := by omega
      have v509 : V1 509 = C0 509 := hx hJ 509 (by decide)
      have fe := hS.2.2.2.2.1.2.1 e e0 e1
      have fe2 := fe.2.1
      have fe3 := fe.2.2.1
      have ne := (eN e e0 e1).mp ⟨he.1, w⟩
      have hd : ∀ i, M0 259 e ≤ i → i < M0 259 e + M0 260 e → C0 554 i = 26 * n + M0 265 i ∧ (0 ≤ M0 265 i ∧ M0 265 i < 26) ∧ C0 555 i = M0 266 i ∧ e_pl (M0 266 i) ∧ C0 536 (26 * n + M0 265 i) = g_cc n (M0 235 (26 * n + M0 265 i)) ∧ 0 ≤ M0 235 (26 * n + M0 265 i) := fun i i0 i1 => by
        have a := fe.2.2.2.2.2.2 i i0 i1
        have b := hS.ck n0 n1 a.2.1.1 a.2.1.2
        exact ⟨by rw [← ne]; exact a.1, a.2.1, a.2.2.1, a.2.2.2, b.1, b.2.1⟩
      obtain ⟨T2, eT2⟩ : ∃ X : Int → Prop, X = (fun t => T1 t ∨ ∃ x, (Q0 ≤ x ∧ x < e) ∧ g_s4 C0 M0 x t) := ⟨_, rfl⟩
      rw [← eT2] at hJ
      have out : ∀ V2 T3, g_J1 V V2 T3 → (∀ t, T3 t ↔ (T2 t ∨ g_s4 C0 M0 e t)) → ∀ y3, ax_y y3 → k_Judge_judgeBases_173 B r (d + 1) n (e + 1) y3 y4 y5 V2 Ψ Θ := by
        intro V2 T3 hJ2 hT3
        refine next V2 ⟨⟨by omega, by omega⟩, hJ2.of (fun t => ?_)⟩
        rw [hT3 t, eT2]
        constructor
        · rintro ((z | ⟨x, x0, x1⟩) | z)
          · exact Or.inl z
          · exact Or.inr ⟨x, ⟨x0.1, by omega⟩, x1⟩
          · exact Or.inr ⟨e, ⟨he.1, by omega⟩, z⟩
        · rintro (z | ⟨x, x0, x1⟩)
          · exact Or.inl (Or.inl z)
          · by_cases y : x = e
            · rw [y] at x1; exact Or.inr x1
            · exact Or.inl (Or.inr ⟨x, ⟨x0.1, by omega⟩, x1⟩)
      refine r_Judge_judgeBases_173 hJ.2.1 rn ⟨by omega, by omega⟩ hy3 hy4 hy5 ⟨⟨by omega, by omega⟩, fun z => by rw [v509] at z; omega, fun _ => ⟨⟨e0, by omega⟩, ?_⟩⟩
      rw [hx hJ 548 (by decide), fe2.1]
      refine ax_for (I := fun i V2 => (M0 259 e ≤ i ∧ i ≤ M0 259 e + M0 260 e) ∧ g_J1 V V2 (fun t => T2 t ∨ (¬ C0 551 e = -1 ∧ ∃ x, (M0 259 e ≤ x ∧ x < i) ∧ ¬ M0 235 (26 * n + M0 265 x) = 0 ∧ M0 266 x ≤ t))) (K := fun i V2 => k_Judge_judgeBases_198 B r (d + 1) n e i y4 y5 V2 Ψ Θ) (hi := M0 259 e + M0 260 e) (fun i V2 w2 hI next2 => ?_) (fun i V2 w2 hI => ?_) (M0 259 e) V1 ⟨⟨Int.le_refl _, by omega⟩, hJ.of (fun t => ⟨fun z => Or.inl z, fun z => by rcases z with z | ⟨-, x, x0, -⟩; exact z; omega⟩)⟩
      · obtain ⟨hi, hJ2⟩ := hI
        have u := hd i hi.1 w2
        have rp : ax_rg (M0 266 i) := by have := u.2.2.2.1; exact ⟨by omega, by omega⟩
        refine r_Judge_judgeBases_198 hJ2.2.1 rn ⟨by omega, by omega⟩ ⟨by omega, by omega⟩ hy4 hy5 ⟨⟨by omega, by omega⟩, ?_⟩
        rw [hx hJ2 548 (by decide), hx hJ2 551 (by decide), hx hJ2 554 (by decide), hx hJ2 555 (by decide), hx hJ2 536 (by decide), fe2.2, u.1, u.2.2.1, u.2.2.2.2.1, g_cc_b n0 (by omega)]
        have all : ¬ C0 551 e = -1 → ∀ w : Int, (¬ w = 0 ↔ ¬ M0 235 (26 * n + M0 265 i) = 0) → ∀ t, (((T2 t ∨ (¬ C0 551 e = -1 ∧ ∃ x, (M0 259 e ≤ x ∧ x < i) ∧ ¬ M0 235 (26 * n + M0 265 x) = 0 ∧ M0 266 x ≤ t)) ∨ (¬ w = 0 ∧ M0 266 i ≤ t)) ↔ (T2 t ∨ (¬ C0 551 e = -1 ∧ ∃ x, (M0 259 e ≤ x ∧ x < i + 1) ∧ ¬ M0 235 (26 * n + M0 265 x) = 0 ∧ M0 266 x ≤ t))) := fun st w hw t => by
          rw [hw]
          constructor
          · rintro ((y | ⟨-, x, x0, x1⟩) | y)
            · exact Or.inl y
            · exact Or.inr ⟨st, x, ⟨x0.1, by omega⟩, x1⟩
            · exact Or.inr ⟨st, i, ⟨hi.1, by omega⟩, y⟩
          · rintro (y | ⟨-, x, x0, x1⟩)
            · exact Or.inl (Or.inl y)
            · by_cases z : x = i
              · rw [z] at x1; exact Or.inr x1
              · exact Or.inl (Or.inr ⟨st, x, ⟨x0.1, by omega⟩, x1⟩)
        refine ⟨fun z => absurd w2 (by omega), fun _ => ⟨⟨e0, by omega⟩, fun z => out V2 _ hJ2 (fun t => ?_) _ (ax_y_i _), fun z => ⟨⟨by omega, by omega⟩, ⟨by omega, by omega⟩, fun y => ⟨⟨by omega, by omega⟩, t_blame hJ2.2.1 (by decide) rp (next2 _ ⟨⟨by omega, by omega⟩, (hJ2.bl rp).of (all z 0 ⟨fun x => absurd rfl x, fun x => absurd y x⟩)⟩)⟩, fun y => ⟨⟨by omega, by omega⟩, t_blame hJ2.2.1 (by decide) rp (next2 _ ⟨⟨by omega, by omega⟩, (hJ2.bl rp).of (all z 1 ⟨fun _ => y, fun _ => by decide⟩)⟩)⟩⟩⟩⟩
        exact ⟨fun y => by rcases y with y | y; exact Or.inl y; exact absurd z y.1, fun y => by rcases y with y | y; exact Or.inl y; exact absurd z y.1⟩
      · obtain ⟨hi, hJ2⟩ := hI
        have ei : i = M0 259 e + M0 260 e := by omega
        rw [ei] at hJ2 ⊢
        refine r_Judge_judgeBases_198 hJ2.2.1 rn ⟨by omega, by omega⟩ ⟨by omega, by omega⟩ hy4 hy5 ⟨⟨by omega, by omega⟩, ?_⟩
        rw [hx hJ2 548 (by decide), fe2.2]
        refine ⟨fun _ => out V2 _ hJ2 (fun t => ?_) _ (ax_y_i _), fun z => by omega⟩
        unfold g_s4
        rw [ne]
        constructor
        · rintro (y | ⟨st, x, x0, x1⟩)
          · exact Or.inl y
          · exact Or.inr ⟨st, x, ⟨⟨e0, e1⟩, x0⟩, x1⟩
        · rintro (y | ⟨st, x, x0, x1⟩)
          · exact Or.inl y
          · exact Or.inr ⟨st, x, x0.2, x1⟩
    · obtain ⟨he, hJ⟩ := hI
      have ee : e = Q1 := by omega
      rw [ee] at hJ ⊢
      have v509 : V1 509 = C0 509 := hx hJ 509 (by decide)
      refine r_Judge_judgeBases_173 hJ.2.1 rn ⟨by omega, by omega⟩ hy3 hy4 hy5 ⟨⟨by omega, by omega⟩, fun _ => h V1 (hJ.of (fun t => ?_)), fun z => by rw [v509] at z; omega⟩
      rw [eT1]
      constructor
      · rintro ((z | ⟨x, x0, x1⟩) | ⟨x, x0, x1⟩)
        · exact Or.inl (Or.inl z)
        · exact Or.inl (Or.inr ⟨x, ⟨by omega, by omega⟩, (pN x (by omega) (by omega)).mp x0, x1⟩)
        · exact Or.inr ⟨x, ⟨by omega, by omega⟩, (eN x (by omega) (by omega)).mp x0, x1⟩
      · rintro ((z | ⟨x, x0, x1, x2⟩) | ⟨x, x0, x1, x2⟩)
        · exact Or.inl (Or.inl z)
        · exact Or.inl (Or.inr ⟨x, (pN x x0.1 x0.2).mpr x1, x2⟩)
        · exact Or.inr ⟨x, (eN x x0.1 x0.2).mpr x1, x2⟩
theorem t_look4 (hS : g_S C0 M0) (hG : g_G M0 G) (h2 : g_fr g_XJ C0 C2) (n0 : 0 ≤ n) (n1 : n < (M0 222 86)) (hJ : g_J4 M0 C2 G C (C0 508 n) T) (h : ∀ C', g_J4 M0 C2 G C' (C0 508 (n + 1)) (fun t => T t ∨ g_w4 C0 M0 G n t) → Ψ C') : ax_N (az_W B (az_EJ B r)) (d + 7) q_Judge_lookFor [.ref r, ax_i 4, ax_i n] C Ψ Θ := by
  have hN := hS.2.1
  have rn : ax_rg n := ⟨by omega, by omega⟩
  have fx : ∀ {V : ax_V} {P : Int} {T' : Int → Prop}, g_J4 M0 C2 G V P T' → g_fr g_XJ C0 V := fun hV => h2.tr (hV.1.up (by decide))
  refine r_Judge_lookFor hJ.2.1 (by decide) rn ⟨fun q => absurd q (by decide), fun q => absurd q (by decide), fun _ => ?_, fun q => absurd q (by decide), fun _ _ q => absurd rfl q⟩
  refine t_rings hS (fx hJ) hJ.2.1 n0 n1 hJ.2.2.2 (fun V1 h1 => ?_)
  refine t_clocks hS hG h2 n0 n1 (hJ.up h1) (fun V2 h2' => ?_)
  refine t_bases hS (fx h2') h2'.2.1 n0 n1 h2'.2.2.2 (fun V3 h3 => h V3 ((h2'.up h3).of (fun t => ?_)))
  unfold g_w4
  constructor
  · rintro (((((z | z) | ⟨x, x0, x1, x2⟩) | ⟨x, x0, x1, x2⟩) | ⟨x, x0, x1, x2⟩) | ⟨x, x0, x1, x2⟩)
    · exact Or.inl z
    · exact Or.inr (Or.inl z)
    · exact Or.inr (Or.inr (Or.inl ⟨x, x0, x1, Or.inl x2⟩))
    · exact Or.inr (Or.inr (Or.inr ⟨x, x0, x1, Or.inl x2⟩))
    · exact Or.inr (Or.inr (Or.inl ⟨x, x0, x1, Or.inr x2⟩))
    · exact Or.inr (Or.inr (Or.inr ⟨x, x0, x1, Or.inr x2⟩))
  · rintro (z | z | ⟨x, x0, x1, x2 | x2⟩ | ⟨x, x0, x1, x2 | x2⟩)
    · exact Or.inl (Or.inl (Or.inl (Or.inl (Or.inl z))))
    · exact Or.inl (Or.inl (Or.inl (Or.inl (Or.inr z))))
    · exact Or.inl (Or.inl (Or.inl (Or.inr ⟨x, x0, x1, x2⟩)))
    · exact Or.inl (Or.inr ⟨x, x0, x1, x2⟩)
    · exact Or.inl (Or.inl (Or.inr ⟨x, x0, x1, x2⟩))
    · exact Or.inr ⟨x, x0, x1, x2⟩
/-- the class's faults 4 -/
theorem t_kind4 (hS : g_S C0 M0) (hG : g_G M0 G) (h2 : g_fr g_XJ C0 C2) (hg : ax_g C2) (hT : ∀ t, (C2 601 5) ≤ t ↔ T t) {y1 : Option Value} (hy1 : ax_y y1)
    (fin : ∀ C', g_J4 M0 C2 G C' (M0 222 26) (fun t => T t ∨ ∃ n, (0 ≤ n ∧ n < (M0 222 86)) ∧ g_w4 C0 M0 G n t) → (700 ≤ (C' 601 5) → ∀ y, ax_y y → k_Judge_judge_7 B r (d + 7) y1 5 y C' Φ Θ) ∧ ((C' 601 5) < 700 → Φ 4 C')) : ∀ y, ax_y y → k_Judge_judge_7 B r (d + 7) y1 4 y C2 Φ Θ := by
  have z0 : C0 508 0 = 0 := hS.2.2.2.2.1.2.2.2.2.2.2.2.2.2.2.1.1
  have z1 : C0 508 (M0 222 86) = (M0 222 26) := hS.2.2.2.2.2.1.1
  refine t_nodes (d := d + 3) (kd := 4) (J := fun C n T => g_J4 M0 C2 G C (C0 508 n) T) (w := fun n t => g_w4 C0 M0 G n t) hS (by decide) (fun C n T h => ⟨h.2.1, (h.1 500 (by decide)).trans (h2 500 (by decide)), h.2.2.2⟩) (fun C n T T' h k => h.of k) hy1 (by decide) (fun C n T n0 n1 h Ψ k => t_look4 hS hG h2 n0 n1 h k) (T := T) ⟨g_fr.rf _ _, hg, fun q a b => by rw [z0] at b; omega, hT⟩ (fun C' hC' => fin C' (by rw [z1] at hC'; exact hC'))
end Kind4E
