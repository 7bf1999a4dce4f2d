/-! FAULTS 5, the class: who needs a first value -/
def g_b5 (M : ax_V) (q t : Int) : Prop := ((M 241 q = 6 ∨ M 241 q = 18 ∨ M 241 q = 19) ∧ g_PB M (M 245 q) ∧ M 242 (M 245 q) ≤ t) ∨ ((M 241 q = 20 ∨ M 241 q = 21) ∧ g_LB M (26 * M 250 q + M 248 q) ∧ M 244 q ≤ t) ∨ (M 241 q = 22 ∧ ((∃ k : Nat, 0 ≤ g_kd M q k ∧ g_PB M (g_kd M q k) ∧ M 242 (g_kd M q k) ≤ t) ∨ (¬ M 248 q = -1 ∧ g_LB M (26 * M 250 q + M 248 q) ∧ M 244 q ≤ t)))
def g_l5 (C M : ax_V) (H : Int → Int) (n l t : Int) : Prop := ((M 232 (26 * n + l) = 2 ∨ ¬ M 236 (26 * n + l) = 0) ∧ g_LB M (26 * n + l) ∧ H (26 * n + l) ≤ t) ∨ (¬ M 235 (26 * n + l) = 0 ∧ g_LB M (26 * n + (M 235 (26 * n + l) - 1) / 2) ∧ C 537 (26 * n + l) ≤ t)
def g_w5 (C M : ax_V) (H : Int → Int) (n t : Int) : Prop := (∃ q, (0 ≤ q ∧ q < (M 222 26)) ∧ M 250 q = n ∧ g_b5 M q t) ∨ (∃ m, (0 ≤ m ∧ m < (M 222 60)) ∧ M 267 (M 271 m) = n ∧ g_PB M (M 277 m) ∧ M 242 (M 277 m) ≤ t) ∨ (∃ e, (0 ≤ e ∧ e < (M 222 44)) ∧ M 258 e = n ∧ ¬ C 551 e = -1 ∧ g_PB M (M 262 e) ∧ M 242 (M 262 e) ≤ t) ∨ ∃ l, (0 ≤ l ∧ l < 26) ∧ g_l5 C M H n l t
section Kind5E
variable {B r d : Nat} {C0 M0 V C C2 : ax_V} {q n : Int} {T : Int → Prop} {Φ : Int → ax_V → Prop} {Ψ Θ : ax_V → Prop}
/-- what is known of the node n -/
def g_N5 (C M V : ax_V) (n : Int) : Prop := (∀ q, C 508 n ≤ q → q < C 508 (n + 1) → (V 530 q = 0 ∨ V 530 q = 1) ∧ (¬ V 530 q = 0 ↔ g_PB M q)) ∧ ∀ s, 26 * n ≤ s → s < 26 * n + 26 → (V 544 s = 0 ∨ V 544 s = 1) ∧ (¬ V 544 s = 0 ↔ g_LB M s)
theorem g_N5.p (h : g_N5 C0 M0 C n) (hS : g_S C0 M0) (n0 : 0 ≤ n) (n1 : n < (M0 222 86)) (q0 : 0 ≤ q) (q1 : q < (M0 222 26)) (nq : M0 250 q = n) : (C 530 q = 0 ∨ C 530 q = 1) ∧ (¬ C 530 q = 0 ↔ g_PB M0 q) := by
  have := (hS.pN q0 q1 n0 n1).mpr nq
  exact h.1 q this.1 this.2
theorem t_have {p : Int} (hS : g_S C0 M0) (hC : g_fr g_XJ C0 C) (hK : g_N5 C0 M0 C n) (n0 : 0 ≤ n) (n1 : n < (M0 222 86)) (hJ : g_J1 C V T) (p0 : 0 ≤ p) (p1 : p < (M0 222 26)) (np : M0 250 p = n) (h : ∀ V', g_J1 C V' (fun t => T t ∨ (g_PB M0 p ∧ M0 242 p ≤ t)) → Ψ V') : ax_N (az_W B (az_EJ B r)) (d + 2) q_Judge_mustHave [.ref r, ax_i p] V Ψ Θ := by
  have hp := hS.2.2.1.1
  have hat := hS.2.2.2.2.2.2.2
  have pb := (hS.p p0 p1).2.2.1
  have b7 : 0 ≤ p ∧ p < 700 := ⟨p0, by omega⟩
  have rb : ax_rg (M0 242 p) := ⟨by omega, by omega⟩
  have k := hK.p hS n0 n1 p0 p1 np
  have e1 : V 530 p = C 530 p := by rw [hJ.1 530 (by decide)]
  have e2 : V 518 p = M0 242 p := by rw [hJ.1 518 (by decide), hC 518 (by decide)]; exact (hS.p p0 p1).2.1
  refine r_Judge_mustHave hJ.2.1 ⟨by omega, by omega⟩ ⟨b7, b7, ?_⟩
  rw [e1, e2]
  refine t_blame hJ.2.1 (by rcases k.1 with z | z <;> rw [z] <;> decide) rb (h _ ((hJ.bl rb).of (fun t => ?_)))
  rw [k.2]
set_option maxHeartbeats 4000000 in
theorem t_bareParts (hS : g_S C0 M0) (hv : g_fr g_XJ C0 C) (hg : ax_g C) (hK : g_N5 C0 M0 C n) (n0 : 0 ≤ n) (n1 : n < (M0 222 86)) (hT : ∀ t, (C 601 5) ≤ t ↔ T t) (h : ∀ V', g_J1 C V' (fun t => T t ∨ ∃ q, (0 ≤ q ∧ q < (M0 222 26)) ∧ M0 250 q = n ∧ g_b5 M0 q t) → Ψ V') : ax_N (az_W B (az_EJ B r)) (d + 3) q_Judge_judgeBareParts [.ref r, ax_i n] C Ψ Θ := by
  have p0 := hS.2.2.1.1
  have hat := hS.2.2.2.2.2.2.2
  have hN := hS.2.1
  have rn : ax_rg n := ⟨by omega, by omega⟩
  have E0 := hS.eqF n0 (by omega)
  have E1 := hS.eqF (n := n + 1) (by omega) (by omega)
  have E2 := hS.eqS n0 n1
  have hx : ∀ {V' : ax_V} {T' : Int → Prop}, g_J1 C V' T' → ∀ c, c ∉ g_XJ → V' c = C0 c := fun hJ c z => by rw [hJ.1 c (fun q => z (by simp at q; rw [q]; decide))]; exact hv c z
  obtain ⟨P0, eP0⟩ : ∃ A : Int, A = C0 508 n := ⟨_, rfl⟩
  obtain ⟨P1, eP1⟩ : ∃ A : Int, A = C0 508 (n + 1) := ⟨_, rfl⟩
  have pN := fun q (q0 : 0 ≤ q) (q1 : q < (M0 222 26)) => hS.pN q0 q1 n0 n1
  rw [← eP0, ← eP1] at pN
  rw [← eP0] at E0 E2
  rw [← eP1] at E1 E2
  refine r_Judge_judgeBareParts hg rn ⟨⟨n0, by omega⟩, ?_⟩
  rw [hv 508 (by decide), ← eP0]
  refine ax_for (I := fun q V => (P0 ≤ q ∧ q ≤ P1) ∧ g_J1 C V (fun t => T t ∨ ∃ x, (P0 ≤ x ∧ x < q) ∧ g_b5 M0 x t)) (K := fun q V => ∀ y3 y4, ax_y y3 → ax_y y4 → k_Judge_judgeBareParts_10 B r (d + 2) n q y3 y4 V Ψ Θ) (hi := P1) (fun q V w hI next y3 y4 hy3 hy4 => ?_) (fun q V w hI y3 y4 hy3 hy4 => ?_) P0 C ⟨⟨Int.le_refl _, by omega⟩, g_fr.rf _ _, hg, fun t => by rw [hT t]; exact ⟨fun z => Or.inl z, fun z => by rcases z with z | ⟨x, x0, -⟩; exact z; omega⟩⟩ none none ax_y_n ax_y_n
  · obtain ⟨hq, hJ⟩ := hI
    have q0 : 0 ≤ q := by omega
    have q1 : q < (M0 222 26) := by omega
    have nq := (pN q q0 q1).mp ⟨hq.1, w⟩
    have v508 : V 508 = C0 508 := hx hJ 508 (by decide)
    have b7 : 0 ≤ q ∧ q < 700 := ⟨q0, by omega⟩
    have o := hS.eopc q0 q1
    have ar := hS.ar q0 q1
    have dt := (hS.p q0 q1).2.2.2.2.2.2.1
    obtain ⟨K, K7, KE, KA, KF⟩ := hS.kids q0 q1
    obtain ⟨T1, eT1⟩ : ∃ X : Int → Prop, X = (fun t => T t ∨ ∃ x, (P0 ≤ x ∧ x < q) ∧ g_b5 M0 x t) := ⟨_, rfl⟩
    rw [← eT1] at hJ
    have step1 : ∀ V2 T2, g_J1 C V2 T2 → (∀ t, T2 t ↔ (T1 t ∨ g_b5 M0 q t)) → ∀ y3 y4, ax_y y3 → ax_y y4 → k_Judge_judgeBareParts_10 B r (d + 2) n (q + 1) y3 y4 V2 Ψ Θ := by
      intro V2 T2 hJ2 hT2
      refine next V2 ⟨⟨by omega, by omega⟩, hJ2.of (fun t => ?_)⟩
      rw [hT2 t, eT1]
      constructor
      · rintro ((z | ⟨x, x0, x1⟩) | z)
        · exact Or.inl z
        · exact Or.inr ⟨x, ⟨x0.1, by omega⟩, x1⟩
        · exact Or.inr ⟨q, ⟨hq.1, by omega⟩, z⟩
      · rintro (z | ⟨x, x0, x1⟩)
        · exact Or.inl (Or.inl z)
        · by_cases y : x = q
          · rw [y] at x1; exact Or.inr x1
          · exact Or.inl (Or.inr ⟨x, ⟨x0.1, by omega⟩, x1⟩)
    have v522 : ∀ {V' : ax_V} {T' : Int → Prop}, g_J1 C V' T' → V' 522 = C0 522 := fun hJ' => hx hJ' 522 (by decide)
    refine r_Judge_judgeBareParts_10 hJ.2.1 rn ⟨by omega, by omega⟩ hy3 hy4 ⟨⟨by omega, by omega⟩, fun z => by rw [v508] at z; omega, fun _ => ⟨b7, b7, ?_⟩⟩
    rw [hx hJ 517 (by decide), hx hJ 521 (by decide), KF]
    refine ⟨fun z => ?_, fun z => ?_, fun z => ?_, fun a1 a2 a3 a4 a5 a6 => ?_⟩
    · have oo : M0 241 q = 6 ∨ M0 241 q = 18 ∨ M0 241 q = 19 := by omega
      have kd := hS.kid q0 q1 (by omega)
      have a0 : 0 ≤ M0 245 q := by rcases ar with z | z | z | z | z <;> omega
      have e0 : g_kd M0 q 0 = M0 245 q := (if_neg (by omega)).trans (if_pos rfl)
      have nk := hS.kidn q0 q1 (x := M0 245 q) ⟨a0, Or.inl ⟨by omega, Or.inl rfl⟩⟩
      rw [e0]
      refine t_have hS hv hK n0 n1 hJ a0 (by omega) (by rw [nk, nq]) (fun V2 h2 => step1 V2 _ h2 (fun t => ?_) _ _ (ax_y_i _) hy4)
      constructor
      · rintro (y | y)
        · exact Or.inl y
        · exact Or.inr (Or.inl ⟨oo, y⟩)
      · rintro (y | y | y | y)
        · exact Or.inl y
        · exact Or.inr y.2
        · have := y.1; omega
        · have := y.1; omega
    · have oo : M0 241 q = 20 ∨ M0 241 q = 21 := by omega
      have l := hS.pl q0 q1 (by omega)
      refine t_ownLetter hS (hv.tr (hJ.1.up (by decide))) hJ.2.1 q0 q1 (by omega) (fun _ => ⟨⟨by omega, by omega⟩, b7, ?_⟩) (fun y => absurd oo (by omega))
      have k := hK.2 (26 * M0 250 q + M0 248 q) (by omega) (by omega)
      have pl : V 519 q = M0 244 q ∧ e_pl (M0 244 q) := by
        rw [hx hJ 519 (by decide)]
        rcases oo with y | y
        · exact ⟨(dt.2.2.2.1 y).2.2.2.1, (dt.2.2.2.1 y).2.2.2.2.1⟩
        · exact ⟨(dt.2.2.1 (Or.inr (Or.inr y))).2.2.1, (dt.2.2.1 (Or.inr (Or.inr y))).2.2.2.1⟩
      have rs : ax_rg (M0 244 q) := by have := pl.2; exact ⟨by omega, by omega⟩
      rw [pl.1, hJ.1 544 (by decide)]
      refine t_blame hJ.2.1 (by rcases k.1 with z | z <;> rw [z] <;> decide) rs (step1 _ _ (hJ.bl rs) (fun t => ?_) _ _ (ax_y_i _) hy4)
      rw [k.2]
      constructor
      · rintro (y | y)
        · exact Or.inl y
        · exact Or.inr (Or.inr (Or.inl ⟨oo, y⟩))
      · rintro (y | y | y | y)
        · exact Or.inl y
        · have := y.1; omega
        · exact Or.inr y.2
        · have := y.1; omega
    · have oo : M0 241 q = 22 := by omega
      have d7 := dt.2.2.2.2.2.2 oo
      have b5 : ∀ t, g_b5 M0 q t ↔ ((∃ k : Nat, 0 ≤ g_kd M0 q k ∧ g_PB M0 (g_kd M0 q k) ∧ M0 242 (g_kd M0 q k) ≤ t) ∨ (¬ M0 248 q = -1 ∧ g_LB M0 (26 * n + M0 248 q) ∧ M0 244 q ≤ t)) := fun t => by
        unfold g_b5
        rw [nq]
        constructor
        · rintro (y | y | y)
          · have := y.1; omega
          · have := y.1; omega
          · exact y.2
        · intro y; exact Or.inr (Or.inr ⟨oo, y⟩)
      -- the hat
      have hat2 : ∀ V2 T2, g_J1 C V2 T2 → (∀ t, T2 t ↔ (T1 t ∨ ∃ k : Nat, 0 ≤ g_kd M0 q k ∧ g_PB M0 (g_kd M0 q k) ∧ M0 242 (g_kd M0 q k) ≤ t)) → ∀ y3 y4, ax_y y3 → ax_y y4 → k_Judge_judgeBareParts_204 B r (d + 2) n q y3 y4 V2 Ψ Θ := by
        intro V2 T2 hJ2 hT2 y3 y4 hy3 hy4
        refine r_Judge_judgeBareParts_204 hJ2.2.1 rn ⟨by omega, by omega⟩ hy3 hy4 ⟨b7, ?_⟩
        by_cases lz : M0 248 q = -1
        · have e23 : V2 523 q = -1 := by rw [hx hJ2 523 (by decide)]; exact d7.2.2.1 lz
          rw [e23]
          refine ⟨fun _ => ⟨b7, t_blame hJ2.2.1 (by decide) (hJ2.2.1 _ _) (step1 _ _ (hJ2.bl (hJ2.2.1 _ _)) (fun t => ?_) _ _ hy3 hy4)⟩, fun y => absurd y (by decide)⟩
          rw [hT2 t, b5 t]
          exact ⟨fun y => by rcases y with (y | y) | y; exact Or.inl y; exact Or.inr (Or.inl y); exact absurd rfl y.1, fun y => by rcases y with y | y | y; exact Or.inl (Or.inl y); exact Or.inl (Or.inr y); exact absurd lz y.1⟩
        · have l := hS.pl q0 q1 (Or.inr (Or.inr (Or.inr (Or.inr ⟨oo, lz⟩))))
          have d8 := d7.2.2.2.1 l.1
          have rs : ax_rg (M0 244 q) := ⟨by omega, by omega⟩
          have k := hK.2 (26 * n + M0 248 q) (by omega) (by omega)
          rw [hx hJ2 523 (by decide), hx hJ2 524 (by decide), d8.1, d8.2.1, nq, hJ2.1 544 (by decide)]
          have all : ∀ v : Int, (¬ v = 0 ↔ g_LB M0 (26 * n + M0 248 q)) → ∀ t, ((T2 t ∨ (¬ v = 0 ∧ M0 244 q ≤ t)) ↔ (T1 t ∨ g_b5 M0 q t)) := fun v hv t => by
            rw [hT2 t, b5 t, hv]
            exact ⟨fun y => by rcases y with (y | y) | y; exact Or.inl y; exact Or.inr (Or.inl y); exact Or.inr (Or.inr ⟨lz, y⟩), fun y => by rcases y with y | y | y; exact Or.inl (Or.inl y); exact Or.inl (Or.inr y); exact Or.inr y.2⟩
          exact ⟨fun y => by omega, fun _ => ⟨b7, ⟨by omega, by omega⟩, fun z => ⟨b7, t_blame hJ2.2.1 (by decide) rs (step1 _ _ (hJ2.bl rs) (all 0 ⟨fun y => absurd rfl y, fun y => absurd z (k.2.mpr y)⟩) _ _ hy3 hy4)⟩, fun z => ⟨b7, t_blame hJ2.2.1 (by decide) rs (step1 _ _ (hJ2.bl rs) (all 1 ⟨fun _ => k.2.mp z, fun _ => by decide⟩) _ _ hy3 hy4)⟩⟩⟩
      have lp : ∀ (m k : Nat), k ≤ K → K - k ≤ m → ∀ V2 T2, g_J1 C V2 T2 → (∀ t, T2 t ↔ (T1 t ∨ ∃ j : Nat, j < k ∧ 0 ≤ g_kd M0 q j ∧ g_PB M0 (g_kd M0 q j) ∧ M0 242 (g_kd M0 q j) ≤ t)) → k_Judge_judgeBareParts_171 B r (d + 2) n q (g_kd M0 q k) (k : Int) V2 Ψ Θ := by
        intro m
        induction m with
        | zero =>
          intro k k0 k1 V2 T2 hJ2 hT2
          have ek : k = K := by omega
          rw [ek] at hT2 ⊢
          rw [KE K (Nat.le_refl _)]
          have f := hat2 V2 T2 hJ2 (fun t => by
            rw [hT2 t]
            constructor
            · rintro (y | ⟨j, -, y⟩)
              · exact Or.inl y
              · exact Or.inr ⟨j, y⟩
            · rintro (y | ⟨j, y⟩)
              · exact Or.inl y
              · refine Or.inr ⟨j, ?_, y⟩
                by_cases z : K ≤ j
                · have := KE j z; have := y.1; omega
                · omega)
          exact r_Judge_judgeBareParts_171 hJ2.2.1 rn ⟨by omega, by omega⟩ (by decide) ⟨by omega, by omega⟩ ⟨fun _ => f _ _ (ax_y_i _) (ax_y_i _), fun _ => ⟨fun _ => f _ _ (ax_y_i _) (ax_y_i _), fun y => absurd y (by decide)⟩⟩
        | succ m ih =>
          intro k k0 k1 V2 T2 hJ2 hT2
          by_cases ek : k = K
          · exact ih k k0 (by omega) V2 T2 hJ2 hT2
          · obtain ⟨a1, a2, a3⟩ := KA k (by omega)
            refine r_Judge_judgeBareParts_171 hJ2.2.1 rn ⟨by omega, by omega⟩ ⟨by omega, by omega⟩ ⟨by omega, by omega⟩ ⟨fun y => by omega, fun _ => ⟨fun y => by omega, fun _ => t_have hS hv hK n0 n1 hJ2 a1.1 (by omega) (by rw [a3, nq]) (fun V3 h3 => ⟨⟨a1.1, by omega⟩, ?_⟩)⟩⟩
            rw [v522 h3, a2]
            have := ih (k + 1) (by omega) (by omega) V3 _ h3 (fun t => by
              rw [hT2 t]
              constructor
              · rintro ((y | ⟨j, j0, y⟩) | y)
                · exact Or.inl y
                · exact Or.inr ⟨j, by omega, y⟩
                · exact Or.inr ⟨k, by omega, a1.1, y⟩
              · rintro (y | ⟨j, j0, y⟩)
                · exact Or.inl (Or.inl y)
                · by_cases ej : j = k
                  · rw [ej] at y; exact Or.inr y.2
                  · exact Or.inl (Or.inr ⟨j, by omega, y⟩))
            exact this
      have := lp K 0 (by omega) (by omega) V T1 hJ (fun t => ⟨fun y => Or.inl y, fun y => by rcases y with y | ⟨j, j0, -⟩; exact y; omega⟩)
      exact this
    · refine step1 V T1 hJ (fun t => ⟨fun y => Or.inl y, fun y => ?_⟩) _ _ (ax_y_i _) hy4
      rcases y with y | y | y | y
      · exact y
      · have := y.1; omega
      · have := y.1; omega
      · have := y.1; omega
  · obtain ⟨hq, hJ⟩ := hI
    have eq : q = P1 := by omega
    rw [eq] at hJ ⊢
    have v508 : V 508 = C0 508 := hx hJ 508 (by decide)
    refine r_Judge_judgeBareParts_10 hJ.2.1 rn ⟨by omega, by omega⟩ hy3 hy4 ⟨⟨by omega, by omega⟩, fun _ => h V (hJ.of (fun t => ?_)), fun z => by rw [v508] at z; omega⟩
    constructor
    · rintro (z | ⟨x, x0, x1⟩)
      · exact Or.inl z
      · exact Or.inr ⟨x, ⟨by omega, by omega⟩, (pN x (by omega) (by omega)).mp x0, x1⟩
    · rintro (z | ⟨x, x0, x1, x2⟩)
      · exact Or.inl z
      · exact Or.inr ⟨x, (pN x x0.1 x0.2).mpr x1, x2⟩
end Kind5E
