/-! FAULTS 5, the class: rounds until nothing changes -/
def g_K5 (M V0 V : ax_V) (P0 P1 n : Int) : Prop := g_fr [530, 544] V0 V ∧ ax_g V ∧ (∀ s, ¬ (26 * n ≤ s ∧ s < 26 * n + 26) → V 544 s = V0 544 s) ∧ (∀ q, ¬ (P0 ≤ q ∧ q < P1) → V 530 q = V0 530 q) ∧ ∀ s, 26 * n ≤ s → s < 26 * n + 26 → (V 544 s = 0 ∨ V 544 s = 1) ∧ (¬ V 544 s = 0 → g_LB M s)
section Kind5D
variable {B r d : Nat} {C0 M0 V0 : ax_V} {q n : Int} {Φ : Int → ax_V → Prop} {Ψ Θ : ax_V → Prop}
theorem g_ev.cg {L P P' : Int → Prop} (hS : g_S C0 M0) (q0 : 0 ≤ q) (q1 : q < (M0 222 26)) (h : ∀ x, 0 ≤ x → x < q → M0 250 x = M0 250 q → (P x ↔ P' x)) : g_ev M0 L P q ↔ g_ev M0 L P' q := by
  obtain ⟨K, K7, KE, KA, KF⟩ := hS.kids q0 q1
  have hk : ∀ k : Nat, 0 ≤ g_kd M0 q k → (P (g_kd M0 q k) ↔ P' (g_kd M0 q k)) := fun k k0 => by
    have k1 : k < K := by
      by_cases y : K ≤ k
      · have := KE k y; omega
      · omega
    have a := KA k k1
    exact h _ a.1.1 a.1.2 a.2.2
  have ha : M0 241 q = 19 → (P (M0 245 q) ↔ P' (M0 245 q)) := fun o => by
    have e0 : g_kd M0 q 0 = M0 245 q := (if_neg (by omega)).trans (if_pos rfl)
    have ar := hS.ar q0 q1
    have a0 : 0 ≤ M0 245 q := by rcases ar with z | z | z | z | z <;> omega
    have := hk 0 (by omega)
    rw [e0] at this
    exact this
  unfold g_ev
  constructor
  · rintro (y | y | ⟨o, y | ⟨k, k0, y⟩⟩)
    · exact Or.inl y
    · exact Or.inr (Or.inl ⟨y.1, (ha y.1).mp y.2⟩)
    · exact Or.inr (Or.inr ⟨o, Or.inl y⟩)
    · exact Or.inr (Or.inr ⟨o, Or.inr ⟨k, k0, (hk k k0).mp y⟩⟩)
  · rintro (y | y | ⟨o, y | ⟨k, k0, y⟩⟩)
    · exact Or.inl y
    · exact Or.inr (Or.inl ⟨y.1, (ha y.1).mpr y.2⟩)
    · exact Or.inr (Or.inr ⟨o, Or.inl y⟩)
    · exact Or.inr (Or.inr ⟨o, Or.inr ⟨k, k0, (hk k k0).mpr y⟩⟩)
/-- what is marked is bare, where its parts and letters are -/
theorem g_ev.so {L P : Int → Prop} (hS : g_S C0 M0) (q0 : 0 ≤ q) (q1 : q < (M0 222 26)) (hL : (M0 241 q = 2 ∨ M0 241 q = 20 ∨ M0 241 q = 21) → L (26 * M0 250 q + M0 248 q) → g_LB M0 (26 * M0 250 q + M0 248 q)) (hP : ∀ x, 0 ≤ x → x < q → M0 250 x = M0 250 q → P x → g_PB M0 x) (h : g_ev M0 L P q) : g_PB M0 q := by
  obtain ⟨K, K7, KE, KA, KF⟩ := hS.kids q0 q1
  have hk : ∀ k : Nat, 0 ≤ g_kd M0 q k → P (g_kd M0 q k) → g_PB M0 (g_kd M0 q k) := fun k k0 => by
    have k1 : k < K := by
      by_cases y : K ≤ k
      · have := KE k y; omega
      · omega
    have a := KA k k1
    exact hP _ a.1.1 a.1.2 a.2.2
  refine g_PB.i q0 q1 ?_
  rcases h with y | y | ⟨o, y | ⟨k, k0, y⟩⟩
  · exact Or.inl y
  · have e0 : g_kd M0 q 0 = M0 245 q := (if_neg (by omega)).trans (if_pos rfl)
    have ar := hS.ar q0 q1
    have a0 : 0 ≤ M0 245 q := by rcases ar with z | z | z | z | z <;> omega
    have := hk 0 (by omega)
    rw [e0] at this
    exact Or.inr (Or.inl ⟨y.1, this y.2⟩)
  · exact Or.inr (Or.inr ⟨o, Or.inl ⟨y.1, hL y.1 y.2⟩⟩)
  · exact Or.inr (Or.inr ⟨o, Or.inr ⟨k, k0, hk k k0 y⟩⟩)
set_option maxHeartbeats 4000000 in
theorem t_findBare (hS : g_S C0 M0) (hv : g_fr g_XJ C0 V0) (hg : ax_g V0) (n0 : 0 ≤ n) (n1 : n < (M0 222 86)) (h0 : ∀ s, 26 * n ≤ s → s < 26 * n + 26 → V0 544 s = 0) (h : ∀ V, g_K5 M0 V0 V (C0 508 n) (C0 508 (n + 1)) n → (∀ q, C0 508 n ≤ q → q < C0 508 (n + 1) → (V 530 q = 0 ∨ V 530 q = 1) ∧ (¬ V 530 q = 0 ↔ g_PB M0 q)) → (∀ s, 26 * n ≤ s → s < 26 * n + 26 → (¬ V 544 s = 0 ↔ g_LB M0 s)) → Ψ V) : ax_N (az_W B (az_EJ B r)) (d + 3) q_Judge_findBare [.ref r, ax_i n] V0 Ψ Θ := by
  have p0 := hS.2.2.1.1
  have hat := hS.2.2.2.2.2.2.2
  have hN := hS.2.1
  have hc1 := hS.2.2.2.2.1.1.1
  have hc2 := hS.2.2.2.2.1.1.2.1
  have rn : ax_rg n := ⟨by omega, by omega⟩
  have E0 := hS.eqF n0 (by omega)
  have E1 := hS.eqF (n := n + 1) (by omega) (by omega)
  have E2 := hS.eqS n0 n1
  obtain ⟨P0, eP0⟩ : ∃ A : Int, A = C0 508 n := ⟨_, rfl⟩
  obtain ⟨P1, eP1⟩ : ∃ A : Int, A = C0 508 (n + 1) := ⟨_, rfl⟩
  obtain ⟨Q0, eQ0⟩ : ∃ A : Int, A = C0 509 n := ⟨_, rfl⟩
  obtain ⟨Q1, eQ1⟩ : ∃ A : Int, A = C0 509 (n + 1) := ⟨_, rfl⟩
  have pN := fun q (q0 : 0 ≤ q) (q1 : q < (M0 222 26)) => hS.pN q0 q1 n0 n1
  have eN := fun e (a : 0 ≤ e) (b : e < (M0 222 44)) => hS.eqN a b n0 n1
  rw [← eP0, ← eP1] at pN h
  rw [← eQ0, ← eQ1] at eN
  rw [← eP0, ← eQ0] at E0 E2
  rw [← eP1, ← eQ1] at E1 E2
  have fx : ∀ {V : ax_V}, g_K5 M0 V0 V P0 P1 n → ∀ c, c ∉ g_XJ → V c = C0 c := fun hV c z => by
    rw [hV.1 c (fun y => z (by simp at y; rcases y with y | y <;> rw [y] <;> decide))]; exact hv c z
  have gxj : ∀ {V : ax_V}, g_K5 M0 V0 V P0 P1 n → g_fr g_XJ C0 V := fun hV => hv.tr (hV.1.up (by decide))
  -- heads of an equation of this node
  have hd : ∀ e i, Q0 ≤ e → e < Q1 → M0 259 e ≤ i → i < M0 259 e + M0 260 e → C0 554 i = 26 * n + M0 265 i ∧ (0 ≤ M0 265 i ∧ M0 265 i < 26) ∧ 0 ≤ i ∧ i < 350 := fun e i a b i0 i1 => by
    have fe := hS.2.2.2.2.1.2.1 e (by omega) (by omega)
    have fe3 := fe.2.2.1
    have ne := (eN e (by omega) (by omega)).mp ⟨a, b⟩
    have u := fe.2.2.2.2.2.2 i i0 i1
    exact ⟨by rw [← ne]; exact u.1, u.2.1, by omega, by omega⟩
  -- nothing has changed: it is the least
  have fin : ∀ V, g_K5 M0 V0 V P0 P1 n → (∀ p, P0 ≤ p → p < P1 → (V 530 p = 0 ∨ V 530 p = 1) ∧ (¬ V 530 p = 0 ↔ g_ev M0 (fun s => ¬ V 544 s = 0) (fun x => ¬ V 530 x = 0) p) ∧ (¬ V 530 p = 0 → g_PB M0 p)) → (∀ e i, Q0 ≤ e → e < Q1 → g_of M0 e i → ¬ V 530 (M0 262 e) = 0 → ¬ V 544 (26 * n + M0 265 i) = 0) → Ψ V := by
    intro V hV hp he
    have cl : g_cl M0 (fun s => 26 * n ≤ s → s < 26 * n + 26 → ¬ V 544 s = 0) (fun q => 0 ≤ q → q < (M0 222 26) → M0 250 q = n → ¬ V 530 q = 0) := by
      refine ⟨fun q q0 q1 ev _ _ nq => ?_, fun e i ho hw s0 s1 => ?_⟩
      · have pq := (pN q q0 q1).mpr nq
        refine ((hp q pq.1 pq.2).2.1).mpr ?_
        have ar := hS.ar q0 q1
        rcases ev with y | y | ⟨o, y | ⟨k, k0, y⟩⟩
        · exact Or.inl y
        · have kd := hS.kid q0 q1 (by omega)
          have a0 : 0 ≤ M0 245 q := by rcases ar with z | z | z | z | z <;> omega
          have nk := hS.kidn q0 q1 (x := M0 245 q) ⟨a0, Or.inl ⟨by omega, Or.inl rfl⟩⟩
          exact Or.inr (Or.inl ⟨y.1, y.2 a0 (by omega) (by rw [nk, nq])⟩)
        · have l := hS.pl q0 q1 (by omega)
          exact Or.inr (Or.inr ⟨o, Or.inl ⟨y.1, y.2 (by rw [nq]; omega) (by rw [nq]; omega)⟩⟩)
        · obtain ⟨K, K7, KE, KA, KF⟩ := hS.kids q0 q1
          have k1 : k < K := by
            by_cases y : K ≤ k
            · have := KE k y; omega
            · omega
          have a := KA k k1
          exact Or.inr (Or.inr ⟨o, Or.inr ⟨k, k0, y a.1.1 (by omega) (by rw [a.2.2, nq])⟩⟩)
      · have fe := hS.2.2.2.2.1.2.1 e ho.1.1 ho.1.2
        have u := (fe.2.2.2.2.2.2 i ho.2.1 ho.2.2).2.1
        have ne : M0 258 e = n := by omega
        have eb := (eN e ho.1.1 ho.1.2).mpr ne
        have fxx := fe.2.2.2.2.2.1
        have fx1 := fxx.1
        have nw := (fxx.2.2 _ fx1.2.1 (Int.le_refl _)).1.1
        rw [ne]
        exact he e i eb.1 eb.2 ho (hw (by omega) fx1.2.2 (by rw [nw, ne]))
    refine h V hV (fun q a b => ⟨(hp q a b).1, (hp q a b).2.2, fun z => z _ _ cl (by omega) (by omega) ((pN q (by omega) (by omega)).mp ⟨a, b⟩)⟩) (fun s a b => ⟨(hV.2.2.2.2 s a b).2, fun z => z _ _ cl a b⟩)
  have main : ∀ (m x : Nat), x ≤ 26 → 27 - x ≤ m → ∀ V, g_K5 M0 V0 V P0 P1 n → g_ct (V 544) (26 * n) 26 + x ≤ 26 → ∀ y3 y4 y5 y6, ax_y y3 → ax_y y4 → ax_y y5 → ax_y y6 → k_Judge_findBare_2 B r (d + 2) n (x : Int) y3 y4 y5 y6 V Ψ Θ := by
    intro m
    induction m with
    | zero => intro x x0 x1; omega
    | succ m ih =>
      intro x x0 x1 V hV hct y3 y4 y5 y6 hy3 hy4 hy5 hy6
      refine r_Judge_findBare_2 hV.2.1 rn ⟨by omega, by omega⟩ hy3 hy4 hy5 hy6 ⟨fun z => by omega, fun _ => ⟨⟨n0, by omega⟩, ?_⟩⟩
      rw [fx hV 508 (by decide), ← eP0]
      -- the parts
      refine ax_for (I := fun q W => (P0 ≤ q ∧ q ≤ P1) ∧ g_K5 M0 V0 W P0 P1 n ∧ W 544 = V 544 ∧ ∀ p, P0 ≤ p → p < q → (W 530 p = 0 ∨ W 530 p = 1) ∧ (¬ W 530 p = 0 ↔ g_ev M0 (fun s => ¬ W 544 s = 0) (fun x => ¬ W 530 x = 0) p) ∧ (¬ W 530 p = 0 → g_PB M0 p)) (K := fun q W => k_Judge_findBare_18 B r (d + 2) n (x : Int) q y4 y5 y6 W Ψ Θ) (hi := P1) (fun q W w hI next => ?_) (fun q W w hI => ?_) P0 V ⟨⟨Int.le_refl _, by omega⟩, hV, rfl, fun p a b => by omega⟩
      · obtain ⟨hq, hW, e44, hp⟩ := hI
        have q0 : 0 ≤ q := by omega
        have q1 : q < (M0 222 26) := by omega
        have nq := (pN q q0 q1).mp ⟨hq.1, w⟩
        have v508 : W 508 = C0 508 := fx hW 508 (by decide)
        have low : ∀ y, 0 ≤ y → y < q → M0 250 y = M0 250 q → P0 ≤ y := fun y y0 y1 y2 => ((pN y y0 (by omega)).mpr (by rw [y2, nq])).1
        obtain ⟨K, K7, KE, KA, KF⟩ := hS.kids q0 q1
        refine r_Judge_findBare_18 hW.2.1 rn ⟨by omega, by omega⟩ ⟨by omega, by omega⟩ hy4 hy5 hy6 ⟨⟨by omega, by omega⟩, fun z => by rw [v508] at z; omega, fun _ => t_isBare hS (gxj hW) hW.2.1 q0 q1 (fun k k0 => ?_) (fun v hv' hv2 => ⟨⟨q0, by omega⟩, hv', fun W2 e2 => ?_⟩)⟩
        · have k1 : k < K := by
            by_cases y : K ≤ k
            · have := KE k y; omega
            · omega
          have a := KA k k1
          exact (hp _ (low _ a.1.1 a.1.2 a.2.2) a.1.2).1
        · have rv : ax_rg v := by rcases hv' with z | z <;> rw [z] <;> decide
          have vq : W2 530 q = v := by rw [e2, ax_u_s]
          have vo : ∀ y, y ≠ q → W2 530 y = W 530 y := fun y z => by rw [e2, ax_u_k z]
          have w44 : W2 544 = W 544 := by rw [e2, ax_u_ne (by decide)]
          have hW2 : g_K5 M0 V0 W2 P0 P1 n := ⟨by rw [e2]; exact hW.1.u (by decide), by rw [e2]; exact ax_u_g hW.2.1 rv, by rw [w44]; exact hW.2.2.1, fun y z => by rw [vo y (by omega)]; exact hW.2.2.2.1 y z, by rw [w44]; exact hW.2.2.2.2⟩
          refine next W2 ⟨⟨by omega, by omega⟩, hW2, by rw [w44, e44], fun p a b => ?_⟩
          have cg : ∀ p, P0 ≤ p → p ≤ q → (g_ev M0 (fun s => ¬ W 544 s = 0) (fun x => ¬ W 530 x = 0) p ↔ g_ev M0 (fun s => ¬ W 544 s = 0) (fun x => ¬ W2 530 x = 0) p) := fun p a b => g_ev.cg hS (by omega) (by omega) (fun y y0 y1 _ => by rw [vo y (by omega)])
          rw [w44]
          by_cases z : p = q
          · rw [z, vq, ← cg q hq.1 (Int.le_refl _)]
            refine ⟨hv', hv2, fun y => ?_⟩
            refine (hv2.mp y).so hS q0 q1 (fun o z2 => ?_) (fun y y0 y1 y2 y3 => (hp y (low y y0 y1 y2) y1).2.2 y3)
            have l := hS.pl q0 q1 (by omega)
            exact (hW.2.2.2.2 _ (by omega) (by omega)).2 z2
          · rw [vo p z, ← cg p a (by omega)]
            exact hp p a (by omega)
      · obtain ⟨hq, hA, e44, hp⟩ := hI
        have eq : q = P1 := by omega
        rw [eq] at hp ⊢
        rw [← e44] at hct
        have v508 : W 508 = C0 508 := fx hA 508 (by decide)
        refine r_Judge_findBare_18 hA.2.1 rn ⟨by omega, by omega⟩ ⟨by omega, by omega⟩ hy4 hy5 hy6 ⟨⟨by omega, by omega⟩, fun _ => ⟨⟨n0, by omega⟩, ?_⟩, fun z => by rw [v508] at z; omega⟩
        rw [fx hA 509 (by decide), ← eQ0]
        obtain ⟨A, eA⟩ : ∃ A : ax_V, A = W := ⟨_, rfl⟩
        rw [← eA] at hA hp hct ⊢
        -- the equations
        refine ax_for (I := fun e _ => Q0 ≤ e ∧ e ≤ Q1) (K := fun e W => ∀ x3 y5 y6, ax_y y5 → ax_y y6 → (g_K5 M0 V0 W P0 P1 n ∧ W 530 = A 530) → ((x3 = 0 ∧ W = A ∧ ∀ e' i, Q0 ≤ e' → e' < e → g_of M0 e' i → ¬ A 530 (M0 262 e') = 0 → ¬ A 544 (26 * n + M0 265 i) = 0) ∨ (x3 = 1 ∧ g_ct (W 544) (26 * n) 26 + 1 ≤ g_ct (A 544) (26 * n) 26)) → k_Judge_findBare_66 B r (d + 2) n (x : Int) x3 e y5 y6 W Ψ Θ) (hi := Q1) (fun e W w hI next x3 y5 y6 hy5 hy6 hW hc => ?_) (fun e W w hI x3 y5 y6 hy5 hy6 hW hc => ?_) Q0 A ⟨Int.le_refl _, by omega⟩ 0 y5 y6 hy5 hy6 ⟨hA, rfl⟩ (Or.inl ⟨rfl, rfl, fun e' i a b => by omega⟩)
        · have e0 : 0 ≤ e := by omega
          have e1 : e < (M0 222 44) := by omega
          have fe := hS.2.2.2.2.1.2.1 e e0 e1
          have fe2 := fe.2.1
          have fe3 := fe.2.2.1
          have ex := fe.2.2.2.1.2.1
          have fx1 := fe.2.2.2.2.2.1.1
          have v509 : W 509 = C0 509 := fx hW.1 509 (by decide)
          have rx3 : ax_rg x3 := by rcases hc with z | z <;> rw [z.1] <;> decide
          refine r_Judge_findBare_66 hW.1.2.1 rn ⟨by omega, by omega⟩ rx3 ⟨by omega, by omega⟩ hy5 hy6 ⟨⟨by omega, by omega⟩, fun z => by rw [v509] at z; omega, fun _ => ⟨⟨e0, by omega⟩, ?_⟩⟩
          rw [fx hW.1 548 (by decide), fe2.1]
          refine ax_for (I := fun i _ => M0 259 e ≤ i ∧ i ≤ M0 259 e + M0 260 e) (K := fun i W => ∀ x3 y6, ax_y y6 → (g_K5 M0 V0 W P0 P1 n ∧ W 530 = A 530) → ((x3 = 0 ∧ W = A ∧ (∀ e' i, Q0 ≤ e' → e' < e → g_of M0 e' i → ¬ A 530 (M0 262 e') = 0 → ¬ A 544 (26 * n + M0 265 i) = 0) ∧ ∀ j, M0 259 e ≤ j → j < i → ¬ A 530 (M0 262 e) = 0 → ¬ A 544 (26 * n + M0 265 j) = 0) ∨ (x3 = 1 ∧ g_ct (W 544) (26 * n) 26 + 1 ≤ g_ct (A 544) (26 * n) 26)) → k_Judge_findBare_94 B r (d + 2) n (x : Int) x3 e i y6 W Ψ Θ) (hi := M0 259 e + M0 260 e) (fun i W w2 hI2 next2 x3 y6 hy6 hW hc => ?_) (fun i W w2 hI2 x3 y6 hy6 hW hc => ?_) (M0 259 e) W ⟨Int.le_refl _, by omega⟩ x3 y6 hy6 hW ?_
          · have u := hd e i hI.1 w hI2.1 w2
            have rx3 : ax_rg x3 := by rcases hc with z | z <;> rw [z.1] <;> decide
            have go : W = A → (¬ A 530 (M0 262 e) = 0 → ¬ A 544 (26 * n + M0 265 i) = 0) → ∀ y6, ax_y y6 → k_Judge_findBare_94 B r (d + 2) n (x : Int) x3 e (i + 1) y6 W Ψ Θ := fun eW hm y6 hy6 => next2 W ⟨by omega, by omega⟩ x3 y6 hy6 hW (by
              rcases hc with ⟨z1, z2, z3, z4⟩ | z
              · refine Or.inl ⟨z1, z2, z3, fun j a b c => ?_⟩
                by_cases y : j = i
                · rw [y]; exact hm c
                · exact z4 j a (by omega) c
              · exact Or.inr z)
            have go1 : (x3 = 1 ∧ g_ct (W 544) (26 * n) 26 + 1 ≤ g_ct (A 544) (26 * n) 26) → ∀ y6, ax_y y6 → k_Judge_findBare_94 B r (d + 2) n (x : Int) x3 e (i + 1) y6 W Ψ Θ := fun z y6 hy6 => next2 W ⟨by omega, by omega⟩ x3 y6 hy6 hW (Or.inr z)
            have gog : (W = A → (¬ A 530 (M0 262 e) = 0 → ¬ A 544 (26 * n + M0 265 i) = 0)) → ∀ y6, ax_y y6 → k_Judge_findBare_94 B r (d + 2) n (x : Int) x3 e (i + 1) y6 W Ψ Θ := fun hm => by
              rcases hc with z | z
              · exact go z.2.1 (hm z.2.1)
              · exact go1 z
            refine r_Judge_findBare_94 hW.1.2.1 rn ⟨by omega, by omega⟩ rx3 ⟨by omega, by omega⟩ ⟨by omega, by omega⟩ hy6 ⟨⟨by omega, by omega⟩, ?_⟩
            rw [fx hW.1 548 (by decide), fx hW.1 550 (by decide), fx hW.1 554 (by decide), fe2.2, ex, u.1]
            refine ⟨fun z => absurd w2 (by omega), fun _ => ⟨⟨u.2.2.1, u.2.2.2⟩, ⟨e0, by omega⟩, ⟨by omega, by omega⟩, fun z => gog (fun eW y => ?_) _ (ax_y_i _), fun z => ⟨⟨by omega, by omega⟩, fun z2 => ⟨⟨by omega, by omega⟩, fun W2 e2 => ?_⟩, fun z2 => gog (fun eW _ => ?_) _ (ax_y_i _)⟩⟩⟩
            · rw [hW.2] at z; exact absurd z y
            · have hw : g_PB M0 (M0 262 e) := by
                have ne := (eN e e0 e1).mp ⟨hI.1, w⟩
                have nw := ((fe.2.2.2.2.2.1).2.2 _ fx1.2.1 (Int.le_refl _)).1.1
                have pw := (pN (M0 262 e) (by omega) fx1.2.2).mpr (by rw [nw, ne])
                rw [hW.2] at z
                exact (hp _ pw.1 pw.2).2.2 z
              have ne := (eN e e0 e1).mp ⟨hI.1, w⟩
              have lb : g_LB M0 (26 * n + M0 265 i) := by
                have := g_LB.i (M := M0) (e := e) (i := i) ⟨⟨e0, e1⟩, hI2.1, w2⟩ hw
                rw [ne] at this
                exact this
              have vq : W2 544 (26 * n + M0 265 i) = 1 := by rw [e2, ax_u_s]
              have vo : ∀ y, y ≠ 26 * n + M0 265 i → W2 544 y = W 544 y := fun y z => by rw [e2, ax_u_k z]
              have w30 : W2 530 = W 530 := by rw [e2, ax_u_ne (by decide)]
              have hW2 : g_K5 M0 V0 W2 P0 P1 n := ⟨by rw [e2]; exact hW.1.1.u (by decide), by rw [e2]; exact ax_u_g hW.1.2.1 (by decide), fun s z => by rw [vo s (by omega)]; exact hW.1.2.2.1 s z, by rw [w30]; exact hW.1.2.2.2.1, fun s s0 s1 => by
                by_cases y : s = 26 * n + M0 265 i
                · rw [y, vq]; exact ⟨Or.inr rfl, fun _ => lb⟩
                · rw [vo s y]; exact hW.1.2.2.2.2 s s0 s1⟩
              have dn := (g_ct_up (f := W 544) (f' := W2 544) (s := 26 * n) z2 (by rw [vq]; decide) vo 26).1 ⟨by omega, by omega⟩
              have ca : g_ct (W 544) (26 * n) 26 ≤ g_ct (A 544) (26 * n) 26 := by
                rcases hc with y | y
                · rw [y.2.1]; exact Nat.le_refl _
                · have := y.2; omega
              exact next2 W2 ⟨by omega, by omega⟩ 1 _ (ax_y_i _) ⟨hW2, by rw [w30]; exact hW.2⟩ (Or.inr ⟨rfl, by omega⟩)
            · rw [eW] at z2; exact z2
          · have ei : i = M0 259 e + M0 260 e := by omega
            rw [ei] at hc ⊢
            have rx3 : ax_rg x3 := by rcases hc with z | z <;> rw [z.1] <;> decide
            refine r_Judge_findBare_94 hW.1.2.1 rn ⟨by omega, by omega⟩ rx3 ⟨by omega, by omega⟩ ⟨by omega, by omega⟩ hy6 ⟨⟨by omega, by omega⟩, ?_⟩
            rw [fx hW.1 548 (by decide), fe2.2]
            refine ⟨fun _ => next W ⟨by omega, by omega⟩ x3 _ _ (ax_y_i _) hy6 hW ?_, fun z => by omega⟩
            rcases hc with ⟨z1, z2, z3, z4⟩ | z
            · refine Or.inl ⟨z1, z2, fun e' j a b ho => ?_⟩
              by_cases y : e' = e
              · rw [y] at ho ⊢; exact z4 j ho.2.1 ho.2.2
              · exact z3 e' j a (by omega) ho
            · exact Or.inr z
          · rcases hc with ⟨z1, z2, z3⟩ | z
            · exact Or.inl ⟨z1, z2, z3, fun j a b => by omega⟩
            · exact Or.inr z
        · have ee : e = Q1 := by omega
          rw [ee] at hc ⊢
          have v509 : W 509 = C0 509 := fx hW.1 509 (by decide)
          have rx3 : ax_rg x3 := by rcases hc with z | z <;> rw [z.1] <;> decide
          refine r_Judge_findBare_66 hW.1.2.1 rn ⟨by omega, by omega⟩ rx3 ⟨by omega, by omega⟩ hy5 hy6 ⟨⟨by omega, by omega⟩, fun _ => ⟨fun z => ?_, fun z => ?_⟩, fun z => by rw [v509] at z; omega⟩
          · rcases hc with ⟨z1, z2, z3⟩ | y
            · rw [z2]; exact fin A hA hp (fun e' i a b ho => z3 e' i a b ho)
            · have := y.1; omega
          · rcases hc with y | y
            · exact absurd y.1 z
            · have y2 := y.2
              have := ih (x + 1) (by omega) (by omega) W hW.1 (by omega) _ _ y5 y6 (ax_y_i x3) (ax_y_i Q1) hy5 hy6
              exact this
  refine r_Judge_findBare hg rn ?_
  have := main 27 0 (by omega) (by omega) V0 ⟨g_fr.rf _ _, hg, fun _ _ => rfl, fun _ _ => rfl, fun s a b => ⟨Or.inl (h0 s a b), fun z => absurd (h0 s a b) z⟩⟩ (by have := g_ct_le (V0 544) (26 * n) 26; omega) none none none none ax_y_n ax_y_n ax_y_n ax_y_n
  exact this
end Kind5D
