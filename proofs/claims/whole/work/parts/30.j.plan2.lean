/-! THE PLANNER: all nodes -/
/-- what a planned node has -/
def g_DN (C0 M0 : ax_V) (U S : Int → Int) (V : ax_V) (m : Int) : Prop :=
  (∀ q : Nat, q < ((M0 222 26)).toNat → M0 250 (q : Int) = m → V 531 (q : Int) = g_cp C0 M0 U m q) ∧
  (∀ a : Nat, a < ((M0 222 55)).toNat → M0 267 (a : Int) = m → V 560 (a : Int) = g_cp C0 M0 U m ((M0 222 26)).toNat + g_ca M0 m a) ∧
  (∀ l : Nat, l < 26 → ¬ M0 236 (26 * m + (l : Int)) = 0 → V 540 (26 * m + (l : Int)) = g_cp C0 M0 U m ((M0 222 26)).toNat + g_ca M0 m ((M0 222 55)).toNat + g_ll M0 m l) ∧
  (∀ s, 0 ≤ s → s < (C0 556 1) → M0 267 (C0 563 s) = m → g_LF C0 M0 U V m s) ∧
  g_FM C0 M0 U (V 515) m ∧ (∀ q, g_E M0 m q → V 529 q = g_cc m (S q)) ∧ g_SD C0 M0 (V 512) (V 511 m) (V 511 (m + 1)) m
/-- what waits for the Planner: nodes from n on -/
def g_WT (C0 M0 : ax_V) (G : Int → Int) (V : ax_V) (n : Int) : Prop :=
  (∀ e, 0 ≤ e → e < (M0 222 44) → n ≤ M0 258 e → V 553 e = 0) ∧ (∀ a, 0 ≤ a → a < (M0 222 55) → n ≤ M0 267 a → V 562 a = 0) ∧ (∀ x, 26 * n ≤ x → x < 208 → V 546 x = 0) ∧ (∀ s, 0 ≤ s → s < (C0 556 1) → n ≤ M0 267 (C0 563 s) → V 565 s = 0 ∧ V 566 s = 0) ∧ ∀ q, 0 ≤ q → q < (M0 222 26) → n ≤ M0 250 q → V 529 q = g_cc (M0 250 q) (G q)
def g_PL (C0 M0 : ax_V) (U J G S : Int → Int) (V : ax_V) (n : Int) : Prop :=
  (g_fr g_XP C0 V ∧ ax_g V) ∧ g_NM C0 M0 V ∧ (∀ m, 0 ≤ m → m < n → V 514 m = U m ∧ V 513 m = J m) ∧ (0 ≤ V 602 5 ∧ V 602 5 ≤ g_bs0 C0 n) ∧ (0 < n → V 511 n = V 602 5) ∧ (∀ m, 0 ≤ m → m < n → U m ≤ 300 → J m ≤ 60 → V 511 (m + 1) ≤ V 602 5 ∧ g_DN C0 M0 U S V m) ∧ g_WT C0 M0 G V n
section Plan2
variable {B r d : Nat} {C0 M0 V W : ax_V} {n m : Int} {U J G S Fs Hh : Int → Int} {Φ : Int → ax_V → Prop} {Ψ Θ : ax_V → Prop}
theorem g_SD.at {f f' : Int → Int} {F T : Int} (h : g_SD C0 M0 f F T n) (e : ∀ k, F ≤ k → k < T → f' k = f k) : g_SD C0 M0 f' F T n := by
  have st : ∀ j, j ≤ T → g_st f' F j = g_st f F j := fun j hj => funext fun v => propext ⟨fun z => by obtain ⟨i, i0, i1⟩ := z; exact ⟨i, i0, by rw [← e i i0.1 (by omega)]; exact i1⟩, fun z => by obtain ⟨i, i0, i1⟩ := z; exact ⟨i, i0, by rw [e i i0.1 (by omega)]; exact i1⟩⟩
  obtain ⟨h1, h2, h3, h4, h5, h6⟩ := h
  unfold g_SD
  rw [st T (Int.le_refl _)]
  refine ⟨h1, fun k a b => ?_, h3, h4, h5, h6⟩
  have u := h2 k a b
  rw [st k (by omega), e k a b]
  refine ⟨u.1, u.2.1, fun e' x y z => ?_⟩
  have v := u.2.2 e' x y z
  exact ⟨v.1, by rw [e (k - 1) (by omega) (by omega)]; exact v.2⟩
theorem g_FM.at {f f' : Int → Int} (hUJ : g_UJ C0 M0 U J) (hS : g_S C0 M0) (ok : g_N2 M0) (m0 : 0 ≤ m) (h3 : g_T C0 M0 U m ≤ 300) (h : g_FM C0 M0 U f m) (e : ∀ i, 0 ≤ i → i < 300 * m + 300 → f' i = f i) : g_FM C0 M0 U f' m := by
  have bU : ∀ m, 0 ≤ U m ∧ U m ≤ 1000000 := fun m => (hUJ.1 m).1
  have L := g_ll_b M0 m 26
  have A := g_ca_b M0 m ((M0 222 55)).toNat
  have P := g_cp_0 (C0 := C0) (M0 := M0) (n := m) bU ((M0 222 26)).toNat
  have eT : g_T C0 M0 U m = g_ll M0 m 26 + g_ca M0 m ((M0 222 55)).toNat + g_cp C0 M0 U m ((M0 222 26)).toNat := rfl
  refine ⟨fun l a b => ?_, fun a x y => ?_, fun q x y => ⟨fun o => ?_, fun o i i0 i1 => ?_⟩⟩
  · have b2 := g_ll_b M0 m l
    have s := g_ll_s b
    have mm := g_ll_m M0 m (show l + 1 ≤ 26 by omega)
    rw [e _ (by omega) (by omega)]; exact h.1 l a b
  · have b2 := g_ca_b M0 m a
    have s := g_ca_s y
    have mm := g_ca_m M0 m (show a + 1 ≤ ((M0 222 55)).toNat by omega)
    rw [e _ (by omega) (by omega)]; exact h.2.1 a x y
  · have r := hUJ.reg x y
    have v : g_vl C0 M0 U (q : Int) = 1 := by unfold g_vl; rw [if_pos o]
    rw [e _ (by omega) (by omega)]; exact (h.2.2 q x y).1 o
  · have r := hUJ.reg x y
    obtain ⟨w, t3, eU, v⟩ := hUJ.sub hS ok h3 x y o
    rw [e _ (by omega) (by omega), e _ (by omega) (by omega)]; exact (h.2.2 q x y).2 o i i0 i1
/-- a planned node stays so -/
theorem g_DN.keep (hUJ : g_UJ C0 M0 U J) (hS : g_S C0 M0) (ok : g_N2 M0) (h : g_DN C0 M0 U S V m) (m0 : 0 ≤ m) (mn : m < n) (m1 : m < (M0 222 86)) (h3 : U m ≤ 300) (e31 : ∀ q, 0 ≤ q → q < (M0 222 26) → ¬ M0 250 q = n → W 531 q = V 531 q) (e60 : ∀ a, 0 ≤ a → a < (M0 222 55) → ¬ M0 267 a = n → W 560 a = V 560 a) (e40 : ∀ s, ¬ (26 * n ≤ s ∧ s < 26 * n + 26) → W 540 s = V 540 s) (e65 : ∀ s, 0 ≤ s → s < (C0 556 1) → ¬ M0 267 (C0 563 s) = n → W 565 s = V 565 s ∧ W 566 s = V 566 s) (e15 : ∀ i, ¬ (300 * n ≤ i ∧ i < 300 * n + 300) → W 515 i = V 515 i) (e29 : ∀ q, g_E M0 m q → W 529 q = V 529 q) (e11 : W 511 m = V 511 m ∧ W 511 (m + 1) = V 511 (m + 1)) (e12 : ∀ k, V 511 m ≤ k → k < V 511 (m + 1) → W 512 k = V 512 k) : g_DN C0 M0 U S W m := by
  obtain ⟨h1, h2, h4, h5, h6, h7, h8⟩ := h
  have t3 : g_T C0 M0 U m ≤ 300 := by
    have e := (hUJ.2 m m0 m1).1
    rw [e] at h3
    exact (g_sat_le (by decide)).mp h3
  refine ⟨fun q a b => ?_, fun a x y => ?_, fun l a b => ?_, fun s a b c => ?_, h6.at hUJ hS ok m0 t3 (fun i a b => e15 i (by omega)), fun q hq => by rw [e29 q hq]; exact h7 q hq, ?_⟩
  · rw [e31 _ (by omega) (by omega) (by omega)]; exact h1 q a b
  · rw [e60 _ (by omega) (by omega) (by omega)]; exact h2 a x y
  · rw [e40 _ (by omega)]; exact h4 l a b
  · have u := e65 s a b (by omega)
    have v := h5 s a b c
    unfold g_LF at *
    rw [u.1, u.2]; exact v
  · rw [e11.1, e11.2]
    exact h8.at e12
theorem t_canMake {E : List (Nat × ax_S)} (hS : g_S C0 M0) (hf : g_fr g_XP C0 V) (hg : ax_g V) (n0 : 0 ≤ n) (n1 : n < (M0 222 86)) (h1 : V 513 n ≤ 60 → V 514 n ≤ 300 → Φ 1 V) (h0 : ¬ (V 513 n ≤ 60 ∧ V 514 n ≤ 300) → Φ 0 V) : ax_I (az_W B E) (d + 2) q_Program_canMake [.ref B, ax_i n] V Φ Θ := by
  have hN := hS.2.1
  have b8 : 0 ≤ n ∧ n < 8 := ⟨n0, by omega⟩
  refine r_Program_canMake hg ⟨by omega, by omega⟩ (r_Program_has hg ⟨by omega, by omega⟩ ?_)
  rw [hf 500 (by decide), hN.2.2.2]
  refine ⟨fun z => by omega, fun _ => ⟨fun z => by omega, fun _ => ⟨fun z => absurd z (by decide), fun _ => ⟨b8, fun z => h0 (by omega), fun z => ⟨b8, fun y => h0 (by omega), fun y => h1 z y⟩⟩⟩⟩⟩
set_option maxHeartbeats 4000000 in
theorem t_plan (hS : g_S C0 M0) (ok : g_N2 M0) (n6 : ∀ t, t < 700 → ¬ g_FA C0 M0 Fs G Hh 6 t) (hUJ : g_UJ C0 M0 U J) (hT : g_ST M0 G S) (hr : ∀ q, -1 ≤ S q ∧ S q ≤ 52) (hec : ∀ e, 0 ≤ e → e < (M0 222 44) → g_ec M0 e = M0 235 (26 * M0 258 e + M0 265 (M0 259 e))) (hV : g_PL C0 M0 U J G S V 0) (h : ∀ W, g_PL C0 M0 U J G S W (M0 222 86) → W 528 = V 528 → Ψ W) : ax_N (az_W B (az_EL B r)) (d + 7) q_Planner_plan [.ref r] V Ψ Θ := by
  have hN := hS.2.1
  refine r_Planner_plan hV.1.2 ?_
  refine ax_for (I := fun n W => ((0 ≤ n ∧ n ≤ (M0 222 86)) ∧ W 528 = V 528) ∧ g_PL C0 M0 U J G S W n) (K := fun n W => k_Planner_plan_2 B r (d + 6) n W Ψ Θ) (hi := (M0 222 86)) (fun n W w hI next => ?_) (fun n W w hI => ?_) 0 V ⟨⟨⟨by decide, by omega⟩, rfl⟩, hV⟩
  · obtain ⟨⟨hn, L0⟩, ⟨L1, L2⟩, L3, L4, L5, L6, L7, L8⟩ := hI
    have rn : ax_rg n := ⟨by omega, by omega⟩
    have b9 : 0 ≤ n ∧ n < 9 := ⟨hn.1, by omega⟩
    have bn : 0 ≤ n + 1 ∧ n + 1 < 9 := ⟨by omega, by omega⟩
    have E0 := hS.eqF hn.1 (by omega)
    have E1 := hS.eqF (n := n + 1) (by omega) (by omega)
    have E2 := hS.eqS hn.1 w
    have b0 := g_bs0_b hS hn.1 (by omega)
    have bs1 : g_bs0 C0 n ≤ g_bs0 C0 (n + 1) := by unfold g_bs0; omega
    refine r_Planner_plan_2 L2 rn ?_
    rw [L1 500 (by decide), hN.2.2.2]
    refine ⟨fun z => by omega, fun _ => t_count (d := d + 3) hS ok hUJ L1 L2 hn.1 w (fun m a b => (L4 m a b).1) (fun m a b => (L4 m a b).2) (fun V1 f1 g1 u1 j1 => ⟨b9, fun V2 e2 => ?_⟩)⟩
    have p1 : V1 602 5 = W 602 5 := by rw [f1 602 (by decide)]
    rw [p1] at e2
    have x2 : g_fr g_XP C0 V2 := by rw [e2]; exact (L1.tr (f1.up (by decide))).u (by decide)
    have g2 : ax_g V2 := by rw [e2]; exact ax_u_g g1 ⟨by omega, by omega⟩
    have k2 : ∀ c, c ≠ 511 → c ≠ 513 → c ≠ 514 → V2 c = W c := fun c a b e => by rw [e2, ax_u_ne a, f1 c (by simp; exact ⟨b, e⟩)]
    have s2n : V2 511 n = W 602 5 := by rw [e2, ax_u_s]
    have s2o : ∀ k, k ≠ n → V2 511 k = W 511 k := fun k z => by rw [e2, ax_u_k z, f1 511 (by decide)]
    have s2m : ∀ k, 0 < n → V2 511 k = W 511 k := fun k z => by
      by_cases y : k = n
      · rw [y, s2n, L6 z]
      · exact s2o k y
    have u2 : ∀ m, 0 ≤ m → m < n + 1 → V2 514 m = U m := fun m a b => by rw [e2, ax_u_ne (by decide)]; exact u1 m a b
    have j2 : ∀ m, 0 ≤ m → m < n + 1 → V2 513 m = J m := fun m a b => by rw [e2, ax_u_ne (by decide)]; exact j1 m a b
    have q2 : V2 602 5 = W 602 5 := by rw [k2 602 (by decide) (by decide) (by decide)]
    refine t_canMake (d := d + 4) hS x2 g2 hn.1 w (fun a b => ⟨fun z => absurd z (by decide), fun _ => ?_⟩) (fun no => ⟨fun _ => ⟨bn, fun V4 e4 => next V4 ⟨⟨⟨by omega, by omega⟩, by rw [e4, ax_u_ne (by decide), k2 528 (by decide) (by decide) (by decide)]; exact L0⟩, ?_⟩⟩, fun z => absurd rfl z⟩)
    · rw [j2 n hn.1 (by omega)] at a
      rw [u2 n hn.1 (by omega)] at b
      have t3 : g_T C0 M0 U n ≤ 300 := by
        have e := (hUJ.2 n hn.1 w).1
        rw [e] at b
        exact (g_sat_le (by decide)).mp b
      obtain ⟨w1, w2, w3, w4, w5⟩ := L8
      refine t_layOut (d := d + 3) hS ok hUJ x2 g2 hn.1 w (fun m a b => u2 m a (by omega)) t3 (fun s a b c => by rw [k2 565 (by decide) (by decide) (by decide), k2 566 (by decide) (by decide) (by decide)]; exact w4 s a b (by omega)) (fun V5 f5 g5 c1 c2 c3 c4 c5 c6 c7 c8 => ?_)
      have x5 : g_fr g_XP C0 V5 := x2.tr (f5.up (by decide))
      refine t_fillFirst (d := d + 4) hS ok hUJ x5 g5 hn.1 w (fun m a b => by rw [f5 514 (by decide)]; exact u2 m a (by omega)) t3 c1 c5 (fun V6 f6 g6 o6 m6 => ?_)
      have x6 : g_fr g_XP C0 V6 := x5.tr (f6.up (by decide))
      have e6 : ∀ c, c ≠ 511 → c ≠ 513 → c ≠ 514 → c ∉ [531, 540, 560, 565, 566] → c ≠ 515 → V6 c = W c := fun c a b e z y => by rw [f6 c (by simp; exact y), f5 c z, k2 c a b e]
      refine t_settleClocks (d := d + 4) hS x6 g6 hT hr hec hn.1 w (fun q a b c => ?_) (fun V7 f7 g7 o7 k7 => ?_)
      · rw [e6 529 (by decide) (by decide) (by decide) (by decide) (by decide), w5 q a b (by omega), c]
      have x7 : g_fr g_XP C0 V7 := x6.tr (f7.up (by decide))
      have e7 : ∀ c, c ≠ 511 → c ≠ 513 → c ≠ 514 → c ∉ [531, 540, 560, 565, 566] → c ≠ 515 → c ≠ 529 → V7 c = W c := fun c a b e z y x => by rw [f7 c (by simp; exact x), e6 c a b e z y]
      have nm7 : g_NM C0 M0 V7 := by
        unfold g_NM
        rw [e7 561 (by decide) (by decide) (by decide) (by decide) (by decide) (by decide), e7 552 (by decide) (by decide) (by decide) (by decide) (by decide) (by decide)]
        exact L3
      have f702 : V7 602 5 = W 602 5 := by rw [e7 602 (by decide) (by decide) (by decide) (by decide) (by decide) (by decide)]
      refine t_schedule (d := d + 1) hS ok n6 hn.1 w x7 g7 nm7 f702 L5.1 L5.2 (fun e a b c => by rw [e7 553 (by decide) (by decide) (by decide) (by decide) (by decide) (by decide)]; exact w1 e a b (by omega)) (fun e a b c => by rw [e7 562 (by decide) (by decide) (by decide) (by decide) (by decide) (by decide)]; exact w2 e a b (by omega)) (fun y a b => by rw [e7 546 (by decide) (by decide) (by decide) (by decide) (by decide) (by decide)]; exact w3 _ (by omega) (by omega)) (fun V8 f8 g8 o8 sd8 b8 d8 a8 n8 => ⟨bn, fun V9 e9 => next V9 ⟨⟨⟨by omega, by omega⟩, by rw [e9, ax_u_ne (by decide), f8 528 (by decide), e7 528 (by decide) (by decide) (by decide) (by decide) (by decide) (by decide)]; exact L0⟩, ?_⟩⟩)
      -- all together
      have k9 : ∀ c, c ≠ 511 → V9 c = V8 c := fun c z => by rw [e9, ax_u_ne z]
      have x9 : g_fr g_XP C0 V9 := by rw [e9]; exact (x7.tr (f8.up (by decide))).u (by decide)
      have p8 : 0 ≤ V8 602 5 := by have := sd8.1; omega
      have g9 : ax_g V9 := by rw [e9]; exact ax_u_g g8 ⟨by omega, by have := g_bs0_b hS (n := n + 1) (by omega) (by omega); omega⟩
      have s9 : V9 511 (n + 1) = V8 602 5 := by rw [e9, ax_u_s]
      have s9o : ∀ k, k ≠ n + 1 → V9 511 k = V2 511 k := fun k z => by rw [e9, ax_u_k z, f8 511 (by decide), f7 511 (by decide), f6 511 (by decide), f5 511 (by decide)]
      have v531 : V9 531 = V5 531 := by rw [k9 531 (by decide), f8 531 (by decide), f7 531 (by decide), f6 531 (by decide)]
      have v540 : V9 540 = V5 540 := by rw [k9 540 (by decide), f8 540 (by decide), f7 540 (by decide), f6 540 (by decide)]
      have v560 : V9 560 = V5 560 := by rw [k9 560 (by decide), f8 560 (by decide), f7 560 (by decide), f6 560 (by decide)]
      have v565 : V9 565 = V5 565 := by rw [k9 565 (by decide), f8 565 (by decide), f7 565 (by decide), f6 565 (by decide)]
      have v566 : V9 566 = V5 566 := by rw [k9 566 (by decide), f8 566 (by decide), f7 566 (by decide), f6 566 (by decide)]
      have v515 : V9 515 = V6 515 := by rw [k9 515 (by decide), f8 515 (by decide), f7 515 (by decide)]
      have v529 : V9 529 = V7 529 := by rw [k9 529 (by decide), f8 529 (by decide)]
      have v514 : V9 514 = V2 514 := by rw [k9 514 (by decide), f8 514 (by decide), f7 514 (by decide), f6 514 (by decide), f5 514 (by decide)]
      have v513 : V9 513 = V2 513 := by rw [k9 513 (by decide), f8 513 (by decide), f7 513 (by decide), f6 513 (by decide), f5 513 (by decide)]
      refine ⟨⟨x9, g9⟩, ?_, fun m a b => ?_, ?_, fun _ => ?_, fun m a b c c' => ?_, ?_⟩
      · unfold g_NM
        rw [k9 561 (by decide), k9 552 (by decide), f8 561 (by decide), f8 552 (by decide)]
        exact nm7
      · rw [v514, v513]; exact ⟨u2 m a b, j2 m a b⟩
      · rw [k9 602 (by decide)]; exact ⟨p8, b8⟩
      · rw [s9, k9 602 (by decide)]
      · by_cases en : m = n
        · rw [en]
          refine ⟨by rw [s9, k9 602 (by decide)]; exact Int.le_refl _, fun q x y => by rw [v531]; exact c1 q x y, fun a x y => by rw [v560]; exact c3 a x y, fun l x y => by rw [v540]; exact c5 l x y, fun s x y z => ?_, by rw [v515]; exact m6, fun q hq => by rw [v529]; exact k7 q hq, ?_⟩
          · have u := c7 s x y z
            unfold g_LF at *
            rw [v565, v566]; exact u
          · rw [s9, s9o n (by omega), s2n, k9 512 (by decide)]
            exact sd8
        · have mn : m < n := by omega
          have L7m := (L7 m a mn c c').2
          have le := (L7 m a mn c c').1
          refine ⟨?_, ?_⟩
          · rw [s9o (m + 1) (by omega), s2m (m + 1) (by omega), k9 602 (by decide)]
            have := sd8.1
            omega
          refine L7m.keep (n := n) (W := V9) hUJ hS ok a mn (by omega) c (fun q x y z => ?_) (fun q x y z => ?_) (fun s z => ?_) (fun s x y z => ?_) (fun i z => ?_) (fun q hq => ?_) ⟨?_, ?_⟩ (fun k x y => ?_)
          · rw [v531, c2 q x y z, k2 531 (by decide) (by decide) (by decide)]
          · rw [v560, c4 q x y z, k2 560 (by decide) (by decide) (by decide)]
          · rw [v540, c6 s z, k2 540 (by decide) (by decide) (by decide)]
          · have := c8 s x y z
            rw [v565, v566, this.1, this.2, k2 565 (by decide) (by decide) (by decide), k2 566 (by decide) (by decide) (by decide)]
            exact ⟨rfl, rfl⟩
          · rw [v515, o6 i z, f5 515 (by decide), k2 515 (by decide) (by decide) (by decide)]
          · obtain ⟨e, e0, eN, ea, eb⟩ := hq
            have fx := (hS.2.2.2.2.1.2.1 e e0.1 e0.2).2.2.2.2.2.1
            have fx1 := fx.1
            have qn := (fx.2.2 q ea eb).1.1
            rw [v529, o7 q (fun z => by
              have := (hS.pN (q := q) (by omega) (by omega) hn.1 w).mp z
              omega), e6 529 (by decide) (by decide) (by decide) (by decide) (by decide)]
          · rw [s9o m (by omega), s2o m en]
          · rw [s9o (m + 1) (by omega), s2m (m + 1) (by omega)]
          · rw [k9 512 (by decide), o8 k (by omega), e7 512 (by decide) (by decide) (by decide) (by decide) (by decide) (by decide)]
      · refine ⟨fun e a b c => ?_, fun e a b c => ?_, fun x a b => ?_, fun s a b c => ?_, fun q a b c => ?_⟩
        · rw [k9 553 (by decide), d8 e a b (by omega), e7 553 (by decide) (by decide) (by decide) (by decide) (by decide) (by decide)]; exact w1 e a b (by omega)
        · rw [k9 562 (by decide), a8 e a b (by omega), e7 562 (by decide) (by decide) (by decide) (by decide) (by decide) (by decide)]; exact w2 e a b (by omega)
        · rw [k9 546 (by decide), n8 x (by omega), e7 546 (by decide) (by decide) (by decide) (by decide) (by decide) (by decide)]; exact w3 x (by omega) b
        · have := c8 s a b (by omega)
          rw [v565, v566, this.1, this.2, k2 565 (by decide) (by decide) (by decide), k2 566 (by decide) (by decide) (by decide)]
          exact w4 s a b (by omega)
        · rw [v529, o7 q (fun z => by
            have := (hS.pN a b hn.1 w).mp z
            omega), e6 529 (by decide) (by decide) (by decide) (by decide) (by decide)]
          exact w5 q a b (by omega)
    · -- too large
      rw [j2 n hn.1 (by omega), u2 n hn.1 (by omega)] at no
      rw [q2] at e4
      have k4 : ∀ c, c ≠ 511 → c ≠ 513 → c ≠ 514 → V4 c = W c := fun c a b e => by rw [e4, ax_u_ne a, k2 c a b e]
      have s4o : ∀ k, k ≠ n + 1 → V4 511 k = V2 511 k := fun k z => by rw [e4, ax_u_k z]
      obtain ⟨w1, w2, w3, w4, w5⟩ := L8
      refine ⟨⟨by rw [e4]; exact x2.u (by decide), by rw [e4]; exact ax_u_g g2 ⟨by omega, by omega⟩⟩, ?_, fun m a b => ?_, ?_, fun _ => ?_, fun m a b c c' => ?_, ?_⟩
      · unfold g_NM
        rw [k4 561 (by decide) (by decide) (by decide), k4 552 (by decide) (by decide) (by decide)]
        exact L3
      · rw [e4, ax_u_ne (by decide), ax_u_ne (by decide)]; exact ⟨u2 m a b, j2 m a b⟩
      · rw [k4 602 (by decide) (by decide) (by decide)]; exact ⟨L5.1, by omega⟩
      · rw [e4, ax_u_s, ax_u_ne (by decide), q2]
      · have mn : m < n := by
          by_cases en : m = n
          · rw [en] at c c'; exact absurd ⟨c', c⟩ no
          · omega
        refine ⟨?_, (L7 m a mn c c').2.keep (n := n) (W := V4) hUJ hS ok a mn (by omega) c (fun q x y z => by rw [k4 531 (by decide) (by decide) (by decide)]) (fun q x y z => by rw [k4 560 (by decide) (by decide) (by decide)]) (fun s z => by rw [k4 540 (by decide) (by decide) (by decide)]) (fun s x y z => by rw [k4 565 (by decide) (by decide) (by decide), k4 566 (by decide) (by decide) (by decide)]; exact ⟨rfl, rfl⟩) (fun i z => by rw [k4 515 (by decide) (by decide) (by decide)]) (fun q hq => by rw [k4 529 (by decide) (by decide) (by decide)]) ⟨by rw [s4o m (by omega), s2o m (by omega)], by rw [s4o (m + 1) (by omega), s2m (m + 1) (by omega)]⟩ (fun k x y => by rw [k4 512 (by decide) (by decide) (by decide)])⟩
        rw [s4o (m + 1) (by omega), s2m (m + 1) (by omega), k4 602 (by decide) (by decide) (by decide)]
        exact (L7 m a mn c c').1
      · refine ⟨fun e a b c => by rw [k4 553 (by decide) (by decide) (by decide)]; exact w1 e a b (by omega), fun e a b c => by rw [k4 562 (by decide) (by decide) (by decide)]; exact w2 e a b (by omega), fun x a b => by rw [k4 546 (by decide) (by decide) (by decide)]; exact w3 x (by omega) b, fun s a b c => by rw [k4 565 (by decide) (by decide) (by decide), k4 566 (by decide) (by decide) (by decide)]; exact w4 s a b (by omega), fun q a b c => by rw [k4 529 (by decide) (by decide) (by decide)]; exact w5 q a b (by omega)⟩
  · obtain ⟨⟨hn, h0⟩, hW⟩ := hI
    have en : n = (M0 222 86) := by omega
    refine r_Planner_plan_2 hW.1.2 ⟨by omega, by omega⟩ ?_
    rw [hW.1.1 500 (by decide), hN.2.2.2]
    refine ⟨fun _ => h W ?_ h0, fun z => by omega⟩
    rw [← en]
    exact hW
end Plan2
