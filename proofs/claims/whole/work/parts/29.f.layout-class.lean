/-! WHERE THE CLASS REMEMBERS WHAT -/
/-- cells of the first parts of a node, and of its states -/
def g_LP (C0 M0 : ax_V) (U : Int → Int) (W : ax_V) (n : Int) (k : Nat) : Prop := (∀ q : Nat, q < k → M0 250 (q : Int) = n → W 531 (q : Int) = g_cp C0 M0 U n q)
/-- the parts of a state that remember something -/
def g_Qs (C0 M0 : ax_V) (U : Int → Int) (n s : Int) (k q : Nat) : Prop := q < k ∧ M0 250 (q : Int) = n ∧ C0 525 (q : Int) = s ∧ 0 < g_vl C0 M0 U (q : Int)
def g_LS (C0 M0 : ax_V) (U : Int → Int) (W : ax_V) (n s : Int) (k : Nat) : Prop :=
  (∀ q, g_Qs C0 M0 U n s k q → W 565 s ≤ g_cp C0 M0 U n q ∧ g_cp C0 M0 U n q + g_vl C0 M0 U (q : Int) ≤ W 566 s) ∧
  (∀ i, W 565 s ≤ i → i < W 566 s → ∃ q, g_Qs C0 M0 U n s k q ∧ g_cp C0 M0 U n q ≤ i ∧ i < g_cp C0 M0 U n q + g_vl C0 M0 U (q : Int)) ∧
  (0 ≤ W 565 s ∧ W 565 s ≤ W 566 s ∧ W 566 s ≤ g_cp C0 M0 U n k) ∧ ((∀ q, ¬ g_Qs C0 M0 U n s k q) → W 565 s = W 566 s) ∧ ((∃ q, g_Qs C0 M0 U n s k q) → W 565 s < W 566 s ∧ ∃ z : Nat, z ≤ k ∧ W 566 s = g_cp C0 M0 U n z ∧ (∀ q, g_Qs C0 M0 U n s k q → q < z) ∧ (z = k ∨ ¬ C0 525 (z : Int) = s))
def g_LF (C0 M0 : ax_V) (U : Int → Int) (W : ax_V) (n s : Int) : Prop :=
  (∀ q, g_Qs C0 M0 U n s ((M0 222 26)).toNat q → W 565 s ≤ g_cp C0 M0 U n q ∧ g_cp C0 M0 U n q + g_vl C0 M0 U (q : Int) ≤ W 566 s) ∧
  (∀ i, W 565 s ≤ i → i < W 566 s → ∃ q, g_Qs C0 M0 U n s ((M0 222 26)).toNat q ∧ g_cp C0 M0 U n q ≤ i ∧ i < g_cp C0 M0 U n q + g_vl C0 M0 U (q : Int)) ∧ 0 ≤ W 565 s ∧ W 565 s ≤ W 566 s ∧ W 566 s ≤ g_cp C0 M0 U n ((M0 222 26)).toNat
section LayOut
variable {B r d : Nat} {C0 M0 V : ax_V} {U J : Int → Int} {n : Int} {Φ : Int → ax_V → Prop} {Ψ Θ : ax_V → Prop}
theorem g_LS.same {W W' : ax_V} {s : Int} {k : Nat} (h : g_LS C0 M0 U W n s k) (e5 : W' 565 s = W 565 s) (e6 : W' 566 s = W 566 s) (no : ¬ g_Qs C0 M0 U n s (k + 1) k) (nc : ¬ C0 525 (k : Int) = s ∨ g_cp C0 M0 U n (k + 1) = g_cp C0 M0 U n k) (mono : g_cp C0 M0 U n k ≤ g_cp C0 M0 U n (k + 1)) (ctg : ∀ q z : Nat, g_Qs C0 M0 U n s k q → q ≤ z → z ≤ k → C0 525 (k : Int) = s → C0 525 (z : Int) = s) : g_LS C0 M0 U W' n s (k + 1) := by
  have qe : ∀ q, g_Qs C0 M0 U n s (k + 1) q ↔ g_Qs C0 M0 U n s k q := fun q => ⟨fun z => by
    by_cases e : q = k
    · rw [e] at z; exact absurd z no
    · exact ⟨by have := z.1; omega, z.2⟩, fun z => ⟨by have := z.1; omega, z.2⟩⟩
  obtain ⟨h1, h2, h3, h4, h5⟩ := h
  unfold g_LS
  rw [e5, e6]
  refine ⟨fun q a => h1 q ((qe q).mp a), fun i a b => ?_, ⟨h3.1, h3.2.1, by omega⟩, fun a => h4 (fun q z => a q ((qe q).mpr z)), fun a => ?_⟩
  · obtain ⟨q, c, e⟩ := h2 i a b
    exact ⟨q, (qe q).mpr c, e⟩
  · obtain ⟨q, c⟩ := a
    have c' := (qe q).mp c
    obtain ⟨h5a, z, z1, z2, z3, z4⟩ := h5 ⟨q, c'⟩
    refine ⟨h5a, ?_⟩
    by_cases st : C0 525 (k : Int) = s
    · have zk : z = k := by
        rcases z4 with y | y
        · exact y
        · exact absurd (ctg q z c' (by have := z3 q c'; omega) z1 st) y
      refine ⟨k + 1, by omega, ?_, fun q a => by have := ((qe q).mp a).1; omega, Or.inl rfl⟩
      rcases nc with y | y
      · exact absurd st y
      · rw [y, ← zk]; exact z2
    · refine ⟨z, by omega, z2, fun q a => z3 q ((qe q).mp a), Or.inr ?_⟩
      rcases z4 with y | y
      · rw [y]; exact st
      · exact y
set_option maxHeartbeats 8000000 in
theorem t_layOut (hS : g_S C0 M0) (ok : g_N2 M0) (hUJ : g_UJ C0 M0 U J) (hf : g_fr g_XP C0 V) (hg : ax_g V) (n0 : 0 ≤ n) (n1 : n < (M0 222 86)) (hU : ∀ m, 0 ≤ m → m < n → V 514 m = U m) (h3 : g_T C0 M0 U n ≤ 300) (h65 : ∀ s, 0 ≤ s → s < (C0 556 1) → M0 267 (C0 563 s) = n → V 565 s = 0 ∧ V 566 s = 0)
    (h : ∀ W, g_fr [531, 540, 560, 565, 566] V W → ax_g W → (∀ q : Nat, q < ((M0 222 26)).toNat → M0 250 (q : Int) = n → W 531 (q : Int) = g_cp C0 M0 U n q) → (∀ q, 0 ≤ q → q < (M0 222 26) → ¬ M0 250 q = n → W 531 q = V 531 q) → (∀ a : Nat, a < ((M0 222 55)).toNat → M0 267 (a : Int) = n → W 560 (a : Int) = g_cp C0 M0 U n ((M0 222 26)).toNat + g_ca M0 n a) → (∀ a, 0 ≤ a → a < (M0 222 55) → ¬ M0 267 a = n → W 560 a = V 560 a) → (∀ l : Nat, l < 26 → ¬ M0 236 (26 * n + (l : Int)) = 0 → W 540 (26 * n + (l : Int)) = g_cp C0 M0 U n ((M0 222 26)).toNat + g_ca M0 n ((M0 222 55)).toNat + g_ll M0 n l) → (∀ s, ¬ (26 * n ≤ s ∧ s < 26 * n + 26) → W 540 s = V 540 s) → (∀ s, 0 ≤ s → s < (C0 556 1) → M0 267 (C0 563 s) = n → g_LF C0 M0 U W n s) → (∀ s, 0 ≤ s → s < (C0 556 1) → ¬ M0 267 (C0 563 s) = n → W 565 s = V 565 s ∧ W 566 s = V 566 s) → Ψ W) : ax_N (az_W B (az_EL B r)) (d + 3) q_Planner_layOut [.ref r, ax_i n] V Ψ Θ := by
  have hat := hS.2.2.2.2.2.2.2
  have hN := hS.2.1
  have p0 := hS.2.2.1.1
  have hB := hS.2.2.2.2.1
  have hct := hB.1
  have hc3 := hct.2.2.1
  have hc4 := hct.2.2.2.1
  have E0 := hS.eqF n0 (by omega)
  have E1 := hS.eqF (n := n + 1) (by omega) (by omega)
  have E2 := hS.eqS n0 n1
  have rn : ax_rg n := ⟨by omega, by omega⟩
  have bn : 0 ≤ n + 1 ∧ n + 1 < 9 := ⟨by omega, by omega⟩
  have bU : ∀ m, 0 ≤ U m ∧ U m ≤ 1000000 := fun m => (hUJ.1 m).1
  have L := g_ll_b M0 n 26
  have A := g_ca_b M0 n ((M0 222 55)).toNat
  have cpE := (hS.cp_hi (U := U) (J := J) n0 n1 ((M0 222 26)).toNat (by omega) (by omega)).1
  have cpL := (hS.cp_lo (U := U) (J := J) n0 n1 (C0 508 n).toNat (by omega)).1
  have cp3 : ∀ k : Nat, k ≤ ((M0 222 26)).toNat → 0 ≤ g_cp C0 M0 U n k ∧ g_cp C0 M0 U n k ≤ 300 := fun k hk => by
    have a := g_cp_0 (C0 := C0) (M0 := M0) (n := n) bU k
    have b := g_cp_m (C0 := C0) (M0 := M0) (n := n) bU hk
    unfold g_T at h3
    omega
  obtain ⟨PP, ePP⟩ : ∃ x : Int, x = g_cp C0 M0 U n ((M0 222 26)).toNat := ⟨_, rfl⟩
  obtain ⟨AA, eAA⟩ : ∃ x : Int, x = g_ca M0 n ((M0 222 55)).toNat := ⟨_, rfl⟩
  have hT : g_ll M0 n 26 + AA + PP ≤ 300 := by rw [eAA, ePP]; exact h3
  have PP0 := cp3 ((M0 222 26)).toNat (Nat.le_refl _)
  have stq : ∀ q, 0 ≤ q → q < (M0 222 26) → M0 250 q = n → ¬ C0 525 q = -1 → (0 ≤ C0 525 q ∧ C0 525 q < 350 ∧ C0 525 q < (C0 556 1)) ∧ M0 267 (C0 563 (C0 525 q)) = n := fun q a b qn z => by
    have key : ∀ s au t : Int, f_st C0 M0 s au t n → ¬ s = -1 → (0 ≤ s ∧ s < 350 ∧ s < (C0 556 1)) ∧ M0 267 (C0 563 s) = n := fun s au t hs z => by
      rcases hs with y | ⟨y1, y2, y3, y4, y5, y6, y7⟩
      · exact absurd y.1 z
      · have fa := hB.2.2.1 au y1 (by omega)
        have f3 := fa.2.2.1
        have f5 := fa.2.2.2.2.2 s (by omega) y5
        refine ⟨⟨by omega, by omega, by omega⟩, ?_⟩
        rw [f5.1]; exact y7
    rcases hB.2.2.2.2.2.1.1 q a b with ⟨e, e0, e1, e2, e3⟩ | ⟨m, e0, e1, e2, e3⟩
    · have fe := hB.2.1 e e0 e1
      have fx := fe.2.2.2.2.2.1.2.2 q e2 e3
      rw [fx.1.2.1] at z ⊢
      refine key (C0 551 e) (M0 263 e) (M0 264 e) ?_ z
      rw [← qn, fx.1.1]; exact fe.2.2.2.2.1
    · have ft := hB.2.2.2.2.1 m e0 e1
      have fx := ft.2.2.2.2.2.2.2.2.2 q e2 e3
      rw [fx.1.2.1] at z ⊢
      refine key (C0 567 m) (M0 271 m) (M0 272 m) ?_ z
      rw [← qn, fx.1.1]; exact ft.1.2
  have ctg : ∀ (s : Int) (k q z : Nat), 0 ≤ s → (k : Int) < (M0 222 26) → C0 525 (q : Int) = s → q ≤ z → z ≤ k → C0 525 (k : Int) = s → C0 525 (z : Int) = s := fun s k q z s0 kp a b c e => by
    have := hB.2.2.2.2.2.1.2.1 (q : Int) (z : Int) (k : Int) (by omega) (by omega) (by omega) kp (by omega) (by omega)
    omega
  -- letters
  have lets : ∀ W, g_fr [531, 540, 560, 565, 566] V W → ax_g W → W 540 = V 540 → (∀ W', g_fr [540] W W' → ax_g W' → (∀ l : Nat, l < 26 → ¬ M0 236 (26 * n + (l : Int)) = 0 → W' 540 (26 * n + (l : Int)) = PP + AA + g_ll M0 n l) → (∀ s, ¬ (26 * n ≤ s ∧ s < 26 * n + 26) → W' 540 s = V 540 s) → Ψ W') → ∀ y4 y5, ax_y y4 → ax_y y5 → k_Planner_layOut_174 B r (d + 2) n (PP + AA) (n * 26) y4 y5 W Ψ Θ := by
    intro W fW gW e40 fin y4 y5 hy4 hy5
    have main : ∀ s X, ((26 * n ≤ s ∧ s ≤ 26 * n + 26) ∧ g_fr [540] W X ∧ ax_g X ∧ (∀ l : Nat, 26 * n + (l : Int) < s → ¬ M0 236 (26 * n + (l : Int)) = 0 → X 540 (26 * n + (l : Int)) = PP + AA + g_ll M0 n l) ∧ (∀ s, ¬ (26 * n ≤ s ∧ s < 26 * n + 26) → X 540 s = V 540 s)) → k_Planner_layOut_174 B r (d + 2) n (PP + AA + g_ll M0 n (s - 26 * n).toNat) s y4 y5 X Ψ Θ := by
      refine ax_for (I := fun s X => (26 * n ≤ s ∧ s ≤ 26 * n + 26) ∧ g_fr [540] W X ∧ ax_g X ∧ (∀ l : Nat, 26 * n + (l : Int) < s → ¬ M0 236 (26 * n + (l : Int)) = 0 → X 540 (26 * n + (l : Int)) = PP + AA + g_ll M0 n l) ∧ (∀ s, ¬ (26 * n ≤ s ∧ s < 26 * n + 26) → X 540 s = V 540 s)) (K := fun s X => k_Planner_layOut_174 B r (d + 2) n (PP + AA + g_ll M0 n (s - 26 * n).toNat) s y4 y5 X Ψ Θ) (hi := 26 * n + 26) (fun s X w hI next => ?_) (fun s X w hI => ?_)
      · obtain ⟨hs, f1, g1, k1, o1⟩ := hI
        obtain ⟨k, ek⟩ : ∃ k : Nat, s = 26 * n + (k : Int) := ⟨(s - 26 * n).toNat, by omega⟩
        have t1 : (s - 26 * n).toNat = k := by omega
        have t2 : (s + 1 - 26 * n).toNat = k + 1 := by omega
        have ls := (hS.l n0 n1 (l := (k : Int)) (by omega) (by omega)).2.2.2.2.1.1
        have gb := g_ll_b M0 n k
        have gm := g_ll_m M0 n (show k ≤ 26 by omega)
        rw [t1]
        refine r_Planner_layOut_174 g1 rn ⟨by omega, by omega⟩ ⟨by omega, by omega⟩ hy4 hy5 ⟨⟨by omega, by omega⟩, fun z => by omega, fun _ => ⟨⟨by omega, by omega⟩, ?_⟩⟩
        rw [f1 538 (by decide), fW 538 (by decide), hf 538 (by decide), ek, ls]
        refine ⟨fun z => ?_, fun z => ⟨⟨by omega, by omega⟩, fun V1 e1 => ?_⟩⟩
        · have k2 : ∀ l : Nat, 26 * n + (l : Int) < s + 1 → ¬ M0 236 (26 * n + (l : Int)) = 0 → X 540 (26 * n + (l : Int)) = PP + AA + g_ll M0 n l := fun l a b => by
            by_cases y : l = k
            · rw [y] at b; exact absurd z b
            · exact k1 l (by omega) b
          have nx := next X ⟨⟨by omega, by omega⟩, f1, g1, k2, o1⟩
          rw [t2, ek, g_ll_n z] at nx
          exact nx
        · have k2 : ∀ l : Nat, 26 * n + (l : Int) < s + 1 → ¬ M0 236 (26 * n + (l : Int)) = 0 → V1 540 (26 * n + (l : Int)) = PP + AA + g_ll M0 n l := fun l a b => by
            by_cases y : l = k
            · rw [y, e1, ax_u_s]
            · rw [e1, ax_u_k (by omega)]; exact k1 l (by omega) b
          have o2 : ∀ x, ¬ (26 * n ≤ x ∧ x < 26 * n + 26) → V1 540 x = V 540 x := fun x y => by
            rw [e1, ax_u_k (by omega)]; exact o1 x y
          have nx := next V1 ⟨⟨by omega, by omega⟩, by rw [e1]; exact f1.u (by decide), by rw [e1]; exact ax_u_g g1 ⟨by omega, by omega⟩, k2, o2⟩
          rw [t2, ek, g_ll_s z, ← Int.add_assoc] at nx
          exact nx
      · obtain ⟨hs, f1, g1, k1, o1⟩ := hI
        have es : s = 26 * n + 26 := by omega
        have t1 : (s - 26 * n).toNat = 26 := by omega
        rw [t1]
        exact r_Planner_layOut_174 g1 rn ⟨by omega, by omega⟩ ⟨by omega, by omega⟩ hy4 hy5 ⟨⟨by omega, by omega⟩, fun _ => fin X f1 g1 (fun l a b => k1 l (by omega) b) o1, fun z => by omega⟩
    have z := main (n * 26) W ⟨⟨by omega, by omega⟩, g_fr.rf _ _, gW, fun l a b => by omega, fun s _ => by rw [e40]⟩
    have t : (n * 26 - 26 * n).toNat = 0 := by omega
    rw [t] at z
    have e : PP + AA + g_ll M0 n 0 = PP + AA := Int.add_zero _
    rw [e] at z
    exact z
  -- automata
  have auts : ∀ W, g_fr [531, 540, 560, 565, 566] V W → ax_g W → W 540 = V 540 → W 560 = V 560 → (∀ W', g_fr [540, 560] W W' → ax_g W' → (∀ a : Nat, a < ((M0 222 55)).toNat → M0 267 (a : Int) = n → W' 560 (a : Int) = PP + g_ca M0 n a) → (∀ a, 0 ≤ a → a < (M0 222 55) → ¬ M0 267 a = n → W' 560 a = V 560 a) → (∀ l : Nat, l < 26 → ¬ M0 236 (26 * n + (l : Int)) = 0 → W' 540 (26 * n + (l : Int)) = PP + AA + g_ll M0 n l) → (∀ s, ¬ (26 * n ≤ s ∧ s < 26 * n + 26) → W' 540 s = V 540 s) → Ψ W') → ∀ y4 y5, ax_y y4 → ax_y y5 → k_Planner_layOut_135 B r (d + 2) n PP (C0 510 n) y4 y5 W Ψ Θ := by
    intro W fW gW e40 e60 fin y4 y5 hy4 hy5
    have caE : AA = C0 510 (n + 1) - C0 510 n := by
      rw [eAA, hS.ca_at n0 n1 _ (by omega)]
      by_cases a : ((((M0 222 55)).toNat : Nat) : Int) ≤ C0 510 n
      · rw [if_pos a]; omega
      · rw [if_neg a]
        by_cases b : ((((M0 222 55)).toNat : Nat) : Int) ≤ C0 510 (n + 1)
        · rw [if_pos b]; omega
        · rw [if_neg b]
    have caA : ∀ a : Nat, a < ((M0 222 55)).toNat → M0 267 (a : Int) = n → g_ca M0 n a = (a : Int) - C0 510 n := fun a x y => by
      have := (hS.aN (a := (a : Int)) (by omega) (by omega) n0 n1).mpr y
      rw [hS.ca_at n0 n1 _ (by omega)]
      by_cases z : (a : Int) ≤ C0 510 n
      · rw [if_pos z]; omega
      · rw [if_neg z, if_pos (by omega)]
    have main : ∀ a X, ((C0 510 n ≤ a ∧ a ≤ C0 510 (n + 1)) ∧ g_fr [560] W X ∧ ax_g X ∧ (∀ x : Nat, C0 510 n ≤ (x : Int) → (x : Int) < a → X 560 (x : Int) = PP + ((x : Int) - C0 510 n)) ∧ (∀ x, ¬ (C0 510 n ≤ x ∧ x < C0 510 (n + 1)) → X 560 x = V 560 x)) → k_Planner_layOut_135 B r (d + 2) n (PP + (a - C0 510 n)) a y4 y5 X Ψ Θ := by
      refine ax_for (I := fun a X => (C0 510 n ≤ a ∧ a ≤ C0 510 (n + 1)) ∧ g_fr [560] W X ∧ ax_g X ∧ (∀ x : Nat, C0 510 n ≤ (x : Int) → (x : Int) < a → X 560 (x : Int) = PP + ((x : Int) - C0 510 n)) ∧ (∀ x, ¬ (C0 510 n ≤ x ∧ x < C0 510 (n + 1)) → X 560 x = V 560 x)) (K := fun a X => k_Planner_layOut_135 B r (d + 2) n (PP + (a - C0 510 n)) a y4 y5 X Ψ Θ) (hi := C0 510 (n + 1)) (fun a X w hI next => ?_) (fun a X w hI => ?_)
      · obtain ⟨ha, f1, g1, k1, o1⟩ := hI
        refine r_Planner_layOut_135 g1 rn ⟨by omega, by omega⟩ ⟨by omega, by omega⟩ hy4 hy5 ⟨bn, ?_⟩
        rw [f1 510 (by decide), fW 510 (by decide), hf 510 (by decide)]
        refine ⟨fun z => by omega, fun _ => ⟨⟨by omega, by omega⟩, fun V1 e1 => ?_⟩⟩
        have k2 : ∀ x : Nat, C0 510 n ≤ (x : Int) → (x : Int) < a + 1 → V1 560 (x : Int) = PP + ((x : Int) - C0 510 n) := fun x b c => by
          by_cases y : (x : Int) = a
          · rw [y, e1, ax_u_s]
          · rw [e1, ax_u_k y]; exact k1 x b (by omega)
        have o2 : ∀ x, ¬ (C0 510 n ≤ x ∧ x < C0 510 (n + 1)) → V1 560 x = V 560 x := fun x b => by
          rw [e1, ax_u_k (by omega)]; exact o1 x b
        have nx := next V1 ⟨⟨by omega, by omega⟩, by rw [e1]; exact f1.u (by decide), by rw [e1]; exact ax_u_g g1 ⟨by omega, by omega⟩, k2, o2⟩
        rw [show PP + (a + 1 - C0 510 n) = PP + (a - C0 510 n) + 1 by omega] at nx
        exact nx
      · obtain ⟨ha, f1, g1, k1, o1⟩ := hI
        have ea : a = C0 510 (n + 1) := by omega
        refine r_Planner_layOut_135 g1 rn ⟨by omega, by omega⟩ ⟨by omega, by omega⟩ hy4 hy5 ⟨bn, ?_⟩
        rw [f1 510 (by decide), fW 510 (by decide), hf 510 (by decide), show PP + (a - C0 510 n) = PP + AA by omega]
        refine ⟨fun _ => lets X (fW.tr (f1.up (by decide))) g1 (by rw [f1 540 (by decide)]; exact e40) (fun W' f2 g2 k2 o2 => fin W' ((f1.up (by decide)).tr (f2.up (by decide))) g2 (fun x b c => ?_) (fun x b c e => ?_) k2 o2) _ _ hy4 hy5, fun z => by omega⟩
        · have := (hS.aN (a := (x : Int)) (by omega) (by omega) n0 n1).mpr c
          rw [f2 560 (by decide), k1 x this.1 (by omega), caA x b c]
        · rw [f2 560 (by decide)]
          exact o1 x (fun y => e ((hS.aN b c n0 n1).mp y))
    have z := main (C0 510 n) W ⟨⟨by omega, by omega⟩, g_fr.rf _ _, gW, fun x b c => by omega, fun x _ => by rw [e60]⟩
    rw [show PP + (C0 510 n - C0 510 n) = PP by omega] at z
    exact z
  -- parts
  refine r_Planner_layOut hg rn ⟨⟨n0, by omega⟩, ?_⟩
  rw [hf 508 (by decide)]
  have main : ∀ q X, ((C0 508 n ≤ q ∧ q ≤ C0 508 (n + 1)) ∧ g_fr [531, 565, 566] V X ∧ ax_g X ∧ (∀ x : Nat, (x : Int) < q → M0 250 (x : Int) = n → X 531 (x : Int) = g_cp C0 M0 U n x) ∧ (∀ x, 0 ≤ x → x < (M0 222 26) → ¬ M0 250 x = n → X 531 x = V 531 x) ∧ (∀ s, 0 ≤ s → s < (C0 556 1) → M0 267 (C0 563 s) = n → g_LS C0 M0 U X n s q.toNat) ∧ (∀ s, 0 ≤ s → s < (C0 556 1) → ¬ M0 267 (C0 563 s) = n → X 565 s = V 565 s ∧ X 566 s = V 566 s)) → ∀ y4 y5, ax_y y4 → ax_y y5 → k_Planner_layOut_12 B r (d + 2) n (g_cp C0 M0 U n q.toNat) q y4 y5 X Ψ Θ := by
    refine ax_for (I := fun q X => (C0 508 n ≤ q ∧ q ≤ C0 508 (n + 1)) ∧ g_fr [531, 565, 566] V X ∧ ax_g X ∧ (∀ x : Nat, (x : Int) < q → M0 250 (x : Int) = n → X 531 (x : Int) = g_cp C0 M0 U n x) ∧ (∀ x, 0 ≤ x → x < (M0 222 26) → ¬ M0 250 x = n → X 531 x = V 531 x) ∧ (∀ s, 0 ≤ s → s < (C0 556 1) → M0 267 (C0 563 s) = n → g_LS C0 M0 U X n s q.toNat) ∧ (∀ s, 0 ≤ s → s < (C0 556 1) → ¬ M0 267 (C0 563 s) = n → X 565 s = V 565 s ∧ X 566 s = V 566 s)) (K := fun q X => ∀ y4 y5, ax_y y4 → ax_y y5 → k_Planner_layOut_12 B r (d + 2) n (g_cp C0 M0 U n q.toNat) q y4 y5 X Ψ Θ) (hi := C0 508 (n + 1)) (fun q X w hI next y4 y5 hy4 hy5 => ?_) (fun q X w hI y4 y5 hy4 hy5 => ?_)
    · obtain ⟨hq, f1, g1, k1, o1, k2, o2⟩ := hI
      obtain ⟨k, ek⟩ : ∃ k : Nat, q = (k : Int) := ⟨q.toNat, by omega⟩
      have t1 : q.toNat = k := by omega
      have t2 : (q + 1).toNat = k + 1 := by omega
      have q1 : q < (M0 222 26) := by omega
      have qn := (hS.pN (by omega : 0 ≤ q) q1 n0 n1).mp ⟨hq.1, w⟩
      have qk : M0 250 (k : Int) = n := by rw [← ek]; exact qn
      have e1 : g_cp C0 M0 U n (k + 1) = g_cp C0 M0 U n k + g_vl C0 M0 U q := by rw [ek]; exact g_cp_s qk
      have vb := g_vl_b (C0 := C0) (M0 := M0) bU q
      have c0 := cp3 k (by omega)
      have c1 := cp3 (k + 1) (by omega)
      have xf : g_fr g_XP C0 X := hf.tr (f1.up (by decide))
      have b7 : 0 ≤ q ∧ q < 700 := ⟨by omega, by omega⟩
      rw [t1] at k2
      rw [t1]
      refine r_Planner_layOut_12 g1 rn ⟨by omega, by omega⟩ ⟨by omega, by omega⟩ hy4 hy5 ⟨bn, ?_⟩
      rw [xf 508 (by decide)]
      refine ⟨fun z => by omega, fun _ => t_valuesOf (U := U) hS ok xf g1 (by omega) q1 qn (fun m a b => by rw [f1 514 (by decide)]; exact hU m a b) ⟨b7, b7, fun X2 e2 => ?_⟩⟩
      have cell : ∀ (X3 : ax_V), X3 531 = X2 531 → (∀ x : Nat, (x : Int) < q + 1 → M0 250 (x : Int) = n → X3 531 (x : Int) = g_cp C0 M0 U n x) ∧ (∀ x, 0 ≤ x → x < (M0 222 26) → ¬ M0 250 x = n → X3 531 x = V 531 x) := fun X3 e3 => by
        refine ⟨fun x a b => ?_, fun x a b c => ?_⟩
        · rw [e3, e2]
          by_cases y : (x : Int) = q
          · rw [y, ax_u_s, show x = k by omega]
          · rw [ax_u_k y]; exact k1 x (by omega) b
        · rw [e3, e2, ax_u_k (fun y => c (by rw [y]; exact qn))]; exact o1 x a b c
      have x65 : X2 565 = X 565 := by rw [e2, ax_u_ne (by decide)]
      have x66 : X2 566 = X 566 := by rw [e2, ax_u_ne (by decide)]
      have g2 : ax_g X2 := by rw [e2]; exact ax_u_g g1 ⟨by omega, by omega⟩
      have f2 : g_fr [531, 565, 566] V X2 := by rw [e2]; exact f1.u (by decide)
      have go : ∀ X3 : ax_V, g_fr [531, 565, 566] V X3 → ax_g X3 → X3 531 = X2 531 → (∀ s, 0 ≤ s → s < (C0 556 1) → M0 267 (C0 563 s) = n → g_LS C0 M0 U X3 n s (k + 1)) → (∀ s, 0 ≤ s → s < (C0 556 1) → ¬ M0 267 (C0 563 s) = n → X3 565 s = V 565 s ∧ X3 566 s = V 566 s) → ∀ y4 y5, ax_y y4 → ax_y y5 → k_Planner_layOut_12 B r (d + 2) n (g_cp C0 M0 U n k + g_vl C0 M0 U q) (q + 1) y4 y5 X3 Ψ Θ := fun X3 f3 g3 e3 ls os => by
        have := next X3 ⟨⟨by omega, by omega⟩, f3, g3, (cell X3 e3).1, (cell X3 e3).2, by rw [t2]; exact ls, os⟩
        rw [t2, e1] at this
        exact this
      have plain : (∀ s, 0 ≤ s → s < (C0 556 1) → M0 267 (C0 563 s) = n → (¬ g_Qs C0 M0 U n s (k + 1) k) ∧ (¬ C0 525 (k : Int) = s ∨ g_cp C0 M0 U n (k + 1) = g_cp C0 M0 U n k)) → ∀ y4 y5, ax_y y4 → ax_y y5 → k_Planner_layOut_12 B r (d + 2) n (g_cp C0 M0 U n k + g_vl C0 M0 U q) (q + 1) y4 y5 X2 Ψ Θ := fun z => go X2 f2 g2 rfl (fun s a b c => (k2 s a b c).same (by rw [x65]) (by rw [x66]) (z s a b c).1 (z s a b c).2 (by omega) (fun q' z' u v w' st => ctg s k q' z' a (by omega) u.2.2.1 v w' st)) (fun s a b c => by rw [x65, x66]; exact o2 s a b c)
      rw [xf 525 (by decide)]
      refine ⟨fun z => plain (fun s a b c => ⟨fun u => by have := u.2.2.1; rw [← ek] at this; omega, Or.inl (by rw [← ek]; omega)⟩) _ _ (ax_y_i _) (ax_y_i _), fun z => ⟨fun v0 => plain (fun s a b c => ⟨fun u => by have := u.2.2.2; rw [← ek] at this; omega, Or.inr (by omega)⟩) _ _ (ax_y_i _) (ax_y_i _), fun v0 => ?_⟩⟩
      obtain ⟨sb, sn⟩ := stq q (by omega) q1 qn z
      obtain ⟨s, es⟩ : ∃ s : Int, s = C0 525 q := ⟨_, rfl⟩
      rw [← es] at sb sn ⊢
      have bs : 0 ≤ s ∧ s < 350 := ⟨sb.1, sb.2.1⟩
      have hs := k2 s sb.1 sb.2.2 sn
      have stk : C0 525 (k : Int) = s := by rw [← ek]; exact es.symm
      have newQ : g_Qs C0 M0 U n s (k + 1) k := ⟨by omega, qk, stk, by rw [← ek]; exact v0⟩
      have qe : ∀ q', g_Qs C0 M0 U n s (k + 1) q' ↔ (g_Qs C0 M0 U n s k q' ∨ q' = k) := fun q' => ⟨fun u => by
        by_cases e : q' = k
        · exact Or.inr e
        · exact Or.inl ⟨by have := u.1; omega, u.2⟩, fun u => by rcases u with u | u; exact ⟨by have := u.1; omega, u.2⟩; rw [u]; exact newQ⟩
      have others : ∀ X3 : ax_V, (∀ x, x ≠ s → X3 565 x = X 565 x) → (∀ x, x ≠ s → X3 566 x = X 566 x) → g_LS C0 M0 U X3 n s (k + 1) → (∀ s, 0 ≤ s → s < (C0 556 1) → M0 267 (C0 563 s) = n → g_LS C0 M0 U X3 n s (k + 1)) ∧ (∀ s, 0 ≤ s → s < (C0 556 1) → ¬ M0 267 (C0 563 s) = n → X3 565 s = V 565 s ∧ X3 566 s = V 566 s) := fun X3 a5 a6 hls => by
        refine ⟨fun x a b c => ?_, fun x a b c => ?_⟩
        · by_cases e : x = s
          · rw [e]; exact hls
          · exact (k2 x a b c).same (a5 x e) (a6 x e) (fun u => e (by rw [← u.2.2.1]; exact stk)) (Or.inl (fun u => e (by rw [← u]; exact stk))) (by omega) (fun q' z' u v w' st => ctg x k q' z' a (by omega) u.2.2.1 v w' st)
        · have e : x ≠ s := fun y => c (by rw [y]; exact sn)
          rw [a5 x e, a6 x e]; exact o2 x a b c
      rw [x65, x66]
      have vk : g_vl C0 M0 U (k : Int) = g_vl C0 M0 U q := by rw [← ek]
      refine ⟨bs, bs, fun eq => ⟨bs, fun X4 e4 => ⟨bs, ⟨by omega, by omega⟩, fun X5 e5 => ?_⟩⟩, fun eq => ⟨bs, ⟨by omega, by omega⟩, fun X3 e3 => ?_⟩⟩
      · -- the first of its state
        have nq : ∀ q', ¬ g_Qs C0 M0 U n s k q' := fun q' u => by
          have := (hs.2.2.2.2 ⟨q', u⟩).1
          omega
        have d5 : X5 565 s = g_cp C0 M0 U n k := by rw [e5, ax_u_ne (by decide), e4, ax_u_s]
        have d6 : X5 566 s = g_cp C0 M0 U n k + g_vl C0 M0 U q := by rw [e5, ax_u_s]
        have ot := others X5 (fun x y => by rw [e5, ax_u_ne (by decide), e4, ax_u_k y, x65]) (fun x y => by rw [e5, ax_u_k y, e4, ax_u_ne (by decide), x66]) (by
          unfold g_LS
          rw [d5, d6]
          refine ⟨fun q' u => ?_, fun i a b => ⟨k, newQ, a, by rw [vk]; exact b⟩, ⟨by omega, by omega, by omega⟩, fun u => absurd newQ (u k), fun _ => ⟨by omega, k + 1, by omega, e1.symm, fun q' u => by have := u.1; omega, Or.inl rfl⟩⟩
          rcases (qe q').mp u with u | u
          · exact absurd u (nq q')
          · rw [u, vk]; exact ⟨Int.le_refl _, Int.le_refl _⟩)
        exact go X5 (by rw [e5, e4]; exact (f2.u (by decide)).u (by decide)) (by rw [e5, e4]; exact ax_u_g (ax_u_g g2 ⟨by omega, by omega⟩) ⟨by omega, by omega⟩) (by rw [e5, ax_u_ne (by decide), e4, ax_u_ne (by decide)]) ot.1 ot.2 _ _ (ax_y_i _) (ax_y_i _)
      · -- one more of its state
        have ex : ∃ q', g_Qs C0 M0 U n s k q' := Classical.byContradiction fun u => eq (hs.2.2.2.1 (fun q' v => u ⟨q', v⟩)).symm
        obtain ⟨lt, z', z1, z2, z3, z4⟩ := hs.2.2.2.2 ex
        obtain ⟨q0', hq0⟩ := ex
        have zk : z' = k := by
          rcases z4 with y | y
          · exact y
          · exact absurd (ctg s k q0' z' sb.1 (by omega) hq0.2.2.1 (by have := z3 q0' hq0; omega) z1 stk) y
        rw [zk] at z2
        have d5 : X3 565 s = X 565 s := by rw [e3, ax_u_ne (by decide), x65]
        have d6 : X3 566 s = g_cp C0 M0 U n k + g_vl C0 M0 U q := by rw [e3, ax_u_s]
        have ot := others X3 (fun x y => by rw [e3, ax_u_ne (by decide), x65]) (fun x y => by rw [e3, ax_u_k y, x66]) (by
          unfold g_LS
          rw [d5, d6]
          refine ⟨fun q' u => ?_, fun i a b => ?_, ⟨hs.2.2.1.1, by omega, by omega⟩, fun u => absurd newQ (u k), fun _ => ⟨by omega, k + 1, by omega, e1.symm, fun q' u => by have := u.1; omega, Or.inl rfl⟩⟩
          · rcases (qe q').mp u with u | u
            · have := hs.1 q' u; omega
            · rw [u, vk]; omega
          · by_cases y : i < X 566 s
            · obtain ⟨q', u, u2⟩ := hs.2.1 i a y
              exact ⟨q', (qe q').mpr (Or.inl u), u2⟩
            · exact ⟨k, newQ, by omega, by rw [vk]; omega⟩)
        exact go X3 (by rw [e3]; exact f2.u (by decide)) (by rw [e3]; exact ax_u_g g2 ⟨by omega, by omega⟩) (by rw [e3, ax_u_ne (by decide)]) ot.1 ot.2 _ _ (ax_y_i _) (ax_y_i _)
    · obtain ⟨hq, f1, g1, k1, o1, k2, o2⟩ := hI
      have eq : q = C0 508 (n + 1) := by omega
      have xf : g_fr g_XP C0 X := hf.tr (f1.up (by decide))
      rw [eq] at k1 k2
      rw [eq, ← cpE, ← ePP]
      have fin : ∀ s, 0 ≤ s → s < (C0 556 1) → M0 267 (C0 563 s) = n → ∀ W : ax_V, W 565 = X 565 → W 566 = X 566 → g_LF C0 M0 U W n s := fun s a b c W w5 w6 => by
        have qe : ∀ q', g_Qs C0 M0 U n s ((M0 222 26)).toNat q' ↔ g_Qs C0 M0 U n s (C0 508 (n + 1)).toNat q' := fun q' => ⟨fun u => ⟨by
          have := (hS.pN (q := (q' : Int)) (by omega) (by have := u.1; omega) n0 n1).mpr u.2.1
          omega, u.2⟩, fun u => ⟨by have := u.1; omega, u.2⟩⟩
        obtain ⟨h1, h2, h3', h4, h5⟩ := k2 s a b c
        rw [← cpE] at h3'
        unfold g_LF
        rw [w5, w6]
        refine ⟨fun q' u => h1 q' ((qe q').mp u), fun i a b => ?_, h3'⟩
        obtain ⟨q', u, v⟩ := h2 i a b
        exact ⟨q', (qe q').mpr u, v⟩
      refine r_Planner_layOut_12 g1 rn ⟨by omega, by omega⟩ ⟨by omega, by omega⟩ hy4 hy5 ⟨bn, ?_⟩
      rw [xf 508 (by decide), xf 510 (by decide)]
      refine ⟨fun _ => ⟨⟨n0, by omega⟩, auts X (f1.up (by decide)) g1 (f1 540 (by decide)) (f1 560 (by decide)) (fun W' f2 g2 j1 j2 j3 j4 => h W' ((f1.up (by decide)).tr (f2.up (by decide))) g2 (fun x a b => ?_) (fun x a b c => ?_) (fun a x y => by rw [← ePP]; exact j1 a x y) j2 (fun l x y => by rw [← ePP, ← eAA]; exact j3 l x y) j4 (fun s a b c => fin s a b c W' (f2 565 (by decide)) (f2 566 (by decide))) (fun s a b c => by rw [f2 565 (by decide), f2 566 (by decide)]; exact o2 s a b c)) _ _ hy4 hy5⟩, fun z => by omega⟩
      · rw [f2 531 (by decide)]
        refine k1 x ?_ b
        have := (hS.pN (q := (x : Int)) (by omega) (by omega) n0 n1).mpr b
        omega
      · rw [f2 531 (by decide)]; exact o1 x a b c
  have b1 : ∀ x : Nat, (x : Int) < C0 508 n → M0 250 (x : Int) = n → V 531 (x : Int) = g_cp C0 M0 U n x := fun x a b => by
    exfalso
    have := (hS.pN (q := (x : Int)) (by omega) (by omega) n0 n1).mpr b
    omega
  have b2 : ∀ s, 0 ≤ s → s < (C0 556 1) → M0 267 (C0 563 s) = n → g_LS C0 M0 U V n s (C0 508 n).toNat := fun s a b c => by
    have nq : ∀ q', ¬ g_Qs C0 M0 U n s (C0 508 n).toNat q' := fun q' u => by
      have u1 := u.1
      have := (hS.pN (q := (q' : Int)) (by omega) (by omega) n0 n1).mpr u.2.1
      omega
    have e := h65 s a b c
    unfold g_LS
    rw [e.1, e.2]
    exact ⟨fun q' u => absurd u (nq q'), fun i a b => by omega, ⟨by decide, by decide, by rw [cpL]; decide⟩, fun _ => rfl, fun u => by obtain ⟨q', u⟩ := u; exact absurd u (nq q')⟩
  have z := main (C0 508 n) V ⟨⟨by omega, by omega⟩, g_fr.rf _ _, hg, b1, fun _ _ _ _ => rfl, b2, fun _ _ _ _ => ⟨rfl, rfl⟩⟩ none none ax_y_n ax_y_n
  rw [cpL] at z
  exact z
end LayOut
