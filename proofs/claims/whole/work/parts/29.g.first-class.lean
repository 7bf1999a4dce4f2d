/-! WHAT THE CLASS REMEMBERS AT FIRST -/
theorem ax_cp_ne {V : ax_V} {s t c : Nat} {sp tp n : Int} (h : c ≠ t) : ax_cp V s t sp tp n c = V c := by
  funext j
  unfold ax_cp
  rw [if_neg (fun z => h z.1)]
theorem ax_cp_o {V : ax_V} {s t : Nat} {sp tp n j : Int} (h : ¬ (tp ≤ j ∧ j < tp + n)) : ax_cp V s t sp tp n t j = V t j := by
  unfold ax_cp
  rw [if_neg (fun z => h z.2)]
theorem ax_cp_i {V : ax_V} {s t : Nat} {sp tp n j : Int} (h : tp ≤ j ∧ j < tp + n) : ax_cp V s t sp tp n t j = V s (sp + (j - tp)) := by
  unfold ax_cp
  rw [if_pos ⟨rfl, h⟩]
theorem g_fr.cp {X : List Nat} {C0 C : ax_V} {s t : Nat} {sp tp n : Int} (h : g_fr X C0 C) (hc : t ∈ X) : g_fr X C0 (ax_cp C s t sp tp n) := fun c' z => by
  have q : c' ≠ t := fun e => z (by rw [e]; exact hc)
  rw [ax_cp_ne q]; exact h c' z
/-- the first memory of a node -/
def g_FM (C0 M0 : ax_V) (U : Int → Int) (Fm : Int → Int) (n : Int) : Prop :=
  (∀ l : Nat, l < 26 → ¬ M0 236 (26 * n + (l : Int)) = 0 → Fm (300 * n + (g_cp C0 M0 U n ((M0 222 26)).toNat + g_ca M0 n ((M0 222 55)).toNat + g_ll M0 n l)) = M0 237 (26 * n + (l : Int))) ∧
  (∀ a : Nat, a < ((M0 222 55)).toNat → M0 267 (a : Int) = n → Fm (300 * n + (g_cp C0 M0 U n ((M0 222 26)).toNat + g_ca M0 n a)) = 0) ∧
  ∀ q : Nat, q < ((M0 222 26)).toNat → M0 250 (q : Int) = n → ((M0 241 (q : Int) = 6 ∨ M0 241 (q : Int) = 19) → Fm (300 * n + g_cp C0 M0 U n q) = 0) ∧ (M0 241 (q : Int) = 22 → ∀ i, 0 ≤ i → i < U (C0 520 (q : Int)) → Fm (300 * n + (g_cp C0 M0 U n q + i)) = Fm (300 * C0 520 (q : Int) + i))
section FirstC
variable {B r d : Nat} {C0 M0 V : ax_V} {U J : Int → Int} {n : Int} {Φ : Int → ax_V → Prop} {Ψ Θ : ax_V → Prop}
set_option maxHeartbeats 4000000 in
theorem t_fillFirst (hS : g_S C0 M0) (ok : g_N2 M0) (hUJ : g_UJ C0 M0 U J) (hf : g_fr g_XP C0 V) (hg : ax_g V) (n0 : 0 ≤ n) (n1 : n < (M0 222 86)) (hU : ∀ m, 0 ≤ m → m < n → V 514 m = U m) (h3 : g_T C0 M0 U n ≤ 300) (hc : ∀ q : Nat, q < ((M0 222 26)).toNat → M0 250 (q : Int) = n → V 531 (q : Int) = g_cp C0 M0 U n q) (hl : ∀ l : Nat, l < 26 → ¬ M0 236 (26 * n + (l : Int)) = 0 → V 540 (26 * n + (l : Int)) = g_cp C0 M0 U n ((M0 222 26)).toNat + g_ca M0 n ((M0 222 55)).toNat + g_ll M0 n l)
    (h : ∀ W, g_fr [515] V W → ax_g W → (∀ i, ¬ (300 * n ≤ i ∧ i < 300 * n + 300) → W 515 i = V 515 i) → g_FM C0 M0 U (W 515) n → Ψ W) : ax_N (az_W B (az_EL B r)) (d + 2) q_Planner_fillFirstMemory [.ref r, ax_i n] V Ψ Θ := by
  have hat := hS.2.2.2.2.2.2.2
  have hN := hS.2.1
  have p0 := hS.2.2.1.1
  have hB := hS.2.2.2.2.1
  have hct := hB.1
  have hc3 := hct.2.2.1
  have E0 := hS.eqF n0 (by omega)
  have E1 := hS.eqF (n := n + 1) (by omega) (by omega)
  have E2 := hS.eqS n0 n1
  have rn : ax_rg n := ⟨by omega, by omega⟩
  have r3 : ax_rg (300 * n) := ⟨by omega, by omega⟩
  have bn : 0 ≤ n + 1 ∧ n + 1 < 9 := ⟨by omega, by omega⟩
  have bU : ∀ m, 0 ≤ U m ∧ U m ≤ 1000000 := fun m => (hUJ.1 m).1
  have L := g_ll_b M0 n 26
  have A := g_ca_b M0 n ((M0 222 55)).toNat
  obtain ⟨PP, ePP⟩ : ∃ x : Int, x = g_cp C0 M0 U n ((M0 222 26)).toNat := ⟨_, rfl⟩
  obtain ⟨AA, eAA⟩ : ∃ x : Int, x = g_ca M0 n ((M0 222 55)).toNat := ⟨_, rfl⟩
  have hT : g_ll M0 n 26 + AA + PP ≤ 300 := by rw [eAA, ePP]; exact h3
  have PP0 : 0 ≤ PP := by rw [ePP]; exact g_cp_0 bU _
  rw [← ePP, ← eAA] at hl
  have hw : ∀ q : Nat, q < ((M0 222 26)).toNat → M0 250 (q : Int) = n → M0 241 (q : Int) = 22 → (0 ≤ C0 520 (q : Int) ∧ C0 520 (q : Int) < n) ∧ (0 ≤ g_cp C0 M0 U n q ∧ g_cp C0 M0 U n q + U (C0 520 (q : Int)) ≤ PP) := fun q a b c => by
    have := ok.call hS (q := (q : Int)) (by omega) (by omega) c
    have s := g_cp_s (C0 := C0) (U := U) b
    have v : g_vl C0 M0 U (q : Int) = U (C0 520 (q : Int)) := by unfold g_vl; rw [if_neg (by omega), if_pos c]
    have m := g_cp_m (C0 := C0) (M0 := M0) (n := n) bU (show q + 1 ≤ ((M0 222 26)).toNat by omega)
    have z := g_cp_0 (C0 := C0) (M0 := M0) (n := n) bU q
    omega
  have hw2 : ∀ q : Nat, q < ((M0 222 26)).toNat → M0 250 (q : Int) = n → (M0 241 (q : Int) = 6 ∨ M0 241 (q : Int) = 19) → 0 ≤ g_cp C0 M0 U n q ∧ g_cp C0 M0 U n q + 1 ≤ PP := fun q a b c => by
    have s := g_cp_s (C0 := C0) (U := U) b
    have v : g_vl C0 M0 U (q : Int) = 1 := by unfold g_vl; rw [if_pos c]
    have m := g_cp_m (C0 := C0) (M0 := M0) (n := n) bU (show q + 1 ≤ ((M0 222 26)).toNat by omega)
    have z := g_cp_0 (C0 := C0) (M0 := M0) (n := n) bU q
    omega
  -- letters
  have lets : ∀ W, g_fr [515] V W → ax_g W → (∀ i, ¬ (300 * n ≤ i ∧ i < 300 * n + 300) → W 515 i = V 515 i) → (∀ i, PP ≤ i → i < 300 → W 515 (300 * n + i) = 0) → (∀ q : Nat, q < ((M0 222 26)).toNat → M0 250 (q : Int) = n → ((M0 241 (q : Int) = 6 ∨ M0 241 (q : Int) = 19) → W 515 (300 * n + g_cp C0 M0 U n q) = 0) ∧ (M0 241 (q : Int) = 22 → ∀ i, 0 ≤ i → i < U (C0 520 (q : Int)) → W 515 (300 * n + (g_cp C0 M0 U n q + i)) = W 515 (300 * C0 520 (q : Int) + i))) → ∀ y4, ax_y y4 → k_Planner_fillFirstMemory_135 B r (d + 1) n (300 * n) (n * 26) y4 W Ψ Θ := by
    intro W fW gW oW zW qW y4 hy4
    refine ax_for (I := fun s X => (26 * n ≤ s ∧ s ≤ 26 * n + 26) ∧ g_fr [515] V X ∧ ax_g X ∧ (∀ i, ¬ (300 * n + (PP + AA) ≤ i ∧ i < 300 * n + 300) → X 515 i = W 515 i) ∧ (∀ l : Nat, 26 * n + (l : Int) < s → ¬ M0 236 (26 * n + (l : Int)) = 0 → X 515 (300 * n + (PP + AA + g_ll M0 n l)) = M0 237 (26 * n + (l : Int)))) (K := fun s X => k_Planner_fillFirstMemory_135 B r (d + 1) n (300 * n) s y4 X Ψ Θ) (hi := 26 * n + 26) (fun s X w hI next => ?_) (fun s X w hI => ?_) (n * 26) W ⟨⟨by omega, by omega⟩, fW, gW, fun _ _ => rfl, fun l a b => by omega⟩
    · obtain ⟨hs, f1, g1, o1, k1⟩ := hI
      obtain ⟨k, ek⟩ : ∃ k : Nat, s = 26 * n + (k : Int) := ⟨(s - 26 * n).toNat, by omega⟩
      have ls := (hS.l n0 n1 (l := (k : Int)) (by omega) (by omega)).2.2.2.2.1
      have gb := g_ll_b M0 n k
      refine r_Planner_fillFirstMemory_135 g1 rn r3 ⟨by omega, by omega⟩ hy4 ⟨⟨by omega, by omega⟩, fun z => by omega, fun _ => ⟨⟨by omega, by omega⟩, ?_⟩⟩
      rw [f1 538 (by decide), hf 538 (by decide), f1 540 (by decide), f1 539 (by decide), hf 539 (by decide), ek, ls.1]
      refine ⟨fun z => ?_, fun z => ?_⟩
      · rw [← ek]
        refine next X ⟨⟨by omega, by omega⟩, f1, g1, o1, fun l a b => ?_⟩
        by_cases y : l = k
        · rw [y] at b; exact absurd z b
        · exact k1 l (by omega) b
      · have gs := g_ll_s z
        have gm := g_ll_m M0 n (show k + 1 ≤ 26 by omega)
        have la : C0 539 (26 * n + (k : Int)) = M0 237 (26 * n + (k : Int)) := by
          rcases ls.2 with y | y
          · exact absurd y z
          · exact y.2.2.1
        rw [hl k (by omega) z, la]
        refine ⟨⟨by omega, by omega⟩, ⟨by omega, by omega⟩, ⟨by omega, by omega⟩, fun V1 e1 => ?_⟩
        rw [← ek]
        refine next V1 ⟨⟨by omega, by omega⟩, by rw [e1]; exact f1.u (by decide), by rw [e1]; exact ax_u_g g1 (hS.1.2 _ _), fun i y => ?_, fun l a b => ?_⟩
        · rw [e1, ax_u_k (by omega)]; exact o1 i y
        · by_cases y : l = k
          · rw [y, e1, ax_u_s]
          · have gs2 := g_ll_s b
            have gm2 := g_ll_m M0 n (show l + 1 ≤ k by omega)
            rw [e1, ax_u_k (by omega)]; exact k1 l (by omega) b
    · obtain ⟨hs, f1, g1, o1, k1⟩ := hI
      refine r_Planner_fillFirstMemory_135 g1 rn r3 ⟨by omega, by omega⟩ hy4 ⟨⟨by omega, by omega⟩, fun _ => h X f1 g1 (fun i z => by rw [o1 i (by omega)]; exact oW i z) ⟨fun l a b => by rw [← ePP, ← eAA]; exact k1 l (by omega) b, fun a x y => ?_, fun q x y => ⟨fun o => ?_, fun o i i0 i1 => ?_⟩⟩, fun z => by omega⟩
      · have s := g_ca_s y
        have m := g_ca_m M0 n (show a + 1 ≤ ((M0 222 55)).toNat by omega)
        have b := g_ca_b M0 n a
        rw [← ePP, o1 _ (by omega)]
        exact zW _ (by omega) (by omega)
      · have := hw2 q x y o
        rw [o1 _ (by omega)]; exact (qW q x y).1 o
      · have u := hw q x y o
        rw [o1 _ (by omega), o1 _ (by omega)]; exact (qW q x y).2 o i i0 i1
  -- calls
  have calls : ∀ W, g_fr [515] V W → ax_g W → (∀ i, ¬ (300 * n ≤ i ∧ i < 300 * n + 300) → W 515 i = V 515 i) → (∀ i, 0 ≤ i → i < 300 → W 515 (300 * n + i) = 0) → ∀ y4, ax_y y4 → k_Planner_fillFirstMemory_43 B r (d + 1) n (300 * n) (C0 508 n) y4 W Ψ Θ := by
    intro W fW gW oW zW
    refine ax_for (I := fun q X => (C0 508 n ≤ q ∧ q ≤ C0 508 (n + 1)) ∧ g_fr [515] V X ∧ ax_g X ∧ (∀ i, ¬ (300 * n ≤ i ∧ i < 300 * n + 300) → X 515 i = V 515 i) ∧ (∀ i, g_cp C0 M0 U n q.toNat ≤ i → i < 300 → X 515 (300 * n + i) = 0) ∧ (∀ x : Nat, (x : Int) < q → M0 250 (x : Int) = n → ((M0 241 (x : Int) = 6 ∨ M0 241 (x : Int) = 19) → X 515 (300 * n + g_cp C0 M0 U n x) = 0) ∧ (M0 241 (x : Int) = 22 → ∀ i, 0 ≤ i → i < U (C0 520 (x : Int)) → X 515 (300 * n + (g_cp C0 M0 U n x + i)) = X 515 (300 * C0 520 (x : Int) + i)))) (K := fun q X => ∀ y4, ax_y y4 → k_Planner_fillFirstMemory_43 B r (d + 1) n (300 * n) q y4 X Ψ Θ) (hi := C0 508 (n + 1)) (fun q X w hI next y4 hy4 => ?_) (fun q X w hI y4 hy4 => ?_) (C0 508 n) W ⟨⟨by omega, by omega⟩, fW, gW, oW, fun i a b => zW i (by have := g_cp_0 (C0 := C0) (M0 := M0) (n := n) bU (C0 508 n).toNat; omega) b, fun x a b => ?_⟩
    · obtain ⟨hq, f1, g1, o1, z1, k1⟩ := hI
      obtain ⟨k, ek⟩ : ∃ k : Nat, q = (k : Int) := ⟨q.toNat, by omega⟩
      have t1 : q.toNat = k := by omega
      have t2 : (q + 1).toNat = k + 1 := by omega
      have q1 : q < (M0 222 26) := by omega
      have qn := (hS.pN (by omega : 0 ≤ q) q1 n0 n1).mp ⟨hq.1, w⟩
      have qk : M0 250 (k : Int) = n := by rw [← ek]; exact qn
      have e1 : g_cp C0 M0 U n (k + 1) = g_cp C0 M0 U n k + g_vl C0 M0 U q := by rw [ek]; exact g_cp_s qk
      have vb := g_vl_b (C0 := C0) (M0 := M0) bU q
      have c0 := g_cp_0 (C0 := C0) (M0 := M0) (n := n) bU k
      have cm := g_cp_m (C0 := C0) (M0 := M0) (n := n) bU (show k + 1 ≤ ((M0 222 26)).toNat by omega)
      have xf : g_fr g_XP C0 X := hf.tr (f1.up (by decide))
      have b7 : 0 ≤ q ∧ q < 700 := ⟨by omega, by omega⟩
      rw [t1] at z1
      have before : ∀ x : Nat, x < k → M0 250 (x : Int) = n → 0 ≤ g_cp C0 M0 U n x ∧ g_cp C0 M0 U n x + g_vl C0 M0 U (x : Int) ≤ g_cp C0 M0 U n k := fun x a b => by
        have := g_cp_s (C0 := C0) (U := U) b
        have := g_cp_m (C0 := C0) (M0 := M0) (n := n) bU (show x + 1 ≤ k by omega)
        have := g_cp_0 (C0 := C0) (M0 := M0) (n := n) bU x
        omega
      refine r_Planner_fillFirstMemory_43 g1 rn r3 ⟨by omega, by omega⟩ hy4 ⟨bn, ?_⟩
      rw [xf 508 (by decide)]
      refine ⟨fun z => by omega, fun _ => t_isCal9 hS ok xf g1 (by omega) q1 (fun o => ⟨fun z => absurd z (by decide), fun _ => ⟨b7, b7, ?_⟩⟩) (fun o => ⟨fun _ => next X ⟨⟨by omega, by omega⟩, f1, g1, o1, ?_, fun x a b => ?_⟩ _ hy4, fun z => absurd rfl z⟩)⟩
      · have hwq := hw k (by omega) qk (by rw [← ek]; exact o)
        obtain ⟨m, em⟩ : ∃ m : Int, m = C0 520 q := ⟨_, rfl⟩
        rw [← ek, ← em] at hwq
        have v : g_vl C0 M0 U q = U m := by unfold g_vl; rw [if_neg (by omega), if_pos o, em]
        have um := bU m
        have ck : X 531 q = g_cp C0 M0 U n k := by rw [f1 531 (by decide), ek]; exact hc k (by omega) qk
        have um2 : X 514 m = U m := by rw [f1 514 (by decide)]; exact hU m hwq.1.1 (by omega)
        rw [xf 520 (by decide), ← em, ck, um2]
        refine ⟨⟨by omega, by omega⟩, ⟨by omega, by omega, by omega, by omega, by omega⟩, fun X2 e2 => next X2 ⟨⟨by omega, by omega⟩, by rw [e2]; exact f1.cp (by decide), by rw [e2]; exact ax_cp_g g1, fun i z => ?_, ?_, fun x a b => ?_⟩ _ (ax_y_i _)⟩
        · rw [e2, ax_cp_o (by omega)]; exact o1 i z
        · rw [t2, e1, v]
          intro i a b
          rw [e2, ax_cp_o (by omega)]; exact z1 i (by omega) b
        · by_cases y : x = k
          · rw [y, ← ek]
            refine ⟨fun z => by omega, fun _ i i0 i1 => ?_⟩
            rw [← em] at i1 ⊢
            rw [e2, ax_cp_i ⟨by omega, by omega⟩, ax_cp_o (by omega)]
            congr 1
            omega
          · have bx := before x (by omega) b
            have kx := k1 x (by omega) b
            refine ⟨fun z => ?_, fun z i i0 i1 => ?_⟩
            · have v1 : g_vl C0 M0 U (x : Int) = 1 := by unfold g_vl; rw [if_pos z]
              rw [e2, ax_cp_o (by omega)]; exact kx.1 z
            · have v1 : g_vl C0 M0 U (x : Int) = U (C0 520 (x : Int)) := by unfold g_vl; rw [if_neg (by omega), if_pos z]
              have hx := hw x (by omega) b z
              rw [e2, ax_cp_o (by omega), ax_cp_o (by omega)]; exact kx.2 z i i0 i1
      · rw [t2, e1]
        intro i a b
        exact z1 i (by omega) b
      · by_cases y : x = k
        · rw [y, ← ek]
          exact ⟨fun z => z1 _ (Int.le_refl _) (by
            have v1 : g_vl C0 M0 U q = 1 := by unfold g_vl; rw [if_pos z]
            omega), fun z => absurd z o⟩
        · exact k1 x (by omega) b
    · obtain ⟨hq, f1, g1, o1, z1, k1⟩ := hI
      have eq : q = C0 508 (n + 1) := by omega
      have xf : g_fr g_XP C0 X := hf.tr (f1.up (by decide))
      rw [eq, ← (hS.cp_hi (U := U) (J := J) n0 n1 ((M0 222 26)).toNat (by omega) (by omega)).1, ← ePP] at z1
      refine r_Planner_fillFirstMemory_43 g1 rn r3 ⟨by omega, by omega⟩ hy4 ⟨bn, ?_⟩
      rw [xf 508 (by decide)]
      refine ⟨fun _ => lets X f1 g1 o1 z1 (fun x a b => k1 x ?_ b) _ hy4, fun z => by omega⟩
      have := (hS.pN (q := (x : Int)) (by omega) (by omega) n0 n1).mpr b
      omega
    · exfalso
      have := (hS.pN (q := (x : Int)) (by omega) (by omega) n0 n1).mpr b
      omega
  -- zeros
  refine r_Planner_fillFirstMemory hg rn ?_
  rw [show n * 300 = 300 * n by omega]
  refine ax_for (I := fun i X => (300 * n ≤ i ∧ i ≤ 300 * n + 300) ∧ g_fr [515] V X ∧ ax_g X ∧ (∀ i, ¬ (300 * n ≤ i ∧ i < 300 * n + 300) → X 515 i = V 515 i) ∧ ∀ j, 0 ≤ j → 300 * n + j < i → X 515 (300 * n + j) = 0) (K := fun i X => k_Planner_fillFirstMemory_8 B r (d + 1) n (300 * n) i none X Ψ Θ) (hi := 300 * n + 300) (fun i X w hI next => ?_) (fun i X w hI => ?_) (300 * n) V ⟨⟨by omega, by omega⟩, g_fr.rf _ _, hg, fun _ _ => rfl, fun j a b => by omega⟩
  · obtain ⟨hi, f1, g1, o1, z1⟩ := hI
    refine r_Planner_fillFirstMemory_8 g1 rn r3 ⟨by omega, by omega⟩ ax_y_n ⟨⟨by omega, by omega⟩, fun z => by omega, fun _ => ⟨⟨by omega, by omega⟩, fun V1 e1 => next V1 ⟨⟨by omega, by omega⟩, by rw [e1]; exact f1.u (by decide), by rw [e1]; exact ax_u_g g1 (by decide), fun j z => ?_, fun j a b => ?_⟩⟩⟩
    · rw [e1, ax_u_k (by omega)]; exact o1 j z
    · by_cases y : 300 * n + j = i
      · rw [y, e1, ax_u_s]
      · rw [e1, ax_u_k y]; exact z1 j a (by omega)
  · obtain ⟨hi, f1, g1, o1, z1⟩ := hI
    refine r_Planner_fillFirstMemory_8 g1 rn r3 ⟨by omega, by omega⟩ ax_y_n ⟨⟨by omega, by omega⟩, fun _ => ⟨⟨n0, by omega⟩, ?_⟩, fun z => by omega⟩
    rw [f1 508 (by decide), hf 508 (by decide)]
    exact calls X f1 g1 o1 (fun j a b => z1 j a (by omega)) _ ax_y_n
end FirstC
