/-! HOW MUCH AND HOW MANY, the class -/
section CountC
variable {B r d : Nat} {C0 M0 V : ax_V} {U J : Int → Int} {n q : Int} {Φ : Int → ax_V → Prop} {Ψ Θ : ax_V → Prop}
theorem t_isCal9 {E : List (Nat × ax_S)} (hS : g_S C0 M0) (ok : g_N2 M0) (hf : g_fr g_XP C0 V) (hg : ax_g V) (q0 : 0 ≤ q) (q1 : q < (M0 222 26)) (h1 : M0 241 q = 22 → Φ 1 V) (h0 : ¬ M0 241 q = 22 → Φ 0 V) : ax_I (az_W B E) (d + 1) q_Parts_isCall [.ref (B + 16), ax_i q] V Φ Θ := by
  have hat := hS.2.2.2.2.2.2.2
  have hN := hS.2.1
  have p0 := hS.2.2.1.1
  have pn := (hS.pnode q0 q1).1
  have b7 : 0 ≤ q ∧ q < 700 := ⟨q0, by omega⟩
  have oc := hS.eopc q0 q1
  refine r_Parts_isCall hg ⟨by omega, by omega⟩ ⟨b7, ?_⟩
  rw [hf 517 (by decide), hf 520 (by decide)]
  refine ⟨fun z => ?_, fun z => h0 (by omega)⟩
  have o : M0 241 q = 22 := by omega
  have c := ok.call hS q0 q1 o
  exact ⟨b7, fun y => by omega, fun _ => ⟨b7, fun y => by omega, fun _ => h1 o⟩⟩
theorem t_valuesOf (hS : g_S C0 M0) (ok : g_N2 M0) (hf : g_fr g_XP C0 V) (hg : ax_g V) (q0 : 0 ≤ q) (q1 : q < (M0 222 26)) (hn : M0 250 q = n) (hU : ∀ m, 0 ≤ m → m < n → V 514 m = U m) (h : Φ (g_vl C0 M0 U q) V) : ax_I (az_W B (az_EL B r)) (d + 2) q_Planner_valuesOf [.ref r, ax_i q] V Φ Θ := by
  have hat := hS.2.2.2.2.2.2.2
  have p0 := hS.2.2.1.1
  have b7 : 0 ≤ q ∧ q < 700 := ⟨q0, by omega⟩
  have oc := hS.eopc q0 q1
  have hN := hS.2.1
  have pn := (hS.pnode q0 q1).1
  refine r_Planner_valuesOf hg ⟨by omega, by omega⟩ (t_isCal9 hS ok hf hg q0 q1 (fun o => ⟨fun z => absurd z (by decide), fun _ => ⟨b7, ?_⟩⟩) (fun o => ⟨fun _ => ⟨b7, ?_⟩, fun z => absurd rfl z⟩))
  · have c := ok.call hS q0 q1 o
    have e : g_vl C0 M0 U q = U (C0 520 q) := by unfold g_vl; rw [if_neg (by omega), if_pos o]
    rw [hf 520 (by decide), hU _ c.1 (by omega), ← e]
    exact ⟨⟨c.1, by omega⟩, h⟩
  · rw [hf 517 (by decide)]
    refine ⟨fun z => ?_, fun z => ⟨b7, fun y => ?_, fun y => ?_⟩⟩
    · have e : g_vl C0 M0 U q = 1 := by unfold g_vl; rw [if_pos (by omega)]
      rw [← e]; exact h
    · have e : g_vl C0 M0 U q = 1 := by unfold g_vl; rw [if_pos (by omega)]
      rw [← e]; exact h
    · have e : g_vl C0 M0 U q = 0 := by unfold g_vl; rw [if_neg (by omega), if_neg (by omega)]
      rw [← e]; exact h
set_option maxHeartbeats 4000000 in
theorem t_count (hS : g_S C0 M0) (ok : g_N2 M0) (hUJ : g_UJ C0 M0 U J) (hf : g_fr g_XP C0 V) (hg : ax_g V) (n0 : 0 ≤ n) (n1 : n < (M0 222 86)) (hU : ∀ m, 0 ≤ m → m < n → V 514 m = U m) (hJ : ∀ m, 0 ≤ m → m < n → V 513 m = J m) (h : ∀ V', g_fr [513, 514] V V' → ax_g V' → (∀ m, 0 ≤ m → m < n + 1 → V' 514 m = U m) → (∀ m, 0 ≤ m → m < n + 1 → V' 513 m = J m) → Ψ V') : ax_N (az_W B (az_EL B r)) (d + 3) q_Planner_count [.ref r, ax_i n] V Ψ Θ := by
  have hat := hS.2.2.2.2.2.2.2
  have hN := hS.2.1
  have p0 := hS.2.2.1.1
  have hct := hS.2.2.2.2.1.1
  have hc3 := hct.2.2.1
  have E0 := hS.eqF n0 (by omega)
  have E1 := hS.eqF (n := n + 1) (by omega) (by omega)
  have E2 := hS.eqS n0 n1
  have rn : ax_rg n := ⟨by omega, by omega⟩
  have bn : 0 ≤ n + 1 ∧ n + 1 < 9 := ⟨by omega, by omega⟩
  have bU : ∀ m, 0 ≤ U m ∧ U m ≤ 1000000 := fun m => (hUJ.1 m).1
  have bJ : ∀ m, 0 ≤ J m ∧ J m ≤ 1000000 := fun m => (hUJ.1 m).2
  obtain ⟨A, eA⟩ : ∃ A : Int, A = C0 510 (n + 1) - C0 510 n := ⟨_, rfl⟩
  have caE : g_ca M0 n ((M0 222 55)).toNat = A := by
    rw [hS.ca_at n0 n1 _ (by omega)]
    by_cases a : ((((M0 222 55)).toNat : Nat) : Int) ≤ C0 510 n
    · rw [if_pos a]; omega
    · rw [if_neg a]
      by_cases b : ((((M0 222 55)).toNat : Nat) : Int) ≤ C0 510 (n + 1)
      · rw [if_pos b]; omega
      · rw [if_neg b]; omega
  have cpE := hS.cp_hi (U := U) (J := J) n0 n1 ((M0 222 26)).toNat (by omega) (by omega)
  have cpL := hS.cp_lo (U := U) (J := J) n0 n1 (C0 508 n).toNat (by omega)
  have sat : ∀ x : Int, (if x < 1000000 then x else 1000000) = g_sat x := fun x => rfl
  -- the letters that have a last value
  have lets : k_Planner_count_115 B r (d + 2) n (J n) (g_sat (A + g_cp C0 M0 U n (C0 508 (n + 1)).toNat)) (n * 26) V Ψ Θ := by
    have main : ∀ s W, (W = V ∧ 26 * n ≤ s ∧ s ≤ 26 * n + 26) → k_Planner_count_115 B r (d + 2) n (J n) (g_sat (A + g_cp C0 M0 U n (C0 508 (n + 1)).toNat + g_ll M0 n (s - 26 * n).toNat)) s W Ψ Θ := by
      refine ax_for (I := fun s W => W = V ∧ 26 * n ≤ s ∧ s ≤ 26 * n + 26) (K := fun s W => k_Planner_count_115 B r (d + 2) n (J n) (g_sat (A + g_cp C0 M0 U n (C0 508 (n + 1)).toNat + g_ll M0 n (s - 26 * n).toNat)) s W Ψ Θ) (hi := 26 * n + 26) (fun s W w hI next => ?_) (fun s W w hI => ?_)
      · obtain ⟨eW, hs⟩ := hI
        subst eW
        obtain ⟨k, ek⟩ : ∃ k : Nat, s = 26 * n + (k : Int) := ⟨(s - 26 * n).toNat, by omega⟩
        have k26 : k < 26 := by omega
        have t1 : (s - 26 * n).toNat = k := by omega
        have t2 : (s + 1 - 26 * n).toNat = k + 1 := by omega
        have ls := (hS.l n0 n1 (l := (k : Int)) (by omega) (by omega)).2.2.2.2.1.1
        have nx := next _ ⟨rfl, by omega, by omega⟩
        rw [t2] at nx
        rw [t1]
        have gb := g_ll_b M0 n k
        have gc := g_cp_0 (C0 := C0) (M0 := M0) (n := n) bU (C0 508 (n + 1)).toNat
        have sb := g_sat_b (x := A + g_cp C0 M0 U n (C0 508 (n + 1)).toNat + g_ll M0 n k) (by omega)
        have jb := bJ n
        refine r_Planner_count_115 hg rn ⟨by omega, by omega⟩ ⟨by omega, by omega⟩ ⟨by omega, by omega⟩ ⟨⟨by omega, by omega⟩, fun z => by omega, fun _ => ⟨⟨by omega, by omega⟩, ?_⟩⟩
        rw [hf 538 (by decide), ek, ls, sat, sat, g_sat_a (by decide), g_sat_a (by decide)]
        rw [ek] at nx
        refine ⟨fun z => ⟨⟨by omega, by omega⟩, ?_⟩, fun z => ⟨⟨by omega, by omega⟩, ?_⟩⟩
        · rw [g_ll_n z] at nx
          rw [Int.add_zero]; exact nx
        · rw [g_ll_s z, ← Int.add_assoc] at nx
          exact nx
      · obtain ⟨eW, hs⟩ := hI
        subst eW
        have es : s = 26 * n + 26 := by omega
        have t1 : (s - 26 * n).toNat = 26 := by omega
        rw [t1]
        have eT : g_sat (A + g_cp C0 M0 U n (C0 508 (n + 1)).toNat + g_ll M0 n 26) = U n := by
          rw [(hUJ.2 n n0 n1).1]
          unfold g_T
          rw [caE, cpE.1]
          congr 1
          omega
        rw [eT]
        have ub := bU n
        have jb := bJ n
        refine r_Planner_count_115 hg rn ⟨by omega, by omega⟩ ⟨by omega, by omega⟩ ⟨by omega, by omega⟩ ⟨⟨by omega, by omega⟩, fun _ => ⟨⟨n0, by omega⟩, fun V1 e1 => ⟨⟨n0, by omega⟩, fun V2 e2 => h V2 ?_ ?_ (fun m a b => ?_) (fun m a b => ?_)⟩⟩, fun z => by omega⟩
        · rw [e2, e1]; exact ((g_fr.rf _ _).u (by decide)).u (by decide)
        · rw [e2, e1]; exact ax_u_g (ax_u_g hg ⟨by omega, by omega⟩) ⟨by omega, by omega⟩
        · by_cases y : m = n
          · rw [y, e2, ax_u_s]
          · rw [e2, ax_u_k y, e1, ax_u_ne (by decide)]; exact hU m a (by omega)
        · by_cases y : m = n
          · rw [y, e2, ax_u_ne (by decide), e1, ax_u_s]
          · rw [e2, ax_u_ne (by decide), e1, ax_u_k y]; exact hJ m a (by omega)
    have z := main (n * 26) V ⟨rfl, by omega, by omega⟩
    have t : (n * 26 - 26 * n).toNat = 0 := by omega
    rw [t] at z
    have e : A + g_cp C0 M0 U n (C0 508 (n + 1)).toNat + g_ll M0 n 0 = A + g_cp C0 M0 U n (C0 508 (n + 1)).toNat := Int.add_zero _
    rw [e] at z
    exact z
  refine r_Planner_count hg rn ⟨bn, ⟨n0, by omega⟩, ⟨n0, by omega⟩, ?_⟩
  rw [hf 510 (by decide), hf 508 (by decide), ← eA]
  have main : ∀ q W, (W = V ∧ C0 508 n ≤ q ∧ q ≤ C0 508 (n + 1)) → k_Planner_count_35 B r (d + 2) n (g_sat (1 + g_ci C0 M0 J n q.toNat)) (g_sat (A + g_cp C0 M0 U n q.toNat)) q W Ψ Θ := by
    refine ax_for (I := fun q W => W = V ∧ C0 508 n ≤ q ∧ q ≤ C0 508 (n + 1)) (K := fun q W => k_Planner_count_35 B r (d + 2) n (g_sat (1 + g_ci C0 M0 J n q.toNat)) (g_sat (A + g_cp C0 M0 U n q.toNat)) q W Ψ Θ) (hi := C0 508 (n + 1)) (fun q W w hI next => ?_) (fun q W w hI => ?_)
    · obtain ⟨eW, hq⟩ := hI
      subst eW
      obtain ⟨k, ek⟩ : ∃ k : Nat, q = (k : Int) := ⟨q.toNat, by omega⟩
      have t1 : q.toNat = k := by omega
      have t2 : (q + 1).toNat = k + 1 := by omega
      have q1 : q < (M0 222 26) := by omega
      have qn := (hS.pN (by omega : 0 ≤ q) q1 n0 n1).mp ⟨hq.1, w⟩
      have nx := next _ ⟨rfl, by omega, by omega⟩
      rw [t2] at nx
      rw [t1]
      have vb := g_vl_b (C0 := C0) (M0 := M0) bU q
      have gc := g_cp_0 (C0 := C0) (M0 := M0) (n := n) bU k
      have gi := g_ci_0 (C0 := C0) (M0 := M0) (n := n) bJ k
      have sb := g_sat_b (x := A + g_cp C0 M0 U n k) (by omega)
      have sj := g_sat_b (x := 1 + g_ci C0 M0 J n k) (by omega)
      have qk : M0 250 (k : Int) = n := by rw [← ek]; exact qn
      have e1 : g_cp C0 M0 U n (k + 1) = g_cp C0 M0 U n k + g_vl C0 M0 U q := by rw [ek]; exact g_cp_s qk
      rw [e1, ← Int.add_assoc] at nx
      refine r_Planner_count_35 hg rn ⟨by omega, by omega⟩ ⟨by omega, by omega⟩ ⟨by omega, by omega⟩ ⟨bn, ?_⟩
      rw [hf 508 (by decide)]
      refine ⟨fun z => by omega, fun _ => t_valuesOf hS ok hf hg (by omega) q1 qn hU ⟨⟨by omega, by omega⟩, t_isCal9 hS ok hf hg (by omega) q1 (fun o => ⟨fun z => absurd z (by decide), fun _ => ⟨⟨by omega, by omega⟩, ?_⟩⟩) (fun o => ⟨fun _ => ?_, fun z => absurd rfl z⟩)⟩⟩
      · have c := ok.call hS (by omega) q1 o
        rw [hf 520 (by decide), hJ _ c.1 (by omega), sat, sat, g_sat_a vb.1, g_sat_a (bJ _).1]
        have bj := bJ (C0 520 q)
        have e2 : g_ci C0 M0 J n (k + 1) = g_ci C0 M0 J n k + J (C0 520 q) := by rw [ek]; exact g_ci_s ⟨qk, by rw [← ek]; exact o⟩
        rw [e2, ← Int.add_assoc] at nx
        exact ⟨⟨c.1, by omega⟩, ⟨by omega, by omega⟩, nx⟩
      · rw [sat, g_sat_a vb.1]
        have e2 : g_ci C0 M0 J n (k + 1) = g_ci C0 M0 J n k := g_ci_n (fun z => o (by rw [ek]; exact z.2))
        rw [e2] at nx
        exact nx
    · obtain ⟨eW, hq⟩ := hI
      subst eW
      have eq : q = C0 508 (n + 1) := by omega
      rw [eq]
      have gc := g_cp_0 (C0 := C0) (M0 := M0) (n := n) bU (C0 508 (n + 1)).toNat
      have sb := g_sat_b (x := A + g_cp C0 M0 U n (C0 508 (n + 1)).toNat) (by omega)
      have eJ : g_sat (1 + g_ci C0 M0 J n (C0 508 (n + 1)).toNat) = J n := by rw [(hUJ.2 n n0 n1).2, cpE.2]
      have jb := bJ n
      rw [eJ]
      refine r_Planner_count_35 hg rn ⟨by omega, by omega⟩ ⟨by omega, by omega⟩ ⟨by omega, by omega⟩ ⟨bn, ?_⟩
      rw [hf 508 (by decide)]
      exact ⟨fun _ => lets, fun z => by omega⟩
  have z := main (C0 508 n) V ⟨rfl, by omega, by omega⟩
  rw [cpL.1, cpL.2] at z
  have e1 : g_sat (1 + 0) = 1 := rfl
  have e2 : g_sat (A + 0) = A := by rw [Int.add_zero]; exact g_sat_eq (m := 999) (by decide) (by omega)
  rw [e1, e2] at z
  exact z
end CountC
