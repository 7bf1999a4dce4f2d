/-! HOW MUCH a node remembers, how many instances it is -/
def g_ll (M : ax_V) (n : Int) : Nat → Int
  | 0 => 0
  | k + 1 => g_ll M n k + if M 236 (26 * n + (k : Int)) = 0 then 0 else 1
def g_ca (M : ax_V) (n : Int) : Nat → Int
  | 0 => 0
  | k + 1 => g_ca M n k + if M 267 (k : Int) = n then 1 else 0
def g_vl (C M : ax_V) (U : Int → Int) (q : Int) : Int := if M 241 q = 6 ∨ M 241 q = 19 then 1 else if M 241 q = 22 then U (C 520 q) else 0
def g_cp (C M : ax_V) (U : Int → Int) (n : Int) : Nat → Int
  | 0 => 0
  | k + 1 => g_cp C M U n k + if M 250 (k : Int) = n then g_vl C M U (k : Int) else 0
def g_ci (C M : ax_V) (J : Int → Int) (n : Int) : Nat → Int
  | 0 => 0
  | k + 1 => g_ci C M J n k + if M 250 (k : Int) = n ∧ M 241 (k : Int) = 22 then J (C 520 (k : Int)) else 0
def g_sat (x : Int) : Int := if x < 1000000 then x else 1000000
def g_T (C M : ax_V) (U : Int → Int) (n : Int) : Int := g_ll M n 26 + g_ca M n ((M 222 55)).toNat + g_cp C M U n ((M 222 26)).toNat
def g_UJ (C M : ax_V) (U J : Int → Int) : Prop := (∀ n, (0 ≤ U n ∧ U n ≤ 1000000) ∧ 0 ≤ J n ∧ J n ≤ 1000000) ∧ ∀ n, 0 ≤ n → n < (M 222 86) → U n = g_sat (g_T C M U n) ∧ J n = g_sat (1 + g_ci C M J n ((M 222 26)).toNat)
section Counts
variable {C0 M0 : ax_V} {U J : Int → Int} {n : Int} {k : Nat}
theorem g_sat_b {x : Int} (h : 0 ≤ x) : 0 ≤ g_sat x ∧ g_sat x ≤ 1000000 := by unfold g_sat; split <;> omega
theorem g_sat_a {x v : Int} (hv : 0 ≤ v) : g_sat (g_sat x + v) = g_sat (x + v) := by
  unfold g_sat
  by_cases a : x < 1000000
  · rw [if_pos a]
  · rw [if_neg a, if_neg (by omega), if_neg (by omega)]
theorem g_sat_le {x m : Int} (hm : m < 1000000) : g_sat x ≤ m ↔ x ≤ m := by unfold g_sat; split <;> omega
theorem g_sat_eq {x m : Int} (hm : m < 1000000) (h : x ≤ m) : g_sat x = x := by unfold g_sat; rw [if_pos (by omega)]
theorem g_ll_m (M : ax_V) (n : Int) {k m : Nat} (h : k ≤ m) : g_ll M n k ≤ g_ll M n m := by
  induction m with
  | zero => rw [show k = 0 by omega]; exact Int.le_refl _
  | succ m ih =>
    have e : g_ll M n (m + 1) = g_ll M n m + if M 236 (26 * n + (m : Int)) = 0 then 0 else 1 := rfl
    by_cases z : k = m + 1
    · rw [z]; exact Int.le_refl _
    · have := ih (by omega)
      rw [e]
      split <;> omega
theorem g_ll_s {M : ax_V} {n : Int} {k : Nat} (h : ¬ M 236 (26 * n + (k : Int)) = 0) : g_ll M n (k + 1) = g_ll M n k + 1 := by
  show g_ll M n k + (if M 236 (26 * n + (k : Int)) = 0 then 0 else 1) = _
  rw [if_neg h]
theorem g_ll_n {M : ax_V} {n : Int} {k : Nat} (h : M 236 (26 * n + (k : Int)) = 0) : g_ll M n (k + 1) = g_ll M n k := by
  show g_ll M n k + (if M 236 (26 * n + (k : Int)) = 0 then 0 else 1) = _
  rw [if_pos h]; omega
theorem g_ll_b (M : ax_V) (n : Int) (k : Nat) : 0 ≤ g_ll M n k ∧ g_ll M n k ≤ (k : Int) := by
  induction k with
  | zero => exact ⟨Int.le_refl _, Int.le_refl _⟩
  | succ k ih =>
    have e : g_ll M n (k + 1) = g_ll M n k + if M 236 (26 * n + (k : Int)) = 0 then 0 else 1 := rfl
    rw [e]
    split <;> omega
theorem g_ca_m (M : ax_V) (n : Int) {k m : Nat} (h : k ≤ m) : g_ca M n k ≤ g_ca M n m := by
  induction m with
  | zero => rw [show k = 0 by omega]; exact Int.le_refl _
  | succ m ih =>
    have e : g_ca M n (m + 1) = g_ca M n m + if M 267 (m : Int) = n then 1 else 0 := rfl
    by_cases z : k = m + 1
    · rw [z]; exact Int.le_refl _
    · have := ih (by omega)
      rw [e]
      split <;> omega
theorem g_ca_s {M : ax_V} {n : Int} {k : Nat} (h : M 267 (k : Int) = n) : g_ca M n (k + 1) = g_ca M n k + 1 := by
  show g_ca M n k + (if M 267 (k : Int) = n then 1 else 0) = _
  rw [if_pos h]
theorem g_ca_n {M : ax_V} {n : Int} {k : Nat} (h : ¬ M 267 (k : Int) = n) : g_ca M n (k + 1) = g_ca M n k := by
  show g_ca M n k + (if M 267 (k : Int) = n then 1 else 0) = _
  rw [if_neg h]; omega
theorem g_ca_b (M : ax_V) (n : Int) (k : Nat) : 0 ≤ g_ca M n k ∧ g_ca M n k ≤ (k : Int) := by
  induction k with
  | zero => exact ⟨Int.le_refl _, Int.le_refl _⟩
  | succ k ih =>
    have e : g_ca M n (k + 1) = g_ca M n k + if M 267 (k : Int) = n then 1 else 0 := rfl
    rw [e]
    split <;> omega
theorem g_vl_b (hU : ∀ m, 0 ≤ U m ∧ U m ≤ 1000000) (q : Int) : 0 ≤ g_vl C0 M0 U q ∧ g_vl C0 M0 U q ≤ 1000000 := by
  unfold g_vl
  have := hU (C0 520 q)
  split
  · omega
  · split <;> omega
theorem g_cp_s (h : M0 250 (k : Int) = n) : g_cp C0 M0 U n (k + 1) = g_cp C0 M0 U n k + g_vl C0 M0 U (k : Int) := by
  show g_cp C0 M0 U n k + (if M0 250 (k : Int) = n then g_vl C0 M0 U (k : Int) else 0) = _
  rw [if_pos h]
theorem g_cp_n (h : ¬ M0 250 (k : Int) = n) : g_cp C0 M0 U n (k + 1) = g_cp C0 M0 U n k := by
  show g_cp C0 M0 U n k + (if M0 250 (k : Int) = n then g_vl C0 M0 U (k : Int) else 0) = _
  rw [if_neg h]; omega
theorem g_cp_m (hU : ∀ m, 0 ≤ U m ∧ U m ≤ 1000000) {k m : Nat} (h : k ≤ m) : g_cp C0 M0 U n k ≤ g_cp C0 M0 U n m := by
  induction m with
  | zero => rw [show k = 0 by omega]; exact Int.le_refl _
  | succ m ih =>
    by_cases z : k = m + 1
    · rw [z]; exact Int.le_refl _
    · have := ih (by omega)
      by_cases y : M0 250 (m : Int) = n
      · rw [g_cp_s y]
        have := g_vl_b (C0 := C0) (M0 := M0) hU (m : Int)
        omega
      · rw [g_cp_n y]; exact this
theorem g_cp_0 (hU : ∀ m, 0 ≤ U m ∧ U m ≤ 1000000) (k : Nat) : 0 ≤ g_cp C0 M0 U n k := by
  have := g_cp_m (C0 := C0) (M0 := M0) (n := n) hU (Nat.zero_le k)
  exact this
theorem g_ci_s (h : M0 250 (k : Int) = n ∧ M0 241 (k : Int) = 22) : g_ci C0 M0 J n (k + 1) = g_ci C0 M0 J n k + J (C0 520 (k : Int)) := by
  show g_ci C0 M0 J n k + (if M0 250 (k : Int) = n ∧ M0 241 (k : Int) = 22 then J (C0 520 (k : Int)) else 0) = _
  rw [if_pos h]
theorem g_ci_n (h : ¬ (M0 250 (k : Int) = n ∧ M0 241 (k : Int) = 22)) : g_ci C0 M0 J n (k + 1) = g_ci C0 M0 J n k := by
  show g_ci C0 M0 J n k + (if M0 250 (k : Int) = n ∧ M0 241 (k : Int) = 22 then J (C0 520 (k : Int)) else 0) = _
  rw [if_neg h]; omega
theorem g_ci_0 (hJ : ∀ m, 0 ≤ J m ∧ J m ≤ 1000000) (k : Nat) : 0 ≤ g_ci C0 M0 J n k := by
  induction k with
  | zero => exact Int.le_refl _
  | succ k ih =>
    by_cases y : M0 250 (k : Int) = n ∧ M0 241 (k : Int) = 22
    · rw [g_ci_s y]
      have := hJ (C0 520 (k : Int))
      omega
    · rw [g_ci_n y]; exact ih
/-- only nodes ahead count -/
theorem g_S.cp_c (hS : g_S C0 M0) (ok : g_N2 M0) {U' : Int → Int} (h : ∀ m, 0 ≤ m → m < n → U' m = U m) : ∀ k : Nat, (k : Int) ≤ (M0 222 26) → g_cp C0 M0 U' n k = g_cp C0 M0 U n k := by
  intro k
  induction k with
  | zero => exact fun _ => rfl
  | succ k ih =>
    intro hk
    have q1 : (k : Int) < (M0 222 26) := by omega
    by_cases y : M0 250 (k : Int) = n
    · rw [g_cp_s y, g_cp_s y, ih (by omega)]
      have : g_vl C0 M0 U' (k : Int) = g_vl C0 M0 U (k : Int) := by
        unfold g_vl
        by_cases o : M0 241 (k : Int) = 6 ∨ M0 241 (k : Int) = 19
        · rw [if_pos o, if_pos o]
        · rw [if_neg o, if_neg o]
          by_cases o2 : M0 241 (k : Int) = 22
          · rw [if_pos o2, if_pos o2]
            have c := ok.call hS (by omega) q1 o2
            exact h _ c.1 (by omega)
          · rw [if_neg o2, if_neg o2]
      rw [this]
    · rw [g_cp_n y, g_cp_n y]; exact ih (by omega)
theorem g_S.ci_c (hS : g_S C0 M0) (ok : g_N2 M0) {J' : Int → Int} (h : ∀ m, 0 ≤ m → m < n → J' m = J m) : ∀ k : Nat, (k : Int) ≤ (M0 222 26) → g_ci C0 M0 J' n k = g_ci C0 M0 J n k := by
  intro k
  induction k with
  | zero => exact fun _ => rfl
  | succ k ih =>
    intro hk
    have q1 : (k : Int) < (M0 222 26) := by omega
    by_cases y : M0 250 (k : Int) = n ∧ M0 241 (k : Int) = 22
    · rw [g_ci_s y, g_ci_s y, ih (by omega)]
      have c := ok.call hS (by omega) q1 y.2
      rw [h _ c.1 (by omega)]
    · rw [g_ci_n y, g_ci_n y]; exact ih (by omega)
theorem g_S.UJ (hS : g_S C0 M0) (ok : g_N2 M0) : ∃ U J, g_UJ C0 M0 U J := by
  have hN := hS.2.1
  have p0 := hS.2.2.1.1
  have key : ∀ j : Nat, (j : Int) ≤ (M0 222 86) → ∃ U J : Int → Int, (∀ n, (0 ≤ U n ∧ U n ≤ 1000000) ∧ 0 ≤ J n ∧ J n ≤ 1000000) ∧ ∀ n, 0 ≤ n → n < (j : Int) → U n = g_sat (g_T C0 M0 U n) ∧ J n = g_sat (1 + g_ci C0 M0 J n ((M0 222 26)).toNat) := by
    intro j
    induction j with
    | zero => exact fun _ => ⟨fun _ => 0, fun _ => 0, fun n => ⟨⟨show (0 : Int) ≤ 0 by decide, show (0 : Int) ≤ 1000000 by decide⟩, show (0 : Int) ≤ 0 by decide, show (0 : Int) ≤ 1000000 by decide⟩, fun n a b => by omega⟩
    | succ j ih =>
      intro hj
      obtain ⟨U, J, hb, hs⟩ := ih (by omega)
      have hU : ∀ m, 0 ≤ U m ∧ U m ≤ 1000000 := fun m => (hb m).1
      have hJ : ∀ m, 0 ≤ J m ∧ J m ≤ 1000000 := fun m => (hb m).2
      have t0 : 0 ≤ g_T C0 M0 U (j : Int) := by
        have a := g_ll_b M0 (j : Int) 26
        have b := g_ca_b M0 (j : Int) ((M0 222 55)).toNat
        have c := g_cp_0 (C0 := C0) (M0 := M0) (n := (j : Int)) hU ((M0 222 26)).toNat
        unfold g_T
        omega
      have i0 : 0 ≤ 1 + g_ci C0 M0 J (j : Int) ((M0 222 26)).toNat := by
        have := g_ci_0 (C0 := C0) (M0 := M0) (n := (j : Int)) hJ ((M0 222 26)).toNat
        omega
      refine ⟨fun i => if i = (j : Int) then g_sat (g_T C0 M0 U (j : Int)) else U i, fun i => if i = (j : Int) then g_sat (1 + g_ci C0 M0 J (j : Int) ((M0 222 26)).toNat) else J i, fun n => ?_, fun n a b => ?_⟩
      · show (0 ≤ (if n = (j : Int) then g_sat (g_T C0 M0 U (j : Int)) else U n) ∧ (if n = (j : Int) then g_sat (g_T C0 M0 U (j : Int)) else U n) ≤ 1000000) ∧ 0 ≤ (if n = (j : Int) then g_sat (1 + g_ci C0 M0 J (j : Int) ((M0 222 26)).toNat) else J n) ∧ (if n = (j : Int) then g_sat (1 + g_ci C0 M0 J (j : Int) ((M0 222 26)).toNat) else J n) ≤ 1000000
        by_cases e : n = (j : Int)
        · rw [if_pos e, if_pos e]; exact ⟨g_sat_b t0, g_sat_b i0⟩
        · rw [if_neg e, if_neg e]; exact hb n
      · have kT : g_T C0 M0 (fun i => if i = (j : Int) then g_sat (g_T C0 M0 U (j : Int)) else U i) n = g_T C0 M0 U n := by
          unfold g_T
          rw [hS.cp_c ok (U := U) (fun m x y => if_neg (by omega)) _ (by omega)]
        have kJ : g_ci C0 M0 (fun i => if i = (j : Int) then g_sat (1 + g_ci C0 M0 J (j : Int) ((M0 222 26)).toNat) else J i) n ((M0 222 26)).toNat = g_ci C0 M0 J n ((M0 222 26)).toNat := hS.ci_c ok (J := J) (fun m x y => if_neg (by omega)) _ (by omega)
        rw [kT, kJ]
        show (if n = (j : Int) then g_sat (g_T C0 M0 U (j : Int)) else U n) = _ ∧ (if n = (j : Int) then g_sat (1 + g_ci C0 M0 J (j : Int) ((M0 222 26)).toNat) else J n) = _
        by_cases e : n = (j : Int)
        · rw [if_pos e, if_pos e, e]; exact ⟨rfl, rfl⟩
        · rw [if_neg e, if_neg e]; exact hs n a (by omega)
  obtain ⟨U, J, hb, hs⟩ := key ((M0 222 86)).toNat (by omega)
  exact ⟨U, J, hb, fun n a b => hs n a (by omega)⟩
/-- sums over the parts of a node: nothing below, nothing above -/
theorem g_S.cp_lo (hS : g_S C0 M0) (n0 : 0 ≤ n) (n1 : n < (M0 222 86)) : ∀ k : Nat, (k : Int) ≤ C0 508 n → g_cp C0 M0 U n k = 0 ∧ g_ci C0 M0 J n k = 0 := by
  intro k
  have E0 := hS.eqF n0 (by omega)
  induction k with
  | zero => exact fun _ => ⟨rfl, rfl⟩
  | succ k ih =>
    intro hk
    have y : ¬ M0 250 (k : Int) = n := fun z => by
      have := (hS.pN (q := (k : Int)) (by omega) (by omega) n0 n1).mpr z
      omega
    rw [g_cp_n y, g_ci_n (fun z => y z.1)]
    exact ih (by omega)
theorem g_S.cp_hi (hS : g_S C0 M0) (n0 : 0 ≤ n) (n1 : n < (M0 222 86)) : ∀ k : Nat, C0 508 (n + 1) ≤ (k : Int) → (k : Int) ≤ (M0 222 26) → g_cp C0 M0 U n k = g_cp C0 M0 U n (C0 508 (n + 1)).toNat ∧ g_ci C0 M0 J n k = g_ci C0 M0 J n (C0 508 (n + 1)).toNat := by
  intro k
  have E1 := hS.eqF (n := n + 1) (by omega) (by omega)
  induction k with
  | zero =>
    intro a b
    rw [show (C0 508 (n + 1)).toNat = 0 by omega]
    exact ⟨rfl, rfl⟩
  | succ k ih =>
    intro a b
    by_cases z : (C0 508 (n + 1)).toNat = k + 1
    · rw [z]; exact ⟨rfl, rfl⟩
    · have y : ¬ M0 250 (k : Int) = n := fun w => by
        have := (hS.pN (q := (k : Int)) (by omega) (by omega) n0 n1).mpr w
        omega
      rw [g_cp_n y, g_ci_n (fun z => y z.1)]
      exact ih (by omega) (by omega)
theorem g_S.ca_at (hS : g_S C0 M0) (n0 : 0 ≤ n) (n1 : n < (M0 222 86)) : ∀ k : Nat, (k : Int) ≤ (M0 222 55) → g_ca M0 n k = (if (k : Int) ≤ C0 510 n then 0 else if (k : Int) ≤ C0 510 (n + 1) then (k : Int) - C0 510 n else C0 510 (n + 1) - C0 510 n) := by
  intro k
  have E0 := hS.eqF n0 (by omega)
  have E1 := hS.eqF (n := n + 1) (by omega) (by omega)
  have E2 := hS.eqS n0 n1
  induction k with
  | zero =>
    intro _
    rw [if_pos (by omega)]; rfl
  | succ k ih =>
    intro hk
    have an := hS.aN (a := (k : Int)) (by omega) (by omega) n0 n1
    have := ih (by omega)
    by_cases y : M0 267 (k : Int) = n
    · have z := an.mpr y
      rw [g_ca_s y, this, if_neg (show ¬ ((k + 1 : Nat) : Int) ≤ C0 510 n by omega), if_pos (show ((k + 1 : Nat) : Int) ≤ C0 510 (n + 1) by omega)]
      by_cases w : (k : Int) ≤ C0 510 n
      · rw [if_pos w]; omega
      · rw [if_neg w, if_pos (by omega)]; omega
    · rw [g_ca_n y, this]
      have z : ¬ (C0 510 n ≤ (k : Int) ∧ (k : Int) < C0 510 (n + 1)) := fun w => y (an.mp w)
      by_cases w : (k : Int) < C0 510 n
      · rw [if_pos (by omega), if_pos (by omega)]
      · rw [if_neg (show ¬ ((k + 1 : Nat) : Int) ≤ C0 510 n by omega), if_neg (show ¬ ((k + 1 : Nat) : Int) ≤ C0 510 (n + 1) by omega)]
        by_cases v : (k : Int) ≤ C0 510 n
        · rw [if_pos v]; omega
        · rw [if_neg v]
          by_cases u : (k : Int) ≤ C0 510 (n + 1)
          · rw [if_pos u]; omega
          · rw [if_neg u]
end Counts
