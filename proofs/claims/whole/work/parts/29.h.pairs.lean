/-! WHERE CLASS AND MODEL REMEMBER THE SAME -/
def g_PP (C M : ax_V) (U : Int → Int) : Nat → Int → Int → Int → Prop
  | 0 => fun _ _ _ => False
  | k + 1 => fun n i j =>
    (∃ l : Nat, l < 26 ∧ ¬ M 236 (26 * n + (l : Int)) = 0 ∧ i = g_cp C M U n ((M 222 26)).toNat + g_ca M n ((M 222 55)).toNat + g_ll M n l ∧ j = g_ll M n l) ∨
    (∃ a : Nat, a < ((M 222 55)).toNat ∧ M 267 (a : Int) = n ∧ i = g_cp C M U n ((M 222 26)).toNat + g_ca M n a ∧ j = g_ll M n 26 + g_ca M n a) ∨
    ∃ q : Nat, q < ((M 222 26)).toNat ∧ M 250 (q : Int) = n ∧ ∃ i' j', (((M 241 (q : Int) = 6 ∨ M 241 (q : Int) = 19) ∧ i' = 0 ∧ j' = 0) ∨ (M 241 (q : Int) = 22 ∧ g_PP C M U k (C 520 (q : Int)) i' j')) ∧ i = g_cp C M U n q + i' ∧ j = g_sp C M U n q + j'
section Pairs
variable {C0 M0 : ax_V} {U J : Int → Int} {n : Int}
theorem g_ll_f (M : ax_V) (n : Int) : ∀ (k : Nat) (x : Int), 0 ≤ x → x < g_ll M n k → ∃ l : Nat, l < k ∧ ¬ M 236 (26 * n + (l : Int)) = 0 ∧ g_ll M n l = x := by
  intro k
  induction k with
  | zero => exact fun x a b => absurd b (by show ¬ x < 0; omega)
  | succ k ih =>
    intro x a b
    by_cases z : M 236 (26 * n + (k : Int)) = 0
    · rw [g_ll_n z] at b
      obtain ⟨l, l1, l2⟩ := ih x a b
      exact ⟨l, by omega, l2⟩
    · rw [g_ll_s z] at b
      by_cases y : x = g_ll M n k
      · exact ⟨k, by omega, z, y.symm⟩
      · obtain ⟨l, l1, l2⟩ := ih x a (by omega)
        exact ⟨l, by omega, l2⟩
theorem g_ca_f (M : ax_V) (n : Int) : ∀ (k : Nat) (x : Int), 0 ≤ x → x < g_ca M n k → ∃ l : Nat, l < k ∧ M 267 (l : Int) = n ∧ g_ca M n l = x := by
  intro k
  induction k with
  | zero => exact fun x a b => absurd b (by show ¬ x < 0; omega)
  | succ k ih =>
    intro x a b
    by_cases z : M 267 (k : Int) = n
    · rw [g_ca_s z] at b
      by_cases y : x = g_ca M n k
      · exact ⟨k, by omega, z, y.symm⟩
      · obtain ⟨l, l1, l2⟩ := ih x a (by omega)
        exact ⟨l, by omega, l2⟩
    · rw [g_ca_n z] at b
      obtain ⟨l, l1, l2⟩ := ih x a b
      exact ⟨l, by omega, l2⟩
theorem g_cp_f (C0 M0 : ax_V) (U : Int → Int) (n : Int) : ∀ (k : Nat) (x : Int), 0 ≤ x → x < g_cp C0 M0 U n k → ∃ l : Nat, l < k ∧ M0 250 (l : Int) = n ∧ g_cp C0 M0 U n l ≤ x ∧ x < g_cp C0 M0 U n l + g_vl C0 M0 U (l : Int) := by
  intro k
  induction k with
  | zero => exact fun x a b => absurd b (by show ¬ x < 0; omega)
  | succ k ih =>
    intro x a b
    by_cases z : M0 250 (k : Int) = n
    · rw [g_cp_s z] at b
      by_cases y : g_cp C0 M0 U n k ≤ x
      · exact ⟨k, by omega, z, y, b⟩
      · obtain ⟨l, l1, l2⟩ := ih x a (by omega)
        exact ⟨l, by omega, l2⟩
    · rw [g_cp_n z] at b
      obtain ⟨l, l1, l2⟩ := ih x a b
      exact ⟨l, by omega, l2⟩
/-- a called node is no larger -/
theorem g_UJ.sub (hUJ : g_UJ C0 M0 U J) (hS : g_S C0 M0) (ok : g_N2 M0) (h3 : g_T C0 M0 U n ≤ 300) {q : Nat} (q1 : q < ((M0 222 26)).toNat) (qn : M0 250 (q : Int) = n) (o : M0 241 (q : Int) = 22) : (0 ≤ C0 520 (q : Int) ∧ C0 520 (q : Int) < n ∧ n < (M0 222 86)) ∧ g_T C0 M0 U (C0 520 (q : Int)) ≤ 300 ∧ U (C0 520 (q : Int)) = g_T C0 M0 U (C0 520 (q : Int)) ∧ g_vl C0 M0 U (q : Int) = U (C0 520 (q : Int)) := by
  have bU : ∀ m, 0 ≤ U m ∧ U m ≤ 1000000 := fun m => (hUJ.1 m).1
  have c := ok.call hS (q := (q : Int)) (by omega) (by omega) o
  have pn := (hS.pnode (q := (q : Int)) (by omega) (by omega)).1
  have v : g_vl C0 M0 U (q : Int) = U (C0 520 (q : Int)) := by unfold g_vl; rw [if_neg (by omega), if_pos o]
  have s := g_cp_s (C0 := C0) (U := U) qn
  have m := g_cp_m (C0 := C0) (M0 := M0) (n := n) bU (show q + 1 ≤ ((M0 222 26)).toNat by omega)
  have c0 := g_cp_0 (C0 := C0) (M0 := M0) (n := n) bU q
  have L := g_ll_b M0 n 26
  have A := g_ca_b M0 n ((M0 222 55)).toNat
  have u3 : U (C0 520 (q : Int)) ≤ 300 := by unfold g_T at h3; omega
  have e := (hUJ.2 _ c.1 (by omega)).1
  have t3 : g_T C0 M0 U (C0 520 (q : Int)) ≤ 300 := by rw [e] at u3; exact (g_sat_le (by decide)).mp u3
  exact ⟨⟨c.1, by omega, by omega⟩, t3, by rw [e]; exact g_sat_eq (m := 300) (by decide) t3, v⟩
/-- where a part's region lies -/
theorem g_UJ.reg (hUJ : g_UJ C0 M0 U J) {q : Nat} (q1 : q < ((M0 222 26)).toNat) (qn : M0 250 (q : Int) = n) : 0 ≤ g_cp C0 M0 U n q ∧ g_cp C0 M0 U n q + g_vl C0 M0 U (q : Int) ≤ g_cp C0 M0 U n ((M0 222 26)).toNat ∧ ∀ q' : Nat, q' < q → M0 250 (q' : Int) = n → g_cp C0 M0 U n q' + g_vl C0 M0 U (q' : Int) ≤ g_cp C0 M0 U n q := by
  have bU : ∀ m, 0 ≤ U m ∧ U m ≤ 1000000 := fun m => (hUJ.1 m).1
  have s := g_cp_s (C0 := C0) (U := U) qn
  have m := g_cp_m (C0 := C0) (M0 := M0) (n := n) bU (show q + 1 ≤ ((M0 222 26)).toNat by omega)
  refine ⟨g_cp_0 bU q, by omega, fun q' a b => ?_⟩
  have s' := g_cp_s (C0 := C0) (U := U) b
  have m' := g_cp_m (C0 := C0) (M0 := M0) (n := n) bU (show q' + 1 ≤ q by omega)
  omega
theorem g_UJ.pb (hUJ : g_UJ C0 M0 U J) (hS : g_S C0 M0) (ok : g_N2 M0) : ∀ (k : Nat) (n : Int), g_T C0 M0 U n ≤ 300 → ∀ i j, g_PP C0 M0 U k n i j → (0 ≤ i ∧ i < g_T C0 M0 U n) ∧ 0 ≤ j ∧ j < g_T C0 M0 U n := by
  intro k
  have bU : ∀ m, 0 ≤ U m ∧ U m ≤ 1000000 := fun m => (hUJ.1 m).1
  induction k with
  | zero => exact fun n _ i j h => absurd h id
  | succ k ih =>
    intro n h3 i j h
    have L := g_ll_b M0 n 26
    have A := g_ca_b M0 n ((M0 222 55)).toNat
    have P := g_cp_0 (C0 := C0) (M0 := M0) (n := n) bU ((M0 222 26)).toNat
    have eT : g_T C0 M0 U n = g_ll M0 n 26 + g_ca M0 n ((M0 222 55)).toNat + g_cp C0 M0 U n ((M0 222 26)).toNat := rfl
    rcases h with ⟨l, l1, l2, l3, l4⟩ | ⟨a, l1, l2, l3, l4⟩ | ⟨q, q1, qn, i', j', hs, l3, l4⟩
    · have b := g_ll_b M0 n l
      have s := g_ll_s l2
      have m := g_ll_m M0 n (show l + 1 ≤ 26 by omega)
      omega
    · have b := g_ca_b M0 n a
      have s := g_ca_s l2
      have m := g_ca_m M0 n (show a + 1 ≤ ((M0 222 55)).toNat by omega)
      omega
    · have rg := hUJ.reg q1 qn
      have esp : g_sp C0 M0 U n q = g_ll M0 n 26 + g_ca M0 n ((M0 222 55)).toNat + g_cp C0 M0 U n q := rfl
      rcases hs with ⟨o, z1, z2⟩ | ⟨o, z⟩
      · have v : g_vl C0 M0 U (q : Int) = 1 := by unfold g_vl; rw [if_pos o]
        omega
      · obtain ⟨w, t3, eU, v⟩ := hUJ.sub hS ok h3 q1 qn o
        have b := ih _ t3 i' j' z
        omega
/-- one to one -/
theorem g_UJ.bij (hUJ : g_UJ C0 M0 U J) (hS : g_S C0 M0) (ok : g_N2 M0) : ∀ (k : Nat) (n : Int), g_T C0 M0 U n ≤ 300 → ∀ i j i2 j2, g_PP C0 M0 U k n i j → g_PP C0 M0 U k n i2 j2 → (i = i2 ↔ j = j2) := by
  intro k
  have bU : ∀ m, 0 ≤ U m ∧ U m ≤ 1000000 := fun m => (hUJ.1 m).1
  induction k with
  | zero => exact fun n _ i j i2 j2 h => absurd h id
  | succ k ih =>
    intro n h3 i j i2 j2 h h'
    have L := g_ll_b M0 n 26
    have A := g_ca_b M0 n ((M0 222 55)).toNat
    have P := g_cp_0 (C0 := C0) (M0 := M0) (n := n) bU ((M0 222 26)).toNat
    -- which kind of place it is
    have last : ∀ l : Nat, l < 26 → ¬ M0 236 (26 * n + (l : Int)) = 0 → 0 ≤ g_ll M0 n l ∧ g_ll M0 n l < g_ll M0 n 26 := fun l a b => by
      have b2 := g_ll_b M0 n l
      have s := g_ll_s b
      have m := g_ll_m M0 n (show l + 1 ≤ 26 by omega)
      omega
    have aut : ∀ a : Nat, a < ((M0 222 55)).toNat → M0 267 (a : Int) = n → 0 ≤ g_ca M0 n a ∧ g_ca M0 n a < g_ca M0 n ((M0 222 55)).toNat := fun a x y => by
      have b2 := g_ca_b M0 n a
      have s := g_ca_s y
      have m := g_ca_m M0 n (show a + 1 ≤ ((M0 222 55)).toNat by omega)
      omega
    have esp : ∀ q, g_sp C0 M0 U n q = g_ll M0 n 26 + g_ca M0 n ((M0 222 55)).toNat + g_cp C0 M0 U n q := fun q => rfl
    have part : ∀ q : Nat, q < ((M0 222 26)).toNat → M0 250 (q : Int) = n → ∀ i' j', (((M0 241 (q : Int) = 6 ∨ M0 241 (q : Int) = 19) ∧ i' = 0 ∧ j' = 0) ∨ (M0 241 (q : Int) = 22 ∧ g_PP C0 M0 U k (C0 520 (q : Int)) i' j')) → (0 ≤ i' ∧ i' < g_vl C0 M0 U (q : Int)) ∧ 0 ≤ j' ∧ j' < g_vl C0 M0 U (q : Int) := fun q q1 qn i' j' hs => by
      rcases hs with ⟨o, z1, z2⟩ | ⟨o, z⟩
      · have v : g_vl C0 M0 U (q : Int) = 1 := by unfold g_vl; rw [if_pos o]
        omega
      · obtain ⟨w, t3, eU, v⟩ := hUJ.sub hS ok h3 q1 qn o
        have b := hUJ.pb hS ok k _ t3 i' j' z
        omega
    rcases h with ⟨l, l1, l2, l3, l4⟩ | ⟨a, l1, l2, l3, l4⟩ | ⟨q, q1, qn, i', j', hs, l3, l4⟩
    · have u := last l l1 l2
      rcases h' with ⟨l', m1, m2, m3, m4⟩ | ⟨a', m1, m2, m3, m4⟩ | ⟨q', p1, pn, i'', j'', hs', m3, m4⟩
      · omega
      · have v := aut a' m1 m2; omega
      · have r := hUJ.reg p1 pn
        have v := part q' p1 pn i'' j'' hs'
        have := esp q'
        omega
    · have u := aut a l1 l2
      rcases h' with ⟨l', m1, m2, m3, m4⟩ | ⟨a', m1, m2, m3, m4⟩ | ⟨q', p1, pn, i'', j'', hs', m3, m4⟩
      · have v := last l' m1 m2; omega
      · omega
      · have r := hUJ.reg p1 pn
        have v := part q' p1 pn i'' j'' hs'
        have := esp q'
        omega
    · have r0 := hUJ.reg q1 qn
      have v0 := part q q1 qn i' j' hs
      have e0 := esp q
      rcases h' with ⟨l', m1, m2, m3, m4⟩ | ⟨a', m1, m2, m3, m4⟩ | ⟨q', p1, pn, i'', j'', hs', m3, m4⟩
      · have v := last l' m1 m2; omega
      · have v := aut a' m1 m2; omega
      · have r := hUJ.reg p1 pn
        have v := part q' p1 pn i'' j'' hs'
        have e1 := esp q'
        by_cases e : q = q'
        · rw [← e] at hs' m3 m4
          have key : i' = i'' ↔ j' = j'' := by
            rcases hs with ⟨o, z1, z2⟩ | ⟨o, z⟩
            · rcases hs' with ⟨o', y1, y2⟩ | ⟨o', y⟩
              · omega
              · omega
            · rcases hs' with ⟨o', y1, y2⟩ | ⟨o', y⟩
              · omega
              · obtain ⟨w, t3, eU, v⟩ := hUJ.sub hS ok h3 q1 qn o
                exact ih _ t3 i' j' i'' j'' z y
          omega
        · by_cases w : q < q'
          · have := r.2.2 q w qn; omega
          · have := r0.2.2 q' (by omega) pn; omega
/-- every place has its pair -/
theorem g_UJ.all (hUJ : g_UJ C0 M0 U J) (hS : g_S C0 M0) (ok : g_N2 M0) : ∀ (k : Nat) (n : Int), 0 ≤ n → n < (k : Int) → g_T C0 M0 U n ≤ 300 → (∀ i, 0 ≤ i → i < g_T C0 M0 U n → ∃ j, g_PP C0 M0 U k n i j) ∧ ∀ j, 0 ≤ j → j < g_T C0 M0 U n → ∃ i, g_PP C0 M0 U k n i j := by
  intro k
  have bU : ∀ m, 0 ≤ U m ∧ U m ≤ 1000000 := fun m => (hUJ.1 m).1
  induction k with
  | zero => exact fun n a b => by omega
  | succ k ih =>
    intro n n0 n1 h3
    have eT : g_T C0 M0 U n = g_ll M0 n 26 + g_ca M0 n ((M0 222 55)).toNat + g_cp C0 M0 U n ((M0 222 26)).toNat := rfl
    have L := g_ll_b M0 n 26
    have A := g_ca_b M0 n ((M0 222 55)).toNat
    have P := g_cp_0 (C0 := C0) (M0 := M0) (n := n) bU ((M0 222 26)).toNat
    have part : ∀ x, 0 ≤ x → x < g_cp C0 M0 U n ((M0 222 26)).toNat → ∃ q : Nat, q < ((M0 222 26)).toNat ∧ M0 250 (q : Int) = n ∧ (g_cp C0 M0 U n q ≤ x ∧ x < g_cp C0 M0 U n q + g_vl C0 M0 U (q : Int)) ∧ (((M0 241 (q : Int) = 6 ∨ M0 241 (q : Int) = 19) ∧ x = g_cp C0 M0 U n q) ∨ (M0 241 (q : Int) = 22 ∧ (∃ j', g_PP C0 M0 U k (C0 520 (q : Int)) (x - g_cp C0 M0 U n q) j') ∧ ∃ i', g_PP C0 M0 U k (C0 520 (q : Int)) i' (x - g_cp C0 M0 U n q))) := fun x a b => by
      obtain ⟨q, q1, qn, qa, qb⟩ := g_cp_f C0 M0 U n _ x a b
      refine ⟨q, q1, qn, ⟨qa, qb⟩, ?_⟩
      by_cases o : M0 241 (q : Int) = 6 ∨ M0 241 (q : Int) = 19
      · have v : g_vl C0 M0 U (q : Int) = 1 := by unfold g_vl; rw [if_pos o]
        exact Or.inl ⟨o, by omega⟩
      · by_cases o2 : M0 241 (q : Int) = 22
        · obtain ⟨w, t3, eU, v⟩ := hUJ.sub hS ok h3 q1 qn o2
          have := ih _ w.1 (by omega) t3
          exact Or.inr ⟨o2, this.1 _ (by omega) (by omega), this.2 _ (by omega) (by omega)⟩
        · exfalso
          have v : g_vl C0 M0 U (q : Int) = 0 := by unfold g_vl; rw [if_neg o, if_neg o2]
          omega
    refine ⟨fun i i0 i1 => ?_, fun j j0 j1 => ?_⟩
    · by_cases a : i < g_cp C0 M0 U n ((M0 222 26)).toNat
      · obtain ⟨q, q1, qn, qr, ⟨o, e⟩ | ⟨o, ⟨j', hj⟩, -⟩⟩ := part i i0 a
        · exact ⟨_, Or.inr (Or.inr ⟨q, q1, qn, 0, 0, Or.inl ⟨o, rfl, rfl⟩, by omega, rfl⟩)⟩
        · exact ⟨_, Or.inr (Or.inr ⟨q, q1, qn, _, j', Or.inr ⟨o, hj⟩, by omega, rfl⟩)⟩
      · by_cases b : i < g_cp C0 M0 U n ((M0 222 26)).toNat + g_ca M0 n ((M0 222 55)).toNat
        · obtain ⟨x, x1, x2, x3⟩ := g_ca_f M0 n ((M0 222 55)).toNat (i - g_cp C0 M0 U n ((M0 222 26)).toNat) (by omega) (by omega)
          exact ⟨_, Or.inr (Or.inl ⟨x, x1, x2, by omega, rfl⟩)⟩
        · obtain ⟨x, x1, x2, x3⟩ := g_ll_f M0 n 26 (i - g_cp C0 M0 U n ((M0 222 26)).toNat - g_ca M0 n ((M0 222 55)).toNat) (by omega) (by omega)
          exact ⟨_, Or.inl ⟨x, x1, x2, by omega, rfl⟩⟩
    · by_cases a : j < g_ll M0 n 26
      · obtain ⟨x, x1, x2, x3⟩ := g_ll_f M0 n 26 j j0 a
        exact ⟨_, Or.inl ⟨x, x1, x2, rfl, x3.symm⟩⟩
      · by_cases b : j < g_ll M0 n 26 + g_ca M0 n ((M0 222 55)).toNat
        · obtain ⟨x, x1, x2, x3⟩ := g_ca_f M0 n ((M0 222 55)).toNat (j - g_ll M0 n 26) (by omega) (by omega)
          exact ⟨_, Or.inr (Or.inl ⟨x, x1, x2, rfl, by omega⟩)⟩
        · obtain ⟨q, q1, qn, qr, ⟨o, e⟩ | ⟨o, -, i', hi⟩⟩ := part (j - g_ll M0 n 26 - g_ca M0 n ((M0 222 55)).toNat) (by omega) (by omega)
          · exact ⟨_, Or.inr (Or.inr ⟨q, q1, qn, 0, 0, Or.inl ⟨o, rfl, rfl⟩, rfl, by unfold g_sp; omega⟩)⟩
          · exact ⟨_, Or.inr (Or.inr ⟨q, q1, qn, i', _, Or.inr ⟨o, hi⟩, rfl, by unfold g_sp; omega⟩)⟩
/-- first values are the same -/
theorem g_UJ.fst (hUJ : g_UJ C0 M0 U J) (hS : g_S C0 M0) (ok : g_N2 M0) {Fm : Int → Int} {W : ax_V} (hF : ∀ m, 0 ≤ m → m < (M0 222 86) → g_T C0 M0 U m ≤ 300 → J m ≤ 60 → g_FM C0 M0 U Fm m) (hW : ∀ m, 0 ≤ m → m < (M0 222 86) → g_T C0 M0 U m ≤ 300 → g_NK C0 M0 U W m 26 ((M0 222 55)).toNat ((M0 222 26)).toNat) (hJ : ∀ q : Nat, q < ((M0 222 26)).toNat → M0 241 (q : Int) = 22 → J (M0 250 (q : Int)) ≤ 60 → J (C0 520 (q : Int)) ≤ 60) : ∀ (k : Nat) (n : Int), 0 ≤ n → n < (M0 222 86) → g_T C0 M0 U n ≤ 300 → J n ≤ 60 → ∀ i j, g_PP C0 M0 U k n i j → Fm (300 * n + i) = W 290 (300 * n + j) := by
  intro k
  induction k with
  | zero => exact fun n _ _ _ _ i j h => absurd h id
  | succ k ih =>
    intro n n0 n1 h3 hj i j h
    have f := hF n n0 n1 h3 hj
    have w := hW n n0 n1 h3
    rcases h with ⟨l, l1, l2, l3, l4⟩ | ⟨a, l1, l2, l3, l4⟩ | ⟨q, q1, qn, i', j', hs, l3, l4⟩
    · rw [l3, l4, f.1 l l1 l2, (w.1 l l1 l2).2]
    · rw [l3, l4, f.2.1 a l1 l2, (w.2.1 a l1 l2).2]
    · rcases hs with ⟨o, z1, z2⟩ | ⟨o, z⟩
      · rw [l3, l4, z1, z2, Int.add_zero, Int.add_zero, (f.2.2 q q1 qn).1 o, ((w.2.2 q q1 qn).1 o).2]
      · obtain ⟨ww, t3, eU, v⟩ := hUJ.sub hS ok h3 q1 qn o
        have b := hUJ.pb hS ok k _ t3 i' j' z
        rw [l3, l4, (f.2.2 q q1 qn).2 o i' b.1.1 (by omega), ((w.2.2 q q1 qn).2 o).2 j' b.2.1 (by omega)]
        exact ih _ ww.1 (by omega) t3 (hJ q q1 o (by rw [qn]; exact hj)) i' j' z
end Pairs
