/-! WHAT HOLDS of a program that is ready to run, said once -/
def h_X (C M P : ax_V) (F G Hh S U J Im : Int → Int) : Prop := g_S C M ∧ g_N2 M ∧ (∀ k, 3 ≤ k → k ≤ 6 → ∀ t, t < 700 → ¬ g_FA C M F G Hh k t) ∧ g_F C M F ∧ g_G M G ∧ g_ST M G S ∧ (∀ q, -1 ≤ S q ∧ S q ≤ 52) ∧ g_fr g_XP C P ∧ g_UJ C M U J ∧ (∀ m, 0 ≤ m → m < (M 222 86) → U m ≤ 300 → J m ≤ 60 → P 514 m = U m ∧ g_DN C M U S P m) ∧ ∀ m, 0 ≤ m → m < (M 222 86) → U m ≤ 300 → J m ≤ 60 → (∀ k i j, g_PP C M U k m i j → P 515 (300 * m + i) = Im (300 * m + j)) ∧ ∀ k, h_MS C M U F k m (fun j => Im (300 * m + j))
def h_N (M : ax_V) (U J : Int → Int) (n : Int) : Prop := (0 ≤ n ∧ n < (M 222 86)) ∧ U n ≤ 300 ∧ J n ≤ 60
section Ctx
variable {C0 M0 P : ax_V} {F G Hh S U J Im : Int → Int} {n q e a : Int} {k : Nat}
theorem h_X.hS (h : h_X C0 M0 P F G Hh S U J Im) : g_S C0 M0 := h.1
theorem h_X.ok (h : h_X C0 M0 P F G Hh S U J Im) : g_N2 M0 := h.2.1
theorem h_X.n3 (h : h_X C0 M0 P F G Hh S U J Im) : ∀ t, t < 700 → ¬ g_FA C0 M0 F G Hh 3 t := h.2.2.1 3 (by decide) (by decide)
theorem h_X.n4 (h : h_X C0 M0 P F G Hh S U J Im) : ∀ t, t < 700 → ¬ g_FA C0 M0 F G Hh 4 t := h.2.2.1 4 (by decide) (by decide)
theorem h_X.n6 (h : h_X C0 M0 P F G Hh S U J Im) : ∀ t, t < 700 → ¬ g_FA C0 M0 F G Hh 6 t := h.2.2.1 6 (by decide) (by decide)
theorem h_X.hF (h : h_X C0 M0 P F G Hh S U J Im) : g_F C0 M0 F := h.2.2.2.1
theorem h_X.hG (h : h_X C0 M0 P F G Hh S U J Im) : g_G M0 G := h.2.2.2.2.1
theorem h_X.hT (h : h_X C0 M0 P F G Hh S U J Im) : g_ST M0 G S := h.2.2.2.2.2.1
theorem h_X.hr (h : h_X C0 M0 P F G Hh S U J Im) : ∀ q, -1 ≤ S q ∧ S q ≤ 52 := h.2.2.2.2.2.2.1
theorem h_X.hP (h : h_X C0 M0 P F G Hh S U J Im) : g_fr g_XP C0 P := h.2.2.2.2.2.2.2.1
theorem h_X.UJ (h : h_X C0 M0 P F G Hh S U J Im) : g_UJ C0 M0 U J := h.2.2.2.2.2.2.2.2.1
theorem h_X.dn (h : h_X C0 M0 P F G Hh S U J Im) (hn : h_N M0 U J n) : g_DN C0 M0 U S P n := (h.2.2.2.2.2.2.2.2.2.1 n hn.1.1 hn.1.2 hn.2.1 hn.2.2).2
theorem h_X.u (h : h_X C0 M0 P F G Hh S U J Im) (hn : h_N M0 U J n) : P 514 n = U n := (h.2.2.2.2.2.2.2.2.2.1 n hn.1.1 hn.1.2 hn.2.1 hn.2.2).1
theorem h_X.im (h : h_X C0 M0 P F G Hh S U J Im) (hn : h_N M0 U J n) : (∀ k i j, g_PP C0 M0 U k n i j → P 515 (300 * n + i) = Im (300 * n + j)) ∧ ∀ k, h_MS C0 M0 U F k n (fun j => Im (300 * n + j)) := h.2.2.2.2.2.2.2.2.2.2 n hn.1.1 hn.1.2 hn.2.1 hn.2.2
theorem h_X.t (h : h_X C0 M0 P F G Hh S U J Im) (hn : h_N M0 U J n) : g_T C0 M0 U n ≤ 300 ∧ U n = g_T C0 M0 U n := by
  have u := (h.UJ.2 n hn.1.1 hn.1.2).1
  have b := hn.2.1
  have t : g_T C0 M0 U n ≤ 300 := (g_sat_le (by decide)).mp (by rw [← u]; exact b)
  exact ⟨t, by rw [u]; exact g_sat_eq (m := 300) (by decide) t⟩
theorem g_ci_m (hJ : ∀ m, 0 ≤ J m ∧ J m ≤ 1000000) (k d : Nat) : g_ci C0 M0 J n k ≤ g_ci C0 M0 J n (k + d) := by
  induction d with
  | zero => exact Int.le_refl _
  | succ d ih =>
    have e : g_ci C0 M0 J n (k + (d + 1)) = g_ci C0 M0 J n (k + d) + if M0 250 ((k + d : Nat) : Int) = n ∧ M0 241 ((k + d : Nat) : Int) = 22 then J (C0 520 ((k + d : Nat) : Int)) else 0 := rfl
    rw [e]
    have := (hJ (C0 520 ((k + d : Nat) : Int))).1
    split <;> omega
/-- a called node is as ready -/
theorem h_X.sub (h : h_X C0 M0 P F G Hh S U J Im) (hn : h_N M0 U J n) (q0 : 0 ≤ q) (q1 : q < (M0 222 26)) (qn : M0 250 q = n) (o : M0 241 q = 22) : h_N M0 U J (C0 520 q) ∧ C0 520 q < n ∧ g_vl C0 M0 U q = U (C0 520 q) := by
  obtain ⟨m, rfl⟩ := Int.eq_ofNat_of_zero_le q0
  have s := h.UJ.sub h.hS h.ok (h.t hn).1 (q := m) (by omega) qn o
  have j := (h.UJ.2 n hn.1.1 hn.1.2).2
  have jb := hn.2.2
  have c : 1 + g_ci C0 M0 J n ((M0 222 26)).toNat ≤ 60 := (g_sat_le (by decide)).mp (by rw [← j]; exact jb)
  have b := fun x => (h.UJ.1 x).2
  have e := g_ci_s (C0 := C0) (M0 := M0) (J := J) (n := n) (k := m) ⟨qn, o⟩
  have l := g_ci_m (C0 := C0) (M0 := M0) (n := n) b (m + 1) (((M0 222 26)).toNat - (m + 1))
  rw [show m + 1 + (((M0 222 26)).toNat - (m + 1)) = ((M0 222 26)).toNat by omega] at l
  have z := g_ci_0 (C0 := C0) (M0 := M0) (n := n) b m
  have sb := s.2.2.1
  exact ⟨⟨⟨s.1.1, by omega⟩, by rw [sb]; exact s.2.1, by omega⟩, s.1.2.1, s.2.2.2⟩
theorem h_X.hcl (h : h_X C0 M0 P F G Hh S U J Im) : ∀ e i, g_of M0 e i → M0 235 (26 * M0 258 e + M0 265 i) = M0 235 (26 * M0 258 e + M0 265 (M0 259 e)) := fun e i o => Classical.byContradiction fun z => by
  have nd := h.hS.node o.1.1 o.1.2
  have pl := ((h.hS.2.2.2.2.1.2.1 e o.1.1 o.1.2).2.2.2.2.2.2 i o.2.1 o.2.2).2.2.2
  exact h.n4 699 (by decide) ((g_FA4 699).mpr ⟨M0 258 e, ⟨nd.1, nd.2.1⟩, Or.inr (Or.inr ⟨e, o.1, rfl, Or.inl (Or.inl ⟨i, o, z, by omega⟩)⟩)⟩)
theorem h_X.hec (h : h_X C0 M0 P F G Hh S U J Im) : ∀ e, 0 ≤ e → e < (M0 222 44) → g_ec M0 e = M0 235 (26 * M0 258 e + M0 265 (M0 259 e)) := fun e e0 e1 => by
  unfold g_ec
  by_cases z : M0 263 e = -1
  · rw [if_pos z]
  · rw [if_neg z]
    have nd := h.hS.node e0 e1
    have fe := h.hS.2.2.2.2.1.2.1 e e0 e1
    have o : g_of M0 e (M0 259 e) := ⟨⟨e0, e1⟩, Int.le_refl _, by have := fe.2.2.1; omega⟩
    have pl := (fe.2.2.2.2.2.2 _ o.2.1 o.2.2).2.2.2
    exact Classical.byContradiction fun y => h.n4 699 (by decide) ((g_FA4 699).mpr ⟨M0 258 e, ⟨nd.1, nd.2.1⟩, Or.inr (Or.inr ⟨e, ⟨e0, e1⟩, rfl, Or.inr ⟨fun w => z ((h.hS.ea e0 e1).mp w), _, o, fun w => y w.symm, by omega⟩⟩)⟩)
/-- where things lie -/
theorem h_X.c5 (h : h_X C0 M0 P F G Hh S U J Im) (hn : h_N M0 U J n) (q0 : 0 ≤ q) (q1 : q < (M0 222 26)) (qn : M0 250 q = n) : P 531 q = g_cp C0 M0 U n q.toNat ∧ 0 ≤ g_cp C0 M0 U n q.toNat ∧ 0 ≤ g_vl C0 M0 U q ∧ g_cp C0 M0 U n q.toNat + g_vl C0 M0 U q ≤ g_cp C0 M0 U n ((M0 222 26)).toNat := by
  obtain ⟨m, rfl⟩ := Int.eq_ofNat_of_zero_le q0
  have d := (h.dn hn).1 m (by omega) qn
  have r := h.UJ.reg (C0 := C0) (q := m) (n := n) (by omega) qn
  have v := g_vl_b (C0 := C0) (M0 := M0) (fun x => (h.UJ.1 x).1) (m : Int)
  rw [Int.toNat_natCast]
  exact ⟨d, r.1, v.1, r.2.1⟩
theorem h_X.cd (h : h_X C0 M0 P F G Hh S U J Im) {x : Int} (q0 : 0 ≤ q) (q1 : q < (M0 222 26)) (qn : M0 250 q = n) (x0 : 0 ≤ x) (x1 : x < (M0 222 26)) (xn : M0 250 x = n) (ne : ¬ x = q) : g_cp C0 M0 U n x.toNat + g_vl C0 M0 U x ≤ g_cp C0 M0 U n q.toNat ∨ g_cp C0 M0 U n q.toNat + g_vl C0 M0 U q ≤ g_cp C0 M0 U n x.toNat := by
  obtain ⟨m, rfl⟩ := Int.eq_ofNat_of_zero_le q0
  obtain ⟨y, rfl⟩ := Int.eq_ofNat_of_zero_le x0
  rw [Int.toNat_natCast, Int.toNat_natCast]
  by_cases w : y < m
  · exact Or.inl ((h.UJ.reg (C0 := C0) (q := m) (n := n) (by omega) qn).2.2 y w xn)
  · exact Or.inr ((h.UJ.reg (C0 := C0) (q := y) (n := n) (by omega) xn).2.2 m (by omega) qn)
theorem h_X.a5 (h : h_X C0 M0 P F G Hh S U J Im) (hn : h_N M0 U J n) (a0 : 0 ≤ a) (a1 : a < (M0 222 55)) (an : M0 267 a = n) : P 560 a = g_cp C0 M0 U n ((M0 222 26)).toNat + g_ca M0 n a.toNat ∧ 0 ≤ g_ca M0 n a.toNat ∧ g_ca M0 n a.toNat + 1 ≤ g_ca M0 n ((M0 222 55)).toNat := by
  obtain ⟨m, rfl⟩ := Int.eq_ofNat_of_zero_le a0
  rw [Int.toNat_natCast]
  have s := g_ca_s (M := M0) (n := n) (k := m) an
  have l := g_ca_m M0 n (k := m + 1) (m := ((M0 222 55)).toNat) (by omega)
  exact ⟨(h.dn hn).2.1 m (by omega) an, (g_ca_b M0 n m).1, by omega⟩
theorem h_ad {x : Int} (a0 : 0 ≤ a) (an : M0 267 a = n) (x0 : 0 ≤ x) (xn : M0 267 x = n) (ne : ¬ x = a) : ¬ g_ca M0 n x.toNat = g_ca M0 n a.toNat := by
  obtain ⟨m, rfl⟩ := Int.eq_ofNat_of_zero_le a0
  obtain ⟨y, rfl⟩ := Int.eq_ofNat_of_zero_le x0
  rw [Int.toNat_natCast, Int.toNat_natCast]
  have s := g_ca_s (M := M0) (n := n) (k := m) an
  have s' := g_ca_s (M := M0) (n := n) (k := y) xn
  by_cases w : y < m
  · have := g_ca_m M0 n (k := y + 1) (m := m) (by omega); omega
  · have := g_ca_m M0 n (k := m + 1) (m := y) (by omega); omega
theorem h_X.l5 (h : h_X C0 M0 P F G Hh S U J Im) (hn : h_N M0 U J n) {l : Int} (l0 : 0 ≤ l) (l1 : l < 26) (hl : ¬ M0 236 (26 * n + l) = 0) : P 540 (26 * n + l) = g_cp C0 M0 U n ((M0 222 26)).toNat + g_ca M0 n ((M0 222 55)).toNat + g_ll M0 n l.toNat ∧ 0 ≤ g_ll M0 n l.toNat ∧ g_ll M0 n l.toNat + 1 ≤ g_ll M0 n 26 := by
  obtain ⟨m, rfl⟩ := Int.eq_ofNat_of_zero_le l0
  rw [Int.toNat_natCast]
  have s := g_ll_s (M := M0) (n := n) (k := m) hl
  have b := g_ll_m M0 n (k := m + 1) (m := 26) (by omega)
  exact ⟨(h.dn hn).2.2.1 m (by omega) hl, (g_ll_b M0 n m).1, by omega⟩
theorem h_ld {l x : Int} (l0 : 0 ≤ l) (hl : ¬ M0 236 (26 * n + l) = 0) (x0 : 0 ≤ x) (hx : ¬ M0 236 (26 * n + x) = 0) (ne : ¬ x = l) : ¬ g_ll M0 n x.toNat = g_ll M0 n l.toNat := by
  obtain ⟨m, rfl⟩ := Int.eq_ofNat_of_zero_le l0
  obtain ⟨y, rfl⟩ := Int.eq_ofNat_of_zero_le x0
  rw [Int.toNat_natCast, Int.toNat_natCast]
  have s := g_ll_s (M := M0) (n := n) (k := m) hl
  have s' := g_ll_s (M := M0) (n := n) (k := y) hx
  by_cases w : y < m
  · have := g_ll_m M0 n (k := y + 1) (m := m) (by omega); omega
  · have := g_ll_m M0 n (k := m + 1) (m := y) (by omega); omega
theorem h_X.sb (h : h_X C0 M0 P F G Hh S U J Im) (hn : h_N M0 U J n) (q0 : 0 ≤ q) (q1 : q < (M0 222 26)) (qn : M0 250 q = n) {i j : Int} (sb : h_sub C0 M0 U k q i j) : (0 ≤ i ∧ i < g_vl C0 M0 U q) ∧ 0 ≤ j ∧ j < g_vl C0 M0 U q := by
  rcases sb with ⟨o, i0, j0⟩ | ⟨o, pp⟩
  · have v : g_vl C0 M0 U q = 1 := if_pos o
    rw [v, i0, j0]; decide
  · have s := h.sub hn q0 q1 qn o
    have t := h.t s.1
    have p := h.UJ.pb h.hS h.ok k _ t.1 i j pp
    rw [s.2.2, t.2]
    exact p
/-- truth values, where only what counts is known -/
theorem h_op_t2 (hS : g_S C0 M0) (hF : g_F C0 M0 F) (n3 : ∀ t, t < 700 → ¬ g_FA C0 M0 F G Hh 3 t) (q0 : 0 ≤ q) (q1 : q < (M0 222 26)) (o22 : ¬ M0 241 q = 22) (hf : F q = 1) {x y z l m : Int} (hx : (M0 241 q = 4 ∨ M0 241 q = 5 ∨ (7 ≤ M0 241 q ∧ M0 241 q ≤ 20) ∨ (M0 241 q = 21 ∧ l = 1)) → F (M0 245 q) = 1 → x = 0 ∨ x = 1) (hy : ((7 ≤ M0 241 q ∧ M0 241 q ≤ 19) ∨ (M0 241 q = 21 ∧ ¬ l = 1)) → F (M0 246 q) = 1 → y = 0 ∨ y = 1) (hz : M0 241 q = 18 → F (M0 247 q) = 1 → z = 0 ∨ z = 1) (hl : (M0 241 q = 2 ∨ M0 241 q = 21) → M0 233 (26 * M0 250 q + M0 248 q) = 1 → l = 0 ∨ l = 1) (hm : (M0 241 q = 3 ∨ M0 241 q = 6) → m = 0 ∨ m = 1) : h_op (M0 241 q) (M0 249 q) x y z l m = 0 ∨ h_op (M0 241 q) (M0 249 q) x y z l m = 1 := by
  have ob := (hS.op q0 q1).1
  have ex : ∀ (A : Prop) (v : Int), (A → v = 0 ∨ v = 1) → ∃ w : Int, (A → v = w) ∧ (w = 0 ∨ w = 1) := fun A v h => by
    by_cases a : A
    · exact ⟨v, fun _ => rfl, h a⟩
    · exact ⟨0, fun w => absurd w a, Or.inl rfl⟩
  by_cases o19 : M0 241 q = 19
  · obtain ⟨x', x1, x2⟩ := ex (F (M0 245 q) = 1) x (hx (by omega))
    obtain ⟨y', y1, y2⟩ := ex (F (M0 246 q) = 1) y (hy (by omega))
    have e : ∀ v, v = 0 ∨ v = 1 → (h_op 19 (M0 249 q) x y z l v = 0 ∨ h_op 19 (M0 249 q) x y z l v = 1) := fun v hv => by
      have u := h_op_t hS hF n3 q0 q1 o22 hf (x := x) (y := y) (z := 0) (l := 0) (m := v) (hx (by omega)) (hy (by omega)) (fun _ => Or.inl rfl) (fun _ => Or.inl rfl) hv
      rw [o19, h_o19] at u
      rw [h_o19]
      exact u
    rw [o19, h_o19]
    by_cases w : m = 0
    · rw [if_pos w]
      have := e 0 (Or.inl rfl)
      rw [h_o19, if_pos rfl] at this
      exact this
    · rw [if_neg w]
      have := e 1 (Or.inr rfl)
      rw [h_o19, if_neg (by decide)] at this
      exact this
  · obtain ⟨x', x1, x2⟩ : ∃ w : Int, ((M0 241 q = 4 ∨ M0 241 q = 5 ∨ (7 ≤ M0 241 q ∧ M0 241 q ≤ 20) ∨ (M0 241 q = 21 ∧ l = 1)) → x = w) ∧ (F (M0 245 q) = 1 → w = 0 ∨ w = 1) := by
      by_cases a : (M0 241 q = 4 ∨ M0 241 q = 5 ∨ (7 ≤ M0 241 q ∧ M0 241 q ≤ 20) ∨ (M0 241 q = 21 ∧ l = 1))
      · exact ⟨x, fun _ => rfl, hx a⟩
      · exact ⟨0, fun w => absurd w a, fun _ => Or.inl rfl⟩
    obtain ⟨y', y1, y2⟩ : ∃ w : Int, (((7 ≤ M0 241 q ∧ M0 241 q ≤ 19) ∨ (M0 241 q = 21 ∧ ¬ l = 1)) → y = w) ∧ (F (M0 246 q) = 1 → w = 0 ∨ w = 1) := by
      by_cases a : ((7 ≤ M0 241 q ∧ M0 241 q ≤ 19) ∨ (M0 241 q = 21 ∧ ¬ l = 1))
      · exact ⟨y, fun _ => rfl, hy a⟩
      · exact ⟨0, fun w => absurd w a, fun _ => Or.inl rfl⟩
    obtain ⟨z', z1, z2⟩ : ∃ w : Int, (M0 241 q = 18 → z = w) ∧ (F (M0 247 q) = 1 → w = 0 ∨ w = 1) := by
      by_cases a : M0 241 q = 18
      · exact ⟨z, fun _ => rfl, hz a⟩
      · exact ⟨0, fun w => absurd w a, fun _ => Or.inl rfl⟩
    obtain ⟨m', m1, m2⟩ : ∃ w : Int, ((M0 241 q = 3 ∨ M0 241 q = 6) → m = w) ∧ (w = 0 ∨ w = 1) := ex _ _ hm
    by_cases a : (M0 241 q = 2 ∨ M0 241 q = 21)
    · rw [h_op_congr (x' := x') (y' := y') (z' := z') (l' := l) (m' := m') ob x1 y1 z1 (fun _ => rfl) (fun w => m1 (by omega))]
      exact h_op_t hS hF n3 q0 q1 o22 hf x2 y2 z2 (hl a) m2
    · rw [h_op_congr (x' := x') (y' := y') (z' := z') (l' := 0) (m' := m') ob (fun w => x1 (by omega)) (fun w => y1 (by omega)) z1 (fun w => absurd w a) (fun w => m1 (by omega))]
      exact h_op_t hS hF n3 q0 q1 o22 hf x2 y2 z2 (fun _ => Or.inl rfl) m2
end Ctx
