/-! NO CYCLE: something hangs on nothing that is left -/
theorem g_wr_tr (H : Int → Int → Prop) : ∀ (b : Nat) (x m y : Int), 0 ≤ m → m < (b : Int) → g_wr H b x m → g_wr H b m y → g_wr H b x y := by
  intro b
  induction b with
  | zero => exact fun x m y a c => by omega
  | succ b ih =>
    intro x m y m0 m1 h1 h2
    by_cases e : m = (b : Int)
    · rw [e] at h1 h2
      exact Or.inr ⟨(g_wr_c H b x).mp h1, (g_wr_s H b y).mp h2⟩
    · have mb : m < (b : Int) := by omega
      rcases h1 with h1 | h1
      · rcases h2 with h2 | h2
        · exact Or.inl (ih x m y m0 mb h1 h2)
        · exact Or.inr ⟨ih x m _ m0 mb h1 h2.1, h2.2⟩
      · rcases h2 with h2 | h2
        · exact Or.inr ⟨h1.1, ih _ m y m0 mb h1.2 h2⟩
        · exact Or.inr ⟨h1.1, h2.2⟩
theorem g_wr_up (H : Int → Int → Prop) : ∀ (b : Nat) (x y : Int), H x y → g_wr H b x y := by
  intro b
  induction b with
  | zero => exact fun x y h => h
  | succ b ih => exact fun x y h => Or.inl (ih x y h)
/-- where nothing goes round there is a last one -/
theorem g_max {R : Int → Int → Prop} (tr : ∀ x y z, 0 ≤ y → y < 26 → R x y → R y z → R x z) (ir : ∀ x, 0 ≤ x → x < 26 → ¬ R x x) : ∀ (k : Nat), k ≤ 26 → ∀ N : Int → Prop, (∃ y, N y ∧ 0 ≤ y ∧ y < (k : Int)) → ∃ y, (N y ∧ 0 ≤ y ∧ y < (k : Int)) ∧ ∀ z, N z → 0 ≤ z → z < (k : Int) → ¬ R y z := by
  intro k
  induction k with
  | zero => exact fun _ N h => by obtain ⟨y, -, a, b⟩ := h; omega
  | succ k ih =>
    intro hk N h
    by_cases e : ∃ y, N y ∧ 0 ≤ y ∧ y < (k : Int)
    · obtain ⟨y, hy, hm⟩ := ih (by omega) N e
      by_cases c : N (k : Int) ∧ R y (k : Int)
      · refine ⟨(k : Int), ⟨c.1, by omega, by omega⟩, fun z a b d r => ?_⟩
        by_cases zk : z = (k : Int)
        · rw [zk] at r; exact ir _ (by omega) (by omega) r
        · exact hm z a b (by omega) (tr _ _ _ (by omega) (by omega) c.2 r)
      · refine ⟨y, ⟨hy.1, hy.2.1, by omega⟩, fun z a b d r => ?_⟩
        by_cases zk : z = (k : Int)
        · rw [zk] at a r; exact c ⟨a, r⟩
        · exact hm z a b (by omega) r
    · obtain ⟨y, a, b, c⟩ := h
      have yk : y = (k : Int) := Classical.byContradiction fun z => e ⟨y, a, b, by omega⟩
      refine ⟨y, ⟨a, b, c⟩, fun z a' b' c' r => ?_⟩
      have zk : z = (k : Int) := Classical.byContradiction fun z' => e ⟨z, a', b', by omega⟩
      rw [yk, zk] at r
      exact ir _ (by omega) (by omega) r
section Acyclic
variable {C0 M0 : ax_V} {F G Hh : Int → Int} {n : Int}
/-- a set of told letters in which each hangs on one of it is empty -/
theorem g_S.acyc (hS : g_S C0 M0) (n6 : ∀ t, t < 700 → ¬ g_FA C0 M0 F G Hh 6 t) (n0 : 0 ≤ n) (n1 : n < (M0 222 86)) (N : Int → Prop) (hN : ∀ y, N y → (0 ≤ y ∧ y < 26) ∧ ¬ M0 232 (26 * n + y) = 0 ∧ ∃ z, N z ∧ g_h0 C0 M0 n y z) (y : Int) : ¬ N y := fun hy => by
  have ir : ∀ x, 0 ≤ x → x < 26 → ¬ M0 232 (26 * n + x) = 0 → ¬ g_wr (g_h0 C0 M0 n) 26 x x := fun x a b k r => by
    have tl := (hS.l n0 n1 a b).2.2.1 k
    have tp := tl.2.1
    exact n6 699 (by decide) ((g_FA6 699).mpr ⟨n, ⟨n0, n1⟩, x, ⟨a, b⟩, r, by rw [tl.1]; omega⟩)
  obtain ⟨m, hm, mx⟩ := g_max (R := fun x y => (N x ∧ N y) ∧ g_wr (g_h0 C0 M0 n) 26 x y) (fun x y z a b r s => ⟨⟨r.1.1, s.1.2⟩, g_wr_tr _ 26 x y z a b r.2 s.2⟩) (fun x a b r => ir x a b (hN x r.1.1).2.1 r.2) 26 (by omega) N ⟨y, hy, (hN y hy).1.1, (hN y hy).1.2⟩
  obtain ⟨z, hz, hh⟩ := (hN m hm.1).2.2
  exact mx z hz (hN z hz).1.1 (hN z hz).1.2 ⟨⟨hm.1, hz⟩, g_wr_up _ 26 m z hh⟩
/-- a clock's letter is told, and of truth -/
theorem g_N2.ckt (ok : g_N2 M0) (hS : g_S C0 M0) (n0 : 0 ≤ n) (n1 : n < (M0 222 86)) {l : Int} (l0 : 0 ≤ l) (l1 : l < 26) (c : ¬ M0 235 (26 * n + l) = 0) : ¬ g_nt M0 (26 * n + (M0 235 (26 * n + l) - 1) / 2) := fun z => by
  have hck := hS.2.2.2.1.2.2.1
  have hN := hS.2.1
  obtain ⟨j, j0, j1, j2⟩ := hck.2.1 n l n0 n1 l0 l1 c
  have e9 : (M0 235 (26 * n + l) - 1) / 2 = M0 279 j := by rcases j2.1 with u | u <;> omega
  have sp := (hck.2.2 j j0 j1).2.2.1
  rw [e9] at z
  exact ok.2 n 699 n0 n1 (by decide) (Or.inr (Or.inl ⟨j, ⟨j0, j1⟩, j2.2.1, z, by omega⟩))
/-- letters that something hangs on are told -/
theorem g_N2.hang (ok : g_N2 M0) (hS : g_S C0 M0) (n0 : 0 ≤ n) (n1 : n < (M0 222 86)) {l y : Int} (y0 : ¬ y = -1) (h : g_h0 C0 M0 n l y) : (0 ≤ y ∧ y < 26) ∧ ¬ M0 232 (26 * n + y) = 0 := by
  have hB := hS.2.2.2.2.1
  have hd : ∀ f w nn s tr m, f_x C0 M0 f w nn s tr m → nn = n → g_hd C0 M0 f w y → (0 ≤ y ∧ y < 26) ∧ ¬ M0 232 (26 * n + y) = 0 := fun f w nn s tr m fx en hd => by
    obtain ⟨q, q0, ql, qo, qy⟩ := hd
    have f1 := fx.1
    have fq := fx.2.2 q q0.1 q0.2
    have q1 : q < (M0 222 26) := by omega
    have q00 : 0 ≤ q := by omega
    have nd : M0 250 q = n := by rw [fq.1.1]; exact en
    rcases hS.let q00 q1 with z | ⟨z1, z2, z3⟩
    · exfalso
      rw [z] at qy
      exact y0 qy.symm
    · rw [qy] at z2
      refine ⟨z2, ?_⟩
      have key : ¬ M0 232 (26 * M0 250 q + M0 248 q) = 0 := by
        by_cases o2 : M0 241 q = 2
        · exact ok.told hS q00 q1 (Or.inl o2)
        · have o' : M0 241 q = 20 ∨ M0 241 q = 21 ∨ (M0 241 q = 22 ∧ ¬ M0 248 q = -1) := by omega
          have := ok.truth hS q00 q1 o'
          unfold g_nt at this
          omega
      rw [nd, qy] at key
      exact key
  obtain ⟨e, i, a1, a2, a3, b⟩ := h
  rcases b with (b | ⟨j, j0, j1, j2⟩) | ⟨b, b2⟩
  · exact hd _ _ _ _ _ _ (hB.2.1 e a1.1.1 a1.1.2).2.2.2.2.2.1 a2 b
  · have jl := hS.ofl j0
    have sl := hS.slot jl.1 jl.2
    have ej := hS.eoe j0
    rw [ej, a2] at sl
    rw [a2] at j1 j2
    have ck := hS.ck n0 n1 sl.2.1.1 sl.2.1.2
    have f := hS.l n0 n1 sl.2.1.1 sl.2.1.2
    have y1 : 0 ≤ y ∧ y < 26 := by omega
    refine ⟨y1, fun z => ?_⟩
    have := ok.ckt hS n0 n1 sl.2.1.1 sl.2.1.2 j1
    rw [j2] at this
    exact this (Or.inl z)
  · obtain ⟨m, m0, m1, m2, m3⟩ := b2
    have ft := hB.2.2.2.2.1 m m0.1 m0.2
    refine hd _ _ _ _ _ _ ft.2.2.2.2.2.2.2 ?_ m3
    rw [m1]
    have st := (hB.2.1 e a1.1.1 a1.1.2).2.2.2.2.1
    rcases st with st | st
    · exact absurd st.2.1 b
    · rw [st.2.2.2.2.2.2]; exact a2
end Acyclic
