/-! A MODULE THAT IS READY: what the ends of reading, judging, planning give -/
section Ready
variable {C0 M0 P V W N C2 C : ax_V} {F G Hh S U J : Int → Int} {n : Int}
theorem g_UJ.jsub (hUJ : g_UJ C0 M0 U J) (n0 : 0 ≤ n) (n1 : n < (M0 222 86)) (jb : J n ≤ 60) {q : Nat} (q1 : q < ((M0 222 26)).toNat) (qn : M0 250 (q : Int) = n) (o : M0 241 (q : Int) = 22) : J (C0 520 (q : Int)) ≤ 60 := by
  have j := (hUJ.2 n n0 n1).2
  have c : 1 + g_ci C0 M0 J n ((M0 222 26)).toNat ≤ 60 := (g_sat_le (by decide)).mp (by rw [← j]; exact jb)
  have b := fun x => (hUJ.1 x).2
  have e := g_ci_s (C0 := C0) (M0 := M0) (J := J) (n := n) (k := q) ⟨qn, o⟩
  have l := g_ci_m (C0 := C0) (M0 := M0) (n := n) b (q + 1) (((M0 222 26)).toNat - (q + 1))
  rw [show q + 1 + (((M0 222 26)).toNat - (q + 1)) = ((M0 222 26)).toNat by omega] at l
  have z := g_ci_0 (C0 := C0) (M0 := M0) (n := n) b q
  omega
theorem g_UJ.tt (hUJ : g_UJ C0 M0 U J) (n0 : 0 ≤ n) (n1 : n < (M0 222 86)) (b : U n ≤ 300) : g_T C0 M0 U n ≤ 300 ∧ U n = g_T C0 M0 U n := by
  have u := (hUJ.2 n n0 n1).1
  have t : g_T C0 M0 U n ≤ 300 := (g_sat_le (by decide)).mp (by rw [← u]; exact b)
  exact ⟨t, by rw [u]; exact g_sat_eq (m := 300) (by decide) t⟩
/-- first memories are as they must be -/
theorem h_MS.first (hS : g_S C0 M0) (ok : g_N2 M0) (hUJ : g_UJ C0 M0 U J) (hW : ∀ m, 0 ≤ m → m < (M0 222 86) → g_T C0 M0 U m ≤ 300 → g_NK C0 M0 U W m 26 ((M0 222 55)).toNat ((M0 222 26)).toNat) : ∀ (k : Nat) (n : Int) (g : Int → Int), 0 ≤ n → n < (M0 222 86) → U n ≤ 300 → (∀ j, 0 ≤ j → j < g_T C0 M0 U n → g j = W 290 (300 * n + j)) → h_MS C0 M0 U F k n g := by
  intro k
  induction k with
  | zero => intro _ _ _ _ _ _; exact trivial
  | succ k ih =>
    intro n g n0 n1 b e
    have tt := hUJ.tt n0 n1 b
    obtain ⟨k1, k2, k3⟩ := hW n n0 n1 tt.1
    have T : g_T C0 M0 U n = g_ll M0 n 26 + g_ca M0 n ((M0 222 55)).toNat + g_cp C0 M0 U n ((M0 222 26)).toNat := rfl
    have l0 := (g_ll_b M0 n 26).1
    have c0 := (g_ca_b M0 n ((M0 222 55)).toNat).1
    have p0 := g_cp_0 (C0 := C0) (M0 := M0) (n := n) (fun x => (hUJ.1 x).1) ((M0 222 26)).toNat
    have sp : ∀ q, g_sp C0 M0 U n q = g_ll M0 n 26 + g_ca M0 n ((M0 222 55)).toNat + g_cp C0 M0 U n q := fun _ => rfl
    refine ⟨fun q q1 qn o f1 => ?_, fun l l1 hl ty => ?_, fun a a1 an => ?_, fun q q1 qn o => ?_⟩
    · have rg := hUJ.reg (n := n) q1 qn
      have v : g_vl C0 M0 U (q : Int) = 1 := if_pos (Or.inl o)
      have sq := sp q
      rw [e _ (by omega) (by omega)]
      exact Or.inl ((k3 q q1 qn).1 (Or.inl o)).2
    · have gb := g_ll_b M0 n l
      have gs := g_ll_s (M := M0) (n := n) (k := l) hl
      have gm := g_ll_m M0 n (show l + 1 ≤ 26 by omega)
      rw [e _ (by omega) (by omega), (k1 l l1 hl).2]
      rcases (hS.l n0 n1 (l := (l : Int)) (by omega) (by omega)).2.2.2.2.1.2 with z | z
      · exact absurd z hl
      · exact z.2.2.2.2 ty
    · have gb := g_ca_b M0 n a
      have gs := g_ca_s (M := M0) (n := n) (k := a) an
      have gm := g_ca_m M0 n (show a + 1 ≤ ((M0 222 55)).toNat by omega)
      have hs : h_sa M0 n (a : Int) = g_ll M0 n 26 + g_ca M0 n a := by
        show g_ll M0 n 26 + g_ca M0 n ((a : Int)).toNat = _
        rw [Int.toNat_natCast]
      rw [hs, e _ (by omega) (by omega), (k2 a a1 an).2]
      have au := (hS.au (a := (a : Int)) (by omega) (by omega)).2
      exact ⟨Int.le_refl _, by have := au.2.1; omega⟩
    · have rg := hUJ.reg (n := n) q1 qn
      have s := hUJ.sub hS ok tt.1 q1 qn o
      have sb := s.2.2.1
      have sv := s.2.2.2
      have s1 := s.1
      have sq := sp q
      refine ih _ _ s.1.1 (by omega) (by rw [sb]; exact s.2.1) (fun j j0 j1 => ?_)
      show g (g_sp C0 M0 U n q + j) = _
      rw [e _ (by omega) (by omega)]
      exact ((k3 q q1 qn).2 o).2 j j0 (by omega)
theorem h_X.of (hS : g_S C0 M0) (ok : g_N2 M0) (fn : g_FN C0 M0 F G Hh 7) (hF : g_F C0 M0 F) (hG : g_G M0 G) (hT : g_ST M0 G S) (hr : ∀ q, -1 ≤ S q ∧ S q ≤ 52) (hUJ : g_UJ C0 M0 U J) (hP : g_PL C0 M0 U J G S P (M0 222 86)) (hW : g_NA C0 M0 U J W (M0 222 86)) : h_X C0 M0 P F G Hh S U J (W 290) := by
  have kw : ∀ m, 0 ≤ m → m < (M0 222 86) → g_T C0 M0 U m ≤ 300 → g_NK C0 M0 U W m 26 ((M0 222 55)).toNat ((M0 222 26)).toNat := fun m a b t => (hW m a b).2.2 t
  have pd := hP.2.2.2.2.2.1
  refine ⟨hS, ok, fun k k3 k6 t tl => fn k t (by omega) (by omega) tl, hF, hG, hT, hr, hP.1.1, hUJ, fun m m0 m1 u j => ⟨(hP.2.2.1 m m0 m1).1, (pd m m0 m1 u j).2⟩, fun m m0 m1 u j => ⟨fun k i jj pp => ?_, fun k => h_MS.first hS ok hUJ kw k m _ m0 m1 u (fun _ _ _ => rfl)⟩⟩
  refine hUJ.fst hS ok (Fm := P 515) (W := W) (fun x x0 x1 t jx => (pd x x0 x1 (by rw [(hUJ.2 x x0 x1).1]; exact (g_sat_le (by decide)).mpr t) jx).2.2.2.2.2.1) kw (fun q q1 o jq => ?_) k m m0 m1 (hUJ.tt m0 m1 u).1 j i jj pp
  have pn := (hS.pnode (q := (q : Int)) (by omega) (by omega)).1
  exact hUJ.jsub pn.1 pn.2 jq q1 rfl o
theorem h_RM.of {M1 M2 : ax_V} (h : g_JM C0 M0 F G M1) (f2 : g_fr [254] M1 M2) (s2 : ∀ q, 0 ≤ q → q < (M0 222 26) → M2 254 q = S q) (f3 : g_fr g_XS M2 W) (hW : g_NA C0 M0 U J W (M0 222 86)) : h_RM C0 M0 S U J (W 290) W := by
  obtain ⟨⟨m1, m2, m3, m4⟩, m5, m6, m7, m8, m9⟩ := h
  have cell : ∀ c, c ∉ g_XS → ¬ c = 254 → W c = M1 c := fun c a b => by rw [f3 c a, f2 c (by simp; exact b)]
  have sc : ∀ j, j ∉ g_KM → W 222 j = M0 222 j := fun j z => by rw [cell 222 (by decide) (by decide)]; exact m2 j z
  refine ⟨fun c a b z => ?_, ⟨sc 26 (by decide), sc 44 (by decide), sc 55 (by decide), sc 60 (by decide)⟩, fun q a b o => by rw [cell 251 (by decide) (by decide)]; exact m4 q a b o, m5.at (cell 238 (by decide) (by decide)) (cell 239 (by decide) (by decide)), fun q a b => by rw [f3 254 (by decide)]; exact s2 q a b, fun q a b => by rw [cell 256 (by decide) (by decide)]; exact m8 q a b, fun k a b => (m9 k a b).at (by rw [cell 284 (by decide) (by decide)]) (fun s _ _ => by rw [cell 285 (by decide) (by decide)]), hW, fun _ => rfl⟩
  simp only [List.mem_cons, List.not_mem_nil, or_false, not_or] at z
  rw [cell c (by simp only [List.mem_cons, List.not_mem_nil, or_false, not_or]; omega) (by omega)]
  exact m1 c (by simp only [List.mem_cons, List.not_mem_nil, or_false, not_or]; omega)
/-- each state belongs to an automaton -/
theorem g_S.stcov (hS : g_S C0 M0) {s : Int} (s0 : 0 ≤ s) (s1 : s < (C0 556 1)) : ∃ a, (0 ≤ a ∧ a < (M0 222 55)) ∧ C0 558 a ≤ s ∧ s < C0 558 (a + 1) := by
  obtain ⟨d1, d2, d3, d4, d5, d6, d7, d8, d9⟩ := hS.2.2.2.2.1.1
  have a0 : 0 < (M0 222 55) := by
    rcases Int.lt_or_le 0 (M0 222 55) with z | z
    · exact z
    · have := d8 (by omega); omega
  have z0 := d9 a0
  have zn : C0 558 (M0 222 55) = (C0 556 1) := by
    rcases d7 with z | z
    · omega
    · exact z.1
  have key : ∀ k : Nat, (k : Int) ≤ (M0 222 55) → s < C0 558 (k : Int) → ∃ a, (0 ≤ a ∧ a < (M0 222 55)) ∧ C0 558 a ≤ s ∧ s < C0 558 (a + 1) := by
    intro k
    induction k with
    | zero => intro _ z; exact absurd z (by show ¬ s < C0 558 0; omega)
    | succ k ih =>
      intro kl z
      rcases Int.lt_or_le s (C0 558 (k : Int)) with y | y
      · exact ih (by omega) y
      · exact ⟨(k : Int), ⟨by omega, by omega⟩, y, by rw [show ((k : Int) + 1) = ((k + 1 : Nat) : Int) by omega]; exact z⟩
  exact key ((M0 222 55)).toNat (by omega) (by rw [show ((((M0 222 55)).toNat : Nat) : Int) = (M0 222 55) by omega, zn]; exact s1)
/-- where the Planner begins -/
theorem g_PL.zero (hS : g_S C0 M0) (h : g_JC C0 M0 F G C2 C) (hf : g_fr [602] C V) (hg : ax_g V) (z : V 602 5 = 0) : g_PL C0 M0 U J G S V 0 := by
  obtain ⟨j1, j2, j3, j4, j5, j6, j7⟩ := h
  have cell : ∀ c, c ∉ g_XJ → ¬ c = 602 → V c = C0 c := fun c a b => by rw [hf c (by simp; exact b), j1 c a]
  have vc : ∀ c, ¬ c = 602 → V c = C c := fun c b => hf c (by simp; exact b)
  have e0 := hS.eqF (n := 0) (by decide) (by have := hS.2.1; omega)
  refine ⟨⟨fun c y => ?_, hg⟩, ⟨fun a x y => by rw [vc 561 (by decide)]; exact j6 a x y, fun e x y => by rw [vc 552 (by decide)]; exact j7 e x y⟩, fun m a b => by omega, ⟨by omega, ?_⟩, fun y => absurd y (by decide), fun m a b => by omega, fun e x y _ => ?_, fun a x y _ => ?_, fun x a b => ?_, fun s x y _ => ?_, fun q x y _ => ?_⟩
  · simp only [List.mem_cons, List.not_mem_nil, or_false, not_or] at y
    exact cell c (by simp only [List.mem_cons, List.not_mem_nil, or_false, not_or]; omega) (by omega)
  · rw [z]
    unfold g_bs0
    omega
  · rw [cell 553 (by decide) (by decide)]
    exact (hS.2.2.2.2.1.2.1 e x y).2.2.2.1.2.2.2
  · rw [cell 562 (by decide) (by decide)]
    exact (hS.au x y).1.2.2.2.2.1.2.2
  · rw [cell 546 (by decide) (by decide)]
    exact (hS.2.2.2.1.1.2.2 x (by omega) b).2.2.2.2.2.2
  · obtain ⟨a, ⟨a0, a1⟩, a2, a3⟩ := hS.stcov x y
    have u := (hS.au a0 a1).1.2.2.2.2.2 s a2 a3
    rw [cell 565 (by decide) (by decide), cell 566 (by decide) (by decide)]
    exact u.2.2
  · rw [vc 529 (by decide)]; exact j5 q x y
end Ready
