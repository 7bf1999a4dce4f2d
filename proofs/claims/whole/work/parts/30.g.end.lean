/-! SCHEDULING: nothing is left out; the end -/
/-- the steps of a node -/
def g_SD (C M : ax_V) (f : Int → Int) (F T n : Int) : Prop := (0 ≤ F ∧ F ≤ T ∧ T ≤ 2000) ∧ g_SQ C M f F T n ∧ g_al M (g_st f F T) n ∧ g_aw M (g_st f F T) n ∧ g_ak M (g_st f F T) n ∧ ∀ a, 0 ≤ a → a < (M 222 55) → M 267 a = n → g_st f F T (5120 + a)
section End
variable {B r d : Nat} {C0 M0 V0 V W : ax_V} {n F : Int} {s t : Int → Prop} {Fs Gs Hh : Int → Int} {Φ : Int → ax_V → Prop} {Ψ Θ : ax_V → Prop}
/-- parts of transitions are not late -/
theorem g_S.trl (hS : g_S C0 M0) {m : Int} (m0 : 0 ≤ m) (m1 : m < (M0 222 60)) : ∀ (k : Nat) (q : Int), M0 276 m ≤ q → q ≤ M0 277 m → M0 277 m - q ≤ (k : Int) → C0 526 q = 0 := by
  have fx := (hS.2.2.2.2.1.2.2.2.2.1 m m0 m1).2.2.2.2.2.2.2
  have f1 := fx.1
  intro k
  induction k with
  | zero =>
    intro q a b c
    rw [show q = M0 277 m by omega]; exact fx.2.1.1
  | succ k ih =>
    intro q a b c
    by_cases e : q = M0 277 m
    · rw [e]; exact fx.2.1.1
    · obtain ⟨p, pw, pk⟩ := hS.Xp (q := q) (Or.inr ⟨m, ⟨m0, m1⟩, rfl, rfl⟩) ⟨a, by omega⟩
      have o := (fx.2.2 p (by omega) pw.2).2.2.1 rfl
      have l := ((hS.p (q := p) (by omega) (by omega)).2.2.2.2.2.2.2.2.2.2 q pk).2
      rw [if_neg o.1] at l
      rw [l]; exact ih p (by omega) pw.2 (by omega)
theorem g_N2.ndt (ok : g_N2 M0) (hS : g_S C0 M0) {a y : Int} (an : M0 267 a = n) (y0 : ¬ y = -1) (h : g_nd C0 M0 a y) : ¬ M0 232 (26 * n + y) = 0 := by
  obtain ⟨m, m0, m1, m2, q, q0, ql, qo, qy⟩ := h
  have fx := (hS.2.2.2.2.1.2.2.2.2.1 m m0.1 m0.2).2.2.2.2.2.2.2
  have f1 := fx.1
  have fq := fx.2.2 q q0.1 q0.2
  have q1 : q < (M0 222 26) := by omega
  have q00 : 0 ≤ q := by omega
  have nd : M0 250 q = n := by rw [fq.1.1, m1]; exact an
  rcases hS.let q00 q1 with z | ⟨z1, z2, z3⟩
  · exfalso
    rw [z] at qy
    exact y0 qy.symm
  · have key : ¬ M0 232 (26 * M0 250 q + M0 248 q) = 0 := by
      by_cases o2 : M0 241 q = 2
      · exact ok.told hS q00 q1 (Or.inl o2)
      · have o' : M0 241 q = 20 ∨ M0 241 q = 21 ∨ (M0 241 q = 22 ∧ ¬ M0 248 q = -1) := by omega
        have := ok.truth hS q00 q1 o'
        unfold g_nt at this
        omega
    rw [nd, qy] at key
    exact key
/-- where nothing more comes, all has come -/
theorem g_S.complete (hS : g_S C0 M0) (ok : g_N2 M0) (n6 : ∀ t, t < 700 → ¬ g_FA C0 M0 Fs Gs Hh 6 t) (n0 : 0 ≤ n) (n1 : n < (M0 222 86)) (ha : ∀ a, 0 ≤ a → a < (M0 222 55) → M0 267 a = n → s (2048 + a) ∨ ¬ g_ab C0 M0 s n a) (he : ∀ e, 0 ≤ e → e < (M0 222 44) → M0 258 e = n → s (1024 + e) ∨ ¬ g_eb C0 M0 s n e) : g_al M0 s n := by
  have hB := hS.2.2.2.2.1
  have aut : ∀ e, 0 ≤ e → e < (M0 222 44) → M0 258 e = n → ¬ M0 263 e = -1 → (0 ≤ M0 263 e ∧ M0 263 e < (M0 222 55)) ∧ M0 267 (M0 263 e) = n := fun e e0 e1 en z => by
    rcases (hB.2.1 e e0 e1).2.2.2.2.1 with f | ⟨f1, f2, f3, f4, f5, f6, f7⟩
    · exact absurd f.2.1 z
    · exact ⟨⟨f1, by have := hB.1.2.2.1; omega⟩, by rw [f7]; exact en⟩
  have key := hS.acyc n6 n0 n1 (fun y => (0 ≤ y ∧ y < 26) ∧ ¬ M0 232 (26 * n + y) = 0 ∧ ¬ g_rd M0 s n y) (fun y hy => ⟨hy.1, hy.2.1, by
    obtain ⟨yb, yk, yr⟩ := hy
    -- an equation of y that has not come
    have ex : ∃ e i, g_of M0 e i ∧ M0 258 e = n ∧ M0 265 i = y ∧ ¬ s (1024 + e) := Classical.byContradiction fun z => yr (Or.inr ⟨yk, fun e i a b c => Classical.byContradiction fun w => z ⟨e, i, a, b, c, w⟩⟩)
    obtain ⟨e, i, a, b, c, ns⟩ := ex
    have neb : ¬ g_eb C0 M0 s n e := by
      rcases he e a.1.1 a.1.2 b with z | z
      · exact absurd z ns
      · exact z
    by_cases q1 : ∀ z, 0 ≤ z → z < 26 → g_en C0 M0 e z → g_rd M0 s n z
    · have q2 : ¬ M0 263 e = -1 ∧ ¬ s (2048 + M0 263 e) := ⟨fun z => neb ⟨q1, fun w => absurd z w⟩, fun z => neb ⟨q1, fun _ => z⟩⟩
      have au := aut e a.1.1 a.1.2 b q2.1
      have nab : ¬ g_ab C0 M0 s n (M0 263 e) := by
        rcases ha _ au.1.1 au.1.2 au.2 with z | z
        · exact absurd z q2.2
        · exact z
      have ez : ∃ z, (0 ≤ z ∧ z < 26) ∧ g_nd C0 M0 (M0 263 e) z ∧ ¬ g_rd M0 s n z := Classical.byContradiction fun w => nab (fun z z0 z1 z2 => Classical.byContradiction fun u => w ⟨z, ⟨z0, z1⟩, z2, u⟩)
      obtain ⟨z, zb, z2, z3⟩ := ez
      have hh : g_h0 C0 M0 n y z := ⟨e, i, a, b, c, Or.inr ⟨q2.1, z2⟩⟩
      exact ⟨z, ⟨zb, (ok.hang hS n0 n1 (by omega) hh).2, z3⟩, hh⟩
    · have ez : ∃ z, (0 ≤ z ∧ z < 26) ∧ g_en C0 M0 e z ∧ ¬ g_rd M0 s n z := Classical.byContradiction fun w => q1 (fun z z0 z1 z2 => Classical.byContradiction fun u => w ⟨z, ⟨z0, z1⟩, z2, u⟩)
      obtain ⟨z, zb, z2, z3⟩ := ez
      have hh : g_h0 C0 M0 n y z := ⟨e, i, a, b, c, Or.inl z2⟩
      exact ⟨z, ⟨zb, (ok.hang hS n0 n1 (by omega) hh).2, z3⟩, hh⟩⟩)
  have rdy : ∀ y, 0 ≤ y → y < 26 → ¬ M0 232 (26 * n + y) = 0 → g_rd M0 s n y := fun y a b c => Classical.byContradiction fun z => key y ⟨⟨a, b⟩, c, z⟩
  refine ⟨fun e e0 e1 en => ?_, fun a a0 a1 an => ?_⟩
  · have fe3 := (hB.2.1 e e0 e1).2.2.1
    have ofe : g_of M0 e (M0 259 e) := ⟨⟨e0, e1⟩, by omega, by omega⟩
    have il := hS.ofl ofe
    have sl := hS.slot il.1 il.2
    have kd := (ok.head hS il.1 il.2).1
    rw [hS.eoe ofe, en] at kd
    rcases rdy (M0 265 (M0 259 e)) sl.2.1.1 sl.2.1.2 (by omega) with z | z
    · omega
    · exact z.2 e _ ofe en rfl
  · rcases ha a a0 a1 an with z | z
    · exact z
    · exact absurd (fun y y0 y1 c => rdy y y0 y1 (ok.ndt hS an (by omega) c)) z
set_option maxHeartbeats 8000000 in
theorem t_end (hS : g_S C0 M0) (n0 : 0 ≤ n) (n1 : n < (M0 222 86)) (hF : 0 ≤ F) (hF2 : F ≤ g_bs0 C0 n) (hf : g_fr g_XP C0 V0) (hP : g_PI C0 M0 V0 V n F s) (al : g_al M0 s n) (h : ∀ W, g_fr [512, 602] V W → ax_g W → (∀ k, k < F → W 512 k = V0 512 k) → g_SD C0 M0 (W 512) F (W 602 5) n → W 602 5 ≤ g_bs0 C0 (n + 1) → Ψ W) : ax_N (az_W B (az_EL B r)) (d + 4) q_Planner_scheduleEnd [.ref r, ax_i n] V Ψ Θ := by
  have sm := hS.small
  have hN := hS.2.1
  have hB := hS.2.2.2.2.1
  have orr := hB.2.2.2.2.2.1.2.2.1
  have E0 := hS.eqF n0 (by omega)
  have E1 := hS.eqF (n := n + 1) (by omega) (by omega)
  have E2 := hS.eqS n0 n1
  have rn : ax_rg n := ⟨by omega, by omega⟩
  have bn : 0 ≤ n + 1 ∧ n + 1 < 9 := ⟨by omega, by omega⟩
  obtain ⟨⟨P1, P2⟩, P3, P4, P5, -⟩ := hP
  have xV : g_fr g_XP C0 V := hf.tr (P1.up (by decide))
  have fC : ∀ {W : ax_V}, g_fr [512, 602] V W → ∀ c, c ∉ g_XP → W c = C0 c := fun f c z => by rw [f c (fun y => z (by simp at y; rcases y with y | y <;> rw [y] <;> decide))]; exact xV c z
  -- late parts
  obtain ⟨s1, e1⟩ : ∃ s1 : Int → Prop, s1 = fun v => s v ∨ (((0 ≤ v ∧ v < (M0 222 26)) ∧ M0 250 v = n) ∧ ¬ C0 526 v = 0) := ⟨_, rfl⟩
  -- weak moves
  obtain ⟨s2, e2⟩ : ∃ s2 : Int → Prop, s2 = fun v => s1 v ∨ ∃ a, (0 ≤ a ∧ a < (M0 222 55)) ∧ M0 267 a = n ∧ g_mv M0 a 0 v := ⟨_, rfl⟩
  obtain ⟨s3, e3⟩ : ∃ s3 : Int → Prop, s3 = fun v => s2 v ∨ ∃ q, ((0 ≤ q ∧ q < (M0 222 26)) ∧ M0 250 q = n) ∧ M0 241 q = 6 ∧ v = 3072 + q := ⟨_, rfl⟩
  obtain ⟨s4, e4⟩ : ∃ s4 : Int → Prop, s4 = fun v => s3 v ∨ ∃ l, (0 ≤ l ∧ l < 26) ∧ ¬ M0 236 (26 * n + l) = 0 ∧ v = 4096 + 26 * n + l := ⟨_, rfl⟩
  have i1 : ∀ v, s1 v ↔ (s v ∨ (((0 ≤ v ∧ v < (M0 222 26)) ∧ M0 250 v = n) ∧ ¬ C0 526 v = 0)) := fun v => by rw [e1]
  have i2 : ∀ v, s2 v ↔ (s1 v ∨ ∃ a, (0 ≤ a ∧ a < (M0 222 55)) ∧ M0 267 a = n ∧ g_mv M0 a 0 v) := fun v => by rw [e2]
  have i3 : ∀ v, s3 v ↔ (s2 v ∨ ∃ q, ((0 ≤ q ∧ q < (M0 222 26)) ∧ M0 250 q = n) ∧ M0 241 q = 6 ∧ v = 3072 + q) := fun v => by rw [e3]
  have i4 : ∀ v, s4 v ↔ (s3 v ∨ ∃ l, (0 ≤ l ∧ l < 26) ∧ ¬ M0 236 (26 * n + l) = 0 ∧ v = 4096 + 26 * n + l) := fun v => by rw [e4]
  have mvb : ∀ a x q, M0 267 a = n → g_mv M0 a x q → ((0 ≤ q ∧ q < (M0 222 26)) ∧ M0 250 q = n) ∧ C0 526 q = 0 := fun a x q an z => by
    obtain ⟨m, m0, mt, ms, ma, mb⟩ := z
    have fx := (hB.2.2.2.2.1 m m0.1 m0.2).2.2.2.2.2.2.2
    have f1 := fx.1
    refine ⟨⟨⟨by omega, by omega⟩, ?_⟩, hS.trl m0.1 m0.2 (M0 277 m - q).toNat q ma mb (by omega)⟩
    rw [(fx.2.2 q ma mb).1.1, mt]; exact an
  have small2 : ∀ v, s2 v → v < 3072 := fun v z => by
    rcases (i2 v).mp z with z | ⟨a, -, an, z⟩
    · rcases (i1 v).mp z with z | z
      · exact P4 v z
      · omega
    · have := (mvb a 0 v an z).1; omega
  have up1 : ∀ v, s v → s1 v := fun v z => (i1 v).mpr (Or.inl z)
  have up2 : ∀ v, s1 v → s2 v := fun v z => (i2 v).mpr (Or.inl z)
  have up3 : ∀ v, s2 v → s3 v := fun v z => (i3 v).mpr (Or.inl z)
  have up4 : ∀ v, s3 v → s4 v := fun v z => (i4 v).mpr (Or.inl z)
  -- everything is worked
  have aw1 : ∀ q, 0 ≤ q → q < (M0 222 26) → M0 250 q = n → s2 q := fun q q0 q1 qn => by
    rcases hB.2.2.2.2.2.1.1 q q0 q1 with ⟨e, e0, e1', ea, eb⟩ | ⟨m, m0, m1, ma, mb⟩
    · have fx := (hB.2.1 e e0 e1').2.2.2.2.2.1.2.2 q ea eb
      have en : M0 258 e = n := by rw [← fx.1.1]; exact qn
      by_cases lt : C0 526 q = 0
      · exact up2 _ (up1 _ ((P5 q q0 q1).mpr (Or.inl ⟨e, ⟨e0, e1'⟩, en, al.1 e e0 e1' en, ea, eb, lt⟩)))
      · exact up2 _ ((i1 q).mpr (Or.inr ⟨⟨⟨q0, q1⟩, qn⟩, lt⟩))
    · have ft := hB.2.2.2.2.1 m m0 m1
      have fx := ft.2.2.2.2.2.2.2.2.2 q ma mb
      have tm := (hS.tr m0 m1).1
      have an : M0 267 (M0 271 m) = n := by rw [← fx.1.1]; exact qn
      rcases ft.2.2.1.2 with z | z
      · exact (i2 q).mpr (Or.inr ⟨_, tm, an, m, ⟨m0, m1⟩, rfl, z, ma, mb⟩)
      · exact up2 _ (up1 _ ((P5 q q0 q1).mpr (Or.inr ⟨_, tm, an, al.2 _ tm.1 tm.2 an, m, ⟨m0, m1⟩, rfl, z, ma, mb⟩)))
  have aw : g_aw M0 s2 n := ⟨aw1, fun e a b c => up2 _ (up1 _ (al.1 e a b c)), fun e a b c => up2 _ (up1 _ (al.2 e a b c))⟩
  have ak : g_ak M0 s4 n := ⟨fun q q0 q1 qn o => up4 _ ((i3 _).mpr (Or.inr ⟨q, ⟨⟨q0, q1⟩, qn⟩, o, rfl⟩)), fun l l0 l1 z => (i4 _).mpr (Or.inr ⟨l, ⟨l0, l1⟩, z, rfl⟩)⟩
  -- 5. weak transitions
  have p5 : ∀ W, g_fr [512, 602] V W → ax_g W → g_PC C0 M0 V0 W n F s4 → k_Planner_scheduleEnd_186 B r (d + 3) n (C0 510 n) W Ψ Θ := by
    intro W fW gW kW
    refine ax_for (I := fun a X => (C0 510 n ≤ a ∧ a ≤ C0 510 (n + 1)) ∧ g_fr [512, 602] V X ∧ ax_g X ∧ g_PC C0 M0 V0 X n F (fun v => s4 v ∨ ∃ a', (C0 510 n ≤ a' ∧ a' < a) ∧ v = 5120 + a')) (K := fun a X => k_Planner_scheduleEnd_186 B r (d + 3) n a X Ψ Θ) (hi := C0 510 (n + 1)) (fun a X w hI next => ?_) (fun a X w hI => ?_) (C0 510 n) W ⟨⟨Int.le_refl _, by omega⟩, fW, gW, kW.of (fun v => ⟨fun z => Or.inl z, fun z => by rcases z with z | ⟨a', z, -⟩; exact z; omega⟩)⟩
    · obtain ⟨ha, f1, g1, k1⟩ := hI
      have a0 : 0 ≤ a := by omega
      have a1 : a < (M0 222 55) := by omega
      have an := (hS.aN a0 a1 n0 n1).mp ⟨ha.1, w⟩
      refine r_Planner_scheduleEnd_186 g1 rn ⟨by omega, by omega⟩ ⟨bn, ?_⟩
      rw [fC f1 510 (by decide)]
      refine ⟨fun z => by omega, fun _ => t_addStep (k := 5) (x := a) hS n0 n1 hF hF2 g1 k1 (by decide) ⟨a0, by omega⟩ ?_ ?_ (fun X2 f2 g2 r2 k2 => next X2 ⟨⟨by omega, by omega⟩, f1.tr f2, g2, k2.of (fun v => ?_)⟩)⟩
      · rintro (z | ⟨a', z, y⟩)
        · rcases (i4 _).mp z with z | ⟨l, l0, -, z⟩
          · rcases (i3 _).mp z with z | ⟨q, q0, -, z⟩
            · have := small2 _ z; omega
            · omega
          · omega
        · omega
      · exact Or.inr (Or.inr (Or.inr (Or.inr (Or.inr ⟨a, by omega, ⟨a0, a1⟩, an, (aw.mono up3).mono (fun v z => Or.inl (up4 v z)), fun q q0 q1 qn o => Or.inl (ak.1 q q0 q1 qn o), fun l l0 l1 z => Or.inl (ak.2 l l0 l1 z)⟩))))
      · constructor
        · rintro ((z | ⟨a', z, y⟩) | z)
          · exact Or.inl z
          · exact Or.inr ⟨a', ⟨z.1, by omega⟩, y⟩
          · exact Or.inr ⟨a, ⟨ha.1, by omega⟩, by omega⟩
        · rintro (z | ⟨a', z, y⟩)
          · exact Or.inl (Or.inl z)
          · by_cases u : a' = a
            · exact Or.inr (by omega)
            · exact Or.inl (Or.inr ⟨a', ⟨z.1, by omega⟩, y⟩)
    · obtain ⟨ha, f1, g1, k1⟩ := hI
      have ea : a = C0 510 (n + 1) := by omega
      refine r_Planner_scheduleEnd_186 g1 rn ⟨by omega, by omega⟩ ⟨bn, ?_⟩
      rw [fC f1 510 (by decide)]
      have rm := k1.2.1.room hS n0 n1 hF hF2
      have b1 := g_bs0_b hS (n := n + 1) (by omega) (by omega)
      have inn : ∀ v, s4 v → g_st (X 512) F (X 602 5) v := fun v z => (k1.1 v).mpr (Or.inl z)
      refine ⟨fun _ => h X f1 g1 k1.2.2.2 ⟨⟨hF, k1.2.2.1, by omega⟩, k1.2.1, ?_, ?_, ?_, fun a' a0 a1 an => (k1.1 _).mpr (Or.inr ⟨a', ?_, rfl⟩)⟩ rm, fun z => by omega⟩
      · exact ⟨fun e e0 e1' en => inn _ (up4 _ (up3 _ (up2 _ (up1 _ (al.1 e e0 e1' en))))), fun e e0 e1' en => inn _ (up4 _ (up3 _ (up2 _ (up1 _ (al.2 e e0 e1' en)))))⟩
      · exact ((aw.mono up3).mono up4).mono inn
      · exact ⟨fun q q0 q1 qn o => inn _ (ak.1 q q0 q1 qn o), fun l l0 l1 z => inn _ (ak.2 l l0 l1 z)⟩
      · have := (hS.aN a0 a1 n0 n1).mpr an
        exact ⟨this.1, by omega⟩
  -- 4. last values
  have p4 : ∀ W, g_fr [512, 602] V W → ax_g W → g_PC C0 M0 V0 W n F s3 → k_Planner_scheduleEnd_142 B r (d + 3) n (n * 26) W Ψ Θ := by
    intro W fW gW kW
    refine ax_for (I := fun x X => (26 * n ≤ x ∧ x ≤ 26 * n + 26) ∧ g_fr [512, 602] V X ∧ ax_g X ∧ g_PC C0 M0 V0 X n F (fun v => s3 v ∨ ∃ l, (0 ≤ l ∧ 26 * n + l < x) ∧ ¬ M0 236 (26 * n + l) = 0 ∧ v = 4096 + 26 * n + l)) (K := fun x X => k_Planner_scheduleEnd_142 B r (d + 3) n x X Ψ Θ) (hi := 26 * n + 26) (fun x X w hI next => ?_) (fun x X w hI => ?_) (n * 26) W ⟨⟨by omega, by omega⟩, fW, gW, kW.of (fun v => ⟨fun z => Or.inl z, fun z => by rcases z with z | ⟨a', z, -⟩; exact z; omega⟩)⟩
    · obtain ⟨hx, f1, g1, k1⟩ := hI
      obtain ⟨l, el⟩ : ∃ l, l = x - 26 * n := ⟨_, rfl⟩
      have ex : x = 26 * n + l := by omega
      have ls := (hS.l n0 n1 (l := l) (by omega) (by omega)).2.2.2.2.1.1
      refine r_Planner_scheduleEnd_142 g1 rn ⟨by omega, by omega⟩ ⟨⟨by omega, by omega⟩, fun z => by omega, fun _ => ⟨⟨by omega, by omega⟩, ?_⟩⟩
      rw [fC f1 538 (by decide), ex, ls]
      rw [ex] at next
      refine ⟨fun z => next X ⟨⟨by omega, by omega⟩, f1, g1, k1.of (fun v => ?_)⟩, fun z => t_addStep (k := 4) (x := 26 * n + l) hS n0 n1 hF hF2 g1 k1 (by decide) ⟨by omega, by omega⟩ ?_ ?_ (fun X2 f2 g2 r2 k2 => next X2 ⟨⟨by omega, by omega⟩, f1.tr f2, g2, k2.of (fun v => ?_)⟩)⟩
      · constructor
        · rintro (y | ⟨a', y, y2⟩)
          · exact Or.inl y
          · exact Or.inr ⟨a', ⟨y.1, by omega⟩, y2⟩
        · rintro (y | ⟨a', y, y2, y3⟩)
          · exact Or.inl y
          · by_cases u : a' = l
            · rw [u] at y2; exact absurd z y2
            · exact Or.inr ⟨a', ⟨y.1, by omega⟩, y2, y3⟩
      · rintro (y | ⟨a', y, y2⟩)
        · rcases (i3 _).mp y with y | ⟨q, q0, -, y⟩
          · have := small2 _ y; omega
          · omega
        · omega
      · exact Or.inr (Or.inr (Or.inr (Or.inr (Or.inl ⟨l, by omega, ⟨by omega, by omega⟩, z, (aw.mono up3).mono (fun v z => Or.inl z)⟩))))
      · constructor
        · rintro ((y | ⟨a', y, y2⟩) | y)
          · exact Or.inl y
          · exact Or.inr ⟨a', ⟨y.1, by omega⟩, y2⟩
          · exact Or.inr ⟨l, ⟨by omega, by omega⟩, z, by omega⟩
        · rintro (y | ⟨a', y, y2, y3⟩)
          · exact Or.inl (Or.inl y)
          · by_cases u : a' = l
            · exact Or.inr (by omega)
            · exact Or.inl (Or.inr ⟨a', ⟨y.1, by omega⟩, y2, y3⟩)
    · obtain ⟨hx, f1, g1, k1⟩ := hI
      refine r_Planner_scheduleEnd_142 g1 rn ⟨by omega, by omega⟩ ⟨⟨by omega, by omega⟩, fun _ => ⟨⟨n0, by omega⟩, ?_⟩, fun z => by omega⟩
      rw [fC f1 510 (by decide)]
      refine p5 X f1 g1 (k1.of (fun v => ?_))
      rw [i4 v]
      constructor
      · rintro (y | ⟨a', y, y2⟩)
        · exact Or.inl y
        · exact Or.inr ⟨a', ⟨y.1, by omega⟩, y2⟩
      · rintro (y | ⟨a', y, y2⟩)
        · exact Or.inl y
        · exact Or.inr ⟨a', ⟨y.1, by omega⟩, y2⟩
  -- 3. delays
  have p3 : ∀ W, g_fr [512, 602] V W → ax_g W → g_PC C0 M0 V0 W n F s2 → k_Planner_scheduleEnd_96 B r (d + 3) n (C0 508 n) W Ψ Θ := by
    intro W fW gW kW
    refine ax_for (I := fun q X => (C0 508 n ≤ q ∧ q ≤ C0 508 (n + 1)) ∧ g_fr [512, 602] V X ∧ ax_g X ∧ g_PC C0 M0 V0 X n F (fun v => s2 v ∨ ∃ q', (C0 508 n ≤ q' ∧ q' < q) ∧ M0 241 q' = 6 ∧ v = 3072 + q')) (K := fun q X => k_Planner_scheduleEnd_96 B r (d + 3) n q X Ψ Θ) (hi := C0 508 (n + 1)) (fun q X w hI next => ?_) (fun q X w hI => ?_) (C0 508 n) W ⟨⟨Int.le_refl _, by omega⟩, fW, gW, kW.of (fun v => ⟨fun z => Or.inl z, fun z => by rcases z with z | ⟨a', z, -⟩; exact z; omega⟩)⟩
    · obtain ⟨hq, f1, g1, k1⟩ := hI
      have q0 : 0 ≤ q := by omega
      have q1 : q < (M0 222 26) := by omega
      have qn := (hS.pN q0 q1 n0 n1).mp ⟨hq.1, w⟩
      have oc := hS.eopc q0 q1
      refine r_Planner_scheduleEnd_96 g1 rn ⟨by omega, by omega⟩ ⟨bn, ?_⟩
      rw [fC f1 508 (by decide), fC f1 517 (by decide)]
      refine ⟨fun z => by omega, fun _ => ⟨⟨q0, by omega⟩, fun o => ?_, fun o => next X ⟨⟨by omega, by omega⟩, f1, g1, k1.of (fun v => ?_)⟩⟩⟩
      · have o6 : M0 241 q = 6 := by omega
        refine t_addStep (k := 3) (x := q) hS n0 n1 hF hF2 g1 k1 (by decide) ⟨q0, by omega⟩ ?_ ?_ (fun X2 f2 g2 r2 k2 => next X2 ⟨⟨by omega, by omega⟩, f1.tr f2, g2, k2.of (fun v => ?_)⟩)
        · rintro (y | ⟨a', y, y2⟩)
          · have := small2 _ y; omega
          · omega
        · exact Or.inr (Or.inr (Or.inr (Or.inl ⟨q, by omega, ⟨⟨q0, q1⟩, qn⟩, o6, aw.mono (fun v z => Or.inl z)⟩)))
        · constructor
          · rintro ((y | ⟨a', y, y2⟩) | y)
            · exact Or.inl y
            · exact Or.inr ⟨a', ⟨y.1, by omega⟩, y2⟩
            · exact Or.inr ⟨q, ⟨hq.1, by omega⟩, o6, by omega⟩
          · rintro (y | ⟨a', y, y2, y3⟩)
            · exact Or.inl (Or.inl y)
            · by_cases u : a' = q
              · exact Or.inr (by omega)
              · exact Or.inl (Or.inr ⟨a', ⟨y.1, by omega⟩, y2, y3⟩)
      · have o6 : ¬ M0 241 q = 6 := by omega
        constructor
        · rintro (y | ⟨a', y, y2⟩)
          · exact Or.inl y
          · exact Or.inr ⟨a', ⟨y.1, by omega⟩, y2⟩
        · rintro (y | ⟨a', y, y2, y3⟩)
          · exact Or.inl y
          · by_cases u : a' = q
            · rw [u] at y2; exact absurd y2 o6
            · exact Or.inr ⟨a', ⟨y.1, by omega⟩, y2, y3⟩
    · obtain ⟨hq, f1, g1, k1⟩ := hI
      have eq : q = C0 508 (n + 1) := by omega
      refine r_Planner_scheduleEnd_96 g1 rn ⟨by omega, by omega⟩ ⟨bn, ?_⟩
      rw [fC f1 508 (by decide)]
      refine ⟨fun _ => p4 X f1 g1 (k1.of (fun v => ?_)), fun z => by omega⟩
      rw [i3 v]
      constructor
      · rintro (y | ⟨a', y, y2⟩)
        · exact Or.inl y
        · exact Or.inr ⟨a', ⟨⟨by omega, by omega⟩, (hS.pN (by omega) (by omega) n0 n1).mp ⟨y.1, by omega⟩⟩, y2⟩
      · rintro (y | ⟨a', y, y2⟩)
        · exact Or.inl y
        · have := (hS.pN y.1.1 y.1.2 n0 n1).mpr y.2
          exact Or.inr ⟨a', ⟨this.1, by omega⟩, y2⟩
  -- 2. weak moves
  have p2 : ∀ W, g_fr [512, 602] V W → ax_g W → g_PC C0 M0 V0 W n F s1 → k_Planner_scheduleEnd_59 B r (d + 3) n (C0 510 n) W Ψ Θ := by
    intro W fW gW kW
    refine ax_for (I := fun a X => (C0 510 n ≤ a ∧ a ≤ C0 510 (n + 1)) ∧ g_fr [512, 602] V X ∧ ax_g X ∧ g_PC C0 M0 V0 X n F (fun v => s1 v ∨ ∃ a', (C0 510 n ≤ a' ∧ a' < a) ∧ g_mv M0 a' 0 v)) (K := fun a X => k_Planner_scheduleEnd_59 B r (d + 3) n a X Ψ Θ) (hi := C0 510 (n + 1)) (fun a X w hI next => ?_) (fun a X w hI => ?_) (C0 510 n) W ⟨⟨Int.le_refl _, by omega⟩, fW, gW, kW.of (fun v => ⟨fun z => Or.inl z, fun z => by rcases z with z | ⟨a', z, -⟩; exact z; omega⟩)⟩
    · obtain ⟨ha, f1, g1, k1⟩ := hI
      have a0 : 0 ≤ a := by omega
      have a1 : a < (M0 222 55) := by omega
      have an := (hS.aN a0 a1 n0 n1).mp ⟨ha.1, w⟩
      refine r_Planner_scheduleEnd_59 g1 rn ⟨by omega, by omega⟩ ⟨bn, ?_⟩
      rw [fC f1 510 (by decide)]
      refine ⟨fun z => by omega, fun _ => t_moves (d := d + 1) hS n0 n1 hF hF2 (xV.tr (f1.up (by decide))) g1 a0 a1 (Or.inl rfl) k1 (fun q mq => ?_) (fun t q up mq kt => ?_) (fun X2 f2 g2 r2 k2 => next X2 ⟨⟨by omega, by omega⟩, f1.tr f2, g2, k2.of (fun v => ?_)⟩)⟩
      · have qb := mvb a 0 q an mq
        obtain ⟨m, m0, mt, ms, ma, mb⟩ := mq
        rintro (z | ⟨a', z, m', m'0, m't, m's, m'a, m'b⟩)
        · rcases (i1 q).mp z with z | z
          · rcases (P5 q qb.1.1.1 qb.1.1.2).mp z with ⟨e', e'0, e'n, e's, e'a, e'b, -⟩ | ⟨a', a'0, a'n, a's, m', m'0, m't, m's, m'a, m'b⟩
            · have := orr.2.2 e' m e'0.1 e'0.2 m0.1 m0.2; omega
            · by_cases u : m' = m
              · rw [u] at m's; omega
              · by_cases u2 : m' < m
                · have := orr.2.1 m' m m'0.1 u2 m0.2; omega
                · have := orr.2.1 m m' m0.1 (by omega) m'0.2; omega
          · exact z.2 qb.2
        · by_cases u : m' = m
          · rw [u, mt] at m't; omega
          · by_cases u2 : m' < m
            · have := orr.2.1 m' m m'0.1 u2 m0.2; omega
            · have := orr.2.1 m m' m0.1 (by omega) m'0.2; omega
      · have qb := mvb a 0 q an mq
        obtain ⟨m, m0, mt, ms, ma, mb⟩ := mq
        exact Or.inl ⟨q, rfl, qb.1, fun x kx => Or.inr (kt x kx), Or.inr (Or.inr ⟨al.mono (fun v z => up v (Or.inl (up1 v z))), Or.inr ⟨m, m0, ms, ma, mb⟩⟩)⟩
      · constructor
        · rintro ((y | ⟨a', y, y2⟩) | y)
          · exact Or.inl y
          · exact Or.inr ⟨a', ⟨y.1, by omega⟩, y2⟩
          · exact Or.inr ⟨a, ⟨ha.1, by omega⟩, y⟩
        · rintro (y | ⟨a', y, y2⟩)
          · exact Or.inl (Or.inl y)
          · by_cases u : a' = a
            · rw [u] at y2; exact Or.inr y2
            · exact Or.inl (Or.inr ⟨a', ⟨y.1, by omega⟩, y2⟩)
    · obtain ⟨ha, f1, g1, k1⟩ := hI
      refine r_Planner_scheduleEnd_59 g1 rn ⟨by omega, by omega⟩ ⟨bn, ?_⟩
      rw [fC f1 510 (by decide), fC f1 508 (by decide)]
      refine ⟨fun _ => ⟨⟨n0, by omega⟩, p3 X f1 g1 (k1.of (fun v => ?_))⟩, fun z => by omega⟩
      rw [i2 v]
      constructor
      · rintro (y | ⟨a', y, y2⟩)
        · exact Or.inl y
        · exact Or.inr ⟨a', ⟨by omega, by omega⟩, (hS.aN (by omega) (by omega) n0 n1).mp ⟨y.1, by omega⟩, y2⟩
      · rintro (y | ⟨a', y, yn, y2⟩)
        · exact Or.inl y
        · have := (hS.aN y.1 y.2 n0 n1).mpr yn
          exact Or.inr ⟨a', ⟨this.1, by omega⟩, y2⟩
  -- 1. late parts
  refine r_Planner_scheduleEnd P2 rn ⟨⟨n0, by omega⟩, ?_⟩
  rw [xV 508 (by decide)]
  refine ax_for (I := fun q X => (C0 508 n ≤ q ∧ q ≤ C0 508 (n + 1)) ∧ g_fr [512, 602] V X ∧ ax_g X ∧ g_PC C0 M0 V0 X n F (fun v => s v ∨ ((C0 508 n ≤ v ∧ v < q) ∧ ¬ C0 526 v = 0))) (K := fun q X => k_Planner_scheduleEnd_10 B r (d + 3) n q X Ψ Θ) (hi := C0 508 (n + 1)) (fun q X w hI next => ?_) (fun q X w hI => ?_) (C0 508 n) V ⟨⟨Int.le_refl _, by omega⟩, g_fr.rf _ _, P2, P3.of (fun v => ⟨fun z => Or.inl z, fun z => by rcases z with z | z; exact z; omega⟩)⟩
  · obtain ⟨hq, f1, g1, k1⟩ := hI
    have q0 : 0 ≤ q := by omega
    have q1 : q < (M0 222 26) := by omega
    have qn := (hS.pN q0 q1 n0 n1).mp ⟨hq.1, w⟩
    refine r_Planner_scheduleEnd_10 g1 rn ⟨by omega, by omega⟩ ⟨bn, ?_⟩
    rw [fC f1 508 (by decide), fC f1 526 (by decide)]
    refine ⟨fun z => by omega, fun _ => ⟨⟨q0, by omega⟩, fun lt => next X ⟨⟨by omega, by omega⟩, f1, g1, k1.of (fun v => ?_)⟩, fun lt => t_addStep (k := 0) (x := q) hS n0 n1 hF hF2 g1 k1 (by decide) ⟨q0, by omega⟩ ?_ ?_ (fun X2 f2 g2 r2 k2 => next X2 ⟨⟨by omega, by omega⟩, f1.tr f2, g2, k2.of (fun v => ?_)⟩)⟩⟩
    · constructor
      · rintro (y | y)
        · exact Or.inl y
        · exact Or.inr ⟨⟨y.1.1, by omega⟩, y.2⟩
      · rintro (y | y)
        · exact Or.inl y
        · by_cases u : v = q
          · rw [u] at y; exact absurd lt y.2
          · exact Or.inr ⟨⟨y.1.1, by omega⟩, y.2⟩
    · rw [show 1024 * 0 + q = q by omega]
      rintro (z | z)
      · rcases (P5 q q0 q1).mp z with ⟨e', -, -, -, -, -, e'l⟩ | ⟨a', a'0, a'n, a's, mq⟩
        · exact lt e'l
        · exact lt (mvb a' 1 q a'n mq).2
      · omega
    · rw [show 1024 * 0 + q = q by omega]
      refine Or.inl ⟨q, rfl, ⟨⟨q0, q1⟩, qn⟩, fun x kx => Or.inr (Or.inr ⟨?_, ?_⟩), Or.inr (Or.inr ⟨al.mono (fun v z => Or.inl z), Or.inl lt⟩)⟩
      · have xq := ((hS.p q0 q1).2.2.2.2.2.2.2.2.2.2 x kx).1
        have xn := hS.kidn q0 q1 kx
        have := (hS.pN kx.1 (by omega) n0 n1).mpr (by rw [xn]; exact qn)
        exact ⟨this.1, xq⟩
      · have l := ((hS.p q0 q1).2.2.2.2.2.2.2.2.2.2 x kx).2
        rw [l]
        split
        · decide
        · exact lt
    · rw [show 1024 * 0 + q = q by omega]
      constructor
      · rintro ((y | y) | y)
        · exact Or.inl y
        · exact Or.inr ⟨⟨y.1.1, by omega⟩, y.2⟩
        · rw [y]; exact Or.inr ⟨⟨hq.1, by omega⟩, lt⟩
      · rintro (y | y)
        · exact Or.inl (Or.inl y)
        · by_cases u : v = q
          · exact Or.inr u
          · exact Or.inl (Or.inr ⟨⟨y.1.1, by omega⟩, y.2⟩)
  · obtain ⟨hq, f1, g1, k1⟩ := hI
    refine r_Planner_scheduleEnd_10 g1 rn ⟨by omega, by omega⟩ ⟨bn, ?_⟩
    rw [fC f1 508 (by decide), fC f1 510 (by decide)]
    refine ⟨fun _ => ⟨⟨n0, by omega⟩, p2 X f1 g1 (k1.of (fun v => ?_))⟩, fun z => by omega⟩
    rw [i1 v]
    constructor
    · rintro (y | y)
      · exact Or.inl y
      · exact Or.inr ⟨⟨⟨by omega, by omega⟩, (hS.pN (by omega) (by omega) n0 n1).mp ⟨y.1.1, by omega⟩⟩, y.2⟩
    · rintro (y | y)
      · exact Or.inl y
      · have := (hS.pN y.1.1.1 y.1.1.2 n0 n1).mpr y.1.2
        exact Or.inr ⟨⟨this.1, by omega⟩, y.2⟩
end End
