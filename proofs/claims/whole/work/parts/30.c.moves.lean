/-! MOVES AND EQUATIONS among the steps -/
theorem b_sub {x y : Int} (hx : b_ok x) : ax_and x (ax_xor y (-1)) = 0 ↔ ∀ l, 0 ≤ l → l < 26 → b_in x l → b_in y l := by
  rw [b_zero (b_ok_and hx)]
  constructor
  · intro h l a b c
    exact Classical.byContradiction fun z => h l a b ((b_in_and _ _ _).mpr ⟨c, (b_in_not _ _ ⟨a, b⟩).mpr z⟩)
  · intro h l a b c
    have := (b_in_and _ _ _).mp c
    exact (b_in_not _ _ ⟨a, b⟩).mp this.2 (h l a b this.1)
section Moves
variable {B r d : Nat} {C0 M0 V0 V : ax_V} {n F : Int} {s t : Int → Prop} {Φ : Int → ax_V → Prop} {Ψ Θ : ax_V → Prop}
theorem g_rd.mono {y : Int} (m : ∀ v, s v → t v) (h : g_rd M0 s n y) : g_rd M0 t n y := by
  rcases h with h | h
  · exact Or.inl h
  · exact Or.inr ⟨h.1, fun e i a b c => m _ (h.2 e i a b c)⟩
theorem g_eb.mono {e : Int} (m : ∀ v, s v → t v) (h : g_eb C0 M0 s n e) : g_eb C0 M0 t n e := ⟨fun y a b c => (h.1 y a b c).mono m, fun z => m _ (h.2 z)⟩
theorem g_ab.mono {a : Int} (m : ∀ v, s v → t v) (h : g_ab C0 M0 s n a) : g_ab C0 M0 t n a := fun y a b c => (h y a b c).mono m
theorem g_al.mono (m : ∀ v, s v → t v) (h : g_al M0 s n) : g_al M0 t n := ⟨fun e a b c => m _ (h.1 e a b c), fun e a b c => m _ (h.2 e a b c)⟩
theorem g_aw.mono (m : ∀ v, s v → t v) (h : g_aw M0 s n) : g_aw M0 t n := ⟨fun e a b c => m _ (h.1 e a b c), fun e a b c => m _ (h.2.1 e a b c), fun e a b c => m _ (h.2.2 e a b c)⟩
theorem g_PC.of (h : g_PC C0 M0 V0 V n F s) (k : ∀ v, s v ↔ t v) : g_PC C0 M0 V0 V n F t := ⟨fun v => (h.1 v).trans (k v), h.2⟩
/-- the parts of the moves of a, strong ones or weak ones -/
def g_mv (M : ax_V) (a x q : Int) : Prop := ∃ m, (0 ≤ m ∧ m < (M 222 60)) ∧ M 271 m = a ∧ M 273 m = x ∧ M 276 m ≤ q ∧ q ≤ M 277 m
theorem t_moves {a x : Int} (hS : g_S C0 M0) (n0 : 0 ≤ n) (n1 : n < (M0 222 86)) (hF : 0 ≤ F) (hF2 : F ≤ g_bs0 C0 n) (hf : g_fr g_XP C0 V) (hg : ax_g V) (a0 : 0 ≤ a) (a1 : a < (M0 222 55)) (hx : x = 0 ∨ x = 1) (hP : g_PC C0 M0 V0 V n F s) (fresh : ∀ q, g_mv M0 a x q → ¬ s q) (may : ∀ (t : Int → Prop) q, (∀ v, s v → t v) → g_mv M0 a x q → (∀ x, e_kid M0 q x → t x) → g_sk C0 M0 t n q) (h : ∀ W, g_fr [512, 602] V W → ax_g W → W 602 6 = V 602 6 → g_PC C0 M0 V0 W n F (fun v => s v ∨ g_mv M0 a x v) → Ψ W) : ax_N (az_W B (az_EL B r)) (d + 2) q_Planner_scheduleMoves [.ref r, ax_i a, ax_i x] V Ψ Θ := by
  have hat := hS.2.2.2.2.2.2.2
  have hN := hS.2.1
  have p0 := hS.2.2.1.1
  have hB := hS.2.2.2.2.1
  have hct := hB.1
  have hc1 := hct.1
  have hc3 := hct.2.2.1
  have hc5 := hct.2.2.2.2.1
  have fa := hS.au a0 a1
  have fm := fa.1.2.2.2.1
  have ra : ax_rg a := ⟨by omega, by omega⟩
  have rx : ax_rg x := by rcases hx with z | z <;> rw [z] <;> decide
  have ba : 0 ≤ a + 1 ∧ a + 1 < 351 := ⟨by omega, by omega⟩
  have fC : ∀ {W : ax_V}, g_fr [512, 602] V W → ∀ c, c ∉ g_XP → W c = C0 c := fun f c z => by rw [f c (fun y => z (by simp at y; rcases y with y | y <;> rw [y] <;> decide))]; exact hf c z
  refine r_Planner_scheduleMoves hg ra rx ⟨⟨a0, by omega⟩, ?_⟩
  rw [hf 559 (by decide)]
  refine ax_for (I := fun m W => (C0 559 a ≤ m ∧ m ≤ C0 559 (a + 1)) ∧ g_fr [512, 602] V W ∧ ax_g W ∧ W 602 6 = V 602 6 ∧ g_PC C0 M0 V0 W n F (fun v => s v ∨ ∃ m', (C0 559 a ≤ m' ∧ m' < m) ∧ M0 273 m' = x ∧ M0 276 m' ≤ v ∧ v ≤ M0 277 m')) (K := fun m W => ∀ y4, ax_y y4 → k_Planner_scheduleMoves_10 B r (d + 1) a x m y4 W Ψ Θ) (hi := C0 559 (a + 1)) (fun m W w hI next y4 hy4 => ?_) (fun m W w hI y4 hy4 => ?_) (C0 559 a) V ⟨⟨Int.le_refl _, by omega⟩, g_fr.rf _ _, hg, rfl, hP.of (fun v => ⟨fun z => Or.inl z, fun z => by rcases z with z | ⟨m', z, -⟩; exact z; omega⟩)⟩ none ax_y_n
  · obtain ⟨hm, f1, g1, r1, k1⟩ := hI
    have m0 : 0 ≤ m := by omega
    have m1 : m < (M0 222 60) := by omega
    have ft := hB.2.2.2.2.1 m m0 m1
    have fx := ft.2.2.2.2.2.2.2
    have fx1 := fx.1
    have tm := (hS.mvN a0 a1 m0 m1).mp ⟨hm.1, w⟩
    have bm : 0 ≤ m ∧ m < 350 := ⟨m0, by omega⟩
    have rm : ax_rg m := ⟨by omega, by omega⟩
    refine r_Planner_scheduleMoves_10 g1 ra rx rm hy4 ⟨ba, ?_⟩
    rw [fC f1 559 (by decide), fC f1 570 (by decide), ft.2.2.2.2.1.1]
    refine ⟨fun z => by omega, fun _ => ⟨bm, ?_⟩⟩
    refine ax_for (I := fun q X => (M0 276 m ≤ q ∧ q ≤ M0 277 m + 1) ∧ g_fr [512, 602] V X ∧ ax_g X ∧ X 602 6 = V 602 6 ∧ g_PC C0 M0 V0 X n F (fun v => (s v ∨ ∃ m', (C0 559 a ≤ m' ∧ m' < m) ∧ M0 273 m' = x ∧ M0 276 m' ≤ v ∧ v ≤ M0 277 m') ∨ (M0 273 m = x ∧ M0 276 m ≤ v ∧ v < q))) (K := fun q X => k_Planner_scheduleMoves_36 B r (d + 1) a x m q X Ψ Θ) (hi := M0 277 m + 1) (fun q X w2 hI2 next2 => ?_) (fun q X w2 hI2 => ?_) (M0 276 m) W ⟨⟨Int.le_refl _, by omega⟩, f1, g1, r1, k1.of (fun v => ⟨fun z => Or.inl z, fun z => by rcases z with z | z; exact z; omega⟩)⟩
    · obtain ⟨hq, f2, g2, r2, k2⟩ := hI2
      refine r_Planner_scheduleMoves_36 g2 ra rx rm ⟨by omega, by omega⟩ ⟨bm, ?_⟩
      rw [fC f2 571 (by decide), fC f2 568 (by decide), ft.2.2.2.2.1.2, ft.2.2.1.1]
      refine ⟨fun z => by omega, fun _ => ⟨bm, fun st => ?_, fun st => next2 X ⟨⟨by omega, by omega⟩, f2, g2, r2, k2.of (fun v => ⟨fun z => by rcases z with z | z; exact Or.inl z; exact absurd z.1 st, fun z => by rcases z with z | z; exact Or.inl z; exact absurd z.1 st⟩)⟩⟩⟩
      have mq : g_mv M0 a x q := ⟨m, ⟨m0, m1⟩, tm, st, hq.1, by omega⟩
      refine t_addStep (k := 0) (x := q) hS n0 n1 hF hF2 g2 k2 (by decide) ⟨by omega, by omega⟩ ?_ ?_ (fun X2 f3 g3 r3 k3 => next2 X2 ⟨⟨by omega, by omega⟩, f2.tr f3, g3, r3.trans r2, k3.of (fun v => ?_)⟩)
      · rw [show 1024 * 0 + q = q by omega]
        rintro ((z | ⟨m', b1, b2, b3, b4⟩) | z)
        · exact fresh q mq z
        · have mm := hS.X1 (q := q) (Or.inr ⟨m, ⟨m0, m1⟩, rfl, rfl⟩) (Or.inr ⟨m', ⟨by omega, by omega⟩, rfl, rfl⟩) ⟨hq.1, by omega⟩ ⟨b3, b4⟩
          have := hS.2.2.2.2.1.2.2.2.2.2.1.2.2.1.2.1 m' m (by omega) (by omega) m1
          omega
        · omega
      · rw [show 1024 * 0 + q = q by omega]
        refine may _ q (fun v z => Or.inl (Or.inl z)) mq (fun y ky => Or.inr ⟨st, ?_, ?_⟩)
        · exact (hS.Xk (Or.inr ⟨m, ⟨m0, m1⟩, rfl, rfl⟩) ⟨hq.1, by omega⟩ ky).1
        · exact (hS.Xk (Or.inr ⟨m, ⟨m0, m1⟩, rfl, rfl⟩) ⟨hq.1, by omega⟩ ky).2
      · rw [show 1024 * 0 + q = q by omega]
        constructor
        · rintro ((z | z) | z)
          · exact Or.inl z
          · exact Or.inr ⟨z.1, z.2.1, by omega⟩
          · exact Or.inr ⟨st, by omega, by omega⟩
        · rintro (z | z)
          · exact Or.inl (Or.inl z)
          · by_cases y : v = q
            · exact Or.inr y
            · exact Or.inl (Or.inr ⟨z.1, z.2.1, by omega⟩)
    · obtain ⟨hq, f2, g2, r2, k2⟩ := hI2
      have eq : q = M0 277 m + 1 := by omega
      refine r_Planner_scheduleMoves_36 g2 ra rx rm ⟨by omega, by omega⟩ ⟨bm, ?_⟩
      rw [fC f2 571 (by decide), ft.2.2.2.2.1.2]
      refine ⟨fun _ => next X ⟨⟨by omega, by omega⟩, f2, g2, r2, k2.of (fun v => ?_)⟩ _ (ax_y_i _), fun z => by omega⟩
      rw [eq]
      constructor
      · rintro ((z | ⟨m', b1, b2⟩) | z)
        · exact Or.inl z
        · exact Or.inr ⟨m', ⟨b1.1, by omega⟩, b2⟩
        · exact Or.inr ⟨m, ⟨hm.1, by omega⟩, z.1, z.2.1, by omega⟩
      · rintro (z | ⟨m', b1, b2⟩)
        · exact Or.inl (Or.inl z)
        · by_cases y : m' = m
          · rw [y] at b2; exact Or.inr ⟨b2.1, b2.2.1, by omega⟩
          · exact Or.inl (Or.inr ⟨m', ⟨b1.1, by omega⟩, b2⟩)
  · obtain ⟨hm, f1, g1, r1, k1⟩ := hI
    have em : m = C0 559 (a + 1) := by omega
    refine r_Planner_scheduleMoves_10 g1 ra rx ⟨by omega, by omega⟩ hy4 ⟨ba, ?_⟩
    rw [fC f1 559 (by decide)]
    refine ⟨fun _ => h W f1 g1 r1 (k1.of (fun v => ?_)), fun z => by omega⟩
    rw [em]
    constructor
    · rintro (z | ⟨m', b1, b2⟩)
      · exact Or.inl z
      · exact Or.inr ⟨m', ⟨by omega, by omega⟩, (hS.mvN a0 a1 (by omega) (by omega)).mp b1, b2⟩
    · rintro (z | ⟨m', b1, b2, b3⟩)
      · exact Or.inl z
      · exact Or.inr ⟨m', (hS.mvN a0 a1 b1.1 b1.2).mpr b2, b3⟩
/-- one equation's parts, and the equation -/
theorem t_eqParts {e : Int} (hS : g_S C0 M0) (n0 : 0 ≤ n) (n1 : n < (M0 222 86)) (hF : 0 ≤ F) (hF2 : F ≤ g_bs0 C0 n) (hf : g_fr g_XP C0 V) (hg : ax_g V) (e0 : 0 ≤ e) (e1 : e < (M0 222 44)) (en : M0 258 e = n) (hP : g_PC C0 M0 V0 V n F s) (fresh : ∀ q, M0 261 e ≤ q → q ≤ M0 262 e → C0 526 q = 0 → ¬ s q) (fre : ¬ s (1024 + e)) (eb : g_eb C0 M0 s n e) {y3 : Option Value} (hy3 : ax_y y3) (h : ∀ W, g_fr [512, 602] V W → ax_g W → W 602 6 = V 602 6 → g_PC C0 M0 V0 W n F (fun v => (s v ∨ (M0 261 e ≤ v ∧ v ≤ M0 262 e ∧ C0 526 v = 0)) ∨ v = 1024 + e) → ∀ V2, V2 = ax_u W 553 e 1 → k_Planner_scheduleEquation_73 B r (d + 1) e (M0 259 e) y3 V2 Ψ Θ) : k_Planner_scheduleEquation_10 B r (d + 1) e (M0 261 e) y3 V Ψ Θ := by
  have hat := hS.2.2.2.2.2.2.2
  have hN := hS.2.1
  have p0 := hS.2.2.1.1
  have hB := hS.2.2.2.2.1
  have hct := hB.1
  have hc1 := hct.1
  have fe := hB.2.1 e e0 e1
  have fx := fe.2.2.2.2.2.1
  have fx1 := fx.1
  have re : ax_rg e := ⟨by omega, by omega⟩
  have be : 0 ≤ e ∧ e < 350 := ⟨e0, by omega⟩
  have fC : ∀ {W : ax_V}, g_fr [512, 602] V W → ∀ c, c ∉ g_XP → W c = C0 c := fun f c z => by rw [f c (fun y => z (by simp at y; rcases y with y | y <;> rw [y] <;> decide))]; exact hf c z
  refine ax_for (I := fun q X => (M0 261 e ≤ q ∧ q ≤ M0 262 e + 1) ∧ g_fr [512, 602] V X ∧ ax_g X ∧ X 602 6 = V 602 6 ∧ (q = M0 262 e + 1 → F < X 602 5 ∧ X 512 (X 602 5 - 1) = M0 262 e) ∧ g_PC C0 M0 V0 X n F (fun v => s v ∨ (M0 261 e ≤ v ∧ v < q ∧ C0 526 v = 0))) (K := fun q X => k_Planner_scheduleEquation_10 B r (d + 1) e q y3 X Ψ Θ) (hi := M0 262 e + 1) (fun q X w2 hI2 next2 => ?_) (fun q X w2 hI2 => ?_) (M0 261 e) V ⟨⟨Int.le_refl _, by omega⟩, g_fr.rf _ _, hg, rfl, fun z => by omega, hP.of (fun v => ⟨fun z => Or.inl z, fun z => by rcases z with z | z; exact z; omega⟩)⟩
  · obtain ⟨hq, f2, g2, r2, -, k2⟩ := hI2
    have qq : 0 ≤ q ∧ q < (M0 222 26) := ⟨by omega, by omega⟩
    refine r_Planner_scheduleEquation_10 g2 re ⟨by omega, by omega⟩ hy3 ⟨be, ?_⟩
    rw [fC f2 550 (by decide), fe.2.2.2.1.2.1, fC f2 526 (by decide)]
    refine ⟨fun z => by omega, fun _ => ⟨⟨qq.1, by omega⟩, fun lt => ?_, fun lt => next2 X ⟨⟨by omega, by omega⟩, f2, g2, r2, fun z => ?_, k2.of (fun v => ?_)⟩⟩⟩
    · refine t_addStep1 (k := 0) (x := q) hS n0 n1 hF hF2 g2 k2 (by decide) ⟨by omega, by omega⟩ ?_ ?_ (fun e' a b z => by omega) (fun X2 f3 g3 r3 k3 l3 => next2 X2 ⟨⟨by omega, by omega⟩, f2.tr f3, g3, r3.trans r2, fun z => ?_, k3.of (fun v => ?_)⟩)
      · rw [show 1024 * 0 + q = q by omega]
        rintro (z | z)
        · exact fresh q hq.1 (by omega) lt z
        · omega
      · rw [show 1024 * 0 + q = q by omega]
        refine Or.inl ⟨q, rfl, ⟨qq, by rw [(fx.2.2 q hq.1 (by omega)).1.1]; exact en⟩, fun y ky => ?_, Or.inl ⟨e, ⟨e0, e1⟩, en, ⟨hq.1, by omega⟩, lt, eb.mono (fun v z => Or.inl z)⟩⟩
        by_cases o : M0 241 q = 6
        · exact Or.inl o
        · have xk := hS.Xk (Or.inl ⟨e, ⟨e0, e1⟩, rfl, rfl⟩) ⟨hq.1, by omega⟩ ky
          have ly := ((hS.p qq.1 qq.2).2.2.2.2.2.2.2.2.2.2 y ky).2
          rw [if_neg o] at ly
          exact Or.inr (Or.inr ⟨xk.1, xk.2, by rw [ly]; exact lt⟩)
      · have p3 := k2.2.2.1
        rw [l3.1, show X 602 5 + 1 - 1 = X 602 5 by omega, l3.2]
        exact ⟨by omega, by omega⟩
      · rw [show 1024 * 0 + q = q by omega]
        constructor
        · rintro ((z | z) | z)
          · exact Or.inl z
          · exact Or.inr ⟨z.1, by omega, z.2.2⟩
          · rw [z]; exact Or.inr ⟨hq.1, by omega, lt⟩
        · rintro (z | z)
          · exact Or.inl (Or.inl z)
          · by_cases y : v = q
            · exact Or.inr y
            · exact Or.inl (Or.inr ⟨z.1, by omega, z.2.2⟩)
    · exfalso
      exact lt (by rw [show q = M0 262 e by omega]; exact fx.2.1.1)
    · constructor
      · rintro (z | z)
        · exact Or.inl z
        · exact Or.inr ⟨z.1, by omega, z.2.2⟩
      · rintro (z | z)
        · exact Or.inl z
        · by_cases y : v = q
          · rw [y] at z; exact absurd z.2.2 lt
          · exact Or.inr ⟨z.1, by omega, z.2.2⟩
  · obtain ⟨hq, f2, g2, r2, l2, k2⟩ := hI2
    have eq : q = M0 262 e + 1 := by omega
    have l2' := l2 eq
    rw [eq] at k2
    refine r_Planner_scheduleEquation_10 g2 re ⟨by omega, by omega⟩ hy3 ⟨be, ?_⟩
    rw [fC f2 550 (by decide), fe.2.2.2.1.2.1]
    refine ⟨fun _ => ?_, fun z => by omega⟩
    refine t_addStep1 (k := 1) (x := e) hS n0 n1 hF hF2 g2 k2 (by decide) ⟨by omega, by omega⟩ ?_ ?_ (fun e' a b z => by rw [show e' = e by omega]; exact l2') (fun X2 f3 g3 r3 k3 _ => ⟨be, fun V2 e2 => ⟨⟨e0, by omega⟩, ?_⟩⟩)
    · rw [show 1024 * 1 + e = 1024 + e by omega]
      rintro (z | z)
      · exact fre z
      · omega
    · rw [show 1024 * 1 + e = 1024 + e by omega]
      exact Or.inr (Or.inl ⟨e, rfl, ⟨e0, e1⟩, en, eb.mono (fun v z => Or.inl z), fun q a b c => Or.inr ⟨a, by omega, c⟩⟩)
    · have c48 : V2 548 = C0 548 := by rw [e2, ax_u_ne (by decide)]; exact fC (f2.tr f3) 548 (by decide)
      rw [c48, fe.2.1.1]
      refine h X2 (f2.tr f3) g3 (r3.trans r2) (k3.of (fun v => ?_)) V2 e2
      rw [show 1024 * 1 + e = 1024 + e by omega]
      constructor
      · rintro ((z | z) | z)
        · exact Or.inl (Or.inl z)
        · exact Or.inl (Or.inr ⟨z.1, by omega, z.2.2⟩)
        · exact Or.inr z
      · rintro ((z | z) | z)
        · exact Or.inl (Or.inl z)
        · exact Or.inl (Or.inr ⟨z.1, by omega, z.2.2⟩)
        · exact Or.inr z
end Moves
