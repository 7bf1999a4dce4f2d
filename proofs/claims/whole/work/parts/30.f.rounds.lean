/-! SCHEDULING: rounds -/
theorem g_ct_mo {f f' : Int → Int} {s : Int} : ∀ k : Nat, (∀ i, s ≤ i → i < s + (k : Int) → ¬ f i = 0 → ¬ f' i = 0) → g_ct f' s k ≤ g_ct f s k := by
  intro k
  induction k with
  | zero => exact fun _ => Nat.le_refl _
  | succ k ih =>
    intro h
    have e : g_ct f' s (k + 1) = g_ct f' s k + if f' (s + (k : Int)) = 0 then 1 else 0 := rfl
    have e' : g_ct f s (k + 1) = g_ct f s k + if f (s + (k : Int)) = 0 then 1 else 0 := rfl
    have a := ih (fun i a b => h i a (by omega))
    have b := h (s + (k : Int)) (by omega) (by omega)
    rw [e, e']
    by_cases z : f (s + (k : Int)) = 0
    · rw [if_pos z]; split <;> omega
    · rw [if_neg z, if_neg (b z)]; omega
theorem g_ct_lt {f f' : Int → Int} {s x : Int} (h0 : f x = 0) (h1 : ¬ f' x = 0) : ∀ k : Nat, s ≤ x → x < s + (k : Int) → (∀ i, s ≤ i → i < s + (k : Int) → ¬ f i = 0 → ¬ f' i = 0) → g_ct f' s k + 1 ≤ g_ct f s k := by
  intro k
  induction k with
  | zero => exact fun a b => by omega
  | succ k ih =>
    intro xa xb h
    have e : g_ct f' s (k + 1) = g_ct f' s k + if f' (s + (k : Int)) = 0 then 1 else 0 := rfl
    have e' : g_ct f s (k + 1) = g_ct f s k + if f (s + (k : Int)) = 0 then 1 else 0 := rfl
    rw [e, e']
    by_cases z : x = s + (k : Int)
    · have a := g_ct_mo (f := f) (f' := f') (s := s) k (fun i a b => h i a (by omega))
      rw [← z, if_pos h0, if_neg h1]; omega
    · have a := ih xa (by omega) (fun i a b => h i a (by omega))
      have b := h (s + (k : Int)) (by omega) (by omega)
      by_cases y : f (s + (k : Int)) = 0
      · rw [if_pos y]; split <;> omega
      · rw [if_neg y, if_neg (b y)]; omega
/-- how much is left to do in a node -/
def g_un (C0 V : ax_V) (n : Int) : Nat := g_ct (V 553) (C0 509 n) (C0 509 (n + 1) - C0 509 n).toNat + g_ct (V 562) (C0 510 n) (C0 510 (n + 1) - C0 510 n).toNat
/-- what the masks hold -/
def g_NM (C0 M0 V0 : ax_V) : Prop := (∀ a, 0 ≤ a → a < (M0 222 55) → b_ok (V0 561 a) ∧ ∀ y, 0 ≤ y → y < 26 → (b_in (V0 561 a) y ↔ g_nd C0 M0 a y)) ∧ ∀ e, 0 ≤ e → e < (M0 222 44) → b_ok (V0 552 e) ∧ ∀ y, 0 ≤ y → y < 26 → (b_in (V0 552 e) y ↔ g_en C0 M0 e y)
section Rounds
variable {B r d : Nat} {C0 M0 V0 V W : ax_V} {n F : Int} {s t : Int → Prop} {Φ : Int → ax_V → Prop} {Ψ Θ : ax_V → Prop}
theorem g_PI.un (hS : g_S C0 M0) (n0 : 0 ≤ n) (n1 : n < (M0 222 86)) (hV : g_PI C0 M0 V0 V n F s) (hW : g_PI C0 M0 V0 W n F t) (st : ∀ v, s v → t v) : g_un C0 W n ≤ g_un C0 V n ∧ (((∃ e, (0 ≤ e ∧ e < (M0 222 44)) ∧ M0 258 e = n ∧ ¬ s (1024 + e) ∧ t (1024 + e)) ∨ ∃ a, (0 ≤ a ∧ a < (M0 222 55)) ∧ M0 267 a = n ∧ ¬ s (2048 + a) ∧ t (2048 + a)) → g_un C0 W n + 1 ≤ g_un C0 V n) := by
  have E0 := hS.eqF n0 (by omega)
  have E1 := hS.eqF (n := n + 1) (by omega) (by omega)
  have E2 := hS.eqS n0 n1
  have me : ∀ i, C0 509 n ≤ i → i < C0 509 n + ((C0 509 (n + 1) - C0 509 n).toNat : Int) → ¬ V 553 i = 0 → ¬ W 553 i = 0 := fun i a b z => by
    have en := (hS.eqN (e := i) (by omega) (by omega) n0 n1).mp ⟨a, by omega⟩
    exact (hW.2.2.2.2.1.1 i (by omega) (by omega) en).2.mpr (st _ ((hV.2.2.2.2.1.1 i (by omega) (by omega) en).2.mp z))
  have ma : ∀ i, C0 510 n ≤ i → i < C0 510 n + ((C0 510 (n + 1) - C0 510 n).toNat : Int) → ¬ V 562 i = 0 → ¬ W 562 i = 0 := fun i a b z => by
    have an := (hS.aN (a := i) (by omega) (by omega) n0 n1).mp ⟨a, by omega⟩
    exact (hW.2.2.2.2.2.1.1 i (by omega) (by omega) an).2.mpr (st _ ((hV.2.2.2.2.2.1.1 i (by omega) (by omega) an).2.mp z))
  have le := g_ct_mo _ me
  have la := g_ct_mo _ ma
  unfold g_un
  refine ⟨by omega, fun h => ?_⟩
  rcases h with ⟨e, e0, en, e1, e2⟩ | ⟨a, a0, an, a1, a2⟩
  · have u := (hS.eqN e0.1 e0.2 n0 n1).mpr en
    have := g_ct_lt (f := V 553) (f' := W 553) (s := C0 509 n) (x := e) (Classical.byContradiction fun z => e1 ((hV.2.2.2.2.1.1 e e0.1 e0.2 en).2.mp z)) ((hW.2.2.2.2.1.1 e e0.1 e0.2 en).2.mpr e2) _ u.1 (by omega) me
    omega
  · have u := (hS.aN a0.1 a0.2 n0 n1).mpr an
    have := g_ct_lt (f := V 562) (f' := W 562) (s := C0 510 n) (x := a) (Classical.byContradiction fun z => a1 ((hV.2.2.2.2.2.1.1 a a0.1 a0.2 an).2.mp z)) ((hW.2.2.2.2.2.1.1 a a0.1 a0.2 an).2.mpr a2) _ u.1 (by omega) ma
    omega
set_option maxHeartbeats 2000000 in
theorem t_strong (hS : g_S C0 M0) (n0 : 0 ≤ n) (n1 : n < (M0 222 86)) (hF : 0 ≤ F) (hF2 : F ≤ g_bs0 C0 n) (hf : g_fr g_XP C0 V0) (hM : g_NM C0 M0 V0) (hP : g_PI C0 M0 V0 V n F s) (h : ∀ x W t, g_PI C0 M0 V0 W n F t → (∀ v, s v → t v) → ((x = 0 ∧ t = s ∧ ∀ a, 0 ≤ a → a < (M0 222 55) → M0 267 a = n → s (2048 + a) ∨ ¬ g_ab C0 M0 s n a) ∨ (x = 1 ∧ g_un C0 W n + 1 ≤ g_un C0 V n)) → Φ x W) : ax_I (az_W B (az_EL B r)) (d + 3) q_Planner_scheduleStrong [.ref r, ax_i n] V Φ Θ := by
  have sm := hS.small
  have hN := hS.2.1
  have E0 := hS.eqF n0 (by omega)
  have E1 := hS.eqF (n := n + 1) (by omega) (by omega)
  have E2 := hS.eqS n0 n1
  have rn : ax_rg n := ⟨by omega, by omega⟩
  have bn : 0 ≤ n + 1 ∧ n + 1 < 9 := ⟨by omega, by omega⟩
  have xV : g_fr g_XP C0 V := hf.tr (hP.1.1.up (by decide))
  refine r_Planner_scheduleStrong hP.1.2 rn ⟨⟨n0, by omega⟩, ?_⟩
  rw [xV 510 (by decide)]
  refine ax_for (I := fun a W => (C0 510 n ≤ a ∧ a ≤ C0 510 (n + 1)) ∧ True) (K := fun a W => ∀ x t, g_PI C0 M0 V0 W n F t → (∀ v, s v → t v) → ((x = 0 ∧ t = s ∧ ∀ a', C0 510 n ≤ a' → a' < a → s (2048 + a') ∨ ¬ g_ab C0 M0 s n a') ∨ (x = 1 ∧ g_un C0 W n + 1 ≤ g_un C0 V n)) → k_Planner_scheduleStrong_12 B r (d + 2) n x a W Φ Θ) (hi := C0 510 (n + 1)) (fun a W w hI next x t hW st hx => ?_) (fun a W w hI x t hW st hx => ?_) (C0 510 n) V ⟨⟨Int.le_refl _, by omega⟩, trivial⟩ 0 s hP (fun _ z => z) (Or.inl ⟨rfl, rfl, fun a' z y => by omega⟩)
  · obtain ⟨ha, -⟩ := hI
    have a0 : 0 ≤ a := by omega
    have a1 : a < (M0 222 55) := by omega
    have an := (hS.aN a0 a1 n0 n1).mp ⟨ha.1, w⟩
    have rx : ax_rg x := by rcases hx with z | z <;> rw [z.1] <;> decide
    have xW : g_fr g_XP C0 W := hf.tr (hW.1.1.up (by decide))
    have ba : 0 ≤ a ∧ a < 350 := ⟨a0, by omega⟩
    have mk := hM.1 a a0 a1
    have n61 : W 561 = V0 561 := hW.1.1 561 (by decide)
    have p7 := hW.2.2.2.2.2.1.1 a a0 a1 an
    have p10 := hW.2.2.2.2.2.2.2.2
    have skip : t (2048 + a) ∨ ¬ g_ab C0 M0 t n a → k_Planner_scheduleStrong_12 B r (d + 2) n x (a + 1) W Φ Θ := fun z => next W ⟨⟨by omega, by omega⟩, trivial⟩ x t hW st (by
      rcases hx with y | y
      · refine Or.inl ⟨y.1, y.2.1, fun a' u v => ?_⟩
        by_cases e : a' = a
        · rw [y.2.1] at z; rw [e]; exact z
        · exact y.2.2 a' u (by omega)
      · exact Or.inr y)
    have sub : ax_and (V0 561 a) (ax_xor (W 602 6) (-1)) = 0 ↔ g_ab C0 M0 t n a := by
      rw [b_sub mk.1]
      exact ⟨fun z y u v c => (p10 y u v).mp (z y u v ((mk.2 y u v).mpr c)), fun z y u v c => (p10 y u v).mpr (z y u v ((mk.2 y u v).mp c))⟩
    refine r_Planner_scheduleStrong_12 hW.1.2 rn rx ⟨by omega, by omega⟩ ⟨bn, ?_⟩
    rw [xW 510 (by decide), n61]
    refine ⟨fun z => by omega, fun _ => ⟨ba, fun ud => ⟨ba, fun z => ?_, fun z => skip (Or.inr (fun y => z (sub.mpr y)))⟩, fun ud => skip (Or.inl (p7.2.mp ud))⟩⟩
    have fre : ¬ t (2048 + a) := fun y => (p7.2.mpr y) ud
    refine t_schedAut hS n0 n1 hF hF2 hf hW a0 a1 an ud (sub.mp z) (fun W2 hW2 => next W2 ⟨⟨by omega, by omega⟩, trivial⟩ 1 _ hW2 (fun v y => Or.inl (Or.inl (st v y))) (Or.inr ⟨rfl, ?_⟩))
    have u := (g_PI.un hS n0 n1 hW hW2 (fun v y => Or.inl (Or.inl y))).2 (Or.inr ⟨a, ⟨a0, a1⟩, an, fre, Or.inr rfl⟩)
    have v := (g_PI.un hS n0 n1 hP hW st).1
    omega
  · obtain ⟨ha, -⟩ := hI
    have rx : ax_rg x := by rcases hx with z | z <;> rw [z.1] <;> decide
    have xW : g_fr g_XP C0 W := hf.tr (hW.1.1.up (by decide))
    refine r_Planner_scheduleStrong_12 hW.1.2 rn rx ⟨by omega, by omega⟩ ⟨bn, ?_⟩
    rw [xW 510 (by decide)]
    refine ⟨fun _ => ⟨by rcases hx with z | z; exact Or.inl z.1; exact Or.inr z.1, h x W t hW st ?_⟩, fun z => by omega⟩
    rcases hx with y | y
    · refine Or.inl ⟨y.1, y.2.1, fun a' a0 a1 an => ?_⟩
      have := (hS.aN a0 a1 n0 n1).mpr an
      exact y.2.2 a' this.1 (by omega)
    · exact Or.inr y
set_option maxHeartbeats 2000000 in
theorem t_equations (hS : g_S C0 M0) (ok : g_N2 M0) (n0 : 0 ≤ n) (n1 : n < (M0 222 86)) (hF : 0 ≤ F) (hF2 : F ≤ g_bs0 C0 n) (hf : g_fr g_XP C0 V0) (hM : g_NM C0 M0 V0) (hP : g_PI C0 M0 V0 V n F s) (h : ∀ x W t, g_PI C0 M0 V0 W n F t → (∀ v, s v → t v) → ((x = 0 ∧ t = s ∧ ∀ e, 0 ≤ e → e < (M0 222 44) → M0 258 e = n → s (1024 + e) ∨ ¬ g_eb C0 M0 s n e) ∨ (x = 1 ∧ g_un C0 W n + 1 ≤ g_un C0 V n)) → Φ x W) : ax_I (az_W B (az_EL B r)) (d + 3) q_Planner_scheduleEquations [.ref r, ax_i n] V Φ Θ := by
  have sm := hS.small
  have hN := hS.2.1
  have hB := hS.2.2.2.2.1
  have E0 := hS.eqF n0 (by omega)
  have E1 := hS.eqF (n := n + 1) (by omega) (by omega)
  have E2 := hS.eqS n0 n1
  have rn : ax_rg n := ⟨by omega, by omega⟩
  have bn : 0 ≤ n + 1 ∧ n + 1 < 9 := ⟨by omega, by omega⟩
  have xV : g_fr g_XP C0 V := hf.tr (hP.1.1.up (by decide))
  refine r_Planner_scheduleEquations hP.1.2 rn ⟨⟨n0, by omega⟩, ?_⟩
  rw [xV 509 (by decide)]
  refine ax_for (I := fun e W => (C0 509 n ≤ e ∧ e ≤ C0 509 (n + 1)) ∧ True) (K := fun e W => ∀ x t y4 y5, ax_y y4 → ax_y y5 → g_PI C0 M0 V0 W n F t → (∀ v, s v → t v) → ((x = 0 ∧ t = s ∧ ∀ e', C0 509 n ≤ e' → e' < e → s (1024 + e') ∨ ¬ g_eb C0 M0 s n e') ∨ (x = 1 ∧ g_un C0 W n + 1 ≤ g_un C0 V n)) → k_Planner_scheduleEquations_12 B r (d + 2) n x e y4 y5 W Φ Θ) (hi := C0 509 (n + 1)) (fun e W w hI next x t y4 y5 hy4 hy5 hW st hx => ?_) (fun e W w hI x t y4 y5 hy4 hy5 hW st hx => ?_) (C0 509 n) V ⟨⟨Int.le_refl _, by omega⟩, trivial⟩ 0 s none none ax_y_n ax_y_n hP (fun _ z => z) (Or.inl ⟨rfl, rfl, fun a' z y => by omega⟩)
  · obtain ⟨he, -⟩ := hI
    have e0 : 0 ≤ e := by omega
    have e1 : e < (M0 222 44) := by omega
    have en := (hS.eqN e0 e1 n0 n1).mp ⟨he.1, w⟩
    have rx : ax_rg x := by rcases hx with z | z <;> rw [z.1] <;> decide
    have xW : g_fr g_XP C0 W := hf.tr (hW.1.1.up (by decide))
    have be : 0 ≤ e ∧ e < 350 := ⟨e0, by omega⟩
    have re : ax_rg e := ⟨by omega, by omega⟩
    have mk := hM.2 e e0 e1
    have n52 : W 552 = V0 552 := hW.1.1 552 (by decide)
    have p6 := hW.2.2.2.2.1.1 e e0 e1 en
    have p10 := hW.2.2.2.2.2.2.2.2
    have fst := (hB.2.1 e e0 e1).2.2.2.2.1
    have skip : t (1024 + e) ∨ ¬ g_eb C0 M0 t n e → ∀ y4 y5, ax_y y4 → ax_y y5 → k_Planner_scheduleEquations_12 B r (d + 2) n x (e + 1) y4 y5 W Φ Θ := fun z y4 y5 hy4 hy5 => next W ⟨⟨by omega, by omega⟩, trivial⟩ x t y4 y5 hy4 hy5 hW st (by
      rcases hx with y | y
      · refine Or.inl ⟨y.1, y.2.1, fun a' u v => ?_⟩
        by_cases q : a' = e
        · rw [y.2.1] at z; rw [q]; exact z
        · exact y.2.2 a' u (by omega)
      · exact Or.inr y)
    have sub : ax_and (V0 552 e) (ax_xor (W 602 6) (-1)) = 0 ↔ (∀ y, 0 ≤ y → y < 26 → g_en C0 M0 e y → g_rd M0 t n y) := by
      rw [b_sub mk.1]
      exact ⟨fun z y u v c => (p10 y u v).mp (z y u v ((mk.2 y u v).mpr c)), fun z y u v c => (p10 y u v).mpr (z y u v ((mk.2 y u v).mp c))⟩
    -- behind the question whether its automaton is done
    have go : ∀ (y4 y5 : Option Value) (s0 : Int), ax_y y4 → ax_y y5 → (s0 = 0 ∨ s0 = 1) → (¬ s0 = 0 ↔ (¬ M0 263 e = -1 → t (2048 + M0 263 e))) → k_Planner_scheduleEquations_70 B r (d + 2) n x e y4 y5 s0 W Φ Θ := by
      intro y4 y5 s0 hy4 hy5 h01 hs0
      have rs : ax_rg s0 := by rcases h01 with z | z <;> rw [z] <;> decide
      refine r_Planner_scheduleEquations_70 hW.1.2 rn rx re hy4 hy5 rs ?_
      rw [n52]
      refine ⟨fun z => skip (Or.inr (fun y => (hs0.mpr y.2) z)) _ _ hy4 (ax_y_i _), fun z => ⟨be, fun ud => ⟨be, fun z2 => ?_, fun z2 => skip (Or.inr (fun y => z2 (sub.mpr y.1))) _ _ hy4 (ax_y_i _)⟩, fun ud => skip (Or.inl (p6.2.mp ud)) _ _ hy4 (ax_y_i _)⟩⟩
      have fre : ¬ t (1024 + e) := fun y => (p6.2.mpr y) ud
      refine t_schedEq hS ok n0 n1 hF hF2 hf hW e0 e1 en ud ⟨sub.mp z2, hs0.mp z⟩ (fun W2 hW2 => next W2 ⟨⟨by omega, by omega⟩, trivial⟩ 1 _ _ _ hy4 (ax_y_i _) hW2 (fun v y => Or.inl (Or.inl (st v y))) (Or.inr ⟨rfl, ?_⟩))
      have u := (g_PI.un hS n0 n1 hW hW2 (fun v y => Or.inl (Or.inl y))).2 (Or.inl ⟨e, ⟨e0, e1⟩, en, fre, Or.inr rfl⟩)
      have v := (g_PI.un hS n0 n1 hP hW st).1
      omega
    refine r_Planner_scheduleEquations_12 hW.1.2 rn rx re hy4 hy5 ⟨bn, ?_⟩
    rw [xW 509 (by decide), xW 551 (by decide), xW 563 (by decide)]
    refine ⟨fun z => by omega, fun _ => ⟨be, fun z => go _ _ 1 (ax_y_i _) hy5 (Or.inr rfl) ⟨fun _ y => absurd ((hS.ea e0 e1).mp z) y, fun _ => by decide⟩, fun z => ?_⟩⟩
    rcases fst with f | ⟨f1, f2, f3, f4, f5, f6, f7⟩
    · exact absurd f.1 z
    · have fa := hS.au f1 (by have := hB.1.2.2.1; omega)
      have ow := (fa.1.2.2.2.2.2 (C0 551 e) (by omega) f5).1
      have au1 : M0 263 e < (M0 222 55) := by have := hB.1.2.2.1; omega
      have fs := fa.1.2.2.1
      have p7 := hW.2.2.2.2.2.1.1 (M0 263 e) f1 au1 (by rw [f7]; exact en)
      have hc4 := hB.1.2.2.2.1
      have hat := hS.2.2.2.2.2.2.2
      rw [ow]
      refine ⟨⟨by omega, by omega⟩, ⟨f1, by omega⟩, fun y => go _ _ 0 (ax_y_i _) hy5 (Or.inl rfl) ⟨fun q => absurd rfl q, fun q => absurd (p7.2.mpr (q (by omega))) (fun k => k y)⟩, fun y => go _ _ 1 (ax_y_i _) hy5 (Or.inr rfl) ⟨fun _ _ => p7.2.mp y, fun _ => by decide⟩⟩
  · obtain ⟨he, -⟩ := hI
    have rx : ax_rg x := by rcases hx with z | z <;> rw [z.1] <;> decide
    have xW : g_fr g_XP C0 W := hf.tr (hW.1.1.up (by decide))
    refine r_Planner_scheduleEquations_12 hW.1.2 rn rx ⟨by omega, by omega⟩ hy4 hy5 ⟨bn, ?_⟩
    rw [xW 509 (by decide)]
    refine ⟨fun _ => ⟨by rcases hx with z | z; exact Or.inl z.1; exact Or.inr z.1, h x W t hW st ?_⟩, fun z => by omega⟩
    rcases hx with y | y
    · refine Or.inl ⟨y.1, y.2.1, fun a' a0 a1 an => ?_⟩
      have := (hS.eqN a0 a1 n0 n1).mpr an
      exact y.2.2 a' this.1 (by omega)
    · exact Or.inr y
end Rounds
