/-! SCHEDULING: the beginning, and the whole of a node -/
section Begin
variable {B r d : Nat} {C0 M0 V0 V W : ax_V} {n F : Int} {s t : Int → Prop} {Fs Gs Hh : Int → Int} {Φ : Int → ax_V → Prop} {Ψ Θ : ax_V → Prop}
theorem g_S.pn_lo (hS : g_S C0 M0) (n0 : 0 ≤ n) (n1 : n < (M0 222 86)) {D : Int → Int} (y : Int) : ∀ k : Nat, (k : Int) ≤ C0 509 n → g_pn M0 D n y k = 0 := by
  intro k hk
  have E0 := hS.eqF n0 (by omega)
  rw [g_pn_0]
  intro e he hy
  have := (hS.eqN (e := (e : Int)) (by omega) (by omega) n0 n1).mpr hy.1
  omega
theorem g_S.pn_hi (hS : g_S C0 M0) (n0 : 0 ≤ n) (n1 : n < (M0 222 86)) {D : Int → Int} (y : Int) : ∀ k : Nat, C0 509 (n + 1) ≤ (k : Int) → (k : Int) ≤ (M0 222 44) → g_pn M0 D n y k = g_pn M0 D n y (C0 509 (n + 1)).toNat := by
  intro k
  have E1 := hS.eqF (n := n + 1) (by omega) (by omega)
  induction k with
  | zero =>
    intro a b
    rw [show (C0 509 (n + 1)).toNat = 0 by omega]
  | succ k ih =>
    intro a b
    by_cases z : (C0 509 (n + 1)).toNat = k + 1
    · rw [z]
    · have e : g_pn M0 D n y (k + 1) = g_pn M0 D n y k + g_b01 (g_hy M0 n y (k : Int) ∧ D (k : Int) = 0) := rfl
      rw [e, g_b01_f (fun w => by
        have := (hS.eqN (e := (k : Int)) (by omega) (by omega) n0 n1).mpr w.1.1
        omega), ih (by omega) (by omega)]
      omega
set_option maxHeartbeats 4000000 in
theorem t_begin (hS : g_S C0 M0) (ok : g_N2 M0) (n0 : 0 ≤ n) (n1 : n < (M0 222 86)) (hf : g_fr g_XP C0 V) (hg : ax_g V) (hF : V 602 5 = F) (h53 : ∀ e, 0 ≤ e → e < (M0 222 44) → M0 258 e = n → V 553 e = 0) (h62 : ∀ a, 0 ≤ a → a < (M0 222 55) → M0 267 a = n → V 562 a = 0) (h46 : ∀ y, 0 ≤ y → y < 26 → V 546 (26 * n + y) = 0) (h : ∀ W, g_PI C0 M0 V W n F (fun _ => False) → Ψ W) : ax_N (az_W B (az_EL B r)) (d + 2) q_Planner_beginSchedule [.ref r, ax_i n] V Ψ Θ := by
  have sm := hS.small
  have hN := hS.2.1
  have hB := hS.2.2.2.2.1
  have hat := hS.2.2.2.2.2.2.2
  have hc2 := hB.1.2.1
  have E0 := hS.eqF n0 (by omega)
  have E1 := hS.eqF (n := n + 1) (by omega) (by omega)
  have E2 := hS.eqS n0 n1
  have rn : ax_rg n := ⟨by omega, by omega⟩
  have n8 : 0 ≤ n ∧ n < 8 := ⟨n0, by omega⟩
  have bn : 0 ≤ n + 1 ∧ n + 1 < 9 := ⟨by omega, by omega⟩
  have fl := hS.fl n0 n1
  have fC : ∀ {W : ax_V}, g_fr [546, 602] V W → ∀ c, c ∉ g_XP → W c = C0 c := fun f c z => by rw [f c (fun y => z (by simp at y; rcases y with y | y <;> rw [y] <;> decide))]; exact hf c z
  -- heads
  have heads : ∀ W y3, ax_y y3 → g_fr [602] V W → ax_g W → W 602 5 = F → b_ok (W 602 6) → (∀ y, 0 ≤ y → y < 26 → (b_in (W 602 6) y ↔ M0 232 (26 * n + y) = 1)) → k_Planner_beginSchedule_62 B r (d + 1) n (C0 509 n) y3 W Ψ Θ := by
    intro W y3 hy3 fW gW w5 rW bW
    refine ax_for (I := fun e X => (C0 509 n ≤ e ∧ e ≤ C0 509 (n + 1)) ∧ g_fr [546] W X ∧ ax_g X ∧ (∀ x, ¬ (26 * n ≤ x ∧ x < 26 * n + 26) → X 546 x = V 546 x) ∧ ∀ y, 0 ≤ y → y < 26 → X 546 (26 * n + y) = g_pn M0 (V 553) n y e.toNat) (K := fun e X => ∀ y3, ax_y y3 → k_Planner_beginSchedule_62 B r (d + 1) n e y3 X Ψ Θ) (hi := C0 509 (n + 1)) (fun e X w hI next y3 hy3 => ?_) (fun e X w hI y3 hy3 => ?_) (C0 509 n) W ⟨⟨Int.le_refl _, by omega⟩, g_fr.rf _ _, gW, fun x _ => by rw [fW 546 (by decide)], fun y a b => by rw [fW 546 (by decide), h46 y a b, hS.pn_lo n0 n1 y _ (by omega)]⟩ y3 hy3
    · obtain ⟨he, f1, g1, o1, k1⟩ := hI
      have e0 : 0 ≤ e := by omega
      have e1 : e < (M0 222 44) := by omega
      have en := (hS.eqN e0 e1 n0 n1).mp ⟨he.1, w⟩
      have fe := hB.2.1 e e0 e1
      have fe3 := fe.2.2.1
      have re : ax_rg e := ⟨by omega, by omega⟩
      have FX : g_fr [546, 602] V X := (fW.up (by decide)).tr (f1.up (by decide))
      refine r_Planner_beginSchedule_62 g1 rn re hy3 ⟨bn, ?_⟩
      rw [fC FX 509 (by decide), fC FX 548 (by decide), fe.2.1.1]
      refine ⟨fun z => by omega, fun _ => ⟨⟨e0, by omega⟩, ?_⟩⟩
      refine ax_for (I := fun i Y => (M0 259 e ≤ i ∧ i ≤ M0 259 e + M0 260 e) ∧ g_fr [546] W Y ∧ ax_g Y ∧ (∀ x, ¬ (26 * n ≤ x ∧ x < 26 * n + 26) → Y 546 x = V 546 x) ∧ ∀ y, 0 ≤ y → y < 26 → Y 546 (26 * n + y) = g_pn M0 (V 553) n y e.toNat + g_b01 (∃ j, (M0 259 e ≤ j ∧ j < i) ∧ M0 265 j = y)) (K := fun i Y => k_Planner_beginSchedule_87 B r (d + 1) n e i Y Ψ Θ) (hi := M0 259 e + M0 260 e) (fun i Y w2 hI2 next2 => ?_) (fun i Y w2 hI2 => ?_) (M0 259 e) X ⟨⟨Int.le_refl _, by omega⟩, f1, g1, o1, fun y a b => by rw [k1 y a b, g_b01_f (fun z => by obtain ⟨i, i0, -⟩ := z; omega)]; omega⟩
      · obtain ⟨hi, f2, g2, o2, k2⟩ := hI2
        have u := fe.2.2.2.2.2.2 i hi.1 w2
        rw [en] at u
        have u2 := u.2.1
        obtain ⟨l, el⟩ : ∃ l : Int, l = M0 265 i := ⟨_, rfl⟩
        rw [← el] at u2
        have FY : g_fr [546, 602] V Y := (fW.up (by decide)).tr (f2.up (by decide))
        have no : ¬ ∃ j, (M0 259 e ≤ j ∧ j < i) ∧ M0 265 j = l := fun z => by
          obtain ⟨j, j0, j1⟩ := z
          have := ok.once hS (e := e) (i := j) (j := i) ⟨⟨e0, e1⟩, j0.1, by omega⟩ ⟨⟨e0, e1⟩, hi.1, w2⟩ (by rw [j1, el])
          omega
        have kl : Y 546 (26 * n + l) = g_pn M0 (V 553) n l e.toNat := by rw [k2 l u2.1 u2.2, g_b01_f no]; omega
        have pb := g_pn_b (M0 := M0) (D := V 553) (n := n) l e.toNat
        have bs : 0 ≤ 26 * n + l ∧ 26 * n + l < 208 := ⟨by omega, by omega⟩
        refine r_Planner_beginSchedule_87 g2 rn re ⟨by omega, by omega⟩ ⟨⟨by omega, by omega⟩, ?_⟩
        rw [fC FY 548 (by decide), fe.2.1.2, fC FY 554 (by decide), u.1, ← el, kl]
        refine ⟨fun z => by omega, fun _ => ⟨⟨by omega, by omega⟩, bs, bs, ⟨by omega, by omega⟩, fun Y1 e1' => next2 Y1 ⟨⟨by omega, by omega⟩, by rw [e1']; exact f2.u (by decide), by rw [e1']; exact ax_u_g g2 ⟨by omega, by omega⟩, fun x y => ?_, fun y a b => ?_⟩⟩⟩
        · rw [e1', ax_u_k (by omega)]; exact o2 x y
        · by_cases z : y = l
          · rw [z, e1', ax_u_s, g_b01_t ⟨i, ⟨hi.1, by omega⟩, el.symm⟩]
          · rw [e1', ax_u_k (by omega), k2 y a b]
            by_cases q : ∃ j, (M0 259 e ≤ j ∧ j < i) ∧ M0 265 j = y
            · obtain ⟨j, j0, j1⟩ := q
              rw [g_b01_t ⟨j, j0, j1⟩, g_b01_t ⟨j, ⟨j0.1, by omega⟩, j1⟩]
            · rw [g_b01_f q, g_b01_f (fun p => by
                obtain ⟨j, j0, j1⟩ := p
                by_cases ji : j = i
                · rw [ji] at j1; exact z (by rw [el]; exact j1.symm)
                · exact q ⟨j, ⟨j0.1, by omega⟩, j1⟩)]
      · obtain ⟨hi, f2, g2, o2, k2⟩ := hI2
        have ei : i = M0 259 e + M0 260 e := by omega
        have FY : g_fr [546, 602] V Y := (fW.up (by decide)).tr (f2.up (by decide))
        refine r_Planner_beginSchedule_87 g2 rn re ⟨by omega, by omega⟩ ⟨⟨by omega, by omega⟩, ?_⟩
        rw [fC FY 548 (by decide), fe.2.1.2]
        refine ⟨fun _ => next Y ⟨⟨by omega, by omega⟩, f2, g2, o2, fun y a b => ?_⟩ _ (ax_y_i _), fun z => by omega⟩
        obtain ⟨k, ek⟩ : ∃ k : Nat, e = (k : Int) := ⟨e.toNat, by omega⟩
        have t1 : e.toNat = k := by omega
        have t2 : (e + 1).toNat = k + 1 := by omega
        rw [k2 y a b, t1, t2]
        have ex : (∃ j, (M0 259 e ≤ j ∧ j < i) ∧ M0 265 j = y) ↔ (g_hy M0 n y (k : Int) ∧ V 553 (k : Int) = 0) := by
          rw [← ek]
          constructor
          · rintro ⟨j, j0, j1⟩
            exact ⟨⟨en, j, ⟨⟨e0, e1⟩, j0.1, by omega⟩, j1⟩, h53 e e0 e1 en⟩
          · rintro ⟨⟨-, j, j0, j1⟩, -⟩
            exact ⟨j, ⟨j0.2.1, by have := j0.2.2; omega⟩, j1⟩
        show g_pn M0 (V 553) n y k + _ = g_pn M0 (V 553) n y k + g_b01 (g_hy M0 n y (k : Int) ∧ V 553 (k : Int) = 0)
        by_cases q : g_hy M0 n y (k : Int) ∧ V 553 (k : Int) = 0
        · rw [g_b01_t q, g_b01_t (ex.mpr q)]
        · rw [g_b01_f q, g_b01_f (fun p => q (ex.mp p))]
    · obtain ⟨he, f1, g1, o1, k1⟩ := hI
      have ee : e = C0 509 (n + 1) := by omega
      have FX : g_fr [546, 602] V X := (fW.up (by decide)).tr (f1.up (by decide))
      refine r_Planner_beginSchedule_62 g1 rn ⟨by omega, by omega⟩ hy3 ⟨bn, ?_⟩
      rw [fC FX 509 (by decide)]
      refine ⟨fun _ => h X ?_, fun z => by omega⟩
      have x5 : X 602 5 = F := by rw [f1 602 (by decide)]; exact w5
      have ne : ∀ v, ¬ g_st (X 512) F (X 602 5) v := fun v z => by obtain ⟨k, k0, -⟩ := z; omega
      refine ⟨⟨FX.up (by decide), g1⟩, ⟨fun v => ⟨fun z => ne v z, fun z => z.elim⟩, fun k a b => by omega, by omega, fun k _ => by rw [FX 512 (by decide)]⟩, fun v z => z.elim, fun q q0 q1 => ⟨fun z => z.elim, fun z => by rcases z with ⟨e', -, -, z, -⟩ | ⟨a', -, -, z, -⟩ <;> exact z.elim⟩, ⟨fun x x0 x1 xn => ?_, fun x _ _ _ => by rw [FX 553 (by decide)]⟩, ⟨fun x x0 x1 xn => ?_, fun x _ _ _ => by rw [FX 562 (by decide)]⟩, ⟨fun y a b => ?_, o1⟩, by rw [f1 602 (by decide)]; exact rW, fun y a b => ?_⟩
      · rw [FX 553 (by decide), h53 x x0 x1 xn]; exact ⟨Or.inl rfl, fun z => absurd rfl z, fun z => z.elim⟩
      · rw [FX 562 (by decide), h62 x x0 x1 xn]; exact ⟨Or.inl rfl, fun z => absurd rfl z, fun z => z.elim⟩
      · rw [k1 y a b, ee, FX 553 (by decide), hS.pn_hi n0 n1 y ((M0 222 44)).toNat (by omega) (by omega)]
      · rw [f1 602 (by decide), bW y a b]
        refine ⟨fun z => Or.inl z, fun z => ?_⟩
        rcases z with z | z
        · exact z
        · refine Classical.byContradiction fun no => ?_
          have f := hS.l n0 n1 a b
          have tp := (f.2.2.1 z.1).2.1
          have ex : ¬ M0 232 (26 * n + y) = 1 → ∃ e i, g_of M0 e i ∧ M0 258 e = n ∧ M0 265 i = y := fun k1 => Classical.byContradiction fun w => ok.2 n 699 n0 n1 (by decide) (Or.inr (Or.inr (Or.inr (Or.inr (Or.inl ⟨y, ⟨a, b⟩, by have := f.1; omega, w, by omega⟩)))))
          by_cases k1 : M0 232 (26 * n + y) = 1
          · exact no k1
          · obtain ⟨e, i, p, q, r⟩ := ex k1
            exact z.2 e i p q r
  -- inputs
  refine r_Planner_beginSchedule hg rn (fun V1 e1 => ?_)
  refine ax_for (I := fun i X => (0 ≤ i ∧ i ≤ M0 227 n) ∧ g_fr [602] V X ∧ ax_g X ∧ X 602 5 = F ∧ b_ok (X 602 6) ∧ ∀ y, 0 ≤ y → y < 26 → (b_in (X 602 6) y ↔ ∃ j, (0 ≤ j ∧ j < i) ∧ M0 230 (26 * n + j) = y)) (K := fun i X => k_Planner_beginSchedule_7 B r (d + 1) n i none X Ψ Θ) (hi := M0 227 n) (fun i X w hI next => ?_) (fun i X w hI => ?_) 0 V1 ⟨⟨by decide, fl.1.2⟩, by rw [e1]; exact (g_fr.rf _ _).u (by decide), by rw [e1]; exact ax_u_g hg (by decide), by rw [e1, ax_u_k (by decide)]; exact hF, by rw [e1, ax_u_s]; exact b_ok_0, fun y a b => by rw [e1, ax_u_s]; exact ⟨fun z => absurd z (b_in_0 y), fun z => by obtain ⟨j, j0, -⟩ := z; omega⟩⟩
  · obtain ⟨hi, f1, g1, p1, r1, k1⟩ := hI
    have ip := hS.inp n0 n1 hi.1 w
    have FX : g_fr [546, 602] V X := f1.up (by decide)
    refine r_Planner_beginSchedule_7 g1 rn ⟨by omega, by omega⟩ ax_y_n ⟨n8, ?_⟩
    rw [fC FX 503 (by decide), fl.1.1, fC FX 506 (by decide), show n * 26 + i = 26 * n + i by omega, ip.1]
    refine ⟨fun z => by omega, fun _ => ⟨⟨by omega, by omega⟩, t_bit g1 n8 ip.2.1 (fun X2 e2 => next X2 ⟨⟨by omega, by omega⟩, by rw [e2]; exact f1.u (by decide), by rw [e2]; exact ax_u_g g1 (ax_rg_of _), by rw [e2, ax_u_k (by decide)]; exact p1, by rw [e2, ax_u_s]; exact b_ok_or r1 (b_ok_bit ip.2.1), fun y a b => ?_⟩)⟩⟩
    rw [e2, ax_u_s, b_in_or, b_in_bit ip.2.1 ⟨a, b⟩, k1 y a b]
    constructor
    · rintro (⟨j, j0, j1⟩ | z)
      · exact ⟨j, ⟨j0.1, by omega⟩, j1⟩
      · exact ⟨i, ⟨hi.1, by omega⟩, z.symm⟩
    · rintro ⟨j, j0, j1⟩
      by_cases z : j = i
      · rw [z] at j1; exact Or.inr j1.symm
      · exact Or.inl ⟨j, ⟨j0.1, by omega⟩, j1⟩
  · obtain ⟨hi, f1, g1, p1, r1, k1⟩ := hI
    have ei : i = M0 227 n := by omega
    have FX : g_fr [546, 602] V X := f1.up (by decide)
    have ic := (f_cn_le M0 n 26).2
    have id1 := fl.2.2.2.1
    have id2 := fl.2.1.2
    have id3 := fl.2.2.1.2
    refine r_Planner_beginSchedule_7 g1 rn ⟨by omega, by omega⟩ ax_y_n ⟨n8, ?_⟩
    rw [fC FX 503 (by decide), fl.1.1, fC FX 509 (by decide)]
    refine ⟨fun _ => ⟨⟨n0, by omega⟩, heads X _ ax_y_n f1 g1 p1 r1 (fun y a b => ?_)⟩, fun z => by omega⟩
    rw [k1 y a b]
    constructor
    · rintro ⟨j, j0, j1⟩
      rw [← j1]
      exact (fl.2.2.2.2.1 j j0.1 (by omega)).2.2
    · intro z
      obtain ⟨j, j0, j1, j2⟩ := fl.2.2.2.2.2.2.1 y a b z
      exact ⟨j, ⟨j0, by omega⟩, j2⟩
end Begin
