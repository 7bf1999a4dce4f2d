/-! HEADS: when is a letter ready -/
noncomputable def g_b01 (p : Prop) : Int := @ite Int p (Classical.propDecidable p) 1 0
theorem g_b01_t {p : Prop} (h : p) : g_b01 p = 1 := if_pos h
theorem g_b01_f {p : Prop} (h : ¬ p) : g_b01 p = 0 := if_neg h
theorem g_b01_b (p : Prop) : 0 ≤ g_b01 p ∧ g_b01 p ≤ 1 := by
  by_cases h : p
  · rw [g_b01_t h]; decide
  · rw [g_b01_f h]; decide
/-- e tells y -/
def g_hy (M : ax_V) (n y e : Int) : Prop := M 258 e = n ∧ ∃ i, g_of M e i ∧ M 265 i = y
noncomputable def g_pn (M : ax_V) (D : Int → Int) (n y : Int) : Nat → Int
  | 0 => 0
  | k + 1 => g_pn M D n y k + g_b01 (g_hy M n y (k : Int) ∧ D (k : Int) = 0)
section Heads
variable {B r d : Nat} {C0 M0 V0 V : ax_V} {n F : Int} {s t : Int → Prop} {D D' : Int → Int} {Φ : Int → ax_V → Prop} {Ψ Θ : ax_V → Prop}
theorem g_pn_b (y : Int) (k : Nat) : 0 ≤ g_pn M0 D n y k ∧ g_pn M0 D n y k ≤ (k : Int) := by
  induction k with
  | zero => exact ⟨Int.le_refl _, Int.le_refl _⟩
  | succ k ih =>
    have e : g_pn M0 D n y (k + 1) = g_pn M0 D n y k + g_b01 (g_hy M0 n y (k : Int) ∧ D (k : Int) = 0) := rfl
    have := g_b01_b (g_hy M0 n y (k : Int) ∧ D (k : Int) = 0)
    omega
theorem g_pn_0 (y : Int) (k : Nat) : g_pn M0 D n y k = 0 ↔ ∀ e : Nat, e < k → g_hy M0 n y (e : Int) → ¬ D (e : Int) = 0 := by
  induction k with
  | zero => exact ⟨fun _ e z => by omega, fun _ => rfl⟩
  | succ k ih =>
    have e : g_pn M0 D n y (k + 1) = g_pn M0 D n y k + g_b01 (g_hy M0 n y (k : Int) ∧ D (k : Int) = 0) := rfl
    have b := g_pn_b (M0 := M0) (D := D) (n := n) y k
    have c := g_b01_b (g_hy M0 n y (k : Int) ∧ D (k : Int) = 0)
    constructor
    · intro z e1 h1 h2 h3
      by_cases w : e1 = k
      · rw [w] at h2 h3
        rw [g_b01_t ⟨h2, h3⟩] at e
        omega
      · exact ih.mp (by omega) e1 (by omega) h2 h3
    · intro z
      have a := ih.mpr (fun e1 h1 => z e1 (by omega))
      rw [e, a, g_b01_f (fun y => z k (by omega) y.1 y.2)]
      rfl
theorem g_pn_u {e0 : Nat} (h0 : D (e0 : Int) = 0) (h1 : ¬ D' (e0 : Int) = 0) (ho : ∀ e : Int, e ≠ (e0 : Int) → D' e = D e) (y : Int) (k : Nat) : g_pn M0 D' n y k = g_pn M0 D n y k - (if e0 < k then g_b01 (g_hy M0 n y (e0 : Int)) else 0) := by
  induction k with
  | zero => rw [if_neg (by omega)]; rfl
  | succ k ih =>
    have e : g_pn M0 D n y (k + 1) = g_pn M0 D n y k + g_b01 (g_hy M0 n y (k : Int) ∧ D (k : Int) = 0) := rfl
    have e' : g_pn M0 D' n y (k + 1) = g_pn M0 D' n y k + g_b01 (g_hy M0 n y (k : Int) ∧ D' (k : Int) = 0) := rfl
    rw [e, e', ih]
    by_cases w : k = e0
    · rw [w, if_neg (by omega), if_pos (by omega), g_b01_f (fun z => h1 z.2)]
      by_cases u : g_hy M0 n y (e0 : Int)
      · rw [g_b01_t ⟨u, h0⟩, g_b01_t u]; omega
      · rw [g_b01_f (fun z => u z.1), g_b01_f u]; omega
    · rw [ho (k : Int) (by omega)]
      by_cases z : e0 < k
      · rw [if_pos z, if_pos (by omega)]; omega
      · rw [if_neg z, if_neg (by omega)]; omega
/-- an equation tells a letter once -/
theorem g_N2.once (ok : g_N2 M0) (hS : g_S C0 M0) {e i j : Int} (a : g_of M0 e i) (b : g_of M0 e j) (h : M0 265 i = M0 265 j) : i = j := by
  have key : ∀ i j : Int, g_of M0 e i → g_of M0 e j → M0 265 i = M0 265 j → ¬ i < j := fun i j a b h w => by
    have il := hS.ofl a
    have jl := hS.ofl b
    have ei := hS.eoe a
    have ej := hS.eoe b
    exact (ok.head hS jl.1 jl.2).2 ⟨i, ⟨il.1, w⟩, h, by rw [ei, ej], Or.inr (Or.inr (by rw [ei, ej]))⟩
  have := key i j a b h
  have := key j i b a h.symm
  omega
set_option maxHeartbeats 2000000 in
theorem t_heads {e : Int} (hS : g_S C0 M0) (ok : g_N2 M0) (hf : g_fr g_XP C0 V) (hg : ax_g V) (n0 : 0 ≤ n) (n1 : n < (M0 222 86)) (e0 : 0 ≤ e) (e1 : e < (M0 222 44)) (en : M0 258 e = n) (hb : ∀ y, 0 ≤ y → y < 26 → 0 ≤ V 546 (26 * n + y) ∧ V 546 (26 * n + y) ≤ 1000) (hR : b_ok (V 602 6))
    (h : ∀ W, g_fr [546, 602] V W → ax_g W → W 602 5 = V 602 5 → (∀ x, ¬ (26 * n ≤ x ∧ x < 26 * n + 26) → W 546 x = V 546 x) → (∀ y, 0 ≤ y → y < 26 → W 546 (26 * n + y) = V 546 (26 * n + y) - g_b01 (g_hy M0 n y e)) → b_ok (W 602 6) → (∀ y, 0 ≤ y → y < 26 → (b_in (W 602 6) y ↔ (b_in (V 602 6) y ∨ (g_hy M0 n y e ∧ V 546 (26 * n + y) = 1)))) → Ψ W) : ∀ y3, ax_y y3 → k_Planner_scheduleEquation_73 B r (d + 1) e (M0 259 e) y3 V Ψ Θ := by
  have hat := hS.2.2.2.2.2.2.2
  have hN := hS.2.1
  have hB := hS.2.2.2.2.1
  have hct := hB.1
  have hc1 := hct.1
  have hc2 := hct.2.1
  have fe := hB.2.1 e e0 e1
  have fe3 := fe.2.2.1
  have re : ax_rg e := ⟨by omega, by omega⟩
  have n8 : 0 ≤ n ∧ n < 8 := ⟨n0, by omega⟩
  have fC : ∀ {W : ax_V}, g_fr [546, 602] V W → ∀ c, c ∉ g_XP → W c = C0 c := fun f c z => by rw [f c (fun y => z (by simp at y; rcases y with y | y <;> rw [y] <;> decide))]; exact hf c z
  -- told by the heads ahead of h
  refine ax_for (I := fun h W => (M0 259 e ≤ h ∧ h ≤ M0 259 e + M0 260 e) ∧ g_fr [546, 602] V W ∧ ax_g W ∧ W 602 5 = V 602 5 ∧ (∀ x, ¬ (26 * n ≤ x ∧ x < 26 * n + 26) → W 546 x = V 546 x) ∧ (∀ y, 0 ≤ y → y < 26 → W 546 (26 * n + y) = V 546 (26 * n + y) - g_b01 (∃ i, (M0 259 e ≤ i ∧ i < h) ∧ M0 265 i = y)) ∧ b_ok (W 602 6) ∧ (∀ y, 0 ≤ y → y < 26 → (b_in (W 602 6) y ↔ (b_in (V 602 6) y ∨ ((∃ i, (M0 259 e ≤ i ∧ i < h) ∧ M0 265 i = y) ∧ V 546 (26 * n + y) = 1))))) (K := fun h W => ∀ y3, ax_y y3 → k_Planner_scheduleEquation_73 B r (d + 1) e h y3 W Ψ Θ) (hi := M0 259 e + M0 260 e) (fun i W w hI next y3 hy3 => ?_) (fun i W w hI y3 hy3 => ?_) (M0 259 e) V ⟨⟨Int.le_refl _, by omega⟩, g_fr.rf _ _, hg, rfl, fun _ _ => rfl, fun y a b => by rw [g_b01_f (fun z => by obtain ⟨i, i0, -⟩ := z; omega)]; omega, hR, fun y a b => ⟨fun z => Or.inl z, fun z => by rcases z with z | ⟨⟨i, i0, -⟩, -⟩; exact z; omega⟩⟩
  · obtain ⟨hi, f1, g1, p1, o1, k1, r1, r2⟩ := hI
    have u := fe.2.2.2.2.2.2 i hi.1 w
    rw [en] at u
    have u2 := u.2.1
    obtain ⟨l, el⟩ : ∃ l : Int, l = M0 265 i := ⟨_, rfl⟩
    rw [← el] at u2
    have hl := hb l u2.1 u2.2
    have no : ¬ ∃ j, (M0 259 e ≤ j ∧ j < i) ∧ M0 265 j = l := fun z => by
      obtain ⟨j, j0, j1⟩ := z
      have := ok.once hS (e := e) (i := j) (j := i) ⟨⟨e0, e1⟩, j0.1, by omega⟩ ⟨⟨e0, e1⟩, hi.1, w⟩ (by rw [j1, el])
      omega
    have kl : W 546 (26 * n + l) = V 546 (26 * n + l) := by rw [k1 l u2.1 u2.2, g_b01_f no]; omega
    have ex : ∀ y, (∃ j, (M0 259 e ≤ j ∧ j < i + 1) ∧ M0 265 j = y) ↔ ((∃ j, (M0 259 e ≤ j ∧ j < i) ∧ M0 265 j = y) ∨ y = l) := fun y => by
      constructor
      · rintro ⟨j, j0, j1⟩
        by_cases z : j = i
        · rw [z] at j1; exact Or.inr (by rw [el]; exact j1.symm)
        · exact Or.inl ⟨j, ⟨j0.1, by omega⟩, j1⟩
      · rintro (⟨j, j0, j1⟩ | z)
        · exact ⟨j, ⟨j0.1, by omega⟩, j1⟩
        · exact ⟨i, ⟨hi.1, by omega⟩, by rw [z, el]⟩
    have bs : 0 ≤ 26 * n + l ∧ 26 * n + l < 208 := ⟨by omega, by omega⟩
    refine r_Planner_scheduleEquation_73 g1 re ⟨by omega, by omega⟩ hy3 ⟨⟨by omega, by omega⟩, ?_⟩
    rw [fC f1 548 (by decide), fe.2.1.2, fC f1 554 (by decide), u.1, ← el, kl]
    refine ⟨fun z => by omega, fun _ => ⟨⟨by omega, by omega⟩, bs, bs, ⟨by omega, by omega⟩, fun V1 e1' => ⟨bs, ?_⟩⟩⟩
    have g2 : ax_g V1 := by rw [e1']; exact ax_u_g g1 ⟨by omega, by omega⟩
    have vl : V1 546 (26 * n + l) = V 546 (26 * n + l) - 1 := by rw [e1', ax_u_s]
    have v6 : V1 602 = W 602 := by rw [e1', ax_u_ne (by decide)]
    have pend : ∀ y, 0 ≤ y → y < 26 → V1 546 (26 * n + y) = V 546 (26 * n + y) - g_b01 (∃ j, (M0 259 e ≤ j ∧ j < i + 1) ∧ M0 265 j = y) := fun y a b => by
      by_cases z : y = l
      · rw [z, vl, g_b01_t ((ex l).mpr (Or.inr rfl))]
      · rw [e1', ax_u_k (by omega), k1 y a b]
        by_cases q : ∃ j, (M0 259 e ≤ j ∧ j < i) ∧ M0 265 j = y
        · rw [g_b01_t q, g_b01_t ((ex y).mpr (Or.inl q))]
        · rw [g_b01_f q, g_b01_f (fun p => by rcases (ex y).mp p with p | p; exact q p; exact z p)]
    rw [vl]
    refine ⟨fun z => t_bit g2 n8 u2 (fun V3 e3 => next V3 ⟨⟨by omega, by omega⟩, by rw [e3, e1']; exact (f1.u (by decide)).u (by decide), ?_, ?_, fun x y => ?_, fun y a b => ?_, ?_, fun y a b => ?_⟩ _ (ax_y_i _)), fun z => next V1 ⟨⟨by omega, by omega⟩, by rw [e1']; exact f1.u (by decide), g2, by rw [v6]; exact p1, fun x y => ?_, pend, by rw [v6]; exact r1, fun y a b => ?_⟩ _ (ax_y_i _)⟩
    · rw [e3]; exact ax_u_g g2 (ax_rg_of _)
    · rw [e3, ax_u_k (by decide), v6]; exact p1
    · rw [e3, ax_u_ne (by decide), e1', ax_u_k (by omega)]; exact o1 x y
    · rw [e3, ax_u_ne (by decide)]; exact pend y a b
    · rw [e3, ax_u_s, v6]; exact b_ok_or r1 (b_ok_bit u2)
    · rw [e3, ax_u_s, v6, b_in_or, b_in_bit u2 ⟨a, b⟩, r2 y a b, ex y]
      constructor
      · rintro ((q | q) | q)
        · exact Or.inl q
        · exact Or.inr ⟨Or.inl q.1, q.2⟩
        · rw [q]; exact Or.inr ⟨Or.inr rfl, by omega⟩
      · rintro (q | ⟨q | q, q2⟩)
        · exact Or.inl (Or.inl q)
        · exact Or.inl (Or.inr ⟨q, q2⟩)
        · exact Or.inr q
    · rw [e1', ax_u_k (by omega)]; exact o1 x y
    · rw [v6, r2 y a b, ex y]
      constructor
      · rintro (q | q)
        · exact Or.inl q
        · exact Or.inr ⟨Or.inl q.1, q.2⟩
      · rintro (q | ⟨q | q, q2⟩)
        · exact Or.inl q
        · exact Or.inr ⟨q, q2⟩
        · rw [q] at q2; omega
  · obtain ⟨hi, f1, g1, p1, o1, k1, r1, r2⟩ := hI
    have ei : i = M0 259 e + M0 260 e := by omega
    have ex : ∀ y, (∃ j, (M0 259 e ≤ j ∧ j < i) ∧ M0 265 j = y) ↔ g_hy M0 n y e := fun y => ⟨fun z => by obtain ⟨j, j0, j1⟩ := z; exact ⟨en, j, ⟨⟨e0, e1⟩, j0.1, by omega⟩, j1⟩, fun z => by obtain ⟨-, j, j0, j1⟩ := z; exact ⟨j, ⟨j0.2.1, by have := j0.2.2; omega⟩, j1⟩⟩
    refine r_Planner_scheduleEquation_73 g1 re ⟨by omega, by omega⟩ hy3 ⟨⟨by omega, by omega⟩, ?_⟩
    rw [fC f1 548 (by decide), fe.2.1.2]
    refine ⟨fun _ => h W f1 g1 p1 o1 (fun y a b => ?_) r1 (fun y a b => ?_), fun z => by omega⟩
    · rw [k1 y a b]
      by_cases q : g_hy M0 n y e
      · rw [g_b01_t q, g_b01_t ((ex y).mpr q)]
      · rw [g_b01_f q, g_b01_f (fun p => q ((ex y).mp p))]
    · rw [r2 y a b, ex y]
end Heads
