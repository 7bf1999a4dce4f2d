/-! FAULTS 5: what has no first value. P of parts, L of letters -/
def g_ev (M : ax_V) (L P : Int → Prop) (q : Int) : Prop := M 241 q = 6 ∨ (M 241 q = 19 ∧ P (M 245 q)) ∨ ((¬ M 241 q = 6 ∧ ¬ M 241 q = 19 ∧ ¬ M 241 q = 22) ∧ (((M 241 q = 2 ∨ M 241 q = 20 ∨ M 241 q = 21) ∧ L (26 * M 250 q + M 248 q)) ∨ ∃ k : Nat, 0 ≤ g_kd M q k ∧ P (g_kd M q k)))
def g_cl (M : ax_V) (L P : Int → Prop) : Prop := (∀ q, 0 ≤ q → q < (M 222 26) → g_ev M L P q → P q) ∧ ∀ e h, g_of M e h → P (M 262 e) → L (26 * M 258 e + M 265 h)
/-- the least such -/
def g_PB (M : ax_V) (q : Int) : Prop := ∀ L P : Int → Prop, g_cl M L P → P q
def g_LB (M : ax_V) (s : Int) : Prop := ∀ L P : Int → Prop, g_cl M L P → L s
theorem g_ev.mo {M : ax_V} {L P L' P' : Int → Prop} {q : Int} (h : g_ev M L P q) (hL : ∀ s, L s → L' s) (hP : ∀ x, P x → P' x) : g_ev M L' P' q := by
  rcases h with h | ⟨o, h⟩ | ⟨o, ⟨o2, h⟩ | ⟨k, k0, h⟩⟩
  · exact Or.inl h
  · exact Or.inr (Or.inl ⟨o, hP _ h⟩)
  · exact Or.inr (Or.inr ⟨o, Or.inl ⟨o2, hL _ h⟩⟩)
  · exact Or.inr (Or.inr ⟨o, Or.inr ⟨k, k0, hP _ h⟩⟩)
theorem g_PB.i {M : ax_V} {q : Int} (q0 : 0 ≤ q) (q1 : q < (M 222 26)) (h : g_ev M (g_LB M) (g_PB M) q) : g_PB M q := fun L P hc => hc.1 q q0 q1 (h.mo (fun s z => z L P hc) (fun x z => z L P hc))
theorem g_LB.i {M : ax_V} {e i : Int} (h : g_of M e i) (k : g_PB M (M 262 e)) : g_LB M (26 * M 258 e + M 265 i) := fun L P hc => hc.2 e i h (k L P hc)
/-- how many are nought -/
def g_ct (f : Int → Int) (s : Int) : Nat → Nat
  | 0 => 0
  | k + 1 => g_ct f s k + if f (s + (k : Int)) = 0 then 1 else 0
theorem g_ct_le (f : Int → Int) (s : Int) : ∀ k : Nat, g_ct f s k ≤ k := by
  intro k
  induction k with
  | zero => exact Nat.le_refl _
  | succ k ih =>
    show g_ct f s k + (if f (s + (k : Int)) = 0 then 1 else 0) ≤ k + 1
    split <;> omega
theorem g_ct_up {f f' : Int → Int} {s x : Int} (h0 : f x = 0) (h1 : ¬ f' x = 0) (ho : ∀ y, y ≠ x → f' y = f y) : ∀ k : Nat, (s ≤ x ∧ x < s + (k : Int) → g_ct f' s k + 1 = g_ct f s k) ∧ (¬ (s ≤ x ∧ x < s + (k : Int)) → g_ct f' s k = g_ct f s k) := by
  intro k
  induction k with
  | zero => exact ⟨fun z => by omega, fun _ => rfl⟩
  | succ k ih =>
    have e : g_ct f' s (k + 1) = g_ct f' s k + if f' (s + (k : Int)) = 0 then 1 else 0 := rfl
    have e' : g_ct f s (k + 1) = g_ct f s k + if f (s + (k : Int)) = 0 then 1 else 0 := rfl
    by_cases w : x = s + (k : Int)
    · have i2 := ih.2 (by omega)
      rw [← w] at e e'
      rw [if_neg h1] at e
      rw [if_pos h0] at e'
      exact ⟨fun _ => by omega, fun z => by omega⟩
    · rw [ho _ (fun z => w z.symm)] at e
      refine ⟨fun z => ?_, fun z => ?_⟩
      · have i1 := ih.1 (by omega)
        omega
      · have i2 := ih.2 (by omega)
        omega
theorem g_ct_0 {f : Int → Int} {s x : Int} (h0 : f x = 0) : ∀ k : Nat, s ≤ x → x < s + (k : Int) → 1 ≤ g_ct f s k := by
  intro k
  induction k with
  | zero => intro a b; omega
  | succ k ih =>
    intro a b
    have e : g_ct f s (k + 1) = g_ct f s k + if f (s + (k : Int)) = 0 then 1 else 0 := rfl
    by_cases w : x = s + (k : Int)
    · rw [← w, if_pos h0] at e; omega
    · have := ih a (by omega); omega
section Kind5C
variable {B r d : Nat} {C0 M0 V C C2 : ax_V} {q n : Int} {T : Int → Prop} {Φ : Int → ax_V → Prop} {Ψ Θ : ax_V → Prop}
theorem g_S.eopc (hS : g_S C0 M0) (q0 : 0 ≤ q) (q1 : q < (M0 222 26)) : ((C0 517 q = M0 241 q ∧ (M0 241 q ≤ 3 ∨ M0 241 q = 4 ∨ M0 241 q = 5 ∨ M0 241 q = 6 ∨ 18 ≤ M0 241 q)) ∨ ((7 ≤ M0 241 q ∧ M0 241 q ≤ 17) ∧ 7 ≤ C0 517 q ∧ C0 517 q ≤ 17)) ∧ 0 ≤ M0 241 q ∧ M0 241 q ≤ 22 := by
  have o9 := hS.op q0 q1
  refine ⟨?_, o9.1⟩
  rw [o9.2]
  unfold e_op
  split
  · omega
  · split
    · omega
    · split
      · omega
      · split <;> omega
theorem t_ownLetter {E : List (Nat × ax_S)} (hS : g_S C0 M0) (hv : g_fr g_XJ C0 V) (hg : ax_g V) (q0 : 0 ≤ q) (q1 : q < (M0 222 26)) (h22 : ¬ M0 241 q = 22) (h1 : (M0 241 q = 2 ∨ M0 241 q = 20 ∨ M0 241 q = 21) → Φ (26 * M0 250 q + M0 248 q) V) (h0 : ¬ (M0 241 q = 2 ∨ M0 241 q = 20 ∨ M0 241 q = 21) → Φ (-1) V) : ax_I (az_W B E) (d + 1) q_Parts_ownLetter [.ref (B + 16), ax_i q] V Φ Θ := by
  have p0 := hS.2.2.1.1
  have hat := hS.2.2.2.2.2.2.2
  have hN := hS.2.1
  have pn := (hS.pnode q0 q1).1
  have dt := (hS.p q0 q1).2.2.2.2.2.2.1
  have o := hS.eopc q0 q1
  have b7 : 0 ≤ q ∧ q < 700 := ⟨q0, by omega⟩
  refine r_Parts_ownLetter hg ⟨by omega, by omega⟩ ⟨b7, ?_⟩
  rw [hv 517 (by decide), hv 520 (by decide)]
  refine ⟨fun z => ⟨b7, ?_⟩, fun z => ⟨b7, ?_⟩, fun z => ⟨b7, ?_⟩, fun z => absurd h22 (by omega), fun a1 a2 a3 a4 => h0 (by omega)⟩
  · rw [(dt.2.2.1 (by omega)).2.1]; exact h1 (by omega)
  · have d4 := dt.2.2.2.1 (by omega)
    have d41 := d4.1
    have d42 := d4.2.1
    rw [d4.2.2.1, show ax_shr (2 * (26 * M0 250 q + M0 248 q) + 1 - M0 249 q) 1 = 26 * M0 250 q + M0 248 q by rw [b_shr ⟨by omega, by omega⟩]; omega]
    exact h1 (by omega)
  · rw [(dt.2.2.1 (by omega)).2.1]; exact h1 (by omega)
set_option maxHeartbeats 4000000 in
theorem t_isBare (hS : g_S C0 M0) (hv : g_fr g_XJ C0 V) (hg : ax_g V) (q0 : 0 ≤ q) (q1 : q < (M0 222 26)) (hb : ∀ k : Nat, 0 ≤ g_kd M0 q k → V 530 (g_kd M0 q k) = 0 ∨ V 530 (g_kd M0 q k) = 1) (h : ∀ x, (x = 0 ∨ x = 1) → (¬ x = 0 ↔ g_ev M0 (fun s => ¬ V 544 s = 0) (fun x => ¬ V 530 x = 0) q) → Φ x V) : ax_I (az_W B (az_EJ B r)) (d + 2) q_Judge_isBare [.ref r, ax_i q] V Φ Θ := by
  have p0 := hS.2.2.1.1
  have hat := hS.2.2.2.2.2.2.2
  have hN := hS.2.1
  have pn := (hS.pnode q0 q1).1
  have o := hS.eopc q0 q1
  have ar := hS.ar q0 q1
  have b7 : 0 ≤ q ∧ q < 700 := ⟨q0, by omega⟩
  obtain ⟨K, K7, KE, KA, KF⟩ := hS.kids q0 q1
  have v522 : V 522 = C0 522 := hv 522 (by decide)
  refine r_Judge_isBare hg ⟨by omega, by omega⟩ ⟨b7, b7, ?_⟩
  rw [hv 517 (by decide), hv 521 (by decide), KF]
  -- through its parts
  have lp : (¬ M0 241 q = 6 ∧ ¬ M0 241 q = 19 ∧ ¬ M0 241 q = 22) → ∀ y1 y3, ax_y y1 → ax_y y3 → ∀ (m k : Nat), k ≤ K → K - k ≤ m → ∀ x, (x = 0 ∨ x = 1) → (¬ x = 0 ↔ (((M0 241 q = 2 ∨ M0 241 q = 20 ∨ M0 241 q = 21) ∧ ¬ V 544 (26 * M0 250 q + M0 248 q) = 0) ∨ ∃ j : Nat, j < k ∧ 0 ≤ g_kd M0 q j ∧ ¬ V 530 (g_kd M0 q j) = 0)) → k_Judge_isBare_101 B r (d + 1) y1 (g_kd M0 q k) y3 x (k : Int) V Φ Θ := by
    intro oo y1 y3 hy1 hy3 m
    induction m with
    | zero =>
      intro k k0 k1 x hx hx2
      have ek : k = K := by omega
      rw [ek] at hx2 ⊢
      rw [KE K (Nat.le_refl _)]
      have fin := h x hx (by
        rw [hx2]
        constructor
        · rintro (y | ⟨j, -, y⟩)
          · exact Or.inr (Or.inr ⟨oo, Or.inl y⟩)
          · exact Or.inr (Or.inr ⟨oo, Or.inr ⟨j, y⟩⟩)
        · rintro (y | y | ⟨-, y | ⟨j, y⟩⟩)
          · exact absurd y oo.1
          · exact absurd y.1 oo.2.1
          · exact Or.inl y
          · refine Or.inr ⟨j, ?_, y⟩
            by_cases z : K ≤ j
            · have := KE j z; have := y.1; omega
            · omega)
      have rx : ax_rg x := by rcases hx with z | z <;> rw [z] <;> decide
      exact r_Judge_isBare_101 hg hy1 (by decide) hy3 rx ⟨by omega, by omega⟩ ⟨fun _ => ⟨hx, fin⟩, fun _ => ⟨fun _ => ⟨hx, fin⟩, fun z => absurd z (by decide)⟩⟩
    | succ m ih =>
      intro k k0 k1
      have t2 : K - (k + 1) ≤ m := by omega
      have t3 : k = K → K - k ≤ m := fun _ => by omega
      intro x hx hx2
      by_cases ek : k = K
      · exact ih k k0 (t3 ek) x hx hx2
      · obtain ⟨a1, a2, a3⟩ := KA k (by omega)
        have b3 : 0 ≤ g_kd M0 q k ∧ g_kd M0 q k < 700 := ⟨a1.1, by omega⟩
        have rx : ax_rg x := by rcases hx with z | z <;> rw [z] <;> decide
        have nxt : ∀ x', (x' = 0 ∨ x' = 1) → (¬ x' = 0 ↔ (¬ x = 0 ∨ ¬ V 530 (g_kd M0 q k) = 0)) → k_Judge_isBare_101 B r (d + 1) y1 (V 522 (g_kd M0 q k)) y3 x' ((k : Int) + 1) V Φ Θ := by
          intro x' hx' e
          rw [v522, a2]
          have := ih (k + 1) (by omega) t2 x' hx' (by
            rw [e, hx2]
            constructor
            · rintro ((y | ⟨j, j0, y⟩) | y)
              · exact Or.inl y
              · exact Or.inr ⟨j, by omega, y⟩
              · exact Or.inr ⟨k, by omega, a1.1, y⟩
            · rintro (y | ⟨j, j0, y⟩)
              · exact Or.inl (Or.inl y)
              · by_cases ej : j = k
                · rw [ej] at y; exact Or.inr y.2
                · exact Or.inl (Or.inr ⟨j, by omega, y⟩))
          exact this
        refine r_Judge_isBare_101 hg hy1 ⟨by omega, by omega⟩ hy3 rx ⟨by omega, by omega⟩ ⟨fun z => by omega, fun _ => ⟨fun z => by omega, fun _ => ⟨fun z => ⟨b3, fun y => ⟨b3, nxt 0 (Or.inl rfl) ⟨fun w => absurd rfl w, fun w => by rcases w with w | w; exact absurd z w; exact absurd y w⟩⟩, fun y => ⟨b3, nxt 1 (Or.inr rfl) ⟨fun _ => Or.inr y, fun _ => by decide⟩⟩⟩, fun z => ⟨b3, nxt 1 (Or.inr rfl) ⟨fun _ => Or.inl z, fun _ => by decide⟩⟩⟩⟩⟩
  refine ⟨fun z => h 1 (Or.inr rfl) ⟨fun _ => Or.inl (by omega), fun _ => by decide⟩, fun z => ?_, fun z => ?_, fun z1 z2 z3 => ?_⟩
  · have oo : M0 241 q = 19 := by omega
    have kd := hS.kid q0 q1 (by omega)
    have a0 : 0 ≤ M0 245 q := by rcases ar with z | z | z | z | z <;> omega
    have e0 : g_kd M0 q 0 = M0 245 q := (if_neg (by omega)).trans (if_pos rfl)
    have hb0 := hb 0 (by omega)
    rw [e0] at hb0 ⊢
    refine ⟨⟨a0, by omega⟩, hb0, h _ hb0 ?_⟩
    constructor
    · intro y; exact Or.inr (Or.inl ⟨oo, y⟩)
    · rintro (y | y | y)
      · omega
      · exact y.2
      · exact absurd oo y.1.2.1
  · refine h 0 (Or.inl rfl) ⟨fun y => absurd rfl y, fun y => ?_⟩
    rcases y with y | y | y
    · omega
    · have := y.1; omega
    · exact absurd (by omega) y.1.2.2
  · have oo : ¬ M0 241 q = 6 ∧ ¬ M0 241 q = 19 ∧ ¬ M0 241 q = 22 := by omega
    refine t_ownLetter hS hv hg q0 q1 oo.2.2 (fun ow => ?_) (fun ow => ?_)
    · have l := hS.pl q0 q1 (by omega)
      refine ⟨fun y => by omega, fun _ => ⟨⟨by omega, by omega⟩, fun y => ?_, fun y => ?_⟩⟩
      · exact lp oo _ _ (ax_y_i _) (ax_y_i _) K 0 (by omega) (by omega) 0 (Or.inl rfl) ⟨fun w => absurd rfl w, fun w => by rcases w with w | ⟨j, j0, -⟩; exact absurd y w.2; omega⟩
      · exact lp oo _ _ (ax_y_i _) (ax_y_i _) K 0 (by omega) (by omega) 1 (Or.inr rfl) ⟨fun _ => Or.inl ⟨ow, y⟩, fun _ => by decide⟩
    · refine ⟨fun _ => ?_, fun y => absurd y (by decide)⟩
      exact lp oo _ _ (ax_y_i _) (ax_y_i _) K 0 (by omega) (by omega) 0 (Or.inl rfl) ⟨fun w => absurd rfl w, fun w => by rcases w with w | ⟨j, j0, -⟩; exact absurd w.1 ow; omega⟩
end Kind5C
