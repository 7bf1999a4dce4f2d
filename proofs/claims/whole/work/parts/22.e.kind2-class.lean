/-! THE CLASS, FAULTS 2: heads in a row; names; states; tellings -/
def g_hf (M : ax_V) (e : Int) : Int := if e < (M 222 44) then M 259 e else (M 222 52)
section Kind2C
variable {B r d : Nat} {C0 M0 : ax_V} {Ψ Θ : ax_V → Prop}
theorem g_S.hfn (hS : g_S C0 M0) {e : Int} (e0 : 0 ≤ e) (e1 : e < (M0 222 44)) : g_hf M0 (e + 1) = M0 259 e + M0 260 e := by
  unfold g_hf
  by_cases w : e + 1 < (M0 222 44)
  · rw [if_pos w]; exact hS.hd e0 w
  · rw [if_neg w]
    have := hS.last (by omega)
    rw [show (M0 222 44) - 1 = e by omega] at this
    exact this.symm
theorem g_S.eqF (hS : g_S C0 M0) {n : Int} (n0 : 0 ≤ n) (n1 : n ≤ (M0 222 86)) : 0 ≤ C0 509 n ∧ C0 509 n ≤ (M0 222 44) ∧ 0 ≤ C0 508 n ∧ C0 508 n ≤ (M0 222 26) ∧ 0 ≤ C0 510 n ∧ C0 510 n ≤ (M0 222 55) := by
  have hnd := hS.2.2.2.2.1.2.2.2.2.2.2
  have hN := hS.2.1
  have hfr := hS.2.2.2.2.2.1
  have up : ∀ k : Nat, (k : Int) ≤ (M0 222 86) → 0 ≤ C0 509 (k : Int) ∧ 0 ≤ C0 508 (k : Int) ∧ 0 ≤ C0 510 (k : Int) := by
    intro k
    induction k with
    | zero => intro _; have := hnd.2.2.2.2.1; rw [show ((0 : Nat) : Int) = 0 from rfl]; omega
    | succ k ih =>
      intro hk
      have a := ih (by omega)
      have b := hnd.2.2.2.1 (k : Int) (by omega) (by omega)
      rw [show ((k + 1 : Nat) : Int) = (k : Int) + 1 by omega]
      omega
  have dn : ∀ k : Nat, (k : Int) ≤ (M0 222 86) → C0 509 ((M0 222 86) - (k : Int)) ≤ (M0 222 44) ∧ C0 508 ((M0 222 86) - (k : Int)) ≤ (M0 222 26) ∧ C0 510 ((M0 222 86) - (k : Int)) ≤ (M0 222 55) := by
    intro k
    induction k with
    | zero => intro _; rw [show (M0 222 86) - ((0 : Nat) : Int) = (M0 222 86) by omega]; omega
    | succ k ih =>
      intro hk
      have a := ih (by omega)
      have b := hnd.2.2.2.1 ((M0 222 86) - ((k + 1 : Nat) : Int)) (by omega) (by omega)
      rw [show (M0 222 86) - ((k + 1 : Nat) : Int) + 1 = (M0 222 86) - (k : Int) by omega] at b
      omega
  have a := up n.toNat (by omega)
  have b := dn ((M0 222 86) - n).toNat (by omega)
  rw [show ((n.toNat : Nat) : Int) = n by omega] at a
  rw [show (M0 222 86) - ((((M0 222 86) - n).toNat : Nat) : Int) = n by omega] at b
  omega
theorem g_S.eqS (hS : g_S C0 M0) {n : Int} (n0 : 0 ≤ n) (n1 : n < (M0 222 86)) : C0 509 n ≤ C0 509 (n + 1) ∧ C0 508 n ≤ C0 508 (n + 1) ∧ C0 510 n ≤ C0 510 (n + 1) := by
  have b := hS.2.2.2.2.1.2.2.2.2.2.2.2.2.2.1 n n0 (by have := hS.2.1; omega)
  omega
/-- which node: the rows between -/
theorem g_S.from (hS : g_S C0 M0) : ∀ (k : Nat) (n : Int), 0 ≤ n → n + (k : Int) ≤ (M0 222 86) → C0 509 n ≤ C0 509 (n + (k : Int)) ∧ C0 508 n ≤ C0 508 (n + (k : Int)) ∧ C0 510 n ≤ C0 510 (n + (k : Int)) := by
  intro k
  induction k with
  | zero => intro n n0 n1; rw [show n + ((0 : Nat) : Int) = n by omega]; omega
  | succ k ih =>
    intro n n0 n1
    have a := ih n n0 (by omega)
    have b := hS.eqS (n := n + (k : Int)) (by omega) (by omega)
    rw [show n + ((k + 1 : Nat) : Int) = n + (k : Int) + 1 by omega]
    omega
theorem g_S.eqN (hS : g_S C0 M0) {e n : Int} (e0 : 0 ≤ e) (e1 : e < (M0 222 44)) (n0 : 0 ≤ n) (n1 : n < (M0 222 86)) : (C0 509 n ≤ e ∧ e < C0 509 (n + 1)) ↔ M0 258 e = n := by
  have a := hS.node e0 e1
  constructor
  · intro q
    rcases Int.lt_trichotomy (M0 258 e) n with w | w | w
    · have := hS.from (n - (M0 258 e + 1)).toNat (M0 258 e + 1) (by omega) (by omega)
      rw [show M0 258 e + 1 + (((n - (M0 258 e + 1)).toNat : Nat) : Int) = n by omega] at this
      omega
    · exact w
    · have := hS.from (M0 258 e - (n + 1)).toNat (n + 1) (by omega) (by omega)
      rw [show n + 1 + (((M0 258 e - (n + 1)).toNat : Nat) : Int) = M0 258 e by omega] at this
      omega
  · intro q; rw [← q]; exact a.2.2
theorem g_S.pnode (hS : g_S C0 M0) {q : Int} (q0 : 0 ≤ q) (q1 : q < (M0 222 26)) : (0 ≤ M0 250 q ∧ M0 250 q < (M0 222 86)) ∧ C0 508 (M0 250 q) ≤ q ∧ q < C0 508 (M0 250 q + 1) := by
  have a := hS.2.2.2.2.1.2.2.2.2.2.2.1 q q0 q1
  have hN := hS.2.1
  have hfr := hS.2.2.2.2.2.1
  have w : M0 250 q < (M0 222 10) := by
    rcases Int.lt_or_le (M0 250 q) (M0 222 10) with w | w
    · exact w
    · have e : M0 250 q = (M0 222 86) := by omega
      have := a.2.1
      rw [e] at this; omega
  exact ⟨⟨a.1.1, by omega⟩, a.2.1, a.2.2 w⟩
theorem g_S.pN (hS : g_S C0 M0) {q n : Int} (q0 : 0 ≤ q) (q1 : q < (M0 222 26)) (n0 : 0 ≤ n) (n1 : n < (M0 222 86)) : (C0 508 n ≤ q ∧ q < C0 508 (n + 1)) ↔ M0 250 q = n := by
  have a := hS.pnode q0 q1
  constructor
  · intro z
    rcases Int.lt_trichotomy (M0 250 q) n with w | w | w
    · have := hS.from (n - (M0 250 q + 1)).toNat (M0 250 q + 1) (by omega) (by omega)
      rw [show M0 250 q + 1 + (((n - (M0 250 q + 1)).toNat : Nat) : Int) = n by omega] at this
      omega
    · exact w
    · have := hS.from (M0 250 q - (n + 1)).toNat (n + 1) (by omega) (by omega)
      rw [show n + 1 + (((M0 250 q - (n + 1)).toNat : Nat) : Int) = M0 250 q by omega] at this
      omega
  · intro z; rw [← z]; exact a.2
theorem g_S.anode (hS : g_S C0 M0) {a : Int} (a0 : 0 ≤ a) (a1 : a < (M0 222 55)) : (0 ≤ M0 267 a ∧ M0 267 a < (M0 222 86)) ∧ C0 510 (M0 267 a) ≤ a ∧ a < C0 510 (M0 267 a + 1) := by
  have b := hS.2.2.2.2.1.2.2.2.2.2.2.2.2.1 a a0 a1
  have c := (hS.2.2.2.2.1.2.2.1 a a0 a1).1
  have hN := hS.2.1
  have hfr := hS.2.2.2.2.2.1
  have w : M0 267 a < (M0 222 10) := by
    rcases Int.lt_or_le (M0 267 a) (M0 222 10) with w | w
    · exact w
    · have e : M0 267 a = (M0 222 86) := by omega
      have := b.1
      rw [e] at this; omega
  exact ⟨⟨c.1, by omega⟩, b.1, b.2 w⟩
theorem g_S.aN (hS : g_S C0 M0) {a n : Int} (a0 : 0 ≤ a) (a1 : a < (M0 222 55)) (n0 : 0 ≤ n) (n1 : n < (M0 222 86)) : (C0 510 n ≤ a ∧ a < C0 510 (n + 1)) ↔ M0 267 a = n := by
  have b := hS.anode a0 a1
  constructor
  · intro z
    rcases Int.lt_trichotomy (M0 267 a) n with w | w | w
    · have := hS.from (n - (M0 267 a + 1)).toNat (M0 267 a + 1) (by omega) (by omega)
      rw [show M0 267 a + 1 + (((n - (M0 267 a + 1)).toNat : Nat) : Int) = n by omega] at this
      omega
    · exact w
    · have := hS.from (M0 267 a - (n + 1)).toNat (n + 1) (by omega) (by omega)
      rw [show n + 1 + (((M0 267 a - (n + 1)).toNat : Nat) : Int) = M0 267 a by omega] at this
      omega
  · intro z; rw [← z]; exact b.2
/-- the rows of kind 2, as far as the heads below H are judged -/
def g_J2 (C0 M0 C : ax_V) (H : Int) (T : Int → Prop) : Prop := g_fr g_X2 C0 C ∧ ax_g C ∧ g_Own C0 M0 C H ∧ g_Msk C0 M0 C H ∧ ∀ t, (C 601 5) ≤ t ↔ T t
set_option maxHeartbeats 1000000 in
theorem t_judgeHeads {C : ax_V} {n : Int} {T : Int → Prop} (hS : g_S C0 M0) (n0 : 0 ≤ n) (n1 : n < (M0 222 86)) (hJ : g_J2 C0 M0 C (g_hf M0 (C0 509 n)) T) (h : ∀ C', g_J2 C0 M0 C' (g_hf M0 (C0 509 (n + 1))) (fun t => T t ∨ ∃ i, (g_hf M0 (C0 509 n) ≤ i ∧ i < g_hf M0 (C0 509 (n + 1))) ∧ g_bh C0 M0 i ∧ C0 555 i ≤ t) → Ψ C') : ax_N (az_W B (az_EJ B r)) (d + 3) q_Judge_judgeHeads [.ref r, ax_i n] C Ψ Θ := by
  have hN := hS.2.1
  have e0 := hS.eqF n0 (by omega)
  have e1 := hS.eqF (n := n + 1) (by omega) (by omega)
  have e2 := hS.eqS n0 n1
  have hat := hS.2.2.2.2.2.2.2
  have hct := hS.2.2.2.2.1.1
  have hc1 := hct.1
  have hc2 := hct.2.1
  obtain ⟨H0, eH0⟩ : ∃ H : Int, H = g_hf M0 (C0 509 n) := ⟨_, rfl⟩
  rw [← eH0] at hJ h
  have rn : ax_rg n := ⟨by omega, by omega⟩
  have out : ∀ e V, (C0 509 n ≤ e ∧ e ≤ C0 509 (n + 1)) ∧ g_J2 C0 M0 V (g_hf M0 e) (fun t => T t ∨ ∃ i, (H0 ≤ i ∧ i < g_hf M0 e) ∧ g_bh C0 M0 i ∧ C0 555 i ≤ t) ∧ H0 ≤ g_hf M0 e → ∀ y, ax_y y → k_Judge_judgeHeads_10 B r (d + 2) n e y V Ψ Θ := by
    refine ax_for (hi := C0 509 (n + 1)) (fun e V w hI next y hy => ?_) (fun e V w hI y hy => ?_)
    · obtain ⟨he, ⟨hf, hg, hO, hM, hT⟩, hH⟩ := hI
      have e351 : 0 ≤ e ∧ e < (M0 222 44) := ⟨by omega, by omega⟩
      have fe := hS.2.2.2.2.1.2.1 e e351.1 e351.2
      have fe3 := fe.2.2.1
      have hfe : g_hf M0 e = M0 259 e := if_pos e351.2
      have c509 : V 509 = C0 509 := hf 509 (by decide)
      have c548 : V 548 = C0 548 := hf 548 (by decide)
      refine r_Judge_judgeHeads_10 hg rn ⟨by omega, by omega⟩ hy ⟨⟨by omega, by omega⟩, fun q => by rw [c509] at q; omega, fun _ => ⟨⟨by omega, by omega⟩, ?_⟩⟩
      rw [c548, fe.2.1.1]
      rw [hfe] at hO hM hT hH
      -- the letters of this one
      refine ax_for (I := fun i V => (M0 259 e ≤ i ∧ i ≤ M0 259 e + M0 260 e) ∧ g_J2 C0 M0 V i (fun t => T t ∨ ∃ k, (H0 ≤ k ∧ k < i) ∧ g_bh C0 M0 k ∧ C0 555 k ≤ t)) (K := fun i V => k_Judge_judgeHeads_35 B r (d + 2) n e i V Ψ Θ) (hi := M0 259 e + M0 260 e) (fun i V w2 hI2 next2 => ?_) (fun i V w2 hI2 => ?_) (M0 259 e) V ⟨⟨Int.le_refl _, by omega⟩, hf, hg, hO, hM, hT⟩
      · obtain ⟨hi, ⟨hf2, hg2, hO2, hM2, hT2⟩⟩ := hI2
        have i0 : 0 ≤ i := by omega
        have i1 : i < (M0 222 52) := by omega
        have eo : g_eo M0 i = e := hS.eoe ⟨e351, hi.1, w2⟩
        have d548 : V 548 = C0 548 := hf2 548 (by decide)
        have d554 : V 554 = C0 554 := hf2 554 (by decide)
        have d555 : V 555 = C0 555 := hf2 555 (by decide)
        have d551 : V 551 = C0 551 := hf2 551 (by decide)
        refine r_Judge_judgeHeads_35 hg2 rn ⟨by omega, by omega⟩ ⟨by omega, by omega⟩ ⟨⟨by omega, by omega⟩, fun q => by rw [d548, fe.2.1.2] at q; omega, fun _ => ⟨⟨by omega, by omega⟩, ⟨by omega, by omega⟩, ⟨by omega, by omega⟩, ?_⟩⟩
        rw [d554, d555, d551]
        have := t_judgeHead (B := B) (r := r) (d := d) (Ψ := fun V1 => k_Judge_judgeHeads_35 B r (d + 2) n e (i + 1) V1 Ψ Θ) (Θ := Θ) hS hf2 hg2 i0 i1 hO2 hM2 (fun C' f' g' O' M' T' => next2 C' ⟨⟨by omega, by omega⟩, f', g', O', M', fun t => ?_⟩)
        · rw [eo] at this; exact this
        · rw [T' t, hT2 t]
          constructor
          · rintro ((q | ⟨k, k0, k1, k2⟩) | ⟨q1, q2⟩)
            · exact Or.inl q
            · exact Or.inr ⟨k, ⟨k0.1, by omega⟩, k1, k2⟩
            · exact Or.inr ⟨i, ⟨by omega, by omega⟩, q1, q2⟩
          · rintro (q | ⟨k, k0, k1, k2⟩)
            · exact Or.inl (Or.inl q)
            · by_cases z : k = i
              · rw [z] at k1 k2; exact Or.inr ⟨k1, k2⟩
              · exact Or.inl (Or.inr ⟨k, ⟨k0.1, by omega⟩, k1, k2⟩)
      · obtain ⟨hi, hJ2⟩ := hI2
        have ei : i = g_hf M0 (e + 1) := by rw [hS.hfn e351.1 e351.2]; omega
        have d548 : V 548 = C0 548 := hJ2.1 548 (by decide)
        refine r_Judge_judgeHeads_35 hJ2.2.1 rn ⟨by omega, by omega⟩ ⟨by omega, by omega⟩ ⟨⟨by omega, by omega⟩, fun _ => next V ⟨⟨by omega, by omega⟩, by rw [← ei]; exact hJ2, by omega⟩ _ (ax_y_i _), fun q => by rw [d548, fe.2.1.2] at q; omega⟩
    · obtain ⟨he, hJ2, hH⟩ := hI
      have ee : e = C0 509 (n + 1) := by omega
      have c509 : V 509 = C0 509 := hJ2.1 509 (by decide)
      refine r_Judge_judgeHeads_10 hJ2.2.1 rn ⟨by omega, by omega⟩ hy ⟨⟨by omega, by omega⟩, fun _ => h V (by rw [← ee]; exact hJ2), fun q => by rw [c509] at q; omega⟩
  have c509 : C 509 = C0 509 := hJ.1 509 (by decide)
  refine r_Judge_judgeHeads hJ.2.1 rn ⟨⟨by omega, by omega⟩, ?_⟩
  rw [c509]
  refine out _ C ⟨⟨Int.le_refl _, e2.1⟩, ?_, by rw [eH0]; exact Int.le_refl _⟩ none ax_y_n
  rw [← eH0]
  obtain ⟨a1, a2, a3, a4, a5⟩ := hJ
  refine ⟨a1, a2, a3, a4, fun t => ?_⟩
  rw [a5 t]
  exact ⟨fun q => Or.inl q, fun q => by rcases q with q | ⟨i, i0, -⟩; exact q; omega⟩
end Kind2C
