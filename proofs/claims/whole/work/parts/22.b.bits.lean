/-! BITS of a machine int: sets of letters -/
def b_in (x : Int) (l : Int) : Prop := (Int32.ofInt x).toBitVec.getLsbD l.toNat = true
def b_ok (x : Int) : Prop := ax_rg x ∧ ∀ k : Nat, 26 ≤ k → (Int32.ofInt x).toBitVec.getLsbD k = false
def b_bit (l : Int) : Int := ax_shl 1 l
theorem b_bit_t : ∀ l k : Fin 26, (Int32.ofInt (ax_shl 1 ((l : Nat) : Int))).toBitVec.getLsbD (k : Nat) = decide ((k : Nat) = (l : Nat)) := by decide +kernel
theorem b_bit_h : ∀ l : Fin 26, ∀ k : Fin 32, 26 ≤ (k : Nat) → (Int32.ofInt (ax_shl 1 ((l : Nat) : Int))).toBitVec.getLsbD (k : Nat) = false := by decide +kernel
theorem b_rem_t : ∀ x : Fin 208, ax_rem ((x : Nat) : Int) 26 = (((x : Nat) % 26 : Nat) : Int) := by decide +kernel
theorem b_shr_t : ∀ x : Fin 416, ax_shr ((x : Nat) : Int) 1 = (((x : Nat) / 2 : Nat) : Int) := by decide +kernel
theorem b_and1_t : ∀ x : Fin 416, ax_and ((x : Nat) : Int) 1 = (((x : Nat) % 2 : Nat) : Int) := by decide +kernel
theorem b_rem {n l : Int} (hn : 0 ≤ n ∧ n < 8) (hl : 0 ≤ l ∧ l < 26) : ax_rem (26 * n + l) 26 = l := by
  have h := b_rem_t ⟨(26 * n + l).toNat, by omega⟩
  have e : (((26 * n + l).toNat : Nat) : Int) = 26 * n + l := by omega
  have e2 : (((26 * n + l).toNat % 26 : Nat) : Int) = l := by omega
  rw [show (((⟨(26 * n + l).toNat, by omega⟩ : Fin 208) : Nat)) = (26 * n + l).toNat from rfl, e, e2] at h
  exact h
theorem b_shr {x : Int} (h0 : 0 ≤ x ∧ x < 416) : ax_shr x 1 = x / 2 := by
  have h := b_shr_t ⟨x.toNat, by omega⟩
  have e : ((x.toNat : Nat) : Int) = x := by omega
  have e2 : ((x.toNat / 2 : Nat) : Int) = x / 2 := by omega
  rw [show (((⟨x.toNat, by omega⟩ : Fin 416) : Nat)) = x.toNat from rfl, e, e2] at h
  exact h
theorem b_and1 {x : Int} (h0 : 0 ≤ x ∧ x < 416) : ax_and x 1 = x % 2 := by
  have h := b_and1_t ⟨x.toNat, by omega⟩
  have e : ((x.toNat : Nat) : Int) = x := by omega
  have e2 : ((x.toNat % 2 : Nat) : Int) = x % 2 := by omega
  rw [show (((⟨x.toNat, by omega⟩ : Fin 416) : Nat)) = x.toNat from rfl, e, e2] at h
  exact h
theorem b_in_bit {l k : Int} (hl : 0 ≤ l ∧ l < 26) (hk : 0 ≤ k ∧ k < 26) : b_in (b_bit l) k ↔ k = l := by
  have h := b_bit_t ⟨l.toNat, by omega⟩ ⟨k.toNat, by omega⟩
  have e : ((l.toNat : Nat) : Int) = l := by omega
  rw [show (((⟨l.toNat, by omega⟩ : Fin 26) : Nat)) = l.toNat from rfl, e, show (((⟨k.toNat, by omega⟩ : Fin 26) : Nat)) = k.toNat from rfl] at h
  unfold b_in b_bit
  rw [h, decide_eq_true_eq]
  omega
theorem b_ok_bit {l : Int} (hl : 0 ≤ l ∧ l < 26) : b_ok (b_bit l) := by
  refine ⟨ax_rg_of _, fun k hk => ?_⟩
  by_cases w : k < 32
  · have h := b_bit_h ⟨l.toNat, by omega⟩ ⟨k, w⟩ hk
    have e : ((l.toNat : Nat) : Int) = l := by omega
    rw [show (((⟨l.toNat, by omega⟩ : Fin 26) : Nat)) = l.toNat from rfl, e] at h
    exact h
  · exact BitVec.getLsbD_of_ge _ _ (by omega)
theorem b_ok_0 : b_ok 0 := ⟨by decide, fun k _ => by
  show (Int32.ofInt 0).toBitVec.getLsbD k = false
  have e : (Int32.ofInt 0).toBitVec = 0#32 := rfl
  rw [e]; simp⟩
theorem b_in_0 (l : Int) : ¬ b_in 0 l := by
  unfold b_in
  have e : (Int32.ofInt 0).toBitVec = 0#32 := rfl
  rw [e]; simp
theorem b_or_e (x y : Int) : Int32.ofInt (ax_or x y) = Int32.ofInt x ||| Int32.ofInt y := (ax_or_e x y).symm
theorem b_and_e (x y : Int) : Int32.ofInt (ax_and x y) = Int32.ofInt x &&& Int32.ofInt y := (ax_and_e x y).symm
theorem b_xor_e (x y : Int) : Int32.ofInt (ax_xor x y) = Int32.ofInt x ^^^ Int32.ofInt y := (ax_xor_e x y).symm
theorem b_in_or (x y l : Int) : b_in (ax_or x y) l ↔ b_in x l ∨ b_in y l := by
  unfold b_in
  rw [b_or_e, Int32.toBitVec_or, BitVec.getLsbD_or, Bool.or_eq_true]
theorem b_ok_or {x y : Int} (hx : b_ok x) (hy : b_ok y) : b_ok (ax_or x y) := ⟨ax_rg_of _, fun k hk => by rw [b_or_e, Int32.toBitVec_or, BitVec.getLsbD_or, hx.2 k hk, hy.2 k hk]; rfl⟩
theorem b_in_and (x y l : Int) : b_in (ax_and x y) l ↔ b_in x l ∧ b_in y l := by
  unfold b_in
  rw [b_and_e, Int32.toBitVec_and, BitVec.getLsbD_and, Bool.and_eq_true]
theorem b_ok_and {x y : Int} (hx : b_ok x) : b_ok (ax_and x y) := ⟨ax_rg_of _, fun k hk => by rw [b_and_e, Int32.toBitVec_and, BitVec.getLsbD_and, hx.2 k hk]; rfl⟩
theorem b_eq {x y : Int} (hx : b_ok x) (hy : b_ok y) : x = y ↔ ∀ l, 0 ≤ l → l < 26 → (b_in x l ↔ b_in y l) := by
  refine ⟨fun e l _ _ => by rw [e], fun h => ?_⟩
  have e : (Int32.ofInt x).toBitVec = (Int32.ofInt y).toBitVec := by
    refine BitVec.eq_of_getLsbD_eq (fun k hk => ?_)
    by_cases w : k < 26
    · have := h (k : Int) (by omega) (by omega)
      unfold b_in at this
      rw [Int.toNat_natCast] at this
      rw [Bool.eq_iff_iff]; exact this
    · rw [hx.2 k (by omega), hy.2 k (by omega)]
  have e2 : Int32.ofInt x = Int32.ofInt y := Int32.toBitVec_inj.mp e
  exact (ax_eq hx.1 hy.1).mp e2
theorem b_zero {x : Int} (hx : b_ok x) : x = 0 ↔ ∀ l, 0 ≤ l → l < 26 → ¬ b_in x l := by
  rw [b_eq hx b_ok_0]
  exact ⟨fun h l a b q => b_in_0 l ((h l a b).mp q), fun h l a b => ⟨fun q => absurd q (h l a b), fun q => absurd q (b_in_0 l)⟩⟩
/-- all but these -/
theorem b_in_not (x l : Int) (hl : 0 ≤ l ∧ l < 26) : b_in (ax_xor x (-1)) l ↔ ¬ b_in x l := by
  unfold b_in
  have e : (Int32.ofInt (-1)).toBitVec = BitVec.allOnes 32 := by decide
  rw [b_xor_e, Int32.toBitVec_xor, BitVec.getLsbD_xor, e, BitVec.getLsbD_allOnes, decide_eq_true (by omega)]
  cases (Int32.ofInt x).toBitVec.getLsbD l.toNat <;> simp
