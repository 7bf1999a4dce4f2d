/-! STEPS as ints -/
theorem b_stp_t : ∀ k : Fin 6, ∀ x : Fin 1024, ax_or (ax_shl ((k : Nat) : Int) 10) ((x : Nat) : Int) = 1024 * ((k : Nat) : Int) + ((x : Nat) : Int) := by decide +kernel
theorem b_stp {k x : Int} (hk : 0 ≤ k ∧ k < 6) (hx : 0 ≤ x ∧ x < 1024) : ax_or (ax_shl k 10) x = 1024 * k + x := by
  have h := b_stp_t ⟨k.toNat, by omega⟩ ⟨x.toNat, by omega⟩
  have e1 : (((⟨k.toNat, by omega⟩ : Fin 6) : Nat) : Int) = k := by show ((k.toNat : Nat) : Int) = k; omega
  have e2 : (((⟨x.toNat, by omega⟩ : Fin 1024) : Nat) : Int) = x := by show ((x.toNat : Nat) : Int) = x; omega
  rw [e1, e2] at h
  exact h
theorem b_dec_t : ∀ k : Fin 6, ∀ x : Fin 1024, ax_and (1024 * ((k : Nat) : Int) + ((x : Nat) : Int)) 1023 = ((x : Nat) : Int) ∧ ax_shr (1024 * ((k : Nat) : Int) + ((x : Nat) : Int)) 10 = ((k : Nat) : Int) := by decide +kernel
theorem b_dec {k x : Int} (hk : 0 ≤ k ∧ k < 6) (hx : 0 ≤ x ∧ x < 1024) : ax_and (1024 * k + x) 1023 = x ∧ ax_shr (1024 * k + x) 10 = k := by
  have h := b_dec_t ⟨k.toNat, by omega⟩ ⟨x.toNat, by omega⟩
  have e1 : (((⟨k.toNat, by omega⟩ : Fin 6) : Nat) : Int) = k := by show ((k.toNat : Nat) : Int) = k; omega
  have e2 : (((⟨x.toNat, by omega⟩ : Fin 1024) : Nat) : Int) = x := by show ((x.toNat : Nat) : Int) = x; omega
  rw [e1, e2] at h
  exact h
