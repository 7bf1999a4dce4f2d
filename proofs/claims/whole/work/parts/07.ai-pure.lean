/-! RUNS OF THE ABSTRACT MACHINE, however much fuel there is -/
def ai_Ex (P : ai_P) (d key : Nat) (vs : List Value) (z : List va_E) (r : ai_R) : Prop := ∃ k0 : Nat, ∀ k, k0 ≤ k → ai_exec P k d key vs z = some r
def ai_Rn (sc : ai_SC) (P : ai_P) (d : Nat) (M : ai_M) (u : ai_Z) (r : ai_R) : Prop := ∃ k0 : Nat, ∀ k1, k0 ≤ k1 → ∀ k2, k0 ≤ k2 → ai_run sc P (ai_exec P k1 d) M k2 u = some r
section AiPure
variable {sc : ai_SC} {P : ai_P} {d : Nat} {M : ai_M} {u u' : ai_Z} {r : ai_R}
theorem ai_Rn.step (he : ∀ call, ai_step sc P call M u = some (.inl u')) (h : ai_Rn sc P d M u' r) : ai_Rn sc P d M u r := by
  obtain ⟨k0, h⟩ := h
  refine ⟨k0 + 1, fun k1 h1 k2 h2 => ?_⟩
  obtain ⟨j, rfl⟩ : ∃ j, k2 = j + 1 := ⟨k2 - 1, by omega⟩
  unfold ai_run
  rw [he]
  exact h k1 (by omega) j (by omega)
theorem ai_Rn.ret (he : ∀ call, ai_step sc P call M u = some (.inr r)) : ai_Rn sc P d M u r := by
  refine ⟨1, fun k1 h1 k2 h2 => ?_⟩
  obtain ⟨j, rfl⟩ : ∃ j, k2 = j + 1 := ⟨k2 - 1, by omega⟩
  unfold ai_run
  rw [he]
theorem ai_Rn.call {key : Nat} {vs : List Value} {z : List va_E} {r1 : ai_R} (hc : ai_Ex P d key vs z r1) (he : ∀ call : ai_Call, call key vs z = some r1 → ai_step sc P call M u = some (.inl u')) (h : ai_Rn sc P d M u' r) : ai_Rn sc P d M u r := by
  obtain ⟨k0, h⟩ := h
  obtain ⟨kc, hc⟩ := hc
  refine ⟨max k0 kc + 1, fun k1 h1 k2 h2 => ?_⟩
  obtain ⟨j, rfl⟩ : ∃ j, k2 = j + 1 := ⟨k2 - 1, by omega⟩
  unfold ai_run
  rw [he _ (hc k1 (by omega))]
  exact h k1 (by omega) j (by omega)
theorem ai_Ex.of {key : Nat} {vs : List Value} {z : List va_E} (hM : P.1 key = some M) (hl : (lg_sl vs).length ≤ M.2.2.1) (h : ai_Rn none P d M (0, ai_lv vs M.2.2.1, [], z) r) : ai_Ex P (d + 1) key vs z r := by
  obtain ⟨k0, h⟩ := h
  refine ⟨k0, fun k hk => ?_⟩
  unfold ai_exec
  rw [hM]
  simp only [hl, if_true]
  exact h k hk k hk
/-- more fuel, more depth: the same answer -/
theorem ai_push_mono {r1 r2 : Option ai_R} (h : ∀ r, r1 = some r → r2 = some r) {pc : Nat} {rest : List Value} {x : ai_H} (hx : ai_push r1 pc rest = some x) : ai_push r2 pc rest = some x := by
  cases h1 : r1 with
  | none => rw [h1] at hx; cases hx
  | some r => rw [h1] at hx; rw [h _ h1]; exact hx
theorem ai_inv_mono {c1 c2 : ai_Call} (hc : ∀ key vs z r, c1 key vs z = some r → c2 key vs z = some r) {ml : Nat → Option (Nat × Nat × Nat × Nat)} {i : Instr} {pc : Nat} {st : List Value} {z : List va_E} {x : ai_H} (hx : ai_inv ml c1 i pc st z = some x) : ai_inv ml c2 i pc st z = some x := by
  have hp : ∀ {key : Nat} {vs : List Value} {z : List va_E} {pc : Nat} {rest : List Value} {x : ai_H}, ai_push (c1 key vs z) pc rest = some x → ai_push (c2 key vs z) pc rest = some x := fun hx => ai_push_mono (hc _ _ _) hx
  unfold ai_inv at hx ⊢
  repeat' (split at hx)
  all_goals first
    | (cases hx; done)
    | (simp only [*, if_true, and_self] ; exact hp hx)
    | (simp [*] ; exact hp hx)
    | (simp [*] at hx ⊢ ; exact hx)
    | (simp only [*, if_true] ; done)
    | exact hx
/-- a call that ends: the two roads of a step exclude each other -/
theorem ai_thr_inv {c1 c2 : ai_Call} (hc : ∀ key vs z r, c1 key vs z = some r → c2 key vs z = some r) {ml : Nat → Option (Nat × Nat × Nat × Nat)} {hs : List ai_Hd} {i : Instr} {pc : Nat} {L : List (Option Value)} {st : List Value} {z : List va_E} {w : ai_Z ⊕ ai_R} (h : ai_thr ml c1 hs i pc L st z = some w) : ai_inv ml c2 i pc st z = none ∧ ai_thr ml c2 hs i pc L st z = some w := by
  obtain ⟨idx, key, n, ci, b, rest, fs, a, z1, rfl, hm, hdr, ha, hrm, hcall, hh⟩ := ai_thr_of h
  have hcall := hc _ _ _ _ hcall
  refine ⟨?_, ?_⟩
  · unfold ai_inv
    simp only [hm, hdr, ha]
    rw [if_pos ⟨trivial, hrm⟩, hcall]
    rfl
  · unfold ai_thr
    simp only [hm, hdr, ha]
    rw [if_pos ⟨trivial, hrm⟩, hcall]
    exact hh
theorem ai_step_mono {c1 c2 : ai_Call} (hc : ∀ key vs z r, c1 key vs z = some r → c2 key vs z = some r) {w : ai_Z ⊕ ai_R} (h : ai_step sc P c1 M u = some w) : ai_step sc P c2 M u = some w := by
  unfold ai_step at h ⊢
  split at h
  · cases h
  · next hf =>
    try rw [hf]
    try simp only at h ⊢
    split at h
    · exact h
    · exact h
    · split at h
      · next h1 => rw [ai_inv_mono hc h1]; exact h
      · obtain ⟨h1, h2⟩ := ai_thr_inv hc h
        rw [h1]
        exact h2
    · exact h
theorem ai_run_mono {c1 c2 : ai_Call} (hc : ∀ key vs z r, c1 key vs z = some r → c2 key vs z = some r) : ∀ (k1 k2 : Nat) (u : ai_Z) (r : ai_R), k1 ≤ k2 → ai_run sc P c1 M k1 u = some r → ai_run sc P c2 M k2 u = some r := by
  intro k1
  induction k1 with
  | zero => intro k2 u r _ h; cases h
  | succ k1 ih =>
    intro k2 u r hk h
    obtain ⟨j, rfl⟩ : ∃ j, k2 = j + 1 := ⟨k2 - 1, by omega⟩
    unfold ai_run at h ⊢
    split at h
    · next u' hu => rw [ai_step_mono hc hu]; exact ih j u' r (by omega) h
    · next r' hu => rw [ai_step_mono hc hu]; exact h
    · cases h
theorem ai_exec_mono : ∀ (d1 d2 k1 k2 : Nat), d1 ≤ d2 → k1 ≤ k2 → ∀ key vs z r, ai_exec P k1 d1 key vs z = some r → ai_exec P k2 d2 key vs z = some r := by
  intro d1
  induction d1 with
  | zero => intro d2 k1 k2 _ _ key vs z r h; cases h
  | succ d1 ih =>
    intro d2 k1 k2 hd hk key vs z r h
    obtain ⟨j, rfl⟩ : ∃ j, d2 = j + 1 := ⟨d2 - 1, by omega⟩
    unfold ai_exec at h ⊢
    split at h
    · cases h
    · next hM =>
      try rw [hM]
      try simp only
      split at h
      · next hl =>
        try rw [if_pos hl]
        exact ai_run_mono (ih j k1 k2 (by omega) hk) k1 k2 _ _ hk h
      · cases h
theorem ai_Ex.up {d2 key : Nat} {vs : List Value} {z : List va_E} (h : ai_Ex P d key vs z r) (hd : d ≤ d2) : ai_Ex P d2 key vs z r := by
  obtain ⟨k0, h⟩ := h
  exact ⟨k0, fun k hk => ai_exec_mono d d2 k k hd (Nat.le_refl _) _ _ _ _ (h k hk)⟩
theorem ai_Ex.run {k key : Nat} {vs : List Value} {z : List va_E} (h : ai_exec P k d key vs z = some r) : ai_Ex P d key vs z r := ⟨k, fun _ hk => ai_exec_mono d d k _ (Nat.le_refl _) hk _ _ _ _ h⟩
end AiPure
