/-! WHAT A RUN ENDS WITH, taken out of it, and put in again -/
section AxEnds
variable {lay : ax_Lay} {τ : List ax_S → Option Value} {d key : Nat} {vs : List Value} {M : ai_M} {pc : Nat} {L : List (Option Value)} {st : List Value} {V : ax_V} {Θ : ax_V → Prop}
/-- it gives x, and V' is left -/
def ax_Ie (lay : ax_Lay) (d key : Nat) (vs : List Value) (V : ax_V) (x : Int) (V' : ax_V) : Prop := ax_I lay d key vs V (fun y W => y = x ∧ W = V') (fun _ => False)
def ax_Ne (lay : ax_Lay) (d key : Nat) (vs : List Value) (V : ax_V) (V' : ax_V) : Prop := ax_N lay d key vs V (fun W => W = V') (fun _ => False)
/-- it throws, and V' is left -/
def ax_Xe (lay : ax_Lay) (d key : Nat) (vs : List Value) (V : ax_V) (V' : ax_V) : Prop := ax_T lay d key vs V (fun _ _ => False) (fun W => W = V')
theorem ax_Ie.k {x : Int} {V' : ax_V} {d2 : Nat} {Ψ : Int → ax_V → Prop} (h : ax_Ie lay d key vs V x V') (hd : d ≤ d2) (hk : ax_g V' → ax_rg x → Ψ x V') : ax_I lay d2 key vs V Ψ Θ :=
  ax_I.mono h hd (fun y W hg hy q => by obtain ⟨rfl, rfl⟩ := q; exact hk hg hy) (fun _ _ q => q.elim)
theorem ax_Ne.k {V' : ax_V} {d2 : Nat} {Ψ : ax_V → Prop} (h : ax_Ne lay d key vs V V') (hd : d ≤ d2) (hk : ax_g V' → Ψ V') : ax_N lay d2 key vs V Ψ Θ :=
  ax_N.mono h hd (fun W hg q => by cases q; exact hk hg) (fun _ _ q => q.elim)
theorem ax_Xe.kI {V' : ax_V} {d2 : Nat} {Ψ : Int → ax_V → Prop} (h : ax_Xe lay d key vs V V') (hd : d ≤ d2) (hk : ax_g V' → Θ V') : ax_I lay d2 key vs V Ψ Θ :=
  ax_T.mono h hd (fun _ _ _ q => q.elim) (fun W hg q => by cases q; exact hk hg)
theorem ax_Xe.kN {V' : ax_V} {d2 : Nat} {Ψ : ax_V → Prop} (h : ax_Xe lay d key vs V V') (hd : d ≤ d2) (hk : ax_g V' → Θ V') : ax_N lay d2 key vs V Ψ Θ :=
  ax_T.mono h hd (fun _ _ _ q => q.elim) (fun W hg q => by cases q; exact hk hg)
theorem ax_I.ex {Φ : Int → ax_V → Prop} (h : ax_I lay d key vs V Φ Θ) : (∃ x V', ax_g V' ∧ ax_rg x ∧ Φ x V' ∧ ax_Ie lay d key vs V x V') ∨ (∃ V', ax_g V' ∧ Θ V' ∧ ax_Xe lay d key vs V V') := by
  rcases h with ⟨r, V', a, b, ⟨x, rfl, c, e⟩, f⟩ | ⟨V', b, c, f⟩
  · exact Or.inl ⟨x, V', b, c, e, Or.inl ⟨_, V', a, b, ⟨x, rfl, c, rfl, rfl⟩, f⟩⟩
  · exact Or.inr ⟨V', b, c, Or.inr ⟨V', b, rfl, f⟩⟩
theorem ax_N.ex {Φ : ax_V → Prop} (h : ax_N lay d key vs V Φ Θ) : (∃ V', ax_g V' ∧ Φ V' ∧ ax_Ne lay d key vs V V') ∨ (∃ V', ax_g V' ∧ Θ V' ∧ ax_Xe lay d key vs V V') := by
  rcases h with ⟨r, V', a, b, ⟨rfl, e⟩, f⟩ | ⟨V', b, c, f⟩
  · exact Or.inl ⟨V', b, e, Or.inl ⟨_, V', a, b, ⟨rfl, rfl⟩, f⟩⟩
  · exact Or.inr ⟨V', b, c, Or.inr ⟨V', b, rfl, f⟩⟩
/-- .. where it doesn't throw -/
theorem ax_I.en {Φ : Int → ax_V → Prop} (h : ax_I lay d key vs V Φ (fun _ => False)) : ∃ x V', ax_g V' ∧ ax_rg x ∧ Φ x V' ∧ ax_Ie lay d key vs V x V' := by
  rcases h.ex with h | ⟨_, _, q, _⟩
  · exact h
  · exact q.elim
theorem ax_N.en {Φ : ax_V → Prop} (h : ax_N lay d key vs V Φ (fun _ => False)) : ∃ V', ax_g V' ∧ Φ V' ∧ ax_Ne lay d key vs V V' := by
  rcases h.ex with h | ⟨_, _, q, _⟩
  · exact h
  · exact q.elim
/-! the same of a run from within a method -/
def ax_KI (lay : ax_Lay) (τ : List ax_S → Option Value) (d : Nat) (M : ai_M) (pc : Nat) (L : List (Option Value)) (st : List Value) (V : ax_V) (x : Int) (V' : ax_V) : Prop := ax_R lay τ d M pc L st V (ax_Ir (fun y W => y = x ∧ W = V')) (fun _ => False)
def ax_KN (lay : ax_Lay) (τ : List ax_S → Option Value) (d : Nat) (M : ai_M) (pc : Nat) (L : List (Option Value)) (st : List Value) (V : ax_V) (V' : ax_V) : Prop := ax_R lay τ d M pc L st V (ax_Nr (fun W => W = V')) (fun _ => False)
theorem ax_KI.k {x : Int} {V' : ax_V} {Ψ : Int → ax_V → Prop} (h : ax_KI lay τ d M pc L st V x V') (hk : ax_g V' → ax_rg x → Ψ x V') : ax_R lay τ d M pc L st V (ax_Ir Ψ) Θ :=
  ax_R.mono h (fun r W hg q => by obtain ⟨y, rfl, hy, rfl, rfl⟩ := q; exact ⟨_, rfl, hy, hk hg hy⟩) (fun _ _ q => q.elim)
theorem ax_KN.k {V' : ax_V} {Ψ : ax_V → Prop} (h : ax_KN lay τ d M pc L st V V') (hk : ax_g V' → Ψ V') : ax_R lay τ d M pc L st V (ax_Nr Ψ) Θ :=
  ax_R.mono h (fun r W hg q => by obtain ⟨rfl, rfl⟩ := q; exact ⟨rfl, hk hg⟩) (fun _ _ q => q.elim)
theorem ax_R.enI {Φ : Int → ax_V → Prop} (h : ax_R lay τ d M pc L st V (ax_Ir Φ) (fun _ => False)) : ∃ x V', ax_g V' ∧ ax_rg x ∧ Φ x V' ∧ ax_KI lay τ d M pc L st V x V' := by
  rcases h with ⟨r, V', a, b, ⟨x, rfl, c, e⟩, f⟩ | ⟨V', b, c, f⟩
  · exact ⟨x, V', b, c, e, Or.inl ⟨_, V', a, b, ⟨x, rfl, c, rfl, rfl⟩, f⟩⟩
  · exact c.elim
theorem ax_R.enN {Φ : ax_V → Prop} (h : ax_R lay τ d M pc L st V (ax_Nr Φ) (fun _ => False)) : ∃ V', ax_g V' ∧ Φ V' ∧ ax_KN lay τ d M pc L st V V' := by
  rcases h with ⟨r, V', a, b, ⟨rfl, e⟩, f⟩ | ⟨V', b, c, f⟩
  · exact ⟨V', b, e, Or.inl ⟨_, V', a, b, ⟨rfl, rfl⟩, f⟩⟩
  · exact c.elim
end AxEnds
