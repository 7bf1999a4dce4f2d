/-! more rules: an array's length, an array of references -/
section AxMore
variable {lay : ax_Lay} {τ : List ax_S → Option Value} {d : Nat} {M : ai_M} {pc pc' : Nat} {L : List (Option Value)} {st : List Value} {V : ax_V} {Φ : Option Value → ax_V → Prop} {Θ : ax_V → Prop}
theorem ax_len {a id n : Nat} (hf : ai_In M pc .arraylength) (hs : ∀ ss, lay ss → ss[a]? = some (.inr (id, .inl (0, n)))) (hp : pc + 1 = pc') (h : ax_R lay τ d M pc' L (ax_i (n : Int) :: st) V Φ Θ) : ax_R lay τ d M pc L (.ref a :: st) V Φ Θ := by
  subst hp
  refine ax_R.go (fun ss hl r hr => ?_) h
  refine ai_Rn.world hf rfl ?_ hr
  show ai_len pc (.ref a :: st) (ax_w ss V) = _
  have e : (ax_w ss V)[a]? = some (.inl (0, n, .inl (fun j => Int32.ofInt (V id (j : Int))))) := ax_w_get (hs ss hl)
  unfold ai_len
  simp only [e]
  rfl
theorem ax_ald {a q : Nat} {i : Int} {J : Int} {g : Nat → Option Nat} (hf : ai_In M pc .aaload) (hs : ∀ ss, lay ss → ss[a]? = some (.inl (.inl (4, 8, .inr (.inr (.inr (.inr (fun j : Nat => if (j : Int) = J then some q else g j))))))))  (hi : i = J) (h0 : 0 ≤ i ∧ i < 8) (hp : pc + 1 = pc') (h : ax_R lay τ d M pc' L (.ref q :: st) V Φ Θ) : ax_R lay τ d M pc L (ax_i i :: .ref a :: st) V Φ Θ := by
  subst hp hi
  refine ax_R.go (fun ss hl r hr => ?_) h
  refine ai_Rn.world hf rfl ?_ hr
  have e : (ax_w ss V)[a]? = some (.inl (4, 8, .inr (.inr (.inr (.inr (fun j : Nat => if (j : Int) = i then some q else g j)))))) := ax_w_get (hs ss hl)
  have hin : vp_in (Int32.ofInt i) 8 := ax_in (n := 8) h0 (by decide)
  show ai_aald 4 pc (.int (Int32.ofInt i) :: .ref a :: st) (ax_w ss V) = _
  unfold ai_aald
  simp only [e]
  rw [if_pos ⟨trivial, hin⟩]
  have e2 : (((Int32.ofInt i).toNatClampNeg : Nat) : Int) = i := ax_idx (n := 8) h0 (by decide)
  rw [if_pos e2]
  rfl
end AxMore
