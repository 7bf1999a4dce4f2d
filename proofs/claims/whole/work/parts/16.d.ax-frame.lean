/-! A CALL SEEN BY A SMALLER SHAPE: cells that the callee doesn't know are raw to it, and stay as they are; σ says which numbers it knows, and as what -/
def ax_rn (σ : Nat → Option Nat) (V : ax_V) (s : ax_S) : ax_S := match s with
  | .inl e => .inl e
  | .inr (id, x) => match σ id with
    | some id' => .inr (id', x)
    | none => .inl (ax_c V (.inr (id, x)))
def ax_bk (σ : Nat → Option Nat) (V W : ax_V) : ax_V := fun c => match σ c with
  | some c' => W c'
  | none => V c
theorem ax_bk_g {σ : Nat → Option Nat} {V W : ax_V} (h1 : ax_g V) (h2 : ax_g W) : ax_g (ax_bk σ V W) := by
  intro c i
  unfold ax_bk
  cases σ c with
  | some c' => exact h2 _ _
  | none => exact h1 _ _
theorem ax_rn_c (σ : Nat → Option Nat) (V W : ax_V) (s : ax_S) : ax_c W (ax_rn σ V s) = ax_c (ax_bk σ V W) s := by
  rcases s with e | ⟨id, x⟩
  · rfl
  · unfold ax_rn
    cases h : σ id with
    | some id' => rcases x with ⟨t, n⟩ | ⟨ci, fs⟩ <;> simp only [ax_c, ax_bk, h]
    | none => rcases x with ⟨t, n⟩ | ⟨ci, fs⟩ <;> simp only [ax_c, ax_bk, h]
theorem ax_rn_w (σ : Nat → Option Nat) (V W : ax_V) (ss : List ax_S) : ax_w (ss.map (ax_rn σ V)) W = ax_w ss (ax_bk σ V W) := by
  unfold ax_w
  rw [List.map_map]
  exact List.map_congr_left (fun s _ => ax_rn_c σ V W s)
theorem ax_bk_id {σ : Nat → Option Nat} {V V1 : ax_V} (hV : ∀ c c', σ c = some c' → V1 c' = V c) : ax_bk σ V V1 = V := by
  funext c
  unfold ax_bk
  cases h : σ c with
  | some c' => exact hV c c' h
  | none => rfl
theorem ax_T.frame {lay1 lay2 : ax_Lay} {d key : Nat} {vs : List Value} {V V1 : ax_V} {Φ : Option Value → ax_V → Prop} {Θ : ax_V → Prop} (σ : Nat → Option Nat) (hg : ax_g V) (hV : ∀ c c', σ c = some c' → V1 c' = V c) (hl : ∀ ss, lay2 ss → lay1 (ss.map (ax_rn σ V))) (h : ax_T lay1 d key vs V1 Φ Θ) : ax_T lay2 d key vs V (fun r W => ∃ W1, ax_g W1 ∧ Φ r W1 ∧ W = ax_bk σ V W1) (fun W => ∃ W1, ax_g W1 ∧ Θ W1 ∧ W = ax_bk σ V W1) := by
  have e0 : ∀ ss : List ax_S, ax_w (ss.map (ax_rn σ V)) V1 = ax_w ss V := fun ss => by rw [ax_rn_w, ax_bk_id hV]
  rcases h with ⟨r, W1, a, b, c, f⟩ | ⟨W1, b, c, f⟩
  · refine Or.inl ⟨r, _, a, ax_bk_g hg b, ⟨W1, b, c, rfl⟩, fun ss hs => ?_⟩
    have h9 := f _ (hl ss hs)
    rw [e0, ax_rn_w] at h9
    exact h9
  · refine Or.inr ⟨_, ax_bk_g hg b, ⟨W1, b, c, rfl⟩, fun ss hs => ?_⟩
    have h9 := f _ (hl ss hs)
    rw [e0, List.length_map] at h9
    have e1 : ax_w (ss.map (ax_rn σ V) ++ [ax_ex]) W1 = ax_w (ss ++ [ax_ex]) (ax_bk σ V W1) := by
      rw [← ax_rn_w, List.map_append]
      rfl
    rw [e1] at h9
    exact h9
