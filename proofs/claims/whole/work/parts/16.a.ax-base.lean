/-! WORLDS BY SHAPE AND NUMBERS: a shape says of each cell what it is (a raw cell; an array of ints, by number, type and length; an object, by number and class, its other fields known); its ints are V number index, whole numbers within a machine int's range -/
abbrev ax_V : Type := Nat → Int → Int
abbrev ax_S : Type := va_E ⊕ (Nat × ((Nat × Nat) ⊕ (Nat × List (Option Value))))
abbrev ax_Lay : Type := List ax_S → Prop
def ax_i (x : Int) : Value := .int (Int32.ofInt x)
abbrev ax_rg (x : Int) : Prop := -2147483648 ≤ x ∧ x ≤ 2147483647
def ax_c (V : ax_V) (s : ax_S) : va_E := match s with
  | .inl e => e
  | .inr (id, .inl (t, n)) => .inl (t, n, .inl (fun j => Int32.ofInt (V id (j : Int))))
  | .inr (id, .inr (ci, fs)) => .inr (ci, fs.mapIdx (fun k f => f.getD (ax_i (V id (k : Int)))))
def ax_w (ss : List ax_S) (V : ax_V) : List va_E := ss.map (ax_c V)
def ax_u (V : ax_V) (c : Nat) (i x : Int) : ax_V := fun c' i' => if c' = c ∧ i' = i then x else V c' i'
def ax_g (V : ax_V) : Prop := ∀ c i, ax_rg (V c i)
def ax_ok (ss : List ax_S) : Prop := ∀ (a b id : Nat) (x y : (Nat × Nat) ⊕ (Nat × List (Option Value))), ss[a]? = some (Sum.inr (id, x)) → ss[b]? = some (Sum.inr (id, y)) → a = b
theorem ax_toInt {x : Int} (h : ax_rg x) : (Int32.ofInt x).toInt = x := Int32.toInt_ofInt_of_le (by have := h.1; omega) (by have := h.2; omega)
theorem ax_toNat {x : Int} (h : ax_rg x) : (Int32.ofInt x).toNatClampNeg = x.toNat := Int32.toNatClampNeg_ofInt_of_le (by have := h.1; omega) (by have := h.2; omega)
theorem ax_eq {x y : Int} (hx : ax_rg x) (hy : ax_rg y) : Int32.ofInt x = Int32.ofInt y ↔ x = y := by
  rw [← Int32.toInt_inj, ax_toInt hx, ax_toInt hy]
theorem ax_lt {x y : Int} (hx : ax_rg x) (hy : ax_rg y) : Int32.ofInt x < Int32.ofInt y ↔ x < y := by
  rw [Int32.lt_iff_toInt_lt, ax_toInt hx, ax_toInt hy]
theorem ax_le {x y : Int} (hx : ax_rg x) (hy : ax_rg y) : Int32.ofInt x ≤ Int32.ofInt y ↔ x ≤ y := by
  rw [Int32.le_iff_toInt_le, ax_toInt hx, ax_toInt hy]
theorem ax_u_g {V : ax_V} {c : Nat} {i x : Int} (h : ax_g V) (hx : ax_rg x) : ax_g (ax_u V c i x) := by
  intro c' i'
  unfold ax_u
  split
  · exact hx
  · exact h c' i'
theorem ax_u_ne {V : ax_V} {c c' : Nat} {i x : Int} (h : c' ≠ c) : ax_u V c i x c' = V c' := by
  funext j
  unfold ax_u
  rw [if_neg (fun q => h q.1)]
theorem ax_w_get {ss : List ax_S} {V : ax_V} {a : Nat} {s : ax_S} (h : ss[a]? = some s) : (ax_w ss V)[a]? = some (ax_c V s) := by
  unfold ax_w
  rw [List.getElem?_map, h]; rfl
theorem ax_w_len (ss : List ax_S) (V : ax_V) : (ax_w ss V).length = ss.length := by unfold ax_w; exact List.length_map _
theorem ax_c_ne {V V' : ax_V} {id : Nat} (hV : V' id = V id) (x : (Nat × Nat) ⊕ (Nat × List (Option Value))) : ax_c V' (.inr (id, x)) = ax_c V (.inr (id, x)) := by
  rcases x with ⟨t, n⟩ | ⟨ci, fs⟩ <;> simp only [ax_c, hV]
theorem ax_w_set {ss : List ax_S} {V V' : ax_V} {a id : Nat} {x : (Nat × Nat) ⊕ (Nat × List (Option Value))} (ok : ax_ok ss) (h : ss[a]? = some (.inr (id, x))) (hV : ∀ c, c ≠ id → V' c = V c) : (ax_w ss V).set a (ax_c V' (.inr (id, x))) = ax_w ss V' := by
  apply List.ext_getElem?
  intro j
  unfold ax_w
  by_cases hj : a = j
  · subst hj
    have hlt := (List.getElem?_eq_some_iff.mp h).1
    rw [List.getElem?_set_self (by rw [List.length_map]; exact hlt), List.getElem?_map, h]; rfl
  · rw [List.getElem?_set_ne hj, List.getElem?_map, List.getElem?_map]
    cases hs : ss[j]? with
    | none => rfl
    | some s =>
      rcases s with e | ⟨id', x'⟩
      · rfl
      · have hne : id' ≠ id := fun e => hj (ok _ _ _ _ _ h (e ▸ hs))
        show some (ax_c V (.inr (id', x'))) = some (ax_c V' (.inr (id', x')))
        rw [ax_c_ne (hV id' hne)]
theorem ax_upd {V : ax_V} {id : Nat} {i x : Int} (hi : 0 ≤ i) (hi2 : i ≤ 2147483647) : upd (fun j => Int32.ofInt (V id (j : Int))) (Int32.ofInt i).toNatClampNeg (Int32.ofInt x) = fun j : Nat => Int32.ofInt (ax_u V id i x id (j : Int)) := by
  funext j
  unfold upd ax_u
  rw [ax_toNat ⟨by omega, hi2⟩]
  by_cases h : j = i.toNat
  · rw [if_pos h, if_pos ⟨rfl, by omega⟩]
  · rw [if_neg h, if_neg (fun q => h (by have := q.2; omega))]
theorem ax_fset {V : ax_V} {id k : Nat} {x : Int} {fs : List (Option Value)} (h : fs[k]? = some none) : (fs.mapIdx (fun k f => f.getD (ax_i (V id (k : Int))))).set k (ax_i x) = fs.mapIdx (fun j f => f.getD (ax_i (ax_u V id (k : Int) x id (j : Int)))) := by
  apply List.ext_getElem?
  intro j
  have hlt := (List.getElem?_eq_some_iff.mp h).1
  by_cases hj : k = j
  · subst hj
    rw [List.getElem?_set_self (by rw [List.length_mapIdx]; exact hlt), List.getElem?_mapIdx, h]
    simp [ax_u]
  · rw [List.getElem?_set_ne hj, List.getElem?_mapIdx, List.getElem?_mapIdx]
    cases fs[j]? with
    | none => rfl
    | some f =>
      have h2 : ¬ ((j : Int) = (k : Int)) := fun q => hj (by omega)
      cases f <;> simp [ax_u, h2]
/-! RUNS OVER SUCH WORLDS, whatever the raw cells are: it ends, and Φ holds of what it returns and of the numbers; or it throws, and Θ holds of the numbers -/
def ax_ex : ax_S := .inl (.inr (13, List.replicate 6 .null))
/-- what a method that throws ends with -/
def ax_t (ss : List ax_S) : Option Value := some (.retAddr ss.length)
def ax_R (lay : ax_Lay) (τ : List ax_S → Option Value) (d : Nat) (M : ai_M) (pc : Nat) (L : List (Option Value)) (st : List Value) (V : ax_V) (Φ : Option Value → ax_V → Prop) (Θ : ax_V → Prop) : Prop :=
  (∃ (r : Option Value) (V' : ax_V), ai_nt r ∧ ax_g V' ∧ Φ r V' ∧ ∀ ss, lay ss → ai_Rn none ai_P0 d M (pc, L, st, ax_w ss V) (r, ax_w ss V')) ∨
  (∃ V' : ax_V, ax_g V' ∧ Θ V' ∧ ∀ ss, lay ss → ai_Rn none ai_P0 d M (pc, L, st, ax_w ss V) (τ ss, ax_w (ss ++ [ax_ex]) V'))
def ax_T (lay : ax_Lay) (d key : Nat) (vs : List Value) (V : ax_V) (Φ : Option Value → ax_V → Prop) (Θ : ax_V → Prop) : Prop :=
  (∃ (r : Option Value) (V' : ax_V), ai_nt r ∧ ax_g V' ∧ Φ r V' ∧ ∀ ss, lay ss → ai_Ex ai_P0 d key vs (ax_w ss V) (r, ax_w ss V')) ∨
  (∃ V' : ax_V, ax_g V' ∧ Θ V' ∧ ∀ ss, lay ss → ai_Ex ai_P0 d key vs (ax_w ss V) (some (.retAddr ss.length), ax_w (ss ++ [ax_ex]) V'))
def ax_Ir (Φ : Int → ax_V → Prop) : Option Value → ax_V → Prop := fun r V => ∃ x, r = some (ax_i x) ∧ ax_rg x ∧ Φ x V
def ax_Nr (Φ : ax_V → Prop) : Option Value → ax_V → Prop := fun r V => r = none ∧ Φ V
/-- a method that gives an int; one that gives nothing -/
def ax_I (lay : ax_Lay) (d key : Nat) (vs : List Value) (V : ax_V) (Φ : Int → ax_V → Prop) (Θ : ax_V → Prop) : Prop := ax_T lay d key vs V (ax_Ir Φ) Θ
def ax_N (lay : ax_Lay) (d key : Nat) (vs : List Value) (V : ax_V) (Φ : ax_V → Prop) (Θ : ax_V → Prop) : Prop := ax_T lay d key vs V (ax_Nr Φ) Θ
section AxBase
variable {lay : ax_Lay} {τ : List ax_S → Option Value} {d : Nat} {M : ai_M} {pc : Nat} {L : List (Option Value)} {st : List Value} {V : ax_V} {Φ : Option Value → ax_V → Prop} {Θ : ax_V → Prop}
theorem ax_T.of {key : Nat} {vs : List Value} (hM : ai_P0.1 key = some M) (hl : (lg_sl vs).length ≤ M.2.2.1) (h : ax_R lay ax_t d M 0 (ai_lv vs M.2.2.1) [] V Φ Θ) : ax_T lay (d + 1) key vs V Φ Θ := by
  rcases h with ⟨r, V', h1, h2, h3, h4⟩ | ⟨V', h2, h3, h4⟩
  · exact Or.inl ⟨r, V', h1, h2, h3, fun ss hs => ai_Ex.of hM hl (h4 ss hs)⟩
  · exact Or.inr ⟨V', h2, h3, fun ss hs => ai_Ex.of hM hl (h4 ss hs)⟩
theorem ax_T.mono {d2 key : Nat} {vs : List Value} {Φ' : Option Value → ax_V → Prop} {Θ' : ax_V → Prop} (h : ax_T lay d key vs V Φ Θ) (hd : d ≤ d2) (h1 : ∀ r V', ax_g V' → Φ r V' → Φ' r V') (h2 : ∀ V', ax_g V' → Θ V' → Θ' V') : ax_T lay d2 key vs V Φ' Θ' := by
  rcases h with ⟨r, V', a, b, c, e⟩ | ⟨V', b, c, e⟩
  · exact Or.inl ⟨r, V', a, b, h1 r V' b c, fun ss hs => (e ss hs).up hd⟩
  · exact Or.inr ⟨V', b, h2 V' b c, fun ss hs => (e ss hs).up hd⟩
theorem ax_I.mono {d2 key : Nat} {vs : List Value} {Φ Φ' : Int → ax_V → Prop} {Θ' : ax_V → Prop} (h : ax_I lay d key vs V Φ Θ) (hd : d ≤ d2) (h1 : ∀ x V', ax_g V' → ax_rg x → Φ x V' → Φ' x V') (h2 : ∀ V', ax_g V' → Θ V' → Θ' V') : ax_I lay d2 key vs V Φ' Θ' := by
  refine ax_T.mono h hd (fun r V' hg h => ?_) h2
  obtain ⟨x, a, b, c⟩ := h
  exact ⟨x, a, b, h1 x V' hg b c⟩
theorem ax_N.mono {d2 key : Nat} {vs : List Value} {Φ Φ' : ax_V → Prop} {Θ' : ax_V → Prop} (h : ax_N lay d key vs V Φ Θ) (hd : d ≤ d2) (h1 : ∀ V', ax_g V' → Φ V' → Φ' V') (h2 : ∀ V', ax_g V' → Θ V' → Θ' V') : ax_N lay d2 key vs V Φ' Θ' :=
  ax_T.mono h hd (fun r V' hg h => ⟨h.1, h1 V' hg h.2⟩) h2
theorem ax_R.mono {Φ' : Option Value → ax_V → Prop} {Θ' : ax_V → Prop} (h : ax_R lay τ d M pc L st V Φ Θ) (h1 : ∀ r V', ax_g V' → Φ r V' → Φ' r V') (h2 : ∀ V', ax_g V' → Θ V' → Θ' V') : ax_R lay τ d M pc L st V Φ' Θ' := by
  rcases h with ⟨r, V', a, b, c, e⟩ | ⟨V', b, c, e⟩
  · exact Or.inl ⟨r, V', a, b, h1 r V' b c, e⟩
  · exact Or.inr ⟨V', b, h2 V' b c, e⟩
/-- a step, whatever the raw cells are -/
theorem ax_R.go {pc' : Nat} {L' : List (Option Value)} {st' : List Value} {V1 : ax_V} (hs : ∀ ss, lay ss → ∀ r, ai_Rn none ai_P0 d M (pc', L', st', ax_w ss V1) r → ai_Rn none ai_P0 d M (pc, L, st, ax_w ss V) r) (h : ax_R lay τ d M pc' L' st' V1 Φ Θ) : ax_R lay τ d M pc L st V Φ Θ := by
  rcases h with ⟨r, V', a, b, c, e⟩ | ⟨V', b, c, e⟩
  · exact Or.inl ⟨r, V', a, b, c, fun ss hl => hs ss hl _ (e ss hl)⟩
  · exact Or.inr ⟨V', b, c, fun ss hl => hs ss hl _ (e ss hl)⟩
end AxBase
