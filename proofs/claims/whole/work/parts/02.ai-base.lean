/-! THE WORLD AS ONE LIST: its k-th cell lies at S + k. In the list a reference is the number of its cell, an array's class the number of its type: ai_v, ai_e say what they are on the heap. (A cell outside the world, the law's script, is written .retAddr of its address.) -/
def ai_v (S : Nat) (v : Value) : Value := match v with
  | .ref k => .ref (S + k)
  | .retAddr b => .ref b
  | v => v
theorem ai_v_cat (S : Nat) (v : Value) : (ai_v S v).category = v.category := by cases v <;> rfl
theorem ai_v_nar {S : Nat} {ty : FieldType} {v : Value} (h : narrow ty v = v) : narrow ty (ai_v S v) = ai_v S v := by
  cases v <;> first | exact h | (cases ty <;> rfl)
theorem ai_v_fit {S : Nat} {ty : FieldType} {v : Value} (h : fits ty v = true) : fits ty (ai_v S v) = true := by
  cases v <;> first | exact h | (cases ty <;> first | rfl | (simp [fits] at h))
def ai_e (S : Nat) (G : Nat → ClassId) (e : va_E) : va_E := match e with
  | .inl (t, n, .inl f) => .inl (G t, n, .inl f)
  | .inl (t, n, .inr (.inl f)) => .inl (G t, n, .inr (.inl f))
  | .inl (t, n, .inr (.inr (.inl f))) => .inl (G t, n, .inr (.inr (.inl f)))
  | .inl (t, n, .inr (.inr (.inr (.inl f)))) => .inl (G t, n, .inr (.inr (.inr (.inl f))))
  | .inl (t, n, .inr (.inr (.inr (.inr f)))) => .inl (G t, n, .inr (.inr (.inr (.inr (fun j => (f j).map (fun k => S + k))))))
  | .inr (ci, fs) => .inr (ci, fs.map (ai_v S))
def ai_w (S : Nat) (G : Nat → ClassId) (z : List va_E) : va_W := z.mapIdx (fun k e => (S + k, ai_e S G e))
theorem ai_w_get {S : Nat} {G : Nat → ClassId} {z : List va_E} {k : Nat} {e : va_E} (h : z[k]? = some e) : (ai_w S G z)[k]? = some (S + k, ai_e S G e) := by
  simp [ai_w, h]
theorem ai_w_of {S : Nat} {G : Nat → ClassId} {z : List va_E} {k : Nat} {q : Nat × va_E} (h : (ai_w S G z)[k]? = some q) : ∃ e, z[k]? = some e ∧ q = (S + k, ai_e S G e) := by
  simp only [ai_w, List.getElem?_mapIdx] at h
  cases hz : z[k]? with
  | none => rw [hz] at h; cases h
  | some e => rw [hz] at h; exact ⟨e, rfl, (Option.some.inj h).symm⟩
theorem ai_w_len (S : Nat) (G : Nat → ClassId) (z : List va_E) : (ai_w S G z).length = z.length := by simp [ai_w]
theorem ai_w_set (S : Nat) (G : Nat → ClassId) (z : List va_E) (k : Nat) (e : va_E) : (ai_w S G z).set k (S + k, ai_e S G e) = ai_w S G (z.set k e) := by
  apply List.ext_getElem?
  intro j
  simp only [ai_w, List.getElem?_set, List.getElem?_mapIdx, List.length_mapIdx]
  by_cases h : k = j
  · subst h
    by_cases h2 : k < z.length <;> simp [h2]
  · simp [h]
theorem ai_w_push (S : Nat) (G : Nat → ClassId) (z : List va_E) (e : va_E) : ai_w S G z ++ [(S + z.length, ai_e S G e)] = ai_w S G (z ++ [e]) := by
  simp [ai_w]
theorem ai_w_D (S : Nat) (G : Nat → ClassId) (z : List va_E) : va_D (fun q => S ≤ q) (ai_w S G z) := by
  refine ⟨fun i j p q hp hq h => ?_, fun k q hq => ?_⟩
  · obtain ⟨_, -, rfl⟩ := ai_w_of hp
    obtain ⟨_, -, rfl⟩ := ai_w_of hq
    exact Nat.add_left_cancel h
  · obtain ⟨_, -, rfl⟩ := ai_w_of hq
    exact Nat.le_add_right _ _
/-- a new cell lies behind all others -/
theorem ai_w_new {S : Nat} {G : Nat → ClassId} {z : List va_E} {e : va_E} {q : Nat} {D : va_G} {cl : List vw_C} {H1 : Heap} (hP : va_P D cl (ai_w S G z ++ [(q, e)]) H1) (hD : va_D (fun q => S ≤ q) (ai_w S G z ++ [(q, e)])) (hz : H1.size ≤ S + z.length + 1) : q = S + z.length := by
  have hq : (ai_w S G z ++ [(q, e)])[z.length]? = some (q, e) := by
    rw [List.getElem?_append_right (by rw [ai_w_len]; exact Nat.le_refl _), ai_w_len, Nat.sub_self]; rfl
  have h1 : S ≤ q := hD.2 _ _ hq
  have h2 : q < H1.size := by
    have := hP _ _ hq
    exact va_at.lt this
  rcases Nat.lt_or_ge q (S + z.length) with h3 | h3
  · exfalso
    have h4 : q - S < z.length := by omega
    have h5 : (ai_w S G z ++ [(q, e)])[q - S]? = some (S + (q - S), ai_e S G z[q - S]) := by
      rw [List.getElem?_append_left (by rw [ai_w_len]; exact h4)]
      exact ai_w_get (List.getElem?_eq_getElem h4)
    have h6 := hD.1 _ _ _ _ hq h5 (by show q = S + (q - S); omega)
    omega
  · omega
/-! THE LOCALS as a list -/
def ai_L (S : Nat) (ls : Array Slot) (nL : Nat) (L : List (Option Value)) : Prop := L.length = nL ∧ ls.size = nL ∧ lv_wf ls ∧ ∀ (i : Nat) (v : Value), L[i]? = some (some v) → ls[i]? = some (Slot.val (ai_v S v))
theorem ai_L.at {S : Nat} {ls : Array Slot} {nL : Nat} {L : List (Option Value)} (h : ai_L S ls nL L) {i : Nat} {v : Value} (hi : L[i]? = some (some v)) : ls[i]? = some (Slot.val (ai_v S v)) := h.2.2.2 i v hi
def ai_as (L : List (Option Value)) : List (Nat × Value) := (List.range L.length).filterMap (fun i => (L[i]?.join).map (fun v => (i, v)))
theorem ai_as_mem {L : List (Option Value)} {q : Nat × Value} : q ∈ ai_as L ↔ L[q.1]? = some (some q.2) := by
  unfold ai_as
  rw [List.mem_filterMap]
  constructor
  · rintro ⟨i, -, h⟩
    cases hL : L[i]? with
    | none => rw [hL] at h; cases h
    | some o =>
      rw [hL] at h
      cases o with
      | none => cases h
      | some v => cases h; exact hL
  · intro h
    refine ⟨q.1, List.mem_range.mpr (List.getElem?_eq_some_iff.mp h).1, ?_⟩
    rw [h]; rfl
def ai_as' (S : Nat) (L : List (Option Value)) : List (Nat × Value) := (ai_as L).map (fun q => (q.1, ai_v S q.2))
theorem ai_L.has {S : Nat} {ls : Array Slot} {nL : Nat} {L : List (Option Value)} (h : ai_L S ls nL L) : lv_has ls nL (ai_as' S L) := by
  refine ⟨h.2.1, h.2.2.1, fun q hq => ?_⟩
  obtain ⟨q0, h0, rfl⟩ := List.mem_map.mp hq
  exact h.2.2.2 _ _ (ai_as_mem.mp h0)
/-- a store at i ends a value of two slots that began just ahead of it -/
def ai_kill (L : List (Option Value)) : Nat → List (Option Value)
  | 0 => L
  | j + 1 => match L[j]? with
    | some (some w) => if w.category = 2 then L.set j none else L
    | _ => L
theorem ai_kill_len (L : List (Option Value)) (i : Nat) : (ai_kill L i).length = L.length := by
  cases i with
  | zero => rfl
  | succ i =>
    simp only [ai_kill]
    split
    · split
      · exact List.length_set
      · rfl
    · rfl
theorem ai_kill_of {L : List (Option Value)} {i j : Nat} {v : Value} (h : (ai_kill L i)[j]? = some (some v)) : L[j]? = some (some v) ∧ ¬ (j + 1 = i ∧ v.category = 2) := by
  cases i with
  | zero => exact ⟨h, by omega⟩
  | succ i =>
    simp only [ai_kill] at h
    split at h
    · next w hw =>
      split at h
      · next hc =>
        by_cases hj : i = j
        · subst hj
          rw [List.getElem?_set] at h
          simp at h
        · rw [List.getElem?_set_ne hj] at h
          exact ⟨h, fun q => hj (by omega)⟩
      · next hc =>
        refine ⟨h, fun q => hc ?_⟩
        have : j = i := by omega
        subst this
        rw [h] at hw
        cases hw
        exact q.2
    · next hn =>
      refine ⟨h, fun q => ?_⟩
      have : j = i := by omega
      subst this
      exact hn v h
theorem ai_L.put1 {S : Nat} {ls' : Array Slot} {nL i : Nat} {L : List (Option Value)} {v : Value} (hlen : L.length = nL) (h : lv_has ls' nL ((i, ai_v S v) :: (ai_as' S L).filter (fun q => !(q.1 == i) && !(q.1 + 1 == i && q.2.category == 2)))) : ai_L S ls' nL ((ai_kill L i).set i (some v)) := by
  refine ⟨by rw [List.length_set, ai_kill_len]; exact hlen, h.1, h.2.1, fun j w hj => ?_⟩
  by_cases hij : i = j
  · subst hij
    rw [List.getElem?_set] at hj
    simp only [if_true] at hj
    split at hj
    · cases hj
      exact h.2.2 (i, ai_v S v) List.mem_cons_self
    · cases hj
  · rw [List.getElem?_set_ne hij] at hj
    obtain ⟨h1, h2⟩ := ai_kill_of hj
    refine h.2.2 (j, ai_v S w) (List.mem_cons_of_mem _ (List.mem_filter.mpr ⟨List.mem_map.mpr ⟨(j, w), ai_as_mem.mpr h1, rfl⟩, ?_⟩))
    have e1 : (j == i) = false := beq_eq_false_iff_ne.mpr (fun q => hij q.symm)
    simp only [e1, Bool.not_false, Bool.true_and]
    by_cases e2 : j + 1 = i
    · have : ((ai_v S w).category == 2) = false := beq_eq_false_iff_ne.mpr (fun q => h2 ⟨e2, by rw [ai_v_cat] at q; exact q⟩)
      simp [this]
    · simp [e2]
/-- what the cells' slots are in all -/
def ai_sl (e : va_E) : Nat := match e with
  | .inl a => a.2.1
  | .inr o => o.2.length
def ai_c (z : List va_E) : Nat := (z.map ai_sl).sum
theorem ai_c_push (z : List va_E) (e : va_E) : ai_c (z ++ [e]) = ai_c z + ai_sl e := by simp [ai_c]
theorem ai_c_set {z : List va_E} {k : Nat} {e e' : va_E} (h : z[k]? = some e) (hs : ai_sl e' = ai_sl e) : ai_c (z.set k e') = ai_c z := by
  unfold ai_c
  induction z generalizing k with
  | nil => cases h
  | cons x t ih =>
    cases k with
    | zero => cases h; simp [hs]
    | succ k => simp only [List.set_cons_succ, List.map_cons, List.sum_cons]; rw [ih (by simpa using h)]
theorem ai_e_sl (S : Nat) (G : Nat → ClassId) (e : va_E) : ai_sl (ai_e S G e) = ai_sl e := by
  obtain ⟨t, n, f | f | f | f | f⟩ | ⟨ci, fs⟩ := e <;> simp [ai_e, ai_sl]
