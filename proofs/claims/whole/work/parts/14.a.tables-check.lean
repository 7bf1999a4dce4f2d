/-! THE TABLES ARE RIGHT -/
def ai_ckF (c : Nat) (q : Nat × (Nat × Nat × FieldType × Bool) × Nat) : Bool := match ai_cl[q.2.1.1]? with
  | some (C, T, N) => decide (q.2.1.2.1 < N) && (ai_has q.2.2 (Cond.fieldLink (ai_own c) q.1 (T q.2.1.2.1).1 (T q.2.1.2.1).2.1 (T q.2.1.2.1).2.2.1) || (q.2.1.2.2.2 == false && decide (Cond.fieldLinkNest (ai_own c) q.1 (T q.2.1.2.1).1 (T q.2.1.2.1).2.1 (T q.2.1.2.1).2.2.1 "TickHouse" ∈ ai_nests))) && decide (parseFieldDescriptor (T q.2.1.2.1).2.2.1 = some q.2.1.2.2.1) && decide ((T q.2.1.2.1).2.2.2 = q.2.1.2.2.2) && decide ((T q.2.1.2.1).1 = C)
  | none => false
theorem ai_ckF_of {c : Nat} {q : Nat × (Nat × Nat × FieldType × Bool) × Nat} (h : ai_ckF c q = true) : ai_okF ai_big ai_nests ai_cl (ai_own c) q.1 q.2.1 := by
  unfold ai_ckF at h
  split at h
  · next C T N hc =>
    simp only [Bool.and_eq_true, Bool.or_eq_true, decide_eq_true_eq, beq_iff_eq] at h
    obtain ⟨⟨⟨⟨h1, h2⟩, h3⟩, h4⟩, h5⟩ := h
    refine ⟨C, T, N, hc, h1, ?_, h3, h4, h5⟩
    rcases h2 with h2 | h2
    · exact Or.inl (ai_has_of h2)
    · exact Or.inr ⟨h2.1, "TickHouse", h2.2⟩
  · cases h
def ai_ckN (c : Nat) (q : Nat × Nat × Nat) (ty : Nat → FieldType) (pi pn : Nat) : Bool := match ai_cl[q.2.1]? with
  | some (C, T, N) => (List.range N).all (fun k => decide (parseFieldDescriptor (T k).2.2.1 = some (ty k)) && decide (defaultValue (ty k) = vp_V (ai_df q.2.1) k)) && ai_has q.2.2 (Cond.classLink (ai_own c) q.1 C) && ai_has pi (Cond.instantiable C N) && ai_has pn (Cond.initialized C) && decide ((ai_df q.2.1).length = N)
  | none => false
theorem ai_ckN_of {c : Nat} {q : Nat × Nat × Nat} {ty : Nat → FieldType} {pi pn : Nat} (h : ai_ckN c q ty pi pn = true) : ai_okN ai_big ai_cl ai_df (ai_own c) q.1 q.2.1 := by
  unfold ai_ckN at h
  split at h
  · next C T N hc =>
    simp only [Bool.and_eq_true, decide_eq_true_eq] at h
    obtain ⟨⟨⟨⟨h1, h2⟩, h3⟩, h4⟩, h5⟩ := h
    have h1' : ∀ k, k < N → parseFieldDescriptor (T k).2.2.1 = some (ty k) ∧ defaultValue (ty k) = vp_V (ai_df q.2.1) k := by
      intro k hk
      have := List.all_eq_true.mp h1 k (List.mem_range.mpr hk)
      simpa using this
    exact ⟨C, T, N, ty, hc, fun k hk => (h1' k hk).1, ai_has_of h2, ai_has_of h3, ai_has_of h4, h5, fun k hk => (h1' k hk).2⟩
  · cases h
def ai_ckC (c : Nat) (q : Nat × (Nat × Nat × Nat × Nat) × Nat × Nat × (Bool × Nat)) : Bool := match q.2.1.1 with
  | 0 => match ai_mt[q.2.1.2.1]?, ai_cl[q.2.1.2.2.2]? with
    | some M, some (C, _, _) => decide (C = M.1.cls) && ai_has q.2.2.1 (Cond.methodLink (ai_own c) q.1 M.1) && ai_has q.2.2.2.1 (Cond.instanceMethod M.1) && (if q.2.2.2.2.1 then ai_hasS q.2.2.2.2.2 (Cond.selects M.1.cls M.1 M.1) else ai_has q.2.2.2.2.2 (Cond.selects M.1.cls M.1 M.1)) && decide ((parseMethodDescriptor M.1.desc).map (fun d => d.parameters.length) = some q.2.1.2.2.1)
    | _, _ => false
  | 1 => match ai_mt[q.2.1.2.1]? with
    | some M => ai_has q.2.2.1 (Cond.methodLink (ai_own c) q.1 M.1) && ai_has q.2.2.2.1 (Cond.instanceMethod M.1) && decide (M.1.name = "<init>") && decide (M.2.2.2.1 = none ∧ M.2.2.2.2.2.2.2 = []) && decide ((parseMethodDescriptor M.1.desc).map (fun d => d.parameters.length) = some q.2.1.2.2.1)
    | _ => false
  | 2 => match ai_mt[q.2.1.2.1]? with
    | some M => ai_has q.2.2.1 (Cond.methodLink (ai_own c) q.1 M.1) && ai_has q.2.2.2.1 (Cond.static M.1) && decide ((parseMethodDescriptor M.1.desc).map (fun d => d.parameters.length) = some q.2.1.2.2.1)
    | _ => false
  | 5 => ai_has q.2.2.1 (Cond.methodLink (ai_own c) q.1 arraycopyName) && ai_has q.2.2.2.1 (Cond.native arraycopyName) && ai_has q.2.2.2.2.2 (Cond.static arraycopyName) && ai_has 20 (Cond.initialized "java/lang/System")
  | 6 => ai_has q.2.2.1 (Cond.methodLink (ai_own c) q.1 Lib.Math.min.name) && ai_has q.2.2.2.1 (Cond.static Lib.Math.min.name) && ai_has 18 (Cond.initialized "java/lang/Math") && ai_has q.2.2.2.2.2 (Cond.code Lib.Math.min.name Lib.Math.min.code 2 (some .int))
  | 7 => ai_has q.2.2.1 (Cond.methodLink (ai_own c) q.1 Lib.Math.max.name) && ai_has q.2.2.2.1 (Cond.static Lib.Math.max.name) && ai_has 18 (Cond.initialized "java/lang/Math") && ai_has q.2.2.2.2.2 (Cond.code Lib.Math.max.name Lib.Math.max.code 2 (some .int))
  | 3 => ai_has q.2.2.1 (Cond.methodLink (ai_own c) q.1 Lib.objectInit) && ai_has q.2.2.2.1 (Cond.instanceMethod Lib.objectInit) && ai_has q.2.2.2.2.2 (Cond.code Lib.objectInit ⟨#[0xb1]⟩ 1 none)
  | 4 => match ai_mt[q.2.1.2.1]? with
    | some M => decide (ai_nests[q.2.2.1]? = some (Cond.methodLinkNest (ai_own c) q.1 M.1 "TickHouse")) && ai_has q.2.2.2.1 (Cond.instanceMethod M.1) && decide (M.1.name = "<init>") && decide (M.2.2.2.1 = none ∧ M.2.2.2.2.2.2.2 = []) && decide ((parseMethodDescriptor M.1.desc).map (fun d => d.parameters.length) = some q.2.1.2.2.1)
    | _ => false
  | _ => false
theorem ai_ckC_of {c : Nat} {q : Nat × (Nat × Nat × Nat × Nat) × Nat × Nat × (Bool × Nat)} (h : ai_ckC c q = true) : ai_okC ai_big ai_nests ai_cl (fun k => ai_mt[k]?) (ai_own c) q.1 q.2.1 := by
  obtain ⟨idx, ⟨kind, ky, n, ci⟩, p1, p2, pr, p3⟩ := q
  unfold ai_ckC at h
  simp only at h
  split at h
  · split at h
    · next M C T N hM hc =>
      simp only [Bool.and_eq_true, decide_eq_true_eq] at h
      obtain ⟨⟨⟨⟨h1, h2⟩, h3⟩, h4⟩, h5⟩ := h
      subst h1
      refine ⟨M, T, N, hM, hc, ai_has_of h2, ai_has_of h3, ?_, h5⟩
      split at h4
      · exact ai_hasS_of h4
      · exact ai_has_of h4
    · cases h
  · split at h
    · next M hM =>
      simp only [Bool.and_eq_true, decide_eq_true_eq] at h
      obtain ⟨⟨⟨⟨h1, h2⟩, h3⟩, h4⟩, h5⟩ := h
      exact ⟨M, hM, ai_has_of h1, ai_has_of h2, h3, h4, h5⟩
    · cases h
  · split at h
    · next M hM =>
      simp only [Bool.and_eq_true, decide_eq_true_eq] at h
      obtain ⟨⟨h1, h2⟩, h3⟩ := h
      exact ⟨M, hM, ai_has_of h1, ai_has_of h2, h3⟩
    · cases h
  · simp only [Bool.and_eq_true] at h
    exact ⟨ai_has_of h.1.1.1, ai_has_of h.1.1.2, ai_has_of h.1.2, ai_has_of h.2⟩
  · simp only [Bool.and_eq_true] at h
    exact ⟨ai_has_of h.1.1.1, ai_has_of h.1.1.2, ai_has_of h.1.2, ai_has_of h.2⟩
  · simp only [Bool.and_eq_true] at h
    exact ⟨ai_has_of h.1.1.1, ai_has_of h.1.1.2, ai_has_of h.1.2, ai_has_of h.2⟩
  · simp only [Bool.and_eq_true] at h
    exact ⟨ai_has_of h.1.1, ai_has_of h.1.2, ai_has_of h.2⟩
  · split at h
    · next M hM =>
      simp only [Bool.and_eq_true, decide_eq_true_eq] at h
      obtain ⟨⟨⟨⟨h1, h2⟩, h3⟩, h4⟩, h5⟩ := h
      exact ⟨M, "TickHouse", hM, List.mem_of_getElem? h1, ai_has_of h2, h3, h4, h5⟩
    · cases h
  · cases h
def ai_ckM (M : ai_M) (pn : Nat) (ps : List Nat) : Bool := plainName M.1.cls && decide (ai_own M.2.2.2.2.1 = M.1.cls) && ai_has pn (Cond.initialized M.1.cls) && decide (M.2.2.1 ≤ 60) && (M.2.2.2.2.2.1 == false || decide (M.1.name = "<init>")) && decide (M.1.cls ≠ "java/lang/invoke/MethodHandle" ∧ M.1.cls ≠ "java/lang/invoke/VarHandle") && M.2.2.2.2.2.2.2.all (fun h => decide (h.2.2.2.1 ≠ 0) && match ai_cl[h.2.2.2.2]? with
  | some (C, _, _) => ps.any (fun i => ai_has i (Cond.classLink M.1.cls h.2.2.2.1 C))
  | none => false)
theorem ai_ckM_of {M : ai_M} {pc pn : Nat} {ps : List Nat} (h : ai_ckM M pn ps = true) (hc : tables_1[pc]? = some (ai_cw M)) (hg : goodWord (ai_cw M) = true) (hi : ai_ckI M.2.1 M.2.2.2.2.2.2.1 = true) : ai_okM ai_big ai_cl ai_own M := by
  simp only [ai_ckM, Bool.and_eq_true, Bool.or_eq_true, decide_eq_true_eq, beq_iff_eq] at h
  obtain ⟨⟨⟨⟨⟨⟨h1, h2⟩, h4⟩, h5⟩, h6⟩, h7⟩, h8⟩ := h
  refine ⟨h1, h2, ai_big_of hc hg, ai_has_of h4, h5, fun hf => ?_, h7, ai_ckI_of hi, fun q hq => ?_⟩
  · rcases h6 with h6 | h6
    · rw [hf] at h6; cases h6
    · exact h6
  · have h9 := List.all_eq_true.mp h8 q hq
    rw [Bool.and_eq_true] at h9
    refine ⟨of_decide_eq_true h9.1, ?_⟩
    have h10 := h9.2
    split at h10
    · next C T N hc =>
      obtain ⟨i, hi, h11⟩ := List.any_eq_true.mp h10
      exact ⟨C, T, N, hc, ai_has_of h11⟩
    · cases h10
