/-! THE ABSTRACT MACHINE: a method is run as a function of its arguments and of the world; sound over the machine itself (ai_exec_met) -/
/-- a handler: from, to, where it begins, its class by index and by number -/
abbrev ai_Hd : Type := Nat × Nat × Nat × Nat × Nat
/-- a method: its name, bytes, locals, what it returns, the number of its class's links, whether it is a constructor, its instructions, its handlers -/
abbrev ai_M : Type := MethodName × ByteArray × Nat × Option FieldType × Nat × Bool × List (Nat × Instr × Nat) × List ai_Hd
/-- what a method ends with, and the world; .retAddr a: it throws the cell a -/
abbrev ai_R : Type := Option Value × List va_E
def ai_nt (r : Option Value) : Prop := ∀ a, r ≠ some (.retAddr a)
abbrev ai_Call : Type := Nat → List Value → List va_E → Option ai_R
/-- fields, classes made, methods called by a class's links: (kind, which, parameters, the receiver's class); kinds: 0 virtual, 1 a constructor, 2 static, 3 Object's constructor, 4 a constructor that is a nest mate's own, 5 System.arraycopy, 6 Math.min, 7 Math.max -/
abbrev ai_P : Type := (Nat → Option ai_M) × (Nat → Nat → Option (Nat × Nat × FieldType × Bool)) × (Nat → Nat → Option Nat) × (Nat → Nat → Option (Nat × Nat × Nat × Nat)) × (Nat → List Value) × (Nat → Nat → Option Value)
def ai_ret (rt : Option FieldType) (i : Instr) (st : List Value) : Option (Option Value) := match i with
  | .ireturn => match rt, st with
    | some ty, [.int v] => if narrow ty (.int v) = .int v then some (some (.int v)) else none
    | _, _ => none
  | .return_ => match rt, st with
    | none, [] => some none
    | _, _ => none
  | _ => none
def ai_push (r : Option ai_R) (pc : Nat) (rest : List Value) : Option ai_H := match r with
  | some (some (.retAddr _), _) => none
  | some (v, z) => some (pc + 3, v.toList ++ rest, z)
  | none => none
/-- the callee has thrown: into the first handler that covers the place, or out -/
def ai_hnd (hs : List ai_Hd) (pc : Nat) (L : List (Option Value)) (a : Nat) (z : List va_E) : Option ((Nat × List (Option Value) × List Value × List va_E) ⊕ ai_R) := match hs with
  | [] => some (.inr (some (.retAddr a), z))
  | _ => match hs.find? (fun h => decide (h.1 ≤ pc) && decide (pc < h.2.1)) with
    | some h => match z[a]? with
      | some (.inr (ci, _)) => if ci = h.2.2.2.2 then some (.inl (h.2.2.1, L, [.ref a], z)) else none
      | _ => none
    | none => none
def ai_thr (ml : Nat → Option (Nat × Nat × Nat × Nat)) (call : ai_Call) (hs : List ai_Hd) (i : Instr) (pc : Nat) (L : List (Option Value)) (st : List Value) (z : List va_E) : Option ((Nat × List (Option Value) × List Value × List va_E) ⊕ ai_R) := match i with
  | .invokevirtual idx => match ml idx with
    | some (0, key, n, ci) => match st.drop n with
      | .ref b :: rest => match z[b]? with
        | some (.inr (cj, _)) => if ci = cj ∧ (rest.map fun v => v.category).sum ≤ 8 then match call key (.ref b :: (st.take n).reverse) z with
            | some (some (.retAddr a), z1) => ai_hnd hs pc L a z1
            | _ => none
          else none
        | _ => none
      | _ => none
    | _ => none
  | _ => none
/-- new E("text") that is thrown at once, out of the method -/
def ai_ckS (tb : List (Nat × Instr × Nat)) (pc : Nat) (q : ai_Site) : Bool := decide (tb.find? (fun x => x.1 == pc + 3) = some (pc + 3, .dup, 1)) && decide (tb.find? (fun x => x.1 == pc + 4) = some (pc + 4, .ldc q.2.2.1, 2)) && decide (tb.find? (fun x => x.1 == pc + 6) = some (pc + 6, .invokespecial q.2.2.2.1, 3)) && decide (tb.find? (fun x => x.1 == pc + 9) = some (pc + 9, .athrow, 1))
def ai_throw (M : ai_M) (i : Instr) (pc : Nat) (st : List Value) (z : List va_E) : Option ai_R := match i with
  | .new idx => match ai_sites.find? (fun q => q.1 == M.1.cls && q.2.1 == idx && ai_ckS M.2.2.2.2.2.2.1 pc q) with
    | some q => if M.2.2.2.2.2.2.2.isEmpty = true ∧ (st.map fun v => v.category).sum ≤ 8 then some (some (.retAddr z.length), z ++ [.inr (q.2.2.2.2.1, List.replicate 6 .null)]) else none
    | none => none
  | _ => none
/-- Math.min, Math.max -/
def ai_mm (f : Int32 → Int32 → Int32) (st : List Value) (z : List va_E) (pc : Nat) : Option ai_H := match st with
  | .int y :: .int x :: rest => if (rest.map fun v => v.category).sum ≤ 8 then some (pc + 3, .int (f x y) :: rest, z) else none
  | _ => none
def ai_inv (ml : Nat → Option (Nat × Nat × Nat × Nat)) (call : ai_Call) (i : Instr) (pc : Nat) (st : List Value) (z : List va_E) : Option ai_H := match i with
  | .invokevirtual idx => match ml idx with
    | some (0, key, n, ci) => match st.drop n with
      | .ref b :: rest => match z[b]? with
        | some (.inr (cj, _)) => if ci = cj ∧ (rest.map fun v => v.category).sum ≤ 8 then ai_push (call key (.ref b :: (st.take n).reverse) z) pc rest else none
        | _ => none
      | _ => none
    | _ => none
  | .invokespecial idx => match ml idx with
    | some (1, key, n, _) => match st.drop n with
      | .ref b :: rest => if (rest.map fun v => v.category).sum ≤ 8 then ai_push (call key (.ref b :: (st.take n).reverse) z) pc rest else none
      | _ => none
    | some (4, key, n, _) => match st.drop n with
      | .ref b :: rest => if (rest.map fun v => v.category).sum ≤ 8 then ai_push (call key (.ref b :: (st.take n).reverse) z) pc rest else none
      | _ => none
    | some (3, _, _, _) => match st with
      | .ref _ :: rest => if (rest.map fun v => v.category).sum ≤ 8 then some (pc + 3, rest, z) else none
      | _ => none
    | _ => none
  | .invokestatic idx => match ml idx with
    | some (2, key, n, _) => if n ≤ st.length ∧ ((st.drop n).map fun v => v.category).sum ≤ 8 then ai_push (call key ((st.take n).reverse) z) pc (st.drop n) else none
    | some (5, _, _, _) => ai_cpy st z pc
    | some (6, _, _, _) => ai_mm (fun x y => if y < x then y else x) st z pc
    | some (7, _, _, _) => ai_mm (fun x y => if x < y then y else x) st z pc
    | _ => none
  | _ => none
def ai_hp (sc : ai_SC) (fl : Nat → Option (Nat × Nat × FieldType × Bool)) (nw : Nat → Option Nat) (df : Nat → List Value) (cs : Nat → Option Value) (ini : Nat → Bool) (i : Instr) (pc : Nat) (st : List Value) (z : List va_E) : Option ai_H := match i with
  | .getfield idx => ai_gf fl idx pc st z
  | .putfield idx => ai_pf fl ini idx pc st z
  | .iaload => ai_iald sc pc st z
  | .baload => ai_ald 1 pc st z
  | .caload => ai_ald 2 pc st z
  | .iastore => ai_ast 0 (fun x => x) pc st z
  | .bastore => ai_ast 1 (vp_nar .boolean) pc st z
  | .castore => ai_ast 2 (vp_nar .char) pc st z
  | .new idx => ai_new nw df idx pc st z
  | .newarray .int => ai_nwa 0 pc st z
  | .newarray .boolean => ai_nwa 1 pc st z
  | .newarray .char => ai_nwa 2 pc st z
  | .newarray .long => ai_nwl pc st z
  | .laload => ai_lald pc st z
  | .lastore => ai_last pc st z
  | .arraylength => ai_alen sc pc st z
  | .aaload => ai_aald 4 pc st z
  | .aastore => ai_aast 4 2 pc st z
  | .anewarray idx => ai_nwq 4 2 nw idx pc st z
  | .ldc idx => ai_ldk cs idx 2 pc st z
  | .ldc_w idx => ai_ldk cs idx 3 pc st z
  | .ldc2_w idx => ai_ldk cs idx 4 pc st z
  | _ => none
/-- which family an instruction is of: 0 simple, 1 the world, 2 a call, 3 a return -/
def ai_fam (i : Instr) : Nat := match i with
  | .getfield _ => 1 | .putfield _ => 1 | .iaload => 1 | .baload => 1 | .caload => 1 | .iastore => 1 | .bastore => 1 | .castore => 1 | .new _ => 1 | .newarray _ => 1 | .arraylength => 1 | .laload => 1 | .lastore => 1 | .aaload => 1 | .aastore => 1 | .anewarray _ => 1 | .ldc _ => 1 | .ldc_w _ => 1 | .ldc2_w _ => 1
  | .invokevirtual _ => 2 | .invokespecial _ => 2 | .invokestatic _ => 2
  | .ireturn => 3 | .return_ => 3
  | _ => 0
/-- a constructor writes the final fields of its own objects -/
def ai_ini (M : ai_M) (ci : Nat) : Bool := M.2.2.2.2.2.1 && ci == M.2.2.2.2.1
abbrev ai_Z : Type := Nat × List (Option Value) × List Value × List va_E
def ai_step (sc : ai_SC) (P : ai_P) (call : ai_Call) (M : ai_M) (u : ai_Z) : Option (ai_Z ⊕ ai_R) := match M.2.2.2.2.2.2.1.find? (fun q => q.1 == u.1) with
  | none => none
  | some (_, i, _) => match ai_fam i with
    | 0 => match ai_simple i u.1 u.2.1 u.2.2.1 with
      | some (pc, L, st) => some (.inl (pc, L, st, u.2.2.2))
      | none => none
    | 1 => match ai_hp sc (P.2.1 M.2.2.2.2.1) (P.2.2.1 M.2.2.2.2.1) P.2.2.2.2.1 (P.2.2.2.2.2 M.2.2.2.2.1) (ai_ini M) i u.1 u.2.2.1 u.2.2.2 with
      | some h => some (.inl (h.1, u.2.1, h.2.1, h.2.2))
      | none => match ai_throw M i u.1 u.2.2.1 u.2.2.2 with
        | some r => some (.inr r)
        | none => none
    | 2 => match ai_inv (P.2.2.2.1 M.2.2.2.2.1) call i u.1 u.2.2.1 u.2.2.2 with
      | some h => some (.inl (h.1, u.2.1, h.2.1, h.2.2))
      | none => ai_thr (P.2.2.2.1 M.2.2.2.2.1) call M.2.2.2.2.2.2.2 i u.1 u.2.1 u.2.2.1 u.2.2.2
    | _ => match ai_ret M.2.2.2.1 i u.2.2.1 with
      | some v => some (.inr (v, u.2.2.2))
      | none => none
def ai_run (sc : ai_SC) (P : ai_P) (call : ai_Call) (M : ai_M) : Nat → ai_Z → Option ai_R
  | 0, _ => none
  | k + 1, u => match ai_step sc P call M u with
    | some (.inl u') => ai_run sc P call M k u'
    | some (.inr r) => some r
    | none => none
/-- the locals at a method's entry -/
def ai_lv (vs : List Value) (n : Nat) : List (Option Value) := (vs.flatMap fun v => if v.category = 2 then [some v, none] else [some v]) ++ List.replicate (n - (lg_sl vs).length) none
def ai_exec (P : ai_P) (k : Nat) : Nat → ai_Call
  | 0, _, _, _ => none
  | d + 1, key, vs, z => match P.1 key with
    | none => none
    | some M => if (lg_sl vs).length ≤ M.2.2.1 then ai_run none P (ai_exec P k d) M k (0, ai_lv vs M.2.2.1, [], z) else none
/-! it only grows -/
def ai_gr (z z' : List va_E) : Prop := z.length ≤ z'.length ∧ ai_c z ≤ ai_c z'
theorem ai_gr.rf (z : List va_E) : ai_gr z z := ⟨Nat.le_refl _, Nat.le_refl _⟩
theorem ai_gr.tr {a b c : List va_E} (h : ai_gr a b) (k : ai_gr b c) : ai_gr a c := ⟨Nat.le_trans h.1 k.1, Nat.le_trans h.2 k.2⟩
theorem ai_gr.set {z : List va_E} {k : Nat} {e e' : va_E} (h : z[k]? = some e) (hs : ai_sl e' = ai_sl e) : ai_gr z (z.set k e') := ⟨by rw [List.length_set]; exact Nat.le_refl _, by rw [ai_c_set h hs]; exact Nat.le_refl _⟩
theorem ai_gr.push (z : List va_E) (e : va_E) : ai_gr z (z ++ [e]) := ⟨by simp, by rw [ai_c_push]; exact Nat.le_add_right _ _⟩
def ai_grC (call : ai_Call) : Prop := ∀ key vs z r z', call key vs z = some (r, z') → ai_gr z z'
theorem ai_gf_gr {fl : Nat → Option (Nat × Nat × FieldType × Bool)} {idx pc : Nat} {st : List Value} {z : List va_E} {u : ai_H} (h : ai_gf fl idx pc st z = some u) : ai_gr z u.2.2 := by
  unfold ai_gf at h
  repeat' (split at h)
  all_goals first | (cases h; done) | (cases h; exact ai_gr.rf _)
theorem ai_pf_gr {fl : Nat → Option (Nat × Nat × FieldType × Bool)} {ini : Nat → Bool} {idx pc : Nat} {st : List Value} {z : List va_E} {u : ai_H} (h : ai_pf fl ini idx pc st z = some u) : ai_gr z u.2.2 := by
  unfold ai_pf at h
  split at h
  · split at h
    · next hf ha =>
      split at h
      · cases h
        exact ai_gr.set ha (by simp [ai_sl])
      · cases h
    · cases h
  · cases h
theorem ai_ald_gr {g : Nat} {pc : Nat} {st : List Value} {z : List va_E} {u : ai_H} (h : ai_ald g pc st z = some u) : ai_gr z u.2.2 := by
  unfold ai_ald at h
  repeat' (split at h)
  all_goals first | (cases h; done) | (cases h; exact ai_gr.rf _)
theorem ai_ast_gr {g : Nat} {nar : Int32 → Int32} {pc : Nat} {st : List Value} {z : List va_E} {u : ai_H} (h : ai_ast g nar pc st z = some u) : ai_gr z u.2.2 := by
  unfold ai_ast at h
  split at h
  · split at h
    · next ha =>
      split at h
      · cases h
        exact ai_gr.set ha rfl
      · cases h
    · cases h
  · cases h
theorem ai_new_gr {nw : Nat → Option Nat} {df : Nat → List Value} {idx pc : Nat} {st : List Value} {z : List va_E} {u : ai_H} (h : ai_new nw df idx pc st z = some u) : ai_gr z u.2.2 := by
  unfold ai_new at h
  split at h
  · cases h; exact ai_gr.push _ _
  · cases h
theorem ai_nwa_gr {g : Nat} {pc : Nat} {st : List Value} {z : List va_E} {u : ai_H} (h : ai_nwa g pc st z = some u) : ai_gr z u.2.2 := by
  unfold ai_nwa at h
  split at h
  · split at h
    · cases h
    · cases h; exact ai_gr.push _ _
  · cases h
theorem ai_len_gr {pc : Nat} {st : List Value} {z : List va_E} {u : ai_H} (h : ai_len pc st z = some u) : ai_gr z u.2.2 := by
  unfold ai_len at h
  repeat' (split at h)
  all_goals first | (cases h; done) | (cases h; exact ai_gr.rf _)
theorem ai_aald_gr {g pc : Nat} {st : List Value} {z : List va_E} {u : ai_H} (h : ai_aald g pc st z = some u) : ai_gr z u.2.2 := by
  unfold ai_aald at h
  repeat' (split at h)
  all_goals first | (cases h; done) | (cases h; exact ai_gr.rf _)
theorem ai_aast_gr {g cg pc : Nat} {st : List Value} {z : List va_E} {u : ai_H} (h : ai_aast g cg pc st z = some u) : ai_gr z u.2.2 := by
  unfold ai_aast at h
  split at h
  · split at h
    · next hv ha =>
      split at h
      · cases h
        exact ai_gr.set ha rfl
      · cases h
    · cases h
  · cases h
theorem ai_nwq_gr {g cg : Nat} {nw : Nat → Option Nat} {idx pc : Nat} {st : List Value} {z : List va_E} {u : ai_H} (h : ai_nwq g cg nw idx pc st z = some u) : ai_gr z u.2.2 := by
  unfold ai_nwq at h
  split at h
  · split at h
    · cases h; exact ai_gr.push _ _
    · cases h
  · cases h
theorem ai_ldk_gr {cs : Nat → Option Value} {idx len pc : Nat} {st : List Value} {z : List va_E} {u : ai_H} (h : ai_ldk cs idx len pc st z = some u) : ai_gr z u.2.2 := by
  unfold ai_ldk at h
  repeat' (split at h)
  all_goals first | (cases h; done) | (cases h; exact ai_gr.rf _)
theorem ai_lald_gr {pc : Nat} {st : List Value} {z : List va_E} {u : ai_H} (h : ai_lald pc st z = some u) : ai_gr z u.2.2 := by
  unfold ai_lald at h
  repeat' (split at h)
  all_goals first | (cases h; done) | (cases h; exact ai_gr.rf _)
theorem ai_last_gr {pc : Nat} {st : List Value} {z : List va_E} {u : ai_H} (h : ai_last pc st z = some u) : ai_gr z u.2.2 := by
  unfold ai_last at h
  split at h
  · split at h
    · next ha =>
      split at h
      · cases h
        exact ai_gr.set ha rfl
      · cases h
    · cases h
  · cases h
theorem ai_nwl_gr {pc : Nat} {st : List Value} {z : List va_E} {u : ai_H} (h : ai_nwl pc st z = some u) : ai_gr z u.2.2 := by
  unfold ai_nwl at h
  split at h
  · split at h
    · cases h
    · cases h; exact ai_gr.push _ _
  · cases h
theorem ai_iald_gr {sc : ai_SC} {pc : Nat} {st : List Value} {z : List va_E} {u : ai_H} (h : ai_iald sc pc st z = some u) : ai_gr z u.2.2 := by
  unfold ai_iald at h
  repeat' (split at h)
  all_goals first | (cases h; done) | (cases h; exact ai_gr.rf _) | exact ai_ald_gr h
theorem ai_alen_gr {sc : ai_SC} {pc : Nat} {st : List Value} {z : List va_E} {u : ai_H} (h : ai_alen sc pc st z = some u) : ai_gr z u.2.2 := by
  unfold ai_alen at h
  repeat' (split at h)
  all_goals first | (cases h; done) | (cases h; exact ai_gr.rf _) | exact ai_len_gr h
theorem ai_hp_gr {sc : ai_SC} {fl : Nat → Option (Nat × Nat × FieldType × Bool)} {nw : Nat → Option Nat} {df : Nat → List Value} {cs : Nat → Option Value} {ini : Nat → Bool} {i : Instr} {pc : Nat} {st : List Value} {z : List va_E} {u : ai_H} (h : ai_hp sc fl nw df cs ini i pc st z = some u) : ai_gr z u.2.2 := by
  unfold ai_hp at h
  split at h
  · exact ai_gf_gr h
  · exact ai_pf_gr h
  · exact ai_iald_gr h
  · exact ai_ald_gr h
  · exact ai_ald_gr h
  · exact ai_ast_gr h
  · exact ai_ast_gr h
  · exact ai_ast_gr h
  · exact ai_new_gr h
  · exact ai_nwa_gr h
  · exact ai_nwa_gr h
  · exact ai_nwa_gr h
  · exact ai_nwl_gr h
  · exact ai_lald_gr h
  · exact ai_last_gr h
  · exact ai_alen_gr h
  · exact ai_aald_gr h
  · exact ai_aast_gr h
  · exact ai_nwq_gr h
  · exact ai_ldk_gr h
  · exact ai_ldk_gr h
  · exact ai_ldk_gr h
  · cases h
theorem ai_push_of {r : Option ai_R} {pc : Nat} {rest : List Value} {u : ai_H} (h : ai_push r pc rest = some u) : ∃ v z, r = some (v, z) ∧ ai_nt v ∧ u = (pc + 3, v.toList ++ rest, z) := by
  unfold ai_push at h
  split at h
  · cases h
  · next v z hn => cases h; exact ⟨_, _, rfl, fun a q => hn a q, rfl⟩
  · cases h
theorem ai_cpy_gr {pc : Nat} {st : List Value} {z : List va_E} {u : ai_H} (h : ai_cpy st z pc = some u) : ai_gr z u.2.2 := by
  unfold ai_cpy at h
  split at h
  · split at h
    · next ha0 ha1 =>
      split at h
      · cases h
        exact ai_gr.set ha1 rfl
      · cases h
    · cases h
  · cases h
theorem ai_mm_of {f : Int32 → Int32 → Int32} {pc : Nat} {st : List Value} {z : List va_E} {u : ai_H} (h : ai_mm f st z pc = some u) : ∃ x y rest, st = .int y :: .int x :: rest ∧ (rest.map fun v => v.category).sum ≤ 8 ∧ u = (pc + 3, .int (f x y) :: rest, z) := by
  unfold ai_mm at h
  split at h
  · split at h
    · next hr => cases h; exact ⟨_, _, _, rfl, hr, rfl⟩
    · cases h
  · cases h
theorem ai_mm_gr {f : Int32 → Int32 → Int32} {pc : Nat} {st : List Value} {z : List va_E} {u : ai_H} (h : ai_mm f st z pc = some u) : ai_gr z u.2.2 := by
  obtain ⟨x, y, rest, -, -, rfl⟩ := ai_mm_of h
  exact ai_gr.rf _
theorem ai_inv_gr {ml : Nat → Option (Nat × Nat × Nat × Nat)} {call : ai_Call} (hc : ai_grC call) {i : Instr} {pc : Nat} {st : List Value} {z : List va_E} {u : ai_H} (h : ai_inv ml call i pc st z = some u) : ai_gr z u.2.2 := by
  unfold ai_inv at h
  repeat' (split at h)
  all_goals first
    | (cases h; done)
    | (obtain ⟨v, z1, h1, -, rfl⟩ := ai_push_of h; exact hc _ _ _ _ _ h1)
    | (cases h; exact ai_gr.rf _)
    | exact ai_cpy_gr h
    | exact ai_mm_gr h
theorem ai_hnd_z {hs : List ai_Hd} {pc : Nat} {L : List (Option Value)} {a : Nat} {z : List va_E} {w : ai_Z ⊕ ai_R} (h : ai_hnd hs pc L a z = some w) : (∀ u', w = .inl u' → u'.2.2.2 = z) ∧ ∀ r, w = .inr r → r.2 = z := by
  unfold ai_hnd at h
  repeat' (split at h)
  all_goals first
    | (cases h; done)
    | (cases h; exact ⟨fun u' e => (by cases e; rfl), fun r e => (by cases e; try rfl)⟩)
    | (cases h; exact ⟨fun u' e => (by cases e), fun r e => (by cases e; rfl)⟩)
theorem ai_thr_of {ml : Nat → Option (Nat × Nat × Nat × Nat)} {call : ai_Call} {hs : List ai_Hd} {i : Instr} {pc : Nat} {L : List (Option Value)} {st : List Value} {z : List va_E} {w : ai_Z ⊕ ai_R} (h : ai_thr ml call hs i pc L st z = some w) :
    ∃ idx key n ci b rest fs a z1, i = .invokevirtual idx ∧ ml idx = some (0, key, n, ci) ∧ st.drop n = .ref b :: rest ∧ z[b]? = some (.inr (ci, fs)) ∧ (rest.map fun v => v.category).sum ≤ 8 ∧ call key (.ref b :: (st.take n).reverse) z = some (some (.retAddr a), z1) ∧ ai_hnd hs pc L a z1 = some w := by
  unfold ai_thr at h
  split at h
  · next idx =>
    split at h
    · next key n ci hm =>
      split at h
      · next b rest hdr =>
        split at h
        · next cj fs ha =>
          split at h
          · next hc =>
            obtain ⟨rfl, hroom⟩ := hc
            split at h
            · next a z1 hcall => exact ⟨idx, key, n, ci, b, rest, fs, a, z1, rfl, hm, hdr, ha, hroom, hcall, h⟩
            · cases h
          · cases h
        · cases h
      · cases h
    · cases h
  · cases h
theorem ai_throw_of {M : ai_M} {i : Instr} {pc : Nat} {st : List Value} {z : List va_E} {r : ai_R} (h : ai_throw M i pc st z = some r) : ∃ idx q, i = .new idx ∧ q ∈ ai_sites ∧ q.1 = M.1.cls ∧ q.2.1 = idx ∧ M.2.2.2.2.2.2.2 = [] ∧ ai_ckS M.2.2.2.2.2.2.1 pc q = true ∧ (st.map fun v => v.category).sum ≤ 8 ∧ r = (some (.retAddr z.length), z ++ [.inr (q.2.2.2.2.1, List.replicate 6 .null)]) := by
  unfold ai_throw at h
  split at h
  · next idx =>
    split at h
    · next q hq =>
      split at h
      · next hc =>
        have h1 := List.find?_some hq
        simp only [Bool.and_eq_true, beq_iff_eq] at h1
        exact ⟨idx, q, rfl, List.mem_of_find?_eq_some hq, h1.1.1, h1.1.2, List.isEmpty_iff.mp hc.1, h1.2, hc.2, (Option.some.inj h).symm⟩
      · cases h
    · cases h
  · cases h
theorem ai_step_gr {sc : ai_SC} {P : ai_P} {call : ai_Call} {M : ai_M} (hc : ai_grC call) {u : ai_Z} {w : ai_Z ⊕ ai_R} (h : ai_step sc P call M u = some w) : (∀ u', w = .inl u' → ai_gr u.2.2.2 u'.2.2.2) ∧ ∀ r, w = .inr r → ai_gr u.2.2.2 r.2 := by
  unfold ai_step at h
  split at h
  · cases h
  · split at h
    · split at h
      · cases h; exact ⟨fun u' e => (by cases e; exact ai_gr.rf _), fun r e => (by cases e)⟩
      · cases h
    · split at h
      · next h1 => cases h; exact ⟨fun u' e => by cases e; exact ai_hp_gr h1, fun r e => by cases e⟩
      · split at h
        · next h1 =>
          cases h
          obtain ⟨idx, q, -, -, -, -, -, -, -, rfl⟩ := ai_throw_of h1
          exact ⟨fun u' e => (by cases e), fun r e => by cases e; exact ai_gr.push _ _⟩
        · cases h
    · split at h
      · next h1 => cases h; exact ⟨fun u' e => by cases e; exact ai_inv_gr hc h1, fun r e => by cases e⟩
      · obtain ⟨idx, key, n, ci, b, rest, fs, a, z1, -, -, -, -, -, h1, h2⟩ := ai_thr_of h
        have h3 := hc _ _ _ _ _ h1
        have h4 := ai_hnd_z h2
        exact ⟨fun u' e => by rw [h4.1 _ e]; exact h3, fun r e => by rw [h4.2 _ e]; exact h3⟩
    · split at h
      · cases h; exact ⟨fun u' e => (by cases e), fun r e => (by cases e; exact ai_gr.rf _)⟩
      · cases h
theorem ai_run_gr {sc : ai_SC} {P : ai_P} {call : ai_Call} {M : ai_M} (hc : ai_grC call) : ∀ (k : Nat) (u : ai_Z) (r : ai_R), ai_run sc P call M k u = some r → ai_gr u.2.2.2 r.2 := by
  intro k
  induction k with
  | zero => intro u r h; cases h
  | succ k ih =>
    intro u r h
    unfold ai_run at h
    split at h
    · next u' hu => exact ((ai_step_gr hc hu).1 u' rfl).tr (ih u' r h)
    · next r' hu => cases h; exact (ai_step_gr hc hu).2 _ rfl
    · cases h
theorem ai_exec_gr {P : ai_P} {k : Nat} : ∀ d : Nat, ai_grC (ai_exec P k d) := by
  intro d
  induction d with
  | zero => intro key vs z r z' h; cases h
  | succ d ih =>
    intro key vs z r z' h
    unfold ai_exec at h
    split at h
    · cases h
    · split at h
      · exact ai_run_gr ih _ _ _ h
      · cases h
