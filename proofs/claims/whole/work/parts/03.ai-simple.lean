/-! INSTRUCTIONS THAT LEAVE THE HEAP ALONE, as one function -/
def ai_go (pc : Nat) (off : Int) (L : List (Option Value)) (st : List Value) : Option (Nat × List (Option Value) × List Value) := if 0 ≤ (pc : Int) + off then some (((pc : Int) + off).toNat, L, st) else none
def ai_ifc (b : Bool) (pc : Nat) (off : Int) (L : List (Option Value)) (st : List Value) : Option (Nat × List (Option Value) × List Value) := if 0 ≤ (pc : Int) + off then some (if b then ((pc : Int) + off).toNat else pc + 3, L, st) else none
def ai_c0 (k : Jvm.ClassFile.Cond) (x : Int32) : Bool := match k with
  | .eq => decide (x = 0) | .ne => decide (¬ x = 0) | .lt => decide (x < 0) | .ge => decide (0 ≤ x) | .gt => decide (0 < x) | .le => decide (x ≤ 0)
def ai_c2 (k : Jvm.ClassFile.Cond) (x y : Int32) : Bool := match k with
  | .eq => decide (x = y) | .ne => decide (¬ x = y) | .lt => decide (x < y) | .ge => decide (y ≤ x) | .gt => decide (y < x) | .le => decide (x ≤ y)
def ai_ldi (L : List (Option Value)) (i n pc : Nat) (st : List Value) : Option (Nat × List (Option Value) × List Value) := match L[i]? with
  | some (some (.int x)) => some (pc + n, L, .int x :: st)
  | _ => none
def ai_lda (L : List (Option Value)) (i n pc : Nat) (st : List Value) : Option (Nat × List (Option Value) × List Value) := match L[i]? with
  | some (some (.ref x)) => some (pc + n, L, .ref x :: st)
  | some (some (.retAddr x)) => some (pc + n, L, .retAddr x :: st)
  | _ => none
def ai_ldl (L : List (Option Value)) (i n pc : Nat) (st : List Value) : Option (Nat × List (Option Value) × List Value) := match L[i]? with
  | some (some (.long x)) => some (pc + n, L, .long x :: st)
  | _ => none
def ai_sti (L : List (Option Value)) (i n pc : Nat) (st : List Value) : Option (Nat × List (Option Value) × List Value) := match st with
  | .int x :: r => if i < L.length then some (pc + n, (ai_kill L i).set i (some (.int x)), r) else none
  | _ => none
def ai_sta (L : List (Option Value)) (i n pc : Nat) (st : List Value) : Option (Nat × List (Option Value) × List Value) := match st with
  | .ref x :: r => if i < L.length then some (pc + n, (ai_kill L i).set i (some (.ref x)), r) else none
  | _ => none
def ai_inc (L : List (Option Value)) (i : Nat) (n : Int) (pc : Nat) (st : List Value) : Option (Nat × List (Option Value) × List Value) := match L[i]? with
  | some (some (.int x)) => some (pc + 3, (ai_kill L i).set i (some (.int (x + Int32.ofInt n))), st)
  | _ => none
def ai_un (f : Int32 → Int32) (pc : Nat) (L : List (Option Value)) (st : List Value) : Option (Nat × List (Option Value) × List Value) := match st with
  | .int x :: r => some (pc + 1, L, .int (f x) :: r)
  | _ => none
def ai_bin (f : Int32 → Int32 → Int32) (pc : Nat) (L : List (Option Value)) (st : List Value) : Option (Nat × List (Option Value) × List Value) := match st with
  | .int y :: .int x :: r => some (pc + 1, L, .int (f x y) :: r)
  | _ => none
def ai_div (f : Int32 → Int32 → Int32) (pc : Nat) (L : List (Option Value)) (st : List Value) : Option (Nat × List (Option Value) × List Value) := match st with
  | .int y :: .int x :: r => if y = 0 then none else some (pc + 1, L, .int (f x y) :: r)
  | _ => none
def ai_tsw (pc : Nat) (dflt lo hi : Int) (offs : Array Int) (L : List (Option Value)) (st : List Value) : Option (Nat × List (Option Value) × List Value) := match st with
  | .int x :: r => if x.toInt < lo ∨ hi < x.toInt then ai_go pc dflt L r else match offs[(x.toInt - lo).toNat]? with
    | some off => ai_go pc off L r
    | none => none
  | _ => none
def ai_lsw (pc : Nat) (dflt : Int) (ps : Array (Int × Int)) (L : List (Option Value)) (st : List Value) : Option (Nat × List (Option Value) × List Value) := match st with
  | .int x :: r => if (ps.toList.zip (ps.toList.drop 1)).all (fun (a, next) => a.1 < next.1) = true then ai_go pc (Op.lookupswitch.offset ps.toList dflt x.toInt) L r else none
  | _ => none
def ai_stk (pc : Nat) (L : List (Option Value)) (o : Option (List Value)) : Option (Nat × List (Option Value) × List Value) := match o with
  | some st => some (pc + 1, L, st)
  | none => none
def ai_dup (st : List Value) : Option (List Value) := match st with
  | v :: r => if v.category = 1 then some (v :: v :: r) else none
  | _ => none
def ai_pop (st : List Value) : Option (List Value) := match st with
  | v :: r => if v.category = 1 then some r else none
  | _ => none
def ai_dup2 (st : List Value) : Option (List Value) := match st with
  | v :: w :: r => if v.category = 1 ∧ w.category = 1 then some (v :: w :: v :: w :: r) else none
  | _ => none
def ai_dupx1 (st : List Value) : Option (List Value) := match st with
  | v :: w :: r => if v.category = 1 ∧ w.category = 1 then some (v :: w :: v :: r) else none
  | _ => none
def ai_nul (b : Bool) (pc : Nat) (off : Int) (L : List (Option Value)) (st : List Value) : Option (Nat × List (Option Value) × List Value) := match st with
  | .null :: r => ai_ifc b pc off L r
  | .ref _ :: r => ai_ifc (!b) pc off L r
  | _ => none
def ai_l2i (pc : Nat) (L : List (Option Value)) (st : List Value) : Option (Nat × List (Option Value) × List Value) := match st with
  | .long x :: r => some (pc + 1, L, .int x.toInt32 :: r)
  | _ => none
def ai_lushr (pc : Nat) (L : List (Option Value)) (st : List Value) : Option (Nat × List (Option Value) × List Value) := match st with
  | .int y :: .long x :: r => some (pc + 1, L, .long (x.toUInt64 >>> (y.toInt64.toUInt64 &&& Int64.toUInt64 63)).toInt64 :: r)
  | _ => none
def ai_lshr (pc : Nat) (L : List (Option Value)) (st : List Value) : Option (Nat × List (Option Value) × List Value) := match st with
  | .int y :: .long x :: r => some (pc + 1, L, .long (x >>> (y.toInt64 &&& 63)) :: r)
  | _ => none
def ai_lbin (f : Int64 → Int64 → Int64) (pc : Nat) (L : List (Option Value)) (st : List Value) : Option (Nat × List (Option Value) × List Value) := match st with
  | .long y :: .long x :: r => some (pc + 1, L, .long (f x y) :: r)
  | _ => none
def ai_lsh (pc : Nat) (L : List (Option Value)) (st : List Value) : Option (Nat × List (Option Value) × List Value) := match st with
  | .int y :: .long x :: r => some (pc + 1, L, .long (x <<< (y.toInt64 &&& 63)) :: r)
  | _ => none
def ai_lcm (pc : Nat) (L : List (Option Value)) (st : List Value) : Option (Nat × List (Option Value) × List Value) := match st with
  | .long y :: .long x :: r => some (pc + 1, L, .int (lg_cmp x y) :: r)
  | _ => none
def ai_i2l (pc : Nat) (L : List (Option Value)) (st : List Value) : Option (Nat × List (Option Value) × List Value) := match st with
  | .int x :: r => some (pc + 1, L, .long x.toInt64 :: r)
  | _ => none
def ai_land (pc : Nat) (L : List (Option Value)) (st : List Value) : Option (Nat × List (Option Value) × List Value) := match st with
  | .long y :: .long x :: r => some (pc + 1, L, .long (x &&& y) :: r)
  | _ => none
def ai_ic (k : Jvm.ClassFile.Cond) (pc : Nat) (off : Int) (L : List (Option Value)) (st : List Value) : Option (Nat × List (Option Value) × List Value) := match st with
  | .int x :: r => ai_ifc (ai_c0 k x) pc off L r
  | _ => none
def ai_icmp (k : Jvm.ClassFile.Cond) (pc : Nat) (off : Int) (L : List (Option Value)) (st : List Value) : Option (Nat × List (Option Value) × List Value) := match st with
  | .int y :: .int x :: r => ai_ifc (ai_c2 k x y) pc off L r
  | _ => none
def ai_simple (i : Instr) (pc : Nat) (L : List (Option Value)) (st : List Value) : Option (Nat × List (Option Value) × List Value) := match i with
  | .iconst n => some (pc + 1, L, .int (Int32.ofInt n) :: st)
  | .bipush n => some (pc + 2, L, .int (Int8.ofInt n).toInt32 :: st)
  | .sipush n => some (pc + 3, L, .int (Int16.ofInt n).toInt32 :: st)
  | .aconst_null => some (pc + 1, L, .null :: st)
  | .iload_n k => ai_ldi L k 1 pc st
  | .iload k => ai_ldi L k 2 pc st
  | .aload_n k => ai_lda L k 1 pc st
  | .aload k => ai_lda L k 2 pc st
  | .lload_n k => ai_ldl L k 1 pc st
  | .lload k => ai_ldl L k 2 pc st
  | .istore_n k => ai_sti L k 1 pc st
  | .istore k => ai_sti L k 2 pc st
  | .astore_n k => ai_sta L k 1 pc st
  | .astore k => ai_sta L k 2 pc st
  | .iinc k n => ai_inc L k n pc st
  | .iadd => ai_bin (fun x y => x + y) pc L st
  | .isub => ai_bin (fun x y => x - y) pc L st
  | .imul => ai_bin (fun x y => x * y) pc L st
  | .iand => ai_bin (fun x y => x &&& y) pc L st
  | .ior => ai_bin (fun x y => x ||| y) pc L st
  | .ixor => ai_bin (fun x y => x ^^^ y) pc L st
  | .ishl => ai_bin (fun x y => x <<< (y &&& 31)) pc L st
  | .ishr => ai_bin (fun x y => x >>> (y &&& 31)) pc L st
  | .iushr => ai_bin (fun x y => (x.toUInt32 >>> (y.toUInt32 &&& Int32.toUInt32 31)).toInt32) pc L st
  | .idiv => ai_div (fun x y => x / y) pc L st
  | .irem => ai_div (fun x y => x - x / y * y) pc L st
  | .ineg => ai_un (fun x => -x) pc L st
  | .i2c => ai_un (fun x => (x.toUInt32 % 65536).toInt32) pc L st
  | .l2i => ai_l2i pc L st
  | .lushr => ai_lushr pc L st
  | .lshr => ai_lshr pc L st
  | .land => ai_land pc L st
  | .lor => ai_lbin (fun x y => x ||| y) pc L st
  | .lshl => ai_lsh pc L st
  | .lcmp => ai_lcm pc L st
  | .i2l => ai_i2l pc L st
  | .dup => ai_stk pc L (ai_dup st)
  | .pop => ai_stk pc L (ai_pop st)
  | .dup2 => ai_stk pc L (ai_dup2 st)
  | .dup_x1 => ai_stk pc L (ai_dupx1 st)
  | .goto off => ai_go pc off L st
  | .ifCond k off => ai_ic k pc off L st
  | .if_icmp k off => ai_icmp k pc off L st
  | .ifnull off => ai_nul true pc off L st
  | .ifnonnull off => ai_nul false pc off L st
  | .tableswitch dflt lo hi offs => ai_tsw pc dflt lo hi offs L st
  | .lookupswitch dflt ps => ai_lsw pc dflt ps L st
  | _ => none
section AiSimple
variable {p : Program} {l : Launch} {e : Env} {R : Room} {s : State} {m : MethodId} {args : Array Value} {below : List Frame} {meth : Method} {c : Code} {H : Heap} {locs : List Loc} {cells slots : Nat} {Q : State → Prop}
variable {cc : ByteArray} {pc pc' nL : Nat} {ls : Array Slot} {st st' : List Value} {L L' : List (Option Value)}
theorem ai_go_of {off : Int} (h : ai_go pc off L st = some (pc', L', st')) : (pc : Int) + off = (pc' : Int) ∧ L = L' ∧ st = st' := by
  unfold ai_go at h
  split at h
  · next h0 =>
    simp only [Option.some.injEq, Prod.mk.injEq] at h
    obtain ⟨rfl, rfl, rfl⟩ := h
    exact ⟨by omega, rfl, rfl⟩
  · cases h
theorem ai_ldi_of {i n : Nat} (h : ai_ldi L i n pc st = some (pc', L', st')) : ∃ x, L[i]? = some (some (.int x)) ∧ pc + n = pc' ∧ L = L' ∧ .int x :: st = st' := by
  unfold ai_ldi at h
  split at h
  · next x hx =>
    simp only [Option.some.injEq, Prod.mk.injEq] at h
    exact ⟨x, hx, h.1, h.2.1, h.2.2⟩
  · cases h
theorem ai_lda_of {i n : Nat} (h : ai_lda L i n pc st = some (pc', L', st')) : (∃ x, L[i]? = some (some (.ref x)) ∧ pc + n = pc' ∧ L = L' ∧ .ref x :: st = st') ∨ ∃ x, L[i]? = some (some (.retAddr x)) ∧ pc + n = pc' ∧ L = L' ∧ .retAddr x :: st = st' := by
  unfold ai_lda at h
  split at h
  · next x hx => cases h; exact Or.inl ⟨x, hx, rfl, rfl, rfl⟩
  · next x hx => cases h; exact Or.inr ⟨x, hx, rfl, rfl, rfl⟩
  · cases h
theorem ai_ldl_of {i n : Nat} (h : ai_ldl L i n pc st = some (pc', L', st')) : ∃ x, L[i]? = some (some (.long x)) ∧ pc + n = pc' ∧ L = L' ∧ .long x :: st = st' := by
  unfold ai_ldl at h
  split at h
  · next x hx =>
    simp only [Option.some.injEq, Prod.mk.injEq] at h
    exact ⟨x, hx, h.1, h.2.1, h.2.2⟩
  · cases h
theorem ai_sti_of {i n : Nat} (h : ai_sti L i n pc st = some (pc', L', st')) : ∃ x, st = .int x :: st' ∧ i < L.length ∧ pc + n = pc' ∧ (ai_kill L i).set i (some (.int x)) = L' := by
  unfold ai_sti at h
  split at h
  · split at h
    · next hi =>
      simp only [Option.some.injEq, Prod.mk.injEq] at h
      obtain ⟨h1, h2, rfl⟩ := h
      exact ⟨_, rfl, hi, h1, h2⟩
    · cases h
  · cases h
theorem ai_sta_of {i n : Nat} (h : ai_sta L i n pc st = some (pc', L', st')) : ∃ x, st = .ref x :: st' ∧ i < L.length ∧ pc + n = pc' ∧ (ai_kill L i).set i (some (.ref x)) = L' := by
  unfold ai_sta at h
  split at h
  · split at h
    · next hi =>
      simp only [Option.some.injEq, Prod.mk.injEq] at h
      obtain ⟨h1, h2, rfl⟩ := h
      exact ⟨_, rfl, hi, h1, h2⟩
    · cases h
  · cases h
theorem ai_inc_of {i : Nat} {n : Int} (h : ai_inc L i n pc st = some (pc', L', st')) : ∃ x, L[i]? = some (some (.int x)) ∧ pc + 3 = pc' ∧ (ai_kill L i).set i (some (.int (x + Int32.ofInt n))) = L' ∧ st = st' := by
  unfold ai_inc at h
  split at h
  · next x hx =>
    simp only [Option.some.injEq, Prod.mk.injEq] at h
    exact ⟨x, hx, h.1, h.2.1, h.2.2⟩
  · cases h
theorem ai_un_of {f : Int32 → Int32} (h : ai_un f pc L st = some (pc', L', st')) : ∃ x r, st = .int x :: r ∧ pc + 1 = pc' ∧ L = L' ∧ .int (f x) :: r = st' := by
  unfold ai_un at h
  split at h
  · simp only [Option.some.injEq, Prod.mk.injEq] at h
    exact ⟨_, _, rfl, h.1, h.2.1, h.2.2⟩
  · cases h
theorem ai_bin_of {f : Int32 → Int32 → Int32} (h : ai_bin f pc L st = some (pc', L', st')) : ∃ x y r, st = .int y :: .int x :: r ∧ pc + 1 = pc' ∧ L = L' ∧ .int (f x y) :: r = st' := by
  unfold ai_bin at h
  split at h
  · simp only [Option.some.injEq, Prod.mk.injEq] at h
    exact ⟨_, _, _, rfl, h.1, h.2.1, h.2.2⟩
  · cases h
theorem ai_div_of {f : Int32 → Int32 → Int32} (h : ai_div f pc L st = some (pc', L', st')) : ∃ x y r, st = .int y :: .int x :: r ∧ ¬ y = 0 ∧ pc + 1 = pc' ∧ L = L' ∧ .int (f x y) :: r = st' := by
  unfold ai_div at h
  split at h
  · split at h
    · cases h
    · next hy =>
      simp only [Option.some.injEq, Prod.mk.injEq] at h
      exact ⟨_, _, _, rfl, hy, h.1, h.2.1, h.2.2⟩
  · cases h
theorem ai_stk_of {o : Option (List Value)} (h : ai_stk pc L o = some (pc', L', st')) : o = some st' ∧ pc + 1 = pc' ∧ L = L' := by
  unfold ai_stk at h
  split at h
  · simp only [Option.some.injEq, Prod.mk.injEq] at h
    exact ⟨by rw [h.2.2], h.1, h.2.1⟩
  · cases h
theorem ai_ifc_of {b : Bool} {off : Int} (h : ai_ifc b pc off L st = some (pc', L', st')) : L = L' ∧ st = st' ∧ (pc : Int) + off = ((((pc : Int) + off).toNat : Nat) : Int) ∧ ((b = true ∧ ((pc : Int) + off).toNat = pc') ∨ (b = false ∧ pc + 3 = pc')) := by
  unfold ai_ifc at h
  split at h
  · next h0 =>
    simp only [Option.some.injEq, Prod.mk.injEq] at h
    refine ⟨h.2.1, h.2.2, by omega, ?_⟩
    cases b
    · exact Or.inr ⟨rfl, by simpa using h.1⟩
    · exact Or.inl ⟨rfl, by simpa using h.1⟩
  · cases h
set_option maxHeartbeats 4000000 in
theorem ai_simple_W {i : Instr} {len : Nat} (hx : p.tables.exec = Jvm.exec) (hb : c.code = cc) (hd : decode cc pc = .ok (i, len)) (hk : ai_lk i len = true) {S : Nat} (hL : ai_L S ls nL L) (h : ai_simple i pc L st = some (pc', L', st'))
    (kk : ∀ ls' : Array Slot, ai_L S ls' nL L' → W p l e R s m args below meth c H locs cells slots Q (F0 m pc' ls' (st'.map (ai_v S)))) : W p l e R s m args below meth c H locs cells slots Q (F0 m pc ls (st.map (ai_v S))) := by
  cases i
  case iconst n =>
    simp only [ai_simple, Option.some.injEq, Prod.mk.injEq] at h
    obtain ⟨rfl, rfl, rfl⟩ := h
    have e1 : len = 1 := by simpa [ai_lk] using hk
    subst e1
    exact lv_iconst hx hb hd rfl (kk ls hL)
  case bipush n =>
    simp only [ai_simple, Option.some.injEq, Prod.mk.injEq] at h
    obtain ⟨rfl, rfl, rfl⟩ := h
    have e1 : len = 2 := by simpa [ai_lk] using hk
    subst e1
    exact lv_bipush hx hb hd rfl (kk ls hL)
  case sipush n =>
    simp only [ai_simple, Option.some.injEq, Prod.mk.injEq] at h
    obtain ⟨rfl, rfl, rfl⟩ := h
    have e1 : len = 3 := by simpa [ai_lk] using hk
    subst e1
    exact lv_sipush hx hb hd rfl (kk ls hL)
  case aconst_null =>
    simp only [ai_simple, Option.some.injEq, Prod.mk.injEq] at h
    obtain ⟨rfl, rfl, rfl⟩ := h
    have e1 : len = 1 := by simpa [ai_lk] using hk
    subst e1
    exact lv_null hx hb hd (kk ls hL)
  case iload_n k =>
    obtain ⟨x, h1, rfl, rfl, rfl⟩ := ai_ldi_of h
    have e1 : len = 1 := by simpa [ai_lk] using hk
    subst e1
    exact lv_iload_n hx hb hd rfl (hL.at h1) (kk ls hL)
  case iload k =>
    obtain ⟨x, h1, rfl, rfl, rfl⟩ := ai_ldi_of h
    have e1 : len = 2 := by simpa [ai_lk] using hk
    subst e1
    exact lv_iload hx hb hd (hL.at h1) (kk ls hL)
  case aload_n k =>
    have e1 : len = 1 := by simpa [ai_lk] using hk
    subst e1
    rcases ai_lda_of h with ⟨x, h1, rfl, rfl, rfl⟩ | ⟨x, h1, rfl, rfl, rfl⟩
    · exact lv_aload_n hx hb hd rfl (hL.at h1) (kk ls hL)
    · exact lv_aload_n hx hb hd rfl (hL.at h1) (kk ls hL)
  case aload k =>
    have e1 : len = 2 := by simpa [ai_lk] using hk
    subst e1
    rcases ai_lda_of h with ⟨x, h1, rfl, rfl, rfl⟩ | ⟨x, h1, rfl, rfl, rfl⟩
    · exact lv_aload hx hb hd (hL.at h1) (kk ls hL)
    · exact lv_aload hx hb hd (hL.at h1) (kk ls hL)
  case lload_n k =>
    obtain ⟨x, h1, rfl, rfl, rfl⟩ := ai_ldl_of h
    have e1 : len = 1 := by simpa [ai_lk] using hk
    subst e1
    exact lv_lload_n hx hb hd rfl (hL.at h1) (kk ls hL)
  case lload k =>
    obtain ⟨x, h1, rfl, rfl, rfl⟩ := ai_ldl_of h
    have e1 : len = 2 := by simpa [ai_lk] using hk
    subst e1
    exact lv_lload hx hb hd (hL.at h1) (kk ls hL)
  case istore_n k =>
    obtain ⟨x, rfl, h1, rfl, rfl⟩ := ai_sti_of h
    have e1 : len = 1 := by simpa [ai_lk] using hk
    subst e1
    exact lv_istore_n (lv := ai_as' S L) hx hb hd rfl hL.has (by rw [← hL.1]; exact h1) rfl (fun ls' hl => kk ls' (ai_L.put1 hL.1 hl))
  case istore k =>
    obtain ⟨x, rfl, h1, rfl, rfl⟩ := ai_sti_of h
    have e1 : len = 2 := by simpa [ai_lk] using hk
    subst e1
    exact lv_istore (lv := ai_as' S L) hx hb hd hL.has (by rw [← hL.1]; exact h1) rfl (fun ls' hl => kk ls' (ai_L.put1 hL.1 hl))
  case astore_n k =>
    obtain ⟨x, rfl, h1, rfl, rfl⟩ := ai_sta_of h
    have e1 : len = 1 := by simpa [ai_lk] using hk
    subst e1
    exact lv_astore_n (lv := ai_as' S L) hx hb hd rfl hL.has (by rw [← hL.1]; exact h1) rfl (fun ls' hl => kk ls' (ai_L.put1 hL.1 hl))
  case astore k =>
    obtain ⟨x, rfl, h1, rfl, rfl⟩ := ai_sta_of h
    have e1 : len = 2 := by simpa [ai_lk] using hk
    subst e1
    exact lv_astore (lv := ai_as' S L) hx hb hd hL.has (by rw [← hL.1]; exact h1) rfl (fun ls' hl => kk ls' (ai_L.put1 hL.1 hl))
  case iinc k n =>
    obtain ⟨x, h1, rfl, rfl, rfl⟩ := ai_inc_of h
    have e1 : len = 3 := by simpa [ai_lk] using hk
    subst e1
    obtain ⟨j, hj⟩ := List.getElem?_of_mem (List.mem_map.mpr ⟨(k, Value.int x), ai_as_mem.mpr (show L[((k, Value.int x) : Nat × Value).1]? = some (some ((k, Value.int x) : Nat × Value).2) from h1), rfl⟩ : (k, ai_v S (.int x)) ∈ ai_as' S L)
    exact lv_iinc (lv := ai_as' S L) (k := j) hx hb hd hL.has hj rfl (by rw [← hL.1]; exact (List.getElem?_eq_some_iff.mp h1).1) rfl (fun ls' hl => kk ls' (ai_L.put1 hL.1 hl))
  case iadd =>
    obtain ⟨x, y, r, rfl, rfl, rfl, rfl⟩ := ai_bin_of h
    have e1 : len = 1 := by simpa [ai_lk] using hk
    subst e1
    exact lv_iadd hx hb hd (kk ls hL)
  case isub =>
    obtain ⟨x, y, r, rfl, rfl, rfl, rfl⟩ := ai_bin_of h
    have e1 : len = 1 := by simpa [ai_lk] using hk
    subst e1
    exact lv_isub hx hb hd (kk ls hL)
  case imul =>
    obtain ⟨x, y, r, rfl, rfl, rfl, rfl⟩ := ai_bin_of h
    have e1 : len = 1 := by simpa [ai_lk] using hk
    subst e1
    exact lv_imul hx hb hd (kk ls hL)
  case iand =>
    obtain ⟨x, y, r, rfl, rfl, rfl, rfl⟩ := ai_bin_of h
    have e1 : len = 1 := by simpa [ai_lk] using hk
    subst e1
    exact lv_iand hx hb hd (kk ls hL)
  case ior =>
    obtain ⟨x, y, r, rfl, rfl, rfl, rfl⟩ := ai_bin_of h
    have e1 : len = 1 := by simpa [ai_lk] using hk
    subst e1
    exact lv_ior hx hb hd (kk ls hL)
  case ixor =>
    obtain ⟨x, y, r, rfl, rfl, rfl, rfl⟩ := ai_bin_of h
    have e1 : len = 1 := by simpa [ai_lk] using hk
    subst e1
    exact lv_ixor hx hb hd (kk ls hL)
  case ishl =>
    obtain ⟨x, y, r, rfl, rfl, rfl, rfl⟩ := ai_bin_of h
    have e1 : len = 1 := by simpa [ai_lk] using hk
    subst e1
    exact lv_ishl hx hb hd (kk ls hL)
  case ishr =>
    obtain ⟨x, y, r, rfl, rfl, rfl, rfl⟩ := ai_bin_of h
    have e1 : len = 1 := by simpa [ai_lk] using hk
    subst e1
    exact lv_ishr hx hb hd (kk ls hL)
  case iushr =>
    obtain ⟨x, y, r, rfl, rfl, rfl, rfl⟩ := ai_bin_of h
    have e1 : len = 1 := by simpa [ai_lk] using hk
    subst e1
    exact lv_iushr hx hb hd rfl (kk ls hL)
  case idiv =>
    obtain ⟨x, y, r, rfl, hy, rfl, rfl, rfl⟩ := ai_div_of h
    have e1 : len = 1 := by simpa [ai_lk] using hk
    subst e1
    exact lv_idiv hx hb hd hy (kk ls hL)
  case irem =>
    obtain ⟨x, y, r, rfl, hy, rfl, rfl, rfl⟩ := ai_div_of h
    have e1 : len = 1 := by simpa [ai_lk] using hk
    subst e1
    exact lv_irem hx hb hd hy (kk ls hL)
  case ineg =>
    obtain ⟨x, r, rfl, rfl, rfl, rfl⟩ := ai_un_of h
    have e1 : len = 1 := by simpa [ai_lk] using hk
    subst e1
    exact lv_ineg hx hb hd (kk ls hL)
  case i2c =>
    obtain ⟨x, r, rfl, rfl, rfl, rfl⟩ := ai_un_of h
    have e1 : len = 1 := by simpa [ai_lk] using hk
    subst e1
    exact lv_i2c hx hb hd rfl (kk ls hL)
  case l2i =>
    have e1 : len = 1 := by simpa [ai_lk] using hk
    subst e1
    simp only [ai_simple, ai_l2i] at h
    split at h
    · simp only [Option.some.injEq, Prod.mk.injEq] at h
      obtain ⟨rfl, rfl, rfl⟩ := h
      exact lv_l2i hx hb hd rfl (kk ls hL)
    · cases h
  case lushr =>
    have e1 : len = 1 := by simpa [ai_lk] using hk
    subst e1
    simp only [ai_simple, ai_lushr] at h
    split at h
    · simp only [Option.some.injEq, Prod.mk.injEq] at h
      obtain ⟨rfl, rfl, rfl⟩ := h
      exact lv_lushr hx hb hd rfl (kk ls hL)
    · cases h
  case lshr =>
    have e1 : len = 1 := by simpa [ai_lk] using hk
    subst e1
    simp only [ai_simple, ai_lshr] at h
    split at h
    · simp only [Option.some.injEq, Prod.mk.injEq] at h
      obtain ⟨rfl, rfl, rfl⟩ := h
      exact lv_lshr hx hb hd rfl (kk ls hL)
    · cases h
  case land =>
    have e1 : len = 1 := by simpa [ai_lk] using hk
    subst e1
    simp only [ai_simple, ai_land] at h
    split at h
    · simp only [Option.some.injEq, Prod.mk.injEq] at h
      obtain ⟨rfl, rfl, rfl⟩ := h
      exact lv_land hx hb hd (kk ls hL)
    · cases h
  case lor =>
    have e1 : len = 1 := by simpa [ai_lk] using hk
    subst e1
    simp only [ai_simple, ai_lbin] at h
    split at h
    · simp only [Option.some.injEq, Prod.mk.injEq] at h
      obtain ⟨rfl, rfl, rfl⟩ := h
      exact lv_lor hx hb hd (kk ls hL)
    · cases h
  case lshl =>
    have e1 : len = 1 := by simpa [ai_lk] using hk
    subst e1
    simp only [ai_simple, ai_lsh] at h
    split at h
    · simp only [Option.some.injEq, Prod.mk.injEq] at h
      obtain ⟨rfl, rfl, rfl⟩ := h
      exact lv_lshl hx hb hd rfl (kk ls hL)
    · cases h
  case lcmp =>
    have e1 : len = 1 := by simpa [ai_lk] using hk
    subst e1
    simp only [ai_simple, ai_lcm] at h
    split at h
    · simp only [Option.some.injEq, Prod.mk.injEq] at h
      obtain ⟨rfl, rfl, rfl⟩ := h
      exact W.lcmp hx hb hd (kk ls hL)
    · cases h
  case i2l =>
    have e1 : len = 1 := by simpa [ai_lk] using hk
    subst e1
    simp only [ai_simple, ai_i2l] at h
    split at h
    · simp only [Option.some.injEq, Prod.mk.injEq] at h
      obtain ⟨rfl, rfl, rfl⟩ := h
      exact lv_i2l hx hb hd rfl (kk ls hL)
    · cases h
  case dup =>
    obtain ⟨h1, rfl, rfl⟩ := ai_stk_of h
    have e1 : len = 1 := by simpa [ai_lk] using hk
    subst e1
    unfold ai_dup at h1
    split at h1
    · split at h1
      · next hc => cases h1; exact lv_dup hx hb hd ((ai_v_cat S _).trans hc) (kk ls hL)
      · cases h1
    · cases h1
  case pop =>
    obtain ⟨h1, rfl, rfl⟩ := ai_stk_of h
    have e1 : len = 1 := by simpa [ai_lk] using hk
    subst e1
    unfold ai_pop at h1
    split at h1
    · split at h1
      · next hc => cases h1; exact lv_pop hx hb hd ((ai_v_cat S _).trans hc) (kk ls hL)
      · cases h1
    · cases h1
  case dup2 =>
    obtain ⟨h1, rfl, rfl⟩ := ai_stk_of h
    have e1 : len = 1 := by simpa [ai_lk] using hk
    subst e1
    unfold ai_dup2 at h1
    split at h1
    · split at h1
      · next hc => cases h1; exact lv_dup2_11 hx hb hd ((ai_v_cat S _).trans hc.1) ((ai_v_cat S _).trans hc.2) (kk ls hL)
      · cases h1
    · cases h1
  case dup_x1 =>
    obtain ⟨h1, rfl, rfl⟩ := ai_stk_of h
    have e1 : len = 1 := by simpa [ai_lk] using hk
    subst e1
    unfold ai_dupx1 at h1
    split at h1
    · split at h1
      · next hc => cases h1; exact lv_dup_x1 hx hb hd ((ai_v_cat S _).trans hc.1) ((ai_v_cat S _).trans hc.2) (kk ls hL)
      · cases h1
    · cases h1
  case goto off =>
    obtain ⟨h1, rfl, rfl⟩ := ai_go_of h
    have e1 : len = 3 := by simpa [ai_lk] using hk
    subst e1
    exact lv_goto hx hb hd h1 (kk ls hL)
  case ifCond k off =>
    have e1 : len = 3 := by simpa [ai_lk] using hk
    subst e1
    simp only [ai_simple, ai_ic] at h
    split at h
    · obtain ⟨rfl, rfl, ht, h1⟩ := ai_ifc_of h
      cases k
      case eq =>
        rcases h1 with ⟨hc, rfl⟩ | ⟨hc, rfl⟩
        · exact lv_if_eq hx hb hd ht (fun _ => kk ls hL) (fun q => by first | exact absurd (of_decide_eq_true hc) q | exact absurd q (of_decide_eq_true hc))
        · exact lv_if_eq hx hb hd ht (fun q => absurd q (of_decide_eq_false hc)) (fun _ => kk ls hL)
      case ne =>
        rcases h1 with ⟨hc, rfl⟩ | ⟨hc, rfl⟩
        · exact lv_if_ne hx hb hd ht (fun _ => kk ls hL) (fun q => by first | exact absurd (of_decide_eq_true hc) q | exact absurd q (of_decide_eq_true hc))
        · exact lv_if_ne hx hb hd ht (fun q => absurd q (of_decide_eq_false hc)) (fun _ => kk ls hL)
      case lt =>
        rcases h1 with ⟨hc, rfl⟩ | ⟨hc, rfl⟩
        · exact lv_if_lt hx hb hd ht (fun _ => kk ls hL) (fun q => by first | exact absurd (of_decide_eq_true hc) q | exact absurd q (of_decide_eq_true hc))
        · exact lv_if_lt hx hb hd ht (fun q => absurd q (of_decide_eq_false hc)) (fun _ => kk ls hL)
      case ge =>
        rcases h1 with ⟨hc, rfl⟩ | ⟨hc, rfl⟩
        · exact lv_if_ge hx hb hd ht (fun _ => kk ls hL) (fun q => by first | exact absurd (of_decide_eq_true hc) q | exact absurd q (of_decide_eq_true hc))
        · exact lv_if_ge hx hb hd ht (fun q => absurd q (of_decide_eq_false hc)) (fun _ => kk ls hL)
      case gt =>
        rcases h1 with ⟨hc, rfl⟩ | ⟨hc, rfl⟩
        · exact lv_if_gt hx hb hd ht (fun _ => kk ls hL) (fun q => by first | exact absurd (of_decide_eq_true hc) q | exact absurd q (of_decide_eq_true hc))
        · exact lv_if_gt hx hb hd ht (fun q => absurd q (of_decide_eq_false hc)) (fun _ => kk ls hL)
      case le =>
        rcases h1 with ⟨hc, rfl⟩ | ⟨hc, rfl⟩
        · exact lv_if_le hx hb hd ht (fun _ => kk ls hL) (fun q => by first | exact absurd (of_decide_eq_true hc) q | exact absurd q (of_decide_eq_true hc))
        · exact lv_if_le hx hb hd ht (fun q => absurd q (of_decide_eq_false hc)) (fun _ => kk ls hL)
    · cases h
  case if_icmp k off =>
    have e1 : len = 3 := by simpa [ai_lk] using hk
    subst e1
    simp only [ai_simple, ai_icmp] at h
    split at h
    · obtain ⟨rfl, rfl, ht, h1⟩ := ai_ifc_of h
      cases k
      case eq =>
        rcases h1 with ⟨hc, rfl⟩ | ⟨hc, rfl⟩
        · exact lv_icmp_eq hx hb hd ht (fun _ => kk ls hL) (fun q => by first | exact absurd (of_decide_eq_true hc) q | exact absurd q (of_decide_eq_true hc))
        · exact lv_icmp_eq hx hb hd ht (fun q => absurd q (of_decide_eq_false hc)) (fun _ => kk ls hL)
      case ne =>
        rcases h1 with ⟨hc, rfl⟩ | ⟨hc, rfl⟩
        · exact lv_icmp_ne hx hb hd ht (fun _ => kk ls hL) (fun q => by first | exact absurd (of_decide_eq_true hc) q | exact absurd q (of_decide_eq_true hc))
        · exact lv_icmp_ne hx hb hd ht (fun q => absurd q (of_decide_eq_false hc)) (fun _ => kk ls hL)
      case lt =>
        rcases h1 with ⟨hc, rfl⟩ | ⟨hc, rfl⟩
        · exact lv_icmp_lt hx hb hd ht (fun _ => kk ls hL) (fun q => by first | exact absurd (of_decide_eq_true hc) q | exact absurd q (of_decide_eq_true hc))
        · exact lv_icmp_lt hx hb hd ht (fun q => absurd q (of_decide_eq_false hc)) (fun _ => kk ls hL)
      case ge =>
        rcases h1 with ⟨hc, rfl⟩ | ⟨hc, rfl⟩
        · exact lv_icmp_ge hx hb hd ht (fun _ => kk ls hL) (fun q => by first | exact absurd (of_decide_eq_true hc) q | exact absurd q (of_decide_eq_true hc))
        · exact lv_icmp_ge hx hb hd ht (fun q => absurd q (of_decide_eq_false hc)) (fun _ => kk ls hL)
      case gt =>
        rcases h1 with ⟨hc, rfl⟩ | ⟨hc, rfl⟩
        · exact lv_icmp_gt hx hb hd ht (fun _ => kk ls hL) (fun q => by first | exact absurd (of_decide_eq_true hc) q | exact absurd q (of_decide_eq_true hc))
        · exact lv_icmp_gt hx hb hd ht (fun q => absurd q (of_decide_eq_false hc)) (fun _ => kk ls hL)
      case le =>
        rcases h1 with ⟨hc, rfl⟩ | ⟨hc, rfl⟩
        · exact lv_icmp_le hx hb hd ht (fun _ => kk ls hL) (fun q => by first | exact absurd (of_decide_eq_true hc) q | exact absurd q (of_decide_eq_true hc))
        · exact lv_icmp_le hx hb hd ht (fun q => absurd q (of_decide_eq_false hc)) (fun _ => kk ls hL)
    · cases h
  case ifnull off =>
    have e1 : len = 3 := by simpa [ai_lk] using hk
    subst e1
    simp only [ai_simple, ai_nul] at h
    split at h
    · obtain ⟨rfl, rfl, ht, h1⟩ := ai_ifc_of h
      rcases h1 with ⟨hc, rfl⟩ | ⟨hc, rfl⟩
      · exact lv_ifnullN hx hb hd ht (kk ls hL)
      · cases hc
    · obtain ⟨rfl, rfl, ht, h1⟩ := ai_ifc_of h
      rcases h1 with ⟨hc, rfl⟩ | ⟨hc, rfl⟩
      · cases hc
      · exact lv_ifnull hx hb hd (kk ls hL)
    · cases h
  case ifnonnull off =>
    have e1 : len = 3 := by simpa [ai_lk] using hk
    subst e1
    simp only [ai_simple, ai_nul] at h
    split at h
    · obtain ⟨rfl, rfl, ht, h1⟩ := ai_ifc_of h
      rcases h1 with ⟨hc, rfl⟩ | ⟨hc, rfl⟩
      · cases hc
      · exact lv_ifnonnullN hx hb hd (kk ls hL)
    · obtain ⟨rfl, rfl, ht, h1⟩ := ai_ifc_of h
      rcases h1 with ⟨hc, rfl⟩ | ⟨hc, rfl⟩
      · exact lv_ifnonnull hx hb hd ht (kk ls hL)
      · cases hc
    · cases h
  case tableswitch dflt lo hi offs =>
    simp only [ai_simple, ai_tsw] at h
    split at h
    · split at h
      · next hc =>
        obtain ⟨h1, rfl, rfl⟩ := ai_go_of h
        exact lv_tableOut hx hb hd hc h1 (kk ls hL)
      · next hc =>
        split at h
        · next off ho =>
          obtain ⟨h1, rfl, rfl⟩ := ai_go_of h
          exact lv_tableIn hx hb hd (fun q => hc (Or.inl q)) (fun q => hc (Or.inr q)) ho h1 (kk ls hL)
        · cases h
    · cases h
  case lookupswitch dflt ps =>
    simp only [ai_simple, ai_lsw] at h
    split at h
    · split at h
      · next hc =>
        obtain ⟨h1, rfl, rfl⟩ := ai_go_of h
        exact lv_lookup hx hb hd hc rfl h1 (kk ls hL)
      · cases h
    · cases h
  all_goals (simp [ai_simple] at h)
end AiSimple
