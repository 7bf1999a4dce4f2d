/-! THE ABSTRACT MACHINE IS SOUND -/
def ai_nest (w : Cond) : Prop := (∃ a i b n d h, w = Cond.fieldLinkNest a i b n d h) ∨ ∃ a i x h, w = Cond.methodLinkNest a i x h
def ai_NS (nests : List Cond) (U : State) : Prop := (∀ w ∈ nests, va_Nw w U) ∧ va_AO "TickHouse$Instance" U
def ai_Pc (D : va_G) (cl : List vw_C) (tl : List FieldType) (nests : List Cond) (G : Nat → ClassId) (S : Nat) (z : List va_E) (vs : List Value) : Array Value → State → Prop := va_Pc (vs.map (ai_v S)) (fun U => U.heap.size = S + z.length ∧ va_P D cl (ai_w S G z) U.heap ∧ va_K D cl (ai_tys G tl) U ∧ ai_NS nests U)
def ai_Qc (D : va_G) (cl : List vw_C) (G : Nat → ClassId) (S : Nat) (r : Option Value) (z : List va_E) : Array Value → State → Outcome → State → Prop := fun _ st oc t => oc = .returned (r.map (ai_v S)) ∧ va_P D cl (ai_w S G z) t.heap ∧ t.heap.size = S + z.length ∧ va_F (fun q => S ≤ q) st t
def ai_rm (d mc ms : Nat) : Room := { frames := d, cells := mc, slots := ms, locals := d * 80 }
def ai_ws (big : List Cond) (M : ai_M) : List Cond := Cond.code M.1 M.2.1 M.2.2.1 M.2.2.2.1 :: big
/-- what the tables must say, of the words 'big' and of the nest's 'nests' -/
def ai_okM (big : List Cond) (own : Nat → String) (M : ai_M) : Prop := plainName M.1.cls = true ∧ own M.2.2.2.2.1 = M.1.cls ∧ Cond.code M.1 M.2.1 M.2.2.1 M.2.2.2.1 ∈ big ∧ Cond.initialized M.1.cls ∈ big ∧ M.2.2.1 ≤ 60 ∧ (M.2.2.2.2.2.1 = true → M.1.name = "<init>") ∧ (M.1.cls ≠ "java/lang/invoke/MethodHandle" ∧ M.1.cls ≠ "java/lang/invoke/VarHandle") ∧ ∀ q ∈ M.2.2.2.2.2.2, decode M.2.1 q.1 = .ok (q.2.1, q.2.2) ∧ ai_lk q.2.1 q.2.2 = true
def ai_okF (big nests : List Cond) (cl : List vw_C) (own : String) (idx : Nat) (f : Nat × Nat × FieldType × Bool) : Prop := ∃ (C : String) (T : u_T) (N : Nat), cl[f.1]? = some (C, T, N) ∧ f.2.1 < N ∧ (Cond.fieldLink own idx (T f.2.1).1 (T f.2.1).2.1 (T f.2.1).2.2.1 ∈ big ∨ (f.2.2.2 = false ∧ ∃ host, Cond.fieldLinkNest own idx (T f.2.1).1 (T f.2.1).2.1 (T f.2.1).2.2.1 host ∈ nests)) ∧ parseFieldDescriptor (T f.2.1).2.2.1 = some f.2.2.1 ∧ (T f.2.1).2.2.2 = f.2.2.2 ∧ (T f.2.1).1 = C
def ai_okN (big : List Cond) (cl : List vw_C) (df : Nat → List Value) (own : String) (idx ci : Nat) : Prop := ∃ (C : String) (T : u_T) (N : Nat) (ty : Nat → FieldType), cl[ci]? = some (C, T, N) ∧ (∀ k, k < N → parseFieldDescriptor (T k).2.2.1 = some (ty k)) ∧ Cond.classLink own idx C ∈ big ∧ Cond.instantiable C N ∈ big ∧ Cond.initialized C ∈ big ∧ (df ci).length = N ∧ ∀ j, j < N → defaultValue (ty j) = vp_V (df ci) j
def ai_okC (big nests : List Cond) (cl : List vw_C) (mt : Nat → Option ai_M) (own : String) (idx : Nat) (q : Nat × Nat × Nat × Nat) : Prop := match q.1 with
  | 0 => ∃ M T N, mt q.2.1 = some M ∧ cl[q.2.2.2]? = some (M.1.cls, T, N) ∧ Cond.methodLink own idx M.1 ∈ big ∧ Cond.instanceMethod M.1 ∈ big ∧ Cond.selects M.1.cls M.1 M.1 ∈ big ∧ (parseMethodDescriptor M.1.desc).map (fun d => d.parameters.length) = some q.2.2.1
  | 1 => ∃ M, mt q.2.1 = some M ∧ Cond.methodLink own idx M.1 ∈ big ∧ Cond.instanceMethod M.1 ∈ big ∧ M.1.name = "<init>" ∧ M.2.2.2.1 = none ∧ (parseMethodDescriptor M.1.desc).map (fun d => d.parameters.length) = some q.2.2.1
  | 2 => ∃ M, mt q.2.1 = some M ∧ Cond.methodLink own idx M.1 ∈ big ∧ Cond.static M.1 ∈ big ∧ (parseMethodDescriptor M.1.desc).map (fun d => d.parameters.length) = some q.2.2.1
  | 4 => ∃ M host, mt q.2.1 = some M ∧ Cond.methodLinkNest own idx M.1 host ∈ nests ∧ Cond.instanceMethod M.1 ∈ big ∧ M.1.name = "<init>" ∧ M.2.2.2.1 = none ∧ (parseMethodDescriptor M.1.desc).map (fun d => d.parameters.length) = some q.2.2.1
  | 5 => Cond.methodLink own idx arraycopyName ∈ big ∧ Cond.native arraycopyName ∈ big ∧ Cond.static arraycopyName ∈ big ∧ Cond.initialized "java/lang/System" ∈ big
  | 6 => Cond.methodLink own idx Lib.Math.min.name ∈ big ∧ Cond.static Lib.Math.min.name ∈ big ∧ Cond.initialized "java/lang/Math" ∈ big ∧ Cond.code Lib.Math.min.name Lib.Math.min.code 2 (some .int) ∈ big
  | 7 => Cond.methodLink own idx Lib.Math.max.name ∈ big ∧ Cond.static Lib.Math.max.name ∈ big ∧ Cond.initialized "java/lang/Math" ∈ big ∧ Cond.code Lib.Math.max.name Lib.Math.max.code 2 (some .int) ∈ big
  | 3 => Cond.methodLink own idx Lib.objectInit ∈ big ∧ Cond.instanceMethod Lib.objectInit ∈ big ∧ Cond.code Lib.objectInit ⟨#[0xb1]⟩ 1 none ∈ big
  | _ => True
def ai_TB (P : ai_P) (cl : List vw_C) (tl : List FieldType) (big nests : List Cond) (own : Nat → String) : Prop :=
  (∀ w ∈ big, (w.onTables && w.keeps) = true ∨ ∃ ty, w = .arrayClass ty) ∧
  (∀ w ∈ nests, ai_nest w) ∧
  (tl[0]? = some .int ∧ tl[1]? = some .boolean ∧ tl[2]? = some .char ∧ Cond.arrayClass .int ∈ big ∧ Cond.arrayClass .boolean ∈ big ∧ Cond.arrayClass .char ∈ big) ∧
  (ai_CL cl big ∧ ∀ (ci : Nat) (C : String) (T : u_T) (N : Nat), cl[ci]? = some (C, T, N) → own ci = C) ∧
  (∀ key M, P.1 key = some M → ai_okM big own M) ∧
  (∀ c idx f, P.2.1 c idx = some f → ai_okF big nests cl (own c) idx f) ∧
  (∀ c idx ci, P.2.2.1 c idx = some ci → ai_okN big cl P.2.2.2.2.1 (own c) idx ci) ∧
  (∀ c idx q, P.2.2.2.1 c idx = some q → ai_okC big nests cl P.1 (own c) idx q) ∧
  (∀ c idx v, P.2.2.2.2.2 c idx = some (.int v) → Cond.constant (own c) idx v ∈ big) ∧
  (∀ c idx v, P.2.2.2.2.2 c idx = some (.long v) → Cond.constantLong (own c) idx v ∈ big) ∧
  (tl[3]? = some .long ∧ Cond.arrayClass .long ∈ big) ∧ tl[4]? = some (.object "TickHouse$Instance") ∧ ∃ T0 N0, cl[2]? = some ("TickHouse$Instance", T0, N0)
theorem ai_Pc_blind {D : va_G} {cl : List vw_C} {tl : List FieldType} {nests : List Cond} {G : Nat → ClassId} {S : Nat} {z : List va_E} {vs : List Value} (hn : ∀ w ∈ nests, ai_nest w) : FrameBlind (ai_Pc D cl tl nests G S z vs) := by
  intro a U g mk q
  obtain ⟨q0, q1, qP, qK, qN⟩ := q
  refine ⟨q0, q1, qP, va_K.moved (u := U) (U := U.calling g mk a) (Vm.Alike.refl U.vm) qK, fun w hw => ?_, va_AO.moved (u := U) (U := U.calling g mk a) (Vm.Alike.refl U.vm) qN.2⟩
  rcases hn w hw with ⟨a1, i, b, n, d, h, rfl⟩ | ⟨a1, i, x, h, rfl⟩
  · exact va_Nw.same rfl (rfl : U.vm = (U.calling g mk a).vm) (qN.1 _ hw)
  · exact va_Nw.same rfl (rfl : U.vm = (U.calling g mk a).vm) (qN.1 _ hw)
theorem ai_NS.warm {nests : List Cond} {s U : State} (hn : ∀ w ∈ nests, ai_nest w) (h : ai_NS nests s) (hW : s.WarmedH U.vm) : ai_NS nests U := by
  refine ⟨fun w hw => ?_, va_AO.moved hW.alike h.2⟩
  rcases hn w hw with ⟨a1, i, b, n, d, h', rfl⟩ | ⟨a1, i, x, h', rfl⟩
  · exact va_Nw.warmF hW (h.1 _ hw)
  · exact va_Nw.warmM hW (h.1 _ hw)
section AiSound
variable {p : Program} {l : Launch} {e : Env} {R : Room} {s : State} {m : MethodId} {args : Array Value} {below : List Frame} {meth : Method} {c : Code} {H : Heap} {locs : List Loc} {cells slots : Nat} {Q : State → Prop}
variable {cc : ByteArray} {pc pc' nL S c0 : Nat} {ls : Array Slot} {st st' : List Value} {z z' : List va_E} {D : va_G} {cl : List vw_C} {G : Nat → ClassId} {tl : List FieldType} {P : ai_P} {big nests : List Cond} {own : Nat → String}
theorem ai_okF.fl (hTB : ai_TB P cl tl big nests own) (hts : ∀ w ∈ big, w.before args s = true) (hN : ai_NS nests s) (k : Nat) : ai_FL (own k) cl s args (P.2.1 k) := by
  intro idx ci j ty fin h
  obtain ⟨C, T, N, h1, h2, h3, h4, h5, h6⟩ := hTB.2.2.2.2.2.1 _ _ _ h
  refine ⟨C, T, N, h1, h2, ?_, h4, h5, h6⟩
  rcases h3 with h3 | ⟨hf, host, h3⟩
  · exact Or.inl (hts _ h3)
  · exact Or.inr ⟨hf, host, va_Nw.use rfl (hN.1 _ h3)⟩
theorem ai_okN.nw (hTB : ai_TB P cl tl big nests own) (hts : ∀ w ∈ big, w.before args s = true) (k : Nat) : ai_NW (own k) cl s args (P.2.2.1 k) P.2.2.2.2.1 := by
  intro idx ci h
  obtain ⟨C, T, N, ty, h1, h2, h3, h4, h5, h6, h7⟩ := hTB.2.2.2.2.2.2.1 _ _ _ h
  exact ⟨C, T, N, ty, h1, h2, hts _ h3, hts _ h4, hts _ h5, h6, h7⟩
/-- behind a call -/
theorem ai_ran {mc ms : Nat} {r : Option Value} {rest st0 : List Value} {a : Array Value} (hr : va_Run p l e R s m args below meth c H locs cells slots mc ms (F0 m pc ls st0) rest (ai_Qc D cl G S r z' a) (fun q => S ≤ q)) (hI : ai_I D cl G S c0 s z H locs cells slots) (hmc : z'.length = z.length + mc) (hms : ai_c z' = ai_c z + ms)
    (kk : ∀ (H1 : Heap) (locs1 : List Loc), ai_I D cl G S c0 s z' H1 locs1 (cells + mc) (slots + ms) → W p l e R s m args below meth c H1 locs1 (cells + mc) (slots + ms) Q (F0 m (pc + 3) ls ((r.map (ai_v S)).toList ++ rest))) : W p l e R s m args below meth c H locs cells slots Q (F0 m pc ls st0) := by
  intro T hT X
  obtain ⟨v, st₀, t, T', L, h0, X', hL, e1, e2, ⟨hv, hP, hz, hz2, hk⟩, st⟩ := hr T hT X
  cases hv
  rw [h0] at hz2 hk
  have hS := hI.2.1
  obtain ⟨t2, a1, b1⟩ := kk T'.heap (locs ++ L) ⟨by rw [e1]; exact hP, ⟨Nat.le_trans hS.1 (by rw [e1]; exact hz2), fun q h1 h2 => by rw [e1, hk q (Nat.lt_of_lt_of_le h1 hS.1) h2]; exact hS.2.1 q h1 h2, fun q hq => by
      rcases List.mem_append.mp hq with h | h
      · exact hS.2.2 q h
      · exact hL q h⟩, by have := hI.2.2.1; omega, by have := hI.2.2.2; omega⟩ T' rfl X'
  exact ⟨t2, st t2 a1, b1⟩
/-- the callees are sound, at a depth -/
def ai_Snd (l : Launch) (D : va_G) (cl : List vw_C) (G : Nat → ClassId) (tl : List FieldType) (big nests : List Cond) (S : Nat) (P : ai_P) (call : ai_Call) (d : Nat) : Prop := ∀ key M vs z r z', P.1 key = some M → call key vs z = some (r, z') → Met l M.1 (ai_ws big M) (ai_rm d (z'.length - z.length) (ai_c z' - ai_c z)) (ai_Pc D cl tl nests G S z vs) (ai_Qc D cl G S r z') (z'.length - z.length) (ai_c z' - ai_c z) (fun q => S ≤ q)
theorem ai_hp_W {sc : ai_SC} (hSC : ai_okS sc S s) {M : ai_M} {i : Instr} {len : Nat} (hTB : ai_TB P cl tl big nests own) (hMo : own M.2.2.2.2.1 = M.1.cls) (hx : p.tables.exec = Jvm.exec) (hb : c.code = M.2.1) (hts : ∀ w ∈ big, w.before args s = true) (hN : ai_NS nests s) (hown : s.vm.findClass M.1.cls = some m.cls) (hini : M.2.2.2.2.2.1 = true → meth.name = "<init>") (hS0 : S ≤ s.heap.size) (hK : va_K D cl (ai_tys G tl) s)
    (hd : decode M.2.1 pc = .ok (i, len)) (hk : ai_lk i len = true) (h : ai_hp sc (P.2.1 M.2.2.2.2.1) (P.2.2.1 M.2.2.2.2.1) P.2.2.2.2.1 (P.2.2.2.2.2 M.2.2.2.2.1) (ai_ini M) i pc st z = some (pc', st', z')) (hI : ai_I D cl G S c0 s z H locs cells slots) (hrc : S + z'.length ≤ s.heap.size + R.cells) (hrs : ai_c z' ≤ c0 + R.slots)
    (kk : ∀ (H1 : Heap) (locs1 : List Loc) (cells1 slots1 : Nat), ai_I D cl G S c0 s z' H1 locs1 cells1 slots1 → W p l e R s m args below meth c H1 locs1 cells1 slots1 Q (F0 m pc' ls (st'.map (ai_v S)))) : W p l e R s m args below meth c H locs cells slots Q (F0 m pc ls (st.map (ai_v S))) := by
  have hFL := ai_okF.fl hTB hts hN M.2.2.2.2.1
  have hNW := ai_okN.nw hTB hts M.2.2.2.2.1
  have hCi : ∀ idx v, P.2.2.2.2.2 M.2.2.2.2.1 idx = some (.int v) → (Cond.constant (own M.2.2.2.2.1) idx v).before args s = true := fun idx v h9 => hts _ (hTB.2.2.2.2.2.2.2.2.1 _ _ _ h9)
  have hCl : ∀ idx v, P.2.2.2.2.2 M.2.2.2.2.1 idx = some (.long v) → (Cond.constantLong (own M.2.2.2.2.1) idx v).before args s = true := fun idx v h9 => hts _ (hTB.2.2.2.2.2.2.2.2.2.1 _ _ _ h9)
  rw [hMo] at hFL hNW
  rw [hMo] at hCi hCl
  obtain ⟨-, -, ⟨t0, t1, t2, a0, a1, a2⟩, ⟨hCL, hCO⟩, -, -, -, -, -, -, ⟨t3, a3⟩, t4, T0, N0, hcl2⟩ := hTB
  have hini' : ∀ ci, ai_ini M ci = true → meth.name = "<init>" ∧ ∀ C T N, cl[ci]? = some (C, T, N) → C = M.1.cls := by
    intro ci h9
    simp only [ai_ini, Bool.and_eq_true, beq_iff_eq] at h9
    refine ⟨hini h9.1, fun C T N h8 => ?_⟩
    have h7 := hCO _ _ _ _ h8
    rw [← h7, h9.2]
    exact hMo
  unfold ai_hp at h
  split at h
  · have e1 : len = 3 := by simpa [ai_lk] using hk
    subst e1
    exact ai_gf_W hx hb hts hown hK hCL hFL hd h hI (fun h1 => kk _ _ _ _ h1)
  · have e1 : len = 3 := by simpa [ai_lk] using hk
    subst e1
    exact ai_pf_W hx hb hts hown hini' hK hCL hFL hd h hI (fun H1 l1 h1 => kk H1 l1 _ _ h1)
  · have e1 : len = 1 := by simpa [ai_lk] using hk
    subst e1
    exact ai_iald_W hx hb hK t0 hSC hd h hI (fun h1 => kk _ _ _ _ h1)
  · have e1 : len = 1 := by simpa [ai_lk] using hk
    subst e1
    exact ai_baload_W hx hb hK t1 hd h hI (fun h1 => kk _ _ _ _ h1)
  · have e1 : len = 1 := by simpa [ai_lk] using hk
    subst e1
    exact ai_caload_W hx hb hK t2 hd h hI (fun h1 => kk _ _ _ _ h1)
  · have e1 : len = 1 := by simpa [ai_lk] using hk
    subst e1
    exact ai_iastore_W hx hb hK t0 hd h hI (fun H1 l1 h1 => kk H1 l1 _ _ h1)
  · have e1 : len = 1 := by simpa [ai_lk] using hk
    subst e1
    exact ai_bastore_W hx hb hK t1 hd h hI (fun H1 l1 h1 => kk H1 l1 _ _ h1)
  · have e1 : len = 1 := by simpa [ai_lk] using hk
    subst e1
    exact ai_castore_W hx hb hK t2 hd h hI (fun H1 l1 h1 => kk H1 l1 _ _ h1)
  · have e1 : len = 3 := by simpa [ai_lk] using hk
    subst e1
    exact ai_new_W hx hb hts hown hS0 hK hCL hNW hd h hI hrc hrs (fun H1 c1 s1 h1 => kk H1 _ c1 s1 h1)
  · have e1 : len = 2 := by simpa [ai_lk] using hk
    subst e1
    exact ai_nwai_W hx hb (hts _ a0) hS0 hK t0 hd h hI hrc hrs (fun H1 c1 s1 h1 => kk H1 _ c1 s1 h1)
  · have e1 : len = 2 := by simpa [ai_lk] using hk
    subst e1
    exact ai_nwaz_W hx hb (hts _ a1) hS0 hK t1 hd h hI hrc hrs (fun H1 c1 s1 h1 => kk H1 _ c1 s1 h1)
  · have e1 : len = 2 := by simpa [ai_lk] using hk
    subst e1
    exact ai_nwac_W hx hb (hts _ a2) hS0 hK t2 hd h hI hrc hrs (fun H1 c1 s1 h1 => kk H1 _ c1 s1 h1)
  · have e1 : len = 2 := by simpa [ai_lk] using hk
    subst e1
    exact ai_nwal_W hx hb (hts _ a3) hS0 hK t3 hd h hI hrc hrs (fun H1 c1 s1 h1 => kk H1 _ c1 s1 h1)
  · have e1 : len = 1 := by simpa [ai_lk] using hk
    subst e1
    exact ai_laload_W hx hb hK t3 hd h hI (fun h1 => kk _ _ _ _ h1)
  · have e1 : len = 1 := by simpa [ai_lk] using hk
    subst e1
    exact ai_lastore_W hx hb hK t3 hd h hI (fun H1 l1 h1 => kk H1 l1 _ _ h1)
  · have e1 : len = 1 := by simpa [ai_lk] using hk
    subst e1
    exact ai_alen_W hx hb hK t0 t1 t2 hSC hd h hI (fun h1 => kk _ _ _ _ h1)
  · have e1 : len = 1 := by simpa [ai_lk] using hk
    subst e1
    exact ai_aald_W hx hb hK t4 hd h hI (fun h1 => kk _ _ _ _ h1)
  · have e1 : len = 1 := by simpa [ai_lk] using hk
    subst e1
    exact ai_aast_W hx hb hK hcl2 t4 hd h hI (fun H1 l1 h1 => kk H1 l1 _ _ h1)
  · have e1 : len = 3 := by simpa [ai_lk] using hk
    subst e1
    exact ai_nwq_W hx hb hown hN.2 hS0 hK hcl2 t4 hNW hd h hI hrc hrs (fun H1 c1 s1 h1 => kk H1 _ c1 s1 h1)
  · next idx =>
    have e1 : len = 2 := by simpa [ai_lk] using hk
    subst e1
    unfold ai_ldk at h
    split at h
    · next v hv =>
      simp only [show ¬ (2 : Nat) = 4 by decide, if_false, Option.some.injEq, Prod.mk.injEq] at h
      obtain ⟨rfl, rfl, rfl⟩ := h
      exact lv_ldc hx hb hown (hCi _ _ hv) hd (kk _ _ _ _ hI)
    · simp at h
    · cases h
  · next idx =>
    have e1 : len = 3 := by simpa [ai_lk] using hk
    subst e1
    unfold ai_ldk at h
    split at h
    · next v hv =>
      simp only [show ¬ (3 : Nat) = 4 by decide, if_false, Option.some.injEq, Prod.mk.injEq] at h
      obtain ⟨rfl, rfl, rfl⟩ := h
      exact lv_ldcw hx hb hown (hCi _ _ hv) hd (kk _ _ _ _ hI)
    · simp at h
    · cases h
  · next idx =>
    have e1 : len = 3 := by simpa [ai_lk] using hk
    subst e1
    unfold ai_ldk at h
    split at h
    · simp at h
    · next v hv =>
      simp only [if_true, Option.some.injEq, Prod.mk.injEq] at h
      obtain ⟨rfl, rfl, rfl⟩ := h
      exact lv_ldc2 hx hb hown (hCl _ _ hv) hd (kk _ _ _ _ hI)
    · cases h
  · cases h
theorem ai_stack (S : Nat) (st : List Value) (n : Nat) {b : Nat} {rest : List Value} (h : st.drop n = .ref b :: rest) : st.map (ai_v S) = (((st.take n).reverse).map (ai_v S)).reverse ++ .ref (S + b) :: rest.map (ai_v S) := by
  have e1 : Value.ref (S + b) :: rest.map (ai_v S) = (st.drop n).map (ai_v S) := by rw [h]; rfl
  rw [e1, ← List.map_reverse, List.reverse_reverse, ← List.map_append, List.take_append_drop]
theorem ai_topush (S : Nat) (v : Option Value) (rest : List Value) : (v.map (ai_v S)).toList ++ rest.map (ai_v S) = (v.toList ++ rest).map (ai_v S) := by cases v <;> simp
theorem ai_drop_len {st : List Value} {n : Nat} {v : Value} {rest : List Value} (h : st.drop n = v :: rest) : n ≤ st.length := by
  rcases Nat.lt_or_ge st.length n with h1 | h1
  · rw [List.drop_eq_nil_of_le (by omega)] at h; cases h
  · exact h1
theorem ai_inv_W {M : ai_M} {call : ai_Call} {d : Nat} {i : Instr} {len : Nat} (hTB : ai_TB P cl tl big nests own) (hMo : own M.2.2.2.2.1 = M.1.cls) (hsnd : ai_Snd l D cl G tl big nests S P call d) (hgr : ai_grC call) (hRf : d + 1 ≤ R.frames) (hRl : (d + 1) * 80 ≤ R.locals) (hx : p.tables.exec = Jvm.exec) (hb : c.code = M.2.1) (hml : c.maxLocals = M.2.2.1) (hts : ∀ w ∈ big, w.before args s = true) (hN : ai_NS nests s) (hown : s.vm.findClass M.1.cls = some m.cls) (hS0 : S ≤ s.heap.size) (hK : va_K D cl (ai_tys G tl) s) (hls : ls.size = M.2.2.1)
    (hd : decode M.2.1 pc = .ok (i, len)) (hk : ai_lk i len = true) (h : ai_inv (P.2.2.2.1 M.2.2.2.2.1) call i pc st z = some (pc', st', z')) (hI : ai_I D cl G S c0 s z H locs cells slots) (hrc : S + z'.length ≤ s.heap.size + R.cells) (hrs : ai_c z' ≤ c0 + R.slots)
    (kk : ∀ (H1 : Heap) (locs1 : List Loc) (cells1 slots1 : Nat), ai_I D cl G S c0 s z' H1 locs1 cells1 slots1 → W p l e R s m args below meth c H1 locs1 cells1 slots1 Q (F0 m pc' ls (st'.map (ai_v S)))) : W p l e R s m args below meth c H locs cells slots Q (F0 m pc ls (st.map (ai_v S))) := by
  obtain ⟨hgood, hn, ⟨t0, -⟩, -, hMs, -, -, hCs, -⟩ := hTB
  have hI0 := hI
  obtain ⟨hP, hS, hsz, hsl⟩ := hI
  have hG : ∀ M', ai_okM big own M' → GoodIn big (ai_ws big M') := by
    intro M' hM' w hw
    rcases List.mem_cons.mp hw with rfl | hw
    · exact ⟨hM'.2.2.1, hgood _ hM'.2.2.1⟩
    · exact ⟨hw, hgood _ hw⟩
  have hpre : ∀ vs : List Value, ∀ U : State, U.heap = H → s.WarmedH U.vm → H.size = S + z.length → ai_Pc D cl tl nests G S z vs (vs.map (ai_v S)).toArray U := fun vs U hU hW hz => ⟨rfl, by rw [hU]; exact hz, by rw [hU]; exact hP, va_K.moved hW.alike hK, hN.warm hn hW⟩
  have hHs : H.size ≤ s.heap.size + cells → H.size = S + z.length := by
    intro hz
    rcases Nat.eq_zero_or_pos z.length with h0 | h0
    · have := hS.1; omega
    · have hlt : z.length - 1 < z.length := by omega
      have := va_at.lt (hP _ _ (ai_w_get (S := S) (G := G) (List.getElem?_eq_getElem hlt)))
      simp only at this
      omega
  refine W.sized fun hz0 => ?_
  have hz := hHs hz0
  unfold ai_inv at h
  split at h
  · next idx =>
    have e1 : len = 3 := by simpa [ai_lk] using hk
    subst e1
    split at h
    · next key n ci hm =>
      split at h
      · next b rest hdr =>
        split at h
        · next cj fs ha =>
          split at h
          · next hc =>
            obtain ⟨rfl, hroom⟩ := hc
            obtain ⟨v, z1, h1, h2⟩ := ai_push_of h
            cases h2
            obtain ⟨M', T, N, q1, q2, q3, q4, q5, q6⟩ := hCs _ _ _ hm
            have hM' := hMs _ _ q1
            have hg := hgr _ _ _ _ _ h1
            rw [hMo] at q3
            have cb := callB_of (R := R) (s := s) (args := args) (Ts := big) (rm := ai_rm d (z'.length - z.length) (ai_c z' - ai_c z)) (mc := z'.length - z.length) (ms := ai_c z' - ai_c z) _ hts (hG M' hM') (show ai_ws big M' = _ from rfl) rfl rfl (hts _ hM'.2.2.2.1) (hts _ q3) ⟨hM'.2.2.2.2.2.2.1.1, hM'.2.2.2.2.2.2.1.2, q6⟩ ⟨hRf, by have := hM'.2.2.2.2.1; show _ + d * 80 ≤ _; omega⟩
            refine ai_ran (va_runV (Ts := big) (As := ((st.take n).reverse).map (ai_v S)) (rest := rest.map (ai_v S)) (b := S + b) ⟨hx, hb, hml, hown, hts⟩ (hsnd _ _ _ _ _ _ q1 h1) ⟨cb, hts _ q4, hts _ q5⟩ ⟨ai_Pc_blind hn, va_recv hK hP q2 (ai_w_get ha), fun U hU hW => hpre _ U hU hW hz⟩ rfl ?_ hls (ai_stack S st n hdr) (lv_room (by rw [ai_cats]; exact hroom)) hd ⟨?_, ?_⟩) hI0 ?_ ?_ (fun H1 l1 hI1 => by rw [ai_topush]; exact kk H1 l1 _ _ hI1)
            · rw [List.length_map, List.length_reverse, List.length_take]; have := ai_drop_len hdr; show min n st.length = n; omega
            · have := hg.1; omega
            · have := hg.2; omega
            · have := hg.1; omega
            · have := hg.2; omega
          · cases h
        · cases h
      · cases h
    · cases h
  · next idx =>
    have e1 : len = 3 := by simpa [ai_lk] using hk
    subst e1
    split at h
    · next key n ci hm =>
      split at h
      · next b rest hdr =>
        split at h
        · next hroom =>
          obtain ⟨v, z1, h1, h2⟩ := ai_push_of h
          cases h2
          obtain ⟨M', q1, q3, q4, q5, q7, q6⟩ := hCs _ _ _ hm
          have hM' := hMs _ _ q1
          have hg := hgr _ _ _ _ _ h1
          rw [hMo] at q3
          have cb := callB_of (R := R) (s := s) (args := args) (Ts := big) (ret := none) (rm := ai_rm d (z'.length - z.length) (ai_c z' - ai_c z)) (mc := z'.length - z.length) (ms := ai_c z' - ai_c z) _ hts (hG M' hM') (show ai_ws big M' = _ from by rw [ai_ws, q7]) rfl rfl (hts _ hM'.2.2.2.1) (hts _ q3) ⟨hM'.2.2.2.2.2.2.1.1, hM'.2.2.2.2.2.2.1.2, q6⟩ ⟨hRf, by have := hM'.2.2.2.2.1; show _ + d * 80 ≤ _; omega⟩
          refine ai_ran (va_runI (Ts := big) (As := ((st.take n).reverse).map (ai_v S)) (rest := rest.map (ai_v S)) (b := S + b) ⟨hx, hb, hml, hown, hts⟩ (hsnd _ _ _ _ _ _ q1 h1) ⟨cb, q5, hts _ q4⟩ ⟨ai_Pc_blind hn, fun U hU hW => hpre _ U hU hW hz⟩ rfl ?_ hls (ai_stack S st n hdr) (lv_room (by rw [ai_cats]; exact hroom)) hd ⟨?_, ?_⟩) hI0 ?_ ?_ (fun H1 l1 hI1 => by rw [ai_topush]; exact kk H1 l1 _ _ hI1)
          · rw [List.length_map, List.length_reverse, List.length_take]; have := ai_drop_len hdr; show min n st.length = n; omega
          · have := hg.1; omega
          · have := hg.2; omega
          · have := hg.1; omega
          · have := hg.2; omega
        · cases h
      · cases h
    · next key n ci hm =>
      split at h
      · next b rest hdr =>
        split at h
        · next hroom =>
          obtain ⟨v, z1, h1, h2⟩ := ai_push_of h
          cases h2
          obtain ⟨M', host, q1, q3, q4, q5, q7, q6⟩ := hCs _ _ _ hm
          have hM' := hMs _ _ q1
          have hg := hgr _ _ _ _ _ h1
          rw [hMo] at q3
          have cb := va_cnB (R := R) (s := s) (args := args) (Ts := big) (ret := none) (rm := ai_rm d (z'.length - z.length) (ai_c z' - ai_c z)) (mc := z'.length - z.length) (ms := ai_c z' - ai_c z) _ hts (hG M' hM') (show ai_ws big M' = _ from by rw [ai_ws, q7]) rfl rfl (hN.1 _ q3) (hts _ hM'.2.2.2.1) ⟨hM'.2.2.2.2.2.2.1.1, hM'.2.2.2.2.2.2.1.2, q6⟩ ⟨hRf, by have := hM'.2.2.2.2.1; show _ + d * 80 ≤ _; omega⟩
          refine ai_ran (va_runIN (Ts := big) (As := ((st.take n).reverse).map (ai_v S)) (rest := rest.map (ai_v S)) (b := S + b) ⟨hx, hb, hml, hown, hts⟩ (hsnd _ _ _ _ _ _ q1 h1) ⟨cb, q5, hts _ q4⟩ ⟨ai_Pc_blind hn, fun U hU hW => hpre _ U hU hW hz⟩ rfl ?_ hls (ai_stack S st n hdr) (lv_room (by rw [ai_cats]; exact hroom)) hd ⟨?_, ?_⟩) hI0 ?_ ?_ (fun H1 l1 hI1 => by rw [ai_topush]; exact kk H1 l1 _ _ hI1)
          · rw [List.length_map, List.length_reverse, List.length_take]; have := ai_drop_len hdr; show min n st.length = n; omega
          · have := hg.1; omega
          · have := hg.2; omega
          · have := hg.1; omega
          · have := hg.2; omega
        · cases h
      · cases h
    · next x1 x2 x3 hm =>
      split at h
      · next b rest =>
        split at h
        · next hroom =>
          cases h
          obtain ⟨q1, q2, q3⟩ := hCs _ _ _ hm
          rw [hMo] at q1
          exact W.objInit hx hb hown (hts _ q1) (hts _ q2) (hts _ q3) rfl (by rw [hml]; exact hls) rfl hd (by omega) (by show 2 * 0 + ((st'.map (ai_v S)).map fun v => v.category).sum + 12 ≤ _; rw [ai_cats]; omega) (kk H locs cells slots hI0)
        · cases h
      · cases h
    · cases h
  · next idx =>
    have e1 : len = 3 := by simpa [ai_lk] using hk
    subst e1
    split at h
    · next key n ci hm =>
      split at h
      · next hroom =>
        obtain ⟨hlen, hroom⟩ := hroom
        obtain ⟨v, z1, h1, h2⟩ := ai_push_of h
        cases h2
        obtain ⟨M', q1, q3, q4, q6⟩ := hCs _ _ _ hm
        have hM' := hMs _ _ q1
        have hg := hgr _ _ _ _ _ h1
        rw [hMo] at q3
        have cb := callB_of (R := R) (s := s) (args := args) (Ts := big) (rm := ai_rm d (z'.length - z.length) (ai_c z' - ai_c z)) (mc := z'.length - z.length) (ms := ai_c z' - ai_c z) _ hts (hG M' hM') (show ai_ws big M' = _ from rfl) rfl rfl (hts _ hM'.2.2.2.1) (hts _ q3) ⟨hM'.2.2.2.2.2.2.1.1, hM'.2.2.2.2.2.2.1.2, q6⟩ ⟨hRf, by have := hM'.2.2.2.2.1; show _ + d * 80 ≤ _; omega⟩
        refine ai_ran (va_runS (Ts := big) (As := ((st.take n).reverse).map (ai_v S)) (rest := (st.drop n).map (ai_v S)) ⟨hx, hb, hml, hown, hts⟩ (hsnd _ _ _ _ _ _ q1 h1) ⟨cb, hts _ q4⟩ ⟨ai_Pc_blind hn, fun U hU hW => hpre _ U hU hW hz⟩ rfl ?_ hls ?_ (lv_room (by rw [ai_cats]; exact hroom)) hd ⟨?_, ?_⟩) hI0 ?_ ?_ (fun H1 l1 hI1 => by rw [ai_topush]; exact kk H1 l1 _ _ hI1)
        · rw [List.length_map, List.length_reverse, List.length_take]; show min n st.length = n; omega
        · show st.map (ai_v S) = _; rw [← List.map_reverse, List.reverse_reverse, ← List.map_append, List.take_append_drop]
        · have := hg.1; omega
        · have := hg.2; omega
        · have := hg.1; omega
        · have := hg.2; omega
      · cases h
    · next x1 x2 x3 hm =>
      obtain ⟨q1, q2, q3, q4⟩ := hCs _ _ _ hm
      rw [hMo] at q1
      exact ai_cpy_W hx hb (hml.trans hls.symm) hown (hts _ q1) (hts _ q2) (hts _ q3) (hts _ q4) (by omega) (by omega) hK t0 hd h hI0 (fun H1 l1 hI1 => kk H1 l1 _ _ hI1)
    · next x1 x2 x3 hm =>
      obtain ⟨q1, q2, q3, q4⟩ := hCs _ _ _ hm
      rw [hMo] at q1
      obtain ⟨x, y, rest, rfl, hroom, hu⟩ := ai_mm_of h
      cases hu
      exact va_mmin hx hb (hml.trans hls.symm) hown (hts _ q1) (hts _ q2) (hts _ q3) (hts _ q4) (by omega) (by rw [ai_cats]; omega) (by omega) (by omega) hd (kk H locs cells slots hI0)
    · next x1 x2 x3 hm =>
      obtain ⟨q1, q2, q3, q4⟩ := hCs _ _ _ hm
      rw [hMo] at q1
      obtain ⟨x, y, rest, rfl, hroom, hu⟩ := ai_mm_of h
      cases hu
      exact va_mmax hx hb (hml.trans hls.symm) hown (hts _ q1) (hts _ q2) (hts _ q3) (hts _ q4) (by omega) (by rw [ai_cats]; omega) (by omega) (by omega) hd (kk H locs cells slots hI0)
    · cases h
  · cases h
/-- what a return must give -/
def ai_Ret (p : Program) (l : Launch) (e : Env) (R : Room) (s : State) (m : MethodId) (args : Array Value) (below : List Frame) (meth : Method) (c : Code) (D : va_G) (cl : List vw_C) (G : Nat → ClassId) (S c0 : Nat) (M : ai_M) (r : Option Value) (z2 : List va_E) (QF : State → Prop) : Prop :=
  ∀ (i : Instr) (len pc : Nat) (st : List Value) (H : Heap) (locs : List Loc) (cells slots : Nat) (ls : Array Slot), decode M.2.1 pc = .ok (i, len) → ai_lk i len = true → ai_ret M.2.2.2.1 i st = some r → ai_I D cl G S c0 s z2 H locs cells slots → W p l e R s m args below meth c H locs cells slots QF (F0 m pc ls (st.map (ai_v S)))
theorem ai_run_W {sc : ai_SC} (hSC : ai_okS sc S s) {M : ai_M} {call : ai_Call} {d mc ms : Nat} {r : Option Value} {z2 : List va_E} {QF : State → Prop} (hTB : ai_TB P cl tl big nests own) (hMo : own M.2.2.2.2.1 = M.1.cls) (hMd : ∀ q ∈ M.2.2.2.2.2.2, decode M.2.1 q.1 = .ok (q.2.1, q.2.2) ∧ ai_lk q.2.1 q.2.2 = true) (hsnd : ai_Snd l D cl G tl big nests S P call d) (hgr : ai_grC call) (hRf : d + 1 ≤ R.frames) (hRl : (d + 1) * 80 ≤ R.locals) (hRc : mc ≤ R.cells) (hRs : ms ≤ R.slots) (hx : p.tables.exec = Jvm.exec) (hb : c.code = M.2.1) (hml : c.maxLocals = M.2.2.1) (hts : ∀ w ∈ big, w.before args s = true) (hN : ai_NS nests s) (hown : s.vm.findClass M.1.cls = some m.cls) (hini : M.2.2.2.2.2.1 = true → meth.name = "<init>") (hS0 : S ≤ s.heap.size) (hK : va_K D cl (ai_tys G tl) s)
    (hmc : S + z2.length = s.heap.size + mc) (hms : ai_c z2 = c0 + ms) (hRet : ai_Ret p l e R s m args below meth c D cl G S c0 M r z2 QF) :
    ∀ (k : Nat) (u : ai_Z), ai_run sc P call M k u = some (r, z2) → ∀ (H : Heap) (locs : List Loc) (cells slots : Nat) (ls : Array Slot), ai_I D cl G S c0 s u.2.2.2 H locs cells slots → ai_L S ls M.2.2.1 u.2.1 → W p l e R s m args below meth c H locs cells slots QF (F0 m u.1 ls (u.2.2.1.map (ai_v S))) := by
  intro k
  induction k with
  | zero => intro u h; cases h
  | succ k ih =>
    intro u h H locs cells slots ls hI hL
    obtain ⟨pc, L, st, z⟩ := u
    have hu : ∀ u', ai_step sc P call M (pc, L, st, z) = some (.inl u') → ai_run sc P call M k u' = some (r, z2) ∧ ai_gr u'.2.2.2 z2 := by
      intro u' he
      have h1 : ai_run sc P call M k u' = some (r, z2) := by
        unfold ai_run at h
        rw [he] at h
        exact h
      exact ⟨h1, ai_run_gr hgr k u' _ h1⟩
    have hv : ∀ r', ai_step sc P call M (pc, L, st, z) = some (.inr r') → r' = (r, z2) := by
      intro r' he
      unfold ai_run at h
      rw [he] at h
      exact Option.some.inj h
    cases hs : ai_step sc P call M (pc, L, st, z) with
    | none =>
      unfold ai_run at h
      rw [hs] at h
      cases h
    | some w =>
      have hs0 := hs
      unfold ai_step at hs
      split at hs
      · cases hs
      · next x1 i len hf =>
        have hq := List.mem_of_find?_eq_some hf
        have hpc : x1 = pc := by simpa using List.find?_some hf
        subst hpc
        obtain ⟨hd, hk⟩ := hMd _ hq
        simp only at hd hk hs
        split at hs
        · split at hs
          · next pc' L' st' he =>
            cases hs
            obtain ⟨g1, g2⟩ := hu _ hs0
            exact ai_simple_W hx hb hd hk hL he (fun ls' hL' => ih _ g1 H locs cells slots ls' hI hL')
          · cases hs
        · obtain ⟨pc', st', z', he, rfl⟩ := ai_lift_of hs
          obtain ⟨g1, g2⟩ := hu _ hs0
          have g3 := g2.1
          have g4 := g2.2
          simp only at g3 g4
          exact ai_hp_W hSC hTB hMo hx hb hts hN hown hini hS0 hK hd hk he hI (by omega) (by omega) (fun H1 l1 c1 s1 hI1 => ih _ g1 H1 l1 c1 s1 ls hI1 hL)
        · obtain ⟨pc', st', z', he, rfl⟩ := ai_lift_of hs
          obtain ⟨g1, g2⟩ := hu _ hs0
          have g3 := g2.1
          have g4 := g2.2
          simp only at g3 g4
          exact ai_inv_W hTB hMo hsnd hgr hRf hRl hx hb hml hts hN hown hS0 hK hL.2.1 hd hk he hI (by omega) (by omega) (fun H1 l1 c1 s1 hI1 => ih _ g1 H1 l1 c1 s1 ls hI1 hL)
        · split at hs
          · next v he =>
            cases hs
            cases hv _ hs0
            exact hRet _ _ _ _ _ _ _ _ _ hd hk he hI
          · cases hs
/-- a method's return -/
theorem ai_Ret_met {M : ai_M} {mc ms : Nat} {r : Option Value} {z2 : List va_E} (hx : p.tables.exec = Jvm.exec) (hb : c.code = M.2.1) (hr : meth.sig.returnType = M.2.2.2.1) (hlocks : meth.locks = false) (hS0 : S ≤ s.heap.size) (hmc : S + z2.length = s.heap.size + mc) (hms : ai_c z2 = c0 + ms) : ai_Ret p l e R s m args below meth c D cl G S c0 M r z2 (MQ below (ai_Qc D cl G S r z2) args s mc ms (fun q => S ≤ q)) := by
  intro i len pc st H locs cells slots ls hd hk he hI
  obtain ⟨hP, hS, hsz, hsl⟩ := hI
  have e1 : cells = mc := by omega
  have e2 : slots = ms := by omega
  subst e1; subst e2
  refine W.sized fun hz0 => ?_
  have hz : H.size = S + z2.length := by
    rcases Nat.eq_zero_or_pos z2.length with h0 | h0
    · have := hS.1; omega
    · have hlt : z2.length - 1 < z2.length := by omega
      have := va_at.lt (hP _ _ (ai_w_get (S := S) (G := G) (List.getElem?_eq_getElem hlt)))
      simp only at this
      omega
  have hpost : ∀ t : State, t.heap = H → s.WarmedH t.vm → ai_Qc D cl G S r z2 args s (.returned (r.map (ai_v S))) t := fun t ht _ => ⟨rfl, by rw [ht]; exact hP, by rw [ht]; exact hz, hS.F ht⟩
  unfold ai_ret at he
  split at he
  · split at he
    · next ty v hrt =>
      split at he
      · next hnar =>
        cases he
        have e3 : len = 1 := by simpa [ai_lk] using hk
        subst e3
        exact W.zret hx hb (hr.trans hrt) hnar hpost hS.2.2 hd hlocks
      · cases he
    · cases he
  · split at he
    · next hrt =>
      cases he
      have e3 : len = 1 := by simpa [ai_lk] using hk
      subst e3
      exact W.vret hx hb (hr.trans hrt) hpost hS.2.2 hd hlocks
    · cases he
  · cases he
theorem ai_sl_len (S : Nat) (vs : List Value) : (lg_sl (vs.map (ai_v S))).length = (lg_sl vs).length := by
  induction vs with
  | nil => rfl
  | cons v t ih =>
    simp only [lg_sl, List.map_cons, List.flatMap_cons, List.length_append, ai_v_cat] at ih ⊢
    rw [ih]
    by_cases hc : v.category = 2 <;> simp [hc]
theorem ai_lv_has (S : Nat) (vs : List Value) {n : Nat} (h : (lg_sl vs).length ≤ n) : ai_L S ((lg_sl (vs.map (ai_v S)) ++ List.replicate (n - (lg_sl (vs.map (ai_v S))).length) Slot.unset).toArray) n (ai_lv vs n) := by
  have hl := lv_entry (vs.map (ai_v S)) (n := n) (by rw [ai_sl_len]; exact h)
  have hlen : ∀ vs : List Value, (vs.flatMap fun v => if v.category = 2 then [some v, none] else [some v]).length = (lg_sl vs).length := by
    intro vs
    induction vs with
    | nil => rfl
    | cons v t ih =>
      simp only [lg_sl, List.flatMap_cons, List.length_append] at ih ⊢
      rw [ih]
      by_cases hc : v.category = 2 <;> simp [hc]
  have hmem : ∀ (vs : List Value) (i j : Nat) (v : Value), (vs.flatMap fun v => if v.category = 2 then [some v, none] else [some v])[j]? = some (some v) → (i + j, ai_v S v) ∈ lv_args i (vs.map (ai_v S)) := by
    intro vs
    induction vs with
    | nil => intro i j v hj; simp at hj
    | cons w t ih =>
      intro i j v hj
      simp only [List.flatMap_cons] at hj
      rw [List.map_cons]
      unfold lv_args
      rw [ai_v_cat]
      by_cases hc : w.category = 2
      · simp only [hc, if_true] at hj ⊢
        match j, hj with
        | 0, hj => cases hj; exact List.mem_cons_self
        | 1, hj => simp at hj
        | j + 2, hj =>
          have := ih (i + 2) j v (by simpa using hj)
          rw [show i + (j + 2) = i + 2 + j by omega]
          exact List.mem_cons_of_mem _ this
      · simp only [hc, if_false] at hj ⊢
        match j, hj with
        | 0, hj => cases hj; exact List.mem_cons_self
        | j + 1, hj =>
          have := ih (i + 1) j v (by simpa using hj)
          rw [show i + (j + 1) = i + 1 + j by omega]
          exact List.mem_cons_of_mem _ this
  refine ⟨by unfold ai_lv; rw [List.length_append, hlen, List.length_replicate]; omega, hl.1, hl.2.1, fun j v hj => ?_⟩
  unfold ai_lv at hj
  rcases Nat.lt_or_ge j (vs.flatMap fun (v : Value) => if v.category = 2 then [some v, none] else [some v]).length with h1 | h1
  · rw [List.getElem?_append_left h1] at hj
    have := hl.2.2 _ (hmem vs 0 j v hj)
    simpa using this
  · rw [List.getElem?_append_right h1, List.getElem?_replicate] at hj
    split at hj <;> cases hj
theorem ai_exec_met {k : Nat} (hTB : ai_TB P cl tl big nests own) : ∀ d : Nat, ai_Snd l D cl G tl big nests S P (ai_exec P k d) d := by
  intro d
  induction d with
  | zero => intro key M vs z r z' _ h; cases h
  | succ d ih =>
    intro key M vs z r z' hkey h
    have hM := hTB.2.2.2.2.1 _ _ hkey
    unfold ai_exec at h
    rw [hkey] at h
    simp only at h
    split at h
    · next hlen =>
      have hg := ai_run_gr (ai_exec_gr d) _ _ _ h
      refine Met.ofW (cc := M.2.1) (maxL := M.2.2.1) (ret := M.2.2.2.1) hM.1 rfl ?_
      intro p e s m args below meth c s₁ B hml hv
      obtain ⟨rfl, hsz, hP, hK, hN⟩ := hv
      have hts : ∀ w ∈ big, w.before (vs.map (ai_v S)).toArray s = true := fun w hw => atoms_spec (ws := ai_ws big M) B.pre w (List.mem_cons_of_mem _ hw)
      have hown : s.vm.findClass M.1.cls = some m.cls := findClass_of_methodNamed B.named
      have hname := (name_of_methodNamed B.named B.method).1
      rw [lg_entry_eq]
      have hm1 : S + z'.length = s.heap.size + (z'.length - z.length) := by have := hg.1; simp only at this; omega
      have hm2 : ai_c z' = ai_c z + (ai_c z' - ai_c z) := by have := hg.2; simp only at this; omega
      exact ai_run_W (sc := none) (fun b n xs h9 => (by cases h9)) (M := M) (call := ai_exec P k d) (d := d) (mc := z'.length - z.length) (ms := ai_c z' - ai_c z) (c0 := ai_c z) hTB hM.2.1 hM.2.2.2.2.2.2.2 ih (ai_exec_gr d) (Nat.le_refl _) (Nat.le_refl _) (Nat.le_refl _) (Nat.le_refl _) B.exec B.bytes hml hts hN hown (fun q => hname.trans (hM.2.2.2.2.2.1 q)) (by omega) hK hm1 hm2 (ai_Ret_met B.exec B.bytes B.returns B.notSynchronized (by omega) hm1 hm2) k (0, ai_lv vs M.2.2.1, [], z) h s.heap [] 0 0 _ ⟨hP, va_S.rf, by show S + z.length = s.heap.size + 0; omega, rfl⟩ (ai_lv_has S vs hlen)
    · cases h
end AiSound
