/-! THE ABSTRACT MACHINE IS SOUND -/
def ai_nest (w : Cond) : Prop := (∃ a i b n d h, w = Cond.fieldLinkNest a i b n d h) ∨ (∃ a i x h, w = Cond.methodLinkNest a i x h) ∨ (∃ a b, w = Cond.castable a b) ∨ ∃ x, w = Cond.declares x
/-- Throwable's two statics -/
def ai_sts : List (String × String) := [("UNASSIGNED_STACK", Bundle.steD), ("SUPPRESSED_SENTINEL", Bundle.listD)]
def ai_St (S : Nat) (U : State) : Prop := ∀ q ∈ ai_sts, (∀ a, (Cond.laysStatic Bundle.tN q.1 q.2).before a U = true) ∧ va_Zq Bundle.tN q.1 q.2 (fun a => S ≤ a) U U.heap
def ai_Sr (U : State) : Prop := ∀ q ∈ ai_sites, ∃ a, vk_R q.1 q.2.2.1 q.2.2.2.2.2.2.2.2.2 a U
def ai_NS (nests : List Cond) (S : Nat) (U : State) : Prop := ((∀ w ∈ nests, va_Nw w U) ∧ va_AO "TickHouse$Instance" U) ∧ ai_St S U ∧ ai_Sr U
theorem ai_isRef_of {C n d : String} {A : Nat → Prop} {U : State} {args : Array Value} (h : va_Zq C n d A U U.heap) : (Cond.isRef (.static C n d)).before args U = true := by
  rcases h with h | ⟨t, h⟩
  · obtain ⟨cf, kf, fi, f, a, cell, h1, h2, h3, h4, h5, h6, h7, h8⟩ := h
    simp [Cond.before, Cond.holds, Cond.value, Term.eval, State.fieldNamed?, h1, h2, h4, h5, h6, h7, Value.isRef]
  · obtain ⟨cf, kf, fi, f, a, cell, h1, h2, h3, h4, h5, h6, h7, h8⟩ := h
    simp [Cond.before, Cond.holds, Cond.value, Term.eval, State.fieldNamed?, h1, h2, h4, h5, h6, h7, Value.isRef]
def ai_Pc (D : va_G) (cl : List vw_C) (tl : List FieldType) (nests : List Cond) (G : Nat → ClassId) (S : Nat) (z : List va_E) (vs : List Value) : Array Value → State → Prop := va_Pc (vs.map (ai_v S)) (fun U => U.heap.size = S + z.length ∧ va_P D cl (ai_w S G z) U.heap ∧ va_K D cl (ai_tys G tl) U ∧ ai_NS nests S U)
def ai_Qc (D : va_G) (cl : List vw_C) (G : Nat → ClassId) (S : Nat) (r : Option Value) (z : List va_E) : Array Value → State → Outcome → State → Prop := fun _ st oc t => oc = .returned (r.map (ai_v S)) ∧ va_P D cl (ai_w S G z) t.heap ∧ t.heap.size = S + z.length ∧ va_F (fun q => S ≤ q) st t
def ai_rm (d mc ms : Nat) : Room := { frames := d + 10, cells := mc, slots := ms, locals := (d + 4) * 80 }
/-- the word of its code, with its handlers -/
def ai_cw (M : ai_M) : Cond := match M.2.2.2.2.2.2.2 with
  | [] => Cond.code M.1 M.2.1 M.2.2.1 M.2.2.2.1
  | hs => Cond.codeWith M.1 M.2.1 M.2.2.1 M.2.2.2.1 (hs.map fun h => (h.1, h.2.1, h.2.2.1, h.2.2.2.1))
theorem ai_cw_nil {M : ai_M} (h : M.2.2.2.2.2.2.2 = []) : ai_cw M = Cond.code M.1 M.2.1 M.2.2.1 M.2.2.2.1 := by unfold ai_cw; rw [h]
theorem ai_cw_cons {M : ai_M} (h : M.2.2.2.2.2.2.2 ≠ []) : ai_cw M = Cond.codeWith M.1 M.2.1 M.2.2.1 M.2.2.2.1 (M.2.2.2.2.2.2.2.map fun h => (h.1, h.2.1, h.2.2.1, h.2.2.2.1)) := by
  unfold ai_cw
  split
  · next h1 => exact absurd h1 h
  · rfl
def ai_ws (big : List Cond) (M : ai_M) : List Cond := ai_cw M :: big
/-- what the tables must say, of the words 'big' and of the nest's 'nests' -/
def ai_okM (big : List Cond) (cl : List vw_C) (own : Nat → String) (M : ai_M) : Prop := plainName M.1.cls = true ∧ own M.2.2.2.2.1 = M.1.cls ∧ ai_cw M ∈ big ∧ Cond.initialized M.1.cls ∈ big ∧ M.2.2.1 ≤ 60 ∧ (M.2.2.2.2.2.1 = true → M.1.name = "<init>") ∧ (M.1.cls ≠ "java/lang/invoke/MethodHandle" ∧ M.1.cls ≠ "java/lang/invoke/VarHandle") ∧ (∀ q ∈ M.2.2.2.2.2.2.1, decode M.2.1 q.1 = .ok (q.2.1, q.2.2) ∧ ai_lk q.2.1 q.2.2 = true) ∧ ∀ h ∈ M.2.2.2.2.2.2.2, h.2.2.2.1 ≠ 0 ∧ ∃ C T N, cl[h.2.2.2.2]? = some (C, T, N) ∧ Cond.classLink M.1.cls h.2.2.2.1 C ∈ big
/-- what a throw of one's own needs -/
def ai_okT (big nests : List Cond) (cl : List vw_C) (q : ai_Site) : Prop := (∃ T, cl[q.2.2.2.2.1]? = some (q.2.2.2.2.2.1, T, 0)) ∧ Bundle.fit q.2.2.2.2.2.1 = true ∧ (∀ n ∈ q.2.2.2.2.2.2.2.2.1, Bundle.fit n = true) ∧ q.2.2.2.2.2.2.2.2.1.length ≤ 4 ∧ (decode q.2.2.2.2.2.2.2.1 0 = .ok (.aload_n 0, 1) ∧ decode q.2.2.2.2.2.2.2.1 1 = .ok (.aload_n 1, 1) ∧ decode q.2.2.2.2.2.2.2.1 2 = .ok (.invokespecial q.2.2.2.2.2.2.1, 3) ∧ decode q.2.2.2.2.2.2.2.1 5 = .ok (.return_, 1)) ∧ (Cond.classLink q.1 q.2.1 q.2.2.2.2.2.1 ∈ big ∧ Cond.instantiable q.2.2.2.2.2.1 6 ∈ big ∧ Cond.initialized q.2.2.2.2.2.1 ∈ big) ∧
  ∀ w ∈ ai_ownX q.1 q.2.2.2.1 q.2.2.2.2.2.1 q.2.2.2.2.2.2.1 q.2.2.2.2.2.2.2.1 q.2.2.2.2.2.2.2.2.1, w ∈ big ∨ (w ∈ nests ∧ w.onTables = true) ∨ ∃ x ∈ ai_sts, w = Cond.laysStatic Bundle.tN x.1 x.2 ∨ w = Cond.isRef (.static Bundle.tN x.1 x.2)
def ai_okF (big nests : List Cond) (cl : List vw_C) (own : String) (idx : Nat) (f : Nat × Nat × FieldType × Bool) : Prop := ∃ (C : String) (T : u_T) (N : Nat), cl[f.1]? = some (C, T, N) ∧ f.2.1 < N ∧ (Cond.fieldLink own idx (T f.2.1).1 (T f.2.1).2.1 (T f.2.1).2.2.1 ∈ big ∨ (f.2.2.2 = false ∧ ∃ host, Cond.fieldLinkNest own idx (T f.2.1).1 (T f.2.1).2.1 (T f.2.1).2.2.1 host ∈ nests)) ∧ parseFieldDescriptor (T f.2.1).2.2.1 = some f.2.2.1 ∧ (T f.2.1).2.2.2 = f.2.2.2 ∧ (T f.2.1).1 = C
def ai_okN (big : List Cond) (cl : List vw_C) (df : Nat → List Value) (own : String) (idx ci : Nat) : Prop := ∃ (C : String) (T : u_T) (N : Nat) (ty : Nat → FieldType), cl[ci]? = some (C, T, N) ∧ (∀ k, k < N → parseFieldDescriptor (T k).2.2.1 = some (ty k)) ∧ Cond.classLink own idx C ∈ big ∧ Cond.instantiable C N ∈ big ∧ Cond.initialized C ∈ big ∧ (df ci).length = N ∧ ∀ j, j < N → defaultValue (ty j) = vp_V (df ci) j
def ai_okC (big nests : List Cond) (cl : List vw_C) (mt : Nat → Option ai_M) (own : String) (idx : Nat) (q : Nat × Nat × Nat × Nat) : Prop := match q.1 with
  | 0 => ∃ M T N, mt q.2.1 = some M ∧ cl[q.2.2.2]? = some (M.1.cls, T, N) ∧ Cond.methodLink own idx M.1 ∈ big ∧ Cond.instanceMethod M.1 ∈ big ∧ Cond.selects M.1.cls M.1 M.1 ∈ big ∧ (parseMethodDescriptor M.1.desc).map (fun d => d.parameters.length) = some q.2.2.1
  | 1 => ∃ M, mt q.2.1 = some M ∧ Cond.methodLink own idx M.1 ∈ big ∧ Cond.instanceMethod M.1 ∈ big ∧ M.1.name = "<init>" ∧ (M.2.2.2.1 = none ∧ M.2.2.2.2.2.2.2 = []) ∧ (parseMethodDescriptor M.1.desc).map (fun d => d.parameters.length) = some q.2.2.1
  | 2 => ∃ M, mt q.2.1 = some M ∧ Cond.methodLink own idx M.1 ∈ big ∧ Cond.static M.1 ∈ big ∧ (parseMethodDescriptor M.1.desc).map (fun d => d.parameters.length) = some q.2.2.1
  | 4 => ∃ M host, mt q.2.1 = some M ∧ Cond.methodLinkNest own idx M.1 host ∈ nests ∧ Cond.instanceMethod M.1 ∈ big ∧ M.1.name = "<init>" ∧ (M.2.2.2.1 = none ∧ M.2.2.2.2.2.2.2 = []) ∧ (parseMethodDescriptor M.1.desc).map (fun d => d.parameters.length) = some q.2.2.1
  | 5 => Cond.methodLink own idx arraycopyName ∈ big ∧ Cond.native arraycopyName ∈ big ∧ Cond.static arraycopyName ∈ big ∧ Cond.initialized "java/lang/System" ∈ big
  | 6 => Cond.methodLink own idx Lib.Math.min.name ∈ big ∧ Cond.static Lib.Math.min.name ∈ big ∧ Cond.initialized "java/lang/Math" ∈ big ∧ Cond.code Lib.Math.min.name Lib.Math.min.code 2 (some .int) ∈ big
  | 7 => Cond.methodLink own idx Lib.Math.max.name ∈ big ∧ Cond.static Lib.Math.max.name ∈ big ∧ Cond.initialized "java/lang/Math" ∈ big ∧ Cond.code Lib.Math.max.name Lib.Math.max.code 2 (some .int) ∈ big
  | 3 => Cond.methodLink own idx Lib.objectInit ∈ big ∧ Cond.instanceMethod Lib.objectInit ∈ big ∧ Cond.code Lib.objectInit ⟨#[0xb1]⟩ 1 none ∈ big
  | _ => True
def ai_TB (P : ai_P) (cl : List vw_C) (tl : List FieldType) (big nests : List Cond) (own : Nat → String) : Prop :=
  (∀ w ∈ big, (w.onTables && w.keeps) = true ∨ ∃ ty, w = .arrayClass ty) ∧
  (∀ w ∈ nests, ai_nest w) ∧
  (tl[0]? = some .int ∧ tl[1]? = some .boolean ∧ tl[2]? = some .char ∧ Cond.arrayClass .int ∈ big ∧ Cond.arrayClass .boolean ∈ big ∧ Cond.arrayClass .char ∈ big) ∧
  (ai_CL cl big ∧ ∀ (ci : Nat) (C : String) (T : u_T) (N : Nat), cl[ci]? = some (C, T, N) → own ci = C) ∧
  (∀ key M, P.1 key = some M → ai_okM big cl own M) ∧
  (∀ c idx f, P.2.1 c idx = some f → ai_okF big nests cl (own c) idx f) ∧
  (∀ c idx ci, P.2.2.1 c idx = some ci → ai_okN big cl P.2.2.2.2.1 (own c) idx ci) ∧
  (∀ c idx q, P.2.2.2.1 c idx = some q → ai_okC big nests cl P.1 (own c) idx q) ∧
  (∀ c idx v, P.2.2.2.2.2 c idx = some (.int v) → Cond.constant (own c) idx v ∈ big) ∧
  (∀ c idx v, P.2.2.2.2.2 c idx = some (.long v) → Cond.constantLong (own c) idx v ∈ big) ∧
  (tl[3]? = some .long ∧ Cond.arrayClass .long ∈ big) ∧ tl[4]? = some (.object "TickHouse$Instance") ∧ ∃ T0 N0, cl[2]? = some ("TickHouse$Instance", T0, N0)
theorem ai_Pc_blind {D : va_G} {cl : List vw_C} {tl : List FieldType} {nests : List Cond} {G : Nat → ClassId} {S : Nat} {z : List va_E} {vs : List Value} (hn : ∀ w ∈ nests, ai_nest w) : FrameBlind (ai_Pc D cl tl nests G S z vs) := by
  intro a U g mk q
  obtain ⟨q0, q1, qP, qK, qN⟩ := q
  refine ⟨q0, q1, qP, va_K.moved (u := U) (U := U.calling g mk a) (Vm.Alike.refl U.vm) qK, ⟨fun w hw => ?_, va_AO.moved (u := U) (U := U.calling g mk a) (Vm.Alike.refl U.vm) qN.1.2⟩, fun q hq => ⟨fun a' => ?_, va_Zq.moved (u := U) (U := U.calling g mk a) (Vm.Alike.refl U.vm) (qN.2.1 q hq).2⟩, fun q hq => ?_⟩
  · rcases hn w hw with ⟨a1, i, b, n, d, h, rfl⟩ | ⟨a1, i, x, h, rfl⟩ | ⟨a1, b1, rfl⟩ | ⟨x, rfl⟩ <;> exact va_Nw.same rfl (rfl : U.vm = (U.calling g mk a).vm) (qN.1.1 _ hw)
  · obtain ⟨c, k, i, f, ad, cell, h1, h2, h3, h4, h5, h6, h7, h8, h9⟩ := Cond.laysStatic_spec ((qN.2.1 q hq).1 a')
    exact Cond.laysStatic_of (s := U.calling g mk a) h1 h2 h3 h4 h5 h6 h7 h8 h9
  · obtain ⟨ad, h1⟩ := qN.2.2 q hq
    exact ⟨ad, vk_R.same (u := U) rfl h1⟩
theorem ai_NS.warm {nests : List Cond} {S : Nat} {s U : State} (hn : ∀ w ∈ nests, ai_nest w) (h : ai_NS nests S s) (hW : s.WarmedH U.vm) (hS : S ≤ s.heap.size) (hh : ∀ q : Nat, q < s.heap.size → ¬ S ≤ q → U.heap[q]? = s.heap[q]?) : ai_NS nests S U := by
  refine ⟨⟨fun w hw => ?_, va_AO.moved hW.alike h.1.2⟩, fun q hq => ?_, fun q hq => ?_⟩
  · rcases hn w hw with ⟨a1, i, b, n, d, h', rfl⟩ | ⟨a1, i, x, h', rfl⟩ | ⟨a1, b1, rfl⟩ | ⟨x, rfl⟩
    · exact va_Nw.warmF hW (h.1.1 _ hw)
    · exact va_Nw.warmM hW (h.1.1 _ hw)
    · exact va_Nw.warmC hW (h.1.1 _ hw)
    · exact va_Nw.warmD hW (h.1.1 _ hw)
  · obtain ⟨g1, g2⟩ := h.2.1 q hq
    refine ⟨fun a' => ?_, va_Zq.moved hW.alike (g2.kept hh)⟩
    obtain ⟨c, k, i, f, ad, cell, h1, h2, h3, h4, h5, h6, h7, h8, h9⟩ := Cond.laysStatic_spec (g1 a')
    have hc2 : U.vm.findClass Bundle.tN = some c := by rw [hW.alike.findClass]; exact h1
    have hlt : ad < s.heap.size := (Array.getElem?_eq_some_iff.mp h5).1
    have hnS : ¬ S ≤ ad := by
      have key : ∀ v : Value, va_Z Bundle.tN q.1 q.2 v (fun a => S ≤ a) s s.heap → ¬ S ≤ ad := by
        intro v hz
        obtain ⟨cf, kf, fi, f', a0, cell0, e1, e2, e3, e4, e5, e6, e7, e8⟩ := hz
        rw [h2] at e1
        cases e1
        rw [h4] at e4
        cases e4
        exact e8
      rcases g2 with g2 | ⟨t, g2⟩
      · exact key _ g2
      · exact key _ g2
    have hc : U.heap[ad]? = some cell := by rw [hh ad hlt hnS]; exact h5
    obtain ⟨k', hf', he⟩ := State.fieldFound?_setVm hW.alike h2
    exact Cond.laysStatic_of (s := U) hc2 hf' h3 (by rw [he]; exact h4) hc h6 h7 h8 (by rw [he]; exact h9)
  · obtain ⟨ad, h1⟩ := h.2.2 q hq
    exact ⟨ad, vk_R.warm hW h1⟩
section AiSound
variable {p : Program} {l : Launch} {e : Env} {R : Room} {s : State} {m : MethodId} {args : Array Value} {below : List Frame} {meth : Method} {c : Code} {H : Heap} {locs : List Loc} {cells slots : Nat} {Q : State → Prop}
variable {cc : ByteArray} {pc pc' nL S c0 : Nat} {ls : Array Slot} {st st' : List Value} {z z' : List va_E} {D : va_G} {cl : List vw_C} {G : Nat → ClassId} {tl : List FieldType} {P : ai_P} {big nests : List Cond} {own : Nat → String}
theorem ai_okF.fl (hTB : ai_TB P cl tl big nests own) (hts : ∀ w ∈ big, w.before args s = true) (hN : ai_NS nests S s) (k : Nat) : ai_FL (own k) cl s args (P.2.1 k) := by
  intro idx ci j ty fin h
  obtain ⟨C, T, N, h1, h2, h3, h4, h5, h6⟩ := hTB.2.2.2.2.2.1 _ _ _ h
  refine ⟨C, T, N, h1, h2, ?_, h4, h5, h6⟩
  rcases h3 with h3 | ⟨hf, host, h3⟩
  · exact Or.inl (hts _ h3)
  · exact Or.inr ⟨hf, host, va_Nw.use rfl (hN.1.1 _ h3)⟩
theorem ai_okN.nw (hTB : ai_TB P cl tl big nests own) (hts : ∀ w ∈ big, w.before args s = true) (k : Nat) : ai_NW (own k) cl s args (P.2.2.1 k) P.2.2.2.2.1 := by
  intro idx ci h
  obtain ⟨C, T, N, ty, h1, h2, h3, h4, h5, h6, h7⟩ := hTB.2.2.2.2.2.2.1 _ _ _ h
  exact ⟨C, T, N, ty, h1, h2, hts _ h3, hts _ h4, hts _ h5, h6, h7⟩
/-- behind a call -/
theorem ai_ran {mc ms : Nat} {r : Option Value} {rest st0 : List Value} {a : Array Value} (hr : va_Run p l e R s m args below meth c H locs cells slots mc ms (F0 m pc ls st0) rest (ai_Qc D cl G S r z' a) (fun q => S ≤ q)) (hI : ai_I D cl G S c0 s z H locs cells slots) (hmc : z'.length = z.length + mc) (hms : ai_c z' = ai_c z + ms)
    (kk : ∀ (H1 : Heap) (locs1 : List Loc), ai_I D cl G S c0 s z' H1 locs1 (cells + mc) (slots + ms) → W p l e R s m args below meth c H1 locs1 (cells + mc) (slots + ms) Q (F0 m (pc + 3) ls ((r.map (ai_v S)).toList ++ rest))) : W p l e R s m args below meth c H locs cells slots Q (F0 m pc ls st0) := by
  intro T hT X
  obtain ⟨v, st₀, t, T', L, h0, X', hL, e1, e2, ⟨hv, hP, hz, hz2, hk⟩, st⟩ := hr T hT X
  cases hv
  rw [h0] at hz2 hk
  have hS := hI.2.1
  obtain ⟨t2, a1, b1⟩ := kk T'.heap (locs ++ L) ⟨by rw [e1]; exact hP, ⟨Nat.le_trans hS.1 (by rw [e1]; exact hz2), fun q h1 h2 => by rw [e1, hk q (Nat.lt_of_lt_of_le h1 hS.1) h2]; exact hS.2.1 q h1 h2, fun q hq => by
      rcases List.mem_append.mp hq with h | h
      · exact hS.2.2 q h
      · exact hL q h⟩, by have := hI.2.2.1; omega, by have := hI.2.2.2; omega⟩ T' rfl X'
  exact ⟨t2, st t2 a1, b1⟩
/-- the callees are sound, at a depth -/
def ai_Qt (D : va_G) (cl : List vw_C) (G : Nat → ClassId) (S a : Nat) (z : List va_E) : Array Value → State → Outcome → State → Prop := fun _ st oc t => oc = .threw (S + a) ∧ va_P D cl (ai_w S G z) t.heap ∧ t.heap.size = S + z.length ∧ va_F (fun q => S ≤ q) st t
def ai_Snd (l : Launch) (D : va_G) (cl : List vw_C) (G : Nat → ClassId) (tl : List FieldType) (big nests : List Cond) (S : Nat) (P : ai_P) (call : ai_Call) (d : Nat) : Prop := ∀ key M vs z r z', P.1 key = some M → call key vs z = some (r, z') →
  (ai_nt r → Met l M.1 (ai_ws big M) (ai_rm d (z'.length - z.length) (ai_c z' - ai_c z)) (ai_Pc D cl tl nests G S z vs) (ai_Qc D cl G S r z') (z'.length - z.length) (ai_c z' - ai_c z) (fun q => S ≤ q)) ∧
  ∀ a, r = some (.retAddr a) → M.2.2.2.2.2.2.2 = [] ∧ ai_MetT l M.1 (ai_ws big M) (ai_rm d (z'.length - z.length) (ai_c z' - ai_c z)) (ai_Pc D cl tl nests G S z vs) (ai_Qt D cl G S a z') (z'.length - z.length) (ai_c z' - ai_c z) S
theorem ai_sig_of {M : ai_M} {U : State} {a' : Array Value} (h : (ai_cw M).before a' U = true) : ai_sig U M.1 := by
  by_cases h0 : M.2.2.2.2.2.2.2 = []
  · rw [ai_cw_nil h0] at h; exact ai_sig_code h
  · rw [ai_cw_cons h0] at h; exact ai_sig_with h
theorem ai_Back {M : ai_M} {d mc ms : Nat} {Pc : Array Value → State → Prop} {Qc : Array Value → State → Outcome → State → Prop} (hgood : ∀ w ∈ big, (w.onTables && w.keeps) = true ∨ ∃ ty, w = .arrayClass ty) (hts : ∀ w ∈ big, w.before args s = true) (hM : ai_okM big cl own M) (hMet : Met l M.1 (ai_ws big M) (ai_rm d mc ms) Pc Qc mc ms (fun q => S ≤ q)) (hbl : FrameBlind Pc) (hRf : d + 11 ≤ R.frames) (hRl : (d + 5) * 80 ≤ R.locals) : Back l R p e below s args M.1 3 8 (PreOf R mc ms Pc) (PostOf Qc mc ms (fun q => S ≤ q)) := by
  have hw : ∀ w ∈ big, ∀ a' U, s.WarmedH U.vm → w.before a' U = true := fun w hw a' U hW => word_at hW (hgood w hw) (hts w hw)
  have hws : ∀ w ∈ ai_ws big M, ∀ a' U, s.WarmedH U.vm → w.before a' U = true := by
    intro w h9
    rcases List.mem_cons.mp h9 with rfl | h9
    · exact hw _ hM.2.2.1
    · exact hw _ h9
  have hlo : 8 + (M.2.2.1 + 11) + (ai_rm d mc ms).locals ≤ R.locals := by have := hM.2.2.2.2.1; show 8 + (M.2.2.1 + 11) + (d + 4) * 80 ≤ _; omega
  by_cases h0 : M.2.2.2.2.2.2.2 = []
  · exact back_of hMet hbl rfl rfl hRf hlo hws (by rw [← ai_cw_nil h0]; exact List.mem_cons_self) (hw _ hM.2.2.2.1)
  · exact ai_backWith hMet hbl rfl rfl hRf hlo hws (by rw [← ai_cw_cons h0]; exact List.mem_cons_self) (hw _ hM.2.2.2.1)
theorem ai_hp_W {sc : ai_SC} (hSC : ai_okS sc S s) {M : ai_M} {i : Instr} {len : Nat} (hTB : ai_TB P cl tl big nests own) (hMo : own M.2.2.2.2.1 = M.1.cls) (hx : p.tables.exec = Jvm.exec) (hb : c.code = M.2.1) (hts : ∀ w ∈ big, w.before args s = true) (hN : ai_NS nests S s) (hown : s.vm.findClass M.1.cls = some m.cls) (hini : M.2.2.2.2.2.1 = true → meth.name = "<init>") (hS0 : S ≤ s.heap.size) (hK : va_K D cl (ai_tys G tl) s)
    (hd : decode M.2.1 pc = .ok (i, len)) (hk : ai_lk i len = true) (h : ai_hp sc (P.2.1 M.2.2.2.2.1) (P.2.2.1 M.2.2.2.2.1) P.2.2.2.2.1 (P.2.2.2.2.2 M.2.2.2.2.1) (ai_ini M) i pc st z = some (pc', st', z')) (hI : ai_I D cl G S c0 s z H locs cells slots) (hrc : S + z'.length ≤ s.heap.size + R.cells) (hrs : ai_c z' ≤ c0 + R.slots)
    (kk : ∀ (H1 : Heap) (locs1 : List Loc) (cells1 slots1 : Nat), ai_I D cl G S c0 s z' H1 locs1 cells1 slots1 → W p l e R s m args below meth c H1 locs1 cells1 slots1 Q (F0 m pc' ls (st'.map (ai_v S)))) : W p l e R s m args below meth c H locs cells slots Q (F0 m pc ls (st.map (ai_v S))) := by
  have hFL := ai_okF.fl hTB hts hN M.2.2.2.2.1
  have hNW := ai_okN.nw hTB hts M.2.2.2.2.1
  have hCi : ∀ idx v, P.2.2.2.2.2 M.2.2.2.2.1 idx = some (.int v) → (Cond.constant (own M.2.2.2.2.1) idx v).before args s = true := fun idx v h9 => hts _ (hTB.2.2.2.2.2.2.2.2.1 _ _ _ h9)
  have hCl : ∀ idx v, P.2.2.2.2.2 M.2.2.2.2.1 idx = some (.long v) → (Cond.constantLong (own M.2.2.2.2.1) idx v).before args s = true := fun idx v h9 => hts _ (hTB.2.2.2.2.2.2.2.2.2.1 _ _ _ h9)
  rw [hMo] at hFL hNW
  rw [hMo] at hCi hCl
  obtain ⟨-, -, ⟨t0, t1, t2, a0, a1, a2⟩, ⟨hCL, hCO⟩, -, -, -, -, -, -, ⟨t3, a3⟩, t4, T0, N0, hcl2⟩ := hTB
  have hini' : ∀ ci, ai_ini M ci = true → meth.name = "<init>" ∧ ∀ C T N, cl[ci]? = some (C, T, N) → C = M.1.cls := by
    intro ci h9
    simp only [ai_ini, Bool.and_eq_true, beq_iff_eq] at h9
    refine ⟨hini h9.1, fun C T N h8 => ?_⟩
    have h7 := hCO _ _ _ _ h8
    rw [← h7, h9.2]
    exact hMo
  unfold ai_hp at h
  split at h
  · have e1 : len = 3 := by simpa [ai_lk] using hk
    subst e1
    exact ai_gf_W hx hb hts hown hK hCL hFL hd h hI (fun h1 => kk _ _ _ _ h1)
  · have e1 : len = 3 := by simpa [ai_lk] using hk
    subst e1
    exact ai_pf_W hx hb hts hown hini' hK hCL hFL hd h hI (fun H1 l1 h1 => kk H1 l1 _ _ h1)
  · have e1 : len = 1 := by simpa [ai_lk] using hk
    subst e1
    exact ai_iald_W hx hb hK t0 hSC hd h hI (fun h1 => kk _ _ _ _ h1)
  · have e1 : len = 1 := by simpa [ai_lk] using hk
    subst e1
    exact ai_baload_W hx hb hK t1 hd h hI (fun h1 => kk _ _ _ _ h1)
  · have e1 : len = 1 := by simpa [ai_lk] using hk
    subst e1
    exact ai_caload_W hx hb hK t2 hd h hI (fun h1 => kk _ _ _ _ h1)
  · have e1 : len = 1 := by simpa [ai_lk] using hk
    subst e1
    exact ai_iastore_W hx hb hK t0 hd h hI (fun H1 l1 h1 => kk H1 l1 _ _ h1)
  · have e1 : len = 1 := by simpa [ai_lk] using hk
    subst e1
    exact ai_bastore_W hx hb hK t1 hd h hI (fun H1 l1 h1 => kk H1 l1 _ _ h1)
  · have e1 : len = 1 := by simpa [ai_lk] using hk
    subst e1
    exact ai_castore_W hx hb hK t2 hd h hI (fun H1 l1 h1 => kk H1 l1 _ _ h1)
  · have e1 : len = 3 := by simpa [ai_lk] using hk
    subst e1
    exact ai_new_W hx hb hts hown hS0 hK hCL hNW hd h hI hrc hrs (fun H1 c1 s1 h1 => kk H1 _ c1 s1 h1)
  · have e1 : len = 2 := by simpa [ai_lk] using hk
    subst e1
    exact ai_nwai_W hx hb (hts _ a0) hS0 hK t0 hd h hI hrc hrs (fun H1 c1 s1 h1 => kk H1 _ c1 s1 h1)
  · have e1 : len = 2 := by simpa [ai_lk] using hk
    subst e1
    exact ai_nwaz_W hx hb (hts _ a1) hS0 hK t1 hd h hI hrc hrs (fun H1 c1 s1 h1 => kk H1 _ c1 s1 h1)
  · have e1 : len = 2 := by simpa [ai_lk] using hk
    subst e1
    exact ai_nwac_W hx hb (hts _ a2) hS0 hK t2 hd h hI hrc hrs (fun H1 c1 s1 h1 => kk H1 _ c1 s1 h1)
  · have e1 : len = 2 := by simpa [ai_lk] using hk
    subst e1
    exact ai_nwal_W hx hb (hts _ a3) hS0 hK t3 hd h hI hrc hrs (fun H1 c1 s1 h1 => kk H1 _ c1 s1 h1)
  · have e1 : len = 1 := by simpa [ai_lk] using hk
    subst e1
    exact ai_laload_W hx hb hK t3 hd h hI (fun h1 => kk _ _ _ _ h1)
  · have e1 : len = 1 := by simpa [ai_lk] using hk
    subst e1
    exact ai_lastore_W hx hb hK t3 hd h hI (fun H1 l1 h1 => kk H1 l1 _ _ h1)
  · have e1 : len = 1 := by simpa [ai_lk] using hk
    subst e1
    exact ai_alen_W hx hb hK t0 t1 t2 hSC hd h hI (fun h1 => kk _ _ _ _ h1)
  · have e1 : len = 1 := by simpa [ai_lk] using hk
    subst e1
    exact ai_aald_W hx hb hK t4 hd h hI (fun h1 => kk _ _ _ _ h1)
  · have e1 : len = 1 := by simpa [ai_lk] using hk
    subst e1
    exact ai_aast_W hx hb hK hcl2 t4 hd h hI (fun H1 l1 h1 => kk H1 l1 _ _ h1)
  · have e1 : len = 3 := by simpa [ai_lk] using hk
    subst e1
    exact ai_nwq_W hx hb hown hN.1.2 hS0 hK hcl2 t4 hNW hd h hI hrc hrs (fun H1 c1 s1 h1 => kk H1 _ c1 s1 h1)
  · next idx =>
    have e1 : len = 2 := by simpa [ai_lk] using hk
    subst e1
    unfold ai_ldk at h
    split at h
    · next v hv =>
      simp only [show ¬ (2 : Nat) = 4 by decide, if_false, Option.some.injEq, Prod.mk.injEq] at h
      obtain ⟨rfl, rfl, rfl⟩ := h
      exact lv_ldc hx hb hown (hCi _ _ hv) hd (kk _ _ _ _ hI)
    · simp at h
    · cases h
  · next idx =>
    have e1 : len = 3 := by simpa [ai_lk] using hk
    subst e1
    unfold ai_ldk at h
    split at h
    · next v hv =>
      simp only [show ¬ (3 : Nat) = 4 by decide, if_false, Option.some.injEq, Prod.mk.injEq] at h
      obtain ⟨rfl, rfl, rfl⟩ := h
      exact lv_ldcw hx hb hown (hCi _ _ hv) hd (kk _ _ _ _ hI)
    · simp at h
    · cases h
  · next idx =>
    have e1 : len = 3 := by simpa [ai_lk] using hk
    subst e1
    unfold ai_ldk at h
    split at h
    · simp at h
    · next v hv =>
      simp only [if_true, Option.some.injEq, Prod.mk.injEq] at h
      obtain ⟨rfl, rfl, rfl⟩ := h
      exact lv_ldc2 hx hb hown (hCl _ _ hv) hd (kk _ _ _ _ hI)
    · cases h
  · cases h
theorem ai_stack (S : Nat) (st : List Value) (n : Nat) {b : Nat} {rest : List Value} (h : st.drop n = .ref b :: rest) : st.map (ai_v S) = (((st.take n).reverse).map (ai_v S)).reverse ++ .ref (S + b) :: rest.map (ai_v S) := by
  have e1 : Value.ref (S + b) :: rest.map (ai_v S) = (st.drop n).map (ai_v S) := by rw [h]; rfl
  rw [e1, ← List.map_reverse, List.reverse_reverse, ← List.map_append, List.take_append_drop]
theorem ai_topush (S : Nat) (v : Option Value) (rest : List Value) : (v.map (ai_v S)).toList ++ rest.map (ai_v S) = (v.toList ++ rest).map (ai_v S) := by cases v <;> simp
theorem ai_drop_len {st : List Value} {n : Nat} {v : Value} {rest : List Value} (h : st.drop n = v :: rest) : n ≤ st.length := by
  rcases Nat.lt_or_ge st.length n with h1 | h1
  · rw [List.drop_eq_nil_of_le (by omega)] at h; cases h
  · exact h1
theorem ai_inv_W {M : ai_M} {call : ai_Call} {d : Nat} {i : Instr} {len : Nat} (hTB : ai_TB P cl tl big nests own) (hMo : own M.2.2.2.2.1 = M.1.cls) (hsnd : ai_Snd l D cl G tl big nests S P call d) (hgr : ai_grC call) (hRf : d + 11 ≤ R.frames) (hRl : (d + 5) * 80 ≤ R.locals) (hx : p.tables.exec = Jvm.exec) (hb : c.code = M.2.1) (hml : c.maxLocals = M.2.2.1) (hts : ∀ w ∈ big, w.before args s = true) (hN : ai_NS nests S s) (hown : s.vm.findClass M.1.cls = some m.cls) (hS0 : S ≤ s.heap.size) (hK : va_K D cl (ai_tys G tl) s) (hls : ls.size = M.2.2.1)
    (hd : decode M.2.1 pc = .ok (i, len)) (hk : ai_lk i len = true) (h : ai_inv (P.2.2.2.1 M.2.2.2.2.1) call i pc st z = some (pc', st', z')) (hI : ai_I D cl G S c0 s z H locs cells slots) (hrc : S + z'.length ≤ s.heap.size + R.cells) (hrs : ai_c z' ≤ c0 + R.slots)
    (kk : ∀ (H1 : Heap) (locs1 : List Loc) (cells1 slots1 : Nat), ai_I D cl G S c0 s z' H1 locs1 cells1 slots1 → W p l e R s m args below meth c H1 locs1 cells1 slots1 Q (F0 m pc' ls (st'.map (ai_v S)))) : W p l e R s m args below meth c H locs cells slots Q (F0 m pc ls (st.map (ai_v S))) := by
  obtain ⟨hgood, hn, ⟨t0, -⟩, -, hMs, -, -, hCs, -⟩ := hTB
  have hI0 := hI
  obtain ⟨hP, hS, hsz, hsl⟩ := hI
  have hG : ∀ M', ai_okM big cl own M' → GoodIn big (ai_ws big M') := by
    intro M' hM' w hw
    rcases List.mem_cons.mp hw with rfl | hw
    · exact ⟨hM'.2.2.1, hgood _ hM'.2.2.1⟩
    · exact ⟨hw, hgood _ hw⟩
  have hpre : ∀ vs : List Value, ∀ U : State, U.heap = H → s.WarmedH U.vm → H.size = S + z.length → ai_Pc D cl tl nests G S z vs (vs.map (ai_v S)).toArray U := fun vs U hU hW hz => ⟨rfl, by rw [hU]; exact hz, by rw [hU]; exact hP, va_K.moved hW.alike hK, hN.warm hn hW hS0 (by rw [hU]; exact hS.2.1)⟩
  have hHs : H.size ≤ s.heap.size + cells → H.size = S + z.length := by
    intro hz
    rcases Nat.eq_zero_or_pos z.length with h0 | h0
    · have := hS.1; omega
    · have hlt : z.length - 1 < z.length := by omega
      have := va_at.lt (hP _ _ (ai_w_get (S := S) (G := G) (List.getElem?_eq_getElem hlt)))
      simp only at this
      omega
  refine W.sized fun hz0 => ?_
  have hz := hHs hz0
  unfold ai_inv at h
  split at h
  · next idx =>
    have e1 : len = 3 := by simpa [ai_lk] using hk
    subst e1
    split at h
    · next key n ci hm =>
      split at h
      · next b rest hdr =>
        split at h
        · next cj fs ha =>
          split at h
          · next hc =>
            obtain ⟨rfl, hroom⟩ := hc
            obtain ⟨v, z1, h1, hnt, h2⟩ := ai_push_of h
            cases h2
            obtain ⟨M', T, N, q1, q2, q3, q4, q5, q6⟩ := hCs _ _ _ hm
            have hM' := hMs _ _ q1
            have hg := hgr _ _ _ _ _ h1
            rw [hMo] at q3
            have hBk := ai_Back (p := p) (e := e) (below := below) (R := R) (S := S) hgood hts hM' ((hsnd _ _ _ _ _ _ q1 h1).1 hnt) (ai_Pc_blind hn) hRf hRl
            obtain ⟨cellB, hcB1, hcB2, hcB3⟩ := va_recv hK hP q2 (ai_w_get ha)
            refine ai_ran (ai_goRun (av := .ref (S + b) :: ((st.take n).reverse).map (ai_v S)) (rest := rest.map (ai_v S)) (g := F0 m pc ls (st.map (ai_v S))) (fun T hT X => ai_goV X hx hown (hts _ q3) (hts _ q4) (hts _ q5) (ai_sig_of (hts _ hM'.2.2.1)) hM'.2.2.2.2.2.2.1 q6 (by rw [hT]; exact hcB1) hcB2 hcB3 (g := F0 m pc ls (st.map (ai_v S))) rfl (As := ((st.take n).reverse).map (ai_v S)) ?_ (ai_stack S st n hdr) (by rw [hb]; exact hd)) hBk rfl (hls.trans hml.symm) (by rw [hb]; exact hd) (by show 2 * 0 + _ ≤ 8; rw [ai_cats]; omega) ⟨?_, ?_⟩ (fun U hU hW => hpre _ U hU hW hz)) hI0 ?_ ?_ (fun H1 l1 hI1 => by rw [ai_topush]; exact kk H1 l1 _ _ hI1)
            · rw [List.length_map, List.length_reverse, List.length_take]; have := ai_drop_len hdr; show min n st.length = n; omega
            · have := hg.1; omega
            · have := hg.2; omega
            · have := hg.1; omega
            · have := hg.2; omega
          · cases h
        · cases h
      · cases h
    · cases h
  · next idx =>
    have e1 : len = 3 := by simpa [ai_lk] using hk
    subst e1
    split at h
    · next key n ci hm =>
      split at h
      · next b rest hdr =>
        split at h
        · next hroom =>
          obtain ⟨v, z1, h1, hnt, h2⟩ := ai_push_of h
          cases h2
          obtain ⟨M', q1, q3, q4, q5, ⟨q7, q8⟩, q6⟩ := hCs _ _ _ hm
          have hM' := hMs _ _ q1
          have hg := hgr _ _ _ _ _ h1
          rw [hMo] at q3
          have cb := callB_of (R := R) (s := s) (args := args) (Ts := big) (ret := none) (rm := ai_rm d (z'.length - z.length) (ai_c z' - ai_c z)) (mc := z'.length - z.length) (ms := ai_c z' - ai_c z) _ hts (hG M' hM') (show ai_ws big M' = _ from by rw [ai_ws, ai_cw_nil q8, q7]) rfl rfl (hts _ hM'.2.2.2.1) (hts _ q3) ⟨hM'.2.2.2.2.2.2.1.1, hM'.2.2.2.2.2.2.1.2, q6⟩ ⟨hRf, by have := hM'.2.2.2.2.1; show _ + (d + 4) * 80 ≤ _; omega⟩
          refine ai_ran (va_runI (Ts := big) (As := ((st.take n).reverse).map (ai_v S)) (rest := rest.map (ai_v S)) (b := S + b) ⟨hx, hb, hml, hown, hts⟩ ((hsnd _ _ _ _ _ _ q1 h1).1 hnt) ⟨cb, q5, hts _ q4⟩ ⟨ai_Pc_blind hn, fun U hU hW => hpre _ U hU hW hz⟩ rfl ?_ hls (ai_stack S st n hdr) (lv_room (by rw [ai_cats]; exact hroom)) hd ⟨?_, ?_⟩) hI0 ?_ ?_ (fun H1 l1 hI1 => by rw [ai_topush]; exact kk H1 l1 _ _ hI1)
          · rw [List.length_map, List.length_reverse, List.length_take]; have := ai_drop_len hdr; show min n st.length = n; omega
          · have := hg.1; omega
          · have := hg.2; omega
          · have := hg.1; omega
          · have := hg.2; omega
        · cases h
      · cases h
    · next key n ci hm =>
      split at h
      · next b rest hdr =>
        split at h
        · next hroom =>
          obtain ⟨v, z1, h1, hnt, h2⟩ := ai_push_of h
          cases h2
          obtain ⟨M', host, q1, q3, q4, q5, ⟨q7, q8⟩, q6⟩ := hCs _ _ _ hm
          have hM' := hMs _ _ q1
          have hg := hgr _ _ _ _ _ h1
          rw [hMo] at q3
          have cb := va_cnB (R := R) (s := s) (args := args) (Ts := big) (ret := none) (rm := ai_rm d (z'.length - z.length) (ai_c z' - ai_c z)) (mc := z'.length - z.length) (ms := ai_c z' - ai_c z) _ hts (hG M' hM') (show ai_ws big M' = _ from by rw [ai_ws, ai_cw_nil q8, q7]) rfl rfl (hN.1.1 _ q3) (hts _ hM'.2.2.2.1) ⟨hM'.2.2.2.2.2.2.1.1, hM'.2.2.2.2.2.2.1.2, q6⟩ ⟨hRf, by have := hM'.2.2.2.2.1; show _ + (d + 4) * 80 ≤ _; omega⟩
          refine ai_ran (va_runIN (Ts := big) (As := ((st.take n).reverse).map (ai_v S)) (rest := rest.map (ai_v S)) (b := S + b) ⟨hx, hb, hml, hown, hts⟩ ((hsnd _ _ _ _ _ _ q1 h1).1 hnt) ⟨cb, q5, hts _ q4⟩ ⟨ai_Pc_blind hn, fun U hU hW => hpre _ U hU hW hz⟩ rfl ?_ hls (ai_stack S st n hdr) (lv_room (by rw [ai_cats]; exact hroom)) hd ⟨?_, ?_⟩) hI0 ?_ ?_ (fun H1 l1 hI1 => by rw [ai_topush]; exact kk H1 l1 _ _ hI1)
          · rw [List.length_map, List.length_reverse, List.length_take]; have := ai_drop_len hdr; show min n st.length = n; omega
          · have := hg.1; omega
          · have := hg.2; omega
          · have := hg.1; omega
          · have := hg.2; omega
        · cases h
      · cases h
    · next x1 x2 x3 hm =>
      split at h
      · next b rest =>
        split at h
        · next hroom =>
          cases h
          obtain ⟨q1, q2, q3⟩ := hCs _ _ _ hm
          rw [hMo] at q1
          exact W.objInit hx hb hown (hts _ q1) (hts _ q2) (hts _ q3) rfl (by rw [hml]; exact hls) rfl hd (by omega) (by show 2 * 0 + ((st'.map (ai_v S)).map fun v => v.category).sum + 12 ≤ _; rw [ai_cats]; omega) (kk H locs cells slots hI0)
        · cases h
      · cases h
    · cases h
  · next idx =>
    have e1 : len = 3 := by simpa [ai_lk] using hk
    subst e1
    split at h
    · next key n ci hm =>
      split at h
      · next hroom =>
        obtain ⟨hlen, hroom⟩ := hroom
        obtain ⟨v, z1, h1, hnt, h2⟩ := ai_push_of h
        cases h2
        obtain ⟨M', q1, q3, q4, q6⟩ := hCs _ _ _ hm
        have hM' := hMs _ _ q1
        have hg := hgr _ _ _ _ _ h1
        rw [hMo] at q3
        have hBk := ai_Back (p := p) (e := e) (below := below) (R := R) (S := S) hgood hts hM' ((hsnd _ _ _ _ _ _ q1 h1).1 hnt) (ai_Pc_blind hn) hRf hRl
        refine ai_ran (ai_goRun (av := ((st.take n).reverse).map (ai_v S)) (rest := (st.drop n).map (ai_v S)) (g := F0 m pc ls (st.map (ai_v S))) (fun T hT X => ai_goS X hx hown (hts _ q3) (hts _ q4) (hts _ hM'.2.2.2.1) (ai_sig_of (hts _ hM'.2.2.1)) hM'.2.2.2.2.2.2.1 q6 (g := F0 m pc ls (st.map (ai_v S))) rfl (As := ((st.take n).reverse).map (ai_v S)) ?_ ?_ (by rw [hb]; exact hd)) hBk rfl (hls.trans hml.symm) (by rw [hb]; exact hd) (by show 2 * 0 + _ ≤ 8; rw [ai_cats]; omega) ⟨?_, ?_⟩ (fun U hU hW => hpre _ U hU hW hz)) hI0 ?_ ?_ (fun H1 l1 hI1 => by rw [ai_topush]; exact kk H1 l1 _ _ hI1)
        · rw [List.length_map, List.length_reverse, List.length_take]; show min n st.length = n; omega
        · show st.map (ai_v S) = _; rw [← List.map_reverse, List.reverse_reverse, ← List.map_append, List.take_append_drop]
        · have := hg.1; omega
        · have := hg.2; omega
        · have := hg.1; omega
        · have := hg.2; omega
      · cases h
    · next x1 x2 x3 hm =>
      obtain ⟨q1, q2, q3, q4⟩ := hCs _ _ _ hm
      rw [hMo] at q1
      exact ai_cpy_W hx hb (hml.trans hls.symm) hown (hts _ q1) (hts _ q2) (hts _ q3) (hts _ q4) (by omega) (by omega) hK t0 hd h hI0 (fun H1 l1 hI1 => kk H1 l1 _ _ hI1)
    · next x1 x2 x3 hm =>
      obtain ⟨q1, q2, q3, q4⟩ := hCs _ _ _ hm
      rw [hMo] at q1
      obtain ⟨x, y, rest, rfl, hroom, hu⟩ := ai_mm_of h
      cases hu
      exact va_mmin hx hb (hml.trans hls.symm) hown (hts _ q1) (hts _ q2) (hts _ q3) (hts _ q4) (by omega) (by rw [ai_cats]; omega) (by omega) (by omega) hd (kk H locs cells slots hI0)
    · next x1 x2 x3 hm =>
      obtain ⟨q1, q2, q3, q4⟩ := hCs _ _ _ hm
      rw [hMo] at q1
      obtain ⟨x, y, rest, rfl, hroom, hu⟩ := ai_mm_of h
      cases hu
      exact va_mmax hx hb (hml.trans hls.symm) hown (hts _ q1) (hts _ q2) (hts _ q3) (hts _ q4) (by omega) (by rw [ai_cats]; omega) (by omega) (by omega) hd (kk H locs cells slots hI0)
    · cases h
  · cases h
/-- what a throw out of the method must give -/
def ai_Thr (s : State) (below : List Frame) (D : va_G) (cl : List vw_C) (G : Nat → ClassId) (S c0 a : Nat) (z2 : List va_E) (QF : State → Prop) : Prop :=
  ∀ (U : State) (locs : List Loc) (cells slots : Nat), U.status = .running → Ended U below (.threw (S + a)) → s.WarmedH U.vm → s.sameButNew ({ U with vm := s.vm } : State) locs cells slots → ai_I D cl G S c0 s z2 U.heap locs cells slots → U.heap.size = S + z2.length → QF U
/-- the code's handlers are the method's -/
def ai_xt (c : Code) (M : ai_M) : Prop := c.exceptionTable.toList.map (fun h => (h.startPc, h.endPc, h.handlerPc, h.catchType)) = M.2.2.2.2.2.2.2.map (fun h => (h.1, h.2.1, h.2.2.1, h.2.2.2.1))
def ai_okH (big : List Cond) (cl : List vw_C) (M : ai_M) : Prop := ∀ h ∈ M.2.2.2.2.2.2.2, h.2.2.2.1 ≠ 0 ∧ ∃ C T N, cl[h.2.2.2.2]? = some (C, T, N) ∧ Cond.classLink M.1.cls h.2.2.2.1 C ∈ big
theorem ai_Hsize (hS0 : S ≤ s.heap.size) (hI : ai_I D cl G S c0 s z H locs cells slots) (hz : H.size ≤ s.heap.size + cells) : H.size = S + z.length := by
  obtain ⟨hP, hS, hsz, hsl⟩ := hI
  rcases Nat.eq_zero_or_pos z.length with h0 | h0
  · have := hS.1; omega
  · have hlt : z.length - 1 < z.length := by omega
    have := va_at.lt (hP _ _ (ai_w_get (S := S) (G := G) (List.getElem?_eq_getElem hlt)))
    simp only at this
    omega
theorem ai_thr_W {M : ai_M} {call : ai_Call} {d : Nat} {i : Instr} {len : Nat} {L : List (Option Value)} {w : ai_Z ⊕ ai_R} (hTB : ai_TB P cl tl big nests own) (hMo : own M.2.2.2.2.1 = M.1.cls) (hMh : ai_okH big cl M) (hsnd : ai_Snd l D cl G tl big nests S P call d) (hgr : ai_grC call) (hRf : d + 11 ≤ R.frames) (hRl : (d + 5) * 80 ≤ R.locals) (hx : p.tables.exec = Jvm.exec) (hb : c.code = M.2.1) (hml : c.maxLocals = M.2.2.1) (hts : ∀ w ∈ big, w.before args s = true) (hN : ai_NS nests S s) (hown : s.vm.findClass M.1.cls = some m.cls) (hS0 : S ≤ s.heap.size) (hK : va_K D cl (ai_tys G tl) s) (hls : ls.size = M.2.2.1) (hxt : ai_xt c M) (hlk : meth.locks = false)
    (hd : decode M.2.1 pc = .ok (i, len)) (hk : ai_lk i len = true) (h : ai_thr (P.2.2.2.1 M.2.2.2.2.1) call M.2.2.2.2.2.2.2 i pc L st z = some w) (hI : ai_I D cl G S c0 s z H locs cells slots)
    (hroom : ∀ z1, ((∃ u', w = .inl u' ∧ u'.2.2.2 = z1) ∨ ∃ r, w = .inr (r, z1)) → S + z1.length ≤ s.heap.size + R.cells ∧ ai_c z1 ≤ c0 + R.slots)
    (k1 : ∀ u', w = .inl u' → u'.2.1 = L → ∀ (H1 : Heap) (locs1 : List Loc) (cells1 slots1 : Nat), ai_I D cl G S c0 s u'.2.2.2 H1 locs1 cells1 slots1 → W p l e R s m args below meth c H1 locs1 cells1 slots1 Q (F0 m u'.1 ls (u'.2.2.1.map (ai_v S))))
    (k2 : ∀ a z1, w = .inr (some (.retAddr a), z1) → ai_Thr s below D cl G S c0 a z1 Q) : W p l e R s m args below meth c H locs cells slots Q (F0 m pc ls (st.map (ai_v S))) := by
  obtain ⟨idx, key, n, ci, b, rest, fs, a, z1, rfl, hm, hdr, ha, hrm, hcall, hh⟩ := ai_thr_of h
  obtain ⟨hgood, hn, -, -, hMs, -, -, hCs, -⟩ := hTB
  have e1 : len = 3 := by simpa [ai_lk] using hk
  subst e1
  refine W.sized fun hz0 => ?_
  have hz := ai_Hsize hS0 hI hz0
  have hI0 := hI
  obtain ⟨hP, hS, hsz, hsl⟩ := hI
  obtain ⟨M', T, N, q1, q2, q3, q4, q5, q6⟩ := hCs _ _ _ hm
  have hM' := hMs _ _ q1
  have hg := hgr _ _ _ _ _ hcall
  rw [hMo] at q3
  obtain ⟨hh0, hMT⟩ := (hsnd _ _ _ _ _ _ q1 hcall).2 a rfl
  obtain ⟨cellB, hcB1, hcB2, hcB3⟩ := va_recv hK hP q2 (ai_w_get ha)
  have hw : ∀ w ∈ big, ∀ a' U, s.WarmedH U.vm → w.before a' U = true := fun w hw a' U hW => word_at hW (hgood w hw) (hts w hw)
  have hws : ∀ w ∈ ai_ws big M', ∀ a' U, s.WarmedH U.vm → w.before a' U = true := by
    intro w h9
    rcases List.mem_cons.mp h9 with rfl | h9
    · exact hw _ hM'.2.2.1
    · exact hw _ h9
  have hlen : (((st.take n).reverse).map (ai_v S)).length = n := by
    rw [List.length_map, List.length_reverse, List.length_take]; have := ai_drop_len hdr; show min n st.length = n; omega
  have hrz : S + z1.length ≤ s.heap.size + R.cells ∧ ai_c z1 ≤ c0 + R.slots := by
    refine hroom z1 ?_
    have h4 := ai_hnd_z hh
    cases w with
    | inl u' => exact Or.inl ⟨u', rfl, h4.1 _ rfl⟩
    | inr r => exact Or.inr ⟨r.1, by rw [← h4.2 _ rfl]⟩
  refine ai_thrown_W (y := M'.1) (bytes := M'.2.1) (maxL := M'.2.2.1) (ret := M'.2.2.2.1) (av := .ref (S + b) :: ((st.take n).reverse).map (ai_v S)) (rest := rest.map (ai_v S)) (fun T hT X => ai_goV X hx hown (hts _ q3) (hts _ q4) (hts _ q5) (ai_sig_of (hts _ hM'.2.2.1)) hM'.2.2.2.2.2.2.1 q6 (by rw [hT]; exact hcB1) hcB2 hcB3 (g := F0 m pc ls (st.map (ai_v S))) rfl (As := ((st.take n).reverse).map (ai_v S)) hlen (ai_stack S st n hdr) (by rw [hb]; exact hd)) hMT (ai_Pc_blind hn) (fun U hU hW => ⟨rfl, by rw [hU]; exact hz, by rw [hU]; exact hP, va_K.moved hW.alike hK, hN.warm hn hW hS0 (by rw [hU]; exact hS.2.1)⟩) hws (by rw [← ai_cw_nil hh0]; exact List.mem_cons_self) (hw _ hM'.2.2.2.1) (by rw [hb]; exact hd) (hls.trans hml.symm) (by rw [ai_cats]; exact hrm) ⟨hRf, by have := hM'.2.2.2.2.1; show 8 + (M'.2.2.1 + 11) + (d + 4) * 80 ≤ _; omega, ?_, ?_⟩ ?_
  · show cells + (z1.length - z.length) ≤ _; have := hg.1; omega
  · show slots + (ai_c z1 - ai_c z) ≤ _; have := hg.2; omega
  intro x st₀ t V L1 hst0 XV hL1 hVt hQ
  obtain ⟨hxa, hP1, hsz1, hF1, hF2⟩ := hQ
  cases hxa
  rw [hst0] at hF1 hF2
  have hI1 : ai_I D cl G S c0 s z1 V.heap (locs ++ L1) (cells + (z1.length - z.length)) (slots + (ai_c z1 - ai_c z)) := by
    refine ⟨by rw [hVt]; exact hP1, ⟨Nat.le_trans hS.1 (by rw [hVt]; exact hF1), fun q h1 h2 => by rw [hVt, hF2 q (Nat.lt_of_lt_of_le h1 hS.1) h2]; exact hS.2.1 q h1 h2, fun q hq => by
      rcases List.mem_append.mp hq with h | h
      · exact hS.2.2 q h
      · exact hL1 q h⟩, by have := hg.1; omega, by have := hg.2; omega⟩
  unfold ai_hnd at hh
  split at hh
  · next hnil =>
    cases hh
    have hout : c.exceptionTable.toList = [] := by
      have := hxt
      unfold ai_xt at this
      rw [hnil] at this
      simpa using this
    refine ai_thrown_out XV (by rw [hout]; intro y hy; cases hy) hlk (fun g1 g2 g3 g4 => ?_)
    exact k2 a z1 rfl _ _ _ _ g1 g2 g3 g4 hI1 (by show V.heap.size = _; rw [hVt]; exact hsz1)
  · split at hh
    · next hd0 hfind =>
      split at hh
      · next ci' fs' hza =>
        split at hh
        · next hci =>
          cases hh
          subst hci
          obtain ⟨hcov, pre, post, hsp, hpre⟩ := List.find?_eq_some_iff_append.mp hfind
          obtain ⟨hne, C, T', N', hcl, hlink⟩ := hMh hd0 (by rw [hsp]; exact List.mem_append_right _ List.mem_cons_self)
          have hx2 := hxt
          unfold ai_xt at hx2
          rw [hsp, List.map_append, List.map_cons] at hx2
          obtain ⟨lp, l2, hl, hlp, hl2⟩ := List.map_eq_append_iff.mp hx2
          obtain ⟨y, lq, rfl, hy, -⟩ := List.map_eq_cons_iff.mp hl2
          have hy' := hy
          simp only [Prod.mk.injEq] at hy'
          obtain ⟨y1, y2, y3, y4⟩ := hy'
          obtain ⟨cellX, g1, g2, g3⟩ := va_recv hK hI1.1 hcl (ai_w_get (S := S) (G := G) hza)
          rw [← y4] at hlink hne
          have hcv : covers y pc = true := by
            show (decide (y.startPc ≤ pc) && decide (pc < y.endPc)) = true
            rw [y1, y2]; exact hcov
          have := ai_thrown_in (QF := Q) (ls := ls) (rest := rest.map (ai_v S)) (pc := pc) XV hl (fun y0 hy0 => ?_) hcv hne hown (hts _ hlink) g1 g2 g3 (by
            have := k1 _ rfl rfl V.heap _ _ _ hI1
            rw [← y3] at this
            exact this)
          · exact this
          · have h5 : (y0.startPc, y0.endPc, y0.handlerPc, y0.catchType) ∈ pre.map (fun h => (h.1, h.2.1, h.2.2.1, h.2.2.2.1)) := by
              rw [← hlp]; exact List.mem_map.mpr ⟨y0, hy0, rfl⟩
            obtain ⟨h0, hh0, he0⟩ := List.mem_map.mp h5
            simp only [Prod.mk.injEq] at he0
            obtain ⟨u1, u2, -, -⟩ := he0
            have h6 := hpre h0 hh0
            show (decide (y0.startPc ≤ pc) && decide (pc < y0.endPc)) = false
            rw [← u1, ← u2]
            simpa only [Bool.not_eq_eq_eq_not, Bool.not_true] using h6
        · cases hh
      · cases hh
    · cases hh
theorem ai_P_kept {ws : va_W} {H1 : Heap} (h : va_P D cl ws H) (hk : ∀ a : Nat, a < H.size → H1[a]? = H[a]?) : va_P D cl ws H1 := by
  intro k q hq
  have h1 := h k q hq
  have hlt := va_at.lt h1
  obtain ⟨a, e⟩ := q
  cases e with
  | inl x => exact (hk a hlt).trans h1
  | inr o =>
    obtain ⟨r, h2, h3⟩ := h1
    exact ⟨r, h2, h3.kept (hk a hlt)⟩
theorem ai_throw_W {M : ai_M} {i : Instr} {len d : Nat} {r : ai_R} (hfl : l.flags = pinnedFlags ++ [noTraceFlag]) (hTB : ai_TB P cl tl big nests own) (hTX : ∀ q ∈ ai_sites, ai_okT big nests cl q) (hMd : ∀ q ∈ M.2.2.2.2.2.2.1, decode M.2.1 q.1 = .ok (q.2.1, q.2.2) ∧ ai_lk q.2.1 q.2.2 = true) (hRf : d + 11 ≤ R.frames) (hRl : (d + 5) * 80 ≤ R.locals) (hx : p.tables.exec = Jvm.exec) (hb : c.code = M.2.1) (hml : c.maxLocals = M.2.2.1) (hts : ∀ w ∈ big, w.before args s = true) (hN : ai_NS nests S s) (hown : s.vm.findClass M.1.cls = some m.cls) (hS0 : S ≤ s.heap.size) (hK : va_K D cl (ai_tys G tl) s) (hls : ls.size = M.2.2.1) (hxt : ai_xt c M) (hlk : meth.locks = false)
    (hd : decode M.2.1 pc = .ok (i, len)) (hk : ai_lk i len = true) (h : ai_throw M i pc st z = some r) (hI : ai_I D cl G S c0 s z H locs cells slots) (hrc : S + r.2.length ≤ s.heap.size + R.cells) (hrs : ai_c r.2 ≤ c0 + R.slots)
    (k2 : ∀ a, r.1 = some (.retAddr a) → ai_Thr s below D cl G S c0 a r.2 Q) : W p l e R s m args below meth c H locs cells slots Q (F0 m pc ls (st.map (ai_v S))) := by
  obtain ⟨idx, q, rfl, hq, hq1, hq2, hnil, hck, hst, rfl⟩ := ai_throw_of h
  obtain ⟨⟨T0, hcl⟩, hfit, hfits, hnl, ⟨x0, x1, x2, x5⟩, ⟨w1, w2, w3⟩, hat⟩ := hTX q hq
  obtain ⟨hgood, hn, -⟩ := hTB
  obtain ⟨ad, hR⟩ := hN.2.2 q hq
  have e1 : len = 3 := by simpa [ai_lk] using hk
  subst e1
  subst hq2
  refine W.sized fun hz0 => ?_
  have hz := ai_Hsize hS0 hI hz0
  obtain ⟨hP, hS, hsz, hsl⟩ := hI
  unfold ai_ckS at hck
  simp only [Bool.and_eq_true, decide_eq_true_eq] at hck
  obtain ⟨⟨⟨c3, c4⟩, c6⟩, c9⟩ := hck
  have hout : c.exceptionTable.toList = [] := by
    have := hxt
    unfold ai_xt at this
    rw [hnil] at this
    simpa using this
  have hl1 : ai_c (z ++ [.inr (q.2.2.2.2.1, List.replicate 6 .null)]) = ai_c z + 6 := by rw [ai_c_push]; rfl
  have hl2 : (z ++ [(.inr (q.2.2.2.2.1, List.replicate 6 .null) : va_E)]).length = z.length + 1 := by simp
  simp only at hrc hrs
  rw [hl2] at hrc
  rw [hl1] at hrs
  intro T hT X
  refine ai_throw_own (own := q.1) (C := q.2.2.2.2.2.1) (tx := q.2.2.2.2.2.2.2.2.2) (names := q.2.2.2.2.2.2.2.2.1) (idx := q.2.1) (idxS := q.2.2.1) (ic := q.2.2.2.1) (ix := q.2.2.2.2.2.2.1) (q := ad) (rx := q.2.2.2.2.2.2.2.1) (cc := M.2.1) hx hb (Launch.traces_off hfl X.admits) (hls.trans hml.symm) hout hlk x0 x1 x2 x5 hd (hMd _ (List.mem_of_find?_eq_some c3)).1 (hMd _ (List.mem_of_find?_eq_some c4)).1 (hMd _ (List.mem_of_find?_eq_some c6)).1 (hMd _ (List.mem_of_find?_eq_some c9)).1 hfit hfits ?_ ?_ ?_ ?_ ?_ ?_ T hT X
  · intro T hT hW
    have hw : ∀ w ∈ big, w.before args T = true := fun w hw => word_at hW (hgood w hw) (hts w hw)
    have hNT := hN.warm (U := T) hn hW hS0 (by rw [hT]; exact hS.2.1)
    refine ⟨by rw [hq1, hW.alike.findClass]; exact hown, hw _ w1, hw _ w2, hw _ w3, vk_R.warm hW hR, fun w hw9 => ?_⟩
    rcases hat w hw9 with h9 | ⟨h9, h8⟩ | ⟨x, hx9, rfl | rfl⟩
    · exact hw _ h9
    · exact va_Nw.use h8 (hNT.1.1 _ h9)
    · exact (hNT.2.1 x hx9).1 args
    · exact ai_isRef_of (hNT.2.1 x hx9).2
  · omega
  · omega
  · omega
  · rw [ai_cats]; omega
  · intro U g1 g2 g3 g4 g5 g6 g7
    obtain ⟨ce, hce, hcf, hcv⟩ := g7
    rw [hz] at g2 g6 hce
    refine k2 z.length rfl U locs (cells + 1) (slots + 6) g1 g2 g3 g4 ⟨?_, ⟨by have := hS.1; omega, fun q h1 h2 => ?_, hS.2.2⟩, by simp only [hl2]; omega, by simp only [hl1]; omega⟩ (by simp only [hl2]; omega)
    · intro k q0 hk0
      rw [← ai_w_push] at hk0
      rcases Nat.lt_or_ge k (ai_w S G z).length with h9 | h9
      · rw [List.getElem?_append_left h9] at hk0
        exact ai_P_kept hP g5 k q0 hk0
      · rw [List.getElem?_append_right h9] at hk0
        cases h8 : k - (ai_w S G z).length with
        | zero =>
          rw [h8] at hk0
          cases hk0
          refine ⟨_, hcl, ce, hce, ?_, hcv, fun k hk => by cases hk⟩
          have h7 := (hK.1 _ _ hcl).2.1
          have h6 : U.vm.findClass q.2.2.2.2.2.1 = some (D.1 q.2.2.2.2.1) := by rw [g3.alike.findClass]; exact h7
          exact Option.some.inj (hcf.symm.trans h6)
        | succ j => rw [h8] at hk0; simp at hk0
    · rw [g5 q (Nat.lt_of_lt_of_le h1 hS.1)]
      exact hS.2.1 q h1 h2
/-- what a return must give -/
def ai_Ret (p : Program) (l : Launch) (e : Env) (R : Room) (s : State) (m : MethodId) (args : Array Value) (below : List Frame) (meth : Method) (c : Code) (D : va_G) (cl : List vw_C) (G : Nat → ClassId) (S c0 : Nat) (M : ai_M) (r : Option Value) (z2 : List va_E) (QF : State → Prop) : Prop :=
  ∀ (i : Instr) (len pc : Nat) (st : List Value) (H : Heap) (locs : List Loc) (cells slots : Nat) (ls : Array Slot), decode M.2.1 pc = .ok (i, len) → ai_lk i len = true → ai_ret M.2.2.2.1 i st = some r → ai_I D cl G S c0 s z2 H locs cells slots → W p l e R s m args below meth c H locs cells slots QF (F0 m pc ls (st.map (ai_v S)))
theorem ai_run_W {sc : ai_SC} (hSC : ai_okS sc S s) {M : ai_M} {call : ai_Call} {d mc ms : Nat} {r : Option Value} {z2 : List va_E} {QF : State → Prop} (hfl : l.flags = pinnedFlags ++ [noTraceFlag]) (hTX : ∀ q ∈ ai_sites, ai_okT big nests cl q) (hTB : ai_TB P cl tl big nests own) (hMo : own M.2.2.2.2.1 = M.1.cls) (hMh : ai_okH big cl M) (hXT : M.2.2.2.2.2.2.2 ≠ [] ∨ (∃ a, r = some (.retAddr a)) → ai_xt c M ∧ meth.locks = false) (hMd : ∀ q ∈ M.2.2.2.2.2.2.1, decode M.2.1 q.1 = .ok (q.2.1, q.2.2) ∧ ai_lk q.2.1 q.2.2 = true) (hsnd : ai_Snd l D cl G tl big nests S P call d) (hgr : ai_grC call) (hRf : d + 11 ≤ R.frames) (hRl : (d + 5) * 80 ≤ R.locals) (hRc : mc ≤ R.cells) (hRs : ms ≤ R.slots) (hx : p.tables.exec = Jvm.exec) (hb : c.code = M.2.1) (hml : c.maxLocals = M.2.2.1) (hts : ∀ w ∈ big, w.before args s = true) (hN : ai_NS nests S s) (hown : s.vm.findClass M.1.cls = some m.cls) (hini : M.2.2.2.2.2.1 = true → meth.name = "<init>") (hS0 : S ≤ s.heap.size) (hK : va_K D cl (ai_tys G tl) s)
    (hmc : S + z2.length = s.heap.size + mc) (hms : ai_c z2 = c0 + ms) (hRet : ai_Ret p l e R s m args below meth c D cl G S c0 M r z2 QF) (hThr : ∀ a, r = some (.retAddr a) → ai_Thr s below D cl G S c0 a z2 QF) :
    ∀ (k : Nat) (u : ai_Z), ai_run sc P call M k u = some (r, z2) → ∀ (H : Heap) (locs : List Loc) (cells slots : Nat) (ls : Array Slot), ai_I D cl G S c0 s u.2.2.2 H locs cells slots → ai_L S ls M.2.2.1 u.2.1 → W p l e R s m args below meth c H locs cells slots QF (F0 m u.1 ls (u.2.2.1.map (ai_v S))) := by
  intro k
  induction k with
  | zero => intro u h; cases h
  | succ k ih =>
    intro u h H locs cells slots ls hI hL
    obtain ⟨pc, L, st, z⟩ := u
    have hu : ∀ u', ai_step sc P call M (pc, L, st, z) = some (.inl u') → ai_run sc P call M k u' = some (r, z2) ∧ ai_gr u'.2.2.2 z2 := by
      intro u' he
      have h1 : ai_run sc P call M k u' = some (r, z2) := by
        unfold ai_run at h
        rw [he] at h
        exact h
      exact ⟨h1, ai_run_gr hgr k u' _ h1⟩
    have hv : ∀ r', ai_step sc P call M (pc, L, st, z) = some (.inr r') → r' = (r, z2) := by
      intro r' he
      unfold ai_run at h
      rw [he] at h
      exact Option.some.inj h
    cases hs : ai_step sc P call M (pc, L, st, z) with
    | none =>
      unfold ai_run at h
      rw [hs] at h
      cases h
    | some w =>
      have hs0 := hs
      unfold ai_step at hs
      split at hs
      · cases hs
      · next x1 i len hf =>
        have hq := List.mem_of_find?_eq_some hf
        have hpc : x1 = pc := by simpa using List.find?_some hf
        subst hpc
        obtain ⟨hd, hk⟩ := hMd _ hq
        simp only at hd hk hs
        split at hs
        · split at hs
          · next pc' L' st' he =>
            cases hs
            obtain ⟨g1, g2⟩ := hu _ hs0
            exact ai_simple_W hx hb hd hk hL he (fun ls' hL' => ih _ g1 H locs cells slots ls' hI hL')
          · cases hs
        · split at hs
          · next h he =>
            cases hs
            obtain ⟨pc', st', z'⟩ := h
            obtain ⟨g1, g2⟩ := hu _ hs0
            have g3 := g2.1
            have g4 := g2.2
            simp only at g3 g4
            exact ai_hp_W hSC hTB hMo hx hb hts hN hown hini hS0 hK hd hk he hI (by omega) (by omega) (fun H1 l1 c1 s1 hI1 => ih _ g1 H1 l1 c1 s1 ls hI1 hL)
          · split at hs
            · next r' he =>
              cases hs
              cases hv _ hs0
              obtain ⟨idx, q, -, -, -, -, -, -, -, hr9⟩ := ai_throw_of he
              have hr8 : r = some (.retAddr z.length) := congrArg Prod.fst hr9
              obtain ⟨hxt, hlk⟩ := hXT (Or.inr ⟨_, hr8⟩)
              exact ai_throw_W hfl hTB hTX hMd hRf hRl hx hb hml hts hN hown hS0 hK hL.2.1 hxt hlk hd hk he hI (by simp only; omega) (by simp only; omega) hThr
            · cases hs
        · split at hs
          · next h he =>
            cases hs
            obtain ⟨pc', st', z'⟩ := h
            obtain ⟨g1, g2⟩ := hu _ hs0
            have g3 := g2.1
            have g4 := g2.2
            simp only at g3 g4
            exact ai_inv_W hTB hMo hsnd hgr hRf hRl hx hb hml hts hN hown hS0 hK hL.2.1 hd hk he hI (by omega) (by omega) (fun H1 l1 c1 s1 hI1 => ih _ g1 H1 l1 c1 s1 ls hI1 hL)
          · have hxl : ai_xt c M ∧ meth.locks = false := by
              refine hXT ?_
              by_cases h0 : M.2.2.2.2.2.2.2 = []
              · refine Or.inr ?_
                obtain ⟨idx, key, n, ci, b, rest, fs, a, z1, -, -, -, -, -, -, h1⟩ := ai_thr_of hs
                rw [h0] at h1
                cases h1
                exact ⟨a, (congrArg Prod.fst (hv _ hs0)).symm⟩
              · exact Or.inl h0
            refine ai_thr_W hTB hMo hMh hsnd hgr hRf hRl hx hb hml hts hN hown hS0 hK hL.2.1 hxl.1 hxl.2 hd hk hs hI ?_ ?_ ?_
            · rintro z1 (⟨u', rfl, rfl⟩ | ⟨r', rfl⟩)
              · obtain ⟨g1, g2⟩ := hu _ hs0
                have g3 := g2.1
                have g4 := g2.2
                exact ⟨by omega, by omega⟩
              · have g1 := congrArg Prod.snd (hv _ hs0)
                simp only at g1
                subst g1
                exact ⟨by omega, by omega⟩
            · rintro u' rfl hL9 H1 l1 c1 s1 hI1
              obtain ⟨g1, g2⟩ := hu _ hs0
              exact ih _ g1 H1 l1 c1 s1 ls hI1 (by rw [hL9]; exact hL)
            · rintro a z1 rfl
              have g1 := hv _ hs0
              cases g1
              exact hThr a rfl
        · split at hs
          · next v he =>
            cases hs
            cases hv _ hs0
            exact hRet _ _ _ _ _ _ _ _ _ hd hk he hI
          · cases hs
/-- a method's return -/
theorem ai_Ret_met {M : ai_M} {mc ms : Nat} {r : Option Value} {z2 : List va_E} (hx : p.tables.exec = Jvm.exec) (hb : c.code = M.2.1) (hr : meth.sig.returnType = M.2.2.2.1) (hlocks : meth.locks = false) (hS0 : S ≤ s.heap.size) (hmc : S + z2.length = s.heap.size + mc) (hms : ai_c z2 = c0 + ms) : ai_Ret p l e R s m args below meth c D cl G S c0 M r z2 (MQ below (ai_Qc D cl G S r z2) args s mc ms (fun q => S ≤ q)) := by
  intro i len pc st H locs cells slots ls hd hk he hI
  obtain ⟨hP, hS, hsz, hsl⟩ := hI
  have e1 : cells = mc := by omega
  have e2 : slots = ms := by omega
  subst e1; subst e2
  refine W.sized fun hz0 => ?_
  have hz : H.size = S + z2.length := by
    rcases Nat.eq_zero_or_pos z2.length with h0 | h0
    · have := hS.1; omega
    · have hlt : z2.length - 1 < z2.length := by omega
      have := va_at.lt (hP _ _ (ai_w_get (S := S) (G := G) (List.getElem?_eq_getElem hlt)))
      simp only at this
      omega
  have hpost : ∀ t : State, t.heap = H → s.WarmedH t.vm → ai_Qc D cl G S r z2 args s (.returned (r.map (ai_v S))) t := fun t ht _ => ⟨rfl, by rw [ht]; exact hP, by rw [ht]; exact hz, hS.F ht⟩
  unfold ai_ret at he
  split at he
  · split at he
    · next ty v hrt =>
      split at he
      · next hnar =>
        cases he
        have e3 : len = 1 := by simpa [ai_lk] using hk
        subst e3
        exact W.zret hx hb (hr.trans hrt) hnar hpost hS.2.2 hd hlocks
      · cases he
    · cases he
  · split at he
    · next hrt =>
      cases he
      have e3 : len = 1 := by simpa [ai_lk] using hk
      subst e3
      exact W.vret hx hb (hr.trans hrt) hpost hS.2.2 hd hlocks
    · cases he
  · cases he
theorem ai_sl_len (S : Nat) (vs : List Value) : (lg_sl (vs.map (ai_v S))).length = (lg_sl vs).length := by
  induction vs with
  | nil => rfl
  | cons v t ih =>
    simp only [lg_sl, List.map_cons, List.flatMap_cons, List.length_append, ai_v_cat] at ih ⊢
    rw [ih]
    by_cases hc : v.category = 2 <;> simp [hc]
theorem ai_lv_has (S : Nat) (vs : List Value) {n : Nat} (h : (lg_sl vs).length ≤ n) : ai_L S ((lg_sl (vs.map (ai_v S)) ++ List.replicate (n - (lg_sl (vs.map (ai_v S))).length) Slot.unset).toArray) n (ai_lv vs n) := by
  have hl := lv_entry (vs.map (ai_v S)) (n := n) (by rw [ai_sl_len]; exact h)
  have hlen : ∀ vs : List Value, (vs.flatMap fun v => if v.category = 2 then [some v, none] else [some v]).length = (lg_sl vs).length := by
    intro vs
    induction vs with
    | nil => rfl
    | cons v t ih =>
      simp only [lg_sl, List.flatMap_cons, List.length_append] at ih ⊢
      rw [ih]
      by_cases hc : v.category = 2 <;> simp [hc]
  have hmem : ∀ (vs : List Value) (i j : Nat) (v : Value), (vs.flatMap fun v => if v.category = 2 then [some v, none] else [some v])[j]? = some (some v) → (i + j, ai_v S v) ∈ lv_args i (vs.map (ai_v S)) := by
    intro vs
    induction vs with
    | nil => intro i j v hj; simp at hj
    | cons w t ih =>
      intro i j v hj
      simp only [List.flatMap_cons] at hj
      rw [List.map_cons]
      unfold lv_args
      rw [ai_v_cat]
      by_cases hc : w.category = 2
      · simp only [hc, if_true] at hj ⊢
        match j, hj with
        | 0, hj => cases hj; exact List.mem_cons_self
        | 1, hj => simp at hj
        | j + 2, hj =>
          have := ih (i + 2) j v (by simpa using hj)
          rw [show i + (j + 2) = i + 2 + j by omega]
          exact List.mem_cons_of_mem _ this
      · simp only [hc, if_false] at hj ⊢
        match j, hj with
        | 0, hj => cases hj; exact List.mem_cons_self
        | j + 1, hj =>
          have := ih (i + 1) j v (by simpa using hj)
          rw [show i + (j + 1) = i + 1 + j by omega]
          exact List.mem_cons_of_mem _ this
  refine ⟨by unfold ai_lv; rw [List.length_append, hlen, List.length_replicate]; omega, hl.1, hl.2.1, fun j v hj => ?_⟩
  unfold ai_lv at hj
  rcases Nat.lt_or_ge j (vs.flatMap fun (v : Value) => if v.category = 2 then [some v, none] else [some v]).length with h1 | h1
  · rw [List.getElem?_append_left h1] at hj
    have := hl.2.2 _ (hmem vs 0 j v hj)
    simpa using this
  · rw [List.getElem?_append_right h1, List.getElem?_replicate] at hj
    split at hj <;> cases hj
/-- a method that throws has no handlers -/
theorem ai_run_hs {sc : ai_SC} {P : ai_P} {call : ai_Call} {M : ai_M} {a : Nat} {z2 : List va_E} : ∀ (k : Nat) (u : ai_Z), ai_run sc P call M k u = some (some (.retAddr a), z2) → M.2.2.2.2.2.2.2 = [] := by
  intro k
  induction k with
  | zero => intro u h; cases h
  | succ k ih =>
    intro u h
    unfold ai_run at h
    split at h
    · exact ih _ h
    · next r' hu =>
      cases h
      unfold ai_step at hu
      split at hu
      · cases hu
      · split at hu
        · split at hu <;> cases hu
        · split at hu
          · cases hu
          · split at hu
            · next he =>
              cases hu
              obtain ⟨idx, q, -, -, -, -, h0, -⟩ := ai_throw_of he
              exact h0
            · cases hu
        · split at hu
          · cases hu
          · obtain ⟨idx, key, n, ci, b, rest, fs, a, z1, -, -, -, -, -, -, h1⟩ := ai_thr_of hu
            by_cases h0 : M.2.2.2.2.2.2.2 = []
            · exact h0
            · exfalso
              unfold ai_hnd at h1
              split at h1
              · next h9 => exact h0 h9
              · repeat' (split at h1)
                all_goals cases h1
        · split at hu
          · next v he =>
            cases hu
            unfold ai_ret at he
            repeat' (split at he)
            all_goals cases he
          · cases hu
    · cases h
/-- a walk of a method's body gives what it promises, with handlers or without -/
theorem ai_free_of {M : ai_M} {rm : Room} {Pc : Array Value → State → Prop} {Q0 : Array Value → State → Outcome → State → Prop} (hM : ai_okM big cl own M)
    (body : ∀ p e s m args below meth c s₁, BodyLoose p l M.1 (headSpec (ai_ws big M) rm) M.2.1 M.2.2.1 M.2.2.2.1 e s m args below meth c s₁ → c.maxLocals = M.2.2.1 → ai_xt c M → Pc args s →
      W p l e (headSpec (ai_ws big M) rm).room s m args below meth c s.heap [] 0 0 (fun t => ∃ o, t.status = .running ∧ Ended t below o ∧ Q0 args s o t) (entryFrame m args M.2.2.1)) : MetFree l M.1 (headSpec (ai_ws big M) rm) Pc (fun _ _ _ _ _ => True) Q0 := by
  have key : ∀ (args : Array Value) (s : State) (m : MethodId), (headSpec (ai_ws big M) rm).pre.before args s = true → s.methodNamed? M.1 = some m → ∃ meth c, s.vm.method? m = some meth ∧ meth.code = some c ∧ c.code = M.2.1 ∧ c.maxLocals = M.2.2.1 ∧ meth.sig.returnType = M.2.2.2.1 ∧ meth.locks = false ∧ ai_xt c M := by
    intro args s m h hn
    have h1 := atoms_spec (ws := ai_ws big M) h _ List.mem_cons_self
    by_cases h0 : M.2.2.2.2.2.2.2 = []
    · rw [ai_cw_nil h0] at h1
      obtain ⟨meth, c, g1, g2, g3, g4, g5, g6, g7, -⟩ := Cond.code_spec hn h1
      refine ⟨meth, c, g1, g2, g3, g4, g5, g6, ?_⟩
      unfold ai_xt
      rw [h0]
      have : c.exceptionTable = #[] := by simpa using g7
      rw [this]
      rfl
    · rw [ai_cw_cons h0] at h1
      obtain ⟨m', meth, c, g0, g1, g2, g3, g4, g7, g5, g6, -⟩ := Cond.codeWith_spec h1
      cases hn.symm.trans g0
      exact ⟨meth, c, g1, g2, g3, g4, g5, g6, g7⟩
  refine MetFree.of_bodyS (code := M.2.1) (maxLocals := M.2.2.1) (ret := M.2.2.2.1) hM.1 ?_ ?_
  · intro args s m h hn
    obtain ⟨meth, c, h1, h2, h3, h4, h5, h6, -⟩ := key args s m h hn
    exact ⟨meth, c, h1, h2, h3, h4, h5, h6⟩
  · intro p e s m args below meth c s₁ B hml hP _
    have hh0 : s₁.heap = s.heap := by rw [B.state]; rfl
    obtain ⟨meth', c', h1, h2, -, -, -, -, h7⟩ := key args s m B.pre B.named
    have hcc : c' = c := by
      have g1 := B.here.code
      rw [B.state, State.code?_eq] at g1
      simp [State.setFrames, h1, h2] at g1
      exact g1
    subst hcc
    obtain ⟨t, a1, o, b1, b2, b3⟩ := body p e s m args below meth c' s₁ B hml h7 hP s₁ hh0 (Stand.of_body B)
    exact ⟨t, o, a1, b1, b2, b3⟩
theorem ai_exec_met {k : Nat} (hfl : l.flags = pinnedFlags ++ [noTraceFlag]) (hTX : ∀ q ∈ ai_sites, ai_okT big nests cl q) (hTB : ai_TB P cl tl big nests own) : ∀ d : Nat, ai_Snd l D cl G tl big nests S P (ai_exec P k d) d := by
  intro d
  induction d with
  | zero => intro key M vs z r z' _ h; cases h
  | succ d ih =>
    intro key M vs z r z' hkey h
    have hM := hTB.2.2.2.2.1 _ _ hkey
    unfold ai_exec at h
    rw [hkey] at h
    simp only at h
    split at h
    · next hlen =>
      have hg := ai_run_gr (ai_exec_gr d) _ _ _ h
      refine ⟨fun hnt => ?_, fun a hra => ⟨?_, ?_⟩⟩
      · refine ai_free_of hM ?_
        intro p e s m args below meth c s₁ B hml hxt hv
        obtain ⟨rfl, hsz, hP, hK, hN⟩ := hv
        have hts : ∀ w ∈ big, w.before (vs.map (ai_v S)).toArray s = true := fun w hw => atoms_spec (ws := ai_ws big M) B.pre w (List.mem_cons_of_mem _ hw)
        have hown : s.vm.findClass M.1.cls = some m.cls := findClass_of_methodNamed B.named
        have hname := (name_of_methodNamed B.named B.method).1
        rw [lg_entry_eq]
        have hm1 : S + z'.length = s.heap.size + (z'.length - z.length) := by have := hg.1; simp only at this; omega
        have hm2 : ai_c z' = ai_c z + (ai_c z' - ai_c z) := by have := hg.2; simp only at this; omega
        exact ai_run_W (sc := none) (fun b n xs h9 => (by cases h9)) (M := M) (call := ai_exec P k d) (d := d) (mc := z'.length - z.length) (ms := ai_c z' - ai_c z) (c0 := ai_c z) hfl hTX hTB hM.2.1 hM.2.2.2.2.2.2.2.2 (fun _ => ⟨hxt, B.notSynchronized⟩) hM.2.2.2.2.2.2.2.1 ih (ai_exec_gr d) (by show d + 11 ≤ (d + 1) + 10; omega) (by show (d + 5) * 80 ≤ (d + 1 + 4) * 80; omega) (Nat.le_refl _) (Nat.le_refl _) B.exec B.bytes hml hts hN hown (fun q => hname.trans (hM.2.2.2.2.2.1 q)) (by omega) hK hm1 hm2 (ai_Ret_met B.exec B.bytes B.returns B.notSynchronized (by omega) hm1 hm2) (fun a h9 => absurd h9 (hnt a)) k (0, ai_lv vs M.2.2.1, [], z) h s.heap [] 0 0 _ ⟨hP, va_S.rf, by show S + z.length = s.heap.size + 0; omega, rfl⟩ (ai_lv_has S vs hlen)
      · subst hra
        exact ai_run_hs k _ h
      · subst hra
        refine ai_free_of hM ?_
        intro p e s m args below meth c s₁ B hml hxt hv
        obtain ⟨rfl, hsz, hP, hK, hN⟩ := hv
        have hts : ∀ w ∈ big, w.before (vs.map (ai_v S)).toArray s = true := fun w hw => atoms_spec (ws := ai_ws big M) B.pre w (List.mem_cons_of_mem _ hw)
        have hown : s.vm.findClass M.1.cls = some m.cls := findClass_of_methodNamed B.named
        have hname := (name_of_methodNamed B.named B.method).1
        rw [lg_entry_eq]
        have hm1 : S + z'.length = s.heap.size + (z'.length - z.length) := by have := hg.1; simp only at this; omega
        have hm2 : ai_c z' = ai_c z + (ai_c z' - ai_c z) := by have := hg.2; simp only at this; omega
        refine ai_run_W (sc := none) (fun b n xs h9 => (by cases h9)) (M := M) (call := ai_exec P k d) (d := d) (mc := z'.length - z.length) (ms := ai_c z' - ai_c z) (c0 := ai_c z) hfl hTX hTB hM.2.1 hM.2.2.2.2.2.2.2.2 (fun _ => ⟨hxt, B.notSynchronized⟩) hM.2.2.2.2.2.2.2.1 ih (ai_exec_gr d) (by show d + 11 ≤ (d + 1) + 10; omega) (by show (d + 5) * 80 ≤ (d + 1 + 4) * 80; omega) (Nat.le_refl _) (Nat.le_refl _) B.exec B.bytes hml hts hN hown (fun q => hname.trans (hM.2.2.2.2.2.1 q)) (by omega) hK hm1 hm2 ?_ ?_ k (0, ai_lv vs M.2.2.1, [], z) h s.heap [] 0 0 _ ⟨hP, va_S.rf, by show S + z.length = s.heap.size + 0; omega, rfl⟩ (ai_lv_has S vs hlen)
        · intro i len pc st H locs cells slots ls hd hk he hI
          exfalso
          unfold ai_ret at he
          repeat' (split at he)
          all_goals cases he
        · intro a9 h9 U locs cells slots g1 g2 g3 g4 hI g5
          cases h9
          obtain ⟨hP1, hS1, hsz1, hsl1⟩ := hI
          have e1 : cells = z'.length - z.length := by omega
          have e2 : slots = ai_c z' - ai_c z := by omega
          subst e1; subst e2
          exact ⟨.threw (S + a), g1, g2, ⟨rfl, hP1, g5, hS1.F rfl⟩, ⟨_, rfl⟩, g3, locs, g4, hS1.2.2⟩
    · cases h
end AiSound
