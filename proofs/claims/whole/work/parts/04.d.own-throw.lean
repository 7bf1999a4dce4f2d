/-! A THROW OF ONE'S OWN: new E("text"), E's own constructor at any entry -/
section AiOwnThrow
/-- the words of E's own constructor, of those above it, and of E itself -/
def ai_chX (X : String) (ix : Nat) (rx : ByteArray) (up : List String) : List Cond := match up with
  | [] => Bundle.passSAtoms X Bundle.tN ix rx
  | Y :: r => Bundle.passSAtoms X Y ix rx ++ Bundle.chainSAtoms Y r
def ai_ownX (own : String) (ic : Nat) (X : String) (ix : Nat) (rx : ByteArray) (up : List String) : List Cond :=
  (Bundle.throwableAtoms ++ Bundle.throwableSAtoms) ++ ai_chX X ix rx up ++
  [.methodLink own ic (Bundle.initS X), .instantiable X 6, .selects X Bundle.tFill0 Bundle.tFill0, .selects X Bundle.tFill Bundle.tFill, .lays X Bundle.tN "cause" "Ljava/lang/Throwable;", .lays X Bundle.tN "stackTrace" Bundle.steD, .lays X Bundle.tN "suppressedExceptions" Bundle.listD, .lays X Bundle.tN "detailMessage" "Ljava/lang/String;", .lays X Bundle.tN "backtrace" "Ljava/lang/Object;", .lays Bundle.tN Bundle.tN "backtrace" "Ljava/lang/Object;", .fieldLink Bundle.tN 198 Bundle.tN "backtrace" "Ljava/lang/Object;", .isRef (.static Bundle.tN "UNASSIGNED_STACK" Bundle.steD), .isRef (.static Bundle.tN "SUPPRESSED_SENTINEL" Bundle.listD)]
theorem ai_chainX {args : Array Value} {s : State} {pl : Platform} (hpl : pl.magicAccessors = ({} : Platform).magicAccessors) {top : MethodId} (htop : s.methodNamed? (Bundle.initS Bundle.tN) = some top) {ix : Nat} {rx : ByteArray} (x0 : decode rx 0 = .ok (.aload_n 0, 1)) (x1 : decode rx 1 = .ok (.aload_n 1, 1)) (x2 : decode rx 2 = .ok (.invokespecial ix, 3)) (x5 : decode rx 5 = .ok (.return_, 1)) (up : List String) (X : String) (hX : Bundle.fit X = true) (hup : ∀ n ∈ up, Bundle.fit n = true) (h : ∀ w ∈ ai_chX X ix rx up, w.before args s = true) :
    ∃ (P : PassC) (Ps : List PassC), Ps.length = up.length ∧ P.LinksS pl s ∧ (∀ Q, Q ∈ Ps → Q.LinksS pl s) ∧ s.methodNamed? (Bundle.initS X) = some P.m ∧ P.sup = firstOf top (Ps.map (·.toPassT)) ∧ PassesOn top (Ps.map (·.toPassT)) := by
  cases up with
  | nil =>
    obtain ⟨P, L, hm, hs⟩ := PassC.ofS_atoms (args := args) (s := s) hpl (X := X) (Y := Bundle.tN) (Bundle.fit_spec hX).1 (by decide) x0 x1 x2 x5 h
    exact ⟨P, [], rfl, L, (fun _ hq => by cases hq), hm, Option.some.inj (hs.symm.trans htop), trivial⟩
  | cons Y r =>
    have h1 : ∀ w ∈ Bundle.passSAtoms X Y ix rx, w.before args s = true := fun w hw => h w (by unfold ai_chX; exact List.mem_append_left _ hw)
    have h2 : ∀ w ∈ Bundle.chainSAtoms Y r, w.before args s = true := fun w hw => h w (by unfold ai_chX; exact List.mem_append_right _ hw)
    obtain ⟨P, L, hm, hs⟩ := PassC.ofS_atoms (args := args) (s := s) hpl (X := X) (Y := Y) (Bundle.fit_spec hX).1 (Bundle.fit_spec (hup Y List.mem_cons_self)).2 x0 x1 x2 x5 h1
    obtain ⟨P2, Ps, hlen, L2, hL, hm2, hsup, hpass⟩ := Bundle.chainS (args := args) hpl htop r Y (hup Y List.mem_cons_self) (fun n hn => hup n (List.mem_cons_of_mem _ hn)) h2
    refine ⟨P, P2 :: Ps, by simp [hlen], L, fun Q hQ => ?_, hm, Option.some.inj (hs.symm.trans hm2), hsup, hpass⟩
    rcases List.mem_cons.mp hQ with rfl | hQ
    · exact L2
    · exact hL Q hQ
variable {p : Program} {l : Launch} {e : Env} {R : Room} {s : State} {m : MethodId} {args : Array Value} {below : List Frame} {meth : Method} {c : Code} {H : Heap} {locs : List Loc} {cells slots : Nat}
set_option maxHeartbeats 1000000 in
theorem ai_ctorX {T' : State} (X : Stand p l e R s m args below meth c T' locs cells slots) (hexec : p.tables.exec = Jvm.exec) (htr : e.platform.stackTraces = false) {own cls : String} {names : List String} {ic ix : Nat} {rx : ByteArray}
    (x0 : decode rx 0 = .ok (.aload_n 0, 1)) (x1 : decode rx 1 = .ok (.aload_n 1, 1)) (x2 : decode rx 2 = .ok (.invokespecial ix, 3)) (x5 : decode rx 5 = .ok (.return_, 1)) (hown : s.vm.findClass own = some m.cls) (hcls : Bundle.fit cls = true) (hnames : ∀ n ∈ names, Bundle.fit n = true) (h : ∀ a ∈ ai_ownX own ic cls ix rx names, a.before args s = true) (hlocs : ∀ x ∈ locs, ∀ cell, s.heap[x.base]? = some cell → cell.vm.isStatics = false)
    {a : Addr} {cX : ClassId} {kX : Class} (hfX : s.vm.findClass cls = some cX) (hkX : s.vm.classes[cX]? = some kX) (hcell : T'.heap[a]? = some (freshCell cX kX)) (hnew : s.heap.size ≤ a) {msg : Value} (hmsg : msg.isRef = true)
    {g : JFrame} (hg : g.method = m) (hsize : g.locals.size = c.maxLocals) (hlocked : g.locked = none) (hentered : g.entered = []) {rest : List Value} (hstack : g.stack = msg :: .ref a :: .ref a :: rest) (hd6 : decode c.code g.pc = .ok (.invokespecial ic, 3)) (hd9 : decode c.code (g.pc + 3) = .ok (.athrow, 1)) (hout : ∀ x ∈ c.exceptionTable.toList, covers x (g.pc + 3) = false)
    (hRf : names.length + 3 < R.frames) (hRl : 2 * g.monitorRoom + ((Value.ref a :: rest).map fun v => v.category).sum + (13 * (names.length + 1) + 42) ≤ R.locals) (hlocks : meth.locks = false) :
    ∃ U : State, Steps p.tables e below (T'.setTop g) U ∧ U.status = .running ∧ Ended U below (.threw a) ∧ s.WarmedH U.vm ∧ s.sameButNew ({ U with vm := s.vm } : State) locs cells slots ∧ ∃ ce, U.heap[a]? = some ce ∧ ce.cls = cX ∧ ce.vm = .none := by
  have hpl : e.platform.magicAccessors = ({} : Platform).magicAccessors := by rw [X.admits.platform]
  have hw : ∀ x, x ∈ ai_ownX own ic cls ix rx names → x.holds args s none s [] = true := fun x hx => h x hx
  obtain ⟨T, Z0, L, -, Y⟩ := ThrowableC.of_atoms (args := args) (by rw [X.admits.platform]) (by rw [X.admits.platform]) hpl (fun x hx => h x (by simp [ai_ownX, hx]))
  obtain ⟨Z, M, LZ, LM, hnZ⟩ := Init0T.ofS_atoms (args := args) hpl L Y (fun x hx => h x (by simp [ai_ownX, hx]))
  obtain ⟨P1, Ps, hlen, L1, hL, hP1m, hlink1, hlink⟩ := ai_chainX (args := args) hpl hnZ x0 x1 x2 x5 names cls hcls hnames (fun x hx => h x (by simp [ai_ownX, hx]))
  have hf : s.vm.findClass cls = some P1.m.cls := findClass_of_methodNamed hP1m
  cases Option.some.inj (hfX.symm.trans hf)
  obtain ⟨c1, kX', hc1, hk, hord, -, -, hn6⟩ := Cond.instantiable_spec (hw (.instantiable cls 6) (by simp [ai_ownX]))
  cases Option.some.inj (hc1.symm.trans hf)
  cases Option.some.inj (hkX.symm.trans hk)
  have sel0 : selectMethod e.platform s.vm P1.m.cls T.fill0 = .method T.fill0 := by
    obtain ⟨c2, r2, m2, q1, q2, q3, q4, -⟩ := Cond.selects_spec (hw (.selects cls Bundle.tFill0 Bundle.tFill0) (by simp [ai_ownX]))
    cases Option.some.inj (q1.symm.trans hf)
    cases Option.some.inj (q2.symm.trans (State.methodFound?_of_named Y.fill0 (by decide)))
    cases Option.some.inj (q3.symm.trans Y.fill0)
    rw [Launch.admits_selectMethod X.admits]; exact q4
  have selF : selectMethod e.platform s.vm P1.m.cls T.fill = .method T.fill := by
    obtain ⟨c2, r2, m2, q1, q2, q3, q4, -⟩ := Cond.selects_spec (hw (.selects cls Bundle.tFill Bundle.tFill) (by simp [ai_ownX]))
    cases Option.some.inj (q1.symm.trans hf)
    cases Option.some.inj (q2.symm.trans (State.methodFound?_of_named Y.fill (by decide)))
    cases Option.some.inj (q3.symm.trans Y.fill)
    rw [Launch.admits_selectMethod X.admits]; exact q4
  obtain ⟨cS, hcS, hiss⟩ := Y.statics
  obtain ⟨u0, hu0⟩ := Cond.staticRefV Y.unassigned L.unassignedStatic L.statics hcS hiss (hw (.isRef (.static Bundle.tN "UNASSIGNED_STACK" Bundle.steD)) (by simp [ai_ownX]))
  obtain ⟨sen, hsen⟩ := Cond.staticRefV Y.sentinel L.sentinelStatic L.statics hcS hiss (hw (.isRef (.static Bundle.tN "SUPPRESSED_SENTINEL" Bundle.listD)) (by simp [ai_ownX]))
  obtain ⟨ci, ib, fB, hkB, hgB, haB, hsB, -, hnB, htB, hffB⟩ := Cond.ownField (t := .object "java/lang/Object") Y.found L.cls (by decide +kernel) (hw (.fieldLink Bundle.tN 198 Bundle.tN "backtrace" "Ljava/lang/Object;") (by simp [ai_ownX])) (hw (.lays Bundle.tN Bundle.tN "backtrace" "Ljava/lang/Object;") (by simp [ai_ownX])) e.platform hpl
  obtain ⟨cS1, hcS1, heS, -, hkeep⟩ := X.same.2.2.2.2.2 T.aS cS hcS
  have hcellS : T'.heap[T.aS]? = some cS1 := hcS1
  have hno : ∀ i, (⟨T.aS, i⟩ : Loc) ∉ locs := fun i hmem => by
    have := hlocs _ hmem cS hcS
    rw [hiss] at this; cases this
  have hkn : cS1.vm ≠ .unknown := by
    rw [heS]; intro hu
    rw [show cS.vm = .unknown from hu] at hiss
    cases hiss
  have hne : T.aS ≠ a := Nat.ne_of_lt (Nat.lt_of_lt_of_le (Array.getElem?_eq_some_iff.mp hcS).1 hnew)
  obtain ⟨iM, hffM⟩ := Y.msg
  obtain ⟨tyC, dC, hdC, hdnC⟩ := Cond.laysAt hf hk Y.cause (hw (.lays cls Bundle.tN "cause" "Ljava/lang/Throwable;") (by simp [ai_ownX]))
  obtain ⟨tyS, dS, hdS, hdnS⟩ := Cond.laysAt hf hk Y.stack (hw (.lays cls Bundle.tN "stackTrace" Bundle.steD) (by simp [ai_ownX]))
  obtain ⟨tyP, dP, hdP, hdnP⟩ := Cond.laysAt hf hk Y.supp (hw (.lays cls Bundle.tN "suppressedExceptions" Bundle.listD) (by simp [ai_ownX]))
  obtain ⟨tyM, dM, hdM, hdnM⟩ := Cond.laysAt hf hk hffM (hw (.lays cls Bundle.tN "detailMessage" "Ljava/lang/String;") (by simp [ai_ownX]))
  obtain ⟨tyB, dB, hdB, hdnB⟩ := Cond.laysAt hf hk hffB (hw (.lays cls Bundle.tN "backtrace" "Ljava/lang/Object;") (by simp [ai_ownX]))
  have bC := Cond.laysApart hdB hdC hdnB hdnC (by rw [hnB, Y.causeName]; decide)
  have bS := Cond.laysApart hdB hdS hdnB hdnS (by rw [hnB, Y.stackName]; decide)
  have bP := Cond.laysApart hdB hdP hdnB hdnP (by rw [hnB, Y.suppName]; decide)
  have hskip : SkipFacts T e.platform s (fun u => u) u0 ((preparedCellV T.toThrowableT (freshCell P1.m.cls kX) a u0 sen).withEntry T'.cur) :=
    ⟨{ ci198 := ci, i198 := ib, fBack := fB }, ⟨hkB, hgB, haB, hsB⟩, by
      have := fresh_default (c := P1.m.cls) tyB
      rw [htB] at this
      simpa [preparedCellV, Cell.setSlot, Cell.withEntry, Array.getElem?_setIfInBounds, bC, bS, bP, bC.symm, bS.symm, bP.symm, defaultValue] using this, fun _ _ => rfl⟩
  obtain ⟨tm, methC, cdC, kC, vm₁, hnC, -, -, -, -, -, -, -, hW₁, st1⟩ := Steps.initColdS (tb := p.tables) (e := e) (below := below) (s := s) (U := T') X.here hexec X.warmed hpl hown (t := Bundle.initS cls) rfl rfl (Bundle.fit_spec hcls).2 (hw (.methodLink own ic (Bundle.initS cls)) (by simp [ai_ownX])) (h (.instanceMethod (Bundle.initS cls)) (by cases names <;> simp [ai_ownX, ai_chX, Bundle.passSAtoms])) (bytes := rx) (maxL := 2) (h (.code (Bundle.initS cls) rx 2 none) (by cases names <;> simp [ai_ownX, ai_chX, Bundle.passSAtoms])) (f := g) hg (a := a) (msg := msg) (rest := .ref a :: rest) hstack hd6
  cases Option.some.inj (hnC.symm.trans hP1m)
  have X₁ := X.noted hW₁
  obtain ⟨vm₂, X₂, st2⟩ := X₁.ctorMessageOffV hexec (g := { g with stack := .ref a :: rest }) hg hsize T L Z LZ M LM (P1 :: Ps) (fun P hP => by rcases List.mem_cons.mp hP with rfl | hP; exact L1; exact hL P hP) ⟨hlink1, hlink⟩ (u0 := u0) (sen := sen) (self := a) hmsg (cell := freshCell P1.m.cls kX) (cellS := cS1) hcell (fun _ => by simp) (by simp) rfl rfl sel0 selF hcellS hne hkn (by rw [hkeep _ (hno _)]; exact hu0) (by rw [hkeep _ (hno _)]; exact hsen)
    (Takes.of_laid hk hord tyC (by rw [Y.causeType]; rfl)) (Takes.of_laid hk hord tyS (by rw [Y.stackType]; exact fits_refV_array _ u0)) (Takes.of_laid hk hord tyP (by rw [Y.suppType]; exact fits_refV_object _ sen)) (Takes.of_laid hk hord tyM (by rw [Y.msgType]; exact fits_refV_object _ ⟨msg, hmsg⟩)) Y.objLocals hskip htr [] hd6 (by simp only [List.length_cons, hlen]; omega) (by simp only [List.length_cons, hlen]; exact hRl)
  obtain ⟨hwalk, hrun, hended, hWU, hsame⟩ := X₂.athrowLeaves hexec (g := { g with stack := .ref a :: rest, pc := g.pc + 3 }) hg hlocked hentered hout (a := a) (rest := rest) rfl hd9
  have hlt : a < ((T'.setVm vm₁).setVm vm₂).heap.size := (Array.getElem?_eq_some_iff.mp hcell).1
  have hU := heapAt_setCell_self (s := (T'.setVm vm₁).setVm vm₂) (plainBareV T.toThrowableT (freshCell P1.m.cls kX) a u0 sen msg) hlt
  refine ⟨_, st1 _ (fun acts => ?_), hrun, hended, hWU, hsame.weaken (fun y hy hlt' => ?_) (Nat.le_refl _) (Nat.le_refl _), _, hU, rfl, rfl⟩
  · rw [doInvoke_state]
    exact st2 _ hwalk
  · rcases List.mem_append.mp hy with h1 | h1
    · exact h1
    · exfalso
      have hb : y.base = a := by
        simp only [List.mem_cons, List.not_mem_nil, or_false] at h1
        rcases h1 with rfl | rfl | rfl | rfl | rfl <;> rfl
      rw [hb] at hlt'
      exact Nat.not_lt.mpr hnew hlt'
/-- new E("text"), thrown out of the method: nothing else changes, one cell comes -/
theorem ai_throw_own {own C tx : String} {names : List String} {idx idxS ic ix pc q : Nat} {rx cc : ByteArray} {ls : Array Slot} {st : List Value} {QF : State → Prop} (hexec : p.tables.exec = Jvm.exec) (hb : c.code = cc) (htr : e.platform.stackTraces = false) (hls : ls.size = c.maxLocals) (hout : c.exceptionTable.toList = []) (hlocks : meth.locks = false)
    (x0 : decode rx 0 = .ok (.aload_n 0, 1)) (x1 : decode rx 1 = .ok (.aload_n 1, 1)) (x2 : decode rx 2 = .ok (.invokespecial ix, 3)) (x5 : decode rx 5 = .ok (.return_, 1))
    (hd0 : decode cc pc = .ok (.new idx, 3)) (hd3 : decode cc (pc + 3) = .ok (.dup, 1)) (hd4 : decode cc (pc + 4) = .ok (.ldc idxS, 2)) (hd6 : decode cc (pc + 6) = .ok (.invokespecial ic, 3)) (hd9 : decode cc (pc + 9) = .ok (.athrow, 1)) (hC : Bundle.fit C = true) (hnames : ∀ n ∈ names, Bundle.fit n = true)
    (hwords : ∀ T : State, T.heap = H → s.WarmedH T.vm → T.vm.findClass own = some m.cls ∧ (Cond.classLink own idx C).before args T = true ∧ (Cond.instantiable C 6).before args T = true ∧ (Cond.initialized C).before args T = true ∧ vk_R own idxS tx q T ∧ ∀ w ∈ ai_ownX own ic C ix rx names, w.before args T = true)
    (hroom : cells + 1 ≤ R.cells) (hslots : slots + 6 ≤ R.slots) (hfr : names.length + 3 < R.frames) (hloc : (st.map fun v => v.category).sum + 1 + (13 * (names.length + 1) + 42) ≤ R.locals)
    (kk : ∀ U : State, U.status = .running → Ended U below (.threw H.size) → s.WarmedH U.vm → s.sameButNew ({ U with vm := s.vm } : State) locs (cells + 1) (slots + 6) → (∀ a : Nat, a < H.size → U.heap[a]? = H[a]?) → U.heap.size = H.size + 1 → (∃ ce : Cell, U.heap[H.size]? = some ce ∧ U.vm.findClass C = some ce.cls ∧ ce.vm = .none) → QF U) :
    W p l e R s m args below meth c H locs cells slots QF (F0 m pc ls st) := by
  intro T hT X
  have X0 := ai_rebase X (by omega) (by omega)
  obtain ⟨w1, w2, w3, w4, w5, w6⟩ := hwords T hT X.warmed
  have b : ∀ w : Cond, w.before args (T.setFrames (.invoking m args :: below)) = w.before args T := fun w => Cond.before_setFrames _ _ _ _
  have w5' : vk_R own idxS tx q (T.setFrames (.invoking m args :: below)) := vk_R.same (u := T) rfl w5
  obtain ⟨vm1, cC, kC, f1, f2, f3, f4, X1, st1⟩ := X0.newCold hexec (show (T.setFrames (.invoking m args :: below)).vm.findClass own = some m.cls from w1) ((b _).trans w2) ((b _).trans w3) ((b _).trans w4) (g := F0 m pc ls st) rfl (by rw [hb]; exact hd0) (by show 0 + 1 ≤ R.cells - cells; omega) (by show 0 + 6 ≤ R.slots - slots; omega)
  have K : W p l e { R with cells := R.cells - cells, slots := R.slots - slots } (T.setFrames (.invoking m args :: below)) m args below meth c (H.push (freshCell cC kC)) [] (0 + 1) (0 + 6) QF (F0 m (pc + 3) ls (.ref H.size :: st)) := by
    refine lv_dup hexec hb hd3 rfl ?_
    refine va_ldcS hexec hb (show (T.setFrames (.invoking m args :: below)).vm.findClass own = some m.cls from w1) w5' hd4 ?_
    intro T2 hT2 X2
    have hcell : T2.heap[H.size]? = some (freshCell cC kC) := by rw [hT2]; simp
    obtain ⟨U, hst, hrun, hend, hWU, hsame, ce, hce, hO, hO2⟩ := ai_ctorX X2 hexec htr (own := own) (cls := C) (names := names) x0 x1 x2 x5 w1 hC hnames (fun w hw => (b w).trans (w6 w hw)) (fun x hx => by cases hx) (a := H.size) f1 f2 hcell (by show T.heap.size ≤ H.size; rw [hT]; exact Nat.le_refl _) (msg := .ref q) rfl (g := F0 m (pc + 6) ls (.ref q :: .ref H.size :: .ref H.size :: st)) rfl hls rfl rfl (rest := st) rfl (by rw [hb]; exact hd6) (by rw [hb]; exact hd9) (by rw [hout]; intro x hx; cases hx) hfr (by
      show 2 * 0 + ((Value.ref H.size :: st).map fun v => v.category).sum + (13 * (names.length + 1) + 42) ≤ R.locals
      have e9 : ((Value.ref H.size :: st).map fun v => v.category).sum = 1 + (st.map fun v => v.category).sum := by rw [List.map_cons, List.sum_cons]; rfl
      rw [e9]
      omega) hlocks
    refine ⟨U, hst, kk U hrun hend (State.WarmedH.trans X.warmed (show T.WarmedH U.vm from hWU)) ?_ ?_ ?_ ⟨ce, hce, ?_, hO2⟩⟩
    · have h1 : T.sameButNew ({ U with vm := T.vm } : State) [] (0 + 1) (0 + 6) := by
        refine ⟨?_, hsame.2⟩
        have h2 := hsame.1
        rw [State.setFrames_setFrames] at h2
        exact h2
      have h3 := X.same.trans (h1.setVm s.vm)
      rw [List.append_nil] at h3
      exact h3
    · intro a ha
      have ha' : a < T.heap.size := by rw [hT]; exact ha
      have h4 : T.heap[a]? = some T.heap[a] := Array.getElem?_eq_getElem ha'
      have h5 := State.sameButNew.old_cell hsame h4
      rw [← hT, h4]
      exact h5
    · have h6 : U.heap.size ≤ T.heap.size + (0 + 1) := hsame.2.2.1
      have h7 : H.size < U.heap.size := (Array.getElem?_eq_some_iff.mp hce).1
      rw [hT] at h6
      omega
    · have h9 : (T.setFrames (.invoking m args :: below)).vm.Alike U.vm := hWU.alike
      rw [hO, ← f1]
      exact h9.findClass C none
  have hX1 : ((T.setVm vm1).pushCell (freshCell cC kC)).heap = H.push (freshCell cC kC) := by rw [← hT]; rfl
  obtain ⟨t, a1, b1⟩ := K _ hX1 X1
  refine ⟨t, st1 t ?_, b1⟩
  rw [hT]
  exact a1
end AiOwnThrow
