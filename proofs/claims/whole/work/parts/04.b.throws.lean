/-! THROWN AND CAUGHT -/
/-- what the search for a handler gives, and the tables that it leaves -/
def ai_Finds (e : Env) (s : State) (f : JFrame) (a : Addr) (h : Handler) (s' : State) : Prop := ∀ (Q : Handler → Pre) (E : CtlPost) (d : Bool) (acts : List Action), wp (findHandler f a) Q E e d acts s ↔ Q h d acts s'
theorem ai_go_cold {e : Env} {s : State} {f : JFrame} {a : Addr} {x : ExceptionTableEntry} {t : List ExceptionTableEntry} {c : ClassId} {vm' : Vm} {cell : Cell} (hx : covers x f.pc = true) (h0 : x.catchType ≠ 0)
    (hg : (Jvm.resolveClass f.method.cls x.catchType).Gives e.toSetting s.vm (.ok c) vm') (hsz : vm'.classes.size ≤ s.vm.classes.size) (hcell : s.heap[a]? = some cell) (hobj : ∀ k, cell.vm ≠ .statics k)
    (hk : ∃ k, vm'.classes[cell.cls]? = some k) (hc : ∃ k, vm'.classes[c]? = some k) (hfit : vm'.assignable cell.cls c = true) {Q : Handler → Pre} {E : CtlPost} {d : Bool} {acts : List Action} :
    wp (findHandler.go f a (x :: t)) Q E e d acts s ↔ Q (.found x.handlerPc) d acts (s.setVm vm') := by
  obtain ⟨ha, ht⟩ := hg.op (op := VmOp.resolveClass f.method.cls x.catchType) rfl
  have hx' : (decide (x.startPc ≤ f.pc) && decide (f.pc < x.endPc)) = true := hx
  have hcell' : (s.setVm vm').heap[a]? = some cell := hcell
  simp [findHandler.go, hx', h0, ha, ht, hsz, hcell, hcell', hobj, hk, hc, hfit, VmOp.dirties, VmOp.acts]
/-- a method that ends by a throw: what is known then -/
def ai_ET (S mc ms : Nat) (Qt : Array Value → State → Outcome → State → Prop) : Array Value → State → Outcome → State → Prop := fun a st o t => Qt a st o t ∧ (∃ x, o = .threw x) ∧ st.WarmedH t.vm ∧ ∃ L, st.sameButNew ({ t with vm := st.vm } : State) L mc ms ∧ ∀ q ∈ L, S ≤ q.base
def ai_MetT (l : Launch) (y : MethodName) (ws : List Cond) (rm : Room) (Pc : Array Value → State → Prop) (Qt : Array Value → State → Outcome → State → Prop) (mc ms S : Nat) : Prop := MetFree l y (headSpec ws rm) Pc (fun _ _ _ _ _ => True) (ai_ET S mc ms Qt)
section AiThrows
variable {p : Program} {l : Launch} {e : Env} {R : Room} {s : State} {m : MethodId} {args : Array Value} {below : List Frame} {meth : Method} {c : Code} {U : State} {locs : List Loc} {cells slots : Nat}
/-- a call whose callee throws: the note lies over the caller's frame -/
theorem ai_throws {y : MethodName} {ws : List Cond} {rm : Room} {Pc : Array Value → State → Prop} {Qt : Array Value → State → Outcome → State → Prop} {mc ms S : Nat} {bytes : ByteArray} {maxL : Nat} {ret : Option FieldType} {g : JFrame} {ig : Instr} {len : Nat} {mk : MethodId} {a : Array Value}
    (X : Stand p l e R s m args below meth c U locs cells slots) (hg : g.method = m) (hsize : g.locals.size = c.maxLocals) (hdg : decode c.code g.pc = .ok (ig, len)) (hW : 2 * g.monitorRoom + (g.stack.map fun v => v.category).sum ≤ 8) (hn : U.methodNamed? y = some mk)
    (hM : ai_MetT l y ws rm Pc Qt mc ms S) (hPc : Pc a (U.calling g mk a)) (hws : ∀ w ∈ ws, w.before a U = true) (hcode : (Cond.code y bytes maxL ret).before a U = true) (hini : (Cond.initialized y.cls).before a U = true)
    (hR : rm.frames + 1 ≤ R.frames ∧ 8 + (maxL + 11) + rm.locals ≤ R.locals ∧ cells + rm.cells ≤ R.cells ∧ slots + rm.slots ≤ R.slots) :
    ∃ (x : Addr) (t V : State) (L : List Loc), Stand p l e R s m args below meth c V (locs ++ L) (cells + mc) (slots + ms) ∧ (∀ q ∈ L, S ≤ q.base) ∧ V.heap = t.heap ∧ Qt a (U.calling g mk a) (.threw x) t ∧ Steps p.tables e below (doInvoke e (U.setTop g) [] mk a).1 ((V.setTop g).pushFrame (.throwing x)) := by
  obtain ⟨methY, cY, hmY, hcY, -, hlY, -⟩ := Cond.code_spec hn hcode
  obtain ⟨kY, hkY, -⟩ := className_of_methodNamed hn
  have hiY := Cond.initialized_spec (findClass_of_methodNamed hn) hkY hini
  have hAt : At U g.method c below := by rw [hg]; exact X.here
  obtain ⟨mid, hmid⟩ := hAt.above
  have hfr : (U.setTop g).frames = (.java g :: mid) ++ below := by rw [State.frames_setTop' g hAt.top, hmid]; rfl
  have happ : (headSpec ws rm).appliesLoose y e.platform (U.calling g mk a) = true := Spec.appliesLoose_calling (g := g) hAt hdg hn hkY hiY (X.room_calling (g := g) (R' := rm) hsize hmY hcY hR.1 (by rw [hlY]; have := hR.2.1; omega) hR.2.2.1 hR.2.2.2) (atoms_intro hws)
  obtain ⟨o, t, hst, -, hend, hq, ⟨x, rfl⟩, hWt, L, hsame, hL⟩ := Steps.callFree hM p X.admits X.cas X.clock (acts := []) hfr happ hPc trivial
  rw [State.frames_setTop' g hAt.top] at hend
  have hft : t.frames = .throwing x :: .java g :: U.frames.tail := hend
  have hWU : U.WarmedH t.vm := hWt
  have hsame' : (U.calling g mk a).sameButNew ({ t with vm := (U.calling g mk a).vm } : State) L mc ms := hsame
  obtain ⟨e2, q2, q3, q4, q5, q6⟩ := hsame'
  have e3 : t = ({ (U.calling g mk a).setFrames t.frames with heap := t.heap, slotsUsed := t.slotsUsed } : State).setVm t.vm := by
    have h9 : t = ({ t with vm := (U.calling g mk a).vm } : State).setVm t.vm := rfl
    rw [e2] at h9
    exact h9
  obtain ⟨g₀, hg0⟩ := Option.isSome_iff_exists.mp hAt.top
  obtain ⟨r, hr⟩ := State.topJava?_eq_some.mp hg0
  obtain ⟨th, hth, -⟩ := State.frames_cons hr
  generalize hV : (({ U with heap := t.heap, slotsUsed := t.slotsUsed } : State).setVm t.vm) = V
  have hVr : V.frames = .java g₀ :: r := by rw [← hV]; exact hr
  have htV : t = (V.setTop g).pushFrame (.throwing x) := by
    refine e3.trans ?_
    rw [hft, State.calling_eq hAt.top, State.setFrames_setFrames, State.pushFrame, State.frames_setTop _ hVr, State.setTop_of_frames _ hVr, State.setFrames_setFrames, hr, ← hV]
    rfl
  have hsU : U.sameButNew ({ U with heap := t.heap, slotsUsed := t.slotsUsed } : State) L mc ms := by
    refine ⟨?_, q2, q3, q4, q5, q6⟩
    show ({ U with heap := t.heap, slotsUsed := t.slotsUsed } : State) = { U.setFrames U.frames with heap := t.heap, slotsUsed := t.slotsUsed }
    rw [State.setFrames_self hth]
  subst hg
  refine ⟨x, t, V, L, ?_, hL, by rw [← hV]; rfl, hq, by rw [← htV]; exact hst⟩
  rw [← hV]
  exact ⟨X.admits, X.cas, X.clock, X.frames, X.room, X.hears, X.method, X.code, (X.here.setHeapUsed t.heap t.slotsUsed).setVm hWU.alike, X.tail, State.WarmedH.trans X.warmed hWU, X.limits, X.bytes, X.same.trans (hsU.setVm s.vm)⟩
theorem ai_refl (vm : Vm) (c : ClassId) : vm.assignable c c = true := by
  show vm.assignableAux (255 + 1) c c = true
  rw [Vm.assignableAux]
  simp
theorem ai_finds_cold {e : Env} {T : State} {g : JFrame} {a : Addr} {meth : Method} {c : Code} {x : ExceptionTableEntry} {rest : List ExceptionTableEntry} {cell : Cell} {vm' : Vm} {cC : ClassId} (hm : T.vm.method? g.method = some meth) (hc : meth.code = some c) : ∀ (pre : List ExceptionTableEntry), c.exceptionTable.toList = pre ++ x :: rest → (∀ y ∈ pre, covers y g.pc = false) → covers x g.pc = true → x.catchType ≠ 0 →
    (Jvm.resolveClass g.method.cls x.catchType).Gives e.toSetting T.vm (.ok cC) vm' → vm'.classes.size ≤ T.vm.classes.size → T.heap[a]? = some cell → (∀ k, cell.vm ≠ .statics k) → (∃ k, vm'.classes[cell.cls]? = some k) → (∃ k, vm'.classes[cC]? = some k) → vm'.assignable cell.cls cC = true → ai_Finds e T g a (.found x.handlerPc) (T.setVm vm') := by
  intro pre hsplit hskip hx h0 hg hsz hcell hobj hk hcc hfit Q E d acts
  rw [W.findHandler_eq hm hc, hsplit]
  clear hsplit
  induction pre with
  | nil => exact ai_go_cold hx h0 hg hsz hcell hobj hk hcc hfit
  | cons y t ih =>
    rw [List.cons_append, W.findHandler_go_skip (hskip y List.mem_cons_self)]
    exact ih (fun y hy => hskip y (List.mem_cons_of_mem _ hy))
theorem ai_step_caught {e : Env} {T T' : State} {a : Addr} {g : JFrame} {r : List Frame} {pc : Nat} (hf : ai_Finds e T g a (.found pc) T') : (stepThrowing e T a (.java g :: r)).Is (T'.setFrames (.java { g with pc := pc, stack := [.ref a] } :: r)) [] := by
  simp only [stepThrowing, searchFrame, vmDo]
  generalize hr : Sem.go _ e false [] T = res
  obtain ⟨as, rfl, ha⟩ := Sem.eq_ok_of hr (a := Handler.found pc) (s' := T') (acts' := []) (by simp [hf _ _ _ _])
  exact ⟨rfl, ha⟩
/-- caught by a class that may not have been resolved yet -/
theorem ai_caught {own C : String} {a : Addr} {g : JFrame} {x : ExceptionTableEntry} {pre rest : List ExceptionTableEntry} {cell : Cell} (X : Stand p l e R s m args below meth c U locs cells slots) (hg : g.method = m) (hsplit : c.exceptionTable.toList = pre ++ x :: rest) (hskip : ∀ y ∈ pre, covers y g.pc = false) (hx : covers x g.pc = true) (h0 : x.catchType ≠ 0)
    (hown : s.vm.findClass own = some m.cls) (hlink : (Cond.classLink own x.catchType C).before args s = true) (hcell : U.heap[a]? = some cell) (hobj : cell.vm.isStatics = false) (hcls : s.vm.findClass C = some cell.cls) :
    ∃ vm', Stand p l e R s m args below meth c (U.setVm vm') locs cells slots ∧ ∀ target, Steps p.tables e below ((U.setVm vm').setTop { g with pc := x.handlerPc, stack := [.ref a] }) target → Steps p.tables e below ((U.setTop g).pushFrame (.throwing a)) target := by
  subst hg
  have hpl : e.platform.magicAccessors = ({} : Platform).magicAccessors := by rw [X.admits.platform]
  obtain ⟨cC, hfC, hcl⟩ := Cond.classLink_spec hown hlink e.platform hpl
  cases hcls.symm.trans hfC
  obtain ⟨hg1, hw1, hr1⟩ := State.classEntry (e := e) X.warmed hcl
  have hsz : (U.vm.noted g.method.cls x.catchType (.cls cell.cls)).classes.size ≤ U.vm.classes.size := by no_record
  generalize U.vm.noted g.method.cls x.catchType (.cls cell.cls) = vm1 at hg1 hw1 hr1 hsz
  obtain ⟨k0, hk0⟩ := Vm.classAt_of_findClass hcls
  obtain ⟨k1, hk1, -⟩ := hw1.alike.2.2 _ _ hk0
  have hfind : ai_Finds e ((U.setTop g).pushFrame (.throwing a)) g a (.found x.handlerPc) (((U.setTop g).pushFrame (.throwing a)).setVm vm1) := by
    refine ai_finds_cold (meth := meth) (c := c) (cC := cell.cls) ?_ X.code pre hsplit hskip hx h0 ?_ ?_ ?_ (fun k q => by rw [q] at hobj; cases hobj) ⟨k1, hk1⟩ ⟨k1, hk1⟩ (ai_refl _ _)
    · rw [Stand.throwing_vm]; exact X.method'
    · rw [Stand.throwing_vm]; exact hg1
    · rw [Stand.throwing_vm]; exact hsz
    · rw [Stand.throwing_heap]; exact hcell
  refine ⟨vm1, X.noted hw1, fun target hrest => ?_⟩
  have hAt : At U g.method c below := X.here
  obtain ⟨hgo, hw⟩ := hAt.throwing a
  refine Steps.head hgo hw ?_
  rw [stepThread_throwing (frames_entered hAt.top _), (ai_step_caught hfind).1]
  obtain ⟨g₀, hg0⟩ := Option.isSome_iff_exists.mp hAt.top
  obtain ⟨r, hr⟩ := State.topJava?_eq_some.mp hg0
  have hr' : (U.setVm vm1).frames = .java g₀ :: r := hr
  rw [State.setTop_of_frames _ hr'] at hrest
  have e1 : (((U.setTop g).pushFrame (.throwing a)).setVm vm1).setFrames (.java { g with pc := x.handlerPc, stack := [.ref a] } :: U.frames.tail) = (U.setVm vm1).setFrames (.java { g with pc := x.handlerPc, stack := [.ref a] } :: r) := by
    rw [State.pushFrame, State.setTop_of_frames _ hr, State.setFrames_setFrames, hr]
    show ((U.setVm vm1).setFrames _).setFrames _ = _
    rw [State.setFrames_setFrames]
    rfl
  first
    | (rw [e1]; exact hrest)
    | (rw [hr] at e1 ⊢; rw [e1]; exact hrest)
end AiThrows
