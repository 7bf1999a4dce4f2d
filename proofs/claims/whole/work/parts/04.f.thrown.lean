/-! A CALL WHOSE CALLEE THROWS, in a walk -/
section AiThrown
variable {p : Program} {l : Launch} {e : Env} {R : Room} {s : State} {m : MethodId} {args : Array Value} {below : List Frame} {meth : Method} {c : Code} {H : Heap} {locs : List Loc} {cells slots : Nat} {QF : State → Prop}
theorem ai_thrown_W {y : MethodName} {ws : List Cond} {rm : Room} {Pc : Array Value → State → Prop} {Qt : Array Value → State → Outcome → State → Prop} {mc ms S pc : Nat} {bytes : ByteArray} {maxL : Nat} {ret : Option FieldType} {ls : Array Slot} {st rest av : List Value} {ig : Instr}
    (hgo : ∀ T : State, T.heap = H → Stand p l e R s m args below meth c T locs cells slots → ai_Go p l e R s m args below meth c T locs cells slots y (F0 m pc ls st) rest av) (hM : ai_MetT l y ws rm Pc Qt mc ms S) (hbl : FrameBlind Pc) (hPc : ∀ U : State, U.heap = H → s.WarmedH U.vm → Pc av.toArray U) (hws : ∀ w ∈ ws, ∀ a' U, s.WarmedH U.vm → w.before a' U = true) (hcode : Cond.code y bytes maxL ret ∈ ws) (hini : ∀ a' U, s.WarmedH U.vm → (Cond.initialized y.cls).before a' U = true)
    (hdg : decode c.code pc = .ok (ig, 3)) (hls : ls.size = c.maxLocals) (hW : (rest.map fun v => v.category).sum ≤ 8) (hR : rm.frames + 1 ≤ R.frames ∧ 8 + (maxL + 11) + rm.locals ≤ R.locals ∧ cells + rm.cells ≤ R.cells ∧ slots + rm.slots ≤ R.slots)
    (kk : ∀ (x : Addr) (st₀ t V : State) (L : List Loc), st₀.heap = H → Stand p l e R s m args below meth c V (locs ++ L) (cells + mc) (slots + ms) → (∀ q ∈ L, S ≤ q.base) → V.heap = t.heap → Qt av.toArray st₀ (.threw x) t → ∃ u, Steps p.tables e below ((V.setTop (F0 m pc ls rest)).pushFrame (.throwing x)) u ∧ QF u) : W p l e R s m args below meth c H locs cells slots QF (F0 m pc ls st) := by
  intro T hT X
  obtain ⟨vm₁, mk, hW₁, X₁, hn, hst⟩ := hgo T hT X
  obtain ⟨x, t, V, L, XV, hL, hh, hq, hsteps⟩ := ai_throws (g := F0 m pc ls rest) X₁ rfl hls hdg (lv_room hW) hn hM (hbl _ _ _ _ (hPc (T.setVm vm₁) hT hW₁)) (fun w hw => hws w hw _ _ hW₁) (hws _ hcode _ _ hW₁) (hini _ _ hW₁) hR
  obtain ⟨u, h1, h2⟩ := kk x ((T.setVm vm₁).calling (F0 m pc ls rest) mk av.toArray) t V L hT XV hL hh hq
  exact ⟨u, hst u (hsteps.trans h1), h2⟩
/-- out of the caller too -/
theorem ai_thrown_out {V : State} {x : Addr} {pc : Nat} {ls : Array Slot} {rest : List Value} (X : Stand p l e R s m args below meth c V locs cells slots) (hout : ∀ y ∈ c.exceptionTable.toList, covers y pc = false) (hlocks : meth.locks = false) (hq : (V.setFrames (.throwing x :: below)).status = .running → Ended (V.setFrames (.throwing x :: below)) below (.threw x) → s.WarmedH (V.setFrames (.throwing x :: below)).vm → s.sameButNew ({ V.setFrames (.throwing x :: below) with vm := s.vm } : State) locs cells slots → QF (V.setFrames (.throwing x :: below))) : ∃ u, Steps p.tables e below ((V.setTop (F0 m pc ls rest)).pushFrame (.throwing x)) u ∧ QF u := by
  obtain ⟨h1, h2, h3, h4, h5⟩ := X.leaveThrown x (g := F0 m pc ls rest) rfl rfl rfl hout hlocks
  exact ⟨_, h1, hq h2 h3 h4 h5⟩
/-- into a handler of the caller -/
theorem ai_thrown_in {V : State} {x : Addr} {pc : Nat} {ls : Array Slot} {rest : List Value} {own C : String} {h : ExceptionTableEntry} {pre post : List ExceptionTableEntry} {cell : Cell} (X : Stand p l e R s m args below meth c V locs cells slots) (hsplit : c.exceptionTable.toList = pre ++ h :: post) (hskip : ∀ y ∈ pre, covers y pc = false) (hx : covers h pc = true) (h0 : h.catchType ≠ 0) (hown : s.vm.findClass own = some m.cls) (hlink : (Cond.classLink own h.catchType C).before args s = true) (hcell : V.heap[x]? = some cell) (hobj : cell.vm.isStatics = false) (hcls : s.vm.findClass C = some cell.cls)
    (kk : W p l e R s m args below meth c V.heap locs cells slots QF (F0 m h.handlerPc ls [.ref x])) : ∃ u, Steps p.tables e below ((V.setTop (F0 m pc ls rest)).pushFrame (.throwing x)) u ∧ QF u := by
  obtain ⟨vm', X', hst⟩ := ai_caught (g := F0 m pc ls rest) X rfl hsplit hskip hx h0 hown hlink hcell hobj hcls
  obtain ⟨u, h1, h2⟩ := kk (V.setVm vm') rfl X'
  exact ⟨u, hst u h1, h2⟩
end AiThrown
