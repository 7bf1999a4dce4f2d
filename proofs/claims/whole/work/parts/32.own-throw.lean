section AiOwnThrow
variable {p : Program} {l : Launch} {e : Env} {R : Room} {s : State} {m : MethodId} {args : Array Value} {below : List Frame} {meth : Method} {c : Code} {H : Heap} {locs : List Loc} {cells slots : Nat}
/-- new E("text"), thrown out of the method: nothing else changes, one cell comes -/
theorem ai_throw_own {own C tx : String} {names : List String} {idx idxS ic pc q : Nat} {cc : ByteArray} {ls : Array Slot} {st : List Value} {QF : State → Prop} (hexec : p.tables.exec = Jvm.exec) (hb : c.code = cc) (htr : e.platform.stackTraces = false) (hls : ls.size = c.maxLocals) (hout : c.exceptionTable.toList = []) (hlocks : meth.locks = false)
    (hd0 : decode cc pc = .ok (.new idx, 3)) (hd3 : decode cc (pc + 3) = .ok (.dup, 1)) (hd4 : decode cc (pc + 4) = .ok (.ldc idxS, 2)) (hd6 : decode cc (pc + 6) = .ok (.invokespecial ic, 3)) (hd9 : decode cc (pc + 9) = .ok (.athrow, 1)) (hC : Bundle.fit C = true) (hnames : ∀ n ∈ names, Bundle.fit n = true)
    (hwords : ∀ T : State, T.heap = H → s.WarmedH T.vm → (T.setFrames (.invoking m args :: below)).vm.findClass own = some m.cls ∧ (Cond.classLink own idx C).before args (T.setFrames (.invoking m args :: below)) = true ∧ (Cond.instantiable C 6).before args (T.setFrames (.invoking m args :: below)) = true ∧ (Cond.initialized C).before args (T.setFrames (.invoking m args :: below)) = true ∧ vk_R own idxS tx q (T.setFrames (.invoking m args :: below)) ∧ ∀ w ∈ Bundle.ownAtoms own ic C names, w.before args (T.setFrames (.invoking m args :: below)) = true)
    (hroom : cells + 1 ≤ R.cells) (hslots : slots + 6 ≤ R.slots) (hfr : names.length + 3 < R.frames) (hloc : (st.map fun v => v.category).sum + 1 + (13 * (names.length + 1) + 42) ≤ R.locals)
    (kk : ∀ U : State, U.status = .running → Ended U below (.threw H.size) → s.WarmedH U.vm → s.sameButNew ({ U with vm := s.vm } : State) locs (cells + 1) (slots + 6) → (∀ a : Nat, a < H.size → U.heap[a]? = H[a]?) → U.heap.size = H.size + 1 → (∃ ce : Cell, U.heap[H.size]? = some ce ∧ U.vm.findClass C = some ce.cls ∧ ce.vm = .none) → QF U) :
    W p l e R s m args below meth c H locs cells slots QF (F0 m pc ls st) := by
  intro T hT X
  have X0 := ai_rebase X (by omega) (by omega)
  obtain ⟨w1, w2, w3, w4, w5, w6⟩ := hwords T hT X.warmed
  obtain ⟨vm1, cC, kC, f1, f2, f3, f4, X1, st1⟩ := X0.newCold hexec w1 w2 w3 w4 (g := F0 m pc ls st) rfl (by rw [hb]; exact hd0) (by show 0 + 1 ≤ R.cells - cells; omega) (by show 0 + 6 ≤ R.slots - slots; omega)
  have K : W p l e { R with cells := R.cells - cells, slots := R.slots - slots } (T.setFrames (.invoking m args :: below)) m args below meth c (H.push (freshCell cC kC)) [] (0 + 1) (0 + 6) QF (F0 m (pc + 3) ls (.ref H.size :: st)) := by
    refine lv_dup hexec hb hd3 rfl ?_
    refine va_ldcS hexec hb w1 w5 hd4 ?_
    intro T2 hT2 X2
    have hcell : T2.heap[H.size]? = some (freshCell cC kC) := by rw [hT2]; simp
    obtain ⟨U, hst, hrun, hend, hWU, hsame, ce, hce, hO⟩ := X2.ctorThrowS hexec htr (own := own) (cls := C) (names := names) w1 hC hnames w6 (fun x hx => by cases hx) (a := H.size) f1 f2 hcell (by show T.heap.size ≤ H.size; rw [hT]; exact Nat.le_refl _) (msg := .ref q) rfl (g := F0 m (pc + 6) ls (.ref q :: .ref H.size :: .ref H.size :: st)) rfl hls rfl rfl (rest := st) rfl (by rw [hb]; exact hd6) (by rw [hb]; exact hd9) (by rw [hout]; intro x hx; cases hx) hfr (by
      show 2 * 0 + ((Value.ref H.size :: st).map fun v => v.category).sum + (13 * (names.length + 1) + 42) ≤ R.locals
      have e9 : ((Value.ref H.size :: st).map fun v => v.category).sum = 1 + (st.map fun v => v.category).sum := by rw [List.map_cons, List.sum_cons]; rfl
      rw [e9]
      omega) hlocks
    refine ⟨U, hst, kk U hrun hend (State.WarmedH.trans X.warmed (show T.WarmedH U.vm from hWU)) ?_ ?_ ?_ ⟨ce, hce, ?_, hO.vm⟩⟩
    · have h1 : T.sameButNew ({ U with vm := T.vm } : State) [] (0 + 1) (0 + 6) := by
        refine ⟨?_, hsame.2⟩
        have h2 := hsame.1
        rw [State.setFrames_setFrames] at h2
        exact h2
      have h3 := X.same.trans (h1.setVm s.vm)
      rw [List.append_nil] at h3
      exact h3
    · intro a ha
      have ha' : a < T.heap.size := by rw [hT]; exact ha
      have h4 : T.heap[a]? = some T.heap[a] := Array.getElem?_eq_getElem ha'
      have h5 := State.sameButNew.old_cell hsame h4
      rw [← hT, h4]
      exact h5
    · have h6 : U.heap.size ≤ T.heap.size + (0 + 1) := hsame.2.2.1
      have h7 : H.size < U.heap.size := (Array.getElem?_eq_some_iff.mp hce).1
      rw [hT] at h6
      omega
    · have h8 := hO.cls
      have h9 : (T.setFrames (.invoking m args :: below)).vm.Alike U.vm := hWU.alike
      rw [← h8]
      exact h9.findClass C none
  have hX1 : ((T.setVm vm1).pushCell (freshCell cC kC)).heap = H.push (freshCell cC kC) := by rw [← hT]; rfl
  obtain ⟨t, a1, b1⟩ := K _ hX1 X1
  refine ⟨t, st1 t ?_, b1⟩
  rw [hT]
  exact a1
end AiOwnThrow
