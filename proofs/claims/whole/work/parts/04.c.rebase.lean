section AiRebase
variable {p : Program} {l : Launch} {e : Env} {R : Room} {s : State} {m : MethodId} {args : Array Value} {below : List Frame} {meth : Method} {c : Code} {T : State} {locs : List Loc} {cells slots : Nat}
/-- the same walk, as if the method had been entered just here: what was made and written so far counts as old -/
theorem ai_rebase (X : Stand p l e R s m args below meth c T locs cells slots) (hc : cells ≤ R.cells) (hs : slots ≤ R.slots) : Stand p l e { R with cells := R.cells - cells, slots := R.slots - slots } (T.setFrames (.invoking m args :: below)) m args below meth c T [] 0 0 := by
  obtain ⟨g₀, hfr⟩ := X.frames_eq
  have hcur : T.cur < T.threads.size := State.cur_lt_of_frames hfr
  obtain ⟨th, hth, -⟩ := State.frames_cons hfr
  have hf : (T.setFrames (.invoking m args :: below)).frames = .invoking m args :: below := State.frames_setFrames _ hcur
  have hb : (T.setFrames (.invoking m args :: below)).me.stackBytes = T.me.stackBytes := State.stackBytes_setFrames T _
  have hd : T.heap.toList.drop T.heap.size = [] := List.drop_eq_nil_of_le (by simp)
  refine ⟨X.admits, X.cas, X.clock, hf, ?_, ?_, X.method', X.code, X.here, X.tail, State.WarmedH.refl _, ?_, hb.symm, ?_⟩
  · have h := X.room
    have h1 := X.heapSize
    have h2 := X.used
    have h3 := X.book
    have h4 := X.bytes
    have hm : ∀ k, T.vm.method? k = s.vm.method? k := fun k => X.warmed.alike.method? k
    have e1 : (T.setFrames (.invoking m args :: below)).localsInUse = s.localsInUse := by
      unfold State.localsInUse
      rw [hf, X.frames]
      show stackWeight _ + ((((T.vm.method? m).bind _).map _).getD 0 + 11) = _
      rw [hm]
    unfold State.hasRoom at h ⊢
    rw [Bool.and_eq_true, Bool.and_eq_true, Bool.and_eq_true, Bool.and_eq_true] at h ⊢
    obtain ⟨⟨⟨⟨a1, a2⟩, a7⟩, a8⟩, a9⟩ := h
    have a1 := of_decide_eq_true a1
    have a2 := of_decide_eq_true a2
    have a7 := of_decide_eq_true a7
    have a8 := of_decide_eq_true a8
    have hlim : e.platform.stackLimits (T.setFrames (.invoking m args :: below)).me = e.platform.stackLimits s.me := by
      unfold Platform.stackLimits
      rw [hb, h4]
    refine ⟨⟨⟨⟨decide_eq_true ?_, decide_eq_true ?_⟩, decide_eq_true ?_⟩, decide_eq_true ?_⟩, h3⟩
    · rw [e1]; exact a1
    · rw [e1, hf, hlim, hb, h4]
      rw [X.frames] at a2
      exact a2
    · show T.heap.size + (R.cells - cells) ≤ _; omega
    · show T.slotsUsed + (R.slots - slots) ≤ _; omega
  · have h := X.hears
    have hm : ∀ k, T.vm.method? k = s.vm.method? k := fun k => X.warmed.alike.method? k
    unfold State.hears at h ⊢
    split at h
    · rw [State.code?_eq] at h ⊢
      show (((T.vm.method? _).bind _).bind _).isSome = true
      rw [hm]
      exact h
    · rfl
    · rfl
    · show (T.vm.method? m).any _ = true
      rw [hm]
      exact h
  · unfold Platform.stackLimits
    rw [hb]
  · refine ⟨?_, Nat.le_refl _, Nat.le_refl _, ?_, ?_, fun a cc h => ⟨cc, h, rfl, rfl, fun _ _ => rfl⟩⟩
    · show T.setVm T.vm = _
      have e2 : (T.setFrames (.invoking m args :: below)).setFrames T.frames = T := by rw [State.setFrames_setFrames, State.setFrames_self hth]
      show T = { (T.setFrames (.invoking m args :: below)).setFrames T.frames with heap := T.heap, slotsUsed := T.slotsUsed }
      rw [e2]
    · show T.slotsUsed = T.slotsUsed + ((T.heap.toList.drop T.heap.size).map (·.slots.size)).sum
      rw [hd]; rfl
    · show ((T.heap.toList.drop T.heap.size).map (·.slots.size)).sum ≤ 0
      rw [hd]; exact Nat.le_refl _
end AiRebase
