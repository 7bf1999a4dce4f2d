/-! FROM THE LAW'S ENTRY TO THE ABSTRACT MACHINE: the claim out of a run of it (whole_of_run) -/
def m_Law_law : ai_M := (⟨"TickHouseLaw", "law", "([I)Z"⟩, code, 7, ret, 15, false, i_Law_law, [])
theorem ai_cl_known {s : State} {args : Array Value} (hts : ∀ w ∈ ai_big, w.before args s = true) : ∀ (k : Nat) (q : vw_C), ai_cl[k]? = some q → ∃ (cC : ClassId) (iS : Nat → Nat), u_Kn s q.1 q.2.1 q.2.2 cC iS := by
  intro k q h
  match k, h with
  | 0, h => cases h; exact u_known hts (ai_ckT_of ai_T0_in) (hts _ (ai_has_of (i := 267) (w := Cond.instantiable "TickHouse$Automata" 20) (by decide +kernel)))
  | 1, h => cases h; exact u_known hts (ai_ckT_of ai_T1_in) (hts _ (ai_has_of (i := 206) (w := Cond.instantiable "TickHouse$Equations" 10) (by decide +kernel)))
  | 2, h => cases h; exact u_known hts (ai_ckT_of ai_T2_in) (hts _ (ai_has_of (i := 617) (w := Cond.instantiable "TickHouse$Instance" 9) (by decide +kernel)))
  | 3, h => cases h; exact u_known hts (ai_ckT_of ai_T3_in) (hts _ (ai_has_of (i := 965) (w := Cond.instantiable "TickHouse$Judge" 6) (by decide +kernel)))
  | 4, h => cases h; exact u_known hts (ai_ckT_of ai_T4_in) (hts _ (ai_has_of (i := 136) (w := Cond.instantiable "TickHouse$Letters" 14) (by decide +kernel)))
  | 5, h => cases h; exact u_known hts (ai_ckT_of ai_T5_in) (hts _ (ai_has_of (i := 503) (w := Cond.instantiable "TickHouse$Machine" 11) (by decide +kernel)))
  | 6, h => cases h; exact u_known hts (ai_ckT_of ai_T6_in) (hts _ (ai_has_of (i := 37) (w := Cond.instantiable "TickHouse$Parts" 16) (by decide +kernel)))
  | 7, h => cases h; exact u_known hts (ai_ckT_of ai_T7_in) (hts _ (ai_has_of (i := 1369) (w := Cond.instantiable "TickHouse$Planner" 7) (by decide +kernel)))
  | 8, h => cases h; exact u_known hts (ai_ckT_of ai_T8_in) (hts _ (ai_has_of (i := 31) (w := Cond.instantiable "TickHouse$Program" 20) (by decide +kernel)))
  | 9, h => cases h; exact u_known hts (ai_ckT_of ai_T9_in) (hts _ (ai_has_of (i := 553) (w := Cond.instantiable "TickHouse$Prover" 18) (by decide +kernel)))
  | 10, h => cases h; exact u_known hts (ai_ckT_of ai_T10_in) (hts _ (ai_has_of (i := 914) (w := Cond.instantiable "TickHouse$Reader" 14) (by decide +kernel)))
  | 11, h => cases h; exact u_known hts (ai_ckT_of ai_T11_in) (hts _ (ai_has_of (i := 23) (w := Cond.instantiable "TickHouse" 10) (by decide +kernel)))
  | 12, h => cases h; exact u_known hts (ai_ckT_of ai_T12_in) (hts _ (ai_has_of (i := 1499) (w := Cond.instantiable "TickHouseModel" 124) (by decide +kernel)))
  | 13, h => cases h; exact u_known hts (ai_ckT_of ai_T13_in) (hts _ (ai_has_of (i := 1020) (w := Cond.instantiable "java/lang/IllegalArgumentException" 6) (by decide +kernel)))
  | 14, h => cases h; exact u_known hts (ai_ckT_of ai_T14_in) (hts _ (ai_has_of (i := 1475) (w := Cond.instantiable "java/util/NoSuchElementException" 6) (by decide +kernel)))
  | k + 15, h => simp [ai_cl] at h
theorem ai_arr_known {s : State} {args : Array Value} {ty : FieldType} (hty : ∀ C, ty ≠ .object C) (h : (Cond.arrayClass ty).before args s = true) : ∃ cA : ClassId, ArrOfT s cA ty ∧ va_RA s cA ty := by
  obtain ⟨c, k, comp, h1, h2, h3⟩ := Cond.arrayClass_spec h
  refine ⟨c, fun n z => ⟨fun k h => (by cases h), k, h2, comp, h3⟩, ?_⟩
  cases ty <;> first | exact h1 | exact absurd rfl (hty _)
theorem ai_tl_known {s : State} {args : Array Value} (hts : ∀ w ∈ ai_big, w.before args s = true) (hAO : va_AO "TickHouse$Instance" s) : ∀ (k : Nat) (ty : FieldType), ai_tl[k]? = some ty → ∃ cA : ClassId, ArrOfT s cA ty ∧ va_RA s cA ty := by
  intro k ty h
  match k, h with
  | 0, h => cases h; exact ai_arr_known (fun _ q => by cases q) (hts _ (ai_has_of (i := 133) (by decide +kernel)))
  | 1, h => cases h; exact ai_arr_known (fun _ q => by cases q) (hts _ (ai_has_of (i := 134) (by decide +kernel)))
  | 2, h => cases h; exact ai_arr_known (fun _ q => by cases q) (hts _ (ai_has_of (i := 132) (by decide +kernel)))
  | 3, h => cases h; exact ai_arr_known (fun _ q => by cases q) (hts _ (ai_has_of (i := 2384) (by decide +kernel)))
  | 4, h =>
    cases h
    obtain ⟨comp, c, k, h1, -, h3, h4, h5⟩ := Cond.arrayOver_spec hAO
    exact ⟨c, fun n z => ⟨fun k h => (by cases h), k, h3, comp, h4⟩, k, comp, h3, h4, h1, h5⟩
  | k + 5, h => simp [ai_tl] at h
theorem ai_tbl {s : State} {args : Array Value} (hts : ∀ w ∈ lw_tbl, w.before args s = true) {i : Nat} {w : Cond} (h : tables_1[i]? = some w) : w.before args s = true := hts w (List.mem_append_right _ (List.mem_of_getElem? h))
theorem ai_NS_start {s : State} {args : Array Value} (hts : ∀ w ∈ lw_tbl, w.before args s = true) (hgv : (Jvm.Cond.and given_1 narrow_1).before args s = true) : ai_NS ai_nests s.heap.size s := by
  have hflat := flat_of_before _ hgv
  refine ⟨⟨?_, va_AO.of (ai_tbl hts (i := 551) (by decide +kernel))⟩, ?_, ?_⟩
  · unfold ai_nests
    exact List.forall_mem_cons.mpr ⟨va_Nw.of rfl (ai_tbl hts (i := 32) (by decide +kernel)), List.forall_mem_cons.mpr ⟨va_Nw.of rfl (ai_tbl hts (i := 38) (by decide +kernel)), List.forall_mem_cons.mpr ⟨va_Nw.of rfl (ai_tbl hts (i := 137) (by decide +kernel)), List.forall_mem_cons.mpr ⟨va_Nw.of rfl (ai_tbl hts (i := 207) (by decide +kernel)), List.forall_mem_cons.mpr ⟨va_Nw.of rfl (ai_tbl hts (i := 268) (by decide +kernel)), List.forall_mem_cons.mpr ⟨va_Nw.of rfl (ai_tbl hts (i := 509) (by decide +kernel)), List.forall_mem_cons.mpr ⟨va_Nw.of rfl (ai_tbl hts (i := 512) (by decide +kernel)), List.forall_mem_cons.mpr ⟨va_Nw.of rfl (ai_tbl hts (i := 554) (by decide +kernel)), List.forall_mem_cons.mpr ⟨va_Nw.of rfl (ai_tbl hts (i := 618) (by decide +kernel)), List.forall_mem_cons.mpr ⟨va_Nw.of rfl (ai_tbl hts (i := 1021) (by decide +kernel)), List.forall_mem_cons.mpr ⟨va_Nw.of rfl (ai_tbl hts (i := 1022) (by decide +kernel)), List.forall_mem_cons.mpr ⟨va_Nw.of rfl (ai_tbl hts (i := 1023) (by decide +kernel)), List.forall_mem_cons.mpr ⟨va_Nw.of rfl (ai_tbl hts (i := 1024) (by decide +kernel)), List.forall_mem_cons.mpr ⟨va_Nw.of rfl (ai_tbl hts (i := 1025) (by decide +kernel)), List.forall_mem_cons.mpr ⟨va_Nw.of rfl (ai_tbl hts (i := 1026) (by decide +kernel)), List.forall_mem_cons.mpr ⟨va_Nw.of rfl (ai_tbl hts (i := 1027) (by decide +kernel)), List.forall_mem_cons.mpr ⟨va_Nw.of rfl (ai_tbl hts (i := 1476) (by decide +kernel)), fun _ h => absurd h List.not_mem_nil⟩⟩⟩⟩⟩⟩⟩⟩⟩⟩⟩⟩⟩⟩⟩⟩⟩
  · have key : ∀ q : String × String, (Cond.laysStatic Bundle.tN q.1 q.2).before args s = true → (Cond.isRef (.static Bundle.tN q.1 q.2)).before args s = true → (∀ a, (Cond.laysStatic Bundle.tN q.1 q.2).before a s = true) ∧ va_Zq Bundle.tN q.1 q.2 (fun a => s.heap.size ≤ a) s s.heap := by
      intro q h1 h2
      refine ⟨fun a => ?_, va_Zqof h1 (ai_tbl hts (i := 14) (by decide +kernel)) h2 (fun a ha => Nat.not_le.mpr ha)⟩
      obtain ⟨c, k, i, f, ad, cell, g1, g2, g3, g4, g5, g6, g7, g8, g9⟩ := Cond.laysStatic_spec h1
      exact Cond.laysStatic_of g1 g2 g3 g4 g5 g6 g7 g8 g9
    unfold ai_St ai_sts
    exact List.forall_mem_cons.mpr ⟨key _ (ai_tbl hts (i := 1046) (by decide +kernel)) (hflat _ (by decide +kernel)), List.forall_mem_cons.mpr ⟨key _ (ai_tbl hts (i := 1048) (by decide +kernel)) (hflat _ (by decide +kernel)), fun _ h => absurd h List.not_mem_nil⟩⟩
  · have key : ∀ q : ai_Site, (Cond.stringRef q.1 q.2.2.1 q.2.2.2.2.2.2.2.2.2).before args s = true → (Cond.exactly (.string q.1 q.2.2.1) "java/lang/String").before args s = true → ∃ a, vk_R q.1 q.2.2.1 q.2.2.2.2.2.2.2.2.2 a s := by
      intro q h1 h2
      obtain ⟨a, c, cell, k, g1, -⟩ := Cond.exactly_spec h2
      exact ⟨a, vk_R.of h1 g1⟩
    unfold ai_Sr ai_sites
    exact List.forall_mem_cons.mpr ⟨key _ (ai_tbl hts (i := 1366) (by decide +kernel)) (hflat _ (by decide +kernel)), List.forall_mem_cons.mpr ⟨key _ (ai_tbl hts (i := 1059) (by decide +kernel)) (hflat _ (by decide +kernel)), List.forall_mem_cons.mpr ⟨key _ (ai_tbl hts (i := 1483) (by decide +kernel)) (hflat _ (by decide +kernel)), List.forall_mem_cons.mpr ⟨key _ (ai_tbl hts (i := 1497) (by decide +kernel)) (hflat _ (by decide +kernel)), fun _ h => absurd h List.not_mem_nil⟩⟩⟩⟩
theorem ai_K_start {s : State} {args : Array Value} (hts : ∀ w ∈ lw_tbl, w.before args s = true) (hgv : (Jvm.Cond.and given_1 narrow_1).before args s = true) : ∃ (D : va_G) (G : Nat → ClassId), va_K D ai_cl (ai_tys G ai_tl) s := by
  have hbig : ∀ w ∈ ai_big, w.before args s = true := fun w hw => hts w (List.mem_filter.mp hw).1
  have h1 : ∀ k : Nat, ∃ x : ClassId × (Nat → Nat), ∀ q : vw_C, ai_cl[k]? = some q → u_Kn s q.1 q.2.1 q.2.2 x.1 x.2 := by
    intro k
    cases hq : ai_cl[k]? with
    | none => exact ⟨(0, fun _ => 0), fun q h => by cases h⟩
    | some q0 =>
      obtain ⟨cC, iS, h⟩ := ai_cl_known hbig k q0 hq
      exact ⟨(cC, iS), fun q h' => by cases h'; exact h⟩
  have h2 : ∀ k : Nat, ∃ cA : ClassId, ∀ ty : FieldType, ai_tl[k]? = some ty → ArrOfT s cA ty ∧ va_RA s cA ty := by
    intro k
    cases hq : ai_tl[k]? with
    | none => exact ⟨0, fun q h => by cases h⟩
    | some q0 =>
      obtain ⟨cA, h⟩ := ai_tl_known hbig (ai_NS_start hts hgv).1.2 k q0 hq
      exact ⟨cA, fun q h' => by cases h'; exact h⟩
  obtain ⟨F, hF⟩ := Classical.axiomOfChoice h1
  obtain ⟨G, hG⟩ := Classical.axiomOfChoice h2
  refine ⟨(fun k => (F k).1, fun k => (F k).2), G, fun k q hq => hF k q hq, fun k q hq => ?_⟩
  simp only [ai_tys, List.getElem?_mapIdx] at hq
  cases ht : ai_tl[k]? with
  | none => rw [ht] at hq; cases hq
  | some ty => rw [ht] at hq; cases hq; exact hG k ty ht
/-- THE CLAIM OUT OF A RUN: what is left is a statement about ai_run alone -/
def ai_Claim (b L : Nat) (xs : Nat → Int32) : Prop := ∃ (d k : Nat) (z2 : List va_E), ai_run (some (b, L, xs)) ai_P0 (ai_exec ai_P0 k d) m_Law_law k (0, ai_lv [.retAddr b] 7, [], []) = some (some (.int 1), z2) ∧ d ≤ 1000 ∧ z2.length ≤ 601024 ∧ ai_c z2 ≤ 7293034
set_option maxHeartbeats 4000000 in
theorem whole_of_run {p : Program} {e : Env} {s : State} {m : MethodId} {below : List Frame} {meth : Method} {c : Code} (l : Launch) (hfl : l.flags = flags0) {b L : Nat} {xs : Nat → Int32} (hcl : ai_Claim b L xs) (C0 : lw_At p s m meth c b L xs) : W p l e room_1 s m #[Value.ref b] below meth c s.heap [] 0 0 (lw_Z below #[Value.ref b] s) (entryFrame m ([Value.ref b] : List Value).toArray 7) := by
  obtain ⟨hx, hb, hr, hml, hown, hts, hX, hbl, hlocks, hgv⟩ := C0
  obtain ⟨d, k, z2, hrun, hd, hz, hc⟩ := hcl
  obtain ⟨D, G, hK⟩ := ai_K_start hts hgv
  have hbig : ∀ w ∈ ai_big, w.before #[Value.ref b] s = true := fun w hw => hts w (List.mem_filter.mp hw).1
  have hg := ai_run_gr (ai_exec_gr d) _ _ _ hrun
  have hRet : ai_Ret p l e room_1 s m #[Value.ref b] below meth c D ai_cl G s.heap.size 0 m_Law_law (some (.int 1)) z2 (lw_Z below #[Value.ref b] s) := by
    intro i len pc st H locs cells slots ls hd hk he hI
    obtain ⟨hP, hS, hsz, hsl⟩ := hI
    unfold ai_ret at he
    split at he
    · split at he
      · split at he
        · cases he
          have e3 : len = 1 := by simpa [ai_lk] using hk
          subst e3
          refine va_forget (fun q hq => hS.2.2 q hq) ?_
          refine W.widen (k := 601024) (n := 7293034) (by omega) (by omega) ?_
          exact lw_ret hx hb hr hlocks hd
        · cases he
      · cases he
    · split at he <;> cases he
    · cases he
  have h0 : entryFrame m ([Value.ref b] : List Value).toArray 7 = F0 m 0 ((lg_sl ([Value.retAddr b].map (ai_v s.heap.size)) ++ List.replicate (7 - (lg_sl ([Value.retAddr b].map (ai_v s.heap.size))).length) Slot.unset).toArray) [] := lg_entry_eq m [Value.ref b] 7
  rw [h0]
  exact ai_run_W (sc := some (b, L, xs)) (S := s.heap.size) (c0 := 0) (D := D) (G := G) (fun b' n' xs' h9 => (by cases h9; exact ⟨hX, hbl, Nat.not_le.mpr hbl⟩)) (M := m_Law_law) (call := ai_exec ai_P0 k d) (d := d) (mc := z2.length) (ms := ai_c z2) hfl ai_sites_ok ai_tb rfl (fun h hh => absurd hh List.not_mem_nil) (fun h9 => by
    rcases h9 with h9 | ⟨a, h9⟩
    · exact absurd rfl h9
    · cases h9) (ai_ckI_of j_Law_law) (ai_exec_met hfl ai_sites_ok ai_tb d) (ai_exec_gr d) (by show d + 11 ≤ 2048; omega) (by show (d + 5) * 80 ≤ 84000; omega) (show z2.length ≤ 601024 from hz) (show ai_c z2 ≤ 7293034 from hc) hx hb hml hbig (ai_NS_start hts hgv) hown (fun q => by cases q) (Nat.le_refl _) hK (by omega) (by omega) hRet (fun a h9 => by cases h9) k (0, ai_lv [.retAddr b] 7, [], []) hrun s.heap [] 0 0 _ ⟨fun k q h => (by simp [ai_w] at h), va_S.rf, rfl, rfl⟩ (ai_lv_has s.heap.size [.retAddr b] (Nat.le_of_ble_eq_true rfl))
