/-! INSTRUCTIONS OVER THE WORLD -/
/-- an array's types by their number: what the tables know of them -/
def ai_tys (G : Nat → ClassId) (tl : List FieldType) : List (ClassId × FieldType) := tl.mapIdx (fun k t => (G k, t))
theorem ai_tys_get {G : Nat → ClassId} {tl : List FieldType} {k : Nat} {t : FieldType} (h : tl[k]? = some t) : (ai_tys G tl)[k]? = some (G k, t) := by simp [ai_tys, h]
abbrev ai_H : Type := Nat × List Value × List va_E
def ai_gf (fl : Nat → Option (Nat × Nat × FieldType × Bool)) (idx pc : Nat) (st : List Value) (z : List va_E) : Option ai_H := match st with
  | .ref a :: r => match fl idx, z[a]? with
    | some (ci, k, _, _), some (.inr (cj, fs)) => if ci = cj then match fs[k]? with
      | some v => some (pc + 3, v :: r, z)
      | none => none
      else none
    | _, _ => none
  | _ => none
def ai_pf (fl : Nat → Option (Nat × Nat × FieldType × Bool)) (ini : Nat → Bool) (idx pc : Nat) (st : List Value) (z : List va_E) : Option ai_H := match st with
  | v :: .ref a :: r => match fl idx, z[a]? with
    | some (ci, k, ty, fin), some (.inr (cj, fs)) => if ci = cj ∧ k < fs.length ∧ narrow ty v = v ∧ fits ty v = true ∧ (fin = true → ini ci = true) then some (pc + 3, r, z.set a (.inr (ci, fs.set k v))) else none
    | _, _ => none
  | _ => none
def ai_ald (g : Nat) (pc : Nat) (st : List Value) (z : List va_E) : Option ai_H := match st with
  | .int i :: .ref a :: r => match z[a]? with
    | some (.inl (cA, n, .inl f)) => if cA = g ∧ ¬ (i < 0 ∨ n ≤ i.toNatClampNeg) then some (pc + 1, .int (f i.toNatClampNeg) :: r, z) else none
    | _ => none
  | _ => none
def ai_ast (g : Nat) (nar : Int32 → Int32) (pc : Nat) (st : List Value) (z : List va_E) : Option ai_H := match st with
  | .int x :: .int i :: .ref a :: r => match z[a]? with
    | some (.inl (cA, n, .inl f)) => if cA = g ∧ ¬ (i < 0 ∨ n ≤ i.toNatClampNeg) then some (pc + 1, r, z.set a (.inl (cA, n, .inl (upd f i.toNatClampNeg (nar x))))) else none
    | _ => none
  | _ => none
def ai_len (pc : Nat) (st : List Value) (z : List va_E) : Option ai_H := match st with
  | .ref a :: r => match z[a]? with
    | some (.inl (t, n, .inl _)) => if t < 3 then some (pc + 1, .int (Int32.ofNat n) :: r, z) else none
    | _ => none
  | _ => none
def ai_aald (g : Nat) (pc : Nat) (st : List Value) (z : List va_E) : Option ai_H := match st with
  | .int i :: .ref a :: r => match z[a]? with
    | some (.inl (t, n, .inr (.inr (.inr (.inr f))))) => if t = g ∧ ¬ (i < 0 ∨ n ≤ i.toNatClampNeg) then some (pc + 1, va_rf (f i.toNatClampNeg) :: r, z) else none
    | _ => none
  | _ => none
def ai_aast (g cg : Nat) (pc : Nat) (st : List Value) (z : List va_E) : Option ai_H := match st with
  | .ref v :: .int i :: .ref a :: r => match z[v]?, z[a]? with
    | some (.inr (ci, _)), some (.inl (t, n, .inr (.inr (.inr (.inr f))))) => if ci = cg ∧ t = g ∧ ¬ (i < 0 ∨ n ≤ i.toNatClampNeg) then some (pc + 1, r, z.set a (.inl (t, n, .inr (.inr (.inr (.inr (va_up f i.toNatClampNeg (some v)))))))) else none
    | _, _ => none
  | _ => none
def ai_nwq (g cg : Nat) (nw : Nat → Option Nat) (idx pc : Nat) (st : List Value) (z : List va_E) : Option ai_H := match st with
  | .int n :: r => if nw idx = some cg ∧ ¬ (n < 0 ∨ 1000000 < n.toNatClampNeg) then some (pc + 3, .ref z.length :: r, z ++ [.inl (g, n.toNatClampNeg, .inr (.inr (.inr (.inr (fun _ => none)))))]) else none
  | _ => none
def ai_ldk (cs : Nat → Option Value) (idx len pc : Nat) (st : List Value) (z : List va_E) : Option ai_H := match cs idx with
  | some (.int v) => if len = 4 then none else some (pc + len, .int v :: st, z)
  | some (.long v) => if len = 4 then some (pc + 3, .long v :: st, z) else none
  | _ => none
def ai_new (nw : Nat → Option Nat) (df : Nat → List Value) (idx pc : Nat) (st : List Value) (z : List va_E) : Option ai_H := match nw idx with
  | some ci => some (pc + 3, .ref z.length :: st, z ++ [.inr (ci, df ci)])
  | none => none
def ai_nwa (g : Nat) (pc : Nat) (st : List Value) (z : List va_E) : Option ai_H := match st with
  | .int n :: r => if n < 0 ∨ 1000000 < n.toNatClampNeg then none else some (pc + 2, .ref z.length :: r, z ++ [.inl (g, n.toNatClampNeg, .inl (fun _ => 0))])
  | _ => none
def ai_lald (pc : Nat) (st : List Value) (z : List va_E) : Option ai_H := match st with
  | .int i :: .ref a :: r => match z[a]? with
    | some (.inl (t, n, .inr (.inl f))) => if t = 3 ∧ ¬ (i < 0 ∨ n ≤ i.toNatClampNeg) then some (pc + 1, .long (f i.toNatClampNeg) :: r, z) else none
    | _ => none
  | _ => none
def ai_last (pc : Nat) (st : List Value) (z : List va_E) : Option ai_H := match st with
  | .long x :: .int i :: .ref a :: r => match z[a]? with
    | some (.inl (t, n, .inr (.inl f))) => if t = 3 ∧ ¬ (i < 0 ∨ n ≤ i.toNatClampNeg) then some (pc + 1, r, z.set a (.inl (t, n, .inr (.inl (vp_updL f i.toNatClampNeg x))))) else none
    | _ => none
  | _ => none
def ai_nwl (pc : Nat) (st : List Value) (z : List va_E) : Option ai_H := match st with
  | .int n :: r => if n < 0 ∨ 1000000 < n.toNatClampNeg then none else some (pc + 2, .ref z.length :: r, z ++ [.inl (3, n.toNatClampNeg, .inr (.inl (fun _ => 0)))])
  | _ => none
/-- System.arraycopy of whole numbers -/
def ai_cpy (st : List Value) (z : List va_E) (pc : Nat) : Option ai_H := match st with
  | .int n :: .int dp :: .ref a :: .int sp :: .ref b :: rest => match z[b]?, z[a]? with
    | some (.inl (t0, n0, .inl f)), some (.inl (t1, n1, .inl g)) => if t0 = 0 ∧ t1 = 0 ∧ ¬ sp < 0 ∧ ¬ dp < 0 ∧ ¬ n < 0 ∧ sp.toNatClampNeg + n.toNatClampNeg ≤ n0 ∧ dp.toNatClampNeg + n.toNatClampNeg ≤ n1 ∧ (rest.map fun v => v.category).sum ≤ 8 then some (pc + 3, rest, z.set a (.inl (t1, n1, .inl (va_cpy f g sp.toNatClampNeg dp.toNatClampNeg n.toNatClampNeg)))) else none
    | _, _ => none
  | _ => none
/-- the law's script: its address, its length, its numbers -/
abbrev ai_SC : Type := Option (Nat × Nat × (Nat → Int32))
def ai_iald (sc : ai_SC) (pc : Nat) (st : List Value) (z : List va_E) : Option ai_H := match st with
  | .int i :: .retAddr b :: r => match sc with
    | some (b', n, xs) => if b = b' ∧ ¬ (i < 0 ∨ n ≤ i.toNatClampNeg) then some (pc + 1, .int (xs i.toNatClampNeg) :: r, z) else none
    | none => none
  | _ => ai_ald 0 pc st z
def ai_alen (sc : ai_SC) (pc : Nat) (st : List Value) (z : List va_E) : Option ai_H := match st with
  | .retAddr b :: r => match sc with
    | some (b', n, _) => if b = b' then some (pc + 1, .int (Int32.ofNat n) :: r, z) else none
    | none => none
  | _ => ai_len pc st z
section AiHeap
variable {p : Program} {l : Launch} {e : Env} {R : Room} {s : State} {m : MethodId} {args : Array Value} {below : List Frame} {meth : Method} {c : Code} {H : Heap} {locs : List Loc} {cells slots : Nat} {Q : State → Prop}
variable {cc : ByteArray} {pc pc' nL S c0 : Nat} {ls : Array Slot} {st st' : List Value} {z z' : List va_E} {D : va_G} {cl : List vw_C} {G : Nat → ClassId} {tl : List FieldType} {own : String} {Ts : List Cond}
theorem W.sized {g : JFrame} (k : H.size ≤ s.heap.size + cells → W p l e R s m args below meth c H locs cells slots Q g) : W p l e R s m args below meth c H locs cells slots Q g := by
  intro T hT X
  exact k (by rw [← hT]; exact X.heapSize) T hT X
/-- the world at a point of a walk: its cells, what is new since the start -/
def ai_I (D : va_G) (cl : List vw_C) (G : Nat → ClassId) (S c0 : Nat) (s : State) (z : List va_E) (H : Heap) (locs : List Loc) (cells slots : Nat) : Prop :=
  va_P D cl (ai_w S G z) H ∧ va_S (fun q => S ≤ q) s.heap H locs ∧ S + z.length = s.heap.size + cells ∧ ai_c z = c0 + slots
/-- what the tables know of a field -/
def ai_FL (own : String) (cl : List vw_C) (s : State) (args : Array Value) (fl : Nat → Option (Nat × Nat × FieldType × Bool)) : Prop := ∀ (idx ci k : Nat) (ty : FieldType) (fin : Bool), fl idx = some (ci, k, ty, fin) →
  ∃ (C : String) (T : u_T) (N : Nat), cl[ci]? = some (C, T, N) ∧ k < N ∧ ((Cond.fieldLink own idx (T k).1 (T k).2.1 (T k).2.2.1).before args s = true ∨ (fin = false ∧ ∃ host, (Cond.fieldLinkNest own idx (T k).1 (T k).2.1 (T k).2.2.1 host).before args s = true)) ∧ parseFieldDescriptor (T k).2.2.1 = some ty ∧ (T k).2.2.2 = fin ∧ (T k).1 = C
/-- what the tables know of the classes -/
def ai_CL (cl : List vw_C) (Ts : List Cond) : Prop := ∀ (ci : Nat) (C : String) (T : u_T) (N : Nat), cl[ci]? = some (C, T, N) → (∀ w ∈ u_ws C T N, w ∈ Ts) ∧ (∃ ty0 : Nat → FieldType, ∀ k, k < N → parseFieldDescriptor (T k).2.2.1 = some (ty0 k)) ∧ ∀ a, a < N → ∀ b, b < N → a ≠ b → (T a).2.1 ≠ (T b).2.1
theorem ai_gf_W {fl : Nat → Option (Nat × Nat × FieldType × Bool)} {idx : Nat} (hx : p.tables.exec = Jvm.exec) (hb : c.code = cc) (hts : ∀ w ∈ Ts, w.before args s = true) (hown : s.vm.findClass own = some m.cls) (hK : va_K D cl (ai_tys G tl) s) (hCL : ai_CL cl Ts) (hFL : ai_FL own cl s args fl)
    (hd : decode cc pc = .ok (.getfield idx, 3)) (h : ai_gf fl idx pc st z = some (pc', st', z')) (hI : ai_I D cl G S c0 s z H locs cells slots)
    (kk : ai_I D cl G S c0 s z' H locs cells slots → W p l e R s m args below meth c H locs cells slots Q (F0 m pc' ls (st'.map (ai_v S)))) : W p l e R s m args below meth c H locs cells slots Q (F0 m pc ls (st.map (ai_v S))) := by
  unfold ai_gf at h
  split at h
  · split at h
    · next hf ha =>
      split at h
      · next hc =>
        subst hc
        split at h
        · next v hv =>
          simp only [Option.some.injEq, Prod.mk.injEq] at h
          obtain ⟨rfl, rfl, rfl⟩ := h
          obtain ⟨C, T, N, h1, h2, h3, -, -, -⟩ := hFL _ _ _ _ _ hf
          rcases h3 with h3 | ⟨-, host, h3⟩
          · exact va_get hx hb hts (hCL _ _ _ _ h1).1 hown hK hI.1 _ (ai_w_get ha) h1 _ h2 h3 (fun _ h9 => h9) (v := ai_v S v) (by rw [List.getElem?_map, hv]; rfl) hd (kk hI)
          · exact va_getN hx hb hts (hCL _ _ _ _ h1).1 hown hK hI.1 _ (ai_w_get ha) h1 _ h2 h3 (fun _ h9 => h9) (v := ai_v S v) (by rw [List.getElem?_map, hv]; rfl) hd (kk hI)
        · cases h
      · cases h
    · cases h
  · cases h
theorem ai_I.set {z : List va_E} {a : Nat} {e0 e' : va_E} {H1 : Heap} {locs1 : List Loc} (hI : ai_I D cl G S c0 s z H locs cells slots) (ha : z[a]? = some e0) (hs : ai_sl e' = ai_sl e0) (hP : va_P D cl ((ai_w S G z).set a (S + a, ai_e S G e')) H1) (hS : va_S (fun q => S ≤ q) s.heap H1 locs1) : ai_I D cl G S c0 s (z.set a e') H1 locs1 cells slots := by
  rw [ai_w_set] at hP
  exact ⟨hP, hS, by rw [List.length_set]; exact hI.2.2.1, by rw [ai_c_set ha hs]; exact hI.2.2.2⟩
theorem ai_pf_W {fl : Nat → Option (Nat × Nat × FieldType × Bool)} {ini : Nat → Bool} {idx : Nat} (hx : p.tables.exec = Jvm.exec) (hb : c.code = cc) (hts : ∀ w ∈ Ts, w.before args s = true) (hown : s.vm.findClass own = some m.cls) (hini : ∀ ci, ini ci = true → meth.name = "<init>" ∧ ∀ C T N, cl[ci]? = some (C, T, N) → C = own) (hK : va_K D cl (ai_tys G tl) s) (hCL : ai_CL cl Ts) (hFL : ai_FL own cl s args fl)
    (hd : decode cc pc = .ok (.putfield idx, 3)) (h : ai_pf fl ini idx pc st z = some (pc', st', z')) (hI : ai_I D cl G S c0 s z H locs cells slots)
    (kk : ∀ (H1 : Heap) (locs1 : List Loc), ai_I D cl G S c0 s z' H1 locs1 cells slots → W p l e R s m args below meth c H1 locs1 cells slots Q (F0 m pc' ls (st'.map (ai_v S)))) : W p l e R s m args below meth c H locs cells slots Q (F0 m pc ls (st.map (ai_v S))) := by
  unfold ai_pf at h
  split at h
  · split at h
    · next hf ha =>
      split at h
      · next hc =>
        obtain ⟨rfl, hk, hn, hfi, hfin⟩ := hc
        simp only [Option.some.injEq, Prod.mk.injEq] at h
        obtain ⟨rfl, rfl, rfl⟩ := h
        obtain ⟨C, T, N, h1, h2, h3, h4, h5, h6⟩ := hFL _ _ _ _ _ hf
        obtain ⟨g1, ⟨ty0, g2⟩, g3⟩ := hCL _ _ _ _ h1
        rcases h3 with h3 | ⟨hff, host, h3⟩
        · cases hfb : (T _).2.2.2 with
          | false => exact va_put hx hb hts g1 ty0 g2 g3 hown hK hI.1 (ai_w_D S G z) hI.2.1 _ (ai_w_get ha) h1 _ h2 h3 (fun _ h9 => h9) hfb h4 (ai_v_nar hn) (ai_v_fit hfi) (by rw [List.length_map]; exact hk) hd (fun H1 locs1 hP _ hS => kk H1 locs1 (hI.set ha (by simp [ai_sl]) (by rw [← List.map_set] at hP; exact hP) hS))
          | true => exact va_putF hx hb hts g1 ty0 g2 g3 hown hK hI.1 (ai_w_D S G z) hI.2.1 _ (ai_w_get ha) h1 _ h2 h3 (fun _ h9 => h9) hfb (hini _ (hfin (h5.symm.trans hfb))).1 (h6.trans ((hini _ (hfin (h5.symm.trans hfb))).2 _ _ _ h1)) h4 (ai_v_nar hn) (ai_v_fit hfi) (by rw [List.length_map]; exact hk) hd (fun H1 locs1 hP _ hS => kk H1 locs1 (hI.set ha (by simp [ai_sl]) (by rw [← List.map_set] at hP; exact hP) hS))
        · exact va_putN hx hb hts g1 ty0 g2 g3 hown hK hI.1 (ai_w_D S G z) hI.2.1 _ (ai_w_get ha) h1 _ h2 h3 (fun _ h9 => h9) (h5.trans hff) h4 (ai_v_nar hn) (ai_v_fit hfi) (by rw [List.length_map]; exact hk) hd (fun H1 locs1 hP _ hS => kk H1 locs1 (hI.set ha (by simp [ai_sl]) (by rw [← List.map_set] at hP; exact hP) hS))
      · cases h
    · cases h
  · cases h
theorem ai_iaload_W (hx : p.tables.exec = Jvm.exec) (hb : c.code = cc) (hK : va_K D cl (ai_tys G tl) s) (htl : tl[0]? = some .int)
    (hd : decode cc pc = .ok (.iaload, 1)) (h : ai_ald 0 pc st z = some (pc', st', z')) (hI : ai_I D cl G S c0 s z H locs cells slots)
    (kk : ai_I D cl G S c0 s z' H locs cells slots → W p l e R s m args below meth c H locs cells slots Q (F0 m pc' ls (st'.map (ai_v S)))) : W p l e R s m args below meth c H locs cells slots Q (F0 m pc ls (st.map (ai_v S))) := by
  unfold ai_ald at h
  split at h
  · split at h
    · next ha =>
      split at h
      · next hc =>
        obtain ⟨rfl, hin⟩ := hc
        simp only [Option.some.injEq, Prod.mk.injEq] at h
        obtain ⟨rfl, rfl, rfl⟩ := h
        exact va_iald hx hb hK hI.1 _ 0 (ai_w_get ha) (ai_tys_get htl) hin hd (kk hI)
      · cases h
    · cases h
  · cases h
theorem ai_baload_W (hx : p.tables.exec = Jvm.exec) (hb : c.code = cc) (hK : va_K D cl (ai_tys G tl) s) (htl : tl[1]? = some .boolean)
    (hd : decode cc pc = .ok (.baload, 1)) (h : ai_ald 1 pc st z = some (pc', st', z')) (hI : ai_I D cl G S c0 s z H locs cells slots)
    (kk : ai_I D cl G S c0 s z' H locs cells slots → W p l e R s m args below meth c H locs cells slots Q (F0 m pc' ls (st'.map (ai_v S)))) : W p l e R s m args below meth c H locs cells slots Q (F0 m pc ls (st.map (ai_v S))) := by
  unfold ai_ald at h
  split at h
  · split at h
    · next ha =>
      split at h
      · next hc =>
        obtain ⟨rfl, hin⟩ := hc
        simp only [Option.some.injEq, Prod.mk.injEq] at h
        obtain ⟨rfl, rfl, rfl⟩ := h
        exact va_zald hx hb hK hI.1 _ 1 (ai_w_get ha) (ai_tys_get htl) hin hd (kk hI)
      · cases h
    · cases h
  · cases h
theorem ai_caload_W (hx : p.tables.exec = Jvm.exec) (hb : c.code = cc) (hK : va_K D cl (ai_tys G tl) s) (htl : tl[2]? = some .char)
    (hd : decode cc pc = .ok (.caload, 1)) (h : ai_ald 2 pc st z = some (pc', st', z')) (hI : ai_I D cl G S c0 s z H locs cells slots)
    (kk : ai_I D cl G S c0 s z' H locs cells slots → W p l e R s m args below meth c H locs cells slots Q (F0 m pc' ls (st'.map (ai_v S)))) : W p l e R s m args below meth c H locs cells slots Q (F0 m pc ls (st.map (ai_v S))) := by
  unfold ai_ald at h
  split at h
  · split at h
    · next ha =>
      split at h
      · next hc =>
        obtain ⟨rfl, hin⟩ := hc
        simp only [Option.some.injEq, Prod.mk.injEq] at h
        obtain ⟨rfl, rfl, rfl⟩ := h
        exact va_cald hx hb hK hI.1 _ 2 (ai_w_get ha) (ai_tys_get htl) hin hd (kk hI)
      · cases h
    · cases h
  · cases h
theorem ai_iastore_W (hx : p.tables.exec = Jvm.exec) (hb : c.code = cc) (hK : va_K D cl (ai_tys G tl) s) (htl : tl[0]? = some .int)
    (hd : decode cc pc = .ok (.iastore, 1)) (h : ai_ast 0 (fun x => x) pc st z = some (pc', st', z')) (hI : ai_I D cl G S c0 s z H locs cells slots)
    (kk : ∀ (H1 : Heap) (locs1 : List Loc), ai_I D cl G S c0 s z' H1 locs1 cells slots → W p l e R s m args below meth c H1 locs1 cells slots Q (F0 m pc' ls (st'.map (ai_v S)))) : W p l e R s m args below meth c H locs cells slots Q (F0 m pc ls (st.map (ai_v S))) := by
  unfold ai_ast at h
  split at h
  · split at h
    · next ha =>
      split at h
      · next hc =>
        obtain ⟨rfl, hin⟩ := hc
        simp only [Option.some.injEq, Prod.mk.injEq] at h
        obtain ⟨rfl, rfl, rfl⟩ := h
        exact va_iast hx hb hK hI.1 (ai_w_D S G z) hI.2.1 _ 0 (ai_w_get ha) (ai_tys_get htl) hin hd (fun H1 locs1 hP _ hS => kk H1 locs1 (hI.set ha rfl hP hS))
      · cases h
    · cases h
  · cases h
theorem ai_bastore_W (hx : p.tables.exec = Jvm.exec) (hb : c.code = cc) (hK : va_K D cl (ai_tys G tl) s) (htl : tl[1]? = some .boolean)
    (hd : decode cc pc = .ok (.bastore, 1)) (h : ai_ast 1 (vp_nar .boolean) pc st z = some (pc', st', z')) (hI : ai_I D cl G S c0 s z H locs cells slots)
    (kk : ∀ (H1 : Heap) (locs1 : List Loc), ai_I D cl G S c0 s z' H1 locs1 cells slots → W p l e R s m args below meth c H1 locs1 cells slots Q (F0 m pc' ls (st'.map (ai_v S)))) : W p l e R s m args below meth c H locs cells slots Q (F0 m pc ls (st.map (ai_v S))) := by
  unfold ai_ast at h
  split at h
  · split at h
    · next ha =>
      split at h
      · next hc =>
        obtain ⟨rfl, hin⟩ := hc
        simp only [Option.some.injEq, Prod.mk.injEq] at h
        obtain ⟨rfl, rfl, rfl⟩ := h
        exact va_zast hx hb hK hI.1 (ai_w_D S G z) hI.2.1 _ 1 (ai_w_get ha) (ai_tys_get htl) hin hd (fun H1 locs1 hP _ hS => kk H1 locs1 (hI.set ha rfl hP hS))
      · cases h
    · cases h
  · cases h
theorem ai_castore_W (hx : p.tables.exec = Jvm.exec) (hb : c.code = cc) (hK : va_K D cl (ai_tys G tl) s) (htl : tl[2]? = some .char)
    (hd : decode cc pc = .ok (.castore, 1)) (h : ai_ast 2 (vp_nar .char) pc st z = some (pc', st', z')) (hI : ai_I D cl G S c0 s z H locs cells slots)
    (kk : ∀ (H1 : Heap) (locs1 : List Loc), ai_I D cl G S c0 s z' H1 locs1 cells slots → W p l e R s m args below meth c H1 locs1 cells slots Q (F0 m pc' ls (st'.map (ai_v S)))) : W p l e R s m args below meth c H locs cells slots Q (F0 m pc ls (st.map (ai_v S))) := by
  unfold ai_ast at h
  split at h
  · split at h
    · next ha =>
      split at h
      · next hc =>
        obtain ⟨rfl, hin⟩ := hc
        simp only [Option.some.injEq, Prod.mk.injEq] at h
        obtain ⟨rfl, rfl, rfl⟩ := h
        exact va_cast hx hb hK hI.1 (ai_w_D S G z) hI.2.1 _ 2 (ai_w_get ha) (ai_tys_get htl) hin hd (fun H1 locs1 hP _ hS => kk H1 locs1 (hI.set ha rfl hP hS))
      · cases h
    · cases h
  · cases h
/-- a new cell -/
theorem ai_I.push {q : Nat} {e0 : va_E} {H1 : Heap} (hI : ai_I D cl G S c0 s z H locs cells slots) (hP : va_P D cl (ai_w S G z ++ [(q, ai_e S G e0)]) H1) (hD : va_D (fun q => S ≤ q) (ai_w S G z ++ [(q, ai_e S G e0)])) (hS : va_S (fun q => S ≤ q) s.heap H1 locs) (hz : H1.size ≤ s.heap.size + (cells + 1)) : q = S + z.length ∧ ai_I D cl G S c0 s (z ++ [e0]) H1 locs (cells + 1) (slots + ai_sl e0) := by
  have e1 : q = S + z.length := ai_w_new hP hD (by have := hI.2.2.1; omega)
  subst e1
  rw [ai_w_push] at hP
  exact ⟨rfl, hP, hS, by rw [List.length_append]; have := hI.2.2.1; simp; omega, by rw [ai_c_push]; have := hI.2.2.2; omega⟩
/-- what the tables know of a class that is made -/
def ai_NW (own : String) (cl : List vw_C) (s : State) (args : Array Value) (nw : Nat → Option Nat) (df : Nat → List Value) : Prop := ∀ (idx ci : Nat), nw idx = some ci →
  ∃ (C : String) (T : u_T) (N : Nat) (ty : Nat → FieldType), cl[ci]? = some (C, T, N) ∧ (∀ k, k < N → parseFieldDescriptor (T k).2.2.1 = some (ty k)) ∧ (Cond.classLink own idx C).before args s = true ∧ (Cond.instantiable C N).before args s = true ∧ (Cond.initialized C).before args s = true ∧ (df ci).length = N ∧ ∀ j, j < N → defaultValue (ty j) = vp_V (df ci) j
theorem ai_v_dflt (S : Nat) (t : FieldType) : ai_v S (defaultValue t) = defaultValue t := by cases t <;> rfl
theorem ai_new_W {nw : Nat → Option Nat} {df : Nat → List Value} {idx : Nat} (hx : p.tables.exec = Jvm.exec) (hb : c.code = cc) (hts : ∀ w ∈ Ts, w.before args s = true) (hown : s.vm.findClass own = some m.cls) (hS0 : S ≤ s.heap.size) (hK : va_K D cl (ai_tys G tl) s) (hCL : ai_CL cl Ts) (hNW : ai_NW own cl s args nw df)
    (hd : decode cc pc = .ok (.new idx, 3)) (h : ai_new nw df idx pc st z = some (pc', st', z')) (hI : ai_I D cl G S c0 s z H locs cells slots) (hrc : S + z'.length ≤ s.heap.size + R.cells) (hrs : ai_c z' ≤ c0 + R.slots)
    (kk : ∀ (H1 : Heap) (cells1 slots1 : Nat), ai_I D cl G S c0 s z' H1 locs cells1 slots1 → W p l e R s m args below meth c H1 locs cells1 slots1 Q (F0 m pc' ls (st'.map (ai_v S)))) : W p l e R s m args below meth c H locs cells slots Q (F0 m pc ls (st.map (ai_v S))) := by
  unfold ai_new at h
  split at h
  · next ci hci =>
    simp only [Option.some.injEq, Prod.mk.injEq] at h
    obtain ⟨rfl, rfl, rfl⟩ := h
    obtain ⟨C, T, N, ty, h1, h2, h3, h4, h5, h6, h7⟩ := hNW _ _ hci
    have hi3 := hI.2.2.1
    have hi4 := hI.2.2.2
    have hrc' : cells + 1 ≤ R.cells := by simp at hrc; omega
    have hrs' : slots + N ≤ R.slots := by rw [ai_c_push] at hrs; simp only [ai_sl, h6] at hrs; omega
    have h7' : ∀ j, j < N → defaultValue (ty j) = vp_V ((df ci).map (ai_v S)) j := by
      intro j hj
      have h8 := h7 j hj
      unfold vp_V at h8 ⊢
      rw [List.getD_eq_getElem?_getD, List.getElem?_map]
      rw [List.getD_eq_getElem?_getD] at h8
      rw [← ai_v_dflt S (ty j), h8]
      cases (df ci)[j]? <;> rfl
    refine va_new (fs := (df ci).map (ai_v S)) hx hb hts (hCL _ _ _ _ h1).1 ty h2 hown h3 h4 h5 hK hI.1 (ai_w_D S G z) hI.2.1 (fun q hq => Nat.le_trans hS0 hq) h1 h7' hrc' hrs' hd (fun q H1 hP hD hS => ?_)
    refine W.sized fun hz => ?_
    obtain ⟨rfl, hI1⟩ := hI.push (e0 := .inr (ci, df ci)) hP hD hS hz
    have e2 : slots + ai_sl (.inr (ci, df ci)) = slots + N := by simp [ai_sl, h6]
    rw [e2] at hI1
    exact kk H1 _ _ hI1
  · cases h
theorem ai_nwai_W (hx : p.tables.exec = Jvm.exec) (hb : c.code = cc) (harr : (Cond.arrayClass .int).before args s = true) (hS0 : S ≤ s.heap.size) (hK : va_K D cl (ai_tys G tl) s) (htl : tl[0]? = some .int)
    (hd : decode cc pc = .ok (.newarray .int, 2)) (h : ai_nwa 0 pc st z = some (pc', st', z')) (hI : ai_I D cl G S c0 s z H locs cells slots) (hrc : S + z'.length ≤ s.heap.size + R.cells) (hrs : ai_c z' ≤ c0 + R.slots)
    (kk : ∀ (H1 : Heap) (cells1 slots1 : Nat), ai_I D cl G S c0 s z' H1 locs cells1 slots1 → W p l e R s m args below meth c H1 locs cells1 slots1 Q (F0 m pc' ls (st'.map (ai_v S)))) : W p l e R s m args below meth c H locs cells slots Q (F0 m pc ls (st.map (ai_v S))) := by
  unfold ai_nwa at h
  split at h
  · next n r =>
    split at h
    · cases h
    · next hc =>
      simp only [Option.some.injEq, Prod.mk.injEq] at h
      obtain ⟨rfl, rfl, rfl⟩ := h
      have hi3 := hI.2.2.1
      have hi4 := hI.2.2.2
      have hrc' : cells + 1 ≤ R.cells := by simp at hrc; omega
      have hrs' : slots + n.toNatClampNeg ≤ R.slots := by rw [ai_c_push] at hrs; simp only [ai_sl] at hrs; omega
      refine va_newa (atype := .int) (ty := .int) (a0 := (n.toNatClampNeg, .inl (fun _ => 0))) hx hb harr rfl hK hI.1 (ai_w_D S G z) hI.2.1 (fun q hq => Nat.le_trans hS0 hq) (fun cA => rfl) (fun q => hc (Or.inl q)) rfl (by have : ¬ 1000000 < n.toNatClampNeg := fun q => hc (Or.inr q); simp only [componentBytes]; omega) hrc' hrs' hd (fun q cA H1 hK1 hP hD hS => ?_)
      have e1 : cA = G 0 := by
        have k1 := (hK1.2 _ _ (List.getElem?_concat_length)).2
        have k2 := (hK.2 _ _ (ai_tys_get (G := G) htl)).2
        exact Option.some.inj (k1.symm.trans k2)
      subst e1
      refine W.sized fun hz => ?_
      obtain ⟨rfl, hI1⟩ := hI.push (e0 := .inl (0, n.toNatClampNeg, .inl (fun _ => 0))) hP hD hS hz
      exact kk H1 _ _ hI1
  · cases h
theorem ai_nwaz_W (hx : p.tables.exec = Jvm.exec) (hb : c.code = cc) (harr : (Cond.arrayClass .boolean).before args s = true) (hS0 : S ≤ s.heap.size) (hK : va_K D cl (ai_tys G tl) s) (htl : tl[1]? = some .boolean)
    (hd : decode cc pc = .ok (.newarray .boolean, 2)) (h : ai_nwa 1 pc st z = some (pc', st', z')) (hI : ai_I D cl G S c0 s z H locs cells slots) (hrc : S + z'.length ≤ s.heap.size + R.cells) (hrs : ai_c z' ≤ c0 + R.slots)
    (kk : ∀ (H1 : Heap) (cells1 slots1 : Nat), ai_I D cl G S c0 s z' H1 locs cells1 slots1 → W p l e R s m args below meth c H1 locs cells1 slots1 Q (F0 m pc' ls (st'.map (ai_v S)))) : W p l e R s m args below meth c H locs cells slots Q (F0 m pc ls (st.map (ai_v S))) := by
  unfold ai_nwa at h
  split at h
  · next n r =>
    split at h
    · cases h
    · next hc =>
      simp only [Option.some.injEq, Prod.mk.injEq] at h
      obtain ⟨rfl, rfl, rfl⟩ := h
      have hi3 := hI.2.2.1
      have hi4 := hI.2.2.2
      have hrc' : cells + 1 ≤ R.cells := by simp at hrc; omega
      have hrs' : slots + n.toNatClampNeg ≤ R.slots := by rw [ai_c_push] at hrs; simp only [ai_sl] at hrs; omega
      refine va_newa (atype := .boolean) (ty := .boolean) (a0 := (n.toNatClampNeg, .inl (fun _ => 0))) hx hb harr rfl hK hI.1 (ai_w_D S G z) hI.2.1 (fun q hq => Nat.le_trans hS0 hq) (fun cA => rfl) (fun q => hc (Or.inl q)) rfl (by have : ¬ 1000000 < n.toNatClampNeg := fun q => hc (Or.inr q); simp only [componentBytes]; omega) hrc' hrs' hd (fun q cA H1 hK1 hP hD hS => ?_)
      have e1 : cA = G 1 := by
        have k1 := (hK1.2 _ _ (List.getElem?_concat_length)).2
        have k2 := (hK.2 _ _ (ai_tys_get (G := G) htl)).2
        exact Option.some.inj (k1.symm.trans k2)
      subst e1
      refine W.sized fun hz => ?_
      obtain ⟨rfl, hI1⟩ := hI.push (e0 := .inl (1, n.toNatClampNeg, .inl (fun _ => 0))) hP hD hS hz
      exact kk H1 _ _ hI1
  · cases h
theorem ai_nwac_W (hx : p.tables.exec = Jvm.exec) (hb : c.code = cc) (harr : (Cond.arrayClass .char).before args s = true) (hS0 : S ≤ s.heap.size) (hK : va_K D cl (ai_tys G tl) s) (htl : tl[2]? = some .char)
    (hd : decode cc pc = .ok (.newarray .char, 2)) (h : ai_nwa 2 pc st z = some (pc', st', z')) (hI : ai_I D cl G S c0 s z H locs cells slots) (hrc : S + z'.length ≤ s.heap.size + R.cells) (hrs : ai_c z' ≤ c0 + R.slots)
    (kk : ∀ (H1 : Heap) (cells1 slots1 : Nat), ai_I D cl G S c0 s z' H1 locs cells1 slots1 → W p l e R s m args below meth c H1 locs cells1 slots1 Q (F0 m pc' ls (st'.map (ai_v S)))) : W p l e R s m args below meth c H locs cells slots Q (F0 m pc ls (st.map (ai_v S))) := by
  unfold ai_nwa at h
  split at h
  · next n r =>
    split at h
    · cases h
    · next hc =>
      simp only [Option.some.injEq, Prod.mk.injEq] at h
      obtain ⟨rfl, rfl, rfl⟩ := h
      have hi3 := hI.2.2.1
      have hi4 := hI.2.2.2
      have hrc' : cells + 1 ≤ R.cells := by simp at hrc; omega
      have hrs' : slots + n.toNatClampNeg ≤ R.slots := by rw [ai_c_push] at hrs; simp only [ai_sl] at hrs; omega
      refine va_newa (atype := .char) (ty := .char) (a0 := (n.toNatClampNeg, .inl (fun _ => 0))) hx hb harr rfl hK hI.1 (ai_w_D S G z) hI.2.1 (fun q hq => Nat.le_trans hS0 hq) (fun cA => rfl) (fun q => hc (Or.inl q)) rfl (by have : ¬ 1000000 < n.toNatClampNeg := fun q => hc (Or.inr q); simp only [componentBytes]; omega) hrc' hrs' hd (fun q cA H1 hK1 hP hD hS => ?_)
      have e1 : cA = G 2 := by
        have k1 := (hK1.2 _ _ (List.getElem?_concat_length)).2
        have k2 := (hK.2 _ _ (ai_tys_get (G := G) htl)).2
        exact Option.some.inj (k1.symm.trans k2)
      subst e1
      refine W.sized fun hz => ?_
      obtain ⟨rfl, hI1⟩ := hI.push (e0 := .inl (2, n.toNatClampNeg, .inl (fun _ => 0))) hP hD hS hz
      exact kk H1 _ _ hI1
  · cases h
theorem ai_v_rf (S : Nat) (q : Option Nat) : ai_v S (va_rf q) = va_rf (q.map (fun k => S + k)) := by cases q <;> rfl
theorem ai_len_W (hx : p.tables.exec = Jvm.exec) (hb : c.code = cc) (hK : va_K D cl (ai_tys G tl) s) (t0 : tl[0]? = some .int) (t1 : tl[1]? = some .boolean) (t2 : tl[2]? = some .char)
    (hd : decode cc pc = .ok (.arraylength, 1)) (h : ai_len pc st z = some (pc', st', z')) (hI : ai_I D cl G S c0 s z H locs cells slots)
    (kk : ai_I D cl G S c0 s z' H locs cells slots → W p l e R s m args below meth c H locs cells slots Q (F0 m pc' ls (st'.map (ai_v S)))) : W p l e R s m args below meth c H locs cells slots Q (F0 m pc ls (st.map (ai_v S))) := by
  unfold ai_len at h
  split at h
  · split at h
    · next t n f ha =>
      split at h
      · next ht =>
        simp only [Option.some.injEq, Prod.mk.injEq] at h
        obtain ⟨rfl, rfl, rfl⟩ := h
        have ht3 : ∀ t : Nat, t < 3 → ∃ ty, tl[t]? = some ty := by
          intro t ht
          rcases (show t = 0 ∨ t = 1 ∨ t = 2 by omega) with rfl | rfl | rfl
          · exact ⟨_, t0⟩
          · exact ⟨_, t1⟩
          · exact ⟨_, t2⟩
        obtain ⟨ty, hty⟩ := ht3 t ht
        exact va_alen hx hb hK hI.1 _ t (ai_w_get ha) (ai_tys_get hty) rfl hd (kk hI)
      · cases h
    · cases h
  · cases h
theorem ai_aald_W {g : Nat} {C : String} (hx : p.tables.exec = Jvm.exec) (hb : c.code = cc) (hK : va_K D cl (ai_tys G tl) s) (htl : tl[g]? = some (.object C))
    (hd : decode cc pc = .ok (.aaload, 1)) (h : ai_aald g pc st z = some (pc', st', z')) (hI : ai_I D cl G S c0 s z H locs cells slots)
    (kk : ai_I D cl G S c0 s z' H locs cells slots → W p l e R s m args below meth c H locs cells slots Q (F0 m pc' ls (st'.map (ai_v S)))) : W p l e R s m args below meth c H locs cells slots Q (F0 m pc ls (st.map (ai_v S))) := by
  unfold ai_aald at h
  split at h
  · split at h
    · next i0 a0 r0 t0 n0 f0 ha =>
      split at h
      · next hc =>
        obtain ⟨rfl, hin⟩ := hc
        simp only [Option.some.injEq, Prod.mk.injEq] at h
        obtain ⟨rfl, rfl, rfl⟩ := h
        refine va_aldq hx hb hK hI.1 _ _ (ai_w_get ha) (ai_tys_get htl) hin hd ?_
        have k1 := kk hI
        rw [List.map_cons, ai_v_rf] at k1
        exact k1
      · cases h
    · cases h
  · cases h
theorem ai_aast_W {g cg : Nat} {r0 : vw_C} (hx : p.tables.exec = Jvm.exec) (hb : c.code = cc) (hK : va_K D cl (ai_tys G tl) s) (hcg : cl[cg]? = some r0) (htl : tl[g]? = some (.object r0.1))
    (hd : decode cc pc = .ok (.aastore, 1)) (h : ai_aast g cg pc st z = some (pc', st', z')) (hI : ai_I D cl G S c0 s z H locs cells slots)
    (kk : ∀ (H1 : Heap) (locs1 : List Loc), ai_I D cl G S c0 s z' H1 locs1 cells slots → W p l e R s m args below meth c H1 locs1 cells slots Q (F0 m pc' ls (st'.map (ai_v S)))) : W p l e R s m args below meth c H locs cells slots Q (F0 m pc ls (st.map (ai_v S))) := by
  unfold ai_aast at h
  split at h
  · split at h
    · next hv ha =>
      split at h
      · next hc =>
        obtain ⟨rfl, rfl, hin⟩ := hc
        simp only [Option.some.injEq, Prod.mk.injEq] at h
        obtain ⟨rfl, rfl, rfl⟩ := h
        refine va_astq hx hb hK hI.1 (ai_w_D S G z) hI.2.1 _ _ _ _ (ai_w_get ha) (ai_tys_get htl) (ai_w_get hv) hcg hin hd (fun H1 locs1 hP _ hS => kk H1 locs1 (hI.set ha rfl ?_ hS))
        have e1 : ∀ (f : Nat → Option Nat) (k v : Nat), (fun j => (va_up f k (some v) j).map (fun k => S + k)) = va_up (fun j => (f j).map (fun k => S + k)) k (some (S + v)) := by
          intro f k v
          funext j
          unfold va_up
          split <;> rfl
        simp only [ai_e]
        rw [e1]
        exact hP
      · cases h
    · cases h
  · cases h
theorem ai_nwq_W {g cg : Nat} {nw : Nat → Option Nat} {df : Nat → List Value} {C : String} {T0 : u_T} {N0 idx : Nat} (hx : p.tables.exec = Jvm.exec) (hb : c.code = cc) (hown : s.vm.findClass own = some m.cls) (hAO : va_AO C s) (hS0 : S ≤ s.heap.size) (hK : va_K D cl (ai_tys G tl) s) (hcg : cl[cg]? = some (C, T0, N0)) (htl : tl[g]? = some (.object C)) (hNW : ai_NW own cl s args nw df)
    (hd : decode cc pc = .ok (.anewarray idx, 3)) (h : ai_nwq g cg nw idx pc st z = some (pc', st', z')) (hI : ai_I D cl G S c0 s z H locs cells slots) (hrc : S + z'.length ≤ s.heap.size + R.cells) (hrs : ai_c z' ≤ c0 + R.slots)
    (kk : ∀ (H1 : Heap) (cells1 slots1 : Nat), ai_I D cl G S c0 s z' H1 locs cells1 slots1 → W p l e R s m args below meth c H1 locs cells1 slots1 Q (F0 m pc' ls (st'.map (ai_v S)))) : W p l e R s m args below meth c H locs cells slots Q (F0 m pc ls (st.map (ai_v S))) := by
  unfold ai_nwq at h
  split at h
  · next n r =>
    split at h
    · next hc =>
      simp only [Option.some.injEq, Prod.mk.injEq] at h
      obtain ⟨rfl, rfl, rfl⟩ := h
      obtain ⟨hci, hn⟩ := hc
      obtain ⟨C', T, N, ty, h1, h2, h3, -⟩ := hNW _ _ hci
      cases hcg.symm.trans h1
      have hi3 := hI.2.2.1
      have hi4 := hI.2.2.2
      have hrc' : cells + 1 ≤ R.cells := by simp at hrc; omega
      have hrs' : slots + n.toNatClampNeg ≤ R.slots := by rw [ai_c_push] at hrs; simp only [ai_sl] at hrs; omega
      refine va_newq hx hb hown h3 hAO hK hI.1 (ai_w_D S G z) hI.2.1 (fun q hq => Nat.le_trans hS0 hq) (fun q => hn (Or.inl q)) rfl (by have : ¬ 1000000 < n.toNatClampNeg := fun q => hn (Or.inr q); omega) hrc' hrs' hd (fun q cA H1 hK1 hP hD hS => ?_)
      have e1 : cA = G g := by
        have k1 := (hK1.2 _ _ (List.getElem?_concat_length)).2
        have k2 := (hK.2 _ _ (ai_tys_get (G := G) htl)).2
        obtain ⟨_, _, _, _, _, k1⟩ := k1
        obtain ⟨_, _, _, _, _, k2⟩ := k2
        exact Option.some.inj (k1.symm.trans k2)
      subst e1
      refine W.sized fun hz => ?_
      obtain ⟨rfl, hI1⟩ := hI.push (e0 := .inl (g, n.toNatClampNeg, .inr (.inr (.inr (.inr (fun _ => none)))))) hP hD hS hz
      exact kk H1 _ _ hI1
    · cases h
  · cases h
theorem ai_laload_W (hx : p.tables.exec = Jvm.exec) (hb : c.code = cc) (hK : va_K D cl (ai_tys G tl) s) (htl : tl[3]? = some .long)
    (hd : decode cc pc = .ok (.laload, 1)) (h : ai_lald pc st z = some (pc', st', z')) (hI : ai_I D cl G S c0 s z H locs cells slots)
    (kk : ai_I D cl G S c0 s z' H locs cells slots → W p l e R s m args below meth c H locs cells slots Q (F0 m pc' ls (st'.map (ai_v S)))) : W p l e R s m args below meth c H locs cells slots Q (F0 m pc ls (st.map (ai_v S))) := by
  unfold ai_lald at h
  split at h
  · split at h
    · next ha =>
      split at h
      · next hc =>
        obtain ⟨rfl, hin⟩ := hc
        simp only [Option.some.injEq, Prod.mk.injEq] at h
        obtain ⟨rfl, rfl, rfl⟩ := h
        exact va_lald hx hb hK hI.1 _ 3 (ai_w_get ha) (ai_tys_get htl) hin hd (kk hI)
      · cases h
    · cases h
  · cases h
theorem ai_lastore_W (hx : p.tables.exec = Jvm.exec) (hb : c.code = cc) (hK : va_K D cl (ai_tys G tl) s) (htl : tl[3]? = some .long)
    (hd : decode cc pc = .ok (.lastore, 1)) (h : ai_last pc st z = some (pc', st', z')) (hI : ai_I D cl G S c0 s z H locs cells slots)
    (kk : ∀ (H1 : Heap) (locs1 : List Loc), ai_I D cl G S c0 s z' H1 locs1 cells slots → W p l e R s m args below meth c H1 locs1 cells slots Q (F0 m pc' ls (st'.map (ai_v S)))) : W p l e R s m args below meth c H locs cells slots Q (F0 m pc ls (st.map (ai_v S))) := by
  unfold ai_last at h
  split at h
  · split at h
    · next ha =>
      split at h
      · next hc =>
        obtain ⟨rfl, hin⟩ := hc
        simp only [Option.some.injEq, Prod.mk.injEq] at h
        obtain ⟨rfl, rfl, rfl⟩ := h
        exact va_last hx hb hK hI.1 (ai_w_D S G z) hI.2.1 _ 3 (ai_w_get ha) (ai_tys_get htl) hin hd (fun H1 locs1 hP _ hS => kk H1 locs1 (hI.set ha rfl hP hS))
      · cases h
    · cases h
  · cases h
theorem ai_nwal_W (hx : p.tables.exec = Jvm.exec) (hb : c.code = cc) (harr : (Cond.arrayClass .long).before args s = true) (hS0 : S ≤ s.heap.size) (hK : va_K D cl (ai_tys G tl) s) (htl : tl[3]? = some .long)
    (hd : decode cc pc = .ok (.newarray .long, 2)) (h : ai_nwl pc st z = some (pc', st', z')) (hI : ai_I D cl G S c0 s z H locs cells slots) (hrc : S + z'.length ≤ s.heap.size + R.cells) (hrs : ai_c z' ≤ c0 + R.slots)
    (kk : ∀ (H1 : Heap) (cells1 slots1 : Nat), ai_I D cl G S c0 s z' H1 locs cells1 slots1 → W p l e R s m args below meth c H1 locs cells1 slots1 Q (F0 m pc' ls (st'.map (ai_v S)))) : W p l e R s m args below meth c H locs cells slots Q (F0 m pc ls (st.map (ai_v S))) := by
  unfold ai_nwl at h
  split at h
  · next n r =>
    split at h
    · cases h
    · next hc =>
      simp only [Option.some.injEq, Prod.mk.injEq] at h
      obtain ⟨rfl, rfl, rfl⟩ := h
      have hi3 := hI.2.2.1
      have hi4 := hI.2.2.2
      have hrc' : cells + 1 ≤ R.cells := by simp at hrc; omega
      have hrs' : slots + n.toNatClampNeg ≤ R.slots := by rw [ai_c_push] at hrs; simp only [ai_sl] at hrs; omega
      refine va_newa (atype := .long) (ty := .long) (a0 := (n.toNatClampNeg, .inr (.inl (fun _ => 0)))) hx hb harr rfl hK hI.1 (ai_w_D S G z) hI.2.1 (fun q hq => Nat.le_trans hS0 hq) (fun cA => rfl) (fun q => hc (Or.inl q)) rfl (by have : ¬ 1000000 < n.toNatClampNeg := fun q => hc (Or.inr q); simp only [componentBytes]; omega) hrc' hrs' hd (fun q cA H1 hK1 hP hD hS => ?_)
      have e1 : cA = G 3 := by
        have k1 := (hK1.2 _ _ (List.getElem?_concat_length)).2
        have k2 := (hK.2 _ _ (ai_tys_get (G := G) htl)).2
        exact Option.some.inj (k1.symm.trans k2)
      subst e1
      refine W.sized fun hz => ?_
      obtain ⟨rfl, hI1⟩ := hI.push (e0 := .inl (3, n.toNatClampNeg, .inr (.inl (fun _ => 0)))) hP hD hS hz
      exact kk H1 _ _ hI1
  · cases h
theorem ai_cats (S : Nat) (st : List Value) : ((st.map (ai_v S)).map fun v => v.category) = st.map fun v => v.category := by
  rw [List.map_map]
  exact List.map_congr_left (fun v _ => ai_v_cat S v)
theorem ai_cpy_W {idx : Nat} (hx : p.tables.exec = Jvm.exec) (hb : c.code = cc) (hml : c.maxLocals = ls.size) (hown : s.vm.findClass own = some m.cls) (hlink : (Cond.methodLink own idx arraycopyName).before args s = true) (hnat : (Cond.native arraycopyName).before args s = true) (hstat : (Cond.static arraycopyName).before args s = true) (hini : (Cond.initialized "java/lang/System").before args s = true) (hRf : 1 ≤ R.frames) (hRl : 80 ≤ R.locals) (hK : va_K D cl (ai_tys G tl) s) (htl : tl[0]? = some .int)
    (hd : decode cc pc = .ok (.invokestatic idx, 3)) (h : ai_cpy st z pc = some (pc', st', z')) (hI : ai_I D cl G S c0 s z H locs cells slots)
    (kk : ∀ (H1 : Heap) (locs1 : List Loc), ai_I D cl G S c0 s z' H1 locs1 cells slots → W p l e R s m args below meth c H1 locs1 cells slots Q (F0 m pc' ls (st'.map (ai_v S)))) : W p l e R s m args below meth c H locs cells slots Q (F0 m pc ls (st.map (ai_v S))) := by
  unfold ai_cpy at h
  split at h
  · split at h
    · next ha0 ha1 =>
      split at h
      · next hc =>
        obtain ⟨rfl, rfl, h1, h2, h3, h4, h5, hroom⟩ := hc
        simp only [Option.some.injEq, Prod.mk.injEq] at h
        obtain ⟨rfl, rfl, rfl⟩ := h
        exact va_copyi (ty := .int) hx hb hml hown hlink hnat hstat hini hK hI.1 (ai_w_D S G z) hI.2.1 _ _ 0 0 (ai_w_get ha0) (ai_w_get ha1) (ai_tys_get htl) (ai_tys_get htl) rfl h1 h2 h3 h4 h5 (fun _ _ => rfl) hRf (by rw [ai_cats]; have e9 : nativeFrameWords "java/lang/System" "arraycopy" 5 ≤ 40 := (by decide +kernel); omega) hd (fun H1 locs1 hP _ hS => kk H1 locs1 (hI.set ha1 rfl hP hS))
      · cases h
    · cases h
  · cases h
/-- the script lies outside the world, as it was -/
def ai_okS (sc : ai_SC) (S : Nat) (s : State) : Prop := ∀ b n xs, sc = some (b, n, xs) → va_X b n xs s s.heap ∧ b < s.heap.size ∧ ¬ S ≤ b
theorem ai_iald_W {sc : ai_SC} (hx : p.tables.exec = Jvm.exec) (hb : c.code = cc) (hK : va_K D cl (ai_tys G tl) s) (htl : tl[0]? = some .int) (hSC : ai_okS sc S s)
    (hd : decode cc pc = .ok (.iaload, 1)) (h : ai_iald sc pc st z = some (pc', st', z')) (hI : ai_I D cl G S c0 s z H locs cells slots)
    (kk : ai_I D cl G S c0 s z' H locs cells slots → W p l e R s m args below meth c H locs cells slots Q (F0 m pc' ls (st'.map (ai_v S)))) : W p l e R s m args below meth c H locs cells slots Q (F0 m pc ls (st.map (ai_v S))) := by
  unfold ai_iald at h
  split at h
  · split at h
    · split at h
      · next hc =>
        obtain ⟨rfl, hin⟩ := hc
        simp only [Option.some.injEq, Prod.mk.injEq] at h
        obtain ⟨rfl, rfl, rfl⟩ := h
        obtain ⟨h1, h2, h3⟩ := hSC _ _ _ rfl
        exact va_sld hx hb h1 h2 h3 hI.2.1 hin hd (kk hI)
      · cases h
    · cases h
  · exact ai_iaload_W hx hb hK htl hd h hI kk
theorem ai_alen_W {sc : ai_SC} (hx : p.tables.exec = Jvm.exec) (hb : c.code = cc) (hK : va_K D cl (ai_tys G tl) s) (t0 : tl[0]? = some .int) (t1 : tl[1]? = some .boolean) (t2 : tl[2]? = some .char) (hSC : ai_okS sc S s)
    (hd : decode cc pc = .ok (.arraylength, 1)) (h : ai_alen sc pc st z = some (pc', st', z')) (hI : ai_I D cl G S c0 s z H locs cells slots)
    (kk : ai_I D cl G S c0 s z' H locs cells slots → W p l e R s m args below meth c H locs cells slots Q (F0 m pc' ls (st'.map (ai_v S)))) : W p l e R s m args below meth c H locs cells slots Q (F0 m pc ls (st.map (ai_v S))) := by
  unfold ai_alen at h
  split at h
  · split at h
    · split at h
      · next hc =>
        subst hc
        simp only [Option.some.injEq, Prod.mk.injEq] at h
        obtain ⟨rfl, rfl, rfl⟩ := h
        obtain ⟨h1, h2, h3⟩ := hSC _ _ _ rfl
        exact va_slen hx hb h1 h2 h3 hI.2.1 hd (kk hI)
      · cases h
    · cases h
  · exact ai_len_W hx hb hK t0 t1 t2 hd h hI kk
/-- what the tables know of a number that is loaded -/
def ai_CS (own : String) (s : State) (args : Array Value) (cs : Nat → Option Value) : Prop := (∀ idx v, cs idx = some (.int v) → (Cond.constant own idx v).before args s = true) ∧ ∀ idx v, cs idx = some (.long v) → (Cond.constantLong own idx v).before args s = true
end AiHeap
