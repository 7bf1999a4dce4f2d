/-! RUNS THAT MAKE NEW CELLS: at one shape, the shape may grow -/
def ax_Q (ss : List ax_S) (d : Nat) (M : ai_M) (pc : Nat) (L : List (Option Value)) (st : List Value) (V : ax_V) (Q : Option Value → List va_E → Prop) : Prop := ∃ r z', Q r z' ∧ ai_Rn none ai_P0 d M (pc, L, st, ax_w ss V) (r, z')
/-- a call, at one shape -/
def ax_E (ss : List ax_S) (d key : Nat) (vs : List Value) (V : ax_V) (Q : Option Value → List va_E → Prop) : Prop := ∃ r z', Q r z' ∧ ai_Ex ai_P0 d key vs (ax_w ss V) (r, z')
section Grow
variable {lay : ax_Lay} {ss : List ax_S} {d : Nat} {M : ai_M} {pc pc' : Nat} {L L' : List (Option Value)} {st st' : List Value} {V V1 : ax_V} {Q Q' : Option Value → List va_E → Prop}
theorem ax_Q.mv (n : Nat) (pc' : Nat) (L' : List (Option Value)) (st' : List Value) (he : ai_mv M n (pc, L, st) = some (pc', L', st')) (h : ax_Q ss d M pc' L' st' V Q) : ax_Q ss d M pc L st V Q := by
  obtain ⟨r, z', q, h⟩ := h
  exact ⟨r, z', q, ai_mv_Rn n (pc, L, st) (pc', L', st') he h⟩
theorem ax_Q.sim {i : Instr} (hf : ai_In M pc i) (h0 : ai_fam i = 0) (he : ai_simple i pc L st = some (pc', L', st')) (h : ax_Q ss d M pc' L' st' V Q) : ax_Q ss d M pc L st V Q := by
  obtain ⟨r, z', q, h⟩ := h
  exact ⟨r, z', q, ai_Rn.simple hf h0 he h⟩
theorem ax_Q.if1 {k : Jvm.ClassFile.Cond} {off x : Int} {p1 p2 : Nat} (hf : ai_In M pc (.ifCond k off)) (hp : (pc : Int) + off = (p1 : Int)) (hp2 : pc + 3 = p2) (hx : ax_rg x) (h1 : ax_k0 k x → ax_Q ss d M p1 L st V Q) (h2 : ¬ ax_k0 k x → ax_Q ss d M p2 L st V Q) : ax_Q ss d M pc L (ax_i x :: st) V Q := by
  subst hp2
  have he : ai_simple (.ifCond k off) pc L (ax_i x :: st) = some (if ai_c0 k (Int32.ofInt x) then p1 else pc + 3, L, st) := ax_ifc hp
  cases hb : ai_c0 k (Int32.ofInt x) with
  | true =>
    rw [hb, if_pos rfl] at he
    exact ax_Q.sim hf rfl he (h1 ((ax_c0_iff hx).mp hb))
  | false =>
    rw [hb, if_neg (by decide)] at he
    exact ax_Q.sim hf rfl he (h2 (fun z => by rw [(ax_c0_iff hx).mpr z] at hb; cases hb))
theorem ax_Q.if2 {k : Jvm.ClassFile.Cond} {off x y : Int} {p1 p2 : Nat} (hf : ai_In M pc (.if_icmp k off)) (hp : (pc : Int) + off = (p1 : Int)) (hp2 : pc + 3 = p2) (hx : ax_rg x) (hy : ax_rg y) (h1 : ax_k2 k x y → ax_Q ss d M p1 L st V Q) (h2 : ¬ ax_k2 k x y → ax_Q ss d M p2 L st V Q) : ax_Q ss d M pc L (ax_i y :: ax_i x :: st) V Q := by
  subst hp2
  have he : ai_simple (.if_icmp k off) pc L (ax_i y :: ax_i x :: st) = some (if ai_c2 k (Int32.ofInt x) (Int32.ofInt y) then p1 else pc + 3, L, st) := ax_ifc hp
  cases hb : ai_c2 k (Int32.ofInt x) (Int32.ofInt y) with
  | true =>
    rw [hb, if_pos rfl] at he
    exact ax_Q.sim hf rfl he (h1 ((ax_c2_iff hx hy).mp hb))
  | false =>
    rw [hb, if_neg (by decide)] at he
    exact ax_Q.sim hf rfl he (h2 (fun z => by rw [(ax_c2_iff hx hy).mpr z] at hb; cases hb))
theorem ax_Q.gI {idx ci k a id : Nat} {ty : FieldType} {fin : Bool} {fs : List (Option Value)} {kI : Int} (hf : ai_In M pc (.getfield idx)) (hl : ai_P0.2.1 M.2.2.2.2.1 idx = some (ci, k, ty, fin)) (hs : ss[a]? = some (.inr (id, .inr (ci, fs)))) (hk : fs[k]? = some none) (hK : (k : Int) = kI) (hp : pc + 3 = pc') (h : ax_Q ss d M pc' L (ax_i (V id kI) :: st) V Q) : ax_Q ss d M pc L (.ref a :: st) V Q := by
  subst hp hK
  obtain ⟨r, z', q, hr⟩ := h
  exact ⟨r, z', q, ai_Rn.getf hf hl (ax_w_get hs) (show (fs.mapIdx (fun k f => f.getD (ax_i (V id (k : Int)))))[k]? = some (ax_i (V id (k : Int))) by rw [List.getElem?_mapIdx, hk]; rfl) hr⟩
theorem ax_Q.gR {idx ci k a id : Nat} {ty : FieldType} {fin : Bool} {fs : List (Option Value)} {v : Value} (hf : ai_In M pc (.getfield idx)) (hl : ai_P0.2.1 M.2.2.2.2.1 idx = some (ci, k, ty, fin)) (hs : ss[a]? = some (.inr (id, .inr (ci, fs)))) (hk : fs[k]? = some (some v)) (hp : pc + 3 = pc') (h : ax_Q ss d M pc' L (v :: st) V Q) : ax_Q ss d M pc L (.ref a :: st) V Q := by
  subst hp
  obtain ⟨r, z', q, hr⟩ := h
  exact ⟨r, z', q, ai_Rn.getf hf hl (ax_w_get hs) (show (fs.mapIdx (fun k f => f.getD (ax_i (V id (k : Int)))))[k]? = some v by rw [List.getElem?_mapIdx, hk]; rfl) hr⟩
theorem ax_Q.pI {idx ci k a id : Nat} {ty : FieldType} {fs : List (Option Value)} {kI x : Int} (hf : ai_In M pc (.putfield idx)) (hl : ai_P0.2.1 M.2.2.2.2.1 idx = some (ci, k, ty, false)) (hok : ax_ok ss) (hs : ss[a]? = some (.inr (id, .inr (ci, fs)))) (hk : fs[k]? = some none) (hK : (k : Int) = kI) (hn : narrow ty (ax_i x) = ax_i x) (hfit : fits ty (ax_i x) = true) (hV : V1 = ax_u V id kI x) (hp : pc + 3 = pc') (h : ax_Q ss d M pc' L st V1 Q) : ax_Q ss d M pc L (ax_i x :: .ref a :: st) V Q := by
  subst hp hK hV
  obtain ⟨r, z', q, hr⟩ := h
  refine ⟨r, z', q, ?_⟩
  have hlt : k < (fs.mapIdx (fun k f => f.getD (ax_i (V id (k : Int))))).length := by rw [List.length_mapIdx]; exact (List.getElem?_eq_some_iff.mp hk).1
  refine ai_Rn.putf hf hl (ax_w_get hs) hlt hn hfit (fun q => by cases q) ?_
  rw [ax_fset hk]
  have e2 : (ax_w ss V).set a (.inr (ci, fs.mapIdx (fun j f => f.getD (ax_i (ax_u V id (k : Int) x id (j : Int)))))) = ax_w ss (ax_u V id (k : Int) x) := ax_w_set (V := V) (V' := ax_u V id (k : Int) x) hok hs (fun c hc => ax_u_ne hc)
  rw [e2]
  exact hr
/-- a field that is known changes: the shape says so -/
theorem ax_Q.pR {idx ci k a id : Nat} {ty : FieldType} {fs : List (Option Value)} {v0 v : Value} (hf : ai_In M pc (.putfield idx)) (hl : ai_P0.2.1 M.2.2.2.2.1 idx = some (ci, k, ty, false)) (hs : ss[a]? = some (.inr (id, .inr (ci, fs)))) (hk : fs[k]? = some (some v0)) (hn : narrow ty v = v) (hfit : fits ty v = true) (hp : pc + 3 = pc') (h : ax_Q (ss.set a (.inr (id, .inr (ci, fs.set k (some v))))) d M pc' L st V Q) : ax_Q ss d M pc L (v :: .ref a :: st) V Q := by
  subst hp
  obtain ⟨r, z', q, hr⟩ := h
  refine ⟨r, z', q, ?_⟩
  have hk1 := (List.getElem?_eq_some_iff.mp hk).1
  have hlt : k < (fs.mapIdx (fun k f => f.getD (ax_i (V id (k : Int))))).length := by rw [List.length_mapIdx]; exact hk1
  refine ai_Rn.putf hf hl (ax_w_get hs) hlt hn hfit (fun q => by cases q) ?_
  have e1 : (fs.mapIdx (fun k f => f.getD (ax_i (V id (k : Int))))).set k v = (fs.set k (some v)).mapIdx (fun k f => f.getD (ax_i (V id (k : Int)))) := by
    apply List.ext_getElem?
    intro j
    by_cases hj : k = j
    · subst hj
      rw [List.getElem?_set_self hlt, List.getElem?_mapIdx, List.getElem?_set_self hk1]; rfl
    · rw [List.getElem?_set_ne hj, List.getElem?_mapIdx, List.getElem?_mapIdx, List.getElem?_set_ne hj]
  have e2 : (ax_w ss V).set a (.inr (ci, (fs.set k (some v)).mapIdx (fun k f => f.getD (ax_i (V id (k : Int)))))) = ax_w (ss.set a (.inr (id, .inr (ci, fs.set k (some v))))) V := by
    unfold ax_w
    rw [List.map_set]; rfl
  rw [e1, e2]
  exact hr
/-- a new object; the shape takes it as it likes -/
theorem ax_Q.new {idx ci : Nat} {s : ax_S} (hf : ai_In M pc (.new idx)) (hl : ai_P0.2.2.1 M.2.2.2.2.1 idx = some ci) (hc : ax_c V1 s = .inr (ci, ai_P0.2.2.2.2.1 ci)) (hV : ax_w ss V1 = ax_w ss V) (hp : pc + 3 = pc') (h : ax_Q (ss ++ [s]) d M pc' L (.ref ss.length :: st) V1 Q) : ax_Q ss d M pc L st V Q := by
  subst hp
  obtain ⟨r, z', q, hr⟩ := h
  refine ⟨r, z', q, ai_Rn.world (pc' := pc + 3) (st' := .ref ss.length :: st) (z' := ax_w (ss ++ [s]) V1) hf rfl ?_ hr⟩
  show ai_new _ _ idx pc st (ax_w ss V) = _
  unfold ai_new
  rw [hl]
  show some (pc + 3, Value.ref (ax_w ss V).length :: st, ax_w ss V ++ [Sum.inr (ci, ai_P0.2.2.2.2.1 ci)]) = _
  rw [ax_w_len, ← hV, ← hc]
  unfold ax_w
  rw [List.map_append]; rfl
/-- an array of ints -/
theorem ax_Q.arr {n : Int} {s : ax_S} (hf : ai_In M pc (.newarray .int)) (n0 : 0 ≤ n ∧ n ≤ 1000000) (hc : ax_c V1 s = .inl (0, n.toNat, .inl (fun _ => 0))) (hV : ax_w ss V1 = ax_w ss V) (hp : pc + 2 = pc') (h : ax_Q (ss ++ [s]) d M pc' L (.ref ss.length :: st) V1 Q) : ax_Q ss d M pc L (ax_i n :: st) V Q := by
  subst hp
  obtain ⟨r, z', q, hr⟩ := h
  refine ⟨r, z', q, ai_Rn.world (pc' := pc + 2) (st' := .ref ss.length :: st) (z' := ax_w (ss ++ [s]) V1) hf rfl ?_ hr⟩
  have tn : (Int32.ofInt n).toInt = n := ax_toInt ⟨by omega, by omega⟩
  have cl : (Int32.ofInt n).toNatClampNeg = n.toNat := by
    show (Int32.ofInt n).toInt.toNat = n.toNat
    rw [tn]
  have ng : ¬ (Int32.ofInt n < 0) := by
    rw [Int32.lt_iff_toInt_lt, tn]
    show ¬ n < 0
    omega
  show ai_nwa 0 pc (ax_i n :: st) (ax_w ss V) = _
  unfold ai_nwa ax_i
  show (if Int32.ofInt n < 0 ∨ 1000000 < (Int32.ofInt n).toNatClampNeg then none else some (pc + 2, Value.ref (ax_w ss V).length :: st, ax_w ss V ++ [Sum.inl (0, (Int32.ofInt n).toNatClampNeg, Sum.inl (fun _ => 0))])) = _
  rw [if_neg (fun z => by
    rcases z with z | z
    · exact ng z
    · rw [cl] at z; omega), cl, ax_w_len, ← hV, ← hc]
  unfold ax_w
  rw [List.map_append]; rfl
/-- from the rules of a lay -/
theorem ax_T.E {key : Nat} {vs : List Value} {Φ : Option Value → ax_V → Prop} {Θ : ax_V → Prop} (h : ax_T lay d key vs V Φ Θ) (hs : lay ss) : (∃ r V', ai_nt r ∧ ax_g V' ∧ Φ r V' ∧ ai_Ex ai_P0 d key vs (ax_w ss V) (r, ax_w ss V')) ∨ ∃ V', ax_g V' ∧ Θ V' ∧ ai_Ex ai_P0 d key vs (ax_w ss V) (some (.retAddr ss.length), ax_w (ss ++ [ax_ex]) V') := by
  rcases h with ⟨r, V', a, b, c, e⟩ | ⟨V', b, c, e⟩
  · exact Or.inl ⟨r, V', a, b, c, e ss hs⟩
  · exact Or.inr ⟨V', b, c, e ss hs⟩
/-- a call that ends as it should -/
theorem ax_Q.callv {idx key n ci a id : Nat} {fs : List (Option Value)} {rest : List Value} {v : Option Value} {ss' : List ax_S} (hf : ai_In M pc (.invokevirtual idx)) (hl : ai_P0.2.2.2.1 M.2.2.2.2.1 idx = some (0, key, n, ci)) (hs : st.drop n = .ref a :: rest) (ha : ss[a]? = some (.inr (id, .inr (ci, fs)))) (hroom : (rest.map fun v => v.category).sum ≤ 8) (hnt : ai_nt v) (hp : pc + 3 = pc') (hc : ai_Ex ai_P0 d key (.ref a :: (st.take n).reverse) (ax_w ss V) (v, ax_w ss' V1)) (h : ax_Q ss' d M pc' L (v.toList ++ rest) V1 Q) : ax_Q ss d M pc L st V Q := by
  subst hp
  obtain ⟨r, z', q, hr⟩ := h
  exact ⟨r, z', q, ai_Rn.callv hf hl hs (ax_w_get ha) hroom hnt hc hr⟩
theorem ax_Q.calli {idx kind key n x a : Nat} {rest : List Value} {v : Option Value} {ss' : List ax_S} (hf : ai_In M pc (.invokespecial idx)) (hl : ai_P0.2.2.2.1 M.2.2.2.2.1 idx = some (kind, key, n, x)) (hkd : kind = 1 ∨ kind = 4) (hs : st.drop n = .ref a :: rest) (hroom : (rest.map fun v => v.category).sum ≤ 8) (hnt : ai_nt v) (hp : pc + 3 = pc') (hc : ai_Ex ai_P0 d key (.ref a :: (st.take n).reverse) (ax_w ss V) (v, ax_w ss' V1)) (h : ax_Q ss' d M pc' L (v.toList ++ rest) V1 Q) : ax_Q ss d M pc L st V Q := by
  subst hp
  obtain ⟨r, z', q, hr⟩ := h
  exact ⟨r, z', q, ai_Rn.calli hf hl hkd hs hroom hnt hc hr⟩
theorem ax_Q.calls {idx key n x : Nat} {v : Option Value} {ss' : List ax_S} (hf : ai_In M pc (.invokestatic idx)) (hl : ai_P0.2.2.2.1 M.2.2.2.2.1 idx = some (2, key, n, x)) (hlen : n ≤ st.length) (hroom : ((st.drop n).map fun v => v.category).sum ≤ 8) (hnt : ai_nt v) (hp : pc + 3 = pc') (hc : ai_Ex ai_P0 d key ((st.take n).reverse) (ax_w ss V) (v, ax_w ss' V1)) (h : ax_Q ss' d M pc' L (v.toList ++ st.drop n) V1 Q) : ax_Q ss d M pc L st V Q := by
  subst hp
  obtain ⟨r, z', q, hr⟩ := h
  exact ⟨r, z', q, ai_Rn.calls hf hl hlen hroom hnt hc hr⟩
theorem ax_Q.iret {ty : FieldType} {x : Int} (hf : ai_In M pc .ireturn) (hr : M.2.2.2.1 = some ty) (hn : narrow ty (ax_i x) = ax_i x) (h : Q (some (ax_i x)) (ax_w ss V)) : ax_Q ss d M pc L [ax_i x] V Q := ⟨_, _, h, ai_Rn.iret hf hr hn⟩
theorem ax_Q.vret (hf : ai_In M pc .return_) (hr : M.2.2.2.1 = none) (h : Q none (ax_w ss V)) : ax_Q ss d M pc L [] V Q := ⟨_, _, h, ai_Rn.vret hf hr⟩
theorem ax_E.of {key : Nat} {vs : List Value} (hM : ai_P0.1 key = some M) (hl : (lg_sl vs).length ≤ M.2.2.1) (h : ax_Q ss d M 0 (ai_lv vs M.2.2.1) [] V Q) : ax_E ss (d + 1) key vs V Q := by
  obtain ⟨r, z', q, hr⟩ := h
  exact ⟨r, z', q, ai_Ex.of hM hl hr⟩
end Grow
