/-! RULES, an instruction each: the goal first -/
section AiRules
variable {sc : ai_SC} {P : ai_P} {d : Nat} {M : ai_M} {r : ai_R} {pc : Nat} {L : List (Option Value)} {st : List Value} {z : List va_E}
/-- the instruction at a place -/
def ai_In (M : ai_M) (pc : Nat) (i : Instr) : Prop := ∃ n, M.2.2.2.2.2.2.1.find? (fun q => q.1 == pc) = some (pc, i, n)
theorem ai_push_nt {v : Option Value} {z : List va_E} {pc : Nat} {rest : List Value} (h : ai_nt v) : ai_push (some (v, z)) pc rest = some (pc + 3, v.toList ++ rest, z) := by
  unfold ai_push
  split
  · next a z1 h1 => cases h1; exact absurd rfl (h a)
  · next v1 z1 hn h1 => cases h1; rfl
  · next h1 => cases h1
theorem ai_nt_n : ai_nt none := fun a h => by cases h
theorem ai_nt_i (i : Int32) : ai_nt (some (.int i)) := fun a h => by cases h
theorem ai_Rn.simple {i : Instr} {u : Nat × List (Option Value) × List Value} (hf : ai_In M pc i) (h0 : ai_fam i = 0) (he : ai_simple i pc L st = some u) (h : ai_Rn sc P d M (u.1, u.2.1, u.2.2, z) r) : ai_Rn sc P d M (pc, L, st, z) r := by
  refine ai_Rn.step (fun call => ?_) h
  obtain ⟨n, hf⟩ := hf
  unfold ai_step
  simp only [hf, h0, he]
theorem ai_Rn.br {i : Instr} {b : Bool} {p1 p2 : Nat} {L' : List (Option Value)} {st' : List Value} (hf : ai_In M pc i) (h0 : ai_fam i = 0) (he : ai_simple i pc L st = some (if b then p1 else p2, L', st')) (ht : b = true → ai_Rn sc P d M (p1, L', st', z) r) (hn : b = false → ai_Rn sc P d M (p2, L', st', z) r) : ai_Rn sc P d M (pc, L, st, z) r := by
  cases b
  · exact ai_Rn.simple hf h0 he (hn rfl)
  · exact ai_Rn.simple hf h0 he (ht rfl)
theorem ai_Rn.world {i : Instr} {pc' : Nat} {st' : List Value} {z' : List va_E} (hf : ai_In M pc i) (h0 : ai_fam i = 1) (he : ai_hp sc (P.2.1 M.2.2.2.2.1) (P.2.2.1 M.2.2.2.2.1) P.2.2.2.2.1 (P.2.2.2.2.2 M.2.2.2.2.1) (ai_ini M) i pc st z = some (pc', st', z')) (h : ai_Rn sc P d M (pc', L, st', z') r) : ai_Rn sc P d M (pc, L, st, z) r := by
  refine ai_Rn.step (fun call => ?_) h
  obtain ⟨n, hf⟩ := hf
  unfold ai_step
  simp only [hf, h0, he]
theorem ai_Rn.getf {idx ci k : Nat} {ty : FieldType} {fin : Bool} {a : Nat} {fs : List Value} {v : Value} (hf : ai_In M pc (.getfield idx)) (hl : P.2.1 M.2.2.2.2.1 idx = some (ci, k, ty, fin)) (hz : z[a]? = some (.inr (ci, fs))) (hv : fs[k]? = some v) (h : ai_Rn sc P d M (pc + 3, L, v :: st, z) r) : ai_Rn sc P d M (pc, L, .ref a :: st, z) r :=
  ai_Rn.world hf rfl (by simp [ai_hp, ai_gf, hl, hz, hv]) h
theorem ai_Rn.putf {idx ci k : Nat} {ty : FieldType} {fin : Bool} {a : Nat} {fs : List Value} {v : Value} (hf : ai_In M pc (.putfield idx)) (hl : P.2.1 M.2.2.2.2.1 idx = some (ci, k, ty, fin)) (hz : z[a]? = some (.inr (ci, fs))) (hk : k < fs.length) (hn : narrow ty v = v) (hfit : fits ty v = true) (hfin : fin = true → ai_ini M ci = true) (h : ai_Rn sc P d M (pc + 3, L, st, z.set a (.inr (ci, fs.set k v))) r) : ai_Rn sc P d M (pc, L, v :: .ref a :: st, z) r := by
  refine ai_Rn.world (pc' := pc + 3) (st' := st) (z' := z.set a (.inr (ci, fs.set k v))) hf rfl ?_ h
  show ai_pf _ _ idx pc (v :: .ref a :: st) z = _
  unfold ai_pf
  simp only [hl, hz]
  rw [if_pos ⟨trivial, hk, hn, hfit, hfin⟩]
theorem ai_Rn.iald {i : Int32} {a n : Nat} {f : Nat → Int32} (hf : ai_In M pc .iaload) (hz : z[a]? = some (.inl (0, n, .inl f))) (hin : vp_in i n) (h : ai_Rn sc P d M (pc + 1, L, .int (f i.toNatClampNeg) :: st, z) r) : ai_Rn sc P d M (pc, L, .int i :: .ref a :: st, z) r := by
  refine ai_Rn.world (pc' := pc + 1) (st' := .int (f i.toNatClampNeg) :: st) (z' := z) hf rfl ?_ h
  show ai_ald 0 pc (.int i :: .ref a :: st) z = _
  unfold ai_ald
  simp only [hz]
  rw [if_pos ⟨trivial, hin⟩]
theorem ai_Rn.bald {i : Int32} {a n : Nat} {f : Nat → Int32} (hf : ai_In M pc .baload) (hz : z[a]? = some (.inl (1, n, .inl f))) (hin : vp_in i n) (h : ai_Rn sc P d M (pc + 1, L, .int (f i.toNatClampNeg) :: st, z) r) : ai_Rn sc P d M (pc, L, .int i :: .ref a :: st, z) r := by
  refine ai_Rn.world (pc' := pc + 1) (st' := .int (f i.toNatClampNeg) :: st) (z' := z) hf rfl ?_ h
  show ai_ald 1 pc (.int i :: .ref a :: st) z = _
  unfold ai_ald
  simp only [hz]
  rw [if_pos ⟨trivial, hin⟩]
theorem ai_Rn.cald {i : Int32} {a n : Nat} {f : Nat → Int32} (hf : ai_In M pc .caload) (hz : z[a]? = some (.inl (2, n, .inl f))) (hin : vp_in i n) (h : ai_Rn sc P d M (pc + 1, L, .int (f i.toNatClampNeg) :: st, z) r) : ai_Rn sc P d M (pc, L, .int i :: .ref a :: st, z) r := by
  refine ai_Rn.world (pc' := pc + 1) (st' := .int (f i.toNatClampNeg) :: st) (z' := z) hf rfl ?_ h
  show ai_ald 2 pc (.int i :: .ref a :: st) z = _
  unfold ai_ald
  simp only [hz]
  rw [if_pos ⟨trivial, hin⟩]
theorem ai_Rn.iast {i x : Int32} {a n : Nat} {f : Nat → Int32} (hf : ai_In M pc .iastore) (hz : z[a]? = some (.inl (0, n, .inl f))) (hin : vp_in i n) (h : ai_Rn sc P d M (pc + 1, L, st, z.set a (.inl (0, n, .inl (upd f i.toNatClampNeg x)))) r) : ai_Rn sc P d M (pc, L, .int x :: .int i :: .ref a :: st, z) r := by
  refine ai_Rn.world (pc' := pc + 1) (st' := st) (z' := z.set a (.inl (0, n, .inl (upd f i.toNatClampNeg x)))) hf rfl ?_ h
  show ai_ast 0 (fun x => x) pc (.int x :: .int i :: .ref a :: st) z = _
  unfold ai_ast
  simp only [hz]
  rw [if_pos ⟨trivial, hin⟩]
theorem ai_Rn.bast {i x : Int32} {a n : Nat} {f : Nat → Int32} (hf : ai_In M pc .bastore) (hz : z[a]? = some (.inl (1, n, .inl f))) (hin : vp_in i n) (h : ai_Rn sc P d M (pc + 1, L, st, z.set a (.inl (1, n, .inl (upd f i.toNatClampNeg (vp_nar .boolean x))))) r) : ai_Rn sc P d M (pc, L, .int x :: .int i :: .ref a :: st, z) r := by
  refine ai_Rn.world (pc' := pc + 1) (st' := st) (z' := z.set a (.inl (1, n, .inl (upd f i.toNatClampNeg (vp_nar .boolean x))))) hf rfl ?_ h
  show ai_ast 1 (vp_nar .boolean) pc (.int x :: .int i :: .ref a :: st) z = _
  unfold ai_ast
  simp only [hz]
  rw [if_pos ⟨trivial, hin⟩]
theorem ai_Rn.cast {i x : Int32} {a n : Nat} {f : Nat → Int32} (hf : ai_In M pc .castore) (hz : z[a]? = some (.inl (2, n, .inl f))) (hin : vp_in i n) (h : ai_Rn sc P d M (pc + 1, L, st, z.set a (.inl (2, n, .inl (upd f i.toNatClampNeg (vp_nar .char x))))) r) : ai_Rn sc P d M (pc, L, .int x :: .int i :: .ref a :: st, z) r := by
  refine ai_Rn.world (pc' := pc + 1) (st' := st) (z' := z.set a (.inl (2, n, .inl (upd f i.toNatClampNeg (vp_nar .char x))))) hf rfl ?_ h
  show ai_ast 2 (vp_nar .char) pc (.int x :: .int i :: .ref a :: st) z = _
  unfold ai_ast
  simp only [hz]
  rw [if_pos ⟨trivial, hin⟩]
theorem ai_Rn.iret {v : Int32} {ty : FieldType} (hf : ai_In M pc .ireturn) (hr : M.2.2.2.1 = some ty) (hn : narrow ty (.int v) = .int v) : ai_Rn sc P d M (pc, L, [.int v], z) (some (.int v), z) := by
  refine ai_Rn.ret (fun call => ?_)
  obtain ⟨n, hf⟩ := hf
  unfold ai_step
  simp only [hf, ai_fam, ai_ret, hr]
  rw [if_pos hn]
theorem ai_Rn.vret (hf : ai_In M pc .return_) (hr : M.2.2.2.1 = none) : ai_Rn sc P d M (pc, L, [], z) (none, z) := by
  refine ai_Rn.ret (fun call => ?_)
  obtain ⟨n, hf⟩ := hf
  unfold ai_step
  simp only [hf, ai_fam, ai_ret, hr]
theorem ai_Rn.callv {idx key n ci a : Nat} {fs : List Value} {rest : List Value} {v : Option Value} {z' : List va_E} (hf : ai_In M pc (.invokevirtual idx)) (hl : P.2.2.2.1 M.2.2.2.2.1 idx = some (0, key, n, ci)) (hs : st.drop n = .ref a :: rest) (hz : z[a]? = some (.inr (ci, fs))) (hroom : (rest.map fun v => v.category).sum ≤ 8) (hnt : ai_nt v) (hc : ai_Ex P d key (.ref a :: (st.take n).reverse) z (v, z')) (h : ai_Rn sc P d M (pc + 3, L, v.toList ++ rest, z') r) : ai_Rn sc P d M (pc, L, st, z) r := by
  refine ai_Rn.call hc (fun call hcall => ?_) h
  obtain ⟨m, hf⟩ := hf
  unfold ai_step
  simp only [hf, ai_fam, ai_inv, hl, hs, hz]
  rw [if_pos ⟨trivial, hroom⟩, hcall, ai_push_nt hnt]
theorem ai_Rn.calls {idx key n x : Nat} {v : Option Value} {z' : List va_E} (hf : ai_In M pc (.invokestatic idx)) (hl : P.2.2.2.1 M.2.2.2.2.1 idx = some (2, key, n, x)) (hlen : n ≤ st.length) (hroom : ((st.drop n).map fun v => v.category).sum ≤ 8) (hnt : ai_nt v) (hc : ai_Ex P d key ((st.take n).reverse) z (v, z')) (h : ai_Rn sc P d M (pc + 3, L, v.toList ++ st.drop n, z') r) : ai_Rn sc P d M (pc, L, st, z) r := by
  refine ai_Rn.call hc (fun call hcall => ?_) h
  obtain ⟨m, hf⟩ := hf
  unfold ai_step
  simp only [hf, ai_fam, ai_inv, hl]
  rw [if_pos ⟨hlen, hroom⟩, hcall, ai_push_nt hnt]
/-- a call of a constructor -/
theorem ai_Rn.calli {idx kind key n x a : Nat} {rest : List Value} {v : Option Value} {z' : List va_E} (hf : ai_In M pc (.invokespecial idx)) (hl : P.2.2.2.1 M.2.2.2.2.1 idx = some (kind, key, n, x)) (hkd : kind = 1 ∨ kind = 4) (hs : st.drop n = .ref a :: rest) (hroom : (rest.map fun v => v.category).sum ≤ 8) (hnt : ai_nt v) (hc : ai_Ex P d key (.ref a :: (st.take n).reverse) z (v, z')) (h : ai_Rn sc P d M (pc + 3, L, v.toList ++ rest, z') r) : ai_Rn sc P d M (pc, L, st, z) r := by
  refine ai_Rn.call hc (fun call hcall => ?_) h
  obtain ⟨m, hf⟩ := hf
  rcases hkd with rfl | rfl
  · unfold ai_step
    simp only [hf, ai_fam, ai_inv, hl, hs]
    rw [if_pos hroom, hcall, ai_push_nt hnt]
  · unfold ai_step
    simp only [hf, ai_fam, ai_inv, hl, hs]
    rw [if_pos hroom, hcall, ai_push_nt hnt]
/-- a call whose callee throws, out of this method too -/
theorem ai_Rn.callT {idx key n ci a b : Nat} {fs : List Value} {rest : List Value} {z' : List va_E} (hf : ai_In M pc (.invokevirtual idx)) (hl : P.2.2.2.1 M.2.2.2.2.1 idx = some (0, key, n, ci)) (hs : st.drop n = .ref b :: rest) (hz : z[b]? = some (.inr (ci, fs))) (hroom : (rest.map fun v => v.category).sum ≤ 8) (hh : M.2.2.2.2.2.2.2 = []) (hc : ai_Ex P d key (.ref b :: (st.take n).reverse) z (some (.retAddr a), z')) : ai_Rn sc P d M (pc, L, st, z) (some (.retAddr a), z') := by
  obtain ⟨kc, hc⟩ := hc
  obtain ⟨m, hf⟩ := hf
  refine ⟨kc + 1, fun k1 h1 k2 h2 => ?_⟩
  obtain ⟨j, rfl⟩ : ∃ j, k2 = j + 1 := ⟨k2 - 1, by omega⟩
  have hcall := hc k1 (by omega)
  have h3 : ai_inv (P.2.2.2.1 M.2.2.2.2.1) (ai_exec P k1 d) (.invokevirtual idx) pc st z = none := by
    unfold ai_inv
    simp only [hl, hs, hz]
    rw [if_pos ⟨trivial, hroom⟩, hcall]
    rfl
  have h4 : ai_thr (P.2.2.2.1 M.2.2.2.2.1) (ai_exec P k1 d) M.2.2.2.2.2.2.2 (.invokevirtual idx) pc L st z = some (.inr (some (.retAddr a), z')) := by
    unfold ai_thr
    simp only [hl, hs, hz]
    rw [if_pos ⟨trivial, hroom⟩, hcall, hh]
    rfl
  unfold ai_run
  unfold ai_step
  simp only [hf, ai_fam, h3, h4]
/-- .. into a handler -/
theorem ai_Rn.callC {idx key n ci a b : Nat} {fs fs' : List Value} {rest : List Value} {z' : List va_E} {hd : ai_Hd} (hf : ai_In M pc (.invokevirtual idx)) (hl : P.2.2.2.1 M.2.2.2.2.1 idx = some (0, key, n, ci)) (hs : st.drop n = .ref b :: rest) (hz : z[b]? = some (.inr (ci, fs))) (hroom : (rest.map fun v => v.category).sum ≤ 8) (hh : M.2.2.2.2.2.2.2.find? (fun h => decide (h.1 ≤ pc) && decide (pc < h.2.1)) = some hd) (hz' : z'[a]? = some (.inr (hd.2.2.2.2, fs'))) (hc : ai_Ex P d key (.ref b :: (st.take n).reverse) z (some (.retAddr a), z')) (h : ai_Rn sc P d M (hd.2.2.1, L, [.ref a], z') r) : ai_Rn sc P d M (pc, L, st, z) r := by
  refine ai_Rn.call hc (fun call hcall => ?_) h
  obtain ⟨m, hf⟩ := hf
  have h3 : ai_inv (P.2.2.2.1 M.2.2.2.2.1) call (.invokevirtual idx) pc st z = none := by
    unfold ai_inv
    simp only [hl, hs, hz]
    rw [if_pos ⟨trivial, hroom⟩, hcall]
    rfl
  have h5 : ai_hnd M.2.2.2.2.2.2.2 pc L a z' = some (.inl (hd.2.2.1, L, [.ref a], z')) := by
    unfold ai_hnd
    split
    · next h9 => rw [h9] at hh; cases hh
    · simp only [hh, hz', if_true]
  have h4 : ai_thr (P.2.2.2.1 M.2.2.2.2.1) call M.2.2.2.2.2.2.2 (.invokevirtual idx) pc L st z = some (.inl (hd.2.2.1, L, [.ref a], z')) := by
    unfold ai_thr
    simp only [hl, hs, hz]
    rw [if_pos ⟨trivial, hroom⟩, hcall]
    exact h5
  unfold ai_step
  simp only [hf, ai_fam, h3, h4]
/-- new E("text"), thrown -/
theorem ai_Rn.throw {idx : Nat} {q : ai_Site} (hf : ai_In M pc (.new idx)) (hn : P.2.2.1 M.2.2.2.2.1 idx = none) (hq : ai_sites.find? (fun q => q.1 == M.1.cls && q.2.1 == idx && ai_ckS M.2.2.2.2.2.2.1 pc q) = some q) (hh : M.2.2.2.2.2.2.2 = []) (hroom : (st.map fun v => v.category).sum ≤ 8) : ai_Rn sc P d M (pc, L, st, z) (some (.retAddr z.length), z ++ [.inr (q.2.2.2.2.1, List.replicate 6 .null)]) := by
  refine ai_Rn.ret (fun call => ?_)
  obtain ⟨n, hf⟩ := hf
  have h3 : ai_hp sc (P.2.1 M.2.2.2.2.1) (P.2.2.1 M.2.2.2.2.1) P.2.2.2.2.1 (P.2.2.2.2.2 M.2.2.2.2.1) (ai_ini M) (.new idx) pc st z = none := by
    show ai_new _ _ idx pc st z = none
    unfold ai_new
    rw [hn]
  have h4 : ai_throw M (.new idx) pc st z = some (some (.retAddr z.length), z ++ [.inr (q.2.2.2.2.1, List.replicate 6 .null)]) := by
    unfold ai_throw
    simp only [hq]
    rw [if_pos ⟨by rw [hh]; rfl, hroom⟩]
  unfold ai_step
  simp only [hf, ai_fam, h3, h4]
end AiRules
