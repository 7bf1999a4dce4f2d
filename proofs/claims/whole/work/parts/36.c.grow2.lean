/-! RUNS THAT MAKE NEW CELLS: more rules -/
section Grow2
variable {lay : ax_Lay} {ss ss' : List ax_S} {d : Nat} {M : ai_M} {pc pc' : Nat} {L L' : List (Option Value)} {st st' : List Value} {V V1 : ax_V} {Q Q' : Option Value → List va_E → Prop}
theorem ax_Q.go (hs : ∀ r, ai_Rn none ai_P0 d M (pc', L', st', ax_w ss' V1) r → ai_Rn none ai_P0 d M (pc, L, st, ax_w ss V) r) (h : ax_Q ss' d M pc' L' st' V1 Q) : ax_Q ss d M pc L st V Q := by
  obtain ⟨r, z', q, hr⟩ := h
  exact ⟨r, z', q, hs _ hr⟩
/-- the same world, another shape -/
theorem ax_Q.re (e : ax_w ss V = ax_w ss' V1) (h : ax_Q ss' d M pc L st V1 Q) : ax_Q ss d M pc L st V Q := ax_Q.go (fun r hr => by rw [e]; exact hr) h
theorem ax_Q.mono (h : ax_Q ss d M pc L st V Q) (k : ∀ r z, Q r z → Q' r z) : ax_Q ss d M pc L st V Q' := by
  obtain ⟨r, z', q, hr⟩ := h
  exact ⟨r, z', k r z' q, hr⟩
theorem ax_E.mono {key : Nat} {vs : List Value} (h : ax_E ss d key vs V Q) (k : ∀ r z, Q r z → Q' r z) : ax_E ss d key vs V Q' := by
  obtain ⟨r, z', q, hr⟩ := h
  exact ⟨r, z', k r z' q, hr⟩
theorem ax_Q.bip {n : Int} (hf : ai_In M pc (.bipush n)) (hn : (Int8.ofInt n).toInt32 = Int32.ofInt n) (hp : pc + 2 = pc') (h : ax_Q ss d M pc' L (ax_i n :: st) V Q) : ax_Q ss d M pc L st V Q := by
  subst hp
  exact ax_Q.sim hf rfl (by show some (pc + 2, L, .int (Int8.ofInt n).toInt32 :: st) = _; rw [hn]; rfl) h
theorem ax_Q.sip {n : Int} (hf : ai_In M pc (.sipush n)) (hn : (Int16.ofInt n).toInt32 = Int32.ofInt n) (hp : pc + 3 = pc') (h : ax_Q ss d M pc' L (ax_i n :: st) V Q) : ax_Q ss d M pc L st V Q := by
  subst hp
  exact ax_Q.sim hf rfl (by show some (pc + 3, L, .int (Int16.ofInt n).toInt32 :: st) = _; rw [hn]; rfl) h
theorem ax_Q.ldc {idx : Nat} {v : Int32} {n : Int} (hf : ai_In M pc (.ldc idx)) (hl : ai_P0.2.2.2.2.2 M.2.2.2.2.1 idx = some (.int v)) (hv : v = Int32.ofInt n) (hp : pc + 2 = pc') (h : ax_Q ss d M pc' L (ax_i n :: st) V Q) : ax_Q ss d M pc L st V Q := by
  subst hp hv
  refine ax_Q.go (fun r hr => ?_) h
  refine ai_Rn.world hf rfl ?_ hr
  show ai_ldk _ idx 2 pc st _ = _
  unfold ai_ldk
  rw [hl]
  rfl
theorem ax_Q.sti {k n : Nat} {x : Int} {ins : Instr} (hf : ai_In M pc ins) (h0 : ai_fam ins = 0) (hi : ai_simple ins pc L (ax_i x :: st) = ai_sti L k n pc (ax_i x :: st)) (hk : ai_kill L k = L) (hlt : k < L.length) (hL : L.set k (some (ax_i x)) = L') (hp : pc + n = pc') (h : ax_Q ss d M pc' L' st V Q) : ax_Q ss d M pc L (ax_i x :: st) V Q := by
  subst hp hL
  refine ax_Q.sim hf h0 (hi.trans ?_) h
  show (if k < L.length then some (pc + n, (ai_kill L k).set k (some (ax_i x)), st) else none) = _
  rw [if_pos hlt, hk]
theorem ax_Q.sta {k n a : Nat} {ins : Instr} (hf : ai_In M pc ins) (h0 : ai_fam ins = 0) (hi : ai_simple ins pc L (.ref a :: st) = ai_sta L k n pc (.ref a :: st)) (hk : ai_kill L k = L) (hlt : k < L.length) (hL : L.set k (some (.ref a)) = L') (hp : pc + n = pc') (h : ax_Q ss d M pc' L' st V Q) : ax_Q ss d M pc L (.ref a :: st) V Q := by
  subst hp hL
  refine ax_Q.sim hf h0 (hi.trans ?_) h
  show (if k < L.length then some (pc + n, (ai_kill L k).set k (some (.ref a)), st) else none) = _
  rw [if_pos hlt, hk]
theorem ax_Q.bin {ins : Instr} {f : Int32 → Int32 → Int32} {x y z : Int} (hf : ai_In M pc ins) (h0 : ai_fam ins = 0) (hi : ai_simple ins pc L (ax_i y :: ax_i x :: st) = ai_bin f pc L (ax_i y :: ax_i x :: st)) (he : f (Int32.ofInt x) (Int32.ofInt y) = Int32.ofInt z) (hp : pc + 1 = pc') (h : ax_Q ss d M pc' L (ax_i z :: st) V Q) : ax_Q ss d M pc L (ax_i y :: ax_i x :: st) V Q := by
  subst hp
  refine ax_Q.sim hf h0 (hi.trans ?_) h
  show some (pc + 1, L, .int (f (Int32.ofInt x) (Int32.ofInt y)) :: st) = _
  rw [he]; rfl
theorem ax_Q.add {x y : Int} (hf : ai_In M pc .iadd) (hp : pc + 1 = pc') (h : ax_Q ss d M pc' L (ax_i (x + y) :: st) V Q) : ax_Q ss d M pc L (ax_i y :: ax_i x :: st) V Q := ax_Q.bin hf rfl rfl (Int32.ofInt_add x y).symm hp h
theorem ax_Q.sub {x y : Int} (hf : ai_In M pc .isub) (hp : pc + 1 = pc') (h : ax_Q ss d M pc' L (ax_i (x - y) :: st) V Q) : ax_Q ss d M pc L (ax_i y :: ax_i x :: st) V Q := ax_Q.bin hf rfl rfl (Int32.ofInt_sub x y).symm hp h
theorem ax_Q.mul {x y : Int} (hf : ai_In M pc .imul) (hp : pc + 1 = pc') (h : ax_Q ss d M pc' L (ax_i (x * y) :: st) V Q) : ax_Q ss d M pc L (ax_i y :: ax_i x :: st) V Q := ax_Q.bin hf rfl rfl (Int32.ofInt_mul x y).symm hp h
theorem ax_Q.ild {a id n : Nat} {i : Int} (hf : ai_In M pc .iaload) (hs : ss[a]? = some (.inr (id, .inl (0, n)))) (hn : n ≤ 2147483647) (hi : 0 ≤ i ∧ i < (n : Int)) (hp : pc + 1 = pc') (h : ax_Q ss d M pc' L (ax_i (V id i) :: st) V Q) : ax_Q ss d M pc L (ax_i i :: .ref a :: st) V Q := by
  subst hp
  refine ax_Q.go (fun r hr => ?_) h
  refine ai_Rn.iald hf (ax_w_get hs) (ax_in hi hn) ?_
  show ai_Rn none ai_P0 d M (pc + 1, L, .int (Int32.ofInt (V id (((Int32.ofInt i).toNatClampNeg : Nat) : Int))) :: st, ax_w ss V) r
  rw [ax_idx hi hn]
  exact hr
theorem ax_Q.alen {a id n : Nat} (hf : ai_In M pc .arraylength) (hs : ss[a]? = some (.inr (id, .inl (0, n)))) (hp : pc + 1 = pc') (h : ax_Q ss d M pc' L (ax_i (n : Int) :: st) V Q) : ax_Q ss d M pc L (.ref a :: st) V Q := by
  subst hp
  refine ax_Q.go (fun r hr => ?_) h
  refine ai_Rn.world (pc' := pc + 1) (st' := ax_i (n : Int) :: st) (z' := ax_w ss V) hf rfl ?_ hr
  show ai_len pc (.ref a :: st) (ax_w ss V) = _
  unfold ai_len
  simp only [ax_w_get hs, ax_c]
  rw [if_pos (by decide)]
  show some (pc + 1, Value.int (Int32.ofNat n) :: st, ax_w ss V) = some (pc + 1, Value.int (Int32.ofInt (n : Int)) :: st, ax_w ss V)
  rw [Int32.ofInt_eq_ofNat]
theorem ax_Q.min {idx k1 k2 k3 : Nat} {x y : Int} (hf : ai_In M pc (.invokestatic idx)) (hl : ai_P0.2.2.2.1 M.2.2.2.2.1 idx = some (6, k1, k2, k3)) (hx : ax_rg x) (hy : ax_rg y) (hroom : (st.map fun v => v.category).sum ≤ 8) (hp : pc + 3 = pc') (h : ax_Q ss d M pc' L (ax_i (if y < x then y else x) :: st) V Q) : ax_Q ss d M pc L (ax_i y :: ax_i x :: st) V Q := by
  subst hp
  refine ax_Q.go (fun r hr => ?_) h
  refine ai_Rn.step (fun call => ?_) hr
  obtain ⟨n, hf⟩ := hf
  have e : ai_mm (fun x y => if y < x then y else x) (ax_i y :: ax_i x :: st) (ax_w ss V) pc = some (pc + 3, ax_i (if y < x then y else x) :: st, ax_w ss V) := by
    show (if (st.map fun v => v.category).sum ≤ 8 then some (pc + 3, Value.int (if Int32.ofInt y < Int32.ofInt x then Int32.ofInt y else Int32.ofInt x) :: st, ax_w ss V) else none) = _
    rw [if_pos hroom]
    simp only [ax_lt hy hx]
    by_cases q : y < x
    · simp [q, ax_i]
    · simp [q, ax_i]
  unfold ai_step
  simp only [hf, ai_fam, ai_inv, hl, e]
theorem ax_Q.max {idx k1 k2 k3 : Nat} {x y : Int} (hf : ai_In M pc (.invokestatic idx)) (hl : ai_P0.2.2.2.1 M.2.2.2.2.1 idx = some (7, k1, k2, k3)) (hx : ax_rg x) (hy : ax_rg y) (hroom : (st.map fun v => v.category).sum ≤ 8) (hp : pc + 3 = pc') (h : ax_Q ss d M pc' L (ax_i (if x < y then y else x) :: st) V Q) : ax_Q ss d M pc L (ax_i y :: ax_i x :: st) V Q := by
  subst hp
  refine ax_Q.go (fun r hr => ?_) h
  refine ai_Rn.step (fun call => ?_) hr
  obtain ⟨n, hf⟩ := hf
  have e : ai_mm (fun x y => if x < y then y else x) (ax_i y :: ax_i x :: st) (ax_w ss V) pc = some (pc + 3, ax_i (if x < y then y else x) :: st, ax_w ss V) := by
    show (if (st.map fun v => v.category).sum ≤ 8 then some (pc + 3, Value.int (if Int32.ofInt x < Int32.ofInt y then Int32.ofInt y else Int32.ofInt x) :: st, ax_w ss V) else none) = _
    rw [if_pos hroom]
    simp only [ax_lt hx hy]
    by_cases q : x < y
    · simp [q, ax_i]
    · simp [q, ax_i]
  unfold ai_step
  simp only [hf, ai_fam, ai_inv, hl, e]
/-- new E("text"), thrown out of the method -/
theorem ax_Q.thr {idx : Nat} {q : ai_Site} (hf : ai_In M pc (.new idx)) (hn : ai_P0.2.2.1 M.2.2.2.2.1 idx = none) (hq : ai_sites.find? (fun q => q.1 == M.1.cls && q.2.1 == idx && ai_ckS M.2.2.2.2.2.2.1 pc q) = some q) (hh : M.2.2.2.2.2.2.2 = []) (hroom : (st.map fun v => v.category).sum ≤ 8) (h : Q (some (.retAddr ss.length)) (ax_w (ss ++ [.inl (.inr (q.2.2.2.2.1, List.replicate 6 .null))]) V)) : ax_Q ss d M pc L st V Q := by
  have h1 := ai_Rn.throw (sc := none) (P := ai_P0) (d := d) (L := L) (z := ax_w ss V) hf hn hq hh hroom
  rw [ax_w_len] at h1
  have e : ax_w (ss ++ [.inl (.inr (q.2.2.2.2.1, List.replicate 6 .null))]) V = ax_w ss V ++ [.inr (q.2.2.2.2.1, List.replicate 6 .null)] := by
    unfold ax_w
    rw [List.map_append]; rfl
  rw [e] at h
  exact ⟨_, _, h, h1⟩
/-- an int that a lay's rules give -/
theorem ax_I.E {key : Nat} {vs : List Value} {Φ : Int → ax_V → Prop} (h : ax_I lay d key vs V Φ (fun _ => False)) (hs : lay ss) : ∃ x V', ax_rg x ∧ ax_g V' ∧ Φ x V' ∧ ai_Ex ai_P0 d key vs (ax_w ss V) (some (ax_i x), ax_w ss V') := by
  rcases ax_T.E h hs with ⟨r, V', a, b, ⟨x, e, rx, c⟩, k⟩ | ⟨V', b, c, k⟩
  · rw [e] at k; exact ⟨x, V', rx, b, c, k⟩
  · exact c.elim
theorem ax_N.E {key : Nat} {vs : List Value} {Φ : ax_V → Prop} (h : ax_N lay d key vs V Φ (fun _ => False)) (hs : lay ss) : ∃ V', ax_g V' ∧ Φ V' ∧ ai_Ex ai_P0 d key vs (ax_w ss V) (none, ax_w ss V') := by
  rcases ax_T.E h hs with ⟨r, V', a, b, ⟨e, c⟩, k⟩ | ⟨V', b, c, k⟩
  · rw [e] at k; exact ⟨V', b, c, k⟩
  · exact c.elim
end Grow2
