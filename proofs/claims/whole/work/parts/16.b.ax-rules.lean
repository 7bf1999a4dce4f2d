/-! RULES over worlds by shape and numbers: the goal first, an instruction each -/
def ax_k0 (k : Jvm.ClassFile.Cond) (x : Int) : Prop := match k with
  | .eq => x = 0 | .ne => ¬ x = 0 | .lt => x < 0 | .ge => 0 ≤ x | .gt => 0 < x | .le => x ≤ 0
def ax_k2 (k : Jvm.ClassFile.Cond) (x y : Int) : Prop := match k with
  | .eq => x = y | .ne => ¬ x = y | .lt => x < y | .ge => y ≤ x | .gt => y < x | .le => x ≤ y
theorem ax_c0_iff {k : Jvm.ClassFile.Cond} {x : Int} (hx : ax_rg x) : ai_c0 k (Int32.ofInt x) = true ↔ ax_k0 k x := by
  have z : ax_rg 0 := by decide
  have e0 : (0 : Int32) = Int32.ofInt 0 := rfl
  cases k <;> simp only [ai_c0, ax_k0, decide_eq_true_eq, e0, ax_eq hx z, ax_lt hx z, ax_lt z hx, ax_le hx z, ax_le z hx]
theorem ax_c2_iff {k : Jvm.ClassFile.Cond} {x y : Int} (hx : ax_rg x) (hy : ax_rg y) : ai_c2 k (Int32.ofInt x) (Int32.ofInt y) = true ↔ ax_k2 k x y := by
  cases k <;> simp only [ai_c2, ax_k2, decide_eq_true_eq, ax_eq hx hy, ax_lt hx hy, ax_lt hy hx, ax_le hx hy, ax_le hy hx]
theorem ax_ifc {b : Bool} {pc p1 : Nat} {off : Int} {L : List (Option Value)} {st : List Value} (hp : (pc : Int) + off = (p1 : Int)) : ai_ifc b pc off L st = some (if b then p1 else pc + 3, L, st) := by
  unfold ai_ifc
  rw [if_pos (by omega)]
  have e : ((pc : Int) + off).toNat = p1 := by omega
  rw [e]
theorem ax_gop {pc p1 : Nat} {off : Int} {L : List (Option Value)} {st : List Value} (hp : (pc : Int) + off = (p1 : Int)) : ai_go pc off L st = some (p1, L, st) := by
  unfold ai_go
  rw [if_pos (by omega)]
  have e : ((pc : Int) + off).toNat = p1 := by omega
  rw [e]
/-- and, or, shifts, quotients on machine ints -/
def ax_and (x y : Int) : Int := (Int32.ofInt x &&& Int32.ofInt y).toInt
def ax_or (x y : Int) : Int := (Int32.ofInt x ||| Int32.ofInt y).toInt
def ax_xor (x y : Int) : Int := (Int32.ofInt x ^^^ Int32.ofInt y).toInt
def ax_shl (x y : Int) : Int := (Int32.ofInt x <<< (Int32.ofInt y &&& 31)).toInt
def ax_shr (x y : Int) : Int := (Int32.ofInt x >>> (Int32.ofInt y &&& 31)).toInt
def ax_ushr (x y : Int) : Int := ((Int32.ofInt x).toUInt32 >>> ((Int32.ofInt y).toUInt32 &&& Int32.toUInt32 31)).toInt32.toInt
def ax_div (x y : Int) : Int := (Int32.ofInt x / Int32.ofInt y).toInt
def ax_rem (x y : Int) : Int := (Int32.ofInt x - Int32.ofInt x / Int32.ofInt y * Int32.ofInt y).toInt
def ax_wr (x : Int) : Int := (Int32.ofInt x).toInt
theorem ax_and_e (x y : Int) : (fun x y : Int32 => x &&& y) (Int32.ofInt x) (Int32.ofInt y) = Int32.ofInt (ax_and x y) := by unfold ax_and; rw [Int32.ofInt_toInt]
theorem ax_or_e (x y : Int) : (fun x y : Int32 => x ||| y) (Int32.ofInt x) (Int32.ofInt y) = Int32.ofInt (ax_or x y) := by unfold ax_or; rw [Int32.ofInt_toInt]
theorem ax_xor_e (x y : Int) : (fun x y : Int32 => x ^^^ y) (Int32.ofInt x) (Int32.ofInt y) = Int32.ofInt (ax_xor x y) := by unfold ax_xor; rw [Int32.ofInt_toInt]
theorem ax_shl_e (x y : Int) : (fun x y : Int32 => x <<< (y &&& 31)) (Int32.ofInt x) (Int32.ofInt y) = Int32.ofInt (ax_shl x y) := by unfold ax_shl; rw [Int32.ofInt_toInt]
theorem ax_shr_e (x y : Int) : (fun x y : Int32 => x >>> (y &&& 31)) (Int32.ofInt x) (Int32.ofInt y) = Int32.ofInt (ax_shr x y) := by unfold ax_shr; rw [Int32.ofInt_toInt]
theorem ax_ushr_e (x y : Int) : (fun x y : Int32 => (x.toUInt32 >>> (y.toUInt32 &&& Int32.toUInt32 31)).toInt32) (Int32.ofInt x) (Int32.ofInt y) = Int32.ofInt (ax_ushr x y) := by unfold ax_ushr; rw [Int32.ofInt_toInt]
theorem ax_div_e (x y : Int) : (fun x y : Int32 => x / y) (Int32.ofInt x) (Int32.ofInt y) = Int32.ofInt (ax_div x y) := by unfold ax_div; rw [Int32.ofInt_toInt]
theorem ax_rem_e (x y : Int) : (fun x y : Int32 => x - x / y * y) (Int32.ofInt x) (Int32.ofInt y) = Int32.ofInt (ax_rem x y) := by unfold ax_rem; rw [Int32.ofInt_toInt]
theorem ax_rg_of (x : Int32) : ax_rg x.toInt := ⟨by have := x.le_toInt; omega, by have := x.toInt_lt; omega⟩
theorem ax_i_wr (x : Int) : ax_i (ax_wr x) = ax_i x := by unfold ax_i ax_wr; rw [Int32.ofInt_toInt]
/-- some moves at once: loads, constants, jumps -/
def ai_mv (M : ai_M) : Nat → Nat × List (Option Value) × List Value → Option (Nat × List (Option Value) × List Value)
  | 0, u => some u
  | n + 1, u => match M.2.2.2.2.2.2.1.find? (fun q => q.1 == u.1) with
    | none => none
    | some (_, i, _) => match ai_fam i with
      | 0 => match ai_simple i u.1 u.2.1 u.2.2 with
        | some u' => ai_mv M n u'
        | none => none
      | _ => none
theorem ai_mv_Rn {sc : ai_SC} {P : ai_P} {d : Nat} {M : ai_M} {z : List va_E} {r : ai_R} : ∀ (n : Nat) (u u' : Nat × List (Option Value) × List Value), ai_mv M n u = some u' → ai_Rn sc P d M (u'.1, u'.2.1, u'.2.2, z) r → ai_Rn sc P d M (u.1, u.2.1, u.2.2, z) r := by
  intro n
  induction n with
  | zero => intro u u' h hr; cases h; exact hr
  | succ n ih =>
    intro u u' h hr
    unfold ai_mv at h
    split at h
    · cases h
    · next i x hf =>
      split at h
      · next hfam =>
        split at h
        · next u1 hs =>
          refine ai_Rn.step (fun call => ?_) (ih u1 u' h hr)
          unfold ai_step
          simp only [hf, hfam, hs]
        · cases h
      · cases h
/-- System.arraycopy on the numbers -/
def ax_cp (V : ax_V) (s t : Nat) (sp tp n : Int) : ax_V := fun c j => if c = t ∧ tp ≤ j ∧ j < tp + n then V s (sp + (j - tp)) else V c j
section AxRules
variable {lay : ax_Lay} {τ : List ax_S → Option Value} {d : Nat} {M : ai_M} {pc pc' : Nat} {L L' : List (Option Value)} {st st' : List Value} {V V1 : ax_V} {Φ : Option Value → ax_V → Prop} {Θ : ax_V → Prop}
theorem ax_mv (n : Nat) (pc' : Nat) (L' : List (Option Value)) (st' : List Value) (he : ai_mv M n (pc, L, st) = some (pc', L', st')) (h : ax_R lay τ d M pc' L' st' V Φ Θ) : ax_R lay τ d M pc L st V Φ Θ :=
  ax_R.go (fun _ _ _ hr => ai_mv_Rn n (pc, L, st) (pc', L', st') he hr) h
theorem ax_sim {i : Instr} (hf : ai_In M pc i) (h0 : ai_fam i = 0) (he : ai_simple i pc L st = some (pc', L', st')) (h : ax_R lay τ d M pc' L' st' V Φ Θ) : ax_R lay τ d M pc L st V Φ Θ :=
  ax_R.go (fun _ _ _ hr => ai_Rn.simple hf h0 he hr) h
theorem ax_bip {n : Int} (hf : ai_In M pc (.bipush n)) (hn : (Int8.ofInt n).toInt32 = Int32.ofInt n) (hp : pc + 2 = pc') (h : ax_R lay τ d M pc' L (ax_i n :: st) V Φ Θ) : ax_R lay τ d M pc L st V Φ Θ := by
  subst hp
  exact ax_sim hf rfl (by show some (pc + 2, L, .int (Int8.ofInt n).toInt32 :: st) = _; rw [hn]; rfl) h
theorem ax_sip {n : Int} (hf : ai_In M pc (.sipush n)) (hn : (Int16.ofInt n).toInt32 = Int32.ofInt n) (hp : pc + 3 = pc') (h : ax_R lay τ d M pc' L (ax_i n :: st) V Φ Θ) : ax_R lay τ d M pc L st V Φ Θ := by
  subst hp
  exact ax_sim hf rfl (by show some (pc + 3, L, .int (Int16.ofInt n).toInt32 :: st) = _; rw [hn]; rfl) h
theorem ax_ldc {idx : Nat} {v : Int32} {n : Int} (hf : ai_In M pc (.ldc idx)) (hl : ai_P0.2.2.2.2.2 M.2.2.2.2.1 idx = some (.int v)) (hv : v = Int32.ofInt n) (hp : pc + 2 = pc') (h : ax_R lay τ d M pc' L (ax_i n :: st) V Φ Θ) : ax_R lay τ d M pc L st V Φ Θ := by
  subst hp hv
  refine ax_R.go (fun ss hs r hr => ?_) h
  refine ai_Rn.world hf rfl ?_ hr
  show ai_ldk _ idx 2 pc st _ = _
  unfold ai_ldk
  rw [hl]
  rfl
theorem ax_ldcw {idx : Nat} {v : Int32} {n : Int} (hf : ai_In M pc (.ldc_w idx)) (hl : ai_P0.2.2.2.2.2 M.2.2.2.2.1 idx = some (.int v)) (hv : v = Int32.ofInt n) (hp : pc + 3 = pc') (h : ax_R lay τ d M pc' L (ax_i n :: st) V Φ Θ) : ax_R lay τ d M pc L st V Φ Θ := by
  subst hp hv
  refine ax_R.go (fun ss hs r hr => ?_) h
  refine ai_Rn.world hf rfl ?_ hr
  show ai_ldk _ idx 3 pc st _ = _
  unfold ai_ldk
  rw [hl]
  rfl
/-- a store at i: what stood ahead of it has one slot -/
theorem ax_sti {i k n : Nat} {x : Int} {ins : Instr} (hf : ai_In M pc ins) (h0 : ai_fam ins = 0) (hi : ai_simple ins pc L (ax_i x :: st) = ai_sti L k n pc (ax_i x :: st)) (hk : ai_kill L k = L) (hlt : k < L.length) (hL : L.set k (some (ax_i x)) = L') (hp : pc + n = pc') (h : ax_R lay τ d M pc' L' st V Φ Θ) : ax_R lay τ d M pc L (ax_i x :: st) V Φ Θ := by
  subst hp hL
  refine ax_sim hf h0 (hi.trans ?_) h
  show (if k < L.length then some (pc + n, (ai_kill L k).set k (some (ax_i x)), st) else none) = _
  rw [if_pos hlt, hk]
theorem ax_sta {k n a : Nat} {ins : Instr} (hf : ai_In M pc ins) (h0 : ai_fam ins = 0) (hi : ai_simple ins pc L (.ref a :: st) = ai_sta L k n pc (.ref a :: st)) (hk : ai_kill L k = L) (hlt : k < L.length) (hL : L.set k (some (.ref a)) = L') (hp : pc + n = pc') (h : ax_R lay τ d M pc' L' st V Φ Θ) : ax_R lay τ d M pc L (.ref a :: st) V Φ Θ := by
  subst hp hL
  refine ax_sim hf h0 (hi.trans ?_) h
  show (if k < L.length then some (pc + n, (ai_kill L k).set k (some (.ref a)), st) else none) = _
  rw [if_pos hlt, hk]
theorem ax_inc {k : Nat} {n x : Int} (hf : ai_In M pc (.iinc k n)) (hx : L[k]? = some (some (ax_i x))) (hk : ai_kill L k = L) (hL : L.set k (some (ax_i (x + n))) = L') (hp : pc + 3 = pc') (h : ax_R lay τ d M pc' L' st V Φ Θ) : ax_R lay τ d M pc L st V Φ Θ := by
  subst hp hL
  refine ax_sim hf rfl ?_ h
  show ai_inc L k n pc st = _
  unfold ai_inc
  rw [hx, hk]
  show some (pc + 3, L.set k (some (.int (Int32.ofInt x + Int32.ofInt n))), st) = _
  rw [← Int32.ofInt_add]
  rfl
/-- a slot of one: what may stand ahead of a store -/
def ax_y (y : Option Value) : Prop := ∀ w, y = some w → w.category = 1
theorem ax_kill_y {k : Nat} {y : Option Value} (h : L[k]? = some y) (hy : ax_y y) : ai_kill L (k + 1) = L := by
  simp only [ai_kill, h]
  cases y with
  | none => rfl
  | some w => simp [hy w rfl]
theorem ax_y_n : ax_y none := fun w h => by cases h
theorem ax_y_i (x : Int) : ax_y (some (ax_i x)) := fun w h => by cases h; rfl
theorem ax_y_r (a : Nat) : ax_y (some (.ref a)) := fun w h => by cases h; rfl
theorem ax_bin {ins : Instr} {f : Int32 → Int32 → Int32} {x y z : Int} (hf : ai_In M pc ins) (h0 : ai_fam ins = 0) (hi : ai_simple ins pc L (ax_i y :: ax_i x :: st) = ai_bin f pc L (ax_i y :: ax_i x :: st)) (he : f (Int32.ofInt x) (Int32.ofInt y) = Int32.ofInt z) (hp : pc + 1 = pc') (h : ax_R lay τ d M pc' L (ax_i z :: st) V Φ Θ) : ax_R lay τ d M pc L (ax_i y :: ax_i x :: st) V Φ Θ := by
  subst hp
  refine ax_sim hf h0 (hi.trans ?_) h
  show some (pc + 1, L, .int (f (Int32.ofInt x) (Int32.ofInt y)) :: st) = _
  rw [he]; rfl
theorem ax_add {x y : Int} (hf : ai_In M pc .iadd) (hp : pc + 1 = pc') (h : ax_R lay τ d M pc' L (ax_i (x + y) :: st) V Φ Θ) : ax_R lay τ d M pc L (ax_i y :: ax_i x :: st) V Φ Θ := ax_bin hf rfl rfl (Int32.ofInt_add x y).symm hp h
theorem ax_sub {x y : Int} (hf : ai_In M pc .isub) (hp : pc + 1 = pc') (h : ax_R lay τ d M pc' L (ax_i (x - y) :: st) V Φ Θ) : ax_R lay τ d M pc L (ax_i y :: ax_i x :: st) V Φ Θ := ax_bin hf rfl rfl (Int32.ofInt_sub x y).symm hp h
theorem ax_mul {x y : Int} (hf : ai_In M pc .imul) (hp : pc + 1 = pc') (h : ax_R lay τ d M pc' L (ax_i (x * y) :: st) V Φ Θ) : ax_R lay τ d M pc L (ax_i y :: ax_i x :: st) V Φ Θ := ax_bin hf rfl rfl (Int32.ofInt_mul x y).symm hp h
theorem ax_rand {x y : Int} (hf : ai_In M pc .iand) (hp : pc + 1 = pc') (h : ax_R lay τ d M pc' L (ax_i (ax_and x y) :: st) V Φ Θ) : ax_R lay τ d M pc L (ax_i y :: ax_i x :: st) V Φ Θ := ax_bin (f := fun x y : Int32 => x &&& y) hf rfl rfl (ax_and_e x y) hp h
theorem ax_ror {x y : Int} (hf : ai_In M pc .ior) (hp : pc + 1 = pc') (h : ax_R lay τ d M pc' L (ax_i (ax_or x y) :: st) V Φ Θ) : ax_R lay τ d M pc L (ax_i y :: ax_i x :: st) V Φ Θ := ax_bin (f := fun x y : Int32 => x ||| y) hf rfl rfl (ax_or_e x y) hp h
theorem ax_rxor {x y : Int} (hf : ai_In M pc .ixor) (hp : pc + 1 = pc') (h : ax_R lay τ d M pc' L (ax_i (ax_xor x y) :: st) V Φ Θ) : ax_R lay τ d M pc L (ax_i y :: ax_i x :: st) V Φ Θ := ax_bin (f := fun x y : Int32 => x ^^^ y) hf rfl rfl (ax_xor_e x y) hp h
theorem ax_rshl {x y : Int} (hf : ai_In M pc .ishl) (hp : pc + 1 = pc') (h : ax_R lay τ d M pc' L (ax_i (ax_shl x y) :: st) V Φ Θ) : ax_R lay τ d M pc L (ax_i y :: ax_i x :: st) V Φ Θ := ax_bin (f := fun x y : Int32 => x <<< (y &&& 31)) hf rfl rfl (ax_shl_e x y) hp h
theorem ax_rshr {x y : Int} (hf : ai_In M pc .ishr) (hp : pc + 1 = pc') (h : ax_R lay τ d M pc' L (ax_i (ax_shr x y) :: st) V Φ Θ) : ax_R lay τ d M pc L (ax_i y :: ax_i x :: st) V Φ Θ := ax_bin (f := fun x y : Int32 => x >>> (y &&& 31)) hf rfl rfl (ax_shr_e x y) hp h
theorem ax_rushr {x y : Int} (hf : ai_In M pc .iushr) (hp : pc + 1 = pc') (h : ax_R lay τ d M pc' L (ax_i (ax_ushr x y) :: st) V Φ Θ) : ax_R lay τ d M pc L (ax_i y :: ax_i x :: st) V Φ Θ := ax_bin (f := fun x y : Int32 => (x.toUInt32 >>> (y.toUInt32 &&& Int32.toUInt32 31)).toInt32) hf rfl rfl (ax_ushr_e x y) hp h
theorem ax_neg {x : Int} (hf : ai_In M pc .ineg) (hp : pc + 1 = pc') (h : ax_R lay τ d M pc' L (ax_i (-x) :: st) V Φ Θ) : ax_R lay τ d M pc L (ax_i x :: st) V Φ Θ := by
  subst hp
  refine ax_sim hf rfl ?_ h
  show some (pc + 1, L, .int (-(Int32.ofInt x)) :: st) = _
  rw [← Int32.ofInt_neg]; rfl
/-- a number as the machine keeps it -/
theorem ax_wrap {x : Int} (h : ax_R lay τ d M pc L (ax_i (ax_wr x) :: st) V Φ Θ) : ax_R lay τ d M pc L (ax_i x :: st) V Φ Θ := by rw [ax_i_wr] at h; exact h
theorem ax_dvp {ins : Instr} {f : Int32 → Int32 → Int32} {x y z : Int} (hf : ai_In M pc ins) (h0 : ai_fam ins = 0) (hi : ai_simple ins pc L (ax_i y :: ax_i x :: st) = ai_div f pc L (ax_i y :: ax_i x :: st)) (hy : ax_rg y) (hy0 : ¬ y = 0) (he : f (Int32.ofInt x) (Int32.ofInt y) = Int32.ofInt z) (hp : pc + 1 = pc') (h : ax_R lay τ d M pc' L (ax_i z :: st) V Φ Θ) : ax_R lay τ d M pc L (ax_i y :: ax_i x :: st) V Φ Θ := by
  subst hp
  refine ax_sim hf h0 (hi.trans ?_) h
  show (if Int32.ofInt y = 0 then none else some (pc + 1, L, .int (f (Int32.ofInt x) (Int32.ofInt y)) :: st)) = _
  have hne : ¬ (Int32.ofInt y = 0) := fun q => hy0 ((ax_eq hy (show ax_rg 0 by decide)).mp q)
  rw [if_neg hne, he]; rfl
theorem ax_rdiv {x y : Int} (hf : ai_In M pc .idiv) (hy : ax_rg y) (hy0 : ¬ y = 0) (hp : pc + 1 = pc') (h : ax_R lay τ d M pc' L (ax_i (ax_div x y) :: st) V Φ Θ) : ax_R lay τ d M pc L (ax_i y :: ax_i x :: st) V Φ Θ := ax_dvp (f := fun x y : Int32 => x / y) hf rfl rfl hy hy0 (ax_div_e x y) hp h
theorem ax_rrem {x y : Int} (hf : ai_In M pc .irem) (hy : ax_rg y) (hy0 : ¬ y = 0) (hp : pc + 1 = pc') (h : ax_R lay τ d M pc' L (ax_i (ax_rem x y) :: st) V Φ Θ) : ax_R lay τ d M pc L (ax_i y :: ax_i x :: st) V Φ Θ := ax_dvp (f := fun x y : Int32 => x - x / y * y) hf rfl rfl hy hy0 (ax_rem_e x y) hp h
/-! branches -/
theorem ax_if {k : Jvm.ClassFile.Cond} {off x : Int} {p1 p2 : Nat} (hf : ai_In M pc (.ifCond k off)) (hp : (pc : Int) + off = (p1 : Int)) (hp2 : pc + 3 = p2) (hx : ax_rg x) (h1 : ax_k0 k x → ax_R lay τ d M p1 L st V Φ Θ) (h2 : ¬ ax_k0 k x → ax_R lay τ d M p2 L st V Φ Θ) : ax_R lay τ d M pc L (ax_i x :: st) V Φ Θ := by
  subst hp2
  have he : ai_simple (.ifCond k off) pc L (ax_i x :: st) = some (if ai_c0 k (Int32.ofInt x) then p1 else pc + 3, L, st) := ax_ifc hp
  cases hb : ai_c0 k (Int32.ofInt x) with
  | true =>
    rw [hb, if_pos rfl] at he
    exact ax_sim hf rfl he (h1 ((ax_c0_iff hx).mp hb))
  | false =>
    rw [hb, if_neg Bool.false_ne_true] at he
    exact ax_sim hf rfl he (h2 (fun q => by rw [(ax_c0_iff hx).mpr q] at hb; cases hb))
theorem ax_if2 {k : Jvm.ClassFile.Cond} {off x y : Int} {p1 p2 : Nat} (hf : ai_In M pc (.if_icmp k off)) (hp : (pc : Int) + off = (p1 : Int)) (hp2 : pc + 3 = p2) (hx : ax_rg x) (hy : ax_rg y) (h1 : ax_k2 k x y → ax_R lay τ d M p1 L st V Φ Θ) (h2 : ¬ ax_k2 k x y → ax_R lay τ d M p2 L st V Φ Θ) : ax_R lay τ d M pc L (ax_i y :: ax_i x :: st) V Φ Θ := by
  subst hp2
  have he : ai_simple (.if_icmp k off) pc L (ax_i y :: ax_i x :: st) = some (if ai_c2 k (Int32.ofInt x) (Int32.ofInt y) then p1 else pc + 3, L, st) := ax_ifc hp
  cases hb : ai_c2 k (Int32.ofInt x) (Int32.ofInt y) with
  | true =>
    rw [hb, if_pos rfl] at he
    exact ax_sim hf rfl he (h1 ((ax_c2_iff hx hy).mp hb))
  | false =>
    rw [hb, if_neg Bool.false_ne_true] at he
    exact ax_sim hf rfl he (h2 (fun q => by rw [(ax_c2_iff hx hy).mpr q] at hb; cases hb))
theorem ax_tsD {dflt lo hi x : Int} {offs : Array Int} {p1 : Nat} (hf : ai_In M pc (.tableswitch dflt lo hi offs)) (hx : ax_rg x) (ho : x < lo ∨ hi < x) (hp : (pc : Int) + dflt = (p1 : Int)) (h : ax_R lay τ d M p1 L st V Φ Θ) : ax_R lay τ d M pc L (ax_i x :: st) V Φ Θ := by
  refine ax_sim hf rfl ?_ h
  show ai_tsw pc dflt lo hi offs L (.int (Int32.ofInt x) :: st) = _
  unfold ai_tsw
  simp only [ax_toInt hx]
  rw [if_pos ho]
  exact ax_gop hp
theorem ax_tsC {dflt lo hi x off : Int} {offs : Array Int} {p1 : Nat} (hf : ai_In M pc (.tableswitch dflt lo hi offs)) (hx : ax_rg x) (h1 : lo ≤ x) (h2 : x ≤ hi) (ho : offs[(x - lo).toNat]? = some off) (hp : (pc : Int) + off = (p1 : Int)) (h : ax_R lay τ d M p1 L st V Φ Θ) : ax_R lay τ d M pc L (ax_i x :: st) V Φ Θ := by
  refine ax_sim hf rfl ?_ h
  show ai_tsw pc dflt lo hi offs L (.int (Int32.ofInt x) :: st) = _
  unfold ai_tsw
  simp only [ax_toInt hx]
  rw [if_neg (by omega), ho]
  exact ax_gop hp
theorem ax_ls {dflt x off : Int} {ps : Array (Int × Int)} {p1 : Nat} (hf : ai_In M pc (.lookupswitch dflt ps)) (hx : ax_rg x) (hs : (ps.toList.zip (ps.toList.drop 1)).all (fun (a, next) => a.1 < next.1) = true) (ho : Op.lookupswitch.offset ps.toList dflt x = off) (hp : (pc : Int) + off = (p1 : Int)) (h : ax_R lay τ d M p1 L st V Φ Θ) : ax_R lay τ d M pc L (ax_i x :: st) V Φ Θ := by
  refine ax_sim hf rfl ?_ h
  show ai_lsw pc dflt ps L (.int (Int32.ofInt x) :: st) = _
  unfold ai_lsw
  simp only [ax_toInt hx]
  rw [if_pos hs, ho]
  exact ax_gop hp
/-! arrays -/
theorem ax_in {i : Int} {n : Nat} (hi : 0 ≤ i ∧ i < (n : Int)) (hn : n ≤ 2147483647) : vp_in (Int32.ofInt i) n := by
  have hr : ax_rg i := ⟨by omega, by omega⟩
  show ¬ (Int32.ofInt i < 0 ∨ n ≤ (Int32.ofInt i).toNatClampNeg)
  rw [ax_toNat hr]
  have e : Int32.ofInt i < 0 ↔ i < 0 := ax_lt hr (show ax_rg 0 by decide)
  rw [e]
  omega
theorem ax_idx {i : Int} {n : Nat} (hi : 0 ≤ i ∧ i < (n : Int)) (hn : n ≤ 2147483647) : (((Int32.ofInt i).toNatClampNeg : Nat) : Int) = i := by
  rw [ax_toNat ⟨by omega, by omega⟩]
  omega
theorem ax_ild {a id n : Nat} {i : Int} (hf : ai_In M pc .iaload) (hs : ∀ ss, lay ss → ss[a]? = some (.inr (id, .inl (0, n)))) (hn : n ≤ 2147483647) (hi : 0 ≤ i ∧ i < (n : Int)) (hp : pc + 1 = pc') (h : ax_R lay τ d M pc' L (ax_i (V id i) :: st) V Φ Θ) : ax_R lay τ d M pc L (ax_i i :: .ref a :: st) V Φ Θ := by
  subst hp
  refine ax_R.go (fun ss hl r hr => ?_) h
  refine ai_Rn.iald hf (ax_w_get (hs ss hl)) (ax_in hi hn) ?_
  show ai_Rn none ai_P0 d M (pc + 1, L, .int (Int32.ofInt (V id (((Int32.ofInt i).toNatClampNeg : Nat) : Int))) :: st, ax_w ss V) r
  rw [ax_idx hi hn]
  exact hr
theorem ax_bld {a id n : Nat} {i : Int} (hf : ai_In M pc .baload) (hs : ∀ ss, lay ss → ss[a]? = some (.inr (id, .inl (1, n)))) (hn : n ≤ 2147483647) (hi : 0 ≤ i ∧ i < (n : Int)) (hp : pc + 1 = pc') (h : ax_R lay τ d M pc' L (ax_i (V id i) :: st) V Φ Θ) : ax_R lay τ d M pc L (ax_i i :: .ref a :: st) V Φ Θ := by
  subst hp
  refine ax_R.go (fun ss hl r hr => ?_) h
  refine ai_Rn.bald hf (ax_w_get (hs ss hl)) (ax_in hi hn) ?_
  show ai_Rn none ai_P0 d M (pc + 1, L, .int (Int32.ofInt (V id (((Int32.ofInt i).toNatClampNeg : Nat) : Int))) :: st, ax_w ss V) r
  rw [ax_idx hi hn]
  exact hr
theorem ax_cld {a id n : Nat} {i : Int} (hf : ai_In M pc .caload) (hs : ∀ ss, lay ss → ss[a]? = some (.inr (id, .inl (2, n)))) (hn : n ≤ 2147483647) (hi : 0 ≤ i ∧ i < (n : Int)) (hp : pc + 1 = pc') (h : ax_R lay τ d M pc' L (ax_i (V id i) :: st) V Φ Θ) : ax_R lay τ d M pc L (ax_i i :: .ref a :: st) V Φ Θ := by
  subst hp
  refine ax_R.go (fun ss hl r hr => ?_) h
  refine ai_Rn.cald hf (ax_w_get (hs ss hl)) (ax_in hi hn) ?_
  show ai_Rn none ai_P0 d M (pc + 1, L, .int (Int32.ofInt (V id (((Int32.ofInt i).toNatClampNeg : Nat) : Int))) :: st, ax_w ss V) r
  rw [ax_idx hi hn]
  exact hr
theorem ax_ist {a id n : Nat} {i x : Int} (hf : ai_In M pc .iastore) (hok : ∀ ss, lay ss → ax_ok ss) (hs : ∀ ss, lay ss → ss[a]? = some (.inr (id, .inl (0, n)))) (hn : n ≤ 2147483647) (hi : 0 ≤ i ∧ i < (n : Int)) (hV : V1 = ax_u V id i x) (hp : pc + 1 = pc') (h : ax_R lay τ d M pc' L st V1 Φ Θ) : ax_R lay τ d M pc L (ax_i x :: ax_i i :: .ref a :: st) V Φ Θ := by
  subst hp hV
  refine ax_R.go (fun ss hl r hr => ?_) h
  refine ai_Rn.iast hf (ax_w_get (hs ss hl)) (ax_in hi hn) ?_
  rw [ax_upd (V := V) (id := id) (x := x) hi.1 (by omega)]
  have e2 : (ax_w ss V).set a (.inl (0, n, .inl (fun j : Nat => Int32.ofInt (ax_u V id i x id (j : Int))))) = ax_w ss (ax_u V id i x) := ax_w_set (V := V) (V' := ax_u V id i x) (hok ss hl) (hs ss hl) (fun c hc => ax_u_ne hc)
  rw [e2]
  exact hr
theorem ax_nb {x : Int} (hx : x = 0 ∨ x = 1) : vp_nar .boolean (Int32.ofInt x) = Int32.ofInt x := by rcases hx with rfl | rfl <;> decide
theorem ax_bst {a id n : Nat} {i x : Int} (hf : ai_In M pc .bastore) (hok : ∀ ss, lay ss → ax_ok ss) (hs : ∀ ss, lay ss → ss[a]? = some (.inr (id, .inl (1, n)))) (hn : n ≤ 2147483647) (hi : 0 ≤ i ∧ i < (n : Int)) (hx : x = 0 ∨ x = 1) (hV : V1 = ax_u V id i x) (hp : pc + 1 = pc') (h : ax_R lay τ d M pc' L st V1 Φ Θ) : ax_R lay τ d M pc L (ax_i x :: ax_i i :: .ref a :: st) V Φ Θ := by
  subst hp hV
  refine ax_R.go (fun ss hl r hr => ?_) h
  refine ai_Rn.bast hf (ax_w_get (hs ss hl)) (ax_in hi hn) ?_
  rw [ax_nb hx, ax_upd (V := V) (id := id) (x := x) hi.1 (by omega)]
  have e2 : (ax_w ss V).set a (.inl (1, n, .inl (fun j : Nat => Int32.ofInt (ax_u V id i x id (j : Int))))) = ax_w ss (ax_u V id i x) := ax_w_set (V := V) (V' := ax_u V id i x) (hok ss hl) (hs ss hl) (fun c hc => ax_u_ne hc)
  rw [e2]
  exact hr
theorem ax_cst {a id n : Nat} {i x : Int} (hf : ai_In M pc .castore) (hok : ∀ ss, lay ss → ax_ok ss) (hs : ∀ ss, lay ss → ss[a]? = some (.inr (id, .inl (2, n)))) (hn : n ≤ 2147483647) (hi : 0 ≤ i ∧ i < (n : Int)) (hx : vp_nar .char (Int32.ofInt x) = Int32.ofInt x) (hV : V1 = ax_u V id i x) (hp : pc + 1 = pc') (h : ax_R lay τ d M pc' L st V1 Φ Θ) : ax_R lay τ d M pc L (ax_i x :: ax_i i :: .ref a :: st) V Φ Θ := by
  subst hp hV
  refine ax_R.go (fun ss hl r hr => ?_) h
  refine ai_Rn.cast hf (ax_w_get (hs ss hl)) (ax_in hi hn) ?_
  rw [hx, ax_upd (V := V) (id := id) (x := x) hi.1 (by omega)]
  have e2 : (ax_w ss V).set a (.inl (2, n, .inl (fun j : Nat => Int32.ofInt (ax_u V id i x id (j : Int))))) = ax_w ss (ax_u V id i x) := ax_w_set (V := V) (V' := ax_u V id i x) (hok ss hl) (hs ss hl) (fun c hc => ax_u_ne hc)
  rw [e2]
  exact hr
/-! fields -/
theorem ax_gI {idx ci k a id : Nat} {ty : FieldType} {fin : Bool} {fs : List (Option Value)} {kI : Int} (hf : ai_In M pc (.getfield idx)) (hl : ai_P0.2.1 M.2.2.2.2.1 idx = some (ci, k, ty, fin)) (hs : ∀ ss, lay ss → ss[a]? = some (.inr (id, .inr (ci, fs)))) (hk : fs[k]? = some none) (hK : (k : Int) = kI) (hp : pc + 3 = pc') (h : ax_R lay τ d M pc' L (ax_i (V id kI) :: st) V Φ Θ) : ax_R lay τ d M pc L (.ref a :: st) V Φ Θ := by
  subst hp hK
  refine ax_R.go (fun ss hss r hr => ?_) h
  exact ai_Rn.getf hf hl (ax_w_get (hs ss hss)) (show (fs.mapIdx (fun k f => f.getD (ax_i (V id (k : Int)))))[k]? = some (ax_i (V id (k : Int))) by rw [List.getElem?_mapIdx, hk]; rfl) hr
theorem ax_gR {idx ci k a id : Nat} {ty : FieldType} {fin : Bool} {fs : List (Option Value)} {v : Value} (hf : ai_In M pc (.getfield idx)) (hl : ai_P0.2.1 M.2.2.2.2.1 idx = some (ci, k, ty, fin)) (hs : ∀ ss, lay ss → ss[a]? = some (.inr (id, .inr (ci, fs)))) (hk : fs[k]? = some (some v)) (hp : pc + 3 = pc') (h : ax_R lay τ d M pc' L (v :: st) V Φ Θ) : ax_R lay τ d M pc L (.ref a :: st) V Φ Θ := by
  subst hp
  refine ax_R.go (fun ss hss r hr => ?_) h
  exact ai_Rn.getf hf hl (ax_w_get (hs ss hss)) (show (fs.mapIdx (fun k f => f.getD (ax_i (V id (k : Int)))))[k]? = some v by rw [List.getElem?_mapIdx, hk]; rfl) hr
theorem ax_pI {idx ci k a id : Nat} {ty : FieldType} {fs : List (Option Value)} {kI x : Int} (hf : ai_In M pc (.putfield idx)) (hl : ai_P0.2.1 M.2.2.2.2.1 idx = some (ci, k, ty, false)) (hok : ∀ ss, lay ss → ax_ok ss) (hs : ∀ ss, lay ss → ss[a]? = some (.inr (id, .inr (ci, fs)))) (hk : fs[k]? = some none) (hK : (k : Int) = kI) (hn : narrow ty (ax_i x) = ax_i x) (hfit : fits ty (ax_i x) = true) (hV : V1 = ax_u V id kI x) (hp : pc + 3 = pc') (h : ax_R lay τ d M pc' L st V1 Φ Θ) : ax_R lay τ d M pc L (ax_i x :: .ref a :: st) V Φ Θ := by
  subst hp hK hV
  refine ax_R.go (fun ss hss r hr => ?_) h
  have hlt : k < (fs.mapIdx (fun k f => f.getD (ax_i (V id (k : Int))))).length := by rw [List.length_mapIdx]; exact (List.getElem?_eq_some_iff.mp hk).1
  refine ai_Rn.putf hf hl (ax_w_get (hs ss hss)) hlt hn hfit (fun q => by cases q) ?_
  rw [ax_fset hk]
  have e2 : (ax_w ss V).set a (.inr (ci, fs.mapIdx (fun j f => f.getD (ax_i (ax_u V id (k : Int) x id (j : Int)))))) = ax_w ss (ax_u V id (k : Int) x) := ax_w_set (V := V) (V' := ax_u V id (k : Int) x) (hok ss hss) (hs ss hss) (fun c hc => ax_u_ne hc)
  rw [e2]
  exact hr
theorem ax_nbv {x : Int} (hx : x = 0 ∨ x = 1) : narrow .boolean (ax_i x) = ax_i x := by rcases hx with rfl | rfl <;> rfl
theorem ax_ite_rg {p : Prop} {i : Decidable p} {x y : Int} (hy : ax_rg y) (hx : ax_rg x) : ax_rg (if p then y else x) := by split <;> assumption
theorem ax_ncv {x : Int} (hx : 0 ≤ x ∧ x < 65536) : narrow .char (ax_i x) = ax_i x := by
  show Value.int (Int32.ofInt x).toUInt32.toUInt16.toUInt32.toInt32 = Value.int (Int32.ofInt x)
  congr 1
  have h1 : (Int32.ofInt x).toBitVec.toNat = x.toNat := by
    rw [Int32.toBitVec_ofInt]
    simp [BitVec.toNat_ofInt]
    omega
  apply Int32.toBitVec_inj.mp
  apply BitVec.eq_of_toNat_eq
  simp
  simp at h1
  omega
/-! returns -/
theorem ax_iret {Φ : Int → ax_V → Prop} {ty : FieldType} {x : Int} (hf : ai_In M pc .ireturn) (hr : M.2.2.2.1 = some ty) (hn : narrow ty (ax_i x) = ax_i x) (hx : ax_rg x) (hg : ax_g V) (h : Φ x V) : ax_R lay τ d M pc L [ax_i x] V (ax_Ir Φ) Θ :=
  Or.inl ⟨some (ax_i x), V, ai_nt_i _, hg, ⟨x, rfl, hx, h⟩, fun _ _ => ai_Rn.iret hf hr hn⟩
theorem ax_nret {Φ : ax_V → Prop} (hf : ai_In M pc .return_) (hr : M.2.2.2.1 = none) (hg : ax_g V) (h : Φ V) : ax_R lay τ d M pc L [] V (ax_Nr Φ) Θ :=
  Or.inl ⟨none, V, ai_nt_n, hg, ⟨rfl, h⟩, fun _ _ => ai_Rn.vret hf hr⟩
/-! calls -/
theorem ax_callI {Ψ : Int → ax_V → Prop} {idx key n ci a : Nat} {rest : List Value} (hf : ai_In M pc (.invokevirtual idx)) (hl : ai_P0.2.2.2.1 M.2.2.2.2.1 idx = some (0, key, n, ci)) (hs : st.drop n = .ref a :: rest) (ha : ∀ ss, lay ss → ∃ id fs, ss[a]? = some (.inr (id, .inr (ci, fs)))) (hroom : (rest.map fun v => v.category).sum ≤ 8) (hh : M.2.2.2.2.2.2.2 = []) (hp : pc + 3 = pc') (hc : ax_I lay d key (.ref a :: (st.take n).reverse) V Ψ Θ) (h : ∀ x V1, ax_g V1 → ax_rg x → Ψ x V1 → ax_R lay ax_t d M pc' L (ax_i x :: rest) V1 Φ Θ) : ax_R lay ax_t d M pc L st V Φ Θ := by
  subst hp
  rcases hc with ⟨r, V1, c1, c2, ⟨x, rfl, c3, c4⟩, c5⟩ | ⟨V1, c2, c3, c5⟩
  · refine ax_R.go (fun ss hss r hr => ?_) (h x V1 c2 c3 c4)
    obtain ⟨id, fs, h9⟩ := ha ss hss
    exact ai_Rn.callv hf hl hs (ax_w_get h9) hroom c1 (c5 ss hss) hr
  · refine Or.inr ⟨V1, c2, c3, fun ss hss => ?_⟩
    obtain ⟨id, fs, h9⟩ := ha ss hss
    exact ai_Rn.callT hf hl hs (ax_w_get h9) hroom hh (c5 ss hss)
theorem ax_callN {Ψ : ax_V → Prop} {idx key n ci a : Nat} {rest : List Value} (hf : ai_In M pc (.invokevirtual idx)) (hl : ai_P0.2.2.2.1 M.2.2.2.2.1 idx = some (0, key, n, ci)) (hs : st.drop n = .ref a :: rest) (ha : ∀ ss, lay ss → ∃ id fs, ss[a]? = some (.inr (id, .inr (ci, fs)))) (hroom : (rest.map fun v => v.category).sum ≤ 8) (hh : M.2.2.2.2.2.2.2 = []) (hp : pc + 3 = pc') (hc : ax_N lay d key (.ref a :: (st.take n).reverse) V Ψ Θ) (h : ∀ V1, ax_g V1 → Ψ V1 → ax_R lay ax_t d M pc' L rest V1 Φ Θ) : ax_R lay ax_t d M pc L st V Φ Θ := by
  subst hp
  rcases hc with ⟨r, V1, c1, c2, ⟨rfl, c4⟩, c5⟩ | ⟨V1, c2, c3, c5⟩
  · refine ax_R.go (fun ss hss r hr => ?_) (h V1 c2 c4)
    obtain ⟨id, fs, h9⟩ := ha ss hss
    exact ai_Rn.callv hf hl hs (ax_w_get h9) hroom c1 (c5 ss hss) hr
  · refine Or.inr ⟨V1, c2, c3, fun ss hss => ?_⟩
    obtain ⟨id, fs, h9⟩ := ha ss hss
    exact ai_Rn.callT hf hl hs (ax_w_get h9) hroom hh (c5 ss hss)
/-- a static one: it doesn't throw -/
theorem ax_callS {Ψ : Int → ax_V → Prop} {idx key n x0 : Nat} (hf : ai_In M pc (.invokestatic idx)) (hl : ai_P0.2.2.2.1 M.2.2.2.2.1 idx = some (2, key, n, x0)) (hlen : n ≤ st.length) (hroom : ((st.drop n).map fun v => v.category).sum ≤ 8) (hp : pc + 3 = pc') (hc : ax_I lay d key ((st.take n).reverse) V Ψ (fun _ => False)) (h : ∀ x V1, ax_g V1 → ax_rg x → Ψ x V1 → ax_R lay τ d M pc' L (ax_i x :: st.drop n) V1 Φ Θ) : ax_R lay τ d M pc L st V Φ Θ := by
  subst hp
  rcases hc with ⟨r, V1, c1, c2, ⟨x, rfl, c3, c4⟩, c5⟩ | ⟨V1, c2, c3, c5⟩
  · refine ax_R.go (fun ss hss r hr => ?_) (h x V1 c2 c3 c4)
    exact ai_Rn.calls hf hl hlen hroom c1 (c5 ss hss) hr
  · exact c3.elim
theorem ax_callSN {Ψ : ax_V → Prop} {idx key n x0 : Nat} (hf : ai_In M pc (.invokestatic idx)) (hl : ai_P0.2.2.2.1 M.2.2.2.2.1 idx = some (2, key, n, x0)) (hlen : n ≤ st.length) (hroom : ((st.drop n).map fun v => v.category).sum ≤ 8) (hp : pc + 3 = pc') (hc : ax_N lay d key ((st.take n).reverse) V Ψ (fun _ => False)) (h : ∀ V1, ax_g V1 → Ψ V1 → ax_R lay τ d M pc' L (st.drop n) V1 Φ Θ) : ax_R lay τ d M pc L st V Φ Θ := by
  subst hp
  rcases hc with ⟨r, V1, c1, c2, ⟨rfl, c4⟩, c5⟩ | ⟨V1, c2, c3, c5⟩
  · refine ax_R.go (fun ss hss r hr => ?_) (h V1 c2 c4)
    exact ai_Rn.calls hf hl hlen hroom c1 (c5 ss hss) hr
  · exact c3.elim
/-- new E("text"), thrown out of the method -/
theorem ax_thr {idx : Nat} {q : ai_Site} (hf : ai_In M pc (.new idx)) (hn : ai_P0.2.2.1 M.2.2.2.2.1 idx = none) (hq : ai_sites.find? (fun q => q.1 == M.1.cls && q.2.1 == idx && ai_ckS M.2.2.2.2.2.2.1 pc q) = some q) (hc : q.2.2.2.2.1 = 13) (hh : M.2.2.2.2.2.2.2 = []) (hroom : (st.map fun v => v.category).sum ≤ 8) (hg : ax_g V) (h : Θ V) : ax_R lay ax_t d M pc L st V Φ Θ := by
  refine Or.inr ⟨V, hg, h, fun ss _ => ?_⟩
  have h1 := ai_Rn.throw (sc := none) (P := ai_P0) (d := d) (L := L) (z := ax_w ss V) hf hn hq hh hroom
  rw [hc, ax_w_len] at h1
  have e : ax_w (ss ++ [ax_ex]) V = ax_w ss V ++ [.inr (13, List.replicate 6 .null)] := by
    unfold ax_w
    rw [List.map_append]
    rfl
  rw [e]
  exact h1
/-- a call under a handler that covers it: where the callee throws, what the handler does is given -/
theorem ax_callIC {Ψ : Int → ax_V → Prop} {idx key n ci a : Nat} {rest : List Value} {hd : ai_Hd} (hf : ai_In M pc (.invokevirtual idx)) (hl : ai_P0.2.2.2.1 M.2.2.2.2.1 idx = some (0, key, n, ci)) (hs : st.drop n = .ref a :: rest) (ha : ∀ ss, lay ss → ∃ id fs, ss[a]? = some (.inr (id, .inr (ci, fs)))) (hroom : (rest.map fun v => v.category).sum ≤ 8) (hh : M.2.2.2.2.2.2.2.find? (fun h => decide (h.1 ≤ pc) && decide (pc < h.2.1)) = some hd) (h13 : hd.2.2.2.2 = 13) (hcat : ∀ ss V', ai_Rn none ai_P0 d M (hd.2.2.1, L, [.ref ss.length], ax_w (ss ++ [ax_ex]) V') (τ ss, ax_w (ss ++ [ax_ex]) V')) (hp : pc + 3 = pc') (hc : ax_I lay d key (.ref a :: (st.take n).reverse) V Ψ Θ) (h : ∀ x V1, ax_g V1 → ax_rg x → Ψ x V1 → ax_R lay τ d M pc' L (ax_i x :: rest) V1 Φ Θ) : ax_R lay τ d M pc L st V Φ Θ := by
  subst hp
  rcases hc with ⟨r, V1, c1, c2, ⟨x, rfl, c3, c4⟩, c5⟩ | ⟨V1, c2, c3, c5⟩
  · refine ax_R.go (fun ss hss r hr => ?_) (h x V1 c2 c3 c4)
    obtain ⟨id, fs, h9⟩ := ha ss hss
    exact ai_Rn.callv hf hl hs (ax_w_get h9) hroom c1 (c5 ss hss) hr
  · refine Or.inr ⟨V1, c2, c3, fun ss hss => ?_⟩
    obtain ⟨id, fs, h9⟩ := ha ss hss
    exact ai_Rn.callC hf hl hs (ax_w_get h9) hroom hh (z' := ax_w (ss ++ [ax_ex]) V1) (a := ss.length) (fs' := List.replicate 6 .null) (by rw [h13]; unfold ax_w; simp [ax_ex, ax_c]) (c5 ss hss) (hcat ss V1)
theorem ax_callNC {Ψ : ax_V → Prop} {idx key n ci a : Nat} {rest : List Value} {hd : ai_Hd} (hf : ai_In M pc (.invokevirtual idx)) (hl : ai_P0.2.2.2.1 M.2.2.2.2.1 idx = some (0, key, n, ci)) (hs : st.drop n = .ref a :: rest) (ha : ∀ ss, lay ss → ∃ id fs, ss[a]? = some (.inr (id, .inr (ci, fs)))) (hroom : (rest.map fun v => v.category).sum ≤ 8) (hh : M.2.2.2.2.2.2.2.find? (fun h => decide (h.1 ≤ pc) && decide (pc < h.2.1)) = some hd) (h13 : hd.2.2.2.2 = 13) (hcat : ∀ ss V', ai_Rn none ai_P0 d M (hd.2.2.1, L, [.ref ss.length], ax_w (ss ++ [ax_ex]) V') (τ ss, ax_w (ss ++ [ax_ex]) V')) (hp : pc + 3 = pc') (hc : ax_N lay d key (.ref a :: (st.take n).reverse) V Ψ Θ) (h : ∀ V1, ax_g V1 → Ψ V1 → ax_R lay τ d M pc' L rest V1 Φ Θ) : ax_R lay τ d M pc L st V Φ Θ := by
  subst hp
  rcases hc with ⟨r, V1, c1, c2, ⟨rfl, c4⟩, c5⟩ | ⟨V1, c2, c3, c5⟩
  · refine ax_R.go (fun ss hss r hr => ?_) (h V1 c2 c4)
    obtain ⟨id, fs, h9⟩ := ha ss hss
    exact ai_Rn.callv hf hl hs (ax_w_get h9) hroom c1 (c5 ss hss) hr
  · refine Or.inr ⟨V1, c2, c3, fun ss hss => ?_⟩
    obtain ⟨id, fs, h9⟩ := ha ss hss
    exact ai_Rn.callC hf hl hs (ax_w_get h9) hroom hh (z' := ax_w (ss ++ [ax_ex]) V1) (a := ss.length) (fs' := List.replicate 6 .null) (by rw [h13]; unfold ax_w; simp [ax_ex, ax_c]) (c5 ss hss) (hcat ss V1)
/-- Math.min, Math.max -/
theorem ax_min {idx k1 k2 k3 : Nat} {x y : Int} (hf : ai_In M pc (.invokestatic idx)) (hl : ai_P0.2.2.2.1 M.2.2.2.2.1 idx = some (6, k1, k2, k3)) (hx : ax_rg x) (hy : ax_rg y) (hroom : (st.map fun v => v.category).sum ≤ 8) (hp : pc + 3 = pc') (h : ax_R lay τ d M pc' L (ax_i (if y < x then y else x) :: st) V Φ Θ) : ax_R lay τ d M pc L (ax_i y :: ax_i x :: st) V Φ Θ := by
  subst hp
  refine ax_R.go (fun ss hss r hr => ?_) h
  refine ai_Rn.step (fun call => ?_) hr
  obtain ⟨n, hf⟩ := hf
  have e : ai_mm (fun x y => if y < x then y else x) (ax_i y :: ax_i x :: st) (ax_w ss V) pc = some (pc + 3, ax_i (if y < x then y else x) :: st, ax_w ss V) := by
    show (if (st.map fun v => v.category).sum ≤ 8 then some (pc + 3, Value.int (if Int32.ofInt y < Int32.ofInt x then Int32.ofInt y else Int32.ofInt x) :: st, ax_w ss V) else none) = _
    rw [if_pos hroom]
    simp only [ax_lt hy hx]
    by_cases q : y < x
    · simp [q, ax_i]
    · simp [q, ax_i]
  unfold ai_step
  simp only [hf, ai_fam, ai_inv, hl, e]
theorem ax_max {idx k1 k2 k3 : Nat} {x y : Int} (hf : ai_In M pc (.invokestatic idx)) (hl : ai_P0.2.2.2.1 M.2.2.2.2.1 idx = some (7, k1, k2, k3)) (hx : ax_rg x) (hy : ax_rg y) (hroom : (st.map fun v => v.category).sum ≤ 8) (hp : pc + 3 = pc') (h : ax_R lay τ d M pc' L (ax_i (if x < y then y else x) :: st) V Φ Θ) : ax_R lay τ d M pc L (ax_i y :: ax_i x :: st) V Φ Θ := by
  subst hp
  refine ax_R.go (fun ss hss r hr => ?_) h
  refine ai_Rn.step (fun call => ?_) hr
  obtain ⟨n, hf⟩ := hf
  have e : ai_mm (fun x y => if x < y then y else x) (ax_i y :: ax_i x :: st) (ax_w ss V) pc = some (pc + 3, ax_i (if x < y then y else x) :: st, ax_w ss V) := by
    show (if (st.map fun v => v.category).sum ≤ 8 then some (pc + 3, Value.int (if Int32.ofInt x < Int32.ofInt y then Int32.ofInt y else Int32.ofInt x) :: st, ax_w ss V) else none) = _
    rw [if_pos hroom]
    simp only [ax_lt hx hy]
    by_cases q : x < y
    · simp [q, ax_i]
    · simp [q, ax_i]
  unfold ai_step
  simp only [hf, ai_fam, ai_inv, hl, e]
theorem ax_cp_g {s t : Nat} {sp tp n : Int} (h : ax_g V) : ax_g (ax_cp V s t sp tp n) := by
  intro c j
  unfold ax_cp
  split
  · exact h _ _
  · exact h _ _
/-- System.arraycopy -/
theorem ax_acp {idx k1 k2 k3 a b ida idb na nb : Nat} {sp tp n : Int} (hf : ai_In M pc (.invokestatic idx)) (hl : ai_P0.2.2.2.1 M.2.2.2.2.1 idx = some (5, k1, k2, k3)) (hok : ∀ ss, lay ss → ax_ok ss) (hb : ∀ ss, lay ss → ss[b]? = some (.inr (idb, .inl (0, nb)))) (ha : ∀ ss, lay ss → ss[a]? = some (.inr (ida, .inl (0, na)))) (hna : na ≤ 1000000) (hnb : nb ≤ 1000000) (h0 : 0 ≤ sp ∧ 0 ≤ tp ∧ 0 ≤ n ∧ sp + n ≤ (nb : Int) ∧ tp + n ≤ (na : Int)) (hroom : (st.map fun v => v.category).sum ≤ 8) (hV : V1 = ax_cp V idb ida sp tp n) (hp : pc + 3 = pc') (h : ax_R lay τ d M pc' L st V1 Φ Θ) : ax_R lay τ d M pc L (ax_i n :: ax_i tp :: .ref a :: ax_i sp :: .ref b :: st) V Φ Θ := by
  subst hp hV
  obtain ⟨q1, q2, q3, q4, q5⟩ := h0
  refine ax_R.go (fun ss hss r hr => ?_) h
  refine ai_Rn.step (fun call => ?_) hr
  obtain ⟨m, hf⟩ := hf
  have rs : ax_rg sp := ⟨by omega, by omega⟩
  have rt : ax_rg tp := ⟨by omega, by omega⟩
  have rn : ax_rg n := ⟨by omega, by omega⟩
  have z : ax_rg 0 := by decide
  have e0 : (0 : Int32) = Int32.ofInt 0 := rfl
  have e : ai_cpy (ax_i n :: ax_i tp :: .ref a :: ax_i sp :: .ref b :: st) (ax_w ss V) pc = some (pc + 3, st, ax_w ss (ax_cp V idb ida sp tp n)) := by
    have gb : (ax_w ss V)[b]? = some (.inl (0, nb, .inl (fun j => Int32.ofInt (V idb (j : Int))))) := ax_w_get (hb ss hss)
    have ga : (ax_w ss V)[a]? = some (.inl (0, na, .inl (fun j => Int32.ofInt (V ida (j : Int))))) := ax_w_get (ha ss hss)
    show ai_cpy (.int (Int32.ofInt n) :: .int (Int32.ofInt tp) :: .ref a :: .int (Int32.ofInt sp) :: .ref b :: st) (ax_w ss V) pc = _
    unfold ai_cpy
    simp only [ga, gb]
    rw [if_pos ⟨trivial, trivial, by rw [e0, ax_lt rs z]; omega, by rw [e0, ax_lt rt z]; omega, by rw [e0, ax_lt rn z]; omega, by rw [ax_toNat rs, ax_toNat rn]; omega, by rw [ax_toNat rt, ax_toNat rn]; omega, hroom⟩]
    rw [ax_toNat rs, ax_toNat rt, ax_toNat rn]
    have e1 : va_cpy (fun j => Int32.ofInt (V idb (j : Int))) (fun j => Int32.ofInt (V ida (j : Int))) sp.toNat tp.toNat n.toNat = fun j : Nat => Int32.ofInt (ax_cp V idb ida sp tp n ida (j : Int)) := by
      funext j
      unfold va_cpy ax_cp
      by_cases hj : tp.toNat ≤ j ∧ j < tp.toNat + n.toNat
      · rw [if_pos hj, if_pos ⟨rfl, by omega, by omega⟩]
        have : ((sp.toNat + (j - tp.toNat) : Nat) : Int) = sp + ((j : Int) - tp) := by omega
        show Int32.ofInt (V idb ((sp.toNat + (j - tp.toNat) : Nat) : Int)) = _
        rw [this]
      · rw [if_neg hj, if_neg (fun q => hj ⟨by omega, by omega⟩)]
    rw [e1]
    have e2 : (ax_w ss V).set a (.inl (0, na, .inl (fun j : Nat => Int32.ofInt (ax_cp V idb ida sp tp n ida (j : Int))))) = ax_w ss (ax_cp V idb ida sp tp n) := ax_w_set (V := V) (V' := ax_cp V idb ida sp tp n) (hok ss hss) (ha ss hss) (fun c hc => by funext j; unfold ax_cp; rw [if_neg (fun q => hc q.1)])
    rw [e2]
  unfold ai_step
  simp only [hf, ai_fam, ai_inv, hl, e]
end AxRules
