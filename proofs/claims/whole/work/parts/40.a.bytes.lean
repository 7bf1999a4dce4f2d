/-! type: the bytes of a long -/
def y_bv (a : Int64) (i : Int) : Int32 := (a.toUInt64 >>> ((Int32.ofInt (8 * i)).toInt64.toUInt64 &&& Int64.toUInt64 63)).toInt64.toInt32 &&& Int32.ofInt 255
def y_by (a : Int64) (i : Int) : Int := (y_bv a i).toInt
def y_mv (a : Int64) (i : Int) : Int32 := ((a >>> ((Int32.ofInt (8 * i)).toInt64 &&& 63)) &&& 255).toInt32
theorem y_by_i (a : Int64) (i : Int) : ax_i (y_by a i) = .int (y_bv a i) := by
  unfold ax_i y_by
  rw [Int32.ofInt_toInt]
theorem y_by_g (a : Int64) (i : Int) : ax_rg (y_by a i) := ax_rg_of _
theorem y_bits (x : BitVec 64) (k : Nat) (hk : k ≤ 56) : (x >>> k).signExtend 32 &&& 255#32 = ((x.sshiftRight k) &&& 255#64).signExtend 32 := by
  apply BitVec.eq_of_getLsbD_eq
  intro j hj
  have h2 : j < 64 := by omega
  by_cases h8 : j < 8
  · have h1 : k + j < 64 := by omega
    have n64 : decide (64 ≤ j) = false := decide_eq_false (by omega)
    have d32 : decide (j < 32) = true := decide_eq_true hj
    have d64 : decide (j < 64) = true := decide_eq_true h2
    rw [BitVec.getLsbD_and, BitVec.getLsbD_signExtend, if_pos h2, BitVec.getLsbD_ushiftRight, BitVec.getLsbD_signExtend, if_pos h2, BitVec.getLsbD_and, BitVec.getLsbD_sshiftRight, if_pos h1, BitVec.getLsbD_ofNat, BitVec.getLsbD_ofNat]
    simp only [n64, d32, d64, Bool.not_false, Bool.true_and]
  · have tb : Nat.testBit 255 j = false := Nat.testBit_lt_two_pow (Nat.lt_of_lt_of_le (show 255 < 2 ^ 8 by decide) (Nat.pow_le_pow_right (by decide) (by omega)))
    have t1 : (255#32).getLsbD j = false := by rw [BitVec.getLsbD_ofNat, tb, Bool.and_false]
    have t2 : (255#64).getLsbD j = false := by rw [BitVec.getLsbD_ofNat, tb, Bool.and_false]
    rw [BitVec.getLsbD_and, t1, Bool.and_false, BitVec.getLsbD_signExtend, if_pos h2, BitVec.getLsbD_and, t2, Bool.and_false, Bool.and_false]
theorem y_mv_e {a : Int64} {i : Int} (h : 0 ≤ i ∧ i < 8) : y_mv a i = y_bv a i := by
  have c : i = 0 ∨ i = 1 ∨ i = 2 ∨ i = 3 ∨ i = 4 ∨ i = 5 ∨ i = 6 ∨ i = 7 := by omega
  rcases c with rfl | rfl | rfl | rfl | rfl | rfl | rfl | rfl
  · exact Int32.toBitVec_inj.mp (y_bits a.toBitVec 0 (by decide)).symm
  · exact Int32.toBitVec_inj.mp (y_bits a.toBitVec 8 (by decide)).symm
  · exact Int32.toBitVec_inj.mp (y_bits a.toBitVec 16 (by decide)).symm
  · exact Int32.toBitVec_inj.mp (y_bits a.toBitVec 24 (by decide)).symm
  · exact Int32.toBitVec_inj.mp (y_bits a.toBitVec 32 (by decide)).symm
  · exact Int32.toBitVec_inj.mp (y_bits a.toBitVec 40 (by decide)).symm
  · exact Int32.toBitVec_inj.mp (y_bits a.toBitVec 48 (by decide)).symm
  · exact Int32.toBitVec_inj.mp (y_bits a.toBitVec 56 (by decide)).symm
theorem y_ch_t : ∀ x : Fin 127, ((Int32.ofInt ((x : Nat) : Int)).toUInt32 % 65536).toInt32 = Int32.ofInt ((x : Nat) : Int) ∧ vp_nar .char (Int32.ofInt ((x : Nat) : Int)) = Int32.ofInt ((x : Nat) : Int) := by decide +kernel
theorem y_ch {b : Int} (h : 0 ≤ b ∧ b ≤ 126) : ((Int32.ofInt b).toUInt32 % 65536).toInt32 = Int32.ofInt b ∧ vp_nar .char (Int32.ofInt b) = Int32.ofInt b := by
  have u := y_ch_t ⟨b.toNat, by omega⟩
  have e : (((⟨b.toNat, by omega⟩ : Fin 127) : Nat) : Int) = b := by show ((b.toNat : Nat) : Int) = b; omega
  rw [e] at u
  exact u
/-- k bytes of n are there, from L on -/
def y_ap (V : ax_V) (c c0 : Nat) (L n : Int) (a : Int64) (k : Int) : ax_V := fun x i => if x = c ∧ L ≤ i ∧ i < L + k then y_by a (n - 1 - (i - L)) else if x = c0 ∧ i = 1 then L + k else V x i
section Bytes
variable {V : ax_V} {c c0 : Nat} {L n k : Int} {a : Int64}
theorem y_ap_0 (h : V c0 1 = L) : y_ap V c c0 L n a 0 = V := by
  funext x i
  show (if x = c ∧ L ≤ i ∧ i < L + 0 then y_by a (n - 1 - (i - L)) else if x = c0 ∧ i = 1 then L + 0 else V x i) = V x i
  rw [if_neg (by omega)]
  by_cases z : x = c0 ∧ i = 1
  · rw [if_pos z, z.1, z.2, h]; omega
  · rw [if_neg z]
theorem y_ap_s (ne : ¬ c = c0) (k0 : 0 ≤ k) : ax_u (ax_u (y_ap V c c0 L n a k) c (L + k) (y_by a (n - 1 - k))) c0 1 (L + k + 1) = y_ap V c c0 L n a (k + 1) := by
  funext x i
  by_cases z : x = c0 ∧ i = 1
  · rw [z.1, z.2, ax_u_s]
    show L + k + 1 = (if c0 = c ∧ L ≤ 1 ∧ 1 < L + (k + 1) then y_by a (n - 1 - (1 - L)) else if c0 = c0 ∧ (1 : Int) = 1 then L + (k + 1) else V c0 1)
    rw [if_neg (fun y => ne y.1.symm), if_pos ⟨rfl, rfl⟩]
    omega
  · rw [ax_u_o z]
    by_cases y : x = c ∧ i = L + k
    · rw [y.1, y.2, ax_u_s]
      show _ = (if c = c ∧ L ≤ L + k ∧ L + k < L + (k + 1) then y_by a (n - 1 - (L + k - L)) else if c = c0 ∧ L + k = 1 then L + (k + 1) else V c (L + k))
      rw [if_pos ⟨rfl, by omega, by omega⟩, show n - 1 - (L + k - L) = n - 1 - k by omega]
    · rw [ax_u_o y]
      show (if x = c ∧ L ≤ i ∧ i < L + k then y_by a (n - 1 - (i - L)) else if x = c0 ∧ i = 1 then L + k else V x i) = (if x = c ∧ L ≤ i ∧ i < L + (k + 1) then y_by a (n - 1 - (i - L)) else if x = c0 ∧ i = 1 then L + (k + 1) else V x i)
      rw [if_neg z, if_neg z]
      by_cases q : x = c ∧ L ≤ i ∧ i < L + k
      · rw [if_pos q, if_pos ⟨q.1, q.2.1, by omega⟩]
      · rw [if_neg q, if_neg (fun u => q ⟨u.1, u.2.1, by
          have : ¬ i = L + k := fun e => y ⟨u.1, e⟩
          omega⟩)]
theorem y_ap_1 (ne : ¬ c = c0) : y_ap V c c0 L n a k c0 1 = L + k := by
  show (if c0 = c ∧ L ≤ 1 ∧ 1 < L + k then y_by a (n - 1 - (1 - L)) else if c0 = c0 ∧ (1 : Int) = 1 then L + k else V c0 1) = L + k
  rw [if_neg (fun y => ne y.1.symm), if_pos ⟨rfl, rfl⟩]
theorem y_ap_c {x : Nat} (h1 : ¬ x = c) (h2 : ¬ x = c0) : y_ap V c c0 L n a k x = V x := by
  funext i
  show (if x = c ∧ L ≤ i ∧ i < L + k then y_by a (n - 1 - (i - L)) else if x = c0 ∧ i = 1 then L + k else V x i) = V x i
  rw [if_neg (fun y => h1 y.1), if_neg (fun y => h2 y.1)]
theorem y_ap_j {i : Int} (ne : ¬ c = c0) (h : ¬ i = 1) : y_ap V c c0 L n a k c0 i = V c0 i := by
  show (if c0 = c ∧ L ≤ i ∧ i < L + k then y_by a (n - 1 - (i - L)) else if c0 = c0 ∧ i = 1 then L + k else V c0 i) = V c0 i
  rw [if_neg (fun y => ne y.1.symm), if_neg (fun y => h y.2)]
theorem y_ap_i {i : Int} (h : L ≤ i ∧ i < L + k) : y_ap V c c0 L n a k c i = y_by a (n - 1 - (i - L)) := if_pos ⟨rfl, h.1, h.2⟩
theorem y_ap_o {i : Int} (ne : ¬ c = c0) (h : ¬ (L ≤ i ∧ i < L + k)) : y_ap V c c0 L n a k c i = V c i := by
  show (if c = c ∧ L ≤ i ∧ i < L + k then y_by a (n - 1 - (i - L)) else if c = c0 ∧ i = 1 then L + k else V c i) = V c i
  rw [if_neg (fun y => h y.2), if_neg (fun y => ne y.1)]
theorem y_ap_g (hg : ax_g V) (h : 0 ≤ L ∧ L ≤ 700) (hk : 0 ≤ k ∧ k ≤ 8) : ax_g (y_ap V c c0 L n a k) := fun x i => by
  unfold y_ap
  split
  · exact y_by_g _ _
  · split
    · exact ⟨by omega, by omega⟩
    · exact hg _ _
end Bytes
section GrowT
variable {ss : List ax_S} {d : Nat} {M : ai_M} {pc pc' : Nat} {L L' : List (Option Value)} {st st' : List Value} {V V1 : ax_V} {Q Q' : Option Value → List va_E → Prop}
theorem ax_Q.inc {k : Nat} {n x : Int} (hf : ai_In M pc (.iinc k n)) (hx : L[k]? = some (some (ax_i x))) (hk : ai_kill L k = L) (hL : L.set k (some (ax_i (x + n))) = L') (hp : pc + 3 = pc') (h : ax_Q ss d M pc' L' st V Q) : ax_Q ss d M pc L st V Q := by
  subst hp hL
  refine ax_Q.sim hf rfl ?_ h
  show ai_inc L k n pc st = _
  unfold ai_inc
  rw [hx, hk]
  show some (pc + 3, L.set k (some (.int (Int32.ofInt x + Int32.ofInt n))), st) = _
  rw [← Int32.ofInt_add]
  rfl
theorem ax_Q.ldl {idx : Nat} {v : Int64} (hf : ai_In M pc (.ldc2_w idx)) (hl : ai_P0.2.2.2.2.2 M.2.2.2.2.1 idx = some (.long v)) (hp : pc + 3 = pc') (h : ax_Q ss d M pc' L (.long v :: st) V Q) : ax_Q ss d M pc L st V Q := by
  subst hp
  refine ax_Q.go (fun r hr => ?_) h
  refine ai_Rn.world hf rfl ?_ hr
  show ai_ldk _ idx 4 pc st _ = _
  unfold ai_ldk
  rw [hl]
  rfl
theorem ax_Q.ist {a id n : Nat} {i x : Int} (hf : ai_In M pc .iastore) (hok : ax_ok ss) (hs : ss[a]? = some (.inr (id, .inl (0, n)))) (hn : n ≤ 2147483647) (hi : 0 ≤ i ∧ i < (n : Int)) (hV : V1 = ax_u V id i x) (hp : pc + 1 = pc') (h : ax_Q ss d M pc' L st V1 Q) : ax_Q ss d M pc L (ax_i x :: ax_i i :: .ref a :: st) V Q := by
  subst hp hV
  refine ax_Q.go (fun r hr => ?_) h
  refine ai_Rn.iast hf (ax_w_get hs) (ax_in hi hn) ?_
  rw [ax_upd (V := V) (id := id) (x := x) hi.1 (by omega)]
  have e2 : (ax_w ss V).set a (.inl (0, n, .inl (fun j : Nat => Int32.ofInt (ax_u V id i x id (j : Int))))) = ax_w ss (ax_u V id i x) := ax_w_set (V := V) (V' := ax_u V id i x) hok hs (fun c hc => ax_u_ne hc)
  rw [e2]
  exact hr
end GrowT
theorem t_byteOf {ss : List ax_S} {d : Nat} {V : ax_V} {a : Int64} {i : Int} : ai_Ex ai_P0 (d + 1) q_House_byteOf [.long a, ax_i i] (ax_w ss V) (some (ax_i (y_by a i)), ax_w ss V) := by
  obtain ⟨r, z, ⟨e1, e2⟩, ex⟩ : ax_E ss (d + 1) q_House_byteOf [.long a, ax_i i] V (fun r z => r = some (ax_i (y_by a i)) ∧ z = ax_w ss V) := by
    refine ax_E.of (M := m_House_byteOf) rfl (Nat.le_of_ble_eq_true rfl) ?_
    show ax_Q ss d m_House_byteOf 0 [some (.long a), none, some (ax_i i)] [] V _
    refine ax_Q.mv 1 1 [some (.long a), none, some (ax_i i)] [.long a] rfl ?_
    refine ax_Q.bip (n := 8) (pc' := 3) ⟨_, rfl⟩ (by decide) rfl ?_
    refine ax_Q.mv 1 4 [some (.long a), none, some (ax_i i)] [ax_i i, ax_i 8, .long a] rfl ?_
    refine ax_Q.mul (pc' := 5) ⟨_, rfl⟩ rfl ?_
    refine ax_Q.sim (pc' := 6) (st' := [.long (a.toUInt64 >>> ((Int32.ofInt (8 * i)).toInt64.toUInt64 &&& Int64.toUInt64 63)).toInt64]) ⟨_, rfl⟩ rfl rfl ?_
    refine ax_Q.sim (pc' := 7) (st' := [.int (a.toUInt64 >>> ((Int32.ofInt (8 * i)).toInt64.toUInt64 &&& Int64.toUInt64 63)).toInt64.toInt32]) ⟨_, rfl⟩ rfl rfl ?_
    refine ax_Q.sip (n := 255) (pc' := 10) ⟨_, rfl⟩ (by decide) rfl ?_
    refine ax_Q.sim (pc' := 11) (st' := [.int (y_bv a i)]) ⟨_, rfl⟩ rfl rfl ?_
    rw [← y_by_i]
    exact ax_Q.iret ⟨_, rfl⟩ rfl rfl ⟨rfl, rfl⟩
  rw [e1, e2] at ex
  exact ex
