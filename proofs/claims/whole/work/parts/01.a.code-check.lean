/-- how many bytes an instruction takes (switches: any) -/
def ai_lk (i : Instr) (len : Nat) : Bool := match i with
  | .iload _ => len == 2 | .istore _ => len == 2 | .aload _ => len == 2 | .astore _ => len == 2 | .lload _ => len == 2 | .lstore _ => len == 2
  | .bipush _ => len == 2 | .ldc _ => len == 2 | .newarray _ => len == 2
  | .sipush _ => len == 3 | .ifCond _ _ => len == 3 | .if_icmp _ _ => len == 3 | .goto _ => len == 3 | .ifnull _ => len == 3 | .ifnonnull _ => len == 3 | .iinc _ _ => len == 3
  | .getfield _ => len == 3 | .putfield _ => len == 3 | .invokevirtual _ => len == 3 | .invokespecial _ => len == 3 | .invokestatic _ => len == 3 | .new _ => len == 3 | .anewarray _ => len == 3
  | .ldc_w _ => len == 3 | .ldc2_w _ => len == 3 | .getstatic _ => len == 3 | .putstatic _ => len == 3 | .checkcast _ => len == 3 | .instanceof _ => len == 3 | .if_acmp _ _ => len == 3
  | .tableswitch .. => true | .lookupswitch .. => true
  | _ => len == 1
/-- the instructions are those of the bytes -/
def ai_ckI (b : ByteArray) (t : List (Nat × Instr × Nat)) : Bool := t.all (fun q => (match decode b q.1 with
  | .ok (i, n) => decide (i = q.2.1) && n == q.2.2
  | .error _ => false) && ai_lk q.2.1 q.2.2)
theorem ai_ckI_of {b : ByteArray} {t : List (Nat × Instr × Nat)} (h : ai_ckI b t = true) : ∀ q ∈ t, decode b q.1 = .ok (q.2.1, q.2.2) ∧ ai_lk q.2.1 q.2.2 = true := by
  intro q hq
  have h1 := List.all_eq_true.mp h q hq
  simp only [Bool.and_eq_true] at h1
  obtain ⟨h1, h2⟩ := h1
  refine ⟨?_, h2⟩
  split at h1
  · next i n he =>
    simp only [Bool.and_eq_true, decide_eq_true_eq, beq_iff_eq] at h1
    rw [he, h1.1, h1.2]
  · cases h1
theorem ai_ckI_app {b : ByteArray} {t1 t2 : List (Nat × Instr × Nat)} (h1 : ai_ckI b t1 = true) (h2 : ai_ckI b t2 = true) : ai_ckI b (t1 ++ t2) = true := by
  unfold ai_ckI at *
  rw [List.all_append, h1, h2]
  rfl
