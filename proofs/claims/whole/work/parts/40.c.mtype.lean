/-! Model.type; type on both sides -/
theorem fk_12_285 : ai_P0.2.1 12 285 = some (12, 0, .int, false) := rfl
theorem fk_12_289 : ai_P0.2.1 12 289 = some (12, 1, .int, false) := rfl
theorem fk_12_7 : ai_P0.2.1 12 7 = some (12, 2, (.array .int), true) := rfl
theorem ck_12_292 : ai_P0.2.2.2.2.2 12 292 = some (.long 255) := rfl
section MType
variable {B Sp w nw d : Nat} {m p : Value} {ss : List ax_S} {V C N : ax_V} {a : Int64} {n T T' : Int}
/-- one byte, as the model takes it: from lload to l2i -/
theorem s_byte {Q : Option Value → List va_E → Prop} {L : List (Option Value)} {st : List Value} {i : Int} {p0 : Nat} (hi : 0 ≤ i ∧ i < 8) (m1 : ai_mv m_Model_type 1 (p0, L, st) = some (p0 + 1, L, .long a :: st)) (m2 : ai_In m_Model_type (p0 + 1) (.bipush 8)) (m3 : ai_mv m_Model_type 1 (p0 + 3, L, ax_i 8 :: .long a :: st) = some (p0 + 5, L, ax_i i :: ax_i 8 :: .long a :: st)) (m4 : ai_In m_Model_type (p0 + 5) .imul) (m5 : ai_In m_Model_type (p0 + 6) .lshr) (m6 : ai_In m_Model_type (p0 + 7) (.ldc2_w 292)) (m7 : ai_In m_Model_type (p0 + 10) .land) (m8 : ai_In m_Model_type (p0 + 11) .l2i) (k : ax_Q ss d m_Model_type (p0 + 12) L (ax_i (y_by a i) :: st) V Q) : ax_Q ss d m_Model_type p0 L st V Q := by
  refine ax_Q.mv 1 (p0 + 1) L (.long a :: st) m1 ?_
  refine ax_Q.bip (n := 8) (pc' := p0 + 3) m2 (by decide) rfl ?_
  refine ax_Q.mv 1 (p0 + 5) L (ax_i i :: ax_i 8 :: .long a :: st) m3 ?_
  refine ax_Q.mul (pc' := p0 + 6) m4 rfl ?_
  refine ax_Q.sim (pc' := p0 + 7) (st' := .long (a >>> ((Int32.ofInt (8 * i)).toInt64 &&& 63)) :: st) m5 rfl rfl ?_
  refine ax_Q.ldl (v := 255) (pc' := p0 + 10) m6 ck_12_292 rfl ?_
  refine ax_Q.sim (pc' := p0 + 11) (st' := .long ((a >>> ((Int32.ofInt (8 * i)).toInt64 &&& 63)) &&& 255) :: st) m7 rfl rfl ?_
  refine ax_Q.sim (pc' := p0 + 12) (st' := .int (y_mv a i) :: st) m8 rfl rfl ?_
  rw [y_mv_e hi, ← y_by_i]
  exact k
set_option maxHeartbeats 1000000 in
theorem s_type2 {Q : Option Value → List va_E → Prop} (h : y_L B Sp w nw m p ss) (hl : 0 ≤ V 222 1 ∧ V 222 1 ≤ 700) (ok : y_ok a (V 222 1) n) (fin : Q (some (ax_i 1)) (ax_w ss (y_ap V 223 222 (V 222 1) n a n))) : ∀ (j : Nat) (k : Int), k + (j : Int) = n → 0 ≤ k → ∀ y5, ax_y y5 → ax_Q ss d m_Model_type 80 [some (.ref 222), some (.long a), none, some (ax_i n), some (ax_i (n - 1 - k)), y5] [] (y_ap V 223 222 (V 222 1) n a k) Q := by
  have h0 : ss[222]? = some (.inr (222, .inr (12, ay_fs))) := h.2.2.2.2.2 0 _ rfl
  have h1 : ss[223]? = some (.inr (223, .inl (0, 700))) := h.2.2.2.2.2 1 _ rfl
  obtain ⟨⟨n1, n2, n3⟩, bo⟩ := ok
  obtain ⟨L, eL⟩ : ∃ L : Int, L = V 222 1 := ⟨_, rfl⟩
  rw [← eL] at fin hl n3 ⊢
  intro j
  induction j with
  | zero =>
    intro k hk k0 y5 h5
    have ek : k = n := by omega
    rw [ek]
    refine ax_Q.mv 1 82 [some (.ref 222), some (.long a), none, some (ax_i n), some (ax_i (n - 1 - n)), y5] [ax_i (n - 1 - n)] rfl ?_
    refine ax_Q.if1 (p1 := 122) (p2 := 85) ⟨_, rfl⟩ (by decide) rfl ⟨by omega, by omega⟩ (fun _ => ?_) (fun hq => absurd (show n - 1 - n < 0 by omega) hq)
    refine ax_Q.mv 1 123 [some (.ref 222), some (.long a), none, some (ax_i n), some (ax_i (n - 1 - n)), y5] [ax_i 1] rfl ?_
    exact ax_Q.iret ⟨_, rfl⟩ rfl (by decide) fin
  | succ j ih =>
    intro k hk k0 y5 h5
    have kn : k < n := by omega
    obtain ⟨X, eX⟩ : ∃ X : ax_V, X = y_ap V 223 222 L n a k := ⟨_, rfl⟩
    rw [← eX]
    have x1 : X 222 1 = L + k := by rw [eX]; exact y_ap_1 (by decide)
    obtain ⟨i, ei⟩ : ∃ i : Int, i = n - 1 - k := ⟨_, rfl⟩
    rw [← ei]
    refine ax_Q.mv 1 82 [some (.ref 222), some (.long a), none, some (ax_i n), some (ax_i i), y5] [ax_i i] rfl ?_
    refine ax_Q.if1 (p1 := 122) (p2 := 85) ⟨_, rfl⟩ (by decide) rfl ⟨by omega, by omega⟩ (fun hq => absurd (show i < 0 from hq) (by omega)) (fun _ => ?_)
    refine ax_Q.mv 1 86 [some (.ref 222), some (.long a), none, some (ax_i n), some (ax_i i), y5] [.ref 222] rfl ?_
    refine ax_Q.gR (v := .ref 223) (pc' := 89) ⟨_, rfl⟩ fk_12_7 h0 rfl rfl ?_
    refine ax_Q.mv 1 90 [some (.ref 222), some (.long a), none, some (ax_i n), some (ax_i i), y5] [.ref 222, .ref 223] rfl ?_
    refine ax_Q.gI (kI := 1) (pc' := 93) ⟨_, rfl⟩ fk_12_289 h0 rfl rfl rfl ?_
    rw [x1]
    refine s_byte (p0 := 93) (i := i) ⟨by omega, by omega⟩ rfl ⟨_, rfl⟩ rfl ⟨_, rfl⟩ ⟨_, rfl⟩ ⟨_, rfl⟩ ⟨_, rfl⟩ ⟨_, rfl⟩ ?_
    obtain ⟨X1, e1⟩ : ∃ X1 : ax_V, X1 = ax_u X 223 (L + k) (y_by a i) := ⟨_, rfl⟩
    refine ax_Q.ist (id := 223) (n := 700) (pc' := 106) ⟨_, rfl⟩ h.1 h1 (by decide) ⟨by omega, by omega⟩ e1 rfl ?_
    have x2 : X1 222 1 = L + k := by rw [e1, ax_u_ne (by decide)]; exact x1
    refine ax_Q.mv 2 108 [some (.ref 222), some (.long a), none, some (ax_i n), some (ax_i i), y5] [.ref 222, .ref 222] rfl ?_
    refine ax_Q.gI (kI := 1) (pc' := 111) ⟨_, rfl⟩ fk_12_289 h0 rfl rfl rfl ?_
    rw [x2]
    refine ax_Q.mv 1 112 [some (.ref 222), some (.long a), none, some (ax_i n), some (ax_i i), y5] [ax_i 1, ax_i (L + k), .ref 222] rfl ?_
    refine ax_Q.add (pc' := 113) ⟨_, rfl⟩ rfl ?_
    obtain ⟨X2, e2⟩ : ∃ X2 : ax_V, X2 = ax_u X1 222 1 (L + k + 1) := ⟨_, rfl⟩
    refine ax_Q.pI (kI := 1) (pc' := 116) ⟨_, rfl⟩ fk_12_289 h.1 h0 rfl rfl rfl rfl e2 rfl ?_
    refine ax_Q.inc (k := 4) (n := -1) (x := i) (L' := [some (.ref 222), some (.long a), none, some (ax_i n), some (ax_i (i + -1)), y5]) (pc' := 119) ⟨_, rfl⟩ rfl rfl rfl rfl ?_
    refine ax_Q.mv 1 80 [some (.ref 222), some (.long a), none, some (ax_i n), some (ax_i (i + -1)), y5] [] rfl ?_
    have e3 : X2 = y_ap V 223 222 L n a (k + 1) := by
      rw [e2, e1, eX, ei]
      exact y_ap_s (by decide) k0
    rw [e3, show i + -1 = n - 1 - (k + 1) by omega]
    exact ih (k + 1) (by omega) (by omega) y5 h5
set_option maxHeartbeats 1000000 in
theorem s_type1 {Q : Option Value → List va_E → Prop} (nb : 1 ≤ n ∧ n ≤ 8) (good : (∀ i, 0 ≤ i → i < n → 33 ≤ y_by a i ∧ y_by a i ≤ 126) → ∀ y4 y5, ax_y y4 → ax_y y5 → ax_Q ss d m_Model_type 75 [some (.ref 222), some (.long a), none, some (ax_i n), y4, y5] [] V Q) (bad : ¬ (∀ i, 0 ≤ i → i < n → 33 ≤ y_by a i ∧ y_by a i ≤ 126) → Q (some (ax_i 0)) (ax_w ss V)) : ∀ (j : Nat) (i : Int), i + (j : Int) = n → 0 ≤ i → (∀ t, 0 ≤ t → t < i → 33 ≤ y_by a t ∧ y_by a t ≤ 126) → ∀ y5, ax_y y5 → ax_Q ss d m_Model_type 33 [some (.ref 222), some (.long a), none, some (ax_i n), some (ax_i i), y5] [] V Q := by
  intro j
  induction j with
  | zero =>
    intro i hi i0 so y5 h5
    have ei : i = n := by omega
    rw [ei] at so ⊢
    refine ax_Q.mv 2 36 [some (.ref 222), some (.long a), none, some (ax_i n), some (ax_i n), y5] [ax_i n, ax_i n] rfl ?_
    refine ax_Q.if2 (p1 := 75) (p2 := 39) ⟨_, rfl⟩ (by decide) rfl ⟨by omega, by omega⟩ ⟨by omega, by omega⟩ (fun _ => good so _ _ (ax_y_i _) h5) (fun hq => absurd (Int.le_refl n) hq)
  | succ j ih =>
    intro i hi i0 so y5 h5
    have b := y_by_g a i
    have no : ¬ (33 ≤ y_by a i ∧ y_by a i ≤ 126) → ax_Q ss d m_Model_type 67 [some (.ref 222), some (.long a), none, some (ax_i n), some (ax_i i), some (ax_i (y_by a i))] [] V Q := fun z => by
      refine ax_Q.mv 1 68 [some (.ref 222), some (.long a), none, some (ax_i n), some (ax_i i), some (ax_i (y_by a i))] [ax_i 0] rfl ?_
      exact ax_Q.iret ⟨_, rfl⟩ rfl (by decide) (bad (fun y => z (y i i0 (by omega))))
    refine ax_Q.mv 2 36 [some (.ref 222), some (.long a), none, some (ax_i n), some (ax_i i), y5] [ax_i n, ax_i i] rfl ?_
    refine ax_Q.if2 (p1 := 75) (p2 := 39) ⟨_, rfl⟩ (by decide) rfl ⟨by omega, by omega⟩ ⟨by omega, by omega⟩ (fun hq => absurd (show n ≤ i from hq) (by omega)) (fun _ => ?_)
    refine s_byte (p0 := 39) (i := i) ⟨by omega, by omega⟩ rfl ⟨_, rfl⟩ rfl ⟨_, rfl⟩ ⟨_, rfl⟩ ⟨_, rfl⟩ ⟨_, rfl⟩ ⟨_, rfl⟩ ?_
    refine ax_Q.sti (k := 5) (n := 2) (L' := [some (.ref 222), some (.long a), none, some (ax_i n), some (ax_i i), some (ax_i (y_by a i))]) (pc' := 53) ⟨_, rfl⟩ rfl rfl rfl (Nat.le_of_ble_eq_true rfl) rfl rfl ?_
    refine ax_Q.mv 1 55 [some (.ref 222), some (.long a), none, some (ax_i n), some (ax_i i), some (ax_i (y_by a i))] [ax_i (y_by a i)] rfl ?_
    refine ax_Q.bip (n := 33) (pc' := 57) ⟨_, rfl⟩ (by decide) rfl ?_
    refine ax_Q.if2 (p1 := 67) (p2 := 60) ⟨_, rfl⟩ (by decide) rfl b (by decide) (fun hq => no (fun z => by have hq' : y_by a i < 33 := hq; omega)) (fun hq => ?_)
    have q1 : ¬ y_by a i < 33 := hq
    refine ax_Q.mv 1 62 [some (.ref 222), some (.long a), none, some (ax_i n), some (ax_i i), some (ax_i (y_by a i))] [ax_i (y_by a i)] rfl ?_
    refine ax_Q.bip (n := 126) (pc' := 64) ⟨_, rfl⟩ (by decide) rfl ?_
    refine ax_Q.if2 (p1 := 69) (p2 := 67) ⟨_, rfl⟩ (by decide) rfl b (by decide) (fun hq => ?_) (fun hq => no (fun z => hq z.2))
    have q2 : y_by a i ≤ 126 := hq
    refine ax_Q.inc (k := 4) (n := 1) (x := i) (L' := [some (.ref 222), some (.long a), none, some (ax_i n), some (ax_i (i + 1)), some (ax_i (y_by a i))]) (pc' := 72) ⟨_, rfl⟩ rfl rfl rfl rfl ?_
    refine ax_Q.mv 1 33 [some (.ref 222), some (.long a), none, some (ax_i n), some (ax_i (i + 1)), some (ax_i (y_by a i))] [] rfl ?_
    refine ih (i + 1) (by omega) (by omega) (fun t t0 t1 => ?_) _ (ax_y_i _)
    by_cases e : t = i
    · rw [e]; exact ⟨by omega, q2⟩
    · exact so t t0 (by omega)
set_option maxHeartbeats 1000000 in
theorem s_typeM (h : y_L B Sp w nw m p ss) (hl : 0 ≤ V 222 1 ∧ V 222 1 ≤ 700) (rn : ax_rg n) : ax_E ss (d + 1) q_Model_type [.ref 222, .long a, ax_i n] V (fun res z => (y_ok a (V 222 1) n ∧ res = some (ax_i 1) ∧ z = ax_w ss (y_ap (ax_u V 222 0 0) 223 222 (V 222 1) n a n)) ∨ (¬ y_ok a (V 222 1) n ∧ res = some (ax_i 0) ∧ z = ax_w ss (ax_u V 222 0 0))) := by
  obtain ⟨Q, eQ⟩ : ∃ Q : Option Value → List va_E → Prop, Q = (fun res z => (y_ok a (V 222 1) n ∧ res = some (ax_i 1) ∧ z = ax_w ss (y_ap (ax_u V 222 0 0) 223 222 (V 222 1) n a n)) ∨ (¬ y_ok a (V 222 1) n ∧ res = some (ax_i 0) ∧ z = ax_w ss (ax_u V 222 0 0))) := ⟨_, rfl⟩
  rw [← eQ]
  have h0 : ss[222]? = some (.inr (222, .inr (12, ay_fs))) := h.2.2.2.2.2 0 _ rfl
  obtain ⟨V1, e1⟩ : ∃ V1 : ax_V, V1 = ax_u V 222 0 0 := ⟨_, rfl⟩
  have v1 : V1 222 1 = V 222 1 := by rw [e1, ax_u_k (by decide)]
  have no : ¬ y_ok a (V 222 1) n → Q (some (ax_i 0)) (ax_w ss V1) := fun z => by rw [eQ]; exact Or.inr ⟨z, rfl, by rw [e1]⟩
  refine ax_E.of (M := m_Model_type) rfl (Nat.le_of_ble_eq_true rfl) ?_
  show ax_Q ss d m_Model_type 0 [some (.ref 222), some (.long a), none, some (ax_i n), none, none] [] V Q
  refine ax_Q.mv 2 2 [some (.ref 222), some (.long a), none, some (ax_i n), none, none] [ax_i 0, .ref 222] rfl ?_
  refine ax_Q.pI (kI := 0) (pc' := 5) ⟨_, rfl⟩ fk_12_285 h.1 h0 rfl rfl rfl rfl e1 rfl ?_
  have bad : ¬ y_ok a (V 222 1) n → ax_Q ss d m_Model_type 28 [some (.ref 222), some (.long a), none, some (ax_i n), none, none] [] V1 Q := fun z => by
    refine ax_Q.mv 1 29 [some (.ref 222), some (.long a), none, some (ax_i n), none, none] [ax_i 0] rfl ?_
    exact ax_Q.iret ⟨_, rfl⟩ rfl (by decide) (no z)
  refine ax_Q.mv 2 7 [some (.ref 222), some (.long a), none, some (ax_i n), none, none] [ax_i 1, ax_i n] rfl ?_
  refine ax_Q.if2 (p1 := 28) (p2 := 10) ⟨_, rfl⟩ (by decide) rfl rn (by decide) (fun hq => bad (fun z => by have hq' : n < 1 := hq; have := z.1.1; omega)) (fun hq => ?_)
  have q1 : ¬ n < 1 := hq
  refine ax_Q.mv 1 11 [some (.ref 222), some (.long a), none, some (ax_i n), none, none] [ax_i n] rfl ?_
  refine ax_Q.bip (n := 8) (pc' := 13) ⟨_, rfl⟩ (by decide) rfl ?_
  refine ax_Q.if2 (p1 := 28) (p2 := 16) ⟨_, rfl⟩ (by decide) rfl rn (by decide) (fun hq => bad (fun z => by have hq' : 8 < n := hq; have := z.1.2.1; omega)) (fun hq => ?_)
  have q2 : ¬ 8 < n := hq
  refine ax_Q.mv 1 17 [some (.ref 222), some (.long a), none, some (ax_i n), none, none] [.ref 222] rfl ?_
  refine ax_Q.gI (kI := 1) (pc' := 20) ⟨_, rfl⟩ fk_12_289 h0 rfl rfl rfl ?_
  rw [v1]
  refine ax_Q.mv 1 21 [some (.ref 222), some (.long a), none, some (ax_i n), none, none] [ax_i n, ax_i (V 222 1)] rfl ?_
  refine ax_Q.add (pc' := 22) ⟨_, rfl⟩ rfl ?_
  refine ax_Q.sip (n := 700) (pc' := 25) ⟨_, rfl⟩ (by decide) rfl ?_
  refine ax_Q.if2 (p1 := 30) (p2 := 28) ⟨_, rfl⟩ (by decide) rfl ⟨by omega, by omega⟩ (by decide) (fun hq => ?_) (fun hq => bad (fun z => hq z.1.2.2))
  have q3 : V 222 1 + n ≤ 700 := hq
  refine ax_Q.mv 1 31 [some (.ref 222), some (.long a), none, some (ax_i n), none, none] [ax_i 0] rfl ?_
  refine ax_Q.sti (k := 4) (n := 2) (L' := [some (.ref 222), some (.long a), none, some (ax_i n), some (ax_i 0), none]) (pc' := 33) ⟨_, rfl⟩ rfl rfl rfl (Nat.le_of_ble_eq_true rfl) rfl rfl ?_
  refine s_type1 (n := n) ⟨by omega, by omega⟩ (fun so y4 y5 h4 h5 => ?_) (fun z => no (fun y => z y.2)) n.toNat 0 (by omega) (by decide) (fun t a b => by omega) none ax_y_n
  have ok : y_ok a (V 222 1) n := ⟨⟨by omega, by omega, q3⟩, so⟩
  refine ax_Q.mv 2 77 [some (.ref 222), some (.long a), none, some (ax_i n), y4, y5] [ax_i 1, ax_i n] rfl ?_
  refine ax_Q.sub (pc' := 78) ⟨_, rfl⟩ rfl ?_
  refine ax_Q.sti (k := 4) (n := 2) (L' := [some (.ref 222), some (.long a), none, some (ax_i n), some (ax_i (n - 1)), y5]) (pc' := 80) ⟨_, rfl⟩ rfl rfl rfl (Nat.le_of_ble_eq_true rfl) rfl rfl ?_
  have ok1 : y_ok a (V1 222 1) n := by rw [v1]; exact ok
  have u := s_type2 (d := d) (V := V1) (Q := Q) h (by rw [v1]; exact hl) ok1 (by rw [eQ, v1, e1]; exact Or.inl ⟨ok, rfl, rfl⟩) n.toNat 0 (by omega) (by decide) y5 h5
  rw [y_ap_0 rfl, show n - 1 - 0 = n - 1 by omega] at u
  exact u
end MType
