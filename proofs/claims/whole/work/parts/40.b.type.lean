/-! House.type -/
section HType
variable {B Sp w nw d : Nat} {m p : Value} {ss : List ax_S} {V : ax_V} {a : Int64} {n : Int}
/-- what may be typed -/
def y_ok (a : Int64) (len n : Int) : Prop := (1 ≤ n ∧ n ≤ 8 ∧ len + n ≤ 700) ∧ ∀ i, 0 ≤ i → i < n → 33 ≤ y_by a i ∧ y_by a i ≤ 126
set_option maxHeartbeats 1000000 in
/-- the bytes are taken over -/
theorem t_type2 {Q : Option Value → List va_E → Prop} (h : y_L B Sp w nw m p ss) (hg : ax_g V) (hl : 0 ≤ V 0 1 ∧ V 0 1 ≤ 700) (ok : y_ok a (V 0 1) n) (fin : Q (some (ax_i 1)) (ax_w ss (y_ap V 1 0 (V 0 1) n a n))) : ∀ (j : Nat) (k : Int), k + (j : Int) = n → 0 ≤ k → ∀ y5, ax_y y5 → ax_Q ss (d + 1) m_House_type 69 [some (.ref 0), some (.long a), none, some (ax_i n), some (ax_i (n - 1 - k)), y5] [] (y_ap V 1 0 (V 0 1) n a k) Q := by
  have h0 := h.at 0 rfl
  have h1 := h.at 1 rfl
  obtain ⟨⟨n1, n2, n3⟩, bo⟩ := ok
  obtain ⟨L, eL⟩ : ∃ L : Int, L = V 0 1 := ⟨_, rfl⟩
  rw [← eL] at fin hl n3 ⊢
  intro j
  induction j with
  | zero =>
    intro k hk k0 y5 h5
    have ek : k = n := by omega
    rw [ek]
    refine ax_Q.mv 1 71 [some (.ref 0), some (.long a), none, some (ax_i n), some (ax_i (n - 1 - n)), y5] [ax_i (n - 1 - n)] rfl ?_
    refine ax_Q.if1 (p1 := 106) (p2 := 74) ⟨_, rfl⟩ (by decide) rfl ⟨by omega, by omega⟩ (fun _ => ?_) (fun hq => absurd (show n - 1 - n < 0 by omega) hq)
    refine ax_Q.mv 1 107 [some (.ref 0), some (.long a), none, some (ax_i n), some (ax_i (n - 1 - n)), y5] [ax_i 1] rfl ?_
    exact ax_Q.iret ⟨_, rfl⟩ rfl (by decide) fin
  | succ j ih =>
    intro k hk k0 y5 h5
    have kn : k < n := by omega
    obtain ⟨X, eX⟩ : ∃ X : ax_V, X = y_ap V 1 0 L n a k := ⟨_, rfl⟩
    rw [← eX]
    have x1 : X 0 1 = L + k := by rw [eX]; exact y_ap_1 (by decide)
    obtain ⟨i, ei⟩ : ∃ i : Int, i = n - 1 - k := ⟨_, rfl⟩
    rw [← ei]
    have b := bo i (by omega) (by omega)
    have ch := y_ch (b := y_by a i) ⟨by omega, b.2⟩
    refine ax_Q.mv 1 71 [some (.ref 0), some (.long a), none, some (ax_i n), some (ax_i i), y5] [ax_i i] rfl ?_
    refine ax_Q.if1 (p1 := 106) (p2 := 74) ⟨_, rfl⟩ (by decide) rfl ⟨by omega, by omega⟩ (fun hq => absurd (show i < 0 from hq) (by omega)) (fun _ => ?_)
    refine ax_Q.mv 1 75 [some (.ref 0), some (.long a), none, some (ax_i n), some (ax_i i), y5] [.ref 0] rfl ?_
    refine ax_Q.gR (v := .ref 1) (pc' := 78) ⟨_, rfl⟩ fl_11_9 h0 rfl rfl ?_
    refine ax_Q.mv 1 79 [some (.ref 0), some (.long a), none, some (ax_i n), some (ax_i i), y5] [.ref 0, .ref 1] rfl ?_
    refine ax_Q.gI (kI := 1) (pc' := 82) ⟨_, rfl⟩ fl_11_46 h0 rfl rfl rfl ?_
    rw [x1]
    refine ax_Q.mv 2 85 [some (.ref 0), some (.long a), none, some (ax_i n), some (ax_i i), y5] [ax_i i, .long a, ax_i (L + k), .ref 1] rfl ?_
    refine ax_Q.calls (v := some (ax_i (y_by a i))) (V1 := X) (pc' := 88) ⟨_, rfl⟩ ml_11_50 (Nat.le_of_ble_eq_true rfl) (Nat.le_of_ble_eq_true rfl) (ai_nt_i _) rfl t_byteOf ?_
    refine ax_Q.sim (pc' := 89) (st' := [ax_i (y_by a i), ax_i (L + k), .ref 1]) ⟨_, rfl⟩ rfl (by
      show some (88 + 1, _, Value.int ((Int32.ofInt (y_by a i)).toUInt32 % 65536).toInt32 :: [ax_i (L + k), .ref 1]) = _
      rw [ch.1]; rfl) ?_
    obtain ⟨X1, e1⟩ : ∃ X1 : ax_V, X1 = ax_u X 1 (L + k) (y_by a i) := ⟨_, rfl⟩
    refine ax_Q.cst (id := 1) (n := 700) (pc' := 90) ⟨_, rfl⟩ h.1 h1 (by decide) ⟨by omega, by omega⟩ ch.2 e1 rfl ?_
    have x2 : X1 0 1 = L + k := by rw [e1, ax_u_ne (by decide)]; exact x1
    refine ax_Q.mv 2 92 [some (.ref 0), some (.long a), none, some (ax_i n), some (ax_i i), y5] [.ref 0, .ref 0] rfl ?_
    refine ax_Q.gI (kI := 1) (pc' := 95) ⟨_, rfl⟩ fl_11_46 h0 rfl rfl rfl ?_
    rw [x2]
    refine ax_Q.mv 1 96 [some (.ref 0), some (.long a), none, some (ax_i n), some (ax_i i), y5] [ax_i 1, ax_i (L + k), .ref 0] rfl ?_
    refine ax_Q.add (pc' := 97) ⟨_, rfl⟩ rfl ?_
    obtain ⟨X2, e2⟩ : ∃ X2 : ax_V, X2 = ax_u X1 0 1 (L + k + 1) := ⟨_, rfl⟩
    refine ax_Q.pI (kI := 1) (pc' := 100) ⟨_, rfl⟩ fl_11_46 h.1 h0 rfl rfl rfl rfl e2 rfl ?_
    refine ax_Q.inc (k := 4) (n := -1) (x := i) (L' := [some (.ref 0), some (.long a), none, some (ax_i n), some (ax_i (i + -1)), y5]) (pc' := 103) ⟨_, rfl⟩ rfl rfl rfl rfl ?_
    refine ax_Q.mv 1 69 [some (.ref 0), some (.long a), none, some (ax_i n), some (ax_i (i + -1)), y5] [] rfl ?_
    have e3 : X2 = y_ap V 1 0 L n a (k + 1) := by
      rw [e2, e1, eX, ei]
      exact y_ap_s (by decide) k0
    rw [e3, show i + -1 = n - 1 - (k + 1) by omega]
    exact ih (k + 1) (by omega) (by omega) y5 h5
set_option maxHeartbeats 1000000 in
/-- the bytes are looked at -/
theorem t_type1 {Q : Option Value → List va_E → Prop} (nb : 1 ≤ n ∧ n ≤ 8) (good : (∀ i, 0 ≤ i → i < n → 33 ≤ y_by a i ∧ y_by a i ≤ 126) → ∀ y4 y5, ax_y y4 → ax_y y5 → ax_Q ss (d + 1) m_House_type 64 [some (.ref 0), some (.long a), none, some (ax_i n), y4, y5] [] V Q) (bad : ¬ (∀ i, 0 ≤ i → i < n → 33 ≤ y_by a i ∧ y_by a i ≤ 126) → Q (some (ax_i 0)) (ax_w ss V)) : ∀ (j : Nat) (i : Int), i + (j : Int) = n → 0 ≤ i → (∀ t, 0 ≤ t → t < i → 33 ≤ y_by a t ∧ y_by a t ≤ 126) → ∀ y5, ax_y y5 → ax_Q ss (d + 1) m_House_type 28 [some (.ref 0), some (.long a), none, some (ax_i n), some (ax_i i), y5] [] V Q := by
  intro j
  induction j with
  | zero =>
    intro i hi i0 so y5 h5
    have ei : i = n := by omega
    rw [ei] at so ⊢
    refine ax_Q.mv 2 31 [some (.ref 0), some (.long a), none, some (ax_i n), some (ax_i n), y5] [ax_i n, ax_i n] rfl ?_
    refine ax_Q.if2 (p1 := 64) (p2 := 34) ⟨_, rfl⟩ (by decide) rfl ⟨by omega, by omega⟩ ⟨by omega, by omega⟩ (fun _ => good so _ _ (ax_y_i _) h5) (fun hq => absurd (Int.le_refl n) hq)
  | succ j ih =>
    intro i hi i0 so y5 h5
    have b := y_by_g a i
    have no : ¬ (33 ≤ y_by a i ∧ y_by a i ≤ 126) → ax_Q ss (d + 1) m_House_type 56 [some (.ref 0), some (.long a), none, some (ax_i n), some (ax_i i), some (ax_i (y_by a i))] [] V Q := fun z => by
      refine ax_Q.mv 1 57 [some (.ref 0), some (.long a), none, some (ax_i n), some (ax_i i), some (ax_i (y_by a i))] [ax_i 0] rfl ?_
      exact ax_Q.iret ⟨_, rfl⟩ rfl (by decide) (bad (fun y => z (y i i0 (by omega))))
    refine ax_Q.mv 2 31 [some (.ref 0), some (.long a), none, some (ax_i n), some (ax_i i), y5] [ax_i n, ax_i i] rfl ?_
    refine ax_Q.if2 (p1 := 64) (p2 := 34) ⟨_, rfl⟩ (by decide) rfl ⟨by omega, by omega⟩ ⟨by omega, by omega⟩ (fun hq => absurd (show n ≤ i from hq) (by omega)) (fun _ => ?_)
    refine ax_Q.mv 2 37 [some (.ref 0), some (.long a), none, some (ax_i n), some (ax_i i), y5] [ax_i i, .long a] rfl ?_
    refine ax_Q.calls (v := some (ax_i (y_by a i))) (V1 := V) (pc' := 40) ⟨_, rfl⟩ ml_11_50 (Nat.le_of_ble_eq_true rfl) (Nat.le_of_ble_eq_true rfl) (ai_nt_i _) rfl t_byteOf ?_
    refine ax_Q.sti (k := 5) (n := 2) (L' := [some (.ref 0), some (.long a), none, some (ax_i n), some (ax_i i), some (ax_i (y_by a i))]) (pc' := 42) ⟨_, rfl⟩ rfl rfl rfl (Nat.le_of_ble_eq_true rfl) rfl rfl ?_
    refine ax_Q.mv 1 44 [some (.ref 0), some (.long a), none, some (ax_i n), some (ax_i i), some (ax_i (y_by a i))] [ax_i (y_by a i)] rfl ?_
    refine ax_Q.bip (n := 33) (pc' := 46) ⟨_, rfl⟩ (by decide) rfl ?_
    refine ax_Q.if2 (p1 := 56) (p2 := 49) ⟨_, rfl⟩ (by decide) rfl b (by decide) (fun hq => no (fun z => by have hq' : y_by a i < 33 := hq; omega)) (fun hq => ?_)
    have q1 : ¬ y_by a i < 33 := hq
    refine ax_Q.mv 1 51 [some (.ref 0), some (.long a), none, some (ax_i n), some (ax_i i), some (ax_i (y_by a i))] [ax_i (y_by a i)] rfl ?_
    refine ax_Q.bip (n := 126) (pc' := 53) ⟨_, rfl⟩ (by decide) rfl ?_
    refine ax_Q.if2 (p1 := 58) (p2 := 56) ⟨_, rfl⟩ (by decide) rfl b (by decide) (fun hq => ?_) (fun hq => no (fun z => hq z.2))
    have q2 : y_by a i ≤ 126 := hq
    refine ax_Q.inc (k := 4) (n := 1) (x := i) (L' := [some (.ref 0), some (.long a), none, some (ax_i n), some (ax_i (i + 1)), some (ax_i (y_by a i))]) (pc' := 61) ⟨_, rfl⟩ rfl rfl rfl rfl ?_
    refine ax_Q.mv 1 28 [some (.ref 0), some (.long a), none, some (ax_i n), some (ax_i (i + 1)), some (ax_i (y_by a i))] [] rfl ?_
    refine ih (i + 1) (by omega) (by omega) (fun t t0 t1 => ?_) _ (ax_y_i _)
    by_cases e : t = i
    · rw [e]; exact ⟨by omega, q2⟩
    · exact so t t0 (by omega)
set_option maxHeartbeats 1000000 in
theorem t_typeH (h : y_L B Sp w nw m p ss) (hg : ax_g V) (hl : 0 ≤ V 0 1 ∧ V 0 1 ≤ 700) (rn : ax_rg n) : ax_E ss (d + 2) q_House_type [.ref 0, .long a, ax_i n] V (fun res z => (y_ok a (V 0 1) n ∧ res = some (ax_i 1) ∧ z = ax_w ss (y_ap V 1 0 (V 0 1) n a n)) ∨ (¬ y_ok a (V 0 1) n ∧ res = some (ax_i 0) ∧ z = ax_w ss V)) := by
  obtain ⟨Q, eQ⟩ : ∃ Q : Option Value → List va_E → Prop, Q = (fun res z => (y_ok a (V 0 1) n ∧ res = some (ax_i 1) ∧ z = ax_w ss (y_ap V 1 0 (V 0 1) n a n)) ∨ (¬ y_ok a (V 0 1) n ∧ res = some (ax_i 0) ∧ z = ax_w ss V)) := ⟨_, rfl⟩
  rw [← eQ]
  have h0 := h.at 0 rfl
  have no : ¬ y_ok a (V 0 1) n → Q (some (ax_i 0)) (ax_w ss V) := fun z => by rw [eQ]; exact Or.inr ⟨z, rfl, rfl⟩
  refine ax_E.of (M := m_House_type) rfl (Nat.le_of_ble_eq_true rfl) ?_
  show ax_Q ss (d + 1) m_House_type 0 [some (.ref 0), some (.long a), none, some (ax_i n), none, none] [] V Q
  have bad : ¬ y_ok a (V 0 1) n → ax_Q ss (d + 1) m_House_type 23 [some (.ref 0), some (.long a), none, some (ax_i n), none, none] [] V Q := fun z => by
    refine ax_Q.mv 1 24 [some (.ref 0), some (.long a), none, some (ax_i n), none, none] [ax_i 0] rfl ?_
    exact ax_Q.iret ⟨_, rfl⟩ rfl (by decide) (no z)
  refine ax_Q.mv 2 2 [some (.ref 0), some (.long a), none, some (ax_i n), none, none] [ax_i 1, ax_i n] rfl ?_
  refine ax_Q.if2 (p1 := 23) (p2 := 5) ⟨_, rfl⟩ (by decide) rfl rn (by decide) (fun hq => bad (fun z => by have hq' : n < 1 := hq; have := z.1.1; omega)) (fun hq => ?_)
  have q1 : ¬ n < 1 := hq
  refine ax_Q.mv 1 6 [some (.ref 0), some (.long a), none, some (ax_i n), none, none] [ax_i n] rfl ?_
  refine ax_Q.bip (n := 8) (pc' := 8) ⟨_, rfl⟩ (by decide) rfl ?_
  refine ax_Q.if2 (p1 := 23) (p2 := 11) ⟨_, rfl⟩ (by decide) rfl rn (by decide) (fun hq => bad (fun z => by have hq' : 8 < n := hq; have := z.1.2.1; omega)) (fun hq => ?_)
  have q2 : ¬ 8 < n := hq
  refine ax_Q.mv 1 12 [some (.ref 0), some (.long a), none, some (ax_i n), none, none] [.ref 0] rfl ?_
  refine ax_Q.gI (kI := 1) (pc' := 15) ⟨_, rfl⟩ fl_11_46 h0 rfl rfl rfl ?_
  refine ax_Q.mv 1 16 [some (.ref 0), some (.long a), none, some (ax_i n), none, none] [ax_i n, ax_i (V 0 1)] rfl ?_
  refine ax_Q.add (pc' := 17) ⟨_, rfl⟩ rfl ?_
  refine ax_Q.sip (n := 700) (pc' := 20) ⟨_, rfl⟩ (by decide) rfl ?_
  refine ax_Q.if2 (p1 := 25) (p2 := 23) ⟨_, rfl⟩ (by decide) rfl ⟨by omega, by omega⟩ (by decide) (fun hq => ?_) (fun hq => bad (fun z => hq z.1.2.2))
  have q3 : V 0 1 + n ≤ 700 := hq
  refine ax_Q.mv 1 26 [some (.ref 0), some (.long a), none, some (ax_i n), none, none] [ax_i 0] rfl ?_
  refine ax_Q.sti (k := 4) (n := 2) (L' := [some (.ref 0), some (.long a), none, some (ax_i n), some (ax_i 0), none]) (pc' := 28) ⟨_, rfl⟩ rfl rfl rfl (Nat.le_of_ble_eq_true rfl) rfl rfl ?_
  refine t_type1 (n := n) ⟨by omega, by omega⟩ (fun so y4 y5 h4 h5 => ?_) (fun z => no (fun y => z y.2)) n.toNat 0 (by omega) (by decide) (fun t a b => by omega) none ax_y_n
  have ok : y_ok a (V 0 1) n := ⟨⟨by omega, by omega, q3⟩, so⟩
  refine ax_Q.mv 2 66 [some (.ref 0), some (.long a), none, some (ax_i n), y4, y5] [ax_i 1, ax_i n] rfl ?_
  refine ax_Q.sub (pc' := 67) ⟨_, rfl⟩ rfl ?_
  refine ax_Q.sti (k := 4) (n := 2) (L' := [some (.ref 0), some (.long a), none, some (ax_i n), some (ax_i (n - 1)), y5]) (pc' := 69) ⟨_, rfl⟩ rfl rfl rfl (Nat.le_of_ble_eq_true rfl) rfl rfl ?_
  have u := t_type2 (d := d) (Q := Q) h hg hl ok (by rw [eQ]; exact Or.inl ⟨ok, rfl, rfl⟩) n.toNat 0 (by omega) (by decide) y5 h5
  rw [y_ap_0 rfl, show n - 1 - 0 = n - 1 by omega] at u
  exact u
end HType
