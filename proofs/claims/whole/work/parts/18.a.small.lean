/-! SMALL METHODS, by what they give: the goal behind the call is what is left -/
def ax_b (p : Prop) [Decidable p] : Int := if p then 1 else 0
theorem ax_b_t {p : Prop} [Decidable p] (h : p) : ax_b p = 1 := if_pos h
theorem ax_b_f {p : Prop} [Decidable p] (h : ¬ p) : ax_b p = 0 := if_neg h
theorem ax_b_rg {p : Prop} [Decidable p] : ax_rg (ax_b p) := by unfold ax_b; split <;> decide
theorem ax_b_01 {p : Prop} [Decidable p] : ax_b p = 0 ∨ ax_b p = 1 := by
  unfold ax_b
  split
  · exact Or.inr rfl
  · exact Or.inl rfl
theorem ax_b_0 {p : Prop} [Decidable p] : ax_b p = 0 ↔ ¬ p := by
  unfold ax_b
  split
  · next h => exact ⟨fun q => absurd q (by decide), fun q => absurd h q⟩
  · next h => exact ⟨fun _ => h, fun _ => rfl⟩
/-- the character at the place, and the one behind it -/
def m_see (M : ax_V) : Int := if (M 222 68) < (M 222 3) then M 224 (M 222 68) else 0
def m_nxt (M : ax_V) : Int := if (M 222 68) + 1 < (M 222 3) then M 224 ((M 222 68) + 1) else 0
def c_see (C : ax_V) : Int := if (C 600 6) < (C 600 1) then C 1 (C 600 6) else 0
abbrev m_in (M : ax_V) : Prop := 0 ≤ (M 222 68) ∧ (M 222 68) ≤ 1000000 ∧ (M 222 3) ≤ 700
section Small
variable {d : Nat} {M : ax_V} {Φ : Int → ax_V → Prop} {Ψ : ax_V → Prop} {Θ : ax_V → Prop}
theorem s_see (hg : ax_g M) (hi : m_in M) (h : Φ (m_see M) M) : ax_I ay_lay (d + 1) q_Model_see [.ref 222] M Φ Θ := by
  refine r_Model_see hg ⟨fun q => ?_, fun q => ⟨⟨hi.1, by omega⟩, ?_⟩⟩
  · have e : m_see M = 0 := if_neg (by omega)
    rw [e] at h; exact h
  · have e : m_see M = _ := if_pos q
    rw [e] at h; exact h
theorem s_seeNext (hg : ax_g M) (hi : m_in M) (h : Φ (m_nxt M) M) : ax_I ay_lay (d + 1) q_Model_seeNext [.ref 222] M Φ Θ := by
  refine r_Model_seeNext hg ⟨⟨by omega, by omega⟩, fun q => ?_, fun q => ⟨⟨by omega, by omega⟩, ?_⟩⟩
  · have e : m_nxt M = 0 := if_neg (by omega)
    rw [e] at h; exact h
  · have e : m_nxt M = _ := if_pos q
    rw [e] at h; exact h
theorem s_within {x a b : Int} (hg : ax_g M) (hx : ax_rg x) (ha : ax_rg a) (hb : ax_rg b) (h : Φ (ax_b (a ≤ x ∧ x ≤ b)) M) : ax_I ay_lay (d + 1) q_Model_within [ax_i x, ax_i a, ax_i b] M Φ Θ := by
  refine r_Model_within hg hx ha hb ⟨fun q => ?_, fun q => ⟨fun q2 => ?_, fun q2 => ?_⟩⟩
  · rw [ax_b_f (by omega)] at h; exact h
  · rw [ax_b_f (by omega)] at h; exact h
  · rw [ax_b_t ⟨q, q2⟩] at h; exact h
theorem m_see_rg (hg : ax_g M) : ax_rg (m_see M) := by
  unfold m_see
  split
  · exact hg _ _
  · decide
abbrev m_isL (M : ax_V) : Prop := 97 ≤ m_see M ∧ m_see M ≤ 122
abbrev m_isD (M : ax_V) : Prop := 48 ≤ m_see M ∧ m_see M ≤ 57
abbrev m_isN (M : ax_V) : Prop := 65 ≤ m_see M ∧ m_see M ≤ 72
abbrev m_isA (M : ax_V) : Prop := m_see M = 45 ∧ m_nxt M = 62
theorem s_isLetter (hg : ax_g M) (hi : m_in M) (h : Φ (ax_b (m_isL M)) M) : ax_I ay_lay (d + 2) q_Model_isLetter [.ref 222] M Φ Θ :=
  r_Model_isLetter hg (s_see hg hi (s_within hg (m_see_rg hg) (by decide) (by decide) ⟨ax_b_01, h⟩))
theorem s_isDigit (hg : ax_g M) (hi : m_in M) (h : Φ (ax_b (m_isD M)) M) : ax_I ay_lay (d + 2) q_Model_isDigit [.ref 222] M Φ Θ :=
  r_Model_isDigit hg (s_see hg hi (s_within hg (m_see_rg hg) (by decide) (by decide) ⟨ax_b_01, h⟩))
theorem s_isName (hg : ax_g M) (hi : m_in M) (h : Φ (ax_b (m_isN M)) M) : ax_I ay_lay (d + 2) q_Model_isName [.ref 222] M Φ Θ :=
  r_Model_isName hg (s_see hg hi (s_within hg (m_see_rg hg) (by decide) (by decide) ⟨ax_b_01, h⟩))
theorem s_isArrow (hg : ax_g M) (hi : m_in M) (h : Φ (ax_b (m_isA M)) M) : ax_I ay_lay (d + 2) q_Model_isArrow [.ref 222] M Φ Θ := by
  refine r_Model_isArrow hg (s_see hg hi ⟨fun q => s_seeNext hg hi ⟨fun q2 => ?_, fun q2 => ?_⟩, fun q => ?_⟩)
  · rw [ax_b_t ⟨q, q2⟩] at h; exact h
  · rw [ax_b_f (fun w => q2 w.2)] at h; exact h
  · rw [ax_b_f (fun w => q w.1)] at h; exact h
/-- one character on -/
def m_on (M : ax_V) (k : Int) : ax_V := ax_u M 222 68 ((M 222 68) + k)
theorem s_want {v : Int} (hg : ax_g M) (hv : ax_rg v) (hi : m_in M) (h1 : m_see M = v → Φ 1 (m_on M 1)) (h0 : ¬ m_see M = v → Φ 0 M) : ax_I ay_lay (d + 2) q_Model_want [.ref 222, ax_i v] M Φ Θ := by
  refine r_Model_want hg hv (s_see hg hi ⟨fun q => ⟨⟨by omega, by omega⟩, fun M2 e => ?_⟩, h0⟩)
  rw [e]; exact h1 q
theorem s_takeLetter (hg : ax_g M) (hi : m_in M) (h1 : m_isL M → Φ (m_see M - 97) (m_on M 1)) (h0 : ¬ m_isL M → Φ (-1) M) : ax_I ay_lay (d + 3) q_Model_takeLetter [.ref 222] M Φ Θ := by
  refine r_Model_takeLetter hg (s_isLetter hg hi ⟨fun q => h0 (ax_b_0.mp q), fun q => ⟨⟨by omega, by omega⟩, fun M2 e => ?_⟩⟩)
  have q1 : m_isL M := by
    by_cases w : m_isL M
    · exact w
    · exact absurd (ax_b_f w) q
  have q2 : (M 222 68) < (M 222 3) := by
    by_cases w : (M 222 68) < (M 222 3)
    · exact w
    · have e9 : m_see M = 0 := if_neg w
      have := q1.1
      omega
  have e3 : (M2 222 68) = (M 222 68) + 1 := by rw [e]; simp [ax_u]
  have e4 : M2 224 ((M2 222 68) - 1) = m_see M := by
    have e5 : (M2 222 68) - 1 = (M 222 68) := by omega
    rw [e5, e]
    simp [ax_u, m_see, q2]
  refine ⟨⟨by omega, by omega⟩, ?_, ?_⟩
  · rw [e4]; exact ⟨by have := q1.1; omega, by have := q1.2; omega⟩
  · rw [e4, e]; exact h1 q1
theorem s_note {x : Int} (hg : ax_g M) (hx : ax_rg x) (h1 : ((M 222 73) = -1 ∨ x < (M 222 73)) → Ψ (ax_u M 222 73 x)) (h0 : (¬ (M 222 73) = -1 ∧ (M 222 73) ≤ x) → Ψ M) : ax_N ay_lay (d + 1) q_Model_note [.ref 222, ax_i x] M Ψ Θ := by
  refine r_Model_note hg hx ⟨fun q M2 e => ?_, fun q => ⟨fun q2 => h0 ⟨q, q2⟩, fun q2 M2 e => ?_⟩⟩
  · rw [e]; exact h1 (Or.inl q)
  · rw [e]; exact h1 (Or.inr q2)
end Small
/-! the class's own -/
section SmallC
variable {B r d : Nat} {C : ax_V} {Φ : Int → ax_V → Prop} {Ψ : ax_V → Prop} {Θ : ax_V → Prop}
abbrev c_in (C : ax_V) : Prop := 0 ≤ (C 600 6) ∧ (C 600 6) ≤ 1000000 ∧ (C 600 1) ≤ 700 ∧ ∀ i, 0 ≤ i → i < (C 600 1) → 0 ≤ C 1 i ∧ C 1 i < 65536
theorem c_see_rg (hg : ax_g C) : ax_rg (c_see C) := by
  unfold c_see
  split
  · exact hg _ _
  · decide
theorem t_look (hg : ax_g C) (hi : c_in C) (h : Φ (c_see C) C) : ax_I (az_W B (az_ER B r)) (d + 1) q_Reader_look [.ref r] C Φ Θ := by
  refine r_Reader_look hg ⟨fun q => ?_, fun q => ⟨⟨hi.1, by omega⟩, hi.2.2.2 _ hi.1 q, ?_⟩⟩
  · have e : c_see C = 0 := if_neg (by omega)
    rw [e] at h; exact h
  · have e : c_see C = _ := if_pos q
    rw [e] at h; exact h
theorem t_refuse (hg : ax_g C) (h : Θ C) : ax_N (az_W B (az_ER B r)) (d + 1) q_Reader_refuse [.ref r] C Ψ Θ := r_Reader_refuse hg h
theorem t_isLetter {x : Int} (hg : ax_g C) (hx : ax_rg x) (h : Φ (ax_b (97 ≤ x ∧ x ≤ 122)) C) : ax_I (az_W B (az_ER B r)) (d + 1) q_Reader_isLetter [ax_i x] C Φ Θ := by
  refine r_Reader_isLetter hg hx ⟨fun q => ?_, fun q => ⟨fun q2 => ?_, fun q2 => ?_⟩⟩
  · rw [ax_b_f (by omega)] at h; exact h
  · rw [ax_b_f (by omega)] at h; exact h
  · rw [ax_b_t ⟨q, q2⟩] at h; exact h
theorem t_isDigit {x : Int} (hg : ax_g C) (hx : ax_rg x) (h : Φ (ax_b (48 ≤ x ∧ x ≤ 57)) C) : ax_I (az_W B (az_ER B r)) (d + 1) q_Reader_isDigit [ax_i x] C Φ Θ := by
  refine r_Reader_isDigit hg hx ⟨fun q => ?_, fun q => ⟨fun q2 => ?_, fun q2 => ?_⟩⟩
  · rw [ax_b_f (by omega)] at h; exact h
  · rw [ax_b_f (by omega)] at h; exact h
  · rw [ax_b_t ⟨q, q2⟩] at h; exact h
theorem t_isName {x : Int} (hg : ax_g C) (hx : ax_rg x) (h : Φ (ax_b (65 ≤ x ∧ x ≤ 72)) C) : ax_I (az_W B (az_ER B r)) (d + 1) q_Reader_isName [ax_i x] C Φ Θ := by
  refine r_Reader_isName hg hx ⟨fun q => ?_, fun q => ⟨fun q2 => ?_, fun q2 => ?_⟩⟩
  · rw [ax_b_f (by omega)] at h; exact h
  · rw [ax_b_f (by omega)] at h; exact h
  · rw [ax_b_t ⟨q, q2⟩] at h; exact h
def c_on (C : ax_V) (k : Int) : ax_V := ax_u C 600 6 ((C 600 6) + k)
theorem t_expect {v : Int} (hg : ax_g C) (hv : ax_rg v) (hi : c_in C) (h1 : c_see C = v → Ψ (c_on C 1)) (h0 : ¬ c_see C = v → Θ C) : ax_N (az_W B (az_ER B r)) (d + 2) q_Reader_expect [.ref r, ax_i v] C Ψ Θ := by
  refine r_Reader_expect hg hv (t_look hg hi ⟨fun q => ⟨⟨by omega, by omega⟩, fun C2 e => ?_⟩, fun q => t_refuse hg (h0 q)⟩)
  rw [e]; exact h1 q
theorem t_takeLetter (hg : ax_g C) (hi : c_in C) (hn : 0 ≤ (C 600 8) ∧ (C 600 8) < 8) (h1 : (97 ≤ c_see C ∧ c_see C ≤ 122) → Φ ((C 600 8) * 26 + (c_see C - 97)) (c_on C 1)) (h0 : ¬ (97 ≤ c_see C ∧ c_see C ≤ 122) → Θ C) : ax_I (az_W B (az_ER B r)) (d + 2) q_Reader_takeLetter [.ref r] C Φ Θ := by
  refine r_Reader_takeLetter hg (t_look hg hi (t_isLetter hg (c_see_rg hg) ⟨fun q => t_refuse hg (h0 (ax_b_0.mp q)), fun q => ⟨⟨by omega, by omega⟩, fun C2 e => ?_⟩⟩))
  have q1 : 97 ≤ c_see C ∧ c_see C ≤ 122 := by
    by_cases w : 97 ≤ c_see C ∧ c_see C ≤ 122
    · exact w
    · exact absurd (ax_b_f w) q
  have e3 : (C2 600 8) = (C 600 8) := by rw [e]; simp [ax_u]
  rw [e3]
  refine ⟨⟨by omega, by omega⟩, ?_⟩
  rw [e]; exact h1 q1
theorem t_deepen (hg : ax_g C) (hd : 0 ≤ (C 600 11)) (h1 : (C 600 11) < 20 → Ψ (ax_u C 600 11 ((C 600 11) + 1))) (h0 : 20 ≤ (C 600 11) → Θ C) : ax_N (az_W B (az_ER B r)) (d + 2) q_Reader_deepen [.ref r] C Ψ Θ := by
  refine r_Reader_deepen hg ⟨fun q => ⟨⟨by omega, by omega⟩, fun C2 e => ?_⟩, fun q => t_refuse hg (h0 q)⟩
  rw [e]; exact h1 q
end SmallC
