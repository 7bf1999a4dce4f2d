/-! ONE PART OF ITS OWN: -, !, ~ -/
def c_nxt (C : ax_V) : Int := if (C 600 6) + 1 < (C 600 1) then C 1 ((C 600 6) + 1) else 0
abbrev c_isA (C : ax_V) : Prop := c_see C = 45 ∧ c_nxt C = 62
theorem e_R.isA {C M : ax_V} (h : e_R C M) : c_isA C ↔ m_isA M := by
  have hs := h.see
  obtain ⟨t1, t2, t3, t4⟩ := h.2.1
  obtain ⟨a1, a2, a3⟩ := h.2.2.1.1
  have e : c_nxt C = m_nxt M := by
    unfold c_nxt m_nxt
    rw [t1, a1]
    by_cases w : (M 222 68) + 1 < (M 222 3)
    · rw [if_pos w, if_pos w]; exact (t4 _ (by omega) w).1
    · rw [if_neg w, if_neg w]
  show (c_see C = 45 ∧ c_nxt C = 62) ↔ (m_see M = 45 ∧ m_nxt M = 62)
  rw [hs, e]
theorem e_mvC.rf (C : ax_V) : e_mvC C C := ⟨fun _ _ => rfl, fun _ _ _ _ _ => rfl⟩
theorem e_mvM.rf (M : ax_V) : e_mvM M M := ⟨fun _ _ => rfl, fun _ _ _ _ _ => rfl⟩
theorem e_mvC.u {C C1 : ax_V} {k x : Int} (h : e_mvC C C1) (hk : k = 6 ∨ k = 11 ∨ k = 12 ∨ k = 13) : e_mvC C (ax_u C1 600 k x) := by
  refine ⟨fun c hc => (ax_u_ne hc).trans (h.1 c hc), fun j a b c d => ?_⟩
  unfold ax_u
  rw [if_neg (fun w => by have := w.2; omega)]
  exact h.2 j a b c d
theorem e_mvM.u {M M1 : ax_V} {k x : Int} (h : e_mvM M M1) (hk : k = 68 ∨ k = 69 ∨ k = 72 ∨ k = 75) : e_mvM M (ax_u M1 222 k x) := by
  refine ⟨fun c hc => (ax_u_ne hc).trans (h.1 c hc), fun j a b c d => ?_⟩
  unfold ax_u
  rw [if_neg (fun w => by have := w.2; omega)]
  exact h.2 j a b c d
theorem ax_u_s (V : ax_V) (c : Nat) (i x : Int) : ax_u V c i x c i = x := if_pos ⟨rfl, rfl⟩
theorem ax_u_k {V : ax_V} {c : Nat} {i j x : Int} (h : j ≠ i) : ax_u V c i x c j = V c j := if_neg (fun w => h w.2)
theorem e_out.lift {bad : ax_V → Prop} {B r d1 q1 d2 q2 d3 q3 d4 q4 : Nat} {v1 v2 v3 v4 : List Value} {C M : ax_V} (h : e_out bad B r d1 q1 v1 d3 q3 v3 C M) (hI : ∀ p C', ax_Ie (az_W B (az_ER B r)) d1 q1 v1 C p C' → ax_Ie (az_W B (az_ER B r)) d2 q2 v2 C p C') (hX : ∀ C', ax_Xe (az_W B (az_ER B r)) d1 q1 v1 C C' → ax_Xe (az_W B (az_ER B r)) d2 q2 v2 C C') (hM : ∀ x M', (x = 0 ∨ x = 1) → ax_Ie ay_lay d3 q3 v3 M x M' → ax_Ie ay_lay d4 q4 v4 M x M') : e_out bad B r d2 q2 v2 d4 q4 v4 C M := by
  rcases h with ⟨p, C', M', a, b, c⟩ | ⟨C', M', a, b, c⟩ | ⟨p, C', M', a, b, c⟩
  · exact Or.inl ⟨p, C', M', hI p C' a, hM 1 M' (Or.inr rfl) b, c⟩
  · exact Or.inr (Or.inl ⟨C', M', hX C' a, hM 0 M' (Or.inl rfl) b, c⟩)
  · exact Or.inr (Or.inr ⟨p, C', M', hI p C' a, hM 0 M' (Or.inl rfl) b, c⟩)
section Unary
variable {B r d : Nat} {C M : ax_V} {Φ : Int → ax_V → Prop} {Θ : ax_V → Prop}
theorem t_atArrow (hg : ax_g C) (hi : c_in C) (h : Φ (ax_b (c_isA C)) C) : ax_I (az_W B (az_ER B r)) (d + 2) q_Reader_atArrow [.ref r] C Φ Θ := by
  refine r_Reader_atArrow hg (t_look hg hi ⟨fun q => ⟨⟨by omega, by omega⟩, fun q2 => ?_, fun q2 => ⟨⟨by omega, by omega⟩, fun q3 => ?_, fun q3 => ?_⟩⟩, fun q => ?_⟩)
  · have e : c_nxt C = 0 := if_neg (by omega)
    rw [ax_b_f (fun w => by omega)] at h; exact h
  · have e : c_nxt C = _ := if_pos q2
    rw [ax_b_t ⟨q, by rw [e]; exact q3⟩] at h; exact h
  · have e : c_nxt C = _ := if_pos q2
    rw [ax_b_f (fun w => q3 (by rw [← e]; exact w.2))] at h; exact h
  · rw [ax_b_f (fun w => q w.1)] at h; exact h
/-- the levels: how deep brackets may still go -/
def e_K (B r k : Nat) : Prop := ∀ C M : ax_V, e_R C M → (M 222 69) + (k : Int) = 20 → e_out e_dig B r (20 * k + 10) q_Reader_readK [.ref r] (20 * k + 12) q_Model_readK [.ref 222] C M
def e_Cc (B r k : Nat) : Prop := ∀ C M : ax_V, e_R C M → (M 222 69) + (k : Int) = 20 → e_out e_dig B r (20 * k + 18) q_Reader_readC [.ref r] (20 * k + 19) q_Model_readC [.ref 222] C M
def e_X (B r k : Nat) : Prop := ∀ C M : ax_V, e_R C M → (M 222 69) + (k : Int) = 20 → e_out e_bad B r (20 * k + 19) q_Reader_readX [.ref r] (20 * k + 20) q_Model_readX [.ref 222] C M
/-- one deeper, some characters on: what the class and the model then have -/
theorem e_R.in {w pr dl : Int} {C1 M1 : ax_V} (h : e_R C M) (hw : 0 ≤ w) (hs : (M 222 68) + w ≤ (M 222 3)) (hd : (M 222 69) < 20) (hC : e_mvC C C1) (hM : e_mvM M M1) (hg : ax_g C1 ∧ ax_g M1) (c1 : (C1 600 6) = (C 600 6) + w) (c2 : (C1 600 11) = (C 600 11) + 1) (c3 : (C1 600 12) = (C 600 12) + pr) (c4 : (C1 600 13) = (C 600 13) + dl) (m1 : (M1 222 68) = (M 222 68) + w) (m2 : (M1 222 69) = (M 222 69) + 1) (m3 : (M1 222 72) = (M 222 72) + pr) (hpr : pr = 0 ∨ pr = 1) (hdl : dl = 0 ∨ dl = 1) : e_R C1 M1 := by
  obtain ⟨a1, a2, a3, a4, a5, a6, a7⟩ := h.2.2.1
  exact h.mv hg hC hM ⟨by omega, by omega, by omega⟩ ⟨by omega, by omega, by omega⟩ ⟨by omega, by omega, by omega⟩ ⟨by omega, by omega⟩
end Unary
