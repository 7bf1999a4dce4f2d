/-! RANKS: the class goes by ranks what the model does level by level -/
def c_opr (M : ax_V) : Int := if m_rk M = -1 then -1 else e_op (m_oc M)
section Ranks
variable {B r d : Nat} {C M : ax_V} {Φ : Int → ax_V → Prop} {Θ : ax_V → Prop}
theorem t_opHere (h : e_R C M) (hh : Φ (c_opr M) C) : ax_I (az_W B (az_ER B r)) (d + 3) q_Reader_operatorHere [.ref r] C Φ Θ := by
  have hs := h.see
  have ci := h.ci
  obtain ⟨hgC, hgM⟩ := h.1
  have a4 := h.2.2.1.2.2.2.1
  have a5 := h.2.2.1.2.2.2.2.1
  refine r_Reader_operatorHere hgC (t_look hgC ci ?_)
  rw [hs]
  refine ⟨fun z => ?_, fun z => ?_, fun z => ?_, fun z => ?_, fun z => ?_, fun z => ?_, fun z => ?_, fun z => ?_, fun z => ?_, fun z => ?_, fun z => ?_, fun n1 n2 n3 n4 n5 n6 n7 n8 n9 n10 n11 => ?_⟩
  · rw [show c_opr M = 10 by simp [c_opr, m_rk, m_oc, e_op, z]] at hh; exact hh
  · rw [show c_opr M = 17 by simp [c_opr, m_rk, m_oc, e_op, z]] at hh; exact hh
  · rw [show c_opr M = 8 by simp [c_opr, m_rk, m_oc, e_op, z]] at hh; exact hh
  · rw [show c_opr M = 15 by simp [c_opr, m_rk, m_oc, e_op, z]] at hh; exact hh
  · rw [show c_opr M = 13 by simp [c_opr, m_rk, m_oc, e_op, z]] at hh; exact hh
  · refine t_atArrow hgC ci ?_
    by_cases w : m_isA M
    · rw [show c_opr M = -1 by simp [c_opr, m_rk, z, w.2]] at hh
      exact ax_b_y (h.isA.mpr w) hh
    · have w2 : ¬ m_nxt M = 62 := fun q => w ⟨z, q⟩
      rw [show c_opr M = 14 by simp [c_opr, m_rk, m_oc, e_op, z, w2]] at hh
      exact ax_b_n (fun q => w (h.isA.mp q)) hh
  · rw [show c_opr M = 16 by simp [c_opr, m_rk, m_oc, e_op, z]] at hh; exact hh
  · rw [show c_opr M = 11 by simp [c_opr, m_rk, m_oc, e_op, z]] at hh; exact hh
  · rw [show c_opr M = 9 by simp [c_opr, m_rk, m_oc, e_op, z]] at hh; exact hh
  · rw [a4.1, a5.1]
    refine ⟨fun w => ?_, fun w => ⟨fun w2 => ?_, fun w2 => ?_⟩⟩
    · rw [show c_opr M = 12 by simp [c_opr, m_rk, m_oc, e_op, z, w]] at hh; exact hh
    · rw [show c_opr M = -1 by simp [c_opr, m_rk, z, w, w2]] at hh; exact hh
    · have w3 : 0 < (M 222 72) := by omega
      rw [show c_opr M = 12 by simp [c_opr, m_rk, m_oc, e_op, z, w3]] at hh; exact hh
  · rw [show c_opr M = 7 by simp [c_opr, m_rk, m_oc, e_op, z]] at hh; exact hh
  · rw [show c_opr M = -1 by simp [c_opr, m_rk, n1, n2, n3, n4, n5, n6, n7, n8, n9, n10, n11]] at hh; exact hh
theorem m_rk_oc (h : ¬ m_rk M = -1) : (m_oc M = 17 ∧ m_rk M = 0) ∨ (m_oc M = 16 ∧ m_rk M = 1) ∨ ((12 ≤ m_oc M ∧ m_oc M ≤ 15) ∧ m_rk M = 2) ∨ ((7 ≤ m_oc M ∧ m_oc M ≤ 8) ∧ m_rk M = 3) ∨ ((9 ≤ m_oc M ∧ m_oc M ≤ 11) ∧ m_rk M = 4) := by
  unfold m_rk at h ⊢
  unfold m_oc
  by_cases h1 : m_see M = 124
  · simp [h1]
  by_cases h2 : m_see M = 38
  · simp [h2]
  by_cases h3 : m_see M = 61
  · simp [h3]
  by_cases h4 : m_see M = 35
  · simp [h4]
  by_cases h5 : m_see M = 60
  · simp [h5]
  by_cases h6 : m_see M = 62
  · simp only [h6] at h ⊢
    by_cases h7 : (M 222 71) = 0 ∨ 0 < (M 222 72)
    · simp [h7]
    · simp [h7] at h
  by_cases h7 : m_see M = 43
  · simp [h7]
  by_cases h8 : m_see M = 45
  · simp only [h8] at h ⊢
    by_cases h9 : m_nxt M = 62
    · simp [h9] at h
    · simp [h9]
  by_cases h9 : m_see M = 42
  · simp [h9]
  by_cases h10 : m_see M = 47
  · simp [h10]
  by_cases h11 : m_see M = 37
  · simp [h11]
  · simp [h1, h2, h3, h4, h5, h6, h7, h8, h9, h10, h11] at h
theorem t_rankOf (hg : ax_g C) (hh : Φ (if m_rk M = -1 then 2 else m_rk M) C) : ax_I (az_W B (az_ER B r)) (d + 1) q_Reader_rankOf [ax_i (c_opr M)] C Φ Θ := by
  have ho := m_oc_in M
  have rg : ax_rg (c_opr M) := by
    unfold c_opr e_op
    repeat' split
    all_goals exact ⟨by omega, by omega⟩
  refine r_Reader_rankOf hg rg ?_
  by_cases h1 : m_rk M = -1
  · have e : c_opr M = -1 := if_pos h1
    rw [if_pos h1] at hh
    rw [e]
    exact ⟨fun z => by omega, fun z => by omega, fun z => by omega, fun z => by omega, fun z => by omega, fun z => by omega, fun z => by omega, fun _ _ _ _ _ _ _ => hh⟩
  · have e : c_opr M = e_op (m_oc M) := if_neg h1
    rw [if_neg h1] at hh
    rw [e]
    rcases m_rk_oc h1 with ⟨u, v⟩ | ⟨u, v⟩ | ⟨u, v⟩ | ⟨u, v⟩ | ⟨u, v⟩
    · rw [u]; rw [v] at hh
      have e2 : e_op 17 = 7 := rfl
      rw [e2]
      exact ⟨fun _ => hh, fun z => by omega, fun z => by omega, fun z => by omega, fun z => by omega, fun z => by omega, fun z => by omega, fun z => absurd rfl z⟩
    · rw [u]; rw [v] at hh
      have e2 : e_op 16 = 8 := rfl
      rw [e2]
      exact ⟨fun z => by omega, fun _ => hh, fun z => by omega, fun z => by omega, fun z => by omega, fun z => by omega, fun z => by omega, fun _ z => absurd rfl z⟩
    · rw [v] at hh
      have e2 : e_op (m_oc M) = m_oc M - 3 := by unfold e_op; rw [if_neg (by omega), if_neg (by omega), if_pos u]
      rw [e2]
      exact ⟨fun z => by omega, fun z => by omega, fun z => by omega, fun z => by omega, fun z => by omega, fun z => by omega, fun z => by omega, fun _ _ _ _ _ _ _ => hh⟩
    · rw [v] at hh
      have e2 : e_op (m_oc M) = m_oc M + 6 := by unfold e_op; rw [if_neg (by omega), if_neg (by omega), if_neg (by omega), if_pos (by omega)]
      rw [e2]
      exact ⟨fun z => by omega, fun z => by omega, fun _ => hh, fun _ => hh, fun z => by omega, fun z => by omega, fun z => by omega, fun _ _ n3 n4 => by omega⟩
    · rw [v] at hh
      have e2 : e_op (m_oc M) = m_oc M + 6 := by unfold e_op; rw [if_neg (by omega), if_neg (by omega), if_neg (by omega), if_pos (by omega)]
      rw [e2]
      exact ⟨fun z => by omega, fun z => by omega, fun z => by omega, fun z => by omega, fun _ => hh, fun _ => hh, fun _ => hh, fun _ _ _ _ n5 n6 n7 => by omega⟩
end Ranks
/-- the levels h, h - 1 .. r of the model, one behind the other -/
def m_ch (k r : Nat) : Nat → ax_V → Int → ax_V → Prop
  | 0, M, x, M' => x = 1 ∧ M' = M
  | n + 1, M, x, M' => (∃ M1, m_tl k (r + n) M 1 M1 ∧ m_ch k r n M1 x M') ∨ (m_tl k (r + n) M 0 M' ∧ x = 0)
theorem m_ch.exit {k r : Nat} {M : ax_V} (hg : ax_g M) (mi : m_in M) : ∀ n : Nat, r + n ≤ 5 → (∀ l : Nat, r ≤ l → l < r + n → ¬ m_rk M = (l : Int)) → m_ch k r n M 1 M
  | 0, _, _ => ⟨rfl, rfl⟩
  | n + 1, h5, hl => Or.inl ⟨M, m_tl.exit hg mi (r + n) (by omega) (hl (r + n) (by omega) (by omega)), m_ch.exit hg mi n (by omega) (fun l a b => hl l a (by omega))⟩
theorem m_ch.down {k r j : Nat} {M M' : ax_V} {x : Int} (hg : ax_g M) (mi : m_in M) : ∀ n : Nat, r + n ≤ 5 → j + 1 ≤ n → (∀ l : Nat, r + j < l → l < r + n → ¬ m_rk M = (l : Int)) → m_ch k r (j + 1) M x M' → m_ch k r n M x M' := by
  intro n
  induction n with
  | zero => intro _ h1; omega
  | succ n ih =>
    intro h5 h1 hl h
    by_cases w : n = j
    · subst w; exact h
    · exact Or.inl ⟨M, m_tl.exit hg mi (r + n) (by omega) (hl (r + n) (by omega) (by omega)), ih (by omega) (by omega) (fun l a b => hl l a (by omega)) h⟩
theorem m_lv.down {k r : Nat} {M M' : ax_V} (hg : ax_g M) : ∀ n : Nat, r + n ≤ 5 → m_lv k (r + n) M 0 M' → m_lv k r M 0 M'
  | 0, _, h => h
  | n + 1, h5, h => m_lv.down hg n (by omega) (m_lv.no hg (r + n) (by omega) h)
theorem m_lv.ch {k r : Nat} {M M' : ax_V} {x : Int} (hg : ax_g M) : ∀ (n : Nat) (M1 : ax_V), r + n ≤ 5 → m_lv k (r + n) M 1 M1 → m_ch k r n M1 x M' → m_lv k r M x M'
  | 0, M1, _, h, hc => by obtain ⟨rfl, rfl⟩ := hc; exact h
  | n + 1, M1, h5, h, hc => by
    rcases hc with ⟨M2, t, hc⟩ | ⟨t, rfl⟩
    · exact m_lv.ch hg n M2 (by omega) (m_lv.yes hg (r + n) (by omega) h t) hc
    · exact m_lv.down hg n (by omega) (m_lv.yes hg (r + n) (by omega) h t)
