/-! AN OPERATOR OF THE LEVEL stands there -/
section Levels2
variable {k : Nat} {M M1 M2 M' : ax_V} {x : Int}
theorem m_rk0 (h : m_rk M = 0) : m_see M = 124 := by
  unfold m_rk at h
  repeat' (split at h)
  all_goals first | assumption | omega
theorem m_rk1 (h : m_rk M = 1) : m_see M = 38 := by
  unfold m_rk at h
  repeat' (split at h)
  all_goals first | assumption | omega
theorem m_rk2 (h : m_rk M = 2) : (m_see M = 61 ∨ m_see M = 35 ∨ m_see M = 60) ∨ (m_see M = 62 ∧ ((M 222 71) = 0 ∨ 0 < (M 222 72))) := by
  unfold m_rk at h
  repeat' (split at h)
  all_goals first | (exact Or.inl (by assumption)) | (exact Or.inr ⟨by assumption, by assumption⟩) | omega
theorem m_rk3 (h : m_rk M = 3) : m_see M = 43 ∨ (m_see M = 45 ∧ ¬ m_nxt M = 62) := by
  unfold m_rk at h
  repeat' (split at h)
  all_goals first | (exact Or.inl (by assumption)) | (exact Or.inr ⟨by assumption, by assumption⟩) | omega
theorem m_rk4 (h : m_rk M = 4) : m_see M = 42 ∨ m_see M = 47 ∨ m_see M = 37 := by
  unfold m_rk at h
  repeat' (split at h)
  all_goals first | assumption | omega
theorem m_rk_lt (h : ¬ m_rk M = -1) : ¬ m_see M = 0 := by
  intro z
  apply h
  unfold m_rk
  rw [if_neg (by omega), if_neg (by omega), if_neg (by omega), if_neg (by omega), if_neg (by omega), if_neg (by omega), if_neg (by omega)]
theorem m_bn_n (h : ¬ m_rk M = 4) {o : Int} (ho : m_oc M = o) : m_bn M M2 = m_mk M2 o (M2 242 (M 222 74)) (M 222 74) (M2 222 74) (-1) := by unfold m_bn; rw [if_neg h, ho]
theorem m_bn_4 (h : m_rk M = 4) {o : Int} (ho : m_oc M = o) : m_bn M M2 = ax_u (m_mk M2 o (M2 242 (M 222 74)) (M 222 74) (M2 222 74) (-1)) 243 (M2 222 26) (M 222 68) := by unfold m_bn; rw [if_pos h, ho]
/-- what stands behind it can't be read -/
theorem m_tl.no (hg : ax_g M) (mi : m_in M) : ∀ l : Nat, l ≤ 4 → m_rk M = (l : Int) → m_lv k (l + 1) (m_on M 1) 0 M2 → m_tl k l M 0 M2
  | 0, _, hr, h => fun y1 hy1 Φ Θ hh => by
    have hc := m_rk0 hr
    refine r_Model_readD_9 hg hy1 (s_see hg mi ⟨fun _ => ⟨⟨by omega, by omega⟩, fun V2 e2 => ?_⟩, fun z => absurd hc z⟩)
    rw [show V2 = m_on M 1 from e2]
    exact ax_Ie.k h (by omega) (fun hg2 _ => ⟨fun _ => hh hg2, fun z => absurd rfl z⟩)
  | 1, _, hr, h => fun y1 hy1 Φ Θ hh => by
    have hc := m_rk1 hr
    refine r_Model_readE_9 hg hy1 (s_see hg mi ⟨fun _ => ⟨⟨by omega, by omega⟩, fun V2 e2 => ?_⟩, fun z => absurd hc z⟩)
    rw [show V2 = m_on M 1 from e2]
    exact ax_Ie.k h (by omega) (fun hg2 _ => ⟨fun _ => hh hg2, fun z => absurd rfl z⟩)
  | 2, _, hr, h => fun Φ Θ hh => by
    have hc := m_rk2 hr
    have e1 : k_Model_readF_57 (20 * k + 15) (m_see M) none none 1 M Φ Θ := by
      refine r_Model_readF_57 hg (m_see_rg hg) ax_y_n ax_y_n (by decide) ⟨fun z => absurd z (by decide), fun _ => ⟨⟨by omega, by omega⟩, fun V2 e2 => ?_⟩⟩
      rw [show V2 = m_on M 1 from e2]
      exact ax_Ie.k h (by omega) (fun hg2 _ => ⟨fun _ => hh hg2, fun z => absurd rfl z⟩)
    refine s_see hg mi ⟨fun _ => e1, fun n1 => ⟨fun _ => e1, fun n2 => ⟨fun _ => e1, fun n3 => ⟨fun _ => ⟨fun _ => e1, fun w => ⟨fun w2 => ?_, fun _ => e1⟩⟩, fun n4 => ?_⟩⟩⟩⟩
    · rcases hc with hc | ⟨-, hc | hc⟩
      · rcases hc with hc | hc | hc <;> omega
      · exact absurd hc w
      · omega
    · rcases hc with hc | ⟨hc, -⟩
      · rcases hc with hc | hc | hc <;> omega
      · omega
  | 3, _, hr, h => fun y1 y2 hy1 hy2 Φ Θ hh => by
    have hc := m_rk3 hr
    have e1 : k_Model_readG_34 (20 * k + 14) y1 y2 M Φ Θ := by
      refine r_Model_readG_34 hg hy1 hy2 (s_see hg mi ⟨⟨by omega, by omega⟩, fun V2 e2 => ?_⟩)
      rw [show V2 = m_on M 1 from e2]
      exact ax_Ie.k h (by omega) (fun hg2 _ => ⟨fun _ => hh hg2, fun z => absurd rfl z⟩)
    refine r_Model_readG_9 hg hy1 hy2 (s_see hg mi ⟨fun _ => e1, fun n1 => s_see hg mi ⟨fun z => s_isArrow hg mi (ax_b_n (fun w => ?_) e1), fun n2 => ?_⟩⟩)
    · rcases hc with hc | ⟨-, hc⟩
      · omega
      · exact hc w.2
    · rcases hc with hc | ⟨hc, -⟩ <;> omega
  | 4, _, hr, h => fun y1 y2 y3 hy1 hy2 hy3 Φ Θ hh => by
    have hc := m_rk4 hr
    have e1 : k_Model_readH_36 (20 * k + 13) y1 y2 y3 M Φ Θ := by
      refine r_Model_readH_36 hg hy1 hy2 hy3 (s_see hg mi ⟨⟨by omega, by omega⟩, fun V2 e2 => ?_⟩)
      rw [show V2 = m_on M 1 from e2]
      exact ax_Ie.k h (by omega) (fun hg2 _ => ⟨fun _ => hh hg2, fun z => absurd rfl z⟩)
    exact r_Model_readH_9 hg hy1 hy2 hy3 (s_see hg mi ⟨fun _ => e1, fun n1 => s_see hg mi ⟨fun _ => e1, fun n2 => s_see hg mi ⟨fun _ => e1, fun n3 => by rcases hc with hc | hc | hc <;> omega⟩⟩⟩)
  | n + 5, h0, _, _ => by omega
/-- .. or it is read, and a part is made -/
theorem m_tl.yes (hg : ax_g M) (mi : m_in M) (hp : 0 ≤ (M 222 74) ∧ (M 222 74) < 701) (hq : 0 ≤ (M2 222 26) ∧ (M2 222 26) < 701) : ∀ l : Nat, l ≤ 4 → m_rk M = (l : Int) → m_lv k (l + 1) (m_on M 1) 1 M2 → (l = 2 → x = 1 ∧ M' = m_bn M M2) → (¬ l = 2 → m_tl k l (m_bn M M2) x M') → (ax_g (m_bn M M2)) → m_tl k l M x M'
  | 0, _, hr, h, _, t, _ => fun y1 hy1 Φ Θ hh => by
    have hc := m_rk0 hr
    have ho : m_oc M = 17 := by unfold m_oc; rw [if_pos hc]
    have t := t (by decide)
    rw [m_bn_n (by rw [hr]; decide) ho] at t
    refine r_Model_readD_9 hg hy1 (s_see hg mi ⟨fun _ => ⟨⟨by omega, by omega⟩, fun V2 e2 => ?_⟩, fun z => absurd hc z⟩)
    rw [show V2 = m_on M 1 from e2]
    exact ax_Ie.k h (by omega) (fun hg2 _ => ⟨fun z => absurd z (by decide), fun _ => ⟨hp, s_makePart hg2 (by decide) (hg2 _ _) (hg _ _) (hg2 _ _) (by decide) hq (t _ (ax_y_i _) Φ Θ hh)⟩⟩)
  | 1, _, hr, h, _, t, _ => fun y1 hy1 Φ Θ hh => by
    have hc := m_rk1 hr
    have ho : m_oc M = 16 := by unfold m_oc; rw [if_neg (by omega), if_pos hc]
    have t := t (by decide)
    rw [m_bn_n (by rw [hr]; decide) ho] at t
    refine r_Model_readE_9 hg hy1 (s_see hg mi ⟨fun _ => ⟨⟨by omega, by omega⟩, fun V2 e2 => ?_⟩, fun z => absurd hc z⟩)
    rw [show V2 = m_on M 1 from e2]
    exact ax_Ie.k h (by omega) (fun hg2 _ => ⟨fun z => absurd z (by decide), fun _ => ⟨hp, s_makePart hg2 (by decide) (hg2 _ _) (hg _ _) (hg2 _ _) (by decide) hq (t _ (ax_y_i _) Φ Θ hh)⟩⟩)
  | 2, _, hr, h, t, _, hgb => fun Φ Θ hh => by
    have hc := m_rk2 hr
    have t := t rfl
    have hh : Φ 1 (m_bn M M2) := by have := hh (by rw [t.2]; exact hgb); rw [t.1, t.2] at this; exact this
    have n4 : ¬ m_rk M = 4 := by rw [hr]; decide
    have e1 : k_Model_readF_57 (20 * k + 15) (m_see M) none none 1 M Φ Θ := by
      refine r_Model_readF_57 hg (m_see_rg hg) ax_y_n ax_y_n (by decide) ⟨fun z => absurd z (by decide), fun _ => ⟨⟨by omega, by omega⟩, fun V2 e2 => ?_⟩⟩
      rw [show V2 = m_on M 1 from e2]
      refine ax_Ie.k h (by omega) (fun hg2 _ => ⟨fun z => absurd z (by decide), fun _ => ⟨fun c => ⟨hp, s_makePart hg2 (by decide) (hg2 _ _) (hg _ _) (hg2 _ _) (by decide) hq ?_⟩, fun c1 => ⟨fun c => ⟨hp, s_makePart hg2 (by decide) (hg2 _ _) (hg _ _) (hg2 _ _) (by decide) hq ?_⟩, fun c2 => ⟨fun c => ⟨hp, s_makePart hg2 (by decide) (hg2 _ _) (hg _ _) (hg2 _ _) (by decide) hq ?_⟩, fun c3 => ⟨hp, s_makePart hg2 (by decide) (hg2 _ _) (hg _ _) (hg2 _ _) (by decide) hq ?_⟩⟩⟩⟩⟩)
      · rw [m_bn_n n4 (show m_oc M = 12 by unfold m_oc; rw [if_neg (by omega), if_neg (by omega), if_pos c])] at hh; exact hh
      · rw [m_bn_n n4 (show m_oc M = 13 by unfold m_oc; rw [if_neg (by omega), if_neg (by omega), if_neg c1, if_pos c])] at hh; exact hh
      · rw [m_bn_n n4 (show m_oc M = 14 by unfold m_oc; rw [if_neg (by omega), if_neg (by omega), if_neg c1, if_neg c2, if_pos c])] at hh; exact hh
      · have c : m_see M = 62 := by
          rcases hc with hc | ⟨hc, -⟩
          · rcases hc with hc | hc | hc <;> omega
          · exact hc
        rw [m_bn_n n4 (show m_oc M = 15 by unfold m_oc; rw [if_neg (by omega), if_neg (by omega), if_neg c1, if_neg c2, if_neg c3, if_pos c])] at hh; exact hh
    refine s_see hg mi ⟨fun _ => e1, fun n1 => ⟨fun _ => e1, fun n2 => ⟨fun _ => e1, fun n3 => ⟨fun _ => ⟨fun _ => e1, fun w => ⟨fun w2 => ?_, fun _ => e1⟩⟩, fun n4 => ?_⟩⟩⟩⟩
    · rcases hc with hc | ⟨-, hc | hc⟩
      · rcases hc with hc | hc | hc <;> omega
      · exact absurd hc w
      · omega
    · rcases hc with hc | ⟨hc, -⟩
      · rcases hc with hc | hc | hc <;> omega
      · omega
  | 3, _, hr, h, _, t, _ => fun y1 y2 hy1 hy2 Φ Θ hh => by
    have hc := m_rk3 hr
    have n4 : ¬ m_rk M = 4 := by rw [hr]; decide
    have t := t (by decide)
    have e1 : k_Model_readG_34 (20 * k + 14) y1 y2 M Φ Θ := by
      refine r_Model_readG_34 hg hy1 hy2 (s_see hg mi ⟨⟨by omega, by omega⟩, fun V2 e2 => ?_⟩)
      rw [show V2 = m_on M 1 from e2]
      refine ax_Ie.k h (by omega) (fun hg2 _ => ⟨fun z => absurd z (by decide), fun _ => ⟨fun c => ⟨hp, s_makePart hg2 (by decide) (hg2 _ _) (hg _ _) (hg2 _ _) (by decide) hq ?_⟩, fun c1 => ⟨hp, s_makePart hg2 (by decide) (hg2 _ _) (hg _ _) (hg2 _ _) (by decide) hq ?_⟩⟩⟩)
      · rw [m_bn_n n4 (show m_oc M = 7 by unfold m_oc; rw [if_neg (by omega), if_neg (by omega), if_neg (by omega), if_neg (by omega), if_neg (by omega), if_neg (by omega), if_pos c])] at t
        exact t _ _ (ax_y_i _) (ax_y_i _) Φ Θ hh
      · have c : m_see M = 45 := by rcases hc with hc | ⟨hc, -⟩; exact absurd hc c1; exact hc
        rw [m_bn_n n4 (show m_oc M = 8 by unfold m_oc; rw [if_neg (by omega), if_neg (by omega), if_neg (by omega), if_neg (by omega), if_neg (by omega), if_neg (by omega), if_neg c1, if_pos c])] at t
        exact t _ _ (ax_y_i _) (ax_y_i _) Φ Θ hh
    refine r_Model_readG_9 hg hy1 hy2 (s_see hg mi ⟨fun _ => e1, fun n1 => s_see hg mi ⟨fun z => s_isArrow hg mi (ax_b_n (fun w => ?_) e1), fun n2 => ?_⟩⟩)
    · rcases hc with hc | ⟨-, hc⟩
      · omega
      · exact hc w.2
    · rcases hc with hc | ⟨hc, -⟩ <;> omega
  | 4, _, hr, h, _, t, _ => fun y1 y2 y3 hy1 hy2 hy3 Φ Θ hh => by
    have hc := m_rk4 hr
    have t := t (by decide)
    have e1 : k_Model_readH_36 (20 * k + 13) y1 y2 y3 M Φ Θ := by
      refine r_Model_readH_36 hg hy1 hy2 hy3 (s_see hg mi ⟨⟨by omega, by omega⟩, fun V2 e2 => ?_⟩)
      rw [show V2 = m_on M 1 from e2]
      refine ax_Ie.k h (by omega) (fun hg2 _ => ⟨fun z => absurd z (by decide), fun _ => ⟨fun c => ⟨hp, s_makePart hg2 (by decide) (hg2 _ _) (hg _ _) (hg2 _ _) (by decide) hq ⟨hq, fun V9 e9 => ?_⟩⟩, fun c1 => ⟨fun c => ⟨hp, s_makePart hg2 (by decide) (hg2 _ _) (hg _ _) (hg2 _ _) (by decide) hq ⟨hq, fun V9 e9 => ?_⟩⟩, fun c2 => ⟨hp, s_makePart hg2 (by decide) (hg2 _ _) (hg _ _) (hg2 _ _) (by decide) hq ⟨hq, fun V9 e9 => ?_⟩⟩⟩⟩⟩)
      · rw [m_bn_4 hr (show m_oc M = 9 by unfold m_oc; rw [if_neg (by omega), if_neg (by omega), if_neg (by omega), if_neg (by omega), if_neg (by omega), if_neg (by omega), if_neg (by omega), if_neg (by omega), if_pos c])] at t
        rw [e9]; exact t _ _ _ (ax_y_i _) (ax_y_i _) (ax_y_i _) Φ Θ hh
      · rw [m_bn_4 hr (show m_oc M = 10 by unfold m_oc; rw [if_neg (by omega), if_neg (by omega), if_neg (by omega), if_neg (by omega), if_neg (by omega), if_neg (by omega), if_neg (by omega), if_neg (by omega), if_neg c1, if_pos c])] at t
        rw [e9]; exact t _ _ _ (ax_y_i _) (ax_y_i _) (ax_y_i _) Φ Θ hh
      · have c : m_see M = 37 := by rcases hc with hc | hc | hc <;> omega
        rw [m_bn_4 hr (show m_oc M = 11 by unfold m_oc; rw [if_neg (by omega), if_neg (by omega), if_neg (by omega), if_neg (by omega), if_neg (by omega), if_neg (by omega), if_neg (by omega), if_neg (by omega), if_neg c1, if_neg c2])] at t
        rw [e9]; exact t _ _ _ (ax_y_i _) (ax_y_i _) (ax_y_i _) Φ Θ hh
    exact r_Model_readH_9 hg hy1 hy2 hy3 (s_see hg mi ⟨fun _ => e1, fun n1 => s_see hg mi ⟨fun _ => e1, fun n2 => s_see hg mi ⟨fun _ => e1, fun n3 => by rcases hc with hc | hc | hc <;> omega⟩⟩⟩)
  | n + 5, h0, _, _, _, _, _ => by omega
end Levels2
