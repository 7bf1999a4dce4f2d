/-! THE LEVELS of the model's operators: 0 is |, 1 is &, 2 compares, 3 is + and -, 4 is *, / and % -/
def m_rk (M : ax_V) : Int := if m_see M = 124 then 0 else if m_see M = 38 then 1 else if m_see M = 61 ∨ m_see M = 35 ∨ m_see M = 60 then 2 else if m_see M = 62 then (if (M 222 71) = 0 ∨ 0 < (M 222 72) then 2 else -1) else if m_see M = 43 then 3 else if m_see M = 45 then (if m_nxt M = 62 then -1 else 3) else if m_see M = 42 ∨ m_see M = 47 ∨ m_see M = 37 then 4 else -1
def m_oc (M : ax_V) : Int := if m_see M = 124 then 17 else if m_see M = 38 then 16 else if m_see M = 61 then 12 else if m_see M = 35 then 13 else if m_see M = 60 then 14 else if m_see M = 62 then 15 else if m_see M = 43 then 7 else if m_see M = 45 then 8 else if m_see M = 42 then 9 else if m_see M = 47 then 10 else 11
theorem m_oc_in (M : ax_V) : 7 ≤ m_oc M ∧ m_oc M ≤ 17 := by
  unfold m_oc
  repeat' split
  all_goals decide
/-- the rest of a level's method, with its first part read -/
def m_tl (k l : Nat) (M : ax_V) (x : Int) (M' : ax_V) : Prop := match l with
  | 0 => ∀ y1, ax_y y1 → ∀ (Φ : Int → ax_V → Prop) (Θ : ax_V → Prop), (ax_g M' → Φ x M') → k_Model_readD_9 (20 * k + 17) y1 M Φ Θ
  | 1 => ∀ y1, ax_y y1 → ∀ (Φ : Int → ax_V → Prop) (Θ : ax_V → Prop), (ax_g M' → Φ x M') → k_Model_readE_9 (20 * k + 16) y1 M Φ Θ
  | 2 => ∀ (Φ : Int → ax_V → Prop) (Θ : ax_V → Prop), (ax_g M' → Φ x M') → ax_I ay_lay (20 * k + 15) q_Model_see [.ref 222] M (fun r2 V2 => ((r2 = 61 → k_Model_readF_57 (20 * k + 15) r2 none none 1 V2 Φ Θ) ∧ (¬ r2 = 61 → ((r2 = 35 → k_Model_readF_57 (20 * k + 15) r2 none none 1 V2 Φ Θ) ∧ (¬ r2 = 35 → ((r2 = 60 → k_Model_readF_57 (20 * k + 15) r2 none none 1 V2 Φ Θ) ∧ (¬ r2 = 60 → ((r2 = 62 → ((V2 222 71 = 0 → k_Model_readF_57 (20 * k + 15) r2 none none 1 V2 Φ Θ) ∧ (¬ V2 222 71 = 0 → ((V2 222 72 ≤ 0 → k_Model_readF_57 (20 * k + 15) r2 none none 0 V2 Φ Θ) ∧ (0 < V2 222 72 → k_Model_readF_57 (20 * k + 15) r2 none none 1 V2 Φ Θ))))) ∧ (¬ r2 = 62 → k_Model_readF_57 (20 * k + 15) r2 none none 0 V2 Φ Θ))))))))) Θ
  | 3 => ∀ y1 y2, ax_y y1 → ax_y y2 → ∀ (Φ : Int → ax_V → Prop) (Θ : ax_V → Prop), (ax_g M' → Φ x M') → k_Model_readG_9 (20 * k + 14) y1 y2 M Φ Θ
  | _ => ∀ y1 y2 y3, ax_y y1 → ax_y y2 → ax_y y3 → ∀ (Φ : Int → ax_V → Prop) (Θ : ax_V → Prop), (ax_g M' → Φ x M') → k_Model_readH_9 (20 * k + 13) y1 y2 y3 M Φ Θ
/-- a level's method -/
def m_lv (k l : Nat) (M : ax_V) (x : Int) (M' : ax_V) : Prop := match l with
  | 0 => ax_Ie ay_lay (20 * k + 18) q_Model_readD [.ref 222] M x M'
  | 1 => ax_Ie ay_lay (20 * k + 17) q_Model_readE [.ref 222] M x M'
  | 2 => ax_Ie ay_lay (20 * k + 16) q_Model_readF [.ref 222] M x M'
  | 3 => ax_Ie ay_lay (20 * k + 15) q_Model_readG [.ref 222] M x M'
  | 4 => ax_Ie ay_lay (20 * k + 14) q_Model_readH [.ref 222] M x M'
  | _ => ax_Ie ay_lay (20 * k + 13) q_Model_readJ [.ref 222] M x M'
section Levels
variable {k : Nat} {M M1 M2 M' : ax_V} {x : Int}
theorem m_lv.no (hg : ax_g M) : ∀ l : Nat, l ≤ 4 → m_lv k (l + 1) M 0 M1 → m_lv k l M 0 M1
  | 0, _, h => r_Model_readD hg (ax_Ie.k h (by omega) (fun _ _ => ⟨fun _ => ⟨rfl, rfl⟩, fun z => absurd rfl z⟩))
  | 1, _, h => r_Model_readE hg (ax_Ie.k h (by omega) (fun _ _ => ⟨fun _ => ⟨rfl, rfl⟩, fun z => absurd rfl z⟩))
  | 2, _, h => r_Model_readF hg (ax_Ie.k h (by omega) (fun _ _ => ⟨fun _ => ⟨rfl, rfl⟩, fun z => absurd rfl z⟩))
  | 3, _, h => r_Model_readG hg (ax_Ie.k h (by omega) (fun _ _ => ⟨fun _ => ⟨rfl, rfl⟩, fun z => absurd rfl z⟩))
  | 4, _, h => r_Model_readH hg (ax_Ie.k h (by omega) (fun _ _ => ⟨fun _ => ⟨rfl, rfl⟩, fun z => absurd rfl z⟩))
  | n + 5, h0, _ => by omega
theorem m_lv.yes (hg : ax_g M) : ∀ l : Nat, l ≤ 4 → m_lv k (l + 1) M 1 M1 → m_tl k l M1 x M' → m_lv k l M x M'
  | 0, _, h, t => r_Model_readD hg (ax_Ie.k h (by omega) (fun _ _ => ⟨fun z => absurd z (by decide), fun _ => t _ ax_y_n _ _ (fun _ => ⟨rfl, rfl⟩)⟩))
  | 1, _, h, t => r_Model_readE hg (ax_Ie.k h (by omega) (fun _ _ => ⟨fun z => absurd z (by decide), fun _ => t _ ax_y_n _ _ (fun _ => ⟨rfl, rfl⟩)⟩))
  | 2, _, h, t => r_Model_readF hg (ax_Ie.k h (by omega) (fun _ _ => ⟨fun z => absurd z (by decide), fun _ => t _ _ (fun _ => ⟨rfl, rfl⟩)⟩))
  | 3, _, h, t => r_Model_readG hg (ax_Ie.k h (by omega) (fun _ _ => ⟨fun z => absurd z (by decide), fun _ => t _ _ ax_y_n ax_y_n _ _ (fun _ => ⟨rfl, rfl⟩)⟩))
  | 4, _, h, t => r_Model_readH hg (ax_Ie.k h (by omega) (fun _ _ => ⟨fun z => absurd z (by decide), fun _ => t _ _ _ ax_y_n ax_y_n ax_y_n _ _ (fun _ => ⟨rfl, rfl⟩)⟩))
  | n + 5, h0, _, _ => by omega
/-- no operator of this level -/
theorem m_tl.exit (hg : ax_g M) (mi : m_in M) : ∀ l : Nat, l ≤ 4 → ¬ m_rk M = (l : Int) → m_tl k l M 1 M
  | 0, _, hr => fun y1 hy1 Φ Θ hh => by
    have h0 : ¬ m_see M = 124 := fun z => hr (by unfold m_rk; rw [if_pos z]; rfl)
    exact r_Model_readD_9 hg hy1 (s_see hg mi ⟨fun z => absurd z h0, fun _ => hh hg⟩)
  | 1, _, hr => fun y1 hy1 Φ Θ hh => by
    have h0 : ¬ m_see M = 38 := fun z => hr (by unfold m_rk; rw [if_neg (by omega), if_pos z]; rfl)
    exact r_Model_readE_9 hg hy1 (s_see hg mi ⟨fun z => absurd z h0, fun _ => hh hg⟩)
  | 2, _, hr => fun Φ Θ hh => by
    have e0 : k_Model_readF_57 (20 * k + 15) (m_see M) none none 0 M Φ Θ := r_Model_readF_57 hg (m_see_rg hg) ax_y_n ax_y_n (by decide) ⟨fun _ => hh hg, fun z => absurd rfl z⟩
    have h1 : ¬ m_see M = 61 := fun z => hr (by unfold m_rk; rw [if_neg (by omega), if_neg (by omega), if_pos (Or.inl z)]; rfl)
    have h2 : ¬ m_see M = 35 := fun z => hr (by unfold m_rk; rw [if_neg (by omega), if_neg (by omega), if_pos (Or.inr (Or.inl z))]; rfl)
    have h3 : ¬ m_see M = 60 := fun z => hr (by unfold m_rk; rw [if_neg (by omega), if_neg (by omega), if_pos (Or.inr (Or.inr z))]; rfl)
    have h4 : m_see M = 62 → ¬ ((M 222 71) = 0 ∨ 0 < (M 222 72)) := fun z w => hr (by unfold m_rk; rw [if_neg (by omega), if_neg (by omega), if_neg (by omega), if_pos z, if_pos w]; rfl)
    exact s_see hg mi ⟨fun z => absurd z h1, fun _ => ⟨fun z => absurd z h2, fun _ => ⟨fun z => absurd z h3, fun _ => ⟨fun z => ⟨fun w => absurd (Or.inl w) (h4 z), fun _ => ⟨fun _ => e0, fun w => absurd (Or.inr w) (h4 z)⟩⟩, fun _ => e0⟩⟩⟩⟩
  | 3, _, hr => fun y1 y2 hy1 hy2 Φ Θ hh => by
    have h1 : ¬ m_see M = 43 := fun z => hr (by unfold m_rk; rw [if_neg (by omega), if_neg (by omega), if_neg (by omega), if_neg (by omega), if_pos z]; rfl)
    have h2 : m_see M = 45 → m_nxt M = 62 := fun z => by
      by_cases w : m_nxt M = 62
      · exact w
      · exact absurd (by unfold m_rk; rw [if_neg (by omega), if_neg (by omega), if_neg (by omega), if_neg (by omega), if_neg (by omega), if_pos z, if_neg w]; rfl) hr
    exact r_Model_readG_9 hg hy1 hy2 (s_see hg mi ⟨fun z => absurd z h1, fun _ => s_see hg mi ⟨fun z => s_isArrow hg mi (ax_b_y ⟨z, h2 z⟩ (hh hg)), fun _ => hh hg⟩⟩)
  | 4, _, hr => fun y1 y2 y3 hy1 hy2 hy3 Φ Θ hh => by
    have h1 : ¬ (m_see M = 42 ∨ m_see M = 47 ∨ m_see M = 37) := fun z => hr (by unfold m_rk; rw [if_neg (by omega), if_neg (by omega), if_neg (by omega), if_neg (by omega), if_neg (by omega), if_neg (by omega), if_pos z]; rfl)
    exact r_Model_readH_9 hg hy1 hy2 hy3 (s_see hg mi ⟨fun z => absurd (Or.inl z) h1, fun _ => s_see hg mi ⟨fun z => absurd (Or.inr (Or.inl z)) h1, fun _ => s_see hg mi ⟨fun z => absurd (Or.inr (Or.inr z)) h1, fun _ => hh hg⟩⟩⟩)
  | n + 5, h0, _ => by omega
/-- what a level's operator makes -/
def m_bn (M M2 : ax_V) : ax_V := if m_rk M = 4 then ax_u (m_mk M2 (m_oc M) (M2 242 (M 222 74)) (M 222 74) (M2 222 74) (-1)) 243 (M2 222 26) (M 222 68) else m_mk M2 (m_oc M) (M2 242 (M 222 74)) (M 222 74) (M2 222 74) (-1)
end Levels
