/-! THE CLASS'S LOOP OVER OPERATORS against the model's levels -/
def e_outR (B r k rank : Nat) (C M : ax_V) : Prop :=
  (∃ p C' M', ax_Ie (az_W B (az_ER B r)) (20 * k + 17 - rank) q_Reader_readRanked [.ref r, ax_i (rank : Int)] C p C' ∧ m_lv k rank M 1 M' ∧ e_ok C M C' M' p) ∨
  (∃ C' M', ax_Xe (az_W B (az_ER B r)) (20 * k + 17 - rank) q_Reader_readRanked [.ref r, ax_i (rank : Int)] C C' ∧ m_lv k rank M 0 M' ∧ e_no C M C' M') ∨
  (∃ p C' M', ax_Ie (az_W B (az_ER B r)) (20 * k + 17 - rank) q_Reader_readRanked [.ref r, ax_i (rank : Int)] C p C' ∧ m_lv k rank M 0 M' ∧ e_half C M C' M' p ∧ e_dig C')
def e_lpI (B r k rank : Nat) (p h x4 : Int) (C1 : ax_V) (q : Int) (C' : ax_V) : Prop := ∀ y5 y6 y7 y8, ax_y y5 → ax_y y6 → ax_y y7 → ax_y y8 → ∀ (Φ : Int → ax_V → Prop) (Θ : ax_V → Prop), (ax_g C' → Φ q C') → k_Reader_readRanked_14 B r (20 * k + 16 - rank) (rank : Int) p h x4 y5 y6 y7 y8 C1 Φ Θ
def e_lpX (B r k rank : Nat) (p h x4 : Int) (C1 : ax_V) (C' : ax_V) : Prop := ∀ y5 y6 y7 y8, ax_y y5 → ax_y y6 → ax_y y7 → ax_y y8 → ∀ (Φ : Int → ax_V → Prop) (Θ : ax_V → Prop), (ax_g C' → Θ C') → k_Reader_readRanked_14 B r (20 * k + 16 - rank) (rank : Int) p h x4 y5 y6 y7 y8 C1 Φ Θ
section Loop
variable {B r k rank : Nat} {C M : ax_V}
theorem t_opDig {d : Nat} {Φ : Int → ax_V → Prop} {Θ : ax_V → Prop} (hg : ax_g C) (ci : c_in C) (dg : e_dig C) (hh : Φ (-1) C) : ax_I (az_W B (az_ER B r)) (d + 3) q_Reader_operatorHere [.ref r] C Φ Θ := by
  have dg : 48 ≤ c_see C ∧ c_see C ≤ 57 := dg
  exact r_Reader_operatorHere hg (t_look hg ci ⟨fun z => by omega, fun z => by omega, fun z => by omega, fun z => by omega, fun z => by omega, fun z => by omega, fun z => by omega, fun z => by omega, fun z => by omega, fun z => by omega, fun z => by omega, fun _ _ _ _ _ _ _ _ _ _ _ => hh⟩)
theorem e_lpI.dig {p h x4 : Int} (hrank : rank ≤ 5) (hg : ax_g C) (ci : c_in C) (dg : e_dig C) (rp : ax_rg p) (rh : ax_rg h) (rx : ax_rg x4) : e_lpI B r k rank p h x4 C p C := by
  intro y5 y6 y7 y8 hy5 hy6 hy7 hy8 Φ Θ hh
  obtain ⟨d, ed⟩ : ∃ d : Nat, 20 * k + 16 - rank = d + 3 := ⟨20 * k + 13 - rank, by omega⟩
  rw [ed]
  refine r_Reader_readRanked_14 hg ⟨by omega, by omega⟩ rp rh rx hy5 hy6 hy7 hy8 ⟨fun _ => hh hg, fun _ => t_opDig hg ci dg ?_⟩
  refine r_Reader_rankOf hg (by decide) ⟨fun z => by omega, fun z => by omega, fun z => by omega, fun z => by omega, fun z => by omega, fun z => by omega, fun z => by omega, fun _ _ _ _ _ _ _ => ⟨fun _ => hh hg, fun z => absurd rfl z⟩⟩
/-- no operator for this call: the part is given as it is -/
theorem e_lpI.out {p h x4 : Int} (hrank : rank ≤ 5) (hR : e_R C M) (rp : ax_rg p) (rh : ax_rg h) (rx : ax_rg x4) (hn : m_rk M = -1 ∨ m_rk M < (rank : Int) ∨ h < m_rk M) : e_lpI B r k rank p h x4 C p C := by
  intro y5 y6 y7 y8 hy5 hy6 hy7 hy8 Φ Θ hh
  obtain ⟨hg, hgM⟩ := hR.1
  obtain ⟨d, ed⟩ : ∃ d : Nat, 20 * k + 16 - rank = d + 3 := ⟨20 * k + 13 - rank, by omega⟩
  rw [ed]
  refine r_Reader_readRanked_14 hg ⟨by omega, by omega⟩ rp rh rx hy5 hy6 hy7 hy8 ⟨fun _ => hh hg, fun _ => t_opHere hR (t_rankOf hg ?_)⟩
  by_cases h1 : m_rk M = -1
  · exact ⟨fun _ => hh hg, fun z => absurd (if_pos h1) z⟩
  · rw [if_neg h1]
    refine ⟨fun _ => hh hg, fun _ => ⟨fun _ => hh hg, fun z => ⟨fun z2 => ?_, fun _ => hh hg⟩⟩⟩
    rcases hn with w | w | w
    · exact absurd w h1
    · omega
    · omega
/-- one more operator: behind it the rest is read by a higher rank -/
theorem e_lpI.step {p h x4 t : Int} {C2 : ax_V} {o : Nat} (hrank : rank ≤ 5) (hR : e_R C M) (hp : 0 ≤ p ∧ p < 700) (rh : ax_rg h) (rx : ax_rg x4) (hx : x4 < 700) (ho : m_rk M = (o : Int)) (ho4 : o ≤ 4) (h1 : rank ≤ o) (h2 : (o : Int) ≤ h) (ht : 0 ≤ t ∧ t < 700) (hc2 : 0 ≤ (C2 516 0) ∧ (C2 516 0) < 700) (hr : ax_Ie (az_W B (az_ER B r)) (20 * k + 17 - (o + 1)) q_Reader_readRanked [.ref r, ax_i ((o + 1 : Nat) : Int)] (c_on C 1) t C2) (Φ : Int → ax_V → Prop) (Θ : ax_V → Prop)
    (hk : ax_g C2 → ∀ y5 y6 y7 y8, ax_y y5 → ax_y y6 → ax_y y7 → ax_y y8 → k_Reader_readRanked_14 B r (20 * k + 16 - rank) (rank : Int) (C2 516 0) (if o = 2 then 1 else (o : Int)) (x4 + 1) y5 y6 y7 y8 (c_join C2 (e_op (m_oc M)) (C 600 6) p t (-1)) Φ Θ) : ∀ y5 y6 y7 y8, ax_y y5 → ax_y y6 → ax_y y7 → ax_y y8 → k_Reader_readRanked_14 B r (20 * k + 16 - rank) (rank : Int) p h x4 y5 y6 y7 y8 C Φ Θ := by
  intro y5 y6 y7 y8 hy5 hy6 hy7 hy8
  obtain ⟨hg, hgM⟩ := hR.1
  obtain ⟨d, ed⟩ : ∃ d : Nat, 20 * k + 16 - rank = d + 3 := ⟨20 * k + 13 - rank, by omega⟩
  have n1 : ¬ m_rk M = -1 := by omega
  have eo : c_opr M = e_op (m_oc M) := if_neg n1
  have hoc := m_oc_in M
  have roc : 0 ≤ e_op (m_oc M) ∧ e_op (m_oc M) ≤ 30 := by
    unfold e_op
    repeat' split
    all_goals exact ⟨by omega, by omega⟩
  have a1 := hR.2.2.1.1
  have asz := hR.2.1.2.2.1
  rw [ed] at hk ⊢
  refine r_Reader_readRanked_14 hg ⟨by omega, by omega⟩ ⟨by omega, by omega⟩ rh rx hy5 hy6 hy7 hy8 ⟨fun z => by omega, fun _ => t_opHere hR (t_rankOf hg ?_)⟩
  rw [if_neg n1, ho, eo]
  refine ⟨fun z => by omega, fun _ => ⟨fun z => by omega, fun _ => ⟨fun _ => ⟨⟨by omega, by omega⟩, fun V3 e3 => ?_⟩, fun z => by omega⟩⟩⟩
  rw [show V3 = c_on C 1 from e3]
  have hr' : ax_Ie (az_W B (az_ER B r)) (20 * k + 17 - (o + 1)) q_Reader_readRanked [.ref r, ax_i ((o : Int) + 1)] (c_on C 1) t C2 := hr
  refine hr'.k (by omega) (fun hg2 _ => t_join hg2 ⟨by omega, by omega⟩ (hg _ _) hp ht (by decide) hc2 ?_)
  have hk := hk hg2
  refine ⟨fun z => ?_, fun z => ?_⟩
  · rw [if_pos (by omega)] at hk
    exact hk _ _ _ _ (ax_y_i _) (ax_y_i _) (ax_y_i _) (ax_y_i _)
  · rw [if_neg (by omega)] at hk
    exact hk _ _ _ _ (ax_y_i _) (ax_y_i _) (ax_y_i _) (ax_y_i _)
theorem e_lpX.step {p h x4 : Int} {C2 : ax_V} {o : Nat} (hrank : rank ≤ 5) (hR : e_R C M) (hp : 0 ≤ p ∧ p < 700) (rh : ax_rg h) (rx : ax_rg x4) (hx : x4 < 700) (ho : m_rk M = (o : Int)) (ho4 : o ≤ 4) (h1 : rank ≤ o) (h2 : (o : Int) ≤ h) (hr : ax_Xe (az_W B (az_ER B r)) (20 * k + 17 - (o + 1)) q_Reader_readRanked [.ref r, ax_i ((o + 1 : Nat) : Int)] (c_on C 1) C2) : e_lpX B r k rank p h x4 C C2 := by
  intro y5 y6 y7 y8 hy5 hy6 hy7 hy8 Φ Θ hh
  obtain ⟨hg, hgM⟩ := hR.1
  obtain ⟨d, ed⟩ : ∃ d : Nat, 20 * k + 16 - rank = d + 3 := ⟨20 * k + 13 - rank, by omega⟩
  have n1 : ¬ m_rk M = -1 := by omega
  have eo : c_opr M = e_op (m_oc M) := if_neg n1
  have hoc := m_oc_in M
  have roc : 0 ≤ e_op (m_oc M) ∧ e_op (m_oc M) ≤ 30 := by
    unfold e_op
    repeat' split
    all_goals exact ⟨by omega, by omega⟩
  have a1 := hR.2.2.1.1
  have asz := hR.2.1.2.2.1
  rw [ed]
  refine r_Reader_readRanked_14 hg ⟨by omega, by omega⟩ ⟨by omega, by omega⟩ rh rx hy5 hy6 hy7 hy8 ⟨fun z => by omega, fun _ => t_opHere hR (t_rankOf hg ?_)⟩
  rw [if_neg n1, ho, eo]
  refine ⟨fun z => by omega, fun _ => ⟨fun z => by omega, fun _ => ⟨fun _ => ⟨⟨by omega, by omega⟩, fun V3 e3 => ?_⟩, fun z => by omega⟩⟩⟩
  rw [show V3 = c_on C 1 from e3]
  have hr' : ax_Xe (az_W B (az_ER B r)) (20 * k + 17 - (o + 1)) q_Reader_readRanked [.ref r, ax_i ((o : Int) + 1)] (c_on C 1) C2 := hr
  exact hr'.kI (by omega) hh
end Loop
