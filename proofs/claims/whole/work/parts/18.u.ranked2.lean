/-! readRanked against the model's levels -/
section Ranked2
variable {B r k : Nat}
theorem m_lv5 {M M1 M' : ax_V} {x : Int} (hg : ax_g M) (hk : ax_Ie ay_lay (20 * k + 12) q_Model_readK [.ref 222] M 1 M1) (ht : m_jt (20 * k + 7) M1 x M') : m_lv k 5 M x M' :=
  r_Model_readJ hg (hk.k (by omega) (fun _ _ => ⟨fun z => absurd z (by decide), fun _ => ht _ _ _ _ ax_y_n ax_y_n ax_y_n ax_y_n _ _ (fun _ => ⟨rfl, rfl⟩)⟩))
theorem m_lv5n {M M1 : ax_V} (hg : ax_g M) (hk : ax_Ie ay_lay (20 * k + 12) q_Model_readK [.ref 222] M 0 M1) : m_lv k 5 M 0 M1 :=
  r_Model_readJ hg (hk.k (by omega) (fun _ _ => ⟨fun _ => ⟨rfl, rfl⟩, fun z => absurd rfl z⟩))
set_option maxHeartbeats 1000000 in
theorem e_ranked_aux (hK : e_K B r k) (rank : Nat) (hrank : rank ≤ 5) (ihR : ∀ rank' : Nat, rank < rank' → rank' ≤ 5 → ∀ C M : ax_V, e_R C M → (M 222 69) + (k : Int) = 20 → e_outR B r k rank' C M) (C M : ax_V) (h : e_R C M) (hk : (M 222 69) + (k : Int) = 20) : e_outR B r k rank C M := by
  obtain ⟨hgC, hgM⟩ := id h.1
  have a1 := h.2.2.1.1
  have asz := h.2.1.2.2.1
  obtain ⟨d, ed⟩ : ∃ d : Nat, 20 * k + 16 - rank = (d + 5) + 1 := ⟨20 * k + 10 - rank, by omega⟩
  have ed2 : 20 * k + 17 - rank = (20 * k + 16 - rank) + 1 := by omega
  have rr : ax_rg (rank : Int) := ⟨by omega, by omega⟩
  -- the class: readK, sampled, the loop
  have hcl : ∀ (p : Int) (C1 : ax_V), ax_Ie (az_W B (az_ER B r)) (20 * k + 10) q_Reader_readK [.ref r] C p C1 → ∀ (Φ : Int → ax_V → Prop) (Θ : ax_V → Prop), (ax_g C1 → ax_rg p → k_Reader_sampled_4 B r (d + 5) (some (ax_i p)) p 0 none none C1 (fun r2 V2 => k_Reader_readRanked_14 B r (20 * k + 16 - rank) (rank : Int) r2 4 0 none none none none V2 Φ Θ) Θ) → ax_I (az_W B (az_ER B r)) (20 * k + 17 - rank) q_Reader_readRanked [.ref r, ax_i (rank : Int)] C Φ Θ := by
    intro p C1 ia Φ Θ hh
    rw [ed2]
    refine r_Reader_readRanked hgC rr (ia.k (by omega) (fun hg1 hp => ?_))
    have := r_Reader_sampled (B := B) (r := r) (d := d + 5) (Θ := Θ) hg1 hp (hh hg1 hp)
    rw [← ed] at this
    exact this
  have hmd : ∀ {x : Int} {M1 M' : ax_V}, m_lv k 5 M 1 M1 → m_ch k rank (5 - rank) M1 x M' → m_lv k rank M x M' := by
    intro x M1 M' a b
    exact m_lv.ch hgM (5 - rank) M1 (by omega) (by rw [show rank + (5 - rank) = 5 by omega]; exact a) b
  have hmd0 : ∀ {M1 : ax_V}, m_lv k 5 M 0 M1 → m_lv k rank M 0 M1 := by
    intro M1 a
    exact m_lv.down hgM (5 - rank) (by omega) (by rw [show rank + (5 - rank) = 5 by omega]; exact a)
  have e4 : (rank : Int) + ((5 - rank : Nat) : Int) - 1 = 4 := by omega
  rcases hK C M h hk with ⟨p, C1, M1, ia, ib, ok⟩ | ⟨C1, M1, ia, ib, no⟩ | ⟨p, C1, M1, ia, ib, hf, dg⟩
  · have q6 := ok.2.2.2.2.2.1
    rcases e_smp (B := B) (r := r) (d := d) (dm := 20 * k + 7) h ((M1 222 3) - (M1 222 68)).toNat C1 M1 p 0 ok (Nat.le_refl _) (Int.le_refl _) (by omega) with ⟨q, C2, M2, sa, sb, ok2⟩ | ⟨C2, M2, sa, sb, no2⟩
    · have lv5 := m_lv5 hgM ib sb
      have q62 := ok2.2.2.2.2.2.1
      have hs : ∀ (p0 : ax_rg p) (Φ : Int → ax_V → Prop) (Θ : ax_V → Prop), (ax_g C2 → k_Reader_readRanked_14 B r (20 * k + 16 - rank) (rank : Int) q 4 0 none none none none C2 Φ Θ) → k_Reader_sampled_4 B r (d + 5) (some (ax_i p)) p 0 none none C1 (fun r2 V2 => k_Reader_readRanked_14 B r (20 * k + 16 - rank) (rank : Int) r2 4 0 none none none none V2 Φ Θ) Θ := fun _ Φ Θ hh => sa _ _ _ (ax_y_i _) ax_y_n ax_y_n _ _ hh
      rcases e_loop (B := B) (r := r) h hk hrank ihR ((M2 222 3) - (M2 222 68)).toNat (5 - rank) C2 M2 q 0 ok2 (Nat.le_refl _) (by omega) (Int.le_refl _) (by omega) with ⟨q', C', M', la, lb, lc⟩ | ⟨C', M', la, lb, lc⟩ | ⟨q', C', M', la, lb, lc⟩
      · rw [e4] at la
        exact Or.inl ⟨q', C', M', hcl p C1 ia _ _ (fun _ p0 => hs p0 _ _ (fun _ => la _ _ _ _ ax_y_n ax_y_n ax_y_n ax_y_n _ _ (fun _ => ⟨rfl, rfl⟩))), hmd lv5 lb, lc⟩
      · rw [e4] at la
        exact Or.inr (Or.inl ⟨C', M', ax_Xe.ofI (hcl p C1 ia _ _ (fun _ p0 => hs p0 _ _ (fun _ => la _ _ _ _ ax_y_n ax_y_n ax_y_n ax_y_n _ _ (fun _ => rfl)))), hmd lv5 lb, lc⟩)
      · rw [e4] at la
        exact Or.inr (Or.inr ⟨q', C', M', hcl p C1 ia _ _ (fun _ p0 => hs p0 _ _ (fun _ => la _ _ _ _ ax_y_n ax_y_n ax_y_n ax_y_n _ _ (fun _ => ⟨rfl, rfl⟩))), hmd lv5 lb, lc⟩)
    · exact Or.inr (Or.inl ⟨C2, M2, ax_Xe.ofI (hcl p C1 ia _ _ (fun _ _ => sa _ _ _ (ax_y_i _) ax_y_n ax_y_n _ _ (fun _ => rfl))), hmd0 (m_lv5 hgM ib sb), no2⟩)
  · refine Or.inr (Or.inl ⟨C1, M1, ?_, hmd0 (m_lv5n hgM ib), no⟩)
    rw [ed2]
    exact ax_Xe.ofI (r_Reader_readRanked hgC rr (ia.kI (by omega) (fun _ => rfl)))
  · have ci1 := e_half.ci h hf
    have hg1 := hf.1.1.1
    have dg' : 48 ≤ c_see C1 ∧ c_see C1 ≤ 57 := dg
    refine Or.inr (Or.inr ⟨p, C1, M1, hcl p C1 ia _ _ (fun _ p0 => ?_), hmd0 (m_lv5n hgM ib), hf, dg⟩)
    have hl : k_Reader_readRanked_14 B r (20 * k + 16 - rank) (rank : Int) p 4 0 none none none none C1 (fun y W => y = p ∧ W = C1) (fun _ => False) := e_lpI.dig hrank hg1 ci1 dg p0 (by decide) (by decide) _ _ _ _ ax_y_n ax_y_n ax_y_n ax_y_n _ _ (fun _ => ⟨rfl, rfl⟩)
    exact r_Reader_sampled_4 hg1 (ax_y_i _) p0 (by decide) ax_y_n ax_y_n ⟨fun _ => hl, fun _ => ⟨fun _ => t_look hg1 ci1 ⟨fun z => by omega, fun _ => hl⟩, fun _ => hl⟩⟩
set_option maxHeartbeats 1000000 in
theorem e_ranked (hK : e_K B r k) : ∀ (j rank : Nat), 5 ≤ rank + j → rank ≤ 5 → ∀ C M : ax_V, e_R C M → (M 222 69) + (k : Int) = 20 → e_outR B r k rank C M := by
  intro j
  induction j with
  | zero =>
    intro rank h5 hr C M h hk
    have e5 : rank = 5 := by omega
    subst e5
    exact e_ranked_aux hK 5 (Nat.le_refl _) (fun rank' a b => by omega) C M h hk
  | succ j ih => intro rank h5 hr C M h hk; exact e_ranked_aux hK rank hr (fun rank' a b C M h hk => ih rank' (by omega) b C M h hk) C M h hk
end Ranked2
