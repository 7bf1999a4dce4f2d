/-! THE LOOP, whole -/
section Ranked
variable {B r k rank : Nat} {C M : ax_V}
theorem m_bn_g {M M2 : ax_V} (hg : ax_g M) (hg2 : ax_g M2) (hq : ax_rg ((M2 222 26) + 1)) : ax_g (m_bn M M2) := by
  have ho := m_oc_in M
  have g : ax_g (m_mk M2 (m_oc M) (M2 242 (M 222 74)) (M 222 74) (M2 222 74) (-1)) := m_mk_g hg2 ⟨by omega, by omega⟩ (hg2 _ _) (hg _ _) (hg2 _ _) (by decide) hq
  unfold m_bn
  split
  · exact ax_u_g g (hg _ _)
  · exact g
theorem m_bn_at {M M2 : ax_V} (c : Nat) (q : Int) (h : ¬ (q = (M2 222 26) ∧ c = 243)) : m_bn M M2 c q = m_mk M2 (m_oc M) (M2 242 (M 222 74)) (M 222 74) (M2 222 74) (-1) c q := by
  unfold m_bn
  split
  · exact ax_u_o (fun z => h ⟨z.2, z.1⟩)
  · rfl
theorem m_bn_sg {M M2 : ax_V} (h1 : ¬ m_rk M = -1) (h : 9 ≤ m_oc M ∧ m_oc M ≤ 11) : m_bn M M2 243 (M2 222 26) = (M 222 68) := by
  have e : m_rk M = 4 := by rcases m_rk_oc h1 with ⟨u, v⟩ | ⟨u, v⟩ | ⟨u, v⟩ | ⟨u, v⟩ | ⟨u, v⟩ <;> omega
  unfold m_bn
  rw [if_pos e]
  exact ax_u_s _ _ _ _
theorem m_ch.one {k rk j n o : Nat} {M M2 M' : ax_V} {x : Int} (hg : ax_g M) (mi : m_in M) (hp : 0 ≤ (M 222 74) ∧ (M 222 74) < 701) (hq : 0 ≤ (M2 222 26) ∧ (M2 222 26) < 701) (hgb : ax_g (m_bn M M2)) (hj : rk + j = o) (ho4 : o ≤ 4) (ho : m_rk M = (o : Int)) (hn : rk + n ≤ 5) (hjn : j + 1 ≤ n) (hl : m_lv k (o + 1) (m_on M 1) 1 M2) (hc : m_ch k rk (if o = 2 then j else j + 1) (m_bn M M2) x M') : m_ch k rk n M x M' := by
  refine m_ch.down hg mi n hn hjn (fun l a b z => by rw [ho] at z; omega) ?_
  by_cases w : o = 2
  · rw [if_pos w] at hc
    refine Or.inl ⟨m_bn M M2, ?_, hc⟩
    rw [hj]
    exact m_tl.yes hg mi hp hq o ho4 ho hl (fun _ => ⟨rfl, rfl⟩) (fun z => absurd w z) hgb
  · rw [if_neg w] at hc
    rcases hc with ⟨M4, t, hc⟩ | ⟨t, e⟩
    · refine Or.inl ⟨M4, ?_, hc⟩
      rw [hj] at t ⊢
      exact m_tl.yes hg mi hp hq o ho4 ho hl (fun z => absurd z w) (fun _ => t) hgb
    · refine Or.inr ⟨?_, e⟩
      rw [hj] at t ⊢
      exact m_tl.yes hg mi hp hq o ho4 ho hl (fun z => absurd z w) (fun _ => t) hgb
set_option maxHeartbeats 2000000 in
theorem e_loop (h : e_R C M) (hk : (M 222 69) + (k : Int) = 20) (hrank : rank ≤ 5) (ihR : ∀ rank' : Nat, rank < rank' → rank' ≤ 5 → ∀ C M : ax_V, e_R C M → (M 222 69) + (k : Int) = 20 → e_outR B r k rank' C M) :
    ∀ (N n : Nat) (C1 M1 : ax_V) (p x4 : Int), e_ok C M C1 M1 p → ((M1 222 3) - (M1 222 68)).toNat ≤ N → rank + n ≤ 5 → 0 ≤ x4 → x4 < (M1 222 68) →
    (∃ q C' M', e_lpI B r k rank p ((rank : Int) + n - 1) x4 C1 q C' ∧ m_ch k rank n M1 1 M' ∧ e_ok C M C' M' q) ∨
    (∃ C' M', e_lpX B r k rank p ((rank : Int) + n - 1) x4 C1 C' ∧ m_ch k rank n M1 0 M' ∧ e_no C M C' M') ∨
    (∃ q C' M', e_lpI B r k rank p ((rank : Int) + n - 1) x4 C1 q C' ∧ m_ch k rank n M1 0 M' ∧ e_half C M C' M' q ∧ e_dig C') := by
  intro N
  induction N with
  | zero =>
    intro n C1 M1 p x4 k1 hN hn x0 x1
    have hR := k1.1
    have mi := hR.mi
    obtain ⟨hgC1, hgM1⟩ := id hR.1
    have hsz := hR.2.1.2.2.1
    have hat := hR.2.2.1.1
    have q4 := k1.2.2.2.1
    have q5 := hR.2.2.2.1
    have e0 : m_see M1 = 0 := if_neg (by omega)
    have er : m_rk M1 = -1 := by unfold m_rk; simp [e0]
    exact Or.inl ⟨p, C1, M1, e_lpI.out hrank hR ⟨by omega, by omega⟩ ⟨by omega, by omega⟩ ⟨by omega, by omega⟩ (Or.inl er), m_ch.exit hgM1 mi n hn (fun l _ _ z => by omega), k1⟩
  | succ N ih =>
    intro n C1 M1 p x4 k1 hN hn x0 x1
    have hR := k1.1
    have mi := hR.mi
    obtain ⟨hgC1, hgM1⟩ := id hR.1
    have hsz := hR.2.1.2.2.1
    have hat := hR.2.2.1.1
    have q4 := k1.2.2.2.1
    have q5 := hR.2.2.2.1
    have p0 := h.2.2.2.1
    have rp : ax_rg p := ⟨by omega, by omega⟩
    have rh : ax_rg ((rank : Int) + n - 1) := ⟨by omega, by omega⟩
    have rx : ax_rg x4 := ⟨by omega, by omega⟩
    by_cases hown : (rank : Int) ≤ m_rk M1 ∧ m_rk M1 ≤ (rank : Int) + n - 1
    · obtain ⟨o, ho⟩ : ∃ o : Nat, m_rk M1 = (o : Int) := ⟨(m_rk M1).toNat, by omega⟩
      have ho4 : o ≤ 4 := by omega
      have n1 : ¬ m_rk M1 = -1 := by omega
      have hlt := hR.lt (m_rk_lt n1)
      have h1' : e_R (c_on C1 1) (m_on M1 1) := hR.on (by omega) (by omega)
      have na : (m_on M1 1) 222 68 = (M1 222 68) + 1 := by simp [m_on, ax_u]
      have nsz : (m_on M1 1) 222 3 = (M1 222 3) := by simp [m_on, ax_u]
      have np : (m_on M1 1) 222 26 = (M1 222 26) := by simp [m_on, ax_u]
      have nd : (m_on M1 1) 222 69 = (M1 222 69) := by simp [m_on, ax_u]
      have ca : (c_on C1 1) 600 6 = (C1 600 6) + 1 := by simp [c_on, ax_u]
      have cd : (c_on C1 1) 600 11 = (C1 600 11) := by simp [c_on, ax_u]
      have cp : (c_on C1 1) 600 12 = (C1 600 12) := by simp [c_on, ax_u]
      have cl : (c_on C1 1) 600 13 = (C1 600 13) := by simp [c_on, ax_u]
      have q7 := k1.2.2.2.2.2.2.1
      have q6 := k1.2.2.2.2.2.1
      have hnn : (if o = 2 then (1 : Int) else (o : Int)) = (rank : Int) + ((if o = 2 then o - rank else o - rank + 1 : Nat) : Int) - 1 := by
        by_cases w : o = 2
        · rw [if_pos w, if_pos w]; omega
        · rw [if_neg w, if_neg w]; omega
      rcases ihR (o + 1) (by omega) (by omega) _ _ h1' (by omega) with ⟨t, C2, M2, ra, rb, k2⟩ | ⟨C2, M2, ra, rb, no⟩ | ⟨t, C2, M2, ra, rb, hf, dg⟩
      · have hR2 := k2.1
        obtain ⟨hgC2, hgM2⟩ := id hR2.1
        have g4 := k2.2.2.2.1
        have g6 := k2.2.2.2.2.2.1
        have g5 := hR2.2.2.2.1
        have g2 := hR2.2.2.1.1
        have gsz := hR2.2.1.2.2.1
        have hq : 0 ≤ (M2 222 26) ∧ (M2 222 26) < 701 := ⟨by omega, by omega⟩
        have hgb : ax_g (m_bn M1 M2) := m_bn_g hgM1 hgM2 ⟨by omega, by omega⟩
        have k3 : e_ok C M (c_join C2 (e_op (m_oc M1)) (C1 600 6) p t (-1)) (m_bn M1 M2) (M2 222 26) := by
          refine e_bin h k1 hlt k2 (m_oc_in M1) hat.1 hgb (fun c q z => ?_) (fun z => m_bn_sg n1 z)
          rw [m_bn_at c q z, ← q4.1, ← g4.1]
        have k3at : (m_bn M1 M2) 222 68 = (M2 222 68) := by rw [m_bn_at _ _ (fun z => absurd z.2 (by decide))]; exact (m_mk_at (M := M2) rfl).2.2.2.2.2.2.2.2.2.2.2.2.2.2.2.1
        have k3sz : (m_bn M1 M2) 222 3 = (M2 222 3) := by rw [m_bn_at _ _ (fun z => absurd z.2 (by decide))]; exact m_mk_f.2.2 3 (by decide) (by decide) (by decide) (by decide) (by decide) (by decide)
        have k2sz : (M2 222 3) = (M1 222 3) := by rw [← nsz]; exact k2.2.2.1.2.2 3 (by decide) (by decide) (by decide) (by decide) (by decide) (by decide)
        have hstep := e_lpI.step (B := B) (r := r) (k := k) (rank := rank) (p := p) (h := (rank : Int) + n - 1) (x4 := x4) hrank hR ⟨by omega, by omega⟩ rh rx (by omega) ho ho4 (by omega) (by omega) (t := t) (C2 := C2) ⟨by omega, by omega⟩ ⟨by omega, by omega⟩ ra
        have hone : ∀ (x : Int) (M' : ax_V), m_ch k rank (if o = 2 then o - rank else o - rank + 1) (m_bn M1 M2) x M' → m_ch k rank n M1 x M' := fun x M' hc => m_ch.one hgM1 mi ⟨by omega, by omega⟩ hq hgb (j := o - rank) (o := o) (by omega) ho4 ho hn (by omega) rb hc
        have hn' : rank + (if o = 2 then o - rank else o - rank + 1) ≤ 5 := by split <;> omega
        rcases ih (if o = 2 then o - rank else o - rank + 1) _ _ _ (x4 + 1) k3 (by rw [k3at, k3sz]; omega) hn' (by omega) (by rw [k3at]; omega) with ⟨q, C', M', la, lb, lc⟩ | ⟨C', M', la, lb, lc⟩ | ⟨q, C', M', la, lb, lc⟩
        · refine Or.inl ⟨q, C', M', fun y5 y6 y7 y8 hy5 hy6 hy7 hy8 Φ Θ hh => hstep Φ Θ (fun _ z5 z6 z7 z8 w5 w6 w7 w8 => ?_) y5 y6 y7 y8 hy5 hy6 hy7 hy8, hone 1 M' lb, lc⟩
          rw [hnn, g5.1]
          exact la z5 z6 z7 z8 w5 w6 w7 w8 Φ Θ hh
        · refine Or.inr (Or.inl ⟨C', M', fun y5 y6 y7 y8 hy5 hy6 hy7 hy8 Φ Θ hh => hstep Φ Θ (fun _ z5 z6 z7 z8 w5 w6 w7 w8 => ?_) y5 y6 y7 y8 hy5 hy6 hy7 hy8, hone 0 M' lb, lc⟩)
          rw [hnn, g5.1]
          exact la z5 z6 z7 z8 w5 w6 w7 w8 Φ Θ hh
        · refine Or.inr (Or.inr ⟨q, C', M', fun y5 y6 y7 y8 hy5 hy6 hy7 hy8 Φ Θ hh => hstep Φ Θ (fun _ z5 z6 z7 z8 w5 w6 w7 w8 => ?_) y5 y6 y7 y8 hy5 hy6 hy7 hy8, hone 0 M' lb, lc⟩)
          rw [hnn, g5.1]
          exact la z5 z6 z7 z8 w5 w6 w7 w8 Φ Θ hh
      · refine Or.inr (Or.inl ⟨C2, M2, e_lpX.step hrank hR ⟨by omega, by omega⟩ rh rx (by omega) ho ho4 (by omega) (by omega) ra, ?_, no.1, no.2.1, ?_, ?_⟩)
        · refine m_ch.down hgM1 mi (j := o - rank) n hn (by omega) (fun l a b z => by rw [ho] at z; omega) (Or.inr ⟨?_, rfl⟩)
          rw [show rank + (o - rank) = o by omega]
          exact m_tl.no hgM1 mi o ho4 ho rb
        · exact (k1.2.1.tr ((e_mvC.rf C1).u (k := 6) (x := (C1 600 6) + 1) (by decide)).fr (Int.le_refl _)).tr no.2.2.1 (by omega)
        · exact (k1.2.2.1.tr ((e_mvM.rf M1).u (k := 68) (x := (M1 222 68) + 1) (by decide)).fr (Int.le_refl _)).tr no.2.2.2 (by omega)
      · obtain ⟨⟨hg2, f1, f2, f3⟩, f4, f5, f6⟩ := id hf
        have ci2 := e_half.ci h1' hf
        have hd0 := h.2.2.1.2.2.1.1
        have hd1 := hR.2.2.1.2.2.1.1
        have hb0 := h.2.2.1.2.2.2.2.1.1
        have hb1 := hR.2.2.1.2.2.2.2.1.1
        have hoc := m_oc_in M1
        have roc : ax_rg (e_op (m_oc M1)) := by
          unfold e_op
          repeat' split
          all_goals exact ⟨by omega, by omega⟩
        have hstep := e_lpI.step (B := B) (r := r) (k := k) (rank := rank) (p := p) (h := (rank : Int) + n - 1) (x4 := x4) hrank hR ⟨by omega, by omega⟩ rh rx (by omega) ho ho4 (by omega) (by omega) (t := t) (C2 := C2) ⟨by omega, by omega⟩ ⟨by omega, by omega⟩ ra
        obtain ⟨C3, eC3⟩ : ∃ X : ax_V, X = c_join C2 (e_op (m_oc M1)) (C1 600 6) p t (-1) := ⟨_, rfl⟩
        have hg3 : ax_g C3 := by rw [eC3]; exact c_join_g hg2.1 roc (hgC1 _ _) rp ⟨by omega, by omega⟩ (by decide) ⟨by omega, by omega⟩
        obtain ⟨b1, -, -, -, -, -, -, -, -, -, -, -, b13, b14, b15, b16⟩ := c_mk_at (C := C2) (o := e_op (m_oc M1)) (f := C2 518 p) (a := (C1 600 6)) (w := 0) rfl
        have v1 : (C3 516 0) = (C2 516 0) + 1 := by rw [eC3]; unfold c_join; rw [ax_u_ne (c' := 516) (by decide), ax_u_ne (c' := 516) (by decide), ax_u_ne (c' := 516) (by decide)]; exact b1
        have v2 : (C3 600 6) = (C2 600 6) := by rw [eC3]; unfold c_join; rw [ax_u_ne (c' := 600) (by decide), ax_u_ne (c' := 600) (by decide), ax_u_ne (c' := 600) (by decide)]; exact b13
        have v3 : (C3 600 11) = (C2 600 11) := by rw [eC3]; unfold c_join; rw [ax_u_ne (c' := 600) (by decide), ax_u_ne (c' := 600) (by decide), ax_u_ne (c' := 600) (by decide)]; exact b14
        have v4 : (C3 600 12) = (C2 600 12) := by rw [eC3]; unfold c_join; rw [ax_u_ne (c' := 600) (by decide), ax_u_ne (c' := 600) (by decide), ax_u_ne (c' := 600) (by decide)]; exact b15
        have v5 : (C3 600 13) = (C2 600 13) := by rw [eC3]; unfold c_join; rw [ax_u_ne (c' := 600) (by decide), ax_u_ne (c' := 600) (by decide), ax_u_ne (c' := 600) (by decide)]; exact b16
        have fC3 : e_fC C2 C3 (M 222 26) := by
          rw [eC3]; unfold c_join
          exact ((((c_mk_f.mono (by omega)).tr (e_fC.ua (by decide) (by omega)) (Int.le_refl _)).tr (e_fC.ua (by decide) (by omega)) (Int.le_refl _)).tr (e_fC.ua (by decide) (by omega)) (Int.le_refl _))
        have fall : e_fC C C3 (M 222 26) := ((k1.2.1.tr ((e_mvC.rf C1).u (k := 6) (x := (C1 600 6) + 1) (by decide)).fr (Int.le_refl _)).tr f2 (by omega)).tr fC3 (Int.le_refl _)
        have msz : (M1 222 3) = (M 222 3) := k1.2.2.1.2.2 3 (by decide) (by decide) (by decide) (by decide) (by decide) (by decide)
        have e1 : (C3 600 1) = (C2 600 1) := fC3.2.2 1 (by decide) (by decide) (by decide) (by decide)
        have e2 : C3 1 = C2 1 := fC3.1 1 (by decide) (by decide)
        have dg3 : e_dig C3 := by
          have : c_see C3 = c_see C2 := by unfold c_see; rw [v2, e1, e2]
          show 48 ≤ c_see C3 ∧ c_see C3 ≤ 57
          rw [this]; exact dg
        have ci3 : c_in C3 := ⟨by omega, by omega, by rw [e1]; exact ci2.2.2.1, fun i i0 i1 => by rw [e2]; rw [e1] at i1; exact ci2.2.2.2 i i0 i1⟩
        refine Or.inr (Or.inr ⟨(C2 516 0), C3, M2, fun y5 y6 y7 y8 hy5 hy6 hy7 hy8 Φ Θ hh => hstep Φ Θ (fun _ z5 z6 z7 z8 w5 w6 w7 w8 => ?_) y5 y6 y7 y8 hy5 hy6 hy7 hy8, ?_, ⟨⟨⟨hg3, hg2.2⟩, by omega, fall, ?_⟩, ⟨by omega, by omega⟩, ⟨by omega, by omega, by omega⟩, ⟨by omega, by omega, by omega⟩⟩, dg3⟩)
        · rw [← eC3]
          exact e_lpI.dig hrank hg3 ci3 dg3 ⟨by omega, by omega⟩ (by split <;> exact ⟨by omega, by omega⟩) ⟨by omega, by omega⟩ z5 z6 z7 z8 w5 w6 w7 w8 Φ Θ hh
        · refine m_ch.down hgM1 mi (j := o - rank) n hn (by omega) (fun l a b z => by rw [ho] at z; omega) (Or.inr ⟨?_, rfl⟩)
          rw [show rank + (o - rank) = o by omega]
          exact m_tl.no hgM1 mi o ho4 ho rb
        · exact (k1.2.2.1.tr ((e_mvM.rf M1).u (k := 68) (x := (M1 222 68) + 1) (by decide)).fr (Int.le_refl _)).tr f3 (by omega)
    · refine Or.inl ⟨p, C1, M1, e_lpI.out hrank hR rp rh rx (by omega), m_ch.exit hgM1 mi n hn (fun l a b z => by omega), k1⟩
end Ranked
