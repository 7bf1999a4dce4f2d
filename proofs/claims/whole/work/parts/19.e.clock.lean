/-! THE CLOCK OF A FLOW -/
/-- what the model does behind a flow's letter and type -/
def f_m3 (d : Nat) (k : Int) (y2 : Option Value) (p l s x t : Int) (V : ax_V) (Φ : Int → ax_V → Prop) (Θ : ax_V → Prop) : Prop :=
  ((k = 3 → ax_I ay_lay d q_Model_see [.ref 222] V (fun r7 V7 => ((r7 = 64 → ax_I ay_lay d q_Model_readClock [.ref 222, ax_i s, ax_i x] V7 (fun r8 V8 => ((r8 = 0 → Φ 0 V8) ∧ (¬ r8 = 0 → k_Model_readFlows_165 d k y2 p l s x t V8 Φ Θ))) Θ) ∧ (¬ r7 = 64 → k_Model_readFlows_165 d k y2 p l s x t V7 Φ Θ))) Θ) ∧ (¬ k = 3 → k_Model_readFlows_165 d k y2 p l s x t V Φ Θ))
def c_tc (C : ax_V) (s v a : Int) : ax_V := ax_u (ax_u C 536 s v) 537 s a
theorem t_tellClock {B r d : Nat} {C : ax_V} {Ψ Θ : ax_V → Prop} {s v a : Int} (hg : ax_g C) (hs : 0 ≤ s ∧ s < 208) (hv : ax_rg v) (ha : ax_rg a) (h : Ψ (c_tc C s v a)) : ax_N (az_W B (az_ER B r)) (d + 1) q_Letters_tellClock [.ref (B + 32), ax_i s, ax_i v, ax_i a] C Ψ Θ :=
  r_Letters_tellClock hg ⟨by omega, by omega⟩ hv ha ⟨hs, fun V1 e1 => ⟨hs, fun V2 e2 => by rw [e2, e1]; exact h⟩⟩
/-- one clock more in the row -/
theorem f_Ck.more {C M C' M' : ax_V} {n l cl pl x : Int} (h : f_Ck C M (n + 1)) (hn : 0 ≤ n) (hl : 0 ≤ l ∧ l < 26) (hcl : 0 ≤ cl ∧ cl < 26) (hpl : e_pl pl) (hx : x = 0 ∨ x = 1) (h0 : x = 0 → M 235 (26 * n + l) = 0) (h1 : ¬ x = 0 → ¬ (M 222 73) = -1 ∧ (M 222 73) ≤ pl) (hno : (M' 222 73) = (M 222 73)) (hc : (M' 222 77) = (M 222 77) + 1) (ha : 4 * (M 222 77) + 4 ≤ (M' 222 68))
    (c1 : ∀ s, s ≠ 26 * n + l → M' 235 s = M 235 s ∧ C' 537 s = C 537 s) (c2 : ¬ x = 0 → M' 235 (26 * n + l) = M 235 (26 * n + l) ∧ C' 537 (26 * n + l) = C 537 (26 * n + l)) (c3 : x = 0 → (M' 235 (26 * n + l) = 2 * cl + 1 ∨ M' 235 (26 * n + l) = 2 * cl + 2) ∧ C' 537 (26 * n + l) = pl)
    (e1 : ∀ j, j ≠ (M 222 77) → M' 279 j = M 279 j ∧ M' 280 j = M 280 j ∧ M' 281 j = M 281 j) (e2 : M' 279 (M 222 77) = cl ∧ M' 280 (M 222 77) = pl ∧ M' 281 (M 222 77) = n) : f_Ck C' M' (n + 1) := by
  obtain ⟨h2, h3, h4⟩ := h
  -- a letter whose clock stood before
  have old : ∀ s, ¬ M 235 s = 0 → M' 235 s = M 235 s ∧ C' 537 s = C 537 s := by
    intro s hs
    by_cases w : s = 26 * n + l
    · rw [w] at hs ⊢
      exact c2 (fun q => hs (h0 q))
    · exact c1 s w
  refine ⟨⟨by omega, by omega⟩, fun n' l' a b c d z => ?_, fun j a b => ?_⟩
  · by_cases w : x = 0 ∧ 26 * n' + l' = 26 * n + l
    · obtain ⟨w1, w2⟩ := w
      have e : n' = n := by omega
      refine ⟨(M 222 77), by omega, by omega, ?_⟩
      rw [w2]
      unfold f_ce
      rw [e2.1, e2.2.1, e2.2.2, (c3 w1).2, e]
      exact ⟨(c3 w1).1, rfl, rfl⟩
    · have z' : ¬ M 235 (26 * n' + l') = 0 := by
        by_cases w2 : 26 * n' + l' = 26 * n + l
        · rw [w2] at z ⊢
          rw [(c2 (fun q => w ⟨q, w2⟩)).1] at z; exact z
        · rw [(c1 _ w2).1] at z; exact z
      obtain ⟨j, j1, j2, j3⟩ := h3 n' l' a b c d z'
      refine ⟨j, j1, by omega, ?_⟩
      obtain ⟨o1, o2⟩ := old _ z'
      obtain ⟨v1, v2, v3⟩ := e1 j (by omega)
      unfold f_ce at j3 ⊢
      rw [o1, o2, v1, v2, v3]
      exact j3
  · by_cases w : j = (M 222 77)
    · rw [w, e2.1, e2.2.1, e2.2.2]
      refine ⟨⟨hn, by omega⟩, hcl, hpl, ?_⟩
      by_cases w1 : x = 0
      · refine Or.inl ⟨l, hl.1, hl.2, ?_, ?_⟩
        · have := (c3 w1).1; omega
        · unfold f_ce
          rw [e2.1, e2.2.1, e2.2.2, (c3 w1).2]
          exact ⟨(c3 w1).1, rfl, rfl⟩
      · exact Or.inr (by rw [hno]; exact h1 w1)
    · obtain ⟨g1, g2, g3, g4⟩ := h4 j a (by omega)
      obtain ⟨v1, v2, v3⟩ := e1 j w
      rw [v1, v2, v3, hno]
      refine ⟨g1, g2, g3, ?_⟩
      rcases g4 with ⟨l', u1, u2, u3, u4⟩ | g4
      · obtain ⟨o1, o2⟩ := old _ u3
        refine Or.inl ⟨l', u1, u2, by rw [o1]; exact u3, ?_⟩
        unfold f_ce at u4 ⊢
        rw [o1, o2, v1, v2, v3]
        exact u4
      · exact Or.inr g4
section Clock
variable {B r dc dm : Nat} {C0 M0 C M : ax_V} {y2 y3 y5 y7 : Option Value} {p l k x t : Int}
set_option maxHeartbeats 1000000 in
theorem f_clock (hy2 : ax_y y2) (hy3 : ax_y y3) (hy5 : ax_y y5) (hy7 : ax_y y7) (h : f_mf C0 M0 C M x k l) (hk : k = 1 ∨ k = 2 ∨ k = 3) (hl : 0 ≤ l ∧ l < 26) (hx : x = 0 ∨ x = 1) (ht : t = 0 ∨ t = 1) (hp : 0 ≤ p ∧ p < (M 222 68)) (hbd : 4 * (M 222 77) + 2 ≤ (M 222 68)) (hf : x = 0 → M 232 (26 * (M 222 10) + l) = k ∧ M 235 (26 * (M 222 10) + l) = 0 ∧ M 236 (26 * (M 222 10) + l) = 0 ∧ M 233 (26 * (M 222 10) + l) = t) (hxn : ¬ x = 0 → (M 222 73) ≤ p) :
    f_go f_nv (fun Φ Θ => k_Reader_readFlow_125 B r (dc + 3) k y3 (26 * (M 222 10) + l) y5 (1 - x) y7 C Φ Θ) (fun C' Φ Θ => ∀ y7, ax_y y7 → k_Reader_readFlow_174 B r (dc + 3) k y3 (26 * (M 222 10) + l) y5 (1 - x) y7 C' Φ Θ) (fun Φ Θ => f_m3 (dm + 4) k y2 p l (26 * (M 222 10) + l) x t M Φ Θ) (fun M' Φ Θ => k_Model_readFlows_165 (dm + 4) k y2 p l (26 * (M 222 10) + l) x t M' Φ Θ) C0 M0 (fun C' M' => f_mf C0 M0 C' M' x k l ∧ (x = 0 → M' 232 (26 * (M 222 10) + l) = k ∧ M' 236 (26 * (M 222 10) + l) = 0 ∧ M' 233 (26 * (M 222 10) + l) = t) ∧ (M 222 68) ≤ (M' 222 68) ∧ (M' 222 10) = (M 222 10)) := by
  have h9 := h
  obtain ⟨hR, ⟨fC, fM⟩, hL, hK, hT, hF, hx1, -⟩ := h
  obtain ⟨hgC, hgM⟩ := id hR.1
  have hs := hR.see
  have ci := hR.ci
  have mi := hR.mi
  have hn := hR.2.2.1.2.1
  have hsz := hR.2.1.2.2.1
  have hat := hR.2.2.1.1
  have hck := hK.1
  have hls := hL.1 (M 222 10) l (by omega) (by omega) hl.1 hl.2
  obtain ⟨s, es⟩ : ∃ s : Int, s = 26 * (M 222 10) + l := ⟨_, rfl⟩
  rw [← es] at hf hls ⊢
  have rs : ax_rg s := ⟨by omega, by omega⟩
  have s8 : 0 ≤ s ∧ s < 208 := ⟨by omega, by omega⟩
  have s4 : 0 ≤ s ∧ s < 240 := ⟨by omega, by omega⟩
  have rk : ax_rg k := ⟨by omega, by omega⟩
  have rl : ax_rg l := ⟨by omega, by omega⟩
  have rx : ax_rg x := ⟨by omega, by omega⟩
  have rx' : ax_rg (1 - x) := ⟨by omega, by omega⟩
  have rt : ax_rg t := ⟨by omega, by omega⟩
  by_cases w1 : k = 3
  · by_cases w2 : m_see M = 64
    · have hlt := hR.lt (by omega)
      have R1 : e_R (c_on C 1) (m_on M 1) := hR.on (by decide) (by omega)
      have a1 : (m_on M 1) 222 68 = (M 222 68) + 1 := ax_u_s _ _ _ _
      have s1 : (m_on M 1) 222 3 = (M 222 3) := ax_u_k (by decide)
      -- the ! or none
      obtain ⟨nt, C2, M2, hnt, R2, nC, nM, a2, hc, hm⟩ : ∃ (nt : Int) (C2 M2 : ax_V), (nt = 0 ∨ nt = 1) ∧ e_R C2 M2 ∧ e_nC C C2 ∧ e_nM M M2 ∧ (M2 222 68) = (M 222 68) + 1 + nt ∧ (∀ (Φ : Int → ax_V → Prop) (Θ : ax_V → Prop), ax_I (az_W B (az_ER B r)) (dc + 2) q_Reader_takeLetter [.ref r] C2 (fun r4 V4 => ax_rg ((2 * r4) + nt) ∧ Φ ((2 * r4) + nt) V4) Θ → ax_I (az_W B (az_ER B r)) (dc + 3) q_Reader_takeClock [.ref r] (c_on C 1) Φ Θ) ∧ (∀ (Φ : Int → ax_V → Prop) (Θ : ax_V → Prop), k_Model_readClock_33 (dm + 3) s x (1 - nt) none M2 Φ Θ → ax_I ay_lay (dm + 4) q_Model_readClock [.ref 222, ax_i s, ax_i x] M Φ Θ) := by
        have hs1 := R1.see
        obtain ⟨hgC1, hgM1⟩ := id R1.1
        have hat1 := R1.2.2.1.1
        by_cases w3 : m_see (m_on M 1) = 33
        · have hlt1 := R1.lt (by omega)
          have R2 : e_R (c_on (c_on C 1) 1) (m_on (m_on M 1) 1) := R1.on (by decide) (by omega)
          refine ⟨1, _, _, Or.inr rfl, R2, (e_nC.on C 1).tr (e_nC.on _ 1), (e_nM.on M 1).tr (e_nM.on _ 1), ?_, fun Φ Θ z => ?_, fun Φ Θ z => ?_⟩
          · have : (m_on (m_on M 1) 1) 222 68 = (m_on M 1) 222 68 + 1 := ax_u_s _ _ _ _
            omega
          · exact r_Reader_takeClock hgC1 (t_look hgC1 R1.ci ⟨fun _ => ⟨⟨by omega, by omega⟩, fun V3 e3 => by rw [e3]; exact z⟩, fun q => absurd (hs1.trans w3) q⟩)
          · refine r_Model_readClock hgM rs rx ⟨⟨by omega, by omega⟩, fun V1 e1 => ?_⟩
            have e1' : V1 = m_on M 1 := e1
            rw [e1']
            exact s_see hgM1 R1.mi ⟨fun _ => ⟨⟨by omega, by omega⟩, fun V3 e3 => by rw [e3]; exact z⟩, fun q => absurd w3 q⟩
        · refine ⟨0, _, _, Or.inl rfl, R1, e_nC.on C 1, e_nM.on M 1, by omega, fun Φ Θ z => ?_, fun Φ Θ z => ?_⟩
          · exact r_Reader_takeClock hgC1 (t_look hgC1 R1.ci ⟨fun q => absurd (hs1.symm.trans q) w3, fun _ => z⟩)
          · refine r_Model_readClock hgM rs rx ⟨⟨by omega, by omega⟩, fun V1 e1 => ?_⟩
            have e1' : V1 = m_on M 1 := e1
            rw [e1']
            exact s_see hgM1 R1.mi ⟨fun q => absurd q w3, fun _ => z⟩
      obtain ⟨hgC2, hgM2⟩ := id R2.1
      have n2 : (M2 222 10) = (M 222 10) := nM.2 10 (by decide) (by decide)
      have k2 : (M2 222 77) = (M 222 77) := nM.2 77 (by decide) (by decide)
      have hat2 := R2.2.2.1.1
      have sz2 : (M2 222 3) = (M 222 3) := nM.2 3 (by decide) (by decide)
      have rd2 := R2.2.2.1.2.1
      have b240 : 0 ≤ (M2 222 77) ∧ (M2 222 77) < 240 := ⟨by omega, by omega⟩
      obtain ⟨M3, eM3⟩ : ∃ X : ax_V, X = ax_u M2 280 (M2 222 77) (M2 222 68) := ⟨_, rfl⟩
      have hgM3 : ax_g M3 := by rw [eM3]; exact ax_u_g hgM2 ⟨by omega, by omega⟩
      have ne3 : ∀ c, c ≠ 280 → M3 c = M2 c := fun c z => by rw [eM3]; exact ax_u_ne z
      have sc3 : ∀ j, M3 222 j = M2 222 j := fun j => by rw [ne3 222 (by decide)]
      have R3 : e_R C2 M3 := R2.tab ⟨hgC2, hgM3⟩ (fun _ _ => rfl) (fun c z => ne3 c (by omega)) (fun _ _ => rfl) (fun j _ => sc3 j)
      have hs3 := R3.see
      have hcl : ∀ (Φ Θ : ax_V → Prop), ax_I (az_W B (az_ER B r)) (dc + 2) q_Reader_takeLetter [.ref r] C2 (fun r4 V4 => ax_rg ((2 * r4) + nt) ∧ ((1 - x = 0 → k_Reader_readFlow_174 B r (dc + 3) k y3 s y5 (1 - x) (some (ax_i ((2 * r4) + nt))) V4 Φ Θ) ∧ (¬ 1 - x = 0 → ax_N (az_W B (az_ER B r)) (dc + 3) q_Letters_tellClock [.ref (B + 32), ax_i s, ax_i ((2 * r4) + nt), ax_i ((V4 600 6) - 1)] V4 (fun V5 => k_Reader_readFlow_174 B r (dc + 3) k y3 s y5 (1 - x) (some (ax_i ((2 * r4) + nt))) V5 Φ Θ) Θ))) Θ → k_Reader_readFlow_125 B r (dc + 3) k y3 s y5 (1 - x) y7 C Φ Θ := fun Φ Θ z => r_Reader_readFlow_125 hgC rk hy3 rs hy5 rx' hy7 ⟨fun _ => t_look hgC ci ⟨fun _ => ⟨⟨by omega, by omega⟩, fun V2 e2 => by rw [e2]; exact hc _ Θ z⟩, fun q => absurd (hs.trans w2) q⟩, fun q => absurd w1 q⟩
      have hml : ∀ (Φ : Int → ax_V → Prop) (Θ : ax_V → Prop), k_Model_readClock_33 (dm + 3) s x (1 - nt) none M2 (fun r8 V8 => ((r8 = 0 → Φ 0 V8) ∧ (¬ r8 = 0 → k_Model_readFlows_165 (dm + 4) k y2 p l s x t V8 Φ Θ))) Θ → f_m3 (dm + 4) k y2 p l s x t M Φ Θ := fun Φ Θ z => ⟨fun _ => s_see hgM mi ⟨fun _ => hm _ Θ z, fun q => absurd w2 q⟩, fun q => absurd w1 q⟩
      by_cases w4 : m_isL M3
      · have hlt3 := R3.lt (by have := w4.1; omega)
        have sc3a := sc3 68
        have sc3b := sc3 3
        have sc3c := sc3 10
        obtain ⟨cl, ecl⟩ : ∃ cl : Int, cl = m_see M3 - 97 := ⟨_, rfl⟩
        have hcl26 : 0 ≤ cl ∧ cl < 26 := ⟨by have := w4.1; omega, by have := w4.2; omega⟩
        obtain ⟨M6, eM6⟩ : ∃ X : ax_V, X = ax_u (ax_u (ax_u (m_on M3 1) 279 (M2 222 77) cl) 281 (M2 222 77) (M2 222 10)) 222 77 ((M2 222 77) + 1) := ⟨_, rfl⟩
        have R4 : e_R (c_on C2 1) (m_on M3 1) := R3.on (by decide) (by omega)
        obtain ⟨hgC4, hgM4⟩ := id R4.1
        have hgM6 : ax_g M6 := by rw [eM6]; exact ax_u_g (ax_u_g (ax_u_g hgM4 ⟨by omega, by omega⟩) ⟨by omega, by omega⟩) ⟨by omega, by omega⟩
        have ne6 : ∀ c, c ≠ 222 → c ≠ 279 → c ≠ 280 → c ≠ 281 → M6 c = M c := fun c u v w z => by rw [eM6, ax_u_ne u, ax_u_ne z, ax_u_ne v]; unfold m_on; rw [ax_u_ne u, ne3 c w, nM.1 c u]
        have sc6 : ∀ j, j ≠ 68 → j ≠ 75 → j ≠ 77 → M6 222 j = M 222 j := fun j u v w => by rw [eM6, ax_u_k w, ax_u_ne (by decide), ax_u_ne (by decide)]; unfold m_on; rw [ax_u_k u, sc3, nM.2 j u v]
        have at6 : M6 222 68 = (M 222 68) + 2 + nt := by
          rw [eM6, ax_u_k (by decide), ax_u_ne (by decide), ax_u_ne (by decide)]
          have : (m_on M3 1) 222 68 = M3 222 68 + 1 := ax_u_s _ _ _ _
          omega
        have ck6 : M6 222 77 = (M 222 77) + 1 := by rw [eM6]; rw [ax_u_s]; omega
        have l6 : ∀ j, M6 279 j = if j = (M 222 77) then cl else M 279 j := fun j => by
          rw [eM6, ax_u_ne (by decide), ax_u_ne (by decide)]
          by_cases z : j = (M 222 77)
          · rw [if_pos z, z, ← k2]; exact ax_u_s _ _ _ _
          · rw [if_neg z, ax_u_k (by omega)]; unfold m_on; rw [ax_u_ne (by decide), ne3 279 (by decide), nM.1 279 (by decide)]
        have p6 : ∀ j, M6 280 j = if j = (M 222 77) then (M2 222 68) else M 280 j := fun j => by
          rw [eM6, ax_u_ne (by decide), ax_u_ne (by decide), ax_u_ne (by decide)]; unfold m_on; rw [ax_u_ne (by decide)]
          by_cases z : j = (M 222 77)
          · rw [if_pos z, z, eM3, ← k2]; exact ax_u_s _ _ _ _
          · rw [if_neg z, eM3, ax_u_k (by omega), nM.1 280 (by decide)]
        have o6 : ∀ j, M6 281 j = if j = (M 222 77) then (M 222 10) else M 281 j := fun j => by
          rw [eM6, ax_u_ne (by decide)]
          by_cases z : j = (M 222 77)
          · rw [if_pos z, z, ← k2, ← n2]; exact ax_u_s _ _ _ _
          · rw [if_neg z, ax_u_k (by omega), ax_u_ne (by decide)]; unfold m_on; rw [ax_u_ne (by decide), ne3 281 (by decide), nM.1 281 (by decide)]
        have nC4 := nC.tr (e_nC.on C2 1)
        have ca4 : (c_on C2 1) 600 6 = (M2 222 68) + 1 := by
          have : (c_on C2 1) 600 6 = C2 600 6 + 1 := ax_u_s _ _ _ _
          omega
        have R6 : e_R (c_on C2 1) M6 := by
          refine R4.tab ⟨hgC4, hgM6⟩ (fun _ _ => rfl) (fun c z => ?_) (fun _ _ => rfl) (fun j z => ?_)
          · rw [eM6, ax_u_ne (by omega), ax_u_ne (by omega), ax_u_ne (by omega)]
          · rw [eM6, ax_u_k (by omega), ax_u_ne (by decide), ax_u_ne (by decide)]
        have gM6 : f_gM M0 M6 := by
          rw [eM6, eM3]
          exact ((((fM.tr nM.g).ua (by decide)).us (i := 68) (by decide)).ua (by decide)).ua (by decide) |>.us (by decide)
        have gC4 : f_gC C0 (c_on C2 1) := fC.tr nC4.g
        have eslot : (C2 600 8) * 26 + (c_see C2 - 97) = 26 * (M 222 10) + cl := by omega
        have hm6 : ∀ (Φ : Int → ax_V → Prop) (Θ : ax_V → Prop), ((x = 0 → (0 ≤ s ∧ s < 240) ∧ ax_rg (((2 * cl) + 2) - (1 - nt)) ∧ (∀ V6, V6 = ax_u M6 235 s (((2 * cl) + 2) - (1 - nt)) → Φ 1 V6)) ∧ (¬ x = 0 → Φ 1 M6)) → k_Model_readClock_33 (dm + 3) s x (1 - nt) none M2 Φ Θ := by
          intro Φ Θ z
          refine r_Model_readClock_33 hgM2 rs rx ⟨by omega, by omega⟩ ax_y_n ⟨b240, fun V1 e1 => ?_⟩
          have e1' : V1 = M3 := by rw [e1, eM3]
          rw [e1']
          refine s_takeLetter hgM3 R3.mi (fun _ => ⟨fun q => by have := w4.1; omega, fun _ => ?_⟩) (fun q => absurd w4 q)
          have d1 : (m_on M3 1) 222 77 = (M2 222 77) := by unfold m_on; rw [ax_u_k (by decide), sc3]
          rw [d1, ← ecl]
          refine ⟨b240, fun V3 e3 => ?_⟩
          have d2 : V3 222 77 = (M2 222 77) := by rw [e3, ax_u_ne (by decide), d1]
          have d3 : V3 222 10 = (M2 222 10) := by rw [e3, ax_u_ne (by decide)]; unfold m_on; rw [ax_u_k (by decide), sc3]
          rw [d2, d3]
          refine ⟨b240, fun V4 e4 => ?_⟩
          have d4 : V4 222 77 = (M2 222 77) := by rw [e4, ax_u_ne (by decide), d2]
          rw [d4]
          refine ⟨⟨by omega, by omega⟩, fun V5 e5 => ?_⟩
          have e6 : V5 = M6 := by rw [e5, e4, e3, eM6]
          rw [e6]
          exact z
        by_cases w3 : x = 0
        · obtain ⟨f1, f2, f3, f4⟩ := hf w3
          obtain ⟨mc, emc⟩ : ∃ mc : Int, mc = 2 * cl + 1 + nt := ⟨_, rfl⟩
          obtain ⟨M7, eM7⟩ : ∃ X : ax_V, X = ax_u M6 235 s mc := ⟨_, rfl⟩
          obtain ⟨C7, eC7⟩ : ∃ X : ax_V, X = c_tc (c_on C2 1) s (52 * (M 222 10) + mc - 1) (M2 222 68) := ⟨_, rfl⟩
          have hgM7 : ax_g M7 := by rw [eM7]; exact ax_u_g hgM6 ⟨by omega, by omega⟩
          have hgC7 : ax_g C7 := by rw [eC7]; exact ax_u_g (ax_u_g hgC4 ⟨by omega, by omega⟩) ⟨by omega, by omega⟩
          have cne : ∀ c, c ≠ 536 → c ≠ 537 → C7 c = (c_on C2 1) c := fun c u v => by rw [eC7]; unfold c_tc; rw [ax_u_ne v, ax_u_ne u]
          have mne : ∀ c, c ≠ 235 → M7 c = M6 c := fun c u => by rw [eM7]; exact ax_u_ne u
          have R7 : e_R C7 M7 := R6.tab ⟨hgC7, hgM7⟩ (fun c z => cne c (by omega) (by omega)) (fun c z => mne c (by omega)) (fun j _ => by rw [cne 600 (by decide) (by decide)]) (fun j _ => by rw [mne 222 (by decide)])
          have n7 : (M7 222 10) = (M 222 10) := by rw [mne 222 (by decide), sc6 10 (by decide) (by decide) (by decide)]
          refine f_go.ok (C' := C7) (M' := M7) (fun Φ Θ z => hcl Φ Θ (t_takeLetter hgC2 R2.ci (by rw [rd2.1]; exact rd2.2) (fun _ => ?_) (fun q => absurd (by rw [hs3]; exact w4) q))) (fun Φ Θ z => hml Φ Θ (hm6 _ Θ ⟨fun _ => ⟨s4, ⟨by omega, by omega⟩, fun V6 e6 => ⟨fun q => absurd q (by decide), fun _ => ?_⟩⟩, fun q => absurd w3 q⟩)) ⟨h9.of R7 ⟨?_, by rw [eM7]; exact gM6.ua (by decide)⟩ ?_ ?_ ?_ ?_ (fun c a b => ?_) (fun c a b => ?_) n7, fun _ => ⟨?_, ?_, ?_⟩, ?_, n7⟩
          · rw [eslot]
            refine ⟨⟨by omega, by omega⟩, fun q => by omega, fun _ => ?_⟩
            rw [show 2 * (26 * (M 222 10) + cl) + nt = 52 * (M 222 10) + mc - 1 by omega, show (c_on C2 1) 600 6 - 1 = (M2 222 68) by omega]
            exact t_tellClock hgC4 s8 ⟨by omega, by omega⟩ ⟨by omega, by omega⟩ (by rw [← eC7]; exact z _ (ax_y_i _))
          · rw [e6, show 2 * cl + 2 - (1 - nt) = mc by omega, ← eM7]
            exact z
          · rw [eC7]; exact (gC4.ua (by decide)).ua (by decide)
          · refine hL.upd (n0 := (M 222 10)) (l0 := l) ⟨by omega, by omega⟩ hl (fun c i a b z => ?_) (fun c a b => by rw [cne c (by omega) (by omega), nC4.1 c (by omega)]) (fun c i a b z => ?_) ?_
            · rw [← es] at z
              rw [eC7]; unfold c_tc
              rw [ax_u_o (fun q => z q.2), ax_u_o (fun q => z q.2), nC4.1 c (by omega)]
            · rw [← es] at z
              rw [eM7, ax_u_o (fun q => z q.2), ne6 c (by omega) (by omega) (by omega) (by omega)]
            · rw [← es]
              obtain ⟨u1, u2, u3, u4, u5, u6⟩ := hls
              unfold f_l
              rw [cne 533 (by decide) (by decide), cne 534 (by decide) (by decide), cne 535 (by decide) (by decide), cne 538 (by decide) (by decide), cne 539 (by decide) (by decide), nC4.1 533 (by decide), nC4.1 534 (by decide), nC4.1 535 (by decide), nC4.1 538 (by decide), nC4.1 539 (by decide), mne 232 (by decide), mne 233 (by decide), mne 234 (by decide), mne 236 (by decide), mne 237 (by decide), mne 238 (by decide), mne 239 (by decide), ne6 232 (by decide) (by decide) (by decide) (by decide), ne6 233 (by decide) (by decide) (by decide) (by decide), ne6 234 (by decide) (by decide) (by decide) (by decide), ne6 236 (by decide) (by decide) (by decide) (by decide), ne6 237 (by decide) (by decide) (by decide) (by decide), ne6 238 (by decide) (by decide) (by decide) (by decide), ne6 239 (by decide) (by decide) (by decide) (by decide)]
              have c6 : C7 536 s = 52 * (M 222 10) + mc - 1 := by rw [eC7]; unfold c_tc; rw [ax_u_ne (by decide)]; exact ax_u_s _ _ _ _
              have m5 : M7 235 s = mc := by rw [eM7]; exact ax_u_s _ _ _ _
              rw [c6, m5]
              exact ⟨u1, fun q => by omega, u3, Or.inr ⟨by omega, by omega, by omega, rfl⟩, u5, u6⟩
          · refine hK.more (cl := cl) (pl := (M2 222 68)) (x := x) (l := l) hn.2.1 hl hcl26 ⟨by omega, by omega⟩ hx (fun _ => by rw [← es]; exact f2) (fun q => absurd w3 q) (by rw [mne 222 (by decide), sc6 73 (by decide) (by decide) (by decide)]) (by rw [mne 222 (by decide)]; exact ck6) (by rw [mne 222 (by decide), at6]; omega) (fun i z => ⟨?_, ?_⟩) (fun q => absurd w3 q) (fun _ => ⟨?_, ?_⟩) (fun j z => ⟨?_, ?_, ?_⟩) ⟨?_, ?_, ?_⟩
            · rw [← es] at z
              rw [eM7, ax_u_k z, ne6 235 (by decide) (by decide) (by decide) (by decide)]
            · rw [← es] at z
              rw [eC7]; unfold c_tc
              rw [ax_u_k z, ax_u_ne (by decide), nC4.1 537 (by decide)]
            · rw [← es, eM7, ax_u_s]; omega
            · rw [← es, eC7]; exact ax_u_s _ _ _ _
            · rw [mne 279 (by decide), l6, if_neg z]
            · rw [mne 280 (by decide), p6, if_neg z]
            · rw [mne 281 (by decide), o6, if_neg z]
            · rw [mne 279 (by decide), l6, if_pos rfl]
            · rw [mne 280 (by decide), p6, if_pos rfl]
            · rw [mne 281 (by decide), o6, if_pos rfl]
          · rw [cne 600 (by decide) (by decide), nC4.2 7 (by decide)]
          · rw [mne 222 (by decide), sc6 73 (by decide) (by decide) (by decide)]
          · rw [cne c (by omega) (by omega), nC4.1 c (by omega)]
          · rw [mne c (by omega), ne6 c (by omega) (by omega) (by omega) (by omega)]
          · rw [mne 232 (by decide), ne6 232 (by decide) (by decide) (by decide) (by decide)]; exact f1
          · rw [mne 236 (by decide), ne6 236 (by decide) (by decide) (by decide) (by decide)]; exact f3
          · rw [mne 233 (by decide), ne6 233 (by decide) (by decide) (by decide) (by decide)]; exact f4
          · rw [mne 222 (by decide), at6]; omega
        · have x1 : x = 1 := by omega
          have n6 : (M6 222 10) = (M 222 10) := sc6 10 (by decide) (by decide) (by decide)
          refine f_go.ok (C' := c_on C2 1) (M' := M6) (fun Φ Θ z => hcl Φ Θ (t_takeLetter hgC2 R2.ci (by rw [rd2.1]; exact rd2.2) (fun _ => ?_) (fun q => absurd (by rw [hs3]; exact w4) q))) (fun Φ Θ z => hml Φ Θ (hm6 _ Θ ⟨fun q => absurd q w3, fun _ => ⟨fun q => absurd q (by decide), fun _ => z⟩⟩)) ⟨h9.of R6 ⟨gC4, gM6⟩ (hL.keep (fun c a b => nC4.1 c (by omega)) (fun c a b => ne6 c (by omega) (by omega) (by omega) (by omega))) ?_ (nC4.2 7 (by decide)) (sc6 73 (by decide) (by decide) (by decide)) (fun c a b => nC4.1 c (by omega)) (fun c a b => ne6 c (by omega) (by omega) (by omega) (by omega)) n6, fun q => absurd q w3, by rw [at6]; omega, n6⟩
          · rw [eslot]
            exact ⟨⟨by omega, by omega⟩, fun _ => z _ (ax_y_i _), fun q => by omega⟩
          · refine hK.more (cl := cl) (pl := (M2 222 68)) (x := x) (l := l) hn.2.1 hl hcl26 ⟨by omega, by omega⟩ hx (fun q => absurd q w3) (fun q => ⟨hx1 q, by have := hxn q; omega⟩) (sc6 73 (by decide) (by decide) (by decide)) ck6 (by rw [at6]; omega) (fun i z => ⟨?_, ?_⟩) (fun _ => ⟨?_, ?_⟩) (fun q => absurd q w3) (fun j z => ⟨?_, ?_, ?_⟩) ⟨?_, ?_, ?_⟩
            · rw [ne6 235 (by decide) (by decide) (by decide) (by decide)]
            · rw [nC4.1 537 (by decide)]
            · rw [ne6 235 (by decide) (by decide) (by decide) (by decide)]
            · rw [nC4.1 537 (by decide)]
            · rw [l6, if_neg z]
            · rw [p6, if_neg z]
            · rw [o6, if_neg z]
            · rw [l6, if_pos rfl]
            · rw [p6, if_pos rfl]
            · rw [o6, if_pos rfl]
      · refine f_go.stop (C' := C2) (M' := M3) (fun Φ Θ z => hcl Φ Θ (t_takeLetter hgC2 R2.ci (by rw [rd2.1]; exact rd2.2) (fun q => absurd (by rw [hs3] at q; exact q) w4) (fun _ => z))) (fun Φ Θ z => hml Φ Θ (r_Model_readClock_33 hgM2 rs rx ⟨by omega, by omega⟩ ax_y_n ⟨b240, fun V1 e1 => ?_⟩)) ⟨⟨hgC2, hgM3⟩, R3.2.2.1.1.1, (fC.tr nC.g).f, ?_⟩
        · have e1' : V1 = M3 := by rw [e1, eM3]
          rw [e1']
          exact s_takeLetter hgM3 R3.mi (fun q => absurd q w4) (fun _ => ⟨fun _ => ⟨fun _ => z, fun q => absurd rfl q⟩, fun q => absurd rfl q⟩)
        · rw [eM3]; exact ((fM.tr nM.g).ua (by decide)).f
    · exact f_go.ok (C' := C) (M' := M) (fun Φ Θ z => r_Reader_readFlow_125 hgC rk hy3 rs hy5 rx' hy7 ⟨fun _ => t_look hgC ci ⟨fun q => absurd (hs.symm.trans q) w2, fun _ => z y7 hy7⟩, fun q => absurd w1 q⟩) (fun Φ Θ z => ⟨fun _ => s_see hgM mi ⟨fun q => absurd q w2, fun _ => z⟩, fun q => absurd w1 q⟩) ⟨h9, fun q => ⟨(hf q).1, (hf q).2.2.1, (hf q).2.2.2⟩, Int.le_refl _, rfl⟩
  · exact f_go.ok (C' := C) (M' := M) (fun Φ Θ z => r_Reader_readFlow_125 hgC rk hy3 rs hy5 rx' hy7 ⟨fun q => absurd q w1, fun _ => z y7 hy7⟩) (fun Φ Θ z => ⟨fun q => absurd q w1, fun _ => z⟩) ⟨h9, fun q => ⟨(hf q).1, (hf q).2.2.1, (hf q).2.2.2⟩, Int.le_refl _, rfl⟩
end Clock
