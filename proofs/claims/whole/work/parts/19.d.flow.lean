/-! READING ONE FLOW -/
theorem f_go.base {bad : ax_V → Prop} {Pc : f_PC} {Kc : ax_V → f_PC} {Pm : f_PM} {Km : ax_V → f_PM} {C M C0 M0 : ax_V} {Q : ax_V → ax_V → Prop} (h : f_go bad Pc Kc Pm Km C M Q) (fC : f_fC C0 C) (fM : f_fM M0 M) : f_go bad Pc Kc Pm Km C0 M0 Q := by
  rcases h with h | ⟨C', M', a, b, q1, q2, q3, q4⟩ | ⟨C', M', a, b, ⟨q1, q2, q3, q4⟩, q5⟩
  · exact Or.inl h
  · exact Or.inr (Or.inl ⟨C', M', a, b, q1, q2, fC.tr q3, fM.tr q4⟩)
  · exact Or.inr (Or.inr ⟨C', M', a, b, ⟨q1, q2, fC.tr q3, fM.tr q4⟩, q5⟩)
/-- what flows leave as it is -/
def f_gC (C C' : ax_V) : Prop := (∀ c, (c < 503 ∨ (507 < c ∧ c < 533) ∨ 539 < c) → c ≠ 600 → C' c = C c) ∧ ∀ j, j ≠ 6 → j ≠ 7 → C' 600 j = C 600 j
def f_gM (M M' : ax_V) : Prop := (∀ c, (c < 227 ∨ (237 < c ∧ c < 279) ∨ 281 < c) → c ≠ 222 → M' c = M c) ∧ (∀ j, j ≠ 68 → j ≠ 73 → j ≠ 75 → j ≠ 77 → M' 222 j = M 222 j) ∧ (∀ i, M 228 i ≤ M' 228 i) ∧ (¬ M 222 73 = -1 → ¬ M' 222 73 = -1)
theorem f_gC.rf (C : ax_V) : f_gC C C := ⟨fun _ _ _ => rfl, fun _ _ _ => rfl⟩
theorem f_gM.rf (M : ax_V) : f_gM M M := ⟨fun _ _ _ => rfl, fun _ _ _ _ _ => rfl, fun _ => Int.le_refl _, fun z => z⟩
theorem f_gC.tr {C C1 C2 : ax_V} (h : f_gC C C1) (k : f_gC C1 C2) : f_gC C C2 := ⟨fun c a b => (k.1 c a b).trans (h.1 c a b), fun j a b => (k.2 j a b).trans (h.2 j a b)⟩
theorem f_gM.tr {M M1 M2 : ax_V} (h : f_gM M M1) (k : f_gM M1 M2) : f_gM M M2 := ⟨fun c a b => (k.1 c a b).trans (h.1 c a b), fun j a b c d => (k.2.1 j a b c d).trans (h.2.1 j a b c d), fun i => Int.le_trans (h.2.2.1 i) (k.2.2.1 i), fun z => k.2.2.2 (h.2.2.2 z)⟩
theorem f_gC.f {C C' : ax_V} (h : f_gC C C') : f_fC C C' := ⟨fun c a b => h.1 c (by omega) b, h.2 1 (by decide) (by decide), fun c a b => by rw [h.1 c (by omega) (by omega)]⟩
theorem f_gM.f {M M' : ax_V} (h : f_gM M M') : f_fM M M' := ⟨fun c a b => h.1 c (by omega) b, fun j a => h.2.1 j (by omega) (by omega) (by omega) (by omega)⟩
theorem f_gC.ua {C C1 : ax_V} {c : Nat} {i x : Int} (h : f_gC C C1) (hc : (503 ≤ c ∧ c ≤ 507) ∨ (533 ≤ c ∧ c ≤ 539)) : f_gC C (ax_u C1 c i x) := ⟨fun c' a b => by rw [ax_u_ne (by omega)]; exact h.1 c' a b, fun j a b => by rw [ax_u_ne (by omega)]; exact h.2 j a b⟩
theorem f_gC.us {C C1 : ax_V} {i x : Int} (h : f_gC C C1) (hi : i = 6 ∨ i = 7) : f_gC C (ax_u C1 600 i x) := ⟨fun c' a b => by rw [ax_u_ne b]; exact h.1 c' a b, fun j a b => by rw [ax_u_k (by omega)]; exact h.2 j a b⟩
theorem f_gM.ua {M M1 : ax_V} {c : Nat} {i x : Int} (h : f_gM M M1) (hc : (229 ≤ c ∧ c ≤ 237) ∨ (279 ≤ c ∧ c ≤ 281)) : f_gM M (ax_u M1 c i x) := ⟨fun c' a b => by rw [ax_u_ne (by omega)]; exact h.1 c' a b, fun j a b c d => by rw [ax_u_ne (by omega)]; exact h.2.1 j a b c d, fun i' => by rw [ax_u_ne (by omega)]; exact h.2.2.1 i', fun z => by rw [ax_u_ne (by omega)]; exact h.2.2.2 z⟩
theorem f_gM.us {M M1 : ax_V} {i x : Int} (h : f_gM M M1) (hi : i = 68 ∨ i = 75 ∨ i = 77) : f_gM M (ax_u M1 222 i x) := ⟨fun c' a b => by rw [ax_u_ne b]; exact h.1 c' a b, fun j a b c d => by rw [ax_u_k (by omega)]; exact h.2.1 j a b c d, fun i' => by rw [ax_u_ne (by decide)]; exact h.2.2.1 i', fun z => by rw [ax_u_k (by omega)]; exact h.2.2.2 z⟩
theorem e_nC.g {C C' : ax_V} (h : e_nC C C') : f_gC C C' := ⟨fun c _ b => h.1 c b, fun j a _ => h.2 j a⟩
theorem e_nM.g {M M' : ax_V} (h : e_nM M M') : f_gM M M' := ⟨fun c _ b => h.1 c b, fun j a _ b _ => h.2 j a b, fun i => by rw [h.1 228 (by decide)]; exact Int.le_refl _, fun z => by rw [h.2 73 (by decide) (by decide)]; exact z⟩
/-- in the middle of a flow: x is 0 where its letter is new -/
def f_mf (C0 M0 C M : ax_V) (x k l : Int) : Prop := e_R C M ∧ (f_gC C0 C ∧ f_gM M0 M) ∧ f_Ls C M ((M 222 10) + 1) ∧ f_Ck C M ((M 222 10) + 1) ∧ f_Tw C M ∧ f_Fs C (f_tf M x k l) ((M 222 10) + 1) ∧ (¬ x = 0 → ¬ (M 222 73) = -1) ∧ (x = 0 → (0 ≤ M 227 (M 222 10) ∧ M 227 (M 222 10) < 26) ∧ (0 ≤ M 228 (M 222 10) ∧ M 228 (M 222 10) < 26) ∧ (0 ≤ M 229 (M 222 10) ∧ M 229 (M 222 10) < 26))
theorem f_mf.of {C0 M0 C M C' M' : ax_V} {x k l : Int} (h : f_mf C0 M0 C M x k l) (hR : e_R C' M') (fr : f_gC C0 C' ∧ f_gM M0 M') (hL : f_Ls C' M' ((M 222 10) + 1)) (hK : f_Ck C' M' ((M 222 10) + 1)) (ht : (C' 600 7) = (C 600 7)) (hno : (M' 222 73) = (M 222 73)) (hC : ∀ c, 503 ≤ c → c ≤ 507 → C' c = C c) (hM : ∀ c, 227 ≤ c → c ≤ 232 → M' c = M c) (hn : (M' 222 10) = (M 222 10)) : f_mf C0 M0 C' M' x k l := by
  obtain ⟨-, -, -, -, h5, h6, h7, h8⟩ := h
  refine ⟨hR, fr, by rw [hn]; exact hL, by rw [hn]; exact hK, by unfold f_Tw; rw [ht, hno]; exact h5, ?_, by rw [hno]; exact h7, by rw [hn, hM 227 (by decide) (by decide), hM 228 (by decide) (by decide), hM 229 (by decide) (by decide)]; exact h8⟩
  rw [hn]
  exact h6.keep hC (f_tf_eq hM hn)
/-- places alone -/
theorem f_mf.num {C0 M0 C M C' M' : ax_V} {x k l : Int} (h : f_mf C0 M0 C M x k l) (hR : e_R C' M') (nC : e_nC C C') (nM : e_nM M M') (ha : (M 222 68) ≤ (M' 222 68)) : f_mf C0 M0 C' M' x k l :=
  h.of hR ⟨h.2.1.1.tr nC.g, h.2.1.2.tr nM.g⟩ (h.2.2.1.keep (fun c a b => nC.1 c (by omega)) (fun c a b => nM.1 c (by omega))) (h.2.2.2.1.keep (nC.1 537 (by decide)) (fun c a => nM.1 c (by omega)) (nM.2 73 (by decide) (by decide)) (nM.2 77 (by decide) (by decide)) ha) (nC.2 7 (by decide)) (nM.2 73 (by decide) (by decide)) (fun c a b => nC.1 c (by omega)) (fun c a b => nM.1 c (by omega)) (nM.2 10 (by decide) (by decide))
def c_ll (C : ax_V) (s v : Int) : ax_V := ax_u (ax_u C 538 s 1) 539 s (if C 535 s = 1 ∧ ¬ v = 0 then 1 else v)
theorem t_tellLast {B r d : Nat} {C : ax_V} {Ψ Θ : ax_V → Prop} {s v : Int} (hg : ax_g C) (hs : 0 ≤ s ∧ s < 208) (hv : ax_rg v) (h : Ψ (c_ll C s v)) : ax_N (az_W B (az_ER B r)) (d + 1) q_Letters_tellLast [.ref (B + 32), ax_i s, ax_i v] C Ψ Θ := by
  refine r_Letters_tellLast hg ⟨by omega, by omega⟩ hv ⟨hs, fun V1 e1 => ⟨hs, ?_⟩⟩
  have e2 : V1 535 s = C 535 s := by rw [e1, ax_u_ne (by decide)]
  rw [e2]
  refine ⟨fun q => ⟨fun q2 => ⟨hs, fun V3 e3 => ?_⟩, fun q2 => ⟨hs, fun V3 e3 => ?_⟩⟩, fun q => ⟨hs, fun V3 e3 => ?_⟩⟩
  · unfold c_ll at h; rw [if_neg (fun z => z.2 q2)] at h; rw [e3, e1]; exact h
  · unfold c_ll at h; rw [if_pos ⟨q, q2⟩] at h; rw [e3, e1]; exact h
  · unfold c_ll at h; rw [if_neg (fun z => q z.1)] at h; rw [e3, e1]; exact h
section Flow
variable {B r dc dm : Nat} {C0 M0 C M : ax_V} {y2 y3 y5 : Option Value} {p l k x t : Int}
set_option maxHeartbeats 1000000 in
theorem f_last (hy2 : ax_y y2) (hy3 : ax_y y3) (hy5 : ax_y y5) (h : f_mf C0 M0 C M x k l) (hk : k = 1 ∨ k = 2 ∨ k = 3) (hl : 0 ≤ l ∧ l < 26) (hx : x = 0 ∨ x = 1) (ht : t = 0 ∨ t = 1) (rp : ax_rg p) (hf : x = 0 → M 232 (26 * (M 222 10) + l) = k ∧ M 236 (26 * (M 222 10) + l) = 0 ∧ M 233 (26 * (M 222 10) + l) = t) :
    f_go e_dig (fun Φ Θ => ∀ y7, ax_y y7 → k_Reader_readFlow_174 B r (dc + 3) k y3 (26 * (M 222 10) + l) y5 (1 - x) y7 C Φ Θ) (fun C' Φ _ => Φ C') (fun Φ Θ => k_Model_readFlows_165 (dm + 4) k y2 p l (26 * (M 222 10) + l) x t M Φ Θ) (fun M' Φ Θ => k_Model_readFlows_242 (dm + 4) k y2 p l (some (ax_i (26 * (M 222 10) + l))) x (some (ax_i t)) M' Φ Θ) C0 M0 (fun C' M' => f_mf C0 M0 C' M' x k l ∧ (M 222 68) ≤ (M' 222 68) ∧ (M' 222 10) = (M 222 10)) := by
  have h9 := h
  obtain ⟨hR, ⟨fC, fM⟩, hL, hK, hT, hF, hx1, -⟩ := h
  obtain ⟨hgC, hgM⟩ := id hR.1
  have hs := hR.see
  have ci := hR.ci
  have mi := hR.mi
  have hn := hR.2.2.1.2.1
  have hsz := hR.2.1.2.2.1
  have hat := hR.2.2.1.1
  obtain ⟨s, es⟩ : ∃ s : Int, s = 26 * (M 222 10) + l := ⟨_, rfl⟩
  rw [← es] at hf ⊢
  have rs : ax_rg s := ⟨by omega, by omega⟩
  have s8 : 0 ≤ s ∧ s < 208 := ⟨by omega, by omega⟩
  have s4 : 0 ≤ s ∧ s < 240 := ⟨by omega, by omega⟩
  have rk : ax_rg k := ⟨by omega, by omega⟩
  have rl : ax_rg l := ⟨by omega, by omega⟩
  have rx : ax_rg x := ⟨by omega, by omega⟩
  have rx' : ax_rg (1 - x) := ⟨by omega, by omega⟩
  have rt : ax_rg t := ⟨by omega, by omega⟩
  by_cases w1 : k = 1
  · exact f_go.ok (C' := C) (M' := M) (fun Φ Θ z y7 hy7 => r_Reader_readFlow_174 hgC rk hy3 rs hy5 rx' hy7 ⟨fun _ => z, fun q => absurd w1 q⟩) (fun Φ Θ z => r_Model_readFlows_165 hgM rk hy2 rp rl rs rx rt ⟨fun _ => z, fun q => absurd w1 q⟩) ⟨h9, Int.le_refl _, rfl⟩
  by_cases w2 : m_see M = 61
  · have hlt := hR.lt (by omega)
    have R1 : e_R (c_on C 1) (m_on M 1) := hR.on (by decide) (by omega)
    obtain ⟨hgC1, hgM1⟩ := id R1.1
    have a1 : (m_on M 1) 222 68 = (M 222 68) + 1 := ax_u_s _ _ _ _
    have hcl : ∀ (Φ Θ : ax_V → Prop), ax_I (az_W B (az_ER B r)) (dc + 3) q_Reader_takeNumber [.ref r] (c_on C 1) (fun r3 V3 => ((1 - x = 0 → Φ V3) ∧ (¬ 1 - x = 0 → ax_N (az_W B (az_ER B r)) (dc + 3) q_Letters_tellLast [.ref (B + 32), ax_i s, ax_i r3] V3 (fun V4 => Φ V4) Θ))) Θ → ∀ y7, ax_y y7 → k_Reader_readFlow_174 B r (dc + 3) k y3 s y5 (1 - x) y7 C Φ Θ := fun Φ Θ z y7 hy7 => r_Reader_readFlow_174 hgC rk hy3 rs hy5 rx' hy7 ⟨fun q => absurd q w1, fun _ => t_look hgC ci ⟨fun _ => ⟨⟨by omega, by omega⟩, fun V2 e2 => by rw [e2]; exact z⟩, fun q => absurd (hs.trans w2) q⟩⟩
    have hml : ∀ (Φ : Int → ax_V → Prop) (Θ : ax_V → Prop), ax_I ay_lay (dm + 4) q_Model_readNumber [.ref 222] (m_on M 1) (fun r3 V3 => ((r3 = 0 → Φ 0 V3) ∧ (¬ r3 = 0 → ((x = 0 → (0 ≤ s ∧ s < 240) ∧ (∀ V4, V4 = ax_u V3 236 s 1 → ((t = 0 → (0 ≤ s ∧ s < 240) ∧ (∀ V7, V7 = ax_u V4 237 s (V4 222 75) → k_Model_readFlows_242 (dm + 4) k y2 p l (some (ax_i s)) x (some (ax_i t)) V7 Φ Θ)) ∧ (¬ t = 0 → ((V4 222 75 = 0 → (0 ≤ s ∧ s < 240) ∧ (∀ V5, V5 = ax_u V4 237 s 0 → k_Model_readFlows_242 (dm + 4) k y2 p l (some (ax_i s)) x (some (ax_i t)) V5 Φ Θ)) ∧ (¬ V4 222 75 = 0 → (0 ≤ s ∧ s < 240) ∧ (∀ V6, V6 = ax_u V4 237 s 1 → k_Model_readFlows_242 (dm + 4) k y2 p l (some (ax_i s)) x (some (ax_i t)) V6 Φ Θ))))))) ∧ (¬ x = 0 → k_Model_readFlows_242 (dm + 4) k y2 p l (some (ax_i s)) x (some (ax_i t)) V3 Φ Θ))))) Θ → k_Model_readFlows_165 (dm + 4) k y2 p l s x t M Φ Θ := fun Φ Θ z => r_Model_readFlows_165 hgM rk hy2 rp rl rs rx rt ⟨fun q => absurd q w1, fun _ => s_see hgM mi ⟨fun _ => ⟨⟨by omega, by omega⟩, fun V2 e2 => by rw [e2]; exact z⟩, fun q => absurd w2 q⟩⟩
    by_cases hd : m_isD (m_on M 1)
    · obtain ⟨w, j, C2, M2, ia, ib, j1, hw, R2, nC, nM, a2, v2⟩ := e_num (B := B) (r := r) (dc := dc) (dm := dm) R1 hd
      have nC' := (e_nC.on C 1).tr nC
      have nM' := (e_nM.on M 1).tr nM
      have rw' : ax_rg w := ⟨by omega, by omega⟩
      have m2 := h9.num R2 nC' nM' (by omega)
      have n2 : (M2 222 10) = (M 222 10) := nM'.2 10 (by decide) (by decide)
      have hls := m2.2.2.1.1 (M 222 10) l (by omega) (by omega) hl.1 hl.2
      rw [← es] at hls
      by_cases w3 : x = 0
      · obtain ⟨f1, f2, f3⟩ := hf w3
        have g1 : M2 232 s = k := by rw [nM'.1 232 (by decide)]; exact f1
        have g2 : M2 233 s = t := by rw [nM'.1 233 (by decide)]; exact f3
        have g3 : C2 535 s = t := by rw [(hls.2.2.1 (by omega)).2.2.1]; exact g2
        obtain ⟨v', ev⟩ : ∃ v' : Int, v' = if t = 1 ∧ ¬ w = 0 then 1 else w := ⟨_, rfl⟩
        have hv' : 0 ≤ v' ∧ v' < 1000000000 ∧ (t = 1 → v' = 0 ∨ v' = 1) := by
          rw [ev]; split <;> omega
        obtain ⟨C3, eC3⟩ : ∃ X : ax_V, X = c_ll C2 s w := ⟨_, rfl⟩
        have eC3' : C3 = ax_u (ax_u C2 538 s 1) 539 s v' := by rw [eC3]; unfold c_ll; rw [g3, ← ev]
        have hgC3 : ax_g C3 := by rw [eC3']; exact ax_u_g (ax_u_g R2.1.1 (by decide)) ⟨by omega, by omega⟩
        have cne : ∀ c, c ≠ 538 → c ≠ 539 → C3 c = C2 c := fun c u v => by rw [eC3', ax_u_ne v, ax_u_ne u]
        have fC3 : f_gC C0 C3 := by rw [eC3']; exact (m2.2.1.1.ua (by decide)).ua (by decide)
        by_cases hd2 : m_isD M2
        · refine Or.inr (Or.inr ⟨C3, M2, fun Φ Θ z => hcl Φ Θ (ia.k (by omega) (fun _ _ => ⟨fun q => by omega, fun _ => t_tellLast R2.1.1 s8 rw' (by rw [← eC3]; exact z)⟩)), fun Φ Θ z => hml Φ Θ (ib.k (by omega) (fun _ _ => ⟨fun _ => z, fun q => absurd (ax_b_f (fun q2 => q2 hd2)) q⟩)), ⟨⟨hgC3, R2.1.2⟩, by rw [cne 600 (by decide) (by decide)]; exact R2.2.2.1.1.1, fC3.f, m2.2.1.2.f⟩, ?_, ?_⟩)
          · have := R2.ci
            show 0 ≤ C3 600 6 ∧ C3 600 6 ≤ 1000000 ∧ C3 600 1 ≤ 700 ∧ ∀ i, 0 ≤ i → i < C3 600 1 → 0 ≤ C3 1 i ∧ C3 1 i < 65536
            rw [cne 600 (by decide) (by decide), cne 1 (by decide) (by decide)]; exact this
          · have e : c_see C3 = m_see M2 := by
              rw [← R2.see]; unfold c_see; rw [cne 600 (by decide) (by decide), cne 1 (by decide) (by decide)]
            show 48 ≤ c_see C3 ∧ c_see C3 ≤ 57
            rw [e]; exact hd2
        · obtain ⟨M3, eM3⟩ : ∃ X : ax_V, X = ax_u (ax_u M2 236 s 1) 237 s v' := ⟨_, rfl⟩
          have hgM3 : ax_g M3 := by rw [eM3]; exact ax_u_g (ax_u_g R2.1.2 (by decide)) ⟨by omega, by omega⟩
          have mne : ∀ c, c ≠ 236 → c ≠ 237 → M3 c = M2 c := fun c u v => by rw [eM3, ax_u_ne v, ax_u_ne u]
          have R3 : e_R C3 M3 := R2.tab ⟨hgC3, hgM3⟩ (fun c z => cne c (by omega) (by omega)) (fun c z => mne c (by omega) (by omega)) (fun j _ => by rw [cne 600 (by decide) (by decide)]) (fun j _ => by rw [mne 222 (by decide) (by decide)])
          refine f_go.ok (C' := C3) (M' := M3) (fun Φ Θ z => hcl Φ Θ (ia.k (by omega) (fun _ _ => ⟨fun q => by omega, fun _ => t_tellLast R2.1.1 s8 rw' (by rw [← eC3]; exact z)⟩))) (fun Φ Θ z => hml Φ Θ (ib.k (by omega) (fun _ _ => ax_b_y hd2 ⟨fun _ => ⟨s4, fun V4 e4 => ?_⟩, fun q => absurd w3 q⟩))) ⟨m2.of R3 ⟨fC3, by rw [eM3]; exact (m2.2.1.2.ua (by decide)).ua (by decide)⟩ ?_ (m2.2.2.2.1.keep (cne 537 (by decide) (by decide)) (fun c z => mne c (by omega) (by omega)) (by rw [mne 222 (by decide) (by decide)]) (by rw [mne 222 (by decide) (by decide)]) (by rw [mne 222 (by decide) (by decide)]; exact Int.le_refl _)) (by rw [cne 600 (by decide) (by decide)]) (by rw [mne 222 (by decide) (by decide)]) (fun c a b => cne c (by omega) (by omega)) (fun c a b => mne c (by omega) (by omega)) (by rw [mne 222 (by decide) (by decide)]), by rw [mne 222 (by decide) (by decide)]; omega, by rw [mne 222 (by decide) (by decide)]; exact n2⟩
          · have e5 : V4 222 75 = w := by rw [e4, ax_u_ne (by decide)]; exact v2
            rw [e5]
            refine ⟨fun q => ⟨s4, fun V7 e7 => ?_⟩, fun q => ⟨fun q2 => ⟨s4, fun V7 e7 => ?_⟩, fun q2 => ⟨s4, fun V7 e7 => ?_⟩⟩⟩
            · have : v' = w := by rw [ev, if_neg (by omega)]
              rw [e7, e4, ← this, ← eM3]; exact z
            · have : v' = 0 := by rw [ev, if_neg (by omega)]; exact q2
              rw [e7, e4, ← this, ← eM3]; exact z
            · have : v' = 1 := by rw [ev, if_pos ⟨by omega, q2⟩]
              rw [e7, e4]
              have e6 : M3 = ax_u (ax_u M2 236 s 1) 237 s 1 := by rw [eM3, this]
              rw [← e6]; exact z
          · rw [n2]
            have hL2 := m2.2.2.1
            rw [n2] at hL2
            refine hL2.upd (n0 := (M 222 10)) (l0 := l) ⟨by omega, by omega⟩ hl (fun c i a b z => ?_) (fun c a b => cne c (by omega) (by omega)) (fun c i a b z => ?_) ?_
            · rw [← es] at z
              rw [eC3', ax_u_o (fun q => z q.2), ax_u_o (fun q => z q.2)]
            · rw [← es] at z
              rw [eM3, ax_u_o (fun q => z q.2), ax_u_o (fun q => z q.2)]
            · rw [← es]
              obtain ⟨u1, u2, u3, u4, u5, u6⟩ := hls
              unfold f_l
              rw [cne 533 (by decide) (by decide), cne 534 (by decide) (by decide), cne 535 (by decide) (by decide), cne 536 (by decide) (by decide), mne 232 (by decide) (by decide), mne 233 (by decide) (by decide), mne 234 (by decide) (by decide), mne 235 (by decide) (by decide), mne 238 (by decide) (by decide), mne 239 (by decide) (by decide)]
              have c8 : C3 538 s = 1 := by rw [eC3', ax_u_ne (by decide)]; exact ax_u_s _ _ _ _
              have c9 : C3 539 s = v' := by rw [eC3']; exact ax_u_s _ _ _ _
              have m6 : M3 236 s = 1 := by rw [eM3, ax_u_ne (by decide)]; exact ax_u_s _ _ _ _
              have m7 : M3 237 s = v' := by rw [eM3]; exact ax_u_s _ _ _ _
              rw [c8, c9, m6, m7]
              exact ⟨u1, fun q => by omega, u3, u4, ⟨rfl, Or.inr ⟨rfl, by omega, rfl, ⟨hv'.1, hv'.2.1⟩, fun q => hv'.2.2 (by omega)⟩⟩, u6⟩
      · have x1 : x = 1 := by omega
        by_cases hd2 : m_isD M2
        · refine Or.inr (Or.inr ⟨C2, M2, fun Φ Θ z => hcl Φ Θ (ia.k (by omega) (fun _ _ => ⟨fun q => z, fun q => by omega⟩)), fun Φ Θ z => hml Φ Θ (ib.k (by omega) (fun _ _ => ⟨fun _ => z, fun q => absurd (ax_b_f (fun q2 => q2 hd2)) q⟩)), ⟨R2.1, R2.2.2.1.1.1, m2.2.1.1.f, m2.2.1.2.f⟩, R2.ci, ?_⟩)
          show 48 ≤ c_see C2 ∧ c_see C2 ≤ 57
          rw [R2.see]; exact hd2
        · exact f_go.ok (C' := C2) (M' := M2) (fun Φ Θ z => hcl Φ Θ (ia.k (by omega) (fun _ _ => ⟨fun q => z, fun q => by omega⟩))) (fun Φ Θ z => hml Φ Θ (ib.k (by omega) (fun _ _ => ax_b_y hd2 ⟨fun q => absurd q w3, fun _ => z⟩))) ⟨m2, by omega, n2⟩
    · have ci1 := R1.ci
      have mi1 := R1.mi
      have hs1 := R1.see
      exact f_go.stop (C' := c_on C 1) (M' := m_on M 1) (fun Φ Θ z => hcl Φ Θ (r_Reader_takeNumber hgC1 (t_look hgC1 ci1 (t_isDigit hgC1 (c_see_rg hgC1) (ax_b_n (by rw [hs1]; exact hd) (t_refuse hgC1 z)))))) (fun Φ Θ z => hml Φ Θ (r_Model_readNumber hgM1 (s_isDigit hgM1 mi1 (ax_b_n hd ⟨fun _ => z, fun q => absurd rfl q⟩)))) ⟨R1.1, R1.2.2.1.1.1, (fC.tr (e_nC.on C 1).g).f, (fM.tr (e_nM.on M 1).g).f⟩
  · exact f_go.ok (C' := C) (M' := M) (fun Φ Θ z y7 hy7 => r_Reader_readFlow_174 hgC rk hy3 rs hy5 rx' hy7 ⟨fun q => absurd q w1, fun _ => t_look hgC ci ⟨fun q => absurd (hs.symm.trans q) w2, fun _ => z⟩⟩) (fun Φ Θ z => r_Model_readFlows_165 hgM rk hy2 rp rl rs rx rt ⟨fun q => absurd q w1, fun _ => s_see hgM mi ⟨fun q => absurd q w2, fun _ => z⟩⟩) ⟨h9, Int.le_refl _, rfl⟩
end Flow
