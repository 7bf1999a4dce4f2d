/-! A FLOW, and all of a row -/
theorem f_go.cont {bad : ax_V → Prop} {Pc : f_PC} {L : ax_V → f_PC} {Pm : f_PM} {Km : ax_V → f_PM} {C M : ax_V} {Q : ax_V → ax_V → Prop} (h : f_go bad Pc (fun C' Φ _ => Φ C') Pm Km C M Q) : f_go bad (fun Φ Θ => Pc (fun V => L V Φ Θ) Θ) L Pm Km C M Q := by
  rcases h with ⟨C', M', a, b, q⟩ | ⟨C', M', a, b, q⟩ | ⟨C', M', a, b, q⟩
  · exact Or.inl ⟨C', M', fun Φ Θ z => a (fun V => L V Φ Θ) Θ z, b, q⟩
  · exact Or.inr (Or.inl ⟨C', M', fun Φ Θ z => a (fun V => L V Φ Θ) Θ z, b, q⟩)
  · exact Or.inr (Or.inr ⟨C', M', fun Φ Θ z => a (fun V => L V Φ Θ) Θ z, b, q⟩)
theorem f_go.contM {bad : ax_V → Prop} {Pc : f_PC} {Kc : ax_V → f_PC} {Pm : f_PM} {L : ax_V → f_PM} {C M : ax_V} {Q : ax_V → ax_V → Prop} (h : f_go bad Pc Kc Pm (fun M' Φ _ => Φ 1 M') C M Q) : f_go bad Pc Kc (fun Φ Θ => Pm (fun x V => (x = 0 → Φ 0 V) ∧ (¬ x = 0 → L V Φ Θ)) Θ) L C M Q := by
  rcases h with ⟨C', M', a, b, q⟩ | ⟨C', M', a, b, q⟩ | ⟨C', M', a, b, q⟩
  · exact Or.inl ⟨C', M', a, fun Φ Θ z => b _ Θ ⟨fun q => absurd q (by decide), fun _ => z⟩, q⟩
  · exact Or.inr (Or.inl ⟨C', M', a, fun Φ Θ z => b _ Θ ⟨fun _ => z, fun q => absurd rfl q⟩, q⟩)
  · exact Or.inr (Or.inr ⟨C', M', a, fun Φ Θ z => b _ Θ ⟨fun _ => z, fun q => absurd rfl q⟩, q⟩)
theorem f_Ck.keep2 {C M C' M' : ax_V} {k : Int} (h : f_Ck C M k) (hC : C' 537 = C 537) (hM : ∀ c, (c = 235 ∨ c = 279 ∨ c = 280 ∨ c = 281) → M' c = M c) (hn : ¬ (M 222 73) = -1 → ¬ (M' 222 73) = -1 ∧ (M' 222 73) ≤ (M 222 73)) (hc : (M' 222 77) = (M 222 77)) (ha : (M 222 68) ≤ (M' 222 68)) : f_Ck C' M' k := by
  obtain ⟨h1, h2, h3⟩ := h
  unfold f_Ck f_ce
  rw [hC, hM 235 (by decide), hM 279 (by decide), hM 280 (by decide), hM 281 (by decide), hc]
  refine ⟨⟨h1.1, by omega⟩, h2, fun j a b => ?_⟩
  obtain ⟨g1, g2, g3, g4⟩ := h3 j a b
  refine ⟨g1, g2, g3, ?_⟩
  rcases g4 with g4 | ⟨g4, g5⟩
  · exact Or.inl g4
  · have := hn g4
    exact Or.inr ⟨this.1, by omega⟩
def m_nt (M : ax_V) (p : Int) : ax_V := if (M 222 73) = -1 ∨ p < (M 222 73) then ax_u M 222 73 p else M
theorem s_noteE {d : Nat} {M : ax_V} {p : Int} {Ψ Θ : ax_V → Prop} (hg : ax_g M) (hp : ax_rg p) (h : Ψ (m_nt M p)) : ax_N ay_lay (d + 1) q_Model_note [.ref 222, ax_i p] M Ψ Θ := by
  refine s_note hg hp (fun q => ?_) (fun q => ?_)
  · unfold m_nt at h; rw [if_pos q] at h; exact h
  · unfold m_nt at h; rw [if_neg (fun z => by rcases z with z | z; exact q.1 z; omega)] at h; exact h
section FlowEnd
variable {B r dc dm : Nat} {C0 M0 C M : ax_V} {y2 y3 y4 y5 y6 y7 : Option Value} {p l k x t ch : Int}
theorem f_end (hy2 : ax_y y2) (hy5 : ax_y y5) (hy7 : ax_y y7) (h : f_mf C0 M0 C M x k l) (hk : k = 1 ∨ k = 2 ∨ k = 3) (hl : 0 ≤ l ∧ l < 26) (hx : x = 0 ∨ x = 1) (rp : ax_rg p) : f_go f_nv (fun Φ _ => Φ C) (fun C' Φ _ => Φ C') (fun Φ Θ => k_Model_readFlows_242 dm k y2 p l y5 x y7 M Φ Θ) (fun M' Φ Θ => k_Model_readFlows_373 dm k y2 (some (ax_i p)) (some (ax_i l)) y5 (some (ax_i x)) y7 M' Φ Θ) C0 M0 (fun C' M' => e_R C' M' ∧ (f_gC C0 C' ∧ f_gM M0 M') ∧ f_LL C' M' ((M' 222 10) + 1) ∧ (M' 222 68) = (M 222 68) ∧ (M' 222 10) = (M 222 10) ∧ ((M' 222 73) = -1 → k = 2 → 1 ≤ M' 228 (M' 222 10))) := by
  obtain ⟨hR, ⟨fC, fM⟩, hL, hK, hT, hF, hx1, hx0⟩ := h
  obtain ⟨hgC, hgM⟩ := id hR.1
  have hn := hR.2.2.1.2.1
  have rk : ax_rg k := ⟨by omega, by omega⟩
  have rl : ax_rg l := ⟨by omega, by omega⟩
  have rx : ax_rg x := ⟨by omega, by omega⟩
  have n9 : 0 ≤ (M 222 10) ∧ (M 222 10) < 9 := ⟨by omega, by omega⟩
  by_cases w : x = 0
  · obtain ⟨i1, i2, i3⟩ := hx0 w
    have e0 : f_tf M x k l = m_tf M k l := if_pos w
    rw [e0] at hF
    obtain ⟨M1, eM1⟩ : ∃ X : ax_V, X = m_tf M k l := ⟨_, rfl⟩
    rw [← eM1] at hF
    have hgM1 : ax_g M1 := by rw [eM1]; exact m_tf_g hgM rl ⟨by omega, by omega⟩ ⟨by omega, by omega⟩ ⟨by omega, by omega⟩
    have ne : ∀ c, c < 227 ∨ 231 < c → M1 c = M c := fun c z => by rw [eM1]; exact m_tf_ne z
    have R1 : e_R C M1 := hR.tab ⟨hgC, hgM1⟩ (fun _ _ => rfl) (fun c z => ne c (by omega)) (fun _ _ => rfl) (fun j _ => by rw [ne 222 (by decide)])
    have n1 : (M1 222 10) = (M 222 10) := by rw [ne 222 (by decide)]
    have gM : f_gM M0 M1 := by
      refine fM.tr ⟨fun c a b => ne c (by omega), fun j _ _ _ _ => by rw [ne 222 (by decide)], fun i => ?_, fun z => by rw [ne 222 (by decide)]; exact z⟩
      rw [eM1]; unfold m_tf
      split
      · rw [ax_u_ne (by decide), ax_u_ne (by decide)]; exact Int.le_refl _
      · split
        · by_cases z : i = M 222 10
          · rw [z, ax_u_s]; omega
          · rw [ax_u_k z, ax_u_ne (by decide)]; exact Int.le_refl _
        · rw [ax_u_ne (by decide)]; exact Int.le_refl _
    refine f_go.ok (C' := C) (M' := M1) (fun Φ Θ z => z) (fun Φ Θ z => r_Model_readFlows_242 hgM rk hy2 rp rl hy5 rx hy7 ⟨fun _ => ?_, fun q => absurd w q⟩) ⟨R1, ⟨fC, gM⟩, ?_, by rw [ne 222 (by decide)], n1, fun _ e => by rw [n1, eM1]; unfold m_tf; rw [if_neg (by omega), if_pos e, ax_u_s]; omega⟩
    · rcases hk with e | e | e
      · subst e
        refine ⟨fun _ => ⟨n9, ⟨by omega, by omega⟩, fun V4 e4 => ?_⟩, fun q => absurd rfl q⟩
        have d1 : V4 222 10 = (M 222 10) := by rw [e4, ax_u_ne (by decide)]
        have d2 : V4 227 = M 227 := by rw [e4, ax_u_ne (by decide)]
        rw [d1, d2]
        refine ⟨n9, n9, ⟨by omega, by omega⟩, fun V5 e5 => ?_⟩
        have e6 : V5 = M1 := by rw [e5, e4, eM1]; unfold m_tf; rw [if_pos rfl]
        rw [e6]; exact z
      · subst e
        refine ⟨fun q => absurd q (by decide), fun _ => ⟨fun _ => ⟨n9, ⟨by omega, by omega⟩, fun V4 e4 => ?_⟩, fun q => absurd rfl q⟩⟩
        have d1 : V4 222 10 = (M 222 10) := by rw [e4, ax_u_ne (by decide)]
        have d2 : V4 228 = M 228 := by rw [e4, ax_u_ne (by decide)]
        rw [d1, d2]
        refine ⟨n9, n9, ⟨by omega, by omega⟩, fun V5 e5 => ?_⟩
        have e6 : V5 = M1 := by rw [e5, e4, eM1]; unfold m_tf; rw [if_neg (by decide), if_pos rfl]
        rw [e6]; exact z
      · subst e
        refine ⟨fun q => absurd q (by decide), fun _ => ⟨fun q => absurd q (by decide), fun _ => ⟨n9, n9, ⟨by omega, by omega⟩, fun V5 e5 => ?_⟩⟩⟩
        have e6 : V5 = M1 := by rw [e5, eM1]; unfold m_tf; rw [if_neg (by decide), if_neg (by decide)]
        rw [e6]; exact z
    · rw [n1]
      refine ⟨hL.keep (fun _ _ _ => rfl) (fun c a b => ne c (by omega)), hF, hK.keep rfl (fun c a => ne c (by omega)) (by rw [ne 222 (by decide)]) (by rw [ne 222 (by decide)]) (by rw [ne 222 (by decide)]; exact Int.le_refl _), ?_⟩
      unfold f_Tw
      rw [ne 222 (by decide)]
      exact hT
  · have e0 : f_tf M x k l = M := if_neg w
    rw [e0] at hF
    refine f_go.ok (C' := C) (M' := M) (fun Φ Θ z => z) (fun Φ Θ z => r_Model_readFlows_242 hgM rk hy2 rp rl hy5 rx hy7 ⟨fun q => absurd q w, fun _ => ⟨fun q => absurd q (hx1 w), fun _ V6 e6 => ?_⟩⟩) ⟨hR, ⟨fC, fM⟩, ⟨hL, hF, hK, hT⟩, rfl, rfl, fun q => absurd q (hx1 w)⟩
    have e7 : V6 = M := by
      rw [e6]; funext c i
      unfold ax_u
      split
      · next z => rw [z.1, z.2]
      · rfl
    rw [e7]; exact z
set_option maxHeartbeats 1000000 in
theorem f_tellF (hy3 : ax_y y3) (hy4 : ax_y y4) (hy5 : ax_y y5) (hy6 : ax_y y6) (hy7 : ax_y y7) (h : e_R C M) (hLL : f_LL C M ((M 222 10) + 1)) (hk : k = 1 ∨ k = 2 ∨ k = 3) (el : l = m_see M - 97) (ec : ch = m_see (m_on M 1)) (ex : x = if M 232 (26 * (M 222 10) + l) = 0 then 0 else 1) (et : t = if ch = 98 then 1 else 0) :
    f_go f_nv (fun Φ Θ => ax_N (az_W B (az_ER B r)) (dc + 4) q_Reader_readFlow [.ref r, ax_i k] C Φ Θ) (fun C' Φ Θ => k_Reader_readFlow_125 B r (dc + 3) k (some (ax_i (M 222 68))) (26 * (M 222 10) + l) (some (ax_i ch)) (1 - x) none C' Φ Θ) (fun Φ Θ => k_Model_readFlows_2 (dm + 4) k 1 y3 y4 y5 y6 y7 M Φ Θ) (fun M' Φ Θ => f_m3 (dm + 4) k (some (ax_i 1)) (M 222 68) l (26 * (M 222 10) + l) x t M' Φ Θ) C M (fun C' M' => f_mf C M C' M' x k l ∧ (0 ≤ l ∧ l < 26) ∧ ((M' 222 68) = (M 222 68) + 2 ∧ (M' 222 10) = (M 222 10) ∧ (M' 222 77) = (M 222 77)) ∧ (x = 0 → M' 232 (26 * (M 222 10) + l) = k ∧ M' 235 (26 * (M 222 10) + l) = 0 ∧ M' 236 (26 * (M 222 10) + l) = 0 ∧ M' 233 (26 * (M 222 10) + l) = t) ∧ (¬ x = 0 → (M' 222 73) ≤ (M 222 68))) := by
  obtain ⟨hL, hF, hK, hT⟩ := hLL
  obtain ⟨hgC, hgM⟩ := id h.1
  have hs := h.see
  have ci := h.ci
  have mi := h.mi
  have hn := h.2.2.1.2.1
  have hsz := h.2.1.2.2.1
  have hat := h.2.2.1.1
  have rk : ax_rg k := ⟨by omega, by omega⟩
  have nC1 : e_nC C (c_on C 1) := e_nC.on C 1
  have nM1 : e_nM M (m_on M 1) := e_nM.on M 1
  by_cases w1 : m_isL M
  · have hlt := h.lt (by have := w1.1; omega)
    have hl : 0 ≤ l ∧ l < 26 := ⟨by have := w1.1; omega, by have := w1.2; omega⟩
    have R1 : e_R (c_on C 1) (m_on M 1) := h.on (by decide) (by omega)
    obtain ⟨hgC1, hgM1⟩ := id R1.1
    have hs1 := R1.see
    have ci1 := R1.ci
    have mi1 := R1.mi
    have a1 : (m_on M 1) 222 68 = (M 222 68) + 1 := ax_u_s _ _ _ _
    have b1 : (c_on C 1) 600 6 = (C 600 6) + 1 := ax_u_s _ _ _ _
    have z1 : (m_on M 1) 222 3 = (M 222 3) := ax_u_k (by decide)
    have n1 : (m_on M 1) 222 10 = (M 222 10) := ax_u_k (by decide)
    obtain ⟨s, es⟩ : ∃ s : Int, s = 26 * (M 222 10) + l := ⟨_, rfl⟩
    rw [← es] at ex ⊢
    have rs : ax_rg s := ⟨by omega, by omega⟩
    have rl : ax_rg l := ⟨by omega, by omega⟩
    have s8 : 0 ≤ s ∧ s < 208 := ⟨by omega, by omega⟩
    have s4 : 0 ≤ s ∧ s < 240 := ⟨by omega, by omega⟩
    have eslot : (C 600 8) * 26 + (c_see C - 97) = s := by omega
    have hls := hL.1 (M 222 10) l (by omega) (by omega) hl.1 hl.2
    rw [← es] at hls
    have rch : ax_rg ch := by rw [ec]; exact m_see_rg hgM1
    have rat : ax_rg (M 222 68) := ⟨by omega, by omega⟩
    by_cases w2 : ch = 105 ∨ ch = 98
    · have hlt1 := R1.lt (by rcases w2 with z | z <;> omega)
      have ht : t = 0 ∨ t = 1 := by rw [et]; split <;> omega
      have rt : ax_rg t := ⟨by omega, by omega⟩
      obtain ⟨C2, eC2⟩ : ∃ X : ax_V, X = c_on (c_on C 1) 1 := ⟨_, rfl⟩
      have hgC2 : ax_g C2 := by rw [eC2]; exact ax_u_g hgC1 ⟨by omega, by omega⟩
      have nC2 : e_nC C C2 := by rw [eC2]; exact nC1.tr (e_nC.on _ 1)
      have cat2 : C2 600 6 = (M 222 68) + 2 := by
        have : (c_on (c_on C 1) 1) 600 6 = (c_on C 1) 600 6 + 1 := ax_u_s _ _ _ _
        rw [eC2]; omega
      have hcl : ∀ (Φ Θ : ax_V → Prop), k_Reader_readFlow_69 B r (dc + 3) k (M 222 68) s ch none none (1 - x) C2 Φ Θ → ax_N (az_W B (az_ER B r)) (dc + 4) q_Reader_readFlow [.ref r, ax_i k] C Φ Θ := by
        intro Φ Θ z
        have key : ∀ V3 : ax_V, V3 = ax_u (c_on C 1) 600 6 ((c_on C 1) 600 6 + 1) → (0 ≤ s ∧ s < 208) ∧ ((V3 533 s = -1 → k_Reader_readFlow_69 B r (dc + 3) k (C 600 6) s (c_see (c_on C 1)) none none 1 V3 Φ Θ) ∧ (¬ V3 533 s = -1 → k_Reader_readFlow_69 B r (dc + 3) k (C 600 6) s (c_see (c_on C 1)) none none 0 V3 Φ Θ)) := by
          intro V3 e3
          have e3' : V3 = C2 := by rw [e3, eC2]; rfl
          rw [e3', hs1, ← ec, hat.1, nC2.1 533 (by decide)]
          refine ⟨s8, fun q => ?_, fun q => ?_⟩
          · have : M 232 s = 0 := by
              by_cases w : M 232 s = 0
              · exact w
              · have := hls.2.2.1 w; omega
            rw [if_pos this] at ex
            rw [ex] at z; exact z
          · have : ¬ M 232 s = 0 := fun w => q (hls.2.1 w).1
            rw [if_neg this] at ex
            rw [ex] at z; exact z
        refine r_Reader_readFlow hgC rk (t_takeLetter hgC ci (by rw [hn.1]; exact hn.2) (fun _ => ?_) (fun q => absurd (by rw [hs]; exact w1) q))
        rw [eslot]
        refine t_look hgC1 ci1 ⟨fun _ => ⟨⟨by omega, by omega⟩, key⟩, fun q => ⟨fun _ => ⟨⟨by omega, by omega⟩, key⟩, fun q2 => ?_⟩⟩
        rw [hs1, ← ec] at q q2
        rcases w2 with w2 | w2
        · exact absurd w2 q
        · exact absurd w2 q2
      have hml : ∀ (Φ : Int → ax_V → Prop) (Θ : ax_V → Prop), k_Model_readFlows_43 (dm + 4) k (some (ax_i 1)) (M 222 68) l y5 y6 y7 (m_on M 1) Φ Θ → k_Model_readFlows_2 (dm + 4) k 1 y3 y4 y5 y6 y7 M Φ Θ := by
        intro Φ Θ z
        refine r_Model_readFlows_2 hgM rk (by decide) hy3 hy4 hy5 hy6 hy7 ⟨fun q => absurd q (by decide), fun _ => s_takeLetter hgM mi (fun _ => ⟨fun q => by have := w1.1; omega, fun _ => ?_⟩) (fun q => absurd w1 q)⟩
        rw [← el]
        refine s_see hgM1 mi1 ⟨fun _ => z, fun q => s_see hgM1 mi1 ⟨fun _ => z, fun q2 => ?_⟩⟩
        rw [← ec] at q q2
        rcases w2 with w2 | w2
        · exact absurd w2 q
        · exact absurd w2 q2
      by_cases w3 : M 232 s = 0
      · rw [if_pos w3] at ex
        subst ex
        have hff := hF.1 (M 222 10) (by omega) (by omega)
        have hb := f_cn_lt (n := (M 222 10)) (by rw [← es]; exact w3) hl.1 26 hl.2
        have hf1 := hff.1
        have hf2 := hff.2.1
        have hf3 := hff.2.2.1
        have hf4 := hff.2.2.2.1
        obtain ⟨C3, eC3⟩ : ∃ X : ax_V, X = c_tl C2 s (M 222 68) k t := ⟨_, rfl⟩
        obtain ⟨C4, eC4⟩ : ∃ X : ax_V, X = c_tf C3 (M 222 10) k s := ⟨_, rfl⟩
        have hgC3 : ax_g C3 := by rw [eC3]; exact c_tl_g hgC2 rat rk rt
        have cn3 : ∀ c, c < 533 ∨ 535 < c → C3 c = C2 c := fun c z => by rw [eC3]; exact c_tl_ne z
        have i3 : C3 503 (M 222 10) = M 227 (M 222 10) := by rw [cn3 503 (by decide), nC2.1 503 (by decide)]; exact hf1.1
        have o3 : C3 504 (M 222 10) = M 228 (M 222 10) := by rw [cn3 504 (by decide), nC2.1 504 (by decide)]; exact hf2.1
        have l3 : C3 505 (M 222 10) = M 229 (M 222 10) := by rw [cn3 505 (by decide), nC2.1 505 (by decide)]; exact hf3.1
        have hgC4 : ax_g C4 := by rw [eC4]; exact c_tf_g hgC3 rs ⟨by omega, by omega⟩ ⟨by omega, by omega⟩ ⟨by omega, by omega⟩
        have cn4 : ∀ c, c < 503 ∨ 507 < c → C4 c = C3 c := fun c z => by rw [eC4]; exact c_tf_ne z
        have rd3 : C3 600 8 = (M 222 10) := by rw [cn3 600 (by decide), nC2.2 8 (by decide)]; exact hn.1
        obtain ⟨M2, eM2⟩ : ∃ X : ax_V, X = m_on (m_on M 1) 1 := ⟨_, rfl⟩
        have nM2 : e_nM M M2 := by rw [eM2]; exact nM1.tr (e_nM.on _ 1)
        have mat2 : M2 222 68 = (M 222 68) + 2 := by
          have : (m_on (m_on M 1) 1) 222 68 = (m_on M 1) 222 68 + 1 := ax_u_s _ _ _ _
          rw [eM2]; omega
        obtain ⟨M3, eM3⟩ : ∃ X : ax_V, X = m_te M2 s (M 222 68) k t := ⟨_, rfl⟩
        have hgM2 : ax_g M2 := by rw [eM2]; exact ax_u_g hgM1 ⟨by omega, by omega⟩
        have hgM3 : ax_g M3 := by rw [eM3]; exact m_te_g hgM2 rat rk rt
        have mn3 : ∀ c, c < 232 ∨ 234 < c → M3 c = M2 c := fun c z => by rw [eM3]; exact m_te_ne z
        have n3 : M3 222 10 = (M 222 10) := by rw [mn3 222 (by decide), nM2.2 10 (by decide) (by decide)]
        have R2 : e_R C2 M2 := by rw [eC2, eM2]; exact R1.on (by decide) (by omega)
        have R4 : e_R C4 M3 := R2.tab ⟨hgC4, hgM3⟩ (fun c z => by rw [cn4 c (by omega), cn3 c (by omega)]) (fun c z => mn3 c (by omega)) (fun j _ => by rw [cn4 600 (by decide), cn3 600 (by decide)]) (fun j _ => by rw [mn3 222 (by decide)])
        have k3 : M3 232 s = k := by rw [eM3]; unfold m_te; rw [ax_u_ne (by decide), ax_u_ne (by decide)]; exact ax_u_s _ _ _ _
        have t3 : M3 233 s = t := by rw [eM3]; unfold m_te; rw [ax_u_ne (by decide)]; exact ax_u_s _ _ _ _
        have p3 : M3 234 s = (M 222 68) := by rw [eM3]; exact ax_u_s _ _ _ _
        have ck3 : M3 235 s = 0 := by rw [mn3 235 (by decide), nM2.1 235 (by decide)]; exact (hls.2.1 w3).2.1
        have hl3 : M3 236 s = 0 := by rw [mn3 236 (by decide), nM2.1 236 (by decide)]; exact (hls.2.1 w3).2.2
        refine f_go.ok (C' := C4) (M' := M3) (fun Φ Θ z => hcl Φ Θ (r_Reader_readFlow_69 hgC2 rk rat rs rch ax_y_n ax_y_n (by decide) ⟨fun q => absurd q (by decide), fun _ => ⟨fun q => ?_, fun q => ?_⟩⟩)) (fun Φ Θ z => hml Φ Θ (r_Model_readFlows_43 hgM1 rk (ax_y_i _) rat rl hy5 hy6 hy7 ?_)) ⟨⟨R4, ⟨?_, ?_⟩, ?_, ?_, ?_, ?_, fun q => absurd rfl q, fun _ => ?_⟩, hl, ⟨?_, n3, ?_⟩, fun _ => ⟨k3, ck3, hl3, t3⟩, fun q => absurd rfl q⟩
        · have e1 : t = 1 := by rw [et, if_pos q]
          rw [e1] at eC3
          refine t_tell hgC2 s8 rat rk (by decide) ?_
          rw [← eC3, rd3]
          exact t_tellFlow hgC3 hn.2 hk rs ⟨by omega, by omega⟩ ⟨by omega, by omega⟩ ⟨by omega, by omega⟩ (by rw [← eC4]; exact z)
        · have e1 : t = 0 := by rw [et, if_neg q]
          rw [e1] at eC3
          refine t_tell hgC2 s8 rat rk (by decide) ?_
          rw [← eC3, rd3]
          exact t_tellFlow hgC3 hn.2 hk rs ⟨by omega, by omega⟩ ⟨by omega, by omega⟩ ⟨by omega, by omega⟩ (by rw [← eC4]; exact z)
        · rw [n1, ← es]
          have kk : (m_on M 1) 232 s = 0 := by rw [nM1.1 232 (by decide)]; exact w3
          have key : k_Model_readFlows_96 (dm + 4) k (some (ax_i 1)) (M 222 68) l s 0 y7 t (m_on M 1) Φ Θ := by
            refine r_Model_readFlows_96 hgM1 rk (ax_y_i _) rat rl rs (by decide) hy7 rt ⟨⟨by omega, by omega⟩, fun V1 e1 => ⟨fun _ => ⟨s4, fun V4 e4 => ⟨s4, fun V5 e5 => ⟨s4, fun V6 e6 => ?_⟩⟩⟩, fun q => absurd rfl q⟩⟩
            have e7 : V6 = M3 := by rw [e6, e5, e4, e1, eM3, eM2]; rfl
            rw [e7]; exact z
          refine ⟨s4, fun _ => s_see hgM1 mi1 ⟨fun q => ?_, fun q => ?_⟩, fun q => absurd kk q⟩
          · have e1 : t = 1 := by rw [et, if_pos (by rw [ec]; exact q)]
            rw [e1] at key; exact key
          · have e1 : t = 0 := by rw [et, if_neg (by rw [ec]; exact q)]
            rw [e1] at key; exact key
        · refine nC2.g.tr ⟨fun c a b => by rw [cn4 c (by omega), cn3 c (by omega)], fun j _ _ => by rw [cn4 600 (by decide), cn3 600 (by decide)]⟩
        · exact nM2.g.tr ⟨fun c a b => mn3 c (by omega), fun j _ _ _ _ => by rw [mn3 222 (by decide)], fun i => by rw [mn3 228 (by decide)]; exact Int.le_refl _, fun z => by rw [mn3 222 (by decide)]; exact z⟩
        · rw [n3]
          refine hL.upd (n0 := (M 222 10)) (l0 := l) ⟨by omega, by omega⟩ hl (fun c i a b z => ?_) (fun c a b => by rw [cn4 c (by omega), cn3 c (by omega), nC2.1 c (by omega)]) (fun c i a b z => ?_) ?_
          · rw [← es] at z
            rw [cn4 c (by omega), eC3]; unfold c_tl
            rw [ax_u_o (fun q => z q.2), ax_u_o (fun q => z q.2), ax_u_o (fun q => z q.2), nC2.1 c (by omega)]
          · rw [← es] at z
            rw [eM3]; unfold m_te
            rw [ax_u_o (fun q => z q.2), ax_u_o (fun q => z q.2), ax_u_o (fun q => z q.2), nM2.1 c (by omega)]
          · rw [← es]
            obtain ⟨u1, u2, u3, u4, u5, u6⟩ := hls
            have c3 : C4 533 s = (M 222 68) := by rw [cn4 533 (by decide), eC3]; unfold c_tl; rw [ax_u_ne (by decide), ax_u_ne (by decide)]; exact ax_u_s _ _ _ _
            have c4 : C4 534 s = k := by rw [cn4 534 (by decide), eC3]; unfold c_tl; rw [ax_u_ne (by decide)]; exact ax_u_s _ _ _ _
            have c5 : C4 535 s = t := by rw [cn4 535 (by decide), eC3]; exact ax_u_s _ _ _ _
            have c6 : C4 536 s = -1 := by
              rw [cn4 536 (by decide), cn3 536 (by decide), nC2.1 536 (by decide)]
              have := (u2 w3).2.1
              rcases u4 with u4 | u4
              · exact u4.2
              · omega
            have c8 : C4 538 s = 0 := by rw [cn4 538 (by decide), cn3 538 (by decide), nC2.1 538 (by decide), u5.1]; exact (u2 w3).2.2
            unfold f_l
            rw [c3, c4, c5, c6, c8, k3, t3, p3, ck3, hl3, mn3 238 (by decide), mn3 239 (by decide), nM2.1 238 (by decide), nM2.1 239 (by decide)]
            exact ⟨⟨rfl, by omega, by omega⟩, fun q => by omega, fun _ => ⟨rfl, ⟨by omega, by omega⟩, rfl, ht⟩, Or.inl ⟨rfl, rfl⟩, ⟨rfl, Or.inl rfl⟩, u6⟩
        · rw [n3]
          exact hK.keep (by rw [cn4 537 (by decide), cn3 537 (by decide), nC2.1 537 (by decide)]) (fun c z => by rw [mn3 c (by omega), nM2.1 c (by omega)]) (by rw [mn3 222 (by decide), nM2.2 73 (by decide) (by decide)]) (by rw [mn3 222 (by decide), nM2.2 77 (by decide) (by decide)]) (by rw [mn3 222 (by decide), mat2]; omega)
        · unfold f_Tw
          rw [cn4 600 (by decide), cn3 600 (by decide), nC2.2 7 (by decide), mn3 222 (by decide), nM2.2 73 (by decide) (by decide)]
          exact hT
        · rw [n3]
          have e0 : f_tf M3 0 k l = m_tf M3 k l := if_pos rfl
          rw [e0, eC4, eC3, eM3]
          have hF2 : f_Fs C2 M2 (M2 222 10 + 1) := by
            rw [nM2.2 10 (by decide) (by decide)]
            exact hF.keep (fun c a b => nC2.1 c (by omega)) (fun c a b => nM2.1 c (by omega))
          have n2 : M2 222 10 = (M 222 10) := nM2.2 10 (by decide) (by decide)
          have := hF2.tell (p := (M 222 68)) (t := t) (l := l) (by rw [n2]; exact hn.2) hk hl (by rw [n2, ← es, nM2.1 232 (by decide)]; exact w3)
          rw [n2, ← es] at this
          exact this
        · rw [n3, mn3 227 (by decide), mn3 228 (by decide), mn3 229 (by decide), nM2.1 227 (by decide), nM2.1 228 (by decide), nM2.1 229 (by decide)]
          exact ⟨⟨by omega, by omega⟩, ⟨by omega, by omega⟩, ⟨by omega, by omega⟩⟩
        · rw [mn3 222 (by decide)]; exact mat2
        · rw [mn3 222 (by decide), nM2.2 77 (by decide) (by decide)]
      · rw [if_neg w3] at ex
        subst ex
        obtain ⟨tw, etw⟩ : ∃ v : Int, v = if (M 222 68) < C2 600 7 then (M 222 68) else C2 600 7 := ⟨_, rfl⟩
        obtain ⟨C3, eC3⟩ : ∃ X : ax_V, X = ax_u C2 600 7 tw := ⟨_, rfl⟩
        have rtw : ax_rg tw := by rw [etw]; split; exact rat; exact hgC2 _ _
        have hgC3 : ax_g C3 := by rw [eC3]; exact ax_u_g hgC2 rtw
        obtain ⟨M2, eM2⟩ : ∃ X : ax_V, X = m_nt (m_on M 1) (M 222 68) := ⟨_, rfl⟩
        have hgM2 : ax_g M2 := by rw [eM2]; unfold m_nt; split; exact ax_u_g hgM1 rat; exact hgM1
        have ne2 : ∀ c, c ≠ 222 → M2 c = M c := fun c z => by
          rw [eM2]; unfold m_nt; split
          · rw [ax_u_ne z, nM1.1 c z]
          · rw [nM1.1 c z]
        have sc2 : ∀ j, j ≠ 73 → M2 222 j = (m_on M 1) 222 j := fun j z => by
          rw [eM2]; unfold m_nt; split
          · rw [ax_u_k z]
          · rfl
        have no1 : (m_on M 1) 222 73 = (M 222 73) := nM1.2 73 (by decide) (by decide)
        have no2 : M2 222 73 = if (M 222 73) = -1 ∨ (M 222 68) < (M 222 73) then (M 222 68) else (M 222 73) := by
          rw [eM2]; unfold m_nt; rw [no1]; split
          · exact ax_u_s _ _ _ _
          · exact no1
        obtain ⟨M3, eM3⟩ : ∃ X : ax_V, X = m_on M2 1 := ⟨_, rfl⟩
        have a2 : M2 222 68 = (M 222 68) + 1 := by rw [sc2 68 (by decide)]; exact a1
        have hgM3 : ax_g M3 := by rw [eM3]; exact ax_u_g hgM2 ⟨by omega, by omega⟩
        have ne3 : ∀ c, c ≠ 222 → M3 c = M c := fun c z => by rw [eM3]; unfold m_on; rw [ax_u_ne z, ne2 c z]
        have sc3 : ∀ j, j ≠ 68 → j ≠ 73 → M3 222 j = M 222 j := fun j u v => by rw [eM3]; unfold m_on; rw [ax_u_k u, sc2 j v]; unfold m_on; rw [ax_u_k u]
        have at3 : M3 222 68 = (M 222 68) + 2 := by
          have : (m_on M2 1) 222 68 = M2 222 68 + 1 := ax_u_s _ _ _ _
          rw [eM3]; omega
        have no3 : M3 222 73 = if (M 222 73) = -1 ∨ (M 222 68) < (M 222 73) then (M 222 68) else (M 222 73) := by rw [eM3]; unfold m_on; rw [ax_u_k (by decide)]; exact no2
        have n3 : M3 222 10 = (M 222 10) := sc3 10 (by decide) (by decide)
        have R2 : e_R (c_on (c_on C 1) 1) (m_on (m_on M 1) 1) := R1.on (by decide) (by omega)
        rw [← eC2] at R2
        have cn3 : ∀ c, c ≠ 600 → C3 c = C2 c := fun c z => by rw [eC3]; exact ax_u_ne z
        have cs3 : ∀ j, j ≠ 7 → C3 600 j = C2 600 j := fun j z => by rw [eC3]; exact ax_u_k z
        have R3 : e_R C3 M3 := by
          refine R2.tab ⟨hgC3, hgM3⟩ (fun c z => cn3 c (by omega)) (fun c z => ?_) (fun j z => cs3 j (by omega)) (fun j z => ?_)
          · rw [ne3 c (by omega), (e_nM.on (m_on M 1) 1).1 c (by omega), nM1.1 c (by omega)]
          · by_cases w : j = 68
            · rw [w, at3]
              have : (m_on (m_on M 1) 1) 222 68 = (m_on M 1) 222 68 + 1 := ax_u_s _ _ _ _
              omega
            · rw [sc3 j w (by omega), (e_nM.on (m_on M 1) 1).2 j w (by omega), nM1.2 j w (by omega)]
        have hno : ¬ M3 222 73 = -1 ∧ M3 222 73 ≤ (M 222 68) ∧ (¬ (M 222 73) = -1 → M3 222 73 ≤ (M 222 73)) := by
          rw [no3]; split
          · refine ⟨by omega, Int.le_refl _, fun _ => by omega⟩
          · next w => exact ⟨fun q => w (Or.inl q), by omega, fun _ => Int.le_refl _⟩
        refine f_go.ok (C' := C3) (M' := M3) (fun Φ Θ z => hcl Φ Θ (r_Reader_readFlow_69 hgC2 rk rat rs rch ax_y_n ax_y_n (by decide) ⟨fun _ V1 e1 => ?_, fun q => absurd rfl q⟩)) (fun Φ Θ z => hml Φ Θ (r_Model_readFlows_43 hgM1 rk (ax_y_i _) rat rl hy5 hy6 hy7 ?_)) ⟨⟨R3, ⟨?_, ?_⟩, ?_, ?_, ?_, ?_, fun _ => hno.1, fun q => absurd q (by decide)⟩, hl, ⟨at3, n3, sc3 77 (by decide) (by decide)⟩, fun q => absurd q (by decide), fun _ => hno.2.1⟩
        · rw [← etw] at e1
          rw [e1, ← eC3]; exact z
        · rw [n1, ← es]
          have kk : ¬ (m_on M 1) 232 s = 0 := by rw [nM1.1 232 (by decide)]; exact w3
          have mi2 : m_in M2 := ⟨by omega, by omega, by rw [sc2 3 (by decide)]; exact mi1.2.2⟩
          have see2 : m_see M2 = ch := by
            rw [ec]; unfold m_see
            rw [sc2 68 (by decide), sc2 3 (by decide), ne2 224 (by decide), nM1.1 224 (by decide)]
          have key : k_Model_readFlows_96 (dm + 4) k (some (ax_i 1)) (M 222 68) l s 1 y7 t M2 Φ Θ := by
            refine r_Model_readFlows_96 hgM2 rk (ax_y_i _) rat rl rs (by decide) hy7 rt ⟨⟨by omega, by omega⟩, fun V1 e1 => ⟨fun q => absurd q (by decide), fun _ => ?_⟩⟩
            have e7 : V1 = M3 := by rw [e1, eM3]; rfl
            rw [e7]; exact z
          refine ⟨s4, fun q => absurd q kk, fun _ => s_noteE hgM1 rat ?_⟩
          rw [← eM2]
          refine s_see hgM2 mi2 ⟨fun q => ?_, fun q => ?_⟩
          · have e1 : t = 1 := by rw [et, if_pos (by rw [← see2]; exact q)]
            rw [e1] at key; exact key
          · have e1 : t = 0 := by rw [et, if_neg (by rw [← see2]; exact q)]
            rw [e1] at key; exact key
        · rw [eC3]; exact nC2.g.us (by decide)
        · exact ⟨fun c a b => ne3 c b, fun j a b _ _ => sc3 j a b, fun i => by rw [ne3 228 (by decide)]; exact Int.le_refl _, fun _ => hno.1⟩
        · rw [n3]
          exact hL.keep (fun c a b => by rw [cn3 c (by omega), nC2.1 c (by omega)]) (fun c a b => ne3 c (by omega))
        · rw [n3]
          exact hK.keep2 (by rw [cn3 537 (by decide), nC2.1 537 (by decide)]) (fun c z => ne3 c (by omega)) (fun q => ⟨hno.1, hno.2.2 q⟩) (sc3 77 (by decide) (by decide)) (by rw [at3]; omega)
        · have tw3 : C3 600 7 = tw := by rw [eC3]; exact ax_u_s _ _ _ _
          have tw2 : C2 600 7 = (C 600 7) := nC2.2 7 (by decide)
          rw [tw2] at etw
          refine Or.inr ⟨?_, ?_⟩
          · rw [tw3, no3, etw]
            rcases hT with ⟨q1, q2⟩ | ⟨q1, q2⟩
            · rw [q2, if_pos (by omega), if_pos (Or.inl q1)]
            · rw [q1]
              by_cases w : (M 222 68) < (M 222 73)
              · rw [if_pos w, if_pos (Or.inr w)]
              · rw [if_neg w, if_neg (by omega)]
          · rw [no3]
            rcases hT with ⟨q1, q2⟩ | ⟨q1, q2⟩
            · rw [if_pos (Or.inl q1)]; exact ⟨by omega, by omega⟩
            · split
              · exact ⟨by omega, by omega⟩
              · exact q2
        · rw [n3]
          have e0 : f_tf M3 1 k l = M3 := if_neg (by decide)
          rw [e0]
          exact hF.keep (fun c a b => by rw [cn3 c (by omega), nC2.1 c (by omega)]) (fun c a b => ne3 c (by omega))
    · have q1 : ¬ ch = 105 := fun q => w2 (Or.inl q)
      have q2 : ¬ ch = 98 := fun q => w2 (Or.inr q)
      refine f_go.stop (C' := c_on C 1) (M' := m_on M 1) (fun Φ Θ z => r_Reader_readFlow hgC rk (t_takeLetter hgC ci (by rw [hn.1]; exact hn.2) (fun _ => t_look hgC1 ci1 ?_) (fun q => absurd (by rw [hs]; exact w1) q))) (fun Φ Θ z => r_Model_readFlows_2 hgM rk (by decide) hy3 hy4 hy5 hy6 hy7 ⟨fun q => absurd q (by decide), fun _ => s_takeLetter hgM mi (fun _ => ⟨fun q => by have := w1.1; omega, fun _ => s_see hgM1 mi1 ?_⟩) (fun q => absurd w1 q)⟩) ⟨R1.1, R1.2.2.1.1.1, nC1.g.f, nM1.g.f⟩
      · rw [hs1, ← ec]
        exact ⟨fun q => absurd q q1, fun _ => ⟨fun q => absurd q q2, fun _ => t_refuse hgC1 z⟩⟩
      · rw [← ec]
        exact ⟨fun q => absurd q q1, fun _ => s_see hgM1 mi1 (by rw [← ec]; exact ⟨fun q => absurd q q2, fun _ => z⟩)⟩
  · exact f_go.stop (C' := C) (M' := M) (fun Φ Θ z => r_Reader_readFlow hgC rk (t_takeLetter hgC ci (by rw [hn.1]; exact hn.2) (fun q => absurd (by rw [hs] at q; exact q) w1) (fun _ => z))) (fun Φ Θ z => r_Model_readFlows_2 hgM rk (by decide) hy3 hy4 hy5 hy6 hy7 ⟨fun q => absurd q (by decide), fun _ => s_takeLetter hgM mi (fun q => absurd q w1) (fun _ => ⟨fun _ => z, fun q => absurd rfl q⟩)⟩) ⟨h.1, hat.1, f_fC.rf C, f_fM.rf M⟩
end FlowEnd
