/-! FAULTS 6, the model: an order -/
def g_ord (V : ax_V) (n s : Int) : Prop := ∃ i, (0 ≤ i ∧ i < V 284 n) ∧ V 285 (26 * n + i) = s
def g_OI (M0 V0 V : ax_V) (H : Int → Int → Prop) (n : Int) : Prop := g_fr [284, 285, 286] V0 V ∧ ax_g V ∧ (∀ x, x ≠ n → V 284 x = V0 284 x) ∧ (∀ s, ¬ (26 * n ≤ s ∧ s < 26 * n + 26) → V 285 s = V0 285 s) ∧ (0 ≤ V 284 n ∧ (V 284 n).toNat + g_ct (V 286) 0 26 ≤ 26) ∧ (∀ s, 0 ≤ s → s < 26 → (¬ V 286 s = 0 ↔ (M0 232 (26 * n + s) = 0 ∨ g_ord V n s))) ∧ ∀ i, 0 ≤ i → i < V 284 n → (0 ≤ V 285 (26 * n + i) ∧ V 285 (26 * n + i) < 26) ∧ ¬ M0 232 (26 * n + V 285 (26 * n + i)) = 0 ∧ ∀ y, 0 ≤ y → y < 26 → H (V 285 (26 * n + i)) y → M0 232 (26 * n + y) = 0 ∨ ∃ j, (0 ≤ j ∧ j < i) ∧ V 285 (26 * n + j) = y
section Kind6I
variable {d : Nat} {M0 V : ax_V} {n : Int} {H : Int → Int → Prop} {Ψ Θ : ax_V → Prop}
/-- one more is placed -/
theorem g_OI.put {W : ax_V} {l : Int} (h : g_OI M0 V W H n) (n0 : 0 ≤ n ∧ n < 8) (l0 : 0 ≤ l) (l1 : l < 26) (hp : W 286 l = 0) (hk : ∀ y, 0 ≤ y → y < 26 → H l y → ¬ W 286 y = 0) : g_OI M0 V (ax_u (ax_u (ax_u W 286 l 1) 285 (26 * n + W 284 n) l) 284 n (W 284 n + 1)) H n ∧ g_ct ((ax_u (ax_u (ax_u W 286 l 1) 285 (26 * n + W 284 n) l) 284 n (W 284 n + 1)) 286) 0 26 + 1 = g_ct (W 286) 0 26 := by
  obtain ⟨W', eW⟩ : ∃ X : ax_V, X = ax_u (ax_u (ax_u W 286 l 1) 285 (26 * n + W 284 n) l) 284 n (W 284 n + 1) := ⟨_, rfl⟩
  rw [← eW]
  obtain ⟨h1, h2, h3, h4, h5, h6, h7⟩ := h
  have a6 : W' 286 l = 1 := by rw [eW, ax_u_ne (by decide), ax_u_ne (by decide), ax_u_s]
  have b6 : ∀ s, s ≠ l → W' 286 s = W 286 s := fun s z => by rw [eW, ax_u_ne (by decide), ax_u_ne (by decide), ax_u_k z]
  have a5 : W' 285 (26 * n + W 284 n) = l := by rw [eW, ax_u_ne (by decide), ax_u_s]
  have b5 : ∀ s, s ≠ 26 * n + W 284 n → W' 285 s = W 285 s := fun s z => by rw [eW, ax_u_ne (by decide), ax_u_k z, ax_u_ne (by decide)]
  have a4 : W' 284 n = W 284 n + 1 := by rw [eW, ax_u_s]
  have b4 : ∀ s, s ≠ n → W' 284 s = W 284 s := fun s z => by rw [eW, ax_u_k z, ax_u_ne (by decide), ax_u_ne (by decide)]
  have ct := (g_ct_up (f := W 286) (f' := W' 286) (s := 0) hp (by rw [a6]; decide) b6 26).1 ⟨by omega, by omega⟩
  have k26 : W 284 n < 26 := by omega
  have ol : ¬ g_ord W n l := fun z => ((h6 l l0 l1).mpr (Or.inr z)) hp
  have kl : ¬ M0 232 (26 * n + l) = 0 := fun z => ((h6 l l0 l1).mpr (Or.inl z)) hp
  have o5 : ∀ i, 0 ≤ i → i < W 284 n → W' 285 (26 * n + i) = W 285 (26 * n + i) := fun i a b => b5 _ (by omega)
  have od : ∀ s, g_ord W' n s ↔ (g_ord W n s ∨ s = l) := fun s => by
    constructor
    · rintro ⟨i, i0, i1⟩
      rw [a4] at i0
      by_cases z : i = W 284 n
      · rw [z, a5] at i1; exact Or.inr i1.symm
      · rw [o5 i i0.1 (by omega)] at i1; exact Or.inl ⟨i, ⟨i0.1, by omega⟩, i1⟩
    · rintro (⟨i, i0, i1⟩ | z)
      · exact ⟨i, ⟨i0.1, by rw [a4]; omega⟩, by rw [o5 i i0.1 i0.2]; exact i1⟩
      · exact ⟨W 284 n, ⟨h5.1, by rw [a4]; omega⟩, by rw [a5, z]⟩
  refine ⟨⟨?_, ?_, fun x z => by rw [b4 x z]; exact h3 x z, fun s z => by rw [b5 s (by omega)]; exact h4 s z, by rw [a4]; omega, fun s s0 s1 => ?_, fun i i0 i1 => ?_⟩, ct⟩
  · rw [eW]; exact ((h1.u (by decide)).u (by decide)).u (by decide)
  · rw [eW]; exact ax_u_g (ax_u_g (ax_u_g h2 (by decide)) ⟨by omega, by omega⟩) ⟨by omega, by omega⟩
  · rw [od s]
    by_cases z : s = l
    · rw [z, a6]; exact ⟨fun _ => Or.inr (Or.inr rfl), fun _ => by decide⟩
    · rw [b6 s z, h6 s s0 s1]
      exact ⟨fun v => by rcases v with v | v; exact Or.inl v; exact Or.inr (Or.inl v), fun v => by rcases v with v | v | v; exact Or.inl v; exact Or.inr v; exact absurd v z⟩
  · rw [a4] at i1
    by_cases z : i = W 284 n
    · rw [z, a5]
      refine ⟨⟨l0, l1⟩, kl, fun y y0 y1 hy => ?_⟩
      rcases (h6 y y0 y1).mp (hk y y0 y1 hy) with v | ⟨j, j0, j1⟩
      · exact Or.inl v
      · exact Or.inr ⟨j, j0, by rw [o5 j j0.1 j0.2]; exact j1⟩
    · rw [o5 i i0 (by omega)]
      have q := h7 i i0 (by omega)
      refine ⟨q.1, q.2.1, fun y y0 y1 hy => ?_⟩
      rcases q.2.2 y y0 y1 hy with v | ⟨j, j0, j1⟩
      · exact Or.inl v
      · exact Or.inr ⟨j, j0, by rw [o5 j j0.1 (by omega)]; exact j1⟩
set_option maxHeartbeats 8000000 in
theorem s_findOrder (hg : ax_g V) (n0 : 0 ≤ n ∧ n < 8) (hK : V 232 = M0 232) (hr : g_cells V H) (h : ∀ W, g_OI M0 V W H n → (∀ l, 0 ≤ l → l < 26 → ¬ M0 232 (26 * n + l) = 0 → g_ord W n l ∨ ∃ y, (0 ≤ y ∧ y < 26) ∧ H l y ∧ ¬ M0 232 (26 * n + y) = 0 ∧ ¬ g_ord W n y) → Ψ W) : ax_N ay_lay (d + 1) q_Model_findOrder [.ref 222, ax_i n] V Ψ Θ := by
  have rn : ax_rg n := ⟨by omega, by omega⟩
  have main : ∀ (m : Nat) W, g_OI M0 V W H n → g_ct (W 286) 0 26 ≤ m → ∀ y3 y4 y5, ax_y y3 → ax_y y4 → ax_y y5 → k_Model_findOrder_48 d n 1 y3 y4 y5 W Ψ Θ := by
    intro m
    induction m with
    | zero => ?_
    | succ m ih => ?_
    all_goals
      intro A hA hm y3 y4 y5 hy3 hy4 hy5
      refine r_Model_findOrder_48 hA.2.1 rn (by decide) hy3 hy4 hy5 ⟨fun z => absurd z (by decide), fun _ => ?_⟩
      refine ax_for (I := fun l W => (0 ≤ l ∧ l ≤ 26) ∧ g_OI M0 V W H n) (K := fun l W => ∀ x2 y4 y5, ax_y y4 → ax_y y5 → ((x2 = 0 ∧ W = A ∧ ∀ x, 0 ≤ x → x < l → ¬ A 286 x = 0 ∨ ∃ y, (0 ≤ y ∧ y < 26) ∧ A 286 y = 0 ∧ H x y) ∨ (x2 = 1 ∧ g_ct (W 286) 0 26 + 1 ≤ g_ct (A 286) 0 26)) → k_Model_findOrder_56 d n x2 l y4 y5 W Ψ Θ) (hi := 26) (fun l W w hI next x2 y4 y5 hy4 hy5 hx => ?_) (fun l W w hI x2 y4 y5 hy4 hy5 hx => ?_) 0 A ⟨⟨by decide, by decide⟩, hA⟩ 0 y4 y5 hy4 hy5 (Or.inl ⟨rfl, rfl, fun x a b => by omega⟩)
      · obtain ⟨hl, hW⟩ := hI
        have rl : ax_rg l := ⟨by omega, by omega⟩
        have rx : ax_rg x2 := by rcases hx with z | z <;> rw [z.1] <;> decide
        have cl : g_cells W H := fun x y a b c e => by rw [hW.1 283 (by decide)]; exact hr x y a b c e
        have step : ∀ y5 x4, ax_y y5 → ((x4 = 1 ∧ W 286 l = 0 ∧ ∀ y, 0 ≤ y → y < 26 → H l y → ¬ W 286 y = 0) ∨ (x4 = 0 ∧ (¬ W 286 l = 0 ∨ ∃ y, (0 ≤ y ∧ y < 26) ∧ W 286 y = 0 ∧ H l y))) → k_Model_findOrder_131 d n x2 l x4 y5 W Ψ Θ := by
          intro y5 x4 hy5 hc
          have rx4 : ax_rg x4 := by rcases hc with z | z <;> rw [z.1] <;> decide
          refine r_Model_findOrder_131 hW.2.1 rn rx rl rx4 hy5 ⟨fun z => ?_, fun z => ⟨⟨hl.1, w⟩, fun V1 e1 => ⟨⟨n0.1, by omega⟩, ?_⟩⟩⟩
          · rcases hc with c | c
            · rw [c.1] at z; exact absurd z (by decide)
            · refine next W ⟨⟨by omega, by omega⟩, hW⟩ x2 _ y5 (ax_y_i _) hy5 ?_
              rcases hx with v | v
              · refine Or.inl ⟨v.1, v.2.1, fun x a b => ?_⟩
                by_cases e : x = l
                · rw [v.2.1] at c; rw [e]; exact c.2
                · exact v.2.2 x a (by omega)
              · exact Or.inr v
          · rcases hc with c | c
            · have p := hW.put n0 hl.1 w c.2.1 c.2.2
              have b5 := hW.2.2.2.2.1
              have ct1 := (g_ct_0 (f := W 286) (s := 0) c.2.1 26 hl.1 (by omega))
              have e4 : V1 284 n = W 284 n := by rw [e1, ax_u_ne (by decide)]
              rw [e4]
              refine ⟨⟨by omega, by omega⟩, fun V2 e2 => ⟨⟨n0.1, by omega⟩, ⟨n0.1, by omega⟩, ?_⟩⟩
              have e5 : V2 284 n = W 284 n := by rw [e2, ax_u_ne (by decide)]; exact e4
              rw [e5]
              refine ⟨⟨by omega, by omega⟩, fun V3 e3 => ?_⟩
              rw [← e1, ← e2, ← e3] at p
              have dn : g_ct (V3 286) 0 26 + 1 ≤ g_ct (A 286) 0 26 := by
                rcases hx with v | v
                · rw [v.2.1] at p; omega
                · omega
              exact next V3 ⟨⟨by omega, by omega⟩, p.1⟩ 1 _ y5 (ax_y_i _) hy5 (Or.inr ⟨rfl, dn⟩)
            · exact absurd c.1 z
        have inner : ∀ y (x4 : Int), 0 ≤ y → y ≤ 26 → ((x4 = 1 ∧ W 286 l = 0 ∧ ∀ z, 0 ≤ z → z < y → H l z → ¬ W 286 z = 0) ∨ (x4 = 0 ∧ (¬ W 286 l = 0 ∨ ∃ y, (0 ≤ y ∧ y < 26) ∧ W 286 y = 0 ∧ H l y))) → k_Model_findOrder_81 d n x2 l x4 y W Ψ Θ := by
          intro y x4 y0 y1 hc
          refine ax_for (I := fun y U => U = W ∧ (0 ≤ y ∧ y ≤ 26)) (K := fun y U => ∀ x4, ((x4 = 1 ∧ W 286 l = 0 ∧ ∀ z, 0 ≤ z → z < y → H l z → ¬ W 286 z = 0) ∨ (x4 = 0 ∧ (¬ W 286 l = 0 ∨ ∃ y, (0 ≤ y ∧ y < 26) ∧ W 286 y = 0 ∧ H l y))) → k_Model_findOrder_81 d n x2 l x4 y U Ψ Θ) (hi := 26) (fun y U w2 hI2 next2 x4 hc => ?_) (fun y U w2 hI2 x4 hc => ?_) y W ⟨rfl, y0, y1⟩ x4 hc
          · obtain ⟨eU, hy⟩ := hI2
            subst eU
            have rx4 : ax_rg x4 := by rcases hc with z | z <;> rw [z.1] <;> decide
            refine r_Model_findOrder_81 hW.2.1 rn rx rl rx4 ⟨by omega, by omega⟩ ⟨fun z => by omega, fun _ => ⟨fun z => ?_, fun z => ⟨⟨hy.1, w2⟩, ?_⟩⟩⟩
            · rcases hc with c | c
              · rw [c.1] at z; exact absurd z (by decide)
              · exact step _ x4 (ax_y_i _) (Or.inr c)
            · rcases hc with c | c
              · refine ⟨fun p => ⟨⟨by omega, by omega⟩, fun q => next2 U ⟨rfl, by omega, by omega⟩ 1 (Or.inl ⟨rfl, c.2.1, fun v v0 v1 hv => ?_⟩), fun q => next2 U ⟨rfl, by omega, by omega⟩ 0 (Or.inr ⟨rfl, Or.inr ⟨y, ⟨hy.1, w2⟩, p, (cl l y hl.1 w hy.1 w2).mp q⟩⟩)⟩, fun p => next2 U ⟨rfl, by omega, by omega⟩ 1 (Or.inl ⟨rfl, c.2.1, fun v v0 v1 hv => ?_⟩)⟩
                · by_cases e : v = y
                  · rw [e] at hv; exact absurd q ((cl l y hl.1 w hy.1 w2).mpr hv)
                  · exact c.2.2 v v0 (by omega) hv
                · by_cases e : v = y
                  · rw [e]; exact p
                  · exact c.2.2 v v0 (by omega) hv
              · exact absurd c.1 z
          · obtain ⟨eU, hy⟩ := hI2
            subst eU
            have rx4 : ax_rg x4 := by rcases hc with z | z <;> rw [z.1] <;> decide
            have ey : y = 26 := by omega
            refine r_Model_findOrder_81 hW.2.1 rn rx rl rx4 ⟨by omega, by omega⟩ ⟨fun _ => step _ x4 (ax_y_i _) ?_, fun z => by omega⟩
            rw [ey] at hc
            exact hc
        refine r_Model_findOrder_56 hW.2.1 rn rx rl hy4 hy5 ⟨fun z => by omega, fun _ => ⟨⟨hl.1, w⟩, fun z => inner 0 1 (by decide) (by decide) (Or.inl ⟨rfl, z, fun v a b => by omega⟩), fun z => inner 0 0 (by decide) (by decide) (Or.inr ⟨rfl, Or.inl z⟩)⟩⟩
      · obtain ⟨hl, hW⟩ := hI
        have el : l = 26 := by omega
        have rx : ax_rg x2 := by rcases hx with z | z <;> rw [z.1] <;> decide
        refine r_Model_findOrder_56 hW.2.1 rn rx ⟨by omega, by omega⟩ hy4 hy5 ⟨fun _ => ?_, fun z => by omega⟩
        rcases hx with v | v
        · rw [v.1]
          refine r_Model_findOrder_48 hW.2.1 rn (by decide) (ax_y_i _) hy4 hy5 ⟨fun _ => h W hW (fun x x0 x1 xk => ?_), fun z => absurd rfl z⟩
          rw [v.2.1]
          have k6 := hA.2.2.2.2.2.1
          rcases v.2.2 x x0 (by omega) with u | ⟨y, y0, u, hy⟩
          · rcases (k6 x x0 x1).mp u with t | t
            · exact absurd t xk
            · exact Or.inl t
          · exact Or.inr ⟨y, y0, hy, fun t => ((k6 y y0.1 y0.2).mpr (Or.inl t)) u, fun t => ((k6 y y0.1 y0.2).mpr (Or.inr t)) u⟩
        · rw [v.1]
          first
          | exact absurd v.2 (by omega)
          | exact ih W hW (by omega) _ _ _ (ax_y_i _) hy4 hy5
  refine r_Model_findOrder hg rn ⟨⟨n0.1, by omega⟩, fun V1 e1 => ?_⟩
  refine ax_for (I := fun l W => (0 ≤ l ∧ l ≤ 26) ∧ g_fr [284, 285, 286] V W ∧ ax_g W ∧ W 284 n = 0 ∧ (∀ x, x ≠ n → W 284 x = V 284 x) ∧ W 285 = V 285 ∧ ∀ s, 0 ≤ s → s < l → (¬ W 286 s = 0 ↔ M0 232 (26 * n + s) = 0)) (K := fun l W => k_Model_findOrder_9 d n l none none none W Ψ Θ) (hi := 26) (fun l W w hI next => ?_) (fun l W w hI => ?_) 0 V1 ⟨⟨by decide, by decide⟩, by rw [e1]; exact (g_fr.rf _ _).u (by decide), by rw [e1]; exact ax_u_g hg (by decide), by rw [e1, ax_u_s], fun x z => by rw [e1, ax_u_k z], by rw [e1, ax_u_ne (by decide)], fun s a b => by omega⟩
  · obtain ⟨hl, f1, g1, a4, b4, b5, k6⟩ := hI
    have put : ∀ v : Int, ax_rg v → (¬ v = 0 ↔ M0 232 (26 * n + l) = 0) → ∀ W1, W1 = ax_u W 286 l v → k_Model_findOrder_9 d n (l + 1) none none none W1 Ψ Θ := fun v rv hv W1 e => next W1 ⟨⟨by omega, by omega⟩, by rw [e]; exact f1.u (by decide), by rw [e]; exact ax_u_g g1 rv, by rw [e, ax_u_ne (by decide)]; exact a4, fun x z => by rw [e, ax_u_ne (by decide)]; exact b4 x z, by rw [e, ax_u_ne (by decide)]; exact b5, fun s s0 s1 => by
      by_cases z : s = l
      · rw [z, e, ax_u_s]; exact hv
      · rw [e, ax_u_k z]; exact k6 s s0 (by omega)⟩
    have ek : W 232 = M0 232 := by rw [f1 232 (by decide)]; exact hK
    refine r_Model_findOrder_9 g1 rn ⟨by omega, by omega⟩ ax_y_n ax_y_n ax_y_n ⟨fun z => by omega, fun _ => ⟨⟨by omega, by omega⟩, ?_⟩⟩
    rw [ek]
    exact ⟨fun z => ⟨⟨hl.1, w⟩, put 1 (by decide) ⟨fun _ => z, fun _ => by decide⟩⟩, fun z => ⟨⟨hl.1, w⟩, put 0 (by decide) ⟨fun v => absurd rfl v, fun v => absurd v z⟩⟩⟩
  · obtain ⟨hl, f1, g1, a4, b4, b5, k6⟩ := hI
    have el : l = 26 := by omega
    refine r_Model_findOrder_9 g1 rn ⟨by omega, by omega⟩ ax_y_n ax_y_n ax_y_n ⟨fun _ => main _ W ⟨f1, g1, b4, fun s _ => by rw [b5], ⟨by rw [a4]; decide, ?_⟩, fun s s0 s1 => ?_, fun i i0 i1 => by rw [a4] at i1; omega⟩ (Nat.le_refl _) _ _ _ ax_y_n ax_y_n ax_y_n, fun z => by omega⟩
    · have := g_ct_le (W 286) 0 26
      rw [a4]; simpa using this
    · rw [k6 s s0 (by omega)]
      refine ⟨fun z => Or.inl z, fun z => ?_⟩
      rcases z with z | ⟨i, i0, -⟩
      · exact z
      · rw [a4] at i0; omega
end Kind6I
