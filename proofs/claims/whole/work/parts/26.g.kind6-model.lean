/-! FAULTS 6, the model: what hangs on what -/
def g_hm (C M : ax_V) (A : Int → Int) (n l y : Int) : Prop := ¬ M 232 (26 * n + l) = 0 ∧ ((¬ M 235 (26 * n + l) = 0 ∧ (M 235 (26 * n + l) - 1) / 2 = y) ∨ (∃ e, (0 ≤ e ∧ e < (M 222 44)) ∧ M 258 e = n ∧ (∃ i, g_of M e i ∧ M 265 i = l) ∧ g_hd C M (M 261 e) (M 262 e) y) ∨ (¬ A (26 * n + l) = -1 ∧ g_nd C M (A (26 * n + l)) y))
section Kind6G
variable {d : Nat} {C0 M0 V : ax_V} {n : Int} {Φ : Int → ax_V → Prop} {Ψ Θ : ax_V → Prop}
/-- rows up to l, and of row l what Z says -/
def g_Z6 (V W : ax_V) (R : Int → Int → Prop) (l : Int) (Z : Int → Prop) : Prop := g_fr [283] V W ∧ ax_g W ∧ (∀ s, 0 ≤ s → s < 676 → W 283 s = 0 ∨ W 283 s = 1) ∧ ∀ x y, 0 ≤ x → x < 26 → 0 ≤ y → y < 26 → (¬ W 283 (26 * x + y) = 0 ↔ ((x < l ∧ R x y) ∨ (x = l ∧ Z y)))
theorem g_Z6.of {W : ax_V} {R : Int → Int → Prop} {l : Int} {Z Z' : Int → Prop} (h : g_Z6 V W R l Z) (k : ∀ y, 0 ≤ y → y < 26 → (Z y ↔ Z' y)) : g_Z6 V W R l Z' := ⟨h.1, h.2.1, h.2.2.1, fun x y x0 x1 y0 y1 => by rw [h.2.2.2 x y x0 x1 y0 y1, k y y0 y1]⟩
set_option maxHeartbeats 8000000 in
theorem s_findHangs (hS : g_S C0 M0) (hb : g_MB C0 M0 V) (h56 : ∀ q, 0 ≤ q → q < (M0 222 26) → V 256 q = C0 526 q) (n0 : 0 ≤ n) (n1 : n < (M0 222 86)) (h : ∀ W, g_fr [283] V W → ax_g W → (∀ s, 0 ≤ s → s < 676 → W 283 s = 0 ∨ W 283 s = 1) → (∀ x y, 0 ≤ x → x < 26 → 0 ≤ y → y < 26 → (¬ W 283 (26 * x + y) = 0 ↔ g_hm C0 M0 (V 239) n x y)) → Ψ W) : ax_N ay_lay (d + 2) q_Model_findHangs [.ref 222, ax_i n] V Ψ Θ := by
  have hat := hS.2.2.2.2.2.2.2
  have hN := hS.2.1
  have hct := hS.2.2.2.2.1.1
  have hc1 := hct.1
  have hc5 := hct.2.2.2.2.1
  have rn : ax_rg n := ⟨by omega, by omega⟩
  have fM : ∀ {W : ax_V}, g_fr [283] V W → ∀ c, c ∉ g_YM → W c = M0 c := fun f c z => by rw [f c (fun y => z (by simp at y; rw [y]; decide))]; exact hb.1 c z
  have gM : ∀ {W : ax_V}, g_fr [283] V W → g_fr g_YM M0 W := fun f => hb.1.tr (f.up (by decide))
  have sc : ∀ {W : ax_V}, g_fr [283] V W → ∀ j, j ∉ g_KM → W 222 j = M0 222 j := fun f j z => by rw [f 222 (by decide)]; exact hb.2.1 j z
  have mE : ∀ {W : ax_V}, g_fr [283] V W → g_mE M0 W := fun f => ⟨fun c hc => fM f c (by simp only [g_YM, List.mem_cons, List.not_mem_nil, or_false, not_or]; omega), sc f 44 (by decide)⟩
  have v56 : ∀ {W : ax_V}, g_fr [283] V W → ∀ q, 0 ≤ q → q < (M0 222 26) → W 256 q = C0 526 q := fun f q a b => by rw [f 256 (by decide)]; exact h56 q a b
  -- hanging more
  have hang : ∀ (l : Int) (R : Int → Int → Prop) (Z : Int → Prop) W f w (Ψ' : ax_V → Prop), 0 ≤ l → l < 26 → 0 ≤ f → f ≤ w → w < (M0 222 26) → g_Z6 V W R l Z → (∀ W', g_Z6 V W' R l (fun y => Z y ∨ g_hd C0 M0 f w y) → Ψ' W') → ax_N ay_lay (d + 1) q_Model_hangOn [.ref 222, ax_i l, ax_i f, ax_i w] W Ψ' Θ := by
    intro l R Z W f w Ψ' l0 l1 f0 fw w1 hZ k
    refine s_hangOn hS (gM hZ.1) hZ.2.1 (v56 hZ.1) hZ.2.2.1 l0 l1 f0 fw w1 (fun W' a b c e => k W' ⟨hZ.1.tr a, b, c, fun x y x0 x1 y0 y1 => ?_⟩)
    rw [e x y x0 x1 y0 y1, hZ.2.2.2 x y x0 x1 y0 y1]
    constructor
    · rintro ((v | v) | v)
      · exact Or.inl v
      · exact Or.inr ⟨v.1, Or.inl v.2⟩
      · exact Or.inr ⟨v.1, Or.inr v.2⟩
    · rintro (v | ⟨v, v2 | v2⟩)
      · exact Or.inl (Or.inl v)
      · exact Or.inl (Or.inr ⟨v, v2⟩)
      · exact Or.inr ⟨v, v2⟩
  refine r_Model_findHangs hb.2.2.1 rn ?_
  refine ax_for (I := fun k W => (0 ≤ k ∧ k ≤ 676) ∧ g_fr [283] V W ∧ ax_g W ∧ ∀ s, 0 ≤ s → s < k → W 283 s = 0) (K := fun k W => k_Model_findHangs_2 (d + 1) n k none none W Ψ Θ) (hi := 676) (fun k W w hI next => ?_) (fun k W w hI => ?_) 0 V ⟨⟨by decide, by decide⟩, g_fr.rf _ _, hb.2.2.1, fun s a b => by omega⟩
  · obtain ⟨hk, f1, g1, z1⟩ := hI
    refine r_Model_findHangs_2 g1 rn ⟨by omega, by omega⟩ ax_y_n ax_y_n ⟨fun z => by omega, fun _ => ⟨⟨hk.1, w⟩, fun W1 e1 => next W1 ⟨⟨by omega, by omega⟩, by rw [e1]; exact f1.u (by decide), by rw [e1]; exact ax_u_g g1 (by decide), fun s a b => ?_⟩⟩⟩
    by_cases z : s = k
    · rw [e1, z, ax_u_s]
    · rw [e1, ax_u_k z]; exact z1 s a (by omega)
  · obtain ⟨hk, f1, g1, z1⟩ := hI
    refine r_Model_findHangs_2 g1 rn ⟨by omega, by omega⟩ ax_y_n ax_y_n ⟨fun _ => ?_, fun z => by omega⟩
    obtain ⟨R, eR⟩ : ∃ R : Int → Int → Prop, R = g_hm C0 M0 (V 239) n := ⟨_, rfl⟩
    refine ax_for (I := fun l W => (0 ≤ l ∧ l ≤ 26) ∧ g_Z6 V W R l (fun _ => False)) (K := fun l W => ∀ y3 y4, ax_y y3 → ax_y y4 → k_Model_findHangs_24 (d + 1) n l y3 y4 W Ψ Θ) (hi := 26) (fun l W w2 hI next y3 y4 hy3 hy4 => ?_) (fun l W w2 hI y3 y4 hy3 hy4 => ?_) 0 W ⟨⟨by decide, by decide⟩, f1, g1, fun s a b => Or.inl (z1 s a (by omega)), fun x y x0 x1 y0 y1 => ⟨fun z => absurd (z1 (26 * x + y) (by omega) (by omega)) z, fun z => by rcases z with z | z; have := z.1; omega; exact absurd z.2 id⟩⟩ none none ax_y_n ax_y_n
    · obtain ⟨hl, hZ⟩ := hI
      have rl : ax_rg l := ⟨by omega, by omega⟩
      have bs : 0 ≤ 26 * n + l ∧ 26 * n + l < 240 := ⟨by omega, by omega⟩
      have rs : ax_rg (26 * n + l) := ⟨by omega, by omega⟩
      have ck := (hS.ck n0 n1 hl.1 w2).2
      have done : ∀ W', g_Z6 V W' R l (fun y => R l y) → ∀ y3 y4, ax_y y3 → ax_y y4 → k_Model_findHangs_24 (d + 1) n (l + 1) y3 y4 W' Ψ Θ := fun W' hW' => next W' ⟨⟨by omega, by omega⟩, hW'.1, hW'.2.1, hW'.2.2.1, fun x y x0 x1 y0 y1 => by
        rw [hW'.2.2.2 x y x0 x1 y0 y1]
        constructor
        · rintro (v | v)
          · exact Or.inl ⟨by omega, v.2⟩
          · refine Or.inl ⟨by omega, ?_⟩
            rw [v.1]; exact v.2
        · rintro (v | v)
          · by_cases e : x = l
            · refine Or.inr ⟨e, ?_⟩
              rw [← e]; exact v.2
            · exact Or.inl ⟨by omega, v.2⟩
          · exact absurd v.2 id⟩
      refine r_Model_findHangs_24 hZ.2.1 rn rl hy3 hy4 ⟨fun z => by omega, fun _ => ⟨bs, ?_⟩⟩
      rw [fM hZ.1 232 (by decide), fM hZ.1 235 (by decide)]
      refine ⟨fun kz => done W (hZ.of (fun y _ _ => ⟨fun v => absurd v id, fun v => by rw [eR] at v; exact absurd kz v.1⟩)) _ _ (ax_y_i _) hy4, fun kz => ⟨bs, ?_⟩⟩
      -- equations and transitions
      have rest : ∀ W' (Z0 : Int → Prop), (∀ y, 0 ≤ y → y < 26 → (Z0 y ↔ (¬ M0 235 (26 * n + l) = 0 ∧ (M0 235 (26 * n + l) - 1) / 2 = y))) → g_Z6 V W' R l Z0 → k_Model_findHangs_82 (d + 1) n l (26 * n + l) 0 W' Ψ Θ := by
        intro W' Z0 hZ0 hW'
        refine ax_for (I := fun e U => (0 ≤ e ∧ e ≤ (M0 222 44)) ∧ g_Z6 V U R l (fun y => Z0 y ∨ ∃ x, (0 ≤ x ∧ x < e) ∧ M0 258 x = n ∧ (∃ i, g_of M0 x i ∧ M0 265 i = l) ∧ g_hd C0 M0 (M0 261 x) (M0 262 x) y)) (K := fun e U => k_Model_findHangs_82 (d + 1) n l (26 * n + l) e U Ψ Θ) (hi := (M0 222 44)) (fun e U w3 hI3 next3 => ?_) (fun e U w3 hI3 => ?_) 0 W' ⟨⟨by decide, by omega⟩, hW'.of (fun y _ _ => ⟨fun v => Or.inl v, fun v => by rcases v with v | ⟨x, x0, -⟩; exact v; omega⟩)⟩
        · obtain ⟨he, hU⟩ := hI3
          have fx1 := (hS.2.2.2.2.1.2.1 e he.1 w3).2.2.2.2.2.1.1
          have be : 0 ≤ e ∧ e < 351 := ⟨he.1, by omega⟩
          have same : ¬ (M0 258 e = n ∧ ∃ i, g_of M0 e i ∧ M0 265 i = l) → k_Model_findHangs_82 (d + 1) n l (26 * n + l) (e + 1) U Ψ Θ := fun z => next3 U ⟨⟨by omega, by omega⟩, hU.of (fun y _ _ => ⟨fun v => by rcases v with v | ⟨x, x0, x1⟩; exact Or.inl v; exact Or.inr ⟨x, ⟨x0.1, by omega⟩, x1⟩, fun v => by
            rcases v with v | ⟨x, x0, x1, x2, x3⟩
            · exact Or.inl v
            · by_cases ex : x = e
              · rw [ex] at x1 x2; exact absurd ⟨x1, x2⟩ z
              · exact Or.inr ⟨x, ⟨x0.1, by omega⟩, x1, x2, x3⟩⟩)⟩
          refine r_Model_findHangs_82 hU.2.1 rn rl rs ⟨by omega, by omega⟩ ?_
          rw [sc hU.1 44 (by decide), fM hU.1 258 (by decide)]
          refine ⟨fun z => by omega, fun _ => ⟨be, fun z => s_hasLeft hS hU.2.1 (mE hU.1) ⟨he.1, w3⟩ rl ?_, fun z => same (fun y => z y.1)⟩⟩
          by_cases z2 : ∃ i, g_of M0 e i ∧ M0 265 i = l
          · rw [show @ax_b (∃ i, g_of M0 e i ∧ M0 265 i = l) (Classical.propDecidable _) = 1 from if_pos z2]
            refine ⟨fun y => absurd y (by decide), fun _ => ⟨be, be, ?_⟩⟩
            rw [fM hU.1 261 (by decide), fM hU.1 262 (by decide)]
            refine hang l R _ U _ _ _ hl.1 w2 fx1.1 fx1.2.1 fx1.2.2 hU (fun U' hU' => next3 U' ⟨⟨by omega, by omega⟩, hU'.of (fun y _ _ => ?_)⟩)
            constructor
            · rintro ((v | ⟨x, x0, x1⟩) | v)
              · exact Or.inl v
              · exact Or.inr ⟨x, ⟨x0.1, by omega⟩, x1⟩
              · exact Or.inr ⟨e, ⟨he.1, by omega⟩, z, z2, v⟩
            · rintro (v | ⟨x, x0, x1⟩)
              · exact Or.inl (Or.inl v)
              · by_cases ex : x = e
                · rw [ex] at x1; exact Or.inr x1.2.2
                · exact Or.inl (Or.inr ⟨x, ⟨x0.1, by omega⟩, x1⟩)
          · rw [show @ax_b (∃ i, g_of M0 e i ∧ M0 265 i = l) (Classical.propDecidable _) = 0 from if_neg z2]
            exact ⟨fun _ => same (fun y => z2 y.2), fun y => absurd rfl y⟩
        · obtain ⟨he, hU⟩ := hI3
          have ee : e = (M0 222 44) := by omega
          rw [ee] at hU
          refine r_Model_findHangs_82 hU.2.1 rn rl rs ⟨by omega, by omega⟩ ?_
          rw [sc hU.1 44 (by decide)]
          refine ⟨fun _ => ?_, fun z => by omega⟩
          obtain ⟨Z1, eZ1⟩ : ∃ Z : Int → Prop, Z = (fun y => Z0 y ∨ ∃ x, (0 ≤ x ∧ x < (M0 222 44)) ∧ M0 258 x = n ∧ (∃ i, g_of M0 x i ∧ M0 265 i = l) ∧ g_hd C0 M0 (M0 261 x) (M0 262 x) y) := ⟨_, rfl⟩
          rw [← eZ1] at hU
          have fin : ∀ U', g_Z6 V U' R l (fun y => Z1 y ∨ (¬ V 239 (26 * n + l) = -1 ∧ g_nd C0 M0 (V 239 (26 * n + l)) y)) → ∀ y3 y4, ax_y y3 → ax_y y4 → k_Model_findHangs_24 (d + 1) n (l + 1) y3 y4 U' Ψ Θ := fun U' hU' => done U' (hU'.of (fun y y0 y1 => by
            rw [eZ1, eR]
            unfold g_hm
            have q := hZ0 y y0 y1
            constructor
            · rintro ((v | v) | v)
              · exact ⟨kz, Or.inl (q.mp v)⟩
              · exact ⟨kz, Or.inr (Or.inl v)⟩
              · exact ⟨kz, Or.inr (Or.inr v)⟩
            · rintro ⟨-, v | v | v⟩
              · exact Or.inl (Or.inl (q.mpr v))
              · exact Or.inl (Or.inr v)
              · exact Or.inr v))
          refine ax_for (I := fun m X => (0 ≤ m ∧ m ≤ (M0 222 60)) ∧ g_Z6 V X R l (fun y => Z1 y ∨ (¬ V 239 (26 * n + l) = -1 ∧ ∃ x, (0 ≤ x ∧ x < m) ∧ M0 271 x = V 239 (26 * n + l) ∧ ¬ M0 273 x = 0 ∧ g_hd C0 M0 (M0 276 x) (M0 277 x) y))) (K := fun m X => k_Model_findHangs_140 (d + 1) n l (26 * n + l) m X Ψ Θ) (hi := (M0 222 60)) (fun m X w4 hI4 next4 => ?_) (fun m X w4 hI4 => ?_) 0 U ⟨⟨by decide, by omega⟩, hU.of (fun y _ _ => ⟨fun v => Or.inl v, fun v => by rcases v with v | ⟨-, x, x0, -⟩; exact v; omega⟩)⟩
          · obtain ⟨hm, hX⟩ := hI4
            have fw1 := (hS.2.2.2.2.1.2.2.2.2.1 m hm.1 w4).2.2.2.2.2.2.2.1
            have bm : 0 ≤ m ∧ m < 351 := ⟨hm.1, by omega⟩
            have same : ¬ (M0 271 m = V 239 (26 * n + l) ∧ ¬ M0 273 m = 0) → k_Model_findHangs_140 (d + 1) n l (26 * n + l) (m + 1) X Ψ Θ := fun z => next4 X ⟨⟨by omega, by omega⟩, hX.of (fun y _ _ => ⟨fun v => by rcases v with v | ⟨v, x, x0, x1⟩; exact Or.inl v; exact Or.inr ⟨v, x, ⟨x0.1, by omega⟩, x1⟩, fun v => by
              rcases v with v | ⟨v, x, x0, x1, x2, x3⟩
              · exact Or.inl v
              · by_cases ex : x = m
                · rw [ex] at x1 x2; exact absurd ⟨x1, x2⟩ z
                · exact Or.inr ⟨v, x, ⟨x0.1, by omega⟩, x1, x2, x3⟩⟩)⟩
            refine r_Model_findHangs_140 hX.2.1 rn rl rs ⟨by omega, by omega⟩ ?_
            rw [sc hX.1 60 (by decide), hX.1 239 (by decide), fM hX.1 271 (by decide), fM hX.1 273 (by decide), fM hX.1 276 (by decide), fM hX.1 277 (by decide)]
            refine ⟨fun z => by omega, fun _ => ⟨bs, fun a => fin X (hX.of (fun y _ _ => ⟨fun v => by rcases v with v | v; exact Or.inl v; exact absurd a v.1, fun v => by rcases v with v | v; exact Or.inl v; exact absurd a v.1⟩)) _ _ (ax_y_i _) (ax_y_i _), fun a => ⟨bm, bs, fun z => ⟨bm, fun z2 => same (fun y => y.2 z2), fun z2 => ⟨bm, bm, hang l R _ X _ _ _ hl.1 w2 fw1.1 fw1.2.1 fw1.2.2 hX (fun X' hX' => next4 X' ⟨⟨by omega, by omega⟩, hX'.of (fun y _ _ => ?_)⟩)⟩⟩, fun z => same (fun y => z y.1)⟩⟩⟩
            constructor
            · rintro ((v | ⟨v, x, x0, x1⟩) | v)
              · exact Or.inl v
              · exact Or.inr ⟨v, x, ⟨x0.1, by omega⟩, x1⟩
              · exact Or.inr ⟨a, m, ⟨hm.1, by omega⟩, z, z2, v⟩
            · rintro (v | ⟨v, x, x0, x1⟩)
              · exact Or.inl (Or.inl v)
              · by_cases ex : x = m
                · rw [ex] at x1; exact Or.inr x1.2.2
                · exact Or.inl (Or.inr ⟨v, x, ⟨x0.1, by omega⟩, x1⟩)
          · obtain ⟨hm, hX⟩ := hI4
            have em : m = (M0 222 60) := by omega
            rw [em] at hX
            refine r_Model_findHangs_140 hX.2.1 rn rl rs ⟨by omega, by omega⟩ ?_
            rw [sc hX.1 60 (by decide)]
            exact ⟨fun _ => fin X hX _ _ (ax_y_i _) (ax_y_i _), fun z => by omega⟩
      refine ⟨fun c0 => rest W (fun _ => False) (fun y _ _ => ⟨fun v => absurd v id, fun v => absurd c0 v.1⟩) hZ, fun c0 => ⟨bs, ?_⟩⟩
      rw [b_div (by omega)]
      refine ⟨⟨by omega, by omega⟩, fun W1 e1 => rest W1 (fun y => (M0 235 (26 * n + l) - 1) / 2 = y) (fun y _ _ => ⟨fun v => ⟨c0, v⟩, fun v => v.2⟩) ⟨by rw [e1]; exact hZ.1.u (by decide), by rw [e1]; exact ax_u_g hZ.2.1 (by decide), fun s a b => ?_, fun x y x0 x1 y0 y1 => ?_⟩⟩
      · by_cases z : s = 26 * l + (M0 235 (26 * n + l) - 1) / 2
        · rw [e1, z, ax_u_s]; exact Or.inr rfl
        · rw [e1, ax_u_k z]; exact hZ.2.2.1 s a b
      · by_cases z : 26 * x + y = 26 * l + (M0 235 (26 * n + l) - 1) / 2
        · rw [e1, z, ax_u_s]
          exact ⟨fun _ => Or.inr ⟨by omega, by omega⟩, fun _ => by decide⟩
        · rw [e1, ax_u_k z, hZ.2.2.2 x y x0 x1 y0 y1]
          constructor
          · rintro (v | v)
            · exact Or.inl v
            · exact absurd v.2 id
          · rintro (v | v)
            · exact Or.inl v
            · exact absurd (by rw [v.1, v.2]) z
    · obtain ⟨hl, hZ⟩ := hI
      have el : l = 26 := by omega
      rw [el] at hZ ⊢
      refine r_Model_findHangs_24 hZ.2.1 rn (by decide) hy3 hy4 ⟨fun _ => h W hZ.1 hZ.2.1 hZ.2.2.1 (fun x y x0 x1 y0 y1 => ?_), fun z => absurd z (by decide)⟩
      rw [hZ.2.2.2 x y x0 x1 y0 y1, eR]
      exact ⟨fun v => by rcases v with v | v; exact v.2; exact absurd v.2 id, fun v => Or.inl ⟨x1, v⟩⟩
end Kind6G
