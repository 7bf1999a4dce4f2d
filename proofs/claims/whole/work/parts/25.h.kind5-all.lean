/-! FAULTS 5: the whole of it in the model -/
def g_H5 (M0 M2 M : ax_V) (T : Int → Prop) : Prop := (g_fr [222, 255, 282] M2 M ∧ g_sc [73] M2 M ∧ ax_g M) ∧ ∀ t, t < 701 → (m_nb M ≤ t ↔ T t)
section Kind5T
variable {d : Nat} {C0 M0 M N V C2 : ax_V} {q n : Int} {T : Int → Prop} {Φ : Int → ax_V → Prop} {Ψ Θ : ax_V → Prop}
set_option maxHeartbeats 4000000 in
theorem s_firstHeads {e : Int} (hS : g_S C0 M0) (hb : g_MB C0 M0 N) (hl : ∀ s, 0 ≤ s → s < 240 → (N 282 s = 0 ↔ g_LB M0 s)) (e0 : 0 ≤ e) (e1 : e < (M0 222 44)) (hH : g_H1 N V T) (h : ∀ V' x2 y3 y4 y5, ax_rg x2 → ax_y y3 → ax_y y4 → ax_y y5 → g_H1 N V' (fun t => T t ∨ ∃ i, (M0 259 e ≤ i ∧ i < M0 259 e + M0 260 e) ∧ g_fh M0 i t) → k_Model_checkFirsts_91 (d + 3) (e + 1) (some (ax_i x2)) y3 y4 y5 V' Ψ Θ) : ∀ y3 y4 y5, ax_y y3 → ax_y y4 → ax_y y5 → k_Model_checkFirsts_126 (d + 3) e (M0 259 e) y3 y4 y5 V Ψ Θ := by
  have hat := hS.2.2.2.2.2.2.2
  have hN := hS.2.1
  have hc1 := hS.2.2.2.2.1.1.1
  have hc2 := hS.2.2.2.2.1.1.2.1
  have fe := hS.2.2.2.2.1.2.1 e e0 e1
  have fe3 := fe.2.2.1
  have nd := hS.node e0 e1
  have be : 0 ≤ e ∧ e < 351 := ⟨e0, by omega⟩
  have re : ax_rg e := ⟨by omega, by omega⟩
  refine ax_for (I := fun i V1 => (M0 259 e ≤ i ∧ i ≤ M0 259 e + M0 260 e) ∧ g_H1 N V1 (fun t => T t ∨ ∃ x, (M0 259 e ≤ x ∧ x < i) ∧ g_fh M0 x t)) (K := fun i V1 => ∀ y3 y4 y5, ax_y y3 → ax_y y4 → ax_y y5 → k_Model_checkFirsts_126 (d + 3) e i y3 y4 y5 V1 Ψ Θ) (hi := M0 259 e + M0 260 e) (fun i V1 w hI next y3 y4 y5 hy3 hy4 hy5 => ?_) (fun i V1 w hI y3 y4 y5 hy3 hy4 hy5 => ?_) (M0 259 e) V ⟨⟨Int.le_refl _, by omega⟩, hH.of (fun t _ => ⟨fun z => Or.inl z, fun z => by rcases z with z | ⟨x, x0, -⟩; exact z; omega⟩)⟩
  · obtain ⟨hi, h1⟩ := hI
    have b := h1.b hb
    have u := fe.2.2.2.2.2.2 i hi.1 w
    have u2 := u.2.1
    have u4 := u.2.2.2
    have eo := hS.eoe (e := e) (i := i) ⟨⟨e0, e1⟩, hi.1, w⟩
    have i0 : 0 ≤ i := by omega
    have i1 : i < 350 := by omega
    have ri : ax_rg i := ⟨by omega, by omega⟩
    obtain ⟨s, es⟩ : ∃ s : Int, s = 26 * M0 258 e + M0 265 i := ⟨_, rfl⟩
    have bs : 0 ≤ s ∧ s < 240 := by omega
    have rs : ax_rg s := ⟨by omega, by omega⟩
    have k := hl s bs.1 bs.2
    have fh : ∀ t, g_fh M0 i t ↔ ((∀ j, 0 ≤ j → j < i → ¬ (M0 265 j = M0 265 i ∧ M0 258 (g_eo M0 j) = M0 258 e)) ∧ (M0 232 s = 2 ∨ ¬ M0 236 s = 0) ∧ g_LB M0 s ∧ M0 266 i ≤ t) := fun t => by
      unfold g_fh
      rw [eo, ← es]
    have same : (∀ t, ¬ g_fh M0 i t) → ∀ y3 y4 y5, ax_y y3 → ax_y y4 → ax_y y5 → k_Model_checkFirsts_126 (d + 3) e (i + 1) y3 y4 y5 V1 Ψ Θ := fun z => next V1 ⟨⟨by omega, by omega⟩, h1.of (fun t _ => ⟨fun y => by rcases y with y | ⟨x, x0, x1⟩; exact Or.inl y; exact Or.inr ⟨x, ⟨x0.1, by omega⟩, x1⟩, fun y => by
      rcases y with y | ⟨x, x0, x1⟩
      · exact Or.inl y
      · by_cases ex : x = i
        · rw [ex] at x1; exact absurd x1 (z t)
        · exact Or.inr ⟨x, ⟨x0.1, by omega⟩, x1⟩⟩)⟩
    have diff : (∀ t, g_fh M0 i t ↔ M0 266 i ≤ t) → ∀ y3 y4 y5, ax_y y3 → ax_y y4 → ax_y y5 → ax_N ay_lay (d + 3) q_Model_note [.ref 222, ax_i (V1 266 i)] V1 (fun V2 => k_Model_checkFirsts_126 (d + 3) e (i + 1) y3 y4 y5 V2 Ψ Θ) Θ := fun z y3 y4 y5 hy3 hy4 hy5 => by
      rw [b.1 266 (by decide)]
      refine s_noteE b.2.2.1 ⟨by omega, by omega⟩ (next _ ⟨⟨by omega, by omega⟩, (h1.nt u4).of (fun t _ => ?_)⟩ _ _ _ hy3 hy4 hy5)
      constructor
      · rintro ((y | ⟨x, x0, x1⟩) | y)
        · exact Or.inl y
        · exact Or.inr ⟨x, ⟨x0.1, by omega⟩, x1⟩
        · exact Or.inr ⟨i, ⟨hi.1, by omega⟩, (z t).mpr y⟩
      · rintro (y | ⟨x, x0, x1⟩)
        · exact Or.inl (Or.inl y)
        · by_cases ex : x = i
          · rw [ex] at x1; exact Or.inr ((z t).mp x1)
          · exact Or.inl (Or.inr ⟨x, ⟨x0.1, by omega⟩, x1⟩)
    refine r_Model_checkFirsts_126 b.2.2.1 re ri hy3 hy4 hy5 ⟨be, be, ?_⟩
    rw [b.1 259 (by decide), b.1 260 (by decide), b.1 258 (by decide), b.1 265 (by decide), ← es]
    refine ⟨⟨by omega, by omega⟩, fun z => absurd w (by omega), fun _ => ⟨be, ⟨i0, by omega⟩, ?_⟩⟩
    -- is it the first?
    refine ax_for (I := fun j W => W = V1 ∧ 0 ≤ j ∧ j ≤ i) (K := fun j W => ∀ x4, (x4 = 0 ∨ x4 = 1) → (¬ x4 = 0 ↔ ∀ k, 0 ≤ k → k < j → ¬ (M0 265 k = M0 265 i ∧ M0 258 (g_eo M0 k) = M0 258 e)) → k_Model_checkFirsts_166 (d + 3) e i s x4 j W Ψ Θ) (hi := i) (fun j W w2 hI2 next2 x4 hx4 hx => ?_) (fun j W w2 hI2 x4 hx4 hx => ?_) 0 V1 ⟨rfl, by decide, i0⟩ 1 (Or.inr rfl) ⟨fun _ k a b => by omega, fun _ => by decide⟩
    · obtain ⟨eW, j0, j1⟩ := hI2
      subst eW
      have rx4 : ax_rg x4 := by rcases hx4 with z | z <;> rw [z] <;> decide
      have jl : j < (M0 222 52) := by omega
      have eoj := (hS.eo j0 jl).1
      have go : ∀ x', (x' = 0 ∨ x' = 1) → (¬ x' = 0 ↔ (¬ x4 = 0 ∧ ¬ (M0 265 j = M0 265 i ∧ M0 258 (g_eo M0 j) = M0 258 e))) → k_Model_checkFirsts_166 (d + 3) e i s x' (j + 1) W Ψ Θ := fun x' hx' hx2 => next2 W ⟨rfl, by omega, by omega⟩ x' hx' (by
        rw [hx2, hx]
        constructor
        · rintro ⟨y1, y2⟩ k a b
          by_cases z : k = j
          · rw [z]; exact y2
          · exact y1 k a (by omega)
        · intro y
          exact ⟨fun k a b => y k a (by omega), y j j0 (by omega)⟩)
      refine r_Model_checkFirsts_166 b.2.2.1 re ri rs rx4 ⟨by omega, by omega⟩ ⟨fun z => absurd w2 (by omega), fun _ => ⟨fun z => go 0 (Or.inl rfl) ⟨fun y => absurd rfl y, fun y => absurd z y.1⟩, fun z => ⟨⟨j0, by omega⟩, ⟨i0, by omega⟩, ?_⟩⟩⟩
      rw [b.1 265 (by decide)]
      refine ⟨fun y => s_ownerOf hS b.2.2.1 b.mE j0 jl ⟨⟨eoj.1, by omega⟩, be, ?_⟩, fun y => go 1 (Or.inr rfl) ⟨fun _ => ⟨z, fun x => y x.1⟩, fun _ => by decide⟩⟩
      rw [b.1 258 (by decide)]
      exact ⟨fun x => go 0 (Or.inl rfl) ⟨fun v => absurd rfl v, fun v => absurd ⟨y, x⟩ v.2⟩, fun x => go 1 (Or.inr rfl) ⟨fun _ => ⟨z, fun v => x v.2⟩, fun _ => by decide⟩⟩
    · obtain ⟨eW, j0, j1⟩ := hI2
      subst eW
      have ej : j = i := by omega
      rw [ej] at hx ⊢
      have rx4 : ax_rg x4 := by rcases hx4 with z | z <;> rw [z] <;> decide
      refine r_Model_checkFirsts_166 b.2.2.1 re ri rs rx4 ri ⟨fun _ => ⟨fun z => same (fun t y => ?_) _ _ _ (ax_y_i _) (ax_y_i _) (ax_y_i _), fun z => ⟨bs, ?_⟩⟩, fun z => by omega⟩
      · exact (hx.mpr ((fh t).mp y).1) z
      · have hf := hx.mp z
        rw [b.1 232 (by decide), b.1 236 (by decide), h1.1 282 (by decide)]
        have yes : (M0 232 s = 2 ∨ ¬ M0 236 s = 0) → N 282 s = 0 → ∀ t, g_fh M0 i t ↔ M0 266 i ≤ t := fun y x t => by
          rw [fh t]
          exact ⟨fun v => v.2.2.2, fun v => ⟨hf, y, k.mp x, v⟩⟩
        have no : ¬ N 282 s = 0 → ∀ t, ¬ g_fh M0 i t := fun x t v => x (k.mpr ((fh t).mp v).2.2.1)
        refine ⟨fun y => ⟨bs, fun x => ⟨⟨i0, by omega⟩, diff (yes (Or.inl y) x) _ _ _ (ax_y_i _) (ax_y_i _) (ax_y_i _)⟩, fun x => same (no x) _ _ _ (ax_y_i _) (ax_y_i _) (ax_y_i _)⟩, fun y => ⟨bs, fun y2 => same (fun t v => ?_) _ _ _ (ax_y_i _) (ax_y_i _) (ax_y_i _), fun y2 => ⟨bs, fun x => ⟨⟨i0, by omega⟩, diff (yes (Or.inr y2) x) _ _ _ (ax_y_i _) (ax_y_i _) (ax_y_i _)⟩, fun x => same (no x) _ _ _ (ax_y_i _) (ax_y_i _) (ax_y_i _)⟩⟩⟩
        rcases ((fh t).mp v).2.1 with x | x
        · exact y x
        · exact x y2
  · obtain ⟨hi, h1⟩ := hI
    have b := h1.b hb
    have ei : i = M0 259 e + M0 260 e := by omega
    rw [ei] at h1 ⊢
    refine r_Model_checkFirsts_126 b.2.2.1 re ⟨by omega, by omega⟩ hy3 hy4 hy5 ⟨be, be, ?_⟩
    rw [b.1 259 (by decide), b.1 260 (by decide)]
    exact ⟨⟨by omega, by omega⟩, fun _ => h V1 _ y3 y4 y5 ⟨by omega, by omega⟩ hy3 hy4 hy5 h1, fun z => by omega⟩
set_option maxHeartbeats 4000000 in
/-- the model's faults 5 -/
theorem s_kind5 (hS : g_S C0 M0) (ok : g_N2 M0) (hO : g_Own C0 M0 C2 (M0 222 52)) (hb : g_MB C0 M0 M) (hT : ∀ t, t < 701 → (m_nb M ≤ t ↔ T t)) (h : ∀ V', g_H5 M0 M V' (fun t => T t ∨ ∃ n, (0 ≤ n ∧ n < (M0 222 86)) ∧ g_w5 C0 M0 (C2 543) n t) → Ψ V') : ax_N ay_lay (d + 5) q_Model_checkKind [.ref 222, ax_i 5] M Ψ Θ := by
  have p0 := hS.2.2.1.1
  have hat := hS.2.2.2.2.2.2.2
  have hN := hS.2.1
  have hct := hS.2.2.2.2.1.1
  have hc1 := hct.1
  have hc5 := hct.2.2.2.2.1
  have hCk := hS.2.2.2.1.2.2.1
  have ck0 := hCk.1
  refine r_Model_checkKind hb.2.2.1 (by decide) ⟨fun q => absurd q (by decide), fun q => absurd q (by decide), fun q => absurd q (by decide), fun _ => ?_, fun _ _ _ q => absurd rfl q⟩
  refine r_Model_checkFirsts hb.2.2.1 (s_findFirsts hS hb (fun N hN5 hp' hl => ?_))
  have f1 := hN5.1
  have g1 := hN5.2.1
  have hp : ∀ q, 0 ≤ q → q < (M0 222 26) → (N 255 q = 0 ↔ g_PB M0 q) := fun q a b => (hp' q a b).2
  have bN : g_MB C0 M0 N := ⟨hb.1.tr (f1.up (by decide)), fun j z => by rw [f1 222 (by decide)]; exact hb.2.1 j z, g1, fun q a b o => by rw [f1 251 (by decide)]; exact hb.2.2.2 q a b o⟩
  have hTN : ∀ t, t < 701 → (m_nb N ≤ t ↔ T t) := fun t w => by
    have e : m_nb N = m_nb M := by unfold m_nb; rw [f1 222 (by decide)]
    rw [e]; exact hT t w
  refine ax_for (I := fun q V => (0 ≤ q ∧ q ≤ (M0 222 26)) ∧ g_H1 N V (fun t => T t ∨ ∃ x, (0 ≤ x ∧ x < q) ∧ g_b5 M0 x t)) (K := fun q V => k_Model_checkFirsts_6 (d + 3) q none none none none V Ψ Θ) (hi := (M0 222 26)) (fun q V w hI next => ?_) (fun q V w hI => ?_) 0 N ⟨⟨by decide, p0.2.1⟩, (g_H1.rf g1 hTN).of (fun t _ => ⟨fun z => Or.inl z, fun z => by rcases z with z | ⟨x, x0, -⟩; exact z; omega⟩)⟩
  · obtain ⟨hq, hV⟩ := hI
    have b := hV.b bN
    refine r_Model_checkFirsts_6 b.2.2.1 ⟨by omega, by omega⟩ ax_y_n ax_y_n ax_y_n ax_y_n ?_
    rw [b.2.1 26 (by decide)]
    refine ⟨fun z => by omega, fun _ => s_checkFirst hS bN hp hl hV hq.1 w (fun V' hV' => next V' ⟨⟨by omega, by omega⟩, hV'.of (fun t _ => ?_)⟩)⟩
    constructor
    · rintro ((z | ⟨x, x0, x1⟩) | z)
      · exact Or.inl z
      · exact Or.inr ⟨x, ⟨x0.1, by omega⟩, x1⟩
      · exact Or.inr ⟨q, ⟨hq.1, by omega⟩, z⟩
    · rintro (z | ⟨x, x0, x1⟩)
      · exact Or.inl (Or.inl z)
      · by_cases y : x = q
        · rw [y] at x1; exact Or.inr x1
        · exact Or.inl (Or.inr ⟨x, ⟨x0.1, by omega⟩, x1⟩)
  · obtain ⟨hq, hV⟩ := hI
    have eq : q = (M0 222 26) := by omega
    rw [eq] at hV
    have b := hV.b bN
    refine r_Model_checkFirsts_6 b.2.2.1 ⟨by omega, by omega⟩ ax_y_n ax_y_n ax_y_n ax_y_n ?_
    rw [b.2.1 26 (by decide)]
    refine ⟨fun _ => ?_, fun z => by omega⟩
    obtain ⟨T1, eT1⟩ : ∃ X : Int → Prop, X = (fun t => T t ∨ ∃ x, (0 ≤ x ∧ x < (M0 222 26)) ∧ g_b5 M0 x t) := ⟨_, rfl⟩
    rw [← eT1] at hV
    refine ax_for (I := fun j V => (0 ≤ j ∧ j ≤ (M0 222 77)) ∧ g_H1 N V (fun t => T1 t ∨ ∃ x, (0 ≤ x ∧ x < j) ∧ g_LB M0 (26 * M0 281 x + M0 279 x) ∧ M0 280 x ≤ t)) (K := fun j V => k_Model_checkFirsts_27 (d + 3) j none none none none V Ψ Θ) (hi := (M0 222 77)) (fun j V w hI next => ?_) (fun j V w hI => ?_) 0 V ⟨⟨by decide, ck0.1⟩, hV.of (fun t _ => ⟨fun z => Or.inl z, fun z => by rcases z with z | ⟨x, x0, -⟩; exact z; omega⟩)⟩
    · obtain ⟨hj, hV⟩ := hI
      have b := hV.b bN
      have c := hCk.2.2 j hj.1 w
      have c1 := c.1
      refine r_Model_checkFirsts_27 b.2.2.1 ⟨by omega, by omega⟩ ax_y_n ax_y_n ax_y_n ax_y_n ?_
      rw [b.2.1 77 (by decide), b.1 281 (by decide), b.1 279 (by decide), b.1 280 (by decide)]
      refine ⟨fun z => by omega, fun _ => ⟨⟨hj.1, by omega⟩, ⟨hj.1, by omega⟩, ⟨hj.1, by omega⟩, s_lhave bN hl hV ⟨c1.1, by omega⟩ c.2.1 c.2.2.1 (fun V' hV' => next V' ⟨⟨by omega, by omega⟩, hV'.of (fun t _ => ?_)⟩)⟩⟩
      constructor
      · rintro ((z | ⟨x, x0, x1⟩) | z)
        · exact Or.inl z
        · exact Or.inr ⟨x, ⟨x0.1, by omega⟩, x1⟩
        · exact Or.inr ⟨j, ⟨hj.1, by omega⟩, z⟩
      · rintro (z | ⟨x, x0, x1⟩)
        · exact Or.inl (Or.inl z)
        · by_cases y : x = j
          · rw [y] at x1; exact Or.inr x1
          · exact Or.inl (Or.inr ⟨x, ⟨x0.1, by omega⟩, x1⟩)
    · obtain ⟨hj, hV⟩ := hI
      have ej : j = (M0 222 77) := by omega
      rw [ej] at hV
      have b := hV.b bN
      refine r_Model_checkFirsts_27 b.2.2.1 ⟨by omega, by omega⟩ ax_y_n ax_y_n ax_y_n ax_y_n ?_
      rw [b.2.1 77 (by decide)]
      refine ⟨fun _ => ?_, fun z => by omega⟩
      obtain ⟨T2, eT2⟩ : ∃ X : Int → Prop, X = (fun t => T1 t ∨ ∃ x, (0 ≤ x ∧ x < (M0 222 77)) ∧ g_LB M0 (26 * M0 281 x + M0 279 x) ∧ M0 280 x ≤ t) := ⟨_, rfl⟩
      rw [← eT2] at hV
      refine ax_for (I := fun m V => (0 ≤ m ∧ m ≤ (M0 222 60)) ∧ g_H1 N V (fun t => T2 t ∨ ∃ x, (0 ≤ x ∧ x < m) ∧ g_PB M0 (M0 277 x) ∧ M0 242 (M0 277 x) ≤ t)) (K := fun m V => k_Model_checkFirsts_65 (d + 3) m none none none none V Ψ Θ) (hi := (M0 222 60)) (fun m V w hI next => ?_) (fun m V w hI => ?_) 0 V ⟨⟨by decide, by omega⟩, hV.of (fun t _ => ⟨fun z => Or.inl z, fun z => by rcases z with z | ⟨x, x0, -⟩; exact z; omega⟩)⟩
      · obtain ⟨hm, hV⟩ := hI
        have b := hV.b bN
        have fw1 := (hS.2.2.2.2.1.2.2.2.2.1 m hm.1 w).2.2.2.2.2.2.2.1
        refine r_Model_checkFirsts_65 b.2.2.1 ⟨by omega, by omega⟩ ax_y_n ax_y_n ax_y_n ax_y_n ?_
        rw [b.2.1 60 (by decide), b.1 277 (by decide)]
        refine ⟨fun z => by omega, fun _ => ⟨⟨hm.1, by omega⟩, s_have hS bN hp hV (by omega) fw1.2.2 (fun V' hV' => next V' ⟨⟨by omega, by omega⟩, hV'.of (fun t _ => ?_)⟩)⟩⟩
        constructor
        · rintro ((z | ⟨x, x0, x1⟩) | z)
          · exact Or.inl z
          · exact Or.inr ⟨x, ⟨x0.1, by omega⟩, x1⟩
          · exact Or.inr ⟨m, ⟨hm.1, by omega⟩, z⟩
        · rintro (z | ⟨x, x0, x1⟩)
          · exact Or.inl (Or.inl z)
          · by_cases y : x = m
            · rw [y] at x1; exact Or.inr x1
            · exact Or.inl (Or.inr ⟨x, ⟨x0.1, by omega⟩, x1⟩)
      · obtain ⟨hm, hV⟩ := hI
        have em : m = (M0 222 60) := by omega
        rw [em] at hV
        have b := hV.b bN
        refine r_Model_checkFirsts_65 b.2.2.1 ⟨by omega, by omega⟩ ax_y_n ax_y_n ax_y_n ax_y_n ?_
        rw [b.2.1 60 (by decide)]
        refine ⟨fun _ => ?_, fun z => by omega⟩
        obtain ⟨T3, eT3⟩ : ∃ X : Int → Prop, X = (fun t => T2 t ∨ ∃ x, (0 ≤ x ∧ x < (M0 222 60)) ∧ g_PB M0 (M0 277 x) ∧ M0 242 (M0 277 x) ≤ t) := ⟨_, rfl⟩
        rw [← eT3] at hV
        refine ax_for (I := fun e V => (0 ≤ e ∧ e ≤ (M0 222 44)) ∧ g_H1 N V (fun t => T3 t ∨ ∃ x, (0 ≤ x ∧ x < e) ∧ ((¬ M0 263 x = -1 ∧ g_PB M0 (M0 262 x) ∧ M0 242 (M0 262 x) ≤ t) ∨ ∃ i, (M0 259 x ≤ i ∧ i < M0 259 x + M0 260 x) ∧ g_fh M0 i t))) (K := fun e V => ∀ y2 y3 y4 y5, ax_y y2 → ax_y y3 → ax_y y4 → ax_y y5 → k_Model_checkFirsts_91 (d + 3) e y2 y3 y4 y5 V Ψ Θ) (hi := (M0 222 44)) (fun e V w hI next y2 y3 y4 y5 hy2 hy3 hy4 hy5 => ?_) (fun e V w hI y2 y3 y4 y5 hy2 hy3 hy4 hy5 => ?_) 0 V ⟨⟨by decide, by omega⟩, hV.of (fun t _ => ⟨fun z => Or.inl z, fun z => by rcases z with z | ⟨x, x0, -⟩; exact z; omega⟩)⟩ none none none none ax_y_n ax_y_n ax_y_n ax_y_n
        · obtain ⟨he, hV⟩ := hI
          have b := hV.b bN
          have fx1 := (hS.2.2.2.2.1.2.1 e he.1 w).2.2.2.2.2.1.1
          have be : 0 ≤ e ∧ e < 351 := ⟨he.1, by omega⟩
          refine r_Model_checkFirsts_91 b.2.2.1 ⟨by omega, by omega⟩ hy2 hy3 hy4 hy5 ?_
          rw [b.2.1 44 (by decide), b.1 263 (by decide), b.1 259 (by decide), b.1 262 (by decide)]
          refine ⟨fun z => by omega, fun _ => ⟨be, fun a => ⟨be, s_firstHeads hS bN hl he.1 w hV (fun V2 x2 y3 y4 y5 rx2 hy3 hy4 hy5 h2 => next V2 ⟨⟨by omega, by omega⟩, h2.of (fun t _ => ?_)⟩ _ _ _ _ (ax_y_i _) hy3 hy4 hy5) _ _ _ hy3 hy4 hy5⟩, fun a => ⟨be, s_have hS bN hp hV (by omega) fx1.2.2 (fun V1 h1 => ⟨be, ?_⟩)⟩⟩⟩
          · constructor
            · rintro ((z | ⟨x, x0, x1⟩) | z)
              · exact Or.inl z
              · exact Or.inr ⟨x, ⟨x0.1, by omega⟩, x1⟩
              · exact Or.inr ⟨e, ⟨he.1, by omega⟩, Or.inr z⟩
            · rintro (z | ⟨x, x0, x1⟩)
              · exact Or.inl (Or.inl z)
              · by_cases y : x = e
                · rw [y] at x1
                  rcases x1 with x1 | x1
                  · exact absurd a x1.1
                  · exact Or.inr x1
                · exact Or.inl (Or.inr ⟨x, ⟨x0.1, by omega⟩, x1⟩)
          · rw [(h1.b bN).1 259 (by decide)]
            refine s_firstHeads hS bN hl he.1 w h1 (fun V2 x2 y3 y4 y5 rx2 hy3 hy4 hy5 h2 => next V2 ⟨⟨by omega, by omega⟩, h2.of (fun t _ => ?_)⟩ _ _ _ _ (ax_y_i _) hy3 hy4 hy5) _ _ _ hy3 hy4 hy5
            constructor
            · rintro (((z | ⟨x, x0, x1⟩) | z) | z)
              · exact Or.inl z
              · exact Or.inr ⟨x, ⟨x0.1, by omega⟩, x1⟩
              · exact Or.inr ⟨e, ⟨he.1, by omega⟩, Or.inl ⟨a, z⟩⟩
              · exact Or.inr ⟨e, ⟨he.1, by omega⟩, Or.inr z⟩
            · rintro (z | ⟨x, x0, x1⟩)
              · exact Or.inl (Or.inl (Or.inl z))
              · by_cases y : x = e
                · rw [y] at x1
                  rcases x1 with x1 | x1
                  · exact Or.inl (Or.inr x1.2)
                  · exact Or.inr x1
                · exact Or.inl (Or.inl (Or.inr ⟨x, ⟨x0.1, by omega⟩, x1⟩))
        · obtain ⟨he, hV⟩ := hI
          have ee : e = (M0 222 44) := by omega
          rw [ee] at hV
          have b := hV.b bN
          refine r_Model_checkFirsts_91 b.2.2.1 ⟨by omega, by omega⟩ hy2 hy3 hy4 hy5 ?_
          rw [b.2.1 44 (by decide)]
          refine ⟨fun _ => h V ⟨⟨(f1.up (by decide)).tr (hV.1.up (by decide)), fun j z => by rw [hV.2.1 j z, f1 222 (by decide)], hV.2.2.1⟩, fun t w => (hV.2.2.2 t w).trans ?_⟩, fun z => by omega⟩
          have sm := hS.same5 ok hO t
          show (T3 t ∨ _) ↔ (T t ∨ ∃ n, (0 ≤ n ∧ n < (M0 222 86)) ∧ g_w5 C0 M0 (C2 543) n t)
          rw [← sm, eT3, eT2, eT1]
          unfold g_v5
          constructor
          · rintro ((((z | z) | z) | z) | z)
            · exact Or.inl z
            · exact Or.inr (Or.inl z)
            · exact Or.inr (Or.inr (Or.inl z))
            · exact Or.inr (Or.inr (Or.inr (Or.inl z)))
            · exact Or.inr (Or.inr (Or.inr (Or.inr z)))
          · rintro (z | z | z | z | z)
            · exact Or.inl (Or.inl (Or.inl (Or.inl z)))
            · exact Or.inl (Or.inl (Or.inl (Or.inr z)))
            · exact Or.inl (Or.inl (Or.inr z))
            · exact Or.inl (Or.inr z)
            · exact Or.inr z
end Kind5T
