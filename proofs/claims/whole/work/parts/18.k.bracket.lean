/-! BRACKETS: they move a part's beginning -/
theorem e_p.keepB {C M C' M' : ax_V} {q : Int} (h : e_p C M q) (hC : ∀ c, 517 ≤ c → c ≤ 526 → c ≠ 522 → c ≠ 518 → C' c q = C c q) (hM : ∀ c, 241 ≤ c → c ≤ 250 → c ≠ 242 → M' c q = M c q) (hb : C' 518 q = M' 242 q ∧ e_pl (M' 242 q) ∧ M' 242 q ≤ M 242 q) (hn : ∀ k, 0 ≤ k → k < 8 → M' 226 k = M 226 k)
    (hk : ∀ x, e_kid M q x → C' 522 x = C 522 x ∧ C' 526 x = C 526 x ∧ M' 252 x = M 252 x ∧ M' 242 x = M 242 x) : e_p C' M' q := by
  have hge := fun h22 => e_arg_ge h h22
  obtain ⟨h1, h2, h3, h4, h5, har, hdt, c1, c2, c3, c4⟩ := h
  have e1 : M' 241 q = M 241 q := hM _ (by decide) (by decide) (by decide)
  have e3 : M' 243 q = M 243 q := hM _ (by decide) (by decide) (by decide)
  have e4 : M' 244 q = M 244 q := hM _ (by decide) (by decide) (by decide)
  have e5 : M' 245 q = M 245 q := hM _ (by decide) (by decide) (by decide)
  have e6 : M' 246 q = M 246 q := hM _ (by decide) (by decide) (by decide)
  have e7 : M' 247 q = M 247 q := hM _ (by decide) (by decide) (by decide)
  have e8 : M' 248 q = M 248 q := hM _ (by decide) (by decide) (by decide)
  have e9 : M' 249 q = M 249 q := hM _ (by decide) (by decide) (by decide)
  have e10 : M' 250 q = M 250 q := hM _ (by decide) (by decide) (by decide)
  have d1 : C' 517 q = C 517 q := hC _ (by decide) (by decide) (by decide) (by decide)
  have d3 : C' 519 q = C 519 q := hC _ (by decide) (by decide) (by decide) (by decide)
  have d4 : C' 520 q = C 520 q := hC _ (by decide) (by decide) (by decide) (by decide)
  have d5 : C' 521 q = C 521 q := hC _ (by decide) (by decide) (by decide) (by decide)
  have d7 : C' 523 q = C 523 q := hC _ (by decide) (by decide) (by decide) (by decide)
  have d8 : C' 524 q = C 524 q := hC _ (by decide) (by decide) (by decide) (by decide)
  have d9 : C' 526 q = C 526 q := hC _ (by decide) (by decide) (by decide) (by decide)
  have ea : M 241 q = 22 → ∀ k, e_arg M' q k = e_arg M q k := fun h22 => e_arg_eq e5 (fun k hk0 => (hk _ ⟨hk0, Or.inr ⟨h22, k, rfl⟩⟩).2.2.1) (hge h22)
  have ek : ∀ x, e_kid M' q x → e_kid M q x := by
    intro x hx
    obtain ⟨x0, hx⟩ := hx
    refine ⟨x0, ?_⟩
    rw [e1, e5, e6, e7] at hx
    rcases hx with hx | ⟨h22, k, hx⟩
    · exact Or.inl hx
    · exact Or.inr ⟨h22, k, by rw [← ea h22 k]; exact hx⟩
  refine ⟨by rw [d1, e1]; exact h1, hb.1, hb.2.1, by rw [e10]; exact h4, by rw [d9]; exact h5, ?_, ?_, ?_, ?_, ?_, ?_⟩
  · unfold e_ar
    rw [e1, e5, e6, e7]
    exact har
  · have hf : e_fd M (M 250 q) (M 249 q) (C 520 q) → e_fd M' (M 250 q) (M 249 q) (C 520 q) := by
      intro hf
      rcases hf with ⟨a, b⟩ | ⟨a, b, c, d⟩
      · exact Or.inl ⟨a, fun k k0 k1 => by rw [hn k k0 (by omega)]; exact b k k0 k1⟩
      · exact Or.inr ⟨a, b, by rw [hn _ a (by omega)]; exact c, fun k k0 k1 => by rw [hn k k0 (by omega)]; exact d k k0 k1⟩
    obtain ⟨t1, t2, t3, t4, t5, t6, t7⟩ := hdt
    unfold e_dt
    rw [e1, e3, e4, e8, e9, e10, d3, d4, d7, d8]
    exact ⟨t1, t2, t3, t4, t5, t6, fun w => ⟨(t7 w).1, (t7 w).2.1, (t7 w).2.2.1, (t7 w).2.2.2.1, hf (t7 w).2.2.2.2⟩⟩
  · rw [d5, e5]; exact c1
  · rw [e1, e5, e6, e7]
    intro w
    obtain ⟨u1, u2, u3⟩ := c2 w
    refine ⟨fun z => ?_, fun z => ?_, fun z => ?_⟩
    · rw [(hk _ ⟨z, Or.inl ⟨w, Or.inl rfl⟩⟩).1]; exact u1 z
    · rw [(hk _ ⟨z, Or.inl ⟨w, Or.inr (Or.inl rfl)⟩⟩).1]; exact u2 z
    · rw [(hk _ ⟨z, Or.inl ⟨w, Or.inr (Or.inr rfl)⟩⟩).1]; exact u3 z
  · rw [e1]
    intro h22 k hk0
    rw [ea h22 k] at hk0 ⊢
    obtain ⟨g1, -, g3, g4⟩ := hk _ ⟨hk0, Or.inr ⟨h22, k, rfl⟩⟩
    rw [g1, g3, g4]
    obtain ⟨u1, u2, u3⟩ := c3 h22 k hk0
    exact ⟨u1, u2, Int.le_trans hb.2.2 u3⟩
  · intro x hx
    have hx' := ek x hx
    rw [(hk x hx').2.1, e1, d9]
    exact c4 x hx'
theorem e_ok.bracket {C M C3 M1 C4 M4 C7 M7 : ax_V} {p : Int} (h : e_R C M) (x1 : e_mvC C C3) (y1 : e_mvM M M1) (ha : (M 222 68) ≤ (M1 222 68)) (ok : e_ok C3 M1 C4 M4 p) (h7 : e_R C7 M7) (z1 : e_mvC C4 C7) (w1 : e_mvM M4 M7) (hb : (M4 222 68) ≤ (M7 222 68)) (hd : (M7 222 69) = (M 222 69) ∧ (M7 222 72) = (M 222 72) ∧ (C7 600 13) = (C 600 13)) (hdl : (C3 600 13) = (C 600 13)) (hlt : (M 222 68) < (M 222 3)) : e_ok C M (ax_u C7 518 p (C 600 6)) (ax_u M7 242 p (M 222 68)) p := by
  obtain ⟨k1, k2, k3, k4, k5, k6, k7, k8, k9⟩ := ok
  have y5 : (M1 222 26) = (M 222 26) := y1.2 26 (by decide) (by decide) (by decide) (by decide)
  have w5 : (M7 222 26) = (M4 222 26) := w1.2 26 (by decide) (by decide) (by decide) (by decide)
  have w6 : (M7 222 74) = (M4 222 74) := w1.2 74 (by decide) (by decide) (by decide) (by decide)
  have hsz := h.2.1.2.2.1
  have a1 := h.2.2.1.1
  obtain ⟨hgC7, hgM7⟩ := id h7.1
  obtain ⟨C8, eC⟩ : ∃ X : ax_V, X = ax_u C7 518 p (C 600 6) := ⟨_, rfl⟩
  obtain ⟨M8, eM⟩ : ∃ X : ax_V, X = ax_u M7 242 p (M 222 68) := ⟨_, rfl⟩
  rw [← eC, ← eM]
  have nC : ∀ c, c ≠ 518 → C8 c = C7 c := fun c hc => by rw [eC]; exact ax_u_ne hc
  have nM : ∀ c, c ≠ 242 → M8 c = M7 c := fun c hc => by rw [eM]; exact ax_u_ne hc
  have nCq : ∀ q, q ≠ p → C8 518 q = C7 518 q := fun q hq => by rw [eC]; exact ax_u_k hq
  have nMq : ∀ q, q ≠ p → M8 242 q = M7 242 q := fun q hq => by rw [eM]; exact ax_u_k hq
  have bC : C8 518 p = (C 600 6) := by rw [eC]; exact ax_u_s _ _ _ _
  have bM : M8 242 p = (M 222 68) := by rw [eM]; exact ax_u_s _ _ _ _
  have hg8 : ax_g C8 ∧ ax_g M8 := by rw [eC, eM]; exact ⟨ax_u_g hgC7 ⟨by omega, by omega⟩, ax_u_g hgM7 ⟨by omega, by omega⟩⟩
  have ek : ∀ q x, 0 ≤ q → q < (M4 222 26) → (e_kid M8 q x ↔ e_kid M4 q x) := fun q x a b => by
    have hp := k1.2.2.2.2.2 q a b
    refine ⟨fun z => ?_, fun z => ?_⟩
    · have e1 := (e_kid_eq (M' := M7) hp (fun c _ _ => by rw [w1.1 c (by omega)]) (fun x _ => by rw [w1.1 252 (by decide)]) x)
      refine e1.mp ?_
      have ea : ∀ k, e_arg M8 q k = e_arg M7 q k := by
        intro k
        induction k with
        | zero => show M8 245 q = M7 245 q; rw [nM 245 (by decide)]
        | succ k ih =>
          show (if e_arg M8 q k = -1 then -1 else M8 252 (e_arg M8 q k)) = (if e_arg M7 q k = -1 then -1 else M7 252 (e_arg M7 q k))
          rw [ih, nM 252 (by decide)]
      unfold e_kid at z ⊢
      rw [nM 241 (by decide), nM 245 (by decide), nM 246 (by decide), nM 247 (by decide)] at z
      simp only [ea] at z
      exact z
    · have e1 := (e_kid_eq (M' := M7) hp (fun c _ _ => by rw [w1.1 c (by omega)]) (fun x _ => by rw [w1.1 252 (by decide)]) x)
      have z := e1.mpr z
      have ea : ∀ k, e_arg M8 q k = e_arg M7 q k := by
        intro k
        induction k with
        | zero => show M8 245 q = M7 245 q; rw [nM 245 (by decide)]
        | succ k ih =>
          show (if e_arg M8 q k = -1 then -1 else M8 252 (e_arg M8 q k)) = (if e_arg M7 q k = -1 then -1 else M7 252 (e_arg M7 q k))
          rw [ih, nM 252 (by decide)]
      unfold e_kid at z ⊢
      rw [nM 241 (by decide), nM 245 (by decide), nM 246 (by decide), nM 247 (by decide)]
      simp only [ea]
      exact z
  have hR : e_R C8 M8 := by
    obtain ⟨-, ⟨t1, t2, t3, t4⟩, s0, ⟨p1, p2, p3⟩, p4, p5⟩ := h7
    refine ⟨hg8, ⟨by rw [nC 600 (by decide), nM 222 (by decide)]; exact t1, by rw [nM 222 (by decide)]; exact t2, by rw [nM 222 (by decide)]; exact t3, fun i i0 i1 => ?_⟩, ?_, ⟨by rw [nC 516 (by decide), nM 222 (by decide)]; exact p1, by rw [nM 222 (by decide)]; exact p2, by rw [nM 222 (by decide)]; exact p3⟩, fun k k0 k1 => ?_, fun q q0 q1 => ?_⟩
    · rw [nC 1 (by decide), nM 224 (by decide)]
      exact t4 i i0 (by rw [nM 222 (by decide)] at i1; exact i1)
    · unfold e_S
      rw [nC 600 (by decide), nM 222 (by decide)]
      exact s0
    · rw [nC 501 (by decide), nM 226 (by decide)]
      exact p4 k k0 (by rw [nM 222 (by decide)] at k1; exact k1)
    · rw [nM 222 (by decide)] at q1
      have hp := p5 q q0 q1
      refine hp.keepB (fun c _ _ _ w => by rw [nC c w]) (fun c _ _ w => by rw [nM c w]) ?_ (fun k _ _ => by rw [nM 226 (by decide)]) (fun x hx => ⟨by rw [nC 522 (by decide)], by rw [nC 526 (by decide)], by rw [nM 252 (by decide)], nMq x (by have := (hp.2.2.2.2.2.2.2.2.2.2 x hx).1; omega)⟩)
      by_cases w : q = p
      · rw [w, bC, bM]; exact ⟨a1.1, ⟨by omega, by omega⟩, by have := (k6.2.2 p (by omega) (by omega)).2.2.2.2.1; rw [w1.1 242 (by decide)]; omega⟩
      · rw [nCq q w, nMq q w]; exact ⟨hp.2.1, hp.2.2.1, Int.le_refl _⟩
  have fC : e_fC C C8 (M 222 26) := by
    refine ((x1.fr.tr k2 (by omega)).tr z1.fr (Int.le_refl _)).tr ?_ (Int.le_refl _)
    rw [eC]; exact e_fC.ua (by decide) (by omega)
  have fM : e_fM M M8 (M 222 26) := by
    refine ((y1.fr.tr k3 (by omega)).tr w1.fr (Int.le_refl _)).tr ?_ (Int.le_refl _)
    rw [eM]; exact e_fM.ua (by decide) (by omega)
  have r1 : (M8 222 26) = (M4 222 26) := by rw [nM 222 (by decide)]; exact w5
  have r2 : (M8 222 68) = (M7 222 68) := by rw [nM 222 (by decide)]
  refine ⟨hR, fC, fM, ⟨by rw [nM 222 (by decide), w6]; exact k4.1, by rw [r1]; exact k4.2.1, by omega⟩, ⟨by rw [nC 522 (by decide), z1.1 522 (by decide)]; exact k5.1, by rw [nM 252 (by decide), w1.1 252 (by decide)]; exact k5.2.1, by rw [nC 526 (by decide), z1.1 526 (by decide), k5.2.2, hdl]⟩, ⟨by omega, by omega, fun q a b => ?_⟩, ⟨by rw [nM 222 (by decide)]; exact hd.1, by rw [nM 222 (by decide)]; exact hd.2.1, by rw [nC 600 (by decide)]; exact hd.2.2⟩, fun q x a b hx => ?_, fun q a b => ?_⟩
  · obtain ⟨e1, e2, e3, e4, e5, e6⟩ := ((k6.2.2.mv z1 w1) q (by omega) (by rw [w5]; omega)).from x1.fr (y1.fr (P := 0)) ha
    refine ⟨by rw [nC 525 (by decide)]; exact e1, by rw [nC 527 (by decide)]; exact e2, by rw [nM 250 (by decide)]; exact e3, by rw [nM 256 (by decide)]; exact e4, ?_, by rw [nM 241 (by decide)]; exact e6⟩
    by_cases w : q = p
    · rw [w, bM]; omega
    · rw [nMq q w]; exact e5
  · have := k8 q x (by omega) (by omega) ((ek q x (by have := h.2.2.2.1.2.1; omega) (by omega)).mp hx)
    omega
  · obtain ⟨w, u1, u2, u3⟩ := k9 q (by omega) b
    exact ⟨w, u1, by omega, (ek w q (by have := h.2.2.2.1.2.1; omega) (by omega)).mpr u3.1, fun v a' b' k' => u3.2 v (by omega) (by omega) ((ek v q (by have := h.2.2.2.1.2.1; omega) (by omega)).mp k')⟩
