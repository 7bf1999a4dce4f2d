/-! FAULTS 6, the model: what lies behind a delay -/
section Kind6A
variable {d : Nat} {C0 M0 M : ax_V} {Ψ Θ : ax_V → Prop}
/-- on the way down, at p -/
def g_A6 (C0 M0 M V : ax_V) (p : Int) : Prop := g_fr [256] M V ∧ ax_g V ∧ ∀ q, 0 ≤ q → q < (M0 222 26) → V 256 q = C0 526 q ∨ (V 256 q = 0 ∧ ∀ p', p < p' → p' < (M0 222 26) → ¬ e_kid M0 p' q)
theorem g_A6.w {V : ax_V} {p x v : Int} (hS : g_S C0 M0) (h : g_A6 C0 M0 M V p) (x0 : 0 ≤ x) (x1 : x < (M0 222 26)) (ev : v = C0 526 x) : g_A6 C0 M0 M (ax_u V 256 x v) p ∧ (∀ y, V 256 y = C0 526 y → (ax_u V 256 x v) 256 y = C0 526 y) ∧ (ax_u V 256 x v) 256 x = C0 526 x := by
  have lt := (hS.p x0 x1).2.2.2.2.1
  have rv : ax_rg v := by rw [ev]; rcases lt with z | z <;> rw [z] <;> decide
  have vx : (ax_u V 256 x v) 256 x = C0 526 x := by rw [ax_u_s]; exact ev
  refine ⟨⟨h.1.u (by decide), ax_u_g h.2.1 rv, fun q a b => ?_⟩, fun y hy => ?_, vx⟩
  · by_cases z : q = x
    · rw [z]; exact Or.inl vx
    · rw [ax_u_k z]; exact h.2.2 q a b
  · by_cases z : y = x
    · rw [z]; exact vx
    · rw [ax_u_k z]; exact hy
/-- a part without one above it is a whole X -/
theorem g_S.root (hS : g_S C0 M0) {q : Int} (q0 : 0 ≤ q) (q1 : q < (M0 222 26)) (h : ∀ p', q < p' → p' < (M0 222 26) → ¬ e_kid M0 p' q) : C0 526 q = 0 := by
  have hB := hS.2.2.2.2.1
  have go : ∀ f w n s tr m, f_x C0 M0 f w n s tr m → f ≤ q → q ≤ w → C0 526 q = 0 := by
    intro f w n s tr m fx e2 e3
    by_cases z : q = w
    · rw [z]; exact fx.2.1.1
    · obtain ⟨-, p, p1, p2, p3⟩ := (fx.2.2 q e2 e3).2.2.2.2 (by omega)
      have fx1 := fx.1
      have pq := ((hS.p (q := p) (by omega) (by omega)).2.2.2.2.2.2.2.2.2.2 q p3.1).1
      exact absurd p3.1 (h p pq (by omega))
  rcases hB.2.2.2.2.2.1.1 q q0 q1 with ⟨e, e0, e1, e2, e3⟩ | ⟨t, e0, e1, e2, e3⟩
  · exact go _ _ _ _ _ _ (hB.2.1 e e0 e1).2.2.2.2.2.1 e2 e3
  · exact go _ _ _ _ _ _ (hB.2.2.2.2.1 t e0 e1).2.2.2.2.2.2.2 e2 e3
set_option maxHeartbeats 4000000 in
theorem s_findLater (hS : g_S C0 M0) (hb : g_MB C0 M0 M) (h56 : ∀ q, 0 ≤ q → q < (M0 222 26) → M 256 q = 0) (h : ∀ V, g_fr [256] M V → ax_g V → (∀ q, 0 ≤ q → q < (M0 222 26) → V 256 q = C0 526 q) → Ψ V) : ax_N ay_lay (d + 1) q_Model_findLater [.ref 222] M Ψ Θ := by
  have p0 := hS.2.2.1.1
  have hat := hS.2.2.2.2.2.2.2
  have fx : ∀ {V : ax_V} {p : Int}, g_A6 C0 M0 M V p → ∀ c, c ∉ g_YM → V c = M0 c := fun hV c z => by
    rw [hV.1 c (fun y => z (by simp at y; rw [y]; decide))]; exact hb.1 c z
  refine r_Model_findLater hb.2.2.1 ?_
  rw [hb.2.1 26 (by decide)]
  refine ax_ford (I := fun p V => (-1 ≤ p ∧ p < (M0 222 26)) ∧ g_A6 C0 M0 M V p) (K := fun p V => ∀ y2 y3, ax_y y2 → ax_y y3 → k_Model_findLater_7 d p y2 y3 V Ψ Θ) (lo := 0) (fun p V w hI next y2 y3 hy2 hy3 => ?_) (fun p V w hI y2 y3 hy2 hy3 => ?_) ((M0 222 26) - 1) M ⟨⟨by omega, by omega⟩, g_fr.rf _ _, hb.2.2.1, fun q a b => Or.inr ⟨h56 q a b, fun p' c e => by omega⟩⟩ none none ax_y_n ax_y_n
  · obtain ⟨hp, hV⟩ := hI
    have q1 := hp.2
    have b7 : 0 ≤ p ∧ p < 701 := ⟨w, by omega⟩
    have rp : ax_rg p := ⟨by omega, by omega⟩
    have pp := hS.p w q1
    have lt := pp.2.2.2.2.1
    have ch := pp.2.2.2.2.2.2.2.2.2.2
    have ar := hS.ar w q1
    have lp : V 256 p = C0 526 p := by
      rcases hV.2.2 p w q1 with z | z
      · exact z
      · rw [z.1, hS.root w q1 z.2]
    -- all its parts are told: on to the next
    have nxt : ∀ V', g_A6 C0 M0 M V' p → (∀ x, e_kid M0 p x → V' 256 x = C0 526 x) → ∀ y2 y3, ax_y y2 → ax_y y3 → k_Model_findLater_7 d (p + -1) y2 y3 V' Ψ Θ := by
      intro V' hV' hk
      have := next V' ⟨⟨by omega, by omega⟩, hV'.1, hV'.2.1, fun q a b => ?_⟩
      · rw [show p + -1 = p - 1 by omega]; exact this
      · rcases hV'.2.2 q a b with z | z
        · exact Or.inl z
        · by_cases y : e_kid M0 p q
          · exact Or.inl (hk q y)
          · refine Or.inr ⟨z.1, fun p' c e => ?_⟩
            by_cases x : p' = p
            · rw [x]; exact y
            · exact z.2 p' (by omega) e
    by_cases o : M0 241 p = 22
    · -- a call
      obtain ⟨K, K7, KE, KA⟩ := hS.args w q1 o
      have o6 : ∀ x, e_kid M0 p x → C0 526 x = C0 526 p := fun x hx => by
        have := (ch x hx).2
        rw [if_neg (by omega)] at this
        exact this
      have bc : M0 246 p = -1 ∧ M0 247 p = -1 := by rcases ar with z | z | z | z | z <;> omega
      have loop : ∀ y2, ax_y y2 → ∀ (m k : Nat), k ≤ K → K - k ≤ m → ∀ V', g_A6 C0 M0 M V' p → V' 256 p = C0 526 p → (∀ j : Nat, j < k → V' 256 (e_arg M0 p j) = C0 526 (e_arg M0 p j)) → k_Model_findLater_146 d p y2 (e_arg M0 p k) V' Ψ Θ := by
        intro y2 hy2 m
        induction m with
        | zero =>
          intro k k0 k1 V' hV' lp' hj
          have ek : k = K := by omega
          rw [ek] at hj ⊢
          rw [KE]
          refine r_Model_findLater_146 hV'.2.1 rp hy2 (by decide) ⟨fun _ => nxt V' hV' (fun x hx => ?_) _ _ hy2 (ax_y_i _), fun z => absurd rfl z⟩
          rcases hx.2 with z | ⟨-, j, z⟩
          · exact absurd o z.1
          · have hx0 := hx.1
            rw [← z] at hx0 ⊢
            refine hj j ?_
            rcases Nat.lt_or_ge j K with y | y
            · exact y
            · exfalso
              have : ∀ i : Nat, e_arg M0 p (K + i) = -1 := by
                intro i
                induction i with
                | zero => exact KE
                | succ i ih =>
                  show (if e_arg M0 p (K + i) = -1 then -1 else _) = -1
                  rw [if_pos ih]
              have t := this (j - K)
              rw [show K + (j - K) = j by omega] at t
              omega
        | succ m ih =>
          intro k k0 k1 V' hV' lp' hj
          by_cases ek : k = K
          · exact ih k k0 (by omega) V' hV' lp' hj
          · obtain ⟨a1, a2, a3, a4⟩ := KA k (by omega)
            have l2 : V' 256 p = C0 526 (e_arg M0 p k) := by rw [lp', o6 _ ⟨a1.1, Or.inr ⟨o, k, rfl⟩⟩]
            have ww := hV'.w hS a1.1 (by omega : e_arg M0 p k < (M0 222 26)) l2
            refine r_Model_findLater_146 hV'.2.1 rp hy2 ⟨by omega, by omega⟩ ⟨fun z => by omega, fun _ => ⟨b7, ⟨a1.1, by omega⟩, by rw [lp']; exact lt, fun V1 e1 => ⟨⟨a1.1, by omega⟩, ?_⟩⟩⟩
            rw [← e1] at ww
            rw [fx ww.1 252 (by decide), a3]
            refine ih (k + 1) (by omega) (by omega) V1 ww.1 (ww.2.1 _ lp') (fun j hj1 => ?_)
            by_cases y : j = k
            · rw [y]; exact ww.2.2
            · exact ww.2.1 _ (hj j (by omega))
      have k97 : ∀ y2 y3, ax_y y2 → ax_y y3 → k_Model_findLater_97 d p y2 y3 V Ψ Θ := by
        intro y2 y3 hy2 hy3
        refine r_Model_findLater_97 hV.2.1 rp hy2 hy3 ⟨b7, ?_⟩
        rw [fx hV 247 (by decide), fx hV 241 (by decide), fx hV 245 (by decide)]
        refine ⟨fun _ => ⟨b7, fun _ => ⟨b7, ?_⟩, fun z => absurd o z⟩, fun z => absurd bc.2 z⟩
        exact loop y2 hy2 K 0 (by omega) (by omega) V hV lp (fun j z => by omega)
      have k36 : ∀ s0, ax_rg s0 → k_Model_findLater_36 d p y2 y3 s0 V Ψ Θ := by
        intro s0 rs
        refine r_Model_findLater_36 hV.2.1 rp hy2 hy3 rs ⟨b7, ?_⟩
        rw [fx hV 245 (by decide), fx hV 246 (by decide), fx hV 241 (by decide)]
        exact ⟨fun _ => ⟨b7, fun _ => k97 _ _ (ax_y_i _) hy3, fun z => absurd bc.1 z⟩, fun _ => ⟨b7, fun _ => ⟨b7, fun _ => k97 _ _ (ax_y_i _) hy3, fun z => absurd bc.1 z⟩, fun z => absurd o z⟩⟩
      refine r_Model_findLater_7 hV.2.1 rp hy2 hy3 ⟨fun z => by omega, fun _ => ⟨b7, ?_⟩⟩
      exact ⟨fun _ => ⟨b7, fun _ => k36 1 (by decide), fun _ => k36 0 (by decide)⟩, fun _ => k36 1 (by decide)⟩
    · -- no call
      have kd := hS.kid w q1 o
      have la : 0 ≤ M0 245 p → C0 526 (M0 245 p) = if M0 241 p = 6 then 1 else C0 526 p := fun z => (ch _ ⟨z, Or.inl ⟨o, Or.inl rfl⟩⟩).2
      have lb : 0 ≤ M0 246 p → C0 526 (M0 246 p) = if M0 241 p = 6 then 1 else C0 526 p := fun z => (ch _ ⟨z, Or.inl ⟨o, Or.inr (Or.inl rfl)⟩⟩).2
      have lc : 0 ≤ M0 247 p → C0 526 (M0 247 p) = if M0 241 p = 6 then 1 else C0 526 p := fun z => (ch _ ⟨z, Or.inl ⟨o, Or.inr (Or.inr rfl)⟩⟩).2
      have b6 : 0 ≤ M0 246 p → ¬ M0 241 p = 6 := fun z => by rcases ar with y | y | y | y | y <;> omega
      have c6 : 0 ≤ M0 247 p → ¬ M0 241 p = 6 := fun z => by rcases ar with y | y | y | y | y <;> omega
      -- the third
      have k97 : ∀ V', g_A6 C0 M0 M V' p → V' 256 p = C0 526 p → (0 ≤ M0 245 p → V' 256 (M0 245 p) = C0 526 (M0 245 p)) → (0 ≤ M0 246 p → V' 256 (M0 246 p) = C0 526 (M0 246 p)) → ∀ y2 y3, ax_y y2 → ax_y y3 → k_Model_findLater_97 d p y2 y3 V' Ψ Θ := by
        intro V' hV' lp' ha hb' y2 y3 hy2 hy3
        have fin : ∀ V1, g_A6 C0 M0 M V1 p → (0 ≤ M0 245 p → V1 256 (M0 245 p) = C0 526 (M0 245 p)) → (0 ≤ M0 246 p → V1 256 (M0 246 p) = C0 526 (M0 246 p)) → (0 ≤ M0 247 p → V1 256 (M0 247 p) = C0 526 (M0 247 p)) → k_Model_findLater_146 d p y2 (-1) V1 Ψ Θ := by
          intro V1 hV1 ga gb gc
          refine r_Model_findLater_146 hV1.2.1 rp hy2 (by decide) ⟨fun _ => nxt V1 hV1 (fun x hx => ?_) _ _ hy2 (ax_y_i _), fun z => absurd rfl z⟩
          have hx0 := hx.1
          rcases hx.2 with ⟨-, z | z | z⟩ | z
          · rw [← z] at hx0 ⊢; exact ga hx0
          · rw [← z] at hx0 ⊢; exact gb hx0
          · rw [← z] at hx0 ⊢; exact gc hx0
          · exact absurd z.1 o
        refine r_Model_findLater_97 hV'.2.1 rp hy2 hy3 ⟨b7, ?_⟩
        rw [fx hV' 247 (by decide), fx hV' 241 (by decide)]
        refine ⟨fun z => ⟨b7, fun y => absurd y o, fun _ => fin V' hV' ha hb' (fun y => by omega)⟩, fun z => ⟨b7, b7, ⟨by omega, by omega⟩, by rw [lp']; exact lt, fun V1 e1 => ⟨b7, ?_⟩⟩⟩
        have c0 : 0 ≤ M0 247 p := by omega
        have l2 : V' 256 p = C0 526 (M0 247 p) := by rw [lp', lc c0, if_neg (c6 c0)]
        have ww := hV'.w hS c0 (by omega : M0 247 p < (M0 222 26)) l2
        rw [← e1] at ww
        rw [fx ww.1 241 (by decide)]
        exact ⟨fun y => absurd y o, fun _ => fin V1 ww.1 (fun y => ww.2.1 _ (ha y)) (fun y => ww.2.1 _ (hb' y)) (fun _ => ww.2.2)⟩
      -- the first and the second
      have k36 : ∀ s0, (s0 = 0 ∨ s0 = 1) → (s0 = if M0 241 p = 6 then 1 else C0 526 p) → k_Model_findLater_36 d p y2 y3 s0 V Ψ Θ := by
        intro s0 hs0 es
        have rs : ax_rg s0 := by rcases hs0 with z | z <;> rw [z] <;> decide
        refine r_Model_findLater_36 hV.2.1 rp hy2 hy3 rs ⟨b7, ?_⟩
        rw [fx hV 245 (by decide), fx hV 246 (by decide), fx hV 241 (by decide)]
        refine ⟨fun z => ⟨b7, fun y => k97 V hV lp (fun x => by omega) (fun x => by omega) _ _ (ax_y_i _) hy3, fun y => ?_⟩, fun z => ⟨b7, fun y => absurd y o, fun _ => ⟨b7, ⟨by omega, by omega⟩, hs0, fun V3 e3 => ⟨b7, ?_⟩⟩⟩⟩
        · rcases ar with x | x | x | x | x <;> omega
        · have a0 : 0 ≤ M0 245 p := by omega
          have ww := hV.w hS a0 (by omega : M0 245 p < (M0 222 26)) (v := s0) (by rw [la a0]; exact es)
          rw [← e3] at ww
          rw [fx ww.1 246 (by decide)]
          refine ⟨fun y => k97 V3 ww.1 (ww.2.1 _ lp) (fun _ => ww.2.2) (fun x => by omega) _ _ (ax_y_i _) hy3, fun y => ⟨b7, b7, ⟨by omega, by omega⟩, by rw [ww.2.1 _ lp]; exact lt, fun V4 e4 => ?_⟩⟩
          have b0 : 0 ≤ M0 246 p := by omega
          have l2 : V3 256 p = C0 526 (M0 246 p) := by rw [ww.2.1 _ lp, lb b0, if_neg (b6 b0)]
          have w2 := ww.1.w hS b0 (by omega : M0 246 p < (M0 222 26)) l2
          rw [← e4] at w2
          exact k97 V4 w2.1 (w2.2.1 _ (ww.2.1 _ lp)) (fun _ => w2.2.1 _ ww.2.2) (fun _ => w2.2.2) _ _ (ax_y_i _) hy3
      refine r_Model_findLater_7 hV.2.1 rp hy2 hy3 ⟨fun z => by omega, fun _ => ⟨b7, ?_⟩⟩
      rw [lp, fx hV 241 (by decide)]
      refine ⟨fun z => ⟨b7, fun y => k36 1 (Or.inr rfl) (by rw [if_pos y]), fun y => k36 0 (Or.inl rfl) (by rw [if_neg y]; exact z.symm)⟩, fun z => k36 1 (Or.inr rfl) ?_⟩
      have one : C0 526 p = 1 := by
        rcases lt with y | y
        · exact absurd y z
        · exact y
      rw [one]
      by_cases y : M0 241 p = 6
      · rw [if_pos y]
      · rw [if_neg y]
  · obtain ⟨hp, hV⟩ := hI
    refine r_Model_findLater_7 hV.2.1 ⟨by omega, by omega⟩ hy2 hy3 ⟨fun _ => h V hV.1 hV.2.1 (fun q a b => ?_), fun z => by omega⟩
    rcases hV.2.2 q a b with z | z
    · exact z
    · rw [z.1, hS.root a b (fun p' c e => z.2 p' (by omega) e)]
end Kind6A
