/-! FAULTS 4, the class: rings, equations, states -/
/-- clocks of clocks -/
def g_rc (M : ax_V) (n l : Int) : Nat → Int
  | 0 => M 235 (26 * n + l)
  | k + 1 => if g_rc M n l k = 0 then 0 else M 235 (26 * n + (g_rc M n l k - 1) / 2)
def g_rg (M : ax_V) (n l : Int) : Prop := ∃ k : Nat, k < 26 ∧ ¬ g_rc M n l k = 0 ∧ (g_rc M n l k - 1) / 2 = l
def g_e4 (M : ax_V) (G : Int → Int) (e t : Int) : Prop := (∃ h, g_of M e h ∧ ¬ M 235 (26 * M 258 e + M 265 h) = M 235 (26 * M 258 e + M 265 (M 259 e)) ∧ M 266 h ≤ t) ∨ g_bd M G (M 262 e) (M 235 (26 * M 258 e + M 265 (M 259 e))) t
def g_s4 (C M : ax_V) (e t : Int) : Prop := ¬ C 551 e = -1 ∧ ∃ h, g_of M e h ∧ ¬ M 235 (26 * M 258 e + M 265 h) = 0 ∧ M 266 h ≤ t
def g_p4 (C M : ax_V) (q t : Int) : Prop := ¬ C 525 q = -1 ∧ (M 241 q = 2 ∨ M 241 q = 3 ∨ (M 241 q = 22 ∧ ¬ M 248 q = -1)) ∧ ¬ M 235 (26 * M 250 q + M 248 q) = 0 ∧ M 244 q ≤ t
/-- what the node n is blamed for -/
def g_w4 (C M : ax_V) (G : Int → Int) (n t : Int) : Prop := (∃ l, (0 ≤ l ∧ l < 26) ∧ g_rg M n l ∧ M 234 (26 * n + l) ≤ t) ∨ (∃ q, (0 ≤ q ∧ q < (M 222 26)) ∧ M 250 q = n ∧ (g_b4 M G q t ∨ g_p4 C M q t)) ∨ ∃ e, (0 ≤ e ∧ e < (M 222 44)) ∧ M 258 e = n ∧ (g_e4 M G e t ∨ g_s4 C M e t)
def g_J4 (M C2 : ax_V) (G : Int → Int) (C : ax_V) (P : Int) (T : Int → Prop) : Prop := g_fr [601, 529] C2 C ∧ ax_g C ∧ (∀ q, 0 ≤ q → q < P → C 529 q = g_cc (M 250 q) (G q)) ∧ ∀ t, (C 601 5) ≤ t ↔ T t
section Kind4D
variable {B r d : Nat} {C0 M0 V C C2 : ax_V} {G : Int → Int} {q n : Int} {T : Int → Prop} {Φ : Int → ax_V → Prop} {Ψ Θ : ax_V → Prop}
theorem g_J4.of {T' : Int → Prop} {P : Int} (h : g_J4 M0 C2 G C P T) (k : ∀ t, T t ↔ T' t) : g_J4 M0 C2 G C P T' := ⟨h.1, h.2.1, h.2.2.1, fun t => (h.2.2.2 t).trans (k t)⟩
theorem g_J4.up {T' : Int → Prop} {P : Int} (h : g_J4 M0 C2 G C P T) (k : g_J1 C V T') : g_J4 M0 C2 G V P T' := ⟨h.1.tr (k.1.up (by decide)), k.2.1, fun q a b => by rw [k.1 529 (by decide)]; exact h.2.2.1 q a b, k.2.2⟩
theorem g_J4.j {P : Int} (h : g_J4 M0 C2 G C P T) : g_J1 C C T := ⟨g_fr.rf _ _, h.2.1, h.2.2.2⟩
theorem g_rc_0 (M : ax_V) {l : Int} {k : Nat} (h : g_rc M n l k = 0) : ∀ m : Nat, g_rc M n l (k + m) = 0 := by
  intro m
  induction m with
  | zero => exact h
  | succ m ih =>
    show (if g_rc M n l (k + m) = 0 then 0 else _) = 0
    rw [if_pos ih]
theorem g_rc_b (hS : g_S C0 M0) {l : Int} (n0 : 0 ≤ n) (n1 : n < (M0 222 86)) (l0 : 0 ≤ l) (l1 : l < 26) : ∀ k : Nat, 0 ≤ g_rc M0 n l k ∧ g_rc M0 n l k ≤ 52 := by
  intro k
  induction k with
  | zero => exact (hS.ck n0 n1 l0 l1).2
  | succ k ih =>
    show 0 ≤ (if g_rc M0 n l k = 0 then 0 else M0 235 (26 * n + (g_rc M0 n l k - 1) / 2)) ∧ (if g_rc M0 n l k = 0 then 0 else M0 235 (26 * n + (g_rc M0 n l k - 1) / 2)) ≤ 52
    by_cases z : g_rc M0 n l k = 0
    · rw [if_pos z]; omega
    · rw [if_neg z]; exact (hS.ck n0 n1 (by omega) (by omega)).2
set_option maxHeartbeats 4000000 in
theorem t_rings (hS : g_S C0 M0) (hv : g_fr g_XJ C0 V) (hg : ax_g V) (n0 : 0 ≤ n) (n1 : n < (M0 222 86)) (hT : ∀ t, (V 601 5) ≤ t ↔ T t) (h : ∀ V', g_J1 V V' (fun t => T t ∨ ∃ l, (0 ≤ l ∧ l < 26) ∧ g_rg M0 n l ∧ M0 234 (26 * n + l) ≤ t) → Ψ V') : ax_N (az_W B (az_EJ B r)) (d + 2) q_Judge_judgeRings [.ref r, ax_i n] V Ψ Θ := by
  have hN := hS.2.1
  have rn : ax_rg n := ⟨by omega, by omega⟩
  have hx : ∀ {V' : ax_V} {T' : Int → Prop}, g_J1 V V' T' → ∀ c, c ∉ g_XJ → V' c = C0 c := fun hJ c z => by rw [hJ.1 c (fun q => z (by simp at q; rw [q]; decide))]; exact hv c z
  refine r_Judge_judgeRings hg rn ?_
  rw [show n * 26 = 26 * n by omega]
  refine ax_for (I := fun s V' => (26 * n ≤ s ∧ s ≤ 26 * n + 26) ∧ g_J1 V V' (fun t => T t ∨ ∃ l, (0 ≤ l ∧ l < s - 26 * n) ∧ g_rg M0 n l ∧ M0 234 (26 * n + l) ≤ t)) (K := fun s V' => ∀ y3 y4, ax_y y3 → ax_y y4 → k_Judge_judgeRings_5 B r (d + 1) n s y3 y4 V' Ψ Θ) (hi := 26 * n + 26) (fun s V1 w hI next y3 y4 hy3 hy4 => ?_) (fun s V1 w hI y3 y4 hy3 hy4 => ?_) (26 * n) V ⟨⟨Int.le_refl _, by omega⟩, g_fr.rf _ _, hg, fun t => by rw [hT t]; exact ⟨fun z => Or.inl z, fun z => by rcases z with z | ⟨x, x0, -⟩; exact z; omega⟩⟩ none none ax_y_n ax_y_n
  · obtain ⟨hs, hJ⟩ := hI
    obtain ⟨l, el⟩ : ∃ l : Int, l = s - 26 * n := ⟨_, rfl⟩
    have es : s = 26 * n + l := by omega
    have l0 : 0 ≤ l := by omega
    have l1 : l < 26 := by omega
    have rb := g_rc_b hS n0 n1 l0 l1
    have f := hS.l n0 n1 l0 l1
    rw [← el] at hJ
    rw [es]
    refine r_Judge_judgeRings_5 hJ.2.1 rn ⟨by omega, by omega⟩ hy3 hy4 ⟨⟨by omega, by omega⟩, fun z => by omega, fun _ => ⟨⟨by omega, by omega⟩, ?_⟩⟩
    rw [hx hJ 536 (by decide), (hS.ck n0 n1 l0 l1).1]
    obtain ⟨T1, eT1⟩ : ∃ X : Int → Prop, X = (fun t => T t ∨ ∃ x, (0 ≤ x ∧ x < l) ∧ g_rg M0 n x ∧ M0 234 (26 * n + x) ≤ t) := ⟨_, rfl⟩
    rw [← eT1] at hJ
    -- out of the inner loop
    have out : ∀ V2 T2, g_J1 V V2 T2 → (∀ t, T2 t ↔ (T1 t ∨ (g_rg M0 n l ∧ M0 234 (26 * n + l) ≤ t))) → ∀ y3 y4, ax_y y3 → ax_y y4 → k_Judge_judgeRings_5 B r (d + 1) n (26 * n + l + 1) y3 y4 V2 Ψ Θ := by
      intro V2 T2 hJ2 hT2 y3 y4 hy3 hy4
      have := next V2 ⟨⟨by omega, by omega⟩, hJ2.of (fun t => ?_)⟩ y3 y4 hy3 hy4
      · rw [es] at this; exact this
      · rw [hT2 t, eT1]
        constructor
        · rintro ((z | ⟨x, x0, x1⟩) | z)
          · exact Or.inl z
          · exact Or.inr ⟨x, ⟨x0.1, by omega⟩, x1⟩
          · exact Or.inr ⟨l, ⟨l0, by omega⟩, z⟩
        · rintro (z | ⟨x, x0, x1⟩)
          · exact Or.inl (Or.inl z)
          · by_cases y : x = l
            · rw [y] at x1; exact Or.inr x1
            · exact Or.inl (Or.inr ⟨x, ⟨x0.1, by omega⟩, x1⟩)
    have lp : ∀ (m k : Nat), k ≤ 26 → 26 - k ≤ m → ∀ V2 T2, g_J1 V V2 T2 → (∀ t, T2 t ↔ (T1 t ∨ ((∃ x : Nat, x < k ∧ ¬ g_rc M0 n l x = 0 ∧ (g_rc M0 n l x - 1) / 2 = l) ∧ M0 234 (26 * n + l) ≤ t))) → k_Judge_judgeRings_28 B r (d + 1) n (26 * n + l) (g_cc n (g_rc M0 n l k)) (k : Int) V2 Ψ Θ := by
      intro m
      induction m with
      | zero =>
        intro k k0 k1 V2 T2 hJ2 hT2
        have ek : k = 26 := by omega
        refine r_Judge_judgeRings_28 hJ2.2.1 rn ⟨by omega, by omega⟩ (g_cc_r ⟨n0, by omega⟩ (by have := rb k; omega)) ⟨by omega, by omega⟩ ⟨fun _ => out V2 T2 hJ2 (fun t => ?_) _ _ (ax_y_i _) (ax_y_i _), fun z => by omega⟩
        rw [hT2 t, ek]
        rfl
      | succ m ih =>
        intro k k0 k1 V2 T2 hJ2 hT2
        by_cases ek : k = 26
        · exact ih k k0 (by omega) V2 T2 hJ2 hT2
        · have rk := rb k
          have rr : ax_rg (g_cc n (g_rc M0 n l k)) := g_cc_r ⟨n0, by omega⟩ (by omega)
          by_cases c0 : g_rc M0 n l k = 0
          · have e1 : g_cc n (g_rc M0 n l k) = -1 := (g_cc_b n0 (by omega)).mpr c0
            rw [e1]
            refine r_Judge_judgeRings_28 hJ2.2.1 rn ⟨by omega, by omega⟩ (by decide) ⟨by omega, by omega⟩ ⟨fun z => by omega, fun _ => ⟨fun _ => out V2 T2 hJ2 (fun t => ?_) _ _ (ax_y_i _) (ax_y_i _), fun z => absurd z (by decide)⟩⟩
            rw [hT2 t]
            constructor
            · rintro (y | ⟨⟨x, x0, x1⟩, y⟩)
              · exact Or.inl y
              · exact Or.inr ⟨⟨x, by omega, x1⟩, y⟩
            · rintro (y | ⟨⟨x, x0, x1⟩, y⟩)
              · exact Or.inl y
              · refine Or.inr ⟨⟨x, ?_, x1⟩, y⟩
                by_cases z : k ≤ x
                · have := g_rc_0 M0 c0 (x - k)
                  rw [show k + (x - k) = x by omega] at this
                  exact absurd this x1.1
                · omega
          · have e1 : g_cc n (g_rc M0 n l k) = 52 * n + g_rc M0 n l k - 1 := if_neg (by omega)
            have es2 : ax_shr (52 * n + g_rc M0 n l k - 1) 1 = 26 * n + (g_rc M0 n l k - 1) / 2 := by rw [b_shr ⟨by omega, by omega⟩]; omega
            have k3 : ¬ M0 232 (26 * n + l) = 0 := by
              intro z
              have c1 := (f.2.1 z).2.1
              have := g_rc_0 M0 (n := n) (l := l) (k := 0) c1 k
              rw [Nat.zero_add] at this
              exact c0 this
            have tl := f.2.2.1 k3
            have tl1 := tl.2.1
            have rt : ax_rg (M0 234 (26 * n + l)) := ⟨by omega, by omega⟩
            have js : g_rc M0 n l (k + 1) = M0 235 (26 * n + (g_rc M0 n l k - 1) / 2) := if_neg c0
            have ckn := (hS.ck n0 n1 (l := (g_rc M0 n l k - 1) / 2) (by omega) (by omega)).1
            rw [← js] at ckn
            have go : ∀ w : Int, (¬ w = 0 ↔ (g_rc M0 n l k - 1) / 2 = l) → k_Judge_judgeRings_28 B r (d + 1) n (26 * n + l) (g_cc n (g_rc M0 n l (k + 1))) ((k : Int) + 1) (j_bl V2 w (M0 234 (26 * n + l))) Ψ Θ := by
              intro w hw
              have := ih (k + 1) (by omega) (by omega) _ _ (hJ2.bl (w := w) rt) (fun t => by
                rw [hT2 t, hw]
                constructor
                · rintro ((y | ⟨⟨x, x0, x1⟩, y⟩) | y)
                  · exact Or.inl y
                  · exact Or.inr ⟨⟨x, by omega, x1⟩, y⟩
                  · exact Or.inr ⟨⟨k, by omega, c0, y.1⟩, y.2⟩
                · rintro (y | ⟨⟨x, x0, x1⟩, y⟩)
                  · exact Or.inl (Or.inl y)
                  · by_cases ex : x = k
                    · rw [ex] at x1; exact Or.inr ⟨x1.2, y⟩
                    · exact Or.inl (Or.inr ⟨⟨x, by omega, x1⟩, y⟩))
              exact this
            rw [e1]
            refine r_Judge_judgeRings_28 hJ2.2.1 rn ⟨by omega, by omega⟩ (by rw [← e1]; exact rr) ⟨by omega, by omega⟩ ⟨fun z => by omega, fun _ => ⟨fun z => by omega, fun _ => ?_⟩⟩
            rw [es2, hx hJ2 533 (by decide), tl.1]
            have w1 : ∀ w : Int, (j_bl V2 w (M0 234 (26 * n + l))) 536 (26 * n + (g_rc M0 n l k - 1) / 2) = g_cc n (g_rc M0 n l (k + 1)) := fun w => by rw [j_bl_ne (by decide), hx hJ2 536 (by decide)]; exact ckn
            refine ⟨fun z => ⟨⟨by omega, by omega⟩, t_blame hJ2.2.1 (by decide) rt ⟨⟨by omega, by omega⟩, ?_⟩⟩, fun z => ⟨⟨by omega, by omega⟩, t_blame hJ2.2.1 (by decide) rt ⟨⟨by omega, by omega⟩, ?_⟩⟩⟩
            · rw [w1]; exact go 1 ⟨fun _ => by omega, fun _ => by decide⟩
            · rw [w1]; exact go 0 ⟨fun y => absurd rfl y, fun y => by omega⟩
    have := lp 26 0 (by omega) (by omega) V1 T1 hJ (fun t => ⟨fun y => Or.inl y, fun y => by rcases y with y | ⟨⟨x, x0, -⟩, -⟩; exact y; omega⟩)
    exact this
  · obtain ⟨hs, hJ⟩ := hI
    have es : s = 26 * n + 26 := by omega
    rw [es] at hJ ⊢
    refine r_Judge_judgeRings_5 hJ.2.1 rn ⟨by omega, by omega⟩ hy3 hy4 ⟨⟨by omega, by omega⟩, fun _ => h V1 (hJ.of (fun t => ?_)), fun z => by omega⟩
    rw [show 26 * n + 26 - 26 * n = 26 by omega]
set_option maxHeartbeats 4000000 in
theorem t_clocks (hS : g_S C0 M0) (hG : g_G M0 G) (h2 : g_fr g_XJ C0 C2) (n0 : 0 ≤ n) (n1 : n < (M0 222 86)) (hJ : g_J4 M0 C2 G C (C0 508 n) T) (h : ∀ C', g_J4 M0 C2 G C' (C0 508 (n + 1)) (fun t => (T t ∨ ∃ q, (0 ≤ q ∧ q < (M0 222 26)) ∧ M0 250 q = n ∧ g_b4 M0 G q t) ∨ ∃ e, (0 ≤ e ∧ e < (M0 222 44)) ∧ M0 258 e = n ∧ g_e4 M0 G e t) → Ψ C') : ax_N (az_W B (az_EJ B r)) (d + 6) q_Judge_judgeClocks [.ref r, ax_i n] C Ψ Θ := by
  have p0 := hS.2.2.1.1
  have hat := hS.2.2.2.2.2.2.2
  have hN := hS.2.1
  have hct := hS.2.2.2.2.1.1
  have hc1 := hct.1
  have hc2 := hct.2.1
  have rn : ax_rg n := ⟨by omega, by omega⟩
  have E0 := hS.eqF n0 (by omega)
  have E1 := hS.eqF (n := n + 1) (by omega) (by omega)
  have E2 := hS.eqS n0 n1
  have fx : ∀ {V : ax_V} {P : Int} {T' : Int → Prop}, g_J4 M0 C2 G V P T' → g_fr g_XJ C0 V := fun hV => h2.tr (hV.1.up (by decide))
  obtain ⟨P0, eP0⟩ : ∃ A : Int, A = C0 508 n := ⟨_, rfl⟩
  obtain ⟨P1, eP1⟩ : ∃ A : Int, A = C0 508 (n + 1) := ⟨_, rfl⟩
  obtain ⟨Q0, eQ0⟩ : ∃ A : Int, A = C0 509 n := ⟨_, rfl⟩
  obtain ⟨Q1, eQ1⟩ : ∃ A : Int, A = C0 509 (n + 1) := ⟨_, rfl⟩
  have pN := fun q (q0 : 0 ≤ q) (q1 : q < (M0 222 26)) => hS.pN q0 q1 n0 n1
  have eN := fun e (a : 0 ≤ e) (b : e < (M0 222 44)) => hS.eqN a b n0 n1
  rw [← eP0, ← eP1] at pN
  rw [← eQ0, ← eQ1] at eN
  rw [← eP0] at hJ
  rw [← eP1] at h
  rw [← eP0, ← eQ0] at E0 E2
  rw [← eP1, ← eQ1] at E1 E2
  refine r_Judge_judgeClocks hJ.2.1 rn ⟨⟨n0, by omega⟩, ?_⟩
  rw [(fx hJ) 508 (by decide), ← eP0]
  refine ax_for (I := fun q V => (P0 ≤ q ∧ q ≤ P1) ∧ g_J4 M0 C2 G V q (fun t => T t ∨ ∃ x, (P0 ≤ x ∧ x < q) ∧ g_b4 M0 G x t)) (K := fun q V => k_Judge_judgeClocks_10 B r (d + 5) n q none none V Ψ Θ) (hi := P1) (fun q V w hI next => ?_) (fun q V w hI => ?_) P0 C ⟨⟨Int.le_refl _, by omega⟩, hJ.of (fun t => ⟨fun z => Or.inl z, fun z => by rcases z with z | ⟨x, x0, -⟩; exact z; omega⟩)⟩
  · obtain ⟨hq, hV⟩ := hI
    have v508 : V 508 = C0 508 := (fx hV) 508 (by decide)
    have q0 : 0 ≤ q := by omega
    have q1 : q < (M0 222 26) := by omega
    have nq := (pN q q0 q1).mp ⟨hq.1, w⟩
    refine r_Judge_judgeClocks_10 hV.2.1 rn ⟨by omega, by omega⟩ ax_y_n ax_y_n ⟨⟨by omega, by omega⟩, fun z => by rw [v508] at z; omega, fun _ => t_clockOf hS (fx hV) hV.2.1 q0 q1 (fun x x0 x1 x2 => by rw [← x2]; exact hV.2.2.1 x x0 x1) (fun x x0 x1 => (hG x x0 (by omega)).2) hV.2.2.2 (fun V1 h1 => ⟨⟨by omega, by omega⟩, fun V2 e2 => ?_⟩)⟩
    have gq := hG q q0 q1
    rw [← gq.1] at e2
    have hV1 := hV.up h1
    have rv : ax_rg (g_cc (M0 250 q) (G q)) := g_cc_r ⟨by omega, by omega⟩ gq.2
    have vq : V2 529 q = g_cc (M0 250 q) (G q) := by rw [e2, ax_u_s]
    have vo : ∀ x, x ≠ q → V2 529 x = V1 529 x := fun x z => by rw [e2, ax_u_k z]
    have v601 : V2 601 = V1 601 := by rw [e2, ax_u_ne (by decide)]
    refine next V2 ⟨⟨by omega, by omega⟩, by rw [e2]; exact hV1.1.u (by decide), by rw [e2]; exact ax_u_g hV1.2.1 rv, fun x x0 x1 => ?_, fun t => ?_⟩
    · show V2 529 x = _
      by_cases z : x = q
      · rw [z]; exact vq
      · rw [vo x z]; exact hV1.2.2.1 x x0 (by omega)
    · rw [v601]
      refine (hV1.2.2.2 t).trans ?_
      constructor
      · rintro ((z | ⟨x, x0, x1⟩) | z)
        · exact Or.inl z
        · exact Or.inr ⟨x, ⟨x0.1, by omega⟩, x1⟩
        · exact Or.inr ⟨q, ⟨hq.1, by omega⟩, z⟩
      · rintro (z | ⟨x, x0, x1⟩)
        · exact Or.inl (Or.inl z)
        · by_cases y : x = q
          · rw [y] at x1; exact Or.inr x1
          · exact Or.inl (Or.inr ⟨x, ⟨x0.1, by omega⟩, x1⟩)
  · obtain ⟨hq, hV⟩ := hI
    have eq : q = P1 := by omega
    rw [eq] at hV ⊢
    have v508 : V 508 = C0 508 := (fx hV) 508 (by decide)
    refine r_Judge_judgeClocks_10 hV.2.1 rn ⟨by omega, by omega⟩ ax_y_n ax_y_n ⟨⟨by omega, by omega⟩, fun _ => ⟨⟨n0, by omega⟩, ?_⟩, fun z => by rw [v508] at z; omega⟩
    rw [(fx hV) 509 (by decide), ← eQ0]
    obtain ⟨T1, eT1⟩ : ∃ X : Int → Prop, X = (fun t => T t ∨ ∃ x, (P0 ≤ x ∧ x < P1) ∧ g_b4 M0 G x t) := ⟨_, rfl⟩
    rw [← eT1] at hV
    refine ax_for (I := fun e V => (Q0 ≤ e ∧ e ≤ Q1) ∧ g_J4 M0 C2 G V P1 (fun t => T1 t ∨ ∃ x, (Q0 ≤ x ∧ x < e) ∧ g_e4 M0 G x t)) (K := fun e V => ∀ y3 y4, ax_y y3 → ax_y y4 → k_Judge_judgeClocks_55 B r (d + 5) n e y3 y4 V Ψ Θ) (hi := Q1) (fun e V w hI next y3 y4 hy3 hy4 => ?_) (fun e V w hI y3 y4 hy3 hy4 => ?_) Q0 V ⟨⟨Int.le_refl _, by omega⟩, hV.of (fun t => ⟨fun z => Or.inl z, fun z => by rcases z with z | ⟨x, x0, -⟩; exact z; omega⟩)⟩ none none ax_y_n ax_y_n
    · obtain ⟨he, hV⟩ := hI
      have e0 : 0 ≤ e := by omega
      have e1 : e < (M0 222 44) := by omega
      have v509 : V 509 = C0 509 := (fx hV) 509 (by decide)
      have v548 : V 548 = C0 548 := (fx hV) 548 (by decide)
      have v554 : V 554 = C0 554 := (fx hV) 554 (by decide)
      have v536 : V 536 = C0 536 := (fx hV) 536 (by decide)
      have fe := hS.2.2.2.2.1.2.1 e e0 e1
      have fe2 := fe.2.1
      have fe3 := fe.2.2.1
      have fxx := fe.2.2.2.2.2.1
      have ex := fe.2.2.2.1.2.1
      have ne := (eN e e0 e1).mp ⟨he.1, w⟩
      have nw := (fxx.2.2 _ fxx.1.2.1 (Int.le_refl _)).1.1
      have wb := fxx.1
      have wP := (pN (M0 262 e) (by omega) wb.2.2).mpr (by rw [nw, ne])
      obtain ⟨c, ec⟩ : ∃ c : Int, c = M0 235 (26 * M0 258 e + M0 265 (M0 259 e)) := ⟨_, rfl⟩
      have hd : ∀ i, M0 259 e ≤ i → i < M0 259 e + M0 260 e → C0 554 i = 26 * n + M0 265 i ∧ (0 ≤ M0 265 i ∧ M0 265 i < 26) ∧ C0 555 i = M0 266 i ∧ e_pl (M0 266 i) ∧ C0 536 (26 * n + M0 265 i) = g_cc n (M0 235 (26 * n + M0 265 i)) ∧ 0 ≤ M0 235 (26 * n + M0 265 i) ∧ M0 235 (26 * n + M0 265 i) ≤ 52 := fun i i0 i1 => by
        have a := fe.2.2.2.2.2.2 i i0 i1
        have b := hS.ck n0 n1 a.2.1.1 a.2.1.2
        exact ⟨by rw [← ne]; exact a.1, a.2.1, a.2.2.1, a.2.2.2, b⟩
      rw [ne] at ec
      have u := hd (M0 259 e) (Int.le_refl _) (by omega)
      have cb : 0 ≤ c ∧ c ≤ 52 := by rw [ec]; exact u.2.2.2.2.2
      refine r_Judge_judgeClocks_55 hV.2.1 rn ⟨by omega, by omega⟩ hy3 hy4 ⟨⟨by omega, by omega⟩, fun z => by rw [v509] at z; omega, fun _ => ⟨⟨e0, by omega⟩, ?_⟩⟩
      rw [v548, v554, v536, fe2.1, u.1, u.2.2.2.2.1, ← ec]
      refine ⟨⟨by omega, by omega⟩, ⟨by omega, by omega⟩, ⟨e0, by omega⟩, ?_⟩
      obtain ⟨T2, eT2⟩ : ∃ X : Int → Prop, X = (fun t => T1 t ∨ ∃ x, (Q0 ≤ x ∧ x < e) ∧ g_e4 M0 G x t) := ⟨_, rfl⟩
      rw [← eT2] at hV
      refine ax_for (I := fun i V => (M0 259 e ≤ i ∧ i ≤ M0 259 e + M0 260 e) ∧ g_J4 M0 C2 G V P1 (fun t => T2 t ∨ ∃ x, (M0 259 e ≤ x ∧ x < i) ∧ ¬ M0 235 (26 * n + M0 265 x) = c ∧ M0 266 x ≤ t)) (K := fun i V => k_Judge_judgeClocks_107 B r (d + 5) n e (g_cc n c) i V Ψ Θ) (hi := M0 259 e + M0 260 e) (fun i V w2 hI next2 => ?_) (fun i V w2 hI => ?_) (M0 259 e) V ⟨⟨Int.le_refl _, by omega⟩, hV.of (fun t => ⟨fun z => Or.inl z, fun z => by rcases z with z | ⟨x, x0, -⟩; exact z; omega⟩)⟩
      · obtain ⟨hi, hV⟩ := hI
        have u := hd i hi.1 w2
        have rp : ax_rg (M0 266 i) := by have := u.2.2.2.1; exact ⟨by omega, by omega⟩
        refine r_Judge_judgeClocks_107 hV.2.1 rn ⟨by omega, by omega⟩ (g_cc_r ⟨n0, by omega⟩ (by omega)) ⟨by omega, by omega⟩ ⟨⟨by omega, by omega⟩, ?_⟩
        rw [(fx hV) 548 (by decide), (fx hV) 554 (by decide), (fx hV) 555 (by decide), (fx hV) 536 (by decide), fe2.2, u.1, u.2.2.1, u.2.2.2.2.1, g_cc_eq n0 (by omega) (by omega)]
        have all : ∀ w : Int, (¬ w = 0 ↔ ¬ M0 235 (26 * n + M0 265 i) = c) → ∀ t, (((T2 t ∨ ∃ x, (M0 259 e ≤ x ∧ x < i) ∧ ¬ M0 235 (26 * n + M0 265 x) = c ∧ M0 266 x ≤ t) ∨ (¬ w = 0 ∧ M0 266 i ≤ t)) ↔ (T2 t ∨ ∃ x, (M0 259 e ≤ x ∧ x < i + 1) ∧ ¬ M0 235 (26 * n + M0 265 x) = c ∧ M0 266 x ≤ t)) := fun w hw t => by
          rw [hw]
          constructor
          · rintro ((y | ⟨x, x0, x1⟩) | y)
            · exact Or.inl y
            · exact Or.inr ⟨x, ⟨x0.1, by omega⟩, x1⟩
            · exact Or.inr ⟨i, ⟨hi.1, by omega⟩, y⟩
          · rintro (y | ⟨x, x0, x1⟩)
            · exact Or.inl (Or.inl y)
            · by_cases z : x = i
              · rw [z] at x1; exact Or.inr x1
              · exact Or.inl (Or.inr ⟨x, ⟨x0.1, by omega⟩, x1⟩)
        exact ⟨fun z => absurd w2 (by omega), fun _ => ⟨⟨by omega, by omega⟩, ⟨by omega, by omega⟩, fun z => ⟨⟨by omega, by omega⟩, t_blame hV.2.1 (by decide) rp (next2 _ ⟨⟨by omega, by omega⟩, (hV.up (hV.j.bl rp)).of (all 0 ⟨fun y => absurd rfl y, fun y => absurd z y⟩)⟩)⟩, fun z => ⟨⟨by omega, by omega⟩, t_blame hV.2.1 (by decide) rp (next2 _ ⟨⟨by omega, by omega⟩, (hV.up (hV.j.bl rp)).of (all 1 ⟨fun _ => z, fun _ => by decide⟩)⟩)⟩⟩⟩
      · obtain ⟨hi, hV⟩ := hI
        have ei : i = M0 259 e + M0 260 e := by omega
        rw [ei] at hV ⊢
        have ow := hV.2.2.1 (M0 262 e) (by omega) wP.2
        rw [nw, ne] at ow
        refine r_Judge_judgeClocks_107 hV.2.1 rn ⟨by omega, by omega⟩ (g_cc_r ⟨n0, by omega⟩ (by omega)) ⟨by omega, by omega⟩ ⟨⟨by omega, by omega⟩, ?_⟩
        rw [(fx hV) 548 (by decide), (fx hV) 550 (by decide), fe2.2, ex]
        refine ⟨fun _ => ⟨⟨e0, by omega⟩, t_on hS (fx hV) hV.j (by omega) wb.2.2 ⟨n0, by omega⟩ ow (hG _ (by omega) wb.2.2).2.1 (by omega) (fun V' hV' => next V' ⟨⟨by omega, by omega⟩, (hV.up hV').of (fun t => ?_)⟩ _ _ (ax_y_i _) (ax_y_i _))⟩, fun z => by omega⟩
        rw [eT2]
        have ge : g_e4 M0 G e t ↔ ((∃ x, (M0 259 e ≤ x ∧ x < M0 259 e + M0 260 e) ∧ ¬ M0 235 (26 * n + M0 265 x) = c ∧ M0 266 x ≤ t) ∨ g_bd M0 G (M0 262 e) c t) := by
          unfold g_e4
          rw [ne, ← ec]
          constructor
          · rintro (⟨x, x0, x1⟩ | y)
            · exact Or.inl ⟨x, x0.2, x1⟩
            · exact Or.inr y
          · rintro (⟨x, x0, x1⟩ | y)
            · exact Or.inl ⟨x, ⟨⟨e0, e1⟩, x0⟩, x1⟩
            · exact Or.inr y
        constructor
        · rintro (((y | ⟨x, x0, x1⟩) | y) | y)
          · exact Or.inl y
          · exact Or.inr ⟨x, ⟨x0.1, by omega⟩, x1⟩
          · exact Or.inr ⟨e, ⟨he.1, by omega⟩, ge.mpr (Or.inl y)⟩
          · exact Or.inr ⟨e, ⟨he.1, by omega⟩, ge.mpr (Or.inr y)⟩
        · rintro (y | ⟨x, x0, x1⟩)
          · exact Or.inl (Or.inl (Or.inl y))
          · by_cases z : x = e
            · rw [z] at x1
              rcases ge.mp x1 with y | y
              · exact Or.inl (Or.inr y)
              · exact Or.inr y
            · exact Or.inl (Or.inl (Or.inr ⟨x, ⟨x0.1, by omega⟩, x1⟩))
    · obtain ⟨he, hV⟩ := hI
      have ee : e = Q1 := by omega
      rw [ee] at hV ⊢
      have v509 : V 509 = C0 509 := (fx hV) 509 (by decide)
      refine r_Judge_judgeClocks_55 hV.2.1 rn ⟨by omega, by omega⟩ hy3 hy4 ⟨⟨by omega, by omega⟩, fun _ => h V (hV.of (fun t => ?_)), fun z => by rw [v509] at z; omega⟩
      rw [eT1]
      constructor
      · rintro ((z | ⟨x, x0, x1⟩) | ⟨x, x0, x1⟩)
        · exact Or.inl (Or.inl z)
        · exact Or.inl (Or.inr ⟨x, ⟨by omega, by omega⟩, (pN x (by omega) (by omega)).mp x0, x1⟩)
        · exact Or.inr ⟨x, ⟨by omega, by omega⟩, (eN x (by omega) (by omega)).mp x0, x1⟩
      · rintro ((z | ⟨x, x0, x1, x2⟩) | ⟨x, x0, x1, x2⟩)
        · exact Or.inl (Or.inl z)
        · exact Or.inl (Or.inr ⟨x, (pN x x0.1 x0.2).mpr x1, x2⟩)
        · exact Or.inr ⟨x, (eN x x0.1 x0.2).mpr x1, x2⟩
end Kind4D
