/-! FAULTS 4: the whole of it in the model; both blame the same -/
def g_v4 (M : ax_V) (G : Int → Int) (t : Int) : Prop := (∃ q, (0 ≤ q ∧ q < (M 222 26)) ∧ g_b4 M G q t) ∨ (∃ e, (0 ≤ e ∧ e < (M 222 44)) ∧ (g_f4 M G e t ∨ (¬ M 263 e = -1 ∧ g_x4 M (M 261 e) (M 262 e) t))) ∨ (∃ m, (0 ≤ m ∧ m < (M 222 60)) ∧ g_x4 M (M 276 m) (M 277 m) t) ∨ ∃ n, (0 ≤ n ∧ n < (M 222 86)) ∧ ∃ l, (0 ≤ l ∧ l < 26) ∧ (¬ M 232 (26 * n + l) = 0 ∧ g_rm M n l) ∧ M 234 (26 * n + l) ≤ t
section Kind4S
variable {d : Nat} {C0 M0 M V : ax_V} {G : Int → Int} {q n : Int} {T : Int → Prop} {Φ : Int → ax_V → Prop} {Ψ Θ : ax_V → Prop}
theorem g_S.ea (hS : g_S C0 M0) {e : Int} (e0 : 0 ≤ e) (e1 : e < (M0 222 44)) : C0 551 e = -1 ↔ M0 263 e = -1 := by
  rcases hS.st e0 e1 with z | z
  · exact ⟨fun _ => z.2.1, fun _ => z.1⟩
  · have a := z.1
    have b := z.2.1
    exact ⟨fun y => by omega, fun y => by omega⟩
theorem g_S.tr (hS : g_S C0 M0) {m : Int} (m0 : 0 ≤ m) (m1 : m < (M0 222 60)) : (0 ≤ M0 271 m ∧ M0 271 m < (M0 222 55)) ∧ 0 ≤ C0 567 m := by
  have hc3 := hS.2.2.2.2.1.1.2.2.1
  have ft := (hS.2.2.2.2.1.2.2.2.2.1 m m0 m1).1
  have ft1 := ft.1
  rcases ft.2 with y | y
  · have := y.2.1; omega
  · have a := y.2.1
    have b := y.2.2.1
    have c := y.2.2.2.1
    have e := y.2.2.2.2.2.1
    exact ⟨⟨ft1, by omega⟩, by omega⟩
theorem g_S.same4 (hS : g_S C0 M0) (t : Int) : g_v4 M0 G t ↔ ∃ n, (0 ≤ n ∧ n < (M0 222 86)) ∧ g_w4 C0 M0 G n t := by
  have hB := hS.2.2.2.2.1
  have lo := hB.2.2.2.2.2.1.2.2.2
  constructor
  · rintro (⟨q, q0, z⟩ | ⟨e, e0, z⟩ | ⟨m, m0, z⟩ | ⟨n, n0, l, l0, l1, l2⟩)
    · exact ⟨_, (hS.pnode q0.1 q0.2).1, Or.inr (Or.inl ⟨q, q0, rfl, Or.inl z⟩)⟩
    · have nd := hS.node e0.1 e0.2
      have fe := hB.2.1 e e0.1 e0.2
      have fe3 := fe.2.2.1
      have fx := fe.2.2.2.2.2.1
      have fx1 := fx.1
      rcases z with z | ⟨z1, q, q0, q1, q2, q3⟩
      · refine ⟨_, ⟨nd.1, nd.2.1⟩, Or.inr (Or.inr ⟨e, e0, rfl, ?_⟩)⟩
        by_cases a : M0 263 e = -1
        · have ec : g_ec M0 e = M0 235 (26 * M0 258 e + M0 265 (M0 259 e)) := if_pos a
          unfold g_f4 at z
          rw [ec] at z
          exact Or.inl z
        · have ec : g_ec M0 e = 0 := if_neg a
          unfold g_f4 at z
          rw [ec] at z
          have st : ¬ C0 551 e = -1 := fun y => a ((hS.ea e0.1 e0.2).mp y)
          rcases z with z | z
          · exact Or.inr ⟨st, z⟩
          · by_cases c : M0 235 (26 * M0 258 e + M0 265 (M0 259 e)) = 0
            · refine Or.inl (Or.inr ?_)
              rw [c]; exact z
            · have b := lo.2.2.1 e (M0 262 e) e0.1 e0.2 (by omega) (Int.le_refl _)
              have z3 := z.2.2
              exact Or.inr ⟨st, M0 259 e, ⟨e0, by omega, by omega⟩, c, by omega⟩
      · have st : ¬ C0 551 e = -1 := fun y => z1 ((hS.ea e0.1 e0.2).mp y)
        have qq := fx.2.2 q q0.1 q0.2
        have qa : 0 ≤ q := by omega
        have qb : q < (M0 222 26) := by omega
        have ps : ¬ C0 525 q = -1 := by rw [qq.1.2.1]; exact st
        refine ⟨_, (hS.pnode qa qb).1, Or.inr (Or.inl ⟨q, ⟨qa, qb⟩, rfl, Or.inr ⟨ps, ?_, q2, q3⟩⟩)⟩
        have o := qq.2.1 st
        rcases hS.let qa qb with l | ⟨l, -⟩
        · exact absurd l q1
        · rcases l with l | l | l | l | l
          · exact Or.inl l
          · exact Or.inr (Or.inl l)
          · exact absurd l o.1
          · exact absurd l o.2
          · exact Or.inr (Or.inr ⟨l, q1⟩)
    · obtain ⟨q, q0, q1, q2, q3⟩ := z
      have ft := hB.2.2.2.2.1 m m0.1 m0.2
      have fx := ft.2.2.2.2.2.2.2
      have fx1 := fx.1
      have st : ¬ C0 567 m = -1 := by have := (hS.tr m0.1 m0.2).2; omega
      have qq := fx.2.2 q q0.1 q0.2
      have qa : 0 ≤ q := by omega
      have qb : q < (M0 222 26) := by omega
      have ps : ¬ C0 525 q = -1 := by rw [qq.1.2.1]; exact st
      refine ⟨_, (hS.pnode qa qb).1, Or.inr (Or.inl ⟨q, ⟨qa, qb⟩, rfl, Or.inr ⟨ps, ?_, q2, q3⟩⟩)⟩
      have o := qq.2.1 st
      rcases hS.let qa qb with l | ⟨l, -⟩
      · exact absurd l q1
      · rcases l with l | l | l | l | l
        · exact Or.inl l
        · exact Or.inr (Or.inl l)
        · exact absurd l o.1
        · exact absurd l o.2
        · exact Or.inr (Or.inr ⟨l, q1⟩)
    · exact ⟨n, n0, Or.inl ⟨l, l0, hS.ring n0.1 n0.2 l0.1 l0.2 l1.2, l2⟩⟩
  · rintro ⟨n, n0, ⟨l, l0, ⟨k, k0, k1, k2⟩, l2⟩ | ⟨q, q0, q1, z⟩ | ⟨e, e0, e1, z⟩⟩
    · refine Or.inr (Or.inr (Or.inr ⟨n, n0, l, l0, ⟨fun z => ?_, k, by omega, k1, k2⟩, l2⟩))
      have c1 := ((hS.l n0.1 n0.2 l0.1 l0.2).2.1 z).2.1
      have := g_rc_0 M0 (n := n) (l := l) (k := 0) c1 k
      rw [Nat.zero_add] at this
      exact k1 this
    · rcases z with z | ⟨p1, p2, p3, p4⟩
      · exact Or.inl ⟨q, q0, z⟩
      · have lt : ¬ M0 248 q = -1 := fun y => by
          have := hS.pl q0.1 q0.2 (by omega)
          omega
        rcases hB.2.2.2.2.2.1.1 q q0.1 q0.2 with ⟨e, e0, e1, e2, e3⟩ | ⟨m, e0, e1, e2, e3⟩
        · have fx := (hB.2.1 e e0 e1).2.2.2.2.2.1
          have qq := fx.2.2 q e2 e3
          refine Or.inr (Or.inl ⟨e, ⟨e0, e1⟩, Or.inr ⟨fun y => p1 ?_, q, ⟨e2, e3⟩, lt, p3, p4⟩⟩)
          rw [qq.1.2.1]; exact (hS.ea e0 e1).mpr y
        · exact Or.inr (Or.inr (Or.inl ⟨m, ⟨e0, e1⟩, q, ⟨e2, e3⟩, lt, p3, p4⟩))
    · have fe := hB.2.1 e e0.1 e0.2
      have fe3 := fe.2.2.1
      have fx1 := fe.2.2.2.2.2.1.1
      refine Or.inr (Or.inl ⟨e, e0, Or.inl ?_⟩)
      unfold g_f4
      by_cases a : M0 263 e = -1
      · rw [show g_ec M0 e = M0 235 (26 * M0 258 e + M0 265 (M0 259 e)) from if_pos a]
        rcases z with z | z
        · exact z
        · exact absurd ((hS.ea e0.1 e0.2).mpr a) z.1
      · rw [show g_ec M0 e = 0 from if_neg a]
        rcases z with (⟨h, h0, h1, h2⟩ | z) | z
        · by_cases c : M0 235 (26 * M0 258 e + M0 265 (M0 259 e)) = 0
          · rw [c] at h1
            exact Or.inl ⟨h, h0, h1, h2⟩
          · refine Or.inl ⟨M0 259 e, ⟨e0, by omega, by omega⟩, c, ?_⟩
            by_cases y : h = M0 259 e
            · rw [← y]; exact h2
            · have := lo.1 (M0 259 e) h fe3.1 (by have := h0.2.1; omega) (by have := h0.2.2; omega)
              omega
        · by_cases c : M0 235 (26 * M0 258 e + M0 265 (M0 259 e)) = 0
          · rw [c] at z; exact Or.inr z
          · have b := lo.2.2.1 e (M0 262 e) e0.1 e0.2 (by omega) (Int.le_refl _)
            have z3 := z.2.2
            exact Or.inl ⟨M0 259 e, ⟨e0, by omega, by omega⟩, c, by omega⟩
        · exact Or.inl z.2
def g_H4 (M0 M2 : ax_V) (G : Int → Int) (M : ax_V) (T : Int → Prop) : Prop := (g_fr [222, 254] M2 M ∧ g_sc [73] M2 M ∧ ax_g M) ∧ (∀ q, 0 ≤ q → q < (M0 222 26) → M 254 q = G q) ∧ ∀ t, t < 701 → (m_nb M ≤ t ↔ T t)
set_option maxHeartbeats 4000000 in
/-- the model's faults 4 -/
theorem s_kind4 (hS : g_S C0 M0) (hG : g_G M0 G) (hb : g_MB C0 M0 M) (hT : ∀ t, t < 701 → (m_nb M ≤ t ↔ T t)) (h : ∀ V', g_H4 M0 M G V' (fun t => T t ∨ ∃ n, (0 ≤ n ∧ n < (M0 222 86)) ∧ g_w4 C0 M0 G n t) → Ψ V') : ax_N ay_lay (d + 5) q_Model_checkKind [.ref 222, ax_i 4] M Ψ Θ := by
  have p0 := hS.2.2.1.1
  have hat := hS.2.2.2.2.2.2.2
  have hN := hS.2.1
  have hct := hS.2.2.2.2.1.1
  have hc1 := hct.1
  have hc5 := hct.2.2.2.2.1
  have yk : ax_y (some (ax_i 4)) := ax_y_i _
  refine r_Model_checkKind hb.2.2.1 (by decide) ⟨fun q => absurd q (by decide), fun q => absurd q (by decide), fun _ => ?_, fun q => absurd q (by decide), fun _ _ q => absurd rfl q⟩
  have mb : ∀ {V : ax_V}, g_fr [254] M V → ax_g V → g_MB C0 M0 V := fun f1 g1 => ⟨hb.1.tr (f1.up (by decide)), fun j z => by rw [f1 222 (by decide)]; exact hb.2.1 j z, g1, fun q a b o => by rw [f1 251 (by decide)]; exact hb.2.2.2 q a b o⟩
  refine ax_for (I := fun q V => (0 ≤ q ∧ q ≤ (M0 222 26)) ∧ g_fr [254] M V ∧ ax_g V ∧ ∀ x, 0 ≤ x → x < q → V 254 x = G x) (K := fun q V => k_Model_checkKind_142 (d + 4) (some (ax_i 4)) q V Ψ Θ) (hi := (M0 222 26)) (fun q V w hI next => ?_) (fun q V w hI => ?_) 0 M ⟨⟨by decide, p0.2.1⟩, g_fr.rf _ _, hb.2.2.1, fun x a b => by omega⟩
  · obtain ⟨hq, f1, g1, hx⟩ := hI
    have b := mb f1 g1
    have gq := hG q hq.1 w
    refine r_Model_checkKind_142 g1 yk ⟨by omega, by omega⟩ ?_
    rw [b.2.1 26 (by decide)]
    refine ⟨fun z => by omega, fun _ => s_findClock hS b hq.1 w hx (fun x x0 x1 => (hG x x0 (by omega)).2) (next _ ⟨⟨by omega, by omega⟩, f1.u (by decide), ax_u_g g1 ?_, fun x x0 x1 => ?_⟩)⟩
    · rw [← gq.1]; exact ⟨by omega, by omega⟩
    · by_cases z : x = q
      · rw [z, ax_u_s, ← gq.1]
      · rw [ax_u_k z]; exact hx x x0 (by omega)
  · obtain ⟨hq, f1, g1, hx⟩ := hI
    have eq : q = (M0 222 26) := by omega
    have bN := mb f1 g1
    rw [eq] at hx
    have hTN : ∀ t, t < 701 → (m_nb V ≤ t ↔ T t) := fun t w => by
      have e : m_nb V = m_nb M := by unfold m_nb; rw [f1 222 (by decide)]
      rw [e]; exact hT t w
    obtain ⟨N, eN⟩ : ∃ N : ax_V, N = V := ⟨_, rfl⟩
    rw [← eN] at f1 g1 hx bN hTN ⊢
    have hfV : ∀ {V : ax_V} {T' : Int → Prop}, g_H1 N V T' → ∀ x, 0 ≤ x → x < (M0 222 26) → V 254 x = G x := fun hV x a b => by rw [hV.1 254 (by decide)]; exact hx x a b
    have tr : ∀ {V V' : ax_V} {T1 T2 : Int → Prop}, g_H1 N V T1 → g_H1 V V' T2 → g_H1 N V' T2 := fun a b => ⟨a.1.tr b.1, fun j z => (b.2.1 j z).trans (a.2.1 j z), b.2.2.1, b.2.2.2⟩
    refine r_Model_checkKind_142 g1 yk ⟨by omega, by omega⟩ ?_
    rw [bN.2.1 26 (by decide)]
    refine ⟨fun _ => ?_, fun z => by omega⟩
    refine ax_for (I := fun q V => (0 ≤ q ∧ q ≤ (M0 222 26)) ∧ g_H1 N V (fun t => T t ∨ ∃ x, (0 ≤ x ∧ x < q) ∧ g_b4 M0 G x t)) (K := fun q V => k_Model_checkKind_163 (d + 4) (some (ax_i 4)) q V Ψ Θ) (hi := (M0 222 26)) (fun q V w hI next => ?_) (fun q V w hI => ?_) 0 N ⟨⟨by decide, p0.2.1⟩, (g_H1.rf g1 hTN).of (fun t _ => ⟨fun z => Or.inl z, fun z => by rcases z with z | ⟨x, x0, -⟩; exact z; omega⟩)⟩
    · obtain ⟨hq, hV⟩ := hI
      have b := hV.b bN
      refine r_Model_checkKind_163 b.2.2.1 yk ⟨by omega, by omega⟩ ?_
      rw [b.2.1 26 (by decide)]
      refine ⟨fun z => by omega, fun _ => s_checkClocks hS hG b (hfV hV) hq.1 w hV.2.2.2 (fun V' hV' => next V' ⟨⟨by omega, by omega⟩, (tr hV hV').of (fun t _ => ?_)⟩)⟩
      constructor
      · rintro ((z | ⟨x, x0, x1⟩) | z)
        · exact Or.inl z
        · exact Or.inr ⟨x, ⟨x0.1, by omega⟩, x1⟩
        · exact Or.inr ⟨q, ⟨hq.1, by omega⟩, z⟩
      · rintro (z | ⟨x, x0, x1⟩)
        · exact Or.inl (Or.inl z)
        · by_cases y : x = q
          · rw [y] at x1; exact Or.inr x1
          · exact Or.inl (Or.inr ⟨x, ⟨x0.1, by omega⟩, x1⟩)
    · obtain ⟨hq, hV⟩ := hI
      have eq : q = (M0 222 26) := by omega
      rw [eq] at hV
      have b := hV.b bN
      refine r_Model_checkKind_163 b.2.2.1 yk ⟨by omega, by omega⟩ ?_
      rw [b.2.1 26 (by decide)]
      refine ⟨fun _ => ?_, fun z => by omega⟩
      obtain ⟨T1, eT1⟩ : ∃ X : Int → Prop, X = (fun t => T t ∨ ∃ x, (0 ≤ x ∧ x < (M0 222 26)) ∧ g_b4 M0 G x t) := ⟨_, rfl⟩
      rw [← eT1] at hV
      refine ax_for (I := fun e V => (0 ≤ e ∧ e ≤ (M0 222 44)) ∧ g_H1 N V (fun t => T1 t ∨ ∃ x, (0 ≤ x ∧ x < e) ∧ (g_f4 M0 G x t ∨ (¬ M0 263 x = -1 ∧ g_x4 M0 (M0 261 x) (M0 262 x) t)))) (K := fun e V => k_Model_checkKind_184 (d + 4) (some (ax_i 4)) e V Ψ Θ) (hi := (M0 222 44)) (fun e V w hI next => ?_) (fun e V w hI => ?_) 0 V ⟨⟨by decide, by omega⟩, hV.of (fun t _ => ⟨fun z => Or.inl z, fun z => by rcases z with z | ⟨x, x0, -⟩; exact z; omega⟩)⟩
      · obtain ⟨he, hV⟩ := hI
        have b := hV.b bN
        have fx1 := (hS.2.2.2.2.1.2.1 e he.1 w).2.2.2.2.2.1.1
        have be : 0 ≤ e ∧ e < 351 := ⟨he.1, by omega⟩
        refine r_Model_checkKind_184 b.2.2.1 yk ⟨by omega, by omega⟩ ?_
        rw [b.2.1 44 (by decide)]
        refine ⟨fun z => by omega, fun _ => s_checkEquationClock hS b (hfV hV) he.1 w hV.2.2.2 (fun V1 h1 => ⟨be, ?_⟩)⟩
        have b1 := h1.b b
        rw [b1.1 263 (by decide), b1.1 261 (by decide), b1.1 262 (by decide)]
        refine ⟨fun a => next V1 ⟨⟨by omega, by omega⟩, (tr hV h1).of (fun t _ => ?_)⟩, fun a => ⟨be, be, s_checkInAutomaton hS b1 fx1.1 fx1.2.1 fx1.2.2 h1.2.2.2 (fun V2 h2 => next V2 ⟨⟨by omega, by omega⟩, (tr (tr hV h1) h2).of (fun t _ => ?_)⟩)⟩⟩
        · constructor
          · rintro ((z | ⟨x, x0, x1⟩) | z)
            · exact Or.inl z
            · exact Or.inr ⟨x, ⟨x0.1, by omega⟩, x1⟩
            · exact Or.inr ⟨e, ⟨he.1, by omega⟩, Or.inl z⟩
          · rintro (z | ⟨x, x0, x1⟩)
            · exact Or.inl (Or.inl z)
            · by_cases y : x = e
              · rw [y] at x1
                rcases x1 with x1 | x1
                · exact Or.inr x1
                · exact absurd a x1.1
              · exact Or.inl (Or.inr ⟨x, ⟨x0.1, by omega⟩, x1⟩)
        · constructor
          · rintro (((z | ⟨x, x0, x1⟩) | z) | z)
            · exact Or.inl z
            · exact Or.inr ⟨x, ⟨x0.1, by omega⟩, x1⟩
            · exact Or.inr ⟨e, ⟨he.1, by omega⟩, Or.inl z⟩
            · exact Or.inr ⟨e, ⟨he.1, by omega⟩, Or.inr ⟨a, z⟩⟩
          · rintro (z | ⟨x, x0, x1⟩)
            · exact Or.inl (Or.inl (Or.inl z))
            · by_cases y : x = e
              · rw [y] at x1
                rcases x1 with x1 | x1
                · exact Or.inl (Or.inr x1)
                · exact Or.inr x1.2
              · exact Or.inl (Or.inl (Or.inr ⟨x, ⟨x0.1, by omega⟩, x1⟩))
      · obtain ⟨he, hV⟩ := hI
        have ee : e = (M0 222 44) := by omega
        rw [ee] at hV
        have b := hV.b bN
        refine r_Model_checkKind_184 b.2.2.1 yk ⟨by omega, by omega⟩ ?_
        rw [b.2.1 44 (by decide)]
        refine ⟨fun _ => ?_, fun z => by omega⟩
        obtain ⟨T2, eT2⟩ : ∃ X : Int → Prop, X = (fun t => T1 t ∨ ∃ x, (0 ≤ x ∧ x < (M0 222 44)) ∧ (g_f4 M0 G x t ∨ (¬ M0 263 x = -1 ∧ g_x4 M0 (M0 261 x) (M0 262 x) t))) := ⟨_, rfl⟩
        rw [← eT2] at hV
        refine ax_for (I := fun m V => (0 ≤ m ∧ m ≤ (M0 222 60)) ∧ g_H1 N V (fun t => T2 t ∨ ∃ x, (0 ≤ x ∧ x < m) ∧ g_x4 M0 (M0 276 x) (M0 277 x) t)) (K := fun m V => k_Model_checkKind_231 (d + 4) (some (ax_i 4)) m V Ψ Θ) (hi := (M0 222 60)) (fun m V w hI next => ?_) (fun m V w hI => ?_) 0 V ⟨⟨by decide, by omega⟩, hV.of (fun t _ => ⟨fun z => Or.inl z, fun z => by rcases z with z | ⟨x, x0, -⟩; exact z; omega⟩)⟩
        · obtain ⟨hm, hV⟩ := hI
          have b := hV.b bN
          have fw1 := (hS.2.2.2.2.1.2.2.2.2.1 m hm.1 w).2.2.2.2.2.2.2.1
          have be : 0 ≤ m ∧ m < 351 := ⟨hm.1, by omega⟩
          refine r_Model_checkKind_231 b.2.2.1 yk ⟨by omega, by omega⟩ ?_
          rw [b.2.1 60 (by decide), b.1 276 (by decide), b.1 277 (by decide)]
          refine ⟨fun z => by omega, fun _ => ⟨be, be, s_checkInAutomaton hS b fw1.1 fw1.2.1 fw1.2.2 hV.2.2.2 (fun V2 h2 => next V2 ⟨⟨by omega, by omega⟩, (tr hV h2).of (fun t _ => ?_)⟩)⟩⟩
          constructor
          · rintro ((z | ⟨x, x0, x1⟩) | z)
            · exact Or.inl z
            · exact Or.inr ⟨x, ⟨x0.1, by omega⟩, x1⟩
            · exact Or.inr ⟨m, ⟨hm.1, by omega⟩, z⟩
          · rintro (z | ⟨x, x0, x1⟩)
            · exact Or.inl (Or.inl z)
            · by_cases y : x = m
              · rw [y] at x1; exact Or.inr x1
              · exact Or.inl (Or.inr ⟨x, ⟨x0.1, by omega⟩, x1⟩)
        · obtain ⟨hm, hV⟩ := hI
          have em : m = (M0 222 60) := by omega
          rw [em] at hV
          have b := hV.b bN
          refine r_Model_checkKind_231 b.2.2.1 yk ⟨by omega, by omega⟩ ?_
          rw [b.2.1 60 (by decide)]
          refine ⟨fun _ => ?_, fun z => by omega⟩
          obtain ⟨T3, eT3⟩ : ∃ X : Int → Prop, X = (fun t => T2 t ∨ ∃ x, (0 ≤ x ∧ x < (M0 222 60)) ∧ g_x4 M0 (M0 276 x) (M0 277 x) t) := ⟨_, rfl⟩
          rw [← eT3] at hV
          refine ax_for (I := fun n V => (0 ≤ n ∧ n ≤ (M0 222 86)) ∧ g_H1 N V (fun t => T3 t ∨ ∃ x, (0 ≤ x ∧ x < n) ∧ ∃ l, (0 ≤ l ∧ l < 26) ∧ (¬ M0 232 (26 * x + l) = 0 ∧ g_rm M0 x l) ∧ M0 234 (26 * x + l) ≤ t)) (K := fun n V => k_Model_checkKind_263 (d + 4) (some (ax_i 4)) n V Ψ Θ) (hi := (M0 222 86)) (fun n V w hI next => ?_) (fun n V w hI => ?_) 0 V ⟨⟨by decide, by omega⟩, hV.of (fun t _ => ⟨fun z => Or.inl z, fun z => by rcases z with z | ⟨x, x0, -⟩; exact z; omega⟩)⟩
          · obtain ⟨hn, hV⟩ := hI
            have b := hV.b bN
            refine r_Model_checkKind_263 b.2.2.1 yk ⟨by omega, by omega⟩ ?_
            rw [b.2.1 86 (by decide)]
            refine ⟨fun z => by omega, fun _ => s_checkRings hS b hn.1 w hV.2.2.2 (fun V2 h2 => next V2 ⟨⟨by omega, by omega⟩, (tr hV h2).of (fun t _ => ?_)⟩)⟩
            constructor
            · rintro ((z | ⟨x, x0, x1⟩) | z)
              · exact Or.inl z
              · exact Or.inr ⟨x, ⟨x0.1, by omega⟩, x1⟩
              · exact Or.inr ⟨n, ⟨hn.1, by omega⟩, z⟩
            · rintro (z | ⟨x, x0, x1⟩)
              · exact Or.inl (Or.inl z)
              · by_cases y : x = n
                · rw [y] at x1; exact Or.inr x1
                · exact Or.inl (Or.inr ⟨x, ⟨x0.1, by omega⟩, x1⟩)
          · obtain ⟨hn, hV⟩ := hI
            have en : n = (M0 222 86) := by omega
            rw [en] at hV
            have b := hV.b bN
            refine r_Model_checkKind_263 b.2.2.1 yk ⟨by omega, by omega⟩ ?_
            rw [b.2.1 86 (by decide)]
            refine ⟨fun _ => h V ⟨⟨(f1.up (by decide)).tr (hV.1.up (by decide)), fun j z => by rw [hV.2.1 j z, f1 222 (by decide)], hV.2.2.1⟩, fun x x0 x1 => hfV hV x x0 x1, fun t w => (hV.2.2.2 t w).trans ?_⟩, fun z => by omega⟩
            have sm := hS.same4 (G := G) t
            show (T3 t ∨ _) ↔ (T t ∨ ∃ n, (0 ≤ n ∧ n < (M0 222 86)) ∧ g_w4 C0 M0 G n t)
            rw [← sm, eT3, eT2, eT1]
            unfold g_v4
            constructor
            · rintro ((((z | z) | z) | z) | z)
              · exact Or.inl z
              · exact Or.inr (Or.inl z)
              · exact Or.inr (Or.inr (Or.inl z))
              · exact Or.inr (Or.inr (Or.inr (Or.inl z)))
              · exact Or.inr (Or.inr (Or.inr (Or.inr z)))
            · rintro (z | z | z | z | z)
              · exact Or.inl (Or.inl (Or.inl (Or.inl z)))
              · exact Or.inl (Or.inl (Or.inl (Or.inr z)))
              · exact Or.inl (Or.inl (Or.inr z))
              · exact Or.inl (Or.inr z)
              · exact Or.inr z
end Kind4S
