/-! FAULTS 3, the model -/
abbrev g_YM : List Nat := [222, 238, 239, 251, 253, 254, 255, 256, 282, 283, 284, 285, 286]
abbrev g_KM : List Int := [10, 73, 88, 89]
/-- the model after faults 2 -/
def g_MB (C0 M0 M : ax_V) : Prop := g_fr g_YM M0 M ∧ g_sc g_KM M0 M ∧ ax_g M ∧ ∀ q, 0 ≤ q → q < (M0 222 26) → M0 241 q = 22 → M 251 q = C0 520 q
/-- it only notes -/
def g_H1 (M M' : ax_V) (T : Int → Prop) : Prop := g_fr [222] M M' ∧ g_sc [73] M M' ∧ ax_g M' ∧ ∀ t, t < 701 → (m_nb M' ≤ t ↔ T t)
section Kind3M
variable {d : Nat} {C0 M0 M V : ax_V} {F : Int → Int} {q : Int} {T : Int → Prop} {Φ : Int → ax_V → Prop} {Ψ Θ : ax_V → Prop}
theorem g_H1.of {T' : Int → Prop} (h : g_H1 M V T) (k : ∀ t, t < 701 → (T t ↔ T' t)) : g_H1 M V T' := ⟨h.1, h.2.1, h.2.2.1, fun t w => (h.2.2.2 t w).trans (k t w)⟩
theorem g_H1.nt {p : Int} (h : g_H1 M V T) (hp : e_pl p) : g_H1 M (m_nt V p) (fun t => T t ∨ p ≤ t) := ⟨h.1.nt (by decide), h.2.1.nt (by decide), m_nt_g h.2.2.1 ⟨by omega, by omega⟩, fun t w => by rw [m_nt_le hp w, h.2.2.2 t w]⟩
theorem g_H1.b (h : g_H1 M V T) (b : g_MB C0 M0 M) : g_MB C0 M0 V := ⟨b.1.tr (h.1.up (by decide)), fun j z => by rw [h.2.1 j (fun y => z (by simp at y; rw [y]; decide))]; exact b.2.1 j z, h.2.2.1, fun q a c o => by rw [h.1 251 (by decide)]; exact b.2.2.2 q a c o⟩
theorem g_H1.rf (hg : ax_g M) (hT : ∀ t, t < 701 → (m_nb M ≤ t ↔ T t)) : g_H1 M M T := ⟨g_fr.rf _ _, g_sc.rf _ _, hg, hT⟩
theorem s_must {p s : Int} (hS : g_S C0 M0) (hb : g_MB C0 M0 M) (hf : ∀ x, 0 ≤ x → x < (M0 222 26) → M 253 x = F x) (hH : g_H1 M V T) (p0 : 0 ≤ p) (p1 : p < (M0 222 26)) (rs : ax_rg s) (h : ∀ V', g_H1 M V' (fun t => T t ∨ (¬ F p = s ∧ M0 242 p ≤ t)) → Ψ V') : ax_N ay_lay (d + 2) q_Model_must [.ref 222, ax_i p, ax_i s] V Ψ Θ := by
  have hat := hS.2.2.2.2.2.2.2
  have hp0 := hS.2.2.1.1
  have b := hH.b hb
  have pb := (hS.p p0 p1).2.2.1
  have v253 : V 253 p = F p := by rw [hH.1 253 (by decide)]; exact hf p p0 p1
  have b7 : 0 ≤ p ∧ p < 701 := ⟨p0, by omega⟩
  refine r_Model_must b.2.2.1 ⟨by omega, by omega⟩ rs ⟨b7, ?_⟩
  rw [v253, b.1 242 (by decide)]
  refine ⟨fun z => h V (hH.of (fun t _ => ⟨fun y => Or.inl y, fun y => by rcases y with y | y; exact y; exact absurd z y.1⟩)), fun z => ⟨b7, s_noteE b.2.2.1 ⟨by omega, by omega⟩ (h _ ((hH.nt (by omega)).of (fun t _ => ⟨fun y => by rcases y with y | y; exact Or.inl y; exact Or.inr ⟨z, y⟩, fun y => by rcases y with y | y; exact Or.inl y; exact Or.inr y.2⟩)))⟩⟩
set_option maxHeartbeats 4000000 in
theorem s_checkCall (hS : g_S C0 M0) (ok : g_N2 M0) (hb : g_MB C0 M0 V) (hf : ∀ x, 0 ≤ x → x < (M0 222 26) → V 253 x = F x) (q0 : 0 ≤ q) (q1 : q < (M0 222 26)) (o : M0 241 q = 22) (hT : ∀ t, t < 701 → (m_nb V ≤ t ↔ T t)) (h : ∀ V', g_H1 V V' (fun t => T t ∨ g_b3c C0 M0 F q t) → Ψ V') : ax_N ay_lay (d + 3) q_Model_checkCall [.ref 222, ax_i q] V Ψ Θ := by
  have p0 := hS.2.2.1.1
  have hat := hS.2.2.2.2.2.2.2
  have hN := hS.2.1
  have hc1 := hS.2.2.2.2.1.1.1
  have pn := (hS.pnode q0 q1).1
  have b7 : 0 ≤ q ∧ q < 701 := ⟨q0, by omega⟩
  have rq : ax_rg q := ⟨by omega, by omega⟩
  have c := ok.call hS q0 q1 o
  obtain ⟨K, K7, KE, KA⟩ := hS.args q0 q1 o
  obtain ⟨w, ew⟩ : ∃ w : Int, w = C0 520 q := ⟨_, rfl⟩
  rw [← ew] at c
  have w1 : w < (M0 222 86) := by omega
  have o1 := ok.out hS c.1 w1
  have rw' : ax_rg w := ⟨by omega, by omega⟩
  have pb := (hS.p q0 q1).2.2.1
  have rb : ax_rg (M0 242 q) := ⟨by omega, by omega⟩
  have H0 : g_H1 V V T := g_H1.rf hb.2.2.1 hT
  -- its outputs
  have kout : ∀ V1 T1, g_H1 V V1 T1 → (∀ V', g_H1 V V' (fun t => T1 t ∨ (¬ M0 228 w = 1 ∧ ¬ C0 527 q = M0 228 w ∧ M0 242 q ≤ t)) → Ψ V') → ∀ y3 y4, ax_y y3 → ax_y y4 → ((V1 228 w = 1 → Ψ V1) ∧ (¬ V1 228 w = 1 → k_Model_checkCall_142 (d + 2) q w y3 y4 0 V1 Ψ Θ)) := by
    intro V1 T1 hH hk y3 y4 hy3 hy4
    have b := hH.b hb
    rw [b.1 228 (by decide)]
    refine ⟨fun z => hk V1 (hH.of (fun t _ => ⟨fun y => Or.inl y, fun y => by rcases y with y | y; exact y; exact absurd z y.1⟩)), fun z => ?_⟩
    have wh := hS.whole q0 q1 (m := M0 228 w) o1
    refine ax_for (I := fun e V' => V' = V1 ∧ (0 ≤ e ∧ e ≤ (M0 222 44)) ∧ ∀ k, 0 ≤ k → k < e → ¬ (M0 262 k = q ∧ M0 260 k = M0 228 w)) (K := fun e V' => k_Model_checkCall_142 (d + 2) q w y3 y4 e V' Ψ Θ) (hi := (M0 222 44)) (fun e V' u hI next => ?_) (fun e V' u hI => ?_) 0 V1 ⟨rfl, ⟨by decide, by omega⟩, fun k a b => by omega⟩
    · obtain ⟨eV, he, hn⟩ := hI
      subst eV
      refine r_Model_checkCall_142 b.2.2.1 rq rw' hy3 hy4 ⟨by omega, by omega⟩ ?_
      rw [b.2.1 44 (by decide), b.1 262 (by decide), b.1 260 (by decide), b.1 228 (by decide)]
      refine ⟨fun y => absurd u (by omega), fun _ => ⟨⟨by omega, by omega⟩, fun z1 => ⟨⟨by omega, by omega⟩, ⟨c.1, by omega⟩, fun z2 => hk _ (hH.of (fun t _ => ⟨fun y => Or.inl y, fun y => by rcases y with y | y; exact y; exact absurd (wh.mpr ⟨e, ⟨he.1, u⟩, z1, z2⟩) y.2.1⟩)), fun z2 => next _ ⟨rfl, ⟨by omega, by omega⟩, fun k k0 k1 => ?_⟩⟩, fun z1 => next _ ⟨rfl, ⟨by omega, by omega⟩, fun k k0 k1 => ?_⟩⟩⟩
      · by_cases y : k = e
        · rw [y]; exact fun x => z2 x.2
        · exact hn k k0 (by omega)
      · by_cases y : k = e
        · rw [y]; exact fun x => z1 x.1
        · exact hn k k0 (by omega)
    · obtain ⟨eV, he, hn⟩ := hI
      subst eV
      refine r_Model_checkCall_142 b.2.2.1 rq rw' hy3 hy4 ⟨by omega, by omega⟩ ?_
      rw [b.2.1 44 (by decide), b.1 242 (by decide)]
      have nh : ¬ C0 527 q = M0 228 w := fun x => by
        obtain ⟨e', x0, x1, x2⟩ := wh.mp x
        exact hn e' x0.1 (by omega) ⟨x1, x2⟩
      refine ⟨fun _ => ⟨b7, s_noteE b.2.2.1 rb (hk _ ((hH.nt (by omega)).of (fun t _ => ⟨fun y => by rcases y with y | y; exact Or.inl y; exact Or.inr ⟨z, nh, y⟩, fun y => by rcases y with y | y; exact Or.inl y; exact Or.inr y.2.2⟩)))⟩, fun y => absurd y (by omega)⟩
  have eK : ∀ K' : Nat, e_arg M0 q K' = -1 → (∀ k : Nat, k < K' → 0 ≤ e_arg M0 q k) → K' = K := fun K' K1 K2 => by
    rcases Nat.lt_trichotomy K' K with y | y | y
    · have := (KA K' y).1.1; omega
    · exact y
    · have := K2 K y; omega
  -- its arguments
  have kar : (K : Int) = M0 227 w → ∀ (m k : Nat), k ≤ K → K - k ≤ m → ∀ V1 T1, g_H1 V V1 T1 → (∀ t, T1 t ↔ (T t ∨ ∃ x : Nat, x < k ∧ ¬ F (e_arg M0 q x) = M0 233 (26 * w + M0 230 (26 * w + (x : Int))) ∧ M0 242 (e_arg M0 q x) ≤ t)) → k_Model_checkCall_69 (d + 2) q w (K : Int) (k : Int) (e_arg M0 q k) V1 Ψ Θ := by
    intro hK m
    induction m with
    | zero =>
      intro k k0 k1 V1 T1 hH hT1
      have ek : k = K := by omega
      rw [ek] at hT1 ⊢
      rw [KE]
      have ko := kout V1 T1 hH (fun V' hV' => h V' (hV'.of (fun t _ => ?_)))
      · refine r_Model_checkCall_69 hH.2.2.1 rq rw' ⟨by omega, by omega⟩ ⟨by omega, by omega⟩ (by decide) ⟨fun _ => ⟨⟨c.1, by omega⟩, ko _ _ (ax_y_i _) (ax_y_i _)⟩, fun z => absurd rfl z⟩
      · rw [hT1 t]
        unfold g_b3c
        rw [← ew]
        constructor
        · rintro ((y | ⟨x, x0, x1⟩) | y)
          · exact Or.inl y
          · exact Or.inr ⟨K, ⟨KE, fun k z => (KA k z).1.1⟩, Or.inr (Or.inl ⟨hK, x, x0, x1⟩)⟩
          · exact Or.inr ⟨K, ⟨KE, fun k z => (KA k z).1.1⟩, Or.inr (Or.inr y)⟩
        · rintro (y | ⟨K', ⟨K1, K2⟩, y⟩)
          · exact Or.inl (Or.inl y)
          · rw [eK K' K1 K2] at y
            rcases y with y | y | y
            · exact absurd hK y.1
            · exact Or.inl (Or.inr y.2)
            · exact Or.inr y
    | succ m ih =>
      intro k k0 k1 V1 T1 hH hT1
      by_cases ek : k = K
      · exact ih k k0 (by omega) V1 T1 hH hT1
      · obtain ⟨a1, a2, a3, a4⟩ := KA k (by omega)
        have b := hH.b hb
        have u := hS.inp (n := w) (i := (k : Int)) c.1 w1 (by omega) (by omega)
        refine r_Model_checkCall_69 b.2.2.1 rq rw' ⟨by omega, by omega⟩ ⟨by omega, by omega⟩ ⟨by omega, by omega⟩ ⟨fun z => by omega, fun _ => ⟨⟨c.1, by omega⟩, ?_⟩⟩
        rw [b.1 227 (by decide), b.1 230 (by decide), b.1 233 (by decide)]
        refine ⟨fun _ => ⟨⟨by omega, by omega⟩, ⟨by omega, by omega⟩, s_must hS hb hf hH a1.1 (by omega) (by rcases u.2.2.2.1 with y | y <;> rw [y] <;> decide) (fun V' hV' => ⟨⟨a1.1, by omega⟩, ?_⟩)⟩, fun z => absurd hK z⟩
        rw [(hV'.b hb).1 252 (by decide), a3]
        have := ih (k + 1) (by omega) (by omega) V' _ hV' (fun t => by
          rw [hT1 t]
          constructor
          · rintro ((y | ⟨x, x0, x1⟩) | y)
            · exact Or.inl y
            · exact Or.inr ⟨x, by omega, x1⟩
            · exact Or.inr ⟨k, by omega, y⟩
          · rintro (y | ⟨x, x0, x1⟩)
            · exact Or.inl (Or.inl y)
            · by_cases ex : x = k
              · rw [ex] at x1; exact Or.inr x1
              · exact Or.inl (Or.inr ⟨x, by omega, x1⟩))
        exact this
  -- another count
  have kno : ¬ (K : Int) = M0 227 w → k_Model_checkCall_69 (d + 2) q w (K : Int) 0 (e_arg M0 q 0) (m_nt V (M0 242 q)) Ψ Θ := by
    intro hK
    have hH := H0.nt (p := M0 242 q) (by omega)
    have b := hH.b hb
    have ra : ax_rg (e_arg M0 q 0) := by
      by_cases z : K = 0
      · rw [z] at KE; rw [KE]; decide
      · have := (KA 0 (by omega)).1; exact ⟨by omega, by omega⟩
    have ko := kout _ _ hH (fun V' hV' => h V' (hV'.of (fun t _ => ?_)))
    · refine r_Model_checkCall_69 b.2.2.1 rq rw' ⟨by omega, by omega⟩ (by decide) ra ⟨fun _ => ⟨⟨c.1, by omega⟩, ko _ _ (ax_y_i _) (ax_y_i _)⟩, fun _ => ⟨⟨c.1, by omega⟩, fun z => ?_, fun _ => ⟨⟨c.1, by omega⟩, ko _ _ (ax_y_i _) (ax_y_i _)⟩⟩⟩
      rw [b.1 227 (by decide)] at z
      exact absurd z hK
    · unfold g_b3c
      rw [← ew]
      constructor
      · rintro ((y | y) | y)
        · exact Or.inl y
        · exact Or.inr ⟨K, ⟨KE, fun k z => (KA k z).1.1⟩, Or.inl ⟨hK, y⟩⟩
        · exact Or.inr ⟨K, ⟨KE, fun k z => (KA k z).1.1⟩, Or.inr (Or.inr y)⟩
      · rintro (y | ⟨K', ⟨K1, K2⟩, y⟩)
        · exact Or.inl (Or.inl y)
        · rw [eK K' K1 K2] at y
          rcases y with y | y | y
          · exact Or.inl (Or.inr y.2)
          · exact absurd y.1 hK
          · exact Or.inr y
  have e45 : V 245 q = e_arg M0 q 0 := by rw [hb.1 245 (by decide)]; rfl
  -- how many
  have kct : ∀ (m k : Nat), k ≤ K → K - k ≤ m → k_Model_checkCall_17 (d + 2) q w (k : Int) (e_arg M0 q k) none V Ψ Θ := by
    intro m
    induction m with
    | zero =>
      intro k k0 k1
      have ek : k = K := by omega
      rw [ek, KE]
      refine r_Model_checkCall_17 hb.2.2.1 rq rw' ⟨by omega, by omega⟩ (by decide) ax_y_n ⟨fun _ => ⟨⟨c.1, by omega⟩, ?_⟩, fun z => absurd rfl z⟩
      rw [hb.1 227 (by decide), hb.1 242 (by decide), e45]
      refine ⟨fun z => ⟨b7, ?_⟩, fun z => ⟨b7, s_noteE hb.2.2.1 rb ⟨b7, ?_⟩⟩⟩
      · have := kar z K 0 (by omega) (by omega) V T H0 (fun t => ⟨fun y => Or.inl y, fun y => by rcases y with y | ⟨x, x0, -⟩; exact y; omega⟩)
        exact this
      · have e : (m_nt V (M0 242 q)) 245 q = e_arg M0 q 0 := by rw [m_nt_ne (by decide)]; exact e45
        rw [e]
        exact kno z
    | succ m ih =>
      intro k k0 k1
      by_cases ek : k = K
      · exact ih k k0 (by omega)
      · obtain ⟨a1, a2, a3, a4⟩ := KA k (by omega)
        refine r_Model_checkCall_17 hb.2.2.1 rq rw' ⟨by omega, by omega⟩ ⟨by omega, by omega⟩ ax_y_n ⟨fun z => by omega, fun _ => ⟨⟨a1.1, by omega⟩, ?_⟩⟩
        rw [hb.1 252 (by decide), a3]
        have := ih (k + 1) (by omega) (by omega)
        exact this
  refine r_Model_checkCall hb.2.2.1 rq ⟨b7, b7, ?_⟩
  rw [hb.2.2.2 q q0 q1 o, ← ew, e45]
  exact kct K 0 (by omega) (by omega)
set_option maxHeartbeats 4000000 in
theorem s_checkTypes (hS : g_S C0 M0) (ok : g_N2 M0) (hF : g_F C0 M0 F) (hb : g_MB C0 M0 V) (hf : ∀ x, 0 ≤ x → x < (M0 222 26) → V 253 x = F x) (q0 : 0 ≤ q) (q1 : q < (M0 222 26)) (hT : ∀ t, t < 701 → (m_nb V ≤ t ↔ T t)) (h : ∀ V', g_H1 V V' (fun t => T t ∨ g_b3 C0 M0 F q t) → Ψ V') : ax_N ay_lay (d + 4) q_Model_checkTypes [.ref 222, ax_i q] V Ψ Θ := by
  have p0 := hS.2.2.1.1
  have hat := hS.2.2.2.2.2.2.2
  have o9 := (hS.op q0 q1).1
  have ar := hS.ar q0 q1
  have b7 : 0 ≤ q ∧ q < 701 := ⟨q0, by omega⟩
  have m241 : V 241 = M0 241 := hb.1 241 (by decide)
  have m245 : V 245 = M0 245 := hb.1 245 (by decide)
  have m246 : V 246 = M0 246 := hb.1 246 (by decide)
  have H0 : g_H1 V V T := g_H1.rf hb.2.2.1 hT
  have rF : ∀ x, 0 ≤ x → x < (M0 222 26) → ax_rg (F x) := fun x x0 x1 => by rcases (hF x x0 x1).2 with z | z <;> rw [z] <;> decide
  have kd := fun (o : ¬ M0 241 q = 22) => hS.kid q0 q1 o
  have ab : ((4 ≤ M0 241 q ∧ M0 241 q ≤ 19) ∨ M0 241 q = 21) → 0 ≤ M0 245 q ∧ M0 245 q < (M0 222 26) := fun z => ⟨by rcases ar with z | z | z | z | z <;> omega, by have := (kd (by omega)).2.1.2; omega⟩
  have bb : ((7 ≤ M0 241 q ∧ M0 241 q ≤ 19) ∨ M0 241 q = 21) → 0 ≤ M0 246 q ∧ M0 246 q < (M0 222 26) := fun z => ⟨by rcases ar with z | z | z | z | z <;> omega, by have := (kd (by omega)).2.2.1.2; omega⟩
  have cb : M0 241 q = 18 → 0 ≤ M0 247 q ∧ M0 247 q < (M0 222 26) := fun z => ⟨by rcases ar with z | z | z | z | z <;> omega, by have := (kd (by omega)).2.2.2.1.2; omega⟩
  have kn : ((0 ≤ M0 241 q ∧ M0 241 q ≤ 3) ∨ M0 241 q = 6 ∨ M0 241 q = 20) → Ψ V := fun o => h V (H0.of (fun t _ => ⟨fun z => Or.inl z, fun z => by rcases z with z | z; exact z; exact absurd z (g_b3.n o)⟩))
  have ku0 : M0 241 q = 4 → (0 ≤ q ∧ q < 701) ∧ ax_N ay_lay (d + 3) q_Model_must [.ref 222, ax_i (V 245 q), ax_i 0] V (fun V1 => Ψ V1) Θ := fun o => by
    have a := ab (by omega)
    rw [m245]
    exact ⟨b7, s_must hS hb hf H0 a.1 a.2 (by decide) (fun V' hV' => h V' (hV'.of (fun t _ => by rw [g_b3.u0 o])))⟩
  have ku1 : M0 241 q = 5 → (0 ≤ q ∧ q < 701) ∧ ax_N ay_lay (d + 3) q_Model_must [.ref 222, ax_i (V 245 q), ax_i 1] V (fun V1 => Ψ V1) Θ := fun o => by
    have a := ab (by omega)
    rw [m245]
    exact ⟨b7, s_must hS hb hf H0 a.1 a.2 (by decide) (fun V' hV' => h V' (hV'.of (fun t _ => by rw [g_b3.u1 o])))⟩
  have kb0 : ((7 ≤ M0 241 q ∧ M0 241 q ≤ 11) ∨ M0 241 q = 14 ∨ M0 241 q = 15) → (0 ≤ q ∧ q < 701) ∧ ax_N ay_lay (d + 3) q_Model_must [.ref 222, ax_i (V 245 q), ax_i 0] V (fun V3 => (0 ≤ q ∧ q < 701) ∧ ax_N ay_lay (d + 3) q_Model_must [.ref 222, ax_i (V3 246 q), ax_i 0] V3 (fun V4 => Ψ V4) Θ) Θ := fun o => by
    have a := ab (by omega)
    have b := bb (by omega)
    rw [m245]
    refine ⟨b7, s_must hS hb hf H0 a.1 a.2 (by decide) (fun V' hV' => ⟨b7, ?_⟩)⟩
    rw [(hV'.b hb).1 246 (by decide)]
    refine s_must hS hb hf hV' b.1 b.2 (by decide) (fun V2 hV2 => h V2 (hV2.of (fun t _ => ?_)))
    rw [g_b3.b0 o, or_assoc]
  have kb1 : (M0 241 q = 16 ∨ M0 241 q = 17) → (0 ≤ q ∧ q < 701) ∧ ax_N ay_lay (d + 3) q_Model_must [.ref 222, ax_i (V 245 q), ax_i 1] V (fun V3 => (0 ≤ q ∧ q < 701) ∧ ax_N ay_lay (d + 3) q_Model_must [.ref 222, ax_i (V3 246 q), ax_i 1] V3 (fun V4 => Ψ V4) Θ) Θ := fun o => by
    have a := ab (by omega)
    have b := bb (by omega)
    rw [m245]
    refine ⟨b7, s_must hS hb hf H0 a.1 a.2 (by decide) (fun V' hV' => ⟨b7, ?_⟩)⟩
    rw [(hV'.b hb).1 246 (by decide)]
    refine s_must hS hb hf hV' b.1 b.2 (by decide) (fun V2 hV2 => h V2 (hV2.of (fun t _ => ?_)))
    rw [g_b3.b1 o, or_assoc]
  have ks : (M0 241 q = 12 ∨ M0 241 q = 13 ∨ M0 241 q = 19 ∨ M0 241 q = 21) → (0 ≤ q ∧ q < 701) ∧ (0 ≤ q ∧ q < 701) ∧ (0 ≤ V 245 q ∧ V 245 q < 701) ∧ ax_N ay_lay (d + 3) q_Model_must [.ref 222, ax_i (V 246 q), ax_i (V 253 (V 245 q))] V (fun V5 => Ψ V5) Θ := fun o => by
    have a := ab (by omega)
    have b := bb (by omega)
    rw [m245, m246, hf _ a.1 a.2]
    exact ⟨b7, b7, ⟨a.1, by omega⟩, s_must hS hb hf H0 b.1 b.2 (rF _ a.1 a.2) (fun V' hV' => h V' (hV'.of (fun t _ => by rw [g_b3.s o])))⟩
  have kh : M0 241 q = 18 → (0 ≤ q ∧ q < 701) ∧ ax_N ay_lay (d + 3) q_Model_must [.ref 222, ax_i (V 245 q), ax_i 1] V (fun V8 => (0 ≤ q ∧ q < 701) ∧ (0 ≤ q ∧ q < 701) ∧ (0 ≤ V8 246 q ∧ V8 246 q < 701) ∧ ax_N ay_lay (d + 3) q_Model_must [.ref 222, ax_i (V8 247 q), ax_i (V8 253 (V8 246 q))] V8 (fun V9 => Ψ V9) Θ) Θ := fun o => by
    have a := ab (by omega)
    have b := bb (by omega)
    have c := cb o
    rw [m245]
    refine ⟨b7, s_must hS hb hf H0 a.1 a.2 (by decide) (fun V' hV' => ?_)⟩
    rw [(hV'.b hb).1 246 (by decide), (hV'.b hb).1 247 (by decide), hV'.1 253 (by decide), hf _ b.1 b.2]
    refine ⟨b7, b7, ⟨b.1, by omega⟩, s_must hS hb hf hV' c.1 c.2 (rF _ b.1 b.2) (fun V2 hV2 => h V2 (hV2.of (fun t _ => ?_)))⟩
    rw [g_b3.h o, or_assoc]
  have kc : M0 241 q = 22 → ax_N ay_lay (d + 3) q_Model_checkCall [.ref 222, ax_i q] V (fun V10 => Ψ V10) Θ := fun o => s_checkCall hS ok hb hf q0 q1 o hT (fun V' hV' => h V' (hV'.of (fun t _ => by rw [g_b3.c o])))
  refine r_Model_checkTypes hb.2.2.1 ⟨by omega, by omega⟩ ⟨b7, ?_⟩
  have hop : M0 241 q = 0 ∨ M0 241 q = 1 ∨ M0 241 q = 2 ∨ M0 241 q = 3 ∨ M0 241 q = 4 ∨ M0 241 q = 5 ∨ M0 241 q = 6 ∨ M0 241 q = 7 ∨ M0 241 q = 8 ∨ M0 241 q = 9 ∨ M0 241 q = 10 ∨ M0 241 q = 11 ∨ M0 241 q = 12 ∨ M0 241 q = 13 ∨ M0 241 q = 14 ∨ M0 241 q = 15 ∨ M0 241 q = 16 ∨ M0 241 q = 17 ∨ M0 241 q = 18 ∨ M0 241 q = 19 ∨ M0 241 q = 20 ∨ M0 241 q = 21 ∨ M0 241 q = 22 := by omega
  rcases hop with o | o | o | o | o | o | o | o | o | o | o | o | o | o | o | o | o | o | o | o | o | o | o
  · rw [show V 241 q = 0 by rw [m241, o]]; exact ⟨fun z => absurd z (by decide), fun z => absurd z (by decide), fun z => absurd z (by decide), fun z => absurd z (by decide), fun z => absurd z (by decide), fun z => absurd z (by decide), fun z => absurd z (by decide), fun _ _ _ _ _ _ _ _ _ _ _ _ _ _ _ _ _ => kn (by omega)⟩
  · rw [show V 241 q = 1 by rw [m241, o]]; exact ⟨fun z => absurd z (by decide), fun z => absurd z (by decide), fun z => absurd z (by decide), fun z => absurd z (by decide), fun z => absurd z (by decide), fun z => absurd z (by decide), fun z => absurd z (by decide), fun _ _ _ _ _ _ _ _ _ _ _ _ _ _ _ _ _ => kn (by omega)⟩
  · rw [show V 241 q = 2 by rw [m241, o]]; exact ⟨fun z => absurd z (by decide), fun z => absurd z (by decide), fun z => absurd z (by decide), fun z => absurd z (by decide), fun z => absurd z (by decide), fun z => absurd z (by decide), fun z => absurd z (by decide), fun _ _ _ _ _ _ _ _ _ _ _ _ _ _ _ _ _ => kn (by omega)⟩
  · rw [show V 241 q = 3 by rw [m241, o]]; exact ⟨fun z => absurd z (by decide), fun z => absurd z (by decide), fun z => absurd z (by decide), fun z => absurd z (by decide), fun z => absurd z (by decide), fun z => absurd z (by decide), fun z => absurd z (by decide), fun _ _ _ _ _ _ _ _ _ _ _ _ _ _ _ _ _ => kn (by omega)⟩
  · rw [show V 241 q = 4 by rw [m241, o]]; exact ⟨fun _ => ku0 o, fun z => absurd z (by decide), fun z => absurd z (by decide), fun z => absurd z (by decide), fun z => absurd z (by decide), fun z => absurd z (by decide), fun z => absurd z (by decide), fun w _ _ _ _ _ _ _ _ _ _ _ _ _ _ _ _ => absurd rfl w⟩
  · rw [show V 241 q = 5 by rw [m241, o]]; exact ⟨fun z => absurd z (by decide), fun _ => ku1 o, fun z => absurd z (by decide), fun z => absurd z (by decide), fun z => absurd z (by decide), fun z => absurd z (by decide), fun z => absurd z (by decide), fun _ w _ _ _ _ _ _ _ _ _ _ _ _ _ _ _ => absurd rfl w⟩
  · rw [show V 241 q = 6 by rw [m241, o]]; exact ⟨fun z => absurd z (by decide), fun z => absurd z (by decide), fun z => absurd z (by decide), fun z => absurd z (by decide), fun z => absurd z (by decide), fun z => absurd z (by decide), fun z => absurd z (by decide), fun _ _ _ _ _ _ _ _ _ _ _ _ _ _ _ _ _ => kn (by omega)⟩
  · rw [show V 241 q = 7 by rw [m241, o]]; exact ⟨fun z => absurd z (by decide), fun z => absurd z (by decide), fun _ => kb0 (by omega), fun z => absurd z (by decide), fun z => absurd z (by decide), fun z => absurd z (by decide), fun z => absurd z (by decide), fun _ _ w _ _ _ _ _ _ _ _ _ _ _ _ _ _ => absurd rfl w⟩
  · rw [show V 241 q = 8 by rw [m241, o]]; exact ⟨fun z => absurd z (by decide), fun z => absurd z (by decide), fun _ => kb0 (by omega), fun z => absurd z (by decide), fun z => absurd z (by decide), fun z => absurd z (by decide), fun z => absurd z (by decide), fun _ _ _ w _ _ _ _ _ _ _ _ _ _ _ _ _ => absurd rfl w⟩
  · rw [show V 241 q = 9 by rw [m241, o]]; exact ⟨fun z => absurd z (by decide), fun z => absurd z (by decide), fun _ => kb0 (by omega), fun z => absurd z (by decide), fun z => absurd z (by decide), fun z => absurd z (by decide), fun z => absurd z (by decide), fun _ _ _ _ w _ _ _ _ _ _ _ _ _ _ _ _ => absurd rfl w⟩
  · rw [show V 241 q = 10 by rw [m241, o]]; exact ⟨fun z => absurd z (by decide), fun z => absurd z (by decide), fun _ => kb0 (by omega), fun z => absurd z (by decide), fun z => absurd z (by decide), fun z => absurd z (by decide), fun z => absurd z (by decide), fun _ _ _ _ _ w _ _ _ _ _ _ _ _ _ _ _ => absurd rfl w⟩
  · rw [show V 241 q = 11 by rw [m241, o]]; exact ⟨fun z => absurd z (by decide), fun z => absurd z (by decide), fun _ => kb0 (by omega), fun z => absurd z (by decide), fun z => absurd z (by decide), fun z => absurd z (by decide), fun z => absurd z (by decide), fun _ _ _ _ _ _ w _ _ _ _ _ _ _ _ _ _ => absurd rfl w⟩
  · rw [show V 241 q = 12 by rw [m241, o]]; exact ⟨fun z => absurd z (by decide), fun z => absurd z (by decide), fun z => absurd z (by decide), fun _ => ks (by omega), fun z => absurd z (by decide), fun z => absurd z (by decide), fun z => absurd z (by decide), fun _ _ _ _ _ _ _ _ _ w _ _ _ _ _ _ _ => absurd rfl w⟩
  · rw [show V 241 q = 13 by rw [m241, o]]; exact ⟨fun z => absurd z (by decide), fun z => absurd z (by decide), fun z => absurd z (by decide), fun _ => ks (by omega), fun z => absurd z (by decide), fun z => absurd z (by decide), fun z => absurd z (by decide), fun _ _ _ _ _ _ _ _ _ _ w _ _ _ _ _ _ => absurd rfl w⟩
  · rw [show V 241 q = 14 by rw [m241, o]]; exact ⟨fun z => absurd z (by decide), fun z => absurd z (by decide), fun _ => kb0 (by omega), fun z => absurd z (by decide), fun z => absurd z (by decide), fun z => absurd z (by decide), fun z => absurd z (by decide), fun _ _ _ _ _ _ _ w _ _ _ _ _ _ _ _ _ => absurd rfl w⟩
  · rw [show V 241 q = 15 by rw [m241, o]]; exact ⟨fun z => absurd z (by decide), fun z => absurd z (by decide), fun _ => kb0 (by omega), fun z => absurd z (by decide), fun z => absurd z (by decide), fun z => absurd z (by decide), fun z => absurd z (by decide), fun _ _ _ _ _ _ _ _ w _ _ _ _ _ _ _ _ => absurd rfl w⟩
  · rw [show V 241 q = 16 by rw [m241, o]]; exact ⟨fun z => absurd z (by decide), fun z => absurd z (by decide), fun z => absurd z (by decide), fun z => absurd z (by decide), fun _ => kb1 (by omega), fun z => absurd z (by decide), fun z => absurd z (by decide), fun _ _ _ _ _ _ _ _ _ _ _ _ _ w _ _ _ => absurd rfl w⟩
  · rw [show V 241 q = 17 by rw [m241, o]]; exact ⟨fun z => absurd z (by decide), fun z => absurd z (by decide), fun z => absurd z (by decide), fun z => absurd z (by decide), fun _ => kb1 (by omega), fun z => absurd z (by decide), fun z => absurd z (by decide), fun _ _ _ _ _ _ _ _ _ _ _ _ _ _ w _ _ => absurd rfl w⟩
  · rw [show V 241 q = 18 by rw [m241, o]]; exact ⟨fun z => absurd z (by decide), fun z => absurd z (by decide), fun z => absurd z (by decide), fun z => absurd z (by decide), fun z => absurd z (by decide), fun _ => kh o, fun z => absurd z (by decide), fun _ _ _ _ _ _ _ _ _ _ _ _ _ _ _ w _ => absurd rfl w⟩
  · rw [show V 241 q = 19 by rw [m241, o]]; exact ⟨fun z => absurd z (by decide), fun z => absurd z (by decide), fun z => absurd z (by decide), fun _ => ks (by omega), fun z => absurd z (by decide), fun z => absurd z (by decide), fun z => absurd z (by decide), fun _ _ _ _ _ _ _ _ _ _ _ w _ _ _ _ _ => absurd rfl w⟩
  · rw [show V 241 q = 20 by rw [m241, o]]; exact ⟨fun z => absurd z (by decide), fun z => absurd z (by decide), fun z => absurd z (by decide), fun z => absurd z (by decide), fun z => absurd z (by decide), fun z => absurd z (by decide), fun z => absurd z (by decide), fun _ _ _ _ _ _ _ _ _ _ _ _ _ _ _ _ _ => kn (by omega)⟩
  · rw [show V 241 q = 21 by rw [m241, o]]; exact ⟨fun z => absurd z (by decide), fun z => absurd z (by decide), fun z => absurd z (by decide), fun _ => ks (by omega), fun z => absurd z (by decide), fun z => absurd z (by decide), fun z => absurd z (by decide), fun _ _ _ _ _ _ _ _ _ _ _ _ w _ _ _ _ => absurd rfl w⟩
  · rw [show V 241 q = 22 by rw [m241, o]]; exact ⟨fun z => absurd z (by decide), fun z => absurd z (by decide), fun z => absurd z (by decide), fun z => absurd z (by decide), fun z => absurd z (by decide), fun z => absurd z (by decide), fun _ => kc o, fun _ _ _ _ _ _ _ _ _ _ _ _ _ _ _ _ w => absurd rfl w⟩
set_option maxHeartbeats 4000000 in
theorem s_checkEquation {e : Int} (hS : g_S C0 M0) (ok : g_N2 M0) (hb : g_MB C0 M0 V) (hf : ∀ x, 0 ≤ x → x < (M0 222 26) → V 253 x = F x) (e0 : 0 ≤ e) (e1 : e < (M0 222 44)) (hT : ∀ t, t < 701 → (m_nb V ≤ t ↔ T t)) (h : ∀ V', g_H1 V V' (fun t => T t ∨ g_b3e C0 M0 F e t) → Ψ V') : ax_N ay_lay (d + 3) q_Model_checkEquation [.ref 222, ax_i e] V Ψ Θ := by
  have p0 := hS.2.2.1.1
  have hat := hS.2.2.2.2.2.2.2
  have hN := hS.2.1
  have hc1 := hS.2.2.2.2.1.1.1
  have hc2 := hS.2.2.2.2.1.1.2.1
  have fe := hS.2.2.2.2.1.2.1 e e0 e1
  have fe3 := fe.2.2.1
  have fx := fe.2.2.2.2.2.1.1
  have nd := hS.node e0 e1
  obtain ⟨w, ew⟩ : ∃ w : Int, w = M0 262 e := ⟨_, rfl⟩
  obtain ⟨fr, efr⟩ : ∃ w : Int, w = M0 259 e := ⟨_, rfl⟩
  obtain ⟨mn, emn⟩ : ∃ w : Int, w = M0 260 e := ⟨_, rfl⟩
  obtain ⟨n, en⟩ : ∃ w : Int, w = M0 258 e := ⟨_, rfl⟩
  have hd := fun i (i0 : 0 ≤ i) (i1 : i < M0 260 e) => ok.hs hS e0 e1 i0 i1
  rw [← efr, ← emn, ← en] at hd
  rw [← efr, ← emn] at fe3
  rw [← ew] at fx
  rw [← en] at nd
  have w0 : 0 ≤ w := by omega
  have w1 : w < (M0 222 26) := by omega
  have b7 : 0 ≤ w ∧ w < 701 := ⟨w0, by omega⟩
  have be : 0 ≤ e ∧ e < 351 := ⟨e0, by omega⟩
  have re : ax_rg e := ⟨by omega, by omega⟩
  have rw' : ax_rg w := ⟨by omega, by omega⟩
  have rn : ax_rg n := ⟨by omega, by omega⟩
  have pb := (hS.p w0 w1).2.2.1
  have rb : ax_rg (M0 242 w) := ⟨by omega, by omega⟩
  have H0 : g_H1 V V T := g_H1.rf hb.2.2.1 hT
  -- where it doesn't fit
  have no : ¬ mn = 1 → ¬ (M0 241 w = 22 ∧ M0 228 (C0 520 w) = mn ∧ ∀ i, 0 ≤ i → i < mn → M0 233 (26 * n + M0 265 (fr + i)) = M0 233 (26 * C0 520 w + M0 231 (26 * C0 520 w + i))) → ∀ i, ax_rg i → k_Model_checkEquation_92 (d + 2) e w n 0 i V Ψ Θ := by
    intro z z2 i ri
    have go : ax_N ay_lay (d + 2) q_Model_note [.ref 222, ax_i (V 242 w)] V (fun V1 => Ψ V1) Θ := by
      rw [hb.1 242 (by decide)]
      refine s_noteE hb.2.2.1 rb (h _ ((H0.nt (by omega)).of (fun t _ => ?_)))
      unfold g_b3e
      rw [← ew, ← emn, ← efr, ← en]
      constructor
      · rintro (y | y)
        · exact Or.inl y
        · exact Or.inr (Or.inr ⟨z, z2, y⟩)
      · rintro (y | y | y)
        · exact Or.inl y
        · exact absurd y.1 z
        · exact Or.inr y.2.2
    exact r_Model_checkEquation_92 hb.2.2.1 re rw' rn (by decide) ri ⟨be, fun _ => ⟨fun _ => ⟨b7, go⟩, fun y => absurd rfl y⟩, fun _ => ⟨fun _ => ⟨fun _ => ⟨b7, go⟩, fun y => absurd rfl y⟩, fun y => absurd rfl y⟩⟩
  refine r_Model_checkEquation hb.2.2.1 re ⟨be, be, be, ?_⟩
  rw [hb.1 241 (by decide), hb.1 258 (by decide), hb.1 259 (by decide), hb.1 260 (by decide), hb.1 262 (by decide), hb.1 265 (by decide), hb.1 228 (by decide), hb.1 233 (by decide), ← ew, ← efr, ← emn, ← en]
  refine ⟨fun z => ?_, fun z => ⟨b7, fun o => ?_, fun o => no z (fun u => o u.1) 0 (by decide)⟩⟩
  · have u := hd 0 (by decide) (by omega)
    rw [show fr + 0 = fr by omega] at u
    refine ⟨be, ⟨by omega, by omega⟩, ⟨by omega, by omega⟩, s_must hS hb hf H0 w0 w1 (by rcases u.2.2.2.1 with y | y <;> rw [y] <;> decide) (fun V' hV' => h V' (hV'.of (fun t _ => ?_)))⟩
    unfold g_b3e
    rw [← ew, ← emn, ← efr, ← en]
    constructor
    · rintro (y | y)
      · exact Or.inl y
      · exact Or.inr (Or.inl ⟨z, y⟩)
    · rintro (y | y | y)
      · exact Or.inl y
      · exact Or.inr y.2
      · exact absurd z y.1
  · have c := ok.call hS w0 w1 o
    have pn := (hS.pnode w0 w1).1
    obtain ⟨c', ec⟩ : ∃ x : Int, x = C0 520 w := ⟨_, rfl⟩
    rw [← ec] at c
    have c1 : c' < (M0 222 86) := by omega
    have cw : V 251 w = c' := by rw [ec]; exact hb.2.2.2 w w0 w1 o
    rw [cw]
    refine ⟨b7, ⟨c.1, by omega⟩, be, fun z2 => ?_, fun z2 => no z (fun u => z2 (by rw [ec]; exact u.2.1)) 0 (by decide)⟩
    refine ax_for (I := fun i V' => V' = V ∧ (0 ≤ i ∧ i ≤ mn) ∧ ∀ k, 0 ≤ k → k < i → M0 233 (26 * n + M0 265 (fr + k)) = M0 233 (26 * c' + M0 231 (26 * c' + k))) (K := fun i V' => k_Model_checkEquation_92 (d + 2) e w n 1 i V' Ψ Θ) (hi := mn) (fun i V' u hI next => ?_) (fun i V' u hI => ?_) 0 V ⟨rfl, ⟨by decide, by omega⟩, fun k a b => by omega⟩
    · obtain ⟨eV, hi, hk⟩ := hI
      subst eV
      have a := hd i hi.1 u
      have b := hS.outp (n := c') (i := i) c.1 c1 hi.1 (by omega)
      refine r_Model_checkEquation_92 hb.2.2.1 re rw' rn (by decide) ⟨by omega, by omega⟩ ⟨be, ?_⟩
      rw [cw, hb.1 259 (by decide), hb.1 260 (by decide), hb.1 265 (by decide), hb.1 231 (by decide), hb.1 233 (by decide), ← efr, ← emn]
      refine ⟨fun y => absurd u (by omega), fun _ => ⟨fun y => absurd y (by decide), fun _ => ⟨be, ⟨a.2.2.2.2.1, by omega⟩, ⟨by omega, by omega⟩, b7, b7, ⟨by omega, by omega⟩, ⟨by omega, by omega⟩, fun y => next _ ⟨rfl, ⟨by omega, by omega⟩, fun k k0 k1 => ?_⟩, fun y => no z (fun x => y (by rw [ec]; exact x.2.2 i hi.1 u)) _ ⟨by omega, by omega⟩⟩⟩⟩
      by_cases x : k = i
      · rw [x]; exact y
      · exact hk k k0 (by omega)
    · obtain ⟨eV, hi, hk⟩ := hI
      subst eV
      refine r_Model_checkEquation_92 hb.2.2.1 re rw' rn (by decide) ⟨by omega, by omega⟩ ⟨be, ?_⟩
      rw [hb.1 260 (by decide), ← emn]
      refine ⟨fun _ => ⟨fun y => absurd y (by decide), fun _ => h _ (H0.of (fun t _ => ⟨fun y => Or.inl y, fun y => ?_⟩))⟩, fun y => absurd y (by omega)⟩
      unfold g_b3e at y
      rw [← ew, ← emn, ← efr, ← en, ← ec] at y
      rcases y with y | y | y
      · exact y
      · exact absurd y.1 z
      · exact absurd ⟨o, z2, fun k k0 k1 => hk k k0 (by omega)⟩ y.2.1
set_option maxHeartbeats 4000000 in
theorem s_findTypes (hS : g_S C0 M0) (ok : g_N2 M0) (hF : g_F C0 M0 F) (hb : g_MB C0 M0 M) (h : ∀ V', g_fr [253] M V' → ax_g V' → (∀ x, 0 ≤ x → x < (M0 222 26) → V' 253 x = F x) → Ψ V') : ax_N ay_lay (d + 2) q_Model_findTypes [.ref 222] M Ψ Θ := by
  have p0 := hS.2.2.1.1
  have hat := hS.2.2.2.2.2.2.2
  have hN := hS.2.1
  refine r_Model_findTypes hb.2.2.1 ?_
  refine ax_for (I := fun q V => (0 ≤ q ∧ q ≤ (M0 222 26)) ∧ g_fr [253] M V ∧ ax_g V ∧ ∀ x, 0 ≤ x → x < q → V 253 x = F x) (K := fun q V => k_Model_findTypes_2 (d + 1) q V Ψ Θ) (hi := (M0 222 26)) (fun q V w hI next => ?_) (fun q V w hI => ?_) 0 M ⟨⟨by decide, p0.2.1⟩, g_fr.rf _ _, hb.2.2.1, fun x a b => by omega⟩
  · obtain ⟨hq, f1, g1, hx⟩ := hI
    have q0 := hq.1
    have q1 : q < (M0 222 26) := w
    have fb : g_fr g_YM M0 V := hb.1.tr (f1.up (by decide))
    have s26 : V 222 26 = (M0 222 26) := by rw [f1 222 (by decide)]; exact hb.2.1 26 (by decide)
    have o9 := (hS.op q0 q1).1
    have ar := hS.ar q0 q1
    have pn := (hS.pnode q0 q1).1
    have b7 : 0 ≤ q ∧ q < 701 := ⟨q0, by omega⟩
    have m241 : V 241 = M0 241 := fb 241 (by decide)
    have put : ∀ v, g_tv C0 M0 (V 253) q v → ∀ V1, V1 = ax_u V 253 q v → k_Model_findTypes_2 (d + 1) (q + 1) V1 Ψ Θ := by
      intro v hv V1 e1
      have ev : v = F q := hv.eq hS q0 q1 (hF q q0 q1).1 hx
      have fq := (hF q q0 q1).2
      have rv : ax_rg v := by rw [ev]; rcases fq with y | y <;> rw [y] <;> decide
      refine next V1 ⟨⟨by omega, by omega⟩, by rw [e1]; exact f1.u (by decide), by rw [e1]; exact ax_u_g g1 rv, fun x x0 x1 => ?_⟩
      by_cases z : x = q
      · rw [e1, z, ax_u_s, ev]
      · rw [e1, ax_u_k z]; exact hx x x0 (by omega)
    have kz : (M0 241 q = 0 ∨ M0 241 q = 4 ∨ (7 ≤ M0 241 q ∧ M0 241 q ≤ 11)) → (0 ≤ q ∧ q < 701) ∧ (∀ V1, V1 = ax_u V 253 q 0 → k_Model_findTypes_2 (d + 1) (q + 1) V1 Ψ Θ) := fun o => ⟨b7, put 0 (g_tv.m0 o)⟩
    have kw : (M0 241 q = 1 ∨ M0 241 q = 5 ∨ (12 ≤ M0 241 q ∧ M0 241 q ≤ 17)) → (0 ≤ q ∧ q < 701) ∧ (∀ V1, V1 = ax_u V 253 q 1 → k_Model_findTypes_2 (d + 1) (q + 1) V1 Ψ Θ) := fun o => ⟨b7, put 1 (g_tv.m1 o)⟩
    have kl : (M0 241 q = 2 ∨ M0 241 q = 3) → ax_I ay_lay (d + 1) q_Model_typeOfLetter [.ref 222, ax_i q] V (fun r3 V3 => (0 ≤ q ∧ q < 701) ∧ (∀ V4, V4 = ax_u V3 253 q r3 → k_Model_findTypes_2 (d + 1) (q + 1) V4 Ψ Θ)) Θ := fun o => by
      have t3 := (hS.p q0 q1).2.2.2.2.2.2.1.2.2.1 (by omega)
      have t31 := t3.1
      refine r_Model_typeOfLetter g1 ⟨by omega, by omega⟩ ⟨b7, b7, ?_⟩
      rw [fb 250 (by decide), fb 248 (by decide), fb 233 (by decide)]
      exact ⟨⟨by omega, by omega⟩, b7, put _ (g_tv.mL o)⟩
    have kb : M0 241 q = 18 → (0 ≤ q ∧ q < 701) ∧ (0 ≤ V 246 q ∧ V 246 q < 701) ∧ (0 ≤ q ∧ q < 701) ∧ (∀ V5, V5 = ax_u V 253 q (V 253 (V 246 q)) → k_Model_findTypes_2 (d + 1) (q + 1) V5 Ψ Θ) := fun o => by
      have k := (hS.kid q0 q1 (by omega)).2.2.1.2
      have z : 0 ≤ M0 246 q := by rcases ar with z | z | z | z | z <;> omega
      rw [fb 246 (by decide)]
      exact ⟨b7, ⟨z, by omega⟩, b7, put _ (g_tv.mB o)⟩
    have kc : M0 241 q = 22 → (0 ≤ q ∧ q < 701) ∧ (0 ≤ q ∧ q < 701) ∧ (0 ≤ 26 * (V 251 q) ∧ 26 * (V 251 q) < 240) ∧ (0 ≤ (26 * (V 251 q)) + (V 231 (26 * (V 251 q))) ∧ (26 * (V 251 q)) + (V 231 (26 * (V 251 q))) < 240) ∧ (0 ≤ q ∧ q < 701) ∧ (∀ V6, V6 = ax_u V 253 q (V 233 ((26 * (V 251 q)) + (V 231 (26 * (V 251 q))))) → k_Model_findTypes_2 (d + 1) (q + 1) V6 Ψ Θ) := fun o => by
      have c := ok.call hS q0 q1 o
      have cw : V 251 q = C0 520 q := by rw [f1 251 (by decide)]; exact hb.2.2.2 q q0 q1 o
      have u := hS.outp (n := C0 520 q) (i := 0) c.1 (by omega) (by decide) (by have := ok.out hS (n := C0 520 q) c.1 (by omega); omega)
      rw [show 26 * C0 520 q + 0 = 26 * C0 520 q by omega] at u
      rw [cw, fb 231 (by decide), fb 233 (by decide)]
      exact ⟨b7, b7, ⟨by omega, by omega⟩, ⟨by omega, by omega⟩, b7, put _ (g_tv.mC o)⟩
    have ka : (M0 241 q = 6 ∨ M0 241 q = 19 ∨ M0 241 q = 20 ∨ M0 241 q = 21) → (0 ≤ q ∧ q < 701) ∧ (0 ≤ V 245 q ∧ V 245 q < 701) ∧ (0 ≤ q ∧ q < 701) ∧ (∀ V7, V7 = ax_u V 253 q (V 253 (V 245 q)) → k_Model_findTypes_2 (d + 1) (q + 1) V7 Ψ Θ) := fun o => by
      have k := (hS.kid q0 q1 (by omega)).2.1.2
      have z : 0 ≤ M0 245 q := by rcases ar with z | z | z | z | z <;> omega
      rw [fb 245 (by decide)]
      exact ⟨b7, ⟨z, by omega⟩, b7, put _ (g_tv.mA o)⟩
    refine r_Model_findTypes_2 g1 ⟨by omega, by omega⟩ ⟨fun z => by rw [s26] at z; omega, fun _ => ⟨b7, ?_⟩⟩
    have hop : M0 241 q = 0 ∨ M0 241 q = 1 ∨ M0 241 q = 2 ∨ M0 241 q = 3 ∨ M0 241 q = 4 ∨ M0 241 q = 5 ∨ M0 241 q = 6 ∨ M0 241 q = 7 ∨ M0 241 q = 8 ∨ M0 241 q = 9 ∨ M0 241 q = 10 ∨ M0 241 q = 11 ∨ M0 241 q = 12 ∨ M0 241 q = 13 ∨ M0 241 q = 14 ∨ M0 241 q = 15 ∨ M0 241 q = 16 ∨ M0 241 q = 17 ∨ M0 241 q = 18 ∨ M0 241 q = 19 ∨ M0 241 q = 20 ∨ M0 241 q = 21 ∨ M0 241 q = 22 := by omega
    rcases hop with o | o | o | o | o | o | o | o | o | o | o | o | o | o | o | o | o | o | o | o | o | o | o
    · rw [show V 241 q = 0 by rw [m241, o]]; exact ⟨fun _ => kz (by omega), fun z => absurd z (by decide), fun z => absurd z (by decide), fun z => absurd z (by decide), fun z => absurd z (by decide), fun w _ _ _ _ _ _ _ _ _ _ _ _ _ _ _ _ _ _ => absurd rfl w⟩
    · rw [show V 241 q = 1 by rw [m241, o]]; exact ⟨fun z => absurd z (by decide), fun _ => kw (by omega), fun z => absurd z (by decide), fun z => absurd z (by decide), fun z => absurd z (by decide), fun _ _ _ _ _ _ _ w _ _ _ _ _ _ _ _ _ _ _ => absurd rfl w⟩
    · rw [show V 241 q = 2 by rw [m241, o]]; exact ⟨fun z => absurd z (by decide), fun z => absurd z (by decide), fun _ => kl (by omega), fun z => absurd z (by decide), fun z => absurd z (by decide), fun _ _ _ _ _ _ _ _ _ _ _ _ _ _ _ w _ _ _ => absurd rfl w⟩
    · rw [show V 241 q = 3 by rw [m241, o]]; exact ⟨fun z => absurd z (by decide), fun z => absurd z (by decide), fun _ => kl (by omega), fun z => absurd z (by decide), fun z => absurd z (by decide), fun _ _ _ _ _ _ _ _ _ _ _ _ _ _ _ _ w _ _ => absurd rfl w⟩
    · rw [show V 241 q = 4 by rw [m241, o]]; exact ⟨fun _ => kz (by omega), fun z => absurd z (by decide), fun z => absurd z (by decide), fun z => absurd z (by decide), fun z => absurd z (by decide), fun _ w _ _ _ _ _ _ _ _ _ _ _ _ _ _ _ _ _ => absurd rfl w⟩
    · rw [show V 241 q = 5 by rw [m241, o]]; exact ⟨fun z => absurd z (by decide), fun _ => kw (by omega), fun z => absurd z (by decide), fun z => absurd z (by decide), fun z => absurd z (by decide), fun _ _ _ _ _ _ _ _ w _ _ _ _ _ _ _ _ _ _ => absurd rfl w⟩
    · rw [show V 241 q = 6 by rw [m241, o]]; exact ⟨fun z => absurd z (by decide), fun z => absurd z (by decide), fun z => absurd z (by decide), fun z => absurd z (by decide), fun z => absurd z (by decide), fun _ _ _ _ _ _ _ _ _ _ _ _ _ _ _ _ _ _ _ => ka (by omega)⟩
    · rw [show V 241 q = 7 by rw [m241, o]]; exact ⟨fun _ => kz (by omega), fun z => absurd z (by decide), fun z => absurd z (by decide), fun z => absurd z (by decide), fun z => absurd z (by decide), fun _ _ w _ _ _ _ _ _ _ _ _ _ _ _ _ _ _ _ => absurd rfl w⟩
    · rw [show V 241 q = 8 by rw [m241, o]]; exact ⟨fun _ => kz (by omega), fun z => absurd z (by decide), fun z => absurd z (by decide), fun z => absurd z (by decide), fun z => absurd z (by decide), fun _ _ _ w _ _ _ _ _ _ _ _ _ _ _ _ _ _ _ => absurd rfl w⟩
    · rw [show V 241 q = 9 by rw [m241, o]]; exact ⟨fun _ => kz (by omega), fun z => absurd z (by decide), fun z => absurd z (by decide), fun z => absurd z (by decide), fun z => absurd z (by decide), fun _ _ _ _ w _ _ _ _ _ _ _ _ _ _ _ _ _ _ => absurd rfl w⟩
    · rw [show V 241 q = 10 by rw [m241, o]]; exact ⟨fun _ => kz (by omega), fun z => absurd z (by decide), fun z => absurd z (by decide), fun z => absurd z (by decide), fun z => absurd z (by decide), fun _ _ _ _ _ w _ _ _ _ _ _ _ _ _ _ _ _ _ => absurd rfl w⟩
    · rw [show V 241 q = 11 by rw [m241, o]]; exact ⟨fun _ => kz (by omega), fun z => absurd z (by decide), fun z => absurd z (by decide), fun z => absurd z (by decide), fun z => absurd z (by decide), fun _ _ _ _ _ _ w _ _ _ _ _ _ _ _ _ _ _ _ => absurd rfl w⟩
    · rw [show V 241 q = 12 by rw [m241, o]]; exact ⟨fun z => absurd z (by decide), fun _ => kw (by omega), fun z => absurd z (by decide), fun z => absurd z (by decide), fun z => absurd z (by decide), fun _ _ _ _ _ _ _ _ _ w _ _ _ _ _ _ _ _ _ => absurd rfl w⟩
    · rw [show V 241 q = 13 by rw [m241, o]]; exact ⟨fun z => absurd z (by decide), fun _ => kw (by omega), fun z => absurd z (by decide), fun z => absurd z (by decide), fun z => absurd z (by decide), fun _ _ _ _ _ _ _ _ _ _ w _ _ _ _ _ _ _ _ => absurd rfl w⟩
    · rw [show V 241 q = 14 by rw [m241, o]]; exact ⟨fun z => absurd z (by decide), fun _ => kw (by omega), fun z => absurd z (by decide), fun z => absurd z (by decide), fun z => absurd z (by decide), fun _ _ _ _ _ _ _ _ _ _ _ w _ _ _ _ _ _ _ => absurd rfl w⟩
    · rw [show V 241 q = 15 by rw [m241, o]]; exact ⟨fun z => absurd z (by decide), fun _ => kw (by omega), fun z => absurd z (by decide), fun z => absurd z (by decide), fun z => absurd z (by decide), fun _ _ _ _ _ _ _ _ _ _ _ _ w _ _ _ _ _ _ => absurd rfl w⟩
    · rw [show V 241 q = 16 by rw [m241, o]]; exact ⟨fun z => absurd z (by decide), fun _ => kw (by omega), fun z => absurd z (by decide), fun z => absurd z (by decide), fun z => absurd z (by decide), fun _ _ _ _ _ _ _ _ _ _ _ _ _ w _ _ _ _ _ => absurd rfl w⟩
    · rw [show V 241 q = 17 by rw [m241, o]]; exact ⟨fun z => absurd z (by decide), fun _ => kw (by omega), fun z => absurd z (by decide), fun z => absurd z (by decide), fun z => absurd z (by decide), fun _ _ _ _ _ _ _ _ _ _ _ _ _ _ w _ _ _ _ => absurd rfl w⟩
    · rw [show V 241 q = 18 by rw [m241, o]]; exact ⟨fun z => absurd z (by decide), fun z => absurd z (by decide), fun z => absurd z (by decide), fun _ => kb o, fun z => absurd z (by decide), fun _ _ _ _ _ _ _ _ _ _ _ _ _ _ _ _ _ w _ => absurd rfl w⟩
    · rw [show V 241 q = 19 by rw [m241, o]]; exact ⟨fun z => absurd z (by decide), fun z => absurd z (by decide), fun z => absurd z (by decide), fun z => absurd z (by decide), fun z => absurd z (by decide), fun _ _ _ _ _ _ _ _ _ _ _ _ _ _ _ _ _ _ _ => ka (by omega)⟩
    · rw [show V 241 q = 20 by rw [m241, o]]; exact ⟨fun z => absurd z (by decide), fun z => absurd z (by decide), fun z => absurd z (by decide), fun z => absurd z (by decide), fun z => absurd z (by decide), fun _ _ _ _ _ _ _ _ _ _ _ _ _ _ _ _ _ _ _ => ka (by omega)⟩
    · rw [show V 241 q = 21 by rw [m241, o]]; exact ⟨fun z => absurd z (by decide), fun z => absurd z (by decide), fun z => absurd z (by decide), fun z => absurd z (by decide), fun z => absurd z (by decide), fun _ _ _ _ _ _ _ _ _ _ _ _ _ _ _ _ _ _ _ => ka (by omega)⟩
    · rw [show V 241 q = 22 by rw [m241, o]]; exact ⟨fun z => absurd z (by decide), fun z => absurd z (by decide), fun z => absurd z (by decide), fun z => absurd z (by decide), fun _ => kc o, fun _ _ _ _ _ _ _ _ _ _ _ _ _ _ _ _ _ _ w => absurd rfl w⟩
  · obtain ⟨hq, f1, g1, hx⟩ := hI
    have s26 : V 222 26 = (M0 222 26) := by rw [f1 222 (by decide)]; exact hb.2.1 26 (by decide)
    exact r_Model_findTypes_2 g1 ⟨by omega, by omega⟩ ⟨fun _ => h V f1 g1 (fun x a b => hx x a (by omega)), fun z => by rw [s26] at z; omega⟩
/-- the model's faults 3 -/
def g_H3 (M0 M2 : ax_V) (F : Int → Int) (M : ax_V) (T : Int → Prop) : Prop := (g_fr [222, 253] M2 M ∧ g_sc [73] M2 M ∧ ax_g M) ∧ (∀ q, 0 ≤ q → q < (M0 222 26) → M 253 q = F q) ∧ ∀ t, t < 701 → (m_nb M ≤ t ↔ T t)
set_option maxHeartbeats 4000000 in
theorem s_kind3 (hS : g_S C0 M0) (ok : g_N2 M0) (hF : g_F C0 M0 F) (hb : g_MB C0 M0 M) (hT : ∀ t, t < 701 → (m_nb M ≤ t ↔ T t)) (h : ∀ V', g_H3 M0 M F V' (fun t => T t ∨ ∃ n, (0 ≤ n ∧ n < (M0 222 86)) ∧ g_w3 C0 M0 F n t) → Ψ V') : ax_N ay_lay (d + 5) q_Model_checkKind [.ref 222, ax_i 3] M Ψ Θ := by
  have p0 := hS.2.2.1.1
  have hat := hS.2.2.2.2.2.2.2
  have hct := hS.2.2.2.2.1.1
  have hc1 := hct.1
  have hc3 := hct.2.2.1
  have hc5 := hct.2.2.2.2.1
  refine r_Model_checkKind hb.2.2.1 (by decide) ⟨fun q => absurd q (by decide), fun _ => ?_, fun q => absurd q (by decide), fun q => absurd q (by decide), fun _ q => absurd rfl q⟩
  refine s_findTypes hS ok hF hb (fun N f1 g1 hf => ?_)
  have bN : g_MB C0 M0 N := ⟨hb.1.tr (f1.up (by decide)), fun j z => by rw [f1 222 (by decide)]; exact hb.2.1 j z, g1, fun q a b o => by rw [f1 251 (by decide)]; exact hb.2.2.2 q a b o⟩
  have hTN : ∀ t, t < 701 → (m_nb N ≤ t ↔ T t) := fun t w => by
    have e : m_nb N = m_nb M := by unfold m_nb; rw [f1 222 (by decide)]
    rw [e]; exact hT t w
  have yk : ax_y (some (ax_i 3)) := ax_y_i _
  have hfV : ∀ {V : ax_V} {T' : Int → Prop}, g_H1 N V T' → ∀ x, 0 ≤ x → x < (M0 222 26) → V 253 x = F x := fun hV x a b => by rw [hV.1 253 (by decide)]; exact hf x a b
  have tr : ∀ {V V' : ax_V} {T1 T2 : Int → Prop}, g_H1 N V T1 → g_H1 V V' T2 → g_H1 N V' T2 := fun a b => ⟨a.1.tr b.1, fun j z => (b.2.1 j z).trans (a.2.1 j z), b.2.2.1, b.2.2.2⟩
  refine ax_for (I := fun q V => (0 ≤ q ∧ q ≤ (M0 222 26)) ∧ g_H1 N V (fun t => T t ∨ ∃ x, (0 ≤ x ∧ x < q) ∧ g_b3 C0 M0 F x t)) (K := fun q V => k_Model_checkKind_70 (d + 4) (some (ax_i 3)) q V Ψ Θ) (hi := (M0 222 26)) (fun q V w hI next => ?_) (fun q V w hI => ?_) 0 N ⟨⟨by decide, p0.2.1⟩, (g_H1.rf g1 hTN).of (fun t _ => ⟨fun z => Or.inl z, fun z => by rcases z with z | ⟨x, x0, -⟩; exact z; omega⟩)⟩
  · obtain ⟨hq, hV⟩ := hI
    have b := hV.b bN
    refine r_Model_checkKind_70 b.2.2.1 yk ⟨by omega, by omega⟩ ?_
    rw [b.2.1 26 (by decide)]
    refine ⟨fun z => by omega, fun _ => s_checkTypes hS ok hF b (hfV hV) hq.1 w hV.2.2.2 (fun V' hV' => next V' ⟨⟨by omega, by omega⟩, (tr hV hV').of (fun t _ => ?_)⟩)⟩
    constructor
    · rintro ((z | ⟨x, x0, x1⟩) | z)
      · exact Or.inl z
      · exact Or.inr ⟨x, ⟨x0.1, by omega⟩, x1⟩
      · exact Or.inr ⟨q, ⟨hq.1, by omega⟩, z⟩
    · rintro (z | ⟨x, x0, x1⟩)
      · exact Or.inl (Or.inl z)
      · by_cases y : x = q
        · rw [y] at x1; exact Or.inr x1
        · exact Or.inl (Or.inr ⟨x, ⟨x0.1, by omega⟩, x1⟩)
  · obtain ⟨hq, hV⟩ := hI
    have eq : q = (M0 222 26) := by omega
    rw [eq] at hV
    have b := hV.b bN
    refine r_Model_checkKind_70 b.2.2.1 yk ⟨by omega, by omega⟩ ?_
    rw [b.2.1 26 (by decide)]
    refine ⟨fun _ => ?_, fun z => by omega⟩
    obtain ⟨T1, eT1⟩ : ∃ X : Int → Prop, X = (fun t => T t ∨ ∃ x, (0 ≤ x ∧ x < (M0 222 26)) ∧ g_b3 C0 M0 F x t) := ⟨_, rfl⟩
    rw [← eT1] at hV
    refine ax_for (I := fun e V => (0 ≤ e ∧ e ≤ (M0 222 44)) ∧ g_H1 N V (fun t => T1 t ∨ ∃ x, (0 ≤ x ∧ x < e) ∧ g_b3e C0 M0 F x t)) (K := fun e V => k_Model_checkKind_91 (d + 4) (some (ax_i 3)) e V Ψ Θ) (hi := (M0 222 44)) (fun e V w hI next => ?_) (fun e V w hI => ?_) 0 V ⟨⟨by decide, by omega⟩, hV.of (fun t _ => ⟨fun z => Or.inl z, fun z => by rcases z with z | ⟨x, x0, -⟩; exact z; omega⟩)⟩
    · obtain ⟨he, hV⟩ := hI
      have b := hV.b bN
      refine r_Model_checkKind_91 b.2.2.1 yk ⟨by omega, by omega⟩ ?_
      rw [b.2.1 44 (by decide)]
      refine ⟨fun z => by omega, fun _ => s_checkEquation hS ok b (hfV hV) he.1 w hV.2.2.2 (fun V' hV' => next V' ⟨⟨by omega, by omega⟩, (tr hV hV').of (fun t _ => ?_)⟩)⟩
      constructor
      · rintro ((z | ⟨x, x0, x1⟩) | z)
        · exact Or.inl z
        · exact Or.inr ⟨x, ⟨x0.1, by omega⟩, x1⟩
        · exact Or.inr ⟨e, ⟨he.1, by omega⟩, z⟩
      · rintro (z | ⟨x, x0, x1⟩)
        · exact Or.inl (Or.inl z)
        · by_cases y : x = e
          · rw [y] at x1; exact Or.inr x1
          · exact Or.inl (Or.inr ⟨x, ⟨x0.1, by omega⟩, x1⟩)
    · obtain ⟨he, hV⟩ := hI
      have ee : e = (M0 222 44) := by omega
      rw [ee] at hV
      have b := hV.b bN
      refine r_Model_checkKind_91 b.2.2.1 yk ⟨by omega, by omega⟩ ?_
      rw [b.2.1 44 (by decide)]
      refine ⟨fun _ => ?_, fun z => by omega⟩
      obtain ⟨T2, eT2⟩ : ∃ X : Int → Prop, X = (fun t => T1 t ∨ ∃ x, (0 ≤ x ∧ x < (M0 222 44)) ∧ g_b3e C0 M0 F x t) := ⟨_, rfl⟩
      rw [← eT2] at hV
      refine ax_for (I := fun m V => (0 ≤ m ∧ m ≤ (M0 222 60)) ∧ g_H1 N V (fun t => T2 t ∨ ∃ x, (0 ≤ x ∧ x < m) ∧ ¬ F (M0 277 x) = 1 ∧ M0 242 (M0 277 x) ≤ t)) (K := fun m V => k_Model_checkKind_112 (d + 4) (some (ax_i 3)) m V Ψ Θ) (hi := (M0 222 60)) (fun m V w hI next => ?_) (fun m V w hI => ?_) 0 V ⟨⟨by decide, by omega⟩, hV.of (fun t _ => ⟨fun z => Or.inl z, fun z => by rcases z with z | ⟨x, x0, -⟩; exact z; omega⟩)⟩
      · obtain ⟨hm, hV⟩ := hI
        have b := hV.b bN
        have fw := (hS.2.2.2.2.1.2.2.2.2.1 m hm.1 w).2.2.2.2.2.2.2
        have fw1 := fw.1
        refine r_Model_checkKind_112 b.2.2.1 yk ⟨by omega, by omega⟩ ?_
        rw [b.2.1 60 (by decide), b.1 277 (by decide)]
        refine ⟨fun z => by omega, fun _ => ⟨⟨hm.1, by omega⟩, s_must hS bN hf hV (by omega) fw1.2.2 (by decide) (fun V' hV' => next V' ⟨⟨by omega, by omega⟩, hV'.of (fun t _ => ?_)⟩)⟩⟩
        constructor
        · rintro ((z | ⟨x, x0, x1⟩) | z)
          · exact Or.inl z
          · exact Or.inr ⟨x, ⟨x0.1, by omega⟩, x1⟩
          · exact Or.inr ⟨m, ⟨hm.1, by omega⟩, z⟩
        · rintro (z | ⟨x, x0, x1⟩)
          · exact Or.inl (Or.inl z)
          · by_cases y : x = m
            · rw [y] at x1; exact Or.inr x1
            · exact Or.inl (Or.inr ⟨x, ⟨x0.1, by omega⟩, x1⟩)
      · obtain ⟨hm, hV⟩ := hI
        have em : m = (M0 222 60) := by omega
        rw [em] at hV
        have b := hV.b bN
        refine r_Model_checkKind_112 b.2.2.1 yk ⟨by omega, by omega⟩ ?_
        rw [b.2.1 60 (by decide)]
        refine ⟨fun _ => h V ⟨⟨(f1.up (by decide)).tr (hV.1.up (by decide)), fun j z => by rw [hV.2.1 j z, f1 222 (by decide)], hV.2.2.1⟩, fun x x0 x1 => hfV hV x x0 x1, fun t w => (hV.2.2.2 t w).trans ?_⟩, fun z => by omega⟩
        rw [eT2, eT1]
        constructor
        · rintro (((z | ⟨x, x0, x1⟩) | ⟨x, x0, x1⟩) | ⟨x, x0, x1⟩)
          · exact Or.inl z
          · exact Or.inr ⟨_, (hS.pnode x0.1 x0.2).1, Or.inl ⟨x, x0, rfl, x1⟩⟩
          · have nd := hS.node x0.1 x0.2
            exact Or.inr ⟨_, ⟨nd.1, nd.2.1⟩, Or.inr (Or.inl ⟨x, x0, rfl, x1⟩)⟩
          · have ft := hS.2.2.2.2.1.2.2.2.2.1 x x0.1 x0.2
            have ft1 := ft.1.1
            have tb : M0 271 x < (M0 222 55) := by
              rcases ft.1.2 with y | y
              · have := y.2.1; omega
              · have := y.2.1; have := hc3.1; omega
            exact Or.inr ⟨_, (hS.anode ft1 tb).1, Or.inr (Or.inr ⟨x, x0, rfl, x1⟩)⟩
        · rintro (z | ⟨n, -, ⟨x, x0, -, x2⟩ | ⟨x, x0, -, x2⟩ | ⟨x, x0, -, x2⟩⟩)
          · exact Or.inl (Or.inl (Or.inl z))
          · exact Or.inl (Or.inl (Or.inr ⟨x, x0, x2⟩))
          · exact Or.inl (Or.inr ⟨x, x0, x2⟩)
          · exact Or.inr ⟨x, x0, x2⟩
end Kind3M
