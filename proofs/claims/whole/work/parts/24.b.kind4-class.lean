/-! FAULTS 4, the class: what a part is on -/
section Kind4C
variable {B r d : Nat} {C0 M0 V C : ax_V} {f : Int → Int} {q n : Int} {T : Int → Prop} {Φ : Int → ax_V → Prop} {Ψ Θ : ax_V → Prop}
theorem t_on {p c : Int} (hS : g_S C0 M0) (hC : g_fr g_XJ C0 C) (hJ : g_J1 C V T) (p0 : 0 ≤ p) (p1 : p < (M0 222 26)) (n0 : 0 ≤ n ∧ n < 8) (hx : C 529 p = g_cc n (f p)) (x0 : -1 ≤ f p) (c0 : -1 ≤ c ∧ c ≤ 52) (h : ∀ V', g_J1 C V' (fun t => T t ∨ g_bd M0 f p c t) → Ψ V') : ax_N (az_W B (az_EJ B r)) (d + 2) q_Judge_mustBeOn [.ref r, ax_i p, ax_i (g_cc n c)] V Ψ Θ := by
  have hp := hS.2.2.1.1
  have hat := hS.2.2.2.2.2.2.2
  have pb := (hS.p p0 p1).2.2.1
  have b7 : 0 ≤ p ∧ p < 700 := ⟨p0, by omega⟩
  have rb : ax_rg (M0 242 p) := ⟨by omega, by omega⟩
  have e1 : V 529 p = g_cc n (f p) := by rw [hJ.1 529 (by decide)]; exact hx
  have e2 : V 518 p = M0 242 p := by rw [hJ.1 518 (by decide), hC 518 (by decide)]; exact (hS.p p0 p1).2.1
  have z0 : ∀ w : Int, (¬ w = 0 ↔ (¬ f p = -1 ∧ ¬ f p = c)) → (∀ t, ((T t ∨ (¬ w = 0 ∧ M0 242 p ≤ t)) ↔ (T t ∨ g_bd M0 f p c t))) := fun w hw t => by unfold g_bd; rw [hw, and_assoc]
  refine r_Judge_mustBeOn hJ.2.1 ⟨by omega, by omega⟩ (g_cc_r n0 c0) ⟨b7, ?_⟩
  rw [e1, e2, g_cc_f n0.1 x0, g_cc_eq n0.1 x0 c0.1]
  exact ⟨fun z => ⟨b7, t_blame hJ.2.1 (by decide) rb (h _ ((hJ.bl rb).of (z0 0 ⟨fun y => absurd rfl y, fun y => absurd z y.1⟩)))⟩, fun z => ⟨b7, fun z2 => ⟨b7, t_blame hJ.2.1 (by decide) rb (h _ ((hJ.bl rb).of (z0 0 ⟨fun y => absurd rfl y, fun y => absurd z2 y.2⟩)))⟩, fun z2 => ⟨b7, t_blame hJ.2.1 (by decide) rb (h _ ((hJ.bl rb).of (z0 1 ⟨fun _ => ⟨z, z2⟩, fun _ => by decide⟩)))⟩⟩⟩
theorem t_common (hS : g_S C0 M0) (hv : g_fr g_XJ C0 V) (hg : ax_g V) (q0 : 0 ≤ q) (q1 : q < (M0 222 26)) (n0 : 0 ≤ n ∧ n < 8) (hx : ∀ k : Nat, ¬ g_kd M0 q k = -1 → V 529 (g_kd M0 q k) = g_cc n (f (g_kd M0 q k)) ∧ -1 ≤ f (g_kd M0 q k) ∧ f (g_kd M0 q k) ≤ 52) (hT : ∀ t, (V 601 5) ≤ t ↔ T t) (h : ∀ V', g_J1 V V' (fun t => T t ∨ ∃ k : Nat, 0 ≤ g_kd M0 q k ∧ g_bd M0 f (g_kd M0 q k) (g_jn M0 f q 700) t) → Φ (g_cc n (g_jn M0 f q 700)) V') : ax_I (az_W B (az_EJ B r)) (d + 3) q_Judge_commonClock [.ref r, ax_i (g_kd M0 q 0)] V Φ Θ := by
  have hp := hS.2.2.1.1
  have hat := hS.2.2.2.2.2.2.2
  obtain ⟨K, K7, KE, KA, -⟩ := hS.kids q0 q1
  have jb := g_jn_b M0 (f := f) (q := q) (fun k z => (hx k z).2)
  have jK : g_jn M0 f q 700 = g_jn M0 f q K := by
    have := g_jn_en M0 (f := f) (q := q) KE (700 - K)
    rw [show K + (700 - K) = 700 by omega] at this
    exact this
  have jS : ∀ k, k ≤ K → ¬ g_jn M0 f q k = -1 → g_jn M0 f q 700 = g_jn M0 f q k := fun k k0 z => by
    have := g_jn_st M0 z (700 - k)
    rw [show k + (700 - k) = 700 by omega] at this
    exact this
  have r0 : ax_rg (g_kd M0 q 0) := by
    by_cases z : g_kd M0 q 0 = -1
    · rw [z]; decide
    · have := hS.kidb q0 q1 z; exact ⟨by omega, by omega⟩
  have lp : ∀ (m k : Nat), k ≤ K → K - k ≤ m → ∀ V1 T1, g_J1 V V1 T1 → (∀ t, T1 t ↔ (T t ∨ ∃ x : Nat, x < k ∧ 0 ≤ g_kd M0 q x ∧ g_bd M0 f (g_kd M0 q x) (g_jn M0 f q 700) t)) → k_Judge_commonClock_8 B r (d + 2) (some (ax_i (g_kd M0 q 0))) (g_cc n (g_jn M0 f q k)) (g_kd M0 q k) (k : Int) V1 Φ Θ := by
    intro m
    induction m with
    | zero =>
      intro k k0 k1 V1 T1 hJ hT1
      have ek : k = K := by omega
      rw [ek] at hT1 ⊢
      rw [KE K (Nat.le_refl _), ← jK]
      have fin := h V1 (hJ.of (fun t => by
        rw [hT1 t]
        constructor
        · rintro (y | ⟨x, -, x1⟩)
          · exact Or.inl y
          · exact Or.inr ⟨x, x1⟩
        · rintro (y | ⟨x, x1⟩)
          · exact Or.inl y
          · refine Or.inr ⟨x, ?_, x1⟩
            by_cases z : K ≤ x
            · have := KE x z; omega
            · omega))
      exact r_Judge_commonClock_8 hJ.2.1 (ax_y_i _) (g_cc_r n0 (jb 700)) (by decide) ⟨by omega, by omega⟩ ⟨fun _ => fin, fun _ => ⟨fun _ => fin, fun z => absurd z (by decide)⟩⟩
    | succ m ih =>
      intro k k0 k1 V1 T1 hJ hT1
      by_cases ek : k = K
      · exact ih k k0 (by omega) V1 T1 hJ hT1
      · obtain ⟨a1, a2, a3⟩ := KA k (by omega)
        have hk := hx k (by omega)
        have b3 : 0 ≤ g_kd M0 q k ∧ g_kd M0 q k < 700 := ⟨a1.1, by omega⟩
        have js : g_jn M0 f q (k + 1) = if g_jn M0 f q k = -1 then (if g_kd M0 q k = -1 then -1 else f (g_kd M0 q k)) else g_jn M0 f q k := rfl
        refine r_Judge_commonClock_8 hJ.2.1 (ax_y_i _) (g_cc_r n0 (jb k)) ⟨by omega, by omega⟩ ⟨by omega, by omega⟩ ⟨fun z => by omega, fun _ => ⟨fun z => by omega, fun _ => ?_⟩⟩
        rw [g_cc_f n0.1 (jb k).1]
        refine ⟨fun z => ⟨b3, b3, ?_⟩, fun z => ?_⟩
        · rw [if_pos z, if_neg (by omega)] at js
          rw [hJ.1 529 (by decide), hJ.1 522 (by decide), hv 522 (by decide), hk.1, a2, ← js]
          have := ih (k + 1) (by omega) (by omega) V1 T1 hJ (fun t => by
            rw [hT1 t]
            constructor
            · rintro (y | ⟨x, x0, x1⟩)
              · exact Or.inl y
              · exact Or.inr ⟨x, by omega, x1⟩
            · rintro (y | ⟨x, x0, x1, x2, x3, x4⟩)
              · exact Or.inl y
              · by_cases ex : x = k
                · rw [ex] at x2 x3
                  exact absurd (by rw [← js]; exact (jS (k + 1) (by omega) (by rw [js]; exact x2)).symm) x3
                · exact Or.inr ⟨x, by omega, x1, x2, x3, x4⟩)
          exact this
        · rw [if_neg z] at js
          refine t_on hS hv hJ a1.1 (by omega) n0 hk.1 hk.2.1 (jb k) (fun V2 hV2 => ⟨b3, ?_⟩)
          rw [hV2.1 522 (by decide), hv 522 (by decide), a2, ← js]
          have := ih (k + 1) (by omega) (by omega) V2 _ hV2 (fun t => by
            rw [hT1 t, ← jS k k0 z]
            constructor
            · rintro ((y | ⟨x, x0, x1⟩) | y)
              · exact Or.inl y
              · exact Or.inr ⟨x, by omega, x1⟩
              · exact Or.inr ⟨k, by omega, a1.1, y⟩
            · rintro (y | ⟨x, x0, x1⟩)
              · exact Or.inl (Or.inl y)
              · by_cases ex : x = k
                · rw [ex] at x1; exact Or.inr x1.2
                · exact Or.inl (Or.inr ⟨x, by omega, x1⟩))
          exact this
  refine r_Judge_commonClock hg r0 ?_
  have := lp K 0 (by omega) (by omega) V T ⟨g_fr.rf _ _, hg, hT⟩ (fun t => ⟨fun y => Or.inl y, fun y => by rcases y with y | ⟨x, x0, -⟩; exact y; omega⟩)
  exact this
set_option maxHeartbeats 4000000 in
theorem t_clockOf (hS : g_S C0 M0) (hv : g_fr g_XJ C0 V) (hg : ax_g V) (q0 : 0 ≤ q) (q1 : q < (M0 222 26)) (hx : ∀ x, 0 ≤ x → x < q → M0 250 x = M0 250 q → V 529 x = g_cc (M0 250 q) (f x)) (hb : ∀ x, 0 ≤ x → x < q → -1 ≤ f x ∧ f x ≤ 52) (hT : ∀ t, (V 601 5) ≤ t ↔ T t) (h : ∀ V', g_J1 V V' (fun t => T t ∨ g_b4 M0 f q t) → Φ (g_cc (M0 250 q) (g_kf M0 f q)) V') : ax_I (az_W B (az_EJ B r)) (d + 5) q_Judge_clockOf [.ref r, ax_i q] V Φ Θ := by
  have hp := hS.2.2.1.1
  have hat := hS.2.2.2.2.2.2.2
  have hN := hS.2.1
  have pn := (hS.pnode q0 q1).1
  have pq := hS.p q0 q1
  have dt := pq.2.2.2.2.2.2.1
  have ar := hS.ar q0 q1
  have o9 := hS.op q0 q1
  obtain ⟨K, K7, KE, KA, KF⟩ := hS.kids q0 q1
  obtain ⟨n, en⟩ : ∃ n : Int, n = M0 250 q := ⟨_, rfl⟩
  have ck := fun o => hS.ck pn.1 pn.2 (hS.pl q0 q1 o).1 (hS.pl q0 q1 o).2
  have pl := fun o => hS.pl q0 q1 o
  rw [← en] at hx h pn ck
  have n8 : 0 ≤ n ∧ n < 8 := ⟨pn.1, by omega⟩
  have b7 : 0 ≤ q ∧ q < 700 := ⟨q0, by omega⟩
  have rq : ax_rg q := ⟨by omega, by omega⟩
  have hk : ∀ k : Nat, ¬ g_kd M0 q k = -1 → V 529 (g_kd M0 q k) = g_cc n (f (g_kd M0 q k)) ∧ -1 ≤ f (g_kd M0 q k) ∧ f (g_kd M0 q k) ≤ 52 := fun k z => by
    have a := hS.kidb q0 q1 z
    have k1 : k < K := by
      by_cases y : K ≤ k
      · exact absurd (KE k y) z
      · omega
    exact ⟨hx _ a.1 a.2 (by rw [en]; exact (KA k k1).2.2), hb _ a.1 a.2⟩
  have jb := g_jn_b M0 (f := f) (q := q) (fun k z => (hk k z).2) 700
  have J0 : g_J1 V V T := ⟨g_fr.rf _ _, hg, hT⟩
  have v517 : V 517 = C0 517 := hv 517 (by decide)
  have v520 : V 520 = C0 520 := hv 520 (by decide)
  have v521 : V 521 = C0 521 := hv 521 (by decide)
  have v522 : V 522 = C0 522 := hv 522 (by decide)
  have v536 : V 536 = C0 536 := hv 536 (by decide)
  have hE : (C0 517 q = M0 241 q ∧ (M0 241 q ≤ 3 ∨ 20 ≤ M0 241 q)) ∨ ((4 ≤ M0 241 q ∧ M0 241 q ≤ 19) ∧ 4 ≤ C0 517 q ∧ C0 517 q ≤ 19) := by
    rw [o9.2]
    unfold e_op
    split
    · omega
    · split
      · omega
      · split
        · omega
        · split <;> omega
  have o1 := o9.1
  clear o9
  have nb4 : (0 ≤ M0 241 q ∧ M0 241 q ≤ 3) → ∀ t, ¬ g_b4 M0 f q t := by
    intro o t
    rintro (z | z | ⟨-, -, k, k0, -⟩ | z)
    · omega
    · omega
    · have e : g_kd M0 q k = if k = 0 then M0 245 q else if k = 1 then M0 246 q else if k = 2 then M0 247 q else -1 := if_neg (by omega)
      rw [e] at k0
      revert k0
      split
      · rcases ar with z | z | z | z | z <;> omega
      · split
        · rcases ar with z | z | z | z | z <;> omega
        · split
          · rcases ar with z | z | z | z | z <;> omega
          · omega
    · omega
  have same : (0 ≤ M0 241 q ∧ M0 241 q ≤ 3) → Φ (g_cc n (g_kf M0 f q)) V := fun o => h V (J0.of (fun t => ⟨fun z => Or.inl z, fun z => by rcases z with z | z; exact z; exact absurd z (nb4 o t)⟩))
  refine r_Judge_clockOf hg rq ⟨b7, b7, b7, ?_⟩
  rw [v517, v520, v521, v536, KF]
  refine ⟨fun z => ?_, fun z => ?_, fun z => ?_, fun z => ?_, fun z => ?_, fun z => ?_, fun z => ?_, fun z0 z1 z2 z3 z4 z5 z6 => ?_⟩
  · have s := same (by omega)
    rw [show g_kf M0 f q = -1 from if_pos (by omega)] at s
    exact s
  · have s := same (by omega)
    rw [show g_kf M0 f q = -1 from if_pos (by omega)] at s
    exact s
  · have o : M0 241 q = 2 := by omega
    have s := same (by omega)
    have l := pl (Or.inl o)
    have d3 := dt.2.2.1 (Or.inl o)
    unfold g_kf at s
    rw [if_neg (by omega), if_pos (by omega), ← en, ← (ck (Or.inl o)).1] at s
    rw [d3.2.1, ← en]
    exact ⟨⟨by omega, by omega⟩, s⟩
  · have o : M0 241 q = 3 := by omega
    have s := same (by omega)
    have l := pl (Or.inr (Or.inl o))
    have d3 := dt.2.2.1 (Or.inr (Or.inl o))
    unfold g_kf at s
    rw [if_neg (by omega), if_pos (by omega), ← en, ← (ck (Or.inr (Or.inl o))).1] at s
    rw [d3.2.1, ← en]
    exact ⟨⟨by omega, by omega⟩, s⟩
  · have o : M0 241 q = 20 := by omega
    have l := pl (Or.inr (Or.inr (Or.inl o)))
    have d4 := dt.2.2.2.1 o
    have c := ck (Or.inr (Or.inr (Or.inl o)))
    have kd := hS.kid q0 q1 (by omega)
    have a0 : 0 ≤ M0 245 q := by rcases ar with z | z | z | z | z <;> omega
    have e0 : g_kd M0 q 0 = M0 245 q := (if_neg (by omega)).trans (if_pos rfl)
    have ha := hk 0 (by omega)
    rw [e0] at ha
    have es : ax_shr (C0 520 q) 1 = 26 * n + M0 248 q := by rw [d4.2.2.1, ← en, b_shr ⟨by omega, by omega⟩]; omega
    rw [es, c.1, e0]
    refine ⟨⟨by omega, by omega⟩, t_on hS hv J0 a0 (by omega) n8 ha.1 ha.2.1 (by omega) (fun V' hV' => ?_)⟩
    have s := h V' (hV'.of (fun t => ?_))
    · unfold g_kf at s
      rw [if_neg (by omega), if_neg (by omega), if_pos o] at s
      have e : C0 520 q = g_cc n (2 * M0 248 q + 2 - M0 249 q) := by
        rw [d4.2.2.1, ← en]; unfold g_cc; rw [if_neg (by omega)]; omega
      rw [e]; exact s
    · unfold g_b4
      rw [← en]
      constructor
      · rintro (y | y)
        · exact Or.inl y
        · exact Or.inr (Or.inl ⟨o, y⟩)
      · rintro (y | y | y | y | y)
        · exact Or.inl y
        · exact Or.inr y.2
        · omega
        · exact absurd o y.1
        · omega
  · have o : M0 241 q = 21 := by omega
    have o' : M0 241 q = 2 ∨ M0 241 q = 3 ∨ M0 241 q = 20 ∨ M0 241 q = 21 ∨ (M0 241 q = 22 ∧ ¬ M0 248 q = -1) := by omega
    have l := pl o'
    have d3 := dt.2.2.1 (Or.inr (Or.inr o))
    have c := ck o'
    have kd := hS.kid q0 q1 (by omega)
    have a0 : 0 ≤ M0 245 q ∧ 0 ≤ M0 246 q := by rcases ar with z | z | z | z | z <;> omega
    have e0 : g_kd M0 q 0 = M0 245 q := (if_neg (by omega)).trans (if_pos rfl)
    have e1 : g_kd M0 q 1 = M0 246 q := (if_neg (by omega)).trans (by rw [if_neg (by decide), if_pos rfl])
    have ha := hk 0 (by omega)
    have hb' := hk 1 (by omega)
    rw [e0] at ha
    rw [e1] at hb'
    rw [d3.2.1, ← en, e0, show 2 * (26 * n + M0 248 q) = g_cc n (2 * M0 248 q + 1) by unfold g_cc; rw [if_neg (by omega)]; omega, show g_cc n (2 * M0 248 q + 1) + 1 = g_cc n (2 * M0 248 q + 2) by unfold g_cc; rw [if_neg (by omega), if_neg (by omega)]; omega]
    refine t_on hS hv J0 a0.1 (by omega) n8 ha.1 ha.2.1 (by omega) (fun V1 h1 => ⟨⟨a0.1, by omega⟩, ?_⟩)
    rw [h1.1 522 (by decide), v522, kd.2.2.2.2.1 a0.1]
    refine t_on hS hv h1 a0.2 (by omega) n8 hb'.1 hb'.2.1 (by omega) (fun V2 h2 => ⟨⟨by omega, by omega⟩, ?_⟩)
    have s := h V2 (h2.of (fun t => ?_))
    · unfold g_kf at s
      rw [if_neg (by omega), if_pos (by omega), ← en, ← c.1] at s
      rw [h2.1 536 (by decide), v536]
      exact s
    · unfold g_b4
      constructor
      · rintro ((y | y) | y)
        · exact Or.inl y
        · exact Or.inr (Or.inr (Or.inl ⟨o, Or.inl y⟩))
        · exact Or.inr (Or.inr (Or.inl ⟨o, Or.inr y⟩))
      · rintro (y | y | ⟨-, y | y⟩ | y | y)
        · exact Or.inl (Or.inl y)
        · omega
        · exact Or.inl (Or.inr y)
        · exact Or.inr y
        · exact absurd o y.2.1
        · omega
  · have o : M0 241 q = 22 := by omega
    have d7 := dt.2.2.2.2.2.2 o
    have kf : g_kf M0 f q = if g_jn M0 f q 700 = -1 then (if M0 248 q = -1 then 0 else M0 235 (26 * n + M0 248 q)) else g_jn M0 f q 700 := by
      unfold g_kf
      rw [if_neg (by omega), if_neg (by omega), if_neg (by omega), if_pos o, ← en]
    have b4 : ∀ t, g_b4 M0 f q t ↔ ((∃ k : Nat, 0 ≤ g_kd M0 q k ∧ g_bd M0 f (g_kd M0 q k) (g_jn M0 f q 700) t) ∨ (¬ M0 248 q = -1 ∧ ¬ g_jn M0 f q 700 = -1 ∧ ¬ M0 235 (26 * n + M0 248 q) = g_jn M0 f q 700 ∧ M0 244 q ≤ t)) := fun t => by
      unfold g_b4
      rw [← en]
      constructor
      · rintro (y | y | y | y)
        · omega
        · omega
        · exact Or.inl y.2.2
        · exact Or.inr y.2
      · rintro (y | y)
        · exact Or.inr (Or.inr (Or.inl ⟨by omega, by omega, y⟩))
        · exact Or.inr (Or.inr (Or.inr ⟨o, y⟩))
    rw [kf] at h
    refine r_Judge_clockOfCall hg rq ⟨b7, ?_⟩
    rw [v521, KF]
    refine t_common hS hv hg q0 q1 n8 hk hT (fun V1 h1 => ⟨b7, ?_⟩)
    rw [h1.1 523 (by decide), hv 523 (by decide), h1.1 536 (by decide), v536, h1.1 524 (by decide), hv 524 (by decide), g_cc_f n8.1 jb.1]
    by_cases lz : M0 248 q = -1
    · rw [d7.2.2.1 lz]
      rw [if_pos lz] at h
      have hh := h V1 (h1.of (fun t => by rw [b4 t]; exact ⟨fun y => by rcases y with y | y; exact Or.inl y; exact Or.inr (Or.inl y), fun y => by rcases y with y | y | y; exact Or.inl y; exact Or.inr y; exact absurd lz y.1⟩))
      refine ⟨fun _ => ⟨fun z => ?_, fun z => ?_⟩, fun y => absurd y (by decide)⟩
      · rw [if_pos z] at hh; exact hh
      · rw [if_neg z] at hh; exact hh
    · have l := pl (Or.inr (Or.inr (Or.inr (Or.inr ⟨o, lz⟩))))
      have c := ck (Or.inr (Or.inr (Or.inr (Or.inr ⟨o, lz⟩))))
      have d8 := d7.2.2.2.1 l.1
      have rs : ax_rg (M0 244 q) := ⟨by omega, by omega⟩
      rw [d8.1, ← en, d8.2.1, c.1]
      rw [if_neg lz] at h
      refine ⟨fun y => absurd y (by omega), fun _ => ⟨fun z => ⟨⟨by omega, by omega⟩, ?_⟩, fun z => ⟨⟨by omega, by omega⟩, ?_⟩⟩⟩
      · rw [if_pos z] at h
        exact h V1 (h1.of (fun t => by rw [b4 t]; exact ⟨fun y => by rcases y with y | y; exact Or.inl y; exact Or.inr (Or.inl y), fun y => by rcases y with y | y | y; exact Or.inl y; exact Or.inr y; exact absurd z y.2.1⟩))
      · rw [if_neg z] at h
        rw [g_cc_eq n8.1 (by omega) jb.1]
        have all : ∀ w : Int, (¬ w = 0 ↔ ¬ M0 235 (26 * n + M0 248 q) = g_jn M0 f q 700) → ∀ t, (((T t ∨ ∃ k : Nat, 0 ≤ g_kd M0 q k ∧ g_bd M0 f (g_kd M0 q k) (g_jn M0 f q 700) t) ∨ (¬ w = 0 ∧ M0 244 q ≤ t)) ↔ (T t ∨ g_b4 M0 f q t)) := fun w hw t => by
          rw [b4 t, hw]
          constructor
          · rintro ((y | y) | y)
            · exact Or.inl y
            · exact Or.inr (Or.inl y)
            · exact Or.inr (Or.inr ⟨lz, z, y⟩)
          · rintro (y | y | y)
            · exact Or.inl (Or.inl y)
            · exact Or.inl (Or.inr y)
            · exact Or.inr ⟨y.2.2.1, y.2.2.2⟩
        refine ⟨fun z2 => ⟨b7, t_blame h1.2.1 (by decide) rs ⟨fun y => absurd y z, fun _ => h _ ((h1.bl rs).of (all 0 ⟨fun y => absurd rfl y, fun y => absurd z2 y⟩))⟩⟩, fun z2 => ⟨b7, t_blame h1.2.1 (by decide) rs ⟨fun y => absurd y z, fun _ => h _ ((h1.bl rs).of (all 1 ⟨fun _ => z2, fun _ => by decide⟩))⟩⟩⟩
  · have o : 4 ≤ M0 241 q ∧ M0 241 q ≤ 19 := by omega
    have kf : g_kf M0 f q = g_jn M0 f q 700 := by
      unfold g_kf
      rw [if_neg (by omega), if_neg (by omega), if_neg (by omega), if_neg (by omega)]
    rw [kf] at h
    refine t_common hS hv hg q0 q1 n8 hk hT (fun V1 h1 => h V1 (h1.of (fun t => ?_)))
    unfold g_b4
    constructor
    · rintro (y | y)
      · exact Or.inl y
      · exact Or.inr (Or.inr (Or.inr (Or.inl ⟨by omega, by omega, y⟩)))
    · rintro (y | y | y | y | y)
      · exact Or.inl y
      · omega
      · omega
      · exact Or.inr y.2.2
      · omega
end Kind4C
