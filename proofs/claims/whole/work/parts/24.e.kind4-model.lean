/-! FAULTS 4, the model: what a part is on -/
section Kind4M
variable {d : Nat} {C0 M0 M V : ax_V} {G : Int → Int} {q : Int} {T : Int → Prop} {Φ : Int → ax_V → Prop} {Ψ Θ : ax_V → Prop}
theorem s_on {p c : Int} (hS : g_S C0 M0) (hb : g_MB C0 M0 M) (hf : ∀ x, 0 ≤ x → x < (M0 222 26) → M 254 x = G x) (hH : g_H1 M V T) (p0 : -1 ≤ p) (p1 : p < (M0 222 26)) (rc : ax_rg c) (h : ∀ V', g_H1 M V' (fun t => T t ∨ (0 ≤ p ∧ g_bd M0 G p c t)) → Ψ V') : ax_N ay_lay (d + 2) q_Model_mustBeOn [.ref 222, ax_i p, ax_i c] V Ψ Θ := by
  have hat := hS.2.2.2.2.2.2.2
  have hp0 := hS.2.2.1.1
  have b := hH.b hb
  have rp : ax_rg p := ⟨by omega, by omega⟩
  have no : (∀ t, ¬ (0 ≤ p ∧ g_bd M0 G p c t)) → Ψ V := fun z => h V (hH.of (fun t _ => ⟨fun y => Or.inl y, fun y => by rcases y with y | y; exact y; exact absurd y (z t)⟩))
  by_cases w : p = -1
  · refine r_Model_mustBeOn b.2.2.1 rp rc ⟨fun _ => no (fun t z => by omega), fun z => absurd w z⟩
  · have w0 : 0 ≤ p := by omega
    have pb := (hS.p w0 p1).2.2.1
    have v254 : V 254 p = G p := by rw [hH.1 254 (by decide)]; exact hf p w0 p1
    have b7 : 0 ≤ p ∧ p < 701 := ⟨w0, by omega⟩
    refine r_Model_mustBeOn b.2.2.1 rp rc ⟨fun z => absurd z w, fun _ => ⟨b7, ?_⟩⟩
    rw [v254, b.1 242 (by decide)]
    refine ⟨fun z => no (fun t y => y.2.1 z), fun z => ⟨b7, fun z2 => no (fun t y => y.2.2.1 z2), fun z2 => ⟨b7, s_noteE b.2.2.1 ⟨by omega, by omega⟩ (h _ ((hH.nt (by omega)).of (fun t _ => ?_)))⟩⟩⟩
    exact ⟨fun y => by rcases y with y | y; exact Or.inl y; exact Or.inr ⟨w0, z, z2, y⟩, fun y => by rcases y with y | y; exact Or.inl y; exact Or.inr y.2.2.2⟩
theorem s_join {x y : Int} (hg : ax_g V) (rx : ax_rg x) (ry : ax_rg y) (h : Φ (if x = -1 then y else x) V) : ax_I ay_lay (d + 1) q_Model_join [.ref 222, ax_i x, ax_i y] V Φ Θ := by
  refine r_Model_join hg rx ry ⟨fun z => ?_, fun z => ?_⟩
  · rw [if_pos z] at h; exact h
  · rw [if_neg z] at h; exact h
theorem s_clockOf {n l : Int} (hS : g_S C0 M0) (hb : g_fr g_YM M0 V) (hg : ax_g V) (n0 : 0 ≤ n) (n1 : n < (M0 222 86)) (l0 : 0 ≤ l) (l1 : l < 26) (h : Φ (M0 235 (26 * n + l)) V) : ax_I ay_lay (d + 1) q_Model_clockOf [.ref 222, ax_i n, ax_i l] V Φ Θ := by
  have hN := hS.2.1
  refine r_Model_clockOf hg ⟨by omega, by omega⟩ ⟨by omega, by omega⟩ ⟨⟨by omega, by omega⟩, ?_⟩
  rw [hb 235 (by decide)]
  exact h
/-- three parts at most -/
theorem g_jn_3 (M : ax_V) (o : ¬ M 241 q = 22) : g_jn M G q 700 = (if (if (if M 245 q = -1 then -1 else G (M 245 q)) = -1 then (if M 246 q = -1 then -1 else G (M 246 q)) else (if M 245 q = -1 then -1 else G (M 245 q))) = -1 then (if M 247 q = -1 then -1 else G (M 247 q)) else (if (if M 245 q = -1 then -1 else G (M 245 q)) = -1 then (if M 246 q = -1 then -1 else G (M 246 q)) else (if M 245 q = -1 then -1 else G (M 245 q)))) := by
  have e : ∀ k : Nat, g_kd M q k = if k = 0 then M 245 q else if k = 1 then M 246 q else if k = 2 then M 247 q else -1 := fun k => if_neg o
  have e0 : g_kd M q 0 = M 245 q := (e 0).trans (if_pos rfl)
  have e1 : g_kd M q 1 = M 246 q := (e 1).trans (by rw [if_neg (by decide), if_pos rfl])
  have e2 : g_kd M q 2 = M 247 q := (e 2).trans (by rw [if_neg (by decide), if_neg (by decide), if_pos rfl])
  have e3 : ∀ k, 3 ≤ k → g_kd M q k = -1 := fun k hk => (e k).trans (by rw [if_neg (by omega), if_neg (by omega), if_neg (by omega)])
  have en := g_jn_en M (f := G) (q := q) (K := 3) e3 697
  have j0 : g_jn M G q 0 = -1 := rfl
  have j1 : g_jn M G q 1 = if g_jn M G q 0 = -1 then (if g_kd M q 0 = -1 then -1 else G (g_kd M q 0)) else g_jn M G q 0 := rfl
  have j2 : g_jn M G q 2 = if g_jn M G q 1 = -1 then (if g_kd M q 1 = -1 then -1 else G (g_kd M q 1)) else g_jn M G q 1 := rfl
  have j3 : g_jn M G q 3 = if g_jn M G q 2 = -1 then (if g_kd M q 2 = -1 then -1 else G (g_kd M q 2)) else g_jn M G q 2 := rfl
  rw [if_pos j0, e0] at j1
  rw [j1, e1] at j2
  rw [j2, e2] at j3
  rw [show 3 + 697 = 700 by rfl] at en
  rw [en, j3]
set_option maxHeartbeats 4000000 in
theorem s_findClock (hS : g_S C0 M0) (hb : g_MB C0 M0 V) (q0 : 0 ≤ q) (q1 : q < (M0 222 26)) (hx : ∀ x, 0 ≤ x → x < q → V 254 x = G x) (hG : ∀ x, 0 ≤ x → x < q → -1 ≤ G x ∧ G x ≤ 52) (h : Ψ (ax_u V 254 q (g_kf M0 G q))) : ax_N ay_lay (d + 2) q_Model_findClock [.ref 222, ax_i q] V Ψ Θ := by
  have hp := hS.2.2.1.1
  have hat := hS.2.2.2.2.2.2.2
  have hN := hS.2.1
  have pn := (hS.pnode q0 q1).1
  have dt := (hS.p q0 q1).2.2.2.2.2.2.1
  have ar := hS.ar q0 q1
  have o1 := (hS.op q0 q1).1
  have pl := fun o => hS.pl q0 q1 o
  have ck := fun o => (hS.ck pn.1 pn.2 (pl o).1 (pl o).2).2
  have b7 : 0 ≤ q ∧ q < 701 := ⟨q0, by omega⟩
  have rq : ax_rg q := ⟨by omega, by omega⟩
  have put : ∀ v, v = g_kf M0 G q → ∀ V1, V1 = ax_u V 254 q v → Ψ V1 := fun v ev V1 e1 => by rw [e1, ev]; exact h
  have rG : ∀ x, 0 ≤ x → x < q → ax_rg (G x) := fun x x0 x1 => by have := hG x x0 x1; exact ⟨by omega, by omega⟩
  refine r_Model_findClock hb.2.2.1 rq ⟨b7, b7, ?_⟩
  rw [hb.1 241 (by decide), hb.1 250 (by decide), hb.1 248 (by decide), hb.1 249 (by decide), hb.1 245 (by decide), hb.1 246 (by decide)]
  refine ⟨fun z => ⟨b7, put _ (if_pos z).symm⟩, fun z => ⟨b7, ?_⟩, fun z => ⟨b7, b7, b7, ?_⟩, fun z => ⟨b7, ?_⟩, fun z => ⟨b7, ?_⟩, fun z0 z1 z2 z3 z4 z5 z6 => ⟨b7, ?_⟩⟩
  · have o : M0 241 q = 2 ∨ M0 241 q = 3 ∨ M0 241 q = 20 ∨ M0 241 q = 21 ∨ (M0 241 q = 22 ∧ ¬ M0 248 q = -1) := by omega
    refine s_clockOf hS hb.1 hb.2.2.1 pn.1 pn.2 (pl o).1 (pl o).2 ⟨b7, put _ ?_⟩
    unfold g_kf
    rw [if_neg (by omega), if_pos (by omega)]
  · have l := pl (Or.inr (Or.inr (Or.inl z)))
    have d4 := (dt.2.2.2.1 z).2.1
    refine ⟨⟨by omega, by omega⟩, put _ ?_⟩
    unfold g_kf
    rw [if_neg (by omega), if_neg (by omega), if_pos z]
  · have o : M0 241 q = 2 ∨ M0 241 q = 3 ∨ M0 241 q = 20 ∨ M0 241 q = 21 ∨ (M0 241 q = 22 ∧ ¬ M0 248 q = -1) := by omega
    refine s_clockOf hS hb.1 hb.2.2.1 pn.1 pn.2 (pl o).1 (pl o).2 ⟨b7, put _ ?_⟩
    unfold g_kf
    rw [if_neg (by omega), if_pos (by omega)]
  · obtain ⟨K, K7, KE, KA, -⟩ := hS.kids q0 q1
    obtain ⟨K', -, KE', KA'⟩ := hS.args q0 q1 z
    have e : ∀ k, g_kd M0 q k = e_arg M0 q k := fun k => if_pos z
    have nx : ∀ k, k < K → M0 252 (g_kd M0 q k) = g_kd M0 q (k + 1) := fun k hk => by
      have a := (KA k hk).1.1
      rw [e] at a
      rw [e, e]
      show _ = if e_arg M0 q k = -1 then -1 else M0 252 (e_arg M0 q k)
      rw [if_neg (by omega)]
    have jb := g_jn_b M0 (f := G) (q := q) (fun k y => hG _ (hS.kidb q0 q1 y).1 (hS.kidb q0 q1 y).2)
    have jK : g_jn M0 G q 700 = g_jn M0 G q K := by
      have := g_jn_en M0 (f := G) (q := q) KE (700 - K)
      rw [show K + (700 - K) = 700 by omega] at this
      exact this
    have kf : g_kf M0 G q = if g_jn M0 G q K = -1 then (if M0 248 q = -1 then 0 else M0 235 (26 * M0 250 q + M0 248 q)) else g_jn M0 G q K := by
      unfold g_kf
      rw [if_neg (by omega), if_neg (by omega), if_neg (by omega), if_pos z, jK]
    have rj : ∀ k, ax_rg (g_jn M0 G q k) := fun k => by have := jb k; exact ⟨by omega, by omega⟩
    have lp : ∀ (m k : Nat), k ≤ K → K - k ≤ m → k_Model_findClock_206 (d + 1) q (M0 250 q) (g_jn M0 G q k) (g_kd M0 q k) V Ψ Θ := by
      intro m
      induction m with
      | zero =>
        intro k k0 k1
        have ek : k = K := by omega
        rw [ek, KE K (Nat.le_refl _)]
        refine r_Model_findClock_206 hb.2.2.1 rq ⟨by omega, by omega⟩ (rj K) (by decide) ⟨fun _ => ⟨b7, ?_⟩, fun y => absurd rfl y⟩
        rw [hb.1 248 (by decide)]
        refine ⟨fun y => ⟨fun w => ⟨b7, put _ ?_⟩, fun w => ⟨b7, put _ ?_⟩⟩, fun y => ⟨b7, s_clockOf hS hb.1 hb.2.2.1 pn.1 pn.2 (pl (by omega)).1 (pl (by omega)).2 (s_join hb.2.2.1 (rj K) ?_ ?_)⟩⟩
        · rw [kf, if_pos w, if_pos y]
        · rw [kf, if_neg w]
        · have := ck (by omega); exact ⟨by omega, by omega⟩
        · have c := ck (by omega)
          by_cases w : g_jn M0 G q K = -1
          · rw [if_pos w]
            exact ⟨fun x => by omega, fun _ => ⟨b7, put _ (by rw [kf, if_pos w, if_neg y])⟩⟩
          · rw [if_neg w]
            exact ⟨fun x => absurd x w, fun _ => ⟨b7, put _ (by rw [kf, if_neg w])⟩⟩
      | succ m ih =>
        intro k k0 k1
        by_cases ek : k = K
        · exact ih k k0 (by omega)
        · obtain ⟨a1, a2, a3⟩ := KA k (by omega)
          refine r_Model_findClock_206 hb.2.2.1 rq ⟨by omega, by omega⟩ (rj k) ⟨by omega, by omega⟩ ⟨fun y => by omega, fun _ => ⟨⟨a1.1, by omega⟩, ?_⟩⟩
          rw [hx _ a1.1 a1.2]
          refine s_join hb.2.2.1 (rj k) (rG _ a1.1 a1.2) ⟨⟨a1.1, by omega⟩, ?_⟩
          rw [hb.1 252 (by decide), nx k (by omega)]
          have js : g_jn M0 G q (k + 1) = if g_jn M0 G q k = -1 then (if g_kd M0 q k = -1 then -1 else G (g_kd M0 q k)) else g_jn M0 G q k := rfl
          rw [if_neg (show ¬ g_kd M0 q k = -1 by omega)] at js
          rw [← js]
          exact ih (k + 1) (by omega) (by omega)
    have := lp K 0 (by omega) (by omega)
    rw [e 0] at this
    exact this
  · have o : 4 ≤ M0 241 q ∧ M0 241 q ≤ 19 := by omega
    have kd := hS.kid q0 q1 (by omega)
    have a0 : 0 ≤ M0 245 q := by rcases ar with z | z | z | z | z <;> omega
    have kf : g_kf M0 G q = g_jn M0 G q 700 := by
      unfold g_kf
      rw [if_neg (by omega), if_neg (by omega), if_neg (by omega), if_neg (by omega)]
    rw [g_jn_3 M0 (by omega), if_neg (show ¬ M0 245 q = -1 by omega)] at kf
    rw [hx _ a0 kd.2.1.2]
    have ra := rG _ a0 kd.2.1.2
    -- the third
    have thr : ∀ x4, ax_rg x4 → x4 = (if G (M0 245 q) = -1 then (if M0 246 q = -1 then -1 else G (M0 246 q)) else G (M0 245 q)) → k_Model_findClock_325 (d + 1) q (some (ax_i (M0 250 q))) none x4 V Ψ Θ := by
      intro x4 rx ex
      rw [← ex] at kf
      refine r_Model_findClock_325 hb.2.2.1 rq (ax_y_i _) ax_y_n rx ⟨b7, ?_⟩
      rw [hb.1 247 (by decide)]
      refine ⟨fun z => ⟨b7, put _ ?_⟩, fun z => ⟨b7, ⟨by omega, by omega⟩, ?_⟩⟩
      · rw [if_pos z] at kf
        rw [kf]
        by_cases y : x4 = -1
        · rw [if_pos y]; exact y
        · rw [if_neg y]
      · rw [if_neg z] at kf
        have c0 : 0 ≤ M0 247 q := by omega
        rw [hx _ c0 kd.2.2.2.1.2]
        exact s_join hb.2.2.1 rx (rG _ c0 kd.2.2.2.1.2) ⟨b7, put _ kf.symm⟩
    refine ⟨⟨a0, by omega⟩, b7, fun z => thr _ ra ?_, fun z => ⟨b7, ⟨by omega, by omega⟩, ?_⟩⟩
    · rw [if_pos z]
      by_cases y : G (M0 245 q) = -1
      · rw [if_pos y]; exact y
      · rw [if_neg y]
    · have b0 : 0 ≤ M0 246 q := by omega
      rw [hx _ b0 kd.2.2.1.2]
      refine s_join hb.2.2.1 ra (rG _ b0 kd.2.2.1.2) (thr _ ?_ (by rw [if_neg z]))
      by_cases y : G (M0 245 q) = -1
      · rw [if_pos y]; exact rG _ b0 kd.2.2.1.2
      · rw [if_neg y]; exact ra
set_option maxHeartbeats 4000000 in
theorem s_checkClocks (hS : g_S C0 M0) (hG : g_G M0 G) (hb : g_MB C0 M0 V) (hf : ∀ x, 0 ≤ x → x < (M0 222 26) → V 254 x = G x) (q0 : 0 ≤ q) (q1 : q < (M0 222 26)) (hT : ∀ t, t < 701 → (m_nb V ≤ t ↔ T t)) (h : ∀ V', g_H1 V V' (fun t => T t ∨ g_b4 M0 G q t) → Ψ V') : ax_N ay_lay (d + 3) q_Model_checkClocks [.ref 222, ax_i q] V Ψ Θ := by
  have hp := hS.2.2.1.1
  have hat := hS.2.2.2.2.2.2.2
  have hN := hS.2.1
  have pn := (hS.pnode q0 q1).1
  have dt := (hS.p q0 q1).2.2.2.2.2.2.1
  have ar := hS.ar q0 q1
  have o1 := (hS.op q0 q1).1
  have pl := fun o => hS.pl q0 q1 o
  have ck := fun o => (hS.ck pn.1 pn.2 (pl o).1 (pl o).2).2
  have b7 : 0 ≤ q ∧ q < 701 := ⟨q0, by omega⟩
  have rq : ax_rg q := ⟨by omega, by omega⟩
  have H0 : g_H1 V V T := g_H1.rf hb.2.2.1 hT
  have gq := hG q q0 q1
  have rg : ax_rg (G q) := by have := gq.2; exact ⟨by omega, by omega⟩
  obtain ⟨K, K7, KE, KA, -⟩ := hS.kids q0 q1
  have jb := g_jn_b M0 (f := G) (q := q) (fun k y => (hG _ (hS.kidb q0 q1 y).1 (by have := (hS.kidb q0 q1 y).2; omega)).2) 700
  refine r_Model_checkClocks hb.2.2.1 rq ⟨b7, b7, ?_⟩
  rw [hb.1 241 (by decide), hb.1 250 (by decide), hb.1 248 (by decide), hb.1 245 (by decide), hf q q0 q1]
  refine ⟨fun z => ⟨b7, b7, ?_⟩, fun z => ⟨b7, b7, ?_⟩, fun z => ⟨b7, ?_⟩, fun z4 z5 z6 => ⟨b7, b7, ?_⟩⟩
  · have l := pl (Or.inr (Or.inr (Or.inl z)))
    have c := ck (Or.inr (Or.inr (Or.inl z)))
    have kd := hS.kid q0 q1 (by omega)
    have a0 : 0 ≤ M0 245 q := by rcases ar with z | z | z | z | z <;> omega
    refine s_clockOf hS hb.1 hb.2.2.1 pn.1 pn.2 l.1 l.2 (s_on hS hb hf H0 (by omega) (by omega) ⟨by omega, by omega⟩ (fun V' hV' => h V' (hV'.of (fun t _ => ?_))))
    unfold g_b4
    constructor
    · rintro (y | y)
      · exact Or.inl y
      · exact Or.inr (Or.inl ⟨z, y.2⟩)
    · rintro (y | y | y | y | y)
      · exact Or.inl y
      · exact Or.inr ⟨a0, y.2⟩
      · omega
      · exact absurd z y.1
      · omega
  · have l := pl (Or.inr (Or.inr (Or.inr (Or.inl z))))
    have kd := hS.kid q0 q1 (by omega)
    have a0 : 0 ≤ M0 245 q ∧ 0 ≤ M0 246 q := by rcases ar with z | z | z | z | z <;> omega
    refine s_on hS hb hf H0 (by omega) (by omega) ⟨by omega, by omega⟩ (fun V' hV' => ⟨b7, b7, ?_⟩)
    rw [(hV'.b hb).1 246 (by decide), (hV'.b hb).1 248 (by decide)]
    refine s_on hS hb hf hV' (by omega) (by omega) ⟨by omega, by omega⟩ (fun V2 hV2 => h V2 (hV2.of (fun t _ => ?_)))
    unfold g_b4
    constructor
    · rintro ((y | y) | y)
      · exact Or.inl y
      · exact Or.inr (Or.inr (Or.inl ⟨z, Or.inl y.2⟩))
      · exact Or.inr (Or.inr (Or.inl ⟨z, Or.inr y.2⟩))
    · rintro (y | y | ⟨-, y | y⟩ | y | y)
      · exact Or.inl (Or.inl y)
      · omega
      · exact Or.inl (Or.inr ⟨a0.1, y⟩)
      · exact Or.inr ⟨a0.2, y⟩
      · exact absurd z y.2.1
      · omega
  · have e : ∀ k, g_kd M0 q k = e_arg M0 q k := fun k => if_pos z
    have nx : ∀ k, k < K → M0 252 (g_kd M0 q k) = g_kd M0 q (k + 1) := fun k hk => by
      have a := (KA k hk).1.1
      rw [e] at a
      rw [e, e]
      show _ = if e_arg M0 q k = -1 then -1 else M0 252 (e_arg M0 q k)
      rw [if_neg (by omega)]
    have kf : G q = if g_jn M0 G q 700 = -1 then (if M0 248 q = -1 then 0 else M0 235 (26 * M0 250 q + M0 248 q)) else g_jn M0 G q 700 := by
      rw [gq.1]
      unfold g_kf
      rw [if_neg (by omega), if_neg (by omega), if_neg (by omega), if_pos z]
    -- against what it is on, or against what they are on together
    have bd : ∀ k t, 0 ≤ g_kd M0 q k → (g_bd M0 G (g_kd M0 q k) (G q) t ↔ g_bd M0 G (g_kd M0 q k) (g_jn M0 G q 700) t) := fun k t k0 => by
      by_cases w : g_jn M0 G q 700 = -1
      · have k1 : k < 700 := by
          by_cases y : K ≤ k
          · have := KE k y; omega
          · omega
        have fr := g_jn_fr M0 700 w k k1 (by omega)
        exact ⟨fun y => absurd fr y.1, fun y => absurd fr y.1⟩
      · rw [if_neg w] at kf; rw [kf]
    have b4 : ∀ t, g_b4 M0 G q t ↔ ((∃ k : Nat, 0 ≤ g_kd M0 q k ∧ g_bd M0 G (g_kd M0 q k) (G q) t) ∨ (¬ M0 248 q = -1 ∧ ¬ M0 235 (26 * M0 250 q + M0 248 q) = G q ∧ M0 244 q ≤ t)) := fun t => by
      unfold g_b4
      constructor
      · rintro (y | y | ⟨-, -, k, k0, y⟩ | ⟨-, y1, y2, y3, y4⟩)
        · omega
        · omega
        · exact Or.inl ⟨k, k0, (bd k t k0).mpr y⟩
        · rw [if_neg y2] at kf
          exact Or.inr ⟨y1, by rw [kf]; exact y3, y4⟩
      · rintro (⟨k, k0, y⟩ | ⟨y1, y2, y3⟩)
        · exact Or.inr (Or.inr (Or.inl ⟨by omega, by omega, k, k0, (bd k t k0).mp y⟩))
        · by_cases w : g_jn M0 G q 700 = -1
          · rw [if_pos w, if_neg y1] at kf
            exact absurd kf.symm y2
          · rw [if_neg w] at kf
            rw [kf] at y2
            exact Or.inr (Or.inr (Or.inr ⟨z, y1, w, y2, y3⟩))
    have lp : ∀ (m k : Nat), k ≤ K → K - k ≤ m → ∀ V1 T1, g_H1 V V1 T1 → (∀ t, T1 t ↔ (T t ∨ ∃ x : Nat, x < k ∧ 0 ≤ g_kd M0 q x ∧ g_bd M0 G (g_kd M0 q x) (G q) t)) → k_Model_checkClocks_114 (d + 2) q (M0 250 q) (g_kd M0 q k) V1 Ψ Θ := by
      intro m
      induction m with
      | zero =>
        intro k k0 k1 V1 T1 hH hT1
        have ek : k = K := by omega
        have b := hH.b hb
        rw [ek] at hT1 ⊢
        rw [KE K (Nat.le_refl _)]
        have hT2 : ∀ t, T1 t ↔ (T t ∨ ∃ x : Nat, 0 ≤ g_kd M0 q x ∧ g_bd M0 G (g_kd M0 q x) (G q) t) := fun t => by
          rw [hT1 t]
          constructor
          · rintro (y | ⟨x, -, x1⟩)
            · exact Or.inl y
            · exact Or.inr ⟨x, x1⟩
          · rintro (y | ⟨x, x1⟩)
            · exact Or.inl y
            · refine Or.inr ⟨x, ?_, x1⟩
              by_cases w : K ≤ x
              · have := KE x w; omega
              · omega
        refine r_Model_checkClocks_114 b.2.2.1 rq ⟨by omega, by omega⟩ (by decide) ⟨fun _ => ⟨b7, ?_⟩, fun y => absurd rfl y⟩
        rw [b.1 248 (by decide)]
        refine ⟨fun y => h V1 (hH.of (fun t _ => ?_)), fun y => ⟨b7, s_clockOf hS b.1 b.2.2.1 pn.1 pn.2 (pl (by omega)).1 (pl (by omega)).2 ⟨b7, ?_⟩⟩⟩
        · rw [hT2 t, b4 t]
          exact ⟨fun x => by rcases x with x | x; exact Or.inl x; exact Or.inr (Or.inl x), fun x => by rcases x with x | x | x; exact Or.inl x; exact Or.inr x; exact absurd y x.1⟩
        · have d8 := ((dt.2.2.2.2.2.2 z).2.2.2.1 (pl (by omega)).1).2.2
          rw [hH.1 254 (by decide), hf q q0 q1, b.1 244 (by decide)]
          refine ⟨fun w => h V1 (hH.of (fun t _ => ?_)), fun w => ⟨b7, s_noteE b.2.2.1 ⟨by omega, by omega⟩ (h _ ((hH.nt d8).of (fun t _ => ?_)))⟩⟩
          · rw [hT2 t, b4 t]
            exact ⟨fun x => by rcases x with x | x; exact Or.inl x; exact Or.inr (Or.inl x), fun x => by rcases x with x | x | x; exact Or.inl x; exact Or.inr x; exact absurd w x.2.1⟩
          · rw [hT2 t, b4 t]
            exact ⟨fun x => by rcases x with (x | x) | x; exact Or.inl x; exact Or.inr (Or.inl x); exact Or.inr (Or.inr ⟨y, w, x⟩), fun x => by rcases x with x | x | x; exact Or.inl (Or.inl x); exact Or.inl (Or.inr x); exact Or.inr x.2.2⟩
      | succ m ih =>
        intro k k0 k1 V1 T1 hH hT1
        by_cases ek : k = K
        · exact ih k k0 (by omega) V1 T1 hH hT1
        · obtain ⟨a1, a2, a3⟩ := KA k (by omega)
          have b := hH.b hb
          refine r_Model_checkClocks_114 b.2.2.1 rq ⟨by omega, by omega⟩ ⟨by omega, by omega⟩ ⟨fun y => by omega, fun _ => ⟨b7, ?_⟩⟩
          rw [hH.1 254 (by decide), hf q q0 q1]
          refine s_on hS hb hf hH (by omega) (by omega) rg (fun V' hV' => ⟨⟨a1.1, by omega⟩, ?_⟩)
          rw [(hV'.b hb).1 252 (by decide), nx k (by omega)]
          refine ih (k + 1) (by omega) (by omega) V' _ hV' (fun t => ?_)
          rw [hT1 t]
          constructor
          · rintro ((y | ⟨x, x0, x1⟩) | y)
            · exact Or.inl y
            · exact Or.inr ⟨x, by omega, x1⟩
            · exact Or.inr ⟨k, by omega, y⟩
          · rintro (y | ⟨x, x0, x1⟩)
            · exact Or.inl (Or.inl y)
            · by_cases ex : x = k
              · rw [ex] at x1; exact Or.inr x1
              · exact Or.inl (Or.inr ⟨x, by omega, x1⟩)
    have := lp K 0 (by omega) (by omega) V T H0 (fun t => ⟨fun y => Or.inl y, fun y => by rcases y with y | ⟨x, x0, -⟩; exact y; omega⟩)
    rw [e 0] at this
    exact this
  · have kd := hS.kid q0 q1 z6
    have e : ∀ k : Nat, g_kd M0 q k = if k = 0 then M0 245 q else if k = 1 then M0 246 q else if k = 2 then M0 247 q else -1 := fun k => if_neg z6
    have e0 : g_kd M0 q 0 = M0 245 q := (e 0).trans (if_pos rfl)
    have e1 : g_kd M0 q 1 = M0 246 q := (e 1).trans (by rw [if_neg (by decide), if_pos rfl])
    have e2 : g_kd M0 q 2 = M0 247 q := (e 2).trans (by rw [if_neg (by decide), if_neg (by decide), if_pos rfl])
    refine s_on hS hb hf H0 (by omega) (by omega) rg (fun V1 h1 => ⟨b7, b7, ?_⟩)
    rw [(h1.b hb).1 246 (by decide), h1.1 254 (by decide), hf q q0 q1]
    refine s_on hS hb hf h1 (by omega) (by omega) rg (fun V2 h2 => ⟨b7, b7, ?_⟩)
    rw [(h2.b hb).1 247 (by decide), h2.1 254 (by decide), hf q q0 q1]
    refine s_on hS hb hf h2 (by omega) (by omega) rg (fun V3 h3 => h V3 (h3.of (fun t _ => ?_)))
    by_cases o : M0 241 q ≤ 3
    · have aa : M0 245 q = -1 ∧ M0 246 q = -1 ∧ M0 247 q = -1 := by rcases ar with z | z | z | z | z <;> omega
      constructor
      · rintro (((y | y) | y) | y)
        · exact Or.inl y
        · omega
        · omega
        · omega
      · rintro (y | y | y | ⟨-, -, k, k0, y⟩ | y)
        · exact Or.inl (Or.inl (Or.inl y))
        · omega
        · omega
        · rw [e] at k0
          exfalso
          revert k0
          split
          · omega
          · split
            · omega
            · split <;> omega
        · omega
    · have kf : G q = g_jn M0 G q 700 := by
        rw [gq.1]
        unfold g_kf
        rw [if_neg (by omega), if_neg (by omega), if_neg (by omega), if_neg (by omega)]
      rw [kf]
      constructor
      · rintro (((y | y) | y) | y)
        · exact Or.inl y
        · exact Or.inr (Or.inr (Or.inr (Or.inl ⟨z4, z5, 0, by rw [e0]; exact y⟩)))
        · exact Or.inr (Or.inr (Or.inr (Or.inl ⟨z4, z5, 1, by rw [e1]; exact y⟩)))
        · exact Or.inr (Or.inr (Or.inr (Or.inl ⟨z4, z5, 2, by rw [e2]; exact y⟩)))
      · rintro (y | y | y | ⟨-, -, k, k0, y⟩ | y)
        · exact Or.inl (Or.inl (Or.inl y))
        · omega
        · omega
        · by_cases k3 : 3 ≤ k
          · have : g_kd M0 q k = -1 := (e k).trans (by rw [if_neg (by omega), if_neg (by omega), if_neg (by omega)])
            omega
          · have : k = 0 ∨ k = 1 ∨ k = 2 := by omega
            rcases this with w | w | w <;> subst w
            · rw [e0] at k0 y; exact Or.inl (Or.inl (Or.inr ⟨k0, y⟩))
            · rw [e1] at k0 y; exact Or.inl (Or.inr ⟨k0, y⟩)
            · rw [e2] at k0 y; exact Or.inr ⟨k0, y⟩
        · omega
end Kind4M
