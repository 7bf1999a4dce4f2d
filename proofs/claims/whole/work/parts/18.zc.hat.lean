/-- A(..)^l: the letter that begins it anew -/
theorem e_ok.hat {C M C5 M5 C7 M7 : ax_V} {N sl lt : Int} (ok : e_ok C M C5 M5 N) (hN : 0 ≤ N) (h22 : M5 241 N = 22) (hsz : (M5 222 68) + 2 ≤ (M5 222 3)) (eC : C7 = ax_u (c_on (ax_u (c_on C5 1) 524 N ((M5 222 68) + 1)) 1) 523 N sl) (eM : M7 = ax_u (m_on (ax_u (m_on M5 1) 244 N ((M5 222 68) + 1)) 1) 248 N lt) (hlt : 0 ≤ lt ∧ lt < 26) (hsl : sl = 26 * M5 250 N + lt) (hg : ax_g C7 ∧ ax_g M7) : e_ok C M C7 M7 N := by
  obtain ⟨k1, k2, k3, k4, k5, k6, k7, k8, k9⟩ := ok
  have hR := k1
  obtain ⟨-, ⟨t1, t2, t3, t4⟩, ⟨a1, a2, a3, a4, a5, a6, a7⟩, ⟨p1, p2, p3⟩, p4, p5⟩ := k1
  have nC : ∀ c, c ≠ 600 → c ≠ 523 → c ≠ 524 → C7 c = C5 c := fun c x y z => by
    rw [eC, ax_u_ne y]; unfold c_on; rw [ax_u_ne x, ax_u_ne z, ax_u_ne x]
  have nM : ∀ c, c ≠ 222 → c ≠ 244 → c ≠ 248 → M7 c = M5 c := fun c x y z => by
    rw [eM, ax_u_ne z]; unfold m_on; rw [ax_u_ne x, ax_u_ne y, ax_u_ne x]
  have nCq : ∀ c q, c ≠ 600 → q ≠ N → C7 c q = C5 c q := fun c q x hq => by
    rw [eC, ax_u_o (fun w => hq w.2)]; unfold c_on; rw [ax_u_ne x, ax_u_o (fun w => hq w.2), ax_u_ne x]
  have nMq : ∀ c q, c ≠ 222 → q ≠ N → M7 c q = M5 c q := fun c q x hq => by
    rw [eM, ax_u_o (fun w => hq w.2)]; unfold m_on; rw [ax_u_ne x, ax_u_o (fun w => hq w.2), ax_u_ne x]
  have cat : (C7 600 6) = (C5 600 6) + 2 := by rw [eC]; simp [c_on, ax_u]; omega
  have mat : (M7 222 68) = (M5 222 68) + 2 := by rw [eM]; simp [m_on, ax_u]; omega
  have cs : ∀ k, k ≠ 6 → C7 600 k = C5 600 k := fun k hk => by
    rw [eC, ax_u_ne (c' := 600) (by decide)]; unfold c_on; rw [ax_u_k hk, ax_u_ne (c' := 600) (by decide), ax_u_k hk]
  have ms : ∀ k, k ≠ 68 → M7 222 k = M5 222 k := fun k hk => by
    rw [eM, ax_u_ne (c' := 222) (by decide)]; unfold m_on; rw [ax_u_k hk, ax_u_ne (c' := 222) (by decide), ax_u_k hk]
  have hA : ∀ q k, e_arg M7 q k = e_arg M5 q k := by
    intro q k
    induction k with
    | zero => show M7 245 q = M5 245 q; rw [nM 245 (by decide) (by decide) (by decide)]
    | succ k ih =>
      show (if e_arg M7 q k = -1 then -1 else M7 252 (e_arg M7 q k)) = (if e_arg M5 q k = -1 then -1 else M5 252 (e_arg M5 q k))
      rw [ih, nM 252 (by decide) (by decide) (by decide)]
  have hK : ∀ q x, e_kid M7 q x ↔ e_kid M5 q x := by
    intro q x
    unfold e_kid
    rw [nM 241 (by decide) (by decide) (by decide), nM 245 (by decide) (by decide) (by decide), nM 246 (by decide) (by decide) (by decide), nM 247 (by decide) (by decide) (by decide)]
    simp only [hA]
  have gN1 : C7 523 N = sl := by rw [eC]; exact ax_u_s _ _ _ _
  have gN2 : C7 524 N = (M5 222 68) + 1 := by rw [eC, ax_u_ne (c' := 524) (by decide)]; unfold c_on; rw [ax_u_ne (c' := 524) (by decide)]; exact ax_u_s _ _ _ _
  have fN1 : M7 248 N = lt := by rw [eM]; exact ax_u_s _ _ _ _
  have fN2 : M7 244 N = (M5 222 68) + 1 := by rw [eM, ax_u_ne (c' := 244) (by decide)]; unfold m_on; rw [ax_u_ne (c' := 244) (by decide)]; exact ax_u_s _ _ _ _
  have hpN : e_p C7 M7 N := by
    obtain ⟨u1, u2, u3, u4, u5, u6, u7, w1, w2, w3, w4⟩ := p5 N (by omega) (by omega)
    have e1 := nM 241 (by decide) (by decide) (by decide)
    have e2 := nM 242 (by decide) (by decide) (by decide)
    have e3 := nM 243 (by decide) (by decide) (by decide)
    have e5 := nM 245 (by decide) (by decide) (by decide)
    have e6 := nM 246 (by decide) (by decide) (by decide)
    have e7 := nM 247 (by decide) (by decide) (by decide)
    have e9 := nM 249 (by decide) (by decide) (by decide)
    have e10 := nM 250 (by decide) (by decide) (by decide)
    have e12 := nM 252 (by decide) (by decide) (by decide)
    have e26 := nM 226 (by decide) (by decide) (by decide)
    have c1 := nC 517 (by decide) (by decide) (by decide)
    have c2 := nC 518 (by decide) (by decide) (by decide)
    have c3 := nC 519 (by decide) (by decide) (by decide)
    have c4 := nC 520 (by decide) (by decide) (by decide)
    have c5 := nC 521 (by decide) (by decide) (by decide)
    have c6 := nC 522 (by decide) (by decide) (by decide)
    have c10 := nC 526 (by decide) (by decide) (by decide)
    refine ⟨by rw [c1, e1]; exact u1, by rw [c2, e2]; exact u2, by rw [e2]; exact u3, by rw [e10]; exact u4, by rw [c10]; exact u5, by unfold e_ar; rw [e1, e5, e6, e7]; exact u6, ?_, by rw [c5, e5]; exact w1, by rw [e1, e5, e6, e7, c6]; exact w2, fun z i hi => ?_, fun x hx => ?_⟩
    · obtain ⟨-, -, -, -, -, -, y7⟩ := u7
      obtain ⟨y71, y72, y73, y74, y75⟩ := y7 h22
      unfold e_dt
      rw [e1, h22, fN1, fN2, gN1, gN2, e3, e9, e10, c3, c4]
      refine ⟨fun q => by rcases q with q | q <;> omega, fun q => by omega, fun q => by rcases q with q | q | q <;> omega, fun q => by omega, fun q => by omega, fun q => by omega, fun _ => ⟨y71, ⟨by omega, hlt.2⟩, fun q => by omega, fun _ => ⟨hsl, rfl, ⟨by omega, by omega⟩⟩, ?_⟩⟩
      unfold e_fd
      rw [e26]
      exact y75
    · rw [hA] at hi ⊢
      rw [c6, e12, nM 242 (by decide) (by decide) (by decide)]
      rw [e1] at z
      exact w3 z i hi
    · rw [e1, c10]
      exact w4 x ((hK N x).mp hx)
  have hR7 : e_R C7 M7 := by
    refine ⟨hg, ⟨by rw [cs 1 (by decide), ms 3 (by decide)]; exact t1, by rw [ms 3 (by decide)]; exact t2, by rw [ms 3 (by decide)]; exact t3, fun i i0 i1 => ?_⟩, ?_, ⟨by rw [nC 516 (by decide) (by decide) (by decide), ms 26 (by decide)]; exact p1, by rw [ms 26 (by decide)]; exact p2, by rw [ms 26 (by decide)]; omega⟩, fun k k0 k1 => ?_, fun q q0 q1 => ?_⟩
    · rw [nC 1 (by decide) (by decide) (by decide), nM 224 (by decide) (by decide) (by decide)]
      exact t4 i i0 (by rw [ms 3 (by decide)] at i1; exact i1)
    · unfold e_S
      rw [cat, mat, ms 3 (by decide), cs 8 (by decide), ms 10 (by decide), cs 11 (by decide), ms 69 (by decide), cs 10 (by decide), ms 71 (by decide), cs 12 (by decide), ms 72 (by decide), ms 70 (by decide), cs 9 (by decide), cs 13 (by decide)]
      exact ⟨⟨by omega, by omega, hsz⟩, a2, a3, a4, a5, a6, a7⟩
    · rw [nC 501 (by decide) (by decide) (by decide), nM 226 (by decide) (by decide) (by decide)]
      exact p4 k k0 (by rw [ms 10 (by decide)] at k1; exact k1)
    · rw [ms 26 (by decide)] at q1
      by_cases w : q = N
      · rw [w]; exact hpN
      · have hp := p5 q q0 q1
        exact hp.keep (fun c _ _ _ => nCq c q (by omega) w) (fun c _ _ => nMq c q (by omega) w) (fun k _ _ => by rw [nM 226 (by decide) (by decide) (by decide)]) (fun x _ => ⟨by rw [nC 522 (by decide) (by decide) (by decide)], by rw [nC 526 (by decide) (by decide) (by decide)], by rw [nM 252 (by decide) (by decide) (by decide)], by rw [nM 242 (by decide) (by decide) (by decide)]⟩)
  have fC : e_fC C5 C7 (M 222 26) := by
    rw [eC]
    exact (((e_mvC.on C5 1).fr.tr (e_fC.ua (by decide) k4.2.2) (Int.le_refl _)).tr (e_mvC.on _ 1).fr (Int.le_refl _)).tr (e_fC.ua (by decide) k4.2.2) (Int.le_refl _)
  have fM : e_fM M5 M7 (M 222 26) := by
    rw [eM]
    exact (((e_mvM.on M5 1).fr.tr (e_fM.ua (by decide) k4.2.2) (Int.le_refl _)).tr (e_mvM.on _ 1).fr (Int.le_refl _)).tr (e_fM.ua (by decide) k4.2.2) (Int.le_refl _)
  refine ⟨hR7, k2.tr fC (Int.le_refl _), k3.tr fM (Int.le_refl _), ⟨by rw [ms 74 (by decide)]; exact k4.1, by rw [ms 26 (by decide)]; exact k4.2.1, k4.2.2⟩, ⟨by rw [nC 522 (by decide) (by decide) (by decide)]; exact k5.1, by rw [nM 252 (by decide) (by decide) (by decide)]; exact k5.2.1, by rw [nC 526 (by decide) (by decide) (by decide)]; exact k5.2.2⟩, ⟨by rw [mat]; omega, by rw [mat, ms 26 (by decide)]; omega, fun q a b => ?_⟩, ⟨by rw [ms 69 (by decide)]; exact k7.1, by rw [ms 72 (by decide)]; exact k7.2.1, by rw [cs 13 (by decide)]; exact k7.2.2⟩, fun q x a b hx => k8 q x a (by rw [ms 26 (by decide)] at b; exact b) ((hK q x).mp hx), fun q a b => ?_⟩
  · obtain ⟨e1, e2, e3, e4, e5, e6⟩ := k6.2.2 q a (by rw [ms 26 (by decide)] at b; exact b)
    exact ⟨by rw [nC 525 (by decide) (by decide) (by decide)]; exact e1, by rw [nC 527 (by decide) (by decide) (by decide)]; exact e2, by rw [nM 250 (by decide) (by decide) (by decide)]; exact e3, by rw [nM 256 (by decide) (by decide) (by decide)]; exact e4, by rw [nM 242 (by decide) (by decide) (by decide)]; exact e5, by rw [nM 241 (by decide) (by decide) (by decide)]; exact e6⟩
  obtain ⟨w, w1, w2, w3⟩ := k9 q a b
  exact ⟨w, w1, w2, (hK w q).mpr w3.1, fun v a' b' k' => w3.2 v a' (by rw [ms 26 (by decide)] at b'; exact b') ((hK v q).mp k')⟩
