/-! THE MODEL'S TICK: an equation; the first move -/
section ModelF
variable {d : Nat} {C0 M0 P V V0 V1 W X X' : ax_V} {F G Hh S U J Im : Int → Int} {n q e a b c lv f g m l fl x st : Int} {k : Nat} {s t : Int → Prop} {R : h_R} {Φ : Int → ax_V → Prop} {Ψ Θ : ax_V → Prop}
theorem h_J.at (h : h_J C0 M0 U F S k n b lv V0 V s R) (e6 : W 296 = V 296) (e8 : W 298 = V 298) (e1 : W 291 = V 291) (e2 : W 292 = V 292) (e0 : W 222 = V 222) (j2' : h_J2 M0 n lv W R) : h_J C0 M0 U F S k n b lv V0 W s R := by
  obtain ⟨j1, j2, j3, j4, j5, j6, j8, j9⟩ := h
  have ef : h_fl W = h_fl V := by unfold h_fl; rw [e0]
  refine ⟨by unfold h_J1; rw [e6]; exact j1, j2', by unfold h_J3; rw [e8]; exact j3, by unfold h_J4; rw [e1]; exact j4, by unfold h_J5; rw [e2]; exact j5, fun t ht => by rw [ef]; exact j6 t ht, j8, j9⟩
set_option maxHeartbeats 2000000 in
theorem s_doEquation (hX : h_X C0 M0 P F G Hh S U J Im) (hn : h_N M0 U J n) (hk : n < ((k + 1 : Nat) : Int)) (ht : h_tick C0 M0 U J F S Im k) (hlv : 0 ≤ lv ∧ lv + n ≤ 7) (hb : 0 ≤ b ∧ b + g_T C0 M0 U n ≤ 600) (hV : h_RM C0 M0 S U J Im V) (hg : ax_g V) (hfo : h_fo V) (hR : h_TK C0 M0 U S Im (k + 1) n R) (hm : h_MS C0 M0 U F (k + 1) n (R [] 5)) (hJ : h_J C0 M0 U F S k n b lv V0 V s R) (e0 : 0 ≤ e) (e1 : e < (M0 222 44)) (en : M0 258 e = n) (eh : h_eh M0 (R []) e) (cd : ∀ q, M0 261 e ≤ q → q ≤ M0 262 e → C0 526 q = 0 → h_cd C0 M0 S n lv V s R q) (cC : ¬ g_ec M0 e = 0 → ¬ V 295 (26 * lv + (g_ec M0 e - 1) / 2) = 0) (te : ∀ v, t v ↔ (s v ∨ (M0 261 e ≤ v ∧ v ≤ M0 262 e ∧ C0 526 v = 0)))
    (next : ∀ W, h_J C0 M0 U F S k n b lv V0 W t R → h_MF C0 M0 U n b lv V W → (∀ y, 0 ≤ y → y < 26 → (¬ W 295 (26 * lv + y) = 0 ↔ (¬ V 295 (26 * lv + y) = 0 ∨ ∃ i, g_of M0 e i ∧ M0 265 i = y))) → (∀ x, x < 351 * lv + 351 → W 297 x = V 297 x ∧ W 298 x = V 298 x) → Ψ W) : ax_N ay_lay (d + 10 * k + 5) q_Model_doEquation [.ref 222, ax_i lv, ax_i n, ax_i b, ax_i e] V Ψ Θ := by
  have hS := hX.hS
  have sm := hS.small
  have hN := hS.2.1
  have nn := hn.1
  have tb := hX.tb n
  have hat := hS.2.2.2.2.2.2.2
  have hlf := hS.2.2.2.2.1.1.2.1
  have rl : ax_rg lv := ⟨by omega, by omega⟩
  have rn : ax_rg n := ⟨by omega, by omega⟩
  have rb : ax_rg b := ⟨by omega, by omega⟩
  have re : ax_rg e := ⟨by omega, by omega⟩
  have be : 0 ≤ e ∧ e < 351 := ⟨e0, by omega⟩
  have tm := hV.1
  have fe := hS.2.2.2.2.1.2.1 e e0 e1
  have fx := fe.2.2.2.2.2.1
  have f1 := fx.1
  obtain ⟨cb, o0, lb⟩ := hX.ecb e0 e1
  rw [en] at lb
  refine r_Model_doEquation hg rl rn rb re ⟨be, be, ?_⟩
  rw [tm 261 (by decide) (by decide) (by decide), tm 262 (by decide) (by decide) (by decide)]
  refine s_workAll (d := d) hX hn hk ht hlv hb hV hg hfo hR hm hJ ⟨f1.1, by omega, f1.2.2⟩ (Or.inl rfl) (fun q qa qb ql => ⟨cd q qa qb ql, fun y ky => ?_⟩) te (fun V1 jV fV kV h7 => ?_)
  · have lt := ((hS.p (q := q) (by omega) (by omega)).2.2.2.2.2.2.2.2.2.2 y ky).2
    by_cases o6 : M0 241 q = 6
    · exact Or.inl o6
    · rw [if_neg o6, ql] at lt
      exact Or.inr (Or.inr ⟨(fx.2.2 q qa qb).2.2.2.1 y ky, lt⟩)
  · have rV := fV.rm hV
    have g1 := fV.1.2.2.1
    have tm1 := rV.1
    have onV := h_onM (n := n) (M0 := M0) (R := R) jV.2.1 cb (fun z => by rw [(kV.1 (26 * lv + (g_ec M0 e - 1) / 2) (by omega)).2.2]; exact cC z)
    have sw : t (M0 262 e) := (te _).mpr (Or.inr ⟨f1.2.1, Int.le_refl _, fx.2.1.1⟩)
    have rr := fun i (o : g_of M0 e i) => hR.2.2.1.2 e i o en eh
    have acw : h_on (R []) (g_ec M0 e) → h_ac M0 S n (R []) (M0 262 e) := fun on => (hS.acE (S := S) e0 e1 en f1.2.1 (Int.le_refl _)).mpr ⟨eh, by rw [hX.hT.1 e e0 e1]; exact on⟩
    have u1 := fun on => jV.1 _ (by omega) f1.2.2 ((fx.2.2 _ f1.2.1 (Int.le_refl _)).1.1.trans en) sw (acw on)
    have u7 := h7 f1.2.1 fx.2.1.1
    -- what is told
    have told : h_on (R []) (g_ec M0 e) → ∀ i, g_of M0 e i → (M0 260 e = 1 → V1 296 (701 * lv + M0 262 e) = R [] 1 (M0 265 i)) ∧ (¬ M0 260 e = 1 → (M0 241 (M0 262 e) = 22 ∧ i - M0 259 e < M0 228 (C0 520 (M0 262 e))) ∧ V1 293 (26 * (lv + 1) + M0 231 (26 * C0 520 (M0 262 e) + (i - M0 259 e))) = R [] 1 (M0 265 i)) ∧ (M0 233 (26 * n + M0 265 i) = 1 → R [] 1 (M0 265 i) = 0 ∨ R [] 1 (M0 265 i) = 1) := fun on i o => by
      have r := ((rr i o).1 on).2
      by_cases mn : M0 260 e = 1
      · rw [if_pos mn] at r
        refine ⟨fun _ => by rw [r]; exact (u1 on).1, fun z => absurd mn z, fun ty => ?_⟩
        rw [r]
        refine (u1 on).2 ?_
        rw [hS.one hX.n3 e0 e1 mn, en]
        have : i = M0 259 e := by have := o.2; omega
        rw [← this]; exact ty
      · rw [if_neg mn] at r
        have mm := hS.many hX.n3 e0 e1 mn
        have ib : i - M0 259 e < M0 228 (C0 520 (M0 262 e)) := by rw [mm.2.1]; have := o.2; omega
        have u := u7 (by omega) f1.2.2 mm.1 (acw on) (i - M0 259 e) (by have := o.2; omega) ib
        refine ⟨fun z => absurd z mn, fun _ => ⟨⟨mm.1, ib⟩, by rw [r]; exact u.1⟩, fun ty => ?_⟩
        rw [r]
        refine u.2 ?_
        have m3 := mm.2.2 (i - M0 259 e) (by have := o.2; omega) (by have := o.2; omega)
        rw [← m3, en, show M0 259 e + (i - M0 259 e) = i by omega]
        exact ty
    have ec : ∀ Φ : Int → ax_V → Prop, Φ (g_ec M0 e) V1 → ax_I ay_lay (d + 10 * k + 4) q_Model_eqClock [.ref 222, ax_i e] V1 Φ Θ := fun Φ hΦ => by
      refine r_Model_eqClock g1 re ⟨be, ?_⟩
      rw [tm1 263 (by decide) (by decide) (by decide), tm1 259 (by decide) (by decide) (by decide), tm1 258 (by decide) (by decide) (by decide), tm1 265 (by decide) (by decide) (by decide), tm1 235 (by decide) (by decide) (by decide)]
      have lf := lb _ o0
      have of := hS.ofl o0
      unfold g_ec at hΦ
      refine ⟨fun z => ⟨be, be, ⟨by omega, by omega⟩, ⟨by omega, by omega⟩, ?_⟩, fun z => ?_⟩
      · rw [if_pos z] at hΦ; exact hΦ
      · rw [if_neg z] at hΦ; exact hΦ
    refine ec _ ?_
    -- the letters
    have loop : ∀ is, (is = 0 ∨ is = 1) → (h_on (R []) (g_ec M0 e) ↔ is = 1) → k_Model_doEquation_47 (d + 10 * k + 4) lv (some (ax_i n)) (some (ax_i b)) e is (M0 262 e) 0 none V1 Ψ Θ := by
      intro is his hon
      have ris : ax_rg is := ⟨by omega, by omega⟩
      have rw' : ax_rg (M0 262 e) := ⟨by omega, by omega⟩
      have many := fe.2.2.1
      refine ax_for (I := fun i X => (0 ≤ i ∧ i ≤ M0 260 e) ∧ g_fr [293, 294, 295] V1 X ∧ ax_g X ∧ (∀ y, (∀ i', 0 ≤ i' → i' < i → ¬ y = 26 * lv + M0 265 (M0 259 e + i')) → X 293 y = V1 293 y ∧ X 294 y = V1 294 y ∧ X 295 y = V1 295 y) ∧ ∀ i', 0 ≤ i' → i' < i → X 295 (26 * lv + M0 265 (M0 259 e + i')) = 1 ∧ X 294 (26 * lv + M0 265 (M0 259 e + i')) = is ∧ (¬ is = 0 → X 293 (26 * lv + M0 265 (M0 259 e + i')) = R [] 1 (M0 265 (M0 259 e + i')))) (K := fun i X => ∀ y8, ax_y y8 → k_Model_doEquation_47 (d + 10 * k + 4) lv (some (ax_i n)) (some (ax_i b)) e is (M0 262 e) i y8 X Ψ Θ) (hi := M0 260 e) (fun i X w hI nx y8 hy8 => ?_) (fun i X w hI y8 hy8 => ?_) 0 V1 ⟨⟨Int.le_refl _, by omega⟩, fun _ _ => rfl, g1, fun _ _ => ⟨rfl, rfl, rfl⟩, fun i' a b => by omega⟩ none ax_y_n
      · obtain ⟨ib, fX, gX, oX, dX⟩ := hI
        have og : g_of M0 e (M0 259 e + i) := ⟨⟨e0, e1⟩, by omega, by omega⟩
        have lf := lb _ og
        have of := hS.ofl og
        have tmX : ∀ c, 226 ≤ c → c ≤ 277 → c ∉ h_CM → X c = M0 c := fun c a b z => by rw [fX c (by simp; omega)]; exact tm1 c a b z
        have b24 : 0 ≤ 26 * lv + M0 265 (M0 259 e + i) ∧ 26 * lv + M0 265 (M0 259 e + i) < 240 := ⟨by omega, by omega⟩
        refine r_Model_doEquation_47 gX rl (ax_y_i _) (ax_y_i _) re ris rw' ⟨by omega, by omega⟩ hy8 ⟨be, ?_⟩
        rw [tmX 260 (by decide) (by decide) (by decide), tmX 259 (by decide) (by decide) (by decide), tmX 265 (by decide) (by decide) (by decide)]
        refine ⟨fun z => by omega, fun _ => ⟨be, ⟨by omega, by omega⟩, b24, fun X1 e1' => ⟨b24, his, fun X2 e2 => ?_⟩⟩⟩
        have c2 : ∀ c, ¬ c = 295 → ¬ c = 294 → X2 c = X c := fun c z1 z2 => by rw [e2, ax_u_ne z2, e1', ax_u_ne z1]
        have f2 : g_fr [293, 294, 295] V1 X2 := by rw [e2, e1']; exact (fX.u (by decide)).u (by decide)
        have g2 : ax_g X2 := by rw [e2, e1']; exact ax_u_g (ax_u_g gX (by decide)) ris
        have s5 : X2 295 (26 * lv + M0 265 (M0 259 e + i)) = 1 := by rw [e2, ax_u_ne (by decide), e1', ax_u_s]
        have s4 : X2 294 (26 * lv + M0 265 (M0 259 e + i)) = is := by rw [e2, ax_u_s]
        have n5 : ∀ y, ¬ y = 26 * lv + M0 265 (M0 259 e + i) → X2 295 y = X 295 y ∧ X2 294 y = X 294 y := fun y z => ⟨by rw [e2, ax_u_ne (by decide), e1', ax_u_k z], by rw [e2, ax_u_k z, e1', ax_u_ne (by decide)]⟩
        -- then on
        have go : ∀ X3 y8', ax_y y8' → g_fr [293] X2 X3 → ax_g X3 → (∀ y, ¬ y = 26 * lv + M0 265 (M0 259 e + i) → X3 293 y = X 293 y) → (¬ is = 0 → X3 293 (26 * lv + M0 265 (M0 259 e + i)) = R [] 1 (M0 265 (M0 259 e + i))) → k_Model_doEquation_47 (d + 10 * k + 4) lv (some (ax_i n)) (some (ax_i b)) e is (M0 262 e) (i + 1) y8' X3 Ψ Θ := fun X3 y8' hy f3 g3 n3 v3 => by
          refine nx X3 ⟨⟨by omega, by omega⟩, f2.tr (f3.up (by simp)), g3, fun y hy => ?_, fun i' i0' i1' => ?_⟩ y8' hy
          · have yi := hy i ib.1 (by omega)
            rw [n3 y yi, f3 294 (by decide), f3 295 (by decide), (n5 y yi).1, (n5 y yi).2]
            exact oX y (fun i' a b => hy i' a (by omega))
          · by_cases sm' : M0 265 (M0 259 e + i') = M0 265 (M0 259 e + i)
            · rw [sm', f3 295 (by decide), f3 294 (by decide)]
              exact ⟨s5, s4, v3⟩
            · have ne : ¬ 26 * lv + M0 265 (M0 259 e + i') = 26 * lv + M0 265 (M0 259 e + i) := by omega
              have ii : i' < i := by
                by_cases z : i' = i
                · rw [z] at sm'; exact absurd rfl sm'
                · omega
              rw [f3 295 (by decide), f3 294 (by decide), (n5 _ ne).1, (n5 _ ne).2, n3 _ ne]
              exact dX i' i0' ii
        refine ⟨fun z => go X2 _ (ax_y_i _) (fun _ _ => rfl) g2 (fun y _ => by rw [c2 293 (by decide) (by decide)]) (fun y => absurd z y), fun z => ⟨be, ?_⟩⟩
        have on := hon.mpr (by omega)
        have td := told on _ og
        rw [c2 260 (by decide) (by decide), tmX 260 (by decide) (by decide) (by decide), c2 231 (by decide) (by decide), tmX 231 (by decide) (by decide) (by decide), c2 293 (by decide) (by decide)]
        refine ⟨fun mn => s_valueAt g2 ⟨by omega, by omega⟩ ⟨by omega, by omega⟩ ?_, fun mn => ?_⟩
        · rw [if_neg (by omega), c2 296 (by decide) (by decide), fX 296 (by decide), td.1 mn]
          have rv : ax_rg (R [] 1 (M0 265 (M0 259 e + i))) := by rw [← td.1 mn]; exact g1 _ _
          refine ⟨b24, fun X5 e5 => go X5 _ (ax_y_i _) (by rw [e5]; exact (g_fr.rf _ _).u (by decide)) (by rw [e5]; exact ax_u_g g2 rv) (fun y hy => by rw [e5, ax_u_k hy, c2 293 (by decide) (by decide)]) (fun _ => by rw [e5, ax_u_s])⟩
        · have td2 := td.2.1 mn
          rw [show M0 259 e + i - M0 259 e = i by omega] at td2
          have wq : 0 ≤ M0 262 e ∧ M0 262 e < (M0 222 26) := ⟨by omega, f1.2.2⟩
          have sbw := hX.sub hn wq.1 wq.2 ((fx.2.2 _ f1.2.1 (Int.le_refl _)).1.1.trans en) td2.1.1
          have wm0 := sbw.1.1.1
          have wm1 := sbw.1.1.2
          have op := ((hS.fl wm0 wm1).2.2.2.2.2.1 i ib.1 td2.1.2).2.1
          have o26 : M0 228 (C0 520 (M0 262 e)) ≤ 26 := by
            have ff := hS.fl wm0 wm1
            have b26 := (f_cn_le M0 (C0 520 (M0 262 e)) 26).2
            have s1 := ff.2.2.2.1
            have s2 := ff.1.2
            have s3 := ff.2.2.1.2
            omega
          have ib2 := td2.1.2
          have e251 : X2 251 (M0 262 e) = C0 520 (M0 262 e) := by
            rw [c2 251 (by decide) (by decide), fX 251 (by decide)]
            exact rV.2.2.1 _ wq.1 wq.2 td2.1.1
          rw [e251]
          have ev : X 293 (26 * (lv + 1) + M0 231 (26 * C0 520 (M0 262 e) + i)) = R [] 1 (M0 265 (M0 259 e + i)) := by
            rw [(oX _ (fun i' a b => by have := (lb (M0 259 e + i') ⟨⟨e0, e1⟩, by omega, by omega⟩).1; omega)).1]
            exact td2.2
          rw [ev]
          have rv : ax_rg (R [] 1 (M0 265 (M0 259 e + i))) := by rw [← ev]; exact gX _ _
          refine ⟨⟨by omega, by omega⟩, ⟨by omega, by omega⟩, ⟨by omega, by omega⟩, b24, fun X5 e5 => go X5 _ (ax_y_i _) (by rw [e5]; exact (g_fr.rf _ _).u (by decide)) (by rw [e5]; exact ax_u_g g2 rv) (fun y hy => by rw [e5, ax_u_k hy, c2 293 (by decide) (by decide)]) (fun _ => by rw [e5, ax_u_s])⟩
      · obtain ⟨ib, fX, gX, oX, dX⟩ := hI
        have tmX : ∀ c, 226 ≤ c → c ≤ 277 → c ∉ h_CM → X c = M0 c := fun c a b z => by rw [fX c (by simp; omega)]; exact tm1 c a b z
        refine r_Model_doEquation_47 gX rl (ax_y_i _) (ax_y_i _) re ris rw' ⟨by omega, by omega⟩ hy8 ⟨be, ?_⟩
        rw [tmX 260 (by decide) (by decide) (by decide)]
        have ei : i = M0 260 e := by omega
        rw [ei] at oX dX
        have bo : ∀ y, 0 ≤ y → y < 26 → X 294 (26 * lv + y) = 0 ∨ X 294 (26 * lv + y) = 1 := fun y y0 y1 => by
          by_cases hy : ∃ i', (0 ≤ i' ∧ i' < M0 260 e) ∧ y = M0 265 (M0 259 e + i')
          · obtain ⟨i', ib', ey⟩ := hy
            rw [ey, (dX i' ib'.1 ib'.2).2.1]; exact his
          · rw [(oX (26 * lv + y) (fun i' a b z => hy ⟨i', ⟨a, b⟩, by omega⟩)).2.1]; exact jV.2.1.2 y y0 y1
        refine ⟨fun _ => next X (jV.at (fX 296 (by decide)) (fX 298 (by decide)) (fX 291 (by decide)) (fX 292 (by decide)) (fX 222 (by decide)) ⟨fun y y0 y1 dy => ?_, bo⟩) (fV.tr ⟨⟨fX.up (by simp), fun j _ => by rw [fX 222 (by decide)], gX, by unfold h_fo; rw [fX 222 (by decide)]; exact fV.1.2.2.2⟩, fun j _ => by rw [fX 291 (by decide), fX 292 (by decide)]; exact ⟨rfl, rfl⟩, fun y z => oX y (fun i' a b => by have := (lb (M0 259 e + i') ⟨⟨e0, e1⟩, by omega, by omega⟩).1; omega), fun y _ => by rw [fX 296 (by decide)], fun y _ => by rw [fX 297 (by decide), fX 298 (by decide)]; exact ⟨rfl, rfl⟩⟩) (fun y y0 y1 => ?_) (fun y z => by rw [fX 297 (by decide), fX 298 (by decide)]; exact kV.2 y z), fun z => by omega⟩
        · by_cases hy : ∃ i', (0 ≤ i' ∧ i' < M0 260 e) ∧ y = M0 265 (M0 259 e + i')
          · obtain ⟨i', ib', ey⟩ := hy
            have og : g_of M0 e (M0 259 e + i') := ⟨⟨e0, e1⟩, by omega, by omega⟩
            have dd := dX i' ib'.1 ib'.2
            have r := rr _ og
            rw [ey]
            by_cases on : h_on (R []) (g_ec M0 e)
            · have i1 := hon.mp on
              have r1 := r.1 on
              refine ⟨by rw [dd.2.1, i1, r1.1], fun _ => ⟨dd.2.2 (by omega), (told on _ og).2.2⟩⟩
            · have i0 : is = 0 := by
                rcases his with z | z
                · exact z
                · exact absurd (hon.mpr z) on
              have r0 := r.2 on
              exact ⟨by rw [dd.2.1, i0, r0], fun z => absurd r0 z⟩
          · have u := oX (26 * lv + y) (fun i' a b z => hy ⟨i', ⟨a, b⟩, by omega⟩)
            unfold h_mt
            rw [u.1, u.2.1]
            rw [u.2.2] at dy
            exact jV.2.1.1 y y0 y1 dy
        · by_cases hy : ∃ i', (0 ≤ i' ∧ i' < M0 260 e) ∧ y = M0 265 (M0 259 e + i')
          · obtain ⟨i', ib', ey⟩ := hy
            rw [ey, (dX i' ib'.1 ib'.2).1]
            exact ⟨fun _ => Or.inr ⟨_, ⟨⟨e0, e1⟩, by omega, by omega⟩, rfl⟩, fun _ => by decide⟩
          · have u := oX (26 * lv + y) (fun i' a b z => hy ⟨i', ⟨a, b⟩, by omega⟩)
            rw [u.2.2, (kV.1 (26 * lv + y) (by omega)).2.2]
            refine ⟨fun z => Or.inl z, fun z => ?_⟩
            rcases z with z | ⟨j, oj, z⟩
            · exact z
            · have oj2 := oj.2
              exact absurd ⟨j - M0 259 e, ⟨by omega, by omega⟩, by rw [show M0 259 e + (j - M0 259 e) = j by omega]; exact z.symm⟩ hy
    have t262 : V1 262 = M0 262 := tm1 262 (by decide) (by decide) (by decide)
    refine s_isOnT g1 ⟨by omega, by omega⟩ cb (fun yes => ⟨be, ?_⟩) (fun no => ⟨be, ?_⟩)
    · rw [t262]
      exact loop 1 (Or.inr rfl) ⟨fun _ => rfl, fun _ => onV.mp yes⟩
    · rw [t262]
      exact loop 0 (Or.inl rfl) ⟨fun z => absurd (onV.mpr z) no, fun z => absurd z (by decide)⟩
theorem h_f1.least {r : Int → Int → Int} : ∀ (k : Nat) (m' : Int), 0 ≤ m' → m' < (k : Int) → m' < (M0 222 60) → (∀ y, y < (k : Int) → ¬ h_f1 M0 r a x st y) → M0 271 m' = a → M0 273 m' = x → M0 272 m' = st → ¬ r 0 (M0 277 m') = 1 := by
  intro k
  induction k with
  | zero => intro m' h0 h1; omega
  | succ k ih =>
    intro m' h0 h1 h2 no ta tx ts z
    refine no m' (by omega) ⟨⟨h0, h2⟩, ⟨ta, tx, ts⟩, z, fun y y0 y1 ya yx ys => ih y y0 (by omega) (by omega) (fun w hw => no w (by omega)) ya yx ys⟩
set_option maxHeartbeats 1000000 in
theorem s_firstOf (hX : h_X C0 M0 P F G Hh S U J Im) (hn : h_N M0 U J n) (hk : n < ((k + 1 : Nat) : Int)) (ht : h_tick C0 M0 U J F S Im k) (hlv : 0 ≤ lv ∧ lv + n ≤ 7) (hb : 0 ≤ b ∧ b + g_T C0 M0 U n ≤ 600) (hV : h_RM C0 M0 S U J Im V) (hg : ax_g V) (hfo : h_fo V) (hR : h_TK C0 M0 U S Im (k + 1) n R) (hm : h_MS C0 M0 U F (k + 1) n (R [] 5)) (hJ : h_J C0 M0 U F S k n b lv V0 V s R) (a0 : 0 ≤ a) (a1 : a < (M0 222 55)) (an : M0 267 a = n) (hx : x = 0 ∨ x = 1) (rst : ax_rg st) (hst : st = if x = 0 then R [] 3 a else R [] 5 (h_sa M0 n a)) (cL : ∀ m q, 0 ≤ m → m < (M0 222 60) → M0 271 m = a → M0 273 m = x → M0 276 m ≤ q → q ≤ M0 277 m → (M0 241 q = 2 ∨ M0 241 q = 20 ∨ M0 241 q = 21 ∨ (M0 241 q = 22 ∧ ¬ M0 248 q = -1)) → ¬ V 295 (26 * lv + M0 248 q) = 0) (te : ∀ v, t v ↔ (s v ∨ ∃ m, (0 ≤ m ∧ m < (M0 222 60)) ∧ (M0 271 m = a ∧ M0 273 m = x ∧ M0 272 m = st) ∧ M0 276 m ≤ v ∧ v ≤ M0 277 m))
    (next : ∀ r W, h_J C0 M0 U F S k n b lv V0 W t R → h_MF C0 M0 U n b lv V W → h_KL lv V W → ((r = -1 ∧ ∀ m, ¬ h_f1 M0 (R []) a x st m) ∨ (0 ≤ r ∧ h_f1 M0 (R []) a x st r)) → Φ r W) : ax_I ay_lay (d + 10 * k + 5) q_Model_firstOf [.ref 222, ax_i lv, ax_i n, ax_i b, ax_i a, ax_i st, ax_i x] V Φ Θ := by
  have hS := hX.hS
  have sm := hS.small
  have hN := hS.2.1
  have nn := hn.1
  have tb := hX.tb n
  have rl : ax_rg lv := ⟨by omega, by omega⟩
  have rn : ax_rg n := ⟨by omega, by omega⟩
  have rb : ax_rg b := ⟨by omega, by omega⟩
  have ra : ax_rg a := ⟨by omega, by omega⟩
  have rx : ax_rg x := ⟨by omega, by omega⟩
  have hB := hS.2.2.2.2.1
  have orr := hB.2.2.2.2.2.1.2.2.1
  have trb : 0 ≤ (M0 222 60) ∧ (M0 222 60) ≤ 350 := by
    have hc4 := hB.1.2.2.2.2.1
    have hat := hS.2.2.2.2.2.2.2
    omega
  refine r_Model_firstOf hg rl rn rb ra rst rx ?_
  refine ax_for (I := fun i X => (0 ≤ i ∧ i ≤ (M0 222 60)) ∧ (∃ u : Int → Prop, (∀ v, u v ↔ (s v ∨ ∃ m, (0 ≤ m ∧ m < i) ∧ (M0 271 m = a ∧ M0 273 m = x ∧ M0 272 m = st) ∧ M0 276 m ≤ v ∧ v ≤ M0 277 m)) ∧ h_J C0 M0 U F S k n b lv V0 X u R) ∧ h_MF C0 M0 U n b lv V X ∧ h_KL lv V X) (K := fun i X => ∀ r, ((r = -1 ∧ ∀ y, y < i → ¬ h_f1 M0 (R []) a x st y) ∨ ((0 ≤ r ∧ r < i) ∧ h_f1 M0 (R []) a x st r)) → k_Model_firstOf_6 (d + 10 * k + 4) lv n b a st x r i X Φ Θ) (hi := (M0 222 60)) (fun i X w hI nx r hr => ?_) (fun i X w hI r hr => ?_) 0 V ⟨⟨Int.le_refl _, trb.1⟩, ⟨s, fun v => ⟨fun z => Or.inl z, fun z => by rcases z with z | ⟨m, z, -⟩; exact z; omega⟩, hJ⟩, ⟨⟨fun _ _ => rfl, fun _ _ => rfl, hg, hfo⟩, fun _ _ => ⟨rfl, rfl⟩, fun _ _ => ⟨rfl, rfl, rfl⟩, fun _ _ => rfl, fun _ _ => ⟨rfl, rfl⟩⟩, h_KL.rf lv V⟩ (-1) (Or.inl ⟨rfl, fun y hy z => by have := z.1.1; omega⟩)
  · obtain ⟨ib, ⟨u, ue, jX⟩, fX, kX⟩ := hI
    have rX := fX.rm hV
    have tmX := rX.1
    have gX := fX.1.2.2.1
    have bi : 0 ≤ i ∧ i < 351 := ⟨by omega, by omega⟩
    have rr : ax_rg r := by
      rcases hr with z | z
      · rw [z.1]; decide
      · exact ⟨by omega, by omega⟩
    refine r_Model_firstOf_6 gX rl rn rb ra rst rx rr ⟨by omega, by omega⟩ ?_
    rw [rX.2.1.2.2.2, tmX 271 (by decide) (by decide) (by decide), tmX 272 (by decide) (by decide) (by decide), tmX 273 (by decide) (by decide) (by decide), tmX 276 (by decide) (by decide) (by decide), tmX 277 (by decide) (by decide) (by decide)]
    have skip : ¬ (M0 271 i = a ∧ M0 273 i = x ∧ M0 272 i = st) → k_Model_firstOf_6 (d + 10 * k + 4) lv n b a st x r (i + 1) X Φ Θ := fun no => by
      refine nx X ⟨⟨by omega, by omega⟩, ⟨u, fun v => ?_, jX⟩, fX, kX⟩ r ?_
      · rw [ue]
        constructor
        · rintro (z | ⟨m, mb, z⟩)
          · exact Or.inl z
          · exact Or.inr ⟨m, ⟨mb.1, by omega⟩, z⟩
        · rintro (z | ⟨m, mb, z⟩)
          · exact Or.inl z
          · by_cases y : m = i
            · rw [y] at z; exact absurd z.1 no
            · exact Or.inr ⟨m, ⟨mb.1, by omega⟩, z⟩
      · rcases hr with z | z
        · refine Or.inl ⟨z.1, fun y hy w' => ?_⟩
          by_cases yi : y = i
          · rw [yi] at w'; exact no w'.2.1
          · exact z.2 y (by omega) w'
        · exact Or.inr ⟨⟨z.1.1, by omega⟩, z.2⟩
    refine ⟨fun z => by omega, fun _ => ⟨bi, fun ta => ⟨bi, fun ts => ⟨bi, fun tx => ⟨bi, bi, ?_⟩, fun tx => skip (fun y => tx y.2.1)⟩, fun ts => skip (fun y => ts y.2.2)⟩, fun ta => skip (fun y => ta y.1)⟩⟩
    -- a move that counts
    have ft := hB.2.2.2.2.1 i ib.1 w
    have fx := ft.2.2.2.2.2.2.2
    have f1 := fx.1
    have mn : M0 267 (M0 271 i) = n := by rw [ta]; exact an
    have acm : ∀ q, M0 276 i ≤ q → q ≤ M0 277 i → h_ac M0 S n (R []) q := fun q qa qb => by
      rw [hS.acT (S := S) ib.1 w mn qa qb, ts, hst, tx, ta]
    obtain ⟨u', ue'⟩ : ∃ u' : Int → Prop, ∀ v, u' v ↔ (u v ∨ (M0 276 i ≤ v ∧ v ≤ M0 277 i ∧ C0 526 v = 0)) := ⟨fun v => u v ∨ (M0 276 i ≤ v ∧ v ≤ M0 277 i ∧ C0 526 v = 0), fun _ => Iff.rfl⟩
    refine s_workAll (d := d) hX hn hk ht hlv hb rX gX fX.1.2.2.2 hR hm jX ⟨f1.1, by omega, f1.2.2⟩ (Or.inl rfl) (fun q qa qb ql => ⟨?_, fun y ky => ?_⟩) ue' (fun W jW fW kW _ => ?_)
    · have fq := fx.2.2 q qa qb
      have qq : 0 ≤ q ∧ q < (M0 222 26) := ⟨by omega, by omega⟩
      have S0 := hS.S0 hX.hT qq.1 qq.2 (by rw [fq.1.2.1]; have := (hS.tr ib.1 w).2; omega)
      refine ⟨⟨qq, fq.1.1.trans mn⟩, ⟨fun _ => Or.inl S0, fun _ => acm q qa qb⟩, fun z => absurd S0 z, fun z => ?_, fun e e0 e1 ea eb => ?_, fun z => absurd z (fq.2.2.1 rfl).2.2⟩
      · have l := hS.pl qq.1 qq.2 (by omega)
        rw [(kX.1 (26 * lv + M0 248 q) (by omega)).2.2]
        exact cL i q ib.1 w ta tx qa qb z
      · have := orr.2.2 e i e0 e1 ib.1 w; omega
    · have qq : 0 ≤ q ∧ q < (M0 222 26) := ⟨by omega, by omega⟩
      have lt := ((hS.p qq.1 qq.2).2.2.2.2.2.2.2.2.2.2 y ky).2
      have fq := fx.2.2 q qa qb
      rw [if_neg (fq.2.2.1 rfl).1, ql] at lt
      exact Or.inr (Or.inr ⟨fq.2.2.2.1 y ky, lt⟩)
    · have rW := fW.rm rX
      have sw : u' (M0 277 i) := (ue' _).mpr (Or.inr ⟨f1.2.1, Int.le_refl _, hS.trl ib.1 w 0 _ f1.2.1 (Int.le_refl _) (by omega)⟩)
      have val := (jW.1 (M0 277 i) (by omega) f1.2.2 ((fx.2.2 _ f1.2.1 (Int.le_refl _)).1.1.trans mn) sw (acm _ f1.2.1 (Int.le_refl _))).1
      have ind : ∃ u'' : Int → Prop, (∀ v, u'' v ↔ (s v ∨ ∃ m, (0 ≤ m ∧ m < i + 1) ∧ (M0 271 m = a ∧ M0 273 m = x ∧ M0 272 m = st) ∧ M0 276 m ≤ v ∧ v ≤ M0 277 m)) ∧ h_J C0 M0 U F S k n b lv V0 W u'' R := by
        refine ⟨u', fun v => ?_, jW⟩
        rw [ue', ue]
        constructor
        · rintro ((z | ⟨m, mb, z⟩) | z)
          · exact Or.inl z
          · exact Or.inr ⟨m, ⟨mb.1, by omega⟩, z⟩
          · exact Or.inr ⟨i, ⟨ib.1, by omega⟩, ⟨ta, tx, ts⟩, z.1, z.2.1⟩
        · rintro (z | ⟨m, mb, z⟩)
          · exact Or.inl (Or.inl z)
          · by_cases y : m = i
            · rw [y] at z
              exact Or.inr ⟨z.2.1, z.2.2, hS.trl ib.1 w (M0 277 i - v).toNat v z.2.1 z.2.2 (by omega)⟩
            · exact Or.inl (Or.inr ⟨m, ⟨mb.1, by omega⟩, z⟩)
      have fin : ∀ r', ((r' = -1 ∧ ∀ y, y < i + 1 → ¬ h_f1 M0 (R []) a x st y) ∨ ((0 ≤ r' ∧ r' < i + 1) ∧ h_f1 M0 (R []) a x st r')) → k_Model_firstOf_6 (d + 10 * k + 4) lv n b a st x r' (i + 1) W Φ Θ := fun r' hr' => nx W ⟨⟨by omega, by omega⟩, ind, fX.tr fW, kX.tr kW⟩ r' hr'
      refine ⟨fun z => ⟨bi, ?_⟩, fun z => fin r ?_⟩
      · rw [rW.1 277 (by decide) (by decide) (by decide)]
        have none := (hr.resolve_right (fun y => by omega)).2
        refine s_valueAt fW.1.2.2.1 ⟨by omega, by omega⟩ ⟨by omega, by omega⟩ ?_
        rw [if_neg (by omega), val]
        refine ⟨fun y => fin i (Or.inr ⟨⟨ib.1, by omega⟩, ⟨ib.1, w⟩, ⟨ta, tx, ts⟩, y, fun m' h0 h1 ya yx ys => ?_⟩), fun y => fin r (Or.inl ⟨z, fun m' hm' w' => ?_⟩)⟩
        · exact h_f1.least (M0 := M0) (r := R []) i.toNat m' h0 (by omega) (by omega) (fun y' hy' => none y' (by omega)) ya yx ys
        · by_cases mi : m' = i
          · rw [mi] at w'; exact y w'.2.2.1
          · exact none m' (by omega) w'
      · rcases hr with y | y
        · exact absurd y.1 z
        · exact Or.inr ⟨⟨y.1.1, by omega⟩, y.2⟩
  · obtain ⟨ib, ⟨u, ue, jX⟩, fX, kX⟩ := hI
    have rX := fX.rm hV
    have ei : i = (M0 222 60) := by omega
    have rr : ax_rg r := by
      rcases hr with z | z
      · rw [z.1]; decide
      · exact ⟨by omega, by omega⟩
    refine r_Model_firstOf_6 fX.1.2.2.1 rl rn rb ra rst rx rr ⟨by omega, by omega⟩ ?_
    rw [rX.2.1.2.2.2]
    refine ⟨fun _ => next r X (jX.of (fun v => ?_)) fX kX ?_, fun z => by omega⟩
    · rw [te, ue, ei]
    · rcases hr with z | z
      · refine Or.inl ⟨z.1, fun y w' => z.2 y ?_ w'⟩
        rw [ei]; exact w'.1.2
      · exact Or.inr ⟨z.1.1, z.2⟩
end ModelF
