/-! MOVES, in the invariant -/
section MovesI
variable {C0 M0 P V V0 V1 W : ax_V} {F G Hh S U J Im : Int → Int} {n q e a b x m T : Int} {k : Nat} {s t : Int → Prop} {R : h_R}
theorem h_f1.uniq {r : Int → Int → Int} {st m' : Int} (h : h_f1 M0 r a x st m) (h' : h_f1 M0 r a x st m') : m = m' := by
  have a1 : ¬ m < m' := fun w => h'.2.2.2 m h.1.1 w h.2.1.1 h.2.1.2.1 h.2.1.2.2 h.2.2.1
  have a2 : ¬ m' < m := fun w => h.2.2.2 m' h'.1.1 w h'.2.1.1 h'.2.1.2.1 h'.2.1.2.2 h'.2.2.1
  omega
/-- the class's move is the record's -/
theorem h_mf.to {st : Int} (hst : V 154 a = C0 558 a + st) (hv : ∀ m', 0 ≤ m' → m' < (M0 222 60) → M0 271 m' = a → M0 273 m' = x → M0 272 m' = st → V 151 (M0 277 m') = R [] 0 (M0 277 m')) (h : h_mf C0 M0 V a x m) : (m = -1 ∧ ∀ m', ¬ h_f1 M0 (R []) a x st m') ∨ (0 ≤ m ∧ h_f1 M0 (R []) a x st m) := by
  rcases h with ⟨h1, h2⟩ | ⟨⟨m0, ⟨ma, mx, ms⟩, mv⟩, h2⟩
  · refine Or.inl ⟨h1, fun m' f => ?_⟩
    refine h2 m' f.1.1 f.1.2 f.2.1.1 f.2.1.2.1 (by rw [hst, f.2.1.2.2]) ?_
    rw [hv m' f.1.1 f.1.2 f.2.1.1 f.2.1.2.1 f.2.1.2.2]
    exact f.2.2.1
  · have es : M0 272 m = st := by omega
    refine Or.inr ⟨m0.1, m0, ⟨ma, mx, es⟩, by rw [← hv m m0.1 m0.2 ma mx es]; exact mv, fun m' m'0 m'1 a' x' s' z => ?_⟩
    refine h2 m' m'0 m'1 a' x' (by rw [hst, s']) ?_
    rw [hv m' m'0 (by omega) a' x' s']
    exact z
theorem h_mf.nx {st y : Int} (hst : V 154 a = C0 558 a + st) (hv : ∀ m', 0 ≤ m' → m' < (M0 222 60) → M0 271 m' = a → M0 273 m' = x → M0 272 m' = st → V 151 (M0 277 m') = R [] 0 (M0 277 m')) (h : h_mf C0 M0 V a x m) (nx : h_nx M0 (R []) a x st y) : ((m = -1 ∧ y = st) ∨ (0 ≤ m ∧ y = M0 275 m)) ∧ ∀ z, h_rn M0 (R []) a x st z ↔ (0 ≤ m ∧ ¬ M0 274 m = 0 ∧ M0 275 m = z) := by
  rcases h_mf.to hst hv h with ⟨h1, h2⟩ | ⟨h1, h2⟩
  · refine ⟨Or.inl ⟨h1, ?_⟩, fun z => ⟨fun ⟨m', f, _⟩ => absurd f (h2 m'), fun w => by omega⟩⟩
    rcases nx with ⟨m', f, _⟩ | w
    · exact absurd f (h2 m')
    · exact w.2
  · refine ⟨Or.inr ⟨h1, ?_⟩, fun z => ⟨fun ⟨m', f, g⟩ => ?_, fun w => ⟨m, h2, w.2⟩⟩⟩
    · rcases nx with ⟨m', f, g⟩ | w
      · rw [h2.uniq f]; exact g
      · exact absurd h2 (w.1 m)
    · rw [h2.uniq f]; exact ⟨f.1.1, g⟩
/-- which cells belong to a state -/
theorem h_X.rng (hX : h_X C0 M0 P F G Hh S U J Im) (hn : h_N M0 U J n) (T0 : 0 ≤ T) (T1 : T < (C0 556 1)) (Tn : M0 267 (C0 563 T) = n) (q0 : 0 ≤ q) (q1 : q < (M0 222 26)) (qn : M0 250 q = n) {i : Int} (i0 : 0 ≤ i) (i1 : i < g_vl C0 M0 U q) : (P 565 T ≤ g_cp C0 M0 U n q.toNat + i ∧ g_cp C0 M0 U n q.toNat + i < P 566 T) ↔ C0 525 q = T := by
  obtain ⟨lf, lg, -⟩ := (hX.dn hn).2.2.2.1 T T0 T1 Tn
  have nq : (q.toNat : Int) = q := Int.toNat_of_nonneg q0
  constructor
  · rintro ⟨z1, z2⟩
    obtain ⟨y, ⟨y1, y2, y3, y4⟩, y5, y6⟩ := lg _ z1 z2
    by_cases w : (y : Int) = q
    · rw [← w]; exact y3
    · have cd := hX.cd q0 q1 qn (x := (y : Int)) (by omega) (by omega) y2 w
      rw [Int.toNat_natCast] at cd
      omega
  · intro z
    have u := lf q.toNat ⟨by omega, by rw [nq]; exact qn, by rw [nq]; exact z, by rw [nq]; omega⟩
    rw [nq] at u
    omega
/-- the first memory of a part -/
theorem h_X.fst (hX : h_X C0 M0 P F G Hh S U J Im) (hn : h_N M0 U J n) (q0 : 0 ≤ q) (q1 : q < (M0 222 26)) (qn : M0 250 q = n) {i j : Int} (sb : h_sub C0 M0 U k q i j) : P 515 (300 * n + (g_cp C0 M0 U n q.toNat + i)) = if M0 241 q = 22 then Im (300 * C0 520 q + j) else 0 := by
  have fm := (hX.dn hn).2.2.2.2.1
  have bi := (hX.sb hn q0 q1 qn sb).1
  have nq : (q.toNat : Int) = q := Int.toNat_of_nonneg q0
  have f := fm.2.2 q.toNat (by omega) (by rw [nq]; exact qn)
  rw [nq] at f
  rcases sb with ⟨o, i0, j0⟩ | ⟨o, pp⟩
  · rw [if_neg (by omega), i0, Int.add_zero]
    exact f.1 o
  · have s := hX.sub hn q0 q1 qn o
    rw [if_pos o, f.2 o i bi.1 (by rw [← s.2.2]; exact bi.2)]
    exact (hX.im s.1).1 k i j pp
/-- what a move leaves in memory -/
theorem h_ren (hX : h_X C0 M0 P F G Hh S U J Im) (hn : h_N M0 U J n) (a0 : 0 ≤ a) (a1 : a < (M0 222 55)) (an : M0 267 a = n) (Te : (m = -1 ∧ T = V 154 a) ∨ (0 ≤ m ∧ T = C0 558 a + M0 275 m)) (Tr : C0 558 a ≤ T ∧ T < C0 558 a + M0 269 a) (h1 : (V1 = V ∧ ¬ (0 ≤ m ∧ ¬ M0 274 m = 0)) ∨ ((0 ≤ m ∧ ¬ M0 274 m = 0) ∧ g_fr [155] V V1 ∧ ax_g V1 ∧ (∀ i, ¬ (b + P 565 T ≤ i ∧ i < b + P 566 T) → V1 155 i = V 155 i) ∧ ∀ i, P 565 T ≤ i → i < P 566 T → V1 155 (b + i) = P 515 (300 * n + i))) :
    (∀ c, ¬ c = 155 → V1 c = V c) ∧ (∀ i, g_cp C0 M0 U n ((M0 222 26)).toNat ≤ i → V1 155 (b + i) = V 155 (b + i)) ∧ (∀ i, ¬ (b ≤ i ∧ i < b + g_T C0 M0 U n) → V1 155 i = V 155 i) ∧ (∀ q, 0 ≤ q → q < (M0 222 26) → M0 250 q = n → M0 241 q = 22 → (∀ i, 0 ≤ i → i < g_vl C0 M0 U q → V1 155 (b + (g_cp C0 M0 U n q.toNat + i)) = V 155 (b + (g_cp C0 M0 U n q.toNat + i))) ∨ ∀ i, 0 ≤ i → i < g_vl C0 M0 U q → V1 155 (b + (g_cp C0 M0 U n q.toNat + i)) = P 515 (300 * C0 520 q + i)) ∧
    ∀ e q i j, 0 ≤ e → e < (M0 222 44) → M0 258 e = n → M0 261 e ≤ q → q ≤ M0 262 e → h_sub C0 M0 U k q i j → ((M0 263 e = a ∧ 0 ≤ m ∧ ¬ M0 274 m = 0 ∧ M0 275 m = M0 264 e) → V1 155 (b + (g_cp C0 M0 U n q.toNat + i)) = if M0 241 q = 22 then Im (300 * C0 520 q + j) else 0) ∧ (¬ (M0 263 e = a ∧ 0 ≤ m ∧ ¬ M0 274 m = 0 ∧ M0 275 m = M0 264 e) → V1 155 (b + (g_cp C0 M0 U n q.toNat + i)) = V 155 (b + (g_cp C0 M0 U n q.toNat + i))) := by
  have hS := hX.hS
  have fa := hS.au a0 a1
  have f3 := fa.1.2.2.1
  have fac : C0 558 (a + 1) = C0 558 a + M0 269 a := fa.2.1
  have ow := (fa.1.2.2.2.2.2 T Tr.1 (by omega)).1
  have Tn : M0 267 (C0 563 T) = n := by rw [ow]; exact an
  rcases h1 with ⟨ev, no⟩ | ⟨yes, fr, g1, ho, hi⟩
  · rw [ev]
    exact ⟨fun _ _ => rfl, fun _ _ => rfl, fun _ _ => rfl, fun _ _ _ _ _ => Or.inl (fun _ _ _ => rfl), fun e q i j _ _ _ _ _ _ => ⟨fun z => absurd ⟨z.2.1, z.2.2.1⟩ no, fun _ => rfl⟩⟩
  · have lf := ((hX.dn hn).2.2.2.1 T (by omega) (by omega) Tn).2.2
    have TT : g_T C0 M0 U n = g_ll M0 n 26 + g_ca M0 n ((M0 222 55)).toNat + g_cp C0 M0 U n ((M0 222 26)).toNat := rfl
    have l0 := (g_ll_b M0 n 26).1
    have c0 := (g_ca_b M0 n ((M0 222 55)).toNat).1
    have eT : T = C0 558 a + M0 275 m := by omega
    refine ⟨fun c z => fr c (by simp; exact z), fun i z => ho _ (by omega), fun i z => ho _ (by omega), fun q q0 q1 qn o => ?_, fun e q i j e0 e1 en ea eb sb => ?_⟩
    · by_cases z : C0 525 q = T
      · refine Or.inr (fun i i0 i1 => ?_)
        have r := (hX.rng hn (by omega) (by omega) Tn q0 q1 qn i0 i1).mpr z
        rw [hi _ r.1 r.2]
        have nq : (q.toNat : Int) = q := Int.toNat_of_nonneg q0
        have f := ((hX.dn hn).2.2.2.2.1).2.2 q.toNat (by omega) (by rw [nq]; exact qn)
        rw [nq] at f
        exact f.2 o i i0 (by rw [← (hX.sub hn q0 q1 qn o).2.2]; exact i1)
      · refine Or.inl (fun i i0 i1 => ho _ (fun w => z ((hX.rng hn (by omega) (by omega) Tn q0 q1 qn i0 i1).mp (by omega))))
    · have qq := hS.eq e0 e1 en ea eb
      have bi := (hX.sb hn qq.1.1 qq.1.2 qq.2 sb).1
      have sq := ((hS.2.2.2.2.1.2.1 e e0 e1).2.2.2.2.2.1.2.2 q ea eb).1.2.1
      have r := hX.rng hn (T := T) (by omega) (by omega) Tn qq.1.1 qq.1.2 qq.2 bi.1 bi.2
      rw [sq] at r
      refine ⟨fun z => ?_, fun z => ho _ (fun w => z ?_)⟩
      · have w : C0 551 e = T := by
          rcases hS.st e0 e1 with y | y
          · have := y.2.1; omega
          · rw [y.2.2.2.2.1, z.1, eT, z.2.2.2]
        have rr := r.mpr w
        rw [hi _ rr.1 rr.2]
        exact hX.fst hn qq.1.1 qq.1.2 qq.2 sb
      · have w := r.mp (by omega)
        rcases hS.st e0 e1 with y | y
        · omega
        · have ea' : M0 263 e = a := by rw [← y.2.2.1, w]; exact ow
          refine ⟨ea', yes.1, yes.2, ?_⟩
          have y5 := y.2.2.2.2.1
          rw [ea'] at y5
          omega
set_option maxHeartbeats 1000000 in
theorem h_IR.strong (hX : h_X C0 M0 P F G Hh S U J Im) (hn : h_N M0 U J n) (hR : h_TK C0 M0 U S Im (k + 1) n R) (h : h_IR C0 M0 U F S k n b V0 V s R) (te : ∀ v, t v ↔ (s v ∨ v = 2048 + a)) (a0 : 0 ≤ a) (a1 : a < (M0 222 55)) (an : M0 267 a = n) (new : ¬ s (2048 + a)) (noend : ∀ v, 3072 ≤ v → ¬ s v) (wk : ∀ m q, 0 ≤ m → m < (M0 222 60) → M0 271 m = a → ¬ M0 273 m = 0 → M0 276 m ≤ q → q ≤ M0 277 m → s q) (nw : ∀ e q, 0 ≤ e → e < (M0 222 44) → M0 261 e ≤ q → q ≤ M0 262 e → M0 263 e = a → ¬ s q) (hmf : h_mf C0 M0 V a 1 m) (Te : (m = -1 ∧ T = V 154 a) ∨ (0 ≤ m ∧ T = C0 558 a + M0 275 m)) (Tr : C0 558 a ≤ T ∧ T < C0 558 a + M0 269 a) (h1 : (V1 = V ∧ ¬ (0 ≤ m ∧ ¬ M0 274 m = 0)) ∨ ((0 ≤ m ∧ ¬ M0 274 m = 0) ∧ g_fr [155] V V1 ∧ ax_g V1 ∧ (∀ i, ¬ (b + P 565 T ≤ i ∧ i < b + P 566 T) → V1 155 i = V 155 i) ∧ ∀ i, P 565 T ≤ i → i < P 566 T → V1 155 (b + i) = P 515 (300 * n + i))) (eW : W = ax_u V1 154 a T) : h_IR C0 M0 U F S k n b V0 W t R := by
  have hS := hX.hS
  have sm := hS.small
  have nn := hn.1
  obtain ⟨i1, i2, i3, i4, i5, i6⟩ := h
  obtain ⟨r1, r2, -, -, r3⟩ := h_ren (k := k) hX hn a0 a1 an Te Tr h1
  have v := (i3 a a0 a1 an).2 new
  have nx := (hR.2.2.2.1 a a0 a1 an).1
  obtain ⟨g1, g2⟩ := h_mf.nx v (fun m' m0 m1 ma mx ms => by
    have fx := (hS.2.2.2.2.1.2.2.2.2.1 m' m0 m1).2.2.2.2.2.2.2
    have f1 := fx.1
    have mn : M0 267 (M0 271 m') = n := by rw [ma]; exact an
    refine (i1 _ (by omega) f1.2.2 ((fx.2.2 _ f1.2.1 (Int.le_refl _)).1.1.trans mn) (wk m' _ m0 m1 ma (by omega) f1.2.1 (Int.le_refl _)) ?_).1
    refine (hS.acT (S := S) m0 m1 mn f1.2.1 (Int.le_refl _)).mpr ?_
    rw [if_neg (by omega), ma]; exact ms) hmf nx
  have T3 : T = C0 558 a + R [] 3 a := by omega
  have big : ∀ v, ¬ v = 2048 + a → (t v ↔ s v) := fun v hv => by rw [te]; exact ⟨fun z => by rcases z with z | z; exact z; exact absurd z hv, fun z => Or.inl z⟩
  have k4 : ∀ c, ¬ c = 154 → W c = V1 c := fun c z => by rw [eW]; exact ax_u_ne z
  have k5 : ∀ c, ¬ c = 154 → ¬ c = 155 → W c = V c := fun c z y => (k4 c z).trans (r1 c y)
  refine ⟨i1.keep (fun q a b => (big _ (by omega)).mp) (fun _ _ _ _ => by rw [k5 151 (by decide) (by decide)]), i2.keep hS (fun e x y => (big _ (by omega)).mp) (fun _ _ _ => ⟨by rw [k5 152 (by decide) (by decide)], by rw [k5 153 (by decide) (by decide)]⟩), fun a' x y z => ?_, fun e q i j e0 e1 en ea eb sb => ?_, i5.keep (fun l x y => big _ (by omega)) (fun a x y => big _ (by omega)) (fun i z => by rw [k4 155 (by decide)]; exact r2 i z), i6.keep (fun q a b => big _ (by omega)) (by rw [k5 150 (by decide) (by decide)])⟩
  · by_cases w : a' = a
    · rw [w, eW, ax_u_s]
      exact ⟨fun _ => T3, fun y => absurd ((te _).mpr (Or.inr rfl)) y⟩
    · rw [eW, ax_u_k w, r1 154 (by decide), big _ (by omega)]
      exact i3 a' x y z
  · have xx := hS.eq e0 e1 en ea eb
    have aub : ¬ M0 263 e = -1 → 0 ≤ M0 263 e := fun z => by
      rcases hS.st e0 e1 with y | y
      · exact absurd y.2.1 z
      · exact y.2.1.1
    have u := i4 e q i j e0 e1 en ea eb sb
    have c := r3 e q i j e0 e1 en ea eb sb
    have bj := (hX.sb hn xx.1.1 xx.1.2 xx.2 sb).2
    by_cases w : M0 263 e = a
    · have au : ¬ M0 263 e = -1 := by omega
      have n5 : ∀ v, 3072 ≤ v → ¬ t v := fun v hv z => noend v hv ((big v (by omega)).mp z)
      have nq := nw e q e0 e1 ea eb w
      have x5 := u.2.2.2 (fun z => noend _ (by omega) z.2) (fun z => by rcases z with z | z; exact noend _ (by omega) z.2; exact nq z.2) (fun z => by rcases z with z | z; exact au z; rw [w] at z; exact new z)
      have rr := (hR.2.2.2.2.2.1 e q j e0 e1 en ea eb bj.1 bj.2).1 _ rfl
      rw [w] at rr
      have val : W 155 (b + (g_cp C0 M0 U n q.toNat + i)) = R [] 7 (g_sp C0 M0 U n q.toNat + j) := by
        rw [k4 155 (by decide)]
        by_cases z : h_rn M0 (R []) a 1 (R [] 5 (h_sa M0 n a)) (M0 264 e)
        · rw [rr.1 z]; exact c.1 ⟨w, (g2 _).mp z⟩
        · rw [rr.2.1 z, c.2 (fun y => z ((g2 _).mpr y.2))]; exact x5
      refine ⟨fun z => absurd z.2 (n5 _ (by omega)), fun _ z => ?_, fun _ _ _ => val, fun _ _ z => absurd (Or.inr (by rw [w]; exact (te _).mpr (Or.inr rfl))) z⟩
      rcases z with z | z
      · exact absurd z.2 (n5 _ (by omega))
      · exact absurd ((big q (by omega)).mp z.2) nq
    · refine u.to (fun z => big _ (by have := aub z; omega)) (fun _ => big _ (by omega)) (fun _ => big _ (by omega)) (fun z => big _ (by omega)) (fun y z => ?_)
      rw [k4 155 (by decide), c.2 (fun y => w y.1)]; exact z
set_option maxHeartbeats 1000000 in
theorem h_IR.weak (hX : h_X C0 M0 P F G Hh S U J Im) (hn : h_N M0 U J n) (hR : h_TK C0 M0 U S Im (k + 1) n R) (h : h_IR C0 M0 U F S k n b V0 V s R) (te : ∀ v, t v ↔ (s v ∨ v = 5120 + a)) (a0 : 0 ≤ a) (a1 : a < (M0 222 55)) (an : M0 267 a = n) (new : ¬ s (5120 + a)) (aw : g_aw M0 s n) (ak : g_ak M0 s n) (hmf : h_mf C0 M0 V a 0 m) (Te : (m = -1 ∧ T = V 154 a) ∨ (0 ≤ m ∧ T = C0 558 a + M0 275 m)) (Tr : C0 558 a ≤ T ∧ T < C0 558 a + M0 269 a) (h1 : (V1 = V ∧ ¬ (0 ≤ m ∧ ¬ M0 274 m = 0)) ∨ ((0 ≤ m ∧ ¬ M0 274 m = 0) ∧ g_fr [155] V V1 ∧ ax_g V1 ∧ (∀ i, ¬ (b + P 565 T ≤ i ∧ i < b + P 566 T) → V1 155 i = V 155 i) ∧ ∀ i, P 565 T ≤ i → i < P 566 T → V1 155 (b + i) = P 515 (300 * n + i))) (eW : W = ax_u V1 155 (b + P 560 a) (T - C0 558 a)) : h_IR C0 M0 U F S k n b V0 W t R := by
  have hS := hX.hS
  have sm := hS.small
  have nn := hn.1
  have hN := hS.2.1
  obtain ⟨i1, i2, i3, i4, i5, i6⟩ := h
  obtain ⟨r1, r2, -, -, r3⟩ := h_ren (k := k) hX hn a0 a1 an Te Tr h1
  have sa := aw.2.2 a a0 a1 an
  have v := (i3 a a0 a1 an).1 sa
  have nx := (hR.2.2.2.1 a a0 a1 an).2
  have ca := hX.a5 hn a0 a1 an
  rw [ca.1] at eW
  obtain ⟨g1, g2⟩ := h_mf.nx v (fun m' m0 m1 ma mx ms => by
    have fx := (hS.2.2.2.2.1.2.2.2.2.1 m' m0 m1).2.2.2.2.2.2.2
    have f1 := fx.1
    have mn : M0 267 (M0 271 m') = n := by rw [ma]; exact an
    have wn := (fx.2.2 _ f1.2.1 (Int.le_refl _)).1.1.trans mn
    refine (i1 _ (by omega) f1.2.2 wn (aw.1 _ (by omega) f1.2.2 wn) ?_).1
    refine (hS.acT (S := S) m0 m1 mn f1.2.1 (Int.le_refl _)).mpr ?_
    rw [if_pos mx, ma]; exact ms) hmf nx
  have T6 : T - C0 558 a = R [] 6 (h_sa M0 n a) := by omega
  have big : ∀ v, ¬ v = 5120 + a → (t v ↔ s v) := fun v hv => by rw [te]; exact ⟨fun z => by rcases z with z | z; exact z; exact absurd z hv, fun z => Or.inl z⟩
  have k5 : ∀ c, ¬ c = 155 → W c = V c := fun c z => by rw [eW, ax_u_ne z]; exact r1 c z
  have km : ∀ i, ¬ i = g_cp C0 M0 U n ((M0 222 26)).toNat + g_ca M0 n a.toNat → W 155 (b + i) = V1 155 (b + i) := fun i z => by rw [eW]; exact ax_u_k (by omega)
  refine ⟨i1.keep (fun q a b => (big _ (by omega)).mp) (fun _ _ _ _ => by rw [k5 151 (by decide)]), i2.keep hS (fun e x y => (big _ (by omega)).mp) (fun _ _ _ => ⟨by rw [k5 152 (by decide)], by rw [k5 153 (by decide)]⟩), i3.keep (fun a x y => big _ (by omega)) (fun _ _ _ _ => by rw [k5 154 (by decide)]), fun e q i j e0 e1 en ea eb sb => ?_, ⟨fun l l0 l1 hl => ?_, fun a' x y z => ?_⟩, i6.keep (fun q a b => big _ (by omega)) (by rw [k5 150 (by decide)])⟩
  · have xx := hS.eq e0 e1 en ea eb
    have aub : ¬ M0 263 e = -1 → 0 ≤ M0 263 e ∧ M0 263 e < (M0 222 55) := fun z => by
      rcases hS.st e0 e1 with y | y
      · exact absurd y.2.1 z
      · exact y.2.1
    have u := i4 e q i j e0 e1 en ea eb sb
    have c := r3 e q i j e0 e1 en ea eb sb
    have bb := hX.sb hn xx.1.1 xx.1.2 xx.2 sb
    have cq := hX.c5 hn xx.1.1 xx.1.2 xx.2
    have km1 := km (g_cp C0 M0 U n q.toNat + i) (by omega)
    by_cases w : M0 263 e = a
    · have au : ¬ M0 263 e = -1 := by omega
      have x8 := u.2.1 (fun z => by rw [w] at z; exact new z.2) (by
        by_cases o : M0 241 q = 6
        · exact Or.inl ⟨o, ak.1 q xx.1.1 xx.1.2 xx.2 o⟩
        · exact Or.inr ⟨o, aw.1 q xx.1.1 xx.1.2 xx.2⟩)
      have rr := (hR.2.2.2.2.2.1 e q j e0 e1 en ea eb bb.2.1 bb.2.2).1 _ rfl
      rw [w] at rr
      have val : W 155 (b + (g_cp C0 M0 U n q.toNat + i)) = R [] 6 (g_sp C0 M0 U n q.toNat + j) := by
        rw [km1]
        by_cases z : h_rn M0 (R []) a 0 (R [] 3 a) (M0 264 e)
        · rw [rr.2.2.1 z]; exact c.1 ⟨w, (g2 _).mp z⟩
        · rw [rr.2.2.2 z, c.2 (fun y => z ((g2 _).mpr y.2))]; exact x8
      have dn : ¬ M0 263 e = -1 ∧ t (5120 + M0 263 e) := ⟨au, by rw [w]; exact (te _).mpr (Or.inr rfl)⟩
      exact ⟨fun _ => val, fun z => absurd dn z, fun z => absurd dn z, fun z => absurd dn z⟩
    · refine u.to (fun z => big _ (by omega)) (fun _ => big _ (by omega)) (fun _ => big _ (by omega)) (fun z => big _ (by have := aub z; omega)) (fun y z => ?_)
      rw [km1, c.2 (fun y => w y.1)]; exact z
  · have gl := g_ll_b M0 n l.toNat
    rw [big _ (by omega), km _ (by omega), r2 _ (by omega)]
    exact i5.1 l l0 l1 hl
  · by_cases w : a' = a
    · rw [w, eW, ax_u_s]
      exact ⟨fun _ => T6, fun y => absurd ((te _).mpr (Or.inr rfl)) y⟩
    · have ad := h_ad (M0 := M0) a0 an x z w
      have g0 := (g_ca_b M0 n a'.toNat).1
      rw [big _ (by omega), km _ (by omega), r2 _ (by omega)]
      exact i5.2 a' x y z
end MovesI
