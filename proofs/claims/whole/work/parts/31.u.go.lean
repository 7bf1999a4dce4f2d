/-! A TICK OF THE CLASS: begin, end, whole -/
section Go
variable {B d : Nat} {C0 M0 P V V0 V1 V2 W W3 : ax_V} {F G Hh S U J Im : Int → Int} {n q e a b x m T l : Int} {k : Nat} {s t : Int → Prop} {R : h_R} {f : Int → Int} {F0 p : Int} {Φ : Int → ax_V → Prop} {Ψ Θ : ax_V → Prop}
theorem g_PP.au (a0 : 0 ≤ a) (a1 : a < (M0 222 55)) (an : M0 267 a = n) : g_PP C0 M0 U (k + 1) n (g_cp C0 M0 U n ((M0 222 26)).toNat + g_ca M0 n a.toNat) (h_sa M0 n a) := by
  obtain ⟨m, rfl⟩ := Int.eq_ofNat_of_zero_le a0
  exact Or.inr (Or.inl ⟨m, by omega, an, rfl, rfl⟩)
theorem g_PP.last (l0 : 0 ≤ l) (l1 : l < 26) (hl : ¬ M0 236 (26 * n + l) = 0) : g_PP C0 M0 U (k + 1) n (g_cp C0 M0 U n ((M0 222 26)).toNat + g_ca M0 n ((M0 222 55)).toNat + g_ll M0 n l.toNat) (g_ll M0 n l.toNat) := by
  obtain ⟨m, rfl⟩ := Int.eq_ofNat_of_zero_le l0
  exact Or.inl ⟨m, by omega, hl, rfl, rfl⟩
theorem g_PP.part (q0 : 0 ≤ q) (q1 : q < (M0 222 26)) (qn : M0 250 q = n) {i j : Int} (sb : h_sub C0 M0 U k q i j) : g_PP C0 M0 U (k + 1) n (g_cp C0 M0 U n q.toNat + i) (g_sp C0 M0 U n q.toNat + j) := by
  obtain ⟨m, rfl⟩ := Int.eq_ofNat_of_zero_le q0
  exact Or.inr (Or.inr ⟨m, by omega, qn, i, j, sb, rfl, rfl⟩)
theorem h_rn.no (hS : g_S C0 M0) {r : Int → Int → Int} {y st to : Int} (z : a = -1) : ¬ h_rn M0 r a y st to := fun ⟨m, h, _⟩ => by
  have := (hS.tr h.1.1 h.1.2).1.1
  have := h.2.1.1
  omega
/-- before the first step -/
theorem h_L.begin (hX : h_X C0 M0 P F G Hh S U J Im) (hn : h_N M0 U J n) (has : h_AS C0 M0 U (k + 1) n b (V0 155)) (fW : g_fr [154] V0 W) (gW : ax_g W) (w1 : ∀ a, 0 ≤ a → a < (M0 222 55) → M0 267 a = n → W 154 a = C0 558 a + V0 155 (b + P 560 a)) (w2 : ∀ a, 0 ≤ a → a < (M0 222 55) → ¬ M0 267 a = n → W 154 a = V0 154 a) : h_L C0 M0 U F S Im k n b V0 f F0 F0 W := by
  have hS := hX.hS
  have emp : ∀ v, ¬ g_st f F0 F0 v := fun v ⟨j, j1, _⟩ => by omega
  have k4 : ∀ c, ¬ c = 154 → W c = V0 c := fun c z => fW c (by simp; exact z)
  refine ⟨⟨⟨fW.up (by simp), fun f _ => by rw [k4 150 (by decide)], gW⟩, fun i _ => by rw [k4 155 (by decide)], fun x _ => by rw [k4 152 (by decide), k4 153 (by decide)]; exact ⟨rfl, rfl⟩, fun q _ _ _ => by rw [k4 151 (by decide)], fun a a0 a1 z => w2 a a0 a1 (by omega), by rw [k4 155 (by decide)]; exact has, by rw [k4 150 (by decide)]; exact Int.le_refl _⟩, fun a a0 a1 an => ?_, fun R hR hI => ⟨⟨?_, ?_, ?_, ?_, ?_, ?_⟩, ?_, ?_⟩⟩
  · rw [w1 a a0 a1 an, (hX.a5 hn a0 a1 an).1]
    obtain ⟨m, rfl⟩ := Int.eq_ofNat_of_zero_le a0
    have u := has.1 m (by omega) an
    rw [Int.toNat_natCast]
    omega
  · exact fun q _ _ _ z => absurd z (emp _)
  · refine ⟨fun y y0 y1 ky => ?_, fun e i _ _ z => absurd z (emp _)⟩
    obtain ⟨i, i0, i1, ei⟩ := (hS.fl hn.1.1 hn.1.2).2.2.2.2.2.2.1 y y0 y1 ky
    have u := hI.2.2 i i0 i1
    rw [ei] at u
    refine ⟨?_, fun _ => ⟨?_, u.2.2⟩⟩
    · rw [k4 153 (by decide), u.1, hR.2.2.1.1 y y0 y1 ky]
    · rw [k4 152 (by decide)]; exact u.2.1
  · refine fun a a0 a1 an => ⟨fun z => absurd z (emp _), fun _ => ?_⟩
    rw [w1 a a0 a1 an, (hX.a5 hn a0 a1 an).1, hI.1 _ _ (g_PP.au a0 a1 an)]
  · refine fun e q i j e0 e1 en ea eb sb => ?_
    have qq := hS.eq e0 e1 en ea eb
    have u := hI.1 _ _ (g_PP.part qq.1.1 qq.1.2 qq.2 sb)
    have bj := (hX.sb hn qq.1.1 qq.1.2 qq.2 sb).2
    refine ⟨fun z => absurd z.2 (emp _), fun _ z => ?_, fun _ _ z => ?_, fun _ _ _ => ?_⟩
    · rcases z with z | z
      · exact absurd z.2 (emp _)
      · exact absurd z.2 (emp _)
    · rcases z with z | z
      · show W 155 _ = R [] 7 _
        have r := ((hR.2.2.2.2.2.1 e q j e0 e1 en ea eb bj.1 bj.2).1 _ rfl).2.1 (h_rn.no hS z)
        rw [r, k4 155 (by decide)]; exact u
      · exact absurd z (emp _)
    · show W 155 _ = R [] 5 _
      rw [k4 155 (by decide)]; exact u
  · refine ⟨fun l l0 l1 hl => ⟨fun z => absurd z (emp _), fun _ => ?_⟩, fun a a0 a1 an => ⟨fun z => absurd z (emp _), fun _ => ?_⟩⟩
    · rw [k4 155 (by decide)]; exact hI.1 _ _ (g_PP.last l0 l1 hl)
    · rw [k4 155 (by decide)]; exact hI.1 _ _ (g_PP.au a0 a1 an)
  · refine fun t _ => ?_
    rw [k4 150 (by decide)]
    refine ⟨fun z => Or.inl z, fun z => ?_⟩
    rcases z with z | ⟨q, _, _, z, _⟩ | ⟨q, _, _, z, _⟩
    · exact z
    · exact absurd z (emp _)
    · exact absurd z (emp _)
  · exact fun q _ _ _ _ z => absurd z (emp _)
  · exact fun z => absurd z (by omega)
set_option maxHeartbeats 1000000 in
/-- behind the last step -/
theorem h_L.end (hX : h_X C0 M0 P F G Hh S U J Im) (hn : h_N M0 U J n) (hSD : g_SD C0 M0 f F0 T n) (hL : h_L C0 M0 U F S Im k n b V0 f F0 T W) : h_GO C0 M0 U F S Im (k + 1) n b V0 W := by
  have hS := hX.hS
  have sm := hS.small
  have nn := hn.1
  obtain ⟨-, -, -, aw, ak, ax⟩ := hSD
  refine ⟨hL.1, fun R hR hI => ?_⟩
  obtain ⟨⟨i1, i2, i3, i4, i5, i6⟩, i8, -⟩ := hL.2.2 R hR hI
  have hm := hI.2.1
  have rd : ∀ y, 0 ≤ y → y < 26 → ¬ M0 232 (26 * n + y) = 0 → h_lt M0 n W R y := fun y y0 y1 k0 => i2.rd hX hn hR hm y y0 y1 (aw.2.rd hS hX.ok nn.1 nn.2 k0)
  have mem : ∀ q i j, 0 ≤ q → q < (M0 222 26) → M0 250 q = n → h_sub C0 M0 U k q i j → W 155 (b + (g_cp C0 M0 U n q.toNat + i)) = R [] 6 (g_sp C0 M0 U n q.toNat + j) := fun q i j q0 q1 qn sb => by
    have oo : M0 241 q = 6 ∨ M0 241 q = 19 ∨ M0 241 q = 22 := by
      rcases sb with z | z
      · rcases z.1 with y | y
        · exact Or.inl y
        · exact Or.inr (Or.inl y)
      · exact Or.inr (Or.inr z.1)
    obtain ⟨e, ee, en, ea, eb⟩ := hX.ine q0 q1 qn oo
    have bj := (hX.sb hn q0 q1 qn sb).2
    have u := i4 e q i j ee.1 ee.2 en ea eb sb
    rcases hS.st ee.1 ee.2 with y | y
    · have n5 : ¬ (¬ M0 263 e = -1 ∧ g_st f F0 T (5120 + M0 263 e)) := fun z => z.1 y.2.1
      have r := ((hR.2.2.2.2.2.1 e q j ee.1 ee.2 en ea eb bj.1 bj.2).1 _ rfl).2.2.2 (h_rn.no hS y.2.1)
      rw [r]
      refine u.2.1 n5 ?_
      by_cases o : M0 241 q = 6
      · exact Or.inl ⟨o, ak.1 q q0 q1 qn o⟩
      · exact Or.inr ⟨o, aw.1 q q0 q1 qn⟩
    · exact u.1 ⟨by omega, ax _ y.2.1.1 y.2.1.2 (y.2.2.2.2.2.2.trans en)⟩
  refine ⟨fun i j pp => ?_, ⟨fun q q1 qn o f1 => ?_, fun l l1 hl ty => ?_, fun a a1 an => ?_, fun q q1 qn o => ?_⟩, rd, fun i i0 i1' => ?_, fun a a0 a1 an => (i3 a a0 a1 an).1 (aw.2.2 a a0 a1 an), fun t ht => ?_⟩
  · rcases pp with ⟨l, l1, hl, ei, ej⟩ | ⟨a, a1, an, ei, ej⟩ | ⟨q, q1, qn, i', j', sb, ei, ej⟩
    · have u := (i5.1 (l : Int) (by omega) (by omega) hl).1 (ak.2 _ (by omega) (by omega) hl)
      rw [Int.toNat_natCast] at u
      rw [ei, ej]; exact u
    · have u := (i5.2 (a : Int) (by omega) (by omega) an).1 (ax _ (by omega) (by omega) an)
      unfold h_sa at u
      rw [Int.toNat_natCast] at u
      rw [ei, ej]; exact u
    · have u := mem (q : Int) i' j' (by omega) (by omega) qn sb
      rw [Int.toNat_natCast] at u
      rw [ei, ej]; exact u
  · -- a part that delays
    have q0 : 0 ≤ (q : Int) := by omega
    have q1' : (q : Int) < (M0 222 26) := by omega
    obtain ⟨e, ee, en, ea, eb⟩ := hX.ine q0 q1' qn (Or.inl o)
    have sb : h_sub C0 M0 U k (q : Int) 0 0 := Or.inl ⟨Or.inl o, rfl, rfl⟩
    have bj := (hX.sb hn q0 q1' qn sb).2
    have r := hR.2.2.2.2.2.1 e q 0 ee.1 ee.2 en ea eb bj.1 bj.2
    have r1 := r.1 0 (by rw [if_neg (by omega)])
    have r2 := r.2
    rw [Int.add_zero, Int.toNat_natCast] at r1 r2
    by_cases z : h_rn M0 (R []) (M0 263 e) 0 (R [] 3 (M0 263 e)) (M0 264 e)
    · exact Or.inl (r1.2.2.1 z)
    · rw [r1.2.2.2 z]
      by_cases ac : h_ac M0 S n (R []) (q : Int)
      · rw [r2.1 ac, if_pos o]
        have a0 := h_ar_a hS q0 q1' (by omega)
        have ka : e_kid M0 (q : Int) (M0 245 (q : Int)) := ⟨a0, Or.inl ⟨by omega, Or.inl rfl⟩⟩
        have aa := h_kid (Hh := Hh) (F := F) hS hX.ok hX.hG hX.hT hX.n4 nn.1 nn.2 (fun y y0 y1 k0 => (hX.pr hn hR hm y0 y1 k0).1) q0 q1' qn ac ka (fun z => by omega)
        have axx := hX.acn aa
        refine (i1 _ axx.1.1 axx.1.2 axx.2 (aw.1 _ axx.1.1 axx.1.2 axx.2) aa).2 ?_
        rw [← (hX.hF q q0 q1').1.2.2.2.2.2 (Or.inl o)]; exact f1
      · rw [r2.2 ac]
        by_cases y : h_rn M0 (R []) (M0 263 e) 1 (R [] 5 (h_sa M0 n (M0 263 e))) (M0 264 e)
        · exact Or.inl (r1.1 y)
        · rw [r1.2.1 y]; exact hm.1 q q1 qn o f1
  · -- a letter's last
    have k0 : ¬ M0 232 (26 * n + (l : Int)) = 0 := fun z => hl ((hS.l nn.1 nn.2 (l := (l : Int)) (by omega) (by omega)).2.1 z).2.2
    have r := hR.2.2.2.2.1 (l : Int) (by omega) (by omega) hl
    rw [Int.toNat_natCast] at r
    by_cases z : R [] 2 (l : Int) = 0
    · rw [r.2 z]; exact hm.2.1 l l1 hl ty
    · rw [r.1 z]; exact ((rd (l : Int) (by omega) (by omega) k0).2 z).2 ty
  · exact (hX.st hR hm (a : Int) (by omega) (by omega) an).2.2
  · -- a call
    have q0 : 0 ≤ (q : Int) := by omega
    have q1' : (q : Int) < (M0 222 26) := by omega
    have sb := hX.sub hn q0 q1' qn o
    have tt := hX.t sb.1
    obtain ⟨e, ee, en, ea, eb⟩ := hX.ine q0 q1' qn (Or.inr (Or.inr o))
    have r := fun j j0 j1 => hR.2.2.2.2.2.1 e q j ee.1 ee.2 en ea eb j0 (show j < g_vl C0 M0 U (q : Int) by rw [sb.2.2, tt.2]; exact j1)
    have r1 := fun j j0 j1 => (r j j0 j1).1 _ rfl
    rw [Int.toNat_natCast] at r r1
    by_cases z : h_rn M0 (R []) (M0 263 e) 0 (R [] 3 (M0 263 e)) (M0 264 e)
    · refine h_MS.eq hX _ _ _ _ sb.1 ((hX.im sb.1).2 k) (fun j j0 j1 => ?_)
      have u := (r1 j j0 j1).2.2.1 z
      rw [if_pos o] at u; exact u
    · by_cases ac : h_ac M0 S n (R []) (q : Int)
      · refine h_MS.eq hX _ _ _ _ sb.1 (i8 q q0 q1' qn o (aw.1 _ q0 q1' qn) ac) (fun j j0 j1 => ?_)
        have u := (r j j0 j1).2.1 ac
        rw [if_neg (by omega), if_neg (by omega)] at u
        exact ((r1 j j0 j1).2.2.2 z).trans u
      · by_cases y : h_rn M0 (R []) (M0 263 e) 1 (R [] 5 (h_sa M0 n (M0 263 e))) (M0 264 e)
        · refine h_MS.eq hX _ _ _ _ sb.1 ((hX.im sb.1).2 k) (fun j j0 j1 => ?_)
          have u := (r1 j j0 j1).1 y
          rw [if_pos o] at u
          exact (((r1 j j0 j1).2.2.2 z).trans ((r j j0 j1).2.2 ac)).trans u
        · refine h_MS.eq hX _ _ _ _ sb.1 (hm.2.2.2 q q1 qn o) (fun j j0 j1 => ?_)
          exact (((r1 j j0 j1).2.2.2 z).trans ((r j j0 j1).2.2 ac)).trans ((r1 j j0 j1).2.1 y)
  · have fo := (hS.fl nn.1 nn.2).2.2.2.2.2.1 i i0 i1'
    have fl := (hS.l nn.1 nn.2 fo.2.1.1 fo.2.1.2).2.2.2.1
    have ck : M0 235 (26 * n + M0 231 (26 * n + i)) = 0 := by
      rcases fl with z | z
      · exact z.1
      · have := fo.2.2; omega
    have k0 : ¬ M0 232 (26 * n + M0 231 (26 * n + i)) = 0 := by have := fo.2.2; omega
    have p := (hX.pr hn hR hm fo.2.1.1 fo.2.1.2 k0).1.mpr (by rw [ck]; exact Or.inl rfl)
    exact (rd _ fo.2.1.1 fo.2.1.2 k0).2 p
  · rw [i6 t ht, hR.2.2.2.2.2.2 t]
    constructor
    · rintro (z | ⟨q, qq, qn, _, z⟩ | ⟨q, qq, qn, _, z⟩)
      · exact Or.inl z
      · exact Or.inr (Or.inr (Or.inl ⟨q, qq, qn, z⟩))
      · exact Or.inr (Or.inr (Or.inr ⟨q, qq, qn, z⟩))
    · rintro (z | z | ⟨q, qq, qn, z⟩ | ⟨q, qq, qn, z⟩)
      · exact Or.inl z
      · omega
      · exact Or.inr (Or.inl ⟨q, qq, qn, aw.1 q qq.1 qq.2 qn, z⟩)
      · exact Or.inr (Or.inr ⟨q, qq, qn, aw.1 q qq.1 qq.2 qn, z⟩)
set_option maxHeartbeats 2000000 in
/-- A TICK OF THE CLASS -/
theorem t_go (hX : h_X C0 M0 P F G Hh S U J Im) : ∀ k : Nat, h_go C0 M0 P U J F S Im B k := by
  intro k
  induction k with
  | zero => intro n b V Ψ Θ hn hk; have := hn.1.1; omega
  | succ k ih =>
    intro n b V0 Ψ Θ hn hk hb hP hg has h
    have hS := hX.hS
    have sm := hS.small
    have hN := hS.2.1
    have nn := hn.1
    have E0 := hS.eqF nn.1 (by omega)
    have E1 := hS.eqF (n := n + 1) (by omega) (by omega)
    have E2 := hS.eqS nn.1 nn.2
    have rn : ax_rg n := ⟨by omega, by omega⟩
    have tb := hX.tb n
    have rb : ax_rg b := ⟨by omega, by omega⟩
    have b9 : 0 ≤ n ∧ n < 9 := ⟨by omega, by omega⟩
    have b10 : 0 ≤ n + 1 ∧ n + 1 < 9 := ⟨by omega, by omega⟩
    have hSD : g_SD C0 M0 (P 512) (P 511 n) (P 511 (n + 1)) n := (hX.dn hn).2.2.2.2.2.2
    have F3 := hSD.1
    have c10 : ∀ W : ax_V, (∀ c, 500 ≤ c → c ≤ 573 → W c = P c) → W 510 = C0 510 ∧ W 558 = C0 558 := fun W z => ⟨by rw [z 510 (by decide) (by decide)]; exact hX.hP 510 (by decide), by rw [z 558 (by decide) (by decide)]; exact hX.hP 558 (by decide)⟩
    -- the steps
    have p2 : ∀ W, h_L C0 M0 U F S Im k n b V0 (P 512) (P 511 n) (P 511 n) W → ∀ y4, ax_y y4 → k_Machine_go_73 B (3 * k + 3) n b (P 511 n) y4 W Ψ Θ := by
      intro W hW
      refine ax_for (I := fun p X => (P 511 n ≤ p ∧ p ≤ P 511 (n + 1)) ∧ h_L C0 M0 U F S Im k n b V0 (P 512) (P 511 n) p X) (K := fun p X => ∀ y4, ax_y y4 → k_Machine_go_73 B (3 * k + 3) n b p y4 X Ψ Θ) (hi := P 511 (n + 1)) (fun p X w hI next => ?_) (fun p X w hI => ?_) _ W ⟨⟨Int.le_refl _, F3.2.1⟩, hW⟩
      · obtain ⟨hp, hL⟩ := hI
        intro y4 hy4
        have hPX := hL.1.tab hP
        have gX := hL.1.1.2.2
        have b2 : 0 ≤ p ∧ p < 2048 := ⟨by omega, by omega⟩
        have nx : ∀ v, ax_rg v → ∀ W', h_L C0 M0 U F S Im k n b V0 (P 512) (P 511 n) (p + 1) W' → k_Machine_go_73 B (3 * k + 3) n b (p + 1) (some (ax_i v)) W' Ψ Θ := fun v _ W' h' => next W' ⟨⟨by omega, by omega⟩, h'⟩ _ (ax_y_i _)
        refine r_Machine_go_73 gX rn rb ⟨by omega, by omega⟩ hy4 ⟨b10, ?_⟩
        rw [hPX 511 (by decide) (by decide), hPX 512 (by decide) (by decide)]
        refine ⟨fun z => by omega, fun _ => ⟨b2, b2, ?_⟩⟩
        have dec : ∀ c y, 0 ≤ c ∧ c < 6 → 0 ≤ y ∧ y < 1024 → P 512 p = 1024 * c + y → ax_and (P 512 p) 1023 = y ∧ ax_shr (P 512 p) 10 = c := fun c y hc hy z => by rw [z]; exact b_dec hc hy
        have hpp : P 511 n ≤ p ∧ p < P 511 (n + 1) := ⟨hp.1, w⟩
        rcases (hSD.2.1 p hp.1 w).2.1 with ⟨q, ev, ⟨qb, qn⟩, -⟩ | ⟨e, ev, eb, -⟩ | ⟨a, ev, ab, -⟩ | ⟨q, ev, ⟨qb, qn⟩, -⟩ | ⟨l, ev, lb, hl, -⟩ | ⟨a, ev, ab, -⟩
        · obtain ⟨d1, d2⟩ := dec 0 q (by decide) ⟨qb.1, by omega⟩ (by omega)
          rw [d1, d2]
          refine ⟨fun _ => t_stepW hX hn hk ih hb hP hSD hpp hL qb.1 qb.2 ev (nx q ⟨by omega, by omega⟩), fun z => absurd z (by decide), fun z => absurd z (by decide), fun z => absurd z (by decide), fun z => absurd z (by decide), fun z => absurd rfl z⟩
        · obtain ⟨d1, d2⟩ := dec 1 e (by decide) ⟨eb.1, by omega⟩ (by omega)
          rw [d1, d2]
          refine ⟨fun z => absurd z (by decide), fun _ => t_stepA hX hn hP hSD hpp hL eb.1 eb.2 ev (nx e ⟨by omega, by omega⟩), fun z => absurd z (by decide), fun z => absurd z (by decide), fun z => absurd z (by decide), fun _ z => absurd rfl z⟩
        · obtain ⟨d1, d2⟩ := dec 2 a (by decide) ⟨ab.1, by omega⟩ (by omega)
          rw [d1, d2]
          refine ⟨fun z => absurd z (by decide), fun z => absurd z (by decide), fun _ => t_stepS hX hn hb hP hSD hpp hL ab.1 ab.2 ev (nx a ⟨by omega, by omega⟩), fun z => absurd z (by decide), fun z => absurd z (by decide), fun _ _ z => absurd rfl z⟩
        · obtain ⟨d1, d2⟩ := dec 3 q (by decide) ⟨qb.1, by omega⟩ (by omega)
          rw [d1, d2]
          refine ⟨fun z => absurd z (by decide), fun z => absurd z (by decide), fun z => absurd z (by decide), fun _ => t_stepK hX hn hb hP hSD hpp hL qb.1 qb.2 ev (nx q ⟨by omega, by omega⟩), fun z => absurd z (by decide), fun _ _ _ z => absurd rfl z⟩
        · obtain ⟨d1, d2⟩ := dec 4 (26 * n + l) (by decide) ⟨by omega, by omega⟩ (by omega)
          rw [d1, d2]
          have b3 : 0 ≤ 26 * n + l ∧ 26 * n + l < 208 := ⟨by omega, by omega⟩
          have st := t_stepL hX hn hb hP hSD hpp hL lb.1 lb.2 ev (nx (26 * n + l) ⟨by omega, by omega⟩)
          exact ⟨fun z => absurd z (by decide), fun z => absurd z (by decide), fun z => absurd z (by decide), fun z => absurd z (by decide), fun _ => ⟨b3, st.1, fun z => ⟨b3, b3, st.2 z⟩⟩, fun _ _ _ _ z => absurd rfl z⟩
        · obtain ⟨d1, d2⟩ := dec 5 a (by decide) ⟨ab.1, by omega⟩ (by omega)
          rw [d1, d2]
          refine ⟨fun z => absurd z (by decide), fun z => absurd z (by decide), fun z => absurd z (by decide), fun z => absurd z (by decide), fun z => absurd z (by decide), fun _ _ _ _ _ => t_stepX hX hn hb hP hSD hpp hL ab.1 ab.2 ev (nx a ⟨by omega, by omega⟩)⟩
      · obtain ⟨hp, hL⟩ := hI
        intro y4 hy4
        have hPX := hL.1.tab hP
        refine r_Machine_go_73 hL.1.1.2.2 rn rb ⟨by omega, by omega⟩ hy4 ⟨b10, ?_⟩
        rw [hPX 511 (by decide) (by decide)]
        have ep : p = P 511 (n + 1) := by omega
        rw [ep] at hL
        exact ⟨fun _ => h X (hL.end hX hn hSD), fun z => by omega⟩
    -- where the automata stand
    refine r_Machine_go (d := 3 * k + 3) hg rn rb ⟨b9, ?_⟩
    rw [(c10 V0 hP).1]
    refine ax_for (I := fun a X => (C0 510 n ≤ a ∧ a ≤ C0 510 (n + 1)) ∧ g_fr [154] V0 X ∧ ax_g X ∧ (∀ a', 0 ≤ a' → a' < (M0 222 55) → M0 267 a' = n → a' < a → X 154 a' = C0 558 a' + V0 155 (b + P 560 a')) ∧ ∀ a', 0 ≤ a' → a' < (M0 222 55) → ¬ M0 267 a' = n → X 154 a' = V0 154 a') (K := fun a X => k_Machine_go_10 B (3 * k + 3) n b a none X Ψ Θ) (hi := C0 510 (n + 1)) (fun a X w hI next => ?_) (fun a X w hI => ?_) _ V0 ⟨⟨Int.le_refl _, E2.2.2⟩, fun _ _ => rfl, hg, fun a' a0 a1 an z => ?_, fun _ _ _ _ => rfl⟩
    · obtain ⟨ha, f1, g1, i1, i2⟩ := hI
      have a0 : 0 ≤ a := by omega
      have a1 : a < (M0 222 55) := by omega
      have an := (hS.aN a0 a1 nn.1 nn.2).mp ⟨ha.1, w⟩
      have hPX : ∀ c, 500 ≤ c → c ≤ 573 → X c = P c := fun c x y => by rw [f1 c (by simp; omega)]; exact hP c x y
      have b1 : 0 ≤ a ∧ a < 351 := ⟨a0, by omega⟩
      have b0 : 0 ≤ a ∧ a < 350 := ⟨a0, by omega⟩
      have ca := hX.a5 hn a0 a1 an
      have fa := (hS.au a0 a1).1.2.2.1
      have fa2 : C0 558 (a + 1) = C0 558 a + M0 269 a := (hS.au a0 a1).2.1
      have hat := hS.2.2.2.2.2.2.2
      have hc4 := hS.2.2.2.2.1.1.2.2.2.1
      have u : 0 ≤ V0 155 (b + P 560 a) ∧ V0 155 (b + P 560 a) < M0 269 a := by
        rw [ca.1]
        obtain ⟨m, rfl⟩ := Int.eq_ofNat_of_zero_le a0
        rw [Int.toNat_natCast]
        exact has.1 m (by omega) an
      refine r_Machine_go_10 g1 rn rb ⟨by omega, by omega⟩ ax_y_n ⟨b10, ?_⟩
      rw [(c10 X hPX).1, (c10 X hPX).2, hPX 560 (by decide) (by decide), f1 155 (by decide)]
      have rr : ax_rg (C0 558 a + V0 155 (b + P 560 a)) := ⟨by omega, by omega⟩
      refine ⟨fun z => by omega, fun _ => ⟨b1, b0, ⟨by omega, by omega⟩, b0, rr, fun X1 e1 => next X1 ⟨⟨by omega, by omega⟩, ?_, ?_, fun a' a0' a1' an' z => ?_, fun a' a0' a1' an' => ?_⟩⟩⟩
      · rw [e1]; exact fun c z => by rw [ax_u_ne (by simp at z; exact z)]; exact f1 c z
      · rw [e1]; exact ax_u_g g1 rr
      · by_cases y : a' = a
        · rw [y, e1, ax_u_s]
        · rw [e1, ax_u_k y]; exact i1 a' a0' a1' an' (by omega)
      · rw [e1, ax_u_k (fun y => an' (by rw [y]; exact an))]; exact i2 a' a0' a1' an'
    · obtain ⟨ha, f1, g1, i1, i2⟩ := hI
      have hPX : ∀ c, 500 ≤ c → c ≤ 573 → X c = P c := fun c x y => by rw [f1 c (by simp; omega)]; exact hP c x y
      refine r_Machine_go_10 g1 rn rb ⟨by omega, by omega⟩ ax_y_n ⟨b10, ?_⟩
      rw [(c10 X hPX).1, hPX 511 (by decide) (by decide)]
      exact ⟨fun _ => ⟨b9, p2 X (h_L.begin hX hn has f1 g1 (fun a' a0 a1 an => i1 a' a0 a1 an (by have := (hS.aN a0 a1 nn.1 nn.2).mpr an; omega)) i2) none ax_y_n⟩, fun z => by omega⟩
    · have := (hS.aN a0 a1 nn.1 nn.2).mpr an; omega
end Go
