/-! THE LAST STEPS -/
section Steps3
variable {B d : Nat} {C0 M0 P V V0 V1 V2 W W3 : ax_V} {F G Hh S U J Im : Int → Int} {n q e a b x m T l : Int} {k : Nat} {s t : Int → Prop} {R : h_R} {f : Int → Int} {F0 p : Int} {Φ : Int → ax_V → Prop} {Ψ Θ : ax_V → Prop}
theorem g_sk.kp (hS : g_S C0 M0) (n0 : 0 ≤ n) (n1 : n < (M0 222 86)) (h : g_sk C0 M0 s n (3072 + q)) (q0 : 0 ≤ q) (q1 : q < (M0 222 26)) : M0 250 q = n ∧ M0 241 q = 6 ∧ g_aw M0 s n := by
  have sm := hS.small
  have hN := hS.2.1
  rcases h with ⟨q', ev, ⟨qb, qn⟩, kd, alt⟩ | ⟨e', ev, e'0, r⟩ | ⟨a', ev, a'0, r⟩ | ⟨q', ev, ⟨q'0, qn⟩, r⟩ | ⟨l, ev, l0, -⟩ | ⟨a', ev, a'0, -⟩
  · clear kd alt; omega
  · omega
  · omega
  · have : q' = q := by omega
    rw [this] at r qn; exact ⟨qn, r⟩
  · omega
  · omega
theorem g_sk.ls (hS : g_S C0 M0) (n0 : 0 ≤ n) (n1 : n < (M0 222 86)) (h : g_sk C0 M0 s n (4096 + 26 * n + l)) (l0 : 0 ≤ l) (l1 : l < 26) : ¬ M0 236 (26 * n + l) = 0 ∧ g_aw M0 s n := by
  have sm := hS.small
  have hN := hS.2.1
  rcases h with ⟨q', ev, ⟨qb, qn⟩, kd, alt⟩ | ⟨e', ev, e'0, r⟩ | ⟨a', ev, a'0, r⟩ | ⟨q', ev, ⟨q'0, qn⟩, r⟩ | ⟨l', ev, l'0, r⟩ | ⟨a', ev, a'0, -⟩
  · clear kd alt; omega
  · omega
  · omega
  · omega
  · have : l' = l := by omega
    rw [this] at r; exact r
  · omega
theorem g_sk.wk (hS : g_S C0 M0) (n0 : 0 ≤ n) (n1 : n < (M0 222 86)) (h : g_sk C0 M0 s n (5120 + a)) (a0 : 0 ≤ a) (a1 : a < (M0 222 55)) : M0 267 a = n ∧ g_aw M0 s n ∧ g_ak M0 s n := by
  have sm := hS.small
  have hN := hS.2.1
  rcases h with ⟨q', ev, ⟨qb, qn⟩, kd, alt⟩ | ⟨e', ev, e'0, r⟩ | ⟨a', ev, a'0, r⟩ | ⟨q', ev, ⟨q'0, qn⟩, r⟩ | ⟨l', ev, l'0, r⟩ | ⟨a', ev, a'0, r⟩
  · clear kd alt; omega
  · omega
  · omega
  · omega
  · omega
  · have : a' = a := by omega
    rw [this] at r; exact r
/-- a cell of the node is written: the world -/
theorem h_WI.cell (hX : h_X C0 M0 P F G Hh S U J Im) (hn : h_N M0 U J n) (has : h_AS C0 M0 U (k + 1) n b (V 155)) (hg : ax_g V) {i v : Int} (i0 : 0 ≤ i) (i1 : i < g_T C0 M0 U n) (rv : ax_rg v) (ha : ∀ a, 0 ≤ a → a < (M0 222 55) → M0 267 a = n → i = g_cp C0 M0 U n ((M0 222 26)).toNat + g_ca M0 n a.toNat → 0 ≤ v ∧ v < M0 269 a) (hc : ∀ q, 0 ≤ q → q < (M0 222 26) → M0 250 q = n → M0 241 q = 22 → ¬ (g_cp C0 M0 U n q.toNat ≤ i ∧ i < g_cp C0 M0 U n q.toNat + g_vl C0 M0 U q)) (eW : W = ax_u V 155 (b + i) v) : h_WI C0 M0 U (k + 1) n b V W := by
  have k5 : ∀ c, ¬ c = 155 → W c = V c := fun c z => by rw [eW]; exact ax_u_ne z
  refine ⟨⟨fun c z => k5 c (fun w => z (by rw [w]; decide)), fun f _ => by rw [k5 150 (by decide)], by rw [eW]; exact ax_u_g hg rv⟩, fun j z => by rw [eW]; exact ax_u_k (by omega), fun x _ => by rw [k5 152 (by decide), k5 153 (by decide)]; exact ⟨rfl, rfl⟩, fun x _ _ _ => by rw [k5 151 (by decide)], fun x _ _ _ => by rw [k5 154 (by decide)], ?_, by rw [k5 150 (by decide)]; exact Int.le_refl _⟩
  refine h_AS.step hX hn has (fun a a0 a1 an => ?_) (fun q q0 q1 qn o => Or.inr (fun j j0 j1 => ?_))
  · by_cases z : i = g_cp C0 M0 U n ((M0 222 26)).toNat + g_ca M0 n a.toNat
    · rw [eW, ← z, ax_u_s]; exact Or.inr (ha a a0 a1 an z)
    · rw [eW]; exact Or.inl (ax_u_k (by omega))
  · have := hc q q0 q1 qn o
    rw [eW]; exact ax_u_k (by omega)
set_option maxHeartbeats 1000000 in
/-- KEEP -/
theorem t_stepK (hX : h_X C0 M0 P F G Hh S U J Im) (hn : h_N M0 U J n) (hb : 0 ≤ b ∧ b + g_T C0 M0 U n ≤ 300) (hP0 : ∀ c, 500 ≤ c → c ≤ 573 → V0 c = P c) (hSD : g_SD C0 M0 f F0 T n) (hp : F0 ≤ p ∧ p < T) (hL : h_L C0 M0 U F S Im k n b V0 f F0 p W) (q0 : 0 ≤ q) (q1 : q < (M0 222 26)) (fq : f p = 3072 + q) (next : ∀ W', h_L C0 M0 U F S Im k n b V0 f F0 (p + 1) W' → Ψ W') : ax_I (az_W B (az_EM B)) (3 * k + 3) q_Machine_isOn [.ref 150, ax_i q] W (fun r6 V6 => ((r6 = 0 → Ψ V6) ∧ (¬ r6 = 0 → (0 ≤ q ∧ q < 700) ∧ (0 ≤ q ∧ q < 700) ∧ (0 ≤ V6 521 q ∧ V6 521 q < 700) ∧ (0 ≤ b + V6 531 q ∧ b + V6 531 q < 300) ∧ (∀ V7, V7 = ax_u V6 155 (b + V6 531 q) (V6 151 (V6 521 q)) → Ψ V7)))) Θ := by
  have hS := hX.hS
  have sm := hS.small
  have nn := hn.1
  have tt := hX.tb n
  obtain ⟨L1, L2, L3⟩ := hL
  have hPW := L1.tab hP0
  have gW := L1.1.2.2
  obtain ⟨sq1, sq2, sq3⟩ := hSD.2.1 p hp.1 hp.2
  rw [fq] at sq1 sq2
  obtain ⟨qn, o, aw⟩ := sq2.kp hS nn.1 nn.2 q0 q1
  have te : ∀ v, g_st f F0 (p + 1) v ↔ (g_st f F0 p v ∨ v = 3072 + q) := fun v => by rw [g_st_s hp.1, fq]
  have ps : ∀ q, 0 ≤ q → q < (M0 222 26) → g_st f F0 (p + 1) q → g_st f F0 p q := fun q a b z => by
    rcases (te q).mp z with y | y
    · exact y
    · omega
  have cl2 := hSD.2.1.cl2 hS nn.1 nn.2 (k := p) (by omega)
  obtain ⟨e, ee, en, ea, eb⟩ := hX.ine q0 q1 qn (Or.inl o)
  have orr := hS.2.2.2.2.1.2.2.2.2.2.1.2.2.1
  have onq : ∀ R, h_TK C0 M0 U S Im (k + 1) n R → h_MS C0 M0 U F (k + 1) n (R [] 5) → h_IR C0 M0 U F S k n b V0 W (g_st f F0 p) R → (((C0 525 q = -1 ∧ h_on (h_lv W n) (S q)) ∨ (¬ C0 525 q = -1 ∧ W 154 (C0 563 (C0 525 q)) = C0 525 q)) ↔ h_ac M0 S n (R []) q) := fun R hR hm h => by
    refine h_onq hS hX.hT hX.hr (h.2.1.rd hX hn hR hm) h.2.2.1 q0 q1 qn (fun _ z => h_alS hS hX.ok hX.hT nn.1 nn.2 aw.2 q0 q1 qn z) (fun e' e0 e1 ea' eb' au => ?_) (fun m m0 m1 ma mb => ?_)
    · rcases hS.st e0 e1 with y | y
      · exact absurd y.2.1 au
      · refine aw.2.2 _ y.2.1.1 y.2.1.2 ?_
        rw [y.2.2.2.2.2.2, ← ((hS.2.2.2.2.1.2.1 e' e0 e1).2.2.2.2.2.1.2.2 q ea' eb').1.1]; exact qn
    · have := orr.2.2 e m ee.1 ee.2 m0 m1; omega
  have fin : ∀ R W', h_TK C0 M0 U S Im (k + 1) n R → h_IN C0 M0 U F (k + 1) n b V0 R → ((¬ h_ac M0 S n (R []) q → W' = W) ∧ (h_ac M0 S n (R []) q → W' = ax_u W 155 (b + g_cp C0 M0 U n q.toNat) (W 151 (M0 245 q)))) → h_IR C0 M0 U F S k n b V0 W' (g_st f F0 (p + 1)) R ∧ h_I8 C0 M0 U F S k n (g_st f F0 (p + 1)) R ∧ (F0 < p + 1 → h_I7 C0 M0 S n (f (p + 1 - 1)) W' R) := fun R W' hR hI hW => by
    obtain ⟨j1, j2, j3⟩ := L3 R hR hI
    refine ⟨j1.kept hX hn hR hI.2.1 te q0 q1 qn o sq1 aw cl2 hW, j2.keep ps, fun _ => ?_⟩
    rw [show p + 1 - 1 = p by omega, fq]; exact h_I7.no (by omega)
  have cq := hX.c5 hn q0 q1 qn
  have vq : g_vl C0 M0 U q = 1 := if_pos (Or.inl o)
  refine t_onAt hX hn hPW gW q0 q1 qn (fun on => ⟨fun z => absurd z (by decide), fun _ => ⟨⟨q0, by omega⟩, ⟨q0, by omega⟩, ?_⟩⟩) (fun off => ⟨fun _ => next W ⟨L1, L2, fun R hR hI => fin R W hR hI ⟨fun _ => rfl, fun z => absurd ((onq R hR hI.2.1 (L3 R hR hI).1).mpr z) off⟩⟩, fun z => absurd rfl z⟩)
  have f1 : W 521 q = M0 245 q := by rw [hPW 521 (by decide) (by decide), hX.hP 521 (by decide)]; exact (hS.kid q0 q1 (by omega)).1
  have f2 : W 531 q = g_cp C0 M0 U n q.toNat := by rw [hPW 531 (by decide) (by decide)]; exact cq.1
  have ab := (hS.kid q0 q1 (by omega)).2.1
  have a0 := h_ar_a hS q0 q1 (by omega)
  rw [f1, f2]
  refine ⟨⟨a0, by omega⟩, ⟨by omega, by omega⟩, fun W7 e7 => next W7 ⟨L1.tr (h_WI.cell hX hn L1.2.2.2.2.2.1 gW (by omega) (by omega) (gW _ _) (fun a a0 a1 an z => ?_) (fun x x0 x1 xn xo z => ?_) e7), fun a a0 a1 an => by rw [e7, ax_u_ne (by decide)]; exact L2 a a0 a1 an, fun R hR hI => fin R W7 hR hI ⟨fun z => absurd ((onq R hR hI.2.1 (L3 R hR hI).1).mp on) z, fun _ => e7⟩⟩⟩
  · have := (hX.a5 hn a0 a1 an).2; omega
  · have w : ¬ x = q := fun y => by rw [y] at xo; omega
    have cd := hX.cd q0 q1 qn x0 x1 xn w
    omega
set_option maxHeartbeats 1000000 in
/-- KEEP_LAST -/
theorem t_stepL (hX : h_X C0 M0 P F G Hh S U J Im) (hn : h_N M0 U J n) (hb : 0 ≤ b ∧ b + g_T C0 M0 U n ≤ 300) (hP0 : ∀ c, 500 ≤ c → c ≤ 573 → V0 c = P c) (hSD : g_SD C0 M0 f F0 T n) (hp : F0 ≤ p ∧ p < T) (hL : h_L C0 M0 U F S Im k n b V0 f F0 p W) (l0 : 0 ≤ l) (l1 : l < 26) (fq : f p = 4096 + 26 * n + l) (next : ∀ W', h_L C0 M0 U F S Im k n b V0 f F0 (p + 1) W' → Ψ W') : (W 153 (26 * n + l) = 0 → Ψ W) ∧ (¬ W 153 (26 * n + l) = 0 → (0 ≤ b + W 540 (26 * n + l) ∧ b + W 540 (26 * n + l) < 300) ∧ ∀ V8, V8 = ax_u W 155 (b + W 540 (26 * n + l)) (W 152 (26 * n + l)) → Ψ V8) := by
  have hS := hX.hS
  have sm := hS.small
  have nn := hn.1
  have tt := hX.tb n
  obtain ⟨L1, L2, L3⟩ := hL
  have hPW := L1.tab hP0
  have gW := L1.1.2.2
  obtain ⟨sq1, sq2, sq3⟩ := hSD.2.1 p hp.1 hp.2
  rw [fq] at sq1 sq2
  obtain ⟨hl, aw⟩ := sq2.ls hS nn.1 nn.2 l0 l1
  have te : ∀ v, g_st f F0 (p + 1) v ↔ (g_st f F0 p v ∨ v = 4096 + 26 * n + l) := fun v => by rw [g_st_s hp.1, fq]
  have ps : ∀ q, 0 ≤ q → q < (M0 222 26) → g_st f F0 (p + 1) q → g_st f F0 p q := fun q a b z => by
    rcases (te q).mp z with y | y
    · exact y
    · omega
  have cl := hX.l5 hn l0 l1 hl
  have fin : ∀ R W', h_TK C0 M0 U S Im (k + 1) n R → h_IN C0 M0 U F (k + 1) n b V0 R → ((W 153 (26 * n + l) = 0 → W' = W) ∧ (¬ W 153 (26 * n + l) = 0 → W' = ax_u W 155 (b + P 540 (26 * n + l)) (W 152 (26 * n + l)))) → h_IR C0 M0 U F S k n b V0 W' (g_st f F0 (p + 1)) R ∧ h_I8 C0 M0 U F S k n (g_st f F0 (p + 1)) R ∧ (F0 < p + 1 → h_I7 C0 M0 S n (f (p + 1 - 1)) W' R) := fun R W' hR hI hW => by
    obtain ⟨j1, j2, j3⟩ := L3 R hR hI
    refine ⟨j1.last hX hn hR hI.2.1 te l0 l1 hl sq1 aw hW, j2.keep ps, fun _ => ?_⟩
    rw [show p + 1 - 1 = p by omega, fq]; exact h_I7.no (by omega)
  rw [hPW 540 (by decide) (by decide)]
  refine ⟨fun z => next W ⟨L1, L2, fun R hR hI => fin R W hR hI ⟨fun _ => rfl, fun y => absurd z y⟩⟩, fun z => ⟨by omega, fun W8 e8 => next W8 ⟨L1.tr ?_, fun a a0 a1 an => by rw [e8, ax_u_ne (by decide)]; exact L2 a a0 a1 an, fun R hR hI => fin R W8 hR hI ⟨fun y => absurd y z, fun _ => e8⟩⟩⟩⟩
  refine h_WI.cell (i := P 540 (26 * n + l)) hX hn L1.2.2.2.2.2.1 gW (by omega) (by omega) (gW _ _) (fun a a0 a1 an z => ?_) (fun x x0 x1 xn xo z => ?_) e8
  · have := (hX.a5 hn a0 a1 an).2; omega
  · have := hX.c5 hn x0 x1 xn; omega
set_option maxHeartbeats 1000000 in
/-- WEAK -/
theorem t_stepX (hX : h_X C0 M0 P F G Hh S U J Im) (hn : h_N M0 U J n) (hb : 0 ≤ b ∧ b + g_T C0 M0 U n ≤ 300) (hP0 : ∀ c, 500 ≤ c → c ≤ 573 → V0 c = P c) (hSD : g_SD C0 M0 f F0 T n) (hp : F0 ≤ p ∧ p < T) (hL : h_L C0 M0 U F S Im k n b V0 f F0 p W) (a0 : 0 ≤ a) (a1 : a < (M0 222 55)) (fq : f p = 5120 + a) (next : ∀ W', h_L C0 M0 U F S Im k n b V0 f F0 (p + 1) W' → Ψ W') : ax_N (az_W B (az_EM B)) (3 * k + 3) q_Machine_goOver [.ref 150, ax_i a, ax_i 0, ax_i n, ax_i b] W Ψ Θ := by
  have hS := hX.hS
  have sm := hS.small
  have nn := hn.1
  have tt := hX.tb n
  have t3 := (hX.t hn).1
  obtain ⟨L1, L2, L3⟩ := hL
  have hPW := L1.tab hP0
  have gW := L1.1.2.2
  obtain ⟨sq1, sq2, sq3⟩ := hSD.2.1 p hp.1 hp.2
  rw [fq] at sq1 sq2
  obtain ⟨an, aw, ak⟩ := sq2.wk hS nn.1 nn.2 a0 a1
  have te : ∀ v, g_st f F0 (p + 1) v ↔ (g_st f F0 p v ∨ v = 5120 + a) := fun v => by rw [g_st_s hp.1, fq]
  have ps : ∀ q, 0 ≤ q → q < (M0 222 26) → g_st f F0 (p + 1) q → g_st f F0 p q := fun q a b z => by
    rcases (te q).mp z with y | y
    · exact y
    · omega
  have mv := hX.mvp hn hb a0 a1 an
  refine t_goOver (U := U) hS hX.ok hPW hX.hP gW nn.1 nn.2 a0 a1 an (Or.inl rfl) ⟨hb.1, by omega⟩ ⟨t3, hb.2⟩ mv.1 mv.2 (L2 a a0 a1 an) (fun m W' hmf T' Te Tr V1 h1 eW => ?_)
  rw [if_pos rfl] at eW
  have wi := h_WI.move (k := k) hX hn L1.2.2.2.2.2.1 gW a0 a1 an Te Tr h1
  have ren := h_ren (k := k) hX hn a0 a1 an Te Tr h1
  have fa := (hS.au a0 a1).1.2.2.1
  have fa2 : C0 558 (a + 1) = C0 558 a + M0 269 a := (hS.au a0 a1).2.1
  have fa3 := (hS.au a0 a1).2.2
  have ca := hX.a5 hn a0 a1 an
  refine next W' ⟨L1.tr (wi.tr (h_WI.cell (i := P 560 a) hX hn wi.2.2.2.2.2.1 wi.1.2.2 (by omega) (by omega) ⟨by omega, by omega⟩ (fun a' a0' a1' an' z => ?_) (fun x x0 x1 xn xo z => ?_) eW)), fun a' a0' a1' an' => by rw [eW, ax_u_ne (by decide), ren.1 154 (by decide)]; exact L2 a' a0' a1' an', fun R hR hI => ?_⟩
  · by_cases w : a' = a
    · rw [w]; omega
    · have := h_ad (M0 := M0) a0 an a0' an' w; omega
  · have := hX.c5 hn x0 x1 xn; omega
  · obtain ⟨j1, j2, j3⟩ := L3 R hR hI
    refine ⟨j1.weak hX hn hR te a0 a1 an sq1 aw ak hmf Te Tr h1 eW, j2.keep ps, fun _ => ?_⟩
    rw [show p + 1 - 1 = p by omega, fq]; exact h_I7.no (by omega)
end Steps3
