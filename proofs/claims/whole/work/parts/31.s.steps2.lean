/-! THE OTHER STEPS -/
section Steps2
variable {B d : Nat} {C0 M0 P V V0 V1 V2 W W3 : ax_V} {F G Hh S U J Im : Int → Int} {n q e a b x m T l : Int} {k : Nat} {s t : Int → Prop} {R : h_R} {f : Int → Int} {F0 p : Int} {Φ : Int → ax_V → Prop} {Ψ Θ : ax_V → Prop}
theorem g_sk.eq (hS : g_S C0 M0) (n0 : 0 ≤ n) (h : g_sk C0 M0 s n (1024 + e)) (e0 : 0 ≤ e) (e1 : e < (M0 222 44)) : M0 258 e = n ∧ g_eb C0 M0 s n e ∧ ∀ q, M0 261 e ≤ q → q ≤ M0 262 e → C0 526 q = 0 → s q := by
  have sm := hS.small
  rcases h with ⟨q', ev, ⟨qb, qn⟩, kd, alt⟩ | ⟨e', ev, e'0, r⟩ | ⟨a', ev, a'0, -⟩ | ⟨q', ev, q'0, -⟩ | ⟨l, ev, l0, -⟩ | ⟨a', ev, a'0, -⟩
  · clear kd alt; omega
  · have : e' = e := by omega
    rw [this] at r; exact r
  · omega
  · omega
  · omega
  · omega
theorem g_sk.au (hS : g_S C0 M0) (n0 : 0 ≤ n) (h : g_sk C0 M0 s n (2048 + a)) (a0 : 0 ≤ a) (a1 : a < (M0 222 55)) : M0 267 a = n ∧ g_ab C0 M0 s n a ∧ ∀ m q, 0 ≤ m → m < (M0 222 60) → M0 271 m = a → ¬ M0 273 m = 0 → M0 276 m ≤ q → q ≤ M0 277 m → s q := by
  have sm := hS.small
  rcases h with ⟨q', ev, ⟨qb, qn⟩, kd, alt⟩ | ⟨e', ev, e'0, r⟩ | ⟨a', ev, a'0, r⟩ | ⟨q', ev, q'0, -⟩ | ⟨l, ev, l0, -⟩ | ⟨a', ev, a'0, -⟩
  · clear kd alt; omega
  · omega
  · have : a' = a := by omega
    rw [this] at r; exact r
  · omega
  · omega
  · omega
/-- a move: the world -/
theorem h_WI.move (hX : h_X C0 M0 P F G Hh S U J Im) (hn : h_N M0 U J n) (has : h_AS C0 M0 U (k + 1) n b (V 155)) (hg : ax_g V) (a0 : 0 ≤ a) (a1 : a < (M0 222 55)) (an : M0 267 a = n) (Te : (m = -1 ∧ T = V 154 a) ∨ (0 ≤ m ∧ T = C0 558 a + M0 275 m)) (Tr : C0 558 a ≤ T ∧ T < C0 558 a + M0 269 a) (h1 : (V1 = V ∧ ¬ (0 ≤ m ∧ ¬ M0 274 m = 0)) ∨ ((0 ≤ m ∧ ¬ M0 274 m = 0) ∧ g_fr [155] V V1 ∧ ax_g V1 ∧ (∀ i, ¬ (b + P 565 T ≤ i ∧ i < b + P 566 T) → V1 155 i = V 155 i) ∧ ∀ i, P 565 T ≤ i → i < P 566 T → V1 155 (b + i) = P 515 (300 * n + i))) : h_WI C0 M0 U (k + 1) n b V V1 := by
  obtain ⟨r1, r2, r3, r4, -⟩ := h_ren (k := k) hX hn a0 a1 an Te Tr h1
  have g1 : ax_g V1 := by
    rcases h1 with z | z
    · rw [z.1]; exact hg
    · exact z.2.2.1
  refine ⟨⟨fun c z => r1 c (fun w => z (by rw [w]; decide)), fun f _ => by rw [r1 150 (by decide)], g1⟩, r3, fun x _ => by rw [r1 152 (by decide), r1 153 (by decide)]; exact ⟨rfl, rfl⟩, fun x _ _ _ => by rw [r1 151 (by decide)], fun x _ _ _ => by rw [r1 154 (by decide)], ?_, by rw [r1 150 (by decide)]; exact Int.le_refl _⟩
  refine h_AS.step hX hn has (fun a' a0' a1' an' => Or.inl (r2 _ ?_)) (fun x x0 x1 xn xo => ?_)
  · have := (hX.a5 hn a0' a1' an').2; omega
  · rcases r4 x x0 x1 xn xo with z | z
    · exact Or.inr z
    · have sb := hX.sub hn x0 x1 xn xo
      have tt := hX.t sb.1
      have v := sb.2.2
      refine Or.inl (h_AS.eq hX _ _ _ _ _ _ sb.1 (h_AS.first hX k _ sb.1) (fun i i0 i1 => ?_))
      rw [Int.add_assoc]
      exact z i i0 (by omega)
theorem h_I8.keep (h : h_I8 C0 M0 U F S k n s R) (hs : ∀ q, 0 ≤ q → q < (M0 222 26) → t q → s q) : h_I8 C0 M0 U F S k n t R := fun q q0 q1 qn o z ac => h q q0 q1 qn o (hs q q0 q1 z) ac
theorem h_I7.no {w : Int} (hw : (M0 222 26) ≤ w) : h_I7 C0 M0 S n w W R := fun _ z => absurd z (by omega)
set_option maxHeartbeats 1000000 in
/-- ASSIGN -/
theorem t_stepA (hX : h_X C0 M0 P F G Hh S U J Im) (hn : h_N M0 U J n) (hP0 : ∀ c, 500 ≤ c → c ≤ 573 → V0 c = P c) (hSD : g_SD C0 M0 f F0 T n) (hp : F0 ≤ p ∧ p < T) (hL : h_L C0 M0 U F S Im k n b V0 f F0 p W) (e0 : 0 ≤ e) (e1 : e < (M0 222 44)) (fq : f p = 1024 + e) (next : ∀ W', h_L C0 M0 U F S Im k n b V0 f F0 (p + 1) W' → Ψ W') : ax_N (az_W B (az_EM B)) (3 * k + 3) q_Machine_assign [.ref 150, ax_i e] W Ψ Θ := by
  have hS := hX.hS
  have sm := hS.small
  have nn := hn.1
  obtain ⟨L1, L2, L3⟩ := hL
  have hPW := L1.tab hP0
  have gW := L1.1.2.2
  obtain ⟨sq1, sq2, sq3⟩ := hSD.2.1 p hp.1 hp.2
  rw [fq] at sq1 sq2
  obtain ⟨en, eb, wk⟩ := sq2.eq hS nn.1 e0 e1
  have te : ∀ v, g_st f F0 (p + 1) v ↔ (g_st f F0 p v ∨ v = 1024 + e) := fun v => by rw [g_st_s hp.1, fq]
  have ps : ∀ q, 0 ≤ q → q < (M0 222 26) → g_st f F0 (p + 1) q → g_st f F0 p q := fun q a b z => by
    rcases (te q).mp z with y | y
    · exact y
    · omega
  obtain ⟨cb, o0, lb⟩ := hX.ecb e0 e1
  rw [en] at lb
  refine t_assign (c := g_ec M0 e) hS hX.ok hX.n3 hPW hX.hP gW nn.1 nn.2 e0 e1 en (fun i o => (lb i o).2) (fun z => hX.hck e0 e1 en z) (fun no => next W ⟨L1, L2, fun R hR hI => ?_⟩) (fun yes W' fr gW' ho hd => next W' ⟨L1.tr ⟨⟨fr.up (fun c z => ?_), fun f _ => by rw [fr 150 (by decide)], gW'⟩, fun i _ => by rw [fr 155 (by decide)], fun x z => ho x (fun i o y => ?_), fun q _ _ _ => by rw [fr 151 (by decide)], fun q _ _ _ => by rw [fr 154 (by decide)], by rw [fr 155 (by decide)]; exact L1.2.2.2.2.2.1, by rw [fr 150 (by decide)]; exact Int.le_refl _⟩, fun a a0 a1 an => by rw [fr 154 (by decide)]; exact L2 a a0 a1 an, fun R hR hI => ?_⟩)
  · obtain ⟨j1, j2, j3⟩ := L3 R hR hI
    refine ⟨j1.assign0 hX hn te e0 e1 (fun z => no ((h_act hX j1.2.2.1 e0 e1 en eb).mpr z)), j2.keep ps, fun _ => ?_⟩
    rw [show p + 1 - 1 = p by omega, fq]; exact h_I7.no (by omega)
  · simp at z ⊢; omega
  · have := (lb i o).1; omega
  · obtain ⟨j1, j2, j3⟩ := L3 R hR hI
    have s3 := sq3 e e0 e1 fq
    have i7 := j3 s3.1
    rw [s3.2] at i7
    refine ⟨j1.assign1 hX hn hR hI.2.1 i7 te e0 e1 en ((h_act hX j1.2.2.1 e0 e1 en eb).mp yes) eb wk fr ho hd, j2.keep ps, fun _ => ?_⟩
    rw [show p + 1 - 1 = p by omega, fq]; exact h_I7.no (by omega)
theorem h_X.mvp (hX : h_X C0 M0 P F G Hh S U J Im) (hn : h_N M0 U J n) (hb : 0 ≤ b ∧ b + g_T C0 M0 U n ≤ 300) (a0 : 0 ≤ a) (a1 : a < (M0 222 55)) (an : M0 267 a = n) : (0 ≤ b + P 560 a ∧ b + P 560 a < 300) ∧ ∀ s, 0 ≤ s → s < (C0 556 1) → M0 267 (C0 563 s) = n → 0 ≤ P 565 s ∧ P 565 s ≤ P 566 s ∧ P 566 s ≤ g_T C0 M0 U n := by
  have ca := hX.a5 hn a0 a1 an
  have tb := hX.tb n
  refine ⟨by omega, fun s s0 s1 sn => ?_⟩
  have lf := ((hX.dn hn).2.2.2.1 s s0 s1 sn).2.2
  omega
set_option maxHeartbeats 1000000 in
/-- STRONG -/
theorem t_stepS (hX : h_X C0 M0 P F G Hh S U J Im) (hn : h_N M0 U J n) (hb : 0 ≤ b ∧ b + g_T C0 M0 U n ≤ 300) (hP0 : ∀ c, 500 ≤ c → c ≤ 573 → V0 c = P c) (hSD : g_SD C0 M0 f F0 T n) (hp : F0 ≤ p ∧ p < T) (hL : h_L C0 M0 U F S Im k n b V0 f F0 p W) (a0 : 0 ≤ a) (a1 : a < (M0 222 55)) (fq : f p = 2048 + a) (next : ∀ W', h_L C0 M0 U F S Im k n b V0 f F0 (p + 1) W' → Ψ W') : ax_N (az_W B (az_EM B)) (3 * k + 3) q_Machine_goOver [.ref 150, ax_i a, ax_i 1, ax_i n, ax_i b] W Ψ Θ := by
  have hS := hX.hS
  have sm := hS.small
  have nn := hn.1
  have tt := hX.tb n
  have t3 := (hX.t hn).1
  obtain ⟨L1, L2, L3⟩ := hL
  have hPW := L1.tab hP0
  have gW := L1.1.2.2
  obtain ⟨sq1, sq2, sq3⟩ := hSD.2.1 p hp.1 hp.2
  rw [fq] at sq1 sq2
  obtain ⟨an, ab, wk⟩ := sq2.au hS nn.1 a0 a1
  have te : ∀ v, g_st f F0 (p + 1) v ↔ (g_st f F0 p v ∨ v = 2048 + a) := fun v => by rw [g_st_s hp.1, fq]
  have ps : ∀ q, 0 ≤ q → q < (M0 222 26) → g_st f F0 (p + 1) q → g_st f F0 p q := fun q a b z => by
    rcases (te q).mp z with y | y
    · exact y
    · omega
  have cl := hSD.2.1.cl hS nn.1 (k := p) (by omega)
  have cl2 := hSD.2.1.cl2 hS nn.1 nn.2 (k := p) (by omega)
  have mv := hX.mvp hn hb a0 a1 an
  refine t_goOver (U := U) hS hX.ok hPW hX.hP gW nn.1 nn.2 a0 a1 an (Or.inr rfl) ⟨hb.1, by omega⟩ ⟨t3, hb.2⟩ mv.1 mv.2 (L2 a a0 a1 an) (fun m W' hmf T' Te Tr V1 h1 eW => ?_)
  rw [if_neg (by decide)] at eW
  have wi := h_WI.move (k := k) hX hn L1.2.2.2.2.2.1 gW a0 a1 an Te Tr h1
  have ren := h_ren (k := k) hX hn a0 a1 an Te Tr h1
  have fa := (hS.au a0 a1).1.2.2.1
  have fa2 : C0 558 (a + 1) = C0 558 a + M0 269 a := (hS.au a0 a1).2.1
  have hat := hS.2.2.2.2.2.2.2
  have hc4 := hS.2.2.2.2.1.1.2.2.2.1
  have k4 : ∀ c, ¬ c = 154 → W' c = V1 c := fun c z => by rw [eW]; exact ax_u_ne z
  refine next W' ⟨L1.tr (wi.tr ⟨⟨fun c z => k4 c (fun w => z (by rw [w]; decide)), fun f _ => by rw [k4 150 (by decide)], by rw [eW]; exact ax_u_g wi.1.2.2 ⟨by omega, by omega⟩⟩, fun i _ => by rw [k4 155 (by decide)], fun x _ => by rw [k4 152 (by decide), k4 153 (by decide)]; exact ⟨rfl, rfl⟩, fun x _ _ _ => by rw [k4 151 (by decide)], fun x _ _ z => by rw [eW]; exact ax_u_k (fun w => by rw [w] at z; omega), by rw [k4 155 (by decide)]; exact wi.2.2.2.2.2.1, by rw [k4 150 (by decide)]; exact Int.le_refl _⟩), fun a' a0' a1' an' => ?_, fun R hR hI => ?_⟩
  · by_cases w : a' = a
    · rw [w, eW, ax_u_s]; exact Tr
    · rw [eW, ax_u_k w, ren.1 154 (by decide)]; exact L2 a' a0' a1' an'
  · obtain ⟨j1, j2, j3⟩ := L3 R hR hI
    refine ⟨j1.strong hX hn hR te a0 a1 an sq1 (fun v hv z => sq1 ((cl.2.2 v hv z).2.2 a a0 a1 an)) wk (fun e q e0 e1 ea eb w z => sq1 ?_) hmf Te Tr h1 eW, j2.keep ps, fun _ => ?_⟩
    · have := cl2.1 e q e0 e1 ea eb z (by omega)
      rw [w] at this; exact this
    · rw [show p + 1 - 1 = p by omega, fq]; exact h_I7.no (by omega)
end Steps2
