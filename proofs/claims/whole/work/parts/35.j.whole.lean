/-! PROVING: the whole search, on both sides -/
/-- what is remembered at first -/
def p_g0 (U Im : Int → Int) (n o : Int) : Int → Int := fun j => if j < U n then Im (300 * n + j) else Im (300 * o + (j - U n))
/-- the class behind begin -/
def p_CB (M P : ax_V) (n o i0 most wd : Int) (V : ax_V) : Prop := ((∀ c, 500 ≤ c → c ≤ 573 → V c = P c) ∧ ax_g V) ∧ (V 157 1 = 0 ∧ V 157 2 = 0 ∧ V 157 13 = n ∧ V 157 14 = o ∧ (o = -1 → V 157 15 = 26 * n + M 231 (26 * n + i0)) ∧ V 157 16 = most ∧ V 157 17 = wd) ∧ ∀ s, 0 ≤ s → s < 1024 → V 163 s = 0
section WholeSearch
variable {B w nw d : Nat} {C0 M0 P V W N : ax_V} {F G Hh S U J Im : Int → Int} {n o wd i0 most : Int} {Φ : Int → ax_V → Prop} {Ψ Θ : ax_V → Prop}
theorem p_g0.ok (hX : h_X C0 M0 P F G Hh S U J Im) (hk : p_ok M0 U J n o i0 wd) : p_MS C0 M0 U F n o (p_g0 U Im n o) := by
  obtain ⟨⟨hn, hi4⟩, hk⟩ := hk
  have a := (hX.first hn).2
  refine ⟨h_MS.cg hX hn a (fun j _ b => if_pos b), fun oN => ?_⟩
  rcases hk with ⟨eo, ew, hi0⟩ | ⟨⟨ho, ho4⟩, ei, eo, ew, ri⟩
  · exact absurd eo oN
  · refine h_MS.cg hX ho (hX.first ho).2 (fun j a b => ?_)
    show (if U n + j < U n then Im (300 * n + (U n + j)) else Im (300 * o + (U n + j - U n))) = Im (300 * o + j)
    rw [if_neg (by omega), show U n + j - U n = j by omega]
set_option maxHeartbeats 1000000 in
/-- the first row -/
theorem t_takeFirstRow (hX : h_X C0 M0 P F G Hh S U J Im) (hk : p_ok M0 U J n o i0 wd) (hnw : nw ≤ 1000000) (mw : most * wd ≤ (nw : Int)) (m1 : 1 ≤ most ∧ most ≤ 300) (hV : p_CB M0 P n o i0 most wd V) (h : ∀ W, p_CG V W → p_SC C0 M0 P U F n o i0 most wd 1 (fun _ => p_g0 U Im n o) (fun _ => -1) (fun _ => 0) W → Ψ W) : ax_N (az_W B (az_EP B w nw)) (d + 3) q_Prover_takeFirstRow [.ref 157] V Ψ Θ := by
  have kw := p_ok.bd hX hk
  have gok := p_g0.ok hX hk
  have hk' := hk
  obtain ⟨⟨hn, hi4⟩, hk⟩ := hk
  obtain ⟨⟨v1, v2⟩, ⟨a1, a2, a13, a14, a15, a16, a17⟩, tz⟩ := hV
  have ub := (hX.UJ.1 n).1
  have u3 := hn.2.1
  have tt := hX.t hn
  have u514 : V 514 n = U n := by rw [v1 514 (by decide) (by decide)]; exact hX.u hn
  have mwd : wd ≤ most * wd := by
    have q := Int.mul_le_mul_of_nonneg_right m1.1 kw.1.1
    rw [Int.one_mul] at q
    exact q
  refine r_Prover_takeFirstRow (d := d + 2) hnw v2 ?_
  rw [a13, u514]
  -- behind the copies
  have go : ∀ V1, g_fr [160] V V1 → ax_g V1 → (∀ i j, p_PP C0 M0 U n o i j → V1 160 i = p_g0 U Im n o j) → ax_I (az_W B (az_EP B w nw)) (d + 2) q_Prover_findSpot [.ref 157] V1 (fun r2 V2 => ((r2 = -1 → Ψ V2) ∧ (¬ r2 = -1 → ax_N (az_W B (az_EP B w nw)) (d + 2) q_Prover_keepRow [.ref 157, ax_i r2, ax_i (-1), ax_i 0] V2 (fun V3 => Ψ V3) Θ))) Θ := fun V1 f1 g1 pr => by
    have k7 : V1 157 = V 157 := f1 157 (by decide)
    refine t_findSpot (d := d) (f := 0) hnw g1 (by rw [k7]; exact a17) kw.1 (by decide) (by rw [Int.zero_mul]; omega) (p_T.none (fun s a b => by rw [f1 163 (by decide)]; exact tz s a b)) (fun z => ?_) (fun _ s e s1 s0 e1' es ch => ⟨fun z => by omega, fun _ => ?_⟩)
    · obtain ⟨m', mb, _⟩ := z
      omega
    · refine t_keepRow (d := d + 1) (f := 0) hnw g1 (by rw [k7]; exact a17) kw.1 (by rw [k7]; exact a1) (by decide) (by rw [Int.zero_mul]; omega) s1 (by decide) (by decide) (fun W2 f2 s2 g2 n2 r2 o2 q2 p2 t2' u2 => ?_)
      have cg : p_CG V W2 := ⟨fun c z => by
        simp only [List.mem_cons, List.not_mem_nil, or_false, not_or] at z
        rw [f2 c (by simp; omega), f1 c (by simp; omega)], fun k _ => by rw [f2 150 (by decide), f1 150 (by decide)], fun k z1 _ => by rw [s2 k z1, k7], g2⟩
      have hh : p_h (fun j => W2 620 (0 * wd + j)) wd = p_h (V1 160) wd := p_h_c kw.1.1 r2
      have key := (p_T.none (T := V1 163) (rows := V1 620) (wd := wd) (fun s a b => by rw [f1 163 (by decide)]; exact tz s a b)).keep (f := 0) kw.1.1 (by decide) s1 s0 t2' u2 (fun j z => o2 j (by omega)) e1' (by rw [hh]; exact es) (by rw [hh]; exact ch)
      have e7 : ∀ k, ¬ k = 1 → W2 157 k = V 157 k := fun k z => by rw [s2 k z, k7]
      refine h W2 cg ⟨⟨fun c u v => by rw [f2 c (by simp; omega), f1 c (by simp; omega)]; exact v1 c u v, g2⟩, ⟨n2, by rw [e7 2 (by decide)]; exact a2, by rw [e7 13 (by decide)]; exact a13, by rw [e7 14 (by decide)]; exact a14, by rw [e7 15 (by decide)]; exact a15, by rw [e7 16 (by decide)]; exact a16, by rw [e7 17 (by decide)]; exact a17⟩, key, fun m' u v => ?_, fun m' u v => ?_⟩
      · have em : m' = 0 := by omega
        rw [em]
        refine ⟨fun i j pp => ?_, gok⟩
        have pb := p_PP.b hX hk' pp
        rw [r2 i pb.1.1 pb.1.2]; exact pr i j pp
      · have em : m' = 0 := by omega
        rw [em]; exact q2
  refine ⟨kw.2.1, ⟨by omega, Int.le_refl _, ub.1, by omega, by omega⟩, fun V1 e1 => ?_⟩
  have k1 : ∀ c, ¬ c = 160 → V1 c = V c := fun c z => by rw [e1]; exact ax_cp_ne z
  have g1 : ax_g V1 := by rw [e1]; exact ax_cp_g v2
  have p1 : ∀ i j, g_PP C0 M0 U 8 n i j → V1 160 i = Im (300 * n + j) := fun i j pp => by
    have bb := hX.UJ.pb hX.hS hX.ok 8 _ tt.1 i j pp
    rw [e1, ax_cp_i ⟨bb.1.1, by omega⟩, show n * 300 + (i - 0) = 300 * n + i by omega, v1 515 (by decide) (by decide)]
    exact (hX.first hn).1 i j pp
  have g0n : ∀ i j, g_PP C0 M0 U 8 n i j → p_g0 U Im n o j = Im (300 * n + j) := fun i j pp => by
    have bb := hX.UJ.pb hX.hS hX.ok 8 _ tt.1 i j pp
    exact if_pos (by omega)
  rw [k1 157 (by decide), a14, a17]
  rcases hk with ⟨eo, ew, hi0⟩ | ⟨⟨ho, ho4⟩, ei, eo, ew, ri⟩
  · refine ⟨fun _ => go V1 (fun c z => k1 c (by simp at z; exact z)) g1 (fun i j pp => ?_), fun z => by omega⟩
    rcases pp with y | y
    · rw [p1 i j y, g0n i j y]
    · exact absurd eo y.1
  · have oo := ho.1
    have hN := hX.hS.2.1
    have ub2 := (hX.UJ.1 o).1
    have u4 := ho.2.1
    have tt2 := hX.t ho
    rw [ew, show U n + U o - U n = U o by omega]
    refine ⟨fun z => by omega, fun _ => ⟨⟨by omega, ub.1, ub2.1, by omega, by omega⟩, fun V4 e4 => ?_⟩⟩
    refine go V4 (fun c z => by simp at z; rw [e4, ax_cp_ne z, k1 c z]) (by rw [e4]; exact ax_cp_g g1) (fun i j pp => ?_)
    rcases pp with y | ⟨_, i', j', ⟨ei', ej⟩, y⟩
    · have bb := hX.UJ.pb hX.hS hX.ok 8 _ tt.1 i j y
      rw [e4, ax_cp_o (by omega), p1 i j y, g0n i j y]
    · have bb := hX.UJ.pb hX.hS hX.ok 8 _ tt2.1 i' j' y
      rw [ei', ej, e4, ax_cp_i ⟨by omega, by omega⟩, show o * 300 + (U n + i' - U n) = 300 * o + i' by omega, k1 515 (by decide), v1 515 (by decide) (by decide), (hX.first ho).1 i' j' y]
      show _ = (if U n + j' < U n then Im (300 * n + (U n + j')) else Im (300 * o + (U n + j' - U n)))
      rw [if_neg (by omega), show U n + j' - U n = j' by omega]
/-- what the model's search changes -/
def p_NH (N W : ax_V) : Prop := g_fr [222, 291, 292, 293, 294, 295, 296, 297, 298, 309, 310, 311, 312, 313] N W ∧ g_sc [101, 113, 115, 116, 120, 123] N W ∧ ax_g W
set_option maxHeartbeats 1000000 in
theorem s_searchM (hX : h_X C0 M0 P F G Hh S U J Im) (hk : p_ok M0 U J n o i0 wd) (m1 : 1 ≤ most ∧ most ≤ 300) (hV : h_RM C0 M0 S U J Im N) (hg : ax_g N) (h : ∀ W, p_NH N W → W 222 113 = 1 → p_SM C0 M0 S U J Im F n o wd 1 (fun _ => p_g0 U Im n o) (fun _ => -1) (fun _ => 0) W → k_Model_search_84 (d + 82) n i0 o most 0 0 W Φ Θ) : ax_I ay_lay (d + 83) q_Model_search [.ref 222, ax_i n, ax_i i0, ax_i o, ax_i most] N Φ Θ := by
  have kw := p_ok.bd hX hk
  have gok := p_g0.ok hX hk
  obtain ⟨⟨hn, hi4⟩, hk⟩ := hk
  have ub := (hX.UJ.1 n).1
  have u3 := hn.2.1
  have nn := hn.1
  have rn : ax_rg n := ⟨by omega, by omega⟩
  have rmost : ax_rg most := ⟨by omega, by omega⟩
  have n9 : 0 ≤ n ∧ n < 9 := ⟨kw.2.1.1, by omega⟩
  refine r_Model_search (d := d + 82) hg rn kw.2.2.2.1 kw.2.2.1 rmost (fun V1 e1 => ⟨n9, ?_⟩)
  have k1 : ∀ c, ¬ c = 222 → V1 c = N c := fun c z => by rw [e1]; exact ax_u_ne z
  have g1 : ax_g V1 := by rw [e1]; exact ax_u_g hg (by decide)
  have much : ∀ k, (0 ≤ k ∧ k < (M0 222 86)) → N 288 k = U k := fun k z => hV.much z.1 z.2
  -- behind the first memory
  have fin : ∀ V3 V4, g_fr [222] N V3 → g_sc [113, 115, 116, 120] N V3 → (V3 222 113 = 1 ∧ V3 222 115 = 0 ∧ V3 222 116 = wd ∧ V3 222 120 = 0) → g_fr [292] V3 V4 → ax_g V4 → (∀ j, 0 ≤ j → j < wd → V4 292 j = p_g0 U Im n o j) → ax_N ay_lay (d + 82) q_Model_keep [.ref 222, ax_i (-1), ax_i 0] V4 (fun V5 => k_Model_search_72 (d + 82) n i0 o most 0 none V5 Φ Θ) Θ := fun V3 V4 f3 s3 c3 f4 g4 m4 => by
    have e2 : V4 222 = V3 222 := f4 222 (by decide)
    refine s_keepM (d := d + 81) g4 (by decide) (by decide) (by rw [e2, c3.2.1]; decide) (by rw [e2, c3.2.2.1]; exact kw.1) (fun W f s g n5 r5 o5 q5 p5 u5 => ?_)
    rw [e2, c3.2.1] at n5 r5 q5 p5
    rw [c3.2.2.1] at r5
    have sW : ∀ k, ¬ k = 115 → W 222 k = V3 222 k := fun k z => by rw [s k (by simp; exact z), e2]
    have nh : p_NH N W := ⟨fun c z => by
      simp only [List.mem_cons, List.not_mem_nil, or_false, not_or] at z
      rw [f c (by simp; omega), f4 c (by simp; omega), f3 c (by simp; omega)], fun k z => by
      simp only [List.mem_cons, List.not_mem_nil, or_false, not_or] at z
      rw [sW k (by omega), s3 k (by simp; omega)], g⟩
    refine r_Model_search_72 g rn kw.2.2.2.1 kw.2.2.1 rmost (by decide) ax_y_n ?_
    rw [n5]
    refine ⟨fun z => absurd z (by decide), fun _ => h W nh (by rw [sW 113 (by decide)]; exact c3.1) ⟨⟨hV.gen (fun c u v => nh.1 c (by simp; omega)) (fun k z => nh.2.1 k (by simp; omega)), g⟩, ⟨by rw [n5]; rfl, by rw [sW 116 (by decide)]; exact c3.2.2.1, by rw [sW 120 (by decide)]; exact c3.2.2.2⟩, fun m' u v => ?_, fun m' u v => ?_⟩⟩
    · have em : m' = 0 := by omega
      rw [em]
      refine ⟨fun j a b => ?_, gok⟩
      rw [r5 j a b]; exact m4 j a b
    · have em : m' = 0 := by omega
      rw [em]; exact ⟨q5, p5⟩
  -- from the width on
  have wide : ∀ s0, s0 + U n = wd → ax_rg s0 → (∀ V3, g_fr [222] N V3 → g_sc [113, 115, 116, 120] N V3 → (V3 222 113 = 1 ∧ V3 222 115 = 0 ∧ V3 222 116 = wd ∧ V3 222 120 = 0) → ax_g V3 → ax_N ay_lay (d + 82) q_Model_begin [.ref 222, ax_i n, ax_i 0] V3 (fun V4 => ((o = -1 → ax_N ay_lay (d + 82) q_Model_keep [.ref 222, ax_i (-1), ax_i 0] V4 (fun V5 => k_Model_search_72 (d + 82) n i0 o most 0 none V5 Φ Θ) Θ) ∧ (¬ o = -1 → (0 ≤ n ∧ n < 9) ∧ ax_N ay_lay (d + 82) q_Model_begin [.ref 222, ax_i o, ax_i (V4 288 n)] V4 (fun V6 => ax_N ay_lay (d + 82) q_Model_keep [.ref 222, ax_i (-1), ax_i 0] V6 (fun V7 => k_Model_search_72 (d + 82) n i0 o most 0 none V7 Φ Θ) Θ) Θ))) Θ) → k_Model_search_27 (d + 82) n i0 o most none none s0 (U n) V1 Φ Θ := fun s0 es rs nxt => by
    refine r_Model_search_27 g1 rn kw.2.2.2.1 kw.2.2.1 rmost ax_y_n ax_y_n rs ⟨by omega, by omega⟩ ⟨⟨by omega, by omega⟩, fun X1 x1 X2 x2 X3 x3 => ?_⟩
    rw [show U n + s0 = wd by omega] at x1
    refine nxt X3 (fun c z => ?_) (fun k z => ?_) ⟨?_, ?_, ?_, ?_⟩ ?_
    · simp at z
      rw [x3, ax_u_ne z, x2, ax_u_ne z, x1, ax_u_ne z, k1 c z]
    · simp at z
      rw [x3, ax_u_k z.2.2.2, x2, ax_u_k z.2.1, x1, ax_u_k z.2.2.1, e1, ax_u_k z.1]
    · rw [x3, ax_u_k (by decide), x2, ax_u_k (by decide), x1, ax_u_k (by decide), e1, ax_u_s]
    · rw [x3, ax_u_k (by decide), x2, ax_u_s]
    · rw [x3, ax_u_k (by decide), x2, ax_u_k (by decide), x1, ax_u_s]
    · rw [x3, ax_u_s]
    · rw [x3, x2, x1]; exact ax_u_g (ax_u_g (ax_u_g g1 ⟨by omega, by omega⟩) (by decide)) (by decide)
  have im : ∀ x, N 290 x = Im x := hV.2.2.2.2.2.2.2.2
  rw [k1 288 (by decide), much n nn]
  rcases hk with ⟨eo, ew, hi0⟩ | ⟨⟨ho, ho4⟩, ei, eo, ew, ri⟩
  · refine ⟨fun _ => wide 0 (by omega) (by decide) (fun V3 f3 s3 c3 g3 => ?_), fun z => absurd eo z⟩
    have e288 : V3 288 n = U n := by rw [f3 288 (by decide)]; exact much n nn
    refine s_beginM (d := d + 81) g3 n9 (by rw [e288]; exact ⟨ub.1, u3⟩) (by rw [e288]; exact ⟨Int.le_refl _, by omega⟩) (fun V4 f4 g4 m4 o4 => ⟨fun _ => fin V3 V4 f3 s3 c3 f4 g4 (fun j a b => ?_), fun z => absurd eo z⟩)
    rw [e288] at m4
    have q := m4 j a (by omega)
    rw [Int.zero_add] at q
    rw [q, f3 290 (by decide), im]
    exact (if_pos (by omega)).symm
  · have oo := ho.1
    have hN := hX.hS.2.1
    have ub2 := (hX.UJ.1 o).1
    have u4 := ho.2.1
    have oN : ¬ o = -1 := by omega
    have o9 : 0 ≤ o ∧ o < 9 := ⟨oo.1, by omega⟩
    rw [much o oo]
    refine ⟨fun z => absurd z oN, fun _ => ⟨o9, wide (U o) (by omega) ⟨by omega, by omega⟩ (fun V3 f3 s3 c3 g3 => ?_)⟩⟩
    have e288 : ∀ k, (0 ≤ k ∧ k < (M0 222 86)) → V3 288 k = U k := fun k z => by rw [f3 288 (by decide)]; exact much k z
    refine s_beginM (d := d + 81) g3 n9 (by rw [e288 n nn]; exact ⟨ub.1, u3⟩) (by rw [e288 n nn]; exact ⟨Int.le_refl _, by omega⟩) (fun V4 f4 g4 m4 o4 => ⟨fun z => absurd z oN, fun _ => ⟨n9, ?_⟩⟩)
    rw [e288 n nn] at m4
    rw [f4 288 (by decide), e288 n nn]
    refine s_beginM (d := d + 81) g4 o9 (by rw [f4 288 (by decide), e288 o oo]; exact ⟨ub2.1, u4⟩) (by rw [f4 288 (by decide), e288 o oo]; exact ⟨ub.1, by omega⟩) (fun V6 f6 g6 m6 o6 => ?_)
    rw [f4 288 (by decide), e288 o oo] at m6 o6
    refine fin V3 V6 f3 s3 c3 (f4.tr f6) g6 (fun j a b => ?_)
    by_cases y : j < U n
    · have q := m4 j a y
      rw [Int.zero_add] at q
      rw [o6 j (by omega), q, f3 290 (by decide), im]
      exact (if_pos y).symm
    · have q := m6 (j - U n) (by omega) (by omega)
      rw [show U n + (j - U n) = j by omega] at q
      rw [q, f4 290 (by decide), f3 290 (by decide), im]
      exact (if_neg y).symm
/-- THE SEARCH, ON BOTH SIDES -/
theorem p_both (hX : h_X C0 M0 P F G Hh S U J Im) (hk : p_ok M0 U J n o i0 wd) (hnw : nw ≤ 1000000) (mw : most * wd ≤ (nw : Int)) (m1 : 1 ≤ most ∧ most ≤ 300) : ∃ (r f' l : Int) (wf : Int → Int), (r = 0 ∨ r = 1 ∨ r = 2) ∧ (0 ≤ l ∧ l ≤ 300) ∧ (0 ≤ f' ∧ f' ≤ 300) ∧
    (∀ V, p_CB M0 P n o i0 most wd V → ∀ (B w d : Nat) (Φ : Int → ax_V → Prop) (Θ : ax_V → Prop), (∀ W, p_CE V W f' l wf → Φ r W) → ax_I (az_W B (az_EP B w nw)) (d + 28) q_Prover_search [.ref 157] V Φ Θ) ∧
    ∀ N, h_RM C0 M0 S U J Im N → ax_g N → ∀ (d : Nat) (Φ : Int → ax_V → Prop) (Θ : ax_V → Prop), (∀ W, p_NH N W → W 222 113 = 1 → W 222 115 = f' → W 222 120 = l → (∀ i, 0 ≤ i → i < l → W 312 i = wf i) → Φ r W) → ax_I ay_lay (d + 83) q_Model_search [.ref 222, ax_i n, ax_i i0, ax_i o, ax_i most] N Φ Θ := by
  have kw := p_ok.bd hX hk
  have sh := p_shl kw.2.2.2.2.1
  obtain ⟨r, f', l, wf, hr, hl, hf', ic, im⟩ := p_search (most := most) hX hk hnw mw 6100 0 0 1 (fun _ => p_g0 U Im n o) (fun _ => -1) (fun _ => 0) (by omega) (by decide) (by decide) (by decide) (by omega) ⟨⟨by decide, m1.1, m1.2⟩, rfl, fun y a b => by omega⟩
  refine ⟨r, f', l, wf, hr, hl, hf', fun V hV B w d Φ Θ h => ?_, fun N hN hg d Φ Θ h => ?_⟩
  · refine r_Prover_search (d := d + 27) hnw hV.1.2 (ax_N.lay (fun _ z => z) (by omega) (t_takeFirstRow (d := d) hX hk hnw mw m1 hV (fun W cg sc => ?_)))
    have sc' := sc
    obtain ⟨⟨a1, a2⟩, b, c, e1, e2⟩ := sc
    have e503 : W 503 n = M0 227 n := by
      rw [a1 503 (by decide) (by decide), hX.hP 503 (by decide)]; exact (hX.hS.fl hk.1.1.1.1 hk.1.1.1.2).1.1
    rw [b.2.2.1, e503]
    refine ⟨kw.2.1, r_Prover_search_37 hnw a2 ⟨by omega, by omega⟩ (by decide) ax_y_n ax_y_n ?_⟩
    rw [b.1]
    exact ⟨fun z => absurd z (by decide), fun _ => ⟨fun z => absurd z (by decide), fun _ => ic W sc' B w d none Φ Θ ax_y_n (fun W2 z => h W2 (p_CE.tr cg z))⟩⟩
  · refine s_searchM (d := d) (wd := wd) hX hk m1 hN hg (fun W nh w1 sm => im W sm d Φ Θ (fun W2 z => ?_))
    obtain ⟨⟨z1, z2, z3⟩, z4, z5, z6⟩ := z
    refine h W2 ⟨nh.1.tr z1, fun k q => ?_, z3⟩ (by rw [z2 113 (by decide)]; exact w1) z4 z5 z6
    rw [z2 k (by simp only [List.mem_cons, List.not_mem_nil, or_false, not_or] at q ⊢; omega)]
    exact nh.2.1 k q
end WholeSearch
