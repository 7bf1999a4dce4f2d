/-! PROVING, the model: isGood -/
section IsGood
variable {d : Nat} {C0 M0 P V V0 W : ax_V} {F G Hh S U J Im : Int → Int} {n o x m b i0 : Int} {R R2 : h_R} {Φ : Int → ax_V → Prop} {Ψ Θ : ax_V → Prop}
/-- what a model that can run stands on -/
theorem h_RM.gen (h : h_RM C0 M0 S U J Im V0) (f : ∀ c, 226 ≤ c → c ≤ 290 → V c = V0 c) (g : ∀ k : Int, k = 26 ∨ k = 44 ∨ k = 55 ∨ k = 60 → V 222 k = V0 222 k) : h_RM C0 M0 S U J Im V := by
  obtain ⟨a1, a2, a3, a4, a5, a6, a7, a8, a9⟩ := h
  refine ⟨fun c u v w => by rw [f c u (by omega)]; exact a1 c u v w, ?_, fun q u v o => by rw [f 251 (by decide) (by decide)]; exact a3 q u v o, a4.at (f 238 (by decide) (by decide)) (f 239 (by decide) (by decide)), fun q u v => by rw [f 254 (by decide) (by decide)]; exact a5 q u v, fun q u v => by rw [f 256 (by decide) (by decide)]; exact a6 q u v, fun k u v => (a7 k u v).at (by rw [f 284 (by decide) (by decide)]) (fun s _ _ => by rw [f 285 (by decide) (by decide)]), ?_, fun y => by rw [f 290 (by decide) (by decide)]; exact a9 y⟩
  · rw [g 26 (by decide), g 44 (by decide), g 55 (by decide), g 60 (by decide)]; exact a2
  · intro m m0 m1
    have u := a8 m m0 m1
    unfold g_NK at u ⊢
    rw [f 288 (by decide) (by decide), f 289 (by decide) (by decide), f 240 (by decide) (by decide), f 290 (by decide) (by decide), f 270 (by decide) (by decide), f 257 (by decide) (by decide)]
    exact u
set_option maxHeartbeats 1000000 in
/-- a tick, fed with a word -/
theorem s_fedTick {K : ax_V → Prop} (hX : h_X C0 M0 P F G Hh S U J Im) (hn : h_N M0 U J n) (hV : h_RM C0 M0 S U J Im V) (hg : ax_g V) (hb : 0 ≤ b ∧ b + U n ≤ 600) (x0 : 0 ≤ x ∧ x < 16) (hi4 : M0 227 n ≤ 4) (hR : h_TK C0 M0 U S Im 8 n R) (hm : h_MS C0 M0 U F 8 n (R [] 5)) (mem : ∀ j, 0 ≤ j → j < U n → V 291 (b + j) = R [] 5 j ∧ V 292 (b + j) = R [] 5 j) (inp : ∀ i, 0 ≤ i → i < M0 227 n → R [] 1 (M0 230 (26 * n + i)) = h_bit x i)
    (h : ∀ W, g_fr h_DC V W → g_sc [101] V W → ax_g W → (∀ j, ¬ (b ≤ j ∧ j < b + U n) → W 291 j = V 291 j ∧ W 292 j = V 292 j) → (∀ j, 0 ≤ j → j < U n → W 292 (b + j) = R [] 6 j) → h_MS C0 M0 U F 8 n (R [] 6) → (∀ i, 0 ≤ i → i < M0 228 n → W 293 (M0 231 (26 * n + i)) = R [] 1 (M0 231 (26 * n + i))) → ((W 222 101 = -1 ∧ 700 ≤ R [] 4 0) ∨ (¬ W 222 101 = -1 ∧ R [] 4 0 < 700)) → Ψ W)
    (hK : ∀ V2, V2 288 = V 288 → ax_N ay_lay (d + 81) q_Model_tickNode [.ref 222, ax_i 0, ax_i n, ax_i b] V2 Ψ Θ → K V2) : ax_N ay_lay (d + 81) q_Model_feed [.ref 222, ax_i n, ax_i x] V (fun V1 => ∀ V2, V2 = ax_u V1 222 101 (-1) → K V2) Θ := by
  have hS := hX.hS
  have hN := hS.2.1
  have nn := hn.1
  have tt := hX.t hn
  have ub := (hX.UJ.1 n).1
  have fl := hS.fl nn.1 nn.2
  refine s_feedM (d := d + 80) hS hV hg nn.1 nn.2 ⟨by omega, by omega⟩ (fun V1 f1 g1 i1 V2 e2 => ?_)
  have k2 : ∀ c, ¬ c = 222 → V2 c = V1 c := fun c z => by rw [e2]; exact ax_u_ne z
  have g2 : ax_g V2 := by rw [e2]; exact ax_u_g g1 (by decide)
  have f2 : g_fr h_DC V V2 := fun c z => by
    simp only [List.mem_cons, List.not_mem_nil, or_false, not_or] at z
    rw [k2 c z.1, f1 c (by simp; exact z.2.2.2.1)]
  have s2 : g_sc [101] V V2 := fun k z => by
    simp at z
    rw [e2, ax_u_k z, f1 222 (by decide)]
  have f101 : V2 222 101 = -1 := by rw [e2, ax_u_s]
  refine hK V2 (f2 288 (by decide)) ?_
  refine s_tick hX 8 d 0 n b V2 R _ Θ hn (by omega) (Int.le_refl _) (by omega) ⟨hb.1, by omega⟩ (hV.fr f2 s2) g2 (Or.inl f101) hR ⟨fun j j0 j1 => ?_, hm, fun i a c => ?_⟩ (fun W fW oW => ?_)
  · rw [k2 291 (by decide), k2 292 (by decide), f1 291 (by decide), f1 292 (by decide)]
    exact mem j j0 (by omega)
  · have ip := (hS.inp (i := i) nn.1 nn.2 a c).2.1
    rw [Int.mul_zero, Int.zero_add, k2 293 (by decide), i1 i a c (fun i' u v e => ?_), inp i a c]
    · exact ⟨rfl, fun _ => h_bit_b x0 ⟨a, by omega⟩⟩
    · have un := fl.2.2.2.2.2.2.2
      by_cases y : i' < i
      · exact absurd e (un i' i u y c)
      · by_cases y2 : i < i'
        · exact absurd e.symm (un i i' a y2 v)
        · omega
  · obtain ⟨o1, o2, o3, o4, o5, o6⟩ := oW
    have fl0 : h_fl V2 = 700 := if_pos f101
    rw [fl0] at o5
    have fo := fW.1.2.2.2
    refine h W (f2.tr fW.1.1) (fun k z => ?_) fW.1.2.2.1 (fun j hj => ?_) (fun j j0 j1 => o1 j j0 (by omega)) o2 (fun i a c => ?_) ?_
    · rw [fW.1.2.1 k z]; exact s2 k z
    · have u := fW.2.1 j (by omega)
      rw [u.1, u.2, k2 291 (by decide), k2 292 (by decide), f1 291 (by decide), f1 292 (by decide)]
      exact ⟨rfl, rfl⟩
    · have u := (o4 i a c).1
      rw [Int.mul_zero, Int.zero_add] at u
      exact u
    · by_cases z : W 222 101 = -1
      · refine Or.inl ⟨z, ?_⟩
        by_cases y : 700 ≤ R [] 4 0
        · exact y
        · have w1 := (o5 (R [] 4 0) (by omega)).mpr (Or.inr (Int.le_refl _))
          have : h_fl W = 700 := if_pos z
          omega
      · refine Or.inr ⟨z, ?_⟩
        have e : h_fl W = W 222 101 := if_neg z
        have b7 : W 222 101 < 700 := by
          rcases fo with y | y
          · exact absurd y z
          · exact y.2
        have w1 := (o5 (W 222 101) b7).mp (by rw [e]; exact Int.le_refl _)
        rcases w1 with y | y
        · omega
        · omega
set_option maxHeartbeats 1000000 in
/-- one node -/
theorem s_isGood1 (hX : h_X C0 M0 P F G Hh S U J Im) (hn : h_N M0 U J n) (hV : h_RM C0 M0 S U J Im V) (hg : ax_g V) (x0 : 0 ≤ x ∧ x < 16) (hi0 : 0 ≤ i0 ∧ i0 < M0 228 n) (hi4 : M0 227 n ≤ 4) (hR : h_TK C0 M0 U S Im 8 n R) (hm : h_MS C0 M0 U F 8 n (R [] 5)) (mem : ∀ j, 0 ≤ j → j < U n → V 291 j = R [] 5 j ∧ V 292 j = R [] 5 j) (inp : ∀ i, 0 ≤ i → i < M0 227 n → R [] 1 (M0 230 (26 * n + i)) = h_bit x i)
    (h : ∀ r W, g_fr h_DC V W → g_sc [101] V W → ax_g W → (∀ j, 0 ≤ j → j < U n → W 292 j = R [] 6 j) → h_MS C0 M0 U F 8 n (R [] 6) → ((r = 1 ∧ 700 ≤ R [] 4 0 ∧ R [] 1 (M0 231 (26 * n + i0)) = 1) ∨ (r = 0 ∧ ¬ (700 ≤ R [] 4 0 ∧ R [] 1 (M0 231 (26 * n + i0)) = 1))) → Φ r W) : ax_I ay_lay (d + 82) q_Model_isGood [.ref 222, ax_i n, ax_i i0, ax_i (-1), ax_i x] V Φ Θ := by
  have hS := hX.hS
  have hN := hS.2.1
  have nn := hn.1
  have u3 := hn.2.1
  have fl := hS.fl nn.1 nn.2
  have b26 := (f_cn_le M0 n 26).2
  have q1 := fl.2.2.2.1
  have q2 := fl.1.2
  have q3 := fl.2.2.1.2
  have fo := (fl.2.2.2.2.2.1 i0 hi0.1 hi0.2).2.1
  have rn : ax_rg n := ⟨by omega, by omega⟩
  have ri : ax_rg i0 := ⟨by omega, by omega⟩
  have rx : ax_rg x := ⟨by omega, by omega⟩
  refine r_Model_isGood (d := d + 81) hg rn ri (by decide) rx (s_fedTick (d := d) (b := 0) (R := R) hX hn hV hg ⟨Int.le_refl _, by omega⟩ x0 hi4 hR hm (fun j a b => by rw [Int.zero_add]; exact mem j a b) inp (fun W fW sW gW rest new ms out res => ?_) (fun V2 _ t => t))
  have m6 : ∀ j, 0 ≤ j → j < U n → W 292 j = R [] 6 j := fun j a b => by have u := new j a b; rw [Int.zero_add] at u; exact u
  have e231 : W 231 (26 * n + i0) = M0 231 (26 * n + i0) := by rw [fW 231 (by decide), hV.1 231 (by decide) (by decide) (by decide)]
  have bi : 0 ≤ 26 * n + i0 ∧ 26 * n + i0 < 240 := ⟨by omega, by omega⟩
  refine ⟨fun z => ?_, fun z => ?_⟩
  · have no : 700 ≤ R [] 4 0 := by
      rcases res with y | y
      · exact y.2
      · exact absurd z y.1
    refine r_Model_isGood_32 gW rn ri (by decide) rx ax_y_n ax_y_n (by decide) ⟨fun _ => ⟨fun _ => ⟨bi, ?_⟩, fun y => absurd rfl y⟩, fun y => absurd rfl y⟩
    rw [e231, out i0 hi0.1 hi0.2]
    exact ⟨⟨fo.1, by omega⟩, fun y => h 1 W fW sW gW m6 ms (Or.inl ⟨rfl, no, y⟩), fun y => h 0 W fW sW gW m6 ms (Or.inr ⟨rfl, fun q => y q.2⟩)⟩
  · have no : R [] 4 0 < 700 := by
      rcases res with y | y
      · exact absurd y.1 z
      · exact y.2
    refine r_Model_isGood_32 gW rn ri (by decide) rx ax_y_n ax_y_n (by decide) ⟨fun _ => ⟨fun y => absurd y (by decide), fun _ => h 0 W fW sW gW m6 ms (Or.inr ⟨rfl, fun q => by omega⟩)⟩, fun y => absurd rfl y⟩
set_option maxHeartbeats 2000000 in
/-- two nodes -/
theorem s_isGood2 (hX : h_X C0 M0 P F G Hh S U J Im) (hn : h_N M0 U J n) (ho : h_N M0 U J o) (hV : h_RM C0 M0 S U J Im V) (hg : ax_g V) (x0 : 0 ≤ x ∧ x < 16) (ri : ax_rg i0) (hi4 : M0 227 n ≤ 4) (ho4 : M0 227 o ≤ 4) (eo : M0 228 n = M0 228 o) (ew : V 222 116 = U n + U o) (hR : h_TK C0 M0 U S Im 8 n R) (hm : h_MS C0 M0 U F 8 n (R [] 5)) (mem : ∀ j, 0 ≤ j → j < U n → V 291 j = R [] 5 j ∧ V 292 j = R [] 5 j) (inp : ∀ i, 0 ≤ i → i < M0 227 n → R [] 1 (M0 230 (26 * n + i)) = h_bit x i)
    (hR2 : h_TK C0 M0 U S Im 8 o R2) (hm2 : h_MS C0 M0 U F 8 o (R2 [] 5)) (mem2 : ∀ j, 0 ≤ j → j < U o → V 291 (U n + j) = R2 [] 5 j ∧ V 292 (U n + j) = R2 [] 5 j) (inp2 : ∀ i, 0 ≤ i → i < M0 227 o → R2 [] 1 (M0 230 (26 * o + i)) = h_bit x i)
    (hgo : ∀ r W, g_fr (313 :: h_DC) V W → g_sc [101] V W → ax_g W → 700 ≤ R [] 4 0 → 700 ≤ R2 [] 4 0 → (∀ j, 0 ≤ j → j < U n → W 292 j = R [] 6 j) → (∀ j, 0 ≤ j → j < U o → W 292 (U n + j) = R2 [] 6 j) → h_MS C0 M0 U F 8 n (R [] 6) → h_MS C0 M0 U F 8 o (R2 [] 6) → ((r = 1 ∧ ∀ i, 0 ≤ i → i < M0 228 o → R [] 1 (M0 231 (26 * n + i)) = R2 [] 1 (M0 231 (26 * o + i))) ∨ (r = 0 ∧ ¬ ∀ i, 0 ≤ i → i < M0 228 o → R [] 1 (M0 231 (26 * n + i)) = R2 [] 1 (M0 231 (26 * o + i)))) → Φ r W)
    (hno : ∀ W, g_fr (313 :: h_DC) V W → g_sc [101, 123] V W → ax_g W → W 222 123 = 1 → R [] 4 0 < 700 → R2 [] 4 0 < 700 → Φ 1 W)
    (hne : ∀ W, g_fr (313 :: h_DC) V W → g_sc [101] V W → ax_g W → ¬ (700 ≤ R [] 4 0 ↔ 700 ≤ R2 [] 4 0) → Φ 0 W) : ax_I ay_lay (d + 82) q_Model_isGood [.ref 222, ax_i n, ax_i i0, ax_i o, ax_i x] V Φ Θ := by
  have hS := hX.hS
  have hN := hS.2.1
  have nn := hn.1
  have oo := ho.1
  have u3 := hn.2.1
  have u4 := ho.2.1
  have ub := (hX.UJ.1 n).1
  have ub2 := (hX.UJ.1 o).1
  have fl := hS.fl nn.1 nn.2
  have fl2 := hS.fl oo.1 oo.2
  have b26 := (f_cn_le M0 n 26).2
  have q1 := fl.2.2.2.1
  have q2 := fl.1.2
  have q3 := fl.2.2.1.2
  have q4 := fl.2.1.2
  have rn : ax_rg n := ⟨by omega, by omega⟩
  have ro : ax_rg o := ⟨by omega, by omega⟩
  have rx : ax_rg x := ⟨by omega, by omega⟩
  have n9 : 0 ≤ n ∧ n < 9 := ⟨nn.1, by omega⟩
  refine r_Model_isGood (d := d + 81) hg rn ri ro rx (s_fedTick (d := d) (b := 0) (R := R) hX hn hV hg ⟨Int.le_refl _, by omega⟩ x0 hi4 hR hm (fun j a b => by rw [Int.zero_add]; exact mem j a b) inp (fun W fW sW gW rest new ms out res => ?_) (fun V2 _ t => t))
  have m6 : ∀ j, 0 ≤ j → j < U n → W 292 j = R [] 6 j := fun j a b => by have u := new j a b; rw [Int.zero_add] at u; exact u
  have hW : h_RM C0 M0 S U J Im W := hV.fr fW sW
  -- behind the first node's tick; s says that it failed
  have go : ∀ s, ((s = 0 ∧ 700 ≤ R [] 4 0) ∨ (s = 1 ∧ R [] 4 0 < 700)) → k_Model_isGood_73 (d + 81) n (some (ax_i i0)) o x s 0 W Φ Θ := fun s hs => by
    have rs : ax_rg s := ⟨by omega, by omega⟩
    refine ax_for (I := fun i X => (0 ≤ i ∧ i ≤ M0 228 n) ∧ g_fr [313] W X ∧ ax_g X ∧ ∀ j, 0 ≤ j → j < i → X 313 j = R [] 1 (M0 231 (26 * n + j))) (K := fun i X => k_Model_isGood_73 (d + 81) n (some (ax_i i0)) o x s i X Φ Θ) (hi := M0 228 n) (fun i X wi hI nx => ?_) (fun i X wi hI => ?_) 0 W ⟨⟨Int.le_refl _, q4⟩, fun _ _ => rfl, gW, fun j a b => by omega⟩
    · obtain ⟨ib, fX, gX, iX⟩ := hI
      have fo := (fl.2.2.2.2.2.1 i ib.1 wi).2.1
      have e228 : X 228 n = M0 228 n := by rw [fX 228 (by decide), hW.1 228 (by decide) (by decide) (by decide)]
      have e231 : X 231 (26 * n + i) = M0 231 (26 * n + i) := by rw [fX 231 (by decide), hW.1 231 (by decide) (by decide) (by decide)]
      refine r_Model_isGood_73 gX rn (ax_y_i _) ro rx rs ⟨by omega, by omega⟩ ⟨n9, ?_⟩
      rw [e228, e231, fX 293 (by decide), out i ib.1 wi]
      refine ⟨fun z => by omega, fun _ => ⟨⟨by omega, by omega⟩, ⟨fo.1, by omega⟩, ⟨ib.1, by omega⟩, fun X1 e1 => nx X1 ⟨⟨by omega, by omega⟩, by rw [e1]; exact fX.u (by decide), by rw [e1]; exact ax_u_g gX (by rw [← out i ib.1 wi]; exact gW _ _), fun j j0 j1 => ?_⟩⟩⟩
      by_cases y : j = i
      · rw [y, e1, ax_u_s]
      · rw [e1, ax_u_k y]; exact iX j j0 (by omega)
    · obtain ⟨ib, fX, gX, iX⟩ := hI
      have ei : i = M0 228 n := by omega
      rw [ei] at iX
      have e228 : X 228 n = M0 228 n := by rw [fX 228 (by decide), hW.1 228 (by decide) (by decide) (by decide)]
      have hXX : h_RM C0 M0 S U J Im X := hW.gen (fun c a b => fX c (by simp; omega)) (fun k _ => by rw [fX 222 (by decide)])
      refine r_Model_isGood_73 gX rn (ax_y_i _) ro rx rs ⟨by omega, by omega⟩ ⟨n9, ?_⟩
      rw [e228]
      refine ⟨fun _ => ?_, fun z => by omega⟩
      have e291 : ∀ j, 0 ≤ j → j < U o → X 291 (U n + j) = R2 [] 5 j ∧ X 292 (U n + j) = R2 [] 5 j := fun j a b => by
        have u := rest (U n + j) (by omega)
        rw [fX 291 (by decide), fX 292 (by decide), u.1, u.2]; exact mem2 j a b
      refine s_fedTick (d := d) (b := U n) (R := R2) hX ho hXX gX ⟨ub.1, by omega⟩ x0 ho4 hR2 hm2 e291 inp2 (fun Y fY sY gY rest2 new2 ms2 out2 res2 => ?_) (fun V2 e288 t => ⟨n9, by rw [e288, hXX.much nn.1 nn.2]; exact t⟩)
      have fVY : g_fr (313 :: h_DC) V Y := fun c z => by
        simp only [List.mem_cons, List.not_mem_nil, or_false, not_or] at z
        rw [fY c (by simp; exact z.2), fX c (by simp; exact z.1), fW c (by simp; exact z.2)]
      have sVY : g_sc [101] V Y := fun k z => by rw [sY k z, fX 222 (by decide)]; exact sW k z
      have e116 : Y 222 116 = U n + U o := by rw [sVY 116 (by decide)]; exact ew
      -- both failed
      have both : R [] 4 0 < 700 → R2 [] 4 0 < 700 → ∀ y1 y3 y4 y5, ax_y y1 → ax_y y3 → ax_y y4 → ax_y y5 → k_Model_isGood_166 (d + 81) y1 (some (ax_i i0)) y3 y4 y5 0 Y Φ Θ := fun r1 r2 y1 y3 y4 y5 h1 h3 h4 h5 => by
        refine ax_for (I := fun i Z => (0 ≤ i ∧ i ≤ U n + U o) ∧ g_fr [292] Y Z ∧ ax_g Z) (K := fun i Z => k_Model_isGood_166 (d + 81) y1 (some (ax_i i0)) y3 y4 y5 i Z Φ Θ) (hi := U n + U o) (fun i Z wi hI nx => ?_) (fun i Z wi hI => ?_) 0 Y ⟨⟨Int.le_refl _, by omega⟩, fun _ _ => rfl, gY⟩
        · obtain ⟨ib, fZ, gZ⟩ := hI
          refine r_Model_isGood_166 gZ h1 (ax_y_i _) h3 h4 h5 ⟨by omega, by omega⟩ ?_
          rw [fZ 222 (by decide), e116]
          exact ⟨fun z => by omega, fun _ => ⟨⟨ib.1, by omega⟩, fun Z1 e1 => nx Z1 ⟨⟨by omega, by omega⟩, by rw [e1]; exact fZ.u (by decide), by rw [e1]; exact ax_u_g gZ (by decide)⟩⟩⟩
        · obtain ⟨ib, fZ, gZ⟩ := hI
          refine r_Model_isGood_166 gZ h1 (ax_y_i _) h3 h4 h5 ⟨by omega, by omega⟩ ?_
          rw [fZ 222 (by decide), e116]
          refine ⟨fun _ Z1 e1 => hno Z1 (fun c z => ?_) (fun k z => ?_) (by rw [e1]; exact ax_u_g gZ (by decide)) (by rw [e1, ax_u_s]) r1 r2, fun z => by omega⟩
          · have z' := z
            simp only [List.mem_cons, List.not_mem_nil, or_false, not_or] at z
            rw [e1, ax_u_ne z.2.1, fZ c (by simp; exact z.2.2.2.1)]; exact fVY c z'
          · simp at z
            rw [e1, ax_u_k z.2, fZ 222 (by decide)]; exact sVY k (by simp; exact z.1)
      -- none failed
      have none : 700 ≤ R [] 4 0 → 700 ≤ R2 [] 4 0 → ∀ y4 y5, ax_y y4 → ax_y y5 → k_Model_isGood_199 (d + 81) n (some (ax_i i0)) o y4 y5 0 Y Φ Θ := fun r1 r2 y4 y5 h4 h5 => by
        have m7 : ∀ j, 0 ≤ j → j < U n → Y 292 j = R [] 6 j := fun j a b => by
          rw [(rest2 j (by omega)).2, fX 292 (by decide)]; exact m6 j a b
        have e228' : Y 228 n = M0 228 n := by rw [fY 228 (by decide)]; exact e228
        have o2 : M0 228 o = M0 228 n := eo.symm
        refine ax_for (I := fun i Z => ((0 ≤ i ∧ i ≤ M0 228 n) ∧ ∀ j, 0 ≤ j → j < i → R [] 1 (M0 231 (26 * n + j)) = R2 [] 1 (M0 231 (26 * o + j))) ∧ Z = Y) (K := fun i Z => k_Model_isGood_199 (d + 81) n (some (ax_i i0)) o y4 y5 i Z Φ Θ) (hi := M0 228 n) (fun i Z wi hI nx => ?_) (fun i Z wi hI => ?_) 0 Y ⟨⟨⟨Int.le_refl _, q4⟩, fun j a b => by omega⟩, rfl⟩
        · obtain ⟨⟨ib, iZ⟩, eZ⟩ := hI
          have wo : i < M0 228 o := by omega
          have fo := (fl2.2.2.2.2.2.1 i ib.1 wo).2.1
          have e231 : Y 231 (26 * o + i) = M0 231 (26 * o + i) := by rw [fY 231 (by decide), hXX.1 231 (by decide) (by decide) (by decide)]
          rw [eZ]
          refine r_Model_isGood_199 gY rn (ax_y_i _) ro h4 h5 ⟨by omega, by omega⟩ ⟨n9, ?_⟩
          rw [e228', e231, fY 313 (by decide), iX i ib.1 wi, out2 i ib.1 wo]
          refine ⟨fun z => by omega, fun _ => ⟨⟨ib.1, by omega⟩, ⟨by omega, by omega⟩, ⟨fo.1, by omega⟩, fun e => nx Y ⟨⟨⟨by omega, by omega⟩, fun j j0 j1 => ?_⟩, rfl⟩, fun e => hgo 0 Y fVY sVY gY r1 r2 m7 new2 ms ms2 (Or.inr ⟨rfl, fun all => e (all i ib.1 wo)⟩)⟩⟩
          by_cases y : j = i
          · rw [y]; exact e
          · exact iZ j j0 (by omega)
        · obtain ⟨⟨ib, iZ⟩, eZ⟩ := hI
          rw [eZ]
          refine r_Model_isGood_199 gY rn (ax_y_i _) ro h4 h5 ⟨by omega, by omega⟩ ⟨n9, ?_⟩
          rw [e228']
          exact ⟨fun _ => hgo 1 Y fVY sVY gY r1 r2 m7 new2 ms ms2 (Or.inl ⟨rfl, fun j a b => iZ j a (by omega)⟩), fun z => by omega⟩
      refine ⟨fun z => ⟨fun s0 => ⟨fun _ => ?_, fun y => absurd s0 y⟩, fun s0 => ?_⟩, fun z => ⟨fun s1 => ⟨fun y => by omega, fun _ => ?_⟩, fun s1 => ?_⟩⟩
      · exact none (by omega) (by omega) _ _ (ax_y_i _) (ax_y_i _)
      · exact hne Y fVY sVY gY (fun q => by omega)
      · exact both (by omega) (by omega) _ _ _ _ (ax_y_i _) (ax_y_i _) (ax_y_i _) (ax_y_i _)
      · exact hne Y fVY sVY gY (fun q => by omega)
  have oN : ¬ o = -1 := by omega
  refine ⟨fun z => r_Model_isGood_32 gW rn ri ro rx ax_y_n ax_y_n (by decide) ⟨fun y => absurd y oN, fun _ => go 0 (Or.inl ⟨rfl, by omega⟩)⟩, fun z => r_Model_isGood_32 gW rn ri ro rx ax_y_n ax_y_n (by decide) ⟨fun y => absurd y oN, fun _ => go 1 (Or.inr ⟨rfl, by omega⟩)⟩⟩
end IsGood
