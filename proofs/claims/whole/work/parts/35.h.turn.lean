/-! PROVING: one turn of the search, on both sides -/
/-- the class while it searches: f memories are found -/
def p_SC (C M P : ax_V) (U F : Int → Int) (n o i0 most wd f : Int) (mem : Int → Int → Int) (fr bw : Int → Int) (V : ax_V) : Prop := ((∀ c, 500 ≤ c → c ≤ 573 → V c = P c) ∧ ax_g V) ∧ (V 157 1 = f ∧ V 157 2 = 0 ∧ V 157 13 = n ∧ V 157 14 = o ∧ (o = -1 → V 157 15 = 26 * n + M 231 (26 * n + i0)) ∧ V 157 16 = most ∧ V 157 17 = wd) ∧ p_T (V 163) (V 620) wd f ∧ (∀ m, 0 ≤ m → m < f → (∀ i j, p_PP C M U n o i j → V 620 (m * wd + i) = mem m j) ∧ p_MS C M U F n o (mem m)) ∧ ∀ m, 0 ≤ m → m < f → V 161 m = fr m ∧ V 162 m = bw m
/-- the model while it searches -/
def p_SM (C M : ax_V) (S U J Im F : Int → Int) (n o wd f : Int) (mem : Int → Int → Int) (fr bw : Int → Int) (N : ax_V) : Prop := (h_RM C M S U J Im N ∧ ax_g N) ∧ (N 222 115 = f ∧ N 222 116 = wd ∧ N 222 120 = 0) ∧ (∀ m, 0 ≤ m → m < f → (∀ j, 0 ≤ j → j < wd → N 309 (600 * m + j) = mem m j) ∧ p_MS C M U F n o (mem m)) ∧ ∀ m, 0 ≤ m → m < f → N 310 m = fr m ∧ N 311 m = bw m
/-- what a turn of the class leaves alone -/
def p_CF (V W : ax_V) : Prop := g_fr [150, 151, 152, 153, 154, 155, 160, 164, 165] V W ∧ (∀ f, ¬ f = 10 → W 150 f = V 150 f) ∧ ax_g W
def p_NF (N W : ax_V) : Prop := g_fr (313 :: h_DC) N W ∧ g_sc [101, 123] N W ∧ ax_g W
theorem p_shl_t : ∀ i : Fin 5, 1 ≤ ax_shl 1 ((i : Nat) : Int) ∧ ax_shl 1 ((i : Nat) : Int) ≤ 16 := by decide +kernel
theorem p_shl {i : Int} (h : 0 ≤ i ∧ i ≤ 4) : 1 ≤ ax_shl 1 i ∧ ax_shl 1 i ≤ 16 := by
  have t := p_shl_t ⟨i.toNat, by omega⟩
  have e : (((⟨i.toNat, by omega⟩ : Fin 5) : Nat) : Int) = i := by show ((i.toNat : Nat) : Int) = i; omega
  rw [e] at t
  exact t
section Turn
variable {B w nw d : Nat} {C0 M0 P V V0 W N : ax_V} {F G Hh S U J Im : Int → Int} {n o x m wd i0 most f t : Int} {mem : Int → Int → Int} {fr bw g g' : Int → Int} {Φ : Int → ax_V → Prop} {Ψ Θ : ax_V → Prop}
theorem p_ok.bd (hX : h_X C0 M0 P F G Hh S U J Im) (hk : p_ok M0 U J n o i0 wd) : (0 ≤ wd ∧ wd ≤ 600) ∧ (0 ≤ n ∧ n < 8) ∧ ax_rg o ∧ ax_rg i0 ∧ (0 ≤ M0 227 n ∧ M0 227 n ≤ 4) ∧ (o = -1 ∨ (0 ≤ o ∧ o < 8)) := by
  have hN := hX.hS.2.1
  obtain ⟨⟨hn, hi4⟩, hk⟩ := hk
  have nn := hn.1
  have ub := (hX.UJ.1 n).1
  have u3 := hn.2.1
  have fl := hX.hS.fl nn.1 nn.2
  have b26 := (f_cn_le M0 n 26).2
  have q1 := fl.2.2.2.1
  have q2 := fl.1.2
  have q3 := fl.2.2.1.2
  rcases hk with ⟨eo, ew, hi0⟩ | ⟨⟨ho, ho4⟩, ei, eo, ew, ri⟩
  · exact ⟨⟨by omega, by omega⟩, ⟨nn.1, by omega⟩, ⟨by omega, by omega⟩, ⟨by omega, by omega⟩, ⟨q2, hi4⟩, Or.inl eo⟩
  · have oo := ho.1
    have ub2 := (hX.UJ.1 o).1
    have u4 := ho.2.1
    exact ⟨⟨by omega, by omega⟩, ⟨nn.1, by omega⟩, ⟨by omega, by omega⟩, ri, ⟨q2, hi4⟩, Or.inr ⟨oo.1, by omega⟩⟩
theorem p_PP.b (hX : h_X C0 M0 P F G Hh S U J Im) (hk : p_ok M0 U J n o i0 wd) {i j : Int} (h : p_PP C0 M0 U n o i j) : (0 ≤ i ∧ i < wd) ∧ 0 ≤ j ∧ j < wd := by
  obtain ⟨⟨hn, hi4⟩, hk⟩ := hk
  have tt := hX.t hn
  have ub := (hX.UJ.1 n).1
  rcases h with h | ⟨oN, i', j', ⟨e1, e2⟩, h⟩
  · have bb := hX.UJ.pb hX.hS hX.ok 8 _ tt.1 i j h
    rcases hk with ⟨eo, ew, hi0⟩ | ⟨⟨ho, ho4⟩, ei, eo, ew, ri⟩
    · exact ⟨⟨by omega, by omega⟩, by omega, by omega⟩
    · have ub2 := (hX.UJ.1 o).1
      exact ⟨⟨by omega, by omega⟩, by omega, by omega⟩
  · rcases hk with ⟨eo, ew, hi0⟩ | ⟨⟨ho, ho4⟩, ei, eo, ew, ri⟩
    · exact absurd eo oN
    · have tt2 := hX.t ho
      have bb := hX.UJ.pb hX.hS hX.ok 8 _ tt2.1 i' j' h
      exact ⟨⟨by omega, by omega⟩, by omega, by omega⟩
theorem p_PP.all (hX : h_X C0 M0 P F G Hh S U J Im) (hk : p_ok M0 U J n o i0 wd) : (∀ i, 0 ≤ i → i < wd → ∃ j, p_PP C0 M0 U n o i j) ∧ ∀ j, 0 ≤ j → j < wd → ∃ i, p_PP C0 M0 U n o i j := by
  have hN := hX.hS.2.1
  obtain ⟨⟨hn, hi4⟩, hk⟩ := hk
  have tt := hX.t hn
  have nn := hn.1
  have al := hX.UJ.all hX.hS hX.ok 8 n nn.1 (by omega) tt.1
  rcases hk with ⟨eo, ew, hi0⟩ | ⟨⟨ho, ho4⟩, ei, eo, ew, ri⟩
  · refine ⟨fun i a b => ?_, fun j a b => ?_⟩
    · obtain ⟨j, p⟩ := al.1 i a (by omega)
      exact ⟨j, Or.inl p⟩
    · obtain ⟨i, p⟩ := al.2 j a (by omega)
      exact ⟨i, Or.inl p⟩
  · have tt2 := hX.t ho
    have oo := ho.1
    have al2 := hX.UJ.all hX.hS hX.ok 8 o oo.1 (by omega) tt2.1
    have oN : ¬ o = -1 := by omega
    refine ⟨fun i a b => ?_, fun j a b => ?_⟩
    · by_cases y : i < U n
      · obtain ⟨j, p⟩ := al.1 i a (by omega)
        exact ⟨j, Or.inl p⟩
      · obtain ⟨j, p⟩ := al2.1 (i - U n) (by omega) (by omega)
        exact ⟨U n + j, Or.inr ⟨oN, i - U n, j, ⟨by omega, rfl⟩, p⟩⟩
    · by_cases y : j < U n
      · obtain ⟨i, p⟩ := al.2 j a (by omega)
        exact ⟨i, Or.inl p⟩
      · obtain ⟨i, p⟩ := al2.2 (j - U n) (by omega) (by omega)
        exact ⟨U n + i, Or.inr ⟨oN, i, j - U n, ⟨rfl, by omega⟩, p⟩⟩
/-- rows are the same where memories are -/
theorem p_same (hX : h_X C0 M0 P F G Hh S U J Im) (hk : p_ok M0 U J n o i0 wd) {a c p q : Int → Int} (h1 : ∀ i j, p_PP C0 M0 U n o i j → a i = p j) (h2 : ∀ i j, p_PP C0 M0 U n o i j → c i = q j) : (∀ i, 0 ≤ i → i < wd → a i = c i) ↔ ∀ j, 0 ≤ j → j < wd → p j = q j := by
  have al := p_PP.all hX hk
  constructor
  · intro h j j0 j1
    obtain ⟨i, pp⟩ := al.2 j j0 j1
    have b := p_PP.b hX hk pp
    rw [← h1 i j pp, ← h2 i j pp]
    exact h i b.1.1 b.1.2
  · intro h i i0 i1
    obtain ⟨j, pp⟩ := al.1 i i0 i1
    have b := p_PP.b hX hk pp
    rw [h1 i j pp, h2 i j pp]
    exact h j b.2.1 b.2.2
theorem p_CF.SC (h : p_SC C0 M0 P U F n o i0 most wd f mem fr bw V) (hf : p_CF V W) : p_SC C0 M0 P U F n o i0 most wd f mem fr bw W := by
  obtain ⟨⟨a1, a2⟩, b, c, e1, e2⟩ := h
  refine ⟨⟨fun c u v => by rw [hf.1 c (by simp; omega)]; exact a1 c u v, hf.2.2⟩, by rw [hf.1 157 (by decide)]; exact b, by rw [hf.1 163 (by decide), hf.1 620 (by decide)]; exact c, fun m u v => by rw [hf.1 620 (by decide)]; exact e1 m u v, fun m u v => by rw [hf.1 161 (by decide), hf.1 162 (by decide)]; exact e2 m u v⟩
theorem p_NF.SM (h : p_SM C0 M0 S U J Im F n o wd f mem fr bw N) (hf : p_NF N W) : p_SM C0 M0 S U J Im F n o wd f mem fr bw W := by
  obtain ⟨⟨a1, a2⟩, b, e1, e2⟩ := h
  refine ⟨⟨a1.gen (fun c u v => hf.1 c (by simp; omega)) (fun k z => hf.2.1 k (by simp; omega)), hf.2.2⟩, by rw [hf.2.1 115 (by decide), hf.2.1 116 (by decide), hf.2.1 120 (by decide)]; exact b, fun m u v => by rw [hf.1 309 (by decide)]; exact e1 m u v, fun m u v => by rw [hf.1 310 (by decide), hf.1 311 (by decide)]; exact e2 m u v⟩
set_option maxHeartbeats 1000000 in
/-- the class up to the end of holds -/
theorem p_cls {words : Int} {y4 : Option Value} (hX : h_X C0 M0 P F G Hh S U J Im) (hk : p_ok M0 U J n o i0 wd) (hnw : nw ≤ 1000000) (mw : most * wd ≤ (nw : Int)) (m3 : most ≤ 300) (hm : 0 ≤ m ∧ m < f) (hf : f ≤ most) (hx : 0 ≤ x ∧ x < words) (w16 : words ≤ 16) (ht : t = 0 ∨ t = 1 ∨ t = 2)
    (step : ∀ (V : ax_V) (m : Int), p_CI C0 M0 P U F n o i0 wd nw V m g x → ∀ (B w d : Nat) (Φ : Int → ax_V → Prop) (Θ : ax_V → Prop), (∀ r W, (r = 0 ↔ t = 0) → p_CO C0 M0 U F n o wd t g' V m W → Φ r W) → ax_I (az_W B (az_EP B w nw)) (d + 27) q_Prover_holds [.ref 157, ax_i m] V Φ Θ)
    (hV : p_SC C0 M0 P U F n o i0 most wd f mem fr bw V) (eg : mem m = g) (hy : ax_y y4)
    (h : ∀ W, p_CF V W → (t = 1 → (∀ i j, p_PP C0 M0 U n o i j → W 160 i = g' j) ∧ p_MS C0 M0 U F n o g') → (t = 2 → ∀ j, 0 ≤ j → j < wd → W 160 j = V 620 (m * wd + j)) → (t = 0 → ax_N (az_W B (az_EP B w nw)) (d + 27) q_Prover_tellPath [.ref 157, ax_i m, ax_i x] W (fun V5 => Φ 0 V5) Θ) ∧ (¬ t = 0 → ax_I (az_W B (az_EP B w nw)) (d + 27) q_Prover_findSpot [.ref 157] W (fun r2 V2 => (r2 = -1 → k_Prover_search_54 B w nw (d + 27) words m (x + 1) (some (ax_i r2)) V2 Φ Θ) ∧ (¬ r2 = -1 → (V2 157 1 < V2 157 16 → ax_N (az_W B (az_EP B w nw)) (d + 27) q_Prover_keepRow [.ref 157, ax_i r2, ax_i m, ax_i x] V2 (fun V4 => k_Prover_search_54 B w nw (d + 27) words m (x + 1) (some (ax_i r2)) V4 Φ Θ) Θ) ∧ (V2 157 16 ≤ V2 157 1 → Φ 2 V2))) Θ)) : k_Prover_search_54 B w nw (d + 27) words m x y4 V Φ Θ := by
  have kw := p_ok.bd hX hk
  obtain ⟨⟨a1, a2⟩, b, c, e1, e2⟩ := hV
  have rw' : ax_rg words := ⟨by omega, by omega⟩
  have rm : ax_rg m := ⟨by omega, by omega⟩
  have rx : ax_rg x := ⟨by omega, by omega⟩
  refine r_Prover_search_54 hnw a2 rw' rm rx hy ⟨fun z => by omega, fun _ => ?_⟩
  refine ax_for (I := fun i X => (0 ≤ i ∧ i ≤ 4) ∧ g_fr [165] V X ∧ ax_g X ∧ ∀ j, 0 ≤ j → j < i → X 165 j = h_bit x j) (K := fun i X => k_Prover_search_62 B w nw (d + 27) words m x i X Φ Θ) (hi := 4) (fun i X wi hI nx => ?_) (fun i X wi hI => ?_) 0 V ⟨⟨Int.le_refl _, by decide⟩, fun _ _ => rfl, a2, fun j u v => by omega⟩
  · obtain ⟨ib, fX, gX, iX⟩ := hI
    refine r_Prover_search_62 hnw gX rw' rm rx ⟨by omega, by omega⟩ ⟨fun z => by omega, fun _ => ⟨⟨ib.1, wi⟩, fun X1 eX => nx X1 ⟨⟨by omega, by omega⟩, by rw [eX]; exact fX.u (by decide), by rw [eX]; exact ax_u_g gX (ax_rg_of _), fun j u v => ?_⟩⟩⟩
    by_cases y : j = i
    · rw [y, eX, ax_u_s]; rfl
    · rw [eX, ax_u_k y]; exact iX j u (by omega)
  · obtain ⟨ib, fX, gX, iX⟩ := hI
    have e4 : i = 4 := by omega
    rw [e4] at iX
    refine r_Prover_search_62 hnw gX rw' rm rx ⟨by omega, by omega⟩ ⟨fun _ => ?_, fun z => by omega⟩
    have mb := p_mul kw.1.1 (show m < most by omega)
    have ci : p_CI C0 M0 P U F n o i0 wd nw X m g x := by
      refine ⟨⟨fun c u v => by rw [fX c (by simp; omega)]; exact a1 c u v, gX⟩, ?_, ⟨⟨hm.1, by omega⟩, by omega⟩, fun i j pp => ?_, iX, ?_⟩
      · rw [fX 157 (by decide)]; exact ⟨b.2.2.1, b.2.2.2.1, b.2.2.2.2.1, b.2.2.2.2.2.2⟩
      · rw [fX 620 (by decide), ← eg]; exact (e1 m hm.1 hm.2).1 i j pp
      · rw [← eg]; exact (e1 m hm.1 hm.2).2
    refine step X m ci B w d _ Θ (fun r W hr co => ?_)
    obtain ⟨⟨c1, c2, c3⟩, c4, c5⟩ := co
    have cf : p_CF V W := ⟨fun c z => by
      simp only [List.mem_cons, List.not_mem_nil, or_false, not_or] at z
      rw [c1 c (by simp; omega), fX c (by simp; omega)], fun f z => by rw [c2 f z, fX 150 (by decide)], c3⟩
    have hh := h W cf c4 (fun z j u v => by rw [c5 z j u v, fX 620 (by decide)])
    refine ⟨fun z => hh.1 (hr.mp z), fun z => ?_⟩
    refine ax_T.mono (hh.2 (fun y => z (hr.mpr y))) (Nat.le_refl _) (fun v W2 gW2 q => ?_) (fun _ _ q => q)
    obtain ⟨y, ey, ry, q⟩ := q
    exact ⟨y, ey, ry, fun u => ⟨fun _ => q.1 u, fun nu => absurd u nu⟩, fun u => ⟨fun lt => ⟨fun au => absurd au u, fun _ => (q.2 u).1 lt⟩, (q.2 u).2⟩⟩
set_option maxHeartbeats 1000000 in
/-- the model up to the end of isGood -/
theorem p_mdl (hX : h_X C0 M0 P F G Hh S U J Im) (hk : p_ok M0 U J n o i0 wd) (m3 : 0 ≤ most ∧ most ≤ 300) (hm : 0 ≤ m ∧ m < f) (hf : f ≤ most) (hx : 0 ≤ x ∧ x < ax_shl 1 (M0 227 n))
    (step : ∀ N : ax_V, p_MI C0 M0 S U J Im F n o wd N g → ∀ (d : Nat) (Φ : Int → ax_V → Prop) (Θ : ax_V → Prop), (∀ r W, (r = 0 ↔ t = 0) → p_MO C0 M0 U F n o wd t g' N W → Φ r W) → ax_I ay_lay (d + 82) q_Model_isGood [.ref 222, ax_i n, ax_i i0, ax_i o, ax_i x] N Φ Θ)
    (hV : p_SM C0 M0 S U J Im F n o wd f mem fr bw N) (eg : mem m = g)
    (h : ∀ W, p_NF N W → (t = 1 → (∀ j, 0 ≤ j → j < wd → W 292 j = g' j) ∧ W 222 123 = 0 ∧ p_MS C0 M0 U F n o g') → (t = 2 → W 222 123 = 1) → (t = 0 → ax_N ay_lay (d + 82) q_Model_findWay [.ref 222, ax_i m, ax_i x] W (fun V6 => Φ 0 V6) Θ) ∧ (¬ t = 0 → (W 222 123 = 0 → ax_I ay_lay (d + 82) q_Model_isSeen [.ref 222] W (fun r4 V4 => (r4 = 0 → (V4 222 115 = most → Φ 2 V4) ∧ (¬ V4 222 115 = most → ax_N ay_lay (d + 82) q_Model_keep [.ref 222, ax_i m, ax_i x] V4 (fun V5 => k_Model_search_84 (d + 82) n i0 o most m (x + 1) V5 Φ Θ) Θ)) ∧ (¬ r4 = 0 → k_Model_search_84 (d + 82) n i0 o most m (x + 1) V4 Φ Θ)) Θ) ∧ (¬ W 222 123 = 0 → k_Model_search_84 (d + 82) n i0 o most m (x + 1) W Φ Θ))) : k_Model_search_84 (d + 82) n i0 o most m x N Φ Θ := by
  have kw := p_ok.bd hX hk
  have hN := hX.hS.2.1
  obtain ⟨⟨a1, a2⟩, ⟨b1, b2, b3⟩, e1, e2⟩ := hV
  have sh := p_shl kw.2.2.2.2.1
  have e227 : N 227 n = M0 227 n := by rw [a1.1 227 (by decide) (by decide) (by decide)]
  refine r_Model_search_84 a2 ⟨by omega, by omega⟩ kw.2.2.2.1 kw.2.2.1 ⟨by omega, by omega⟩ ⟨by omega, by omega⟩ ⟨by omega, by omega⟩ ⟨⟨kw.2.1.1, by omega⟩, ?_⟩
  rw [e227]
  refine ⟨fun z => by omega, fun _ => ?_⟩
  refine s_recallM (d := d + 81) a2 ⟨hm.1, by omega⟩ (by rw [b2]; exact kw.1) (fun N1 f1 g1 m1 N2 en => ?_)
  have k2 : ∀ c, ¬ c = 222 → N2 c = N1 c := fun c z => by rw [en]; exact ax_u_ne z
  have g2 : ax_g N2 := by rw [en]; exact ax_u_g g1 (by decide)
  have s2 : ∀ k, ¬ k = 123 → N2 222 k = N 222 k := fun k z => by rw [en, ax_u_k z, f1 222 (by decide)]
  have mi : p_MI C0 M0 S U J Im F n o wd N2 g := by
    refine ⟨⟨a1.gen (fun c u v => by rw [k2 c (by omega), f1 c (by simp; omega)]) (fun k z => s2 k (by omega)), g2⟩, ⟨by rw [s2 116 (by decide)]; exact b2, by rw [en, ax_u_s]⟩, fun j u v => ?_, by rw [← eg]; exact (e1 m hm.1 hm.2).2⟩
    have q := m1 j u (by omega)
    rw [k2 291 (by decide), k2 292 (by decide), q.1, q.2, (e1 m hm.1 hm.2).1 j u v, eg]
    exact ⟨rfl, rfl⟩
  refine step N2 mi d _ Θ (fun r W hr mo => ?_)
  obtain ⟨⟨c1, c2, c3⟩, c4, c5⟩ := mo
  have nf : p_NF N W := ⟨fun c z => by
    have z' := z
    simp only [List.mem_cons, List.not_mem_nil, or_false, not_or] at z
    rw [c1 c z', k2 c z.2.1, f1 c (by simp; omega)], fun k z => by
    have z' := z
    simp at z
    rw [c2 k z', s2 k z.2], c3⟩
  have hh := h W nf c4 c5
  exact ⟨fun z => hh.1 (hr.mp z), fun z => hh.2 (fun y => z (hr.mpr y))⟩
end Turn
