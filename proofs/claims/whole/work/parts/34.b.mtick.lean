/-! THE MODEL: tick -/
/-- what the model's tick leaves alone -/
def h_MT (N W : ax_V) : Prop := g_fr [222, 291, 292, 293, 294, 295, 296, 297, 298, 301, 302, 303, 304, 305] N W ∧ g_sc [0, 101] N W ∧ ax_g W
section MTick
variable {d : Nat} {C0 M0 P V N W : ax_V} {F G Hh S U J Im : Int → Int} {n x : Int} {R : h_R} {Φ : Int → ax_V → Prop} {Ψ Θ : ax_V → Prop}
theorem s_within2 {lo hi : Int} (hg : ax_g V) (hx : ax_rg x) (h1 : ax_rg lo) (h2 : ax_rg hi) (h : Φ (if lo ≤ x ∧ x ≤ hi then 1 else 0) V) : ax_I ay_lay (d + 1) q_Model_within [ax_i x, ax_i lo, ax_i hi] V Φ Θ := by
  refine r_Model_within hg hx h1 h2 ⟨fun z => ?_, fun z => ⟨fun y => ?_, fun y => ?_⟩⟩
  · rw [if_neg (by omega)] at h; exact h
  · rw [if_neg (by omega)] at h; exact h
  · rw [if_pos ⟨z, y⟩] at h; exact h
theorem s_isInstance (hg : ax_g V) (hx : ax_rg x) (hi : 0 ≤ V 222 102 ∧ V 222 102 ≤ 8) (h : Φ (if 0 ≤ x ∧ x < V 222 102 then 1 else 0) V) : ax_I ay_lay (d + 2) q_Model_isInstance [.ref 222, ax_i x] V Φ Θ := by
  refine r_Model_isInstance hg hx (s_within2 (d := d) hg hx (by decide) ⟨by omega, by omega⟩ ?_)
  by_cases z : 0 ≤ x ∧ x < V 222 102
  · rw [if_pos z] at h
    rw [if_pos ⟨z.1, by omega⟩]
    exact ⟨Or.inr rfl, h⟩
  · rw [if_neg z] at h
    rw [if_neg (by omega)]
    exact ⟨Or.inl rfl, h⟩
set_option maxHeartbeats 2000000 in
theorem s_tickM (hX : h_X C0 M0 P F G Hh S U J Im) (hn : h_N M0 U J n) (hV : h_RM C0 M0 S U J Im V) (hg : ax_g V) (hi : 0 ≤ V 222 102 ∧ V 222 102 ≤ 8) (hx : 0 ≤ x ∧ x < V 222 102) (hx8 : V 299 x = n) (hR : h_TK C0 M0 U S Im 8 n R) (hm : h_MS C0 M0 U F 8 n (R [] 5)) (mem : ∀ j, 0 ≤ j → j < U n → V 301 (300 * x + j) = R [] 5 j) (inp : ∀ i, 0 ≤ i → i < M0 227 n → V 300 (26 * x + M0 230 (26 * n + i)) = R [] 1 (M0 230 (26 * n + i)) ∧ (M0 233 (26 * n + M0 230 (26 * n + i)) = 1 → R [] 1 (M0 230 (26 * n + i)) = 0 ∨ R [] 1 (M0 230 (26 * n + i)) = 1)) (tk : ax_rg (V 302 x + 1))
    (h0 : ∀ W, h_MT V W → W 301 = V 301 → W 302 = V 302 → W 303 = V 303 → W 304 = V 304 → W 305 = V 305 → W 222 0 = 0 → 0 ≤ R [] 4 0 → R [] 4 0 < 700 → Φ (1 + R [] 4 0) W)
    (h1 : ∀ W, h_MT V W → W 222 0 = 0 → 700 ≤ R [] 4 0 → (∀ j, ¬ (300 * x ≤ j ∧ j < 300 * x + U n) → W 301 j = V 301 j) → (∀ j, 0 ≤ j → j < U n → W 301 (300 * x + j) = R [] 6 j) → (∀ j, ¬ j = x → W 302 j = V 302 j ∧ W 303 j = V 303 j) → W 302 x = V 302 x + 1 → W 303 x = 1 → (∀ j, ¬ (26 * x ≤ j ∧ j < 26 * x + 26) → W 304 j = V 304 j ∧ W 305 j = V 305 j) → (∀ y, 0 ≤ y → y < 26 → ¬ M0 232 (26 * n + y) = 0 → W 305 (26 * x + y) = R [] 2 y ∧ (¬ R [] 2 y = 0 → W 304 (26 * x + y) = R [] 1 y)) → (∀ i, 0 ≤ i → i < M0 228 n → W 304 (26 * x + M0 231 (26 * n + i)) = R [] 1 (M0 231 (26 * n + i))) → Φ 0 W) : ax_I ay_lay (d + 83) q_Model_tick [.ref 222, ax_i x] V Φ Θ := by
  have hS := hX.hS
  have hN := hS.2.1
  have nn := hn.1
  have tt := hX.t hn
  have ub := (hX.UJ.1 n).1
  have u3 := hn.2.1
  have rx : ax_rg x := ⟨by omega, by omega⟩
  have rn : ax_rg n := ⟨by omega, by omega⟩
  have bx : 0 ≤ x ∧ x < 8 := ⟨hx.1, by omega⟩
  have bn : 0 ≤ n ∧ n < 9 := ⟨nn.1, by omega⟩
  refine r_Model_tick (d := d + 82) hg rx (fun V1 e1 => ?_)
  have k1 : ∀ c, ¬ c = 222 → V1 c = V c := fun c z => by rw [e1]; exact ax_u_ne z
  have s1 : ∀ f, ¬ f = 0 → V1 222 f = V 222 f := fun f z => by rw [e1]; exact ax_u_k z
  have g1 : ax_g V1 := by rw [e1]; exact ax_u_g hg (by decide)
  refine s_isInstance (d := d + 80) g1 rx (by rw [s1 102 (by decide)]; exact hi) ?_
  rw [s1 102 (by decide), if_pos hx, k1 299 (by decide), hx8]
  refine ⟨fun z => absurd z (by decide), fun _ => ⟨bx, ?_⟩⟩
  have u288 : ∀ Y : ax_V, Y 288 = V 288 → Y 288 n = U n := fun Y e => by rw [e]; exact hV.much nn.1 nn.2
  -- memory
  refine ax_for (I := fun i X => (0 ≤ i ∧ i ≤ U n) ∧ g_fr [291, 292] V1 X ∧ ax_g X ∧ ∀ j, 0 ≤ j → j < i → X 291 j = R [] 5 j ∧ X 292 j = R [] 5 j) (K := fun i X => k_Model_tick_24 (d + 82) x n i X Φ Θ) (hi := U n) (fun i X w hI nx => ?_) (fun i X w hI => ?_) 0 V1 ⟨⟨Int.le_refl _, ub.1⟩, fun _ _ => rfl, g1, fun j a b => by omega⟩
  · obtain ⟨ib, fX, gX, iX⟩ := hI
    refine r_Model_tick_24 gX rx rn ⟨by omega, by omega⟩ ⟨bn, ?_⟩
    rw [u288 X (by rw [fX 288 (by decide), k1 288 (by decide)]), fX 301 (by decide), k1 301 (by decide), mem i ib.1 w]
    have rv : ax_rg (R [] 5 i) := by rw [← mem i ib.1 w]; exact hg _ _
    refine ⟨fun z => by omega, fun _ => ⟨⟨by omega, by omega⟩, ⟨ib.1, by omega⟩, fun X1 e1' => ⟨⟨ib.1, by omega⟩, ⟨ib.1, by omega⟩, fun X2 e2 => nx X2 ⟨⟨by omega, by omega⟩, ?_, ?_, fun j j0 j1 => ?_⟩⟩⟩⟩
    · rw [e2, e1']; exact (fX.u (by decide)).u (by decide)
    · rw [e2]; exact ax_u_g (by rw [e1']; exact ax_u_g gX rv) (by rw [e1', ax_u_s]; exact rv)
    · by_cases y : j = i
      · rw [y, e2, ax_u_ne (by decide), ax_u_s, e1', ax_u_s]; exact ⟨rfl, rfl⟩
      · rw [e2, ax_u_ne (by decide), ax_u_k y, e1', ax_u_k y, ax_u_ne (by decide)]
        exact iX j j0 (by omega)
  · obtain ⟨ib, fX, gX, iX⟩ := hI
    have ei : i = U n := by omega
    rw [ei] at iX
    refine r_Model_tick_24 gX rx rn ⟨by omega, by omega⟩ ⟨bn, ?_⟩
    rw [u288 X (by rw [fX 288 (by decide), k1 288 (by decide)])]
    refine ⟨fun _ => ?_, fun z => by omega⟩
    -- inputs
    refine ax_for (I := fun l Y => (0 ≤ l ∧ l ≤ 26) ∧ g_fr [293] X Y ∧ ax_g Y ∧ ∀ y, 0 ≤ y → y < l → Y 293 y = V 300 (26 * x + y)) (K := fun l Y => k_Model_tick_72 (d + 82) x n l Y Φ Θ) (hi := 26) (fun l Y w hI nx => ?_) (fun l Y w hI => ?_) 0 X ⟨⟨Int.le_refl _, by decide⟩, fun _ _ => rfl, gX, fun y a b => by omega⟩
    · obtain ⟨lb, fY, gY, iY⟩ := hI
      have e300 : Y 300 = V 300 := by rw [fY 300 (by decide), fX 300 (by decide), k1 300 (by decide)]
      refine r_Model_tick_72 gY rx rn ⟨by omega, by omega⟩ ⟨fun z => by omega, fun _ => ⟨⟨by omega, by omega⟩, ⟨lb.1, by omega⟩, fun Y3 e3 => nx Y3 ⟨⟨by omega, by omega⟩, by rw [e3]; exact fY.u (by decide), by rw [e3]; exact ax_u_g gY (gY _ _), fun y y0 y1 => ?_⟩⟩⟩
      by_cases z : y = l
      · rw [z, e3, ax_u_s, e300]
      · rw [e3, ax_u_k z]; exact iY y y0 (by omega)
    · obtain ⟨lb, fY, gY, iY⟩ := hI
      have el : l = 26 := by omega
      rw [el] at iY
      refine r_Model_tick_72 gY rx rn ⟨by omega, by omega⟩ ⟨fun _ Y1 e1' => ?_, fun z => by omega⟩
      have kY : ∀ c, ¬ c = 222 → Y1 c = Y c := fun c z => by rw [e1']; exact ax_u_ne z
      have gY1 : ax_g Y1 := by rw [e1']; exact ax_u_g gY (by decide)
      have fYV : g_fr h_DC V Y1 := fun c z => by
        simp only [List.mem_cons, List.not_mem_nil, or_false, not_or] at z
        rw [kY c z.1, fY c (by simp; exact z.2.2.2.1), fX c (by simp; exact ⟨z.2.1, z.2.2.1⟩), k1 c z.1]
      have sY : ∀ f, ¬ f = 0 → ¬ f = 101 → Y1 222 f = V 222 f := fun f z1 z2 => by rw [e1', ax_u_k z2, fY 222 (by decide), fX 222 (by decide)]; exact s1 f z1
      have hVY : h_RM C0 M0 S U J Im Y1 := by
        have hV1 : h_RM C0 M0 S U J Im (ax_u Y1 222 0 (V 222 0)) := by
          refine hV.fr (fun c z => ?_) (fun f z => ?_)
          · rw [ax_u_ne (by simp at z; exact z.1)]; exact fYV c z
          · by_cases y : f = 0
            · rw [y, ax_u_s]
            · rw [ax_u_k y]; exact sY f y (by simp at z; exact z)
        obtain ⟨a1, a2, a3, a4, a5, a6, a7, a8, a9⟩ := hV1
        have un : ∀ c, ¬ c = 222 → ax_u Y1 222 0 (V 222 0) c = Y1 c := fun c z => ax_u_ne z
        refine ⟨fun c u v w => by rw [← un c (by omega)]; exact a1 c u v w, ?_, fun q u v o => by rw [← un 251 (by decide)]; exact a3 q u v o, a4.at (un 238 (by decide)).symm (un 239 (by decide)).symm, fun q u v => by rw [← un 254 (by decide)]; exact a5 q u v, fun q u v => by rw [← un 256 (by decide)]; exact a6 q u v, fun k u v => (a7 k u v).at (by rw [un 284 (by decide)]) (fun s _ _ => by rw [un 285 (by decide)]), ?_, fun y => by rw [← un 290 (by decide)]; exact a9 y⟩
        · rw [ax_u_k (by decide), ax_u_k (by decide), ax_u_k (by decide), ax_u_k (by decide)] at a2; exact a2
        · intro m m0 m1
          have u := a8 m m0 m1
          unfold g_NK at u ⊢
          rw [un 288 (by decide), un 289 (by decide), un 240 (by decide), un 290 (by decide), un 270 (by decide), un 257 (by decide)] at u
          exact u
      have f101 : Y1 222 101 = -1 := by rw [e1', ax_u_s]
      have m12 : ∀ j, 0 ≤ j → j < g_T C0 M0 U n → Y1 291 (0 + j) = R [] 5 j ∧ Y1 292 (0 + j) = R [] 5 j := fun j j0 j1 => by
        rw [Int.zero_add, kY 291 (by decide), kY 292 (by decide), fY 291 (by decide), fY 292 (by decide)]
        exact iX j j0 (by omega)
      refine ax_N_d (D' := d + 1 + 10 * 8 + 1) (by omega) ?_
      refine s_tick hX 8 (d + 1) 0 n 0 Y1 R _ Θ hn (by omega) (Int.le_refl _) (by omega) ⟨Int.le_refl _, by omega⟩ hVY gY1 (Or.inl f101) hR ⟨m12, hm, fun i i0 i1 => ?_⟩ (fun W fW oW => ?_)
      · have ip := (hS.inp (i := i) nn.1 nn.2 i0 i1).2.1
        rw [Int.mul_zero, Int.zero_add, kY 293 (by decide), iY _ ip.1 ip.2]
        exact inp i i0 i1
      · have gW := fW.1.2.2.1
        obtain ⟨o1, -, o3, o4, o5, o6⟩ := oW
        have fl0 : h_fl Y1 = 700 := if_pos f101
        rw [fl0] at o5
        have fVW : g_fr h_DC V W := fYV.tr fW.1.1
        have sW : ∀ f, ¬ f = 101 → W 222 f = Y1 222 f := fun f z => fW.1.2.1 f (by simp; exact z)
        have thr : W 222 0 = 0 := by rw [sW 0 (by decide), e1', ax_u_k (by decide), fY 222 (by decide), fX 222 (by decide), e1, ax_u_s]
        have sVW : ∀ f, ¬ f = 0 → ¬ f = 101 → W 222 f = V 222 f := fun f z1 z2 => by rw [sW f z2]; exact sY f z1 z2
        have mt : ∀ Z, g_fr [301, 302, 303, 304, 305] W Z → ax_g Z → h_MT V Z := fun Z fZ gZ => by
          refine ⟨fun c z => ?_, fun f z => ?_, gZ⟩
          · simp only [List.mem_cons, List.not_mem_nil, or_false, not_or] at z
            rw [fZ c (by simp; omega), fVW c (by simp; omega)]
          · simp at z
            rw [fZ 222 (by decide)]; exact sVW f z.1 z.2
        have fo := fW.1.2.2.2
        refine ⟨fun fl => ?_, fun fl => ?_⟩
        · have no : 700 ≤ R [] 4 0 := by
            by_cases z : 700 ≤ R [] 4 0
            · exact z
            · have w1 := (o5 (R [] 4 0) (by omega)).mpr (Or.inr (Int.le_refl _))
              have : h_fl W = 700 := if_pos fl
              omega
          -- memory is taken over
          refine ax_for (I := fun i Z => (0 ≤ i ∧ i ≤ U n) ∧ g_fr [301] W Z ∧ ax_g Z ∧ (∀ j, ¬ (300 * x ≤ j ∧ j < 300 * x + i) → Z 301 j = V 301 j) ∧ ∀ j, 0 ≤ j → j < i → Z 301 (300 * x + j) = R [] 6 j) (K := fun i Z => k_Model_tick_130 (d + 82) x n i Z Φ Θ) (hi := U n) (fun i Z w hI nx => ?_) (fun i Z w hI => ?_) 0 W ⟨⟨Int.le_refl _, ub.1⟩, fun _ _ => rfl, gW, fun j _ => by rw [fVW 301 (by decide)], fun j a b => by omega⟩
          · obtain ⟨ib, fZ, gZ, oZ, iZ⟩ := hI
            have v6 := o1 i ib.1 (by omega)
            rw [Int.zero_add] at v6
            refine r_Model_tick_130 gZ rx rn ⟨by omega, by omega⟩ ⟨bn, ?_⟩
            rw [u288 Z (by rw [fZ 288 (by decide), fVW 288 (by decide)]), fZ 292 (by decide), v6]
            have rv : ax_rg (R [] 6 i) := by rw [← v6]; exact gW _ _
            refine ⟨fun z => by omega, fun _ => ⟨⟨ib.1, by omega⟩, ⟨by omega, by omega⟩, fun Z1 e1'' => nx Z1 ⟨⟨by omega, by omega⟩, by rw [e1'']; exact fZ.u (by decide), by rw [e1'']; exact ax_u_g gZ rv, fun j hj => by rw [e1'', ax_u_k (by omega)]; exact oZ j (by omega), fun j j0 j1 => ?_⟩⟩⟩
            by_cases y : j = i
            · rw [y, e1'', ax_u_s]
            · rw [e1'', ax_u_k (by omega)]; exact iZ j j0 (by omega)
          · obtain ⟨ib, fZ, gZ, oZ, iZ⟩ := hI
            have ei2 : i = U n := by omega
            rw [ei2] at oZ iZ
            refine r_Model_tick_130 gZ rx rn ⟨by omega, by omega⟩ ⟨bn, ?_⟩
            rw [u288 Z (by rw [fZ 288 (by decide), fVW 288 (by decide)])]
            refine ⟨fun _ => ?_, fun z => by omega⟩
            -- flows
            refine ax_for (I := fun l Q => (0 ≤ l ∧ l ≤ 26) ∧ g_fr [304, 305] Z Q ∧ ax_g Q ∧ (∀ j, ¬ (26 * x ≤ j ∧ j < 26 * x + l) → Q 304 j = V 304 j ∧ Q 305 j = V 305 j) ∧ ∀ y, 0 ≤ y → y < l → Q 305 (26 * x + y) = W 294 y ∧ Q 304 (26 * x + y) = W 293 y) (K := fun l Q => k_Model_tick_166 (d + 82) x (some (ax_i n)) l Q Φ Θ) (hi := 26) (fun l Q w hI nx => ?_) (fun l Q w hI => ?_) 0 Z ⟨⟨Int.le_refl _, by decide⟩, fun _ _ => rfl, gZ, fun j _ => by rw [fZ 304 (by decide), fZ 305 (by decide), fVW 304 (by decide), fVW 305 (by decide)]; exact ⟨rfl, rfl⟩, fun y a b => by omega⟩
            · obtain ⟨lb, fQ, gQ, oQ, iQ⟩ := hI
              have e294 : Q 294 = W 294 := by rw [fQ 294 (by decide), fZ 294 (by decide)]
              have e293 : Q 293 = W 293 := by rw [fQ 293 (by decide), fZ 293 (by decide)]
              have bo := o6 l lb.1 w
              rw [Int.mul_zero, Int.zero_add] at bo
              refine r_Model_tick_166 gQ rx (ax_y_i _) ⟨by omega, by omega⟩ ⟨fun z => by omega, fun _ => ⟨⟨lb.1, by omega⟩, ⟨by omega, by omega⟩, by rw [e294]; exact bo, fun Q3 e3 => ⟨⟨lb.1, by omega⟩, ⟨by omega, by omega⟩, fun Q4 e4 => nx Q4 ⟨⟨by omega, by omega⟩, by rw [e4, e3]; exact (fQ.u (by decide)).u (by decide), by rw [e4]; exact ax_u_g (by rw [e3]; exact ax_u_g gQ (gQ _ _)) (by rw [e3, ax_u_ne (by decide)]; exact gQ _ _), fun j hj => ?_, fun y y0 y1 => ?_⟩⟩⟩⟩
              · rw [e4, ax_u_k (by omega), ax_u_ne (by decide), e3, ax_u_ne (by decide), ax_u_k (by omega)]
                exact oQ j (by omega)
              · by_cases z : y = l
                · rw [z, e4, ax_u_ne (by decide), ax_u_s, e3, ax_u_s, ax_u_ne (by decide), e294, e293]; exact ⟨rfl, rfl⟩
                · rw [e4, ax_u_ne (by decide), ax_u_k (by omega), e3, ax_u_k (by omega), ax_u_ne (by decide)]
                  exact iQ y y0 (by omega)
            · obtain ⟨lb, fQ, gQ, oQ, iQ⟩ := hI
              have el2 : l = 26 := by omega
              rw [el2] at oQ iQ
              have e302 : Q 302 = V 302 := by rw [fQ 302 (by decide), fZ 302 (by decide), fVW 302 (by decide)]
              refine r_Model_tick_166 gQ rx (ax_y_i _) ⟨by omega, by omega⟩ ⟨fun _ => ⟨bx, bx, ?_⟩, fun z => by omega⟩
              rw [e302]
              refine ⟨tk, fun Q1 e1'' => ⟨bx, fun Q2 e2 => ?_⟩⟩
              have kq : ∀ c, ¬ c = 302 → ¬ c = 303 → Q2 c = Q c := fun c z1 z2 => by rw [e2, ax_u_ne z2, e1'', ax_u_ne z1]
              have gQ2 : ax_g Q2 := by rw [e2, e1'']; exact ax_u_g (ax_u_g gQ tk) (by decide)
              have fQ2 : g_fr [301, 302, 303, 304, 305] W Q2 := fun c z => by
                simp only [List.mem_cons, List.not_mem_nil, or_false, not_or] at z
                rw [kq c z.2.1 z.2.2.1, fQ c (by simp; exact ⟨z.2.2.2.1, z.2.2.2.2⟩), fZ c (by simp; exact z.1)]
              have e303 : Q 303 = V 303 := by rw [fQ 303 (by decide), fZ 303 (by decide), fVW 303 (by decide)]
              refine h1 Q2 (mt Q2 fQ2 gQ2) (by rw [fQ2 222 (by decide)]; exact thr) no (fun j hj => ?_) (fun j j0 j1 => ?_) (fun j hj => ?_) ?_ ?_ (fun j hj => ?_) (fun y y0 y1 k0 => ?_) (fun i i0 i1 => ?_)
              · rw [kq 301 (by decide) (by decide), fQ 301 (by decide)]; exact oZ j hj
              · rw [kq 301 (by decide) (by decide), fQ 301 (by decide)]; exact iZ j j0 j1
              · rw [e2, ax_u_ne (by decide), ax_u_k hj, e1'', ax_u_k hj, ax_u_ne (by decide), e302, e303]; exact ⟨rfl, rfl⟩
              · rw [e2, ax_u_ne (by decide), e1'', ax_u_s]
              · rw [e2, ax_u_s]
              · rw [kq 304 (by decide) (by decide), kq 305 (by decide) (by decide)]; exact oQ j hj
              · have m := o3 y y0 y1 k0
                unfold h_mt at m
                rw [Int.mul_zero, Int.zero_add] at m
                rw [kq 304 (by decide) (by decide), kq 305 (by decide) (by decide), (iQ y y0 y1).1, (iQ y y0 y1).2]
                exact ⟨m.1, fun z => (m.2 z).1⟩
              · have fo2 := ((hS.fl nn.1 nn.2).2.2.2.2.2.1 i i0 i1).2.1
                have m := (o4 i i0 i1).1
                rw [Int.mul_zero, Int.zero_add] at m
                rw [kq 304 (by decide) (by decide), (iQ _ fo2.1 fo2.2).2]
                exact m
        · have fb : 0 ≤ W 222 101 ∧ W 222 101 < 700 := by
            rcases fo with z | z
            · exact absurd z fl
            · exact z
          have flW : h_fl W = W 222 101 := if_neg fl
          have w1 := (o5 (W 222 101) fb.2).mp (by rw [flW]; exact Int.le_refl _)
          have r7 : R [] 4 0 ≤ W 222 101 := by
            rcases w1 with y | y
            · omega
            · exact y
          have w2 := (o5 (R [] 4 0) (by omega)).mpr (Or.inr (Int.le_refl _))
          have er : W 222 101 = R [] 4 0 := by omega
          rw [er]
          exact ⟨⟨by omega, by omega⟩, h0 W (mt W (fun _ _ => rfl) gW) (fVW 301 (by decide)) (fVW 302 (by decide)) (fVW 303 (by decide)) (fVW 304 (by decide)) (fVW 305 (by decide)) thr (by omega) (by omega)⟩
end MTick
