/-! THE MODEL'S TICK: choosing, leaving -/
section ModelH
variable {d : Nat} {C0 M0 P V V0 V1 W X X' : ax_V} {F G Hh S U J Im : Int → Int} {n q e a b c lv f g m l fl x st z : Int} {k : Nat} {s t : Int → Prop} {R : h_R} {Φ : Int → ax_V → Prop} {Ψ Θ : ax_V → Prop}
theorem h_RN.mf (hX : h_X C0 M0 P F G Hh S U J Im) (hn : h_N M0 U J n) (a0 : 0 ≤ a) (an : M0 267 a = n) (h : h_RN C0 M0 U Im n b f V (h_PS M0 a z) X) (hfo : h_fo V) : h_MF C0 M0 U n b lv V X := by
  have hS := hX.hS
  have fr := h.1.1
  refine ⟨⟨h.fr.1, h.fr.2, h.1.2.1, by unfold h_fo; rw [fr 222 (by decide)]; exact hfo⟩, fun i hi => ?_, fun x _ => by rw [fr 293 (by decide), fr 294 (by decide), fr 295 (by decide)]; exact ⟨rfl, rfl, rfl⟩, fun x _ => by rw [fr 296 (by decide)], fun x _ => by rw [fr 297 (by decide), fr 298 (by decide)]; exact ⟨rfl, rfl⟩⟩
  have u := h.2.2 i (fun q j hq j0 j1 => ?_)
  · exact ⟨u.2, u.1⟩
  · have qq := h_PS.node hS a0 an hq
    have sp := hX.sp hn qq.1.1 qq.1.2 qq.2
    have tb := hX.tb n
    omega
theorem h_MF.own (hg : ax_g V) (hfo : h_fo V) (fr : g_fr [297, 298] V W) (gW : ax_g W) (h7 : ∀ x, x < 351 * lv → W 297 x = V 297 x ∧ W 298 x = V 298 x) : h_MF C0 M0 U n b lv V W := ⟨⟨fr.up (by simp), fun j _ => by rw [fr 222 (by decide)], gW, by unfold h_fo; rw [fr 222 (by decide)]; exact hfo⟩, fun i _ => by rw [fr 291 (by decide), fr 292 (by decide)]; exact ⟨rfl, rfl⟩, fun x _ => by rw [fr 293 (by decide), fr 294 (by decide), fr 295 (by decide)]; exact ⟨rfl, rfl, rfl⟩, fun x _ => by rw [fr 296 (by decide)], h7⟩
set_option maxHeartbeats 1000000 in
theorem s_choose (hX : h_X C0 M0 P F G Hh S U J Im) (hn : h_N M0 U J n) (hk : n < ((k + 1 : Nat) : Int)) (ht : h_tick C0 M0 U J F S Im k) (hlv : 0 ≤ lv ∧ lv + n ≤ 7) (hb : 0 ≤ b ∧ b + g_T C0 M0 U n ≤ 600) (hV : h_RM C0 M0 S U J Im V) (hg : ax_g V) (hfo : h_fo V) (hR : h_TK C0 M0 U S Im (k + 1) n R) (hm : h_MS C0 M0 U F (k + 1) n (R [] 5)) (hJ : h_J C0 M0 U F S k n b lv V0 V s R) (a0 : 0 ≤ a) (a1 : a < (M0 222 55)) (an : M0 267 a = n) (hl : ¬ V 297 (351 * lv + a) = 0 ↔ s (2048 + a)) (noend : ∀ v, 3072 ≤ v → ¬ s v) (cL : ¬ s (2048 + a) → ∀ m q, 0 ≤ m → m < (M0 222 60) → M0 271 m = a → M0 273 m = 1 → M0 276 m ≤ q → q ≤ M0 277 m → (M0 241 q = 2 ∨ M0 241 q = 20 ∨ M0 241 q = 21 ∨ (M0 241 q = 22 ∧ ¬ M0 248 q = -1)) → ¬ V 295 (26 * lv + M0 248 q) = 0)
    (next : ∀ W t, h_J C0 M0 U F S k n b lv V0 W t R → h_MF C0 M0 U n b lv V W → (∀ x, x < 26 * lv + 26 → W 293 x = V 293 x ∧ W 294 x = V 294 x ∧ W 295 x = V 295 x) → (∀ x, x < 351 * lv + 351 → ¬ x = 351 * lv + a → W 297 x = V 297 x) → ¬ W 297 (351 * lv + a) = 0 → (∀ v, s v → t v) → t (2048 + a) → (∀ v, t v → s v ∨ v = 2048 + a ∨ ∃ m, (0 ≤ m ∧ m < (M0 222 60)) ∧ M0 271 m = a ∧ M0 276 m ≤ v ∧ v ≤ M0 277 m) → (∀ m q, ¬ s (2048 + a) → 0 ≤ m → m < (M0 222 60) → M0 271 m = a → M0 273 m = 1 → M0 272 m = R [] 5 (h_sa M0 n a) → M0 276 m ≤ q → q ≤ M0 277 m → t q) → Ψ W) : ax_N ay_lay (d + 10 * k + 6) q_Model_choose [.ref 222, ax_i lv, ax_i n, ax_i b, ax_i a] V Ψ Θ := by
  have hS := hX.hS
  have sm := hS.small
  have hN := hS.2.1
  have nn := hn.1
  have tb := hX.tb n
  have rl : ax_rg lv := ⟨by omega, by omega⟩
  have rn : ax_rg n := ⟨by omega, by omega⟩
  have rb : ax_rg b := ⟨by omega, by omega⟩
  have ra : ax_rg a := ⟨by omega, by omega⟩
  have bk : 0 ≤ 351 * lv + a ∧ 351 * lv + a < 3159 := ⟨by omega, by omega⟩
  have ba : 0 ≤ a ∧ a < 351 := ⟨a0, by omega⟩
  have hB := hS.2.2.2.2.1
  have trb : (M0 222 60) ≤ 350 := by
    have hc4 := hB.1.2.2.2.2.1
    have hat := hS.2.2.2.2.2.2.2
    omega
  have sa : h_sa M0 n a = g_ll M0 n 26 + g_ca M0 n a.toNat := rfl
  have ca := (hX.a5 hn a0 a1 an).2
  have c2 := (g_ca_b M0 n a.toNat).1
  refine r_Model_choose hg rl rn rb ra ⟨bk, fun new' => ⟨bk, fun V1 e1 => ⟨ba, ?_⟩⟩, fun old => next V s hJ ⟨⟨fun _ _ => rfl, fun _ _ => rfl, hg, hfo⟩, fun _ _ => ⟨rfl, rfl⟩, fun _ _ => ⟨rfl, rfl, rfl⟩, fun _ _ => rfl, fun _ _ => ⟨rfl, rfl⟩⟩ (fun _ _ => ⟨rfl, rfl, rfl⟩) (fun _ _ _ => rfl) old (fun _ z => z) (hl.mp old) (fun _ z => Or.inl z) (fun _ _ z => absurd (hl.mp old) z)⟩
  have new : ¬ s (2048 + a) := fun z => hl.mpr z new'
  have e270 : V1 270 a = h_sa M0 n a := by rw [e1, ax_u_ne (by decide)]; exact hV.aslot hX hn a0 a1 an
  have e291 : V1 291 = V 291 := by rw [e1]; exact ax_u_ne (by decide)
  obtain ⟨j1, j2, j3, j4, j5, j6, j8, j9⟩ := hJ
  rw [e270, e291, j4.2.1 a a0 a1 an]
  have rst : ax_rg (R [] 5 (h_sa M0 n a)) := by rw [← j4.2.1 a a0 a1 an]; exact hg _ _
  refine ⟨⟨by omega, by omega⟩, bk, fun V2 e2 => ⟨bk, ?_⟩⟩
  have k2 : ∀ c, ¬ c = 297 → ¬ c = 298 → V2 c = V c := fun c z1 z2 => by rw [e2, ax_u_ne z2, e1, ax_u_ne z1]
  have v298 : V2 298 (351 * lv + a) = R [] 5 (h_sa M0 n a) := by rw [e2, ax_u_s]
  have v297 : V2 297 (351 * lv + a) = 1 := by rw [e2, ax_u_ne (by decide), e1, ax_u_s]
  have o297 : ∀ y, ¬ y = 351 * lv + a → V2 297 y = V 297 y ∧ V2 298 y = V 298 y := fun y z => ⟨by rw [e2, ax_u_ne (by decide), e1, ax_u_k z], by rw [e2, ax_u_k z, e1, ax_u_ne (by decide)]⟩
  have g2 : ax_g V2 := by rw [e2, e1]; exact ax_u_g (ax_u_g hg (by decide)) rst
  have f2 : g_fr [297, 298] V V2 := by rw [e2, e1]; exact ((g_fr.rf _ _).u (by decide)).u (by decide)
  have mf2 : h_MF C0 M0 U n b lv V V2 := h_MF.own hg hfo f2 g2 (fun y z => o297 y (by omega))
  have hV2 := mf2.rm hV
  have ef : h_fl V2 = h_fl V := by unfold h_fl; rw [k2 222 (by decide) (by decide)]
  have jV2 : h_J C0 M0 U F S k n b lv V0 V2 s R := by
    refine ⟨by unfold h_J1; rw [k2 296 (by decide) (by decide)]; exact j1, by unfold h_J2 h_mt; rw [k2 293 (by decide) (by decide), k2 294 (by decide) (by decide), k2 295 (by decide) (by decide)]; exact j2, fun a' a0' a1' an' z => ?_, by unfold h_J4; rw [k2 291 (by decide) (by decide)]; exact j4, by unfold h_J5; rw [k2 292 (by decide) (by decide)]; exact j5, fun t ht' => by rw [ef]; exact j6 t ht', j8, j9⟩
    have ne : ¬ a' = a := fun y => new (by rw [← y]; exact z)
    rw [(o297 (351 * lv + a') (by omega)).2]
    exact j3 a' a0' a1' an' z
  rw [v298]
  obtain ⟨u, ue⟩ : ∃ u : Int → Prop, ∀ v, u v ↔ (s v ∨ ∃ m, (0 ≤ m ∧ m < (M0 222 60)) ∧ (M0 271 m = a ∧ M0 273 m = 1 ∧ M0 272 m = R [] 5 (h_sa M0 n a)) ∧ M0 276 m ≤ v ∧ v ≤ M0 277 m) := ⟨_, fun _ => Iff.rfl⟩
  have ubig : ∀ v, 700 ≤ v → u v → s v := fun v hv z => by
    rcases (ue v).mp z with y | ⟨m, mb, -, y⟩
    · exact y
    · have fx := (hB.2.2.2.2.1 m mb.1 mb.2).2.2.2.2.2.2.2.1
      omega
  obtain ⟨t, te⟩ : ∃ t : Int → Prop, ∀ v, t v ↔ (u v ∨ v = 2048 + a) := ⟨_, fun _ => Iff.rfl⟩
  have t1 : ∀ v, s v → t v := fun v z => (te v).mpr (Or.inl ((ue v).mpr (Or.inl z)))
  have t2 : ∀ v, t v → s v ∨ v = 2048 + a ∨ ∃ m, (0 ≤ m ∧ m < (M0 222 60)) ∧ M0 271 m = a ∧ M0 276 m ≤ v ∧ v ≤ M0 277 m := fun v z => by
    rcases (te v).mp z with y | y
    · rcases (ue v).mp y with w | ⟨m, mb, mt, w⟩
      · exact Or.inl w
      · exact Or.inr (Or.inr ⟨m, mb, mt.1, w⟩)
    · exact Or.inr (Or.inl y)
  refine s_firstOf (d := d) hX hn hk ht hlv hb hV2 g2 mf2.1.2.2.2 hR hm jV2 a0 a1 an (Or.inr rfl) rst (by rw [if_neg (by decide)]) (fun m q m0 m1 ta tx qa qb o => by rw [k2 295 (by decide) (by decide)]; exact cL new m q m0 m1 ta tx qa qb o) ue (fun r W jW fW kW hr => ?_)
  have nx := (hR.2.2.2.1 a a0 a1 an).1.at hr
  have gW := fW.1.2.2.1
  have w8 : W 298 (351 * lv + a) = R [] 5 (h_sa M0 n a) := by rw [(kW.2 _ (by omega)).2]; exact v298
  have w7 : ¬ W 297 (351 * lv + a) = 0 := by rw [(kW.2 _ (by omega)).1, v297]; decide
  have lets : ∀ Y : ax_V, Y 293 = W 293 → Y 294 = W 294 → Y 295 = W 295 → ∀ x, x < 26 * lv + 26 → Y 293 x = V 293 x ∧ Y 294 x = V 294 x ∧ Y 295 x = V 295 x := fun Y y3 y4 y5 x hx => by
    rw [y3, y4, y5, (kW.1 x hx).1, (kW.1 x hx).2.1, (kW.1 x hx).2.2, k2 293 (by decide) (by decide), k2 294 (by decide) (by decide), k2 295 (by decide) (by decide)]
    exact ⟨rfl, rfl, rfl⟩
  have cho : ∀ Y : ax_V, Y 297 = W 297 → (∀ x, x < 351 * lv + 351 → ¬ x = 351 * lv + a → Y 297 x = V 297 x) ∧ ¬ Y 297 (351 * lv + a) = 0 := fun Y y7 => by
    rw [y7]
    exact ⟨fun x hx ne => by rw [(kW.2 x hx).1]; exact (o297 x ne).1, w7⟩
  have ch : ∀ Y : ax_V, Y 296 = W 296 → Y 222 = W 222 → (Y 293 = W 293 ∧ Y 294 = W 294 ∧ Y 295 = W 295) → Y 297 = W 297 → Y 298 (351 * lv + a) = R [] 3 a → (∀ x, ¬ x = 351 * lv + a → Y 298 x = W 298 x) → h_MF C0 M0 U n b lv W Y → ((Y 291 = W 291 ∧ Y 292 = W 292 ∧ ∀ z, ¬ h_rn M0 (R []) a 1 (R [] 5 (h_sa M0 n a)) z) ∨ ∃ z, (∀ y, h_rn M0 (R []) a 1 (R [] 5 (h_sa M0 n a)) y ↔ y = z) ∧ (∀ q i, h_PS M0 a z q → 0 ≤ i → i < g_vl C0 M0 U q → Y 292 (b + (g_sp C0 M0 U n q.toNat + i)) = h_vf C0 M0 Im q i ∧ Y 291 (b + (g_sp C0 M0 U n q.toNat + i)) = h_vf C0 M0 Im q i) ∧ ∀ x, (∀ q i, h_PS M0 a z q → 0 ≤ i → i < g_vl C0 M0 U q → ¬ x = b + (g_sp C0 M0 U n q.toNat + i)) → Y 292 x = W 292 x ∧ Y 291 x = W 291 x) → Ψ Y := fun Y y6 y0 yl y7 y8 y8' mfY rnY => by
    have c := cho Y y7
    exact next Y t (jW.chosen hX hn hR te a0 a1 an (fun z => new (ubig _ (by omega) z)) (fun v hv z => noend v hv (ubig v (by omega) z)) y6 y0 yl y8 y8' rnY) (mf2.tr (fW.tr mfY)) (lets Y yl.1 yl.2.1 yl.2.2) c.1 c.2 t1 ((te _).mpr (Or.inr rfl)) t2 (fun m q _ m0 m1 ta tx ts qa qb => (te q).mpr (Or.inl ((ue q).mpr (Or.inr ⟨m, ⟨m0, m1⟩, ⟨ta, tx, ts⟩, qa, qb⟩))))
  refine ⟨fun r1 => ?_, fun r1 => ?_⟩
  · refine ch W rfl rfl ⟨rfl, rfl, rfl⟩ rfl ?_ (fun _ _ => rfl) ⟨⟨fun _ _ => rfl, fun _ _ => rfl, gW, fW.1.2.2.2⟩, fun _ _ => ⟨rfl, rfl⟩, fun _ _ => ⟨rfl, rfl, rfl⟩, fun _ _ => rfl, fun _ _ => ⟨rfl, rfl⟩⟩ (Or.inl ⟨rfl, rfl, fun z w => ?_⟩)
    · rw [w8]
      rcases nx.1 with y | y
      · exact y.2.symm
      · omega
    · have := ((nx.2 z).mp w).1; omega
  · have r0 : 0 ≤ r := by
      rcases hr with y | y
      · exact absurd y.1 r1
      · exact y.1
    have rt : r < (M0 222 60) := by
      rcases hr with y | y
      · exact absurd y.1 r1
      · exact y.2.1.2
    have rto : R [] 3 a = M0 275 r := by
      rcases nx.1 with y | y
      · exact absurd y.1 r1
      · exact y.2
    have br : 0 ≤ r ∧ r < 351 := ⟨r0, by omega⟩
    have rW := fW.rm hV2
    rw [rW.1 275 (by decide) (by decide) (by decide)]
    refine ⟨br, bk, fun V4 e4 => ⟨br, ?_⟩⟩
    have k4 : ∀ c, ¬ c = 298 → V4 c = W c := fun c z => by rw [e4]; exact ax_u_ne z
    rw [k4 274 (by decide), rW.1 274 (by decide) (by decide) (by decide), k4 275 (by decide), rW.1 275 (by decide) (by decide) (by decide)]
    have g4 : ax_g V4 := by rw [e4]; exact ax_u_g gW (hS.1.2 _ _)
    have mf4 : h_MF C0 M0 U n b lv W V4 := h_MF.own gW fW.1.2.2.2 (by rw [e4]; exact (g_fr.rf _ _).u (by decide)) g4 (fun y z => by rw [k4 297 (by decide), e4, ax_u_k (by omega)]; exact ⟨rfl, rfl⟩)
    have v8 : V4 298 (351 * lv + a) = R [] 3 a := by rw [e4, ax_u_s, rto]
    have o8 : ∀ y, ¬ y = 351 * lv + a → V4 298 y = W 298 y := fun y z => by rw [e4, ax_u_k z]
    refine ⟨fun nw => ?_, fun nw => ⟨br, ?_⟩⟩
    · exact ch V4 (k4 296 (by decide)) (k4 222 (by decide)) ⟨k4 293 (by decide), k4 294 (by decide), k4 295 (by decide)⟩ (k4 297 (by decide)) v8 o8 mf4 (Or.inl ⟨k4 291 (by decide), k4 292 (by decide), fun z w => ((nx.2 z).mp w).2.1 nw⟩)
    · refine s_renewState (d := d + 10 * k + 3) hX hn (mf4.rm rW) g4 hb a0 a1 an (hS.1.2 _ _) (Or.inr rfl) (fun Y hY => ?_)
      have fY := hY.1.1
      refine ch Y ((fY 296 (by decide)).trans (k4 296 (by decide))) ((fY 222 (by decide)).trans (k4 222 (by decide))) ⟨(fY 293 (by decide)).trans (k4 293 (by decide)), (fY 294 (by decide)).trans (k4 294 (by decide)), (fY 295 (by decide)).trans (k4 295 (by decide))⟩ ((fY 297 (by decide)).trans (k4 297 (by decide))) (by rw [fY 298 (by decide)]; exact v8) (fun y z => by rw [fY 298 (by decide)]; exact o8 y z) (mf4.tr (hY.mf hX hn a0 an mf4.1.2.2.2)) (Or.inr ⟨M0 275 r, fun y => ?_, fun q i hq i0 i1 => ?_, fun x hx => ?_⟩)
      · rw [nx.2 y]
        exact ⟨fun w => w.2.2.symm, fun w => ⟨r0, nw, w.symm⟩⟩
      · have c := hY.2.1 q i hq i0 i1
        exact ⟨c.1, c.2 (by decide)⟩
      · have c := hY.2.2 x hx
        rw [k4 291 (by decide), k4 292 (by decide)] at c
        exact c
set_option maxHeartbeats 1000000 in
theorem s_leave (hX : h_X C0 M0 P F G Hh S U J Im) (hn : h_N M0 U J n) (hk : n < ((k + 1 : Nat) : Int)) (ht : h_tick C0 M0 U J F S Im k) (hlv : 0 ≤ lv ∧ lv + n ≤ 7) (hb : 0 ≤ b ∧ b + g_T C0 M0 U n ≤ 600) (hV : h_RM C0 M0 S U J Im V) (hg : ax_g V) (hfo : h_fo V) (hR : h_TK C0 M0 U S Im (k + 1) n R) (hm : h_MS C0 M0 U F (k + 1) n (R [] 5)) (hJ : h_J C0 M0 U F S k n b lv V0 V s R) (a0 : 0 ≤ a) (a1 : a < (M0 222 55)) (an : M0 267 a = n) (ch : s (2048 + a)) (new : ¬ s (5120 + a)) (done : ∀ e q, 0 ≤ e → e < (M0 222 44) → M0 263 e = a → M0 261 e ≤ q → q ≤ M0 262 e → (M0 241 q = 6 ∧ s (3072 + q)) ∨ (¬ M0 241 q = 6 ∧ s q)) (cL : ∀ m q, 0 ≤ m → m < (M0 222 60) → M0 271 m = a → M0 273 m = 0 → M0 276 m ≤ q → q ≤ M0 277 m → (M0 241 q = 2 ∨ M0 241 q = 20 ∨ M0 241 q = 21 ∨ (M0 241 q = 22 ∧ ¬ M0 248 q = -1)) → ¬ V 295 (26 * lv + M0 248 q) = 0) (te : ∀ v, t v ↔ ((s v ∨ ∃ m, (0 ≤ m ∧ m < (M0 222 60)) ∧ (M0 271 m = a ∧ M0 273 m = 0 ∧ M0 272 m = R [] 3 a) ∧ M0 276 m ≤ v ∧ v ≤ M0 277 m) ∨ v = 5120 + a))
    (next : ∀ W, h_J C0 M0 U F S k n b lv V0 W t R → h_MF C0 M0 U n b lv V W → h_KL lv V W → Ψ W) : ax_N ay_lay (d + 10 * k + 6) q_Model_leave [.ref 222, ax_i lv, ax_i n, ax_i b, ax_i a] V Ψ Θ := by
  have hS := hX.hS
  have sm := hS.small
  have hN := hS.2.1
  have nn := hn.1
  have tb := hX.tb n
  have rl : ax_rg lv := ⟨by omega, by omega⟩
  have rn : ax_rg n := ⟨by omega, by omega⟩
  have rb : ax_rg b := ⟨by omega, by omega⟩
  have ra : ax_rg a := ⟨by omega, by omega⟩
  have bk : 0 ≤ 351 * lv + a ∧ 351 * lv + a < 3159 := ⟨by omega, by omega⟩
  have ba : 0 ≤ a ∧ a < 351 := ⟨a0, by omega⟩
  have hB := hS.2.2.2.2.1
  have trb : (M0 222 60) ≤ 350 := by
    have hc4 := hB.1.2.2.2.2.1
    have hat := hS.2.2.2.2.2.2.2
    omega
  have sa : h_sa M0 n a = g_ll M0 n 26 + g_ca M0 n a.toNat := rfl
  have ca := (hX.a5 hn a0 a1 an).2
  have c2 := (g_ca_b M0 n a.toNat).1
  have v3 := hJ.2.2.1 a a0 a1 an ch
  refine r_Model_leave hg rl rn rb ra ⟨bk, ?_⟩
  rw [v3]
  have rst : ax_rg (R [] 3 a) := by rw [← v3]; exact hg _ _
  obtain ⟨u, ue⟩ : ∃ u : Int → Prop, ∀ v, u v ↔ (s v ∨ ∃ m, (0 ≤ m ∧ m < (M0 222 60)) ∧ (M0 271 m = a ∧ M0 273 m = 0 ∧ M0 272 m = R [] 3 a) ∧ M0 276 m ≤ v ∧ v ≤ M0 277 m) := ⟨_, fun _ => Iff.rfl⟩
  have te' : ∀ v, t v ↔ (u v ∨ v = 5120 + a) := fun v => by rw [te, ue]
  have unew : ¬ u (5120 + a) := fun z => by
    rcases (ue _).mp z with y | ⟨m, mb, -, y⟩
    · exact new y
    · have fx := (hB.2.2.2.2.1 m mb.1 mb.2).2.2.2.2.2.2.2.1
      omega
  refine s_firstOf (d := d) hX hn hk ht hlv hb hV hg hfo hR hm hJ a0 a1 an (Or.inl rfl) rst (by rw [if_pos rfl]) cL ue (fun r W jW fW kW hr => ⟨ba, ?_⟩)
  have nx := (hR.2.2.2.1 a a0 a1 an).2.at hr
  have gW := fW.1.2.2.1
  have rW := fW.rm hV
  have e270 := rW.aslot hX hn a0 a1 an
  rw [e270]
  have bs : 0 ≤ b + h_sa M0 n a ∧ b + h_sa M0 n a < 600 := ⟨by omega, by omega⟩
  have udone : ∀ e q, 0 ≤ e → e < (M0 222 44) → M0 263 e = a → M0 261 e ≤ q → q ≤ M0 262 e → (M0 241 q = 6 ∧ u (3072 + q)) ∨ (¬ M0 241 q = 6 ∧ u q) := fun e q e0 e1 ee ea eb => by
    rcases done e q e0 e1 ee ea eb with y | y
    · exact Or.inl ⟨y.1, (ue _).mpr (Or.inl y.2)⟩
    · exact Or.inr ⟨y.1, (ue _).mpr (Or.inl y.2)⟩
  have fin : ∀ Y : ax_V, g_fr [292] W Y → ax_g Y → h_MF C0 M0 U n b lv W Y → Y 292 (b + h_sa M0 n a) = R [] 6 (h_sa M0 n a) → (((∀ x, ¬ x = b + h_sa M0 n a → Y 292 x = W 292 x) ∧ ∀ z, ¬ h_rn M0 (R []) a 0 (R [] 3 a) z) ∨ ∃ z, (∀ y, h_rn M0 (R []) a 0 (R [] 3 a) y ↔ y = z) ∧ (∀ q i, h_PS M0 a z q → 0 ≤ i → i < g_vl C0 M0 U q → Y 292 (b + (g_sp C0 M0 U n q.toNat + i)) = h_vf C0 M0 Im q i) ∧ ∀ x, ¬ x = b + h_sa M0 n a → (∀ q i, h_PS M0 a z q → 0 ≤ i → i < g_vl C0 M0 U q → ¬ x = b + (g_sp C0 M0 U n q.toNat + i)) → Y 292 x = W 292 x) → Ψ Y := fun Y fY gY mfY sY rnY =>
    next Y (jW.left hX hn hR te' a0 a1 an unew udone (fY 291 (by decide)) (fY 296 (by decide)) (fY 222 (by decide)) ⟨fY 293 (by decide), fY 294 (by decide), fY 295 (by decide)⟩ (fY 298 (by decide)) sY rnY) (fW.tr mfY) (kW.tr ⟨fun x _ => by rw [fY 293 (by decide), fY 294 (by decide), fY 295 (by decide)]; exact ⟨rfl, rfl, rfl⟩, fun x _ => by rw [fY 297 (by decide), fY 298 (by decide)]; exact ⟨rfl, rfl⟩⟩)
  have one : ∀ (v : Int) (Y : ax_V), ax_rg v → Y = ax_u W 292 (b + h_sa M0 n a) v → g_fr [292] W Y ∧ ax_g Y ∧ h_MF C0 M0 U n b lv W Y := fun v Y rv eY => by
    have fY : g_fr [292] W Y := by rw [eY]; exact (g_fr.rf _ _).u (by decide)
    refine ⟨fY, by rw [eY]; exact ax_u_g gW rv, ⟨fY.up (by simp), fun j _ => by rw [fY 222 (by decide)], by rw [eY]; exact ax_u_g gW rv, by unfold h_fo; rw [fY 222 (by decide)]; exact fW.1.2.2.2⟩, fun i hi => ⟨by rw [fY 291 (by decide)], by rw [eY]; exact ax_u_k (by omega)⟩, fun x _ => by rw [fY 293 (by decide), fY 294 (by decide), fY 295 (by decide)]; exact ⟨rfl, rfl, rfl⟩, fun x _ => by rw [fY 296 (by decide)], fun x _ => by rw [fY 297 (by decide), fY 298 (by decide)]; exact ⟨rfl, rfl⟩⟩
  refine ⟨fun r1 => ⟨bs, fun V4 e4 => ⟨fun _ => ?_, fun z => absurd r1 z⟩⟩, fun r1 => ?_⟩
  · obtain ⟨o1, o2, o3⟩ := one _ V4 rst e4
    refine fin V4 o1 o2 o3 ?_ (Or.inl ⟨fun x hx => by rw [e4, ax_u_k hx], fun z w => ?_⟩)
    · rw [e4, ax_u_s]
      rcases nx.1 with y | y
      · exact y.2.symm
      · omega
    · have := ((nx.2 z).mp w).1; omega
  · have r0 : 0 ≤ r := by
      rcases hr with y | y
      · exact absurd y.1 r1
      · exact y.1
    have rt : r < (M0 222 60) := by
      rcases hr with y | y
      · exact absurd y.1 r1
      · exact y.2.1.2
    have rto : R [] 6 (h_sa M0 n a) = M0 275 r := by
      rcases nx.1 with y | y
      · exact absurd y.1 r1
      · exact y.2
    have br : 0 ≤ r ∧ r < 351 := ⟨r0, by omega⟩
    rw [rW.1 275 (by decide) (by decide) (by decide)]
    refine ⟨br, bs, fun V2 e2 => ⟨fun z => absurd z r1, fun _ => ⟨br, ?_⟩⟩⟩
    obtain ⟨o1, o2, o3⟩ := one _ V2 (hS.1.2 _ _) e2
    rw [o1 274 (by decide), rW.1 274 (by decide) (by decide) (by decide), o1 275 (by decide), rW.1 275 (by decide) (by decide) (by decide)]
    have s2 : V2 292 (b + h_sa M0 n a) = R [] 6 (h_sa M0 n a) := by rw [e2, ax_u_s, rto]
    refine ⟨fun nw => fin V2 o1 o2 o3 s2 (Or.inl ⟨fun x hx => by rw [e2, ax_u_k hx], fun z w => ((nx.2 z).mp w).2.1 nw⟩), fun nw => ⟨br, ?_⟩⟩
    refine s_renewState (d := d + 10 * k + 3) hX hn (o3.rm rW) o2 hb a0 a1 an (hS.1.2 _ _) (Or.inl rfl) (fun Y hY => ?_)
    have fY : g_fr [292] V2 Y := fun c z => by
      by_cases y : c = 291
      · rw [y]; exact hY.1.2.2 rfl
      · exact hY.1.1 c (by simp at z ⊢; exact ⟨y, z⟩)
    refine fin Y (o1.tr fY) hY.1.2.1 (o3.tr (hY.mf hX hn a0 an o3.1.2.2.2)) ?_ (Or.inr ⟨M0 275 r, fun y => ?_, fun q i hq i0 i1 => (hY.2.1 q i hq i0 i1).1, fun x hx hy => ?_⟩)
    · rw [(hY.2.2 _ (fun q i hq i0 i1 => ?_)).1]
      · exact s2
      · have qq := h_PS.node hS a0 an hq
        have sp := hX.sp hn qq.1.1 qq.1.2 qq.2
        omega
    · rw [nx.2 y]
      exact ⟨fun w => w.2.2.symm, fun w => ⟨r0, nw, w.symm⟩⟩
    · rw [(hY.2.2 x hy).1, e2, ax_u_k hx]
end ModelH
