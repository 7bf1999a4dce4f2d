/-! THE MODEL'S TICK: whole -/
section ModelL
variable {d : Nat} {C0 M0 P V V0 V1 W X X' : ax_V} {F G Hh S U J Im : Int → Int} {n q e a b c lv f g m l fl x st z : Int} {k : Nat} {s t u s' : Int → Prop} {R : h_R} {Φ : Int → ax_V → Prop} {Ψ Θ : ax_V → Prop}
set_option maxHeartbeats 1000000 in
/-- all automata are chosen -/
theorem s_tick1 (hX : h_X C0 M0 P F G Hh S U J Im) (hn : h_N M0 U J n) (hk : n < ((k + 1 : Nat) : Int)) (ht : h_tick C0 M0 U J F S Im k) (hlv : 0 ≤ lv ∧ lv + n ≤ 7) (hb : 0 ≤ b ∧ b + g_T C0 M0 U n ≤ 600) (hV : h_RM C0 M0 S U J Im V0) (hR : h_TK C0 M0 U S Im (k + 1) n R) (hm : h_MS C0 M0 U F (k + 1) n (R [] 5)) (hJ : h_J C0 M0 U F S k n b lv V0 X s R) (hF : h_MF C0 M0 U n b lv V0 X) (hD : h_D C0 M0 n lv X s R) (dn : ∀ y, 0 ≤ y → y < 26 → ¬ M0 232 (26 * n + y) = 0 → ¬ X 295 (26 * lv + y) = 0)
    (next : ∀ W, h_MF C0 M0 U n b lv V0 W → h_MX C0 M0 U F (k + 1) n b lv V0 W R → Ψ W) : ∀ y5, ax_y y5 → k_Model_tickNode_141 (d + 10 * k + 7) lv n b 0 y5 X Ψ Θ := by
  have hS := hX.hS
  have sm := hS.small
  have hN := hS.2.1
  have nn := hn.1
  have tb := hX.tb n
  have rl : ax_rg lv := ⟨by omega, by omega⟩
  have rn : ax_rg n := ⟨by omega, by omega⟩
  have rb : ax_rg b := ⟨by omega, by omega⟩
  -- every equation that holds has been done
  have eds : ∀ e, 0 ≤ e → e < (M0 222 44) → M0 258 e = n → h_eh M0 (R []) e → s (1024 + e) := fun e e0 e1 en eh => by
    obtain ⟨cb, o0, lb⟩ := hX.ecb e0 e1
    have lf := (lb _ o0).1
    have ol := hS.ofl o0
    have hd := (hX.ok.head hS ol.1 ol.2).1
    rw [hS.eoe o0, en] at hd
    rcases hD.2.1 _ lf.1 lf.2 (dn _ lf.1 lf.2 (by omega)) with y | ⟨e', i', y1, y2, y3⟩
    · omega
    · have c := hD.1 e' y2.1.1 y2.1.2 y1
      have ee : e' = e := hX.one (r := R []) y2 o0 (c.1.1.trans en.symm) y3 c.1.2 eh
      rw [← ee]; exact y1
  refine ax_for (I := fun a Y => (0 ≤ a ∧ a ≤ (M0 222 55)) ∧ ∃ t, h_J C0 M0 U F S k n b lv V0 Y t R ∧ h_MF C0 M0 U n b lv V0 Y ∧ h_D C0 M0 n lv Y t R ∧ (∀ y, 0 ≤ y → y < 26 → ¬ M0 232 (26 * n + y) = 0 → ¬ Y 295 (26 * lv + y) = 0) ∧ (∀ v, s v → t v) ∧ ∀ a', 0 ≤ a' → a' < a → M0 267 a' = n → t (2048 + a')) (K := fun a Y => ∀ y5, ax_y y5 → k_Model_tickNode_141 (d + 10 * k + 7) lv n b a y5 Y Ψ Θ) (hi := (M0 222 55)) (fun a Y w hI nx y5 hy5 => ?_) (fun a Y w hI y5 hy5 => ?_) 0 X ⟨⟨Int.le_refl _, by omega⟩, s, hJ, hF, hD, dn, fun _ z => z, fun a' a0 a1 => by omega⟩
  · obtain ⟨ab, t, jY, fY, dY, dnY, up, i1⟩ := hI
    have rY := fY.rm hV
    have gY := fY.1.2.2.1
    have ba : 0 ≤ a ∧ a < 351 := ⟨by omega, by omega⟩
    refine r_Model_tickNode_141 gY rl rn rb ⟨by omega, by omega⟩ hy5 ?_
    rw [rY.2.1.2.2.1, rY.1 267 (by decide) (by decide) (by decide)]
    refine ⟨fun z => by omega, fun _ => ⟨ba, fun an => ?_, fun an => nx Y ⟨⟨by omega, by omega⟩, t, jY, fY, dY, dnY, up, fun a' a0 a1 an' => ?_⟩ y5 hy5⟩⟩
    · refine ax_N_d (D' := d + 1 + 10 * k + 6) (by omega) ?_
      refine s_choose (d := d + 1) hX hn hk ht hlv hb rY gY fY.1.2.2.2 hR hm jY ab.1 w an (dY.2.2.2.1 a ab.1 w an) dY.2.2.2.2.1 (fun _ m q m0 m1 ta tx qa qb o => ?_) (fun W u jW fW lW o7 n7 up' ua dwn str => nx W ⟨⟨by omega, by omega⟩, u, jW, fY.tr fW, dY.cho hX ab.1 w up' ua dwn str (fun y y0 y1 => (lW _ (by omega)).2.2) o7 n7, fun y y0 y1 k0 => by rw [(lW _ (by omega)).2.2]; exact dnY y y0 y1 k0, fun v z => up' v (up v z), fun a' a0 a1 an' => ?_⟩ y5 hy5)
      · have ft := (hS.2.2.2.2.1.2.2.2.2.1 m m0 m1).2.2.2.2.2.2.2
        have f1 := ft.1
        have fq := ft.2.2 q qa qb
        have kk := hX.kd (n := n) (q := q) (by omega) (by omega) (by rw [fq.1.1, ta]; exact an) o
        exact dnY _ kk.1.1 kk.1.2 kk.2
      · by_cases y : a' = a
        · rw [y]; exact ua
        · exact up' _ (i1 a' a0 (by omega) an')
    · have y : ¬ a' = a := fun y => an (by rw [← y]; exact an')
      exact i1 a' a0 (by omega) an'
  · obtain ⟨ab, t, jY, fY, dY, dnY, up, i1⟩ := hI
    have rY := fY.rm hV
    refine r_Model_tickNode_141 fY.1.2.2.1 rl rn rb ⟨by omega, by omega⟩ hy5 ?_
    rw [rY.2.1.2.2.1]
    refine ⟨fun _ => ?_, fun z => by omega⟩
    have chs : ∀ a', 0 ≤ a' → a' < (M0 222 55) → M0 267 a' = n → t (2048 + a') := fun a' a0 a1 an => i1 a' a0 (by omega) an
    exact s_tick2 (d := d) hX hn hk ht hlv hb hV hR hm ⟨jY, fY, dnY, chs, fun a' m q a0 a1 an m0 m1 ta tx ts qa qb => dY.2.2.2.2.2.2 a' m q a0 a1 an (chs a' a0 a1 an) m0 m1 ta tx ts qa qb⟩ dY.2.2.2.2.1 (fun e q e0 e1 en eh ea eb lt => (dY.1 e e0 e1 (up _ (eds e e0 e1 en eh))).2.1 q ea eb lt) (fun e q e0 e1 ea eb z o => (dY.2.2.1 e q e0 e1 ea eb z o).2) next y5 hy5
set_option maxHeartbeats 1000000 in
/-- the letters, in their order -/
theorem s_tick0 (hX : h_X C0 M0 P F G Hh S U J Im) (hn : h_N M0 U J n) (hk : n < ((k + 1 : Nat) : Int)) (ht : h_tick C0 M0 U J F S Im k) (hlv : 0 ≤ lv ∧ lv + n ≤ 7) (hb : 0 ≤ b ∧ b + g_T C0 M0 U n ≤ 600) (hV : h_RM C0 M0 S U J Im V0) (hR : h_TK C0 M0 U S Im (k + 1) n R) (hm : h_MS C0 M0 U F (k + 1) n (R [] 5)) (hJ : h_J C0 M0 U F S k n b lv V0 X s R) (hF : h_MF C0 M0 U n b lv V0 X) (hD : h_D C0 M0 n lv X s R)
    (next : ∀ W, h_MF C0 M0 U n b lv V0 W → h_MX C0 M0 U F (k + 1) n b lv V0 W R → Ψ W) : ∀ y5, ax_y y5 → k_Model_tickNode_102 (d + 10 * k + 7) lv n b 0 y5 X Ψ Θ := by
  have hS := hX.hS
  have sm := hS.small
  have hN := hS.2.1
  have nn := hn.1
  have tb := hX.tb n
  have rl : ax_rg lv := ⟨by omega, by omega⟩
  have rn : ax_rg n := ⟨by omega, by omega⟩
  have rb : ax_rg b := ⟨by omega, by omega⟩
  have OD := hV.2.2.2.2.2.2.1 n nn.1 nn.2
  have bn : 0 ≤ n ∧ n < 9 := ⟨by omega, by omega⟩
  have ob := OD.1
  refine ax_for (I := fun i Y => (0 ≤ i ∧ i ≤ V0 284 n) ∧ ∃ t, h_J C0 M0 U F S k n b lv V0 Y t R ∧ h_MF C0 M0 U n b lv V0 Y ∧ h_D C0 M0 n lv Y t R ∧ ∀ j, 0 ≤ j → j < i → ¬ Y 295 (26 * lv + V0 285 (26 * n + j)) = 0) (K := fun i Y => ∀ y5, ax_y y5 → k_Model_tickNode_102 (d + 10 * k + 7) lv n b i y5 Y Ψ Θ) (hi := V0 284 n) (fun i Y w hI nx y5 hy5 => ?_) (fun i Y w hI y5 hy5 => ?_) 0 X ⟨⟨Int.le_refl _, ob.1⟩, s, hJ, hF, hD, fun j a b => by omega⟩
  · obtain ⟨ib, t, jY, fY, dY, dnY⟩ := hI
    have rY := fY.rm hV
    have gY := fY.1.2.2.1
    have ol := OD.2.1 i ib.1 w
    refine r_Model_tickNode_102 gY rl rn rb ⟨by omega, by omega⟩ hy5 ⟨bn, ?_⟩
    rw [fY.1.1 284 (by decide), fY.1.1 285 (by decide)]
    refine ⟨fun z => by omega, fun _ => ⟨⟨by omega, by omega⟩, ?_⟩⟩
    -- what is ready
    obtain ⟨s', se⟩ : ∃ s' : Int → Prop, ∀ v, s' v ↔ ((∃ e, v = 1024 + e ∧ (0 ≤ e ∧ e < (M0 222 44)) ∧ M0 258 e = n ∧ ∃ i', g_of M0 e i' ∧ ∃ j, (0 ≤ j ∧ j < i) ∧ V0 285 (26 * n + j) = M0 265 i') ∨ 2048 ≤ v) := ⟨_, fun _ => Iff.rfl⟩
    have rdp : ∀ j, 0 ≤ j → j < i → g_rd M0 s' n (V0 285 (26 * n + j)) := fun j j0 j1 => Or.inr ⟨(OD.2.1 j j0 (by omega)).2.1, fun e i' o en l => (se _).mpr (Or.inl ⟨e, rfl, o.1, en, i', o, j, ⟨j0, j1⟩, l.symm⟩)⟩
    have need : ∀ j y, 0 ≤ j → j ≤ i → 0 ≤ y → y < 26 → g_h0 C0 M0 n (V0 285 (26 * n + j)) y → g_rd M0 s' n y := fun j y j0 j1 y0 y1 h0 => by
      have hg := hX.ok.hang hS nn.1 nn.2 (by omega) h0
      rcases (OD.2.1 j j0 (by omega)).2.2 y y0 y1 h0 with z | ⟨j', j2, j3⟩
      · exact absurd z hg.2
      · rw [← j3]; exact rdp j' j2.1 (by omega)
    have eau : ∀ e, 0 ≤ e → e < (M0 222 44) → ¬ M0 263 e = -1 → s' (2048 + M0 263 e) := fun e e0 e1 au => (se _).mpr (Or.inr (by
      rcases hS.st e0 e1 with y | y
      · exact absurd y.2.1 au
      · have := y.2.1.1; omega))
    have cl : ∀ e, 0 ≤ e → e < (M0 222 44) → s' (1024 + e) → g_eb C0 M0 s' n e := fun e e0 e1 z => by
      rcases (se _).mp z with ⟨e', ev, eb, en, i', o, j, jb, ej⟩ | y
      · have ee : e' = e := by omega
        rw [ee] at en o
        exact ⟨fun y y0 y1 gen => need j y jb.1 (by omega) y0 y1 ⟨e, i', o, en, ej.symm, Or.inl gen⟩, eau e e0 e1⟩
      · omega
    have rdy : ∀ y, 0 ≤ y → y < 26 → g_rd M0 s' n y → ¬ Y 295 (26 * lv + y) = 0 := fun y y0 y1 rd => by
      rcases rd with z | ⟨k0, z⟩
      · exact dY.2.2.2.2.2.1 y y0 y1 z
      · by_cases k1 : M0 232 (26 * n + y) = 1
        · exact dY.2.2.2.2.2.1 y y0 y1 k1
        · obtain ⟨e, i2, o2, en, l2, eh⟩ := hS.act hX.ok nn.1 nn.2 (R := R) (fun a a0 a1 an => (hX.st hR hm a a0 a1 an).2.1) y0 y1 k0 k1
          rcases (se _).mp (z e i2 o2 en l2) with ⟨e', ev, eb, en', i', o, j, jb, ej⟩ | r
          · have ee : e' = e := by omega
            rw [ee] at o
            have lj := OD.2.1 j jb.1 (by omega)
            have il := hS.ofl o
            have hd := (hX.ok.head hS il.1 il.2).1
            rw [hS.eoe o, en, ← ej] at hd
            rcases dY.2.1 _ lj.1.1 lj.1.2 (dnY j jb.1 jb.2) with r | ⟨e3, i3, r1, r2, r3⟩
            · omega
            · have c := dY.1 e3 r2.1.1 r2.1.2 r1
              have e3e : e3 = e := hX.one (r := R []) r2 o (c.1.1.trans en.symm) (r3.trans ej) c.1.2 eh
              rw [e3e] at c
              have := c.2.2 i2 o2
              rw [l2] at this
              exact this
          · have := o2.1; omega
    refine s_doLetter (d := d) hX hn hk ht hlv hb rY gY fY.1.2.2.2 hR hm jY dY ol.1.1 ol.1.2 ol.2.1 cl rdy (fun e i' o en l => ⟨⟨fun y y0 y1 gen => need i y ib.1 (Int.le_refl _) y0 y1 ⟨e, i', o, en, l, Or.inl gen⟩, eau e o.1.1 o.1.2⟩, fun au y y0 y1 gnd => need i y ib.1 (Int.le_refl _) y0 y1 ⟨e, i', o, en, l, Or.inr ⟨au, gnd⟩⟩⟩) (fun W t' jW dW fW mo dnl => nx W ⟨⟨by omega, by omega⟩, t', jW, fY.tr fW, dW, fun j j0 j1 => ?_⟩ y5 hy5)
    by_cases y : j = i
    · rw [y]; exact dnl
    · have lj := OD.2.1 j j0 (by omega)
      exact mo _ lj.1.1 lj.1.2 (dnY j j0 (by omega))
  · obtain ⟨ib, t, jY, fY, dY, dnY⟩ := hI
    have rY := fY.rm hV
    refine r_Model_tickNode_102 fY.1.2.2.1 rl rn rb ⟨by omega, by omega⟩ hy5 ⟨bn, ?_⟩
    rw [fY.1.1 284 (by decide)]
    refine ⟨fun _ => s_tick1 (d := d) hX hn hk ht hlv hb hV hR hm jY fY dY (fun y y0 y1 k0 => ?_) next y5 hy5, fun z => by omega⟩
    have no := hS.acyc hX.n6 nn.1 nn.2 (fun y => (0 ≤ y ∧ y < 26) ∧ ¬ M0 232 (26 * n + y) = 0 ∧ ¬ g_ord V0 n y) (fun y ny => ?_) y
    · by_cases od : g_ord V0 n y
      · obtain ⟨j, jb, ej⟩ := od
        rw [← ej]; exact dnY j jb.1 (by omega)
      · exact absurd ⟨⟨y0, y1⟩, k0, od⟩ no
    · refine ⟨ny.1, ny.2.1, ?_⟩
      rcases OD.2.2 y ny.1.1 ny.1.2 ny.2.1 with z | ⟨z, zb, h0, zk, zo⟩
      · exact absurd z ny.2.2
      · exact ⟨z, ⟨zb, zk, zo⟩, h0⟩
set_option maxHeartbeats 2000000 in
/-- A TICK OF THE MODEL -/
theorem s_tick (hX : h_X C0 M0 P F G Hh S U J Im) : ∀ k : Nat, h_tick C0 M0 U J F S Im k := by
  intro k
  induction k with
  | zero => intro d lv n b V R Ψ Θ hn hk; have := hn.1.1; omega
  | succ k ih =>
    intro d lv n b V R Ψ Θ hn hk lv0 lvn hb hV hg hfo hR hE next
    have hS := hX.hS
    have sm := hS.small
    have hN := hS.2.1
    have nn := hn.1
    have tb := hX.tb n
    have hlv : 0 ≤ lv ∧ lv + n ≤ 7 := ⟨lv0, lvn⟩
    have rl : ax_rg lv := ⟨by omega, by omega⟩
    have rn : ax_rg n := ⟨by omega, by omega⟩
    have rb : ax_rg b := ⟨by omega, by omega⟩
    have hm := hE.2.1
    have dd : d + 10 * (k + 1) + 1 = (d + 3 + 10 * k + 7) + 1 := by omega
    rw [dd]
    refine r_Model_tickNode hg rl rn rb ?_
    -- letters begin
    refine ax_for (I := fun l X => (0 ≤ l ∧ l ≤ 26) ∧ g_fr [294, 295] V X ∧ ax_g X ∧ (∀ x, ¬ (26 * lv ≤ x ∧ x < 26 * lv + l) → X 294 x = V 294 x ∧ X 295 x = V 295 x) ∧ ∀ y, 0 ≤ y → y < l → (M0 232 (26 * n + y) = 1 → X 294 (26 * lv + y) = 1 ∧ X 295 (26 * lv + y) = 1) ∧ (¬ M0 232 (26 * n + y) = 1 → X 294 (26 * lv + y) = 0 ∧ X 295 (26 * lv + y) = 0)) (K := fun l X => ∀ y5, ax_y y5 → k_Model_tickNode_3 (d + 3 + 10 * k + 7) lv n b l y5 X Ψ Θ) (hi := 26) (fun l X w hI nx y5 hy5 => ?_) (fun l X w hI y5 hy5 => ?_) 0 V ⟨⟨Int.le_refl _, by decide⟩, fun _ _ => rfl, hg, fun _ _ => ⟨rfl, rfl⟩, fun y a b => by omega⟩ none ax_y_n
    · obtain ⟨lb, fX, gX, oX, iX⟩ := hI
      have b2 : 0 ≤ 26 * n + l ∧ 26 * n + l < 240 := ⟨by omega, by omega⟩
      have b1 : 0 ≤ 26 * lv + l ∧ 26 * lv + l < 240 := ⟨by omega, by omega⟩
      refine r_Model_tickNode_3 gX rl rn rb ⟨by omega, by omega⟩ hy5 ⟨fun z => by omega, fun _ => ⟨b2, ?_⟩⟩
      rw [fX 232 (by decide), hV.1 232 (by decide) (by decide) (by decide)]
      have go : ∀ (v : Int) (X4 : ax_V) (y5' : Option Value), ax_y y5' → (v = 0 ∨ v = 1) → (M0 232 (26 * n + l) = 1 ↔ v = 1) → X4 = ax_u (ax_u X 295 (26 * lv + l) v) 294 (26 * lv + l) v → k_Model_tickNode_3 (d + 3 + 10 * k + 7) lv n b (l + 1) y5' X4 Ψ Θ := fun v X4 y5' h5 hv kv e4 => by
        refine nx X4 ⟨⟨by omega, by omega⟩, by rw [e4]; exact (fX.u (by decide)).u (by decide), by rw [e4]; exact ax_u_g (ax_u_g gX ⟨by omega, by omega⟩) ⟨by omega, by omega⟩, fun x hx => ?_, fun y y0 y1 => ?_⟩ y5' h5
        · rw [e4, ax_u_k (by omega), ax_u_ne (by decide), ax_u_ne (by decide), ax_u_k (by omega)]
          exact oX x (by omega)
        · by_cases yl : y = l
          · rw [yl, e4, ax_u_s, ax_u_ne (by decide), ax_u_s, kv]
            exact ⟨fun z => ⟨z, z⟩, fun z => ⟨by omega, by omega⟩⟩
          · rw [e4, ax_u_k (by omega), ax_u_ne (by decide), ax_u_ne (by decide), ax_u_k (by omega)]
            exact iX y y0 (by omega)
      refine ⟨fun kd => ⟨b1, fun X3 e3 => ⟨b1, fun X4 e4 => go 1 X4 _ (ax_y_i _) (Or.inr rfl) ⟨fun _ => rfl, fun _ => kd⟩ (by rw [e4, e3])⟩⟩, fun kd => ⟨b1, fun X3 e3 => ⟨b1, fun X4 e4 => go 0 X4 _ (ax_y_i _) (Or.inl rfl) ⟨fun z => absurd z kd, fun z => absurd z (by decide)⟩ (by rw [e4, e3])⟩⟩⟩
    · obtain ⟨lb, fX, gX, oX, iX⟩ := hI
      have el : l = 26 := by omega
      rw [el] at oX iX
      refine r_Model_tickNode_3 gX rl rn rb ⟨by omega, by omega⟩ hy5 ⟨fun _ => ?_, fun z => by omega⟩
      -- nothing is chosen
      refine ax_for (I := fun a Y => (0 ≤ a ∧ a ≤ (M0 222 55)) ∧ g_fr [297] X Y ∧ ax_g Y ∧ (∀ x, ¬ (351 * lv ≤ x ∧ x < 351 * lv + a) → Y 297 x = X 297 x) ∧ ∀ a', 0 ≤ a' → a' < a → Y 297 (351 * lv + a') = 0) (K := fun a Y => ∀ y5, ax_y y5 → k_Model_tickNode_70 (d + 3 + 10 * k + 7) lv n b a y5 Y Ψ Θ) (hi := (M0 222 55)) (fun a Y w2 hI nx y5 hy5 => ?_) (fun a Y w2 hI y5 hy5 => ?_) 0 X ⟨⟨Int.le_refl _, by omega⟩, fun _ _ => rfl, gX, fun _ _ => rfl, fun a' a b => by omega⟩ y5 hy5
      · obtain ⟨ab, fY, gY, oY, iY⟩ := hI
        refine r_Model_tickNode_70 gY rl rn rb ⟨by omega, by omega⟩ hy5 ?_
        rw [fY 222 (by decide), fX 222 (by decide), hV.2.1.2.2.1]
        refine ⟨fun z => by omega, fun _ => ⟨⟨by omega, by omega⟩, fun Y1 e1 => nx Y1 ⟨⟨by omega, by omega⟩, by rw [e1]; exact fY.u (by decide), by rw [e1]; exact ax_u_g gY (by decide), fun x hx => by rw [e1, ax_u_k (by omega)]; exact oY x (by omega), fun a' a0 a1 => ?_⟩ y5 hy5⟩⟩
        by_cases y : a' = a
        · rw [y, e1, ax_u_s]
        · rw [e1, ax_u_k (by omega)]; exact iY a' a0 (by omega)
      · obtain ⟨ab, fY, gY, oY, iY⟩ := hI
        refine r_Model_tickNode_70 gY rl rn rb ⟨by omega, by omega⟩ hy5 ?_
        rw [fY 222 (by decide), fX 222 (by decide), hV.2.1.2.2.1]
        refine ⟨fun _ => ?_, fun z => by omega⟩
        have ea : a = (M0 222 55) := by omega
        rw [ea] at oY iY
        have c : ∀ c, ¬ c = 294 → ¬ c = 295 → ¬ c = 297 → Y c = V c := fun c z1 z2 z3 => by rw [fY c (by simp; exact z3), fX c (by simp; exact ⟨z1, z2⟩)]
        have y4 : Y 294 = X 294 := fY 294 (by decide)
        have y5' : Y 295 = X 295 := fY 295 (by decide)
        obtain ⟨s, se⟩ : ∃ s : Int → Prop, ∀ v, ¬ s v := ⟨fun _ => False, fun _ z => z⟩
        have mf : h_MF C0 M0 U n b lv V Y := ⟨⟨fun c' z => by
            simp only [List.mem_cons, List.not_mem_nil, or_false, not_or] at z
            exact c c' z.2.2.2.2.1 z.2.2.2.2.2.1 z.2.2.2.2.2.2.2.1, fun j _ => by rw [c 222 (by decide) (by decide) (by decide)], gY, by unfold h_fo; rw [c 222 (by decide) (by decide) (by decide)]; exact hfo⟩, fun i _ => by rw [c 291 (by decide) (by decide) (by decide), c 292 (by decide) (by decide) (by decide)]; exact ⟨rfl, rfl⟩, fun x z => by rw [c 293 (by decide) (by decide) (by decide), y4, y5', (oX x (by omega)).1, (oX x (by omega)).2]; exact ⟨rfl, rfl, rfl⟩, fun x _ => by rw [c 296 (by decide) (by decide) (by decide)], fun x z => by rw [c 298 (by decide) (by decide) (by decide), oY x (by omega), fX 297 (by decide)]; exact ⟨rfl, rfl⟩⟩
        have v1 : Y 291 = V 291 := c 291 (by decide) (by decide) (by decide)
        have v2 : Y 292 = V 292 := c 292 (by decide) (by decide) (by decide)
        have nrn : ∀ e, 0 ≤ e → e < (M0 222 44) → M0 263 e = -1 → ∀ q j, M0 258 e = n → M0 261 e ≤ q → q ≤ M0 262 e → 0 ≤ j → j < g_vl C0 M0 U q → R [] 7 (g_sp C0 M0 U n q.toNat + j) = R [] 5 (g_sp C0 M0 U n q.toNat + j) := fun e e0 e1 au q j en ea' eb' j0 j1 => ((hR.2.2.2.2.2.1 e q j e0 e1 en ea' eb' j0 j1).1 _ rfl).2.1 (h_rn.no hS au)
        have mem : ∀ e q j, 0 ≤ e → e < (M0 222 44) → M0 258 e = n → M0 261 e ≤ q → q ≤ M0 262 e → 0 ≤ j → j < g_vl C0 M0 U q → V 291 (b + (g_sp C0 M0 U n q.toNat + j)) = R [] 5 (g_sp C0 M0 U n q.toNat + j) ∧ V 292 (b + (g_sp C0 M0 U n q.toNat + j)) = R [] 5 (g_sp C0 M0 U n q.toNat + j) := fun e q j e0 e1 en ea' eb' j0 j1 => by
          have qq := hS.eq e0 e1 en ea' eb'
          have sp := hX.sp hn qq.1.1 qq.1.2 qq.2
          exact hE.1 _ (by omega) (by omega)
        have c0 := (g_ca_b M0 n ((M0 222 55)).toNat).1
        have bo : ∀ y, 0 ≤ y → y < 26 → Y 294 (26 * lv + y) = 0 ∨ Y 294 (26 * lv + y) = 1 := fun y y0 y1 => by
          rw [y4]
          by_cases ky : M0 232 (26 * n + y) = 1
          · exact Or.inr ((iX y y0 y1).1 ky).1
          · exact Or.inl ((iX y y0 y1).2 ky).1
        refine s_tick0 (d := d + 3) (s := s) hX hn hk ih hlv hb hV hR hm ⟨fun q _ _ _ z => absurd z (se q), ⟨fun y y0 y1 dy => ?_, bo⟩, fun a' _ _ _ z => absurd z (se _), ⟨fun l' l0 l1 hl => ?_, fun a' a0 a1 an => ?_, fun e q j e0 e1 en ea' eb' j0 j1 _ => ?_⟩, ⟨fun l' l0 l1 hl => ?_, fun a' a0 a1 an => ?_, fun e q j e0 e1 en ea' eb' j0 j1 => ?_⟩, fun t _ => ?_, fun q _ _ _ _ z => absurd z (se q), fun e q _ _ _ _ z => absurd z (se q)⟩ mf ⟨fun e _ _ z => absurd z (se _), fun y y0 y1 dy => ?_, fun e q _ _ _ _ z => absurd z (se q), fun a' a0 a1 an => ?_, fun v _ z => se v z, fun y y0 y1 ky => ?_, fun a' m q _ _ _ z => absurd z (se _)⟩ next y5 hy5
        · rw [y5'] at dy
          have u := iX y y0 y1
          by_cases ky : M0 232 (26 * n + y) = 1
          · obtain ⟨i, i0, i1, ei⟩ := (hS.fl nn.1 nn.2).2.2.2.2.2.2.1 y y0 y1 ky
            have inp := hE.2.2 i i0 i1
            rw [ei] at inp
            refine ⟨by rw [y4, (u.1 ky).1, hR.2.2.1.1 y y0 y1 ky], fun _ => ⟨by rw [c 293 (by decide) (by decide) (by decide)]; exact inp.1, inp.2⟩⟩
          · exact absurd (u.2 ky).2 dy
        · have u2 := (hX.l5 hn l0 l1 hl).2
          rw [v1]; exact (hE.1 _ (by omega) (by omega)).1
        · have u2 := (hX.a5 hn a0 a1 an).2
          have e : h_sa M0 n a' = g_ll M0 n 26 + g_ca M0 n a'.toNat := rfl
          rw [v1]; exact (hE.1 _ (by omega) (by omega)).1
        · have mm := mem e q j e0 e1 en ea' eb' j0 j1
          rw [v1]
          refine ⟨fun z => ?_, fun _ => mm.1⟩
          rcases z with z | z
          · rw [nrn e e0 e1 z q j en ea' eb' j0 j1]; exact mm.1
          · exact absurd z (se _)
        · have u2 := (hX.l5 hn l0 l1 hl).2
          rw [v2]; exact ⟨fun z => absurd z (se _), fun _ => (hE.1 _ (by omega) (by omega)).2⟩
        · have u2 := (hX.a5 hn a0 a1 an).2
          have e : h_sa M0 n a' = g_ll M0 n 26 + g_ca M0 n a'.toNat := rfl
          rw [v2]; exact ⟨fun z => absurd z (se _), fun _ => (hE.1 _ (by omega) (by omega)).2⟩
        · have mm := mem e q j e0 e1 en ea' eb' j0 j1
          rw [v2]
          refine ⟨fun z => absurd z.2 (se _), fun _ z => ?_, fun _ _ z => ?_, fun _ _ _ => mm.2⟩
          · rcases z with z | z
            · exact absurd z.2 (se _)
            · exact absurd z.2 (se _)
          · rcases z with z | z
            · show V 292 _ = R [] 7 _
              rw [nrn e e0 e1 z q j en ea' eb' j0 j1]; exact mm.2
            · exact absurd z (se _)
        · have ef : h_fl Y = h_fl V := by unfold h_fl; rw [c 222 (by decide) (by decide) (by decide)]
          rw [ef]
          refine ⟨fun z => Or.inl z, fun z => ?_⟩
          rcases z with z | ⟨q, _, _, z, _⟩ | ⟨q, _, _, z, _⟩
          · exact z
          · exact absurd z (se _)
          · exact absurd z (se _)
        · rw [y5'] at dy
          by_cases ky : M0 232 (26 * n + y) = 1
          · exact Or.inl ky
          · exact absurd ((iX y y0 y1).2 ky).2 dy
        · rw [iY a' a0 a1]
          exact ⟨fun z => absurd rfl z, fun z => absurd z (se _)⟩
        · rw [y5', ((iX y y0 y1).1 ky).2]; decide
end ModelL
