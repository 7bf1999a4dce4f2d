/-! THE MODEL'S TICK: from the choices on -/
/-- behind the letters -/
def h_B (C M : ax_V) (U F S : Int → Int) (k : Nat) (n b lv : Int) (V0 X : ax_V) (s : Int → Prop) (R : h_R) : Prop := h_J C M U F S k n b lv V0 X s R ∧ h_MF C M U n b lv V0 X ∧ (∀ y, 0 ≤ y → y < 26 → ¬ M 232 (26 * n + y) = 0 → ¬ X 295 (26 * lv + y) = 0) ∧ (∀ a, 0 ≤ a → a < (M 222 55) → M 267 a = n → s (2048 + a)) ∧ ∀ a m q, 0 ≤ a → a < (M 222 55) → M 267 a = n → 0 ≤ m → m < (M 222 60) → M 271 m = a → M 273 m = 1 → M 272 m = R [] 5 (h_sa M n a) → M 276 m ≤ q → q ≤ M 277 m → s q
section ModelK
variable {d : Nat} {C0 M0 P V V0 V1 W X X' : ax_V} {F G Hh S U J Im : Int → Int} {n q e a b c lv f g m l fl x st z : Int} {k : Nat} {s t u s' : Int → Prop} {R : h_R} {Φ : Int → ax_V → Prop} {Ψ Θ : ax_V → Prop}
theorem h_B.to (h : h_B C0 M0 U F S k n b lv V0 X s R) (j : h_J C0 M0 U F S k n b lv V0 W t R) (f : h_MF C0 M0 U n b lv X W) (e5 : ∀ y, 0 ≤ y → y < 26 → W 295 (26 * lv + y) = X 295 (26 * lv + y)) (up : ∀ v, s v → t v) : h_B C0 M0 U F S k n b lv V0 W t R := ⟨j, h.2.1.tr f, fun y y0 y1 k0 => by rw [e5 y y0 y1]; exact h.2.2.1 y y0 y1 k0, fun a a0 a1 an => up _ (h.2.2.2.1 a a0 a1 an), fun a m q a0 a1 an m0 m1 ta tx ts qa qb => up _ (h.2.2.2.2 a m q a0 a1 an m0 m1 ta tx ts qa qb)⟩
/-- letters that a part of the node looks at are there -/
theorem h_X.kd (hX : h_X C0 M0 P F G Hh S U J Im) (q0 : 0 ≤ q) (q1 : q < (M0 222 26)) (qn : M0 250 q = n) (o : M0 241 q = 2 ∨ M0 241 q = 20 ∨ M0 241 q = 21 ∨ (M0 241 q = 22 ∧ ¬ M0 248 q = -1)) : (0 ≤ M0 248 q ∧ M0 248 q < 26) ∧ ¬ M0 232 (26 * n + M0 248 q) = 0 := by
  refine ⟨hX.hS.pl q0 q1 (by omega), ?_⟩
  by_cases o2 : M0 241 q = 2
  · have u := hX.ok.told hX.hS q0 q1 (Or.inl o2)
    rw [qn] at u; exact u
  · have u := hX.ok.truth hX.hS q0 q1 (by omega)
    rw [qn] at u
    exact fun y => u (Or.inl y)
theorem h_fin (hX : h_X C0 M0 P F G Hh S U J Im) (hn : h_N M0 U J n) (hR : h_TK C0 M0 U S Im (k + 1) n R) (hm : h_MS C0 M0 U F (k + 1) n (R [] 5)) (hB : h_B C0 M0 U F S k n b lv V0 X s R) (aq : ∀ e q, 0 ≤ e → e < (M0 222 44) → M0 258 e = n → M0 261 e ≤ q → q ≤ M0 262 e → s q) (kp : ∀ q, 0 ≤ q → q < (M0 222 26) → M0 250 q = n → M0 241 q = 6 → s (3072 + q)) (ls : ∀ l, 0 ≤ l → l < 26 → ¬ M0 236 (26 * n + l) = 0 → s (4096 + 26 * n + l)) (lv5 : ∀ a, 0 ≤ a → a < (M0 222 55) → M0 267 a = n → s (5120 + a) ∧ ∀ m q, 0 ≤ m → m < (M0 222 60) → M0 271 m = a → M0 273 m = 0 → M0 272 m = R [] 3 a → M0 276 m ≤ q → q ≤ M0 277 m → s q) : h_MX C0 M0 U F (k + 1) n b lv V0 X R := by
  have hS := hX.hS
  have nn := hn.1
  have sm := hS.small
  have hBB := hS.2.2.2.2.1
  obtain ⟨⟨j1, j2, j3, j4, j5, j6, j8, j9⟩, fX, dn, ch, str⟩ := hB
  have all : ∀ q, h_ac M0 S n (R []) q → s q := fun q ac => by
    rcases ac with ⟨e, e0, en, qe, -, -⟩ | ⟨m, m0, mn, qm, ts⟩
    · exact aq e q e0.1 e0.2 en qe.1 qe.2
    · have tm := (hS.tr m0.1 m0.2).1
      have tb := (hBB.2.2.2.2.1 m m0.1 m0.2).2.2.1.2
      by_cases z : M0 273 m = 0
      · rw [if_pos z] at ts
        exact (lv5 _ tm.1 tm.2 mn).2 m q m0.1 m0.2 rfl z ts qm.1 qm.2
      · rw [if_neg z] at ts
        exact str _ m q tm.1 tm.2 mn m0.1 m0.2 rfl (by omega) ts qm.1 qm.2
  have typ : ∀ q, h_ac M0 S n (R []) q → F q = 1 → R [] 0 q = 0 ∨ R [] 0 q = 1 := fun q ac => by
    have qq := hX.acn ac
    exact (j1 q qq.1.1 qq.1.2 qq.2 (all q ac) ac).2
  have rd : ∀ y, 0 ≤ y → y < 26 → ¬ M0 232 (26 * n + y) = 0 → h_mt M0 n lv X R y := fun y y0 y1 k0 => j2.1 y y0 y1 (dn y y0 y1 k0)
  refine ⟨fun j j0 j1' => ?_, h_MS6 hX hn hR hm typ (fun y y0 y1 k0 z => ((rd y y0 y1 k0).2 z).2) (fun q q0 q1 qn o ac => j8 q q0 q1 qn o (all q ac) ac), rd, fun i i0 i1' => ?_, fun t ht => ?_, j2.2⟩
  · have tb := hX.tb n
    by_cases z1 : j < g_ll M0 n 26
    · obtain ⟨l, l1, hl, el⟩ := g_ll_f M0 n 26 j j0 z1
      have u := (j5.1 (l : Int) (by omega) (by omega) hl).1 (ls _ (by omega) (by omega) hl)
      rw [Int.toNat_natCast, el] at u
      exact u
    · by_cases z2 : j < g_ll M0 n 26 + g_ca M0 n ((M0 222 55)).toNat
      · obtain ⟨a, a1, an, el⟩ := g_ca_f M0 n ((M0 222 55)).toNat (j - g_ll M0 n 26) (by omega) (by omega)
        have u := (j5.2.1 (a : Int) (by omega) (by omega) an).1 (lv5 _ (by omega) (by omega) an).1
        have e : h_sa M0 n (a : Int) = j := by
          unfold h_sa
          rw [Int.toNat_natCast, el]; omega
        rw [e] at u
        exact u
      · obtain ⟨q, q1, qn, el, eh⟩ := g_cp_f C0 M0 U n ((M0 222 26)).toNat (j - (g_ll M0 n 26 + g_ca M0 n ((M0 222 55)).toNat)) (by omega) (by omega)
        have q0 : 0 ≤ (q : Int) := by omega
        have q1' : (q : Int) < (M0 222 26) := by omega
        have esp : g_sp C0 M0 U n q = g_ll M0 n 26 + g_ca M0 n ((M0 222 55)).toNat + g_cp C0 M0 U n q := rfl
        have oo : M0 241 (q : Int) = 6 ∨ M0 241 (q : Int) = 19 ∨ M0 241 (q : Int) = 22 := by
          unfold g_vl at eh
          by_cases y : M0 241 (q : Int) = 6 ∨ M0 241 (q : Int) = 19
          · omega
          · rw [if_neg y] at eh
            by_cases w : M0 241 (q : Int) = 22
            · exact Or.inr (Or.inr w)
            · rw [if_neg w] at eh; omega
        obtain ⟨e, ee, en, ea, eb⟩ := hX.ine q0 q1' qn oo
        have u := j5.2.2 e q (j - g_sp C0 M0 U n q) ee.1 ee.2 en ea eb (by omega) (by omega)
        have r := ((hR.2.2.2.2.2.1 e q (j - g_sp C0 M0 U n q) ee.1 ee.2 en ea eb (by omega) (by omega)).1 _ rfl).2.2.2
        rw [Int.toNat_natCast, show g_sp C0 M0 U n q + (j - g_sp C0 M0 U n q) = j by omega] at u r
        rcases hS.st ee.1 ee.2 with y | y
        · rw [r (h_rn.no hS y.2.1)]
          refine u.2.1 (fun w => w.1 y.2.1) ?_
          by_cases o : M0 241 (q : Int) = 6
          · exact Or.inl ⟨o, kp q q0 q1' qn o⟩
          · exact Or.inr ⟨o, aq e q ee.1 ee.2 en ea eb⟩
        · exact u.1 ⟨by omega, (lv5 _ y.2.1.1 y.2.1.2 (y.2.2.2.2.2.2.trans en)).1⟩
  · have fo := (hS.fl nn.1 nn.2).2.2.2.2.2.1 i i0 i1'
    have fl := (hS.l nn.1 nn.2 fo.2.1.1 fo.2.1.2).2.2.2.1
    have ck : M0 235 (26 * n + M0 231 (26 * n + i)) = 0 := by
      rcases fl with z | z
      · exact z.1
      · have := fo.2.2; omega
    have k0 : ¬ M0 232 (26 * n + M0 231 (26 * n + i)) = 0 := by have := fo.2.2; omega
    have p := (hX.pr hn hR hm fo.2.1.1 fo.2.1.2 k0).1.mpr (by rw [ck]; exact Or.inl rfl)
    exact (rd _ fo.2.1.1 fo.2.1.2 k0).2 p
  · rw [j6 t ht, hR.2.2.2.2.2.2 t]
    constructor
    · rintro (z | ⟨q, qq, qn, _, z⟩ | ⟨q, qq, qn, _, z⟩)
      · exact Or.inl z
      · exact Or.inr (Or.inr (Or.inl ⟨q, qq, qn, z⟩))
      · exact Or.inr (Or.inr (Or.inr ⟨q, qq, qn, z⟩))
    · rintro (z | z | ⟨q, qq, qn, z⟩ | ⟨q, qq, qn, z⟩)
      · exact Or.inl z
      · omega
      · exact Or.inr (Or.inl ⟨q, qq, qn, all q z.1, z⟩)
      · exact Or.inr (Or.inr ⟨q, qq, qn, all q z.1, z⟩)
set_option maxHeartbeats 1000000 in
/-- the automata move on -/
theorem s_tick5 (hX : h_X C0 M0 P F G Hh S U J Im) (hn : h_N M0 U J n) (hk : n < ((k + 1 : Nat) : Int)) (ht : h_tick C0 M0 U J F S Im k) (hlv : 0 ≤ lv ∧ lv + n ≤ 7) (hb : 0 ≤ b ∧ b + g_T C0 M0 U n ≤ 600) (hV : h_RM C0 M0 S U J Im V0) (hR : h_TK C0 M0 U S Im (k + 1) n R) (hm : h_MS C0 M0 U F (k + 1) n (R [] 5)) (hB : h_B C0 M0 U F S k n b lv V0 X s R) (aq : ∀ e q, 0 ≤ e → e < (M0 222 44) → M0 258 e = n → M0 261 e ≤ q → q ≤ M0 262 e → s q) (kp : ∀ q, 0 ≤ q → q < (M0 222 26) → M0 250 q = n → M0 241 q = 6 → s (3072 + q)) (ls : ∀ l, 0 ≤ l → l < 26 → ¬ M0 236 (26 * n + l) = 0 → s (4096 + 26 * n + l)) (n5 : ∀ a, 0 ≤ a → a < (M0 222 55) → ¬ s (5120 + a))
    (next : ∀ W, h_MF C0 M0 U n b lv V0 W → h_MX C0 M0 U F (k + 1) n b lv V0 W R → Ψ W) : ∀ y5, ax_y y5 → k_Model_tickNode_416 (d + 10 * k + 7) lv n b 0 y5 X Ψ Θ := by
  have hS := hX.hS
  have sm := hS.small
  have hN := hS.2.1
  have nn := hn.1
  have tb := hX.tb n
  have rl : ax_rg lv := ⟨by omega, by omega⟩
  have rn : ax_rg n := ⟨by omega, by omega⟩
  have rb : ax_rg b := ⟨by omega, by omega⟩
  refine ax_for (I := fun a Y => (0 ≤ a ∧ a ≤ (M0 222 55)) ∧ ∃ t, h_B C0 M0 U F S k n b lv V0 Y t R ∧ (∀ v, s v → t v) ∧ (∀ a', 0 ≤ a' → a' < a → M0 267 a' = n → t (5120 + a') ∧ ∀ m q, 0 ≤ m → m < (M0 222 60) → M0 271 m = a' → M0 273 m = 0 → M0 272 m = R [] 3 a' → M0 276 m ≤ q → q ≤ M0 277 m → t q) ∧ ∀ a', a ≤ a' → a' < (M0 222 55) → ¬ t (5120 + a')) (K := fun a Y => ∀ y5, ax_y y5 → k_Model_tickNode_416 (d + 10 * k + 7) lv n b a y5 Y Ψ Θ) (hi := (M0 222 55)) (fun a Y w hI nx y5 hy5 => ?_) (fun a Y w hI y5 hy5 => ?_) 0 X ⟨⟨Int.le_refl _, by omega⟩, s, hB, fun _ z => z, fun a' a0 a1 => by omega, fun a' a0 a1 => n5 a' a0 a1⟩
  · obtain ⟨ab, t, hBY, up, i1, i2⟩ := hI
    have rY := hBY.2.1.rm hV
    have gY := hBY.2.1.1.2.2.1
    have ba : 0 ≤ a ∧ a < 351 := ⟨by omega, by omega⟩
    refine r_Model_tickNode_416 gY rl rn rb ⟨by omega, by omega⟩ hy5 ?_
    rw [rY.2.1.2.2.1, rY.1 267 (by decide) (by decide) (by decide)]
    refine ⟨fun z => by omega, fun _ => ⟨ba, fun an => ?_, fun an => nx Y ⟨⟨by omega, by omega⟩, t, hBY, up, fun a' a0 a1 an' => ?_, fun a' a0 a1 => i2 a' (by omega) a1⟩ y5 hy5⟩⟩
    · obtain ⟨t', te⟩ : ∃ t' : Int → Prop, ∀ v, t' v ↔ ((t v ∨ ∃ m, (0 ≤ m ∧ m < (M0 222 60)) ∧ (M0 271 m = a ∧ M0 273 m = 0 ∧ M0 272 m = R [] 3 a) ∧ M0 276 m ≤ v ∧ v ≤ M0 277 m) ∨ v = 5120 + a) := ⟨_, fun _ => Iff.rfl⟩
      have up' : ∀ v, t v → t' v := fun v z => (te v).mpr (Or.inl (Or.inl z))
      refine ax_N_d (D' := d + 1 + 10 * k + 6) (by omega) ?_
      refine s_leave (d := d + 1) hX hn hk ht hlv hb rY gY hBY.2.1.1.2.2.2 hR hm hBY.1 ab.1 w an (hBY.2.2.2.1 a ab.1 w an) (i2 a (Int.le_refl _) w) (fun e q e0 e1 ee ea eb => ?_) (fun m q m0 m1 ta tx qa qb o => ?_) te (fun W jW fW kW => nx W ⟨⟨by omega, by omega⟩, t', hBY.to jW fW (fun y y0 y1 => (kW.1 _ (by omega)).2.2) up', fun v z => up' v (up v z), fun a' a0 a1 an' => ?_, fun a' a0 a1 z => ?_⟩ y5 hy5)
      · have en : M0 258 e = n := by
          rcases hS.st e0 e1 with y | y
          · omega
          · rw [← y.2.2.2.2.2.2, ee]; exact an
        have qq := hS.eq e0 e1 en ea eb
        by_cases o : M0 241 q = 6
        · exact Or.inl ⟨o, up _ (kp q qq.1.1 qq.1.2 qq.2 o)⟩
        · exact Or.inr ⟨o, up _ (aq e q e0 e1 en ea eb)⟩
      · have ft := (hS.2.2.2.2.1.2.2.2.2.1 m m0 m1).2.2.2.2.2.2.2
        have f1 := ft.1
        have fq := ft.2.2 q qa qb
        have kk := hX.kd (n := n) (q := q) (by omega) (by omega) (by rw [fq.1.1, ta]; exact an) o
        exact hBY.2.2.1 _ kk.1.1 kk.1.2 kk.2
      · by_cases y : a' = a
        · rw [y]
          exact ⟨(te _).mpr (Or.inr rfl), fun m q m0 m1 ta tx ts qa qb => (te q).mpr (Or.inl (Or.inr ⟨m, ⟨m0, m1⟩, ⟨ta, tx, ts⟩, qa, qb⟩))⟩
        · have c := i1 a' a0 (by omega) an'
          exact ⟨up' _ c.1, fun m q m0 m1 ta tx ts qa qb => up' _ (c.2 m q m0 m1 ta tx ts qa qb)⟩
      · rcases (te _).mp z with (y | ⟨m, mb, -, y⟩) | y
        · exact i2 a' (by omega) a1 y
        · have f1 := (hS.2.2.2.2.1.2.2.2.2.1 m mb.1 mb.2).2.2.2.2.2.2.2.1
          omega
        · omega
    · have y : ¬ a' = a := fun y => an (by rw [← y]; exact an')
      exact i1 a' a0 (by omega) an'
  · obtain ⟨ab, t, hBY, up, i1, i2⟩ := hI
    have rY := hBY.2.1.rm hV
    refine r_Model_tickNode_416 hBY.2.1.1.2.2.1 rl rn rb ⟨by omega, by omega⟩ hy5 ?_
    rw [rY.2.1.2.2.1]
    exact ⟨fun _ => next Y hBY.2.1 (h_fin hX hn hR hm hBY (fun e q e0 e1 en ea eb => up _ (aq e q e0 e1 en ea eb)) (fun q q0 q1 qn o => up _ (kp q q0 q1 qn o)) (fun l l0 l1 hl => up _ (ls l l0 l1 hl)) (fun a' a0 a1 an => i1 a' a0 (by omega) an)), fun z => by omega⟩
set_option maxHeartbeats 1000000 in
/-- last values are kept -/
theorem s_tick4 (hX : h_X C0 M0 P F G Hh S U J Im) (hn : h_N M0 U J n) (hk : n < ((k + 1 : Nat) : Int)) (ht : h_tick C0 M0 U J F S Im k) (hlv : 0 ≤ lv ∧ lv + n ≤ 7) (hb : 0 ≤ b ∧ b + g_T C0 M0 U n ≤ 600) (hV : h_RM C0 M0 S U J Im V0) (hR : h_TK C0 M0 U S Im (k + 1) n R) (hm : h_MS C0 M0 U F (k + 1) n (R [] 5)) (hB : h_B C0 M0 U F S k n b lv V0 X s R) (aq : ∀ e q, 0 ≤ e → e < (M0 222 44) → M0 258 e = n → M0 261 e ≤ q → q ≤ M0 262 e → s q) (kp : ∀ q, 0 ≤ q → q < (M0 222 26) → M0 250 q = n → M0 241 q = 6 → s (3072 + q)) (n4 : ∀ v, 4096 ≤ v → ¬ s v)
    (next : ∀ W, h_MF C0 M0 U n b lv V0 W → h_MX C0 M0 U F (k + 1) n b lv V0 W R → Ψ W) : ∀ y5, ax_y y5 → k_Model_tickNode_339 (d + 10 * k + 7) lv n b 0 y5 X Ψ Θ := by
  have hS := hX.hS
  have sm := hS.small
  have hN := hS.2.1
  have nn := hn.1
  have tb := hX.tb n
  have rl : ax_rg lv := ⟨by omega, by omega⟩
  have rn : ax_rg n := ⟨by omega, by omega⟩
  have rb : ax_rg b := ⟨by omega, by omega⟩
  refine ax_for (I := fun l Y => (0 ≤ l ∧ l ≤ 26) ∧ ∃ t, h_B C0 M0 U F S k n b lv V0 Y t R ∧ (∀ v, s v → t v) ∧ (∀ l', 0 ≤ l' → l' < l → ¬ M0 236 (26 * n + l') = 0 → t (4096 + 26 * n + l')) ∧ ∀ v, 4096 + 26 * n + l ≤ v → ¬ t v) (K := fun l Y => ∀ y5, ax_y y5 → k_Model_tickNode_339 (d + 10 * k + 7) lv n b l y5 Y Ψ Θ) (hi := 26) (fun l Y w hI nx y5 hy5 => ?_) (fun l Y w hI y5 hy5 => ?_) 0 X ⟨⟨Int.le_refl _, by decide⟩, s, hB, fun _ z => z, fun l' a0 a1 => by omega, fun v hv => n4 v (by omega)⟩
  · obtain ⟨lb, t, hBY, up, i1, i2⟩ := hI
    have rY := hBY.2.1.rm hV
    have gY := hBY.2.1.1.2.2.1
    have b2 : 0 ≤ 26 * n + l ∧ 26 * n + l < 240 := ⟨by omega, by omega⟩
    have b1 : 0 ≤ 26 * lv + l ∧ 26 * lv + l < 240 := ⟨by omega, by omega⟩
    refine r_Model_tickNode_339 gY rl rn rb ⟨by omega, by omega⟩ hy5 ⟨fun z => by omega, fun _ => ⟨b2, ?_⟩⟩
    rw [rY.1 236 (by decide) (by decide) (by decide)]
    refine ⟨fun hl => nx Y ⟨⟨by omega, by omega⟩, t, hBY, up, fun l' a0 a1 hl' => i1 l' a0 (by by_cases y : l' = l; rw [y] at hl'; exact absurd hl hl'; omega) hl', fun v hv => i2 v (by omega)⟩ y5 hy5, fun hl => ⟨b1, ?_⟩⟩
    have k0 : ¬ M0 232 (26 * n + l) = 0 := fun z => hl ((hS.l nn.1 nn.2 lb.1 w).2.1 z).2.2
    have cl := (hX.l5 hn lb.1 w hl).2
    have c0 := (g_ca_b M0 n ((M0 222 55)).toNat).1
    obtain ⟨t', te⟩ : ∃ t' : Int → Prop, ∀ v, t' v ↔ (t v ∨ v = 4096 + 26 * n + l) := ⟨_, fun _ => Iff.rfl⟩
    have up' : ∀ v, t v → t' v := fun v z => (te v).mpr (Or.inl z)
    have go : ∀ W, h_J C0 M0 U F S k n b lv V0 W t' R → h_MF C0 M0 U n b lv Y W → W 295 = Y 295 → k_Model_tickNode_339 (d + 10 * k + 7) lv n b (l + 1) y5 W Ψ Θ := fun W jW fW e5 => nx W ⟨⟨by omega, by omega⟩, t', hBY.to jW fW (fun y _ _ => by rw [e5]) up', fun v z => up' v (up v z), fun l' a0 a1 hl' => by
      by_cases y : l' = l
      · rw [y]; exact (te _).mpr (Or.inr rfl)
      · exact up' _ (i1 l' a0 (by omega) hl'), fun v hv z => by
      rcases (te v).mp z with y | y
      · exact i2 v (by omega) y
      · omega⟩ y5 hy5
    have lm := fun W hW => h_J.lastM (W := W) (t := t') hX hn hR hBY.1 te lb.1 w hl (i2 _ (Int.le_refl _)) (hBY.2.2.1 l lb.1 w k0) hW
    refine ⟨fun z => go Y (lm Y ⟨fun _ => rfl, fun y => absurd z y⟩) ⟨⟨fun _ _ => rfl, fun _ _ => rfl, gY, hBY.2.1.1.2.2.2⟩, fun _ _ => ⟨rfl, rfl⟩, fun _ _ => ⟨rfl, rfl, rfl⟩, fun _ _ => rfl, fun _ _ => ⟨rfl, rfl⟩⟩ rfl, fun z => ⟨b2, b1, ?_⟩⟩
    rw [rY.lslot hX hn lb.1 w hl]
    refine ⟨⟨by omega, by omega⟩, fun W eW => ?_⟩
    have fW : g_fr [292] Y W := by rw [eW]; exact (g_fr.rf _ _).u (by decide)
    exact go W (lm W ⟨fun y => absurd y z, fun _ => eW⟩) ⟨⟨fW.up (by simp), fun j _ => by rw [fW 222 (by decide)], by rw [eW]; exact ax_u_g gY (gY _ _), by unfold h_fo; rw [fW 222 (by decide)]; exact hBY.2.1.1.2.2.2⟩, fun i hi => ⟨by rw [fW 291 (by decide)], by rw [eW]; exact ax_u_k (by omega)⟩, fun x _ => by rw [fW 293 (by decide), fW 294 (by decide), fW 295 (by decide)]; exact ⟨rfl, rfl, rfl⟩, fun x _ => by rw [fW 296 (by decide)], fun x _ => by rw [fW 297 (by decide), fW 298 (by decide)]; exact ⟨rfl, rfl⟩⟩ (fW 295 (by decide))
  · obtain ⟨lb, t, hBY, up, i1, i2⟩ := hI
    refine r_Model_tickNode_339 hBY.2.1.1.2.2.1 rl rn rb ⟨by omega, by omega⟩ hy5 ⟨fun _ => ?_, fun z => by omega⟩
    exact s_tick5 (d := d) hX hn hk ht hlv hb hV hR hm hBY (fun e q e0 e1 en ea eb => up _ (aq e q e0 e1 en ea eb)) (fun q q0 q1 qn o => up _ (kp q q0 q1 qn o)) (fun l' a0 a1 hl => i1 l' a0 (by omega) hl) (fun a a0 a1 => i2 _ (by omega)) next y5 hy5
set_option maxHeartbeats 2000000 in
/-- delays take in what they are given -/
theorem s_tick3 (hX : h_X C0 M0 P F G Hh S U J Im) (hn : h_N M0 U J n) (hk : n < ((k + 1 : Nat) : Int)) (ht : h_tick C0 M0 U J F S Im k) (hlv : 0 ≤ lv ∧ lv + n ≤ 7) (hb : 0 ≤ b ∧ b + g_T C0 M0 U n ≤ 600) (hV : h_RM C0 M0 S U J Im V0) (hR : h_TK C0 M0 U S Im (k + 1) n R) (hm : h_MS C0 M0 U F (k + 1) n (R [] 5)) (hB : h_B C0 M0 U F S k n b lv V0 X s R) (aq : ∀ e q, 0 ≤ e → e < (M0 222 44) → M0 258 e = n → M0 261 e ≤ q → q ≤ M0 262 e → s q) (n3 : ∀ v, 3072 ≤ v → ¬ s v)
    (next : ∀ W, h_MF C0 M0 U n b lv V0 W → h_MX C0 M0 U F (k + 1) n b lv V0 W R → Ψ W) : ∀ y5, ax_y y5 → k_Model_tickNode_230 (d + 10 * k + 7) lv n b 0 y5 X Ψ Θ := by
  have hS := hX.hS
  have sm := hS.small
  have hN := hS.2.1
  have nn := hn.1
  have tb := hX.tb n
  have rl : ax_rg lv := ⟨by omega, by omega⟩
  have rn : ax_rg n := ⟨by omega, by omega⟩
  have rb : ax_rg b := ⟨by omega, by omega⟩
  refine ax_for (I := fun e Y => (0 ≤ e ∧ e ≤ (M0 222 44)) ∧ ∃ t, h_B C0 M0 U F S k n b lv V0 Y t R ∧ (∀ v, s v → t v) ∧ (∀ e' q, 0 ≤ e' → e' < e → M0 258 e' = n → h_eh M0 (R []) e' → M0 261 e' ≤ q → q ≤ M0 262 e' → M0 241 q = 6 → t (3072 + q)) ∧ ∀ v, 4096 ≤ v → ¬ t v) (K := fun e Y => ∀ y5, ax_y y5 → k_Model_tickNode_230 (d + 10 * k + 7) lv n b e y5 Y Ψ Θ) (hi := (M0 222 44)) (fun e Y w hI nx y5 hy5 => ?_) (fun e Y w hI y5 hy5 => ?_) 0 X ⟨⟨Int.le_refl _, by omega⟩, s, hB, fun _ z => z, fun e' q a0 a1 => by omega, fun v hv => n3 v (by omega)⟩
  · obtain ⟨eb, t0, hBY0, up0, i10, i20⟩ := hI
    have re : ax_rg e := ⟨by omega, by omega⟩
    have be : 0 ≤ e ∧ e < 351 := ⟨by omega, by omega⟩
    have rY0 := hBY0.2.1.rm hV
    have f1 := (hS.2.2.2.2.1.2.1 e eb.1 w).2.2.2.2.2.1.1
    refine r_Model_tickNode_230 hBY0.2.1.1.2.2.1 rl rn rb re hy5 ?_
    rw [rY0.2.1.2.1, rY0.1 261 (by decide) (by decide) (by decide)]
    refine ⟨fun z => by omega, fun _ => ⟨be, ?_⟩⟩
    refine ax_for (I := fun p Z => (M0 261 e ≤ p ∧ p ≤ M0 262 e + 1) ∧ ∃ t, h_B C0 M0 U F S k n b lv V0 Z t R ∧ (∀ v, s v → t v) ∧ (∀ e' q, 0 ≤ e' → e' < e → M0 258 e' = n → h_eh M0 (R []) e' → M0 261 e' ≤ q → q ≤ M0 262 e' → M0 241 q = 6 → t (3072 + q)) ∧ (∀ q, M0 261 e ≤ q → q < p → M0 258 e = n → h_eh M0 (R []) e → M0 241 q = 6 → t (3072 + q)) ∧ ∀ v, 4096 ≤ v → ¬ t v) (K := fun p Z => k_Model_tickNode_248 (d + 10 * k + 7) lv n b e p Z Ψ Θ) (hi := M0 262 e + 1) (fun p Z w' hI' nx' => ?_) (fun p Z w' hI' => ?_) (M0 261 e) Y ⟨⟨Int.le_refl _, by omega⟩, t0, hBY0, up0, i10, fun q a b => by omega, i20⟩
    · obtain ⟨pb, t, hBZ, up, i1, i1', i2⟩ := hI'
      have rZ := hBZ.2.1.rm hV
      have gZ := hBZ.2.1.1.2.2.1
      have b7 : 0 ≤ p ∧ p < 701 := ⟨by omega, by omega⟩
      have rp : ax_rg p := ⟨by omega, by omega⟩
      refine r_Model_tickNode_248 gZ rl rn rb re rp ⟨be, ?_⟩
      rw [rZ.1 262 (by decide) (by decide) (by decide)]
      refine ⟨fun z => by omega, fun _ => ?_⟩
      refine s_holdsM (d := d + 10 * k + 6) hX ⟨by omega, by omega⟩ rn rZ gZ hBZ.1.2.2.1 eb.1 w (fun en au => ?_) (fun en eh => ⟨fun z => absurd z (by decide), fun _ => ⟨b7, ?_⟩⟩) (fun no => ⟨fun _ => nx Z ⟨⟨by omega, by omega⟩, t, hBZ, up, fun e' q a0 a1 en eh ea eb' o => ?_, i2⟩ _ (ax_y_i _), fun z => absurd rfl z⟩)
      · rcases hS.st eb.1 w with y | y
        · exact absurd y.2.1 au
        · exact hBZ.2.2.2.1 _ y.2.1.1 y.2.1.2 (y.2.2.2.2.2.2.trans en)
      · have pp := hS.eq eb.1 w en pb.1 (by omega)
        rw [rZ.1 241 (by decide) (by decide) (by decide), rZ.2.2.2.2.1 p pp.1.1 pp.1.2]
        have skip : ¬ M0 241 p = 6 → k_Model_tickNode_248 (d + 10 * k + 7) lv n b e (p + 1) Z Ψ Θ := fun o => nx' Z ⟨⟨by omega, by omega⟩, t, hBZ, up, i1, fun q a b en eh o6 => i1' q a (by by_cases y : q = p; rw [y] at o6; exact absurd o6 o; omega) en eh o6, i2⟩
        refine ⟨fun o => ⟨b7, ?_⟩, skip⟩
        have s0 := hS.Snn hX.hT pp.1.1 pp.1.2
        have s1 := hX.hr p
        have acon : h_ac M0 S n (R []) p ↔ h_on (R []) (S p) := ⟨fun z => ((hS.acE (S := S) eb.1 w en pb.1 (by omega)).mp z).2, fun z => (hS.acE (S := S) eb.1 w en pb.1 (by omega)).mpr ⟨eh, z⟩⟩
        have on := h_onM (n := n) (M0 := M0) (R := R) hBZ.1.2.1 ⟨s0, s1.2⟩ (fun z => by
          have r := h_alS (s := fun _ => True) hS hX.ok hX.hT nn.1 nn.2 ⟨fun _ _ _ _ => trivial, fun _ _ _ _ => trivial⟩ pp.1.1 pp.1.2 pp.2 z
          refine hBZ.2.2.1 _ (by omega) (by omega) ?_
          rcases r with y | y
          · omega
          · exact y.1)
        obtain ⟨t', te⟩ : ∃ t' : Int → Prop, ∀ v, t' v ↔ (t v ∨ v = 3072 + p) := ⟨_, fun _ => Iff.rfl⟩
        have up' : ∀ v, t v → t' v := fun v z => (te v).mpr (Or.inl z)
        have sp := hX.sp hn pp.1.1 pp.1.2 pp.2
        have vp : g_vl C0 M0 U p = 1 := if_pos (Or.inl o)
        have ab := (hS.kid pp.1.1 pp.1.2 (by omega)).2.1
        have a0 := h_ar_a hS pp.1.1 pp.1.2 (by omega)
        have kin : M0 261 e ≤ M0 245 p := ((hS.2.2.2.2.1.2.1 e eb.1 w).2.2.2.2.2.1.2.2 p pb.1 (by omega)).2.2.2.1 _ ⟨a0, Or.inl ⟨by omega, Or.inl rfl⟩⟩
        have km := fun W hW => h_J.kept (W := W) (t := t') hX hn hR hm hBZ.1 te pp.1.1 pp.1.2 pp.2 o (fun _ => up _ (aq e _ eb.1 w en kin (by omega))) hBZ.2.2.2.1 i2 hW
        have go : ∀ W, h_J C0 M0 U F S k n b lv V0 W t' R → h_MF C0 M0 U n b lv Z W → W 295 = Z 295 → k_Model_tickNode_248 (d + 10 * k + 7) lv n b e (p + 1) W Ψ Θ := fun W jW fW e5 => nx' W ⟨⟨by omega, by omega⟩, t', hBZ.to jW fW (fun y _ _ => by rw [e5]) up', fun v z => up' v (up v z), fun e' q a b en eh ea eb' o6 => up' _ (i1 e' q a b en eh ea eb' o6), fun q a b en eh o6 => by
          by_cases y : q = p
          · rw [y]; exact (te _).mpr (Or.inr rfl)
          · exact up' _ (i1' q a (by omega) en eh o6), fun v hv z => by
          rcases (te v).mp z with y | y
          · exact i2 v hv y
          · omega⟩
        refine s_isOnT gZ ⟨by omega, by omega⟩ ⟨s0, s1.2⟩ (fun yes => ⟨fun z => absurd z (by decide), fun _ => ⟨b7, b7, ?_⟩⟩) (fun no => ⟨fun _ => go Z (km Z ⟨fun _ => rfl, fun z => absurd (on.mpr (acon.mp z)) no⟩) ⟨⟨fun _ _ => rfl, fun _ _ => rfl, gZ, hBZ.2.1.1.2.2.2⟩, fun _ _ => ⟨rfl, rfl⟩, fun _ _ => ⟨rfl, rfl, rfl⟩, fun _ _ => rfl, fun _ _ => ⟨rfl, rfl⟩⟩ rfl, fun z => absurd rfl z⟩)
        have ac := acon.mpr (on.mp yes)
        rw [rZ.1 245 (by decide) (by decide) (by decide)]
        refine s_valueAt gZ ⟨by omega, by omega⟩ ⟨by omega, by omega⟩ ?_
        rw [if_neg (by omega), rZ.slot hX hn pp.1.1 pp.1.2 pp.2 (Or.inl o)]
        refine ⟨⟨by omega, by omega⟩, fun W eW => ?_⟩
        have fW : g_fr [292] Z W := by rw [eW]; exact (g_fr.rf _ _).u (by decide)
        exact go W (km W ⟨fun y => absurd ac y, fun _ => eW⟩) ⟨⟨fW.up (by simp), fun j _ => by rw [fW 222 (by decide)], by rw [eW]; exact ax_u_g gZ (gZ _ _), by unfold h_fo; rw [fW 222 (by decide)]; exact hBZ.2.1.1.2.2.2⟩, fun i hi => ⟨by rw [fW 291 (by decide)], by rw [eW]; exact ax_u_k (by omega)⟩, fun x _ => by rw [fW 293 (by decide), fW 294 (by decide), fW 295 (by decide)]; exact ⟨rfl, rfl, rfl⟩, fun x _ => by rw [fW 296 (by decide)], fun x _ => by rw [fW 297 (by decide), fW 298 (by decide)]; exact ⟨rfl, rfl⟩⟩ (fW 295 (by decide))
      · by_cases y : e' = e
        · rw [y] at en eh; exact absurd ⟨en, eh⟩ no
        · exact i1 e' q a0 (by omega) en eh ea eb' o
    · obtain ⟨pb, t, hBZ, up, i1, i1', i2⟩ := hI'
      have rZ := hBZ.2.1.rm hV
      refine r_Model_tickNode_248 hBZ.2.1.1.2.2.1 rl rn rb re ⟨by omega, by omega⟩ ⟨be, ?_⟩
      rw [rZ.1 262 (by decide) (by decide) (by decide)]
      refine ⟨fun _ => nx Z ⟨⟨by omega, by omega⟩, t, hBZ, up, fun e' q a0 a1 en eh ea eb' o => ?_, i2⟩ _ (ax_y_i _), fun z => by omega⟩
      by_cases y : e' = e
      · rw [y] at en eh ea eb'
        exact i1' q ea (by omega) en eh o
      · exact i1 e' q a0 (by omega) en eh ea eb' o
  · obtain ⟨eb, t, hBY, up, i1, i2⟩ := hI
    have rY := hBY.2.1.rm hV
    refine r_Model_tickNode_230 hBY.2.1.1.2.2.1 rl rn rb ⟨by omega, by omega⟩ hy5 ?_
    rw [rY.2.1.2.1]
    refine ⟨fun _ => ?_, fun z => by omega⟩
    -- the others take in nothing
    obtain ⟨t', te⟩ : ∃ t' : Int → Prop, ∀ v, t' v ↔ (t v ∨ (((0 ≤ v - 3072 ∧ v - 3072 < (M0 222 26)) ∧ M0 250 (v - 3072) = n) ∧ M0 241 (v - 3072) = 6 ∧ ¬ h_ac M0 S n (R []) (v - 3072))) := ⟨_, fun _ => Iff.rfl⟩
    have jt := hBY.1.keptAll (t := t') (Q := fun q => ((0 ≤ q ∧ q < (M0 222 26)) ∧ M0 250 q = n) ∧ M0 241 q = 6 ∧ ¬ h_ac M0 S n (R []) q) hX hn hR hm (fun q z => z) hBY.2.2.2.1 i2 te
    have up' : ∀ v, t v → t' v := fun v z => (te v).mpr (Or.inl z)
    have hB' := hBY.to jt ⟨⟨fun _ _ => rfl, fun _ _ => rfl, hBY.2.1.1.2.2.1, hBY.2.1.1.2.2.2⟩, fun _ _ => ⟨rfl, rfl⟩, fun _ _ => ⟨rfl, rfl, rfl⟩, fun _ _ => rfl, fun _ _ => ⟨rfl, rfl⟩⟩ (fun _ _ _ => rfl) up'
    refine s_tick4 (d := d) hX hn hk ht hlv hb hV hR hm hB' (fun e q e0 e1 en ea eb => up' _ (up _ (aq e q e0 e1 en ea eb))) (fun q q0 q1 qn o => ?_) (fun v hv z => ?_) next y5 hy5
    · by_cases ac : h_ac M0 S n (R []) q
      · obtain ⟨e', ee, en, ea, eb'⟩ := hX.ine q0 q1 qn (Or.inl o)
        have eh := ((hS.acE (S := S) ee.1 ee.2 en ea eb').mp ac).1
        exact up' _ (i1 e' q ee.1 (by omega) en eh ea eb' o)
      · refine (te _).mpr (Or.inr ?_)
        rw [show 3072 + q - 3072 = q by omega]
        exact ⟨⟨⟨q0, q1⟩, qn⟩, o, ac⟩
    · rcases (te v).mp z with y | y
      · exact i2 v hv y
      · have := y.1.1; omega
set_option maxHeartbeats 1000000 in
/-- what waits for the end is worked -/
theorem s_tick2 (hX : h_X C0 M0 P F G Hh S U J Im) (hn : h_N M0 U J n) (hk : n < ((k + 1 : Nat) : Int)) (ht : h_tick C0 M0 U J F S Im k) (hlv : 0 ≤ lv ∧ lv + n ≤ 7) (hb : 0 ≤ b ∧ b + g_T C0 M0 U n ≤ 600) (hV : h_RM C0 M0 S U J Im V0) (hR : h_TK C0 M0 U S Im (k + 1) n R) (hm : h_MS C0 M0 U F (k + 1) n (R [] 5)) (hB : h_B C0 M0 U F S k n b lv V0 X s R) (n3 : ∀ v, 3072 ≤ v → ¬ s v) (ew : ∀ e q, 0 ≤ e → e < (M0 222 44) → M0 258 e = n → h_eh M0 (R []) e → M0 261 e ≤ q → q ≤ M0 262 e → C0 526 q = 0 → s q) (cw : ∀ e q, 0 ≤ e → e < (M0 222 44) → M0 261 e ≤ q → q ≤ M0 262 e → s q → M0 241 q = 22 → C0 526 q = 0)
    (next : ∀ W, h_MF C0 M0 U n b lv V0 W → h_MX C0 M0 U F (k + 1) n b lv V0 W R → Ψ W) : ∀ y5, ax_y y5 → k_Model_tickNode_179 (d + 10 * k + 7) lv n b 0 y5 X Ψ Θ := by
  have hS := hX.hS
  have sm := hS.small
  have hN := hS.2.1
  have nn := hn.1
  have tb := hX.tb n
  have rl : ax_rg lv := ⟨by omega, by omega⟩
  have rn : ax_rg n := ⟨by omega, by omega⟩
  have rb : ax_rg b := ⟨by omega, by omega⟩
  have orr := hS.2.2.2.2.1.2.2.2.2.2.1.2.2.1
  have same : ∀ e e' q, 0 ≤ e → e < (M0 222 44) → 0 ≤ e' → e' < (M0 222 44) → M0 261 e ≤ q → q ≤ M0 262 e → M0 261 e' ≤ q → q ≤ M0 262 e' → e' = e := fun e e' q e0 e1 e0' e1' a1 a2 a3 a4 => by
    by_cases u : e' = e
    · exact u
    · by_cases r : e' < e
      · have := orr.1 e' e e0' r e1; omega
      · have := orr.1 e e' e0 (by omega) e1'; omega
  refine ax_for (I := fun e Y => (0 ≤ e ∧ e ≤ (M0 222 44)) ∧ ∃ t, h_B C0 M0 U F S k n b lv V0 Y t R ∧ (∀ v, s v → t v) ∧ (∀ v, t v → s v ∨ ∃ e', (0 ≤ e' ∧ e' < e) ∧ M0 261 e' ≤ v ∧ v ≤ M0 262 e') ∧ ∀ e' q, 0 ≤ e' → e' < e → M0 258 e' = n → h_eh M0 (R []) e' → M0 261 e' ≤ q → q ≤ M0 262 e' → t q) (K := fun e Y => ∀ y5, ax_y y5 → k_Model_tickNode_179 (d + 10 * k + 7) lv n b e y5 Y Ψ Θ) (hi := (M0 222 44)) (fun e Y w hI nx y5 hy5 => ?_) (fun e Y w hI y5 hy5 => ?_) 0 X ⟨⟨Int.le_refl _, by omega⟩, s, hB, fun _ z => z, fun _ z => Or.inl z, fun e' q a0 a1 => by omega⟩
  · obtain ⟨eb, t, hBY, up, dwn, i1⟩ := hI
    have re : ax_rg e := ⟨by omega, by omega⟩
    have be : 0 ≤ e ∧ e < 351 := ⟨by omega, by omega⟩
    have rY := hBY.2.1.rm hV
    have gY := hBY.2.1.1.2.2.1
    have fx := (hS.2.2.2.2.1.2.1 e eb.1 w).2.2.2.2.2.1
    have f1 := fx.1
    refine r_Model_tickNode_179 gY rl rn rb re hy5 ?_
    rw [rY.2.1.2.1]
    refine ⟨fun z => by omega, fun _ => ?_⟩
    have chs : ∀ e, 0 ≤ e → e < (M0 222 44) → M0 258 e = n → ¬ M0 263 e = -1 → t (2048 + M0 263 e) := fun e e0 e1 en au => by
      rcases hS.st e0 e1 with y | y
      · exact absurd y.2.1 au
      · exact hBY.2.2.2.1 _ y.2.1.1 y.2.1.2 (y.2.2.2.2.2.2.trans en)
    refine s_holdsM (d := d + 10 * k + 6) hX ⟨by omega, by omega⟩ rn rY gY hBY.1.2.2.1 eb.1 w (chs e eb.1 w) (fun en eh => ⟨fun z => absurd z (by decide), fun _ => ⟨be, be, ?_⟩⟩) (fun no => ⟨fun _ => nx Y ⟨⟨by omega, by omega⟩, t, hBY, up, fun v z => ?_, fun e' q a0 a1 en eh ea eb' => ?_⟩ y5 hy5, fun z => absurd rfl z⟩)
    · rw [rY.1 261 (by decide) (by decide) (by decide), rY.1 262 (by decide) (by decide) (by decide)]
      obtain ⟨t', te⟩ : ∃ t' : Int → Prop, ∀ v, t' v ↔ (t v ∨ (M0 261 e ≤ v ∧ v ≤ M0 262 e ∧ C0 526 v = 1)) := ⟨_, fun _ => Iff.rfl⟩
      refine ax_N_d (D' := d + 3 + 10 * k + 4) (by omega) ?_
      refine s_workAll (d := d + 3) hX hn hk ht hlv hb rY gY hBY.2.1.1.2.2.2 hR hm hBY.1 ⟨f1.1, by omega, f1.2.2⟩ (Or.inr rfl) (fun q qa qb ql => ⟨?_, fun y ky => ?_⟩) te (fun W jW fW kW _ => nx W ⟨⟨by omega, by omega⟩, t', hBY.to jW fW (fun y y0 y1 => (kW.1 _ (by omega)).2.2) (fun v z => (te v).mpr (Or.inl z)), fun v z => (te v).mpr (Or.inl (up v z)), fun v z => ?_, fun e' q a0 a1 en' eh' ea eb' => ?_⟩ y5 hy5)
      · have qq := hS.eq eb.1 w en qa qb
        refine ⟨qq, ⟨fun z => ((hS.acE (S := S) eb.1 w en qa qb).mp z).2, fun z => (hS.acE (S := S) eb.1 w en qa qb).mpr ⟨eh, z⟩⟩, fun z => ?_, fun z => ?_, fun e' e0' e1' ea' eb' => ?_, fun o z => ?_⟩
        · have s0 := hS.Snn hX.hT qq.1.1 qq.1.2
          have s1 := hX.hr q
          have r := h_alS (s := fun _ => True) hS hX.ok hX.hT nn.1 nn.2 ⟨fun _ _ _ _ => trivial, fun _ _ _ _ => trivial⟩ qq.1.1 qq.1.2 qq.2 z
          refine hBY.2.2.1 _ (by omega) (by omega) ?_
          rcases r with y | y
          · omega
          · exact y.1
        · have kk := hX.kd qq.1.1 qq.1.2 qq.2 z
          exact hBY.2.2.1 _ kk.1.1 kk.1.2 kk.2
        · have ee := same e e' q eb.1 w e0' e1' qa qb ea' eb'
          rw [ee]
          refine ⟨chs e eb.1 w en, fun y => ?_⟩
          have a5 : 0 ≤ M0 263 e := by
            rcases hS.st eb.1 w with y' | y'
            · exact absurd y'.2.1 y.1
            · exact y'.2.1.1
          rcases dwn _ y.2 with r | ⟨e'', e2, r⟩
          · exact n3 _ (by omega) r
          · have := (hS.2.2.2.2.1.2.1 e'' e2.1 (by omega)).2.2.2.2.2.1.1
            omega
        · rcases dwn q z with r | ⟨e'', e2, r⟩
          · have := cw e q eb.1 w qa qb r o; omega
          · have := same e e'' q eb.1 w e2.1 (by omega) qa qb r.1 r.2; omega
      · have qq := hS.eq eb.1 w en qa qb
        have lt := ((hS.p qq.1.1 qq.1.2).2.2.2.2.2.2.2.2.2.2 y ky).2
        refine Or.inr (Or.inr ⟨(fx.2.2 q qa qb).2.2.2.1 y ky, ?_⟩)
        rw [lt, ql]
        split <;> rfl
      · rcases (te v).mp z with y | y
        · rcases dwn v y with r | ⟨e'', e2, r⟩
          · exact Or.inl r
          · exact Or.inr ⟨e'', ⟨e2.1, by omega⟩, r⟩
        · exact Or.inr ⟨e, ⟨eb.1, by omega⟩, y.1, y.2.1⟩
      · by_cases y : e' = e
        · rw [y] at ea eb'
          have qq := hS.eq eb.1 w en ea eb'
          have lb := (hS.p qq.1.1 qq.1.2).2.2.2.2.1
          by_cases r : C0 526 q = 0
          · exact (te q).mpr (Or.inl (up q (ew e q eb.1 w en eh ea eb' r)))
          · exact (te q).mpr (Or.inr ⟨ea, eb', by omega⟩)
        · exact (te q).mpr (Or.inl (i1 e' q a0 (by omega) en' eh' ea eb'))
    · rcases dwn v z with r | ⟨e'', e2, r⟩
      · exact Or.inl r
      · exact Or.inr ⟨e'', ⟨e2.1, by omega⟩, r⟩
    · by_cases y : e' = e
      · rw [y] at en eh; exact absurd ⟨en, eh⟩ no
      · exact i1 e' q a0 (by omega) en eh ea eb'
  · obtain ⟨eb, t, hBY, up, dwn, i1⟩ := hI
    have rY := hBY.2.1.rm hV
    refine r_Model_tickNode_179 hBY.2.1.1.2.2.1 rl rn rb ⟨by omega, by omega⟩ hy5 ?_
    rw [rY.2.1.2.1]
    refine ⟨fun _ => ?_, fun z => by omega⟩
    have nend : ∀ v, 700 ≤ v → t v → s v := fun v hv z => by
      rcases dwn v z with r | ⟨e'', e2, r⟩
      · exact r
      · have := (hS.2.2.2.2.1.2.1 e'' e2.1 (by omega)).2.2.2.2.2.1.1
        omega
    -- what does not hold
    obtain ⟨t', te⟩ : ∃ t' : Int → Prop, ∀ v, t' v ↔ (t v ∨ ∃ e, (0 ≤ e ∧ e < (M0 222 44)) ∧ (M0 258 e = n ∧ ¬ h_eh M0 (R []) e) ∧ M0 261 e ≤ v ∧ v ≤ M0 262 e) := ⟨_, fun _ => Iff.rfl⟩
    have jt := hBY.1.skipAll (t := t') (Q := fun v => ∃ e, (0 ≤ e ∧ e < (M0 222 44)) ∧ (M0 258 e = n ∧ ¬ h_eh M0 (R []) e) ∧ M0 261 e ≤ v ∧ v ≤ M0 262 e) hX hn hR (fun q ⟨e, e2, ⟨en, no⟩, qa, qb⟩ => ⟨hS.eq e2.1 e2.2 en qa qb, fun ac => no ((hS.acE (S := S) e2.1 e2.2 en qa qb).mp ac).1, fun e' e0' e1' ea' eb' => by
      have ee := same e e' q e2.1 e2.2 e0' e1' qa qb ea' eb'
      rw [ee]
      rcases hS.st e2.1 e2.2 with y | y
      · exact ⟨fun z => absurd y.2.1 z, fun z => z.1 y.2.1⟩
      · exact ⟨fun _ => hBY.2.2.2.1 _ y.2.1.1 y.2.1.2 (y.2.2.2.2.2.2.trans en), fun z => n3 _ (by have := y.2.1.1; omega) (nend _ (by have := y.2.1.1; omega) z.2)⟩⟩) te
    have up' : ∀ v, t v → t' v := fun v z => (te v).mpr (Or.inl z)
    have hB' := hBY.to jt ⟨⟨fun _ _ => rfl, fun _ _ => rfl, hBY.2.1.1.2.2.1, hBY.2.1.1.2.2.2⟩, fun _ _ => ⟨rfl, rfl⟩, fun _ _ => ⟨rfl, rfl, rfl⟩, fun _ _ => rfl, fun _ _ => ⟨rfl, rfl⟩⟩ (fun _ _ _ => rfl) up'
    refine s_tick3 (d := d) hX hn hk ht hlv hb hV hR hm hB' (fun e q e0 e1 en ea eb' => ?_) (fun v hv z => ?_) next y5 hy5
    · by_cases eh : h_eh M0 (R []) e
      · exact up' _ (i1 e q e0 (by omega) en eh ea eb')
      · exact (te q).mpr (Or.inr ⟨e, ⟨e0, e1⟩, ⟨en, eh⟩, ea, eb'⟩)
    · rcases (te v).mp z with y | ⟨e'', e2, -, r⟩
      · exact n3 v hv (nend v (by omega) y)
      · have := (hS.2.2.2.2.1.2.1 e'' e2.1 e2.2).2.2.2.2.2.1.1
        omega
end ModelK
