/-! SLOTS: the model's findSlots -/
def g_QK (C0 M0 : ax_V) (U J : Int → Int) (V W : ax_V) (n : Int) (kl ka kp : Nat) : Prop := g_KO M0 V W n ∧ ax_g W ∧ W 289 n = g_sat (1 + g_ci C0 M0 J n kp) ∧ (g_T C0 M0 U n ≤ 300 → g_NK C0 M0 U W n kl ka kp)
section SlotsN
variable {d : Nat} {C0 M0 M V : ax_V} {U J : Int → Int} {n : Int} {Φ : Int → ax_V → Prop} {Ψ Θ : ax_V → Prop}
set_option maxHeartbeats 8000000 in
theorem s_slotsNode (hS : g_S C0 M0) (ok : g_N2 M0) (hUJ : g_UJ C0 M0 U J) (hb : g_MB C0 M0 M) (hV : g_fr g_XS M V) (hg : ax_g V) (n0 : 0 ≤ n) (n1 : n < (M0 222 86)) (hU : ∀ m, 0 ≤ m → m < n → V 288 m = U m) (hJ : ∀ m, 0 ≤ m → m < n → V 289 m = J m) (h : ∀ W x2 y3 y4, ax_y y3 → ax_y y4 → g_QK C0 M0 U J V W n 26 ((M0 222 55)).toNat ((M0 222 26)).toNat → W 288 n = U n → W 289 n = J n → k_Model_findSlots_2 (d + 2) (n + 1) (some (ax_i x2)) y3 y4 W Ψ Θ) : ∀ y3 y4, ax_y y3 → ax_y y4 → ∀ V2, V2 = ax_u (ax_u V 288 n 0) 289 n 1 → k_Model_findSlots_26 (d + 2) n 0 y3 y4 V2 Ψ Θ := by
  have hat := hS.2.2.2.2.2.2.2
  have hN := hS.2.1
  have p0 := hS.2.2.1.1
  have hct := hS.2.2.2.2.1.1
  have hc3 := hct.2.2.1
  have hc1 := hct.1
  have rn : ax_rg n := ⟨by omega, by omega⟩
  have n8 : 0 ≤ n ∧ n < 8 := ⟨n0, by omega⟩
  have b9 : 0 ≤ n ∧ n < 9 := ⟨n0, by omega⟩
  have bU : ∀ m, 0 ≤ U m ∧ U m ≤ 1000000 := fun m => (hUJ.1 m).1
  have bJ : ∀ m, 0 ≤ J m ∧ J m ≤ 1000000 := fun m => (hUJ.1 m).2
  have L := g_ll_b M0 n 26
  have A := g_ca_b M0 n ((M0 222 55)).toNat
  obtain ⟨LL, eLL⟩ : ∃ x : Int, x = g_ll M0 n 26 := ⟨_, rfl⟩
  obtain ⟨AA, eAA⟩ : ∃ x : Int, x = g_ca M0 n ((M0 222 55)).toNat := ⟨_, rfl⟩
  have hT : g_T C0 M0 U n = LL + AA + g_cp C0 M0 U n ((M0 222 26)).toNat := by unfold g_T; rw [eLL, eAA]
  have hsp : ∀ k, g_sp C0 M0 U n k = LL + AA + g_cp C0 M0 U n k := fun k => by unfold g_sp; rw [eLL, eAA]
  have hw : ∀ q : Nat, q < ((M0 222 26)).toNat → M0 250 (q : Int) = n → M0 241 (q : Int) = 22 → 0 ≤ C0 520 (q : Int) ∧ C0 520 (q : Int) < n := fun q a b c => by
    have := ok.call hS (q := (q : Int)) (by omega) (by omega) c
    omega
  have fX : ∀ {W : ax_V}, g_KO M0 V W n → g_fr g_XS M W := fun k => hV.tr k.1
  have fM : ∀ {W : ax_V}, g_fr g_XS M W → ∀ c, c ∉ g_YM → c ∉ g_XS → W c = M0 c := fun f c z y => by rw [f c y]; exact hb.1 c z
  have sc : ∀ {W : ax_V}, g_fr g_XS M W → ∀ j, j ∉ g_KM → W 222 j = M0 222 j := fun f j z => by rw [f 222 (by decide)]; exact hb.2.1 j z
  -- parts
  have parts : ∀ W, g_QK C0 M0 U J V W n 26 ((M0 222 55)).toNat 0 → W 288 n = g_sat (g_sp C0 M0 U n 0) → ∀ y3 y4, ax_y y3 → ax_y y4 → k_Model_findSlots_119 (d + 2) n 0 y3 y4 W Ψ Θ := by
    intro W hW hm
    refine ax_for (I := fun q W => (0 ≤ q ∧ q ≤ (M0 222 26)) ∧ g_QK C0 M0 U J V W n 26 ((M0 222 55)).toNat q.toNat ∧ W 288 n = g_sat (g_sp C0 M0 U n q.toNat)) (K := fun q W => ∀ y3 y4, ax_y y3 → ax_y y4 → k_Model_findSlots_119 (d + 2) n q y3 y4 W Ψ Θ) (hi := (M0 222 26)) (fun q W w hI next y3 y4 hy3 hy4 => ?_) (fun q W w hI y3 y4 hy3 hy4 => ?_) 0 W ⟨⟨by decide, p0.2.1⟩, hW, hm⟩
    · obtain ⟨hq, ⟨kO, kg, kJ, kN⟩, km⟩ := hI
      obtain ⟨k, ek⟩ : ∃ k : Nat, q = (k : Int) := ⟨q.toNat, by omega⟩
      have t1 : q.toNat = k := by omega
      have t2 : (q + 1).toNat = k + 1 := by omega
      have kp : k < ((M0 222 26)).toNat := by omega
      rw [t1] at kJ kN km
      have b7 : 0 ≤ q ∧ q < 701 := ⟨hq.1, by omega⟩
      have rq : ax_rg q := ⟨by omega, by omega⟩
      have F := fX kO
      have gc := g_cp_0 (C0 := C0) (M0 := M0) (n := n) bU k
      have gi := g_ci_0 (C0 := C0) (M0 := M0) (n := n) bJ k
      have cpm := g_cp_m (C0 := C0) (M0 := M0) (n := n) bU (show k + 1 ≤ ((M0 222 26)).toNat by omega)
      have cpk := g_cp_m (C0 := C0) (M0 := M0) (n := n) bU (show k ≤ ((M0 222 26)).toNat by omega)
      have spk := hsp k
      have spk1 := hsp (k + 1)
      have sp0 : 0 ≤ g_sp C0 M0 U n k := by rw [spk]; omega
      have sb := g_sat_b sp0
      have sj := g_sat_b (x := 1 + g_ci C0 M0 J n k) (by omega)
      -- what stood, where only what lies behind is written
      have keep : ∀ W2 : ax_V, g_T C0 M0 U n ≤ 300 → (∀ i, 0 ≤ i → i < 300 * n + g_sp C0 M0 U n k → W2 290 i = W 290 i) → W2 240 = W 240 → W2 270 = W 270 → (∀ x, x ≠ q → W2 257 x = W 257 x) → g_NK C0 M0 U W2 n 26 ((M0 222 55)).toNat k := fun W2 t3 im e4 e7 e5 => by
        refine (kN t3).up (cur := g_sp C0 M0 U n k) n0 (fun x a b c => hw x (by omega) b c) bU (by omega) (fun l a b => ?_) (fun a b c => ?_) (fun x a b => ?_) im (fun l _ => by rw [e4]) (fun a _ => by rw [e7]) (fun x a => e5 _ (by omega))
        · have := g_ll_s b
          have := g_ll_m M0 n (show l + 1 ≤ 26 by omega)
          omega
        · have := g_ca_s c
          have := g_ca_m M0 n (show a + 1 ≤ ((M0 222 55)).toNat by omega)
          omega
        · have s := g_cp_s (C0 := C0) (U := U) b
          have := g_cp_m (C0 := C0) (M0 := M0) (n := n) bU (show x + 1 ≤ k by omega)
          have := hsp x
          omega
      have more : ∀ W2 : ax_V, g_NK C0 M0 U W2 n 26 ((M0 222 55)).toNat k → (M0 250 q = n → ((M0 241 q = 6 ∨ M0 241 q = 19) → W2 257 q = g_sp C0 M0 U n k ∧ W2 290 (300 * n + g_sp C0 M0 U n k) = 0) ∧ (M0 241 q = 22 → W2 257 q = g_sp C0 M0 U n k ∧ ∀ i, 0 ≤ i → i < U (C0 520 q) → W2 290 (300 * n + (g_sp C0 M0 U n k + i)) = W2 290 (300 * C0 520 q + i))) → g_NK C0 M0 U W2 n 26 ((M0 222 55)).toNat (k + 1) := fun W2 hk hn => ⟨hk.1, hk.2.1, fun x a b => by
        by_cases e : x = k
        · rw [e] at b ⊢
          rw [ek] at hn
          exact hn b
        · exact hk.2.2 x (by omega) b⟩
      refine r_Model_findSlots_119 kg rn rq hy3 hy4 ?_
      rw [sc F 26 (by decide), fM F 250 (by decide) (by decide), fM F 241 (by decide) (by decide)]
      have skip : ¬ (M0 250 q = n ∧ (M0 241 q = 6 ∨ M0 241 q = 19 ∨ M0 241 q = 22)) → ∀ y3 y4, ax_y y3 → ax_y y4 → k_Model_findSlots_119 (d + 2) n (q + 1) y3 y4 W Ψ Θ := fun z => next W ⟨⟨by omega, by omega⟩, by
        rw [t2]
        refine ⟨kO, kg, ?_, fun t3 => more W (keep W t3 (fun _ _ _ => rfl) rfl rfl (fun _ _ => rfl)) (fun a => ⟨fun b => absurd ⟨a, by omega⟩ z, fun b => absurd ⟨a, by omega⟩ z⟩)⟩
        rw [kJ, g_ci_n (fun y => z ⟨by rw [ek]; exact y.1, by rw [ek]; exact Or.inr (Or.inr y.2)⟩)], by
        rw [t2, km]
        by_cases y : M0 250 q = n
        · have v : g_vl C0 M0 U q = 0 := by unfold g_vl; rw [if_neg (fun u => z ⟨y, by omega⟩), if_neg (fun u => z ⟨y, by omega⟩)]
          have e := g_cp_s (C0 := C0) (U := U) (show M0 250 (k : Int) = n by rw [← ek]; exact y)
          rw [← ek, v] at e
          rw [spk, spk1, e]; congr 1; omega
        · have e := g_cp_n (C0 := C0) (U := U) (show ¬ M0 250 (k : Int) = n by rw [← ek]; exact y)
          rw [spk, spk1, e]⟩
      -- one value
      have one : M0 250 q = n → (M0 241 q = 6 ∨ M0 241 q = 19) → k_Model_findSlots_162 (d + 2) n q y3 y4 W Ψ Θ := fun qn o => by
        have v : g_vl C0 M0 U q = 1 := by unfold g_vl; rw [if_pos o]
        have e := g_cp_s (C0 := C0) (U := U) (show M0 250 (k : Int) = n by rw [← ek]; exact qn)
        rw [← ek, v] at e
        refine r_Model_findSlots_162 kg rn rq hy3 hy4 (s_place (d := d) kg n8 (by decide) sp0 km (fun W1 f1 g1 m1 o1 i1 i2 i3 => ⟨b7, fun V2 e2 => ⟨b7, ?_⟩⟩))
        have F1 : g_fr g_XS M W1 := F.tr (f1.up (by decide))
        have c2 : V2 241 = M0 241 := by rw [e2, ax_u_ne (by decide)]; exact fM F1 241 (by decide) (by decide)
        rw [c2]
        refine ⟨fun z => by omega, fun _ => next V2 ⟨⟨by omega, by omega⟩, ?_, ?_⟩ _ _ hy3 hy4⟩
        · rw [t2]
          have d290 : V2 290 = W1 290 := by rw [e2, ax_u_ne (by decide)]
          refine ⟨kO.tr ⟨by rw [e2]; exact (f1.up (by decide)).u (by decide), fun m z => ⟨by rw [e2, ax_u_ne (by decide)]; exact o1 m z, by rw [e2, ax_u_ne (by decide), f1 289 (by decide)]⟩, fun i z => ?_, fun s _ => by rw [e2, ax_u_ne (by decide), f1 240 (by decide)], fun a _ _ _ => by rw [e2, ax_u_ne (by decide), f1 270 (by decide)], fun x _ _ z => ?_⟩, ?_, ?_, fun t3 => more V2 (keep V2 t3 (fun i a b => ?_) ?_ ?_ (fun x z => ?_)) (fun _ => ⟨fun _ => ⟨?_, ?_⟩, fun z => by omega⟩)⟩
          · rw [d290]
            by_cases y : i = 300 * n + g_sp C0 M0 U n k
            · rw [i2 (by omega)]
            · exact i1 i y
          · rw [e2, ax_u_k (fun y => z (by rw [y]; exact qn)), f1 257 (by decide)]
          · rw [e2]
            have := g_sat_b (x := g_sp C0 M0 U n k + 1) (by omega)
            exact ax_u_g g1 ⟨by omega, by omega⟩
          · rw [e2, ax_u_ne (by decide), f1 289 (by decide), kJ, g_ci_n (fun y => by have := y.2; rw [← ek] at this; omega)]
          · rw [d290]; exact i1 i (by omega)
          · rw [e2, ax_u_ne (by decide), f1 240 (by decide)]
          · rw [e2, ax_u_ne (by decide), f1 270 (by decide)]
          · rw [e2, ax_u_k z, f1 257 (by decide)]
          · rw [e2, ax_u_s]
            have : g_sp C0 M0 U n k + 1 ≤ 300 := by omega
            rw [g_sat_eq (m := 300) (by decide) this]; omega
          · rw [d290]; exact i3 (by omega)
        · rw [t2, e2, ax_u_ne (by decide), m1, spk, spk1, e]; congr 1; omega
      refine ⟨fun z => by omega, fun _ => ⟨b7, fun qn => ⟨b7, fun o6 => one qn (Or.inl o6), fun o6 => ⟨b7, fun o19 => one qn (Or.inr o19), fun o19 => ⟨b7, fun o22 => ⟨b7, b9, b7, fun V1 e1 => ?_⟩, fun o22 => skip (fun y => by omega) _ _ hy3 hy4⟩⟩⟩, fun qn => skip (fun y => qn y.1) _ _ hy3 hy4⟩⟩
      -- a call
      have c := ok.call hS hq.1 w o22
      obtain ⟨m, em⟩ : ∃ m : Int, m = C0 520 q := ⟨_, rfl⟩
      have hc : W 251 q = m := by rw [F 251 (by decide), hb.2.2.2 q hq.1 w o22, em]
      have v : g_vl C0 M0 U q = U m := by unfold g_vl; rw [if_neg (by omega), if_pos o22, em]
      have e := g_cp_s (C0 := C0) (U := U) (show M0 250 (k : Int) = n by rw [← ek]; exact qn)
      rw [← ek, v] at e
      have e9 := g_ci_s (C0 := C0) (J := J) (n := n) (k := k) ⟨by rw [← ek]; exact qn, by rw [← ek]; exact o22⟩
      rw [← ek, ← em] at e9
      rw [← em] at c
      have um := bU m
      have jm := bJ m
      rw [hc]
      rw [km] at e1
      have e88 : V1 288 = W 288 := by rw [e1, ax_u_ne (by decide)]
      have wm : W 288 m = U m := by rw [(kO.2.1 m (by omega)).1]; exact hU m c.1 (by omega)
      have wj : W 289 m = J m := by rw [(kO.2.1 m (by omega)).2]; exact hJ m c.1 (by omega)
      have rm : ax_rg m := ⟨by omega, by omega⟩
      have bm : 0 ≤ m ∧ m < 9 := ⟨c.1, by omega⟩
      -- behind the copying
      have behind : ∀ X x4, g_fr [257, 290] W X → ax_g X → (∀ x, x ≠ q → X 257 x = W 257 x) → X 257 q = g_sat (g_sp C0 M0 U n k) → (∀ i, ¬ (300 * n + g_sp C0 M0 U n k ≤ i ∧ i < 300 * n + 300) → X 290 i = W 290 i) → (g_T C0 M0 U n ≤ 300 → ∀ i, 0 ≤ i → i < U m → X 290 (300 * n + (g_sp C0 M0 U n k + i)) = W 290 (300 * m + i)) → k_Model_findSlots_275 (d + 2) n q m (some (ax_i x4)) X Ψ Θ := by
        intro X x4 fX1 gX s5 s5q i5 cp5
        have sm : g_sat (g_sp C0 M0 U n k) + U m ≤ 2000000 := by omega
        refine r_Model_findSlots_275 gX rn rq rm (ax_y_i _) ⟨b9, bm, ?_⟩
        rw [fX1 288 (by decide), wm, km]
        refine s_least gX ⟨by omega, by omega⟩ ⟨b9, fun X2 eX2 => ⟨b9, bm, ?_⟩⟩
        have gX2 : ax_g X2 := by
          rw [eX2]
          have := g_sat_b (x := g_sat (g_sp C0 M0 U n k) + U m) (by omega)
          exact ax_u_g gX ⟨by omega, by omega⟩
        have a1 : X2 289 n = g_sat (1 + g_ci C0 M0 J n k) := by rw [eX2, ax_u_ne (by decide), fX1 289 (by decide)]; exact kJ
        have a2 : X2 289 m = J m := by rw [eX2, ax_u_ne (by decide), fX1 289 (by decide)]; exact wj
        rw [a1, a2]
        refine s_least gX2 ⟨by omega, by omega⟩ ⟨b9, fun X4 eX4 => next X4 ⟨⟨by omega, by omega⟩, ?_, ?_⟩ _ _ (ax_y_i _) (ax_y_i _)⟩
        · rw [t2]
          have n288 : ∀ x, x ≠ n → X4 288 x = W 288 x := fun x z => by rw [eX4, ax_u_ne (by decide), eX2, ax_u_k z, fX1 288 (by decide)]
          have n289 : ∀ x, x ≠ n → X4 289 x = W 289 x := fun x z => by rw [eX4, ax_u_k z, eX2, ax_u_ne (by decide), fX1 289 (by decide)]
          have n290 : X4 290 = X 290 := by rw [eX4, ax_u_ne (by decide), eX2, ax_u_ne (by decide)]
          have n257 : X4 257 = X 257 := by rw [eX4, ax_u_ne (by decide), eX2, ax_u_ne (by decide)]
          have n240 : X4 240 = W 240 := by rw [eX4, ax_u_ne (by decide), eX2, ax_u_ne (by decide), fX1 240 (by decide)]
          have n270 : X4 270 = W 270 := by rw [eX4, ax_u_ne (by decide), eX2, ax_u_ne (by decide), fX1 270 (by decide)]
          refine ⟨kO.tr ⟨by rw [eX4, eX2]; exact ((fX1.up (by decide)).u (by decide)).u (by decide), fun x z => ⟨n288 x z, n289 x z⟩, fun i z => by rw [n290]; exact i5 i (fun y => z ⟨by omega, y.2⟩), fun s _ => by rw [n240], fun a _ _ _ => by rw [n270], fun x _ _ z => by rw [n257]; exact s5 x (fun y => z (by rw [y]; exact qn))⟩, ?_, ?_, fun t3 => more X4 (keep X4 t3 (fun i a b => by rw [n290]; exact i5 i (by omega)) n240 n270 (fun x z => by rw [n257]; exact s5 x z)) (fun _ => ⟨fun z => by omega, fun _ => ⟨?_, fun i a b => ?_⟩⟩)⟩
          · rw [eX4]
            have := g_sat_b (x := g_sat (1 + g_ci C0 M0 J n k) + J m) (by omega)
            exact ax_u_g gX2 ⟨by omega, by omega⟩
          · rw [eX4, ax_u_s, g_sat_a jm.1, e9, Int.add_assoc]
          · rw [n257, s5q]
            exact g_sat_eq (m := 300) (by decide) (by omega)
          · rw [← em] at b ⊢
            rw [n290, cp5 t3 i a b, i5 _ (by omega)]
        · rw [t2, eX4, ax_u_ne (by decide), eX2, ax_u_s, g_sat_a um.1, spk, spk1, e]; congr 1; omega
      have cop : ∀ y x, (fun i X => g_fr [257, 290] W X ∧ ax_g X ∧ (∀ x, x ≠ q → X 257 x = W 257 x) ∧ X 257 q = g_sat (g_sp C0 M0 U n k) ∧ (0 ≤ i ∧ i ≤ U m) ∧ (∀ j, ¬ (300 * n + g_sp C0 M0 U n k ≤ j ∧ j < 300 * n + 300) → X 290 j = W 290 j) ∧ (g_T C0 M0 U n ≤ 300 → ∀ j, 0 ≤ j → j < i → X 290 (300 * n + (g_sp C0 M0 U n k + j)) = W 290 (300 * m + j))) y x → k_Model_findSlots_210 (d + 2) n q m y x Ψ Θ := by
        refine ax_for (hi := U m) (fun i X w4 hI next4 => ?_) (fun i X w4 hI => ?_)
        · obtain ⟨fX1, gX, s5, s5q, hi, i5, cp5⟩ := hI
          refine r_Model_findSlots_210 gX rn rq rm ⟨by omega, by omega⟩ ⟨bm, ?_⟩
          rw [fX1 288 (by decide), wm, km]
          refine ⟨fun z => by omega, fun _ => ⟨b9, ⟨by omega, by omega⟩, fun z => behind X i fX1 gX s5 s5q i5 (fun t3 => ?_), fun z => ?_⟩⟩
          · exfalso
            have : g_sat (g_sp C0 M0 U n k) = g_sp C0 M0 U n k := g_sat_eq (m := 300) (by decide) (by omega)
            omega
          · have es : g_sat (g_sp C0 M0 U n k) = g_sp C0 M0 U n k := by unfold g_sat at z ⊢; split at z <;> split <;> omega
            rw [es] at z ⊢
            have X2m : X 290 (300 * m + i) = W 290 (300 * m + i) := i5 _ (by omega)
            refine ⟨b9, ⟨by omega, by omega⟩, ⟨by omega, by omega⟩, fun X1 eX1 => next4 X1 ⟨by rw [eX1]; exact fX1.u (by decide), by rw [eX1]; exact ax_u_g gX (gX _ _), fun x y => by rw [eX1, ax_u_ne (by decide)]; exact s5 x y, by rw [eX1, ax_u_ne (by decide)]; exact s5q, ⟨by omega, by omega⟩, fun j y => ?_, fun t3 j a b => ?_⟩⟩
            · rw [eX1, ax_u_k (by omega)]; exact i5 j y
            · by_cases ej : j = i
              · rw [ej, eX1, show 300 * n + (g_sp C0 M0 U n k + i) = 300 * n + g_sp C0 M0 U n k + i by omega, ax_u_s]; exact X2m
              · rw [eX1, ax_u_k (by omega)]; exact cp5 t3 j a (by omega)
        · obtain ⟨fX1, gX, s5, s5q, hi, i5, cp5⟩ := hI
          have ei : i = U m := by omega
          refine r_Model_findSlots_210 gX rn rq rm ⟨by omega, by omega⟩ ⟨bm, ?_⟩
          rw [fX1 288 (by decide), wm]
          refine ⟨fun _ => behind X i fX1 gX s5 s5q i5 (fun t3 => ?_), fun z => by omega⟩
          rw [ei] at cp5
          exact cp5 t3
      exact cop 0 V1 ⟨by rw [e1]; exact (g_fr.rf _ _).u (by decide), by rw [e1]; exact ax_u_g kg ⟨by omega, by omega⟩, fun x z => by rw [e1, ax_u_k z], by rw [e1, ax_u_s], ⟨by decide, um.1⟩, fun j _ => by rw [e1, ax_u_ne (by decide)], fun _ j a b => by omega⟩
    · obtain ⟨hq, hQ, km⟩ := hI
      have eq : q = (M0 222 26) := by omega
      rw [eq] at hQ km
      refine r_Model_findSlots_119 hQ.2.1 rn ⟨by omega, by omega⟩ hy3 hy4 ?_
      rw [sc (fX hQ.1) 26 (by decide)]
      refine ⟨fun _ => h W q y3 y4 hy3 hy4 hQ ?_ ?_, fun z => by omega⟩
      · rw [km, (hUJ.2 n n0 n1).1]; rfl
      · rw [hQ.2.2.1, (hUJ.2 n n0 n1).2]
  -- automata
  have auts : ∀ W, g_QK C0 M0 U J V W n 26 0 0 → W 288 n = g_sat (LL + g_ca M0 n 0) → ∀ y3 y4, ax_y y3 → ax_y y4 → k_Model_findSlots_81 (d + 2) n 0 y3 y4 W Ψ Θ := by
    intro W hW hm
    refine ax_for (I := fun a W => (0 ≤ a ∧ a ≤ (M0 222 55)) ∧ g_QK C0 M0 U J V W n 26 a.toNat 0 ∧ W 288 n = g_sat (LL + g_ca M0 n a.toNat)) (K := fun a W => ∀ y3 y4, ax_y y3 → ax_y y4 → k_Model_findSlots_81 (d + 2) n a y3 y4 W Ψ Θ) (hi := (M0 222 55)) (fun a W w hI next y3 y4 hy3 hy4 => ?_) (fun a W w hI y3 y4 hy3 hy4 => ?_) 0 W ⟨⟨by decide, hc3.2.1⟩, hW, hm⟩
    · obtain ⟨ha, ⟨kO, kg, kJ, kN⟩, km⟩ := hI
      obtain ⟨k, ek⟩ : ∃ k : Nat, a = (k : Int) := ⟨a.toNat, by omega⟩
      have t1 : a.toNat = k := by omega
      have t2 : (a + 1).toNat = k + 1 := by omega
      rw [t1] at kN km
      have F := fX kO
      have gb := g_ca_b M0 n k
      have b3 : 0 ≤ a ∧ a < 351 := ⟨ha.1, by omega⟩
      refine r_Model_findSlots_81 kg rn ⟨by omega, by omega⟩ hy3 hy4 ?_
      rw [sc F 55 (by decide), fM F 267 (by decide) (by decide)]
      refine ⟨fun z => by omega, fun _ => ⟨b3, fun an => ?_, fun an => next W ⟨⟨by omega, by omega⟩, ?_, ?_⟩ _ _ hy3 hy4⟩⟩
      · refine s_place (d := d) kg n8 (by decide) (s := LL + g_ca M0 n k) (by omega) km (fun W1 f1 g1 m1 o1 i1 i2 i3 => ⟨b3, fun V2 e2 => next V2 ⟨⟨by omega, by omega⟩, ?_, ?_⟩ _ _ hy3 hy4⟩)
        · have ank : M0 267 (k : Int) = n := by rw [← ek]; exact an
          have es : g_sat (LL + g_ca M0 n k + 1) = LL + g_ca M0 n k + 1 := g_sat_eq (m := 999) (by decide) (by omega)
          have d290 : V2 290 = W1 290 := by rw [e2, ax_u_ne (by decide)]
          rw [t2]
          refine ⟨kO.tr ⟨by rw [e2]; exact (f1.up (by decide)).u (by decide), fun m z => ⟨by rw [e2, ax_u_ne (by decide)]; exact o1 m z, by rw [e2, ax_u_ne (by decide), f1 289 (by decide)]⟩, fun i z => ?_, fun s _ => by rw [e2, ax_u_ne (by decide), f1 240 (by decide)], fun x _ _ z => ?_, fun x _ _ _ => by rw [e2, ax_u_ne (by decide), f1 257 (by decide)]⟩, ?_, ?_, fun t3 => ?_⟩
          · rw [d290]; exact i1 i (by omega)
          · rw [e2, ax_u_k (fun y => z (by rw [y]; exact an)), f1 270 (by decide)]
          · rw [e2, es]; exact ax_u_g g1 ⟨by omega, by omega⟩
          · rw [e2, ax_u_ne (by decide), f1 289 (by decide)]; exact kJ
          · have old : g_NK C0 M0 U V2 n 26 k 0 := (kN t3).up (cur := LL + g_ca M0 n k) n0 (fun x z => by omega) bU (by omega) (fun l x b => by
              have := g_ll_s b
              have := g_ll_m M0 n (show l + 1 ≤ 26 by omega)
              omega) (fun x y b => by
              have := g_ca_s b
              have := g_ca_m M0 n (show x + 1 ≤ k by omega)
              omega) (fun x z => by omega) (fun i x y => by rw [d290]; exact i1 i (by omega)) (fun l _ => by rw [e2, ax_u_ne (by decide), f1 240 (by decide)]) (fun x y => by rw [e2, ax_u_k (by omega), f1 270 (by decide)]) (fun x y => by omega)
            refine ⟨old.1, fun x y b => ?_, old.2.2⟩
            by_cases e : x = k
            · rw [e, ← eLL]
              refine ⟨?_, ?_⟩
              · rw [← ek, e2, ax_u_s, es]; omega
              · rw [d290]; exact i3 (by omega)
            · exact old.2.1 x (by omega) b
        · rw [t2, e2, ax_u_ne (by decide), m1]
          have := g_ca_s (M := M0) (n := n) (k := k) (by rw [← ek]; exact an)
          rw [this]; congr 1; omega
      · rw [t2]
        refine ⟨kO, kg, kJ, fun t3 => ⟨(kN t3).1, fun x y b => ?_, (kN t3).2.2⟩⟩
        by_cases e : x = k
        · rw [e, ← ek] at b; exact absurd b an
        · exact (kN t3).2.1 x (by omega) b
      · rw [t2, km]
        have := g_ca_n (M := M0) (n := n) (k := k) (by rw [← ek]; exact an)
        rw [this]
    · obtain ⟨ha, hQ, km⟩ := hI
      have ea : a = (M0 222 55) := by omega
      rw [ea] at hQ km
      refine r_Model_findSlots_81 hQ.2.1 rn ⟨by omega, by omega⟩ hy3 hy4 ?_
      rw [sc (fX hQ.1) 55 (by decide)]
      refine ⟨fun _ => parts W hQ ?_ _ _ hy3 hy4, fun z => by omega⟩
      rw [km, ← eAA, hsp 0]
      congr 1
      have : g_cp C0 M0 U n 0 = 0 := rfl
      omega
  -- letters
  intro y3 y4 hy3 hy4 V2 e2
  refine ax_for (I := fun l W => (0 ≤ l ∧ l ≤ 26) ∧ g_QK C0 M0 U J V W n l.toNat 0 0 ∧ W 288 n = g_sat (g_ll M0 n l.toNat)) (K := fun l W => ∀ y3 y4, ax_y y3 → ax_y y4 → k_Model_findSlots_26 (d + 2) n l y3 y4 W Ψ Θ) (hi := 26) (fun l W w hI next y3 y4 hy3 hy4 => ?_) (fun l W w hI y3 y4 hy3 hy4 => ?_) 0 V2 ⟨⟨by decide, by decide⟩, ⟨⟨by rw [e2]; exact ((g_fr.rf _ _).u (by decide)).u (by decide), fun m z => ⟨by rw [e2, ax_u_ne (by decide), ax_u_k z], by rw [e2, ax_u_k z, ax_u_ne (by decide)]⟩, fun i _ => by rw [e2, ax_u_ne (by decide), ax_u_ne (by decide)], fun i _ => by rw [e2, ax_u_ne (by decide), ax_u_ne (by decide)], fun i _ _ _ => by rw [e2, ax_u_ne (by decide), ax_u_ne (by decide)], fun i _ _ _ => by rw [e2, ax_u_ne (by decide), ax_u_ne (by decide)]⟩, by rw [e2]; exact ax_u_g (ax_u_g hg (by decide)) (by decide), by rw [e2, ax_u_s]; rfl, fun _ => ⟨fun l x => absurd x (by simp), fun l x => absurd x (by simp), fun l x => absurd x (by simp)⟩⟩, by rw [e2, ax_u_ne (by decide), ax_u_s]; rfl⟩ y3 y4 hy3 hy4
  · obtain ⟨hl, ⟨kO, kg, kJ, kN⟩, km⟩ := hI
    obtain ⟨k, ek⟩ : ∃ k : Nat, l = (k : Int) := ⟨l.toNat, by omega⟩
    have t1 : l.toNat = k := by omega
    have t2 : (l + 1).toNat = k + 1 := by omega
    rw [t1] at kN km
    have F := fX kO
    have gb := g_ll_b M0 n k
    have bs : 0 ≤ 26 * n + l ∧ 26 * n + l < 240 := ⟨by omega, by omega⟩
    have fl := (hS.l n0 n1 hl.1 w).2.2.2.2.1.2
    refine r_Model_findSlots_26 kg rn ⟨by omega, by omega⟩ hy3 hy4 ⟨fun z => by omega, fun _ => ⟨bs, ?_⟩⟩
    rw [fM F 236 (by decide) (by decide), fM F 237 (by decide) (by decide)]
    refine ⟨fun z => next W ⟨⟨by omega, by omega⟩, ?_, ?_⟩ _ _ hy3 hy4, fun z => ⟨bs, ?_⟩⟩
    · rw [t2]
      refine ⟨kO, kg, kJ, fun t3 => ⟨fun x y b => ?_, (kN t3).2⟩⟩
      by_cases e : x = k
      · rw [e, ← ek] at b; exact absurd z b
      · exact (kN t3).1 x (by omega) b
    · rw [t2, km]
      have := g_ll_n (M := M0) (n := n) (k := k) (by rw [← ek]; exact z)
      rw [this]
    · have zk : ¬ M0 236 (26 * n + (k : Int)) = 0 := by rw [← ek]; exact z
      have rf : ax_rg (M0 237 (26 * n + l)) := hS.1.2 _ _
      refine s_place (d := d) kg n8 rf (s := g_ll M0 n k) gb.1 km (fun W1 f1 g1 m1 o1 i1 i2 i3 => ⟨bs, fun V3 e3 => next V3 ⟨⟨by omega, by omega⟩, ?_, ?_⟩ _ _ hy3 hy4⟩)
      · have es : g_sat (g_ll M0 n k + 1) = g_ll M0 n k + 1 := g_sat_eq (m := 999) (by decide) (by omega)
        have d290 : V3 290 = W1 290 := by rw [e3, ax_u_ne (by decide)]
        rw [t2]
        refine ⟨kO.tr ⟨by rw [e3]; exact (f1.up (by decide)).u (by decide), fun m z => ⟨by rw [e3, ax_u_ne (by decide)]; exact o1 m z, by rw [e3, ax_u_ne (by decide), f1 289 (by decide)]⟩, fun i z => ?_, fun s z => ?_, fun x _ _ _ => by rw [e3, ax_u_ne (by decide), f1 270 (by decide)], fun x _ _ _ => by rw [e3, ax_u_ne (by decide), f1 257 (by decide)]⟩, ?_, ?_, fun t3 => ?_⟩
        · rw [d290]; exact i1 i (by omega)
        · rw [e3, ax_u_k (by omega), f1 240 (by decide)]
        · rw [e3, es]; exact ax_u_g g1 ⟨by omega, by omega⟩
        · rw [e3, ax_u_ne (by decide), f1 289 (by decide)]; exact kJ
        · have old : g_NK C0 M0 U V3 n k 0 0 := (kN t3).up (cur := g_ll M0 n k) n0 (fun x z => by omega) bU (by omega) (fun x y b => by
            have := g_ll_s b
            have := g_ll_m M0 n (show x + 1 ≤ k by omega)
            omega) (fun x z => by omega) (fun x z => by omega) (fun i x y => by rw [d290]; exact i1 i (by omega)) (fun x y => by rw [e3, ax_u_k (by omega), f1 240 (by decide)]) (fun x y => by omega) (fun x y => by omega)
          refine ⟨fun x y b => ?_, old.2⟩
          by_cases e : x = k
          · rw [e]
            refine ⟨?_, ?_⟩
            · rw [← ek, e3, ax_u_s, es]; omega
            · rw [d290, i3 (by omega), ek]
          · exact old.1 x (by omega) b
      · rw [t2, e3, ax_u_ne (by decide), m1, g_ll_s zk]
  · obtain ⟨hl, hQ, km⟩ := hI
    have el : l = 26 := by omega
    rw [el] at hQ km ⊢
    refine r_Model_findSlots_26 hQ.2.1 rn (by decide) hy3 hy4 ⟨fun _ => auts W hQ ?_ _ _ hy3 hy4, fun z => absurd z (by decide)⟩
    rw [km]
    have e : g_ca M0 n 0 = 0 := rfl
    rw [e, eLL, Int.add_zero]
    rfl
end SlotsN
