/-! THE MODEL'S TICK: a call -/
def h_ME (C M : ax_V) (U F : Int → Int) (k : Nat) (n b lv : Int) (V : ax_V) (R : h_R) : Prop := (∀ j, 0 ≤ j → j < g_T C M U n → V 291 (b + j) = R [] 5 j ∧ V 292 (b + j) = R [] 5 j) ∧ h_MS C M U F k n (R [] 5) ∧ ∀ i, 0 ≤ i → i < M 227 n → V 293 (26 * lv + M 230 (26 * n + i)) = R [] 1 (M 230 (26 * n + i)) ∧ (M 233 (26 * n + M 230 (26 * n + i)) = 1 → R [] 1 (M 230 (26 * n + i)) = 0 ∨ R [] 1 (M 230 (26 * n + i)) = 1)
def h_MX (C M : ax_V) (U F : Int → Int) (k : Nat) (n b lv : Int) (V W : ax_V) (R : h_R) : Prop := (∀ j, 0 ≤ j → j < g_T C M U n → W 292 (b + j) = R [] 6 j) ∧ h_MS C M U F k n (R [] 6) ∧ (∀ y, 0 ≤ y → y < 26 → ¬ M 232 (26 * n + y) = 0 → h_mt M n lv W R y) ∧ (∀ i, 0 ≤ i → i < M 228 n → W 293 (26 * lv + M 231 (26 * n + i)) = R [] 1 (M 231 (26 * n + i)) ∧ (M 233 (26 * n + M 231 (26 * n + i)) = 1 → R [] 1 (M 231 (26 * n + i)) = 0 ∨ R [] 1 (M 231 (26 * n + i)) = 1)) ∧ (∀ t, t < 700 → (h_fl W ≤ t ↔ (h_fl V ≤ t ∨ R [] 4 0 ≤ t))) ∧ ∀ y, 0 ≤ y → y < 26 → W 294 (26 * lv + y) = 0 ∨ W 294 (26 * lv + y) = 1
/-- tickNode, for the fuel k -/
def h_tick (C M : ax_V) (U J F S Im : Int → Int) (k : Nat) : Prop := ∀ (d : Nat) (lv n b : Int) (V : ax_V) (R : h_R) (Ψ Θ : ax_V → Prop), h_N M U J n → n < (k : Int) → 0 ≤ lv → lv + n ≤ 7 → (0 ≤ b ∧ b + g_T C M U n ≤ 600) → h_RM C M S U J Im V → ax_g V → h_fo V → h_TK C M U S Im k n R → h_ME C M U F k n b lv V R → (∀ W, h_MF C M U n b lv V W → h_MX C M U F k n b lv V W R → Ψ W) → ax_N ay_lay (d + 10 * k + 1) q_Model_tickNode [.ref 222, ax_i lv, ax_i n, ax_i b] V Ψ Θ
/-- the outputs of a call that was just worked -/
def h_J7 (C M : ax_V) (S : Int → Int) (n lv w : Int) (V : ax_V) (R : h_R) : Prop := 0 ≤ w → w < (M 222 26) → M 241 w = 22 → h_ac M S n (R []) w → ∀ i, 0 ≤ i → i < M 228 (C 520 w) → V 293 (26 * (lv + 1) + M 231 (26 * C 520 w + i)) = R [w] 1 (M 231 (26 * C 520 w + i)) ∧ (M 233 (26 * C 520 w + M 231 (26 * C 520 w + i)) = 1 → R [w] 1 (M 231 (26 * C 520 w + i)) = 0 ∨ R [w] 1 (M 231 (26 * C 520 w + i)) = 1)
/-- what a call leaves -/
def h_CM2 (C M : ax_V) (U F : Int → Int) (k : Nat) (n b lv q : Int) (V W : ax_V) (R : h_R) : Prop := (g_fr h_DC V W ∧ g_sc [101] V W ∧ ax_g W ∧ h_fo W) ∧ h_KL lv V W ∧ (∀ x, x < 701 * lv + 701 → W 296 x = V 296 x) ∧ (∀ i, ¬ (b + g_sp C M U n q.toNat ≤ i ∧ i < b + g_sp C M U n q.toNat + g_vl C M U q) → W 291 i = V 291 i ∧ W 292 i = V 292 i) ∧ (∀ j, 0 ≤ j → j < g_vl C M U q → W 292 (b + (g_sp C M U n q.toNat + j)) = R [] 8 (g_sp C M U n q.toNat + j)) ∧ (∀ t, t < 700 → (h_fl W ≤ t ↔ (h_fl V ≤ t ∨ R [q] 4 0 ≤ t))) ∧ h_MS C M U F k (C 520 q) (R [q] 6)
section ModelD
variable {d : Nat} {C0 M0 P V V0 V1 W X X' : ax_V} {F G Hh S U J Im : Int → Int} {n q e a b c lv f m l : Int} {k : Nat} {s t : Int → Prop} {R : h_R} {Φ : Int → ax_V → Prop} {Ψ Θ : ax_V → Prop}
/-- what a call's memory sorts are -/
theorem h_msub (hX : h_X C0 M0 P F G Hh S U J Im) (hn : h_N M0 U J n) (hR : h_TK C0 M0 U S Im (k + 1) n R) (hm : h_MS C0 M0 U F (k + 1) n (R [] 5)) (q0 : 0 ≤ q) (q1 : q < (M0 222 26)) (qn : M0 250 q = n) (o : M0 241 q = 22) (ac : h_ac M0 S n (R []) q) : h_MS C0 M0 U F k (C0 520 q) (R [q] 5) := by
  have sb := hX.sub hn q0 q1 qn o
  have tt := hX.t sb.1
  obtain ⟨r1, r2, r3⟩ := hR.2.1 q q0 q1 qn o ac
  obtain ⟨e, ee, en, ea, eb⟩ := hX.ine q0 q1 qn (Or.inr (Or.inr o))
  by_cases z : (¬ M0 248 q = -1 ∧ R [] 1 (M0 248 q) = 1)
  · exact h_MS.eq hX _ _ _ _ sb.1 ((hX.im sb.1).2 k) (fun j j0 j1 => (r2 j j0 (by omega)).1 z)
  · have rr := fun j j0 j1 => (hR.2.2.2.2.2.1 e q j ee.1 ee.2 en ea eb j0 j1).1 _ rfl
    by_cases y : h_rn M0 (R []) (M0 263 e) 1 (R [] 5 (h_sa M0 n (M0 263 e))) (M0 264 e)
    · refine h_MS.eq hX _ _ _ _ sb.1 ((hX.im sb.1).2 k) (fun j j0 j1 => ?_)
      have r := (rr j j0 (by rw [sb.2.2, tt.2]; exact j1)).1 y
      rw [if_pos o] at r
      rw [(r2 j j0 (by omega)).2 z]; exact r
    · obtain ⟨q', rfl⟩ := Int.eq_ofNat_of_zero_le q0
      refine h_MS.eq hX _ _ _ _ sb.1 (hm.2.2.2 q' (by omega) qn o) (fun j j0 j1 => ?_)
      have r := (rr j j0 (by rw [sb.2.2, tt.2]; exact j1)).2.1 y
      rw [(r2 j j0 (by omega)).2 z, r, Int.toNat_natCast]
set_option maxHeartbeats 2000000 in
theorem s_callM (hX : h_X C0 M0 P F G Hh S U J Im) (hn : h_N M0 U J n) (hk : C0 520 q < (k : Int)) (ht : h_tick C0 M0 U J F S Im k) (hlv : 0 ≤ lv ∧ lv + n ≤ 7) (hb : 0 ≤ b ∧ b + g_T C0 M0 U n ≤ 600) (hV : h_RM C0 M0 S U J Im V) (hg : ax_g V) (hfo : h_fo V) (hR : h_TK C0 M0 U S Im (k + 1) n R) (hm : h_MS C0 M0 U F (k + 1) n (R [] 5)) (hJ : h_J C0 M0 U F S k n b lv V0 V s R) (q0 : 0 ≤ q) (q1 : q < (M0 222 26)) (qn : M0 250 q = n) (o : M0 241 q = 22) (ac : h_ac M0 S n (R []) q) (new : ¬ s q) (w4 : ∀ e, 0 ≤ e → e < (M0 222 44) → M0 261 e ≤ q → q ≤ M0 262 e → (¬ M0 263 e = -1 → s (2048 + M0 263 e)) ∧ ¬ (¬ M0 263 e = -1 ∧ s (5120 + M0 263 e))) (cL : ¬ M0 248 q = -1 → ¬ V 295 (26 * lv + M0 248 q) = 0) (cK : ∀ x, e_kid M0 q x → s x)
    (h : ∀ W, h_CM2 C0 M0 U F k n b lv q V W R → h_J7 C0 M0 S n lv q W R → (F q = 1 → R [] 0 q = 0 ∨ R [] 0 q = 1) → Φ (R [] 0 q) W) : ax_I ay_lay (d + 10 * k + 1 + 1) q_Model_call [.ref 222, ax_i lv, ax_i b, ax_i q] V Φ Θ := by
  have hS := hX.hS
  have sm := hS.small
  have hN := hS.2.1
  have nn := hn.1
  have sb := hX.sub hn q0 q1 qn o
  have tt := hX.t sb.1
  have sp := hX.sp hn q0 q1 qn
  have tb := hX.tb n
  have vq := sb.2.2
  have m0 := sb.1.1.1
  have m1 := sb.1.1.2
  have b7 : 0 ≤ q ∧ q < 701 := ⟨q0, by omega⟩
  have rq : ax_rg q := ⟨by omega, by omega⟩
  have rl : ax_rg lv := ⟨by omega, by omega⟩
  have rb : ax_rg b := ⟨by omega, by omega⟩
  have rm : ax_rg (C0 520 q) := ⟨by omega, by omega⟩
  have tm := hV.1
  obtain ⟨r1, r2, r3⟩ := hR.2.1 q q0 q1 qn o ac
  obtain ⟨e, ee, en, ea, eb⟩ := hX.ine q0 q1 qn (Or.inr (Or.inr o))
  have w4e := w4 e ee.1 ee.2 ea eb
  have chosen : M0 263 e = -1 ∨ s (2048 + M0 263 e) := by
    by_cases y : M0 263 e = -1
    · exact Or.inl y
    · exact Or.inr (w4e.1 y)
  obtain ⟨j1, j2, j3, j4, j5, j6, j8, j9⟩ := hJ
  have onq := hX.on q0 q1 ac
  have dt := ((hS.p q0 q1).2.2.2.2.2.2.1).2.2.2.2.2.2 o
  -- the hat
  have hat : (¬ M0 248 q = -1 ∧ V 293 (26 * lv + M0 248 q) = 1) ↔ (¬ M0 248 q = -1 ∧ R [] 1 (M0 248 q) = 1) := by
    by_cases z : M0 248 q = -1
    · exact ⟨fun w => absurd z w.1, fun w => absurd z w.1⟩
    · have l := hS.pl q0 q1 (by omega)
      have tr := hX.ok.truth hS q0 q1 (Or.inr (Or.inr ⟨o, z⟩))
      rw [qn] at tr
      have kd : ¬ M0 232 (26 * n + M0 248 q) = 0 := fun y => tr (Or.inl y)
      have c := (hS.Sown (F := F) (Hh := Hh) hX.hG hX.hT hX.n4 q0 q1).1 (Or.inr (Or.inr (Or.inr ⟨o, z⟩)))
      rw [c, qn] at onq
      have p := (hX.pr hn hR hm l.1 l.2 kd).1.mpr onq
      rw [((j2.1 _ l.1 l.2 (cL z)).2 p).1]
  -- its arguments
  have arg : ∀ j : Nat, 0 ≤ e_arg M0 q j → V 296 (701 * lv + e_arg M0 q j) = R [] 0 (e_arg M0 q j) ∧ (F (e_arg M0 q j) = 1 → R [] 0 (e_arg M0 q j) = 0 ∨ R [] 0 (e_arg M0 q j) = 1) := fun j z => by
    have kx : e_kid M0 q (e_arg M0 q j) := ⟨z, Or.inr ⟨o, j, rfl⟩⟩
    have ax := h_kid (Hh := Hh) (F := F) hS hX.ok hX.hG hX.hT hX.n4 hn.1.1 hn.1.2 (fun y y0 y1 k0 => (hX.pr hn hR hm y0 y1 k0).1) q0 q1 qn ac kx (fun y => by omega)
    have xx := hX.acn ax
    exact j1 _ xx.1.1 xx.1.2 xx.2 (cK _ kx) ax
  obtain ⟨K, K1, K2, K3⟩ := hS.cargs hX.ok hX.n3 q0 q1 o
  have ff := hS.fl m0 m1
  have K26 : (K : Int) ≤ 26 := by
    have b26 := (f_cn_le M0 (C0 520 q) 26).2
    have s1 := ff.2.2.2.1
    have s2 := ff.2.1.2
    have s3 := ff.2.2.1.2
    omega
  have msub := h_msub hX hn hR hm q0 q1 qn o ac
  have ac8 : ∀ j, 0 ≤ j → j < g_vl C0 M0 U q → R [] 8 (g_sp C0 M0 U n q.toNat + j) = R [q] 6 j := fun j j0 j1 => by
    have r := (hR.2.2.2.2.2.1 e q j ee.1 ee.2 en ea eb j0 j1).2.1 ac
    rw [if_neg (by omega), if_neg (by omega)] at r
    exact r
  have ob := hX.ok.out hS m0 m1
  have v0 := hR.1 q q0 q1 qn ac
  unfold h_vq at v0
  rw [if_pos o] at v0
  -- from the arguments on
  have main : ∀ V1, g_fr [291, 292] V V1 → ax_g V1 → (∀ i, ¬ (b + g_sp C0 M0 U n q.toNat ≤ i ∧ i < b + g_sp C0 M0 U n q.toNat + g_vl C0 M0 U q) → V1 291 i = V 291 i ∧ V1 292 i = V 292 i) → (∀ j, 0 ≤ j → j < g_vl C0 M0 U q → V1 291 (b + (g_sp C0 M0 U n q.toNat + j)) = R [q] 5 j ∧ V1 292 (b + (g_sp C0 M0 U n q.toNat + j)) = R [q] 5 j) → k_Model_call_56 (d + 10 * k + 1) lv b q (C0 520 q) 0 (M0 245 q) V1 Φ Θ := by
    intro V1 f1 g1 o1 n1
    have loop : ∀ (r j : Nat), j ≤ K → K - j ≤ r → ∀ Y, g_fr [293] V1 Y → ax_g Y → (∀ x, x < 26 * lv + 26 → Y 293 x = V1 293 x) → (∀ i : Nat, i < j → Y 293 (26 * (lv + 1) + M0 230 (26 * C0 520 q + (i : Int))) = R [q] 1 (M0 230 (26 * C0 520 q + (i : Int)))) → k_Model_call_56 (d + 10 * k + 1) lv b q (C0 520 q) (j : Int) (e_arg M0 q j) Y Φ Θ := by
      intro r
      induction r with
      | zero =>
        intro j jK jr Y fY gY oY iY
        have jk : j = K := by omega
        have fVY : g_fr h_DC V Y := (f1.up (Y := h_DC) (by simp)).tr (fY.up (by simp))
        have sVY : g_sc [101] V Y := fun i _ => by rw [fY 222 (by decide), f1 222 (by decide)]
        have rY := hV.fr fVY sVY
        rw [jk, K2]
        refine r_Model_call_56 gY rl rb rq rm ⟨by omega, by omega⟩ (by decide) ⟨fun _ => ⟨b7, ?_⟩, fun z => absurd rfl z⟩
        rw [rY.slot hX hn q0 q1 qn (Or.inr (Or.inr o))]
        have foY : h_fo Y := by
          unfold h_fo
          rw [fY 222 (by decide), f1 222 (by decide)]; exact hfo
        refine ht d (lv + 1) (C0 520 q) (b + g_sp C0 M0 U n q.toNat) Y (fun p => R (q :: p)) _ _ sb.1 hk (by omega) (by omega) ⟨by omega, by omega⟩ rY gY foY r1 ⟨fun i i0 i1 => ?_, msub, fun i i0 i1 => ?_⟩ (fun W hF hO => ?_)
        · rw [fY 291 (by decide), fY 292 (by decide), Int.add_assoc]
          exact n1 i i0 (by omega)
        · obtain ⟨i', rfl⟩ := Int.eq_ofNat_of_zero_le i0
          refine ⟨iY i' (by omega), fun ty => ?_⟩
          show R [q] 1 _ = 0 ∨ R [q] 1 _ = 1
          have kk := K3 i' (by omega)
          rw [r3 i' i1]
          exact (arg i' kk.1.1).2 (by rw [kk.2.2.2]; exact ty)
        · have rW := hF.rm rY
          have ip := (ff.2.2.2.2.2.1 0 (Int.le_refl _) (by omega)).2.1
          rw [Int.add_zero] at ip
          rw [rW.1 231 (by decide) (by decide) (by decide)]
          have o0 := hO.2.2.2.1 0 (Int.le_refl _) (by omega)
          rw [Int.add_zero] at o0
          have ev : W 293 (26 * (lv + 1) + M0 231 (26 * C0 520 q)) = R [] 0 q := by rw [v0]; exact o0.1
          refine ⟨⟨by omega, by omega⟩, ⟨by omega, by omega⟩, ?_⟩
          rw [ev]
          refine h W ⟨⟨fVY.tr hF.1.1, fun i z => (hF.1.2.1 i z).trans (sVY i z), hF.1.2.2⟩, ⟨fun x z => ?_, fun x z => ?_⟩, fun x z => ?_, fun i z => ?_, fun j j0 j1 => ?_, fun t ht' => ?_, hO.2.1⟩ (fun _ _ _ _ i i0 i1 => hO.2.2.2.1 i i0 i1) (fun ft => ?_)
          · have u := hF.2.2.1 x (by omega)
            rw [u.1, u.2.1, u.2.2, fY 294 (by decide), fY 295 (by decide), oY x z, f1 293 (by decide), f1 294 (by decide), f1 295 (by decide)]
            exact ⟨rfl, rfl, rfl⟩
          · have u := hF.2.2.2.2 x (by omega)
            rw [u.1, u.2, fY 297 (by decide), fY 298 (by decide), f1 297 (by decide), f1 298 (by decide)]
            exact ⟨rfl, rfl⟩
          · rw [hF.2.2.2.1 x (by omega), fY 296 (by decide), f1 296 (by decide)]
          · have u := hF.2.1 i (by omega)
            rw [u.1, u.2, fY 291 (by decide), fY 292 (by decide)]
            exact o1 i z
          · rw [ac8 j j0 j1, ← Int.add_assoc]
            exact hO.1 j j0 (by omega)
          · rw [hO.2.2.2.2.1 t ht']
            have e1 : h_fl Y = h_fl V := by
              unfold h_fl
              rw [fY 222 (by decide), f1 222 (by decide)]
            rw [e1]
          · rw [v0]
            refine o0.2 ?_
            rw [← (hX.hF q q0 q1).1.2.2.2.2.1 o]; exact ft
      | succ r ih =>
        intro j jK jr Y fY gY oY iY
        by_cases jk : j = K
        · exact ih j jK (by omega) Y fY gY oY iY
        · have kk := K3 j (by omega)
          have fVY : g_fr h_DC V Y := (f1.up (Y := h_DC) (by simp)).tr (fY.up (by simp))
          have sVY : g_sc [101] V Y := fun i _ => by rw [fY 222 (by decide), f1 222 (by decide)]
          have rY := hV.fr fVY sVY
          have ip := (hS.inp (i := (j : Int)) m0 m1 (by omega) (by omega)).2.1
          have g := arg j kk.1.1
          refine r_Model_call_56 gY rl rb rq rm ⟨by omega, by omega⟩ ⟨by omega, by omega⟩ ⟨fun z => by omega, fun _ => ⟨⟨by omega, by omega⟩, s_valueAt gY ⟨by omega, by omega⟩ ⟨by omega, by omega⟩ ?_⟩⟩
          rw [if_neg (by omega), rY.1 230 (by decide) (by decide) (by decide), fY 296 (by decide), f1 296 (by decide), g.1]
          refine ⟨⟨by omega, by omega⟩, fun Y2 e2 => ⟨⟨by omega, by omega⟩, ?_⟩⟩
          have e252 : Y2 252 = M0 252 := by rw [e2, ax_u_ne (by decide)]; exact rY.1 252 (by decide) (by decide) (by decide)
          rw [e252, kk.2.2.1]
          have rv : ax_rg (R [] 0 (e_arg M0 q j)) := by rw [← g.1]; exact hg _ _
          have nx := ih (j + 1) (by omega) (by omega) Y2 (by rw [e2]; exact fY.u (by decide)) (by rw [e2]; exact ax_u_g gY rv) (fun x z => by rw [e2, ax_u_k (by omega)]; exact oY x z) (fun i hi => ?_)
          · rw [show ((j + 1 : Nat) : Int) = (j : Int) + 1 by omega] at nx
            exact nx
          · by_cases same : M0 230 (26 * C0 520 q + (i : Int)) = M0 230 (26 * C0 520 q + (j : Int))
            · rw [same, e2, ax_u_s]
              exact (r3 j (by omega)).symm
            · have ij : ¬ i = j := fun y => same (by rw [y])
              rw [e2, ax_u_k (by omega)]
              exact iY i (by omega)
    have st := loop K 0 (by omega) (by omega) V1 (fun _ _ => rfl) g1 (fun _ _ => rfl) (fun i hi => by omega)
    exact st
  have plain : ¬ (¬ M0 248 q = -1 ∧ V 293 (26 * lv + M0 248 q) = 1) → k_Model_call_56 (d + 10 * k + 1) lv b q (C0 520 q) 0 (M0 245 q) V Φ Θ := fun z => by
    refine main V (fun _ _ => rfl) hg (fun _ _ => ⟨rfl, rfl⟩) (fun j j0 j1 => ?_)
    have r := (r2 j j0 (by omega)).2 (fun y => z (hat.mpr y))
    rw [r]
    refine ⟨(j4.2.2 e q j ee.1 ee.2 en ea eb j0 j1 (fun _ => new)).1 chosen, ?_⟩
    exact (j5.2.2 e q j ee.1 ee.2 en ea eb j0 j1).2.2.1 w4e.2 (fun y => by rcases y with y | y; exact absurd y.1 (by omega); exact new y.2) chosen
  refine r_Model_call hg rl rb rq ⟨b7, b7, ?_⟩
  rw [tm 248 (by decide) (by decide) (by decide), tm 245 (by decide) (by decide) (by decide), hV.2.2.1 q q0 q1 o]
  refine ⟨fun z => ⟨b7, plain (fun y => y.1 z)⟩, fun z => ⟨b7, ⟨by omega, by omega⟩, fun y => ?_, fun y => ⟨b7, plain (fun w => y w.2)⟩⟩⟩
  refine s_renew hX hn hV hg hb q0 q1 qn o (Or.inr rfl) (fun V1 f1 g1 _ i1 i2 => ⟨b7, ?_⟩)
  have e245 : V1 245 = M0 245 := by rw [f1 245 (by decide)]; exact tm 245 (by decide) (by decide) (by decide)
  rw [e245]
  refine main V1 f1 g1 (fun i w => ?_) (fun j j0 j1 => ?_)
  · have u := i2 i (fun j j0 j1 => by omega)
    exact ⟨u.2, u.1⟩
  · have u := i1 j j0 j1
    have r := (r2 j j0 (by omega)).1 (hat.mp ⟨z, y⟩)
    have vf : h_vf C0 M0 Im q j = Im (300 * C0 520 q + j) := if_pos o
    rw [r, ← vf]
    exact ⟨u.2 (by decide), u.1⟩
end ModelD
