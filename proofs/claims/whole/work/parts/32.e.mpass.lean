/-! THE MODEL'S TICK: a part is passed; a row of parts -/
section ModelE
variable {d : Nat} {C0 M0 P V V0 V1 W X X' : ax_V} {F G Hh S U J Im : Int → Int} {n q e a b c lv f g m l fl : Int} {k : Nat} {s t : Int → Prop} {R : h_R} {Φ : Int → ax_V → Prop} {Ψ Θ : ax_V → Prop}
theorem h_J.of (h : h_J C0 M0 U F S k n b lv V0 V s R) (te : ∀ v, t v ↔ s v) : h_J C0 M0 U F S k n b lv V0 V t R := by
  have e : t = s := funext fun v => propext (te v)
  rw [e]; exact h
theorem h_onM (hJ : h_J2 M0 n lv V R) {c : Int} (hc : 0 ≤ c ∧ c ≤ 52) (r : ¬ c = 0 → ¬ V 295 (26 * lv + (c - 1) / 2) = 0) : h_on (h_ml V lv) c ↔ h_on (R []) c := by
  have e2 : ∀ l, h_ml V lv 2 l = V 294 (26 * lv + l) := fun l => if_pos rfl
  have e1 : ∀ l, h_ml V lv 1 l = V 293 (26 * lv + l) := fun l => if_neg (by decide)
  by_cases z : c = 0
  · exact ⟨fun _ => Or.inl z, fun _ => Or.inl z⟩
  · obtain ⟨u1, u2⟩ := hJ.1 _ (by omega) (by omega) (r z)
    unfold h_on
    rw [e2, e1, u1]
    constructor
    · rintro (w | w)
      · exact absurd w z
      · exact Or.inr ⟨w.1, by rw [← (u2 w.1).1]; exact w.2⟩
    · rintro (w | w)
      · exact absurd w z
      · exact Or.inr ⟨w.1, by rw [(u2 w.1).1]; exact w.2⟩
theorem h_WM.sum {y cell : Int} (hs : (M0 241 q = 10 ∨ M0 241 q = 11) → 0 ≤ M0 243 q ∧ M0 243 q < 700) (h : h_WM M0 V y q cell W) : (∀ c, ¬ c = 222 → ¬ c = 292 → W c = V c) ∧ (∀ f, ¬ f = 101 → W 222 f = V 222 f) ∧ (∀ i, ¬ (M0 241 q = 19 ∧ i = cell) → W 292 i = V 292 i) ∧ (M0 241 q = 19 → W 292 cell = 1) ∧ (∀ x, x < 700 → (h_fl W ≤ x ↔ (h_fl V ≤ x ∨ ((M0 241 q = 10 ∨ M0 241 q = 11) ∧ y = 0 ∧ M0 243 q ≤ x)))) ∧ (h_fo V → h_fo W) := by
  rcases h with ⟨o, e⟩ | ⟨o, z, e⟩ | ⟨o, z, e⟩
  · rw [e]
    refine ⟨fun c _ z => ax_u_ne z, fun f _ => by rw [ax_u_ne (by decide)], fun i hi => ax_u_k (fun z => hi ⟨o, z⟩), fun _ => ax_u_s _ _ _ _, fun x _ => ?_, fun z => ?_⟩
    · unfold h_fl
      rw [ax_u_ne (by decide)]
      exact ⟨fun y => Or.inl y, fun y => by rcases y with y | y; exact y; exact absurd o (by have := y.1; omega)⟩
    · unfold h_fo at z ⊢
      rw [ax_u_ne (by decide)]; exact z
  · have sg := hs o
    rw [e]
    refine ⟨fun c z _ => ax_u_ne z, fun f z => ax_u_k z, fun i _ => by rw [ax_u_ne (by decide)], fun w => absurd w (by omega), fun x hx => ?_, fun w => ?_⟩
    · unfold h_fl
      rw [ax_u_s]
      by_cases v1 : V 222 101 = -1
      · rw [if_pos (Or.inl v1), if_pos v1, if_neg (by omega)]
        exact ⟨fun w => Or.inr ⟨o, z, w⟩, fun w => by rcases w with w | w; omega; exact w.2.2⟩
      · rw [if_neg (c := V 222 101 = -1) v1]
        by_cases v2 : M0 243 q < V 222 101
        · rw [if_pos (Or.inr v2), if_neg (by omega)]
          exact ⟨fun w => Or.inr ⟨o, z, w⟩, fun w => by rcases w with w | w; omega; exact w.2.2⟩
        · rw [if_neg (c := V 222 101 = -1 ∨ M0 243 q < V 222 101) (by omega), if_neg v1]
          exact ⟨fun w => Or.inl w, fun w => by rcases w with w | w; exact w; have := w.2.2; omega⟩
    · unfold h_fo at w ⊢
      rw [ax_u_s]
      split
      · exact Or.inr sg
      · rcases w with w | w
        · exact Or.inl w
        · exact Or.inr w
  · rw [e]
    exact ⟨fun _ _ _ => rfl, fun _ _ => rfl, fun _ _ => rfl, fun w => absurd w o, fun x _ => ⟨fun w => Or.inl w, fun w => by rcases w with w | w; exact w; exact absurd ⟨w.1, w.2.1⟩ z⟩, fun w => w⟩
/-- what a part must find -/
def h_cd (C M : ax_V) (S : Int → Int) (n lv : Int) (V : ax_V) (s : Int → Prop) (R : h_R) (q : Int) : Prop := ((0 ≤ q ∧ q < (M 222 26)) ∧ M 250 q = n) ∧ (h_ac M S n (R []) q ↔ h_on (R []) (S q)) ∧ (¬ S q = 0 → ¬ V 295 (26 * lv + (S q - 1) / 2) = 0) ∧ ((M 241 q = 2 ∨ M 241 q = 20 ∨ M 241 q = 21 ∨ (M 241 q = 22 ∧ ¬ M 248 q = -1)) → ¬ V 295 (26 * lv + M 248 q) = 0) ∧ (∀ e, 0 ≤ e → e < (M 222 44) → M 261 e ≤ q → q ≤ M 262 e → (¬ M 263 e = -1 → s (2048 + M 263 e)) ∧ ¬ (¬ M 263 e = -1 ∧ s (5120 + M 263 e))) ∧ (M 241 q = 22 → ¬ s q)
set_option maxHeartbeats 4000000 in
theorem s_pass (hX : h_X C0 M0 P F G Hh S U J Im) (hn : h_N M0 U J n) (hk : n < ((k + 1 : Nat) : Int)) (ht : h_tick C0 M0 U J F S Im k) (hlv : 0 ≤ lv ∧ lv + n ≤ 7) (hb : 0 ≤ b ∧ b + g_T C0 M0 U n ≤ 600) (hV : h_RM C0 M0 S U J Im V) (hg : ax_g V) (hfo : h_fo V) (hR : h_TK C0 M0 U S Im (k + 1) n R) (hm : h_MS C0 M0 U F (k + 1) n (R [] 5)) (hJ : h_J C0 M0 U F S k n b lv V0 V s R) (te : ∀ v, t v ↔ (s v ∨ v = q)) (cd : h_cd C0 M0 S n lv V s R q) (cK : ∀ x, e_kid M0 q x → M0 241 q = 6 ∨ s x)
    (next : ∀ W, h_J C0 M0 U F S k n b lv V0 W t R → h_MF C0 M0 U n b lv V W → h_KL lv V W → h_J7 C0 M0 S n lv q W R → Ψ W) : ax_I ay_lay (d + 10 * k + 3) q_Model_isOn [.ref 222, ax_i lv, ax_i (S q)] V (fun r1 V1 => ((r1 = 0 → Ψ V1) ∧ (¬ r1 = 0 → ax_N ay_lay (d + 10 * k + 3) q_Model_work [.ref 222, ax_i lv, ax_i n, ax_i b, ax_i q] V1 Ψ Θ))) Θ := by
  have hS := hX.hS
  have sm := hS.small
  have hN := hS.2.1
  have nn := hn.1
  obtain ⟨⟨⟨q0, q1⟩, qn⟩, acon, cC, cL, w4, cF⟩ := cd
  have tb := hX.tb n
  have sp := hX.sp hn q0 q1 qn
  have sb := hX.hr q
  have s0 := hS.Snn hX.hT q0 q1
  have on := h_onM (n := n) (M0 := M0) (R := R) hJ.2.1 ⟨s0, sb.2⟩ cC
  have sgn : (M0 241 q = 10 ∨ M0 241 q = 11) → 0 ≤ M0 243 q ∧ M0 243 q < 700 := fun z => (((hS.p q0 q1).2.2.2.2.2.2.1).2.2.2.2.2.1 (by omega)).2
  refine s_isOnT hg ⟨by omega, by omega⟩ ⟨s0, sb.2⟩ (fun yes => ⟨fun z => absurd z (by decide), fun _ => ?_⟩) (fun no => ⟨fun _ => ?_, fun z => absurd rfl z⟩)
  · have ac := acon.mpr (on.mp yes)
    by_cases o : M0 241 q = 22
    · -- a call
      have w := hX.sub hn q0 q1 qn o
      have b7 : 0 ≤ q ∧ q < 701 := ⟨q0, by omega⟩
      have rq : ax_rg q := ⟨by omega, by omega⟩
      have rl : ax_rg lv := ⟨by omega, by omega⟩
      have rn : ax_rg n := ⟨by omega, by omega⟩
      have rb : ax_rg b := ⟨by omega, by omega⟩
      have tm := hV.1
      have ar := hS.ar q0 q1
      unfold e_ar at ar
      have bq : M0 246 q = -1 := by omega
      have s3 : ax_wr (ax_wr (701 * lv) + q) = 701 * lv + q := by rw [ax_wr_i (x := 701 * lv) ⟨by omega, by omega⟩]; exact ax_wr_i ⟨by omega, by omega⟩
      have main : ∀ L, ax_rg L → k_Model_work_70 (d + 10 * k + 2) lv n b q 0 0 none none L (ax_wr (26 * lv)) V Ψ Θ := by
        intro L rL
        refine r_Model_work_70 hg rl rn rb rq (by decide) (by decide) ax_y_n ax_y_n rL (ax_rg_of _) ?_
        rw [tm 241 (by decide) (by decide) (by decide), o]
        refine ⟨b7, fun z => absurd z (by decide), fun z => absurd z (by decide), fun z => absurd z (by decide), fun z => absurd z (by decide), fun z => absurd z (by decide), fun z => absurd z (by decide), fun z => absurd z (by decide), fun z => absurd z (by decide), fun z => absurd z (by decide), fun z => absurd z (by decide), fun z => absurd z (by decide), fun z => absurd z (by decide), fun z => absurd z (by decide), fun z => absurd z (by decide), fun z => absurd z (by decide), fun z => absurd z (by decide), fun z => absurd z (by decide), fun z => absurd z (by decide), fun z => absurd z (by decide), fun z => absurd z (by decide), fun _ _ _ _ _ _ _ _ _ _ _ _ _ _ _ _ _ _ _ _ _ _ => ?_⟩
        refine s_callM hX hn (by omega) ht hlv hb hV hg hfo hR hm hJ q0 q1 qn o ac (cF o) w4 (fun z => cL (Or.inr (Or.inr (Or.inr ⟨o, z⟩)))) (fun x kx => by rcases cK x kx with z | z; omega; exact z) (fun W hC h7 ty => ?_)
        obtain ⟨⟨c1, c2, c3, c4⟩, c5, c6, c7, c8, c9, c10⟩ := hC
        have rv : ax_rg (R [] 0 q) := by
          have v0 := hR.1 q q0 q1 qn ac
          unfold h_vq at v0
          rw [if_pos o] at v0
          have u := h7 q0 q1 o ac 0 (Int.le_refl _) (by have := hX.ok.out hS w.1.1.1 w.1.1.2; omega)
          rw [Int.add_zero] at u
          rw [v0, ← u.1]; exact c3 _ _
        refine r_Model_work_518 c3 rl (ax_y_i _) (ax_y_i _) rq (ax_y_i _) (ax_y_i _) (ax_y_i _) rv ?_
        rw [s3]
        refine ⟨⟨by omega, by omega⟩, fun W2 e2 => ?_⟩
        have k2 : ∀ c, ¬ c = 296 → W2 c = W c := fun c z => by rw [e2]; exact ax_u_ne z
        have klW : h_KL lv V W2 := ⟨fun x z => by rw [k2 293 (by decide), k2 294 (by decide), k2 295 (by decide)]; exact c5.1 x z, fun x z => by rw [k2 297 (by decide), k2 298 (by decide)]; exact c5.2 x z⟩
        refine next W2 (hJ.pass hX hn te q0 q1 qn w4 (fun _ => ⟨by rw [e2, ax_u_s], ty⟩) (fun x x0 x1 xq => by rw [e2, ax_u_k (by omega)]; exact c6 _ (by omega)) klW (fun i z => by rw [k2 291 (by decide)]; exact (c7 i (fun y => z ⟨o, y⟩)).1) (fun i z => by rw [k2 292 (by decide)]; exact (c7 i z).2) (fun z => by omega) (fun _ j j0 j1 => by rw [k2 292 (by decide)]; exact c8 j j0 j1) (fun x hx => ?_) (fun _ _ => c10)) ⟨⟨?_, fun i z => by rw [k2 222 (by decide)]; exact c2 i z, by rw [e2]; exact ax_u_g c3 rv, by unfold h_fo; rw [k2 222 (by decide)]; exact c4⟩, fun i z => by rw [k2 291 (by decide), k2 292 (by decide)]; exact c7 i (by omega), fun x z => by rw [k2 293 (by decide), k2 294 (by decide), k2 295 (by decide)]; exact c5.1 x (by omega), fun x z => by rw [e2, ax_u_k (by omega)]; exact c6 x (by omega), fun x z => by rw [k2 297 (by decide), k2 298 (by decide)]; exact c5.2 x (by omega)⟩ klW (fun a1 a2 a3 a4 i i0 i1 => by rw [k2 293 (by decide)]; exact h7 a1 a2 a3 a4 i i0 i1)
        · have ef : h_fl W2 = h_fl W := by unfold h_fl; rw [k2 222 (by decide)]
          rw [ef, c9 x hx]
          constructor
          · rintro (z | z)
            · exact Or.inl z
            · exact Or.inr (Or.inr ⟨ac, o, z⟩)
          · rintro (z | z | z)
            · exact Or.inl z
            · omega
            · exact Or.inr z.2.2
        · rw [e2]; exact c1.u (by decide)
      refine r_Model_work hg rl rn rb rq ?_
      rw [tm 241 (by decide) (by decide) (by decide)]
      refine ⟨b7, fun _ => ?_, fun z => absurd o z⟩
      refine r_Model_work_28 hg rl rn rb rq ax_y_n ax_y_n ax_y_n ax_y_n (by decide) ?_
      rw [tm 246 (by decide) (by decide) (by decide), bq]
      refine ⟨b7, s_valueAt hg ⟨by omega, by omega⟩ ⟨by decide, by decide⟩ ?_⟩
      rw [if_pos rfl]
      exact ⟨b7, fun z => main 0 (by decide), fun z => ⟨b7, main _ (hg _ _)⟩⟩
    · -- no call
      have sl : (M0 241 q = 6 ∨ M0 241 q = 19) → V 257 q = g_sp C0 M0 U n q.toNat := fun z => hV.slot hX hn q0 q1 qn (by rcases z with z | z; exact Or.inl z; exact Or.inr (Or.inl z))
      have vl : (M0 241 q = 6 ∨ M0 241 q = 19) → g_vl C0 M0 U q = 1 := fun z => if_pos z
      have l3 : M0 241 q = 3 → (0 ≤ M0 248 q ∧ M0 248 q < 26) ∧ ¬ M0 236 (26 * n + M0 248 q) = 0 := fun z => by
        have hl := hX.l3 q0 q1 z
        rw [qn] at hl
        exact ⟨hS.pl q0 q1 (Or.inr (Or.inl z)), hl⟩
      have eqo : (M0 241 q = 6 ∨ M0 241 q = 19) → ∃ e, (0 ≤ e ∧ e < (M0 222 44)) ∧ M0 258 e = n ∧ M0 261 e ≤ q ∧ q ≤ M0 262 e := fun z => hX.ine q0 q1 qn (by rcases z with z | z; exact Or.inl z; exact Or.inr (Or.inl z))
      refine s_work hS hV hg ⟨by omega, by omega⟩ nn.1 nn.2 ⟨by omega, by omega⟩ q0 q1 qn o (fun z => ?_) (fun z => ?_) (fun v V1 W rv hv hW g1 eW => ?_)
      · have := vl z
        rw [sl z]; omega
      · have z3 := l3 z
        have u := (hX.l5 hn z3.1.1 z3.1.2 z3.2).2
        rw [hV.lslot hX hn z3.1.1 z3.1.2 z3.2]; omega
      · have onq := acon.mp ac
        have kv : ∀ x, e_kid M0 q x → ¬ M0 241 q = 6 → h_ac M0 S n (R []) x → V 296 (701 * lv + x) = R [] 0 x ∧ (F x = 1 → R [] 0 x = 0 ∨ R [] 0 x = 1) := fun x kx o6 ax => by
          have xx := hX.acn ax
          rcases cK x kx with z | z
          · exact absurd z o6
          · exact hJ.1 x xx.1.1 xx.1.2 xx.2 z ax
        have lt0 : (M0 241 q = 2 ∨ M0 241 q = 21) → V 293 (26 * lv + M0 248 q) = R [] 1 (M0 248 q) ∧ (M0 233 (26 * n + M0 248 q) = 1 → R [] 1 (M0 248 q) = 0 ∨ R [] 1 (M0 248 q) = 1) := fun z => by
          have l := hS.pl q0 q1 (by omega)
          have kd : ¬ M0 232 (26 * n + M0 248 q) = 0 := by
            by_cases o2 : M0 241 q = 2
            · have u := hX.ok.told hS q0 q1 (Or.inl o2)
              rw [qn] at u; exact u
            · have u := hX.ok.truth hS q0 q1 (by omega)
              rw [qn] at u
              exact fun y => u (Or.inl y)
          have c := (hS.Sown (F := F) (Hh := Hh) hX.hG hX.hT hX.n4 q0 q1).1 (by omega)
          rw [c, qn] at onq
          have p := (hX.pr hn hR hm l.1 l.2 kd).1.mpr onq
          exact (hJ.2.1.1 _ l.1 l.2 (cL (by omega))).2 p
        have m3 : M0 241 q = 3 → V 291 (b + V 240 (26 * n + M0 248 q)) = R [] 5 (g_ll M0 n (M0 248 q).toNat) := fun z => by
          have z3 := l3 z
          rw [hV.lslot hX hn z3.1.1 z3.1.2 z3.2]
          exact hJ.2.2.2.1.1 _ z3.1.1 z3.1.2 z3.2
        have m7 : (M0 241 q = 6 ∨ M0 241 q = 19) → V 291 (b + V 257 q) = R [] 7 (g_sp C0 M0 U n q.toNat) := fun z => by
          obtain ⟨e, ee, en, ea, eb⟩ := eqo z
          have v1 := vl z
          have w := w4 e ee.1 ee.2 ea eb
          have u := (hJ.2.2.2.1.2.2 e q 0 ee.1 ee.2 en ea eb (Int.le_refl _) (by omega) (fun y => absurd y o)).1 (by
            by_cases y : M0 263 e = -1
            · exact Or.inl y
            · exact Or.inr (w.1 y))
          rw [Int.add_zero] at u
          rw [sl z]; exact u
        obtain ⟨x3, x4, x5⟩ := h_valM hX hn hR hm q0 q1 qn o ac (pv := fun x => V 296 (701 * lv + x)) (y := V 293 (26 * lv + M0 248 q)) (μ3 := V 291 (b + V 240 (26 * n + M0 248 q))) (μ7 := V 291 (b + V 257 q)) kv lt0 m3 m7
        have ev := x4 v hv
        obtain ⟨s1, s2, s3, s4, s5, s6⟩ := hW.sum sgn
        have k1 : ∀ c, ¬ c = 296 → W c = V1 c := fun c z => by rw [eW]; exact ax_u_ne z
        have klW : h_KL lv V W := ⟨fun x _ => by rw [k1 293 (by decide), k1 294 (by decide), k1 295 (by decide), s1 293 (by decide) (by decide), s1 294 (by decide) (by decide), s1 295 (by decide) (by decide)]; exact ⟨rfl, rfl, rfl⟩, fun x _ => by rw [k1 297 (by decide), k1 298 (by decide), s1 297 (by decide) (by decide), s1 298 (by decide) (by decide)]; exact ⟨rfl, rfl⟩⟩
        have c19 : M0 241 q = 19 → g_vl C0 M0 U q = 1 ∧ V 257 q = g_sp C0 M0 U n q.toNat := fun z => ⟨vl (Or.inr z), sl (Or.inr z)⟩
        have efl : h_fl W = h_fl V1 := by unfold h_fl; rw [k1 222 (by decide)]
        refine next W (hJ.pass hX hn te q0 q1 qn w4 (fun _ => ⟨by rw [eW, ax_u_s]; exact ev, x5⟩) (fun x x0 x1 xq => by rw [eW, ax_u_k (by omega), s1 296 (by decide) (by decide)]) klW (fun i _ => by rw [k1 291 (by decide), s1 291 (by decide) (by decide)]) (fun i z => by rw [k1 292 (by decide)]; exact s3 i (fun y => by have := c19 y.1; omega)) (fun z => by rw [k1 292 (by decide)]; exact funext fun i => s3 i (fun y => by omega)) (fun o6 j j0 j1 => ?_) (fun x hx => ?_) (fun z => absurd z o)) ⟨⟨fun c z => ?_, fun i z => ?_, by rw [eW]; exact ax_u_g g1 rv, by have := s6 hfo; unfold h_fo at this ⊢; rw [k1 222 (by decide)]; exact this⟩, fun i z => ?_, fun x z => klW.1 x (by omega), fun x z => by rw [eW, ax_u_k (by omega), s1 296 (by decide) (by decide)], fun x z => klW.2 x (by omega)⟩ klW (fun _ _ z => absurd z o)
        · by_cases o19 : M0 241 q = 19
          · obtain ⟨e, ee, en, ea, eb⟩ := eqo (Or.inr o19)
            have cc := c19 o19
            have r := (hR.2.2.2.2.2.1 e q j ee.1 ee.2 en ea eb j0 j1).2.1 ac
            rw [if_neg o6, if_pos o19] at r
            rw [r, k1 292 (by decide), show j = 0 by omega, Int.add_zero, ← cc.2]
            exact s4 o19
          · exfalso
            unfold g_vl at j1
            rw [if_neg (by omega), if_neg o] at j1
            omega
        · rw [efl, s5 x hx]
          constructor
          · rintro (z | z)
            · exact Or.inl z
            · exact Or.inr (Or.inl ⟨ac, z.1, by rw [← x3 z.1]; exact z.2.1, z.2.2⟩)
          · rintro (z | z | z)
            · exact Or.inl z
            · exact Or.inr ⟨z.2.1, by rw [x3 z.2.1]; exact z.2.2.1, z.2.2.2⟩
            · exact absurd z.2.1 o
        · have z1 : ¬ c = 222 ∧ ¬ c = 292 ∧ ¬ c = 296 := by
            simp only [List.mem_cons, List.not_mem_nil, or_false, not_or] at z
            exact ⟨z.1, z.2.2.1, z.2.2.2.2.2.2.1⟩
          rw [k1 c z1.2.2, s1 c z1.1 z1.2.1]
        · rw [k1 222 (by decide)]
          exact s2 i (by simp at z; exact z)
        · rw [k1 291 (by decide), k1 292 (by decide), s1 291 (by decide) (by decide)]
          refine ⟨rfl, s3 i (fun y => ?_)⟩
          have := c19 y.1
          omega
  · have no' : ¬ h_ac M0 S n (R []) q := fun z => no (on.mpr (acon.mp z))
    exact next V (hJ.skip hX hn hR te q0 q1 qn w4 no') ⟨⟨fun _ _ => rfl, fun _ _ => rfl, hg, hfo⟩, fun _ _ => ⟨rfl, rfl⟩, fun _ _ => ⟨rfl, rfl, rfl⟩, fun _ _ => rfl, fun _ _ => ⟨rfl, rfl⟩⟩ (h_KL.rf lv V) (fun _ _ _ z => absurd z no')
set_option maxHeartbeats 1000000 in
theorem s_workAll (hX : h_X C0 M0 P F G Hh S U J Im) (hn : h_N M0 U J n) (hk : n < ((k + 1 : Nat) : Int)) (ht : h_tick C0 M0 U J F S Im k) (hlv : 0 ≤ lv ∧ lv + n ≤ 7) (hb : 0 ≤ b ∧ b + g_T C0 M0 U n ≤ 600) (hV : h_RM C0 M0 S U J Im V) (hg : ax_g V) (hfo : h_fo V) (hR : h_TK C0 M0 U S Im (k + 1) n R) (hm : h_MS C0 M0 U F (k + 1) n (R [] 5)) (hJ : h_J C0 M0 U F S k n b lv V0 V s R) (rg : 0 ≤ f ∧ f ≤ g + 1 ∧ g < (M0 222 26)) (hfl : fl = 0 ∨ fl = 1) (cd : ∀ q, f ≤ q → q ≤ g → C0 526 q = fl → h_cd C0 M0 S n lv V s R q ∧ ∀ x, e_kid M0 q x → M0 241 q = 6 ∨ s x ∨ (f ≤ x ∧ C0 526 x = fl)) (te : ∀ v, t v ↔ (s v ∨ (f ≤ v ∧ v ≤ g ∧ C0 526 v = fl)))
    (next : ∀ W, h_J C0 M0 U F S k n b lv V0 W t R → h_MF C0 M0 U n b lv V W → h_KL lv V W → (f ≤ g → C0 526 g = fl → h_J7 C0 M0 S n lv g W R) → Ψ W) : ax_N ay_lay (d + 10 * k + 4) q_Model_workAll [.ref 222, ax_i lv, ax_i n, ax_i b, ax_i f, ax_i g, ax_i fl] V Ψ Θ := by
  have hS := hX.hS
  have sm := hS.small
  have hN := hS.2.1
  have nn := hn.1
  have tb := hX.tb n
  have rl : ax_rg lv := ⟨by omega, by omega⟩
  have rn : ax_rg n := ⟨by omega, by omega⟩
  have rb : ax_rg b := ⟨by omega, by omega⟩
  have rf : ax_rg f := ⟨by omega, by omega⟩
  have rg' : ax_rg g := ⟨by omega, by omega⟩
  have rfl' : ax_rg fl := ⟨by omega, by omega⟩
  refine r_Model_workAll hg rl rn rb rf rg' rfl' ?_
  refine ax_for (I := fun p X => (f ≤ p ∧ p ≤ g + 1) ∧ (∃ u : Int → Prop, (∀ v, u v ↔ (s v ∨ (f ≤ v ∧ v < p ∧ C0 526 v = fl))) ∧ h_J C0 M0 U F S k n b lv V0 X u R) ∧ h_MF C0 M0 U n b lv V X ∧ h_KL lv V X ∧ (f < p → C0 526 (p - 1) = fl → h_J7 C0 M0 S n lv (p - 1) X R)) (K := fun p X => k_Model_workAll_4 (d + 10 * k + 3) lv n b (some (ax_i f)) g fl p X Ψ Θ) (hi := g + 1) (fun p X w hI nx => ?_) (fun p X w hI => ?_) f V ⟨⟨Int.le_refl _, rg.2.1⟩, ⟨s, fun v => ⟨fun z => Or.inl z, fun z => by rcases z with z | z; exact z; omega⟩, hJ⟩, ⟨⟨fun _ _ => rfl, fun _ _ => rfl, hg, hfo⟩, fun _ _ => ⟨rfl, rfl⟩, fun _ _ => ⟨rfl, rfl, rfl⟩, fun _ _ => rfl, fun _ _ => ⟨rfl, rfl⟩⟩, h_KL.rf lv V, fun z => by omega⟩
  · obtain ⟨pb, ⟨u, ue, jX⟩, fX, kX, -⟩ := hI
    have rX := fX.rm hV
    have b7 : 0 ≤ p ∧ p < 701 := ⟨by omega, by omega⟩
    refine r_Model_workAll_4 fX.1.2.2.1 rl rn rb (ax_y_i _) rg' rfl' ⟨by omega, by omega⟩ ⟨fun z => by omega, fun _ => ⟨b7, ?_⟩⟩
    rw [rX.2.2.2.2.2.1 p (by omega) (by omega), rX.2.2.2.2.1 p (by omega) (by omega)]
    refine ⟨fun z => ⟨b7, ?_⟩, fun z => nx X ⟨⟨by omega, by omega⟩, ⟨u, fun v => ?_, jX⟩, fX, kX, fun _ y => absurd (by rw [show p + 1 - 1 = p by omega] at y; exact y) z⟩⟩
    · obtain ⟨⟨⟨c1, c2⟩, c3, c4, c5, c6, c7⟩, cK⟩ := cd p pb.1 (by omega) z
      obtain ⟨u', ue'⟩ : ∃ u' : Int → Prop, ∀ v, u' v ↔ (u v ∨ v = p) := ⟨fun v => u v ∨ v = p, fun _ => Iff.rfl⟩
      have cdX : h_cd C0 M0 S n lv X u R p := by
        refine ⟨⟨c1, c2⟩, c3, fun y => ?_, fun y => ?_, fun e e0 e1 ea eb => ?_, fun y w' => ?_⟩
        · have hr := hX.hr p
          have s0 := hS.Snn hX.hT c1.1 c1.2
          rw [(kX.1 (26 * lv + (S p - 1) / 2) (by omega)).2.2]; exact c4 y
        · have l := hS.pl c1.1 c1.2 (by omega)
          rw [(kX.1 (26 * lv + M0 248 p) (by omega)).2.2]; exact c5 y
        · have c := c6 e e0 e1 ea eb
          refine ⟨fun y => (ue _).mpr (Or.inl (c.1 y)), fun y => c.2 ⟨y.1, ?_⟩⟩
          rcases (ue _).mp y.2 with r | r
          · exact r
          · have : 0 ≤ M0 263 e := by
              rcases hS.st e0 e1 with y' | y'
              · exact absurd y'.2.1 y.1
              · exact y'.2.1.1
            omega
        · rcases (ue _).mp w' with r | r
          · exact c7 y r
          · omega
      refine s_pass hX hn hk ht hlv hb rX fX.1.2.2.1 fX.1.2.2.2 hR hm jX ue' cdX (fun x kx => ?_) (fun W jW fW kW h7 => nx W ⟨⟨by omega, by omega⟩, ⟨u', fun v => ?_, jW⟩, fX.tr fW, kX.tr kW, fun _ _ => by rw [show p + 1 - 1 = p by omega]; exact h7⟩)
      · have lt := ((hS.p c1.1 c1.2).2.2.2.2.2.2.2.2.2.2 x kx).1
        rcases cK x kx with y | y | y
        · exact Or.inl y
        · exact Or.inr ((ue x).mpr (Or.inl y))
        · exact Or.inr ((ue x).mpr (Or.inr ⟨y.1, lt, y.2⟩))
      · rw [ue', ue]
        constructor
        · rintro ((y | y) | y)
          · exact Or.inl y
          · exact Or.inr ⟨y.1, by omega, y.2.2⟩
          · exact Or.inr ⟨by omega, by omega, by rw [y]; exact z⟩
        · rintro (y | y)
          · exact Or.inl (Or.inl y)
          · by_cases r : v = p
            · exact Or.inr r
            · exact Or.inl (Or.inr ⟨y.1, by omega, y.2.2⟩)
    · rw [ue]
      constructor
      · rintro (y | y)
        · exact Or.inl y
        · exact Or.inr ⟨y.1, by omega, y.2.2⟩
      · rintro (y | y)
        · exact Or.inl y
        · have r : ¬ v = p := fun r => z (by rw [← r]; exact y.2.2)
          exact Or.inr ⟨y.1, by omega, y.2.2⟩
  · obtain ⟨pb, ⟨u, ue, jX⟩, fX, kX, h7⟩ := hI
    have ep : p = g + 1 := by omega
    refine r_Model_workAll_4 fX.1.2.2.1 rl rn rb (ax_y_i _) rg' rfl' ⟨by omega, by omega⟩ ⟨fun _ => next X (jX.of (fun v => ?_)) fX kX (fun z y => ?_), fun z => by omega⟩
    · rw [te, ue, ep]
      exact ⟨fun z => by rcases z with z | z; exact Or.inl z; exact Or.inr ⟨z.1, by omega, z.2.2⟩, fun z => by rcases z with z | z; exact Or.inl z; exact Or.inr ⟨z.1, by omega, z.2.2⟩⟩
    · have e1 : p - 1 = g := by omega
      rw [e1] at h7
      exact h7 (by omega) y
end ModelE
