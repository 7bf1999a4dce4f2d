/-! THE STEPS OF A TICK, one by one -/
/-- what calls leave has its sort -/
def h_I8 (C M : ax_V) (U F S : Int → Int) (k : Nat) (n : Int) (s : Int → Prop) (R : h_R) : Prop := ∀ q, 0 ≤ q → q < (M 222 26) → M 250 q = n → M 241 q = 22 → s q → h_ac M S n (R []) q → h_MS C M U F k (C 520 q) (R [q] 6)
/-- before the step p -/
def h_L (C M : ax_V) (U F S Im : Int → Int) (k : Nat) (n b : Int) (V0 : ax_V) (f : Int → Int) (F0 p : Int) (W : ax_V) : Prop := h_WI C M U (k + 1) n b V0 W ∧ h_WA C M n W ∧ ∀ R, h_TK C M U S Im (k + 1) n R → h_IN C M U F (k + 1) n b V0 R → h_IR C M U F S k n b V0 W (g_st f F0 p) R ∧ h_I8 C M U F S k n (g_st f F0 p) R ∧ (F0 < p → h_I7 C M S n (f (p - 1)) W R)
section Steps1
variable {B d : Nat} {C0 M0 P V V0 V1 V2 W W3 : ax_V} {F G Hh S U J Im : Int → Int} {n q e a b x m T : Int} {k : Nat} {s t : Int → Prop} {R : h_R} {f : Int → Int} {F0 p : Int} {Φ : Int → ax_V → Prop} {Ψ Θ : ax_V → Prop}
theorem g_st_s (hp : F0 ≤ p) (v : Int) : g_st f F0 (p + 1) v ↔ (g_st f F0 p v ∨ v = f p) := by
  constructor
  · rintro ⟨j, j0, j1⟩
    by_cases z : j = p
    · rw [z] at j1; exact Or.inr j1.symm
    · exact Or.inl ⟨j, ⟨j0.1, by omega⟩, j1⟩
  · rintro (⟨j, j0, j1⟩ | z)
    · exact ⟨j, ⟨j0.1, by omega⟩, j1⟩
    · exact ⟨p, ⟨hp, by omega⟩, z.symm⟩
theorem h_WI.tab (h : h_WI C0 M0 U k n b V0 W) (hP : ∀ c, 500 ≤ c → c ≤ 573 → V0 c = P c) : ∀ c, 500 ≤ c → c ≤ 573 → W c = P c := fun c x y => by
  rw [h.1.1 c (by simp; omega)]; exact hP c x y
/-- is a part on, at its step or later -/
theorem t_onAt (hX : h_X C0 M0 P F G Hh S U J Im) (hn : h_N M0 U J n) (hP : ∀ c, 500 ≤ c → c ≤ 573 → W c = P c) (hg : ax_g W) (q0 : 0 ≤ q) (q1 : q < (M0 222 26)) (qn : M0 250 q = n) (h1 : ((C0 525 q = -1 ∧ h_on (h_lv W n) (S q)) ∨ (¬ C0 525 q = -1 ∧ W 154 (C0 563 (C0 525 q)) = C0 525 q)) → Φ 1 W) (h0 : ¬ ((C0 525 q = -1 ∧ h_on (h_lv W n) (S q)) ∨ (¬ C0 525 q = -1 ∧ W 154 (C0 563 (C0 525 q)) = C0 525 q)) → Φ 0 W) : ax_I (az_W B (az_EM B)) (d + 2) q_Machine_isOn [.ref 150, ax_i q] W Φ Θ := by
  refine t_isOn hX.hS hP hX.hP hg hn.1.1 hn.1.2 q0 q1 qn (fun st => ⟨?_, hX.hS.Snn hX.hT q0 q1, (hX.hr q).2⟩) h1 h0
  refine (hX.dn hn).2.2.2.2.2.1 q ?_
  have hB := hX.hS.2.2.2.2.1
  rcases hB.2.2.2.2.2.1.1 q q0 q1 with ⟨e, e0, e1, ea, eb⟩ | ⟨m, m0, m1, ma, mb⟩
  · have fx := (hB.2.1 e e0 e1).2.2.2.2.2.1.2.2 q ea eb
    exact ⟨e, ⟨e0, e1⟩, by rw [← fx.1.1]; exact qn, ea, eb⟩
  · have fx := (hB.2.2.2.2.1 m m0 m1).2.2.2.2.2.2.2.2.2 q ma mb
    have tm := (hX.hS.tr m0 m1).2
    rw [fx.1.2.1] at st
    omega
/-- a part that is no call: the world -/
theorem h_WI.work (hX : h_X C0 M0 P F G Hh S U J Im) (hn : h_N M0 U J n) (q0 : 0 ≤ q) (q1 : q < (M0 222 26)) (qn : M0 250 q = n) (o : ¬ M0 241 q = 22) (has : h_AS C0 M0 U (k + 1) n b (V 155)) (hg : ax_g V) {v : Int} (rv : ax_rg v) (hW : h_W M0 V q (b + g_cp C0 M0 U n q.toNat) W) (e3 : W3 = ax_u W 151 q v) : h_WI C0 M0 U (k + 1) n b V W3 := by
  obtain ⟨s1, s2, s3, s4, s5⟩ := hW.sum
  have cq := hX.c5 hn q0 q1 qn
  have tb := hX.tb n
  have k1 : ∀ c, ¬ c = 151 → W3 c = W c := fun c z => by rw [e3]; exact ax_u_ne z
  have vl : M0 241 q = 19 → g_vl C0 M0 U q = 1 := fun z => if_pos (Or.inr z)
  have km : ∀ i, ¬ (M0 241 q = 19 ∧ i = b + g_cp C0 M0 U n q.toNat) → W3 155 i = V 155 i := fun i z => by rw [k1 155 (by decide)]; exact s3 i z
  refine ⟨⟨fun c z => ?_, fun f z => ?_, ?_⟩, fun i z => km i (fun y => ?_), fun y z => ?_, fun x x0 x1 xn => ?_, fun a a0 a1 an => ?_, ?_, ?_⟩
  · simp only [List.mem_cons, List.not_mem_nil, or_false, not_or] at z
    rw [k1 c z.2.1, s1 c z.1 z.2.2.2.2.2]
  · rw [k1 150 (by decide), s2 f z]
  · rw [e3]; exact ax_u_g (hW.g hX.hS q0 q1 hg) rv
  · have := vl y.1; omega
  · rw [k1 152 (by decide), k1 153 (by decide), s1 152 (by decide) (by decide), s1 153 (by decide) (by decide)]; exact ⟨rfl, rfl⟩
  · rw [e3, ax_u_k (fun w => by rw [w] at xn; omega), s1 151 (by decide) (by decide)]
  · rw [k1 154 (by decide), s1 154 (by decide) (by decide)]
  · refine h_AS.step hX hn has (fun a a0 a1 an => Or.inl (km _ (fun y => ?_))) (fun x x0 x1 xn xo => Or.inr (fun i i0 i1 => km _ (fun y => ?_)))
    · have ca := hX.a5 hn a0 a1 an
      have := vl y.1
      omega
    · have w : ¬ x = q := fun z => by rw [z] at xo; exact o xo
      have cd := hX.cd q0 q1 qn x0 x1 xn w
      have := vl y.1
      omega
  · rw [k1 150 (by decide)]; exact (s5 (V 150 10)).mpr (Or.inl (Int.le_refl _))
set_option maxHeartbeats 2000000 in
/-- WORK -/
theorem t_stepW (hX : h_X C0 M0 P F G Hh S U J Im) (hn : h_N M0 U J n) (hk : n < ((k + 1 : Nat) : Int)) (hgo : h_go C0 M0 P U J F S Im B k) (hb : 0 ≤ b ∧ b + g_T C0 M0 U n ≤ 300) (hP0 : ∀ c, 500 ≤ c → c ≤ 573 → V0 c = P c) (hSD : g_SD C0 M0 f F0 T n) (hp : F0 ≤ p ∧ p < T) (hL : h_L C0 M0 U F S Im k n b V0 f F0 p W) (q0 : 0 ≤ q) (q1 : q < (M0 222 26)) (fq : f p = q) (next : ∀ W', h_L C0 M0 U F S Im k n b V0 f F0 (p + 1) W' → Ψ W') : ax_I (az_W B (az_EM B)) (3 * k + 3) q_Machine_isOn [.ref 150, ax_i q] W (fun r1 V1 => ((r1 = 0 → Ψ V1) ∧ (¬ r1 = 0 → ax_I (az_W B (az_EM B)) (3 * k + 3) q_Machine_worth [.ref 150, ax_i q, ax_i n, ax_i b] V1 (fun r2 V2 => (0 ≤ q ∧ q < 700) ∧ (∀ V3, V3 = ax_u V2 151 q r2 → Ψ V3)) Θ))) Θ := by
  have hS := hX.hS
  have sm := hS.small
  have hN := hS.2.1
  have nn := hn.1
  have tb := hX.tb n
  obtain ⟨L1, L2, L3⟩ := hL
  have hPW := L1.tab hP0
  have gW := L1.1.2.2
  obtain ⟨sq1, sq2, -⟩ := hSD.2.1 p hp.1 hp.2
  rw [fq] at sq1 sq2
  have cl := hSD.2.1.cl hS nn.1 (k := p) (by omega)
  obtain ⟨qn, w1, w2, w3, w4, w5, noend⟩ := h_wk hS hX.ok hX.hT hX.hr hX.hcl nn.1 nn.2 cl q0 q1 sq1 sq2
  have te : ∀ v, g_st f F0 (p + 1) v ↔ (g_st f F0 p v ∨ v = q) := fun v => by rw [g_st_s hp.1, fq]
  have onq : ∀ R, h_TK C0 M0 U S Im (k + 1) n R → h_MS C0 M0 U F (k + 1) n (R [] 5) → h_IR C0 M0 U F S k n b V0 W (g_st f F0 p) R → (((C0 525 q = -1 ∧ h_on (h_lv W n) (S q)) ∨ (¬ C0 525 q = -1 ∧ W 154 (C0 563 (C0 525 q)) = C0 525 q)) ↔ h_ac M0 S n (R []) q) := fun R hR hm h => h_onq hS hX.hT hX.hr (h.2.1.rd hX hn hR hm) h.2.2.1 q0 q1 qn w3 w4 w5
  have i8 : ∀ R, h_I8 C0 M0 U F S k n (g_st f F0 p) R → (M0 241 q = 22 → h_ac M0 S n (R []) q → h_MS C0 M0 U F k (C0 520 q) (R [q] 6)) → h_I8 C0 M0 U F S k n (g_st f F0 (p + 1)) R := fun R h hq x x0 x1 xn xo xs xa => by
    rcases (te x).mp xs with z | z
    · exact h x x0 x1 xn xo z xa
    · rw [z] at xo xa ⊢; exact hq xo xa
  refine t_onAt hX hn hPW gW q0 q1 qn (fun on => ⟨fun z => absurd z (by decide), fun _ => ?_⟩) (fun off => ⟨fun _ => next W ⟨L1, L2, fun R hR hI => ?_⟩, fun z => absurd rfl z⟩)
  · by_cases o : M0 241 q = 22
    · have cq := hX.c5 hn q0 q1 qn
      have sb := hX.sub hn q0 q1 qn o
      obtain ⟨q', eq'⟩ := Int.eq_ofNat_of_zero_le q0
      have has : h_AS C0 M0 U k (C0 520 q) (b + g_cp C0 M0 U n q.toNat) (W 155) := by
        have u := L1.2.2.2.2.2.1.2 q' (by omega) (by rw [← eq']; exact qn) (by rw [← eq']; exact o)
        rw [← eq'] at u
        rw [show q.toNat = q' by omega]
        exact u
      refine t_worth22 hX hn q0 q1 qn o (by omega) hgo hb hPW gW has (fun V2 W2 hC hG => ⟨⟨q0, by omega⟩, fun W3 e3 => next W3 ⟨L1.tr (h_WI.call hX hn q0 q1 qn o L1.2.2.2.2.2.1 hC hG.1 e3), fun a a0 a1 an => ?_, fun R hR hI => ?_⟩⟩)
      · rw [(h_call_fr hX hn q0 q1 qn o hC hG.1 e3).2.2.2.2.1 a a0 a1 (by omega)]
        exact L2 a a0 a1 an
      · obtain ⟨j1, j2, j3⟩ := L3 R hR hI
        have ac := (onq R hR hI.2.1 j1).mp on
        obtain ⟨u1, u2, u3⟩ := j1.call hX hn hR hI.2.1 te q0 q1 qn o ac w1 w2 noend w4 sq1 hC hG e3
        exact ⟨u1, i8 R j2 (fun _ _ => u3), fun _ => by rw [show p + 1 - 1 = p by omega, fq]; exact u2⟩
    · have cq := hX.c5 hn q0 q1 qn
      have vl : (M0 241 q = 6 ∨ M0 241 q = 19) → g_vl C0 M0 U q = 1 := fun z => if_pos z
      have e531 : W 531 q = g_cp C0 M0 U n q.toNat := by rw [hPW 531 (by decide) (by decide)]; exact cq.1
      refine t_worth hS hPW hX.hP gW nn.1 nn.2 ⟨hb.1, by omega⟩ q0 q1 qn o (fun z => ?_) (fun z => ?_) (fun v W2 rv hW hv => ⟨⟨q0, by omega⟩, fun W3 e3 => ?_⟩)
      · have := vl z; rw [e531]; omega
      · have l := hS.pl q0 q1 (Or.inr (Or.inl z))
        have hl := hX.l3 q0 q1 z
        rw [qn] at hl
        have c := hX.l5 hn l.1 l.2 hl
        rw [hPW 540 (by decide) (by decide), c.1]; omega
      · rw [e531] at hW
        obtain ⟨s1, s2, s3, s4, s5⟩ := hW.sum
        have k1 : ∀ c, ¬ c = 151 → W3 c = W2 c := fun c z => by rw [e3]; exact ax_u_ne z
        refine next W3 ⟨L1.tr (h_WI.work hX hn q0 q1 qn o L1.2.2.2.2.2.1 gW rv hW e3), fun a a0 a1 an => ?_, fun R hR hI => ?_⟩
        · rw [k1 154 (by decide), s1 154 (by decide) (by decide)]
          exact L2 a a0 a1 an
        · obtain ⟨j1, j2, j3⟩ := L3 R hR hI
          have ac := (onq R hR hI.2.1 j1).mp on
          obtain ⟨x1, x2, x3, x4, x5⟩ := h_val hX hn hR hI.2.1 j1 q0 q1 qn o ac w1 w2 noend w4 sq1
          rw [hPW 540 (by decide) (by decide), hPW 531 (by decide) (by decide)] at hv
          have ev := x4 v (hv x1 x2)
          refine ⟨j1.worked hX hn te q0 q1 qn ac noend sq1 (fun x x0 x1 xn xq => by rw [e3, ax_u_k xq, s1 151 (by decide) (by decide)]) ⟨by rw [e3, ax_u_s]; exact ev, x5⟩ (fun y y0 y1 => ?_) (fun a a0 a1 an => ?_) (fun i i0 z => ?_) (fun i j sb z => ?_) (fun i j sb z => ?_) (fun x hx => ?_), i8 R j2 (fun z => absurd z o), fun _ => by rw [show p + 1 - 1 = p by omega, fq]; exact fun _ _ z => absurd z o⟩
          · rw [k1 152 (by decide), k1 153 (by decide), s1 152 (by decide) (by decide), s1 153 (by decide) (by decide)]; exact ⟨rfl, rfl⟩
          · rw [k1 154 (by decide), s1 154 (by decide) (by decide)]
          · rw [k1 155 (by decide)]
            exact s3 _ (fun y => by have := vl (Or.inr y.1); omega)
          · rw [k1 155 (by decide)]
            exact s3 _ (fun y => by omega)
          · rcases sb with y | y
            · have o19 : M0 241 q = 19 := by omega
              rw [k1 155 (by decide), y.2.1, y.2.2, Int.add_zero, s4 o19]
              obtain ⟨e, ee, en, ea, eb⟩ := hX.ine q0 q1 qn (Or.inr (Or.inl o19))
              have r := (hR.2.2.2.2.2.1 e q 0 ee.1 ee.2 en ea eb (Int.le_refl _) (by have := vl (Or.inr o19); omega)).2.1 ac
              rw [if_neg (by omega), if_pos o19] at r
              exact r.symm
            · exact absurd y.1 o
          · rw [k1 150 (by decide), s5 x]
            constructor
            · rintro (z | z)
              · exact Or.inl z
              · exact Or.inr (Or.inl ⟨z.1, by rw [← x3 z.1]; exact z.2.1, z.2.2⟩)
            · rintro (z | z | z)
              · exact Or.inl z
              · exact Or.inr ⟨z.1, by rw [x3 z.1]; exact z.2.1, z.2.2⟩
              · exact absurd z.1 o
  · obtain ⟨j1, j2, j3⟩ := L3 R hR hI
    have no : ¬ h_ac M0 S n (R []) q := fun z => off ((onq R hR hI.2.1 j1).mpr z)
    exact ⟨j1.off hX hn hR te q0 q1 qn no noend w4 sq1, i8 R j2 (fun _ z => absurd z no), fun _ => by rw [show p + 1 - 1 = p by omega, fq]; exact fun _ _ _ z => absurd z no⟩
end Steps1
