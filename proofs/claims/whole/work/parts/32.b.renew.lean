/-! THE MODEL BEGINS ANEW -/
/-- what is there at first -/
def h_vf (C M : ax_V) (Im : Int → Int) (q i : Int) : Int := if M 241 q = 22 then Im (300 * C 520 q + i) else 0
/-- the parts Q are as at first, then (and now, if f) -/
def h_RN (C M : ax_V) (U Im : Int → Int) (n b f : Int) (V : ax_V) (Q : Int → Prop) (X : ax_V) : Prop := (g_fr [291, 292] V X ∧ ax_g X ∧ (f = 0 → X 291 = V 291)) ∧ (∀ q i, Q q → 0 ≤ i → i < g_vl C M U q → X 292 (b + (g_sp C M U n q.toNat + i)) = h_vf C M Im q i ∧ (¬ f = 0 → X 291 (b + (g_sp C M U n q.toNat + i)) = h_vf C M Im q i)) ∧ ∀ x, (∀ q i, Q q → 0 ≤ i → i < g_vl C M U q → ¬ x = b + (g_sp C M U n q.toNat + i)) → X 292 x = V 292 x ∧ X 291 x = V 291 x
section ModelB
variable {d : Nat} {C0 M0 P V V0 V1 W X X' : ax_V} {F G Hh S U J Im : Int → Int} {n q e a b c lv f m l : Int} {Q Q' : Int → Prop} {Φ : Int → ax_V → Prop} {Ψ Θ : ax_V → Prop}
theorem h_RM.nk (hV : h_RM C0 M0 S U J Im V) (hX : h_X C0 M0 P F G Hh S U J Im) (hn : h_N M0 U J n) : g_NK C0 M0 U V n 26 ((M0 222 55)).toNat ((M0 222 26)).toNat := (hV.2.2.2.2.2.2.2.1 n hn.1.1 hn.1.2).2.2 (hX.t hn).1
theorem h_RM.much (hV : h_RM C0 M0 S U J Im V) (n0 : 0 ≤ n) (n1 : n < (M0 222 86)) : V 288 n = U n := (hV.2.2.2.2.2.2.2.1 n n0 n1).1
theorem h_RM.slot (hV : h_RM C0 M0 S U J Im V) (hX : h_X C0 M0 P F G Hh S U J Im) (hn : h_N M0 U J n) (q0 : 0 ≤ q) (q1 : q < (M0 222 26)) (qn : M0 250 q = n) (o : M0 241 q = 6 ∨ M0 241 q = 19 ∨ M0 241 q = 22) : V 257 q = g_sp C0 M0 U n q.toNat := by
  obtain ⟨m, rfl⟩ := Int.eq_ofNat_of_zero_le q0
  have u := (hV.nk hX hn).2.2 m (by omega) qn
  rw [Int.toNat_natCast]
  rcases o with o | o | o
  · exact (u.1 (Or.inl o)).1
  · exact (u.1 (Or.inr o)).1
  · exact (u.2 o).1
theorem h_RM.aslot (hV : h_RM C0 M0 S U J Im V) (hX : h_X C0 M0 P F G Hh S U J Im) (hn : h_N M0 U J n) (a0 : 0 ≤ a) (a1 : a < (M0 222 55)) (an : M0 267 a = n) : V 270 a = h_sa M0 n a := by
  obtain ⟨m, rfl⟩ := Int.eq_ofNat_of_zero_le a0
  exact ((hV.nk hX hn).2.1 m (by omega) an).1
theorem h_RM.lslot (hV : h_RM C0 M0 S U J Im V) (hX : h_X C0 M0 P F G Hh S U J Im) (hn : h_N M0 U J n) (l0 : 0 ≤ l) (l1 : l < 26) (hl : ¬ M0 236 (26 * n + l) = 0) : V 240 (26 * n + l) = g_ll M0 n l.toNat := by
  obtain ⟨m, rfl⟩ := Int.eq_ofNat_of_zero_le l0
  exact ((hV.nk hX hn).1 m (by omega) hl).1
/-- where a part's places lie -/
theorem h_X.sp (hX : h_X C0 M0 P F G Hh S U J Im) (hn : h_N M0 U J n) (q0 : 0 ≤ q) (q1 : q < (M0 222 26)) (qn : M0 250 q = n) : g_ll M0 n 26 + g_ca M0 n ((M0 222 55)).toNat ≤ g_sp C0 M0 U n q.toNat ∧ 0 ≤ g_vl C0 M0 U q ∧ g_sp C0 M0 U n q.toNat + g_vl C0 M0 U q ≤ g_T C0 M0 U n := by
  have c := hX.c5 hn q0 q1 qn
  have t := hX.tb n
  have e : g_sp C0 M0 U n q.toNat = g_ll M0 n 26 + g_ca M0 n ((M0 222 55)).toNat + g_cp C0 M0 U n q.toNat := rfl
  omega
theorem h_X.sd (hX : h_X C0 M0 P F G Hh S U J Im) {x : Int} (q0 : 0 ≤ q) (q1 : q < (M0 222 26)) (qn : M0 250 q = n) (x0 : 0 ≤ x) (x1 : x < (M0 222 26)) (xn : M0 250 x = n) (ne : ¬ x = q) : g_sp C0 M0 U n x.toNat + g_vl C0 M0 U x ≤ g_sp C0 M0 U n q.toNat ∨ g_sp C0 M0 U n q.toNat + g_vl C0 M0 U q ≤ g_sp C0 M0 U n x.toNat := by
  have c := hX.cd (U := U) q0 q1 qn x0 x1 xn ne
  have e : ∀ y : Nat, g_sp C0 M0 U n y = g_ll M0 n 26 + g_ca M0 n ((M0 222 55)).toNat + g_cp C0 M0 U n y := fun _ => rfl
  rw [e, e]
  omega
theorem h_RN.add (hX : h_X C0 M0 P F G Hh S U J Im) (h : h_RN C0 M0 U Im n b f V Q X) (q0 : 0 ≤ q) (q1 : q < (M0 222 26)) (qn : M0 250 q = n) (nq : ¬ Q q) (hQ : ∀ x, Q x → (0 ≤ x ∧ x < (M0 222 26)) ∧ M0 250 x = n) (te : ∀ x, Q' x ↔ (Q x ∨ x = q)) (f' : g_fr [291, 292] X X') (g' : ax_g X') (z0 : f = 0 → X' 291 = X 291) (h1 : ∀ i, 0 ≤ i → i < g_vl C0 M0 U q → X' 292 (b + (g_sp C0 M0 U n q.toNat + i)) = h_vf C0 M0 Im q i ∧ (¬ f = 0 → X' 291 (b + (g_sp C0 M0 U n q.toNat + i)) = h_vf C0 M0 Im q i)) (h2 : ∀ x, (∀ i, 0 ≤ i → i < g_vl C0 M0 U q → ¬ x = b + (g_sp C0 M0 U n q.toNat + i)) → X' 292 x = X 292 x ∧ X' 291 x = X 291 x) : h_RN C0 M0 U Im n b f V Q' X' := by
  obtain ⟨⟨a1, a2, a3⟩, b1, b2⟩ := h
  refine ⟨⟨a1.tr f', g', fun z => (z0 z).trans (a3 z)⟩, fun x i qx i0 i1 => ?_, fun x hx => ?_⟩
  · rcases (te x).mp qx with z | z
    · have xx := hQ x z
      have ne : ¬ x = q := fun w => nq (by rw [← w]; exact z)
      have sd := hX.sd (U := U) q0 q1 qn xx.1.1 xx.1.2 xx.2 ne
      have u := h2 (b + (g_sp C0 M0 U n x.toNat + i)) (fun j j0 j1 => by omega)
      rw [u.1, u.2]
      exact b1 x i z i0 i1
    · rw [z] at i1 ⊢
      exact h1 i i0 i1
  · have u := h2 x (fun i i0 i1 => hx q i ((te q).mpr (Or.inr rfl)) i0 i1)
    rw [u.1, u.2]
    exact b2 x (fun y i hy => hx y i ((te y).mpr (Or.inl hy)))
set_option maxHeartbeats 1000000 in
theorem s_renew (hX : h_X C0 M0 P F G Hh S U J Im) (hn : h_N M0 U J n) (hV : h_RM C0 M0 S U J Im V) (hg : ax_g V) (hb : 0 ≤ b ∧ b + g_T C0 M0 U n ≤ 600) (q0 : 0 ≤ q) (q1 : q < (M0 222 26)) (qn : M0 250 q = n) (o : M0 241 q = 22) (hf : f = 0 ∨ f = 1)
    (h : ∀ X, g_fr [291, 292] V X → ax_g X → (f = 0 → X 291 = V 291) → (∀ i, 0 ≤ i → i < g_vl C0 M0 U q → X 292 (b + (g_sp C0 M0 U n q.toNat + i)) = h_vf C0 M0 Im q i ∧ (¬ f = 0 → X 291 (b + (g_sp C0 M0 U n q.toNat + i)) = h_vf C0 M0 Im q i)) → (∀ x, (∀ i, 0 ≤ i → i < g_vl C0 M0 U q → ¬ x = b + (g_sp C0 M0 U n q.toNat + i)) → X 292 x = V 292 x ∧ X 291 x = V 291 x) → Ψ X) : ax_N ay_lay (d + 1) q_Model_renew [.ref 222, ax_i b, ax_i q, ax_i f] V Ψ Θ := by
  have sm := hX.hS.small
  have hN := hX.hS.2.1
  have sb := hX.sub hn q0 q1 qn o
  have sp := hX.sp hn q0 q1 qn
  have tb := hX.tb n
  have b7 : 0 ≤ q ∧ q < 701 := ⟨q0, by omega⟩
  have rq : ax_rg q := ⟨by omega, by omega⟩
  have rb : ax_rg b := ⟨by omega, by omega⟩
  have rf : ax_rg f := ⟨by omega, by omega⟩
  have m0 := sb.1.1.1
  have m1 := sb.1.1.2
  have u3 := sb.1.2.1
  have rm : ax_rg (C0 520 q) := ⟨by omega, by omega⟩
  have vq := sb.2.2
  have vf : ∀ i, h_vf C0 M0 Im q i = Im (300 * C0 520 q + i) := fun i => if_pos o
  refine r_Model_renew hg rb rq rf ⟨b7, ?_⟩
  rw [hV.2.2.1 q q0 q1 o]
  refine ax_for (I := fun i X => (0 ≤ i ∧ i ≤ g_vl C0 M0 U q) ∧ g_fr [291, 292] V X ∧ ax_g X ∧ (f = 0 → X 291 = V 291) ∧ (∀ j, 0 ≤ j → j < i → X 292 (b + (g_sp C0 M0 U n q.toNat + j)) = h_vf C0 M0 Im q j ∧ (¬ f = 0 → X 291 (b + (g_sp C0 M0 U n q.toNat + j)) = h_vf C0 M0 Im q j)) ∧ ∀ x, (∀ j, 0 ≤ j → j < i → ¬ x = b + (g_sp C0 M0 U n q.toNat + j)) → X 292 x = V 292 x ∧ X 291 x = V 291 x) (K := fun i X => k_Model_renew_11 d b q f (C0 520 q) i X Ψ Θ) (hi := g_vl C0 M0 U q) (fun i X w hI next => ?_) (fun i X w hI => ?_) 0 V ⟨⟨Int.le_refl _, sp.2.1⟩, fun _ _ => rfl, hg, fun _ => rfl, fun j a b => by omega, fun _ _ => ⟨rfl, rfl⟩⟩
  · obtain ⟨ib, f1, g1, z1, i1, i2⟩ := hI
    refine r_Model_renew_11 g1 rb rq rf rm ⟨by omega, by omega⟩ ⟨⟨m0, by omega⟩, ?_⟩
    rw [f1 288 (by decide), hV.much m0 m1, f1 257 (by decide), hV.slot hX hn q0 q1 qn (Or.inr (Or.inr o)), f1 290 (by decide), hV.2.2.2.2.2.2.2.2]
    have ix : b + g_sp C0 M0 U n q.toNat + i = b + (g_sp C0 M0 U n q.toNat + i) := by omega
    rw [ix, ← vf]
    have rv : ax_rg (h_vf C0 M0 Im q i) := by rw [vf, ← hV.2.2.2.2.2.2.2.2]; exact hg _ _
    have bi : 0 ≤ b + (g_sp C0 M0 U n q.toNat + i) ∧ b + (g_sp C0 M0 U n q.toNat + i) < 600 := ⟨by omega, by omega⟩
    refine ⟨fun z => by omega, fun _ => ⟨b7, ⟨by omega, by omega⟩, bi, fun X1 e1 => ⟨fun z => next X1 ⟨⟨by omega, by omega⟩, ?_, ?_, ?_, fun j j0 j1 => ?_, fun x hx => ?_⟩, fun z => ⟨b7, ⟨by omega, by omega⟩, ?_⟩⟩⟩⟩
    · rw [e1]; exact fun c y => by rw [ax_u_ne (by simp at y; exact y.2)]; exact f1 c y
    · rw [e1]; exact ax_u_g g1 rv
    · intro _; rw [e1, ax_u_ne (by decide)]; exact z1 z
    · refine ⟨?_, fun y => absurd z y⟩
      by_cases y : j = i
      · rw [y, e1, ax_u_s]
      · rw [e1, ax_u_k (by omega)]; exact (i1 j j0 (by omega)).1
    · rw [e1, ax_u_k (hx i ib.1 (by omega)), ax_u_ne (by decide)]
      exact i2 x (fun j j0 j1 => hx j j0 (by omega))
    · have e257 : X1 257 = X 257 := by rw [e1]; exact ax_u_ne (by decide)
      have e290 : X1 290 = X 290 := by rw [e1]; exact ax_u_ne (by decide)
      rw [e257, f1 257 (by decide), hV.slot hX hn q0 q1 qn (Or.inr (Or.inr o)), e290, f1 290 (by decide), hV.2.2.2.2.2.2.2.2, ix, ← vf]
      refine ⟨bi, fun X2 e2 => next X2 ⟨⟨by omega, by omega⟩, ?_, ?_, fun y => absurd y z, fun j j0 j1 => ?_, fun x hx => ?_⟩⟩
      · rw [e2, e1]; exact fun c y => by rw [ax_u_ne (by simp at y; exact y.1), ax_u_ne (by simp at y; exact y.2)]; exact f1 c y
      · rw [e2, e1]; exact ax_u_g (ax_u_g g1 rv) rv
      · by_cases y : j = i
        · rw [y, e2, ax_u_ne (by decide), e1, ax_u_s]
          exact ⟨rfl, fun _ => by rw [ax_u_s]⟩
        · rw [e2, ax_u_k (by omega), ax_u_ne (by decide), e1, ax_u_k (by omega), ax_u_ne (by decide)]
          exact i1 j j0 (by omega)
      · rw [e2, ax_u_k (hx i ib.1 (by omega)), ax_u_ne (by decide), e1, ax_u_k (hx i ib.1 (by omega)), ax_u_ne (by decide)]
        exact i2 x (fun j j0 j1 => hx j j0 (by omega))
  · obtain ⟨ib, f1, g1, z1, i1, i2⟩ := hI
    refine r_Model_renew_11 g1 rb rq rf rm ⟨by omega, by omega⟩ ⟨⟨m0, by omega⟩, ?_⟩
    rw [f1 288 (by decide), hV.much m0 m1]
    have ei : i = g_vl C0 M0 U q := by omega
    rw [ei] at i1 i2
    exact ⟨fun _ => h X f1 g1 z1 i1 i2, fun z => by omega⟩
/-- the parts of a state -/
def h_PS (M : ax_V) (a t q : Int) : Prop := ∃ e, (0 ≤ e ∧ e < (M 222 44)) ∧ M 263 e = a ∧ M 264 e = t ∧ M 261 e ≤ q ∧ q ≤ M 262 e
theorem h_RN.fr (h : h_RN C0 M0 U Im n b f V Q X) : g_fr h_DC V X ∧ g_sc [101] V X := ⟨h.1.1.up (by simp), fun j _ => by rw [h.1.1 222 (by decide)]⟩
theorem h_RN.of (h : h_RN C0 M0 U Im n b f V Q X) (te : ∀ x, Q' x ↔ Q x) : h_RN C0 M0 U Im n b f V Q' X := ⟨h.1, fun q i hq => h.2.1 q i ((te q).mp hq), fun x hx => h.2.2 x (fun q i hq => hx q i ((te q).mpr hq))⟩
set_option maxHeartbeats 1000000 in
theorem s_renewState (hX : h_X C0 M0 P F G Hh S U J Im) (hn : h_N M0 U J n) (hV : h_RM C0 M0 S U J Im V) (hg : ax_g V) (hb : 0 ≤ b ∧ b + g_T C0 M0 U n ≤ 600) (a0 : 0 ≤ a) (a1 : a < (M0 222 55)) (an : M0 267 a = n) {t : Int} (rt : ax_rg t) (hf : f = 0 ∨ f = 1)
    (h : ∀ X, h_RN C0 M0 U Im n b f V (h_PS M0 a t) X → Ψ X) : ax_N ay_lay (d + 2) q_Model_renewState [.ref 222, ax_i b, ax_i a, ax_i t, ax_i f] V Ψ Θ := by
  have hS := hX.hS
  have sm := hS.small
  have hN := hS.2.1
  have tb := hX.tb n
  have rb : ax_rg b := ⟨by omega, by omega⟩
  have ra : ax_rg a := ⟨by omega, by omega⟩
  have rf : ax_rg f := ⟨by omega, by omega⟩
  have orr := hS.2.2.2.2.1.2.2.2.2.2.1.2.2.1
  have eqn : ∀ e, 0 ≤ e → e < (M0 222 44) → M0 263 e = a → M0 258 e = n := fun e e0 e1 z => by
    rcases hS.st e0 e1 with y | y
    · omega
    · rw [← y.2.2.2.2.2.2, z]; exact an
  have tmX : ∀ {X : ax_V} {Q : Int → Prop}, h_RN C0 M0 U Im n b f V Q X → (∀ c, 226 ≤ c → c ≤ 277 → c ∉ h_CM → X c = M0 c) ∧ X 222 44 = (M0 222 44) := fun {X Q} hI => by
    have r := hV.fr hI.fr.1 hI.fr.2
    exact ⟨r.1, r.2.1.2.1⟩
  refine r_Model_renewState hg rb ra rt rf ?_
  refine ax_for (I := fun e X => (0 ≤ e ∧ e ≤ (M0 222 44)) ∧ h_RN C0 M0 U Im n b f V (fun q => ∃ e', (0 ≤ e' ∧ e' < e) ∧ M0 263 e' = a ∧ M0 264 e' = t ∧ M0 261 e' ≤ q ∧ q ≤ M0 262 e') X) (K := fun e X => ∀ y6, ax_y y6 → k_Model_renewState_3 (d + 1) b a t f e y6 X Ψ Θ) (hi := (M0 222 44)) (fun e X w hI next y6 hy6 => ?_) (fun e X w hI y6 hy6 => ?_) 0 V ⟨⟨by decide, by omega⟩, ⟨fun _ _ => rfl, hg, fun _ => rfl⟩, fun q i hq => ?_, fun _ _ => ⟨rfl, rfl⟩⟩ none ax_y_n
  · obtain ⟨eb, hI⟩ := hI
    have be : 0 ≤ e ∧ e < 351 := ⟨by omega, by omega⟩
    have re : ax_rg e := ⟨by omega, by omega⟩
    refine r_Model_renewState_3 hI.1.2.1 rb ra rt rf re hy6 ?_
    obtain ⟨tm, t44⟩ := tmX hI
    rw [t44, tm 263 (by decide) (by decide) (by decide), tm 264 (by decide) (by decide) (by decide), tm 261 (by decide) (by decide) (by decide)]
    have skip : ¬ (M0 263 e = a ∧ M0 264 e = t) → k_Model_renewState_3 (d + 1) b a t f (e + 1) y6 X Ψ Θ := fun z => next X ⟨⟨by omega, by omega⟩, hI.of (fun x => ⟨fun ⟨e', p1, p2, p3, p4⟩ => ⟨e', ⟨p1.1, by
      by_cases y : e' = e
      · rw [y] at p2 p3; exact absurd ⟨p2, p3⟩ z
      · omega⟩, p2, p3, p4⟩, fun ⟨e', p1, p2⟩ => ⟨e', ⟨p1.1, by omega⟩, p2⟩⟩)⟩ y6 hy6
    refine ⟨fun z => by omega, fun _ => ⟨be, fun za => ⟨be, fun zt => ⟨be, ?_⟩, fun zt => skip (fun y => zt y.2)⟩, fun za => skip (fun y => za y.1)⟩⟩
    have en := eqn e eb.1 w za
    have fe := (hS.2.2.2.2.1.2.1 e eb.1 w).2.2.2.2.2.1.1
    -- the parts of one equation
    refine ax_for (I := fun p X => (M0 261 e ≤ p ∧ p ≤ M0 262 e + 1) ∧ h_RN C0 M0 U Im n b f V (fun q => (∃ e', (0 ≤ e' ∧ e' < e) ∧ M0 263 e' = a ∧ M0 264 e' = t ∧ M0 261 e' ≤ q ∧ q ≤ M0 262 e') ∨ (M0 261 e ≤ q ∧ q < p)) X) (K := fun p X => k_Model_renewState_46 (d + 1) b a t f e p X Ψ Θ) (hi := M0 262 e + 1) (fun p X w' hI' next' => ?_) (fun p X w' hI' => ?_) (M0 261 e) X ⟨⟨Int.le_refl _, by omega⟩, hI.of (fun x => ⟨fun y => by rcases y with y | y; exact y; omega, fun y => Or.inl y⟩)⟩
    · obtain ⟨pb, hI'⟩ := hI'
      have pp := hS.eq eb.1 w en pb.1 (by omega)
      have b7 : 0 ≤ p ∧ p < 701 := ⟨pp.1.1, by omega⟩
      have rp : ax_rg p := ⟨by omega, by omega⟩
      have sp := hX.sp hn pp.1.1 pp.1.2 pp.2
      have nq : ¬ ((∃ e', (0 ≤ e' ∧ e' < e) ∧ M0 263 e' = a ∧ M0 264 e' = t ∧ M0 261 e' ≤ p ∧ p ≤ M0 262 e') ∨ (M0 261 e ≤ p ∧ p < p)) := fun z => by
        rcases z with ⟨e', p1, -, -, p4⟩ | z
        · have := orr.1 e' e p1.1 p1.2 w; omega
        · omega
      have hQ : ∀ x, ((∃ e', (0 ≤ e' ∧ e' < e) ∧ M0 263 e' = a ∧ M0 264 e' = t ∧ M0 261 e' ≤ x ∧ x ≤ M0 262 e') ∨ (M0 261 e ≤ x ∧ x < p)) → (0 ≤ x ∧ x < (M0 222 26)) ∧ M0 250 x = n := fun x z => by
        rcases z with ⟨e', p1, p2, p3, p4⟩ | z
        · exact hS.eq p1.1 (by omega) (eqn e' p1.1 (by omega) p2) p4.1 p4.2
        · exact hS.eq eb.1 w en z.1 (by omega)
      have te : ∀ x, ((∃ e', (0 ≤ e' ∧ e' < e) ∧ M0 263 e' = a ∧ M0 264 e' = t ∧ M0 261 e' ≤ x ∧ x ≤ M0 262 e') ∨ (M0 261 e ≤ x ∧ x < p + 1)) ↔ (((∃ e', (0 ≤ e' ∧ e' < e) ∧ M0 263 e' = a ∧ M0 264 e' = t ∧ M0 261 e' ≤ x ∧ x ≤ M0 262 e') ∨ (M0 261 e ≤ x ∧ x < p)) ∨ x = p) := fun x => by
        constructor
        · rintro (z | z)
          · exact Or.inl (Or.inl z)
          · by_cases y : x = p
            · exact Or.inr y
            · exact Or.inl (Or.inr ⟨z.1, by omega⟩)
        · rintro ((z | z) | z)
          · exact Or.inl z
          · exact Or.inr ⟨z.1, by omega⟩
          · exact Or.inr ⟨by omega, by omega⟩
      have go : ∀ X', g_fr [291, 292] X X' → ax_g X' → (f = 0 → X' 291 = X 291) → (∀ i, 0 ≤ i → i < g_vl C0 M0 U p → X' 292 (b + (g_sp C0 M0 U n p.toNat + i)) = h_vf C0 M0 Im p i ∧ (¬ f = 0 → X' 291 (b + (g_sp C0 M0 U n p.toNat + i)) = h_vf C0 M0 Im p i)) → (∀ x, (∀ i, 0 ≤ i → i < g_vl C0 M0 U p → ¬ x = b + (g_sp C0 M0 U n p.toNat + i)) → X' 292 x = X 292 x ∧ X' 291 x = X 291 x) → k_Model_renewState_46 (d + 1) b a t f e (p + 1) X' Ψ Θ := fun X' c1 c2 c3 c4 c5 => next' X' ⟨⟨by omega, by omega⟩, hI'.add hX pp.1.1 pp.1.2 pp.2 nq hQ te c1 c2 c3 c4 c5⟩
      obtain ⟨tm, t44⟩ := tmX hI'
      have hVX := hV.fr hI'.fr.1 hI'.fr.2
      refine r_Model_renewState_46 hI'.1.2.1 rb ra rt rf re rp ⟨be, ?_⟩
      rw [tm 262 (by decide) (by decide) (by decide), tm 241 (by decide) (by decide) (by decide)]
      have one : (M0 241 p = 6 ∨ M0 241 p = 19) → k_Model_renewState_106 (d + 1) b a t f e p X Ψ Θ := fun o => by
        have v1 : g_vl C0 M0 U p = 1 := if_pos o
        have vf : h_vf C0 M0 Im p 0 = 0 := if_neg (by omega)
        have bi : 0 ≤ b + g_sp C0 M0 U n p.toNat ∧ b + g_sp C0 M0 U n p.toNat < 600 := ⟨by omega, by omega⟩
        have sl := hVX.slot hX hn pp.1.1 pp.1.2 pp.2 (by rcases o with o | o; exact Or.inl o; exact Or.inr (Or.inl o))
        refine r_Model_renewState_106 hI'.1.2.1 rb ra rt rf re rp ?_
        rw [sl]
        refine ⟨b7, bi, fun X1 e1 => ⟨fun z => ?_, fun z => ⟨b7, ?_⟩⟩⟩
        · refine go X1 (by rw [e1]; exact fun c y => ax_u_ne (by simp at y; exact y.2)) (by rw [e1]; exact ax_u_g hI'.1.2.1 (by decide)) (fun _ => by rw [e1]; exact ax_u_ne (by decide)) (fun i i0 i1 => ⟨?_, fun y => absurd z y⟩) (fun x hx => ?_)
          · rw [show i = 0 by omega, vf, Int.add_zero, e1, ax_u_s]
          · rw [e1, ax_u_k (by have := hx 0 (by decide) (by omega); omega), ax_u_ne (by decide)]; exact ⟨rfl, rfl⟩
        · have e257 : X1 257 = X 257 := by rw [e1]; exact ax_u_ne (by decide)
          rw [e257, sl]
          refine ⟨bi, fun X2 e2 => go X2 (by rw [e2, e1]; exact fun c y => by rw [ax_u_ne (by simp at y; exact y.1)]; exact ax_u_ne (by simp at y; exact y.2)) (by rw [e2, e1]; exact ax_u_g (ax_u_g hI'.1.2.1 (by decide)) (by decide)) (fun y => absurd y z) (fun i i0 i1 => ?_) (fun x hx => ?_)⟩
          · rw [show i = 0 by omega, vf, Int.add_zero, e2, ax_u_ne (by decide), e1, ax_u_s]
            exact ⟨rfl, fun _ => by rw [ax_u_s]⟩
          · have y := hx 0 (by decide) (by omega)
            rw [e2, ax_u_k (by omega), ax_u_ne (by decide), e1, ax_u_k (by omega), ax_u_ne (by decide)]; exact ⟨rfl, rfl⟩
      refine ⟨fun z => by omega, fun _ => ⟨b7, fun o => ?_, fun o => ⟨b7, fun o6 => one (Or.inl o6), fun o6 => ⟨b7, fun o19 => one (Or.inr o19), fun o19 => ?_⟩⟩⟩⟩
      · refine s_renew hX hn hVX hI'.1.2.1 hb pp.1.1 pp.1.2 pp.2 o hf (fun X' c1 c2 c3 c4 c5 => ⟨b7, ?_⟩)
        have e241 : X' 241 = M0 241 := by rw [c1 241 (by decide)]; exact tm 241 (by decide) (by decide) (by decide)
        rw [e241]
        exact ⟨fun z => by omega, fun _ => ⟨b7, fun z => by omega, fun _ => go X' c1 c2 c3 c4 c5⟩⟩
      · have v0 : g_vl C0 M0 U p = 0 := by
          unfold g_vl
          rw [if_neg (by omega), if_neg o]
        exact go X (fun _ _ => rfl) hI'.1.2.1 (fun _ => rfl) (fun i i0 i1 => by omega) (fun _ _ => ⟨rfl, rfl⟩)
    · obtain ⟨pb, hI'⟩ := hI'
      obtain ⟨tm, t44⟩ := tmX hI'
      refine r_Model_renewState_46 hI'.1.2.1 rb ra rt rf re ⟨by omega, by omega⟩ ⟨be, ?_⟩
      rw [tm 262 (by decide) (by decide) (by decide)]
      have ep : p = M0 262 e + 1 := by omega
      refine ⟨fun _ => next X ⟨⟨by omega, by omega⟩, hI'.of (fun x => ?_)⟩ _ (ax_y_i _), fun z => by omega⟩
      constructor
      · rintro ⟨e', p1, p2, p3, p4⟩
        by_cases y : e' = e
        · rw [y] at p4; exact Or.inr ⟨p4.1, by omega⟩
        · exact Or.inl ⟨e', ⟨p1.1, by omega⟩, p2, p3, p4⟩
      · rintro (⟨e', p1, p2⟩ | z)
        · exact ⟨e', ⟨p1.1, by omega⟩, p2⟩
        · exact ⟨e, ⟨eb.1, by omega⟩, za, zt, z.1, by omega⟩
  · obtain ⟨eb, hI⟩ := hI
    refine r_Model_renewState_3 hI.1.2.1 rb ra rt rf ⟨by omega, by omega⟩ hy6 ?_
    obtain ⟨tm, t44⟩ := tmX hI
    rw [t44]
    have ee : e = (M0 222 44) := by omega
    rw [ee] at hI
    exact ⟨fun _ => h X hI, fun z => by omega⟩
  · obtain ⟨e', p1, -⟩ := hq
    omega
end ModelB
