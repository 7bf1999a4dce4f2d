/-! A CALL, in the invariant; the world after each step -/
section CallRec
variable {C0 M0 P V V0 V1 V2 W W3 : ax_V} {F G Hh S U J Im : Int → Int} {n q e a b x m T : Int} {k : Nat} {s t : Int → Prop} {R : h_R}
theorem h_WI.tr {k' : Nat} (h : h_WI C0 M0 U k n b V0 V) (h' : h_WI C0 M0 U k' n b V W) : h_WI C0 M0 U k' n b V0 W :=
  ⟨⟨h.1.1.tr h'.1.1, fun f z => (h'.1.2.1 f z).trans (h.1.2.1 f z), h'.1.2.2⟩, fun i z => (h'.2.1 i z).trans (h.2.1 i z), fun x z => ⟨(h'.2.2.1 x z).1.trans (h.2.2.1 x z).1, (h'.2.2.1 x z).2.trans (h.2.2.1 x z).2⟩, fun q q0 q1 z => (h'.2.2.2.1 q q0 q1 z).trans (h.2.2.2.1 q q0 q1 z), fun q q0 q1 z => (h'.2.2.2.2.1 q q0 q1 z).trans (h.2.2.2.2.1 q q0 q1 z), h'.2.2.2.2.2.1, Int.le_trans h'.2.2.2.2.2.2 h.2.2.2.2.2.2⟩
theorem h_X.tb (hX : h_X C0 M0 P F G Hh S U J Im) (n : Int) : g_T C0 M0 U n = g_ll M0 n 26 + g_ca M0 n ((M0 222 55)).toNat + g_cp C0 M0 U n ((M0 222 26)).toNat ∧ 0 ≤ g_ll M0 n 26 ∧ 0 ≤ g_ca M0 n ((M0 222 55)).toNat ∧ 0 ≤ g_cp C0 M0 U n ((M0 222 26)).toNat := ⟨rfl, (g_ll_b M0 n 26).1, (g_ca_b M0 n ((M0 222 55)).toNat).1, g_cp_0 (C0 := C0) (M0 := M0) (n := n) (fun x => (hX.UJ.1 x).1) ((M0 222 26)).toNat⟩
/-- a call's outcome, as seen from where it stands -/
theorem h_call_fr (hX : h_X C0 M0 P F G Hh S U J Im) (hn : h_N M0 U J n) (q0 : 0 ≤ q) (q1 : q < (M0 222 26)) (qn : M0 250 q = n) (o : M0 241 q = 22) (hC : h_CB C0 M0 P U n q (b + g_cp C0 M0 U n q.toNat) V V2) (hW : h_WI C0 M0 U k (C0 520 q) (b + g_cp C0 M0 U n q.toNat) V2 W) (e3 : W3 = ax_u W 151 q (W 152 (26 * C0 520 q + M0 231 (26 * C0 520 q)))) :
    (g_fr [150, 151, 152, 153, 154, 155] V W3 ∧ (∀ f, ¬ f = 10 → W3 150 f = V 150 f) ∧ ax_g W3) ∧ (∀ i, ¬ (b + g_cp C0 M0 U n q.toNat ≤ i ∧ i < b + g_cp C0 M0 U n q.toNat + g_vl C0 M0 U q) → W3 155 i = V 155 i) ∧ (∀ y, 26 * n ≤ y → W3 152 y = V 152 y ∧ W3 153 y = V 153 y) ∧ (∀ x, 0 ≤ x → x < (M0 222 26) → n ≤ M0 250 x → ¬ x = q → W3 151 x = V 151 x) ∧ (∀ a, 0 ≤ a → a < (M0 222 55) → n ≤ M0 267 a → W3 154 a = V 154 a) ∧ W3 155 = W 155 := by
  have sb := hX.sub hn q0 q1 qn o
  have tt := hX.t sb.1
  have v := sb.2.2
  have k1 : ∀ c, ¬ c = 151 → W3 c = W c := fun c z => by rw [e3]; exact ax_u_ne z
  refine ⟨⟨fun c z => ?_, fun f z => ?_, ?_⟩, fun i z => ?_, fun y z => ?_, fun x x0 x1 xn xq => ?_, fun a a0 a1 an => ?_, k1 155 (by decide)⟩
  · have z' : ¬ c = 151 := fun w => z (by rw [w]; decide)
    rw [k1 c z', hW.1.1 c z, hC.1.1 c (by simp at z ⊢; omega)]
  · rw [k1 150 (by decide), hW.1.2.1 f z, hC.1.1 150 (by decide)]
  · rw [e3]; exact ax_u_g hW.1.2.2 (hW.1.2.2 _ _)
  · rw [k1 155 (by decide), hW.2.1 i (by omega), hC.2.2.1 i (by omega)]
  · rw [k1 152 (by decide), k1 153 (by decide), (hW.2.2.1 y (by omega)).1, (hW.2.2.1 y (by omega)).2]
    exact hC.2.1 y (by omega)
  · rw [e3, ax_u_k xq, hW.2.2.2.1 x x0 x1 (by omega), hC.1.1 151 (by decide)]
  · rw [k1 154 (by decide), hW.2.2.2.2.1 a a0 a1 (by omega), hC.1.1 154 (by decide)]
theorem h_WI.call (hX : h_X C0 M0 P F G Hh S U J Im) (hn : h_N M0 U J n) (q0 : 0 ≤ q) (q1 : q < (M0 222 26)) (qn : M0 250 q = n) (o : M0 241 q = 22) (has : h_AS C0 M0 U (k + 1) n b (V 155)) (hC : h_CB C0 M0 P U n q (b + g_cp C0 M0 U n q.toNat) V V2) (hW : h_WI C0 M0 U k (C0 520 q) (b + g_cp C0 M0 U n q.toNat) V2 W) (e3 : W3 = ax_u W 151 q (W 152 (26 * C0 520 q + M0 231 (26 * C0 520 q)))) : h_WI C0 M0 U (k + 1) n b V W3 := by
  obtain ⟨f1, f2, f3, f4, f5, f6⟩ := h_call_fr hX hn q0 q1 qn o hC hW e3
  have cq := hX.c5 hn q0 q1 qn
  have tb := hX.tb n
  refine ⟨f1, fun i z => f2 i (by omega), fun x z => f3 x (by omega), fun x x0 x1 xn => f4 x x0 x1 (by omega) (fun w => by rw [w] at xn; omega), fun x x0 x1 xn => f5 x x0 x1 (by omega), ?_, ?_⟩
  rotate_left
  · rw [e3, ax_u_ne (by decide), ← hC.1.1 150 (by decide)]; exact hW.2.2.2.2.2.2
  refine h_AS.step hX hn has (fun a a0 a1 an => Or.inl ?_) (fun x x0 x1 xn xo => ?_)
  · have ca := hX.a5 hn a0 a1 an
    exact f2 _ (by omega)
  · by_cases w : x = q
    · rw [w, f6]; exact Or.inl hW.2.2.2.2.2.1
    · refine Or.inr (fun i i0 i1 => f2 _ ?_)
      have cd := hX.cd q0 q1 qn x0 x1 xn w
      omega
set_option maxHeartbeats 1000000 in
theorem h_IR.call (hX : h_X C0 M0 P F G Hh S U J Im) (hn : h_N M0 U J n) (hR : h_TK C0 M0 U S Im (k + 1) n R) (hm : h_MS C0 M0 U F (k + 1) n (R [] 5)) (h : h_IR C0 M0 U F S k n b V0 V s R) (te : ∀ v, t v ↔ (s v ∨ v = q)) (q0 : 0 ≤ q) (q1 : q < (M0 222 26)) (qn : M0 250 q = n) (o : M0 241 q = 22) (ac : h_ac M0 S n (R []) q) (w1 : ∀ x, e_kid M0 q x → M0 241 q = 6 ∨ s x) (w2 : (M0 241 q = 2 ∨ M0 241 q = 20 ∨ M0 241 q = 21 ∨ (M0 241 q = 22 ∧ ¬ M0 248 q = -1)) → g_rd M0 s n (M0 248 q)) (noend : ∀ v, 3072 ≤ v → ¬ s v) (w4 : ∀ e, 0 ≤ e → e < (M0 222 44) → M0 261 e ≤ q → q ≤ M0 262 e → ¬ M0 263 e = -1 → s (2048 + M0 263 e)) (new : ¬ s q) (hC : h_CB C0 M0 P U n q (b + g_cp C0 M0 U n q.toNat) V V2) (hG : h_GO C0 M0 U F S Im k (C0 520 q) (b + g_cp C0 M0 U n q.toNat) V2 W) (e3 : W3 = ax_u W 151 q (W 152 (26 * C0 520 q + M0 231 (26 * C0 520 q)))) : h_IR C0 M0 U F S k n b V0 W3 t R ∧ h_I7 C0 M0 S n q W3 R ∧ h_MS C0 M0 U F k (C0 520 q) (R [q] 6) := by
  have hS := hX.hS
  have sb := hX.sub hn q0 q1 qn o
  have tt := hX.t sb.1
  have cq := hX.c5 hn q0 q1 qn
  obtain ⟨f1, f2, f3, f4, f5, f6⟩ := h_call_fr hX hn q0 q1 qn o hC hG.1 e3
  obtain ⟨r1, r2, r3⟩ := hR.2.1 q q0 q1 qn o ac
  obtain ⟨e, ee, en, ea, eb⟩ := hX.ine q0 q1 qn (Or.inr (Or.inr o))
  have i1 := h.1
  have rd := h.2.1.rd hX hn hR hm
  have onq := hX.on q0 q1 ac
  -- the hat
  have hat : (¬ M0 248 q = -1 ∧ V 152 (26 * n + M0 248 q) = 1) ↔ (¬ M0 248 q = -1 ∧ R [] 1 (M0 248 q) = 1) := by
    by_cases z : M0 248 q = -1
    · exact ⟨fun w => absurd z w.1, fun w => absurd z w.1⟩
    · have l := hS.pl q0 q1 (by omega)
      have r := w2 (Or.inr (Or.inr (Or.inr ⟨o, z⟩)))
      have kd : ¬ M0 232 (26 * n + M0 248 q) = 0 := by
        rcases r with y | y
        · omega
        · exact y.1
      have c := (hS.Sown (F := F) (Hh := Hh) hX.hG hX.hT hX.n4 q0 q1).1 (Or.inr (Or.inr (Or.inr ⟨o, z⟩)))
      rw [c, qn] at onq
      have p := (hX.pr hn hR hm l.1 l.2 kd).1.mpr onq
      rw [((rd _ l.1 l.2 r).2 p).1]
  -- its arguments
  have arg : ∀ j : Nat, 0 ≤ e_arg M0 q j → V 151 (e_arg M0 q j) = R [] 0 (e_arg M0 q j) ∧ (F (e_arg M0 q j) = 1 → R [] 0 (e_arg M0 q j) = 0 ∨ R [] 0 (e_arg M0 q j) = 1) := fun j z => by
    have kx : e_kid M0 q (e_arg M0 q j) := ⟨z, Or.inr ⟨o, j, rfl⟩⟩
    have ax := h_kid (Hh := Hh) (F := F) hS hX.ok hX.hG hX.hT hX.n4 hn.1.1 hn.1.2 (fun y y0 y1 k0 => (hX.pr hn hR hm y0 y1 k0).1) q0 q1 qn ac kx (fun y => by omega)
    have xx := hX.acn ax
    rcases w1 _ kx with y | y
    · omega
    · exact i1 _ xx.1.1 xx.1.2 xx.2 y ax
  obtain ⟨K, K1, K2, K3⟩ := hS.cargs hX.ok hX.n3 q0 q1 o
  have IN : h_IN C0 M0 U F k (C0 520 q) (b + g_cp C0 M0 U n q.toNat) V2 (fun p => R (q :: p)) := by
    refine ⟨fun i j pp => ?_, ?_, fun i i0 i1 => ?_⟩
    · show V2 155 _ = R [q] 5 j
      have bb := hX.UJ.pb hS hX.ok k _ tt.1 i j pp
      have r := r2 j bb.2.1 (by omega)
      by_cases z : (¬ M0 248 q = -1 ∧ V 152 (26 * n + M0 248 q) = 1)
      · rw [hC.2.2.2.2.1 z i bb.1.1 (by omega), r.1 (hat.mp z)]
        exact (hX.im sb.1).1 k i j pp
      · rw [hC.2.2.2.2.2 z, r.2 (fun y => z (hat.mpr y)), Int.add_assoc]
        exact h.2.2.2.1.at7 hX ee.1 ee.2 en ea eb (Or.inr ⟨o, pp⟩) noend (w4 e ee.1 ee.2 ea eb) new
    · show h_MS C0 M0 U F k _ (R [q] 5)
      by_cases z : (¬ M0 248 q = -1 ∧ R [] 1 (M0 248 q) = 1)
      · exact h_MS.eq hX _ _ _ _ sb.1 ((hX.im sb.1).2 k) (fun j j0 j1 => (r2 j j0 (by omega)).1 z)
      · have rr := fun j j0 j1 => (hR.2.2.2.2.2.1 e q j ee.1 ee.2 en ea eb j0 j1).1 _ rfl
        by_cases y : h_rn M0 (R []) (M0 263 e) 1 (R [] 5 (h_sa M0 n (M0 263 e))) (M0 264 e)
        · refine h_MS.eq hX _ _ _ _ sb.1 ((hX.im sb.1).2 k) (fun j j0 j1 => ?_)
          have r := (rr j j0 (by rw [sb.2.2, tt.2]; exact j1)).1 y
          rw [if_pos o] at r
          rw [(r2 j j0 (by omega)).2 z]; exact r
        · obtain ⟨q', rfl⟩ := Int.eq_ofNat_of_zero_le q0
          refine h_MS.eq hX _ _ _ _ sb.1 (hm.2.2.2 q' (by omega) qn o) (fun j j0 j1 => ?_)
          have r := (rr j j0 (by rw [sb.2.2, tt.2]; exact j1)).2.1 y
          rw [(r2 j j0 (by omega)).2 z, r, Int.toNat_natCast]
    · obtain ⟨j, rfl⟩ := Int.eq_ofNat_of_zero_le i0
      obtain ⟨u1, j', u2, u3, u4⟩ := hC.2.2.2.1 j i1
      have kk := K3 j' (by omega)
      have g := arg j' kk.1.1
      show V2 153 _ = 1 ∧ V2 152 _ = R [q] 1 _ ∧ (_ → R [q] 1 _ = 0 ∨ R [q] 1 _ = 1)
      have rr := r3 j' u2
      rw [u3] at rr
      refine ⟨u1, by rw [u4, rr]; exact g.1, fun ty => ?_⟩
      rw [rr]
      refine g.2 ?_
      rw [kk.2.2.2, u3]; exact ty
  have OUT := hG.2 _ r1 IN
  obtain ⟨o1, o2, o3, o4, o5, o6⟩ := OUT
  have ac8 : ∀ j, 0 ≤ j → j < g_vl C0 M0 U q → R [] 8 (g_sp C0 M0 U n q.toNat + j) = R [q] 6 j := fun j j0 j1 => by
    have r := (hR.2.2.2.2.2.1 e q j ee.1 ee.2 en ea eb j0 j1).2.1 ac
    rw [if_neg (by omega), if_neg (by omega)] at r
    exact r
  have ob := hX.ok.out hS sb.1.1.1 sb.1.1.2
  have v0 := hR.1 q q0 q1 qn ac
  unfold h_vq at v0
  rw [if_pos o] at v0
  have out0 := o4 0 (Int.le_refl _) (by omega)
  rw [Int.add_zero] at out0
  refine ⟨h.worked hX hn te q0 q1 qn ac noend new (fun x x0 x1 xn xq => f4 x x0 x1 (by omega) xq) ⟨?_, fun ft => ?_⟩ (fun y y0 y1 => f3 _ (by omega)) (fun a a0 a1 an => f5 a a0 a1 (by omega)) (fun i i0 z => f2 _ (by omega)) (fun i j sb z => by omega) (fun i j sbb _ => ?_) (fun x hx => ?_), fun _ _ _ _ i i0 i1 => ?_, o2⟩
  · rw [e3, ax_u_s, v0]
    exact out0.1
  · rw [v0]
    refine out0.2 ?_
    rw [← (hX.hF q q0 q1).1.2.2.2.2.1 o]; exact ft
  · have bb := (hX.sb hn q0 q1 qn sbb).2
    rw [ac8 j bb.1 bb.2, f6, ← Int.add_assoc]
    rcases sbb with z | z
    · omega
    · exact o1 i j z.2
  · rw [show W3 150 = W 150 by rw [e3]; exact ax_u_ne (by decide), o6 x hx, hC.1.1 150 (by decide)]
    constructor
    · rintro (z | z)
      · exact Or.inl z
      · exact Or.inr (Or.inr ⟨o, z⟩)
    · rintro (z | z | z)
      · exact Or.inl z
      · omega
      · exact Or.inr z.2
  · rw [show W3 152 = W 152 by rw [e3]; exact ax_u_ne (by decide)]
    exact o4 i i0 i1
end CallRec
