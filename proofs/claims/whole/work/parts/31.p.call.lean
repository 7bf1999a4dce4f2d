/-! A CALL -/
/-- what a tick gives, as the record says -/
def h_IN (C M : ax_V) (U F : Int → Int) (k : Nat) (n b : Int) (V : ax_V) (R : h_R) : Prop := (∀ i j, g_PP C M U k n i j → V 155 (b + i) = R [] 5 j) ∧ h_MS C M U F k n (R [] 5) ∧ ∀ i, 0 ≤ i → i < M 227 n → V 153 (26 * n + M 230 (26 * n + i)) = 1 ∧ V 152 (26 * n + M 230 (26 * n + i)) = R [] 1 (M 230 (26 * n + i)) ∧ (M 233 (26 * n + M 230 (26 * n + i)) = 1 → R [] 1 (M 230 (26 * n + i)) = 0 ∨ R [] 1 (M 230 (26 * n + i)) = 1)
def h_OUT (C M : ax_V) (U F : Int → Int) (k : Nat) (n b : Int) (V W : ax_V) (R : h_R) : Prop := (∀ i j, g_PP C M U k n i j → W 155 (b + i) = R [] 6 j) ∧ h_MS C M U F k n (R [] 6) ∧ (∀ y, 0 ≤ y → y < 26 → ¬ M 232 (26 * n + y) = 0 → h_lt M n W R y) ∧ (∀ i, 0 ≤ i → i < M 228 n → W 152 (26 * n + M 231 (26 * n + i)) = R [] 1 (M 231 (26 * n + i)) ∧ (M 233 (26 * n + M 231 (26 * n + i)) = 1 → R [] 1 (M 231 (26 * n + i)) = 0 ∨ R [] 1 (M 231 (26 * n + i)) = 1)) ∧ (∀ a, 0 ≤ a → a < (M 222 55) → M 267 a = n → W 154 a = C 558 a + R [] 3 a) ∧ ∀ t, t < 700 → (W 150 10 ≤ t ↔ (V 150 10 ≤ t ∨ R [] 4 0 ≤ t))
def h_GO (C M : ax_V) (U F S Im : Int → Int) (k : Nat) (n b : Int) (V W : ax_V) : Prop := h_WI C M U k n b V W ∧ ∀ R, h_TK C M U S Im k n R → h_IN C M U F k n b V R → h_OUT C M U F k n b V W R
/-- go, for the fuel k -/
def h_go (C M P : ax_V) (U J F S Im : Int → Int) (B k : Nat) : Prop := ∀ (n b : Int) (V : ax_V) (Ψ Θ : ax_V → Prop), h_N M U J n → n < (k : Int) → (0 ≤ b ∧ b + g_T C M U n ≤ 300) → (∀ c, 500 ≤ c → c ≤ 573 → V c = P c) → ax_g V → h_AS C M U k n b (V 155) → (∀ W, h_GO C M U F S Im k n b V W → Ψ W) → ax_N (az_W B (az_EM B)) (3 * k + 1) q_Machine_go [.ref 150, ax_i n, ax_i b] V Ψ Θ
/-- a call's node before its tick -/
def h_CB (C M P : ax_V) (U : Int → Int) (n q b : Int) (V V2 : ax_V) : Prop := (g_fr [152, 153, 155] V V2 ∧ ax_g V2) ∧ (∀ x, ¬ (26 * C 520 q ≤ x ∧ x < 26 * C 520 q + 26) → V2 152 x = V 152 x ∧ V2 153 x = V 153 x) ∧ (∀ i, ¬ (b ≤ i ∧ i < b + U (C 520 q)) → V2 155 i = V 155 i) ∧ (∀ j : Nat, (j : Int) < M 227 (C 520 q) → V2 153 (26 * C 520 q + M 230 (26 * C 520 q + (j : Int))) = 1 ∧ ∃ j' : Nat, (j' : Int) < M 227 (C 520 q) ∧ M 230 (26 * C 520 q + (j' : Int)) = M 230 (26 * C 520 q + (j : Int)) ∧ V2 152 (26 * C 520 q + M 230 (26 * C 520 q + (j : Int))) = V 151 (e_arg M q j')) ∧ ((¬ M 248 q = -1 ∧ V 152 (26 * n + M 248 q) = 1) → ∀ i, 0 ≤ i → i < U (C 520 q) → V2 155 (b + i) = P 515 (300 * C 520 q + i)) ∧ (¬ (¬ M 248 q = -1 ∧ V 152 (26 * n + M 248 q) = 1) → V2 155 = V 155)
section Call
variable {B d : Nat} {C0 M0 P V V0 V1 W : ax_V} {F G Hh S U J Im : Int → Int} {n q e a b x m T : Int} {k : Nat} {s t : Int → Prop} {R : h_R} {Φ : Int → ax_V → Prop} {Ψ Θ : ax_V → Prop}
theorem h_MS.eq (hX : h_X C0 M0 P F G Hh S U J Im) : ∀ (k : Nat) (n : Int) (f f' : Int → Int), h_N M0 U J n → h_MS C0 M0 U F k n f → (∀ i, 0 ≤ i → i < g_T C0 M0 U n → f' i = f i) → h_MS C0 M0 U F k n f' := by
  intro k
  induction k with
  | zero => intro _ _ _ _ _ _; exact trivial
  | succ k ih =>
    intro n f f' hn h e
    have T : g_T C0 M0 U n = g_ll M0 n 26 + g_ca M0 n ((M0 222 55)).toNat + g_cp C0 M0 U n ((M0 222 26)).toNat := rfl
    have l0 := (g_ll_b M0 n 26).1
    have c0 := (g_ca_b M0 n ((M0 222 55)).toNat).1
    have p0 := g_cp_0 (C0 := C0) (M0 := M0) (n := n) (fun x => (hX.UJ.1 x).1) ((M0 222 26)).toNat
    have sp : ∀ q, g_sp C0 M0 U n q = g_ll M0 n 26 + g_ca M0 n ((M0 222 55)).toNat + g_cp C0 M0 U n q := fun _ => rfl
    refine ⟨fun q q1 qn o f1 => ?_, fun l l1 hl ty => ?_, fun a a1 an => ?_, fun q q1 qn o => ?_⟩
    · have z := hX.c5 hn (q := (q : Int)) (by omega) (by omega) qn
      rw [Int.toNat_natCast] at z
      have v : g_vl C0 M0 U (q : Int) = 1 := if_pos (Or.inl o)
      have := sp q
      rw [e _ (by omega) (by omega)]
      exact h.1 q q1 qn o f1
    · have z := (hX.l5 hn (l := (l : Int)) (by omega) (by omega) hl).2
      rw [Int.toNat_natCast] at z
      rw [e _ (by omega) (by omega)]
      exact h.2.1 l l1 hl ty
    · have z := (hX.a5 hn (a := (a : Int)) (by omega) (by omega) an).2
      have hs : h_sa M0 n (a : Int) = g_ll M0 n 26 + g_ca M0 n (a : Int).toNat := rfl
      rw [e _ (by omega) (by omega)]
      exact h.2.2.1 a a1 an
    · have z := hX.c5 hn (q := (q : Int)) (by omega) (by omega) qn
      rw [Int.toNat_natCast] at z
      have sb := hX.sub hn (q := (q : Int)) (by omega) (by omega) qn o
      have t := hX.t sb.1
      have v := sb.2.2
      have := sp q
      exact ih _ _ _ sb.1 (h.2.2.2 q q1 qn o) (fun i i0 i1 => e _ (by omega) (by omega))
/-- the end of a call: the tick of its node -/
theorem t_call91 (hX : h_X C0 M0 P F G Hh S U J Im) (hn : h_N M0 U J n) (q0 : 0 ≤ q) (q1 : q < (M0 222 26)) (qn : M0 250 q = n) (o : M0 241 q = 22) (hk : C0 520 q < (k : Int)) (hgo : h_go C0 M0 P U J F S Im B k) (hb : 0 ≤ b ∧ b + U (C0 520 q) ≤ 300) (hP : ∀ c, 500 ≤ c → c ≤ 573 → V c = P c) (hg : ax_g V) (has : h_AS C0 M0 U k (C0 520 q) b (V 155))
    (h : ∀ V2 W, ((g_fr [155] V V2 ∧ ax_g V2) ∧ (∀ i, ¬ (b ≤ i ∧ i < b + U (C0 520 q)) → V2 155 i = V 155 i) ∧ ((¬ M0 248 q = -1 ∧ V 152 (26 * n + M0 248 q) = 1) → ∀ i, 0 ≤ i → i < U (C0 520 q) → V2 155 (b + i) = P 515 (300 * C0 520 q + i)) ∧ (¬ (¬ M0 248 q = -1 ∧ V 152 (26 * n + M0 248 q) = 1) → V2 155 = V 155)) → h_GO C0 M0 U F S Im k (C0 520 q) b V2 W → Φ (W 152 (26 * C0 520 q + M0 231 (26 * C0 520 q))) W) : ∀ y2 y5 y6, ax_y y2 → ax_y y5 → ax_y y6 → k_Machine_call_91 B (3 * k + 1) q y2 b (C0 520 q) y5 y6 V Φ Θ := by
  intro y2 y5 y6 hy2 hy5 hy6
  have hS := hX.hS
  have sm := hS.small
  have hN := hS.2.1
  have sb := hX.sub hn q0 q1 qn o
  have tt := hX.t sb.1
  have b7 : 0 ≤ q ∧ q < 700 := ⟨q0, by omega⟩
  have rq : ax_rg q := ⟨by omega, by omega⟩
  have m8 : 0 ≤ C0 520 q ∧ C0 520 q < 8 := ⟨sb.1.1.1, by have := sb.1.1.2; omega⟩
  have rm : ax_rg (C0 520 q) := ⟨by omega, by omega⟩
  have ub := (hX.UJ.1 (C0 520 q)).1
  have rb : ax_rg b := ⟨by omega, by omega⟩
  have tb : ∀ c, 500 ≤ c → c ≤ 573 → c ∉ g_XP → V c = C0 c := fun c a b z => by rw [hP c a b]; exact hX.hP c z
  have dt := (hS.p q0 q1).2.2.2.2.2.2.1.2.2.2.2.2.2 o
  have out := hS.outp (n := C0 520 q) (i := 0) sb.1.1.1 sb.1.1.2 (Int.le_refl _) (by have := hX.ok.out hS sb.1.1.1 sb.1.1.2; omega)
  rw [Int.add_zero] at out
  have fin : ∀ V2 W, ((g_fr [155] V V2 ∧ ax_g V2) ∧ (∀ i, ¬ (b ≤ i ∧ i < b + U (C0 520 q)) → V2 155 i = V 155 i) ∧ ((¬ M0 248 q = -1 ∧ V 152 (26 * n + M0 248 q) = 1) → ∀ i, 0 ≤ i → i < U (C0 520 q) → V2 155 (b + i) = P 515 (300 * C0 520 q + i)) ∧ (¬ (¬ M0 248 q = -1 ∧ V 152 (26 * n + M0 248 q) = 1) → V2 155 = V 155)) → h_GO C0 M0 U F S Im k (C0 520 q) b V2 W → (0 ≤ C0 520 q * 26 ∧ C0 520 q * 26 < 208) ∧ (0 ≤ W 507 (C0 520 q * 26) ∧ W 507 (C0 520 q * 26) < 208) ∧ Φ (W 152 (W 507 (C0 520 q * 26))) W := fun V2 W h2 hW => by
    have e7 : W 507 = C0 507 := by rw [hW.1.1.1 507 (by decide), h2.1.1 507 (by decide)]; exact tb 507 (by decide) (by decide) (by decide)
    rw [e7, show C0 520 q * 26 = 26 * C0 520 q by omega, out.1]
    exact ⟨⟨by omega, by omega⟩, ⟨by omega, by omega⟩, h V2 W h2 hW⟩
  refine r_Machine_call_91 hg rq hy2 rb rm hy5 hy6 ⟨b7, ?_⟩
  rw [tb 523 (by decide) (by decide) (by decide)]
  have same : ∀ c, c ∉ ([155] : List Nat) → V c = V c := fun _ _ => rfl
  refine ⟨fun z => ?_, fun z => ?_⟩
  · have l1 : M0 248 q = -1 := by
      by_cases w : 0 ≤ M0 248 q
      · have := (dt.2.2.2.1 w).1; have := hn.1.1; omega
      · omega
    exact hgo _ b V _ Θ sb.1 hk ⟨hb.1, by rw [← tt.2]; exact hb.2⟩ hP hg has (fun W hW => fin V W ⟨⟨g_fr.rf _ _, hg⟩, fun _ _ => rfl, fun y => absurd l1 y.1, fun _ => rfl⟩ hW)
  · have l0 : 0 ≤ M0 248 q := by
      by_cases w : M0 248 q = -1
      · have := dt.2.2.1 w; omega
      · omega
    have ht : C0 523 q = 26 * n + M0 248 q := by rw [(dt.2.2.2.1 l0).1, qn]
    rw [ht]
    refine ⟨⟨by have := hn.1.1; omega, by have := hn.1.2; omega⟩, fun y => ⟨m8, ?_⟩, fun y => ?_⟩
    · have u := hX.u sb.1
      rw [hP 514 (by decide) (by decide), u]
      refine t_renew hg m8 hb.1 ⟨Int.le_refl _, ub.1⟩ ⟨by omega, hb.2⟩ (fun V2 f2 g2 o2 i2 => ?_)
      have hP2 : ∀ c, 500 ≤ c → c ≤ 573 → V2 c = P c := fun c x y => by rw [f2 c (by simp; omega)]; exact hP c x y
      have e2 : ∀ i, 0 ≤ i → i < U (C0 520 q) → V2 155 (b + i) = P 515 (300 * C0 520 q + i) := fun i x y => by rw [i2 i x y, hP 515 (by decide) (by decide)]
      refine hgo _ b V2 _ Θ sb.1 hk ⟨hb.1, by rw [← tt.2]; exact hb.2⟩ hP2 g2 ?_ (fun W hW => fin V2 W ⟨⟨f2, g2⟩, fun i z => o2 i (by rw [Int.add_zero]; exact z), fun _ => e2, fun w => absurd ⟨by omega, y⟩ w⟩ hW)
      exact h_AS.eq hX _ _ _ _ _ _ sb.1 (h_AS.first hX k _ sb.1) (fun i i0 i1 => e2 i i0 (by omega))
    · exact hgo _ b V _ Θ sb.1 hk ⟨hb.1, by rw [← tt.2]; exact hb.2⟩ hP hg has (fun W hW => fin V W ⟨⟨g_fr.rf _ _, hg⟩, fun _ _ => rfl, fun w => absurd w.2 y, fun _ => rfl⟩ hW)
set_option maxHeartbeats 1000000 in
theorem t_call (hX : h_X C0 M0 P F G Hh S U J Im) (hn : h_N M0 U J n) (q0 : 0 ≤ q) (q1 : q < (M0 222 26)) (qn : M0 250 q = n) (o : M0 241 q = 22) (hk : C0 520 q < (k : Int)) (hgo : h_go C0 M0 P U J F S Im B k) (hb : 0 ≤ b ∧ b + U (C0 520 q) ≤ 300) (hP : ∀ c, 500 ≤ c → c ≤ 573 → V c = P c) (hg : ax_g V) (has : h_AS C0 M0 U k (C0 520 q) b (V 155))
    (h : ∀ V2 W, h_CB C0 M0 P U n q b V V2 → h_GO C0 M0 U F S Im k (C0 520 q) b V2 W → Φ (W 152 (26 * C0 520 q + M0 231 (26 * C0 520 q))) W) : ax_I (az_W B (az_EM B)) (3 * k + 2) q_Machine_call [.ref 150, ax_i q, ax_i n, ax_i b] V Φ Θ := by
  have hS := hX.hS
  have sm := hS.small
  have hN := hS.2.1
  have sb := hX.sub hn q0 q1 qn o
  have tt := hX.t sb.1
  have b7 : 0 ≤ q ∧ q < 700 := ⟨q0, by omega⟩
  have rq : ax_rg q := ⟨by omega, by omega⟩
  have nn := hn.1
  have m8 : 0 ≤ C0 520 q ∧ C0 520 q < 8 := ⟨sb.1.1.1, by have := sb.1.1.2; omega⟩
  have rm : ax_rg (C0 520 q) := ⟨by omega, by omega⟩
  have ub := (hX.UJ.1 (C0 520 q)).1
  have rb : ax_rg b := ⟨by omega, by omega⟩
  have tb : ∀ c, 500 ≤ c → c ≤ 573 → c ∉ g_XP → V c = C0 c := fun c a b z => by rw [hP c a b]; exact hX.hP c z
  obtain ⟨K, K1, K2, K3⟩ := hS.cargs hX.ok hX.n3 q0 q1 o
  have fst : C0 521 q = M0 245 q := (hS.p q0 q1).2.2.2.2.2.2.2.1
  have ff := hS.2.2.2.1.2.1.1 _ sb.1.1.1 sb.1.1.2
  have inN : C0 503 (C0 520 q) = M0 227 (C0 520 q) := ff.1.1
  have K26 : (K : Int) ≤ 26 := by
    have b26 := (f_cn_le M0 (C0 520 q) 26).2
    have s1 := ff.2.2.2.1
    have s2 := ff.2.1.2
    have s3 := ff.2.2.1.2
    omega
  refine r_Machine_call hg rq ⟨by omega, by omega⟩ rb ⟨b7, ?_⟩
  rw [tb 520 (by decide) (by decide) (by decide), tb 521 (by decide) (by decide) (by decide)]
  refine ⟨fun z => by omega, fun _ => ⟨fun _ => ⟨b7, ?_⟩, fun z => by omega⟩⟩
  rw [fst]
  refine ax_for (I := fun i W => (0 ≤ i ∧ i ≤ (K : Int)) ∧ g_fr [152, 153] V W ∧ ax_g W ∧ (∀ x, ¬ (26 * C0 520 q ≤ x ∧ x < 26 * C0 520 q + 26) → W 152 x = V 152 x ∧ W 153 x = V 153 x) ∧ ∀ j : Nat, (j : Int) < i → W 153 (26 * C0 520 q + M0 230 (26 * C0 520 q + (j : Int))) = 1 ∧ ∃ j' : Nat, (j' : Int) < i ∧ M0 230 (26 * C0 520 q + (j' : Int)) = M0 230 (26 * C0 520 q + (j : Int)) ∧ W 152 (26 * C0 520 q + M0 230 (26 * C0 520 q + (j : Int))) = V 151 (e_arg M0 q j')) (K := fun i W => k_Machine_call_38 B (3 * k + 1) q (some (ax_i n)) b (C0 520 q) (e_arg M0 q i.toNat) i W Φ Θ) (hi := (K : Int)) (fun i W w hI next => ?_) (fun i W w hI => ?_) 0 V ⟨⟨Int.le_refl _, by omega⟩, g_fr.rf _ _, hg, fun _ _ => ⟨rfl, rfl⟩, fun j z => by omega⟩
  · obtain ⟨hi, f1, g1, o1, k1⟩ := hI
    obtain ⟨j, ej⟩ := Int.eq_ofNat_of_zero_le hi.1
    have kk := K3 j (by omega)
    have hPW : ∀ c, 500 ≤ c → c ≤ 573 → W c = P c := fun c x y => by rw [f1 c (by simp; omega)]; exact hP c x y
    have tbW : ∀ c, 500 ≤ c → c ≤ 573 → c ∉ g_XP → W c = C0 c := fun c a b z => by rw [hPW c a b]; exact hX.hP c z
    rw [ej] at next w ⊢
    rw [Int.toNat_natCast]
    refine r_Machine_call_38 g1 rq (ax_y_i _) rb rm ⟨by omega, by omega⟩ ⟨by omega, by omega⟩ ⟨m8, ?_⟩
    rw [tbW 503 (by decide) (by decide) (by decide), inN, ← K1]
    refine ⟨fun z => by omega, fun _ => ⟨fun z => by omega, fun _ => ⟨⟨by omega, by omega⟩, ?_⟩⟩⟩
    refine t_feed hS hPW hX.hP g1 sb.1.1.1 sb.1.1.2 (by omega) (by omega) (g1 _ _) (fun W2 e2 => ⟨⟨by omega, by omega⟩, ?_⟩)
    have x2 : W2 522 = C0 522 := by rw [e2, ax_u_ne (by decide), ax_u_ne (by decide)]; exact tbW 522 (by decide) (by decide) (by decide)
    rw [x2, kk.2.1]
    have nx := next W2 ⟨⟨by omega, by omega⟩, by rw [e2]; exact (f1.u (by decide)).u (by decide), by rw [e2]; exact ax_u_g (ax_u_g g1 (g1 _ _)) (by decide), fun x z => ?_, fun i' z => ?_⟩
    · rw [show ((j : Int) + 1).toNat = j + 1 by omega] at nx
      exact nx
    · have ip := (hS.inp (i := (j : Int)) sb.1.1.1 sb.1.1.2 (by omega) (by omega)).2.1
      rw [e2, ax_u_ne (by decide), ax_u_k (by omega), ax_u_k (by omega), ax_u_ne (by decide)]
      exact o1 x z
    · have v1 : W 151 = V 151 := f1 151 (by decide)
      by_cases same : M0 230 (26 * C0 520 q + (i' : Int)) = M0 230 (26 * C0 520 q + (j : Int))
      · rw [same, e2, ax_u_s, ax_u_ne (by decide), ax_u_s]
        exact ⟨rfl, j, by omega, rfl, by rw [v1]⟩
      · have i'j : ¬ i' = j := fun y => same (by rw [y])
        have u := k1 i' (by omega)
        rw [e2, ax_u_k (by omega), ax_u_ne (by decide), ax_u_ne (by decide), ax_u_k (by omega)]
        refine ⟨u.1, ?_⟩
        obtain ⟨j', a1, a2, a3⟩ := u.2
        exact ⟨j', by omega, a2, a3⟩
  · obtain ⟨hi, f1, g1, o1, k1⟩ := hI
    have ei : i = (K : Int) := by omega
    have hPW : ∀ c, 500 ≤ c → c ≤ 573 → W c = P c := fun c x y => by rw [f1 c (by simp; omega)]; exact hP c x y
    have tbW : ∀ c, 500 ≤ c → c ≤ 573 → c ∉ g_XP → W c = C0 c := fun c a b z => by rw [hPW c a b]; exact hX.hP c z
    have rg : ax_rg (e_arg M0 q i.toNat) := by rw [ei, Int.toNat_natCast, K2]; decide
    refine r_Machine_call_38 g1 rq (ax_y_i _) rb rm rg ⟨by omega, by omega⟩ ⟨m8, ?_⟩
    rw [tbW 503 (by decide) (by decide) (by decide), inN, ← K1]
    refine ⟨fun _ => ?_, fun z => by omega⟩
    have m5 : W 155 = V 155 := f1 155 (by decide)
    refine t_call91 hX hn q0 q1 qn o hk hgo hb hPW g1 (by rw [m5]; exact has) (fun V2 W2 h2 hW => h V2 W2 ⟨⟨fun c z => ?_, h2.1.2⟩, fun x z => ?_, fun i z => by rw [h2.2.1 i z, m5], fun j z => ?_, fun y => h2.2.2.1 ⟨y.1, ?_⟩, fun y => ?_⟩ hW) _ _ _ (ax_y_i _) (ax_y_i _) (ax_y_i _)
    · rw [h2.1.1 c (by simp at z ⊢; exact z.2.2)]; exact f1 c (by simp at z ⊢; exact ⟨z.1, z.2.1⟩)
    · rw [h2.1.1 152 (by decide), h2.1.1 153 (by decide)]; exact o1 x z
    · rw [h2.1.1 152 (by decide), h2.1.1 153 (by decide)]
      rw [← K1] at z
      have u := k1 j (by omega)
      refine ⟨u.1, ?_⟩
      obtain ⟨j', a1, a2, a3⟩ := u.2
      exact ⟨j', by omega, a2, a3⟩
    · rw [(o1 (26 * n + M0 248 q) (by have := (hS.p q0 q1).2.2.2.2.2.2.1.2.2.2.2.2.2 o; omega)).1]; exact y.2
    · rw [h2.2.2.2 (fun z => y ⟨z.1, by rw [← (o1 (26 * n + M0 248 q) (by have := ((hS.p q0 q1).2.2.2.2.2.2.1.2.2.2.2.2.2 o).2.1; omega)).1]; exact z.2⟩), m5]
/-- a call's worth -/
theorem t_worth22 (hX : h_X C0 M0 P F G Hh S U J Im) (hn : h_N M0 U J n) (q0 : 0 ≤ q) (q1 : q < (M0 222 26)) (qn : M0 250 q = n) (o : M0 241 q = 22) (hk : C0 520 q < (k : Int)) (hgo : h_go C0 M0 P U J F S Im B k) (hb : 0 ≤ b ∧ b + g_T C0 M0 U n ≤ 300) (hP : ∀ c, 500 ≤ c → c ≤ 573 → V c = P c) (hg : ax_g V) (has : h_AS C0 M0 U k (C0 520 q) (b + g_cp C0 M0 U n q.toNat) (V 155))
    (h : ∀ V2 W, h_CB C0 M0 P U n q (b + g_cp C0 M0 U n q.toNat) V V2 → h_GO C0 M0 U F S Im k (C0 520 q) (b + g_cp C0 M0 U n q.toNat) V2 W → Φ (W 152 (26 * C0 520 q + M0 231 (26 * C0 520 q))) W) : ax_I (az_W B (az_EM B)) (3 * k + 3) q_Machine_worth [.ref 150, ax_i q, ax_i n, ax_i b] V Φ Θ := by
  have hS := hX.hS
  have sm := hS.small
  have hN := hS.2.1
  have nn := hn.1
  have sb := hX.sub hn q0 q1 qn o
  have cq := hX.c5 hn q0 q1 qn
  have TT : g_T C0 M0 U n = g_ll M0 n 26 + g_ca M0 n ((M0 222 55)).toNat + g_cp C0 M0 U n ((M0 222 26)).toNat := rfl
  have l0 := (g_ll_b M0 n 26).1
  have c0 := (g_ca_b M0 n ((M0 222 55)).toNat).1
  have v := sb.2.2
  have b7 : 0 ≤ q ∧ q < 700 := ⟨q0, by omega⟩
  have rq : ax_rg q := ⟨by omega, by omega⟩
  have rn : ax_rg n := ⟨by omega, by omega⟩
  have rb : ax_rg b := ⟨by omega, by omega⟩
  have tb : ∀ c, 500 ≤ c → c ≤ 573 → c ∉ g_XP → V c = C0 c := fun c a b z => by rw [hP c a b]; exact hX.hP c z
  obtain ⟨K, K1, K2, K3⟩ := hS.cargs hX.ok hX.n3 q0 q1 o
  have fst : C0 521 q = M0 245 q := (hS.p q0 q1).2.2.2.2.2.2.2.1
  have oc : C0 517 q = 22 := by rw [(hS.op q0 q1).2, o]; rfl
  have a0 : e_arg M0 q 0 = M0 245 q := rfl
  have main : ∀ (y4 y7 : Option Value) (x5 x6 s0 : Int), ax_y y4 → ax_y y7 → ax_rg x5 → ax_rg x6 → ax_rg s0 → k_Machine_worth_66 B (3 * k + 2) q n b y4 x5 x6 y7 s0 V Φ Θ := by
    intro y4 y7 x5 x6 s0 hy4 hy7 r5 r6 rs
    refine r_Machine_worth_66 hg rq rn rb hy4 r5 r6 hy7 rs ⟨b7, ?_⟩
    rw [tb 517 (by decide) (by decide) (by decide), oc, hP 531 (by decide) (by decide), cq.1]
    refine ⟨fun z => absurd z (by decide), fun z => absurd z (by decide), fun z => absurd z (by decide), fun z => absurd z (by decide), fun z => absurd z (by decide), fun z => absurd z (by decide), fun z => absurd z (by decide), fun z => absurd z (by decide), fun z => absurd z (by decide), fun z => absurd z (by decide), fun z => absurd z (by decide), fun _ => ⟨b7, ?_⟩, fun _ _ _ _ _ _ _ _ _ _ _ z => absurd rfl z⟩
    exact t_call hX hn q0 q1 qn o hk hgo ⟨by omega, by omega⟩ hP hg has h
  refine r_Machine_worth hg rq rn rb ⟨b7, ?_⟩
  rw [tb 521 (by decide) (by decide) (by decide), tb 522 (by decide) (by decide) (by decide), fst]
  refine ⟨fun z => ⟨⟨z, ?_⟩, ?_⟩, fun z => ?_⟩
  · have K0 : 0 < K := by
      by_cases w : 0 < K
      · exact w
      · rw [show K = 0 by omega, a0] at K2; omega
    have := (K3 0 K0).1
    rw [a0] at this; omega
  · have K0 : 0 < K := by
      by_cases w : 0 < K
      · exact w
      · rw [show K = 0 by omega, a0] at K2; omega
    have k0 : 0 ≤ M0 245 q ∧ M0 245 q < q := (K3 0 K0).1
    have k1 : C0 522 (M0 245 q) = e_arg M0 q 1 := (K3 0 K0).2.1
    rw [k1]
    have n1 : -1 ≤ e_arg M0 q 1 ∧ e_arg M0 q 1 < q := by
      by_cases w : 1 < K
      · have := (K3 1 w).1; omega
      · rw [show K = 1 by omega] at K2; omega
    refine r_Machine_worth_30 hg rq rn rb ⟨by omega, by omega⟩ ax_y_n ax_y_n ax_y_n ⟨by omega, by omega⟩ ⟨fun _ => ⟨⟨z, by omega⟩, fun w => ⟨⟨w, by omega⟩, main _ _ _ _ _ (ax_y_i _) ax_y_n ⟨by omega, by omega⟩ (hg _ _) (hg _ _)⟩, fun w => main _ _ _ _ _ (ax_y_i _) ax_y_n ⟨by omega, by omega⟩ (hg _ _) (by decide)⟩, fun w => by omega⟩
  · have e : M0 245 q < 0 := z
    have a1 : ax_rg (M0 245 q) := by
      have ar := hS.ar q0 q1
      unfold e_ar at ar
      exact ⟨by omega, by omega⟩
    refine r_Machine_worth_30 hg rq rn rb a1 ax_y_n ax_y_n ax_y_n (by decide) ⟨fun w => by omega, fun _ => ⟨fun w => absurd w (by decide), fun _ => main _ _ _ _ _ (ax_y_i _) ax_y_n (by decide) (by decide) (by decide)⟩⟩
end Call
