/-! TICKS, SEEN FROM OUTSIDE -/
theorem ax_T.lay {lay1 lay2 : ax_Lay} {d d2 key : Nat} {vs : List Value} {V : ax_V} {Φ : Option Value → ax_V → Prop} {Θ : ax_V → Prop} (hl : ∀ ss, lay2 ss → lay1 ss) (hd : d ≤ d2) (h : ax_T lay1 d key vs V Φ Θ) : ax_T lay2 d2 key vs V Φ Θ := by
  have h' : ax_T lay1 d2 key vs V Φ Θ := h.mono hd (fun _ _ _ z => z) (fun _ _ z => z)
  rcases h' with ⟨r, V', a, b, c, e⟩ | ⟨V', b, c, e⟩
  · exact Or.inl ⟨r, V', a, b, c, fun ss hs => e ss (hl ss hs)⟩
  · exact Or.inr ⟨V', b, c, fun ss hs => e ss (hl ss hs)⟩
theorem ax_N.lay {lay1 lay2 : ax_Lay} {d d2 key : Nat} {vs : List Value} {V : ax_V} {Φ : ax_V → Prop} {Θ : ax_V → Prop} (hl : ∀ ss, lay2 ss → lay1 ss) (hd : d ≤ d2) (h : ax_N lay1 d key vs V Φ Θ) : ax_N lay2 d2 key vs V Φ Θ := ax_T.lay hl hd h
theorem ax_I.lay {lay1 lay2 : ax_Lay} {d d2 key : Nat} {vs : List Value} {V : ax_V} {Φ : Int → ax_V → Prop} {Θ : ax_V → Prop} (hl : ∀ ss, lay2 ss → lay1 ss) (hd : d ≤ d2) (h : ax_I lay1 d key vs V Φ Θ) : ax_I lay2 d2 key vs V Φ Θ := ax_T.lay hl hd h
/-- fewer cells are named -/
theorem az_W_app {B : Nat} {E E' : List (Nat × ax_S)} (ss : List ax_S) (h : az_W B (E ++ E') ss) : az_W B E ss := ⟨h.1, h.2.1, fun i q hi => h.2.2 i q (by
  have lt : i < E.length := (List.getElem?_eq_some_iff.mp hi).1
  rw [List.getElem?_append_left lt]; exact hi)⟩
theorem az_EN_M {B a na b nb : Nat} (ss : List ax_S) (h : az_W B (az_EN B a na b nb) ss) : az_W B (az_EM B) ss := az_W_app (E' := [(a, .inr (610, .inl (0, na))), (b, .inr (611, .inl (0, nb)))]) ss h
/-- what a tick of the class gives, for a record -/
def h_TG (C M : ax_V) (U F : Int → Int) (n : Int) (V W : ax_V) (R : h_R) (r : Int) : Prop := (g_fr [150, 151, 152, 153, 154, 155] V W ∧ (∀ f, ¬ f = 10 → W 150 f = V 150 f) ∧ ax_g W) ∧ (∀ i j, g_PP C M U 8 n i j → W 155 i = R [] 6 j) ∧ h_MS C M U F 8 n (R [] 6) ∧ (∀ y, 0 ≤ y → y < 26 → ¬ M 232 (26 * n + y) = 0 → h_lt M n W R y) ∧ (∀ i, 0 ≤ i → i < M 228 n → W 152 (26 * n + M 231 (26 * n + i)) = R [] 1 (M 231 (26 * n + i)) ∧ (M 233 (26 * n + M 231 (26 * n + i)) = 1 → R [] 1 (M 231 (26 * n + i)) = 0 ∨ R [] 1 (M 231 (26 * n + i)) = 1)) ∧ ((r = 1 ∧ 700 ≤ R [] 4 0) ∨ (r = 0 ∧ R [] 4 0 < 700 ∧ W 150 10 = R [] 4 0))
section Outside
variable {B d a na b nb : Nat} {C0 M0 P V : ax_V} {F G Hh S U J Im : Int → Int} {n f : Int} {R : h_R} {Φ : Int → ax_V → Prop} {Ψ Θ : ax_V → Prop}
/-- what is remembered has its sort: so have the automata's cells -/
theorem h_AS.of (hX : h_X C0 M0 P F G Hh S U J Im) : ∀ (k : Nat) (n b : Int) (f g : Int → Int), h_N M0 U J n → h_MS C0 M0 U F k n g → (∀ i j, g_PP C0 M0 U k n i j → f (b + i) = g j) → h_AS C0 M0 U k n b f := by
  intro k
  induction k with
  | zero => intro _ _ _ _ _ _ _; exact trivial
  | succ k ih =>
    intro n b f g hn hm hp
    refine ⟨fun a a1 an => ?_, fun q q1 qn o => ?_⟩
    · have u := hp _ _ (g_PP.au (C0 := C0) (U := U) (k := k) (a := (a : Int)) (by omega) (by omega) an)
      rw [Int.toNat_natCast] at u
      rw [u]
      exact hm.2.2.1 a a1 an
    · have sb := hX.sub hn (q := (q : Int)) (by omega) (by omega) qn o
      refine ih _ _ f _ sb.1 (hm.2.2.2 q q1 qn o) (fun i j pp => ?_)
      have u := hp _ _ (g_PP.part (C0 := C0) (U := U) (k := k) (q := (q : Int)) (by omega) (by omega) qn (Or.inr ⟨o, pp⟩))
      rw [Int.toNat_natCast] at u
      rw [Int.add_assoc]; exact u
set_option maxHeartbeats 1000000 in
theorem t_goes (hX : h_X C0 M0 P F G Hh S U J Im) (hn : h_N M0 U J n) (hna : na ≤ 1000000) (hnb : nb ≤ 1000000) (hP : ∀ c, 500 ≤ c → c ≤ 573 → V c = P c) (hg : ax_g V) (hi : M0 227 n ≤ (na : Int)) (hf : 0 ≤ f ∧ f + U n ≤ (nb : Int)) (hR : h_TK C0 M0 U S Im 8 n R) (hm : h_MS C0 M0 U F 8 n (R [] 5)) (pairs : ∀ i j, g_PP C0 M0 U 8 n i j → V 611 (f + i) = R [] 5 j) (inp : ∀ i, 0 ≤ i → i < M0 227 n → V 610 i = R [] 1 (M0 230 (26 * n + i)) ∧ (M0 233 (26 * n + M0 230 (26 * n + i)) = 1 → R [] 1 (M0 230 (26 * n + i)) = 0 ∨ R [] 1 (M0 230 (26 * n + i)) = 1))
    (h : ∀ r W, h_TG C0 M0 U F n V W R r → Φ r W) : ax_I (az_W B (az_EN B a na b nb)) (d + 26) q_Machine_goes [.ref 150, ax_i n, .ref a, .ref b, ax_i f] V Φ Θ := by
  have hS := hX.hS
  have hN := hS.2.1
  have nn := hn.1
  have tt := hX.t hn
  have ub := (hX.UJ.1 n).1
  have n8 : 0 ≤ n ∧ n < 8 := ⟨nn.1, by omega⟩
  have rn : ax_rg n := ⟨by omega, by omega⟩
  have rf : ax_rg f := ⟨by omega, by omega⟩
  have u514 : V 514 n = U n := by rw [hP 514 (by decide) (by decide)]; exact hX.u hn
  have ff := hS.fl nn.1 nn.2
  have i26 : M0 227 n ≤ 26 := by
    have b26 := (f_cn_le M0 n 26).2
    have s1 := ff.2.2.2.1
    have s2 := ff.2.1.2
    have s3 := ff.2.2.1.2
    omega
  refine r_Machine_goes (d := d + 25) hna hnb hg rn rf ?_
  rw [u514]
  refine ⟨n8, ⟨hf.1, Int.le_refl _, by omega, by omega, by omega⟩, fun V1 e1 => ?_⟩
  have k1 : ∀ c, ¬ c = 155 → V1 c = V c := fun c z => by rw [e1]; exact ax_cp_ne z
  have g1 : ax_g V1 := by rw [e1]; exact ax_cp_g hg
  have m1 : ∀ i j, g_PP C0 M0 U 8 n i j → V1 155 i = R [] 5 j := fun i j pp => by
    have bb := hX.UJ.pb hS hX.ok 8 _ tt.1 i j pp
    rw [e1, ax_cp_i ⟨bb.1.1, by omega⟩, ← pairs i j pp, Int.sub_zero]
  refine ax_for (I := fun i X => (0 ≤ i ∧ i ≤ M0 227 n) ∧ g_fr [152, 153] V1 X ∧ ax_g X ∧ ∀ i', 0 ≤ i' → i' < i → X 153 (26 * n + M0 230 (26 * n + i')) = 1 ∧ X 152 (26 * n + M0 230 (26 * n + i')) = R [] 1 (M0 230 (26 * n + i'))) (K := fun i X => k_Machine_goes_23 B a na b nb (d + 25) n (some (.ref b)) (some (ax_i f)) i X Φ Θ) (hi := M0 227 n) (fun i X w hI nx => ?_) (fun i X w hI => ?_) 0 V1 ⟨⟨Int.le_refl _, ff.1.2⟩, fun _ _ => rfl, g1, fun i' x y => by omega⟩
  · obtain ⟨ib, fX, gX, iX⟩ := hI
    have hPX : ∀ c, 500 ≤ c → c ≤ 573 → X c = P c := fun c x y => by rw [fX c (by simp; omega), k1 c (by omega)]; exact hP c x y
    have e503 : X 503 n = M0 227 n := by rw [hPX 503 (by decide) (by decide), hX.hP 503 (by decide)]; exact ff.1.1
    refine r_Machine_goes_23 hna hnb gX rn (by intro w h; cases h; rfl) (ax_y_i _) ⟨by omega, by omega⟩ ⟨n8, ?_⟩
    rw [e503, fX 610 (by decide), k1 610 (by decide), (inp i ib.1 w).1]
    have rv : ax_rg (R [] 1 (M0 230 (26 * n + i))) := by rw [← (inp i ib.1 w).1]; exact hg _ _
    refine ⟨fun z => by omega, fun _ => ⟨⟨ib.1, by omega⟩, ?_⟩⟩
    refine ax_N.lay az_EN_M (Nat.le_refl _) (t_feed (d := d + 24) hS hPX hX.hP gX nn.1 nn.2 ib.1 w rv (fun W2 e2 => nx W2 ⟨⟨by omega, by omega⟩, by rw [e2]; exact (fX.u (by decide)).u (by decide), by rw [e2]; exact ax_u_g (ax_u_g gX rv) (by decide), fun i' i0 i1 => ?_⟩))
    by_cases same : M0 230 (26 * n + i') = M0 230 (26 * n + i)
    · rw [same, e2, ax_u_s, ax_u_ne (by decide), ax_u_s]; exact ⟨rfl, rfl⟩
    · have ne : ¬ i' = i := fun y => same (by rw [y])
      rw [e2, ax_u_k (by omega), ax_u_ne (by decide), ax_u_ne (by decide), ax_u_k (by omega)]
      exact iX i' i0 (by omega)
  · obtain ⟨ib, fX, gX, iX⟩ := hI
    have ei : i = M0 227 n := by omega
    rw [ei] at iX
    have hPX : ∀ c, 500 ≤ c → c ≤ 573 → X c = P c := fun c x y => by rw [fX c (by simp; omega), k1 c (by omega)]; exact hP c x y
    have e503 : X 503 n = M0 227 n := by rw [hPX 503 (by decide) (by decide), hX.hP 503 (by decide)]; exact ff.1.1
    refine r_Machine_goes_23 hna hnb gX rn (by intro w h; cases h; rfl) (ax_y_i _) ⟨by omega, by omega⟩ ⟨n8, ?_⟩
    rw [e503]
    refine ⟨fun _ X1 eX => ?_, fun z => by omega⟩
    have k2 : ∀ c, ¬ c = 150 → X1 c = X c := fun c z => by rw [eX]; exact ax_u_ne z
    have gX1 : ax_g X1 := by rw [eX]; exact ax_u_g gX (by decide)
    have f700 : X1 150 10 = 700 := by rw [eX, ax_u_s]
    have m155 : X1 155 = V1 155 := by rw [k2 155 (by decide), fX 155 (by decide)]
    have has : h_AS C0 M0 U 8 n 0 (X1 155) := h_AS.of hX 8 n 0 _ (R [] 5) hn hm (fun i j pp => by rw [m155, Int.zero_add]; exact m1 i j pp)
    refine ax_N.lay az_EN_M (by omega) (t_go hX 8 n 0 X1 _ Θ hn (by omega) ⟨Int.le_refl _, by omega⟩ (fun c x y => by rw [k2 c (by omega)]; exact hPX c x y) gX1 has (fun W hG => ?_))
    obtain ⟨wi, out⟩ := hG
    have IN : h_IN C0 M0 U F 8 n 0 X1 R := by
      refine ⟨fun i j pp => by rw [m155, Int.zero_add]; exact m1 i j pp, hm, fun i' i0 i1 => ?_⟩
      have u := iX i' i0 i1
      rw [k2 153 (by decide), k2 152 (by decide)]
      exact ⟨u.1, u.2, (inp i' i0 i1).2⟩
    obtain ⟨o1, o2, o3, o4, o5, o6⟩ := out R hR IN
    have le := wi.2.2.2.2.2.2
    rw [f700] at le o6
    have fr : (g_fr [150, 151, 152, 153, 154, 155] V W ∧ (∀ f, ¬ f = 10 → W 150 f = V 150 f) ∧ ax_g W) := by
      refine ⟨fun c z => ?_, fun f z => ?_, wi.1.2.2⟩
      · rw [wi.1.1 c z]
        simp only [List.mem_cons, List.not_mem_nil, or_false, not_or] at z
        rw [k2 c z.1, fX c (by simp; exact ⟨z.2.2.1, z.2.2.2.1⟩), k1 c z.2.2.2.2.2]
      · rw [wi.1.2.1 f z, eX, ax_u_k z, fX 150 (by decide), k1 150 (by decide)]
    have res : ∀ r, ((r = 1 ∧ 700 ≤ R [] 4 0) ∨ (r = 0 ∧ R [] 4 0 < 700 ∧ W 150 10 = R [] 4 0)) → Φ r W := fun r hr => h r W ⟨fr, fun i j pp => by have u := o1 i j pp; rw [Int.zero_add] at u; exact u, o2, o3, o4, hr⟩
    refine ⟨fun z => res 1 (Or.inl ⟨rfl, ?_⟩), fun z => res 0 (Or.inr ⟨rfl, ?_⟩)⟩
    · by_cases y : 700 ≤ R [] 4 0
      · exact y
      · have := (o6 (R [] 4 0) (by omega)).mpr (Or.inr (Int.le_refl _))
        omega
    · have w1 := (o6 (W 150 10) (by omega)).mp (Int.le_refl _)
      have r7 : R [] 4 0 ≤ W 150 10 := by
        rcases w1 with y | y
        · omega
        · exact y
      have w2 := (o6 (R [] 4 0) (by omega)).mpr (Or.inr (Int.le_refl _))
      exact ⟨by omega, by omega⟩
end Outside
