/-! WHAT IS KEPT, in the invariant -/
section Keep
variable {C0 M0 P V V0 V1 W : ax_V} {F G Hh S U J Im : Int → Int} {n q e a b x m T : Int} {k : Nat} {s t : Int → Prop} {R : h_R}
/-- at the end every clock is ready -/
theorem h_alS (hS : g_S C0 M0) (ok : g_N2 M0) (hT : g_ST M0 G S) (n0 : 0 ≤ n) (n1 : n < (M0 222 86)) (al : g_al M0 s n) (q0 : 0 ≤ q) (q1 : q < (M0 222 26)) (qn : M0 250 q = n) (z : ¬ S q = 0) : g_rd M0 s n ((S q - 1) / 2) := by
  have hB := hS.2.2.2.2.1
  have key := hS.dsc (Q := fun q => M0 250 q = n → ¬ S q = 0 → g_rd M0 s n ((S q - 1) / 2)) (fun f w hX wn wz => ?_) (fun p x p0 p1 kx hp xn xz => ?_) q0 q1
  · exact key qn z
  · show g_rd M0 s n ((S w - 1) / 2)
    rcases hX with ⟨e, e0, -, ew⟩ | ⟨m, m0, -, ew⟩
    · have fe := hB.2.1 e e0.1 e0.2
      have fe3 := fe.2.2.1
      have fxe := fe.2.2.2.2.2.1
      have en : M0 258 e = n := by rw [← (fxe.2.2 w (by rw [ew]; exact fxe.1.2.1) (by omega)).1.1]; exact wn
      have se := hT.1 e e0.1 e0.2
      rw [← ew] at se
      unfold g_ec at se
      by_cases au : M0 263 e = -1
      · rw [if_pos au] at se
        have ofe : g_of M0 e (M0 259 e) := ⟨e0, by omega, by omega⟩
        have il := hS.ofl ofe
        have sl := hS.slot il.1 il.2
        rw [hS.eoe ofe, en] at sl
        rw [en] at se
        rw [se] at wz ⊢
        have ckt := ok.ckt hS n0 n1 sl.2.1.1 sl.2.1.2 wz
        exact al.rd hS ok n0 n1 (fun y => ckt (Or.inl y))
      · rw [if_neg au] at se; exact absurd se wz
    · have := hT.2.1 m m0.1 m0.2
      rw [← ew] at this
      exact absurd this wz
  · show g_rd M0 s n ((S x - 1) / 2)
    have pn : M0 250 p = n := by rw [← hS.kidn p0 p1 kx]; exact xn
    have dm := hT.2.2.1 p x p0 p1 kx
    rw [dm] at xz ⊢
    unfold g_dm at xz ⊢
    by_cases o20 : M0 241 p = 20
    · rw [if_pos o20, pn] at xz ⊢
      have l := hS.pl p0 p1 (by omega)
      have ckt := ok.ckt hS n0 n1 l.1 l.2 xz
      exact al.rd hS ok n0 n1 (fun y => ckt (Or.inl y))
    · rw [if_neg o20] at xz ⊢
      by_cases o21 : M0 241 p = 21
      · rw [if_pos o21] at xz ⊢
        have l := hS.pl p0 p1 (by omega)
        have tr := ok.truth hS p0 p1 (Or.inr (Or.inl o21))
        rw [pn] at tr
        have g := al.rd hS ok n0 n1 (y := M0 248 p) (fun y => tr (Or.inl y))
        split
        · rw [show (2 * M0 248 p + 1 - 1) / 2 = M0 248 p by omega]; exact g
        · rw [show (2 * M0 248 p + 2 - 1) / 2 = M0 248 p by omega]; exact g
      · rw [if_neg o21] at xz ⊢
        exact hp pn xz
/-- what the steps so far warrant, too -/
def h_cl2 (M : ax_V) (s : Int → Prop) (n : Int) : Prop := (∀ e q, 0 ≤ e → e < (M 222 44) → M 261 e ≤ q → q ≤ M 262 e → s q → ¬ M 263 e = -1 → s (2048 + M 263 e)) ∧ ∀ a, 0 ≤ a → a < (M 222 55) → s (5120 + a) → g_ak M s n
theorem g_SQ.cl2 (hS : g_S C0 M0) (n0 : 0 ≤ n) (n1 : n < (M0 222 86)) {f : Int → Int} {F0 p k : Int} (h : g_SQ C0 M0 f F0 p n) (hk : k ≤ p) : h_cl2 M0 (g_st f F0 k) n := by
  have sm := hS.small
  have hB := hS.2.2.2.2.1
  have orr := hB.2.2.2.2.2.1.2.2.1
  have mono : ∀ j, j < k → ∀ v, g_st f F0 j v → g_st f F0 k v := fun j hj v z => by obtain ⟨i, i0, i1⟩ := z; exact ⟨i, ⟨i0.1, by omega⟩, i1⟩
  refine ⟨fun e q e0 e1 ea eb z au => ?_, fun a a0 a1 z => ?_⟩
  · obtain ⟨j, j0, j1⟩ := z
    have u := (h j j0.1 (by omega)).2.1
    rw [j1] at u
    have fe := hB.2.1 e e0 e1
    have f1 := fe.2.2.2.2.2.1.1
    rcases u with ⟨q', ev, ⟨qb, qn⟩, kd, alt⟩ | ⟨e', ev, e'0, -⟩ | ⟨a', ev, a'0, -⟩ | ⟨q', ev, q'0, -⟩ | ⟨l, ev, l0, -⟩ | ⟨a', ev, a'0, -⟩
    · rw [← ev] at qb qn kd alt
      refine mono j j0.2 _ ?_
      rcases alt with ⟨e', e'0, en, eq, lt, eb'⟩ | ⟨m, m0, mn, ms, mq, ab⟩ | ⟨al, -⟩
      · have ee : e' = e := by
          by_cases u : e' = e
          · exact u
          · by_cases w : e' < e
            · have := orr.1 e' e e'0.1 w e1; omega
            · have := orr.1 e e' e0 (by omega) e'0.2; omega
        rw [ee] at eb'
        exact eb'.2 au
      · have := orr.2.2 e m e0 e1 m0.1 m0.2; omega
      · have fx := fe.2.2.2.2.2.1.2.2 q ea eb
        rcases fe.2.2.2.2.1 with y | ⟨y1, y2, y3, y4, y5, y6, y7⟩
        · exact absurd y.2.1 au
        · exact al.2 _ y1 (by have := hB.1.2.2.1; omega) (by rw [y7, ← fx.1.1]; exact qn)
    · omega
    · omega
    · omega
    · omega
    · omega
  · obtain ⟨j, j0, j1⟩ := z
    have u := (h j j0.1 (by omega)).2.1
    rw [j1] at u
    rcases u with ⟨q', ev, ⟨qb, qn⟩, kd, alt⟩ | ⟨e', ev, e'0, -⟩ | ⟨a', ev, a'0, -⟩ | ⟨q', ev, q'0, -⟩ | ⟨l, ev, l0, -, aw⟩ | ⟨a', ev, a'0, -, aw, ak⟩
    · omega
    · omega
    · omega
    · omega
    · have hN := hS.2.1
      omega
    · exact ⟨fun q x y z w => mono j j0.2 _ (ak.1 q x y z w), fun l x y z => mono j j0.2 _ (ak.2 l x y z)⟩
set_option maxHeartbeats 1000000 in
/-- a delay takes in what it is given -/
theorem h_IR.kept (hX : h_X C0 M0 P F G Hh S U J Im) (hn : h_N M0 U J n) (hR : h_TK C0 M0 U S Im (k + 1) n R) (hm : h_MS C0 M0 U F (k + 1) n (R [] 5)) (h : h_IR C0 M0 U F S k n b V0 V s R) (te : ∀ v, t v ↔ (s v ∨ v = 3072 + q)) (q0 : 0 ≤ q) (q1 : q < (M0 222 26)) (qn : M0 250 q = n) (o : M0 241 q = 6) (new : ¬ s (3072 + q)) (aw : g_aw M0 s n) (cl : h_cl2 M0 s n) (hW : (¬ h_ac M0 S n (R []) q → W = V) ∧ (h_ac M0 S n (R []) q → W = ax_u V 155 (b + g_cp C0 M0 U n q.toNat) (V 151 (M0 245 q)))) : h_IR C0 M0 U F S k n b V0 W t R := by
  have hS := hX.hS
  have sm := hS.small
  have nn := hn.1
  have hN := hS.2.1
  have cq := hX.c5 hn q0 q1 qn
  have vq : g_vl C0 M0 U q = 1 := if_pos (Or.inl o)
  obtain ⟨i1, i2, i3, i4, i5, i6⟩ := h
  have big : ∀ v, ¬ v = 3072 + q → (t v ↔ s v) := fun v hv => by rw [te]; exact ⟨fun z => by rcases z with z | z; exact z; exact absurd z hv, fun z => Or.inl z⟩
  have k5 : ∀ c, ¬ c = 155 → W c = V c := fun c z => by
    by_cases ac : h_ac M0 S n (R []) q
    · rw [hW.2 ac]; exact ax_u_ne z
    · rw [hW.1 ac]
  have km : ∀ i, ¬ i = g_cp C0 M0 U n q.toNat → W 155 (b + i) = V 155 (b + i) := fun i z => by
    by_cases ac : h_ac M0 S n (R []) q
    · rw [hW.2 ac]; exact ax_u_k (by omega)
    · rw [hW.1 ac]
  refine ⟨i1.keep (fun q a b => (big _ (by omega)).mp) (fun _ _ _ _ => by rw [k5 151 (by decide)]), i2.keep hS (fun e x y => (big _ (by omega)).mp) (fun _ _ _ => ⟨by rw [k5 152 (by decide)], by rw [k5 153 (by decide)]⟩), i3.keep (fun a x y => big _ (by omega)) (fun _ _ _ _ => by rw [k5 154 (by decide)]), fun e x i j e0 e1 en ea eb sb => ?_, i5.keep (fun l x y => big _ (by omega)) (fun a x y => big _ (by omega)) (fun i z => km i (by omega)), i6.keep (fun q a b => big _ (by omega)) (by rw [k5 150 (by decide)])⟩
  have xx := hS.eq e0 e1 en ea eb
  have aub : ¬ M0 263 e = -1 → (0 ≤ M0 263 e ∧ M0 263 e < (M0 222 55)) ∧ M0 267 (M0 263 e) = n := fun z => by
    rcases hS.st e0 e1 with y | y
    · exact absurd y.2.1 z
    · exact ⟨y.2.1, y.2.2.2.2.2.2.trans en⟩
  have u := i4 e x i j e0 e1 en ea eb sb
  by_cases w : x = q
  · rw [w] at ea eb sb u ⊢
    have ij : i = 0 ∧ j = 0 := by
      rcases sb with z | z
      · exact z.2
      · omega
    have n5 : ¬ (¬ M0 263 e = -1 ∧ s (5120 + M0 263 e)) := fun z => new ((cl.2 _ (aub z.1).1.1 (aub z.1).1.2 z.2).1 q q0 q1 qn o)
    have n5t : ¬ (¬ M0 263 e = -1 ∧ t (5120 + M0 263 e)) := fun z => n5 ⟨z.1, (big _ (by have := (aub z.1).1; omega)).mp z.2⟩
    have bj := (hX.sb hn q0 q1 qn sb).2
    have rr := (hR.2.2.2.2.2.1 e q j e0 e1 en ea eb bj.1 bj.2).2
    have val : W 155 (b + (g_cp C0 M0 U n q.toNat + i)) = R [] 8 (g_sp C0 M0 U n q.toNat + j) := by
      by_cases ac : h_ac M0 S n (R []) q
      · have a0 := h_ar_a hS q0 q1 (by omega)
        have ka : e_kid M0 q (M0 245 q) := ⟨a0, Or.inl ⟨by omega, Or.inl rfl⟩⟩
        have aa := h_kid (Hh := Hh) (F := F) hS hX.ok hX.hG hX.hT hX.n4 hn.1.1 hn.1.2 (fun y y0 y1 k0 => (hX.pr hn hR hm y0 y1 k0).1) q0 q1 qn ac ka (fun z => by omega)
        have ax := hX.acn aa
        have v := (i1 _ ax.1.1 ax.1.2 ax.2 (aw.1 _ ax.1.1 ax.1.2 ax.2) aa).1
        rw [rr.1 ac, if_pos o, hW.2 ac, ij.1, Int.add_zero, ax_u_s]
        exact v
      · rw [rr.2 ac, hW.1 ac]
        refine u.2.2.1 n5 (fun z => ?_) ?_
        · rcases z with z | z
          · exact new z.2
          · exact z.1 o
        · by_cases au : M0 263 e = -1
          · exact Or.inl au
          · exact Or.inr (aw.2.2 _ (aub au).1.1 (aub au).1.2 (aub au).2)
    have dn : (M0 241 q = 6 ∧ t (3072 + q)) ∨ (¬ M0 241 q = 6 ∧ t q) := Or.inl ⟨o, (te _).mpr (Or.inr rfl)⟩
    exact ⟨fun z => absurd z n5t, fun _ _ => val, fun _ z => absurd dn z, fun _ z => absurd dn z⟩
  · have bi := hX.sb hn xx.1.1 xx.1.2 xx.2 sb
    have cd := hX.cd q0 q1 qn xx.1.1 xx.1.2 xx.2 w
    refine u.to (fun z => big _ (by have := (aub z).1; omega)) (fun _ => big _ (by omega)) (fun _ => big _ (by omega)) (fun z => big _ (by have := (aub z).1; omega)) (fun y z => ?_)
    rw [km _ (by omega)]; exact z
set_option maxHeartbeats 1000000 in
/-- a letter's last value -/
theorem h_IR.last (hX : h_X C0 M0 P F G Hh S U J Im) (hn : h_N M0 U J n) (hR : h_TK C0 M0 U S Im (k + 1) n R) (hm : h_MS C0 M0 U F (k + 1) n (R [] 5)) (h : h_IR C0 M0 U F S k n b V0 V s R) {l : Int} (te : ∀ v, t v ↔ (s v ∨ v = 4096 + 26 * n + l)) (l0 : 0 ≤ l) (l1 : l < 26) (hl : ¬ M0 236 (26 * n + l) = 0) (new : ¬ s (4096 + 26 * n + l)) (aw : g_aw M0 s n) (hW : (V 153 (26 * n + l) = 0 → W = V) ∧ (¬ V 153 (26 * n + l) = 0 → W = ax_u V 155 (b + P 540 (26 * n + l)) (V 152 (26 * n + l)))) : h_IR C0 M0 U F S k n b V0 W t R := by
  have hS := hX.hS
  have sm := hS.small
  have nn := hn.1
  have hN := hS.2.1
  have cl := hX.l5 hn l0 l1 hl
  rw [cl.1] at hW
  have ca0 := (g_ca_b M0 n ((M0 222 55)).toNat).1
  obtain ⟨i1, i2, i3, i4, i5, i6⟩ := h
  have kd : ¬ M0 232 (26 * n + l) = 0 := fun z => hl ((hS.l nn.1 nn.2 l0 l1).2.1 z).2.2
  have rd := i2.rd hX hn hR hm l l0 l1 (aw.2.rd hS hX.ok nn.1 nn.2 kd)
  have rl := hR.2.2.2.2.1 l l0 l1 hl
  have big : ∀ v, ¬ v = 4096 + 26 * n + l → (t v ↔ s v) := fun v hv => by rw [te]; exact ⟨fun z => by rcases z with z | z; exact z; exact absurd z hv, fun z => Or.inl z⟩
  have k5 : ∀ c, ¬ c = 155 → W c = V c := fun c z => by
    by_cases ac : V 153 (26 * n + l) = 0
    · rw [hW.1 ac]
    · rw [hW.2 ac]; exact ax_u_ne z
  have km : ∀ i, ¬ i = g_cp C0 M0 U n ((M0 222 26)).toNat + g_ca M0 n ((M0 222 55)).toNat + g_ll M0 n l.toNat → W 155 (b + i) = V 155 (b + i) := fun i z => by
    by_cases ac : V 153 (26 * n + l) = 0
    · rw [hW.1 ac]
    · rw [hW.2 ac]; exact ax_u_k (by omega)
  refine ⟨i1.keep (fun q a b => (big _ (by omega)).mp) (fun _ _ _ _ => by rw [k5 151 (by decide)]), i2.keep hS (fun e x y => (big _ (by omega)).mp) (fun _ _ _ => ⟨by rw [k5 152 (by decide)], by rw [k5 153 (by decide)]⟩), i3.keep (fun a x y => big _ (by omega)) (fun _ _ _ _ => by rw [k5 154 (by decide)]), fun e x i j e0 e1 en ea eb sb => ?_, ⟨fun l' l'0 l'1 hl' => ?_, fun a a0 a1 an => ?_⟩, i6.keep (fun q a b => big _ (by omega)) (by rw [k5 150 (by decide)])⟩
  · have xx := hS.eq e0 e1 en ea eb
    have aub : ¬ M0 263 e = -1 → (0 ≤ M0 263 e ∧ M0 263 e < (M0 222 55)) := fun z => by
      rcases hS.st e0 e1 with y | y
      · exact absurd y.2.1 z
      · exact y.2.1
    have bi := hX.sb hn xx.1.1 xx.1.2 xx.2 sb
    have cx := hX.c5 hn xx.1.1 xx.1.2 xx.2
    refine (i4 e x i j e0 e1 en ea eb sb).to (fun z => big _ (by have := aub z; omega)) (fun _ => big _ (by omega)) (fun _ => big _ (by omega)) (fun z => big _ (by have := aub z; omega)) (fun y z => ?_)
    rw [km _ (by omega)]; exact z
  · by_cases w : l' = l
    · rw [w]
      refine ⟨fun _ => ?_, fun z => absurd ((te _).mpr (Or.inr rfl)) z⟩
      by_cases ac : V 153 (26 * n + l) = 0
      · rw [hW.1 ac, rl.2 (by rw [← rd.1]; exact ac)]
        exact (i5.1 l l0 l1 hl).2 new
      · have r2 : ¬ R [] 2 l = 0 := by rw [← rd.1]; exact ac
        rw [hW.2 ac, ax_u_s, rl.1 r2]
        exact (rd.2 r2).1
    · have ld := h_ld l0 hl l'0 hl' w
      rw [big _ (by omega), km _ (by omega)]
      exact i5.1 l' l'0 l'1 hl'
  · have ca := (hX.a5 hn a0 a1 an).2
    rw [big _ (by omega), km _ (by omega)]
    exact i5.2 a a0 a1 an
end Keep
