/-! WORKING A PART where it stands among the steps -/
/-- places of a part: class, model -/
def h_sub (C M : ax_V) (U : Int → Int) (k : Nat) (q i j : Int) : Prop := ((M 241 q = 6 ∨ M 241 q = 19) ∧ i = 0 ∧ j = 0) ∨ (M 241 q = 22 ∧ g_PP C M U k (C 520 q) i j)
/-- automata's cells hold states -/
def h_AS (C M : ax_V) (U : Int → Int) : Nat → Int → Int → (Int → Int) → Prop
  | 0 => fun _ _ _ => True
  | k + 1 => fun n b f => (∀ a : Nat, a < ((M 222 55)).toNat → M 267 (a : Int) = n → 0 ≤ f (b + (g_cp C M U n ((M 222 26)).toNat + g_ca M n a)) ∧ f (b + (g_cp C M U n ((M 222 26)).toNat + g_ca M n a)) < M 269 (a : Int)) ∧ ∀ q : Nat, q < ((M 222 26)).toNat → M 250 (q : Int) = n → M 241 (q : Int) = 22 → h_AS C M U k (C 520 (q : Int)) (b + g_cp C M U n q) f
/-- what is remembered has its sort -/
def h_MS (C M : ax_V) (U F : Int → Int) : Nat → Int → (Int → Int) → Prop
  | 0 => fun _ _ => True
  | k + 1 => fun n g => (∀ q : Nat, q < ((M 222 26)).toNat → M 250 (q : Int) = n → M 241 (q : Int) = 6 → F (q : Int) = 1 → g (g_sp C M U n q) = 0 ∨ g (g_sp C M U n q) = 1) ∧ (∀ l : Nat, l < 26 → ¬ M 236 (26 * n + (l : Int)) = 0 → M 233 (26 * n + (l : Int)) = 1 → g (g_ll M n l) = 0 ∨ g (g_ll M n l) = 1) ∧ (∀ a : Nat, a < ((M 222 55)).toNat → M 267 (a : Int) = n → 0 ≤ g (h_sa M n (a : Int)) ∧ g (h_sa M n (a : Int)) < M 269 (a : Int)) ∧ ∀ q : Nat, q < ((M 222 26)).toNat → M 250 (q : Int) = n → M 241 (q : Int) = 22 → h_MS C M U F k (C 520 (q : Int)) (fun j => g (g_sp C M U n q + j))
theorem h_op_congr {o num x y z l m x' y' z' l' m' : Int} (ho : 0 ≤ o ∧ o ≤ 22) (hx : (o = 4 ∨ o = 5 ∨ (7 ≤ o ∧ o ≤ 20) ∨ (o = 21 ∧ l' = 1)) → x = x') (hy : ((7 ≤ o ∧ o ≤ 19) ∨ (o = 21 ∧ ¬ l' = 1)) → y = y') (hz : o = 18 → z = z') (hl : (o = 2 ∨ o = 21) → l = l') (hm : (o = 3 ∨ o = 6 ∨ o = 19) → m = m') : h_op o num x y z l m = h_op o num x' y' z' l' m' := by
  by_cases o22 : o = 22
  · rw [o22]; unfold h_op; simp
  · rcases h_22 ho o22 with q | q | q | q | q | q | q | q | q | q | q | q | q | q | q | q | q | q | q | q | q | q
    · rw [q, h_o0, h_o0]
    · rw [q, h_o1, h_o1]
    · rw [hl (by omega), q, h_o2, h_o2]
    · rw [hm (by omega), q, h_o3, h_o3]
    · rw [hx (by omega), q, h_o4, h_o4]
    · rw [hx (by omega), q, h_o5, h_o5]
    · rw [hm (by omega), q, h_o6, h_o6]
    · rw [hx (by omega), hy (by omega), q, h_o7, h_o7]
    · rw [hx (by omega), hy (by omega), q, h_o8, h_o8]
    · rw [hx (by omega), hy (by omega), q, h_o9, h_o9]
    · rw [hx (by omega), hy (by omega), q, h_o10, h_o10]
    · rw [hx (by omega), hy (by omega), q, h_o11, h_o11]
    · rw [hx (by omega), hy (by omega), q, h_o12, h_o12]
    · rw [hx (by omega), hy (by omega), q, h_o13, h_o13]
    · rw [hx (by omega), hy (by omega), q, h_o14, h_o14]
    · rw [hx (by omega), hy (by omega), q, h_o15, h_o15]
    · rw [hx (by omega), hy (by omega), q, h_o16, h_o16]
    · rw [hx (by omega), hy (by omega), q, h_o17, h_o17]
    · rw [hx (by omega), hy (by omega), hz q, q, h_o18, h_o18]
    · rw [hx (by omega), hy (by omega), hm (by omega), q, h_o19, h_o19]
    · rw [hx (by omega), q, h_o20, h_o20]
    · rw [hl (by omega)]
      by_cases w : l' = 1
      · rw [hx (by omega), q, h_o21, h_o21, if_pos w, if_pos w]
      · rw [hy (by omega), q, h_o21, h_o21, if_neg w, if_neg w]
section Work
variable {C0 M0 : ax_V} {F G Hh S U : Int → Int} {n q : Int} {s : Int → Prop} {R : h_R}
/-- at the end all told letters are ready -/
theorem g_al.rd (hS : g_S C0 M0) (ok : g_N2 M0) (n0 : 0 ≤ n) (n1 : n < (M0 222 86)) (al : g_al M0 s n) {y : Int} (k : ¬ M0 232 (26 * n + y) = 0) : g_rd M0 s n y := Or.inr ⟨k, fun e i a b c => al.1 e a.1.1 a.1.2 b⟩
/-- what the steps so far warrant: an equation, an automaton that has come -/
def h_cl (C M : ax_V) (s : Int → Prop) (n : Int) : Prop := (∀ e, 0 ≤ e → e < (M 222 44) → s (1024 + e) → g_eb C M s n e) ∧ (∀ a m q, 0 ≤ a → a < (M 222 55) → s (2048 + a) → 0 ≤ m → m < (M 222 60) → M 271 m = a → ¬ M 273 m = 0 → M 276 m ≤ q → q ≤ M 277 m → s q) ∧ ∀ v, 3072 ≤ v → s v → g_aw M s n
theorem g_SQ.cl (hS : g_S C0 M0) (n0 : 0 ≤ n) {f : Int → Int} {F0 p k : Int} (h : g_SQ C0 M0 f F0 p n) (hk : k ≤ p) : h_cl C0 M0 (g_st f F0 k) n := by
  have sm := hS.small
  refine ⟨fun e e0 e1 z => (h.eb hS n0 hk e0 e1 z).1, fun a m q a0 a1 z m0 m1 mt ms ma mb => (h.ab hS n0 hk a0 a1 z).2.2 m q m0 m1 mt ms ma mb, fun v hv z => ?_⟩
  obtain ⟨j, j0, j1⟩ := z
  have u := (h j j0.1 (by omega)).2.1
  rw [j1] at u
  have mono : ∀ v, g_st f F0 j v → g_st f F0 k v := fun v z => by obtain ⟨i, i0, i1⟩ := z; exact ⟨i, ⟨i0.1, by omega⟩, i1⟩
  rcases u with ⟨q, ev, q0, -⟩ | ⟨e', ev, e'0, -⟩ | ⟨a', ev, a'0, -⟩ | ⟨q, ev, q0, -, aw⟩ | ⟨l, ev, l0, -, aw⟩ | ⟨a', ev, a'0, -, aw, -⟩
  · omega
  · omega
  · omega
  · exact aw.mono mono
  · exact aw.mono mono
  · exact aw.mono mono
/-- what a part finds that may be worked -/
theorem h_wk (hS : g_S C0 M0) (ok : g_N2 M0) (hT : g_ST M0 G S) (hr : ∀ q, -1 ≤ S q ∧ S q ≤ 52) (hcl : ∀ e i, g_of M0 e i → M0 235 (26 * M0 258 e + M0 265 i) = M0 235 (26 * M0 258 e + M0 265 (M0 259 e))) (n0 : 0 ≤ n) (n1 : n < (M0 222 86)) (cl : h_cl C0 M0 s n) (q0 : 0 ≤ q) (q1 : q < (M0 222 26)) (new : ¬ s q) (sk : g_sk C0 M0 s n q) :
    M0 250 q = n ∧ (∀ x, e_kid M0 q x → M0 241 q = 6 ∨ s x) ∧ ((M0 241 q = 2 ∨ M0 241 q = 20 ∨ M0 241 q = 21 ∨ (M0 241 q = 22 ∧ ¬ M0 248 q = -1)) → g_rd M0 s n (M0 248 q)) ∧ (C0 525 q = -1 → ¬ S q = 0 → g_rd M0 s n ((S q - 1) / 2)) ∧ (∀ e, 0 ≤ e → e < (M0 222 44) → M0 261 e ≤ q → q ≤ M0 262 e → ¬ M0 263 e = -1 → s (2048 + M0 263 e)) ∧ (∀ m, 0 ≤ m → m < (M0 222 60) → M0 276 m ≤ q → q ≤ M0 277 m → (M0 273 m = 0 → s (2048 + M0 271 m)) ∧ (¬ M0 273 m = 0 → ¬ s (2048 + M0 271 m))) ∧ ∀ v, 3072 ≤ v → ¬ s v := by
  have sm := hS.small
  have hB := hS.2.2.2.2.1
  have orr := hB.2.2.2.2.2.1.2.2.1
  have noend : ∀ v, 3072 ≤ v → M0 250 q = n → ¬ s v := fun v hv qn z => new ((cl.2.2 v hv z).1 q q0 q1 qn)
  have str : ∀ m, 0 ≤ m → m < (M0 222 60) → M0 276 m ≤ q → q ≤ M0 277 m → ¬ M0 273 m = 0 → ¬ s (2048 + M0 271 m) := fun m m0 m1 ma mb ms z => by
    have tm := (hS.tr m0 m1).1
    exact new (cl.2.1 _ m q tm.1 tm.2 z m0 m1 rfl ms ma mb)
  -- which letters are told
  have told : (M0 241 q = 2 ∨ M0 241 q = 20 ∨ M0 241 q = 21 ∨ (M0 241 q = 22 ∧ ¬ M0 248 q = -1)) → (0 ≤ M0 248 q ∧ M0 248 q < 26) ∧ ¬ M0 232 (26 * M0 250 q + M0 248 q) = 0 := fun o => by
    have l := hS.pl q0 q1 (by omega)
    refine ⟨l, ?_⟩
    by_cases o2 : M0 241 q = 2
    · exact ok.told hS q0 q1 (Or.inl o2)
    · exact fun z => ok.truth hS q0 q1 (by omega) (Or.inl z)
  rcases sk with ⟨q', ev, ⟨qb, qn⟩, kd, alt⟩ | ⟨e', ev, e'0, -⟩ | ⟨a', ev, a'0, -⟩ | ⟨q', ev, q'0, -⟩ | ⟨l, ev, l0, -⟩ | ⟨a', ev, a'0, -⟩
  · rw [← ev] at qb qn kd alt
    refine ⟨qn, kd, fun o => ?_, fun st z => ?_, fun e e0 e1 ea eb au => ?_, fun m m0 m1 ma mb => ⟨fun w => ?_, str m m0 m1 ma mb⟩, fun v hv => noend v hv qn⟩
    · have tl := told o
      rw [qn] at tl
      rcases alt with ⟨e, e0, en, eq, lt, eb⟩ | ⟨m, m0, mn, ms, mq, ab⟩ | ⟨al, -⟩
      · exact eb.1 _ tl.1.1 tl.1.2 (Or.inl ⟨q, eq, lt, by omega, rfl⟩)
      · exact ab _ tl.1.1 tl.1.2 ⟨m, m0, rfl, ms, q, mq, hS.trl m0.1 m0.2 (M0 277 m - q).toNat q mq.1 mq.2 (by omega), by omega, rfl⟩
      · exact al.rd hS ok n0 n1 tl.2
    · rcases alt with ⟨e, e0, en, eq, lt, eb⟩ | ⟨m, m0, mn, ms, mq, ab⟩ | ⟨al, -⟩
      · exact hS.pck ok hT hr n0 n1 hcl cl.1 e0.1 e0.2 en eb eq.1 eq.2 lt z
      · exfalso
        have ft := hB.2.2.2.2.1 m m0.1 m0.2
        have fx := ft.2.2.2.2.2.2.2.2.2 q mq.1 mq.2
        have tm := (hS.tr m0.1 m0.2).2
        rw [fx.1.2.1] at st
        omega
      · -- at the end
        have nn := hS.Snn hT q0 q1
        rcases hB.2.2.2.2.2.1.1 q q0 q1 with ⟨e, e0, e1, ea, eb⟩ | ⟨m, m0, m1, ma, mb⟩
        · have h9 := hr q
          have fx := (hB.2.1 e e0 e1).2.2.2.2.2.1
          -- its clock is a letter's
          have key := hS.dsc (Q := fun q => M0 250 q = n → ¬ S q = 0 → g_rd M0 s n ((S q - 1) / 2)) (fun f w hX wn wz => ?_) (fun p x p0 p1 kx hp xn xz => ?_) q0 q1
          · exact key qn z
          · show g_rd M0 s n ((S w - 1) / 2)
            rcases hX with ⟨e, e0, -, ew⟩ | ⟨m, m0, -, ew⟩
            · have fe := hB.2.1 e e0.1 e0.2
              have fe3 := fe.2.2.1
              have fxe := fe.2.2.2.2.2.1
              have en : M0 258 e = n := by rw [← (fxe.2.2 w (by rw [ew]; exact fxe.1.2.1) (by omega)).1.1]; exact wn
              have se := hT.1 e e0.1 e0.2
              rw [← ew] at se
              unfold g_ec at se
              by_cases au : M0 263 e = -1
              · rw [if_pos au] at se
                have ofe : g_of M0 e (M0 259 e) := ⟨e0, by omega, by omega⟩
                have il := hS.ofl ofe
                have sl := hS.slot il.1 il.2
                rw [hS.eoe ofe, en] at sl
                rw [en] at se
                rw [se] at wz ⊢
                have ckt := ok.ckt hS n0 n1 sl.2.1.1 sl.2.1.2 wz
                exact al.rd hS ok n0 n1 (fun y => ckt (Or.inl y))
              · rw [if_neg au] at se; exact absurd se wz
            · have := hT.2.1 m m0.1 m0.2
              rw [← ew] at this
              exact absurd this wz
          · show g_rd M0 s n ((S x - 1) / 2)
            have pn : M0 250 p = n := by rw [← hS.kidn p0 p1 kx]; exact xn
            have dm := hT.2.2.1 p x p0 p1 kx
            rw [dm] at xz ⊢
            unfold g_dm at xz ⊢
            by_cases o20 : M0 241 p = 20
            · rw [if_pos o20, pn] at xz ⊢
              have l := hS.pl p0 p1 (by omega)
              have ckt := ok.ckt hS n0 n1 l.1 l.2 xz
              exact al.rd hS ok n0 n1 (fun y => ckt (Or.inl y))
            · rw [if_neg o20] at xz ⊢
              by_cases o21 : M0 241 p = 21
              · rw [if_pos o21] at xz ⊢
                have l := hS.pl p0 p1 (by omega)
                have tr := ok.truth hS p0 p1 (Or.inr (Or.inl o21))
                rw [pn] at tr
                have g := al.rd hS ok n0 n1 (y := M0 248 p) (fun y => tr (Or.inl y))
                split
                · rw [show (2 * M0 248 p + 1 - 1) / 2 = M0 248 p by omega]; exact g
                · rw [show (2 * M0 248 p + 2 - 1) / 2 = M0 248 p by omega]; exact g
              · rw [if_neg o21] at xz ⊢
                exact hp pn xz
        · exfalso
          have ft := hB.2.2.2.2.1 m m0 m1
          have fx := ft.2.2.2.2.2.2.2.2.2 q ma mb
          have tm := (hS.tr m0 m1).2
          rw [fx.1.2.1] at st
          omega
    · rcases alt with ⟨e', e'0, en, eq, lt, eb'⟩ | ⟨m, m0, mn, ms, mq, ab⟩ | ⟨al, -⟩
      · have ee : e' = e := by
          by_cases u : e' = e
          · exact u
          · by_cases w : e' < e
            · have := orr.1 e' e e'0.1 w e1; omega
            · have := orr.1 e e' e0 (by omega) e'0.2; omega
        rw [ee] at eb'
        exact eb'.2 au
      · have := orr.2.2 e m e0 e1 m0.1 m0.2; omega
      · have fe := hB.2.1 e e0 e1
        have fx := fe.2.2.2.2.2.1.2.2 q ea eb
        rcases fe.2.2.2.2.1 with y | ⟨y1, y2, y3, y4, y5, y6, y7⟩
        · exact absurd y.2.1 au
        · exact al.2 _ y1 (by have := hB.1.2.2.1; omega) (by rw [y7, ← fx.1.1]; exact qn)
    · rcases alt with ⟨e', e'0, en, eq, lt, eb'⟩ | ⟨m', m'0, mn, ms, mq, ab⟩ | ⟨al, -⟩
      · have := orr.2.2 e' m e'0.1 e'0.2 m0 m1; omega
      · have mm : m' = m := by
          by_cases u : m' = m
          · exact u
          · by_cases w : m' < m
            · have := orr.2.1 m' m m'0.1 w m1; omega
            · have := orr.2.1 m m' m0 (by omega) m'0.2; omega
        rw [mm] at ms
        exact absurd w ms
      · have ft := hB.2.2.2.2.1 m m0 m1
        have fx := ft.2.2.2.2.2.2.2.2.2 q ma mb
        have tm := (hS.tr m0 m1).1
        exact al.2 _ tm.1 tm.2 (by rw [← fx.1.1]; exact qn)
  · omega
  · omega
  · omega
  · omega
  · omega
end Work
