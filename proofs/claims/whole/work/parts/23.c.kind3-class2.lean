/-! FAULTS 3: the types are one, so both sides find the same -/
def g_F (C M : ax_V) (F : Int → Int) : Prop := ∀ q, 0 ≤ q → q < (M 222 26) → g_tv C M F q (F q) ∧ (F q = 0 ∨ F q = 1)
section TypesF
variable {C0 M0 : ax_V}
theorem g_tv.ex (C M : ax_V) (f : Int → Int) (q : Int) (o : 0 ≤ M 241 q ∧ M 241 q ≤ 22) : ∃ v, g_tv C M f q v := by
  by_cases w : M 241 q = 22
  · exact ⟨_, g_tv.mC w⟩
  · by_cases w1 : M 241 q = 0 ∨ M 241 q = 4 ∨ (7 ≤ M 241 q ∧ M 241 q ≤ 11)
    · exact ⟨0, g_tv.m0 w1⟩
    · by_cases w2 : M 241 q = 1 ∨ M 241 q = 5 ∨ (12 ≤ M 241 q ∧ M 241 q ≤ 17)
      · exact ⟨1, g_tv.m1 w2⟩
      · by_cases w3 : M 241 q = 2 ∨ M 241 q = 3
        · exact ⟨_, g_tv.mL w3⟩
        · by_cases w4 : M 241 q = 18
          · exact ⟨_, g_tv.mB w4⟩
          · exact ⟨_, g_tv.mA (by omega)⟩
theorem g_S.F (hS : g_S C0 M0) (ok : g_N2 M0) : ∃ F, g_F C0 M0 F := by
  have p0 := hS.2.2.1.1
  have key : ∀ m : Nat, (m : Int) ≤ (M0 222 26) → ∃ F : Int → Int, ∀ q, 0 ≤ q → q < (m : Int) → g_tv C0 M0 F q (F q) ∧ (F q = 0 ∨ F q = 1) := by
    intro m
    induction m with
    | zero => intro _; exact ⟨fun _ => 0, fun q a b => by omega⟩
    | succ m ih =>
      intro hm
      obtain ⟨F, hF⟩ := ih (by omega)
      obtain ⟨v, hv⟩ := g_tv.ex C0 M0 F (m : Int) (hS.op (by omega) (by omega)).1
      have vb := hv.b hS ok (by omega) (by omega) (fun x x0 x1 => (hF x x0 x1).2)
      obtain ⟨G, G1, G2⟩ : ∃ G : Int → Int, G (m : Int) = v ∧ ∀ x, ¬ x = (m : Int) → G x = F x := ⟨fun x => if x = (m : Int) then v else F x, if_pos rfl, fun x h => if_neg h⟩
      refine ⟨G, fun q a b => ?_⟩
      by_cases w : q = (m : Int)
      · rw [w, G1]
        exact ⟨hv.up hS (by omega) (by omega) (fun x _ x1 => G2 x (by omega)), vb⟩
      · rw [G2 q w]
        have z := hF q a (by omega)
        exact ⟨z.1.up hS a (by omega) (fun x _ x1 => G2 x (by omega)), z.2⟩
  obtain ⟨F, hF⟩ := key ((M0 222 26)).toNat (by omega)
  exact ⟨F, fun q a b => hF q a (by omega)⟩
theorem g_b3.cg {f f' : Int → Int} {q : Int} (hS : g_S C0 M0) (q0 : 0 ≤ q) (q1 : q < (M0 222 26)) (k : ∀ x, 0 ≤ x → x < q → f x = f' x) (t : Int) : g_b3 C0 M0 f q t ↔ g_b3 C0 M0 f' q t := by
  have o := (hS.op q0 q1).1
  have ar := hS.ar q0 q1
  by_cases w : M0 241 q = 22
  · rw [g_b3.c w, g_b3.c w]
    have go : ∀ f f' : Int → Int, (∀ x, 0 ≤ x → x < q → f x = f' x) → g_b3c C0 M0 f q t → g_b3c C0 M0 f' q t := by
      rintro f f' k ⟨K, ⟨K1, K2⟩, z⟩
      refine ⟨K, ⟨K1, K2⟩, ?_⟩
      rcases z with z | ⟨z0, j, j0, j1, j2⟩ | z
      · exact Or.inl z
      · have b := ((hS.p q0 q1).2.2.2.2.2.2.2.2.2.2 _ ⟨K2 j j0, Or.inr ⟨w, j, rfl⟩⟩).1
        exact Or.inr (Or.inl ⟨z0, j, j0, by rw [← k _ (K2 j j0) b]; exact j1, j2⟩)
      · exact Or.inr (Or.inr z)
    exact ⟨go f f' k, go f' f (fun x a b => (k x a b).symm)⟩
  · have kd := hS.kid q0 q1 w
    have ka : 0 ≤ M0 245 q → f (M0 245 q) = f' (M0 245 q) := fun z => k _ z kd.2.1.2
    have kb : 0 ≤ M0 246 q → f (M0 246 q) = f' (M0 246 q) := fun z => k _ z kd.2.2.1.2
    have kc : 0 ≤ M0 247 q → f (M0 247 q) = f' (M0 247 q) := fun z => k _ z kd.2.2.2.1.2
    by_cases w0 : M0 241 q = 4
    · rw [g_b3.u0 w0, g_b3.u0 w0, ka (by rcases ar with z | z | z | z | z <;> omega)]
    · by_cases w1 : M0 241 q = 5
      · rw [g_b3.u1 w1, g_b3.u1 w1, ka (by rcases ar with z | z | z | z | z <;> omega)]
      · by_cases w2 : (7 ≤ M0 241 q ∧ M0 241 q ≤ 11) ∨ M0 241 q = 14 ∨ M0 241 q = 15
        · rw [g_b3.b0 w2, g_b3.b0 w2, ka (by rcases ar with z | z | z | z | z <;> omega), kb (by rcases ar with z | z | z | z | z <;> omega)]
        · by_cases w3 : M0 241 q = 12 ∨ M0 241 q = 13 ∨ M0 241 q = 19 ∨ M0 241 q = 21
          · rw [g_b3.s w3, g_b3.s w3, ka (by rcases ar with z | z | z | z | z <;> omega), kb (by rcases ar with z | z | z | z | z <;> omega)]
          · by_cases w4 : M0 241 q = 16 ∨ M0 241 q = 17
            · rw [g_b3.b1 w4, g_b3.b1 w4, ka (by rcases ar with z | z | z | z | z <;> omega), kb (by rcases ar with z | z | z | z | z <;> omega)]
            · by_cases w5 : M0 241 q = 18
              · rw [g_b3.h w5, g_b3.h w5, ka (by rcases ar with z | z | z | z | z <;> omega), kb (by rcases ar with z | z | z | z | z <;> omega), kc (by rcases ar with z | z | z | z | z <;> omega)]
              · exact ⟨fun z => absurd z (g_b3.n (by omega)), fun z => absurd z (g_b3.n (by omega))⟩
/-- a letter left of = in an equation -/
theorem g_N2.hs {e i : Int} (ok : g_N2 M0) (hS : g_S C0 M0) (e0 : 0 ≤ e) (e1 : e < (M0 222 44)) (i0 : 0 ≤ i) (i1 : i < M0 260 e) : C0 554 (M0 259 e + i) = 26 * M0 258 e + M0 265 (M0 259 e + i) ∧ (0 ≤ M0 265 (M0 259 e + i) ∧ M0 265 (M0 259 e + i) < 26) ∧ C0 535 (26 * M0 258 e + M0 265 (M0 259 e + i)) = M0 233 (26 * M0 258 e + M0 265 (M0 259 e + i)) ∧ (M0 233 (26 * M0 258 e + M0 265 (M0 259 e + i)) = 0 ∨ M0 233 (26 * M0 258 e + M0 265 (M0 259 e + i)) = 1) ∧ 0 ≤ M0 259 e + i ∧ M0 259 e + i < 350 := by
  have hat := hS.2.2.2.2.2.2.2
  have hc2 := hS.2.2.2.2.1.1.2.1
  have fe := hS.2.2.2.2.1.2.1 e e0 e1
  have fe3 := fe.2.2.1
  have ho : g_of M0 e (M0 259 e + i) := ⟨⟨e0, e1⟩, by omega, by omega⟩
  have il := hS.ofl ho
  have eo := hS.eoe ho
  have fh := fe.2.2.2.2.2.2 (M0 259 e + i) (by omega) (by omega)
  have k := (ok.head hS il.1 il.2).1
  rw [eo] at k
  have nd := hS.node e0 e1
  have s := hS.sort nd.1 nd.2.1 fh.2.1.1 fh.2.1.2 (by omega)
  exact ⟨fh.1, fh.2.1, s.1, s.2, il.1, by omega⟩
end TypesF
section Kind3D
variable {B r d : Nat} {C0 M0 V C C2 : ax_V} {F : Int → Int} {q : Int} {Φ : Int → ax_V → Prop} {Ψ Θ : ax_V → Prop}
set_option maxHeartbeats 4000000 in
theorem t_eqSorts {T : Int → Prop} {e : Int} (hS : g_S C0 M0) (ok : g_N2 M0) (hv : g_fr g_XJ C0 V) (hg : ax_g V) (e0 : 0 ≤ e) (e1 : e < (M0 222 44)) (hF : V 528 (M0 262 e) = F (M0 262 e)) (hT : ∀ t, (V 601 5) ≤ t ↔ T t) (h : ∀ V', g_J1 V V' (fun t => T t ∨ g_b3e C0 M0 F e t) → Ψ V') : ax_N (az_W B (az_EJ B r)) (d + 3) q_Judge_judgeEquationSorts [.ref r, ax_i e] V Ψ Θ := by
  have p0 := hS.2.2.1.1
  have hat := hS.2.2.2.2.2.2.2
  have hN := hS.2.1
  have hc1 := hS.2.2.2.2.1.1.1
  have hc2 := hS.2.2.2.2.1.1.2.1
  have fe := hS.2.2.2.2.1.2.1 e e0 e1
  have fe2 := fe.2.1
  have fe3 := fe.2.2.1
  have fx := fe.2.2.2.2.2.1.1
  have ex := fe.2.2.2.1.2.1
  have nd := hS.node e0 e1
  obtain ⟨w, ew⟩ : ∃ w : Int, w = M0 262 e := ⟨_, rfl⟩
  obtain ⟨fr, efr⟩ : ∃ w : Int, w = M0 259 e := ⟨_, rfl⟩
  obtain ⟨mn, emn⟩ : ∃ w : Int, w = M0 260 e := ⟨_, rfl⟩
  obtain ⟨n, en⟩ : ∃ w : Int, w = M0 258 e := ⟨_, rfl⟩
  have hd := fun i (i0 : 0 ≤ i) (i1 : i < M0 260 e) => ok.hs hS e0 e1 i0 i1
  rw [← efr, ← emn, ← en] at hd
  rw [← efr, ← emn] at fe2 fe3
  rw [← ew] at fx ex hF
  rw [← en] at nd
  have w0 : 0 ≤ w := by omega
  have w1 : w < (M0 222 26) := by omega
  have b7 : 0 ≤ w ∧ w < 700 := ⟨w0, by omega⟩
  have pw := hS.p w0 w1
  have pbe : C0 518 w = M0 242 w := pw.2.1
  have pb := pw.2.2.1
  have rb : ax_rg (M0 242 w) := ⟨by omega, by omega⟩
  have v548 : V 548 = C0 548 := hv 548 (by decide)
  have v550 : V 550 = C0 550 := hv 550 (by decide)
  have v554 : V 554 = C0 554 := hv 554 (by decide)
  have v535 : V 535 = C0 535 := hv 535 (by decide)
  have v518 : V 518 = C0 518 := hv 518 (by decide)
  have v520 : V 520 = C0 520 := hv 520 (by decide)
  have v504 : V 504 = C0 504 := hv 504 (by decide)
  have J0 : g_J1 V V T := ⟨g_fr.rf _ _, hg, hT⟩
  have hx : ∀ {V' : ax_V} {T' : Int → Prop}, g_J1 V V' T' → ∀ c, c ∉ g_XJ → V' c = C0 c := fun hJ c z => by rw [hJ.1 c (fun q => z (by simp at q; rw [q]; decide))]; exact hv c z
  -- where it is none, or of another count
  have no : ¬ mn = 1 → ¬ (M0 241 w = 22 ∧ M0 228 (C0 520 w) = mn) → ∀ y7, ax_y y7 → k_Judge_judgeEquationSorts_130 B r (d + 2) (some (ax_i e)) w fr mn 0 0 y7 (j_bl V 1 (M0 242 w)) Ψ Θ := by
    intro z z2 y7 hy7
    refine r_Judge_judgeEquationSorts_130 (J0.bl (w := 1) rb).2.1 (ax_y_i _) ⟨by omega, by omega⟩ ⟨by omega, by omega⟩ ⟨by omega, by omega⟩ (by decide) (by decide) hy7 ⟨fun _ => h _ ((J0.bl rb).of (fun t => ?_)), fun y => absurd rfl y⟩
    unfold g_b3e
    rw [← ew, ← emn, ← efr, ← en]
    constructor
    · rintro (y | ⟨-, y⟩)
      · exact Or.inl y
      · exact Or.inr (Or.inr ⟨z, fun u => z2 ⟨u.1, u.2.1⟩, y⟩)
    · rintro (y | y | y)
      · exact Or.inl y
      · exact absurd y.1 z
      · exact Or.inr ⟨by decide, y.2.2⟩
  refine r_Judge_judgeEquationSorts hg ⟨by omega, by omega⟩ ⟨⟨e0, by omega⟩, ⟨e0, by omega⟩, ⟨by omega, by omega⟩, ?_⟩
  rw [v548, v550, v554, v535, fe2.1, fe2.2, ex, show fr + mn - fr = mn by omega]
  refine ⟨⟨by omega, by omega⟩, fun z => ?_, fun z => ?_⟩
  · have u := hd 0 (by decide) (by omega)
    rw [show fr + 0 = fr by omega] at u
    rw [u.1, u.2.2.1]
    refine ⟨⟨u.2.2.2.2.1, u.2.2.2.2.2⟩, ⟨by omega, by omega⟩, t_mustBe hg (by omega) (by rcases u.2.2.2.1 with y | y <;> rw [y] <;> decide) (h _ ((J0.mb).of (fun t => ?_)))⟩
    unfold g_b3e
    rw [← ew, ← emn, ← efr, ← en, hF, v518, pbe]
    constructor
    · rintro (y | ⟨-, y1, y2⟩)
      · exact Or.inl y
      · exact Or.inr (Or.inl ⟨z, y1, y2⟩)
    · rintro (y | y | y)
      · exact Or.inl y
      · exact Or.inr ⟨w0, y.2⟩
      · exact absurd z y.1
  · refine t_isCall hS ok hv hg w0 w1 (fun o => ⟨fun y => absurd y (by decide), fun _ => ⟨b7, ?_⟩⟩) (fun o => ⟨fun _ => ⟨b7, ?_⟩, fun y => absurd rfl y⟩)
    · have c := ok.call hS w0 w1 o
      have pn := (hS.pnode w0 w1).1
      obtain ⟨c', ec⟩ : ∃ x : Int, x = C0 520 w := ⟨_, rfl⟩
      rw [← ec] at c
      have c1 : c' < (M0 222 86) := by omega
      have fl := hS.fl c.1 c1
      rw [v520, v504, v518, ← ec, fl.2.1.1, pbe]
      have cn := (f_cn_le M0 c' 26).2
      have fl4 := fl.2.2.2.1
      have fl3 := fl.2.2.1.2
      have in1 := fl.1
      have out1 := fl.2.1
      refine ⟨⟨c.1, by omega⟩, ⟨by omega, by omega⟩, fun z2 => ⟨b7, t_blame hg (by decide) rb ?_⟩, fun z2 => ⟨b7, t_blame hg (by decide) rb (no z (fun u => by rw [← ec] at u; exact z2 u.2) none ax_y_n)⟩⟩
      have J1 : g_J1 V (j_bl V 0 (M0 242 w)) T := (J0.bl (w := 0) rb).of (fun t => ⟨fun y => by rcases y with y | y; exact y; exact absurd rfl y.1, fun y => Or.inl y⟩)
      refine ax_for (I := fun i V' => (0 ≤ i ∧ i ≤ mn) ∧ g_J1 V V' (fun t => T t ∨ ((∃ k, (0 ≤ k ∧ k < i) ∧ ¬ M0 233 (26 * n + M0 265 (fr + k)) = M0 233 (26 * c' + M0 231 (26 * c' + k))) ∧ M0 242 w ≤ t))) (K := fun i V' => ∀ y7, ax_y y7 → k_Judge_judgeEquationSorts_130 B r (d + 2) (some (ax_i e)) w fr mn 1 i y7 V' Ψ Θ) (hi := mn) (fun i V' u hI next y7 hy7 => ?_) (fun i V' u hI y7 hy7 => ?_) 0 _ ⟨⟨by decide, by omega⟩, J1.of (fun t => ⟨fun y => Or.inl y, fun y => by rcases y with y | ⟨⟨k, k0, -⟩, -⟩; exact y; omega⟩)⟩ none ax_y_n
      · obtain ⟨hi, hJ⟩ := hI
        have a := hd i hi.1 u
        have b := hS.outp (n := c') (i := i) c.1 c1 hi.1 (by omega)
        refine r_Judge_judgeEquationSorts_130 hJ.2.1 (ax_y_i _) ⟨by omega, by omega⟩ ⟨by omega, by omega⟩ ⟨by omega, by omega⟩ (by decide) ⟨by omega, by omega⟩ hy7 ⟨fun y => absurd y (by decide), fun _ => ⟨fun y => by omega, fun _ => ⟨fun y => by omega, fun _ => ⟨b7, ?_⟩⟩⟩⟩
        rw [hx hJ 520 (by decide), hx hJ 507 (by decide), hx hJ 535 (by decide), hx hJ 554 (by decide), hx hJ 518 (by decide), ← ec, show c' * 26 + i = 26 * c' + i by omega, b.1, a.1, b.2.2.1, a.2.2.1, pbe]
        refine ⟨⟨by omega, by omega⟩, ⟨by omega, by omega⟩, ⟨a.2.2.2.2.1, a.2.2.2.2.2⟩, ⟨by omega, by omega⟩, fun y => ⟨b7, t_blame hJ.2.1 (by decide) rb (next _ ⟨⟨by omega, by omega⟩, (hJ.bl rb).of (fun t => ?_)⟩ _ (ax_y_i _))⟩, fun y => ⟨b7, t_blame hJ.2.1 (by decide) rb (next _ ⟨⟨by omega, by omega⟩, (hJ.bl rb).of (fun t => ?_)⟩ _ (ax_y_i _))⟩⟩
        · constructor
          · rintro ((x | ⟨⟨k, k0, k1⟩, x⟩) | ⟨x, -⟩)
            · exact Or.inl x
            · exact Or.inr ⟨⟨k, ⟨k0.1, by omega⟩, k1⟩, x⟩
            · exact absurd rfl x
          · rintro (x | ⟨⟨k, k0, k1⟩, x⟩)
            · exact Or.inl (Or.inl x)
            · by_cases ek : k = i
              · rw [ek] at k1; exact absurd y.symm k1
              · exact Or.inl (Or.inr ⟨⟨k, ⟨k0.1, by omega⟩, k1⟩, x⟩)
        · constructor
          · rintro ((x | ⟨⟨k, k0, k1⟩, x⟩) | ⟨-, x⟩)
            · exact Or.inl x
            · exact Or.inr ⟨⟨k, ⟨k0.1, by omega⟩, k1⟩, x⟩
            · exact Or.inr ⟨⟨i, ⟨hi.1, by omega⟩, fun z => y z.symm⟩, x⟩
          · rintro (x | ⟨-, x⟩)
            · exact Or.inl (Or.inl x)
            · exact Or.inr ⟨by decide, x⟩
      · obtain ⟨hi, hJ⟩ := hI
        refine r_Judge_judgeEquationSorts_130 hJ.2.1 (ax_y_i _) ⟨by omega, by omega⟩ ⟨by omega, by omega⟩ ⟨by omega, by omega⟩ (by decide) ⟨by omega, by omega⟩ hy7 ⟨fun y => absurd y (by decide), fun _ => ⟨fun _ => h _ (hJ.of (fun t => ?_)), fun y => by omega⟩⟩
        unfold g_b3e
        rw [← ew, ← emn, ← efr, ← en, ← ec]
        constructor
        · rintro (y | ⟨⟨k, k0, k1⟩, y⟩)
          · exact Or.inl y
          · exact Or.inr (Or.inr ⟨z, fun x => k1 (x.2.2 k k0.1 (by omega)), y⟩)
        · rintro (y | y | ⟨-, y2, y3⟩)
          · exact Or.inl y
          · exact absurd y.1 z
          · refine Or.inr ⟨Classical.byContradiction (fun x => y2 ⟨o, z2, fun k k0 k1 => Classical.byContradiction (fun x2 => x ⟨k, ⟨k0, by omega⟩, x2⟩)⟩), y3⟩
    · rw [v518, pbe]
      exact t_blame hg (by decide) rb (no z (fun u => o u.1) none ax_y_n)
/-- what the node n is blamed for -/
def g_w3 (C0 M0 : ax_V) (F : Int → Int) (n t : Int) : Prop := (∃ q, (0 ≤ q ∧ q < (M0 222 26)) ∧ M0 250 q = n ∧ g_b3 C0 M0 F q t) ∨ (∃ e, (0 ≤ e ∧ e < (M0 222 44)) ∧ M0 258 e = n ∧ g_b3e C0 M0 F e t) ∨ ∃ m, (0 ≤ m ∧ m < (M0 222 60)) ∧ M0 267 (M0 271 m) = n ∧ ¬ F (M0 277 m) = 1 ∧ M0 242 (M0 277 m) ≤ t
def g_J3 (C2 : ax_V) (F : Int → Int) (C : ax_V) (P : Int) (T : Int → Prop) : Prop := g_fr [601, 528] C2 C ∧ ax_g C ∧ (∀ q, 0 ≤ q → q < P → C 528 q = F q) ∧ ∀ t, (C 601 5) ≤ t ↔ T t
theorem g_J3.of {T T' : Int → Prop} {P : Int} (h : g_J3 C2 F C P T) (k : ∀ t, T t ↔ T' t) : g_J3 C2 F C P T' := ⟨h.1, h.2.1, h.2.2.1, fun t => (h.2.2.2 t).trans (k t)⟩
theorem g_J3.up {T T' : Int → Prop} {P : Int} (h : g_J3 C2 F C P T) (k : g_J1 C V T') : g_J3 C2 F V P T' := ⟨h.1.tr (k.1.up (by decide)), k.2.1, fun q a b => by rw [k.1 528 (by decide)]; exact h.2.2.1 q a b, k.2.2⟩
theorem g_J3.j {T : Int → Prop} {P : Int} (h : g_J3 C2 F C P T) : g_J1 C C T := ⟨g_fr.rf _ _, h.2.1, h.2.2.2⟩
set_option maxHeartbeats 4000000 in
theorem t_look3 {n : Int} {T : Int → Prop} (hS : g_S C0 M0) (ok : g_N2 M0) (hF : g_F C0 M0 F) (h2 : g_fr g_XJ C0 C2) (n0 : 0 ≤ n) (n1 : n < (M0 222 86)) (hJ : g_J3 C2 F C (C0 508 n) T) (h : ∀ C', g_J3 C2 F C' (C0 508 (n + 1)) (fun t => T t ∨ g_w3 C0 M0 F n t) → Ψ C') : ax_N (az_W B (az_EJ B r)) (d + 6) q_Judge_lookFor [.ref r, ax_i 3, ax_i n] C Ψ Θ := by
  have p0 := hS.2.2.1.1
  have hat := hS.2.2.2.2.2.2.2
  have hN := hS.2.1
  have hct := hS.2.2.2.2.1.1
  have hc1 := hct.1
  have hc3 := hct.2.2.1
  have hc5 := hct.2.2.2.2.1
  have rn : ax_rg n := ⟨by omega, by omega⟩
  have E0 := hS.eqF n0 (by omega)
  have E1 := hS.eqF (n := n + 1) (by omega) (by omega)
  have E2 := hS.eqS n0 n1
  have fx : ∀ {V : ax_V} {P : Int} {T' : Int → Prop}, g_J3 C2 F V P T' → g_fr g_XJ C0 V := fun hV => h2.tr (hV.1.up (by decide))
  obtain ⟨P0, eP0⟩ : ∃ A : Int, A = C0 508 n := ⟨_, rfl⟩
  obtain ⟨P1, eP1⟩ : ∃ A : Int, A = C0 508 (n + 1) := ⟨_, rfl⟩
  obtain ⟨Q0, eQ0⟩ : ∃ A : Int, A = C0 509 n := ⟨_, rfl⟩
  obtain ⟨Q1, eQ1⟩ : ∃ A : Int, A = C0 509 (n + 1) := ⟨_, rfl⟩
  obtain ⟨A0, eA0⟩ : ∃ A : Int, A = C0 510 n := ⟨_, rfl⟩
  obtain ⟨A1, eA1⟩ : ∃ A : Int, A = C0 510 (n + 1) := ⟨_, rfl⟩
  have pN := fun q (q0 : 0 ≤ q) (q1 : q < (M0 222 26)) => hS.pN q0 q1 n0 n1
  have eN := fun e (a : 0 ≤ e) (b : e < (M0 222 44)) => hS.eqN a b n0 n1
  have aN := fun e (a : 0 ≤ e) (b : e < (M0 222 55)) => hS.aN a b n0 n1
  rw [← eP0, ← eP1] at pN
  rw [← eQ0, ← eQ1] at eN
  rw [← eA0, ← eA1] at aN
  rw [← eP0] at hJ
  rw [← eP1] at h
  rw [← eP0, ← eQ0, ← eA0] at E0 E2
  rw [← eP1, ← eQ1, ← eA1] at E1 E2
  refine r_Judge_lookFor hJ.2.1 (by decide) rn ⟨fun q => absurd q (by decide), fun _ => ?_, fun q => absurd q (by decide), fun q => absurd q (by decide), fun _ q => absurd rfl q⟩
  refine r_Judge_judgeSorts hJ.2.1 rn ⟨⟨n0, by omega⟩, ?_⟩
  rw [(fx hJ) 508 (by decide), ← eP0]
  refine ax_for (I := fun q V => (P0 ≤ q ∧ q ≤ P1) ∧ g_J3 C2 F V q (fun t => T t ∨ ∃ x, (P0 ≤ x ∧ x < q) ∧ g_b3 C0 M0 F x t)) (K := fun q V => k_Judge_judgeSorts_10 B r (d + 4) n q none V Ψ Θ) (hi := P1) (fun q V w hI next => ?_) (fun q V w hI => ?_) P0 C ⟨⟨Int.le_refl _, by omega⟩, hJ.of (fun t => ⟨fun z => Or.inl z, fun z => by rcases z with z | ⟨x, x0, -⟩; exact z; omega⟩)⟩
  · obtain ⟨hq, hV⟩ := hI
    have v508 : V 508 = C0 508 := (fx hV) 508 (by decide)
    have q0 : 0 ≤ q := by omega
    have q1 : q < (M0 222 26) := by omega
    refine r_Judge_judgeSorts_10 hV.2.1 rn ⟨by omega, by omega⟩ ax_y_n ⟨⟨by omega, by omega⟩, fun z => by rw [v508] at z; omega, fun _ => t_sortOf hS ok (fx hV) hV.2.1 q0 q1 (fun v hv => ⟨⟨by omega, by omega⟩, fun V2 e2 => ?_⟩)⟩
    have ev : v = F q := hv.eq hS q0 q1 (hF q q0 q1).1 (fun x x0 x1 => hV.2.2.1 x x0 x1)
    have fq := (hF q q0 q1).2
    have rv : ax_rg v := by rw [ev]; rcases fq with y | y <;> rw [y] <;> decide
    have g2 : ax_g V2 := by rw [e2]; exact ax_u_g hV.2.1 rv
    have f2 : g_fr [601, 528] C2 V2 := by rw [e2]; exact hV.1.u (by decide)
    have vq : V2 528 q = F q := by rw [e2, ax_u_s, ev]
    have vo : ∀ x, x ≠ q → V2 528 x = V 528 x := fun x z => by rw [e2, ax_u_k z]
    have lt : ∀ x, 0 ≤ x → x < q → V2 528 x = F x := fun x x0 x1 => by rw [vo x (by omega)]; exact hV.2.2.1 x x0 x1
    have v601 : V2 601 = V 601 := by rw [e2, ax_u_ne (by decide)]
    refine t_partSorts hS ok (h2.tr (f2.up (by decide))) g2 q0 q1 (fun x x0 x1 => by rw [lt x x0 x1]; exact (hF x x0 (by omega)).2) (T := fun t => T t ∨ ∃ x, (P0 ≤ x ∧ x < q) ∧ g_b3 C0 M0 F x t) (fun t => by rw [v601]; exact hV.2.2.2 t) (fun V3 hJ3 => next V3 ⟨⟨by omega, by omega⟩, f2.tr (hJ3.1.up (by decide)), hJ3.2.1, fun x x0 x1 => ?_, fun t => ?_⟩)
    · have v3 : V3 528 = V2 528 := hJ3.1 528 (by decide)
      show V3 528 x = F x
      rw [v3]
      by_cases z : x = q
      · rw [z]; exact vq
      · exact lt x x0 (by omega)
    · have cg := g_b3.cg hS q0 q1 lt t
      refine (hJ3.2.2 t).trans ?_
      show ((T t ∨ ∃ x, (P0 ≤ x ∧ x < q) ∧ g_b3 C0 M0 F x t) ∨ g_b3 C0 M0 (V2 528) q t) ↔ _
      rw [cg]
      constructor
      · rintro ((z | ⟨x, x0, x1⟩) | z)
        · exact Or.inl z
        · exact Or.inr ⟨x, ⟨x0.1, by omega⟩, x1⟩
        · exact Or.inr ⟨q, ⟨hq.1, by omega⟩, z⟩
      · rintro (z | ⟨x, x0, x1⟩)
        · exact Or.inl (Or.inl z)
        · by_cases y : x = q
          · rw [y] at x1; exact Or.inr x1
          · exact Or.inl (Or.inr ⟨x, ⟨x0.1, by omega⟩, x1⟩)
  · obtain ⟨hq, hV⟩ := hI
    have eq : q = P1 := by omega
    rw [eq] at hV ⊢
    have v508 : V 508 = C0 508 := (fx hV) 508 (by decide)
    refine r_Judge_judgeSorts_10 hV.2.1 rn ⟨by omega, by omega⟩ ax_y_n ⟨⟨by omega, by omega⟩, fun _ => ⟨⟨n0, by omega⟩, ?_⟩, fun z => by rw [v508] at z; omega⟩
    rw [(fx hV) 509 (by decide), ← eQ0]
    obtain ⟨T1, eT1⟩ : ∃ X : Int → Prop, X = (fun t => T t ∨ ∃ x, (P0 ≤ x ∧ x < P1) ∧ g_b3 C0 M0 F x t) := ⟨_, rfl⟩
    rw [← eT1] at hV
    refine ax_for (I := fun e V => (Q0 ≤ e ∧ e ≤ Q1) ∧ g_J3 C2 F V P1 (fun t => T1 t ∨ ∃ x, (Q0 ≤ x ∧ x < e) ∧ g_b3e C0 M0 F x t)) (K := fun e V => k_Judge_judgeSorts_60 B r (d + 4) n e none V Ψ Θ) (hi := Q1) (fun e V w hI next => ?_) (fun e V w hI => ?_) Q0 V ⟨⟨Int.le_refl _, by omega⟩, hV.of (fun t => ⟨fun z => Or.inl z, fun z => by rcases z with z | ⟨x, x0, -⟩; exact z; omega⟩)⟩
    · obtain ⟨he, hV⟩ := hI
      have v509 : V 509 = C0 509 := (fx hV) 509 (by decide)
      have e0 : 0 ≤ e := by omega
      have e1 : e < (M0 222 44) := by omega
      have fe := (hS.2.2.2.2.1.2.1 e e0 e1).2.2.2.2.2.1
      have ne := (eN e e0 e1).mp ⟨he.1, w⟩
      have nw := (fe.2.2 _ fe.1.2.1 (Int.le_refl _)).1.1
      have wP := (pN (M0 262 e) (by have := fe.1; omega) fe.1.2.2).mpr (by rw [nw, ne])
      refine r_Judge_judgeSorts_60 hV.2.1 rn ⟨by omega, by omega⟩ ax_y_n ⟨⟨by omega, by omega⟩, fun z => by rw [v509] at z; omega, fun _ => t_eqSorts hS ok (fx hV) hV.2.1 e0 e1 (hV.2.2.1 _ (by omega) wP.2) hV.2.2.2 (fun V' hV' => next V' ⟨⟨by omega, by omega⟩, (hV.up hV').of (fun t => ?_)⟩)⟩
      constructor
      · rintro ((z | ⟨x, x0, x1⟩) | z)
        · exact Or.inl z
        · exact Or.inr ⟨x, ⟨x0.1, by omega⟩, x1⟩
        · exact Or.inr ⟨e, ⟨he.1, by omega⟩, z⟩
      · rintro (z | ⟨x, x0, x1⟩)
        · exact Or.inl (Or.inl z)
        · by_cases y : x = e
          · rw [y] at x1; exact Or.inr x1
          · exact Or.inl (Or.inr ⟨x, ⟨x0.1, by omega⟩, x1⟩)
    · obtain ⟨he, hV⟩ := hI
      have ee : e = Q1 := by omega
      rw [ee] at hV ⊢
      have v509 : V 509 = C0 509 := (fx hV) 509 (by decide)
      refine r_Judge_judgeSorts_60 hV.2.1 rn ⟨by omega, by omega⟩ ax_y_n ⟨⟨by omega, by omega⟩, fun _ => ⟨⟨n0, by omega⟩, ?_⟩, fun z => by rw [v509] at z; omega⟩
      rw [(fx hV) 510 (by decide), ← eA0]
      obtain ⟨T2, eT2⟩ : ∃ X : Int → Prop, X = (fun t => T1 t ∨ ∃ x, (Q0 ≤ x ∧ x < Q1) ∧ g_b3e C0 M0 F x t) := ⟨_, rfl⟩
      rw [← eT2] at hV
      refine ax_for (I := fun a V => (A0 ≤ a ∧ a ≤ A1) ∧ g_J3 C2 F V P1 (fun t => T2 t ∨ ∃ m, (0 ≤ m ∧ m < (M0 222 60)) ∧ (A0 ≤ M0 271 m ∧ M0 271 m < a) ∧ ¬ F (M0 277 m) = 1 ∧ M0 242 (M0 277 m) ≤ t)) (K := fun a V => ∀ y, ax_y y → k_Judge_judgeSorts_96 B r (d + 4) n a y V Ψ Θ) (hi := A1) (fun a V w hI next y hy => ?_) (fun a V w hI y hy => ?_) A0 V ⟨⟨Int.le_refl _, by omega⟩, hV.of (fun t => ⟨fun z => Or.inl z, fun z => by rcases z with z | ⟨x, -, x0, -⟩; exact z; omega⟩)⟩ none ax_y_n
      · obtain ⟨ha, hV⟩ := hI
        have a0 : 0 ≤ a := by omega
        have a1 : a < (M0 222 55) := by omega
        have v510 : V 510 = C0 510 := (fx hV) 510 (by decide)
        have fa := (hS.au a0 a1).1.2.2.2.1
        have na := (aN a a0 a1).mp ⟨ha.1, w⟩
        obtain ⟨G, eG⟩ : ∃ G : Int, G = C0 559 a := ⟨_, rfl⟩
        obtain ⟨G1, eG1⟩ : ∃ G : Int, G = C0 559 (a + 1) := ⟨_, rfl⟩
        have mN := fun m (m0 : 0 ≤ m) (m1 : m < (M0 222 60)) => hS.mvN a0 a1 m0 m1
        rw [← eG, ← eG1] at mN fa
        refine r_Judge_judgeSorts_96 hV.2.1 rn ⟨by omega, by omega⟩ hy ⟨⟨by omega, by omega⟩, fun z => by rw [v510] at z; omega, fun _ => ⟨⟨by omega, by omega⟩, ?_⟩⟩
        rw [(fx hV) 559 (by decide), ← eG]
        obtain ⟨T3, eT3⟩ : ∃ X : Int → Prop, X = (fun t => T2 t ∨ ∃ m, (0 ≤ m ∧ m < (M0 222 60)) ∧ (A0 ≤ M0 271 m ∧ M0 271 m < a) ∧ ¬ F (M0 277 m) = 1 ∧ M0 242 (M0 277 m) ≤ t) := ⟨_, rfl⟩
        rw [← eT3] at hV
        refine ax_for (I := fun m V => (G ≤ m ∧ m ≤ G1) ∧ g_J3 C2 F V P1 (fun t => T3 t ∨ ∃ x, (G ≤ x ∧ x < m) ∧ ¬ F (M0 277 x) = 1 ∧ M0 242 (M0 277 x) ≤ t)) (K := fun m V => k_Judge_judgeSorts_121 B r (d + 4) n a m V Ψ Θ) (hi := G1) (fun m V w2 hI next2 => ?_) (fun m V w2 hI => ?_) G V ⟨⟨Int.le_refl _, by omega⟩, hV.of (fun t => ⟨fun z => Or.inl z, fun z => by rcases z with z | ⟨x, x0, -⟩; exact z; omega⟩)⟩
        · obtain ⟨hm, hV⟩ := hI
          have m0 : 0 ≤ m := by omega
          have m1 : m < (M0 222 60) := by omega
          have v559 : V 559 = C0 559 := (fx hV) 559 (by decide)
          have ft := hS.2.2.2.2.1.2.2.2.2.1 m m0 m1
          have fw := ft.2.2.2.2.2.2.2
          have mx := ft.2.2.2.2.1.2
          have ta := (mN m m0 m1).mp ⟨hm.1, w2⟩
          have nw := (fw.2.2 _ fw.1.2.1 (Int.le_refl _)).1.1
          have w0 : 0 ≤ M0 277 m := by have := fw.1; omega
          have wP := (pN (M0 277 m) w0 fw.1.2.2).mpr (by rw [nw, ta, na])
          have sw := hV.2.2.1 _ w0 wP.2
          refine r_Judge_judgeSorts_121 hV.2.1 rn ⟨by omega, by omega⟩ ⟨by omega, by omega⟩ ⟨⟨by omega, by omega⟩, fun z => by rw [v559] at z; omega, fun _ => ⟨⟨m0, by omega⟩, ?_⟩⟩
          rw [(fx hV) 571 (by decide), mx]
          refine t_mustBe hV.2.1 ⟨by omega, by omega⟩ (by decide) (next2 _ ⟨⟨by omega, by omega⟩, (hV.up (hV.j.mb)).of (fun t => ?_)⟩)
          rw [sw, (fx hV) 518 (by decide), (hS.p w0 fw.1.2.2).2.1]
          constructor
          · rintro ((z | ⟨x, x0, x1⟩) | ⟨-, z⟩)
            · exact Or.inl z
            · exact Or.inr ⟨x, ⟨x0.1, by omega⟩, x1⟩
            · exact Or.inr ⟨m, ⟨hm.1, by omega⟩, z⟩
          · rintro (z | ⟨x, x0, x1⟩)
            · exact Or.inl (Or.inl z)
            · by_cases y : x = m
              · rw [y] at x1; exact Or.inr ⟨w0, x1⟩
              · exact Or.inl (Or.inr ⟨x, ⟨x0.1, by omega⟩, x1⟩)
        · obtain ⟨hm, hV⟩ := hI
          have v559 : V 559 = C0 559 := (fx hV) 559 (by decide)
          refine r_Judge_judgeSorts_121 hV.2.1 rn ⟨by omega, by omega⟩ ⟨by omega, by omega⟩ ⟨⟨by omega, by omega⟩, fun _ => next V ⟨⟨by omega, by omega⟩, hV.of (fun t => ?_)⟩ _ (ax_y_i _), fun z => by rw [v559] at z; omega⟩
          rw [eT3]
          constructor
          · rintro ((z | ⟨x, x0, x1, x2⟩) | ⟨x, x0, x1⟩)
            · exact Or.inl z
            · exact Or.inr ⟨x, x0, ⟨x1.1, by omega⟩, x2⟩
            · have := (mN x (by omega) (by omega)).mp ⟨x0.1, by omega⟩
              exact Or.inr ⟨x, ⟨by omega, by omega⟩, ⟨by omega, by omega⟩, x1⟩
          · rintro (z | ⟨x, x0, x1, x2⟩)
            · exact Or.inl (Or.inl z)
            · by_cases y : M0 271 x = a
              · have := (mN x x0.1 x0.2).mpr y
                exact Or.inr ⟨x, ⟨this.1, by omega⟩, x2⟩
              · exact Or.inl (Or.inr ⟨x, x0, ⟨x1.1, by omega⟩, x2⟩)
      · obtain ⟨ha, hV⟩ := hI
        have v510 : V 510 = C0 510 := (fx hV) 510 (by decide)
        have ea : a = A1 := by omega
        rw [ea] at hV ⊢
        refine r_Judge_judgeSorts_96 hV.2.1 rn ⟨by omega, by omega⟩ hy ⟨⟨by omega, by omega⟩, fun _ => h V (hV.of (fun t => ?_)), fun z => by rw [v510] at z; omega⟩
        rw [eT2, eT1]
        unfold g_w3
        constructor
        · rintro (((z | ⟨x, x0, x1⟩) | ⟨x, x0, x1⟩) | ⟨x, x0, x1, x2⟩)
          · exact Or.inl z
          · exact Or.inr (Or.inl ⟨x, ⟨by omega, by omega⟩, (pN x (by omega) (by omega)).mp x0, x1⟩)
          · exact Or.inr (Or.inr (Or.inl ⟨x, ⟨by omega, by omega⟩, (eN x (by omega) (by omega)).mp x0, x1⟩))
          · exact Or.inr (Or.inr (Or.inr ⟨x, x0, (aN _ (by omega) (by omega)).mp x1, x2⟩))
        · rintro (z | ⟨x, x0, x1, x2⟩ | ⟨x, x0, x1, x2⟩ | ⟨x, x0, x1, x2⟩)
          · exact Or.inl (Or.inl (Or.inl z))
          · exact Or.inl (Or.inl (Or.inr ⟨x, (pN x x0.1 x0.2).mpr x1, x2⟩))
          · exact Or.inl (Or.inr ⟨x, (eN x x0.1 x0.2).mpr x1, x2⟩)
          · have ft := hS.2.2.2.2.1.2.2.2.2.1 x x0.1 x0.2
            have ft1 := ft.1.1
            have tb : M0 271 x < (M0 222 55) := by
              rcases ft.1.2 with y | y
              · have := y.2.1; omega
              · have := y.2.1; have := hc3.1; omega
            exact Or.inr ⟨x, x0, (aN _ ft1 tb).mpr x1, x2⟩
/-- the class's faults 3 -/
theorem t_kind3 {T : Int → Prop} (hS : g_S C0 M0) (ok : g_N2 M0) (hF : g_F C0 M0 F) (h2 : g_fr g_XJ C0 C2) (hg : ax_g C2) (hT : ∀ t, (C2 601 5) ≤ t ↔ T t) {y1 : Option Value} (hy1 : ax_y y1)
    (fin : ∀ C', g_J3 C2 F C' (M0 222 26) (fun t => T t ∨ ∃ n, (0 ≤ n ∧ n < (M0 222 86)) ∧ g_w3 C0 M0 F n t) → (700 ≤ (C' 601 5) → ∀ y, ax_y y → k_Judge_judge_7 B r (d + 6) y1 4 y C' Φ Θ) ∧ ((C' 601 5) < 700 → Φ 3 C')) : ∀ y, ax_y y → k_Judge_judge_7 B r (d + 6) y1 3 y C2 Φ Θ := by
  have z0 : C0 508 0 = 0 := hS.2.2.2.2.1.2.2.2.2.2.2.2.2.2.2.1.1
  have z1 : C0 508 (M0 222 86) = (M0 222 26) := hS.2.2.2.2.2.1.1
  refine t_nodes (d := d + 2) (kd := 3) (J := fun C n T => g_J3 C2 F C (C0 508 n) T) (w := fun n t => g_w3 C0 M0 F n t) hS (by decide) (fun C n T h => ⟨h.2.1, (h.1 500 (by decide)).trans (h2 500 (by decide)), h.2.2.2⟩) (fun C n T T' h k => h.of k) hy1 (by decide) (fun C n T n0 n1 h Ψ k => t_look3 hS ok hF h2 n0 n1 h k) (T := T) ⟨g_fr.rf _ _, hg, fun q a b => by rw [z0] at b; omega, hT⟩ (fun C' hC' => fin C' (by rw [z1] at hC'; exact hC'))
end Kind3D
