/-! THE MODEL'S TICK: a letter -/
/-- what has been done so far, while letters are done -/
def h_D (C M : ax_V) (n lv : Int) (V : ax_V) (s : Int → Prop) (R : h_R) : Prop :=
  (∀ e, 0 ≤ e → e < (M 222 44) → s (1024 + e) → (M 258 e = n ∧ h_eh M (R []) e) ∧ (∀ q, M 261 e ≤ q → q ≤ M 262 e → C 526 q = 0 → s q) ∧ ∀ i, g_of M e i → ¬ V 295 (26 * lv + M 265 i) = 0) ∧
  (∀ y, 0 ≤ y → y < 26 → ¬ V 295 (26 * lv + y) = 0 → M 232 (26 * n + y) = 1 ∨ ∃ e i, s (1024 + e) ∧ g_of M e i ∧ M 265 i = y) ∧
  (∀ e q, 0 ≤ e → e < (M 222 44) → M 261 e ≤ q → q ≤ M 262 e → s q → M 241 q = 22 → s (1024 + e) ∧ C 526 q = 0) ∧
  (∀ a, 0 ≤ a → a < (M 222 55) → M 267 a = n → (¬ V 297 (351 * lv + a) = 0 ↔ s (2048 + a))) ∧
  (∀ v, 3072 ≤ v → ¬ s v) ∧ (∀ y, 0 ≤ y → y < 26 → M 232 (26 * n + y) = 1 → ¬ V 295 (26 * lv + y) = 0) ∧
  ∀ a m q, 0 ≤ a → a < (M 222 55) → M 267 a = n → s (2048 + a) → 0 ≤ m → m < (M 222 60) → M 271 m = a → M 273 m = 1 → M 272 m = R [] 5 (h_sa M n a) → M 276 m ≤ q → q ≤ M 277 m → s q
theorem ax_N_d {lay : ax_Lay} {D D' key : Nat} {vs : List Value} {V : ax_V} {Φ Θ : ax_V → Prop} (e : D = D') (h : ax_N lay D' key vs V Φ Θ) : ax_N lay D key vs V Φ Θ := by rw [e]; exact h
section ModelI
variable {d : Nat} {C0 M0 P V V0 V1 W X X' : ax_V} {F G Hh S U J Im : Int → Int} {n q e a b c lv f g m l fl x st z : Int} {k : Nat} {s t u s' : Int → Prop} {R : h_R} {Φ : Int → ax_V → Prop} {Ψ Θ : ax_V → Prop}
/-- codes of equations don't count -/
theorem h_J.cg (hS : g_S C0 M0) (hn : 0 ≤ n) (h : h_J C0 M0 U F S k n b lv V0 V s R) (te : ∀ v, (v < 1024 ∨ 2048 ≤ v) → (t v ↔ s v)) : h_J C0 M0 U F S k n b lv V0 V t R := by
  have sm := hS.small
  obtain ⟨j1, j2, j3, j4, j5, j6, j8, j9⟩ := h
  have aub : ∀ e, 0 ≤ e → e < (M0 222 44) → ¬ M0 263 e = -1 → 0 ≤ M0 263 e := fun e e0 e1 z => by
    rcases hS.st e0 e1 with y | y
    · exact absurd y.2.1 z
    · exact y.2.1.1
  have ch : ∀ e, 0 ≤ e → e < (M0 222 44) → ((M0 263 e = -1 ∨ t (2048 + M0 263 e)) ↔ (M0 263 e = -1 ∨ s (2048 + M0 263 e))) := fun e e0 e1 => by
    by_cases z : M0 263 e = -1
    · exact ⟨fun _ => Or.inl z, fun _ => Or.inl z⟩
    · rw [te _ (Or.inr (by have := aub e e0 e1 z; omega))]
  refine ⟨fun q q0 q1 qn z ac => j1 q q0 q1 qn ((te q (Or.inl (by omega))).mp z) ac, j2, fun a a0 a1 an z => j3 a a0 a1 an ((te _ (Or.inr (by omega))).mp z), ⟨j4.1, j4.2.1, fun e q j e0 e1 en ea eb j0 j1 nw => ?_⟩, ⟨fun l l0 l1 hl => ?_, fun a a0 a1 an => ?_, fun e q j e0 e1 en ea eb j0 j1 => ?_⟩, fun x hx => ?_, fun q q0 q1 qn o z ac => j8 q q0 q1 qn o ((te q (Or.inl (by omega))).mp z) ac, fun e q e0 e1 ea eb z au => ?_⟩
  · have qq := hS.eq e0 e1 en ea eb
    rw [ch e e0 e1]
    exact j4.2.2 e q j e0 e1 en ea eb j0 j1 (fun o z => nw o ((te q (Or.inl (by omega))).mpr z))
  · rw [te _ (Or.inr (by omega))]; exact j5.1 l l0 l1 hl
  · rw [te _ (Or.inr (by omega))]; exact j5.2.1 a a0 a1 an
  · have qq := hS.eq e0 e1 en ea eb
    exact (j5.2.2 e q j e0 e1 en ea eb j0 j1).to (fun y => te _ (Or.inr (by have := aub e e0 e1 y; omega))) (fun _ => te _ (Or.inr (by omega))) (fun _ => te _ (Or.inl (by omega))) (fun y => te _ (Or.inr (by have := aub e e0 e1 y; omega))) (fun _ y => y)
  · rw [j6 x hx]
    constructor
    · rintro (y | ⟨q, qb, y1, y2, y3⟩ | ⟨q, qb, y1, y2, y3⟩)
      · exact Or.inl y
      · exact Or.inr (Or.inl ⟨q, qb, y1, (te q (Or.inl (by omega))).mpr y2, y3⟩)
      · exact Or.inr (Or.inr ⟨q, qb, y1, (te q (Or.inl (by omega))).mpr y2, y3⟩)
    · rintro (y | ⟨q, qb, y1, y2, y3⟩ | ⟨q, qb, y1, y2, y3⟩)
      · exact Or.inl y
      · exact Or.inr (Or.inl ⟨q, qb, y1, (te q (Or.inl (by omega))).mp y2, y3⟩)
      · exact Or.inr (Or.inr ⟨q, qb, y1, (te q (Or.inl (by omega))).mp y2, y3⟩)
  · have f1 := (hS.2.2.2.2.1.2.1 e e0 e1).2.2.2.2.2.1.1
    exact (te _ (Or.inr (by have := aub e e0 e1 au; omega))).mpr (j9 e q e0 e1 ea eb ((te q (Or.inl (by omega))).mp z) au)
/-- a letter's equations belong together -/
theorem h_X.two (hX : h_X C0 M0 P F G Hh S U J Im) {e' i i' : Int} (o : g_of M0 e i) (o' : g_of M0 e' i') (en : M0 258 e = M0 258 e') (l : M0 265 i = M0 265 i') : e = e' ∨ (¬ M0 263 e = -1 ∧ M0 263 e = M0 263 e') := by
  have key : ∀ e e' i i', g_of M0 e i → g_of M0 e' i' → M0 258 e = M0 258 e' → M0 265 i = M0 265 i' → i < i' → ¬ M0 263 e = -1 ∧ M0 263 e = M0 263 e' := fun e e' i i' o o' en l w => by
    have il := hX.hS.ofl o
    have jl := hX.hS.ofl o'
    have ei := hX.hS.eoe o
    have ej := hX.hS.eoe o'
    have c := (hX.ok.head hX.hS jl.1 jl.2).2
    by_cases a : M0 263 e = -1
    · exact absurd ⟨i, ⟨il.1, w⟩, l, by rw [ei, ej]; exact en, Or.inl (by rw [ei]; exact a)⟩ c
    · by_cases b : M0 263 e = M0 263 e'
      · exact ⟨a, b⟩
      · exact absurd ⟨i, ⟨il.1, w⟩, l, by rw [ei, ej]; exact en, Or.inr (Or.inl (by rw [ei, ej]; exact b))⟩ c
  by_cases c : i = i'
  · rw [c] at o
    exact Or.inl (hX.hS.of1 o o')
  · by_cases w : i < i'
    · exact Or.inr (key e e' i i' o o' en l w)
    · have := key e' e i' i o' o en.symm l.symm (by omega)
      exact Or.inr ⟨by rw [← this.2]; exact this.1, this.2.symm⟩
theorem s_holdsM (hX : h_X C0 M0 P F G Hh S U J Im) (hlv : 0 ≤ lv ∧ lv ≤ 7) (rn : ax_rg n) (hV : h_RM C0 M0 S U J Im V) (hg : ax_g V) (hJ : h_J3 M0 n lv V s R) (e0 : 0 ≤ e) (e1 : e < (M0 222 44)) (hc : M0 258 e = n → ¬ M0 263 e = -1 → s (2048 + M0 263 e)) (h1 : M0 258 e = n → h_eh M0 (R []) e → Φ 1 V) (h0 : ¬ (M0 258 e = n ∧ h_eh M0 (R []) e) → Φ 0 V) : ax_I ay_lay (d + 1) q_Model_holds [.ref 222, ax_i lv, ax_i n, ax_i e] V Φ Θ := by
  have hS := hX.hS
  have sm := hS.small
  have be : 0 ≤ e ∧ e < 351 := ⟨e0, by omega⟩
  have tm := hV.1
  refine r_Model_holds hg ⟨by omega, by omega⟩ rn ⟨by omega, by omega⟩ ⟨be, ?_⟩
  rw [tm 258 (by decide) (by decide) (by decide), tm 263 (by decide) (by decide) (by decide), tm 264 (by decide) (by decide) (by decide)]
  refine ⟨fun en => ⟨be, fun au => h1 en (Or.inl au), fun au => ?_⟩, fun en => h0 (fun y => en y.1)⟩
  rcases hS.st e0 e1 with y | y
  · exact absurd y.2.1 au
  · have ab := y.2.1
    have v := hJ _ ab.1 ab.2 (y.2.2.2.2.2.2.trans en) (hc en au)
    rw [v]
    exact ⟨be, ⟨by omega, by omega⟩, be, fun z => h1 en (Or.inr z), fun z => h0 (fun w => by rcases w.2 with w | w; exact au w; exact z w)⟩
/-- an equation that holds and is not done finds what it needs -/
theorem h_D.cd (hX : h_X C0 M0 P F G Hh S U J Im) (hn : h_N M0 U J n) (hlv : 0 ≤ lv ∧ lv + n ≤ 7) (hD : h_D C0 M0 n lv V s R) (cl : ∀ e, 0 ≤ e → e < (M0 222 44) → s' (1024 + e) → g_eb C0 M0 s' n e) (rdy : ∀ y, 0 ≤ y → y < 26 → g_rd M0 s' n y → ¬ V 295 (26 * lv + y) = 0) {i : Int} (o : g_of M0 e i) (en : M0 258 e = n) (eh : h_eh M0 (R []) e) (eb : g_eb C0 M0 s' n e) (nd : V 295 (26 * lv + M0 265 i) = 0) (ch : ¬ M0 263 e = -1 → s (2048 + M0 263 e)) : (∀ q, M0 261 e ≤ q → q ≤ M0 262 e → C0 526 q = 0 → h_cd C0 M0 S n lv V s R q) ∧ (¬ g_ec M0 e = 0 → ¬ V 295 (26 * lv + (g_ec M0 e - 1) / 2) = 0) := by
  have hS := hX.hS
  have nn := hn.1
  have e0 := o.1.1
  have e1 := o.1.2
  have orr := hS.2.2.2.2.1.2.2.2.2.2.1.2.2.1
  obtain ⟨cb, o0, lb⟩ := hX.ecb e0 e1
  rw [en] at lb
  refine ⟨fun q qa qb lt => ?_, fun z => rdy _ (by omega) (by omega) (eb.1 _ (by omega) (by omega) (Or.inr ⟨_, o0, by rw [en, (lb _ o0).2]; exact z, by rw [en, (lb _ o0).2]⟩))⟩
  have qq := hS.eq e0 e1 en qa qb
  refine ⟨qq, ⟨fun z => ((hS.acE (S := S) e0 e1 en qa qb).mp z).2, fun z => (hS.acE (S := S) e0 e1 en qa qb).mpr ⟨eh, z⟩⟩, fun z => ?_, fun z => ?_, fun e' e0' e1' ea' eb' => ?_, fun z w => ?_⟩
  · have s0 := hS.Snn hX.hT qq.1.1 qq.1.2
    have s1 := hX.hr q
    exact rdy _ (by omega) (by omega) (hS.pck hX.ok hX.hT hX.hr nn.1 nn.2 hX.hcl cl e0 e1 en eb qa qb lt z)
  · have l := hS.pl qq.1.1 qq.1.2 (by omega)
    exact rdy _ l.1 l.2 (eb.1 _ l.1 l.2 (Or.inl ⟨q, ⟨qa, qb⟩, lt, by omega, rfl⟩))
  · have ee : e' = e := by
      by_cases u : e' = e
      · exact u
      · by_cases w : e' < e
        · have := orr.1 e' e e0' w e1; omega
        · have := orr.1 e e' e0 (by omega) e1'; omega
    rw [ee]
    refine ⟨ch, fun y => hD.2.2.2.2.1 _ ?_ y.2⟩
    rcases hS.st e0 e1 with w | w
    · exact absurd w.2.1 y.1
    · have := w.2.1.1; omega
  · exact ((hD.1 e e0 e1 ((hD.2.2.1 e q e0 e1 qa qb w z).1)).2.2 i o) nd
/-- an equation has been done -/
theorem h_D.add (hX : h_X C0 M0 P F G Hh S U J Im) (hn : h_N M0 U J n) (hD : h_D C0 M0 n lv V s R) (e0 : 0 ≤ e) (e1 : e < (M0 222 44)) (en : M0 258 e = n) (eh : h_eh M0 (R []) e) (te : ∀ v, t v ↔ ((s v ∨ (M0 261 e ≤ v ∧ v ≤ M0 262 e ∧ C0 526 v = 0)) ∨ v = 1024 + e)) (dn : ∀ y, 0 ≤ y → y < 26 → (¬ W 295 (26 * lv + y) = 0 ↔ (¬ V 295 (26 * lv + y) = 0 ∨ ∃ i, g_of M0 e i ∧ M0 265 i = y))) (k7 : ∀ x, x < 351 * lv + 351 → W 297 x = V 297 x ∧ W 298 x = V 298 x) : h_D C0 M0 n lv W t R := by
  have hS := hX.hS
  have sm := hS.small
  have orr := hS.2.2.2.2.1.2.2.2.2.2.1.2.2.1
  have f1 := (hS.2.2.2.2.1.2.1 e e0 e1).2.2.2.2.2.1.1
  obtain ⟨d1, d2, d3, d4, d6, d7, d9⟩ := hD
  have up : ∀ v, s v → t v := fun v z => (te v).mpr (Or.inl (Or.inl z))
  have big : ∀ v, 700 ≤ v → ¬ v = 1024 + e → (t v ↔ s v) := fun v hv ne => by
    rw [te]
    exact ⟨fun z => by rcases z with (z | z) | z; exact z; omega; exact absurd z ne, fun z => Or.inl (Or.inl z)⟩
  refine ⟨fun e' e0' e1' z => ?_, fun y y0 y1 z => ?_, fun e' q e0' e1' ea eb z o => ?_, fun a a0 a1 an => ?_, fun v hv z => ?_, fun y y0 y1 ky => (dn y y0 y1).mpr (Or.inl (d7 y y0 y1 ky)), fun a m q a0 a1 an z m0 m1 ta tx ts qa qb => up _ (d9 a m q a0 a1 an ((big _ (by omega) (by omega)).mp z) m0 m1 ta tx ts qa qb)⟩
  · by_cases ee : e' = e
    · rw [ee]
      refine ⟨⟨en, eh⟩, fun q qa qb lt => (te q).mpr (Or.inl (Or.inr ⟨qa, qb, lt⟩)), fun i o => ?_⟩
      have lf := ((hX.ecb e0 e1).2.2 i o).1
      exact (dn _ lf.1 lf.2).mpr (Or.inr ⟨i, o, rfl⟩)
    · have c := d1 e' e0' e1' ((big _ (by omega) (by omega)).mp z)
      refine ⟨c.1, fun q qa qb lt => up q (c.2.1 q qa qb lt), fun i o => ?_⟩
      have lf := ((hX.ecb e0' e1').2.2 i o).1
      exact (dn _ lf.1 lf.2).mpr (Or.inl (c.2.2 i o))
  · rcases (dn y y0 y1).mp z with w | ⟨i, o, w⟩
    · rcases d2 y y0 y1 w with r | ⟨e', i, r1, r2⟩
      · exact Or.inl r
      · exact Or.inr ⟨e', i, up _ r1, r2⟩
    · exact Or.inr ⟨e, i, (te _).mpr (Or.inr rfl), o, w⟩
  · have f1' := (hS.2.2.2.2.1.2.1 e' e0' e1').2.2.2.2.2.1.1
    rcases (te q).mp z with (w | w) | w
    · have c := d3 e' q e0' e1' ea eb w o
      exact ⟨up _ c.1, c.2⟩
    · have ee : e' = e := by
        by_cases u : e' = e
        · exact u
        · by_cases r : e' < e
          · have := orr.1 e' e e0' r e1; omega
          · have := orr.1 e e' e0 (by omega) e1'; omega
      rw [ee]
      exact ⟨(te _).mpr (Or.inr rfl), w.2.2⟩
    · omega
  · rw [(k7 _ (by omega)).1, big _ (by omega) (by omega)]; exact d4 a a0 a1 an
  · exact d6 v hv ((big v (by omega) (by omega)).mp z)
/-- an automaton has been chosen -/
theorem h_D.cho (hX : h_X C0 M0 P F G Hh S U J Im) (hD : h_D C0 M0 n lv V s R) (a0 : 0 ≤ a) (a1 : a < (M0 222 55)) (up : ∀ v, s v → u v) (ua : u (2048 + a)) (dwn : ∀ v, u v → s v ∨ v = 2048 + a ∨ ∃ m, (0 ≤ m ∧ m < (M0 222 60)) ∧ M0 271 m = a ∧ M0 276 m ≤ v ∧ v ≤ M0 277 m) (str : ∀ m q, ¬ s (2048 + a) → 0 ≤ m → m < (M0 222 60) → M0 271 m = a → M0 273 m = 1 → M0 272 m = R [] 5 (h_sa M0 n a) → M0 276 m ≤ q → q ≤ M0 277 m → u q) (x5 : ∀ y, 0 ≤ y → y < 26 → X 295 (26 * lv + y) = V 295 (26 * lv + y)) (o7 : ∀ x, x < 351 * lv + 351 → ¬ x = 351 * lv + a → X 297 x = V 297 x) (n7 : ¬ X 297 (351 * lv + a) = 0) : h_D C0 M0 n lv X u R := by
  have hS := hX.hS
  have sm := hS.small
  have big : ∀ v, 700 ≤ v → ¬ v = 2048 + a → (u v ↔ s v) := fun v hv ne => ⟨fun z => by
    rcases dwn v z with y | y | ⟨m, mb, -, y⟩
    · exact y
    · exact absurd y ne
    · have fx := (hS.2.2.2.2.1.2.2.2.2.1 m mb.1 mb.2).2.2.2.2.2.2.2.1
      omega, up v⟩
  have orr := hS.2.2.2.2.1.2.2.2.2.2.1.2.2.1
  have eqp : ∀ e q, 0 ≤ e → e < (M0 222 44) → M0 261 e ≤ q → q ≤ M0 262 e → u q → s q := fun e q e0 e1 qa qb z => by
    have f1 := (hS.2.2.2.2.1.2.1 e e0 e1).2.2.2.2.2.1.1
    rcases dwn q z with y | y | ⟨m, mb, -, y⟩
    · exact y
    · omega
    · have := orr.2.2 e m e0 e1 mb.1 mb.2; omega
  obtain ⟨d1, d2, d3, d4, d6, d7, d9⟩ := hD
  refine ⟨fun e e0 e1 z => ?_, fun y y0 y1 z => ?_, fun e q e0 e1 qa qb z op => ?_, fun a' a0' a1' an' => ?_, fun v hv z => d6 v hv ((big v (by omega) (by omega)).mp z), fun y y0 y1 ky => by rw [x5 y y0 y1]; exact d7 y y0 y1 ky, fun a' m q a0' a1' an' z m0 m1 ta tx ts qa qb => ?_⟩
  · have c := d1 e e0 e1 ((big _ (by omega) (by omega)).mp z)
    refine ⟨c.1, fun q qa qb lt => up q (c.2.1 q qa qb lt), fun i o => ?_⟩
    have lf := ((hX.ecb e0 e1).2.2 i o).1
    rw [x5 _ lf.1 lf.2]; exact c.2.2 i o
  · rw [x5 y y0 y1] at z
    rcases d2 y y0 y1 z with r | ⟨e', i, r1, r2⟩
    · exact Or.inl r
    · exact Or.inr ⟨e', i, up _ r1, r2⟩
  · have c := d3 e q e0 e1 qa qb (eqp e q e0 e1 qa qb z) op
    exact ⟨up _ c.1, c.2⟩
  · by_cases y : a' = a
    · rw [y]; exact ⟨fun _ => ua, fun _ => n7⟩
    · rw [o7 _ (by omega) (by omega), big _ (by omega) (by omega)]; exact d4 a' a0' a1' an'
  · by_cases y : s (2048 + a')
    · exact up _ (d9 a' m q a0' a1' an' y m0 m1 ta tx ts qa qb)
    · have ya : a' = a := by
        by_cases w : a' = a
        · exact w
        · exact absurd ((big _ (by omega) (by omega)).mp z) y
      rw [ya] at ta ts y
      exact str m q y m0 m1 ta tx ts qa qb
set_option maxHeartbeats 2000000 in
theorem s_doLetter (hX : h_X C0 M0 P F G Hh S U J Im) (hn : h_N M0 U J n) (hk : n < ((k + 1 : Nat) : Int)) (ht : h_tick C0 M0 U J F S Im k) (hlv : 0 ≤ lv ∧ lv + n ≤ 7) (hb : 0 ≤ b ∧ b + g_T C0 M0 U n ≤ 600) (hV : h_RM C0 M0 S U J Im V) (hg : ax_g V) (hfo : h_fo V) (hR : h_TK C0 M0 U S Im (k + 1) n R) (hm : h_MS C0 M0 U F (k + 1) n (R [] 5)) (hJ : h_J C0 M0 U F S k n b lv V0 V s R) (hD : h_D C0 M0 n lv V s R) (l0 : 0 ≤ l) (l1 : l < 26) (k0 : ¬ M0 232 (26 * n + l) = 0) (cl : ∀ e, 0 ≤ e → e < (M0 222 44) → s' (1024 + e) → g_eb C0 M0 s' n e) (rdy : ∀ y, 0 ≤ y → y < 26 → g_rd M0 s' n y → ¬ V 295 (26 * lv + y) = 0) (ebl : ∀ e i, g_of M0 e i → M0 258 e = n → M0 265 i = l → g_eb C0 M0 s' n e ∧ (¬ M0 263 e = -1 → g_ab C0 M0 s' n (M0 263 e)))
    (next : ∀ W t, h_J C0 M0 U F S k n b lv V0 W t R → h_D C0 M0 n lv W t R → h_MF C0 M0 U n b lv V W → (∀ y, 0 ≤ y → y < 26 → ¬ V 295 (26 * lv + y) = 0 → ¬ W 295 (26 * lv + y) = 0) → ¬ W 295 (26 * lv + l) = 0 → Ψ W) : ax_N ay_lay (d + 10 * k + 7) q_Model_doLetter [.ref 222, ax_i lv, ax_i n, ax_i b, ax_i l] V Ψ Θ := by
  have hS := hX.hS
  have sm := hS.small
  have hN := hS.2.1
  have nn := hn.1
  have tb := hX.tb n
  have rl : ax_rg lv := ⟨by omega, by omega⟩
  have rn : ax_rg n := ⟨by omega, by omega⟩
  have rb : ax_rg b := ⟨by omega, by omega⟩
  have rll : ax_rg l := ⟨by omega, by omega⟩
  have b1 : 0 ≤ 26 * lv + l ∧ 26 * lv + l < 240 := ⟨by omega, by omega⟩
  have b2 : 0 ≤ 26 * n + l ∧ 26 * n + l < 240 := ⟨by omega, by omega⟩
  have mfr : h_MF C0 M0 U n b lv V V := ⟨⟨fun _ _ => rfl, fun _ _ => rfl, hg, hfo⟩, fun _ _ => ⟨rfl, rfl⟩, fun _ _ => ⟨rfl, rfl, rfl⟩, fun _ _ => rfl, fun _ _ => ⟨rfl, rfl⟩⟩
  refine r_Model_doLetter hg rl rn rb rll ⟨b1, fun nd => ⟨b2, ?_⟩, fun dn => next V s hJ hD mfr (fun _ _ _ z => z) dn⟩
  -- the equation that holds
  have k1 : ¬ M0 232 (26 * n + l) = 1 := fun z => hD.2.2.2.2.2.1 l l0 l1 z nd
  obtain ⟨E, i, o, En, El, Eh⟩ := hS.act hX.ok nn.1 nn.2 (R := R) (fun a a0 a1 an => (hX.st hR hm a a0 a1 an).2.1) l0 l1 k0 k1
  have EA := hV.2.2.2.1 (26 * n + l) (by omega) (by omega)
  have head : ∀ {i : Int}, 0 ≤ i → i < (M0 222 52) → C0 554 i = 26 * n + l → g_of M0 (g_eo M0 i) i ∧ M0 258 (g_eo M0 i) = n ∧ M0 265 i = l := fun {i} i0 i1 z => by
    have sl := hS.slot i0 i1
    exact ⟨hS.eo i0 i1, by omega, by omega⟩
  have Ehead : C0 554 i = 26 * n + l := by
    have ol := hS.ofl o
    have sl := hS.slot ol.1 ol.2
    rw [hS.eoe o, En, El] at sl
    exact sl.1
  have ol := hS.ofl o
  have El' := El
  -- doing it
  have doit : ∀ (d : Nat) X u, h_J C0 M0 U F S k n b lv V0 X u R → h_D C0 M0 n lv X u R → h_MF C0 M0 U n b lv V X → (∀ y, 0 ≤ y → y < 26 → ¬ V 295 (26 * lv + y) = 0 → ¬ X 295 (26 * lv + y) = 0) → X 295 (26 * lv + l) = 0 → (¬ M0 263 E = -1 → u (2048 + M0 263 E)) → ∀ Ψ' : ax_V → Prop, (∀ W t, h_J C0 M0 U F S k n b lv V0 W t R → h_D C0 M0 n lv W t R → h_MF C0 M0 U n b lv V W → (∀ y, 0 ≤ y → y < 26 → ¬ V 295 (26 * lv + y) = 0 → ¬ W 295 (26 * lv + y) = 0) → ¬ W 295 (26 * lv + l) = 0 → (∀ v, u v → t v) → Ψ' W) → ax_N ay_lay (d + 10 * k + 5) q_Model_doEquation [.ref 222, ax_i lv, ax_i n, ax_i b, ax_i E] X Ψ' Θ := by
    intro d X u jX dX fX moX ndX ch Ψ' nx
    have cd := dX.cd hX hn hlv cl (fun y y0 y1 z => moX y y0 y1 (rdy y y0 y1 z)) o En Eh (ebl E i o En El).1 (by rw [El]; exact ndX) ch
    obtain ⟨w, we⟩ : ∃ w : Int → Prop, ∀ v, w v ↔ (u v ∨ (M0 261 E ≤ v ∧ v ≤ M0 262 E ∧ C0 526 v = 0)) := ⟨_, fun _ => Iff.rfl⟩
    obtain ⟨t, te⟩ : ∃ t : Int → Prop, ∀ v, t v ↔ (w v ∨ v = 1024 + E) := ⟨_, fun _ => Iff.rfl⟩
    refine s_doEquation (d := d) hX hn hk ht hlv hb (fX.rm hV) fX.1.2.2.1 fX.1.2.2.2 hR hm jX o.1.1 o.1.2 En Eh cd.1 cd.2 we (fun W jW fW dW k7 => nx W t (jW.cg hS nn.1 (fun v hv => ?_)) (dX.add hX hn o.1.1 o.1.2 En Eh (fun v => by rw [te, we]) dW k7) (fX.tr fW) (fun y y0 y1 z => (dW y y0 y1).mpr (Or.inl (moX y y0 y1 z))) ((dW l l0 l1).mpr (Or.inr ⟨i, o, El⟩)) (fun v z => (te v).mpr (Or.inl ((we v).mpr (Or.inl z)))))
    rw [te]
    exact ⟨fun z => by rcases z with z | z; exact z; have := o.1; omega, fun z => Or.inl z⟩
  refine ⟨fun au => ⟨b2, ?_⟩, fun au => ⟨b2, ?_⟩⟩
  · -- no automaton
    have EAu : M0 263 E = -1 := by
      rcases EA.1 with y | ⟨i', ib, -, hh, ne, ea⟩
      · have := y.2 i ol.1 ol.2 trivial Ehead
        rw [hS.eoe o] at this; exact this
      · exfalso
        have p := head ib.1 ib.2 hh
        rcases hS.st (e := g_eo M0 i') p.1.1.1 p.1.1.2 with y | y
        · exact ne y.2.1
        · have := y.2.1.1; omega
    have eqE : V 238 (26 * n + l) = E := by
      rcases EA.2 with y | ⟨i', ib, -, hh, ne, ea⟩
      · have := y.2 i ol.1 ol.2 trivial Ehead
        rw [hS.eoe o] at this
        exact absurd EAu this
      · have p := head ib.1 ib.2 hh
        rw [ea]
        rcases hX.two p.1 o (p.2.1.trans En.symm) (p.2.2.trans El.symm) with y | y
        · exact y
        · exact absurd ne y.1
    rw [eqE]
    refine ax_N_d (D' := d + 1 + 10 * k + 5) (by omega) ?_
    exact doit (d + 1) V s hJ hD mfr (fun _ _ _ z => z) nd (fun y => absurd EAu y) _ (fun W t jW dW fW mo dn _ => next W t jW dW fW mo dn)
  · -- an automaton
    have ea : V 239 (26 * n + l) = M0 263 E ∧ ¬ M0 263 E = -1 := by
      rcases EA.1 with y | ⟨i', ib, -, hh, ne, ea⟩
      · exact absurd y.1 au
      · have p := head ib.1 ib.2 hh
        rcases hX.two p.1 o (p.2.1.trans En.symm) (p.2.2.trans El.symm) with y | y
        · rw [y] at ea ne; exact ⟨ea, ne⟩
        · rw [ea, y.2]; exact ⟨rfl, by rw [← y.2]; exact ne⟩
    have ab : (0 ≤ M0 263 E ∧ M0 263 E < (M0 222 55)) ∧ M0 267 (M0 263 E) = n := by
      rcases hS.st o.1.1 o.1.2 with y | y
      · exact absurd y.2.1 ea.2
      · exact ⟨y.2.1, y.2.2.2.2.2.2.trans En⟩
    rw [ea.1]
    have gab := (ebl E i o En El).2 ea.2
    refine s_choose (d := d) hX hn hk ht hlv hb hV hg hfo hR hm hJ ab.1.1 ab.1.2 ab.2 (hD.2.2.2.1 _ ab.1.1 ab.1.2 ab.2) hD.2.2.2.2.1 (fun _ m q m0 m1 ta tx qa qb op => ?_) (fun X u jX fX lX o7 n7 up ua dwn str => ?_)
    · have fx := (hS.2.2.2.2.1.2.2.2.2.1 m m0 m1).2.2.2.2.2.2.2.1
      have ll := hS.pl (q := q) (by omega) (by omega) (by omega)
      exact rdy _ ll.1 ll.2 (gab _ ll.1 ll.2 ⟨m, ⟨m0, m1⟩, ta, by omega, q, ⟨qa, qb⟩, hS.trl m0 m1 (M0 277 m - q).toNat q qa qb (by omega), by omega, rfl⟩)
    · have x5 : ∀ y, 0 ≤ y → y < 26 → X 295 (26 * lv + y) = V 295 (26 * lv + y) := fun y y0 y1 => (lX _ (by omega)).2.2
      have dX : h_D C0 M0 n lv X u R := hD.cho hX ab.1.1 ab.1.2 up ua dwn str x5 o7 n7
      have Eb := o.1
      refine ax_for (I := fun e Y => (0 ≤ e ∧ e ≤ (M0 222 44)) ∧ ∃ t, h_J C0 M0 U F S k n b lv V0 Y t R ∧ h_D C0 M0 n lv Y t R ∧ h_MF C0 M0 U n b lv V Y ∧ (∀ y, 0 ≤ y → y < 26 → ¬ V 295 (26 * lv + y) = 0 → ¬ Y 295 (26 * lv + y) = 0) ∧ (e ≤ E → Y 295 (26 * lv + l) = 0) ∧ (E < e → ¬ Y 295 (26 * lv + l) = 0) ∧ t (2048 + M0 263 E)) (K := fun e Y => k_Model_doLetter_68 (d + 10 * k + 6) lv n b l (26 * n + l) e Y Ψ Θ) (hi := (M0 222 44)) (fun e Y w hI nx => ?_) (fun e Y w hI => ?_) 0 X ⟨⟨Int.le_refl _, by omega⟩, u, jX, dX, fX, fun y y0 y1 z => by rw [x5 y y0 y1]; exact z, fun _ => by rw [x5 l l0 l1]; exact nd, fun z => by omega, ua⟩
      · obtain ⟨eb, t, jY, dY, fY, moY, n1, n2, tY⟩ := hI
        have rY := fY.rm hV
        have tmY := rY.1
        have be : 0 ≤ e ∧ e < 351 := ⟨by omega, by omega⟩
        refine r_Model_doLetter_68 fY.1.2.2.1 rl rn rb rll ⟨by omega, by omega⟩ ⟨by omega, by omega⟩ ?_
        have y239 : Y 239 (26 * n + l) = M0 263 E := by rw [fY.1.1 239 (by decide)]; exact ea.1
        rw [rY.2.1.2.1, tmY 263 (by decide) (by decide) (by decide), y239]
        have skip : ¬ e = E → k_Model_doLetter_68 (d + 10 * k + 6) lv n b l (26 * n + l) (e + 1) Y Ψ Θ := fun ne => nx Y ⟨⟨by omega, by omega⟩, t, jY, dY, fY, moY, fun z => n1 (by omega), fun z => n2 (by omega), tY⟩
        refine ⟨fun z => by omega, fun _ => ⟨be, b2, fun ee => ?_, fun ee => skip (fun y => ee (by rw [y]))⟩⟩
        refine s_holdsM (d := d + 10 * k + 5) hX ⟨by omega, by omega⟩ rn rY fY.1.2.2.1 jY.2.2.1 eb.1 w (fun _ _ => by rw [ee]; exact tY) (fun en eh => ⟨fun z => absurd z (by decide), fun _ => ?_⟩) (fun no => ⟨fun _ => skip (fun y => no (by rw [y]; exact ⟨En, Eh⟩)), fun z => absurd rfl z⟩)
        refine s_hasLeft (d := d + 10 * k + 5) hS fY.1.2.2.1 ⟨fun c hc => tmY c (by omega) (by omega) (by intro z; simp at z; omega), rY.2.1.2.1⟩ ⟨eb.1, w⟩ rll ?_
        by_cases hl : ∃ i', g_of M0 e i' ∧ M0 265 i' = l
        · obtain ⟨i', o', l'⟩ := hl
          have eE : e = E := hX.one (r := R []) o' o (en.trans En.symm) (l'.trans El.symm) eh Eh
          rw [show @ax_b (∃ i, g_of M0 e i ∧ M0 265 i = l) (Classical.propDecidable _) = 1 from if_pos ⟨i', o', l'⟩]
          refine ⟨fun z => absurd z (by decide), fun _ => ?_⟩
          rw [eE] at nx n1 ⊢
          refine ax_N_d (D' := d + 1 + 10 * k + 5) (by omega) ?_
          exact doit (d + 1) Y t jY dY fY moY (n1 (Int.le_refl _)) (fun _ => tY) _ (fun W t' jW dW fW mo dn up' => nx W ⟨⟨by omega, by omega⟩, t', jW, dW, fW, mo, fun z => by omega, fun _ => dn, up' _ tY⟩)
        · rw [show @ax_b (∃ i, g_of M0 e i ∧ M0 265 i = l) (Classical.propDecidable _) = 0 from if_neg hl]
          exact ⟨fun _ => skip (fun y => hl ⟨i, by rw [y]; exact o, El⟩), fun z => absurd rfl z⟩
      · obtain ⟨eb, t, jY, dY, fY, moY, n1, n2, tY⟩ := hI
        have rY := fY.rm hV
        refine r_Model_doLetter_68 fY.1.2.2.1 rl rn rb rll ⟨by omega, by omega⟩ ⟨by omega, by omega⟩ ?_
        rw [rY.2.1.2.1]
        exact ⟨fun _ => next Y t jY dY fY moY (n2 (by omega)), fun z => by omega⟩
end ModelI
