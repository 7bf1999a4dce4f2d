/-! THE INVARIANT of a tick in the class -/
/-- at which stage what a part remembers is -/
def h_stg (M : ax_V) (s : Int → Prop) (e q : Int) (Q : Int → Prop) : Prop :=
  ((¬ M 263 e = -1 ∧ s (5120 + M 263 e)) → Q 6) ∧
  (¬ (¬ M 263 e = -1 ∧ s (5120 + M 263 e)) → ((M 241 q = 6 ∧ s (3072 + q)) ∨ (¬ M 241 q = 6 ∧ s q)) → Q 8) ∧
  (¬ (¬ M 263 e = -1 ∧ s (5120 + M 263 e)) → ¬ ((M 241 q = 6 ∧ s (3072 + q)) ∨ (¬ M 241 q = 6 ∧ s q)) → (M 263 e = -1 ∨ s (2048 + M 263 e)) → Q 7) ∧
  (¬ (¬ M 263 e = -1 ∧ s (5120 + M 263 e)) → ¬ ((M 241 q = 6 ∧ s (3072 + q)) ∨ (¬ M 241 q = 6 ∧ s q)) → ¬ (M 263 e = -1 ∨ s (2048 + M 263 e)) → Q 5)
def h_I1 (M : ax_V) (F S : Int → Int) (n : Int) (V : ax_V) (s : Int → Prop) (R : h_R) : Prop := ∀ q, 0 ≤ q → q < (M 222 26) → M 250 q = n → s q → h_ac M S n (R []) q → V 151 q = R [] 0 q ∧ (F q = 1 → R [] 0 q = 0 ∨ R [] 0 q = 1)
/-- a letter is as the record says -/
def h_lt (M : ax_V) (n : Int) (V : ax_V) (R : h_R) (y : Int) : Prop := V 153 (26 * n + y) = R [] 2 y ∧ (¬ R [] 2 y = 0 → V 152 (26 * n + y) = R [] 1 y ∧ (M 233 (26 * n + y) = 1 → R [] 1 y = 0 ∨ R [] 1 y = 1))
def h_RD (M : ax_V) (n : Int) (V : ax_V) (s : Int → Prop) (R : h_R) : Prop := ∀ y, 0 ≤ y → y < 26 → g_rd M s n y → h_lt M n V R y
def h_I2 (M : ax_V) (n : Int) (V : ax_V) (s : Int → Prop) (R : h_R) : Prop := (∀ y, 0 ≤ y → y < 26 → M 232 (26 * n + y) = 1 → h_lt M n V R y) ∧ ∀ e i, g_of M e i → M 258 e = n → s (1024 + e) → h_eh M (R []) e → h_lt M n V R (M 265 i)
def h_I3 (C M : ax_V) (n : Int) (V : ax_V) (s : Int → Prop) (R : h_R) : Prop := ∀ a, 0 ≤ a → a < (M 222 55) → M 267 a = n → (s (2048 + a) → V 154 a = C 558 a + R [] 3 a) ∧ (¬ s (2048 + a) → V 154 a = C 558 a + R [] 5 (h_sa M n a))
def h_I4 (C M : ax_V) (U : Int → Int) (k : Nat) (n b : Int) (V : ax_V) (s : Int → Prop) (R : h_R) : Prop := ∀ e q i j, 0 ≤ e → e < (M 222 44) → M 258 e = n → M 261 e ≤ q → q ≤ M 262 e → h_sub C M U k q i j → h_stg M s e q (fun t => V 155 (b + (g_cp C M U n q.toNat + i)) = R [] t (g_sp C M U n q.toNat + j))
def h_I5 (C M : ax_V) (U : Int → Int) (n b : Int) (V : ax_V) (s : Int → Prop) (R : h_R) : Prop := (∀ l, 0 ≤ l → l < 26 → ¬ M 236 (26 * n + l) = 0 → (s (4096 + 26 * n + l) → V 155 (b + (g_cp C M U n ((M 222 26)).toNat + g_ca M n ((M 222 55)).toNat + g_ll M n l.toNat)) = R [] 6 (g_ll M n l.toNat)) ∧ (¬ s (4096 + 26 * n + l) → V 155 (b + (g_cp C M U n ((M 222 26)).toNat + g_ca M n ((M 222 55)).toNat + g_ll M n l.toNat)) = R [] 5 (g_ll M n l.toNat))) ∧ ∀ a, 0 ≤ a → a < (M 222 55) → M 267 a = n → (s (5120 + a) → V 155 (b + (g_cp C M U n ((M 222 26)).toNat + g_ca M n a.toNat)) = R [] 6 (h_sa M n a)) ∧ (¬ s (5120 + a) → V 155 (b + (g_cp C M U n ((M 222 26)).toNat + g_ca M n a.toNat)) = R [] 5 (h_sa M n a))
def h_I6 (M : ax_V) (S : Int → Int) (n : Int) (V0 V : ax_V) (s : Int → Prop) (R : h_R) : Prop := ∀ t, t < 700 → (V 150 10 ≤ t ↔ (V0 150 10 ≤ t ∨ (∃ q, (0 ≤ q ∧ q < (M 222 26)) ∧ M 250 q = n ∧ s q ∧ h_ac M S n (R []) q ∧ (M 241 q = 10 ∨ M 241 q = 11) ∧ R [] 0 (M 246 q) = 0 ∧ M 243 q ≤ t) ∨ ∃ q, (0 ≤ q ∧ q < (M 222 26)) ∧ M 250 q = n ∧ s q ∧ h_ac M S n (R []) q ∧ M 241 q = 22 ∧ R [q] 4 0 ≤ t))
/-- the outputs of a call that was just worked -/
def h_I7 (C M : ax_V) (S : Int → Int) (n w : Int) (V : ax_V) (R : h_R) : Prop := 0 ≤ w → w < (M 222 26) → M 241 w = 22 → h_ac M S n (R []) w → ∀ i, 0 ≤ i → i < M 228 (C 520 w) → V 152 (26 * C 520 w + M 231 (26 * C 520 w + i)) = R [w] 1 (M 231 (26 * C 520 w + i)) ∧ (M 233 (26 * C 520 w + M 231 (26 * C 520 w + i)) = 1 → R [w] 1 (M 231 (26 * C 520 w + i)) = 0 ∨ R [w] 1 (M 231 (26 * C 520 w + i)) = 1)
def h_IR (C M : ax_V) (U F S : Int → Int) (k : Nat) (n b : Int) (V0 V : ax_V) (s : Int → Prop) (R : h_R) : Prop := h_I1 M F S n V s R ∧ h_I2 M n V s R ∧ h_I3 C M n V s R ∧ h_I4 C M U k n b V s R ∧ h_I5 C M U n b V s R ∧ h_I6 M S n V0 V s R
section Inv
variable {C0 M0 P V V0 W : ax_V} {F G Hh S U J Im : Int → Int} {n q e a b : Int} {k : Nat} {s t : Int → Prop} {R : h_R}
theorem h_stg.to {Q Q' : Int → Prop} (h : h_stg M0 s e q Q) (h5 : ¬ M0 263 e = -1 → (t (5120 + M0 263 e) ↔ s (5120 + M0 263 e))) (h3 : M0 241 q = 6 → (t (3072 + q) ↔ s (3072 + q))) (h0 : ¬ M0 241 q = 6 → (t q ↔ s q)) (h2 : ¬ M0 263 e = -1 → (t (2048 + M0 263 e) ↔ s (2048 + M0 263 e))) (hQ : ∀ x, Q x → Q' x) : h_stg M0 t e q Q' := by
  have c1 : (¬ M0 263 e = -1 ∧ t (5120 + M0 263 e)) ↔ (¬ M0 263 e = -1 ∧ s (5120 + M0 263 e)) := ⟨fun z => ⟨z.1, (h5 z.1).mp z.2⟩, fun z => ⟨z.1, (h5 z.1).mpr z.2⟩⟩
  have c2 : ((M0 241 q = 6 ∧ t (3072 + q)) ∨ (¬ M0 241 q = 6 ∧ t q)) ↔ ((M0 241 q = 6 ∧ s (3072 + q)) ∨ (¬ M0 241 q = 6 ∧ s q)) := ⟨fun z => by rcases z with z | z; exact Or.inl ⟨z.1, (h3 z.1).mp z.2⟩; exact Or.inr ⟨z.1, (h0 z.1).mp z.2⟩, fun z => by rcases z with z | z; exact Or.inl ⟨z.1, (h3 z.1).mpr z.2⟩; exact Or.inr ⟨z.1, (h0 z.1).mpr z.2⟩⟩
  have c3 : (M0 263 e = -1 ∨ t (2048 + M0 263 e)) ↔ (M0 263 e = -1 ∨ s (2048 + M0 263 e)) := by
    by_cases z : M0 263 e = -1
    · exact ⟨fun _ => Or.inl z, fun _ => Or.inl z⟩
    · exact ⟨fun y => by rcases y with y | y; exact Or.inl y; exact Or.inr ((h2 z).mp y), fun y => by rcases y with y | y; exact Or.inl y; exact Or.inr ((h2 z).mpr y)⟩
  unfold h_stg at h ⊢
  rw [c1, c2, c3]
  exact ⟨fun z => hQ _ (h.1 z), fun z y => hQ _ (h.2.1 z y), fun z y x => hQ _ (h.2.2.1 z y x), fun z y x => hQ _ (h.2.2.2 z y x)⟩
theorem h_I1.keep (h : h_I1 M0 F S n V s R) (hs : ∀ q, 0 ≤ q → q < (M0 222 26) → t q → s q) (hv : ∀ q, 0 ≤ q → q < (M0 222 26) → M0 250 q = n → W 151 q = V 151 q) : h_I1 M0 F S n W t R := fun q q0 q1 qn ts ac => by rw [hv q q0 q1 qn]; exact h q q0 q1 qn (hs q q0 q1 ts) ac
theorem h_I2.keep (hS : g_S C0 M0) (h : h_I2 M0 n V s R) (hs : ∀ e, 0 ≤ e → e < (M0 222 44) → t (1024 + e) → s (1024 + e)) (hv : ∀ y, 0 ≤ y → y < 26 → W 152 (26 * n + y) = V 152 (26 * n + y) ∧ W 153 (26 * n + y) = V 153 (26 * n + y)) : h_I2 M0 n W t R := by
  refine ⟨fun y y0 y1 ky => ?_, fun e i o en z eh => ?_⟩
  · unfold h_lt
    rw [(hv y y0 y1).1, (hv y y0 y1).2]
    exact h.1 y y0 y1 ky
  · have l := ((hS.2.2.2.2.1.2.1 e o.1.1 o.1.2).2.2.2.2.2.2 i o.2.1 o.2.2).2.1
    unfold h_lt
    rw [(hv _ l.1 l.2).1, (hv _ l.1 l.2).2]
    exact h.2 e i o en (hs e o.1.1 o.1.2 z) eh
theorem h_I3.keep (h : h_I3 C0 M0 n V s R) (hs : ∀ a, 0 ≤ a → a < (M0 222 55) → (t (2048 + a) ↔ s (2048 + a))) (hv : ∀ a, 0 ≤ a → a < (M0 222 55) → M0 267 a = n → W 154 a = V 154 a) : h_I3 C0 M0 n W t R := fun a a0 a1 an => by
  rw [hv a a0 a1 an, hs a a0 a1]
  exact h a a0 a1 an
theorem h_I5.keep (h : h_I5 C0 M0 U n b V s R) (hs : ∀ l, 0 ≤ l → l < 26 → (t (4096 + 26 * n + l) ↔ s (4096 + 26 * n + l))) (ha : ∀ a, 0 ≤ a → a < (M0 222 55) → (t (5120 + a) ↔ s (5120 + a))) (hv : ∀ i, g_cp C0 M0 U n ((M0 222 26)).toNat ≤ i → W 155 (b + i) = V 155 (b + i)) : h_I5 C0 M0 U n b W t R := by
  refine ⟨fun l l0 l1 hl => ?_, fun a a0 a1 an => ?_⟩
  · rw [hs l l0 l1, hv _ (by have := (g_ca_b M0 n ((M0 222 55)).toNat).1; have := (g_ll_b M0 n l.toNat).1; omega)]
    exact h.1 l l0 l1 hl
  · rw [ha a a0 a1, hv _ (by have := (g_ca_b M0 n a.toNat).1; omega)]
    exact h.2 a a0 a1 an
theorem h_I6.keep (h : h_I6 M0 S n V0 V s R) (hs : ∀ q, 0 ≤ q → q < (M0 222 26) → (t q ↔ s q)) (hv : W 150 10 = V 150 10) : h_I6 M0 S n V0 W t R := fun x hx => by
  rw [hv, h x hx]
  constructor
  · rintro (z | ⟨y, y0, y1, y2, y3⟩ | ⟨y, y0, y1, y2, y3⟩)
    · exact Or.inl z
    · exact Or.inr (Or.inl ⟨y, y0, y1, (hs y y0.1 y0.2).mpr y2, y3⟩)
    · exact Or.inr (Or.inr ⟨y, y0, y1, (hs y y0.1 y0.2).mpr y2, y3⟩)
  · rintro (z | ⟨y, y0, y1, y2, y3⟩ | ⟨y, y0, y1, y2, y3⟩)
    · exact Or.inl z
    · exact Or.inr (Or.inl ⟨y, y0, y1, (hs y y0.1 y0.2).mp y2, y3⟩)
    · exact Or.inr (Or.inr ⟨y, y0, y1, (hs y y0.1 y0.2).mp y2, y3⟩)
/-- equations: their parts lie in the node -/
theorem g_S.eq (hS : g_S C0 M0) (e0 : 0 ≤ e) (e1 : e < (M0 222 44)) (en : M0 258 e = n) (qa : M0 261 e ≤ q) (qb : q ≤ M0 262 e) : (0 ≤ q ∧ q < (M0 222 26)) ∧ M0 250 q = n := by
  have fx := (hS.2.2.2.2.1.2.1 e e0 e1).2.2.2.2.2.1
  have f1 := fx.1
  exact ⟨⟨by omega, by omega⟩, by rw [(fx.2.2 q qa qb).1.1]; exact en⟩
/-- the class and the record agree on what is on -/
theorem h_onq (hS : g_S C0 M0) (hT : g_ST M0 G S) (hr : ∀ q, -1 ≤ S q ∧ S q ≤ 52) (i2 : h_RD M0 n V s R) (i3 : h_I3 C0 M0 n V s R) (q0 : 0 ≤ q) (q1 : q < (M0 222 26)) (qn : M0 250 q = n) (w3 : C0 525 q = -1 → ¬ S q = 0 → g_rd M0 s n ((S q - 1) / 2)) (w4 : ∀ e, 0 ≤ e → e < (M0 222 44) → M0 261 e ≤ q → q ≤ M0 262 e → ¬ M0 263 e = -1 → s (2048 + M0 263 e)) (w5 : ∀ m, 0 ≤ m → m < (M0 222 60) → M0 276 m ≤ q → q ≤ M0 277 m → (M0 273 m = 0 → s (2048 + M0 271 m)) ∧ (¬ M0 273 m = 0 → ¬ s (2048 + M0 271 m))) : ((C0 525 q = -1 ∧ h_on (h_lv V n) (S q)) ∨ (¬ C0 525 q = -1 ∧ V 154 (C0 563 (C0 525 q)) = C0 525 q)) ↔ h_ac M0 S n (R []) q := by
  have hB := hS.2.2.2.2.1
  have hc3 := hB.1.2.2.1
  rcases hB.2.2.2.2.2.1.1 q q0 q1 with ⟨e, e0, e1, ea, eb⟩ | ⟨m, m0, m1, ma, mb⟩
  · have fe := hB.2.1 e e0 e1
    have fx := fe.2.2.2.2.2.1.2.2 q ea eb
    have en : M0 258 e = n := by rw [← fx.1.1]; exact qn
    rw [hS.acE (S := S) e0 e1 en ea eb, fx.1.2.1]
    by_cases au : M0 263 e = -1
    · have st : C0 551 e = -1 := (hS.ea e0 e1).mpr au
      have on : h_on (h_lv V n) (S q) ↔ h_on (R []) (S q) := by
        by_cases z : S q = 0
        · exact ⟨fun _ => Or.inl z, fun _ => Or.inl z⟩
        · have nn := hS.Snn hT q0 q1
          have r9 := hr q
          have rd := w3 (by rw [fx.1.2.1]; exact st) z
          obtain ⟨u1, u2⟩ := i2 _ (by omega) (by omega) rd
          have e2 : ∀ l, h_lv V n 2 l = V 153 (26 * n + l) := fun l => if_pos rfl
          have e1 : ∀ l, h_lv V n 1 l = V 152 (26 * n + l) := fun l => if_neg (by decide)
          unfold h_on
          rw [e2, e1, u1]
          constructor
          · rintro (w | w)
            · exact absurd w z
            · exact Or.inr ⟨w.1, by rw [← (u2 w.1).1]; exact w.2⟩
          · rintro (w | w)
            · exact absurd w z
            · exact Or.inr ⟨w.1, by rw [(u2 w.1).1]; exact w.2⟩
      rw [st, on]
      constructor
      · rintro (w | w)
        · exact ⟨Or.inl au, w.2⟩
        · exact absurd rfl w.1
      · exact fun w => Or.inl ⟨rfl, w.2⟩
    · rcases fe.2.2.2.2.1 with y | ⟨y1, y2, y3, y4, y5, y6, y7⟩
      · exact absurd y.2.1 au
      · have a9 : M0 263 e < (M0 222 55) := by omega
        have fa := hS.au y1 a9
        have ow := (fa.1.2.2.2.2.2 (C0 551 e) (by omega) y5).1
        have st : ¬ C0 551 e = -1 := by omega
        have s0 := hS.S0 hT q0 q1 (by rw [fx.1.2.1]; exact st)
        have v := (i3 _ y1 a9 (by rw [y7]; exact en)).1 (w4 e e0 e1 ea eb au)
        rw [ow, v, y4]
        constructor
        · rintro (w | w)
          · exact absurd w.1 (by omega)
          · exact ⟨Or.inr (by omega), Or.inl s0⟩
        · rintro ⟨w | w, -⟩
          · exact absurd w au
          · exact Or.inr ⟨by omega, by omega⟩
  · have ft := hB.2.2.2.2.1 m m0 m1
    have fx := ft.2.2.2.2.2.2.2.2.2 q ma mb
    have tm := (hS.tr m0 m1).1
    have mn : M0 267 (M0 271 m) = n := by rw [← fx.1.1]; exact qn
    rw [hS.acT (S := S) m0 m1 mn ma mb, fx.1.2.1]
    rcases ft.1.2 with y | ⟨y1, y2, y3, y4, y5, y6, y7⟩
    · omega
    · have fa := hS.au tm.1 tm.2
      have ow := (fa.1.2.2.2.2.2 (C0 567 m) (by omega) y5).1
      have v := i3 _ tm.1 tm.2 mn
      have u := w5 m m0 m1 ma mb
      rw [ow, y4]
      by_cases st : M0 273 m = 0
      · rw [if_pos st, v.1 (u.1 st)]
        constructor
        · rintro (w | w)
          · exact absurd w.1 (by omega)
          · omega
        · exact fun w => Or.inr ⟨by omega, by omega⟩
      · rw [if_neg st, v.2 (u.2 st)]
        constructor
        · rintro (w | w)
          · exact absurd w.1 (by omega)
          · omega
        · exact fun w => Or.inr ⟨by omega, by omega⟩
/-- a part that is not worked -/
theorem h_IR.off (hX : h_X C0 M0 P F G Hh S U J Im) (hn : h_N M0 U J n) (hR : h_TK C0 M0 U S Im (k + 1) n R) (h : h_IR C0 M0 U F S k n b V0 V s R) (te : ∀ v, t v ↔ (s v ∨ v = q)) (q0 : 0 ≤ q) (q1 : q < (M0 222 26)) (qn : M0 250 q = n) (no : ¬ h_ac M0 S n (R []) q) (noend : ∀ v, 3072 ≤ v → ¬ s v) (w4 : ∀ e, 0 ≤ e → e < (M0 222 44) → M0 261 e ≤ q → q ≤ M0 262 e → ¬ M0 263 e = -1 → s (2048 + M0 263 e)) (new : ¬ s q) : h_IR C0 M0 U F S k n b V0 V t R := by
  have hS := hX.hS
  have sm := hS.small
  have nn := hn.1
  obtain ⟨i1, i2, i3, i4, i5, i6⟩ := h
  have big : ∀ v, ¬ v = q → (t v ↔ s v) := fun v hv => by rw [te]; exact ⟨fun z => by rcases z with z | z; exact z; exact absurd z hv, fun z => Or.inl z⟩
  refine ⟨fun x x0 x1 xn xs xa => ?_, i2.keep hS (fun e a b => (big _ (by omega)).mp) (fun _ _ _ => ⟨rfl, rfl⟩), i3.keep (fun a x y => big _ (by omega)) (fun _ _ _ _ => rfl), fun e x i j e0 e1 en ea eb sb => ?_, i5.keep (fun l x y => big _ (by omega)) (fun a x y => big _ (by omega)) (fun _ _ => rfl), fun x hx => ?_⟩
  · rcases (te x).mp xs with xs | xs
    · exact i1 x x0 x1 xn xs xa
    · rw [xs] at xa; exact absurd xa no
  · have u := i4 e x i j e0 e1 en ea eb sb
    have aub : ¬ M0 263 e = -1 → 0 ≤ M0 263 e := fun z => by
      rcases hS.st e0 e1 with y | y
      · exact absurd y.2.1 z
      · exact y.2.1.1
    by_cases xq : x = q
    · rw [xq] at ea eb sb ⊢
      rw [xq] at u
      have bj := (hX.sb hn q0 q1 qn sb).2
      have r := (hR.2.2.2.2.2.1 e q j e0 e1 en ea eb bj.1 bj.2).2.2 no
      have sg : M0 263 e = -1 ∨ s (2048 + M0 263 e) := by
        by_cases au : M0 263 e = -1
        · exact Or.inl au
        · exact Or.inr (w4 e e0 e1 ea eb au)
      have nw : ¬ (¬ M0 263 e = -1 ∧ s (5120 + M0 263 e)) := fun z => noend _ (by have := aub z.1; omega) z.2
      have nd : ¬ ((M0 241 q = 6 ∧ s (3072 + q)) ∨ (¬ M0 241 q = 6 ∧ s q)) := fun z => by
        rcases z with z | z
        · exact noend _ (by omega) z.2
        · exact new z.2
      have val := u.2.2.1 nw nd sg
      refine ⟨fun z => ?_, fun _ _ => ?_, fun _ _ _ => val, fun _ _ z => ?_⟩
      · exact absurd ⟨z.1, (big _ (by have := aub z.1; omega)).mp z.2⟩ nw
      · show V 155 _ = R [] 8 _
        rw [r]; exact val
      · exfalso
        refine z ?_
        rcases sg with w | w
        · exact Or.inl w
        · exact Or.inr ((te _).mpr (Or.inl w))
    · have xx := hS.eq e0 e1 en ea eb
      exact u.to (fun z => big _ (by have := aub z; omega)) (fun _ => big _ (by omega)) (fun _ => big _ xq) (fun z => big _ (by have := aub z; omega)) (fun _ z => z)
  · rw [i6 x hx]
    constructor
    · rintro (z | ⟨x, x0, x1, x2, x3⟩ | ⟨x, x0, x1, x2, x3⟩)
      · exact Or.inl z
      · exact Or.inr (Or.inl ⟨x, x0, x1, (te _).mpr (Or.inl x2), x3⟩)
      · exact Or.inr (Or.inr ⟨x, x0, x1, (te _).mpr (Or.inl x2), x3⟩)
    · rintro (z | ⟨x, x0, x1, x2, x3⟩ | ⟨x, x0, x1, x2, x3⟩)
      · exact Or.inl z
      · rcases (te _).mp x2 with x2 | x2
        · exact Or.inr (Or.inl ⟨x, x0, x1, x2, x3⟩)
        · rw [x2] at x3; exact absurd x3.1 no
      · rcases (te _).mp x2 with x2 | x2
        · exact Or.inr (Or.inr ⟨x, x0, x1, x2, x3⟩)
        · rw [x2] at x3; exact absurd x3.1 no
end Inv
