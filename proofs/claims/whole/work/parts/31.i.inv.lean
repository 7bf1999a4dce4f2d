/-! THE INVARIANT of a tick in the class -/
/-- at which stage what a part remembers is -/
def h_stg (M : ax_V) (s : Int → Prop) (e q : Int) (Q : Int → Prop) : Prop :=
  ((¬ M 263 e = -1 ∧ s (5120 + M 263 e)) → Q 6) ∧
  (¬ (¬ M 263 e = -1 ∧ s (5120 + M 263 e)) → ((M 241 q = 6 ∧ s (3072 + q)) ∨ (¬ M 241 q = 6 ∧ s q)) → Q 8) ∧
  (¬ (¬ M 263 e = -1 ∧ s (5120 + M 263 e)) → ¬ ((M 241 q = 6 ∧ s (3072 + q)) ∨ (¬ M 241 q = 6 ∧ s q)) → (M 263 e = -1 ∨ s (2048 + M 263 e)) → Q 7) ∧
  (¬ (¬ M 263 e = -1 ∧ s (5120 + M 263 e)) → ¬ ((M 241 q = 6 ∧ s (3072 + q)) ∨ (¬ M 241 q = 6 ∧ s q)) → ¬ (M 263 e = -1 ∨ s (2048 + M 263 e)) → Q 5)
def h_I1 (M : ax_V) (F S : Int → Int) (n : Int) (V : ax_V) (s : Int → Prop) (R : h_R) : Prop := ∀ q, 0 ≤ q → q < (M 222 26) → M 250 q = n → s q → h_ac M S n (R []) q → V 151 q = R [] 0 q ∧ (F q = 1 → R [] 0 q = 0 ∨ R [] 0 q = 1)
def h_I2 (M : ax_V) (n : Int) (V : ax_V) (s : Int → Prop) (R : h_R) : Prop := ∀ y, 0 ≤ y → y < 26 → g_rd M s n y → V 153 (26 * n + y) = R [] 2 y ∧ (¬ R [] 2 y = 0 → V 152 (26 * n + y) = R [] 1 y ∧ (M 233 (26 * n + y) = 1 → R [] 1 y = 0 ∨ R [] 1 y = 1))
def h_I3 (C M : ax_V) (n : Int) (V : ax_V) (s : Int → Prop) (R : h_R) : Prop := ∀ a, 0 ≤ a → a < (M 222 55) → M 267 a = n → (s (2048 + a) → V 154 a = C 558 a + R [] 3 a) ∧ (¬ s (2048 + a) → V 154 a = C 558 a + R [] 5 (h_sa M n a))
def h_I4 (C M : ax_V) (U : Int → Int) (k : Nat) (n b : Int) (V : ax_V) (s : Int → Prop) (R : h_R) : Prop := ∀ e q i j, 0 ≤ e → e < (M 222 44) → M 258 e = n → M 261 e ≤ q → q ≤ M 262 e → h_sub C M U k q i j → h_stg M s e q (fun t => V 155 (b + (g_cp C M U n q.toNat + i)) = R [] t (g_sp C M U n q.toNat + j))
def h_I5 (C M : ax_V) (U : Int → Int) (n b : Int) (V : ax_V) (s : Int → Prop) (R : h_R) : Prop := (∀ l, 0 ≤ l → l < 26 → ¬ M 236 (26 * n + l) = 0 → (s (4096 + 26 * n + l) → V 155 (b + (g_cp C M U n ((M 222 26)).toNat + g_ca M n ((M 222 55)).toNat + g_ll M n l.toNat)) = R [] 6 (g_ll M n l.toNat)) ∧ (¬ s (4096 + 26 * n + l) → V 155 (b + (g_cp C M U n ((M 222 26)).toNat + g_ca M n ((M 222 55)).toNat + g_ll M n l.toNat)) = R [] 5 (g_ll M n l.toNat))) ∧ ∀ a, 0 ≤ a → a < (M 222 55) → M 267 a = n → (s (5120 + a) → V 155 (b + (g_cp C M U n ((M 222 26)).toNat + g_ca M n a.toNat)) = R [] 6 (h_sa M n a)) ∧ (¬ s (5120 + a) → V 155 (b + (g_cp C M U n ((M 222 26)).toNat + g_ca M n a.toNat)) = R [] 5 (h_sa M n a))
def h_I6 (M : ax_V) (S : Int → Int) (n : Int) (V0 V : ax_V) (s : Int → Prop) (R : h_R) : Prop := ∀ t, V 150 10 ≤ t ↔ (V0 150 10 ≤ t ∨ (∃ q, (0 ≤ q ∧ q < (M 222 26)) ∧ M 250 q = n ∧ s q ∧ h_ac M S n (R []) q ∧ (M 241 q = 10 ∨ M 241 q = 11) ∧ R [] 0 (M 246 q) = 0 ∧ M 243 q ≤ t) ∨ ∃ q, (0 ≤ q ∧ q < (M 222 26)) ∧ M 250 q = n ∧ s q ∧ h_ac M S n (R []) q ∧ M 241 q = 22 ∧ R [q] 4 0 ≤ t)
def h_IR (C M : ax_V) (U F S : Int → Int) (k : Nat) (n b : Int) (V0 V : ax_V) (s : Int → Prop) (R : h_R) : Prop := h_I1 M F S n V s R ∧ h_I2 M n V s R ∧ h_I3 C M n V s R ∧ h_I4 C M U k n b V s R ∧ h_I5 C M U n b V s R ∧ h_I6 M S n V0 V s R
section Inv
variable {C0 M0 P V V0 W : ax_V} {F G Hh S U J Im : Int → Int} {n q e a b : Int} {k : Nat} {s t : Int → Prop} {R : h_R}
/-- the class and the record agree on what is on -/
theorem h_onq (hS : g_S C0 M0) (hT : g_ST M0 G S) (hr : ∀ q, -1 ≤ S q ∧ S q ≤ 52) (i2 : h_I2 M0 n V s R) (i3 : h_I3 C0 M0 n V s R) (q0 : 0 ≤ q) (q1 : q < (M0 222 26)) (qn : M0 250 q = n) (w3 : C0 525 q = -1 → ¬ S q = 0 → g_rd M0 s n ((S q - 1) / 2)) (w4 : ∀ e, 0 ≤ e → e < (M0 222 44) → M0 261 e ≤ q → q ≤ M0 262 e → ¬ M0 263 e = -1 → s (2048 + M0 263 e)) (w5 : ∀ m, 0 ≤ m → m < (M0 222 60) → M0 276 m ≤ q → q ≤ M0 277 m → (M0 273 m = 0 → s (2048 + M0 271 m)) ∧ (¬ M0 273 m = 0 → ¬ s (2048 + M0 271 m))) : ((C0 525 q = -1 ∧ h_on (h_lv V n) (S q)) ∨ (¬ C0 525 q = -1 ∧ V 154 (C0 563 (C0 525 q)) = C0 525 q)) ↔ h_ac M0 S n (R []) q := by
  have hB := hS.2.2.2.2.1
  have hc3 := hB.1.2.2.1
  rcases hB.2.2.2.2.2.1.1 q q0 q1 with ⟨e, e0, e1, ea, eb⟩ | ⟨m, m0, m1, ma, mb⟩
  · have fe := hB.2.1 e e0 e1
    have fx := fe.2.2.2.2.2.1.2.2 q ea eb
    have en : M0 258 e = n := by rw [← fx.1.1]; exact qn
    rw [hS.acE (S := S) e0 e1 en ea eb, fx.1.2.1]
    by_cases au : M0 263 e = -1
    · have st : C0 551 e = -1 := (hS.ea e0 e1).mpr au
      have on : h_on (h_lv V n) (S q) ↔ h_on (R []) (S q) := by
        by_cases z : S q = 0
        · exact ⟨fun _ => Or.inl z, fun _ => Or.inl z⟩
        · have nn := hS.Snn hT q0 q1
          have r9 := hr q
          have rd := w3 (by rw [fx.1.2.1]; exact st) z
          obtain ⟨u1, u2⟩ := i2 _ (by omega) (by omega) rd
          have e2 : ∀ l, h_lv V n 2 l = V 153 (26 * n + l) := fun l => if_pos rfl
          have e1 : ∀ l, h_lv V n 1 l = V 152 (26 * n + l) := fun l => if_neg (by decide)
          unfold h_on
          rw [e2, e1, u1]
          constructor
          · rintro (w | w)
            · exact absurd w z
            · exact Or.inr ⟨w.1, by rw [← (u2 w.1).1]; exact w.2⟩
          · rintro (w | w)
            · exact absurd w z
            · exact Or.inr ⟨w.1, by rw [(u2 w.1).1]; exact w.2⟩
      rw [st, on]
      constructor
      · rintro (w | w)
        · exact ⟨Or.inl au, w.2⟩
        · exact absurd rfl w.1
      · exact fun w => Or.inl ⟨rfl, w.2⟩
    · rcases fe.2.2.2.2.1 with y | ⟨y1, y2, y3, y4, y5, y6, y7⟩
      · exact absurd y.2.1 au
      · have a9 : M0 263 e < (M0 222 55) := by omega
        have fa := hS.au y1 a9
        have ow := (fa.1.2.2.2.2.2 (C0 551 e) (by omega) y5).1
        have st : ¬ C0 551 e = -1 := by omega
        have s0 := hS.S0 hT q0 q1 (by rw [fx.1.2.1]; exact st)
        have v := (i3 _ y1 a9 (by rw [y7]; exact en)).1 (w4 e e0 e1 ea eb au)
        rw [ow, v, y4]
        constructor
        · rintro (w | w)
          · exact absurd w.1 (by omega)
          · exact ⟨Or.inr (by omega), Or.inl s0⟩
        · rintro ⟨w | w, -⟩
          · exact absurd w au
          · exact Or.inr ⟨by omega, by omega⟩
  · have ft := hB.2.2.2.2.1 m m0 m1
    have fx := ft.2.2.2.2.2.2.2.2.2 q ma mb
    have tm := (hS.tr m0 m1).1
    have mn : M0 267 (M0 271 m) = n := by rw [← fx.1.1]; exact qn
    rw [hS.acT (S := S) m0 m1 mn ma mb, fx.1.2.1]
    rcases ft.1.2 with y | ⟨y1, y2, y3, y4, y5, y6, y7⟩
    · omega
    · have fa := hS.au tm.1 tm.2
      have ow := (fa.1.2.2.2.2.2 (C0 567 m) (by omega) y5).1
      have v := i3 _ tm.1 tm.2 mn
      have u := w5 m m0 m1 ma mb
      rw [ow, y4]
      by_cases st : M0 273 m = 0
      · rw [if_pos st, v.1 (u.1 st)]
        constructor
        · rintro (w | w)
          · exact absurd w.1 (by omega)
          · omega
        · exact fun w => Or.inr ⟨by omega, by omega⟩
      · rw [if_neg st, v.2 (u.2 st)]
        constructor
        · rintro (w | w)
          · exact absurd w.1 (by omega)
          · omega
        · exact fun w => Or.inr ⟨by omega, by omega⟩
/-- letters are as ready as before where only a part has come -/
theorem g_rd.part (hS : g_S C0 M0) (q1 : q < (M0 222 26)) {y : Int} : g_rd M0 (fun v => s v ∨ v = q) n y ↔ g_rd M0 s n y := by
  have sm := hS.small
  constructor
  · rintro (z | z)
    · exact Or.inl z
    · refine Or.inr ⟨z.1, fun e i a b c => ?_⟩
      rcases z.2 e i a b c with w | w
      · exact w
      · have := a.1.1; omega
  · rintro (z | z)
    · exact Or.inl z
    · exact Or.inr ⟨z.1, fun e i a b c => Or.inl (z.2 e i a b c)⟩
/-- a part that is not worked -/
theorem h_IR.off (hS : g_S C0 M0) (hR : h_TK C0 M0 U S Im (k + 1) n R) (h : h_IR C0 M0 U F S k n b V0 V s R) (q0 : 0 ≤ q) (q1 : q < (M0 222 26)) (qn : M0 250 q = n) (no : ¬ h_ac M0 S n (R []) q) (bnd : ∀ i j, h_sub C0 M0 U k q i j → 0 ≤ j ∧ j < g_vl C0 M0 U q) (noend : ∀ v, 3072 ≤ v → ¬ s v) (w4 : ∀ e, 0 ≤ e → e < (M0 222 44) → M0 261 e ≤ q → q ≤ M0 262 e → ¬ M0 263 e = -1 → s (2048 + M0 263 e)) (new : ¬ s q) : h_IR C0 M0 U F S k n b V0 V (fun v => s v ∨ v = q) R := by
  have sm := hS.small
  obtain ⟨i1, i2, i3, i4, i5, i6⟩ := h
  have big : ∀ v, 1024 ≤ v → ((s v ∨ v = q) ↔ s v) := fun v hv => ⟨fun z => by rcases z with z | z; exact z; omega, fun z => Or.inl z⟩
  refine ⟨fun x x0 x1 xn xs xa => ?_, fun y y0 y1 rd => i2 y y0 y1 ((g_rd.part hS q1).mp rd), fun a a0 a1 an => ?_, fun e x i j e0 e1 en ea eb sb => ?_, ?_, fun t => ?_⟩
  · rcases xs with xs | xs
    · exact i1 x x0 x1 xn xs xa
    · rw [xs] at xa; exact absurd xa no
  · rw [big (2048 + a) (by omega)]; exact i3 a a0 a1 an
  · have u := i4 e x i j e0 e1 en ea eb sb
    have fx1 := (hS.2.2.2.2.1.2.1 e e0 e1).2.2.2.2.2.1.1
    by_cases xq : x = q
    · rw [xq] at ea eb sb ⊢
      rw [xq] at u
      have bj := bnd i j sb
      have r := (hR.2.2.2.2.2.1 e q j e0 e1 en ea eb bj.1 bj.2).2.2 no
      have sg : M0 263 e = -1 ∨ s (2048 + M0 263 e) := by
        by_cases au : M0 263 e = -1
        · exact Or.inl au
        · exact Or.inr (w4 e e0 e1 ea eb au)
      have nw : ¬ (¬ M0 263 e = -1 ∧ s (5120 + M0 263 e)) := fun z => by
        have := (hS.st e0 e1)
        rcases this with y | y
        · exact z.1 y.2.1
        · exact noend _ (by have := y.2.1.1; omega) z.2
      have nd : ¬ ((M0 241 q = 6 ∧ s (3072 + q)) ∨ (¬ M0 241 q = 6 ∧ s q)) := fun z => by
        rcases z with z | z
        · exact noend _ (by omega) z.2
        · exact new z.2
      have val := u.2.2.1 nw nd sg
      refine ⟨fun z => ?_, fun _ _ => by rw [r]; exact val, fun _ _ _ => val, fun _ _ z => ?_⟩
      · exfalso
        rcases z.2 with z2 | z2
        · exact nw ⟨z.1, z2⟩
        · have := (hS.st e0 e1)
          rcases this with y | y
          · exact z.1 y.2.1
          · have := y.2.1.1; omega
      · exfalso
        refine z ?_
        rcases sg with w | w
        · exact Or.inl w
        · exact Or.inr (Or.inl w)
    · have au0 : M0 263 e = -1 ∨ 0 ≤ M0 263 e := by
        rcases hS.st e0 e1 with y | y
        · exact Or.inl y.2.1
        · exact Or.inr y.2.1.1
      have c1 : (¬ M0 263 e = -1 ∧ (s (5120 + M0 263 e) ∨ 5120 + M0 263 e = q)) ↔ (¬ M0 263 e = -1 ∧ s (5120 + M0 263 e)) := ⟨fun z => ⟨z.1, by rcases z.2 with w | w; exact w; omega⟩, fun z => ⟨z.1, Or.inl z.2⟩⟩
      have c2 : ((M0 241 x = 6 ∧ (s (3072 + x) ∨ 3072 + x = q)) ∨ (¬ M0 241 x = 6 ∧ (s x ∨ x = q))) ↔ ((M0 241 x = 6 ∧ s (3072 + x)) ∨ (¬ M0 241 x = 6 ∧ s x)) := ⟨fun z => by rcases z with ⟨z1, z2 | z2⟩ | ⟨z1, z2 | z2⟩; exact Or.inl ⟨z1, z2⟩; omega; exact Or.inr ⟨z1, z2⟩; exact absurd z2 xq, fun z => by rcases z with z | z; exact Or.inl ⟨z.1, Or.inl z.2⟩; exact Or.inr ⟨z.1, Or.inl z.2⟩⟩
      have c3 : (M0 263 e = -1 ∨ (s (2048 + M0 263 e) ∨ 2048 + M0 263 e = q)) ↔ (M0 263 e = -1 ∨ s (2048 + M0 263 e)) := ⟨fun z => by rcases z with z | z | z; exact Or.inl z; exact Or.inr z; omega, fun z => by rcases z with z | z; exact Or.inl z; exact Or.inr (Or.inl z)⟩
      unfold h_stg
      rw [c1, c2, c3]
      exact u
  · refine ⟨fun l l0 l1 hl => ?_, fun a a0 a1 an => ?_⟩
    · have c : (s (4096 + 26 * n + l) ∨ 4096 + 26 * n + l = q) ↔ s (4096 + 26 * n + l) := by
        have pn := (hS.pnode q0 q1).1
        exact big _ (by omega)
      rw [c]; exact i5.1 l l0 l1 hl
    · rw [big (5120 + a) (by omega)]; exact i5.2 a a0 a1 an
  · rw [i6 t]
    constructor
    · rintro (z | ⟨x, x0, x1, x2, x3⟩ | ⟨x, x0, x1, x2, x3⟩)
      · exact Or.inl z
      · exact Or.inr (Or.inl ⟨x, x0, x1, Or.inl x2, x3⟩)
      · exact Or.inr (Or.inr ⟨x, x0, x1, Or.inl x2, x3⟩)
    · rintro (z | ⟨x, x0, x1, x2 | x2, x3⟩ | ⟨x, x0, x1, x2 | x2, x3⟩)
      · exact Or.inl z
      · exact Or.inr (Or.inl ⟨x, x0, x1, x2, x3⟩)
      · rw [x2] at x3; exact absurd x3.1 no
      · exact Or.inr (Or.inr ⟨x, x0, x1, x2, x3⟩)
      · rw [x2] at x3; exact absurd x3.1 no
end Inv
