/-! READING EXPRESSIONS: what class and model have in common -/
def e_op (o : Int) : Int := if o = 17 then 7 else if o = 16 then 8 else if 12 ≤ o ∧ o ≤ 15 then o - 3 else if 7 ≤ o ∧ o ≤ 11 then o + 6 else o
/-- the node that a name means among the first n -/
def e_fd (M : ax_V) (n v w : Int) : Prop := (w = -1 ∧ ∀ k, 0 ≤ k → k < n → ¬ M 226 k = v) ∨ (0 ≤ w ∧ w < n ∧ M 226 w = v ∧ ∀ k, 0 ≤ k → k < w → ¬ M 226 k = v)
/-- the arguments of a call, one behind the other -/
def e_arg (M : ax_V) (q : Int) : Nat → Int
  | 0 => M 245 q
  | k + 1 => if e_arg M q k = -1 then -1 else M 252 (e_arg M q k)
def e_kid (M : ax_V) (q x : Int) : Prop := 0 ≤ x ∧ ((¬ M 241 q = 22 ∧ (M 245 q = x ∨ M 246 q = x ∨ M 247 q = x)) ∨ (M 241 q = 22 ∧ ∃ k, e_arg M q k = x))
def e_on1 (M : ax_V) (f t w q : Int) : Prop := e_kid M w q ∧ ∀ v, f ≤ v → v < t → e_kid M v q → v = w
/-- how many parts it has of its own -/
def e_ar (M : ax_V) (q : Int) : Prop :=
  ((0 ≤ M 241 q ∧ M 241 q ≤ 3) ∧ M 245 q = -1 ∧ M 246 q = -1 ∧ M 247 q = -1) ∨
  (((4 ≤ M 241 q ∧ M 241 q ≤ 6) ∨ M 241 q = 20) ∧ 0 ≤ M 245 q ∧ M 246 q = -1 ∧ M 247 q = -1) ∨
  (((7 ≤ M 241 q ∧ M 241 q ≤ 17) ∨ M 241 q = 19 ∨ M 241 q = 21) ∧ 0 ≤ M 245 q ∧ 0 ≤ M 246 q ∧ M 247 q = -1) ∨
  (M 241 q = 18 ∧ 0 ≤ M 245 q ∧ 0 ≤ M 246 q ∧ 0 ≤ M 247 q) ∨
  (M 241 q = 22 ∧ -1 ≤ M 245 q ∧ M 246 q = -1 ∧ M 247 q = -1)
abbrev e_pl (x : Int) : Prop := 0 ≤ x ∧ x < 700
/-- letters, numbers, places -/
def e_dt (C M : ax_V) (q : Int) : Prop :=
  ((M 241 q = 0 ∨ M 241 q = 1) → C 520 q = M 249 q ∧ M 248 q = -1 ∧ C 523 q = -1) ∧
  (M 241 q = 1 → M 249 q = 0 ∨ M 249 q = 1) ∧
  ((M 241 q = 2 ∨ M 241 q = 3 ∨ M 241 q = 21) → (0 ≤ M 248 q ∧ M 248 q < 26) ∧ C 520 q = 26 * M 250 q + M 248 q ∧ C 519 q = M 244 q ∧ e_pl (M 244 q) ∧ C 523 q = -1) ∧
  (M 241 q = 20 → (0 ≤ M 248 q ∧ M 248 q < 26) ∧ (M 249 q = 0 ∨ M 249 q = 1) ∧ C 520 q = 2 * (26 * M 250 q + M 248 q) + 1 - M 249 q ∧ C 519 q = M 244 q ∧ e_pl (M 244 q) ∧ C 523 q = -1) ∧
  ((4 ≤ M 241 q ∧ M 241 q ≤ 19) → M 248 q = -1 ∧ C 523 q = -1) ∧
  ((9 ≤ M 241 q ∧ M 241 q ≤ 11) → C 519 q = M 243 q ∧ e_pl (M 243 q)) ∧
  (M 241 q = 22 → (C 519 q = M 243 q ∧ e_pl (M 243 q)) ∧ (-1 ≤ M 248 q ∧ M 248 q < 26) ∧ (M 248 q = -1 → C 523 q = -1) ∧ (0 ≤ M 248 q → C 523 q = 26 * M 250 q + M 248 q ∧ C 524 q = M 244 q ∧ e_pl (M 244 q)) ∧ e_fd M (M 250 q) (M 249 q) (C 520 q))
/-- its own parts, in a row -/
def e_ch (C M : ax_V) (q : Int) : Prop :=
  C 521 q = M 245 q ∧
  (¬ M 241 q = 22 → (0 ≤ M 245 q → C 522 (M 245 q) = M 246 q) ∧ (0 ≤ M 246 q → C 522 (M 246 q) = M 247 q) ∧ (0 ≤ M 247 q → C 522 (M 247 q) = -1)) ∧
  (M 241 q = 22 → ∀ k, 0 ≤ e_arg M q k → C 522 (e_arg M q k) = M 252 (e_arg M q k) ∧ (M 252 (e_arg M q k) = -1 ∨ e_arg M q k < M 252 (e_arg M q k)) ∧ M 242 q ≤ M 242 (e_arg M q k)) ∧
  ∀ x, e_kid M q x → x < q ∧ C 526 x = if M 241 q = 6 then 1 else C 526 q
def e_p (C M : ax_V) (q : Int) : Prop :=
  C 517 q = e_op (M 241 q) ∧ C 518 q = M 242 q ∧ e_pl (M 242 q) ∧ (0 ≤ M 250 q ∧ M 250 q < 8) ∧ (C 526 q = 0 ∨ C 526 q = 1) ∧ e_ar M q ∧ e_dt C M q ∧ e_ch C M q
theorem e_arg_eq {M M' : ax_V} {q : Int} (h0 : M' 245 q = M 245 q) (h1 : ∀ k, 0 ≤ e_arg M q k → M' 252 (e_arg M q k) = M 252 (e_arg M q k)) (h2 : ∀ k, -1 ≤ e_arg M q k) : ∀ k, e_arg M' q k = e_arg M q k := by
  intro k
  induction k with
  | zero => exact h0
  | succ k ih =>
    show (if e_arg M' q k = -1 then -1 else M' 252 (e_arg M' q k)) = (if e_arg M q k = -1 then -1 else M 252 (e_arg M q k))
    rw [ih]
    by_cases h : e_arg M q k = -1
    · rw [if_pos h, if_pos h]
    · rw [if_neg h, if_neg h]
      exact h1 k (by have := h2 k; omega)
theorem e_arg_ge {C M : ax_V} {q : Int} (h : e_p C M q) (h22 : M 241 q = 22) : ∀ k, -1 ≤ e_arg M q k := by
  obtain ⟨-, -, -, -, -, har, -, -, -, h3, -⟩ := h
  intro k
  induction k with
  | zero =>
    show -1 ≤ M 245 q
    rcases har with a | a | a | a | a <;> omega
  | succ k ih =>
    show -1 ≤ (if e_arg M q k = -1 then -1 else M 252 (e_arg M q k))
    by_cases h : e_arg M q k = -1
    · rw [if_pos h]; omega
    · rw [if_neg h]
      have := (h3 h22 k (by omega)).2.1
      omega
/-- what a part's relation rests on: its own rows, and the ties and lateness of its own parts -/
theorem e_p.keep {C M C' M' : ax_V} {q : Int} (h : e_p C M q) (hC : ∀ c, 517 ≤ c → c ≤ 526 → c ≠ 522 → C' c q = C c q) (hM : ∀ c, 241 ≤ c → c ≤ 250 → M' c q = M c q) (hn : ∀ k, 0 ≤ k → k < M 250 q → M' 226 k = M 226 k)
    (hk : ∀ x, e_kid M q x → C' 522 x = C 522 x ∧ C' 526 x = C 526 x ∧ M' 252 x = M 252 x ∧ M' 242 x = M 242 x) : e_p C' M' q := by
  have hge := fun h22 => e_arg_ge h h22
  obtain ⟨h1, h2, h3, h4, h5, har, hdt, c1, c2, c3, c4⟩ := h
  have e1 : M' 241 q = M 241 q := hM _ (by decide) (by decide)
  have e2 : M' 242 q = M 242 q := hM _ (by decide) (by decide)
  have e3 : M' 243 q = M 243 q := hM _ (by decide) (by decide)
  have e4 : M' 244 q = M 244 q := hM _ (by decide) (by decide)
  have e5 : M' 245 q = M 245 q := hM _ (by decide) (by decide)
  have e6 : M' 246 q = M 246 q := hM _ (by decide) (by decide)
  have e7 : M' 247 q = M 247 q := hM _ (by decide) (by decide)
  have e8 : M' 248 q = M 248 q := hM _ (by decide) (by decide)
  have e9 : M' 249 q = M 249 q := hM _ (by decide) (by decide)
  have e10 : M' 250 q = M 250 q := hM _ (by decide) (by decide)
  have d1 : C' 517 q = C 517 q := hC _ (by decide) (by decide) (by decide)
  have d2 : C' 518 q = C 518 q := hC _ (by decide) (by decide) (by decide)
  have d3 : C' 519 q = C 519 q := hC _ (by decide) (by decide) (by decide)
  have d4 : C' 520 q = C 520 q := hC _ (by decide) (by decide) (by decide)
  have d5 : C' 521 q = C 521 q := hC _ (by decide) (by decide) (by decide)
  have d7 : C' 523 q = C 523 q := hC _ (by decide) (by decide) (by decide)
  have d8 : C' 524 q = C 524 q := hC _ (by decide) (by decide) (by decide)
  have d9 : C' 526 q = C 526 q := hC _ (by decide) (by decide) (by decide)
  have ea : M 241 q = 22 → ∀ k, e_arg M' q k = e_arg M q k := fun h22 => e_arg_eq e5 (fun k hk0 => (hk _ ⟨hk0, Or.inr ⟨h22, k, rfl⟩⟩).2.2.1) (hge h22)
  have ek : ∀ x, e_kid M' q x → e_kid M q x := by
    intro x hx
    obtain ⟨x0, hx⟩ := hx
    refine ⟨x0, ?_⟩
    rw [e1, e5, e6, e7] at hx
    rcases hx with hx | ⟨h22, k, hx⟩
    · exact Or.inl hx
    · exact Or.inr ⟨h22, k, by rw [← ea h22 k]; exact hx⟩
  refine ⟨by rw [d1, e1]; exact h1, by rw [d2, e2]; exact h2, by rw [e2]; exact h3, by rw [e10]; exact h4, by rw [d9]; exact h5, ?_, ?_, ?_, ?_, ?_, ?_⟩
  · unfold e_ar
    rw [e1, e5, e6, e7]
    exact har
  · have hf : e_fd M (M 250 q) (M 249 q) (C 520 q) → e_fd M' (M 250 q) (M 249 q) (C 520 q) := by
      intro hf
      rcases hf with ⟨a, b⟩ | ⟨a, b, c, d⟩
      · exact Or.inl ⟨a, fun k k0 k1 => by rw [hn k k0 (by omega)]; exact b k k0 k1⟩
      · exact Or.inr ⟨a, b, by rw [hn _ a (by omega)]; exact c, fun k k0 k1 => by rw [hn k k0 (by omega)]; exact d k k0 k1⟩
    obtain ⟨t1, t2, t3, t4, t5, t6, t7⟩ := hdt
    unfold e_dt
    rw [e1, e3, e4, e8, e9, e10, d3, d4, d7, d8]
    exact ⟨t1, t2, t3, t4, t5, t6, fun w => ⟨(t7 w).1, (t7 w).2.1, (t7 w).2.2.1, (t7 w).2.2.2.1, hf (t7 w).2.2.2.2⟩⟩
  · rw [d5, e5]; exact c1
  · rw [e1, e5, e6, e7]
    intro w
    obtain ⟨u1, u2, u3⟩ := c2 w
    refine ⟨fun z => ?_, fun z => ?_, fun z => ?_⟩
    · rw [(hk _ ⟨z, Or.inl ⟨w, Or.inl rfl⟩⟩).1]; exact u1 z
    · rw [(hk _ ⟨z, Or.inl ⟨w, Or.inr (Or.inl rfl)⟩⟩).1]; exact u2 z
    · rw [(hk _ ⟨z, Or.inl ⟨w, Or.inr (Or.inr rfl)⟩⟩).1]; exact u3 z
  · rw [e1]
    intro h22 k hk0
    rw [ea h22 k] at hk0 ⊢
    obtain ⟨g1, -, g3, g4⟩ := hk _ ⟨hk0, Or.inr ⟨h22, k, rfl⟩⟩
    rw [g1, g3, g4, e2]
    exact c3 h22 k hk0
  · intro x hx
    have hx' := ek x hx
    rw [(hk x hx').2.1, e1, d9]
    exact c4 x hx'
/-- the text, and where in it -/
def e_T (C M : ax_V) : Prop := (C 600 1) = (M 222 3) ∧ 0 ≤ (M 222 3) ∧ (M 222 3) ≤ 700 ∧ ∀ i, 0 ≤ i → i < (M 222 3) → C 1 i = M 224 i ∧ 33 ≤ M 224 i ∧ M 224 i ≤ 126
def e_S (C M : ax_V) : Prop := ((C 600 6) = (M 222 68) ∧ 0 ≤ (M 222 68) ∧ (M 222 68) ≤ (M 222 3)) ∧ ((C 600 8) = (M 222 10) ∧ 0 ≤ (M 222 10) ∧ (M 222 10) < 8) ∧ ((C 600 11) = (M 222 69) ∧ 0 ≤ (M 222 69) ∧ (M 222 69) ≤ 20) ∧ ((C 600 10) = (M 222 71) ∧ ((M 222 71) = 0 ∨ (M 222 71) = 1)) ∧ ((C 600 12) = (M 222 72) ∧ 0 ≤ (M 222 72) ∧ (M 222 72) ≤ (M 222 69)) ∧ (((M 222 70) = 0 ∧ (C 600 9) = -1) ∨ ((M 222 70) = 1 ∧ 0 ≤ (C 600 9))) ∧ (0 ≤ (C 600 13) ∧ (C 600 13) ≤ (M 222 69))
def e_P (C M : ax_V) : Prop := ((C 516 0) = (M 222 26) ∧ 0 ≤ (M 222 26) ∧ (M 222 26) ≤ (M 222 68)) ∧ (∀ k, 0 ≤ k → k < (M 222 10) → C 501 k = M 226 k) ∧ ∀ q, 0 ≤ q → q < (M 222 26) → e_p C M q
def e_R (C M : ax_V) : Prop := (ax_g C ∧ ax_g M) ∧ e_T C M ∧ e_S C M ∧ e_P C M
/-- what may stand where -/
def e_opk (M : ax_V) (o : Int) : Prop := ((M 222 71) = 1 → ¬ o = 6 ∧ ¬ o = 19 ∧ ¬ o = 22) ∧ ((M 222 70) = 1 → ¬ o = 20 ∧ ¬ o = 21)
/-- what a new part has of where it stands -/
def e_nw (C M C' M' : ax_V) (q : Int) : Prop := C' 525 q = (C 600 9) ∧ C' 527 q = 0 ∧ M' 250 q = (M 222 10) ∧ M' 256 q = 0 ∧ (M 222 68) ≤ M' 242 q ∧ e_opk M (M' 241 q)
def e_ns (C M C' M' : ax_V) : Prop := ∀ q, (M 222 26) ≤ q → q < (M' 222 26) → e_nw C M C' M' q
theorem e_nw.keep {C M C' M' C2 M2 : ax_V} {q : Int} (h : e_nw C M C' M' q) (c1 : C2 525 q = C' 525 q) (c2 : C2 527 q = C' 527 q) (m : ∀ c, 241 ≤ c → c ≤ 257 → M2 c q = M' c q) : e_nw C M C2 M2 q := by
  unfold e_nw
  rw [c1, c2, m 241 (by decide) (by decide), m 242 (by decide) (by decide), m 250 (by decide) (by decide), m 256 (by decide) (by decide)]
  exact h
theorem e_nw.from {C M C1 M1 C' M' : ax_V} {q P : Int} (h : e_nw C1 M1 C' M' q) (fC : e_fC C C1 P) (fM : e_fM M M1 P) (ha : (M 222 68) ≤ (M1 222 68)) : e_nw C M C' M' q := by
  have e1 := fC.2.2 9 (by decide) (by decide) (by decide) (by decide)
  have e2 := fM.2.2 10 (by decide) (by decide) (by decide) (by decide) (by decide) (by decide)
  have e3 := fM.2.2 70 (by decide) (by decide) (by decide) (by decide) (by decide) (by decide)
  have e4 := fM.2.2 71 (by decide) (by decide) (by decide) (by decide) (by decide) (by decide)
  obtain ⟨h1, h2, h3, h4, h5, h6⟩ := h
  unfold e_opk at h6
  rw [e3, e4] at h6
  exact ⟨by rw [h1, e1], h2, by rw [h3, e2], h4, by omega, h6⟩
theorem e_ns.tr {C M C1 M1 C2 M2 : ax_V} {P : Int} (h : e_ns C M C1 M1) (k : e_ns C1 M1 C2 M2) (fC : e_fC C C1 P) (fM : e_fM M M1 P) (ha : (M 222 68) ≤ (M1 222 68)) (gC : e_fC C1 C2 (M1 222 26)) (gM : e_fM M1 M2 (M1 222 26)) : e_ns C M C2 M2 := by
  intro q a b
  by_cases w : q < (M1 222 26)
  · exact (h q a w).keep (gC.2.1 525 q (by decide) (by decide) w) (gC.2.1 527 q (by decide) (by decide) w) (fun c x y => gM.2.1 c q x y w)
  · exact (k q (by omega) b).from fC fM ha
theorem e_nw.mk {C M C2 M2 C3 M3 : ax_V} {N om P : Int} (h2 : e_fC C C2 P) (h3 : e_fM M M2 P) (g1 : C3 525 N = (C2 600 9)) (g2 : C3 527 N = 0) (f1 : M3 241 N = om) (f2 : (M 222 68) ≤ M3 242 N) (f3 : M3 250 N = (M2 222 10)) (f4 : M3 256 N = 0) (hop : e_opk M om) : e_nw C M C3 M3 N := by
  have e1 := h2.2.2 9 (by decide) (by decide) (by decide) (by decide)
  have e2 := h3.2.2 10 (by decide) (by decide) (by decide) (by decide) (by decide) (by decide)
  exact ⟨by rw [g1, e1], g2, by rw [f3, e2], f4, f2, by rw [f1]; exact hop⟩
theorem e_opk.lo {M : ax_V} {o : Int} (h : ¬ o = 6 ∧ ¬ o = 19 ∧ ¬ o = 22 ∧ ¬ o = 20 ∧ ¬ o = 21) : e_opk M o := ⟨fun _ => ⟨h.1, h.2.1, h.2.2.1⟩, fun _ => h.2.2.2⟩
theorem e_opk.tr {M : ax_V} {o : Int} (h : (M 222 71) = 0) (h2 : ¬ o = 20 ∧ ¬ o = 21) : e_opk M o := ⟨fun z => by omega, fun _ => h2⟩
theorem e_opk.au {M : ax_V} {o : Int} (h : (M 222 70) = 0) (h2 : ¬ o = 6 ∧ ¬ o = 19 ∧ ¬ o = 22) : e_opk M o := ⟨fun _ => h2, fun z => by omega⟩
/-- read on both sides: p is the new part -/
def e_ok (C M C' M' : ax_V) (p : Int) : Prop :=
  e_R C' M' ∧ e_fC C C' (M 222 26) ∧ e_fM M M' (M 222 26) ∧ (p = (M' 222 74) ∧ p + 1 = (M' 222 26) ∧ (M 222 26) ≤ p) ∧
  (C' 522 p = -1 ∧ M' 252 p = -1 ∧ C' 526 p = ax_b (0 < (C 600 13))) ∧
  ((M 222 68) < (M' 222 68) ∧ (M' 222 26) - (M 222 26) ≤ (M' 222 68) - (M 222 68) ∧ e_ns C M C' M') ∧ ((M' 222 69) = (M 222 69) ∧ (M' 222 72) = (M 222 72) ∧ (C' 600 13) = (C 600 13)) ∧
  (∀ q x, (M 222 26) ≤ q → q < (M' 222 26) → e_kid M' q x → (M 222 26) ≤ x) ∧ ∀ q, (M 222 26) ≤ q → q < p → ∃ w, w ≤ p ∧ (M 222 26) ≤ w ∧ e_on1 M' (M 222 26) (M' 222 26) w q
/-- it can't be read: the place is the same -/
def e_no (C M C' M' : ax_V) : Prop := (ax_g C' ∧ ax_g M') ∧ (C' 600 6) = (M' 222 68) ∧ e_fC C C' (M 222 26) ∧ e_fM M M' (M 222 26)
/-- the class goes on to what can't stand there -/
def e_half (C M C' M' : ax_V) (p : Int) : Prop := e_no C M C' M' ∧ ((M 222 26) ≤ p ∧ p < (C' 516 0)) ∧ ((M 222 68) < (C' 600 6) ∧ (C' 600 6) ≤ (M 222 3) ∧ (C' 516 0) - (M 222 26) ≤ (C' 600 6) - (M 222 68)) ∧ ((C' 600 11) = (C 600 11) ∧ (C' 600 12) = (C 600 12) ∧ (C' 600 13) = (C 600 13))
abbrev e_dig (C : ax_V) : Prop := 48 ≤ c_see C ∧ c_see C ≤ 57
def e_bad (C : ax_V) : Prop := e_dig C ∨ (c_see C = 45 ∧ (C 600 10) = 1)
/-- what comes of a method that reads, on both sides -/
def e_out (bad : ax_V → Prop) (B r dc qc : Nat) (vc : List Value) (dm qm : Nat) (vm : List Value) (C M : ax_V) : Prop :=
  (∃ p C' M', ax_Ie (az_W B (az_ER B r)) dc qc vc C p C' ∧ ax_Ie ay_lay dm qm vm M 1 M' ∧ e_ok C M C' M' p) ∨
  (∃ C' M', ax_Xe (az_W B (az_ER B r)) dc qc vc C C' ∧ ax_Ie ay_lay dm qm vm M 0 M' ∧ e_no C M C' M') ∨
  (∃ p C' M', ax_Ie (az_W B (az_ER B r)) dc qc vc C p C' ∧ ax_Ie ay_lay dm qm vm M 0 M' ∧ e_half C M C' M' p ∧ bad C')
theorem e_T.see {C M : ax_V} (hT : e_T C M) (hat : (C 600 6) = (M 222 68)) (h0 : 0 ≤ (M 222 68)) : c_see C = m_see M := by
  unfold c_see m_see
  rw [hT.1, hat]
  by_cases h : (M 222 68) < (M 222 3)
  · rw [if_pos h, if_pos h]; exact (hT.2.2.2 _ h0 h).1
  · rw [if_neg h, if_neg h]
theorem e_R.see {C M : ax_V} (h : e_R C M) : c_see C = m_see M := e_T.see h.2.1 h.2.2.1.1.1 h.2.2.1.1.2.1
theorem e_R.mi {C M : ax_V} (h : e_R C M) : m_in M := by
  obtain ⟨-, ⟨-, a, b, -⟩, ⟨⟨-, c, d⟩, -⟩, -⟩ := h
  exact ⟨c, by omega, b⟩
theorem e_R.ci {C M : ax_V} (h : e_R C M) : c_in C := by
  obtain ⟨-, ⟨a1, a, b, a4⟩, ⟨⟨c0, c, d⟩, -⟩, -⟩ := h
  refine ⟨by omega, by omega, by omega, fun i i0 i1 => ?_⟩
  have := a4 i i0 (by omega)
  omega
theorem e_R.lt {C M : ax_V} (h : e_R C M) (hs : ¬ m_see M = 0) : (M 222 68) < (M 222 3) := by
  by_cases w : (M 222 68) < (M 222 3)
  · exact w
  · exact absurd (if_neg w) hs
