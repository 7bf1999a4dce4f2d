/-! THE BODY of a node: equations, automata, transitions on both sides -/
/-- the state s of the class is the t-th of the automaton a of the node n -/
def f_st (C M : ax_V) (s a t n : Int) : Prop := (s = -1 ∧ a = -1 ∧ t = -1) ∨ (0 ≤ a ∧ a < (C 556 0) ∧ 0 ≤ t ∧ s = C 558 a + t ∧ s < C 558 (a + 1) ∧ 0 ≤ C 558 a ∧ M 267 a = n)
/-- the parts of an X: from f to w -/
def f_x (C M : ax_V) (f w n s tr m : Int) : Prop :=
  (0 ≤ f ∧ f ≤ w ∧ w < (M 222 26)) ∧ (C 526 w = 0 ∧ C 527 w = m) ∧
  ∀ q, f ≤ q → q ≤ w → (M 250 q = n ∧ C 525 q = s ∧ M 256 q = 0) ∧ (¬ s = -1 → ¬ M 241 q = 20 ∧ ¬ M 241 q = 21) ∧ (tr = 1 → ¬ M 241 q = 6 ∧ ¬ M 241 q = 19 ∧ ¬ M 241 q = 22) ∧ (∀ x, e_kid M q x → f ≤ x) ∧ (q < w → C 527 q = 0 ∧ ∃ p, p ≤ w ∧ f ≤ p ∧ e_on1 M f (w + 1) p q)
def f_h (C M : ax_V) (n h : Int) : Prop := C 554 h = 26 * n + M 265 h ∧ (0 ≤ M 265 h ∧ M 265 h < 26) ∧ C 555 h = M 266 h ∧ e_pl (M 266 h)
def f_e (C M : ax_V) (e : Int) : Prop :=
  (0 ≤ M 258 e ∧ M 258 e ≤ (M 222 10)) ∧ (C 548 e = M 259 e ∧ C 548 (e + 1) = M 259 e + M 260 e) ∧ (0 ≤ M 259 e ∧ 1 ≤ M 260 e ∧ M 259 e + M 260 e ≤ (M 222 52)) ∧
  (C 549 e = M 261 e ∧ C 550 e = M 262 e ∧ C 552 e = 0 ∧ C 553 e = 0) ∧ f_st C M (C 551 e) (M 263 e) (M 264 e) (M 258 e) ∧
  f_x C M (M 261 e) (M 262 e) (M 258 e) (C 551 e) 0 (M 260 e) ∧ ∀ h, M 259 e ≤ h → h < M 259 e + M 260 e → f_h C M (M 258 e) h
def f_t (C M : ax_V) (m : Int) : Prop :=
  (0 ≤ M 271 m ∧ f_st C M (C 567 m) (M 271 m) (M 272 m) (M 267 (M 271 m))) ∧ (C 559 (M 271 m) ≤ m ∧ m < C 559 (M 271 m + 1)) ∧
  (C 568 m = M 273 m ∧ (M 273 m = 0 ∨ M 273 m = 1)) ∧ (C 569 m = M 274 m ∧ (M 274 m = 0 ∨ M 274 m = 1)) ∧ (C 570 m = M 276 m ∧ C 571 m = M 277 m) ∧ (C 572 m = M 275 m ∧ 0 ≤ M 275 m ∧ M 275 m ≤ 9) ∧ (C 573 m = M 278 m ∧ e_pl (M 278 m)) ∧
  f_x C M (M 276 m) (M 277 m) (M 267 (M 271 m)) (C 567 m) 1 0
def f_a (C M : ax_V) (a : Int) : Prop :=
  (0 ≤ M 267 a ∧ M 267 a ≤ (M 222 10)) ∧ (C 557 a = M 268 a ∧ e_pl (M 268 a)) ∧ (0 ≤ C 558 a ∧ C 558 a ≤ C 558 (a + 1) ∧ C 558 (a + 1) ≤ (C 556 1)) ∧ (0 ≤ C 559 a ∧ C 559 a ≤ C 559 (a + 1) ∧ C 559 (a + 1) ≤ (C 556 2)) ∧ (C 560 a = 0 ∧ C 561 a = 0 ∧ C 562 a = 0) ∧
  ∀ s, C 558 a ≤ s → s < C 558 (a + 1) → C 563 s = a ∧ C 564 s = 0 ∧ C 565 s = 0 ∧ C 566 s = 0
/-- all its states are read -/
def f_ac (C M : ax_V) (a : Int) : Prop := C 558 (a + 1) = C 558 a + M 269 a ∧ 1 ≤ M 269 a ∧ M 269 a ≤ 6
/-- which node they belong to -/
def f_nd (C M : ax_V) : Prop :=
  (∀ q, 0 ≤ q → q < (M 222 26) → (0 ≤ M 250 q ∧ M 250 q ≤ (M 222 10)) ∧ C 508 (M 250 q) ≤ q ∧ (M 250 q < (M 222 10) → q < C 508 (M 250 q + 1))) ∧
  (∀ e, 0 ≤ e → e < (M 222 44) → C 509 (M 258 e) ≤ e ∧ (M 258 e < (M 222 10) → e < C 509 (M 258 e + 1))) ∧
  (∀ a, 0 ≤ a → a < (M 222 55) → C 510 (M 267 a) ≤ a ∧ (M 267 a < (M 222 10) → a < C 510 (M 267 a + 1))) ∧
  (∀ n, 0 ≤ n → n < (M 222 10) → C 508 n ≤ C 508 (n + 1) ∧ C 509 n ≤ C 509 (n + 1) ∧ C 510 n ≤ C 510 (n + 1) ∧ C 502 n = M 287 n ∧ e_pl (M 287 n)) ∧
  (C 508 0 = 0 ∧ C 509 0 = 0 ∧ C 510 0 = 0) ∧ (C 508 (M 222 10) ≤ (M 222 26) ∧ C 509 (M 222 10) ≤ (M 222 44) ∧ C 510 (M 222 10) ≤ (M 222 55))
/-- how many there are -/
def f_ct (C M : ax_V) : Prop :=
  ((C 547 0) = (M 222 44) ∧ 0 ≤ (M 222 44) ∧ 2 * (M 222 44) ≤ (M 222 68)) ∧ ((C 547 1) = (M 222 52) ∧ 0 ≤ (M 222 52) ∧ 2 * (M 222 52) ≤ (M 222 68)) ∧ ((C 556 0) = (M 222 55) ∧ 0 ≤ (M 222 55) ∧ 2 * (M 222 55) ≤ (M 222 68)) ∧ (0 ≤ (C 556 1) ∧ 2 * (C 556 1) ≤ (M 222 68)) ∧ ((C 556 2) = (M 222 60) ∧ 0 ≤ (M 222 60) ∧ 2 * (M 222 60) ≤ (M 222 68)) ∧
  ((M 222 44) = 0 ∨ C 548 (M 222 44) = (M 222 52)) ∧ ((M 222 55) = 0 ∨ (C 558 (M 222 55) = (C 556 1) ∧ C 559 (M 222 55) = (M 222 60))) ∧ ((M 222 55) = 0 → (C 556 1) = 0) ∧ (0 < (M 222 55) → C 558 0 = 0)
/-- the X's lie one behind the other; so do the letters of equations -/
def f_or (M : ax_V) : Prop :=
  (∀ e e', 0 ≤ e → e < e' → e' < (M 222 44) → M 262 e < M 261 e') ∧ (∀ m m', 0 ≤ m → m < m' → m' < (M 222 60) → M 277 m < M 276 m') ∧ ∀ e m, 0 ≤ e → e < (M 222 44) → 0 ≤ m → m < (M 222 60) → M 262 e < M 276 m ∨ M 277 m < M 261 e
def f_lo (M : ax_V) : Prop :=
  (∀ i j, 0 ≤ i → i < j → j < (M 222 52) → M 266 i < M 266 j) ∧ (∀ i, 0 ≤ i → i < (M 222 52) → M 266 i < (M 222 68)) ∧ (∀ e q, 0 ≤ e → e < (M 222 44) → M 261 e ≤ q → q ≤ M 262 e → M 266 (M 259 e) ≤ M 242 q) ∧ (0 < (M 222 44) → M 259 0 = 0) ∧ ((M 222 44) = 0 → (M 222 52) = 0)
/-- each part has its X; those of a state lie side by side -/
def f_cv (C M : ax_V) : Prop :=
  (∀ q, 0 ≤ q → q < (M 222 26) → (∃ e, 0 ≤ e ∧ e < (M 222 44) ∧ M 261 e ≤ q ∧ q ≤ M 262 e) ∨ ∃ m, 0 ≤ m ∧ m < (M 222 60) ∧ M 276 m ≤ q ∧ q ≤ M 277 m) ∧
  (∀ q p w, 0 ≤ q → q ≤ p → p ≤ w → w < (M 222 26) → 0 ≤ C 525 q → C 525 w = C 525 q → C 525 p = C 525 q) ∧ f_or M ∧ f_lo M
def f_B (C M : ax_V) (u : Int) : Prop := f_ct C M ∧ (∀ e, 0 ≤ e → e < (M 222 44) → f_e C M e) ∧ (∀ a, 0 ≤ a → a < (M 222 55) → f_a C M a) ∧ (∀ a, 0 ≤ a → a < u → f_ac C M a) ∧ (∀ m, 0 ≤ m → m < (M 222 60) → f_t C M m) ∧ f_cv C M ∧ f_nd C M
/-- what was there is there still; the last automaton may have grown -/
def f_gr (C M C' M' : ax_V) : Prop :=
  ((∀ c q, 517 ≤ c → c ≤ 527 → 0 ≤ q → q < (M 222 26) → C' c q = C c q) ∧ (∀ c q, 241 ≤ c → c ≤ 256 → 0 ≤ q → q < (M 222 26) → M' c q = M c q)) ∧
  ((∀ c e, 549 ≤ c → c ≤ 553 → 0 ≤ e → e < (M 222 44) → C' c e = C c e) ∧ (∀ e, 0 ≤ e → e ≤ (M 222 44) → 0 < (M 222 44) → C' 548 e = C 548 e) ∧ (∀ h, 0 ≤ h → h < (M 222 52) → C' 554 h = C 554 h ∧ C' 555 h = C 555 h) ∧ (∀ c e, 258 ≤ c → c ≤ 264 → 0 ≤ e → e < (M 222 44) → M' c e = M c e) ∧ ∀ h, 0 ≤ h → h < (M 222 52) → M' 265 h = M 265 h ∧ M' 266 h = M 266 h) ∧
  ((∀ c a, (c = 557 ∨ c = 558 ∨ c = 559 ∨ c = 560 ∨ c = 561 ∨ c = 562) → 0 ≤ a → a < (M 222 55) → C' c a = C c a) ∧ (0 < (M 222 55) → C 558 (M 222 55) ≤ C' 558 (M 222 55) ∧ C 559 (M 222 55) ≤ C' 559 (M 222 55)) ∧ (∀ c s, 563 ≤ c → c ≤ 566 → 0 ≤ s → s < (C 556 1) → C' c s = C c s) ∧ (∀ c m, 567 ≤ c → c ≤ 573 → 0 ≤ m → m < (M 222 60) → C' c m = C c m) ∧ (∀ c a, (c = 267 ∨ c = 268) → 0 ≤ a → a < (M 222 55) → M' c a = M c a) ∧ (∀ a, 0 ≤ a → a + 1 < (M 222 55) → M' 269 a = M 269 a) ∧ ∀ c m, 271 ≤ c → c ≤ 278 → 0 ≤ m → m < (M 222 60) → M' c m = M c m) ∧
  ((M 222 26) ≤ (M' 222 26) ∧ (M 222 52) ≤ (M' 222 52) ∧ (M 222 10) ≤ (M' 222 10) ∧ (C 556 1) ≤ (C' 556 1) ∧ (C 556 2) ≤ (C' 556 2) ∧ (C 556 0) ≤ (C' 556 0))
section Grow
variable {C M C' M' : ax_V}
theorem f_gr.kid (g : f_gr C M C' M') (h : e_R C M) {q : Int} (q0 : 0 ≤ q) (q1 : q < (M 222 26)) (x : Int) : e_kid M' q x ↔ e_kid M q x := by
  have hp := h.2.2.2.2.2 q q0 q1
  refine e_kid_eq hp (fun c a b => g.1.2 c q a (by omega) q0 q1) (fun x hx => ?_) x
  exact g.1.2 252 x (by decide) (by decide) hx.1 (by have := (hp.2.2.2.2.2.2.2.2.2.2 x hx).1; omega)
theorem f_gr.x (g : f_gr C M C' M') (h : e_R C M) {f w n s tr m : Int} (k : f_x C M f w n s tr m) : f_x C' M' f w n s tr m := by
  obtain ⟨⟨k1, k2, k3⟩, ⟨k4, k5⟩, k6⟩ := k
  have gp := g.2.2.2.1
  refine ⟨⟨k1, k2, by omega⟩, ⟨by rw [g.1.1 526 w (by decide) (by decide) (by omega) k3]; exact k4, by rw [g.1.1 527 w (by decide) (by decide) (by omega) k3]; exact k5⟩, fun q a b => ?_⟩
  have q0 : 0 ≤ q := by omega
  have q1 : q < (M 222 26) := by omega
  obtain ⟨v1, v2, v3, v4, v5⟩ := k6 q a b
  rw [g.1.2 250 q (by decide) (by decide) q0 q1, g.1.1 525 q (by decide) (by decide) q0 q1, g.1.2 256 q (by decide) (by decide) q0 q1, g.1.2 241 q (by decide) (by decide) q0 q1]
  refine ⟨v1, v2, v3, fun x hx => v4 x ((g.kid h q0 q1 x).mp hx), fun z => ⟨by rw [g.1.1 527 q (by decide) (by decide) q0 q1]; exact (v5 z).1, ?_⟩⟩
  obtain ⟨p, p1, p2, p3⟩ := (v5 z).2
  exact ⟨p, p1, p2, (g.kid h (by omega) (by omega) q).mpr p3.1, fun v a' b' k' => p3.2 v a' b' ((g.kid h (by omega) (by omega) q).mp k')⟩
theorem f_gr.st (g : f_gr C M C' M') (hc : (C 556 0) = (M 222 55)) {s a t n : Int} (k : f_st C M s a t n) : f_st C' M' s a t n := by
  rcases k with k | ⟨k1, k2, k3, k4, k5, k6, k7⟩
  · exact Or.inl k
  · have e1 := g.2.2.1.1 558 a (by decide) k1 (by omega)
    refine Or.inr ⟨k1, by have := g.2.2.2.2.2.2.2.2; omega, k3, by rw [e1]; exact k4, ?_, by rw [e1]; exact k6, by rw [g.2.2.1.2.2.2.2.1 267 a (by decide) k1 (by omega)]; exact k7⟩
    by_cases w : a + 1 < (M 222 55)
    · rw [g.2.2.1.1 558 (a + 1) (by decide) (by omega) w]; exact k5
    · have e2 : a + 1 = (M 222 55) := by omega
      rw [e2] at k5 ⊢
      have := (g.2.2.1.2.1 (by omega)).1
      omega
theorem f_gr.e (g : f_gr C M C' M') (h : e_R C M) (hc : f_ct C M) {e : Int} (e0 : 0 ≤ e) (e1 : e < (M 222 44)) (k : f_e C M e) : f_e C' M' e := by
  obtain ⟨k1, k2, k3, k4, k5, k6, k7⟩ := k
  have m1 := fun c a b => g.2.1.2.2.2.1 c e a b e0 e1
  have c1 := fun c a b => g.2.1.1 c e a b e0 e1
  have gl := g.2.2.2.2.1
  have gn := g.2.2.2.2.2.1
  refine ⟨?_, ?_, ?_, ?_, ?_, ?_, ?_⟩
  · rw [m1 258 (by decide) (by decide)]; exact ⟨k1.1, by omega⟩
  · rw [g.2.1.2.1 e e0 (by omega) (by omega), g.2.1.2.1 (e + 1) (by omega) (by omega) (by omega), m1 259 (by decide) (by decide), m1 260 (by decide) (by decide)]; exact k2
  · rw [m1 259 (by decide) (by decide), m1 260 (by decide) (by decide)]; exact ⟨k3.1, k3.2.1, by omega⟩
  · rw [c1 549 (by decide) (by decide), c1 550 (by decide) (by decide), c1 552 (by decide) (by decide), c1 553 (by decide) (by decide), m1 261 (by decide) (by decide), m1 262 (by decide) (by decide)]; exact k4
  · rw [c1 551 (by decide) (by decide), m1 258 (by decide) (by decide), m1 263 (by decide) (by decide), m1 264 (by decide) (by decide)]; exact g.st hc.2.2.1.1 k5
  · rw [c1 551 (by decide) (by decide), m1 258 (by decide) (by decide), m1 260 (by decide) (by decide), m1 261 (by decide) (by decide), m1 262 (by decide) (by decide)]; exact g.x h k6
  · rw [m1 258 (by decide) (by decide), m1 259 (by decide) (by decide), m1 260 (by decide) (by decide)]
    intro i a b
    have w := k7 i a b
    obtain ⟨u1, u2⟩ := g.2.1.2.2.1 i (by omega) (by omega)
    obtain ⟨u3, u4⟩ := g.2.1.2.2.2.2 i (by omega) (by omega)
    unfold f_h
    rw [u1, u2, u3, u4]
    exact w
theorem f_gr.t (g : f_gr C M C' M') (h : e_R C M) (hc : f_ct C M) {m : Int} (m0 : 0 ≤ m) (m1 : m < (M 222 60)) (k : f_t C M m) : f_t C' M' m := by
  obtain ⟨⟨k0, k1⟩, k2, k3, k4, k5, k6, k7, k8⟩ := k
  have a1 := fun c a b => g.2.2.1.2.2.2.2.2.2 c m a b m0 m1
  have c1 := fun c a b => g.2.2.1.2.2.2.1 c m a b m0 m1
  have ha : M 271 m < (M 222 55) := by
    rcases k1 with ⟨_, z, _⟩ | ⟨_, z, _⟩
    · omega
    · have := hc.2.2.1.1; omega
  unfold f_t
  rw [a1 271 (by decide) (by decide), a1 272 (by decide) (by decide), a1 273 (by decide) (by decide), a1 274 (by decide) (by decide), a1 275 (by decide) (by decide), a1 276 (by decide) (by decide), a1 277 (by decide) (by decide), a1 278 (by decide) (by decide), c1 567 (by decide) (by decide), c1 568 (by decide) (by decide), c1 569 (by decide) (by decide), c1 570 (by decide) (by decide), c1 571 (by decide) (by decide), c1 572 (by decide) (by decide), c1 573 (by decide) (by decide), g.2.2.1.2.2.2.2.1 267 _ (by decide) k0 ha]
  refine ⟨⟨k0, g.st hc.2.2.1.1 k1⟩, ⟨?_, ?_⟩, k3, k4, k5, k6, k7, g.x h k8⟩
  · rw [g.2.2.1.1 559 _ (by decide) k0 ha]; exact k2.1
  · by_cases w : M 271 m + 1 < (M 222 55)
    · rw [g.2.2.1.1 559 _ (by decide) (by omega) w]; exact k2.2
    · have e2 : M 271 m + 1 = (M 222 55) := by omega
      rw [e2] at k2 ⊢
      have := (g.2.2.1.2.1 (by omega)).2
      omega
/-- an automaton that isn't the last, or that is as it was -/
theorem f_gr.a (g : f_gr C M C' M') (hc : f_ct C M) {a : Int} (a0 : 0 ≤ a) (a1 : a < (M 222 55)) (hl : a + 1 < (M 222 55) ∨ (C' 558 (M 222 55) = C 558 (M 222 55) ∧ C' 559 (M 222 55) = C 559 (M 222 55))) (k : f_a C M a) : f_a C' M' a := by
  obtain ⟨k1, k2, k3, k4, k5, k6⟩ := k
  have c1 := fun c z => g.2.2.1.1 c a z a0 a1
  have m1 := fun c z => g.2.2.1.2.2.2.2.1 c a z a0 a1
  have gs := g.2.2.2.2.2.2.1
  have gm := g.2.2.2.2.2.2.2.1
  have gn := g.2.2.2.2.2.1
  have e1 : C' 558 (a + 1) = C 558 (a + 1) := by
    rcases Int.lt_or_le (a + 1) (M 222 55) with w | w
    · exact g.2.2.1.1 558 (a + 1) (by decide) (by omega) w
    · rcases hl with hl | hl
      · omega
      · rw [show a + 1 = (M 222 55) by omega]; exact hl.1
  have e2 : C' 559 (a + 1) = C 559 (a + 1) := by
    rcases Int.lt_or_le (a + 1) (M 222 55) with w | w
    · exact g.2.2.1.1 559 (a + 1) (by decide) (by omega) w
    · rcases hl with hl | hl
      · omega
      · rw [show a + 1 = (M 222 55) by omega]; exact hl.2
  unfold f_a
  rw [c1 557 (by decide), c1 558 (by decide), c1 559 (by decide), c1 560 (by decide), c1 561 (by decide), c1 562 (by decide), m1 267 (by decide), m1 268 (by decide), e1, e2]
  refine ⟨⟨k1.1, by omega⟩, k2, ⟨k3.1, k3.2.1, by omega⟩, ⟨k4.1, k4.2.1, by omega⟩, k5, fun s z w => ?_⟩
  have s1 := fun c u v => g.2.2.1.2.2.1 c s u v (by omega) (by omega)
  rw [s1 563 (by decide) (by decide), s1 564 (by decide) (by decide), s1 565 (by decide) (by decide), s1 566 (by decide) (by decide)]
  exact k6 s z w
theorem f_gr.ac (g : f_gr C M C' M') {a : Int} (a0 : 0 ≤ a) (a1 : a < (M 222 55)) (hl : a + 1 < (M 222 55) ∨ (C' 558 (M 222 55) = C 558 (M 222 55) ∧ M' 269 a = M 269 a)) (k : f_ac C M a) : f_ac C' M' a := by
  have e1 : C' 558 (a + 1) = C 558 (a + 1) := by
    rcases Int.lt_or_le (a + 1) (M 222 55) with w | w
    · exact g.2.2.1.1 558 (a + 1) (by decide) (by omega) w
    · rcases hl with hl | hl
      · omega
      · rw [show a + 1 = (M 222 55) by omega]; exact hl.1
  have e2 : M' 269 a = M 269 a := by
    rcases hl with hl | hl
    · exact g.2.2.1.2.2.2.2.2.1 a a0 hl
    · exact hl.2
  unfold f_ac
  rw [e1, e2, g.2.2.1.1 558 a (by decide) a0 a1]
  exact k
end Grow
