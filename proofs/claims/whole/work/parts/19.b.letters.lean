/-! THE LETTERS that are told, on both sides -/
/-- one letter: its slot s, in the node n -/
def f_l (C M : ax_V) (n s : Int) : Prop :=
  (C 534 s = M 232 s ∧ 0 ≤ M 232 s ∧ M 232 s ≤ 3) ∧
  (M 232 s = 0 → C 533 s = -1 ∧ M 235 s = 0 ∧ M 236 s = 0) ∧
  (¬ M 232 s = 0 → C 533 s = M 234 s ∧ e_pl (M 234 s) ∧ C 535 s = M 233 s ∧ (M 233 s = 0 ∨ M 233 s = 1)) ∧
  ((M 235 s = 0 ∧ C 536 s = -1) ∨ (M 232 s = 3 ∧ 1 ≤ M 235 s ∧ M 235 s ≤ 52 ∧ C 536 s = 52 * n + M 235 s - 1)) ∧
  (C 538 s = M 236 s ∧ (M 236 s = 0 ∨ (M 236 s = 1 ∧ ¬ M 232 s = 1 ∧ C 539 s = M 237 s ∧ (0 ≤ M 237 s ∧ M 237 s < 1000000000) ∧ (M 233 s = 1 → M 237 s = 0 ∨ M 237 s = 1)))) ∧
  M 238 s = -1 ∧ M 239 s = -1
/-- not told yet -/
def f_c (C : ax_V) (s : Int) : Prop := C 533 s = -1 ∧ C 534 s = 0 ∧ C 536 s = -1 ∧ C 538 s = 0
/-- what judging will fill -/
def f_z (C : ax_V) (s : Int) : Prop := C 540 s = -1 ∧ C 541 s = -2 ∧ C 542 s = -1 ∧ C 543 s = -1 ∧ C 544 s = 0 ∧ C 545 s = 0 ∧ C 546 s = 0
def f_Ls (C M : ax_V) (k : Int) : Prop := (∀ n l, 0 ≤ n → n < k → 0 ≤ l → l < 26 → f_l C M n (26 * n + l)) ∧ (∀ s, 26 * k ≤ s → s < 208 → f_c C s) ∧ ∀ s, 0 ≤ s → s < 208 → f_z C s
theorem f_l.at {C M C' M' : ax_V} {n s : Int} (h : f_l C M n s) (hC : ∀ c, 533 ≤ c → c ≤ 539 → C' c s = C c s) (hM : ∀ c, 232 ≤ c → c ≤ 239 → M' c s = M c s) : f_l C' M' n s := by
  unfold f_l
  rw [hC 533 (by decide) (by decide), hC 534 (by decide) (by decide), hC 535 (by decide) (by decide), hC 536 (by decide) (by decide), hC 538 (by decide) (by decide), hC 539 (by decide) (by decide), hM 232 (by decide) (by decide), hM 233 (by decide) (by decide), hM 234 (by decide) (by decide), hM 235 (by decide) (by decide), hM 236 (by decide) (by decide), hM 237 (by decide) (by decide), hM 238 (by decide) (by decide), hM 239 (by decide) (by decide)]
  exact h
theorem f_c.at {C C' : ax_V} {s : Int} (h : f_c C s) (hC : ∀ c, 533 ≤ c → c ≤ 539 → C' c s = C c s) : f_c C' s := by
  unfold f_c
  rw [hC 533 (by decide) (by decide), hC 534 (by decide) (by decide), hC 536 (by decide) (by decide), hC 538 (by decide) (by decide)]
  exact h
theorem f_z.at {C C' : ax_V} {s : Int} (h : f_z C s) (hC : ∀ c, 540 ≤ c → c ≤ 546 → C' c s = C c s) : f_z C' s := by
  unfold f_z
  rw [hC 540 (by decide) (by decide), hC 541 (by decide) (by decide), hC 542 (by decide) (by decide), hC 543 (by decide) (by decide), hC 544 (by decide) (by decide), hC 545 (by decide) (by decide), hC 546 (by decide) (by decide)]
  exact h
theorem f_Ls.keep {C M C' M' : ax_V} {k : Int} (h : f_Ls C M k) (hC : ∀ c, 533 ≤ c → c ≤ 546 → C' c = C c) (hM : ∀ c, 232 ≤ c → c ≤ 239 → M' c = M c) : f_Ls C' M' k :=
  ⟨fun n l a b c d => (h.1 n l a b c d).at (fun c x y => by rw [hC c x (by omega)]) (fun c x y => by rw [hM c x y]), fun s a b => (h.2.1 s a b).at (fun c x y => by rw [hC c x (by omega)]), fun s a b => (h.2.2 s a b).at (fun c x y => by rw [hC c (by omega) y])⟩
/-- one letter's rows have changed -/
theorem f_Ls.upd {C M C' M' : ax_V} {k n0 l0 : Int} (h : f_Ls C M k) (hn : 0 ≤ n0 ∧ n0 < k) (hl0 : 0 ≤ l0 ∧ l0 < 26) (hC : ∀ c s, 533 ≤ c → c ≤ 539 → s ≠ 26 * n0 + l0 → C' c s = C c s) (hC2 : ∀ c, 540 ≤ c → c ≤ 546 → C' c = C c) (hM : ∀ c s, 232 ≤ c → c ≤ 239 → s ≠ 26 * n0 + l0 → M' c s = M c s) (hl : f_l C' M' n0 (26 * n0 + l0)) : f_Ls C' M' k := by
  refine ⟨fun n l a b c d => ?_, fun s a b => (h.2.1 s a b).at (fun c x y => hC c s x y (by omega)), fun s a b => (h.2.2 s a b).at (fun c x y => by rw [hC2 c x y])⟩
  by_cases w : 26 * n + l = 26 * n0 + l0
  · have e : n = n0 := by omega
    rw [w, e]; exact hl
  · exact (h.1 n l a b c d).at (fun c x y => hC c _ x y w) (fun c x y => hM c _ x y w)
/-- how many letters of a node are told -/
def f_cn (M : ax_V) (n : Int) : Nat → Int
  | 0 => 0
  | k + 1 => f_cn M n k + if M 232 (26 * n + (k : Int)) = 0 then 0 else 1
theorem f_cn_le (M : ax_V) (n : Int) : ∀ k : Nat, 0 ≤ f_cn M n k ∧ f_cn M n k ≤ (k : Int) := by
  intro k
  induction k with
  | zero => exact ⟨Int.le_refl _, Int.le_refl _⟩
  | succ k ih =>
    show 0 ≤ f_cn M n k + (if M 232 (26 * n + (k : Int)) = 0 then 0 else 1) ∧ f_cn M n k + (if M 232 (26 * n + (k : Int)) = 0 then 0 else 1) ≤ ((k + 1 : Nat) : Int)
    split <;> omega
theorem f_cn_lt {M : ax_V} {n l : Int} (h : M 232 (26 * n + l) = 0) (h0 : 0 ≤ l) : ∀ k : Nat, l < (k : Int) → f_cn M n k < (k : Int) := by
  intro k
  induction k with
  | zero => intro z; omega
  | succ k ih =>
    intro z
    show f_cn M n k + (if M 232 (26 * n + (k : Int)) = 0 then 0 else 1) < ((k + 1 : Nat) : Int)
    by_cases w : l = (k : Int)
    · rw [← w, if_pos h]
      have := (f_cn_le M n k).2
      omega
    · have := ih (by omega)
      split <;> omega
theorem f_cn_eq {M M' : ax_V} {n : Int} : ∀ k : Nat, (∀ l, 0 ≤ l → l < (k : Int) → M' 232 (26 * n + l) = M 232 (26 * n + l)) → f_cn M' n k = f_cn M n k := by
  intro k
  induction k with
  | zero => intro _; rfl
  | succ k ih =>
    intro h
    show f_cn M' n k + (if M' 232 (26 * n + (k : Int)) = 0 then 0 else 1) = f_cn M n k + (if M 232 (26 * n + (k : Int)) = 0 then 0 else 1)
    rw [ih (fun l a b => h l a (by omega)), h (k : Int) (by omega) (by omega)]
theorem f_cn_up {M M' : ax_V} {n l : Int} (h0 : M 232 (26 * n + l) = 0) (h1 : ¬ M' 232 (26 * n + l) = 0) (hl : 0 ≤ l) (hk : ∀ j, j ≠ l → M' 232 (26 * n + j) = M 232 (26 * n + j)) : ∀ k : Nat, f_cn M' n k = f_cn M n k + if l < (k : Int) then 1 else 0 := by
  intro k
  induction k with
  | zero => rw [if_neg (by omega)]; rfl
  | succ k ih =>
    show f_cn M' n k + (if M' 232 (26 * n + (k : Int)) = 0 then 0 else 1) = f_cn M n k + (if M 232 (26 * n + (k : Int)) = 0 then 0 else 1) + _
    by_cases w : l = (k : Int)
    · rw [ih, ← w, if_neg h1, if_pos h0, if_neg (by omega), if_pos (by omega)]
    · rw [ih, hk (k : Int) (by omega)]
      by_cases z : l < (k : Int)
      · rw [if_pos z, if_pos (show l < ((k + 1 : Nat) : Int) by omega)]; exact Int.add_right_comm _ _ _
      · rw [if_neg z, if_neg (show ¬ l < ((k + 1 : Nat) : Int) by omega), Int.add_zero, Int.add_zero]
/-- the flows of a node, as they are told -/
def f_f (C M : ax_V) (n : Int) : Prop :=
  (C 503 n = M 227 n ∧ 0 ≤ M 227 n) ∧ (C 504 n = M 228 n ∧ 0 ≤ M 228 n) ∧ (C 505 n = M 229 n ∧ 0 ≤ M 229 n) ∧
  M 227 n + M 228 n + M 229 n = f_cn M n 26 ∧
  (∀ i, 0 ≤ i → i < M 227 n → C 506 (26 * n + i) = 26 * n + M 230 (26 * n + i) ∧ (0 ≤ M 230 (26 * n + i) ∧ M 230 (26 * n + i) < 26) ∧ M 232 (26 * n + M 230 (26 * n + i)) = 1) ∧
  (∀ i, 0 ≤ i → i < M 228 n → C 507 (26 * n + i) = 26 * n + M 231 (26 * n + i) ∧ (0 ≤ M 231 (26 * n + i) ∧ M 231 (26 * n + i) < 26) ∧ M 232 (26 * n + M 231 (26 * n + i)) = 2) ∧
  (∀ l, 0 ≤ l → l < 26 → M 232 (26 * n + l) = 1 → ∃ i, 0 ≤ i ∧ i < M 227 n ∧ M 230 (26 * n + i) = l) ∧
  ∀ i j, 0 ≤ i → i < j → j < M 227 n → ¬ M 230 (26 * n + i) = M 230 (26 * n + j)
def f_Fs (C M : ax_V) (k : Int) : Prop := (∀ n, 0 ≤ n → n < k → f_f C M n) ∧ ∀ n, k ≤ n → n < 8 → C 503 n = 0 ∧ C 504 n = 0 ∧ C 505 n = 0
theorem f_f.at {C M C' M' : ax_V} {n : Int} (h : f_f C M n) (hC : ∀ c, 503 ≤ c → c ≤ 505 → C' c n = C c n) (hC2 : ∀ c i, 506 ≤ c → c ≤ 507 → 0 ≤ i → i < 26 → C' c (26 * n + i) = C c (26 * n + i)) (hM : ∀ c, 227 ≤ c → c ≤ 229 → M' c n = M c n) (hM2 : ∀ c i, 230 ≤ c → c ≤ 232 → 0 ≤ i → i < 26 → M' c (26 * n + i) = M c (26 * n + i)) : f_f C' M' n := by
  obtain ⟨h1, h2, h3, h4, h5, h6, h7, h8⟩ := h
  have b := (f_cn_le M n 26).2
  have e : f_cn M' n 26 = f_cn M n 26 := f_cn_eq 26 (fun l x y => hM2 232 l (by decide) (by decide) x y)
  have i1 := hM 227 (by decide) (by decide)
  have i2 := hM 228 (by decide) (by decide)
  have i3 := hM 229 (by decide) (by decide)
  refine ⟨by rw [hC 503 (by decide) (by decide), i1]; exact h1, by rw [hC 504 (by decide) (by decide), i2]; exact h2, by rw [hC 505 (by decide) (by decide), i3]; exact h3, by rw [i1, i2, i3, e]; exact h4, fun i x y => ?_, fun i x y => ?_, fun l x y z => ?_, fun i j x y z => ?_⟩
  · rw [i1] at y
    have g := h5 i x y
    have b2 : i < 26 := by omega
    rw [hC2 506 i (by decide) (by decide) x b2, hM2 230 i (by decide) (by decide) x b2, hM2 232 _ (by decide) (by decide) g.2.1.1 g.2.1.2]
    exact g
  · rw [i2] at y
    have g := h6 i x y
    have b2 : i < 26 := by omega
    rw [hC2 507 i (by decide) (by decide) x b2, hM2 231 i (by decide) (by decide) x b2, hM2 232 _ (by decide) (by decide) g.2.1.1 g.2.1.2]
    exact g
  · rw [hM2 232 l (by decide) (by decide) x y] at z
    obtain ⟨i, u1, u2, u3⟩ := h7 l x y z
    exact ⟨i, u1, by rw [i1]; exact u2, by rw [hM2 230 i (by decide) (by decide) u1 (by omega)]; exact u3⟩
  · rw [i1] at z
    rw [hM2 230 i (by decide) (by decide) x (by omega), hM2 230 j (by decide) (by decide) (by omega) (by omega)]
    exact h8 i j x y z
theorem f_Fs.keep {C M C' M' : ax_V} {k : Int} (h : f_Fs C M k) (hC : ∀ c, 503 ≤ c → c ≤ 507 → C' c = C c) (hM : ∀ c, 227 ≤ c → c ≤ 232 → M' c = M c) : f_Fs C' M' k :=
  ⟨fun n a b => (h.1 n a b).at (fun c x y => by rw [hC c x (by omega)]) (fun c i x y _ _ => by rw [hC c (by omega) y]) (fun c x y => by rw [hM c x (by omega)]) (fun c i x y _ _ => by rw [hM c (by omega) y]), fun n a b => by rw [hC 503 (by decide) (by decide), hC 504 (by decide) (by decide), hC 505 (by decide) (by decide)]; exact h.2 n a b⟩
/-- clocks that are told, in a row -/
def f_ce (C M : ax_V) (n s j : Int) : Prop := (M 235 s = 2 * M 279 j + 1 ∨ M 235 s = 2 * M 279 j + 2) ∧ M 281 j = n ∧ M 280 j = C 537 s
def f_Ck (C M : ax_V) (k : Int) : Prop :=
  (0 ≤ (M 222 77) ∧ 4 * (M 222 77) ≤ (M 222 68)) ∧
  (∀ n l, 0 ≤ n → n < k → 0 ≤ l → l < 26 → ¬ M 235 (26 * n + l) = 0 → ∃ j, 0 ≤ j ∧ j < (M 222 77) ∧ f_ce C M n (26 * n + l) j) ∧
  ∀ j, 0 ≤ j → j < (M 222 77) → (0 ≤ M 281 j ∧ M 281 j < k) ∧ (0 ≤ M 279 j ∧ M 279 j < 26) ∧ e_pl (M 280 j) ∧ ((∃ l, 0 ≤ l ∧ l < 26 ∧ ¬ M 235 (26 * M 281 j + l) = 0 ∧ f_ce C M (M 281 j) (26 * M 281 j + l) j) ∨ (¬ (M 222 73) = -1 ∧ (M 222 73) ≤ M 280 j))
theorem f_Ck.keep {C M C' M' : ax_V} {k : Int} (h : f_Ck C M k) (hC : C' 537 = C 537) (hM : ∀ c, (c = 235 ∨ c = 279 ∨ c = 280 ∨ c = 281) → M' c = M c) (hn : (M' 222 73) = (M 222 73)) (hc : (M' 222 77) = (M 222 77)) (ha : (M 222 68) ≤ (M' 222 68)) : f_Ck C' M' k := by
  obtain ⟨h1, h2, h3⟩ := h
  unfold f_Ck f_ce
  rw [hC, hM 235 (by decide), hM 279 (by decide), hM 280 (by decide), hM 281 (by decide), hn, hc]
  exact ⟨⟨h1.1, by omega⟩, h2, h3⟩
/-- letters told twice: the least place -/
def f_Tw (C M : ax_V) : Prop := ((M 222 73) = -1 ∧ (C 600 7) = 700) ∨ ((C 600 7) = (M 222 73) ∧ e_pl (M 222 73))
def f_LL (C M : ax_V) (k : Int) : Prop := f_Ls C M k ∧ f_Fs C M k ∧ f_Ck C M k ∧ f_Tw C M
theorem f_LL.keep {C M C' M' : ax_V} {k : Int} (h : f_LL C M k) (hC : ∀ c, (503 ≤ c ∧ c ≤ 507) ∨ (533 ≤ c ∧ c ≤ 546) → C' c = C c) (hM : ∀ c, (227 ≤ c ∧ c ≤ 239) ∨ (279 ≤ c ∧ c ≤ 281) → M' c = M c) (ht : (C' 600 7) = (C 600 7)) (hn : (M' 222 73) = (M 222 73)) (hc : (M' 222 77) = (M 222 77)) (ha : (M 222 68) ≤ (M' 222 68)) : f_LL C' M' k :=
  ⟨h.1.keep (fun c x y => hC c (Or.inr ⟨x, y⟩)) (fun c x y => hM c (by omega)), h.2.1.keep (fun c x y => hC c (Or.inl ⟨x, y⟩)) (fun c x y => hM c (by omega)), h.2.2.1.keep (hC 537 (by decide)) (fun c x => hM c (by omega)) hn hc ha, by unfold f_Tw; rw [ht, hn]; exact h.2.2.2⟩
