/-! A NODE'S HEAD IS READ -/
def f_no1 (M : ax_V) (k : Int) : Prop := (M 222 73) = -1 → ∀ n, 0 ≤ n → n < k → 1 ≤ M 228 n
/-- between two nodes -/
def f_N (C0 M0 C M : ax_V) (n : Int) : Prop :=
  (ax_g C ∧ ax_g M) ∧ e_T C M ∧ ((C 600 6) = (M 222 68) ∧ 0 ≤ (M 222 68) ∧ (M 222 68) ≤ (M 222 3)) ∧ (n = (M 222 10) ∧ 0 ≤ n ∧ n ≤ 8) ∧ (((C 600 11) = 0 ∧ (M 222 69) = 0) ∧ ((C 600 10) = 0 ∧ (M 222 71) = 0) ∧ ((C 600 12) = 0 ∧ (M 222 72) = 0) ∧ ((C 600 9) = -1 ∧ (M 222 70) = 0) ∧ (C 600 13) = 0) ∧ e_P C M ∧ (f_fC C0 C ∧ f_fM M0 M) ∧ f_LL C M n ∧ f_B C M (M 222 55) ∧ (C 508 n = (M 222 26) ∧ C 509 n = (M 222 44) ∧ C 510 n = (M 222 55)) ∧ f_no1 M n ∧ (M 222 26) + (M 222 44) + 4 * (M 222 55) ≤ (M 222 68) ∧ (C 500 0) = n
/-- the model's letters of a node, not told yet -/
def m_cl (M : ax_V) (n j : Int) : ax_V := fun c i => if (232 ≤ c ∧ c ≤ 239) ∧ (26 * n ≤ i ∧ i < 26 * n + j) then (if c = 234 ∨ c = 238 ∨ c = 239 then -1 else 0) else M c i
theorem m_cl_ne {M : ax_V} {n j : Int} {c : Nat} (h : c < 232 ∨ 239 < c) : m_cl M n j c = M c := by
  funext i
  unfold m_cl
  rw [if_neg (fun q => by omega)]
theorem m_cl_o {M : ax_V} {n j i : Int} {c : Nat} (h : i < 26 * n ∨ 26 * n + j ≤ i) : m_cl M n j c i = M c i := by
  unfold m_cl
  rw [if_neg (fun q => by omega)]
theorem m_cl_at {M : ax_V} {n j i : Int} {c : Nat} (hc : 232 ≤ c ∧ c ≤ 239) (h : 26 * n ≤ i ∧ i < 26 * n + j) : m_cl M n j c i = if c = 234 ∨ c = 238 ∨ c = 239 then -1 else 0 := by
  unfold m_cl
  rw [if_pos ⟨hc, h⟩]
theorem m_cl_g {M : ax_V} {n j : Int} (hg : ax_g M) : ax_g (m_cl M n j) := by
  intro c i
  unfold m_cl
  split
  · split <;> decide
  · exact hg _ _
theorem m_cl_0 (M : ax_V) (n : Int) : m_cl M n 0 = M := by
  funext c i
  exact m_cl_o (by omega)
theorem m_cl_s {M : ax_V} {n j s : Int} (hj : 0 ≤ j) (es : s = 26 * n + j) : ax_u (ax_u (ax_u (ax_u (ax_u (ax_u (ax_u (ax_u (m_cl M n j) 232 s 0) 233 s 0) 234 s (-1)) 235 s 0) 236 s 0) 237 s 0) 238 s (-1)) 239 s (-1) = m_cl M n (j + 1) := by
  funext c i
  by_cases hi : i = s
  · by_cases hc : 232 ≤ c ∧ c ≤ 239
    · rw [m_cl_at hc ⟨by omega, by omega⟩, hi]
      obtain ⟨h1, h2⟩ := hc
      have : c = 232 ∨ c = 233 ∨ c = 234 ∨ c = 235 ∨ c = 236 ∨ c = 237 ∨ c = 238 ∨ c = 239 := by omega
      rcases this with e | e | e | e | e | e | e | e <;> subst e <;> simp [ax_u]
    · rw [m_cl_ne (by omega), ax_u_ne (by omega), ax_u_ne (by omega), ax_u_ne (by omega), ax_u_ne (by omega), ax_u_ne (by omega), ax_u_ne (by omega), ax_u_ne (by omega), ax_u_ne (by omega), m_cl_ne (by omega)]
  · rw [ax_u_o (fun q => hi q.2), ax_u_o (fun q => hi q.2), ax_u_o (fun q => hi q.2), ax_u_o (fun q => hi q.2), ax_u_o (fun q => hi q.2), ax_u_o (fun q => hi q.2), ax_u_o (fun q => hi q.2), ax_u_o (fun q => hi q.2)]
    unfold m_cl
    by_cases q : (232 ≤ c ∧ c ≤ 239) ∧ 26 * n ≤ i ∧ i < 26 * n + j
    · rw [if_pos q, if_pos (show (232 ≤ c ∧ c ≤ 239) ∧ 26 * n ≤ i ∧ i < 26 * n + (j + 1) from ⟨q.1, q.2.1, by omega⟩)]
    · rw [if_neg q, if_neg (fun w => q ⟨w.1, w.2.1, by omega⟩)]
theorem s_at {d : Nat} {M : ax_V} {x : Int} {Φ : Int → ax_V → Prop} {Θ : ax_V → Prop} (hg : ax_g M) (hx : 0 ≤ x ∧ x < 26) (hn : 0 ≤ (M 222 10) ∧ (M 222 10) < 9) (h : Φ (26 * (M 222 10) + x) M) : ax_I ay_lay (d + 1) q_Model_at [.ref 222, ax_i x] M Φ Θ :=
  r_Model_at hg ⟨by omega, by omega⟩ ⟨⟨by omega, by omega⟩, h⟩
theorem s_clear {d : Nat} {M : ax_V} {n : Int} {Φ : Int → ax_V → Prop} {Θ : ax_V → Prop} (hg : ax_g M) (en : n = (M 222 10)) (hn : 0 ≤ n ∧ n < 8) (h : k_Model_readNode_86 (d + 1) 26 (some (ax_i (26 * n + 25))) (m_cl M n 26) Φ Θ) : ∀ (m : Nat) (j : Int) (y : Option Value), 0 ≤ j → j ≤ 26 → 26 - j ≤ (m : Int) → ax_y y → (j = 26 → y = some (ax_i (26 * n + 25))) → k_Model_readNode_86 (d + 1) j y (m_cl M n j) Φ Θ := by
  intro m
  induction m with
  | zero =>
    intro j y j0 j1 hm hy he
    have e : j = 26 := by omega
    rw [he e, e]; exact h
  | succ m ih =>
    intro j y j0 j1 hm hy he
    by_cases w : j = 26
    · rw [he w, w]; exact h
    · have hgj : ax_g (m_cl M n j) := m_cl_g hg
      have hnj : (m_cl M n j) 222 10 = n := by rw [m_cl_ne (by decide), en]
      refine r_Model_readNode_86 hgj ⟨by omega, by omega⟩ hy ⟨fun q => by omega, fun _ => s_at hgj ⟨j0, by omega⟩ (by rw [hnj]; exact ⟨by omega, by omega⟩) ?_⟩
      rw [hnj]
      have b : 0 ≤ 26 * n + j ∧ 26 * n + j < 240 := ⟨by omega, by omega⟩
      refine ⟨b, fun V1 e1 => ⟨b, fun V2 e2 => ⟨b, fun V3 e3 => ⟨b, fun V4 e4 => ⟨b, fun V5 e5 => ⟨b, fun V6 e6 => ⟨b, fun V7 e7 => ⟨b, fun V8 e8 => ?_⟩⟩⟩⟩⟩⟩⟩⟩
      have e9 : V8 = m_cl M n (j + 1) := by rw [e8, e7, e6, e5, e4, e3, e2, e1]; exact m_cl_s j0 rfl
      rw [e9]
      exact ih (j + 1) _ (by omega) (by omega) (by omega) (ax_y_i _) (fun z => by rw [show (26 : Int) * n + j = 26 * n + 25 by omega])
section Head
variable {B r : Nat} {C0 M0 C M : ax_V} {n : Int}
/-- the letters of a new node -/
theorem f_LL.new {C' M' : ax_V} (h : f_LL C M n) (hn : 0 ≤ n ∧ n < 8) (hC : ∀ c, ((503 ≤ c ∧ c ≤ 507) ∨ (533 ≤ c ∧ c ≤ 546)) → C' c = C c) (ht : (C' 600 7) = (C 600 7)) (h30 : ∀ c, (c = 230 ∨ c = 231 ∨ c = 279 ∨ c = 280 ∨ c = 281) → M' c = M c) (h27 : ∀ c i, 227 ≤ c → c ≤ 229 → i ≠ n → M' c i = M c i) (h27n : M' 227 n = 0 ∧ M' 228 n = 0 ∧ M' 229 n = 0) (hlo : ∀ c i, 232 ≤ c → c ≤ 239 → (i < 26 * n ∨ 26 * n + 26 ≤ i) → M' c i = M c i) (hat : ∀ c i, 232 ≤ c → c ≤ 239 → 26 * n ≤ i → i < 26 * n + 26 → M' c i = if c = 234 ∨ c = 238 ∨ c = 239 then -1 else 0) (hno : (M' 222 73) = (M 222 73)) (hck : (M' 222 77) = (M 222 77)) (ha : (M 222 68) ≤ (M' 222 68)) : f_LL C' M' (n + 1) := by
  obtain ⟨⟨l1, l2, l3⟩, ⟨g1, g2⟩, ⟨c1, c2, c3⟩, hT⟩ := h
  have cl : ∀ c, 533 ≤ c → c ≤ 546 → C' c = C c := fun c a b => hC c (Or.inr ⟨a, b⟩)
  have cf : ∀ c, 503 ≤ c → c ≤ 507 → C' c = C c := fun c a b => hC c (Or.inl ⟨a, b⟩)
  refine ⟨⟨fun n' l a b c d => ?_, fun s a b => (l2 s (by omega) b).at (fun c x y => by rw [cl c x (by omega)]), fun s a b => (l3 s a b).at (fun c x y => by rw [cl c (by omega) y])⟩, ⟨fun n' a b => ?_, fun n' a b => ?_⟩, ⟨⟨?_, ?_⟩, fun n' l a b c d w => ?_, fun j a b => ?_⟩, ?_⟩
  · by_cases w : n' = n
    · rw [w]
      obtain ⟨u1, u2, u3, u4⟩ := l2 (26 * n + l) (by omega) (by omega)
      have v : ∀ c, 232 ≤ c → c ≤ 239 → M' c (26 * n + l) = if c = 234 ∨ c = 238 ∨ c = 239 then -1 else 0 := fun c x y => hat c _ x y (by omega) (by omega)
      have v2 : M' 232 (26 * n + l) = 0 := v 232 (by decide) (by decide)
      have v5 : M' 235 (26 * n + l) = 0 := v 235 (by decide) (by decide)
      have v6 : M' 236 (26 * n + l) = 0 := v 236 (by decide) (by decide)
      have v8 : M' 238 (26 * n + l) = -1 := v 238 (by decide) (by decide)
      have v9 : M' 239 (26 * n + l) = -1 := v 239 (by decide) (by decide)
      unfold f_l
      rw [cl 533 (by decide) (by decide), cl 534 (by decide) (by decide), cl 535 (by decide) (by decide), cl 536 (by decide) (by decide), cl 538 (by decide) (by decide), cl 539 (by decide) (by decide), v2, v5, v6, v8, v9]
      exact ⟨⟨u2, by decide, by decide⟩, fun _ => ⟨u1, rfl, rfl⟩, fun q => absurd rfl q, Or.inl ⟨rfl, u3⟩, ⟨u4, Or.inl rfl⟩, rfl, rfl⟩
    · exact (l1 n' l a (by omega) c d).at (fun c x y => by rw [cl c x (by omega)]) (fun c x y => hlo c _ x y (by omega))
  · by_cases w : n' = n
    · rw [w]
      obtain ⟨u1, u2, u3⟩ := g2 n (Int.le_refl _) hn.2
      have k0 : ∀ l, 0 ≤ l → l < 26 → M' 232 (26 * n + l) = 0 := fun l x y => hat 232 _ (by decide) (by decide) (by omega) (by omega)
      have cn : ∀ k : Nat, k ≤ 26 → f_cn M' n k = 0 := by
        intro k
        induction k with
        | zero => intro _; rfl
        | succ k ih =>
          intro z
          show f_cn M' n k + (if M' 232 (26 * n + (k : Int)) = 0 then 0 else 1) = 0
          rw [ih (by omega), k0 (k : Int) (by omega) (by omega), if_pos rfl]; rfl
      unfold f_f
      rw [cf 503 (by decide) (by decide), cf 504 (by decide) (by decide), cf 505 (by decide) (by decide), h27n.1, h27n.2.1, h27n.2.2, cn 26 (by decide)]
      exact ⟨⟨u1, by decide⟩, ⟨u2, by decide⟩, ⟨u3, by decide⟩, rfl, fun i x y => by omega, fun i x y => by omega, fun l x y z => by rw [k0 l x y] at z; exact absurd z (by decide), fun i j x y z => by omega⟩
    · refine (g1 n' a (by omega)).at (fun c x y => by rw [cf c x (by omega)]) (fun c i x y _ _ => by rw [cf c (by omega) y]) (fun c x y => h27 c _ x y w) (fun c i x y p q => ?_)
      by_cases z : c = 232
      · rw [z]; exact hlo 232 _ (by decide) (by decide) (by omega)
      · rw [h30 c (by omega)]
  · rw [cf 503 (by decide) (by decide), cf 504 (by decide) (by decide), cf 505 (by decide) (by decide)]; exact g2 n' (by omega) b
  · rw [hck]; exact c1.1
  · rw [hck]; omega
  · by_cases z : n' = n
    · rw [z] at w; exact absurd (hat 235 _ (by decide) (by decide) (by omega) (by omega)) w
    · have e5 : M' 235 (26 * n' + l) = M 235 (26 * n' + l) := hlo 235 _ (by decide) (by decide) (by omega)
      rw [e5] at w
      obtain ⟨j, j0, j1, j2⟩ := c2 n' l a (by omega) c d w
      refine ⟨j, j0, by rw [hck]; exact j1, ?_⟩
      unfold f_ce at j2 ⊢
      rw [e5, cl 537 (by decide) (by decide), h30 279 (by decide), h30 280 (by decide), h30 281 (by decide)]; exact j2
  · rw [hck] at b
    obtain ⟨u1, u2, u3, u4⟩ := c3 j a b
    unfold f_ce at u4 ⊢
    rw [cl 537 (by decide) (by decide), h30 279 (by decide), h30 280 (by decide), h30 281 (by decide), hno]
    refine ⟨⟨u1.1, by omega⟩, u2, u3, ?_⟩
    rcases u4 with ⟨l, x, y, z, w⟩ | u4
    · have e5 : M' 235 (26 * M 281 j + l) = M 235 (26 * M 281 j + l) := hlo 235 _ (by decide) (by decide) (by omega)
      exact Or.inl ⟨l, x, y, by rw [e5]; exact z, by rw [e5]; exact w⟩
    · exact Or.inr u4
  · unfold f_Tw
    rw [ht, hno]; exact hT
end Head
