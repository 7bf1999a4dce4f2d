/-! STEPS -/
/-- so many in so many places -/
theorem g_pgn : ∀ (N m : Nat) (f : Nat → Nat), (∀ k, k < m → f k < N) → (∀ j k, j < k → k < m → f j ≠ f k) → m ≤ N := by
  intro N
  induction N with
  | zero =>
    intro m f h _
    rcases Nat.eq_zero_or_pos m with z | z
    · omega
    · have := h 0 z; omega
  | succ N ih =>
    intro m f h d
    by_cases e : ∃ k, k < m ∧ f k = N
    · obtain ⟨k0, k1, k2⟩ := e
      have : m - 1 ≤ N := by
        refine ih (m - 1) (fun j => if j < k0 then f j else f (j + 1)) (fun j hj => ?_) (fun j k hjk hk => ?_)
        · show (if j < k0 then f j else f (j + 1)) < N
          by_cases a : j < k0
          · rw [if_pos a]
            have := h j (by omega)
            have := d j k0 a k1
            omega
          · rw [if_neg a]
            have := h (j + 1) (by omega)
            have := d k0 (j + 1) (by omega) (by omega)
            omega
        · show (if j < k0 then f j else f (j + 1)) ≠ (if k < k0 then f k else f (k + 1))
          by_cases a : j < k0
          · rw [if_pos a]
            by_cases b : k < k0
            · rw [if_pos b]; exact d j k hjk (by omega)
            · rw [if_neg b]; exact d j (k + 1) (by omega) (by omega)
          · rw [if_neg a, if_neg (by omega)]; exact d (j + 1) (k + 1) (by omega) (by omega)
      omega
    · have : m ≤ N := ih m f (fun k hk => by
        have := h k hk
        have : f k ≠ N := fun z => e ⟨k, hk, z⟩
        omega) d
      omega
/-- what stands among the steps -/
def g_st (f : Int → Int) (F p v : Int) : Prop := ∃ k, (F ≤ k ∧ k < p) ∧ f k = v
/-- s: the steps taken. A letter is ready; an equation, an automaton may begin; what is left for the end -/
def g_rd (M : ax_V) (s : Int → Prop) (n y : Int) : Prop := M 232 (26 * n + y) = 1 ∨ (¬ M 232 (26 * n + y) = 0 ∧ ∀ e i, g_of M e i → M 258 e = n → M 265 i = y → s (1024 + e))
def g_eb (C M : ax_V) (s : Int → Prop) (n e : Int) : Prop := (∀ y, 0 ≤ y → y < 26 → g_en C M e y → g_rd M s n y) ∧ (¬ M 263 e = -1 → s (2048 + M 263 e))
def g_ab (C M : ax_V) (s : Int → Prop) (n a : Int) : Prop := ∀ y, 0 ≤ y → y < 26 → g_nd C M a y → g_rd M s n y
def g_al (M : ax_V) (s : Int → Prop) (n : Int) : Prop := (∀ e, 0 ≤ e → e < (M 222 44) → M 258 e = n → s (1024 + e)) ∧ ∀ a, 0 ≤ a → a < (M 222 55) → M 267 a = n → s (2048 + a)
def g_aw (M : ax_V) (s : Int → Prop) (n : Int) : Prop := (∀ q, 0 ≤ q → q < (M 222 26) → M 250 q = n → s q) ∧ g_al M s n
def g_ak (M : ax_V) (s : Int → Prop) (n : Int) : Prop := (∀ q, 0 ≤ q → q < (M 222 26) → M 250 q = n → M 241 q = 6 → s (3072 + q)) ∧ ∀ l, 0 ≤ l → l < 26 → ¬ M 236 (26 * n + l) = 0 → s (4096 + 26 * n + l)
/-- may v come next? -/
def g_sk (C M : ax_V) (s : Int → Prop) (n v : Int) : Prop :=
  (∃ q, v = q ∧ ((0 ≤ q ∧ q < (M 222 26)) ∧ M 250 q = n) ∧ (∀ x, e_kid M q x → M 241 q = 6 ∨ s x) ∧ ((∃ e, (0 ≤ e ∧ e < (M 222 44)) ∧ M 258 e = n ∧ (M 261 e ≤ q ∧ q ≤ M 262 e) ∧ C 526 q = 0 ∧ g_eb C M s n e) ∨ (∃ m, (0 ≤ m ∧ m < (M 222 60)) ∧ M 267 (M 271 m) = n ∧ ¬ M 273 m = 0 ∧ (M 276 m ≤ q ∧ q ≤ M 277 m) ∧ g_ab C M s n (M 271 m)) ∨ (g_al M s n ∧ (¬ C 526 q = 0 ∨ ∃ m, (0 ≤ m ∧ m < (M 222 60)) ∧ M 273 m = 0 ∧ (M 276 m ≤ q ∧ q ≤ M 277 m))))) ∨
  (∃ e, v = 1024 + e ∧ (0 ≤ e ∧ e < (M 222 44)) ∧ M 258 e = n ∧ g_eb C M s n e ∧ ∀ q, M 261 e ≤ q → q ≤ M 262 e → C 526 q = 0 → s q) ∨
  (∃ a, v = 2048 + a ∧ (0 ≤ a ∧ a < (M 222 55)) ∧ M 267 a = n ∧ g_ab C M s n a ∧ ∀ m q, 0 ≤ m → m < (M 222 60) → M 271 m = a → ¬ M 273 m = 0 → M 276 m ≤ q → q ≤ M 277 m → s q) ∨
  (∃ q, v = 3072 + q ∧ ((0 ≤ q ∧ q < (M 222 26)) ∧ M 250 q = n) ∧ M 241 q = 6 ∧ g_aw M s n) ∨
  (∃ l, v = 4096 + 26 * n + l ∧ (0 ≤ l ∧ l < 26) ∧ ¬ M 236 (26 * n + l) = 0 ∧ g_aw M s n) ∨
  (∃ a, v = 5120 + a ∧ (0 ≤ a ∧ a < (M 222 55)) ∧ M 267 a = n ∧ g_aw M s n ∧ g_ak M s n)
def g_SQ (C M : ax_V) (f : Int → Int) (F p n : Int) : Prop := ∀ k, F ≤ k → k < p → ¬ g_st f F k (f k) ∧ g_sk C M (g_st f F k) n (f k) ∧ ∀ e, 0 ≤ e → e < (M 222 44) → f k = 1024 + e → F < k ∧ f (k - 1) = M 262 e
/-- how many steps there can be up to a node -/
def g_bs0 (C : ax_V) (n : Int) : Int := 2 * C 508 n + C 509 n + 2 * C 510 n + 26 * n
/-- the steps so far: s -/
def g_PC (C0 M0 V0 V : ax_V) (n F : Int) (s : Int → Prop) : Prop := (∀ v, g_st (V 512) F (V 602 5) v ↔ s v) ∧ g_SQ C0 M0 (V 512) F (V 602 5) n ∧ F ≤ V 602 5 ∧ ∀ k, k < F → V 512 k = V0 512 k
section Steps
variable {B r d : Nat} {C0 M0 V0 V : ax_V} {n F : Int} {s : Int → Prop} {Φ : Int → ax_V → Prop} {Ψ Θ : ax_V → Prop}
/-- codes of a node, numbered -/
theorem g_S.code (hS : g_S C0 M0) (n0 : 0 ≤ n) (n1 : n < (M0 222 86)) : ∃ g : Int → Int, (∀ v s, g_sk C0 M0 s n v → 0 ≤ g v ∧ g v < g_bs0 C0 (n + 1) - g_bs0 C0 n) ∧ (∀ v s w t, g_sk C0 M0 s n v → g_sk C0 M0 t n w → g v = g w → v = w) ∧ ∀ v s, g_sk C0 M0 s n v → 0 ≤ v ∧ v < 6144 := by
  have hat := hS.2.2.2.2.2.2.2
  have hN := hS.2.1
  have p0 := hS.2.2.1.1
  have hct := hS.2.2.2.2.1.1
  have hc1 := hct.1
  have hc3 := hct.2.2.1
  have E0 := hS.eqF n0 (by omega)
  have E1 := hS.eqF (n := n + 1) (by omega) (by omega)
  have E2 := hS.eqS n0 n1
  obtain ⟨P0, eP0⟩ : ∃ x, x = C0 508 n := ⟨_, rfl⟩
  obtain ⟨P1, eP1⟩ : ∃ x, x = C0 508 (n + 1) := ⟨_, rfl⟩
  obtain ⟨Q0, eQ0⟩ : ∃ x, x = C0 509 n := ⟨_, rfl⟩
  obtain ⟨Q1, eQ1⟩ : ∃ x, x = C0 509 (n + 1) := ⟨_, rfl⟩
  obtain ⟨A0, eA0⟩ : ∃ x, x = C0 510 n := ⟨_, rfl⟩
  obtain ⟨A1, eA1⟩ : ∃ x, x = C0 510 (n + 1) := ⟨_, rfl⟩
  rw [← eP0, ← eQ0, ← eA0] at E0
  rw [← eP1, ← eQ1, ← eA1] at E1
  rw [← eP0, ← eP1, ← eQ0, ← eQ1, ← eA0, ← eA1] at E2
  have key : ∀ v s, g_sk C0 M0 s n v → (P0 ≤ v ∧ v < P1) ∨ (1024 + Q0 ≤ v ∧ v < 1024 + Q1) ∨ (2048 + A0 ≤ v ∧ v < 2048 + A1) ∨ (3072 + P0 ≤ v ∧ v < 3072 + P1) ∨ (4096 + 26 * n ≤ v ∧ v < 4096 + 26 * n + 26) ∨ (5120 + A0 ≤ v ∧ v < 5120 + A1) := fun v s h => by
    rcases h with ⟨q, ev, q0, -⟩ | ⟨e, ev, e0, en, -⟩ | ⟨a, ev, a0, an, -⟩ | ⟨q, ev, q0, -⟩ | ⟨l, ev, l0, -⟩ | ⟨a, ev, a0, an, -⟩
    · have := (hS.pN q0.1.1 q0.1.2 n0 n1).mpr q0.2
      omega
    · have := (hS.eqN e0.1 e0.2 n0 n1).mpr en
      omega
    · have := (hS.aN a0.1 a0.2 n0 n1).mpr an
      omega
    · have := (hS.pN q0.1.1 q0.1.2 n0 n1).mpr q0.2
      omega
    · omega
    · have := (hS.aN a0.1 a0.2 n0 n1).mpr an
      omega
  obtain ⟨G, eG⟩ : ∃ G : Int → Int, G = fun v => if v < 1024 then v - P0 else if v < 2048 then 2 * (P1 - P0) + (v - 1024 - Q0) else if v < 3072 then 2 * (P1 - P0) + (Q1 - Q0) + (v - 2048 - A0) else if v < 4096 then (P1 - P0) + (v - 3072 - P0) else if v < 5120 then 2 * (P1 - P0) + (Q1 - Q0) + 2 * (A1 - A0) + (v - 4096 - 26 * n) else 2 * (P1 - P0) + (Q1 - Q0) + (A1 - A0) + (v - 5120 - A0) := ⟨_, rfl⟩
  have val : ∀ v s, g_sk C0 M0 s n v → ((P0 ≤ v ∧ v < P1) ∧ G v = v - P0) ∨ ((1024 + Q0 ≤ v ∧ v < 1024 + Q1) ∧ G v = 2 * (P1 - P0) + (v - 1024 - Q0)) ∨ ((2048 + A0 ≤ v ∧ v < 2048 + A1) ∧ G v = 2 * (P1 - P0) + (Q1 - Q0) + (v - 2048 - A0)) ∨ ((3072 + P0 ≤ v ∧ v < 3072 + P1) ∧ G v = (P1 - P0) + (v - 3072 - P0)) ∨ ((4096 + 26 * n ≤ v ∧ v < 4096 + 26 * n + 26) ∧ G v = 2 * (P1 - P0) + (Q1 - Q0) + 2 * (A1 - A0) + (v - 4096 - 26 * n)) ∨ ((5120 + A0 ≤ v ∧ v < 5120 + A1) ∧ G v = 2 * (P1 - P0) + (Q1 - Q0) + (A1 - A0) + (v - 5120 - A0)) := fun v s h => by
    rw [eG]
    rcases key v s h with k | k | k | k | k | k
    · exact Or.inl ⟨k, if_pos (by omega)⟩
    · exact Or.inr (Or.inl ⟨k, by show (if v < 1024 then _ else _) = _; rw [if_neg (by omega), if_pos (by omega)]⟩)
    · exact Or.inr (Or.inr (Or.inl ⟨k, by show (if v < 1024 then _ else _) = _; rw [if_neg (by omega), if_neg (by omega), if_pos (by omega)]⟩))
    · exact Or.inr (Or.inr (Or.inr (Or.inl ⟨k, by show (if v < 1024 then _ else _) = _; rw [if_neg (by omega), if_neg (by omega), if_neg (by omega), if_pos (by omega)]⟩)))
    · exact Or.inr (Or.inr (Or.inr (Or.inr (Or.inl ⟨k, by show (if v < 1024 then _ else _) = _; rw [if_neg (by omega), if_neg (by omega), if_neg (by omega), if_neg (by omega), if_pos (by omega)]⟩))))
    · exact Or.inr (Or.inr (Or.inr (Or.inr (Or.inr ⟨k, by show (if v < 1024 then _ else _) = _; rw [if_neg (by omega), if_neg (by omega), if_neg (by omega), if_neg (by omega), if_neg (by omega)]⟩))))
  clear eG key
  have eb : g_bs0 C0 (n + 1) - g_bs0 C0 n = 2 * (P1 - P0) + (Q1 - Q0) + 2 * (A1 - A0) + 26 := by
    unfold g_bs0
    rw [← eP0, ← eP1, ← eQ0, ← eQ1, ← eA0, ← eA1]
    omega
  have q1 : P1 ≤ 700 := by omega
  have q2 : Q1 ≤ 700 := by omega
  have q3 : A1 ≤ 700 := by omega
  have q4 : 0 ≤ P0 ∧ P0 ≤ P1 ∧ 0 ≤ Q0 ∧ Q0 ≤ Q1 ∧ 0 ≤ A0 ∧ A0 ≤ A1 ∧ n < 8 := by omega
  clear hat hN p0 hct hc1 hc3 E0 E1 E2 eP0 eP1 eQ0 eQ1 eA0 eA1
  refine ⟨G, fun v s h => ?_, fun v s w t h h' e => ?_, fun v s h => ?_⟩
  · rw [eb]
    rcases val v s h with k | k | k | k | k | k <;> omega
  · rcases val v s h with k | k | k | k | k | k <;> rcases val w t h' with k' | k' | k' | k' | k' | k' <;> omega
  · rcases val v s h with k | k | k | k | k | k <;> omega
theorem g_bs0_b (hS : g_S C0 M0) (n0 : 0 ≤ n) (n1 : n ≤ (M0 222 86)) : 0 ≤ g_bs0 C0 n ∧ g_bs0 C0 n ≤ 1700 := by
  have hat := hS.2.2.2.2.2.2.2
  have hN := hS.2.1
  have p0 := hS.2.2.1.1
  have hct := hS.2.2.2.2.1.1
  have hc1 := hct.1
  have hc3 := hct.2.2.1
  have E0 := hS.eqF n0 n1
  unfold g_bs0
  omega
/-- there is room -/
theorem g_SQ.room (hS : g_S C0 M0) (n0 : 0 ≤ n) (n1 : n < (M0 222 86)) {f : Int → Int} {p : Int} (h : g_SQ C0 M0 f F p n) (hF : 0 ≤ F) (hF2 : F ≤ g_bs0 C0 n) : p ≤ g_bs0 C0 (n + 1) := by
  obtain ⟨g, g1, g2, g3⟩ := hS.code n0 n1
  have b0 := g_bs0_b hS n0 (by omega)
  by_cases w : p ≤ F
  · have E2 := hS.eqS n0 n1
    unfold g_bs0 at *
    omega
  · have key := g_pgn (g_bs0 C0 (n + 1) - g_bs0 C0 n).toNat (p - F).toNat (fun k => (g (f (F + (k : Int)))).toNat) (fun k hk => by
      have := g1 _ _ (h (F + (k : Int)) (by omega) (by omega)).2.1
      show (g (f (F + (k : Int)))).toNat < _
      omega) (fun j k hjk hk e => by
      have hj := h (F + (j : Int)) (by omega) (by omega)
      have hk2 := h (F + (k : Int)) (by omega) (by omega)
      have a := g1 _ _ hj.2.1
      have b := g1 _ _ hk2.2.1
      have e' : (g (f (F + (j : Int)))).toNat = (g (f (F + (k : Int)))).toNat := e
      have ee := g2 _ _ _ _ hj.2.1 hk2.2.1 (by omega)
      exact hk2.1 ⟨F + (j : Int), ⟨by omega, by omega⟩, ee⟩)
    have E2 := hS.eqS n0 n1
    have : g_bs0 C0 n ≤ g_bs0 C0 (n + 1) := by unfold g_bs0; omega
    omega
/-- one step more -/
theorem t_addStep1 {k x : Int} (hS : g_S C0 M0) (n0 : 0 ≤ n) (n1 : n < (M0 222 86)) (hF : 0 ≤ F) (hF2 : F ≤ g_bs0 C0 n) (hg : ax_g V) (hP : g_PC C0 M0 V0 V n F s) (hk : 0 ≤ k ∧ k < 6) (hx : 0 ≤ x ∧ x < 1024) (new : ¬ s (1024 * k + x)) (may : g_sk C0 M0 s n (1024 * k + x)) (adj : ∀ e, 0 ≤ e → e < (M0 222 44) → 1024 * k + x = 1024 + e → F < V 602 5 ∧ V 512 (V 602 5 - 1) = M0 262 e) (h : ∀ W, g_fr [512, 602] V W → ax_g W → W 602 6 = V 602 6 → g_PC C0 M0 V0 W n F (fun v => s v ∨ v = 1024 * k + x) → (W 602 5 = V 602 5 + 1 ∧ W 512 (V 602 5) = 1024 * k + x) → Ψ W) : ax_N (az_W B (az_EL B r)) (d + 1) q_Planner_addStep [.ref r, ax_i k, ax_i x] V Ψ Θ := by
  obtain ⟨h1, h2, h3, h4⟩ := hP
  have rm := h2.room hS n0 n1 hF hF2
  have b1 := g_bs0_b hS (n := n + 1) (by omega) (by omega)
  have e := b_stp hk hx
  refine r_Planner_addStep hg ⟨by omega, by omega⟩ ⟨by omega, by omega⟩ ⟨fun z => by omega, fun _ => ⟨⟨by omega, by omega⟩, fun V1 e1 => ?_⟩⟩
  rw [e] at e1
  have p1 : V1 602 5 = V 602 5 := by rw [e1, ax_u_ne (by decide)]
  rw [p1]
  refine ⟨⟨by omega, by omega⟩, fun W eW => h W ?_ ?_ ?_ ?_ ⟨by rw [eW, ax_u_s], by rw [eW, ax_u_ne (by decide), e1, ax_u_s]⟩⟩
  · rw [eW, e1]; exact ((g_fr.rf _ _).u (by decide)).u (by decide)
  · rw [eW, e1]; exact ax_u_g (ax_u_g hg ⟨by omega, by omega⟩) ⟨by omega, by omega⟩
  · rw [eW, ax_u_k (by decide), e1, ax_u_ne (by decide)]
  · obtain ⟨p, ep⟩ : ∃ p, p = V 602 5 := ⟨_, rfl⟩
    rw [← ep] at h1 h2 h3 rm eW e1 adj
    have w5 : W 602 5 = p + 1 := by rw [eW, ax_u_s]
    have wp : W 512 p = 1024 * k + x := by rw [eW, ax_u_ne (by decide), e1, ax_u_s]
    have wo : ∀ j, j ≠ p → W 512 j = V 512 j := fun j z => by rw [eW, ax_u_ne (by decide), e1, ax_u_k z]
    have st : ∀ j, j ≤ p → g_st (W 512) F j = g_st (V 512) F j := fun j hj => by
      funext v
      refine propext ⟨fun z => ?_, fun z => ?_⟩
      · obtain ⟨i, i0, i1⟩ := z
        exact ⟨i, i0, by rw [← wo i (by omega)]; exact i1⟩
      · obtain ⟨i, i0, i1⟩ := z
        exact ⟨i, i0, by rw [wo i (by omega)]; exact i1⟩
    have sp : g_st (V 512) F p = s := funext fun v => propext (h1 v)
    unfold g_PC
    rw [w5]
    refine ⟨fun v => ?_, fun j j0 j1 => ?_, by omega, fun j hj => by rw [wo j (by omega)]; exact h4 j hj⟩
    · constructor
      · rintro ⟨i, i0, i1⟩
        by_cases z : i = p
        · rw [z, wp] at i1; exact Or.inr i1.symm
        · exact Or.inl ((h1 v).mp ⟨i, ⟨i0.1, by omega⟩, by rw [← wo i z]; exact i1⟩)
      · rintro (z | z)
        · obtain ⟨i, i0, i1⟩ := (h1 v).mpr z
          exact ⟨i, ⟨i0.1, by omega⟩, by rw [wo i (by omega)]; exact i1⟩
        · exact ⟨p, ⟨h3, by omega⟩, by rw [wp, z]⟩
    · rw [st j (by omega)]
      by_cases z : j = p
      · rw [z, wp, sp, wo (p - 1) (by omega)]; exact ⟨new, may, adj⟩
      · rw [wo j z, wo (j - 1) (by omega)]; exact h2 j j0 (by omega)
theorem t_addStep {k x : Int} (hS : g_S C0 M0) (n0 : 0 ≤ n) (n1 : n < (M0 222 86)) (hF : 0 ≤ F) (hF2 : F ≤ g_bs0 C0 n) (hg : ax_g V) (hP : g_PC C0 M0 V0 V n F s) (hk : (0 ≤ k ∧ k < 6) ∧ ¬ k = 1) (hx : 0 ≤ x ∧ x < 1024) (new : ¬ s (1024 * k + x)) (may : g_sk C0 M0 s n (1024 * k + x)) (h : ∀ W, g_fr [512, 602] V W → ax_g W → W 602 6 = V 602 6 → g_PC C0 M0 V0 W n F (fun v => s v ∨ v = 1024 * k + x) → Ψ W) : ax_N (az_W B (az_EL B r)) (d + 1) q_Planner_addStep [.ref r, ax_i k, ax_i x] V Ψ Θ := by
  have hct := hS.2.2.2.2.1.1
  have hc1 := hct.1
  have hat := hS.2.2.2.2.2.2.2
  exact t_addStep1 hS n0 n1 hF hF2 hg hP hk.1 hx new may (fun e e0 e1 z => by omega) (fun W a b c d _ => h W a b c d)
end Steps
