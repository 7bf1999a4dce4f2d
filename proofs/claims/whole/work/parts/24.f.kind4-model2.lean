/-! FAULTS 4, the model: equations, states, rings -/
def g_ec (M : ax_V) (e : Int) : Int := if M 263 e = -1 then M 235 (26 * M 258 e + M 265 (M 259 e)) else 0
def g_f4 (M : ax_V) (G : Int → Int) (e t : Int) : Prop := (∃ h, g_of M e h ∧ ¬ M 235 (26 * M 258 e + M 265 h) = g_ec M e ∧ M 266 h ≤ t) ∨ g_bd M G (M 262 e) (g_ec M e) t
def g_x4 (M : ax_V) (f w t : Int) : Prop := ∃ q, (f ≤ q ∧ q ≤ w) ∧ ¬ M 248 q = -1 ∧ ¬ M 235 (26 * M 250 q + M 248 q) = 0 ∧ M 244 q ≤ t
def g_rm (M : ax_V) (n l : Int) : Prop := ∃ k : Nat, k ≤ 26 ∧ ¬ g_rc M n l k = 0 ∧ (g_rc M n l k - 1) / 2 = l
theorem b_div_t : ∀ x : Fin 60, ax_div ((x : Nat) : Int) 2 = (((x : Nat) / 2 : Nat) : Int) := by decide +kernel
theorem b_div {x : Int} (h0 : 0 ≤ x ∧ x < 60) : ax_div x 2 = x / 2 := by
  obtain ⟨k, rfl⟩ := Int.eq_ofNat_of_zero_le h0.1
  have := b_div_t ⟨k, by omega⟩
  simp only [] at this
  rw [this]; rfl
/-- two of them are the same -/
theorem g_pig : ∀ (n : Nat) (f : Nat → Int), (∀ i, i ≤ n → 0 ≤ f i ∧ f i < (n : Int)) → ∃ i j, i < j ∧ j ≤ n ∧ f i = f j := by
  intro n
  induction n with
  | zero => intro f h; have := h 0 (Nat.le_refl _); omega
  | succ n ih =>
    intro f h
    by_cases w : ∃ i, i ≤ n ∧ f i = f (n + 1)
    · obtain ⟨i, i0, i1⟩ := w
      exact ⟨i, n + 1, by omega, Nat.le_refl _, i1⟩
    · have hn : ∀ i, i ≤ n → ¬ f i = f (n + 1) := fun i i0 z => w ⟨i, i0, z⟩
      have hl := h (n + 1) (Nat.le_refl _)
      obtain ⟨i, j, i0, i1, i2⟩ := ih (fun i => if f (n + 1) < f i then f i - 1 else f i) (fun i i0 => by
        have a := h i (by omega)
        have b := hn i i0
        show 0 ≤ (if f (n + 1) < f i then f i - 1 else f i) ∧ (if f (n + 1) < f i then f i - 1 else f i) < (n : Int)
        split <;> omega)
      refine ⟨i, j, i0, by omega, ?_⟩
      have a := hn i (by omega)
      have b := hn j i1
      have e : (if f (n + 1) < f i then f i - 1 else f i) = (if f (n + 1) < f j then f j - 1 else f j) := i2
      revert e
      split <;> split <;> omega
section Kind4N
variable {d : Nat} {C0 M0 M V : ax_V} {G : Int → Int} {q n : Int} {T : Int → Prop} {Φ : Int → ax_V → Prop} {Ψ Θ : ax_V → Prop}
theorem g_S.ring (hS : g_S C0 M0) {l : Int} (n0 : 0 ≤ n) (n1 : n < (M0 222 86)) (l0 : 0 ≤ l) (l1 : l < 26) (h : g_rm M0 n l) : g_rg M0 n l := by
  obtain ⟨k, k0, k1, k2⟩ := h
  by_cases w : k < 26
  · exact ⟨k, w, k1, k2⟩
  · have ek : k = 26 := by omega
    subst ek
    apply Classical.byContradiction
    intro no
    have rb := g_rc_b hS n0 n1 l0 l1
    have nz : ∀ x, x ≤ 26 → ¬ g_rc M0 n l x = 0 := fun x x0 z => by
      have := g_rc_0 M0 z (26 - x)
      rw [show x + (26 - x) = 26 by omega] at this
      exact k1 this
    have nl : ∀ x, x < 26 → ¬ (g_rc M0 n l x - 1) / 2 = l := fun x x0 z => no ⟨x, x0, nz x (by omega), z⟩
    obtain ⟨i, j, i0, i1, i2⟩ := g_pig 25 (fun i => if l < (g_rc M0 n l i - 1) / 2 then (g_rc M0 n l i - 1) / 2 - 1 else (g_rc M0 n l i - 1) / 2) (fun i i0 => by
      have a := nz i (by omega)
      have b := nl i (by omega)
      have c := rb i
      show 0 ≤ (if l < (g_rc M0 n l i - 1) / 2 then (g_rc M0 n l i - 1) / 2 - 1 else (g_rc M0 n l i - 1) / 2) ∧ (if l < (g_rc M0 n l i - 1) / 2 then (g_rc M0 n l i - 1) / 2 - 1 else (g_rc M0 n l i - 1) / 2) < ((25 : Nat) : Int)
      split <;> omega)
    have bi := nl i (by omega)
    have bj := nl j (by omega)
    have e : (if l < (g_rc M0 n l i - 1) / 2 then (g_rc M0 n l i - 1) / 2 - 1 else (g_rc M0 n l i - 1) / 2) = (if l < (g_rc M0 n l j - 1) / 2 then (g_rc M0 n l j - 1) / 2 - 1 else (g_rc M0 n l j - 1) / 2) := i2
    have e2 : (g_rc M0 n l i - 1) / 2 = (g_rc M0 n l j - 1) / 2 := by
      revert e
      split <;> split <;> omega
    have s1 : g_rc M0 n l (i + 1) = g_rc M0 n l (j + 1) := by
      show (if g_rc M0 n l i = 0 then 0 else M0 235 (26 * n + (g_rc M0 n l i - 1) / 2)) = (if g_rc M0 n l j = 0 then 0 else M0 235 (26 * n + (g_rc M0 n l j - 1) / 2))
      rw [if_neg (nz i (by omega)), if_neg (nz j (by omega)), e2]
    have sm : ∀ m : Nat, g_rc M0 n l (i + 1 + m) = g_rc M0 n l (j + 1 + m) := by
      intro m
      induction m with
      | zero => exact s1
      | succ m ih =>
        show (if g_rc M0 n l (i + 1 + m) = 0 then 0 else M0 235 (26 * n + (g_rc M0 n l (i + 1 + m) - 1) / 2)) = (if g_rc M0 n l (j + 1 + m) = 0 then 0 else M0 235 (26 * n + (g_rc M0 n l (j + 1 + m) - 1) / 2))
        rw [ih]
    have s2 := sm (25 - j)
    rw [show j + 1 + (25 - j) = 26 by omega] at s2
    exact nl (i + 1 + (25 - j)) (by omega) (by rw [s2]; exact k2)
theorem g_S.let (hS : g_S C0 M0) (q0 : 0 ≤ q) (q1 : q < (M0 222 26)) : M0 248 q = -1 ∨ ((M0 241 q = 2 ∨ M0 241 q = 3 ∨ M0 241 q = 20 ∨ M0 241 q = 21 ∨ M0 241 q = 22) ∧ (0 ≤ M0 248 q ∧ M0 248 q < 26) ∧ e_pl (M0 244 q)) := by
  have dt := (hS.p q0 q1).2.2.2.2.2.2.1
  have o := (hS.op q0 q1).1
  by_cases a1 : M0 241 q = 0 ∨ M0 241 q = 1
  · exact Or.inl (dt.1 a1).2.1
  · by_cases a2 : M0 241 q = 2 ∨ M0 241 q = 3 ∨ M0 241 q = 21
    · have := dt.2.2.1 a2
      exact Or.inr ⟨by omega, this.1, this.2.2.2.1⟩
    · by_cases a3 : M0 241 q = 20
      · have := dt.2.2.2.1 a3
        exact Or.inr ⟨by omega, this.1, this.2.2.2.2.1⟩
      · by_cases a4 : M0 241 q = 22
        · have := dt.2.2.2.2.2.2 a4
          by_cases l : M0 248 q = -1
          · exact Or.inl l
          · exact Or.inr ⟨by omega, ⟨by omega, this.2.1.2⟩, (this.2.2.2.1 (by omega)).2.2⟩
        · exact Or.inl (dt.2.2.2.2.1 (by omega)).1
set_option maxHeartbeats 4000000 in
theorem s_checkEquationClock {e : Int} (hS : g_S C0 M0) (hb : g_MB C0 M0 V) (hf : ∀ x, 0 ≤ x → x < (M0 222 26) → V 254 x = G x) (e0 : 0 ≤ e) (e1 : e < (M0 222 44)) (hT : ∀ t, t < 701 → (m_nb V ≤ t ↔ T t)) (h : ∀ V', g_H1 V V' (fun t => T t ∨ g_f4 M0 G e t) → Ψ V') : ax_N ay_lay (d + 3) q_Model_checkEquationClock [.ref 222, ax_i e] V Ψ Θ := by
  have p0 := hS.2.2.1.1
  have hat := hS.2.2.2.2.2.2.2
  have hN := hS.2.1
  have hc1 := hS.2.2.2.2.1.1.1
  have hc2 := hS.2.2.2.2.1.1.2.1
  have fe := hS.2.2.2.2.1.2.1 e e0 e1
  have fe3 := fe.2.2.1
  have wb := fe.2.2.2.2.2.1.1
  have nd := hS.node e0 e1
  have be : 0 ≤ e ∧ e < 351 := ⟨e0, by omega⟩
  have re : ax_rg e := ⟨by omega, by omega⟩
  have H0 : g_H1 V V T := g_H1.rf hb.2.2.1 hT
  obtain ⟨n, en⟩ : ∃ w : Int, w = M0 258 e := ⟨_, rfl⟩
  have hd : ∀ i, M0 259 e ≤ i → i < M0 259 e + M0 260 e → (0 ≤ M0 265 i ∧ M0 265 i < 26) ∧ e_pl (M0 266 i) ∧ 0 ≤ M0 235 (26 * n + M0 265 i) ∧ M0 235 (26 * n + M0 265 i) ≤ 52 := fun i i0 i1 => by
    have a := fe.2.2.2.2.2.2 i i0 i1
    have b := hS.ck nd.1 nd.2.1 a.2.1.1 a.2.1.2
    rw [en]
    exact ⟨a.2.1, a.2.2.2, b.2⟩
  rw [← en] at nd
  have rn : ax_rg n := ⟨by omega, by omega⟩
  obtain ⟨c, ec⟩ : ∃ w : Int, w = g_ec M0 e := ⟨_, rfl⟩
  have ec2 : c = if M0 263 e = -1 then M0 235 (26 * n + M0 265 (M0 259 e)) else 0 := by rw [ec, en]; rfl
  have u0 := hd (M0 259 e) (Int.le_refl _) (by omega)
  have cb : 0 ≤ c ∧ c ≤ 52 := by rw [ec2]; split <;> omega
  have rc : ax_rg c := ⟨by omega, by omega⟩
  -- the loop
  have lp : ∀ y5, ax_y y5 → k_Model_checkEquationClock_21 (d + 2) e n c (M0 259 e) y5 V Ψ Θ := by
    refine ax_for (I := fun i V1 => (M0 259 e ≤ i ∧ i ≤ M0 259 e + M0 260 e) ∧ g_H1 V V1 (fun t => T t ∨ ∃ x, (M0 259 e ≤ x ∧ x < i) ∧ ¬ M0 235 (26 * n + M0 265 x) = c ∧ M0 266 x ≤ t)) (K := fun i V1 => ∀ y5, ax_y y5 → k_Model_checkEquationClock_21 (d + 2) e n c i y5 V1 Ψ Θ) (hi := M0 259 e + M0 260 e) (fun i V1 w hI next y5 hy5 => ?_) (fun i V1 w hI y5 hy5 => ?_) (M0 259 e) V ⟨⟨Int.le_refl _, by omega⟩, H0.of (fun t _ => ⟨fun z => Or.inl z, fun z => by rcases z with z | ⟨x, x0, -⟩; exact z; omega⟩)⟩
    · obtain ⟨hi, hH⟩ := hI
      have b := hH.b hb
      have u := hd i hi.1 w
      have rp : ax_rg (M0 266 i) := ⟨by omega, by omega⟩
      have same : M0 235 (26 * n + M0 265 i) = c → ∀ y5, ax_y y5 → k_Model_checkEquationClock_21 (d + 2) e n c (i + 1) y5 V1 Ψ Θ := fun z => next V1 ⟨⟨by omega, by omega⟩, hH.of (fun t _ => ⟨fun y => by rcases y with y | ⟨x, x0, x1⟩; exact Or.inl y; exact Or.inr ⟨x, ⟨x0.1, by omega⟩, x1⟩, fun y => by
        rcases y with y | ⟨x, x0, x1⟩
        · exact Or.inl y
        · by_cases ex : x = i
          · rw [ex] at x1; exact absurd z x1.1
          · exact Or.inr ⟨x, ⟨x0.1, by omega⟩, x1⟩⟩)⟩
      have diff : ¬ M0 235 (26 * n + M0 265 i) = c → ∀ y5, ax_y y5 → k_Model_checkEquationClock_21 (d + 2) e n c (i + 1) y5 (m_nt V1 (M0 266 i)) Ψ Θ := fun z => next _ ⟨⟨by omega, by omega⟩, (hH.nt u.2.1).of (fun t _ => ⟨fun y => by
        rcases y with (y | ⟨x, x0, x1⟩) | y
        · exact Or.inl y
        · exact Or.inr ⟨x, ⟨x0.1, by omega⟩, x1⟩
        · exact Or.inr ⟨i, ⟨hi.1, by omega⟩, z, y⟩, fun y => by
        rcases y with y | ⟨x, x0, x1⟩
        · exact Or.inl (Or.inl y)
        · by_cases ex : x = i
          · rw [ex] at x1; exact Or.inr x1.2
          · exact Or.inl (Or.inr ⟨x, ⟨x0.1, by omega⟩, x1⟩)⟩)⟩
      refine r_Model_checkEquationClock_21 b.2.2.1 re rn rc ⟨by omega, by omega⟩ hy5 ⟨be, be, ?_⟩
      rw [b.1 259 (by decide), b.1 260 (by decide), b.1 265 (by decide), b.1 235 (by decide), b.1 263 (by decide), b.1 266 (by decide)]
      refine ⟨⟨by omega, by omega⟩, fun z => absurd w (by omega), fun _ => ⟨⟨by omega, by omega⟩, ⟨by omega, by omega⟩, be, fun a => ⟨fun z => same z _ (ax_y_i _), fun z => ⟨⟨by omega, by omega⟩, s_noteE b.2.2.1 rp (diff z _ (ax_y_i _))⟩⟩, fun a => ?_⟩⟩
      rw [if_neg a] at ec2
      rw [ec2] at same diff
      rw [ec2]
      exact ⟨fun z => same z _ (ax_y_i _), fun z => ⟨⟨by omega, by omega⟩, s_noteE b.2.2.1 rp (diff z _ (ax_y_i _))⟩⟩
    · obtain ⟨hi, hH⟩ := hI
      have b := hH.b hb
      have ei : i = M0 259 e + M0 260 e := by omega
      rw [ei] at hH ⊢
      refine r_Model_checkEquationClock_21 b.2.2.1 re rn rc ⟨by omega, by omega⟩ hy5 ⟨be, be, ?_⟩
      rw [b.1 259 (by decide), b.1 260 (by decide), b.1 262 (by decide)]
      refine ⟨⟨by omega, by omega⟩, fun _ => ⟨be, s_on hS hb hf hH (by omega) wb.2.2 rc (fun V' hV' => h V' (hV'.of (fun t _ => ?_)))⟩, fun z => by omega⟩
      unfold g_f4
      rw [← ec, ← en]
      constructor
      · rintro ((y | ⟨x, x0, x1⟩) | y)
        · exact Or.inl y
        · exact Or.inr (Or.inl ⟨x, ⟨⟨e0, e1⟩, x0⟩, x1⟩)
        · exact Or.inr (Or.inr y.2)
      · rintro (y | ⟨x, x0, x1⟩ | y)
        · exact Or.inl (Or.inl y)
        · exact Or.inl (Or.inr ⟨x, x0.2, x1⟩)
        · exact Or.inr ⟨by omega, y⟩
  refine r_Model_checkEquationClock hb.2.2.1 re ⟨be, r_Model_eqClock hb.2.2.1 re ⟨be, ?_⟩⟩
  rw [hb.1 263 (by decide), hb.1 258 (by decide), hb.1 259 (by decide), hb.1 265 (by decide), hb.1 235 (by decide), ← en]
  refine ⟨fun a => ⟨be, be, ⟨by omega, by omega⟩, ⟨by omega, by omega⟩, be, ?_⟩, fun a => ⟨be, ?_⟩⟩
  · rw [if_pos a] at ec2
    rw [← ec2]
    exact lp none ax_y_n
  · rw [if_neg a] at ec2
    rw [ec2] at lp
    exact lp none ax_y_n
theorem s_checkInAutomaton {f w : Int} (hS : g_S C0 M0) (hb : g_MB C0 M0 V) (f0 : 0 ≤ f) (fw : f ≤ w) (w1 : w < (M0 222 26)) (hT : ∀ t, t < 701 → (m_nb V ≤ t ↔ T t)) (h : ∀ V', g_H1 V V' (fun t => T t ∨ g_x4 M0 f w t) → Ψ V') : ax_N ay_lay (d + 2) q_Model_checkInAutomaton [.ref 222, ax_i f, ax_i w] V Ψ Θ := by
  have p0 := hS.2.2.1.1
  have hat := hS.2.2.2.2.2.2.2
  have hN := hS.2.1
  have rf : ax_rg f := ⟨by omega, by omega⟩
  have rw' : ax_rg w := ⟨by omega, by omega⟩
  refine r_Model_checkInAutomaton hb.2.2.1 rf rw' ?_
  refine ax_for (I := fun q V1 => (f ≤ q ∧ q ≤ w + 1) ∧ g_H1 V V1 (fun t => T t ∨ ∃ x, (f ≤ x ∧ x < q) ∧ ¬ M0 248 x = -1 ∧ ¬ M0 235 (26 * M0 250 x + M0 248 x) = 0 ∧ M0 244 x ≤ t)) (K := fun q V1 => k_Model_checkInAutomaton_2 (d + 1) (some (ax_i f)) w q V1 Ψ Θ) (hi := w + 1) (fun q V1 u hI next => ?_) (fun q V1 u hI => ?_) f V ⟨⟨Int.le_refl _, by omega⟩, (g_H1.rf hb.2.2.1 hT).of (fun t _ => ⟨fun z => Or.inl z, fun z => by rcases z with z | ⟨x, x0, -⟩; exact z; omega⟩)⟩
  · obtain ⟨hq, hH⟩ := hI
    have b := hH.b hb
    have q0 : 0 ≤ q := by omega
    have q1 : q < (M0 222 26) := by omega
    have pn := (hS.pnode q0 q1).1
    have lt := hS.let q0 q1
    have b7 : 0 ≤ q ∧ q < 701 := ⟨q0, by omega⟩
    have same : ¬ (¬ M0 248 q = -1 ∧ ¬ M0 235 (26 * M0 250 q + M0 248 q) = 0) → k_Model_checkInAutomaton_2 (d + 1) (some (ax_i f)) w (q + 1) V1 Ψ Θ := fun z => next V1 ⟨⟨by omega, by omega⟩, hH.of (fun t _ => ⟨fun y => by rcases y with y | ⟨x, x0, x1⟩; exact Or.inl y; exact Or.inr ⟨x, ⟨x0.1, by omega⟩, x1⟩, fun y => by
      rcases y with y | ⟨x, x0, x1, x2, x3⟩
      · exact Or.inl y
      · by_cases ex : x = q
        · rw [ex] at x1 x2; exact absurd ⟨x1, x2⟩ z
        · exact Or.inr ⟨x, ⟨x0.1, by omega⟩, x1, x2, x3⟩⟩)⟩
    refine r_Model_checkInAutomaton_2 b.2.2.1 (ax_y_i _) rw' ⟨by omega, by omega⟩ ⟨fun z => by omega, fun _ => ⟨b7, ?_⟩⟩
    rw [b.1 248 (by decide), b.1 250 (by decide), b.1 235 (by decide), b.1 244 (by decide)]
    refine ⟨fun z => same (fun y => y.1 z), fun z => ?_⟩
    rcases lt with l | ⟨-, l, s⟩
    · exact absurd l z
    · refine ⟨b7, b7, ⟨by omega, by omega⟩, fun y => same (fun x => x.2 y), fun y => ⟨b7, s_noteE b.2.2.1 ⟨by omega, by omega⟩ (next _ ⟨⟨by omega, by omega⟩, (hH.nt s).of (fun t _ => ?_)⟩)⟩⟩
      constructor
      · rintro ((x | ⟨x, x0, x1⟩) | x)
        · exact Or.inl x
        · exact Or.inr ⟨x, ⟨x0.1, by omega⟩, x1⟩
        · exact Or.inr ⟨q, ⟨hq.1, by omega⟩, z, y, x⟩
      · rintro (x | ⟨x, x0, x1⟩)
        · exact Or.inl (Or.inl x)
        · by_cases ex : x = q
          · rw [ex] at x1; exact Or.inr x1.2.2
          · exact Or.inl (Or.inr ⟨x, ⟨x0.1, by omega⟩, x1⟩)
  · obtain ⟨hq, hH⟩ := hI
    have eq : q = w + 1 := by omega
    rw [eq] at hH ⊢
    refine r_Model_checkInAutomaton_2 hH.2.2.1 (ax_y_i _) rw' ⟨by omega, by omega⟩ ⟨fun _ => h V1 (hH.of (fun t _ => ?_)), fun z => by omega⟩
    constructor
    · rintro (y | ⟨x, x0, x1⟩)
      · exact Or.inl y
      · exact Or.inr ⟨x, ⟨x0.1, by omega⟩, x1⟩
    · rintro (y | ⟨x, x0, x1⟩)
      · exact Or.inl y
      · exact Or.inr ⟨x, ⟨x0.1, by omega⟩, x1⟩
set_option maxHeartbeats 4000000 in
theorem s_checkRings (hS : g_S C0 M0) (hb : g_MB C0 M0 V) (n0 : 0 ≤ n) (n1 : n < (M0 222 86)) (hT : ∀ t, t < 701 → (m_nb V ≤ t ↔ T t)) (h : ∀ V', g_H1 V V' (fun t => T t ∨ ∃ l, (0 ≤ l ∧ l < 26) ∧ (¬ M0 232 (26 * n + l) = 0 ∧ g_rm M0 n l) ∧ M0 234 (26 * n + l) ≤ t) → Ψ V') : ax_N ay_lay (d + 2) q_Model_checkRings [.ref 222, ax_i n] V Ψ Θ := by
  have hN := hS.2.1
  have rn : ax_rg n := ⟨by omega, by omega⟩
  refine r_Model_checkRings hb.2.2.1 rn ?_
  refine ax_for (I := fun l V1 => (0 ≤ l ∧ l ≤ 26) ∧ g_H1 V V1 (fun t => T t ∨ ∃ x, (0 ≤ x ∧ x < l) ∧ (¬ M0 232 (26 * n + x) = 0 ∧ g_rm M0 n x) ∧ M0 234 (26 * n + x) ≤ t)) (K := fun l V1 => ∀ y3 y4 y5, ax_y y3 → ax_y y4 → ax_y y5 → k_Model_checkRings_2 (d + 1) n l y3 y4 y5 V1 Ψ Θ) (hi := 26) (fun l V1 w hI next y3 y4 y5 hy3 hy4 hy5 => ?_) (fun l V1 w hI y3 y4 y5 hy3 hy4 hy5 => ?_) 0 V ⟨⟨by decide, by decide⟩, (g_H1.rf hb.2.2.1 hT).of (fun t _ => ⟨fun z => Or.inl z, fun z => by rcases z with z | ⟨x, x0, -⟩; exact z; omega⟩)⟩ none none none ax_y_n ax_y_n ax_y_n
  · obtain ⟨hl, hH⟩ := hI
    have b := hH.b hb
    have l0 := hl.1
    have rb := g_rc_b hS n0 n1 l0 w
    have f := hS.l n0 n1 l0 w
    have rl : ax_rg l := ⟨by omega, by omega⟩
    have bs : 0 ≤ 26 * n + l ∧ 26 * n + l < 240 := ⟨by omega, by omega⟩
    have rs : ax_rg (26 * n + l) := ⟨by omega, by omega⟩
    have same : ¬ (¬ M0 232 (26 * n + l) = 0 ∧ g_rm M0 n l) → ∀ y3 y4 y5, ax_y y3 → ax_y y4 → ax_y y5 → k_Model_checkRings_2 (d + 1) n (l + 1) y3 y4 y5 V1 Ψ Θ := fun z => next V1 ⟨⟨by omega, by omega⟩, hH.of (fun t _ => ⟨fun y => by rcases y with y | ⟨x, x0, x1⟩; exact Or.inl y; exact Or.inr ⟨x, ⟨x0.1, by omega⟩, x1⟩, fun y => by
      rcases y with y | ⟨x, x0, x1, x2⟩
      · exact Or.inl y
      · by_cases ex : x = l
        · rw [ex] at x1; exact absurd x1 z
        · exact Or.inr ⟨x, ⟨x0.1, by omega⟩, x1, x2⟩⟩)⟩
    refine r_Model_checkRings_2 b.2.2.1 rn rl hy3 hy4 hy5 ⟨fun z => by omega, fun _ => ⟨bs, ?_⟩⟩
    rw [b.1 232 (by decide), b.1 235 (by decide)]
    refine ⟨fun z => same (fun y => y.1 z) _ _ _ (ax_y_i _) hy4 hy5, fun kz => ⟨bs, ?_⟩⟩
    have tl := (f.2.2.1 kz).2.1
    have note : g_rm M0 n l → ∀ y3 y4 y5, ax_y y3 → ax_y y4 → ax_y y5 → ax_N ay_lay (d + 1) q_Model_note [.ref 222, ax_i (V1 234 (26 * n + l))] V1 (fun V2 => k_Model_checkRings_2 (d + 1) n (l + 1) y3 y4 y5 V2 Ψ Θ) Θ := fun z y3 y4 y5 hy3 hy4 hy5 => by
      rw [b.1 234 (by decide)]
      refine s_noteE b.2.2.1 ⟨by omega, by omega⟩ (next _ ⟨⟨by omega, by omega⟩, (hH.nt tl).of (fun t _ => ?_)⟩ _ _ _ hy3 hy4 hy5)
      constructor
      · rintro ((x | ⟨x, x0, x1⟩) | x)
        · exact Or.inl x
        · exact Or.inr ⟨x, ⟨x0.1, by omega⟩, x1⟩
        · exact Or.inr ⟨l, ⟨l0, by omega⟩, ⟨kz, z⟩, x⟩
      · rintro (x | ⟨x, x0, x1⟩)
        · exact Or.inl (Or.inl x)
        · by_cases ex : x = l
          · rw [ex] at x1; exact Or.inr x1.2
          · exact Or.inl (Or.inr ⟨x, ⟨x0.1, by omega⟩, x1⟩)
    have lp : ∀ (m k : Nat), k ≤ 26 → 26 - k ≤ m → (∀ x, x < k → ¬ (¬ g_rc M0 n l x = 0 ∧ (g_rc M0 n l x - 1) / 2 = l)) → k_Model_checkRings_38 (d + 1) n l (26 * n + l) (g_rc M0 n l k) (k : Int) V1 Ψ Θ := by
      have base : ∀ k : Nat, k ≤ 26 → (∀ x, x < k → ¬ (¬ g_rc M0 n l x = 0 ∧ (g_rc M0 n l x - 1) / 2 = l)) → ∀ P : Prop, (g_rc M0 n l k = 0 → P) → (¬ g_rc M0 n l k = 0 → ax_div (g_rc M0 n l k - 1) 2 = l → P) → (k = 26 → ¬ g_rc M0 n l k = 0 → ¬ ax_div (g_rc M0 n l k - 1) 2 = l → P) → (k < 26 → ¬ g_rc M0 n l k = 0 → ¬ ax_div (g_rc M0 n l k - 1) 2 = l → P) → P := fun k k0 _ P a1 a2 a3 a4 => by
        by_cases z : g_rc M0 n l k = 0
        · exact a1 z
        · by_cases y : ax_div (g_rc M0 n l k - 1) 2 = l
          · exact a2 z y
          · by_cases x : k = 26
            · exact a3 x z y
            · exact a4 (by omega) z y
      have dv : ∀ k, ¬ g_rc M0 n l k = 0 → ax_div (g_rc M0 n l k - 1) 2 = (g_rc M0 n l k - 1) / 2 := fun k z => b_div (by have := rb k; omega)
      have rr : ∀ k, ax_rg (g_rc M0 n l k) := fun k => by have := rb k; exact ⟨by omega, by omega⟩
      intro m
      induction m with
      | zero =>
        intro k k0 k1 hn
        have ek : k = 26 := by omega
        have none0 : g_rc M0 n l k = 0 → ¬ (¬ M0 232 (26 * n + l) = 0 ∧ g_rm M0 n l) := fun z y => by
          obtain ⟨x, x0, x1, x2⟩ := y.2
          by_cases u : x < k
          · exact hn x u ⟨x1, x2⟩
          · have ex : x = k := by omega
            rw [ex] at x1; exact x1 z
        refine r_Model_checkRings_38 b.2.2.1 rn rl rs (rr k) ⟨by omega, by omega⟩ ⟨fun _ => ⟨fun z => same (none0 z) _ _ _ (ax_y_i _) (ax_y_i _) (ax_y_i _), fun z => ⟨fun y => ⟨bs, note ⟨k, k0, z, by rw [← dv k z]; exact y⟩ _ _ _ (ax_y_i _) (ax_y_i _) (ax_y_i _)⟩, fun y => same (fun x => ?_) _ _ _ (ax_y_i _) (ax_y_i _) (ax_y_i _)⟩⟩, fun z => by omega⟩
        obtain ⟨x', x0, x1, x2⟩ := x.2
        by_cases u : x' < k
        · exact hn x' u ⟨x1, x2⟩
        · have ex : x' = k := by omega
          rw [ex] at x2; exact y (by rw [dv k z]; exact x2)
      | succ m ih =>
        intro k k0 k1 hn
        by_cases ek : k = 26
        · exact ih k k0 (by omega) hn
        · have none0 : g_rc M0 n l k = 0 → ¬ (¬ M0 232 (26 * n + l) = 0 ∧ g_rm M0 n l) := fun z y => by
            obtain ⟨x, x0, x1, x2⟩ := y.2
            by_cases u : x < k
            · exact hn x u ⟨x1, x2⟩
            · have := g_rc_0 M0 z (x - k)
              rw [show k + (x - k) = x by omega] at this
              exact x1 this
          refine r_Model_checkRings_38 b.2.2.1 rn rl rs (rr k) ⟨by omega, by omega⟩ ⟨fun z => by omega, fun _ => ⟨fun z => ⟨fun z => same (none0 z) _ _ _ (ax_y_i _) (ax_y_i _) (ax_y_i _), fun y => absurd z y⟩, fun z => ⟨fun y => ⟨fun x => absurd x z, fun _ => ⟨fun _ => ⟨bs, note ⟨k, k0, z, by rw [← dv k z]; exact y⟩ _ _ _ (ax_y_i _) (ax_y_i _) (ax_y_i _)⟩, fun x => absurd y x⟩⟩, fun y => ?_⟩⟩⟩
          have rk := rb k
          rw [dv k z] at y ⊢
          refine ⟨⟨by omega, by omega⟩, ?_⟩
          rw [b.1 235 (by decide)]
          have js : g_rc M0 n l (k + 1) = M0 235 (26 * n + (g_rc M0 n l k - 1) / 2) := if_neg z
          rw [← js]
          have := ih (k + 1) (by omega) (by omega) (fun x x0 x1 => by
            by_cases u : x = k
            · rw [u] at x1; exact y x1.2
            · exact hn x (by omega) x1)
          exact this
    have := lp 26 0 (by omega) (by omega) (fun x x0 => by omega)
    exact this
  · obtain ⟨hl, hH⟩ := hI
    have el : l = 26 := by omega
    rw [el] at hH ⊢
    exact r_Model_checkRings_2 hH.2.2.1 rn (by decide) hy3 hy4 hy5 ⟨fun _ => h V1 hH, fun z => absurd z (by decide)⟩
end Kind4N
