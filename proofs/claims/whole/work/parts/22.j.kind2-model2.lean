/-! THE MODEL, FAULTS 2: parts, letters, states of a node -/
abbrev g_Y2 : List Nat := [222, 238, 239, 251]
abbrev g_K2 : List Int := [10, 73]
/-- kind 2, while it goes on: n the node, P the parts whose calls are known, D the heads that have been seen, T what is noted -/
def g_EA (C0 M0 M : ax_V) (D : Int → Prop) : Prop := ∀ s, 0 ≤ s → s < 26 * (M0 222 86) →
  ((M 239 s = -1 ∧ ∀ i, 0 ≤ i → i < (M0 222 52) → D i → C0 554 i = s → M0 263 (g_eo M0 i) = -1) ∨ (∃ i, (0 ≤ i ∧ i < (M0 222 52)) ∧ D i ∧ C0 554 i = s ∧ ¬ M0 263 (g_eo M0 i) = -1 ∧ M 239 s = M0 263 (g_eo M0 i))) ∧
  ((M 238 s = -1 ∧ ∀ i, 0 ≤ i → i < (M0 222 52) → D i → C0 554 i = s → ¬ M0 263 (g_eo M0 i) = -1) ∨ (∃ i, (0 ≤ i ∧ i < (M0 222 52)) ∧ D i ∧ C0 554 i = s ∧ M0 263 (g_eo M0 i) = -1 ∧ M 238 s = g_eo M0 i))
def g_M2 (C0 M0 M : ax_V) (n : Int) (P D : Int → Prop) (T : Int → Prop) : Prop := (g_fr g_Y2 M0 M ∧ g_sc g_K2 M0 M ∧ ax_g M ∧ (M 222 10) = n) ∧ (∀ q, 0 ≤ q → q < (M0 222 26) → P q → M0 241 q = 22 → M 251 q = C0 520 q) ∧ g_EA C0 M0 M D ∧ ∀ t, t < 701 → (m_nb M ≤ t ↔ T t)
section Kind2N
variable {d : Nat} {M0 C0 M : ax_V} {n : Int} {P D : Int → Prop} {T : Int → Prop} {Φ : Int → ax_V → Prop} {Ψ Θ : ax_V → Prop}
theorem g_M2.of {T' : Int → Prop} (h : g_M2 C0 M0 M n P D T) (k : ∀ t, t < 701 → (T t ↔ T' t)) : g_M2 C0 M0 M n P D T' := ⟨h.1, h.2.1, h.2.2.1, fun t w => (h.2.2.2 t w).trans (k t w)⟩
theorem g_M2.nt {p : Int} (h : g_M2 C0 M0 M n P D T) (hp : e_pl p) : g_M2 C0 M0 (m_nt M p) n P D (fun t => T t ∨ p ≤ t) := by
  obtain ⟨⟨a1, a2, a3, a4⟩, b, c, e⟩ := h
  refine ⟨⟨a1.nt (by decide), a2.nt (by decide), m_nt_g a3 ⟨by omega, by omega⟩, by rw [m_nt_o (by decide)]; exact a4⟩, ?_, ?_, fun t w => ?_⟩
  · rw [m_nt_ne (by decide)]; exact b
  · intro s s0 s1; rw [m_nt_ne (by decide), m_nt_ne (by decide)]; exact c s s0 s1
  · rw [m_nt_le hp w, e t w]
theorem g_M2.mE (h : g_M2 C0 M0 M n P D T) : g_mE M0 M := ⟨fun c z => h.1.1 c (by simp; omega), h.1.2.1 44 (by decide)⟩
theorem s_atJ {l : Int} (h : g_M2 C0 M0 M n P D T) (hn : 0 ≤ n ∧ n < 8) (hl : 0 ≤ l ∧ l < 26) (k : Φ (26 * n + l) M) : ax_I ay_lay (d + 1) q_Model_at [.ref 222, ax_i l] M Φ Θ := by
  refine s_at h.1.2.2.1 hl (by rw [h.1.2.2.2]; exact ⟨by omega, by omega⟩) ?_
  rw [h.1.2.2.2]; exact k
theorem s_needTruth {l p : Int} (h : g_M2 C0 M0 M n P D T) (hn : 0 ≤ n ∧ n < 8) (hl : 0 ≤ l ∧ l < 26) (hp : e_pl p) (h1 : g_nt M0 (26 * n + l) → Ψ (m_nt M p)) (h2 : ¬ g_nt M0 (26 * n + l) → Ψ M) : ax_N ay_lay (d + 2) q_Model_needTruth [.ref 222, ax_i l, ax_i p] M Ψ Θ := by
  have b : 0 ≤ 26 * n + l ∧ 26 * n + l < 240 := ⟨by omega, by omega⟩
  have rp : ax_rg p := ⟨by omega, by omega⟩
  refine r_Model_needTruth h.1.2.2.1 ⟨by omega, by omega⟩ rp (s_atJ h hn hl ⟨b, fun q => ?_, fun q => s_atJ h hn hl ⟨b, fun q2 => ?_, fun q2 => ?_⟩⟩)
  · rw [h.1.1 232 (by decide)] at q
    exact s_noteE h.1.2.2.1 rp (h1 (Or.inl q))
  · rw [h.1.1 233 (by decide)] at q2
    exact s_noteE h.1.2.2.1 rp (h1 (Or.inr q2))
  · rw [h.1.1 232 (by decide)] at q
    rw [h.1.1 233 (by decide)] at q2
    exact h2 (fun z => by rcases z with z | z; exact q z; exact q2 z)
theorem s_needLetter {l p : Int} (h : g_M2 C0 M0 M n P D T) (hn : 0 ≤ n ∧ n < 8) (hl : 0 ≤ l ∧ l < 26) (hp : e_pl p) (h1 : M0 232 (26 * n + l) = 0 → Ψ (m_nt M p)) (h2 : ¬ M0 232 (26 * n + l) = 0 → Ψ M) : ax_N ay_lay (d + 2) q_Model_needLetter [.ref 222, ax_i l, ax_i p] M Ψ Θ := by
  have b : 0 ≤ 26 * n + l ∧ 26 * n + l < 240 := ⟨by omega, by omega⟩
  have rp : ax_rg p := ⟨by omega, by omega⟩
  refine r_Model_needLetter h.1.2.2.1 ⟨by omega, by omega⟩ rp (s_atJ h hn hl ⟨b, fun q => ?_, fun q => ?_⟩)
  · rw [h.1.1 232 (by decide)] at q
    exact s_noteE h.1.2.2.1 rp (h1 q)
  · rw [h.1.1 232 (by decide)] at q
    exact h2 q
set_option maxHeartbeats 2000000 in
theorem s_checkPart {q : Int} (hS : g_S C0 M0) (h : g_M2 C0 M0 M n P D T) (n0 : 0 ≤ n) (n1 : n < (M0 222 86)) (q0 : 0 ≤ q) (q1 : q < (M0 222 26)) (nq : M0 250 q = n) (k : ∀ M', g_M2 C0 M0 M' n (fun x => P x ∨ x = q) D (fun t => T t ∨ g_bp M0 q t) → Ψ M') : ax_N ay_lay (d + 3) q_Model_checkPart [.ref 222, ax_i q] M Ψ Θ := by
  have hN := hS.2.1
  have hat := hS.2.2.2.2.2.2.2
  have p0 := hS.2.2.1.1
  have hn : 0 ≤ n ∧ n < 8 := ⟨n0, by omega⟩
  obtain ⟨u1, u2, u3, u4, u5, u6, u7, u8⟩ := hS.p q0 q1
  obtain ⟨t1, t2, t3, t4, t5, t6, t7⟩ := u7
  rw [nq] at t3 t4 t7
  have b : 0 ≤ q ∧ q < 701 := ⟨q0, by omega⟩
  have hg := h.1.2.2.1
  have m241 : M 241 = M0 241 := h.1.1 241 (by decide)
  have m244 : M 244 = M0 244 := h.1.1 244 (by decide)
  have m248 : M 248 = M0 248 := h.1.1 248 (by decide)
  -- parts that are no calls
  have nc : ¬ M0 241 q = 22 → ∀ M' T', g_M2 C0 M0 M' n P D T' → (∀ t, t < 701 → (T' t ↔ (T t ∨ g_bp M0 q t))) → Ψ M' := by
    intro o M' T' h' hT'
    refine k M' ⟨h'.1, fun x x0 x1 px ox => ?_, h'.2.2.1, fun t w => (h'.2.2.2 t w).trans (hT' t w)⟩
    rcases px with px | px
    · exact h'.2.1 x x0 x1 px ox
    · rw [px] at ox; exact absurd ox o
  refine r_Model_checkPart hg ⟨by omega, by omega⟩ ⟨b, ?_⟩
  rw [m241, m244, m248]
  refine ⟨fun o => ⟨b, b, ?_⟩, fun o => ⟨b, b, ?_⟩, fun o => ⟨b, b, ?_⟩, fun o => ⟨b, fun V6 e6 => ?_⟩, fun n2 n3 n20 n21 n22 => nc n22 M T h (fun t _ => ?_)⟩
  · obtain ⟨l1, l2, l3, l4, l5⟩ := t3 (Or.inl o)
    have gp : ∀ t, g_bp M0 q t ↔ (M0 232 (26 * n + M0 248 q) = 0 ∧ M0 244 q ≤ t) := by
      intro t; unfold g_bp; rw [nq]
      constructor
      · rintro (⟨-, y⟩ | ⟨y, -⟩ | ⟨y, -⟩ | ⟨y, -⟩)
        · exact y
        · omega
        · omega
        · omega
      · intro y; exact Or.inl ⟨o, y⟩
    refine s_needLetter h hn l1 l4 (fun z => nc (by omega) _ _ (h.nt l4) (fun t _ => ?_)) (fun z => nc (by omega) _ _ h (fun t _ => ?_))
    · rw [gp t]; exact ⟨fun y => by rcases y with y | y; exact Or.inl y; exact Or.inr ⟨z, y⟩, fun y => by rcases y with y | y; exact Or.inl y; exact Or.inr y.2⟩
    · rw [gp t]; exact ⟨fun y => Or.inl y, fun y => by rcases y with y | y; exact y; exact absurd y.1 z⟩
  · obtain ⟨l1, l2, l3, l4, l5⟩ := t3 (Or.inr (Or.inl o))
    have f := hS.l n0 n1 l1.1 l1.2
    have gp : ∀ t, g_bp M0 q t ↔ (M0 236 (26 * n + M0 248 q) = 0 ∧ M0 244 q ≤ t) := by
      intro t; unfold g_bp; rw [nq]
      constructor
      · rintro (⟨y, -⟩ | ⟨-, y⟩ | ⟨y, -⟩ | ⟨y, -⟩)
        · omega
        · exact y
        · omega
        · omega
      · intro y; exact Or.inr (Or.inl ⟨o, y⟩)
    -- behind the letter
    have nx : ∀ M1 T1, g_M2 C0 M0 M1 n P D T1 → (∀ t, t < 701 → (T1 t ↔ T t) ∨ (M0 236 (26 * n + M0 248 q) = 0 ∧ (T1 t ↔ (T t ∨ M0 244 q ≤ t)))) → (0 ≤ q ∧ q < 701) ∧ ax_I ay_lay (d + 2) q_Model_at [.ref 222, ax_i (M1 248 q)] M1 (fun r3 V3 => (0 ≤ r3 ∧ r3 < 240) ∧ ((V3 236 r3 = 0 → (0 ≤ q ∧ q < 701) ∧ ax_N ay_lay (d + 2) q_Model_note [.ref 222, ax_i (V3 244 q)] V3 (fun V4 => Ψ V4) Θ) ∧ (¬ V3 236 r3 = 0 → Ψ V3))) Θ := by
      intro M1 T1 h1 hT1
      refine ⟨b, ?_⟩
      rw [h1.1.1 248 (by decide)]
      refine s_atJ h1 hn l1 ?_
      rw [h1.1.1 236 (by decide), h1.1.1 244 (by decide)]
      refine ⟨⟨by omega, by omega⟩, fun z => ⟨b, s_noteE h1.1.2.2.1 ⟨by omega, by omega⟩ (nc (by omega) _ _ (h1.nt l4) (fun t w => ?_))⟩, fun z => nc (by omega) _ _ h1 (fun t w => ?_)⟩
      · rw [gp t]
        rcases hT1 t w with y | ⟨-, y⟩
        · rw [y]; exact ⟨fun x => by rcases x with x | x; exact Or.inl x; exact Or.inr ⟨z, x⟩, fun x => by rcases x with x | x; exact Or.inl x; exact Or.inr x.2⟩
        · rw [y]; exact ⟨fun x => by rcases x with (x | x) | x; exact Or.inl x; exact Or.inr ⟨z, x⟩; exact Or.inr ⟨z, x⟩, fun x => by rcases x with x | x; exact Or.inl (Or.inl x); exact Or.inr x.2⟩
      · rw [gp t]
        rcases hT1 t w with y | ⟨y, -⟩
        · rw [y]; exact ⟨fun x => Or.inl x, fun x => by rcases x with x | x; exact x; exact absurd x.1 z⟩
        · exact absurd y z
    refine s_needLetter h hn l1 l4 (fun z => nx _ _ (h.nt l4) (fun t _ => Or.inr ⟨(f.2.1 z).2.2, Iff.rfl⟩)) (fun z => nx _ _ h (fun t _ => Or.inl Iff.rfl))
  · have gp : ∀ t, g_bp M0 q t ↔ (g_nt M0 (26 * n + M0 248 q) ∧ M0 244 q ≤ t) := by
      intro t; unfold g_bp; rw [nq]
      constructor
      · rintro (⟨y, -⟩ | ⟨y, -⟩ | ⟨-, y⟩ | ⟨y, -⟩)
        · omega
        · omega
        · exact y
        · omega
      · intro y; exact Or.inr (Or.inr (Or.inl ⟨o, y⟩))
    have ll : (0 ≤ M0 248 q ∧ M0 248 q < 26) ∧ e_pl (M0 244 q) := by
      rcases o with o | o
      · exact ⟨(t4 o).1, (t4 o).2.2.2.2.1⟩
      · exact ⟨(t3 (Or.inr (Or.inr o))).1, (t3 (Or.inr (Or.inr o))).2.2.2.1⟩
    refine s_needTruth h hn ll.1 ll.2 (fun z => nc (by omega) _ _ (h.nt ll.2) (fun t _ => ?_)) (fun z => nc (by omega) _ _ h (fun t _ => ?_))
    · rw [gp t]; exact ⟨fun y => by rcases y with y | y; exact Or.inl y; exact Or.inr ⟨z, y⟩, fun y => by rcases y with y | y; exact Or.inl y; exact Or.inr y.2⟩
    · rw [gp t]; exact ⟨fun y => Or.inl y, fun y => by rcases y with y | y; exact y; exact absurd y.1 z⟩
  · obtain ⟨l1, l2, l3, l4, l5⟩ := t7 o
    have m10 : V6 222 10 = n := by rw [e6, ax_u_ne (by decide)]; exact h.1.2.2.2
    rw [m10]
    -- the name, from the last one down
    refine ax_ford (I := fun j V => (-1 ≤ j ∧ j < n) ∧ (∃ v, V = ax_u M 251 q v ∧ ((v = -1 ∧ ∀ x, j < x → x < n → ¬ M0 226 x = M0 249 q) ∨ (j < v ∧ v < n ∧ M0 226 v = M0 249 q ∧ ∀ x, j < x → x < v → ¬ M0 226 x = M0 249 q)))) (K := fun j V => k_Model_checkPart_155 (d + 2) q j V Ψ Θ) (lo := 0) (fun j V w hI next => ?_) (fun j V w hI => ?_) (n - 1) V6 ⟨⟨by omega, by omega⟩, -1, e6, Or.inl ⟨rfl, fun x a b => by omega⟩⟩
    · obtain ⟨hj, v, eV, hv⟩ := hI
      have gV : ax_g V := by rw [eV]; exact ax_u_g hg ⟨by omega, by omega⟩
      have v226 : V 226 = M0 226 := by rw [eV, ax_u_ne (by decide)]; exact h.1.1 226 (by decide)
      have v249 : V 249 = M0 249 := by rw [eV, ax_u_ne (by decide)]; exact h.1.1 249 (by decide)
      refine r_Model_checkPart_155 gV ⟨by omega, by omega⟩ ⟨by omega, by omega⟩ ⟨fun z => by omega, fun _ => ?_⟩
      rw [v226, v249]
      refine ⟨⟨by omega, by omega⟩, b, fun z => ⟨b, fun V4 e4 => ?_⟩, fun z => ?_⟩
      · refine next V4 ⟨⟨by omega, by omega⟩, j, ?_, Or.inr ⟨by omega, hj.2, z, fun x a c => by omega⟩⟩
        rw [e4, eV]
        funext c i
        unfold ax_u
        by_cases y : c = 251 ∧ i = q
        · rw [if_pos y, if_pos y]
        · rw [if_neg y, if_neg y, if_neg y]
      · refine next V ⟨⟨by omega, by omega⟩, v, eV, ?_⟩
        rcases hv with ⟨a, c⟩ | ⟨a, c, e, f⟩
        · exact Or.inl ⟨a, fun x y1 y2 => by by_cases y : x = j; rw [y]; exact z; exact c x (by omega) y2⟩
        · exact Or.inr ⟨by omega, c, e, fun x y1 y2 => by by_cases y : x = j; rw [y]; exact z; exact f x (by omega) y2⟩
    · obtain ⟨hj, v, eV, hv⟩ := hI
      have ej : j = -1 := by omega
      have gV : ax_g V := by rw [eV]; exact ax_u_g hg ⟨by omega, by omega⟩
      have ev : v = C0 520 q := by
        rcases l5 with ⟨z1, z2⟩ | ⟨z1, z2, z3, z4⟩
        · rcases hv with ⟨a, -⟩ | ⟨a, c, e, -⟩
          · omega
          · exact absurd e (z2 v (by omega) c)
        · rcases hv with ⟨-, c⟩ | ⟨a, c, e, f⟩
          · exact absurd z3 (c _ (by omega) z2)
          · rcases Int.lt_trichotomy v (C0 520 q) with y | y | y
            · exact absurd e (z4 v (by omega) y)
            · exact y
            · exact absurd z3 (f _ (by omega) y)
      have none' : v = -1 ↔ ∀ x, 0 ≤ x → x < n → ¬ M0 226 x = M0 249 q := by
        rcases hv with ⟨a, c⟩ | ⟨a, c, e, f⟩
        · exact ⟨fun _ x y1 y2 => c x (by omega) y2, fun _ => a⟩
        · exact ⟨fun z => by omega, fun z => absurd e (z v (by omega) c)⟩
      have hV : g_M2 C0 M0 V n (fun x => P x ∨ x = q) D T := by
        obtain ⟨⟨a1, a2, a3, a4⟩, bb, c, e⟩ := h
        refine ⟨⟨by rw [eV]; exact a1.u (by decide), by rw [eV]; exact a2.a (by decide), gV, by rw [eV, ax_u_ne (by decide)]; exact a4⟩, fun x x0 x1 px ox => ?_, fun s s0 s1 => by rw [eV, ax_u_ne (by decide), ax_u_ne (by decide)]; exact c s s0 s1, fun t w => ?_⟩
        · rw [eV]
          by_cases y : x = q
          · rw [y, ax_u_s]; exact ev
          · rw [ax_u_k y]
            rcases px with px | px
            · exact bb x x0 x1 px ox
            · exact absurd px y
        · have : m_nb V = m_nb M := by unfold m_nb; rw [eV, ax_u_ne (by decide)]
          rw [this]; exact e t w
      have gp : ∀ t, g_bp M0 q t ↔ ((v = -1 ∧ M0 243 q ≤ t) ∨ (¬ M0 248 q = -1 ∧ g_nt M0 (26 * n + M0 248 q) ∧ M0 244 q ≤ t)) := by
        intro t; unfold g_bp; rw [nq, none']
        constructor
        · rintro (⟨y, -⟩ | ⟨y, -⟩ | ⟨y, -⟩ | ⟨-, y⟩)
          · omega
          · omega
          · omega
          · exact y
        · intro y; exact Or.inr (Or.inr (Or.inr ⟨o, y⟩))
      -- the letter behind ^
      have nx : ∀ V2 T2, g_M2 C0 M0 V2 n (fun x => P x ∨ x = q) D T2 → (∀ t, t < 701 → (T2 t ↔ (T t ∨ (v = -1 ∧ M0 243 q ≤ t)))) → (0 ≤ q ∧ q < 701) ∧ ((V2 248 q = -1 → Ψ V2) ∧ (¬ V2 248 q = -1 → (0 ≤ q ∧ q < 701) ∧ (0 ≤ q ∧ q < 701) ∧ ax_N ay_lay (d + 2) q_Model_needTruth [.ref 222, ax_i (V2 248 q), ax_i (V2 244 q)] V2 (fun V3 => Ψ V3) Θ)) := by
        intro V2 T2 h2 hT2
        rw [h2.1.1 248 (by decide), h2.1.1 244 (by decide)]
        refine ⟨b, fun z => k V2 (h2.of (fun t w => ?_)), fun z => ⟨b, b, s_needTruth h2 hn ⟨by omega, l2.2⟩ (l4 (by omega)).2.2 (fun y => k _ ((h2.nt (l4 (by omega)).2.2).of (fun t w => ?_))) (fun y => k V2 (h2.of (fun t w => ?_)))⟩⟩
        · rw [hT2 t w, gp t]
          exact ⟨fun x => by rcases x with x | x; exact Or.inl x; exact Or.inr (Or.inl x), fun x => by rcases x with x | x | x; exact Or.inl x; exact Or.inr x; exact absurd z x.1⟩
        · rw [hT2 t w, gp t]
          exact ⟨fun x => by rcases x with (x | x) | x; exact Or.inl x; exact Or.inr (Or.inl x); exact Or.inr (Or.inr ⟨z, y, x⟩), fun x => by rcases x with x | x | x; exact Or.inl (Or.inl x); exact Or.inl (Or.inr x); exact Or.inr x.2.2⟩
        · rw [hT2 t w, gp t]
          exact ⟨fun x => by rcases x with x | x; exact Or.inl x; exact Or.inr (Or.inl x), fun x => by rcases x with x | x | x; exact Or.inl x; exact Or.inr x; exact absurd x.2.1 y⟩
      have v251 : V 251 q = v := by rw [eV]; exact ax_u_s _ _ _ _
      refine r_Model_checkPart_155 gV ⟨by omega, by omega⟩ ⟨by omega, by omega⟩ ⟨fun _ => ?_, fun z => by omega⟩
      rw [v251, hV.1.1 243 (by decide)]
      refine ⟨b, fun z => ⟨b, s_noteE gV ⟨by omega, by omega⟩ (nx _ _ (hV.nt l1.2) (fun t w => ?_))⟩, fun z => nx _ _ hV (fun t w => ?_)⟩
      · exact ⟨fun x => by rcases x with x | x; exact Or.inl x; exact Or.inr ⟨z, x⟩, fun x => by rcases x with x | x; exact Or.inl x; exact Or.inr x.2⟩
      · exact ⟨fun x => Or.inl x, fun x => by rcases x with x | x; exact x; exact absurd x.1 z⟩
  · constructor
    · intro z; exact Or.inl z
    · rintro (z | z)
      · exact z
      · unfold g_bp at z
        rcases z with z | z | z | z
        · exact absurd z.1 n2
        · exact absurd z.1 n3
        · rcases z.1 with y | y
          · exact absurd y n20
          · exact absurd y n21
        · exact absurd z.1 n22
end Kind2N
