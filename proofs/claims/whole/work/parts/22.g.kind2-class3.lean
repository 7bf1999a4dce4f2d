/-! THE CLASS, FAULTS 2: states and tellings; all of a node -/
/-- the letter l has an equation in the state s of the automaton a -/
def g_in (M : ax_V) (a s l : Int) : Prop := ∃ e i, g_of M e i ∧ M 263 e = a ∧ M 264 e = s ∧ M 265 i = l
def g_bs (M : ax_V) (a t : Int) : Prop := ((∃ l s s', (0 ≤ l ∧ l < 26) ∧ (0 ≤ s ∧ s < M 269 a) ∧ (0 ≤ s' ∧ s' < M 269 a) ∧ g_in M a s l ∧ ¬ g_in M a s' l) ∧ M 268 a ≤ t) ∨ ∃ m, (0 ≤ m ∧ m < (M 222 60)) ∧ M 271 m = a ∧ M 269 a ≤ M 275 m ∧ M 278 m ≤ t
section Kind2E
variable {B r d : Nat} {C0 M0 C : ax_V} {Ψ Θ : ax_V → Prop}
theorem g_S.au (hS : g_S C0 M0) {a : Int} (a0 : 0 ≤ a) (a1 : a < (M0 222 55)) : f_a C0 M0 a ∧ f_ac C0 M0 a := ⟨hS.2.2.2.2.1.2.2.1 a a0 a1, hS.2.2.2.2.1.2.2.2.1 a a0 a1⟩
theorem g_S.mvN (hS : g_S C0 M0) {a m : Int} (a0 : 0 ≤ a) (a1 : a < (M0 222 55)) (m0 : 0 ≤ m) (m1 : m < (M0 222 60)) : (C0 559 a ≤ m ∧ m < C0 559 (a + 1)) ↔ M0 271 m = a := by
  have ft := hS.2.2.2.2.1.2.2.2.2.1 m m0 m1
  have hc := hS.2.2.2.2.1.1.2.2.1.1
  obtain ⟨b, eb⟩ : ∃ b : Int, b = M0 271 m := ⟨_, rfl⟩
  have hb : 0 ≤ b ∧ b < (M0 222 55) := by
    rw [eb]
    rcases ft.1.2 with z | ⟨z1, z2, -⟩
    · have := ft.1.1; omega
    · exact ⟨z1, by omega⟩
  have fr : ∀ (k : Nat) (x : Int), 0 ≤ x → x + (k : Int) ≤ (M0 222 55) → 0 < (k : Int) → C0 559 (x + 1) ≤ C0 559 (x + (k : Int)) := by
    intro k
    induction k with
    | zero => intro x _ _ z; omega
    | succ k ih =>
      intro x x0 x1 _
      by_cases w : k = 0
      · rw [w, show x + ((0 + 1 : Nat) : Int) = x + 1 by omega]; exact Int.le_refl _
      · have u := ih x x0 (by omega) (by omega)
        have v := (hS.au (a := x + (k : Int)) (by omega) (by omega)).1.2.2.2.1
        rw [show x + ((k + 1 : Nat) : Int) = x + (k : Int) + 1 by omega]
        omega
  have ft2 := ft.2.1
  rw [← eb] at ft2 ⊢
  constructor
  · intro q
    rcases Int.lt_trichotomy b a with w | w | w
    · have := fr (a - b).toNat b hb.1 (by omega) (by omega)
      rw [show b + (((a - b).toNat : Nat) : Int) = a by omega] at this
      omega
    · exact w
    · have := fr (b - a).toNat a a0 (by omega) (by omega)
      rw [show a + (((b - a).toNat : Nat) : Int) = b by omega] at this
      omega
  · intro q; rw [← q]; exact ft2
/-- what a state's mask says -/
theorem g_S.mask (hS : g_S C0 M0) {H a s l : Int} (hM : g_Msk C0 M0 C H) (a0 : 0 ≤ a) (a1 : a < (M0 222 55)) (hH : ∀ i, 0 ≤ i → i < (M0 222 52) → M0 258 (g_eo M0 i) = M0 267 a → i < H) (hH2 : H ≤ (M0 222 52)) (s0 : 0 ≤ s) (s1 : s < M0 269 a) (l0 : 0 ≤ l) (l1 : l < 26) : b_ok (C 564 (C0 558 a + s)) ∧ (b_in (C 564 (C0 558 a + s)) l ↔ g_in M0 a s l) := by
  obtain ⟨fa, fc⟩ := hS.au a0 a1
  have fa3 := fa.2.2.1
  have fc1 := fc.1
  obtain ⟨m1, m2⟩ := hM a (C0 558 a + s) a0 a1 (by omega) (by omega) (by omega)
  refine ⟨m1, ?_⟩
  rw [m2 l l0 l1]
  constructor
  · rintro ⟨i, i0, i1, i2⟩
    have ho := hS.eo i0.1 (by omega : i < (M0 222 52))
    refine ⟨g_eo M0 i, i, ho, ?_⟩
    rcases hS.st ho.1.1 ho.1.2 with z | ⟨z1, z2, z3, z4, z5, z6, z7⟩
    · omega
    · rw [i1, (fa.2.2.2.2.2 _ (by omega) (by omega)).1] at z3
      rw [← z3] at z5
      exact ⟨z3.symm, by omega, i2⟩
  · rintro ⟨e, i, ho, e1, e2, e3⟩
    have il := hS.ofl ho
    have eo := hS.eoe ho
    rcases hS.st ho.1.1 ho.1.2 with z | ⟨z1, z2, z3, z4, z5, z6, z7⟩
    · omega
    · rw [e1] at z5 z7
      exact ⟨i, ⟨il.1, hH i il.1 il.2 (by rw [eo]; exact z7.symm)⟩, by rw [eo]; omega, e3⟩
theorem g_J1.up {C1 C2 : ax_V} {T1 T2 : Int → Prop} (h : g_J1 C C1 T1) (k : g_J1 C1 C2 T2) : g_J1 C C2 T2 := ⟨h.1.tr k.1, k.2.1, k.2.2⟩
set_option maxHeartbeats 4000000 in
theorem t_judgeStates {n H : Int} {T : Int → Prop} (hS : g_S C0 M0) (hf : g_fr g_X2 C0 C) (hg : ax_g C) (hM : g_Msk C0 M0 C H) (hH : ∀ i, 0 ≤ i → i < (M0 222 52) → M0 258 (g_eo M0 i) = n → i < H) (hH2 : H ≤ (M0 222 52)) (hT : ∀ t, (C 601 5) ≤ t ↔ T t) (n0 : 0 ≤ n) (n1 : n < (M0 222 86)) (h : ∀ C', g_J1 C C' (fun t => T t ∨ ∃ a, (0 ≤ a ∧ a < (M0 222 55)) ∧ M0 267 a = n ∧ g_bs M0 a t) → Ψ C') : ax_N (az_W B (az_EJ B r)) (d + 2) q_Judge_judgeStates [.ref r, ax_i n] C Ψ Θ := by
  have hN := hS.2.1
  have hat := hS.2.2.2.2.2.2.2
  have hct := hS.2.2.2.2.1.1
  have hc3 := hct.2.2.1
  have hc4 := hct.2.2.2.1
  have hc5 := hct.2.2.2.2.1
  have e0 := hS.eqF n0 (by omega)
  have e1 := hS.eqF (n := n + 1) (by omega) (by omega)
  have e2 := hS.eqS n0 n1
  have rn : ax_rg n := ⟨by omega, by omega⟩
  obtain ⟨A0, eA0⟩ : ∃ A : Int, A = C0 510 n := ⟨_, rfl⟩
  obtain ⟨A1, eA1⟩ : ∃ A : Int, A = C0 510 (n + 1) := ⟨_, rfl⟩
  have fc : ∀ {V : ax_V} {T' : Int → Prop}, g_J1 C V T' → ∀ c, c ≠ 601 → c ∉ g_X2 → V c = C0 c := fun hJ c z z2 => by rw [hJ.1 c (by simpa using z)]; exact hf c z2
  refine r_Judge_judgeStates hg rn ⟨⟨by omega, by omega⟩, ?_⟩
  rw [hf 510 (by decide), ← eA0]
  refine ax_for (I := fun a V => (A0 ≤ a ∧ a ≤ A1) ∧ g_J1 C V (fun t => T t ∨ ∃ k, (A0 ≤ k ∧ k < a) ∧ g_bs M0 k t)) (K := fun a V => ∀ y3 y4, ax_y y3 → ax_y y4 → k_Judge_judgeStates_10 B r (d + 1) n a y3 y4 V Ψ Θ) (hi := A1) (fun a V w hI next y3 y4 hy3 hy4 => ?_) (fun a V w hI y3 y4 hy3 hy4 => ?_) A0 C ⟨⟨Int.le_refl _, by omega⟩, g_fr.rf _ _, hg, fun t => by rw [hT t]; exact ⟨fun z => Or.inl z, fun z => by rcases z with z | ⟨k, k0, -⟩; exact z; omega⟩⟩ none none ax_y_n ax_y_n
  · obtain ⟨ha, hJ⟩ := hI
    have a0 : 0 ≤ a := by omega
    have a1 : a < (M0 222 55) := by omega
    have na : M0 267 a = n := (hS.aN a0 a1 n0 n1).mp ⟨by omega, by omega⟩
    obtain ⟨fa, fac⟩ := hS.au a0 a1
    obtain ⟨fa1, fa2, fa3, fa4, fa5, fa6⟩ := fa
    have fac1 := fac.1
    have fac2 := fac.2
    obtain ⟨F, eF⟩ : ∃ F : Int, F = C0 558 a := ⟨_, rfl⟩
    obtain ⟨N, eN⟩ : ∃ N : Int, N = M0 269 a := ⟨_, rfl⟩
    rw [← eF] at fac1 fa3 fa6
    rw [← eN] at fac1 fac2
    have rp : ax_rg (M0 268 a) := by have := fa2.2; exact ⟨by omega, by omega⟩
    have mk := fun s (s0 : 0 ≤ s) (s1 : s < N) l l0 l1 => hS.mask (C := C) (s := s) (l := l) hM a0 a1 (by rw [na]; exact hH) hH2 s0 (by rw [← eN]; exact s1) l0 l1
    rw [← eF] at mk
    have v510 : V 510 = C0 510 := fc hJ 510 (by decide) (by decide)
    have v558 : V 558 = C0 558 := fc hJ 558 (by decide) (by decide)
    refine r_Judge_judgeStates_10 hJ.2.1 rn ⟨by omega, by omega⟩ hy3 hy4 ⟨⟨by omega, by omega⟩, fun q => by rw [v510] at q; omega, fun _ => ⟨⟨by omega, by omega⟩, ?_⟩⟩
    rw [v558, ← eF]
    -- its states
    refine ax_for (I := fun s V' => (F ≤ s ∧ s ≤ F + N) ∧ g_J1 C V' (fun t => (T t ∨ ∃ k, (A0 ≤ k ∧ k < a) ∧ g_bs M0 k t) ∨ ((∃ k, (F ≤ k ∧ k < s) ∧ ¬ C 564 k = C 564 F) ∧ M0 268 a ≤ t))) (K := fun s V' => k_Judge_judgeStates_38 B r (d + 1) n a F s V' Ψ Θ) (hi := F + N) (fun s V' w2 hI2 next2 => ?_) (fun s V' w2 hI2 => ?_) F V ⟨⟨Int.le_refl _, by omega⟩, hJ.of (fun t => ⟨fun z => Or.inl z, fun z => by rcases z with z | ⟨⟨k, k0, -⟩, -⟩; exact z; omega⟩)⟩
    · obtain ⟨hs, hJ2⟩ := hI2
      have x558 : V' 558 = C0 558 := fc hJ2 558 (by decide) (by decide)
      have x557 : V' 557 = C0 557 := fc hJ2 557 (by decide) (by decide)
      have x564 : V' 564 = C 564 := hJ2.1 564 (by decide)
      refine r_Judge_judgeStates_38 hJ2.2.1 rn ⟨by omega, by omega⟩ ⟨by omega, by omega⟩ ⟨by omega, by omega⟩ ⟨⟨by omega, by omega⟩, fun q => by rw [x558] at q; omega, fun _ => ⟨⟨by omega, by omega⟩, ⟨by omega, by omega⟩, ?_⟩⟩
      rw [x564, x557, fa2.1]
      refine ⟨fun q => ⟨⟨by omega, by omega⟩, t_blame hJ2.2.1 (by decide) rp (next2 _ ⟨⟨by omega, by omega⟩, (hJ2.bl rp).of (fun t => ?_)⟩)⟩, fun q => ⟨⟨by omega, by omega⟩, t_blame hJ2.2.1 (by decide) rp (next2 _ ⟨⟨by omega, by omega⟩, (hJ2.bl rp).of (fun t => ?_)⟩)⟩⟩
      · constructor
        · rintro ((z | ⟨⟨k, k0, k1⟩, z⟩) | ⟨z, -⟩)
          · exact Or.inl z
          · exact Or.inr ⟨⟨k, ⟨k0.1, by omega⟩, k1⟩, z⟩
          · exact absurd rfl z
        · rintro (z | ⟨⟨k, k0, k1⟩, z⟩)
          · exact Or.inl (Or.inl z)
          · by_cases y : k = s
            · rw [y] at k1; exact absurd q k1
            · exact Or.inl (Or.inr ⟨⟨k, ⟨k0.1, by omega⟩, k1⟩, z⟩)
      · constructor
        · rintro ((z | ⟨⟨k, k0, k1⟩, z⟩) | ⟨-, z⟩)
          · exact Or.inl z
          · exact Or.inr ⟨⟨k, ⟨k0.1, by omega⟩, k1⟩, z⟩
          · exact Or.inr ⟨⟨s, ⟨hs.1, by omega⟩, q⟩, z⟩
        · rintro (z | ⟨-, z⟩)
          · exact Or.inl (Or.inl z)
          · exact Or.inr ⟨by decide, z⟩
    · obtain ⟨hs, hJ2⟩ := hI2
      have es : s = F + N := by omega
      rw [es] at hJ2
      have x558 : V' 558 = C0 558 := fc hJ2 558 (by decide) (by decide)
      have x559 : V' 559 = C0 559 := fc hJ2 559 (by decide) (by decide)
      refine r_Judge_judgeStates_38 hJ2.2.1 rn ⟨by omega, by omega⟩ ⟨by omega, by omega⟩ ⟨by omega, by omega⟩ ⟨⟨by omega, by omega⟩, fun _ => ⟨⟨by omega, by omega⟩, ?_⟩, fun q => by rw [x558] at q; omega⟩
      rw [x559]
      obtain ⟨G, eG⟩ : ∃ G : Int, G = C0 559 a := ⟨_, rfl⟩
      obtain ⟨G1, eG1⟩ : ∃ G : Int, G = C0 559 (a + 1) := ⟨_, rfl⟩
      rw [← eG] at fa4 ⊢
      rw [← eG1] at fa4
      -- the masks, by the model's words
      have hmk : (∃ k, (F ≤ k ∧ k < F + N) ∧ ¬ C 564 k = C 564 F) ↔ ∃ l s s', (0 ≤ l ∧ l < 26) ∧ (0 ≤ s ∧ s < N) ∧ (0 ≤ s' ∧ s' < N) ∧ g_in M0 a s l ∧ ¬ g_in M0 a s' l := by
        constructor
        · rintro ⟨k, k0, k1⟩
          have w1 := mk (k - F) (by omega) (by omega)
          have w0 := mk 0 (by decide) (by omega)
          rw [show F + (k - F) = k by omega] at w1
          rw [show F + 0 = F by omega] at w0
          have k2 : ¬ ∀ l, 0 ≤ l → l < 26 → (b_in (C 564 k) l ↔ b_in (C 564 F) l) := fun q => k1 ((b_eq (w1 0 (by decide) (by decide)).1 (w0 0 (by decide) (by decide)).1).mpr q)
          obtain ⟨l, k3⟩ := Classical.not_forall.mp k2
          have l0 : 0 ≤ l := Classical.byContradiction (fun q => k3 (fun z => absurd z q))
          have l1 : l < 26 := Classical.byContradiction (fun q => k3 (fun _ z => absurd z q))
          have k4 : ¬ (b_in (C 564 k) l ↔ b_in (C 564 F) l) := fun q => k3 (fun _ _ => q)
          rw [(w1 l l0 l1).2, (w0 l l0 l1).2] at k4
          by_cases z : g_in M0 a (k - F) l
          · exact ⟨l, k - F, 0, ⟨l0, l1⟩, ⟨by omega, by omega⟩, ⟨by omega, by omega⟩, z, fun q => k4 ⟨fun _ => q, fun _ => z⟩⟩
          · by_cases z2 : g_in M0 a 0 l
            · exact ⟨l, 0, k - F, ⟨l0, l1⟩, ⟨by omega, by omega⟩, ⟨by omega, by omega⟩, z2, z⟩
            · exact absurd ⟨fun q => absurd q z, fun q => absurd q z2⟩ k4
        · rintro ⟨l, s1, s2, hl, hs1, hs2, z1, z2⟩
          have w1 := mk s1 hs1.1 hs1.2 l hl.1 hl.2
          have w2 := mk s2 hs2.1 hs2.2 l hl.1 hl.2
          have w0 := mk 0 (by decide) (by omega) l hl.1 hl.2
          rw [show F + 0 = F by omega] at w0
          by_cases q : C 564 (F + s1) = C 564 F
          · refine ⟨F + s2, ⟨by omega, by omega⟩, fun q2 => z2 (w2.2.mp ?_)⟩
            rw [q2, ← q]; exact w1.2.mpr z1
          · exact ⟨F + s1, ⟨by omega, by omega⟩, q⟩
      -- its transitions
      refine ax_for (I := fun m V2 => (G ≤ m ∧ m ≤ G1) ∧ g_J1 C V2 (fun t => ((T t ∨ ∃ k, (A0 ≤ k ∧ k < a) ∧ g_bs M0 k t) ∨ ((∃ k, (F ≤ k ∧ k < F + N) ∧ ¬ C 564 k = C 564 F) ∧ M0 268 a ≤ t)) ∨ ∃ k, (G ≤ k ∧ k < m) ∧ N ≤ M0 275 k ∧ M0 278 k ≤ t)) (K := fun m V2 => k_Judge_judgeStates_111 B r (d + 1) n a F m V2 Ψ Θ) (hi := G1) (fun m V2 w3 hI3 next3 => ?_) (fun m V2 w3 hI3 => ?_) G V' ⟨⟨Int.le_refl _, by omega⟩, hJ2.of (fun t => ⟨fun z => Or.inl z, fun z => by rcases z with z | ⟨k, k0, -⟩; exact z; omega⟩)⟩
      · obtain ⟨hm, hJ3⟩ := hI3
        have m0 : 0 ≤ m := by omega
        have m1 : m < (M0 222 60) := by omega
        have ft := hS.2.2.2.2.1.2.2.2.2.1 m m0 m1
        have ft6 := ft.2.2.2.2.2.1
        have ft7 := ft.2.2.2.2.2.2.1
        have rq : ax_rg (M0 278 m) := by have := ft7.2; exact ⟨by omega, by omega⟩
        have z558 : V2 558 = C0 558 := fc hJ3 558 (by decide) (by decide)
        have z559 : V2 559 = C0 559 := fc hJ3 559 (by decide) (by decide)
        have z572 : V2 572 = C0 572 := fc hJ3 572 (by decide) (by decide)
        have z573 : V2 573 = C0 573 := fc hJ3 573 (by decide) (by decide)
        have eNN : C0 558 (a + 1) - F = N := by omega
        refine r_Judge_judgeStates_111 hJ3.2.1 rn ⟨by omega, by omega⟩ ⟨by omega, by omega⟩ ⟨by omega, by omega⟩ ⟨⟨by omega, by omega⟩, fun q => by rw [z559] at q; omega, fun _ => ⟨⟨by omega, by omega⟩, ⟨by omega, by omega⟩, ?_⟩⟩
        rw [z558, z572, z573, eNN, ft6.1, ft7.1]
        refine ⟨⟨by omega, by omega⟩, fun q => ⟨⟨by omega, by omega⟩, t_blame hJ3.2.1 (by decide) rq (next3 _ ⟨⟨by omega, by omega⟩, (hJ3.bl rq).of (fun t => ?_)⟩)⟩, fun q => ⟨⟨by omega, by omega⟩, t_blame hJ3.2.1 (by decide) rq (next3 _ ⟨⟨by omega, by omega⟩, (hJ3.bl rq).of (fun t => ?_)⟩)⟩⟩
        · constructor
          · rintro ((z | ⟨k, k0, k1⟩) | ⟨z, -⟩)
            · exact Or.inl z
            · exact Or.inr ⟨k, ⟨k0.1, by omega⟩, k1⟩
            · exact absurd rfl z
          · rintro (z | ⟨k, k0, k1⟩)
            · exact Or.inl (Or.inl z)
            · by_cases y : k = m
              · rw [y] at k1; omega
              · exact Or.inl (Or.inr ⟨k, ⟨k0.1, by omega⟩, k1⟩)
        · constructor
          · rintro ((z | ⟨k, k0, k1⟩) | ⟨-, z⟩)
            · exact Or.inl z
            · exact Or.inr ⟨k, ⟨k0.1, by omega⟩, k1⟩
            · exact Or.inr ⟨m, ⟨hm.1, by omega⟩, q, z⟩
          · rintro (z | ⟨k, k0, k1, k2⟩)
            · exact Or.inl (Or.inl z)
            · by_cases y : k = m
              · rw [y] at k2; exact Or.inr ⟨by decide, k2⟩
              · exact Or.inl (Or.inr ⟨k, ⟨k0.1, by omega⟩, k1, k2⟩)
      · obtain ⟨hm, hJ3⟩ := hI3
        have em : m = G1 := by omega
        have z559 : V2 559 = C0 559 := fc hJ3 559 (by decide) (by decide)
        refine r_Judge_judgeStates_111 hJ3.2.1 rn ⟨by omega, by omega⟩ ⟨by omega, by omega⟩ ⟨by omega, by omega⟩ ⟨⟨by omega, by omega⟩, fun _ => next V2 ⟨⟨by omega, by omega⟩, hJ3.of (fun t => ?_)⟩ _ _ (ax_y_i _) (ax_y_i _), fun q => by rw [z559] at q; omega⟩
        have gb : g_bs M0 a t ↔ (((∃ k, (F ≤ k ∧ k < F + N) ∧ ¬ C 564 k = C 564 F) ∧ M0 268 a ≤ t) ∨ ∃ k, (G ≤ k ∧ k < m) ∧ N ≤ M0 275 k ∧ M0 278 k ≤ t) := by
          unfold g_bs
          rw [hmk, ← eN]
          constructor
          · rintro (z | ⟨k, k0, k1, k2⟩)
            · exact Or.inl z
            · have := (hS.mvN a0 a1 k0.1 k0.2).mpr k1
              exact Or.inr ⟨k, ⟨by omega, by omega⟩, k2⟩
          · rintro (z | ⟨k, k0, k2⟩)
            · exact Or.inl z
            · exact Or.inr ⟨k, ⟨by omega, by omega⟩, (hS.mvN a0 a1 (by omega) (by omega)).mp ⟨by omega, by omega⟩, k2⟩
        constructor
        · rintro (((z | ⟨k, k0, k1⟩) | z) | z)
          · exact Or.inl z
          · exact Or.inr ⟨k, ⟨k0.1, by omega⟩, k1⟩
          · exact Or.inr ⟨a, ⟨ha.1, by omega⟩, gb.mpr (Or.inl z)⟩
          · exact Or.inr ⟨a, ⟨ha.1, by omega⟩, gb.mpr (Or.inr z)⟩
        · rintro (z | ⟨k, k0, k1⟩)
          · exact Or.inl (Or.inl (Or.inl z))
          · by_cases y : k = a
            · rw [y] at k1
              rcases gb.mp k1 with z | z
              · exact Or.inl (Or.inr z)
              · exact Or.inr z
            · exact Or.inl (Or.inl (Or.inr ⟨k, ⟨k0.1, by omega⟩, k1⟩))
  · obtain ⟨ha, hJ⟩ := hI
    have v510 : V 510 = C0 510 := fc hJ 510 (by decide) (by decide)
    refine r_Judge_judgeStates_10 hJ.2.1 rn ⟨by omega, by omega⟩ hy3 hy4 ⟨⟨by omega, by omega⟩, fun _ => h V (hJ.of (fun t => ?_)), fun q => by rw [v510] at q; omega⟩
    constructor
    · rintro (z | ⟨k, k0, k1⟩)
      · exact Or.inl z
      · exact Or.inr ⟨k, ⟨by omega, by omega⟩, (hS.aN (by omega) (by omega) n0 n1).mp ⟨by omega, by omega⟩, k1⟩
    · rintro (z | ⟨k, k0, k1, k2⟩)
      · exact Or.inl z
      · have := (hS.aN k0.1 k0.2 n0 n1).mpr k1
        exact Or.inr ⟨k, ⟨by omega, by omega⟩, k2⟩
end Kind2E
