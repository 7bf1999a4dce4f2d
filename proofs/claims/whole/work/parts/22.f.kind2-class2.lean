/-! THE CLASS, FAULTS 2: names, states, tellings -/
/-- a letter that is no truth -/
def g_nt (M : ax_V) (s : Int) : Prop := M 232 s = 0 ∨ M 233 s = 0
/-- a part with a fault of names, at t or ahead of it -/
def g_bp (M : ax_V) (q t : Int) : Prop :=
  (M 241 q = 2 ∧ M 232 (26 * M 250 q + M 248 q) = 0 ∧ M 244 q ≤ t) ∨ (M 241 q = 3 ∧ M 236 (26 * M 250 q + M 248 q) = 0 ∧ M 244 q ≤ t) ∨ ((M 241 q = 20 ∨ M 241 q = 21) ∧ g_nt M (26 * M 250 q + M 248 q) ∧ M 244 q ≤ t) ∨ (M 241 q = 22 ∧ (((∀ k, 0 ≤ k → k < M 250 q → ¬ M 226 k = M 249 q) ∧ M 243 q ≤ t) ∨ (¬ M 248 q = -1 ∧ g_nt M (26 * M 250 q + M 248 q) ∧ M 244 q ≤ t)))
section Kind2D
variable {B r d : Nat} {C0 M0 C : ax_V} {Ψ Θ : ax_V → Prop}
theorem g_S.p (hS : g_S C0 M0) {q : Int} (q0 : 0 ≤ q) (q1 : q < (M0 222 26)) : e_p C0 M0 q := hS.2.2.1.2.2 q q0 q1
theorem g_S.l (hS : g_S C0 M0) {n l : Int} (n0 : 0 ≤ n) (n1 : n < (M0 222 86)) (l0 : 0 ≤ l) (l1 : l < 26) : f_l C0 M0 n (26 * n + l) := hS.2.2.2.1.1.1 n l n0 n1 l0 l1
/-- told on both sides -/
theorem g_S.told (hS : g_S C0 M0) {n l : Int} (n0 : 0 ≤ n) (n1 : n < (M0 222 86)) (l0 : 0 ≤ l) (l1 : l < 26) : C0 533 (26 * n + l) = -1 ↔ M0 232 (26 * n + l) = 0 := by
  have f := hS.l n0 n1 l0 l1
  constructor
  · intro q
    by_cases w : M0 232 (26 * n + l) = 0
    · exact w
    · have := f.2.2.1 w
      have := this.2.1; omega
  · intro q; exact (f.2.1 q).1
theorem t_isTruth {n l : Int} {Φ : Int → ax_V → Prop} (hS : g_S C0 M0) (hg : ax_g C) (c3 : C 533 = C0 533) (c5 : C 535 = C0 535) (n0 : 0 ≤ n) (n1 : n < (M0 222 86)) (l0 : 0 ≤ l) (l1 : l < 26) (h : Φ (@ax_b (¬ g_nt M0 (26 * n + l)) (Classical.propDecidable _)) C) : ax_I (az_W B (az_EJ B r)) (d + 1) q_Judge_isTruth [.ref r, ax_i (26 * n + l)] C Φ Θ := by
  have f := hS.l n0 n1 l0 l1
  have t := hS.told n0 n1 l0 l1
  have hN := hS.2.1
  have b : 0 ≤ 26 * n + l ∧ 26 * n + l < 208 := ⟨by omega, by omega⟩
  have e1 : g_nt M0 (26 * n + l) → @ax_b (¬ g_nt M0 (26 * n + l)) (Classical.propDecidable _) = 0 := fun z => if_neg (fun q => q z)
  have e2 : ¬ g_nt M0 (26 * n + l) → @ax_b (¬ g_nt M0 (26 * n + l)) (Classical.propDecidable _) = 1 := fun z => if_pos z
  refine r_Judge_isTruth hg ⟨by omega, by omega⟩ ⟨b, fun q => ?_, fun q => ⟨b, fun q2 => ?_, fun q2 => ?_⟩⟩
  · rw [c3] at q
    rw [e1 (Or.inl (t.mp q))] at h; exact h
  · rw [c3] at q
    rw [c5] at q2
    have k : ¬ M0 232 (26 * n + l) = 0 := fun z => q (t.mpr z)
    have u := f.2.2.1 k
    rw [e2 (fun z => by rcases z with z | z; exact k z; have := u.2.2.1; omega)] at h; exact h
  · rw [c3] at q
    rw [c5] at q2
    have k : ¬ M0 232 (26 * n + l) = 0 := fun z => q (t.mpr z)
    have u := f.2.2.1 k
    rw [e1 (Or.inr (by have := u.2.2; omega))] at h; exact h
/-- only the least place has changed -/
def g_J1 (C C' : ax_V) (T : Int → Prop) : Prop := g_fr [601] C C' ∧ ax_g C' ∧ ∀ t, (C' 601 5) ≤ t ↔ T t
theorem g_J1.bl {C' : ax_V} {T : Int → Prop} {w p : Int} (h : g_J1 C C' T) (hp : ax_rg p) : g_J1 C (j_bl C' w p) (fun t => T t ∨ (¬ w = 0 ∧ p ≤ t)) := ⟨h.1.bl (by decide), j_bl_g h.2.1 hp, fun t => by rw [j_bl_le, h.2.2 t]⟩
theorem g_J1.of {C' : ax_V} {T T' : Int → Prop} (h : g_J1 C C' T) (k : ∀ t, T t ↔ T' t) : g_J1 C C' T' := ⟨h.1, h.2.1, fun t => (h.2.2 t).trans (k t)⟩
theorem t_findJ {E : List (Nat × ax_S)} {v n : Int} {Φ : Int → ax_V → Prop} (hg : ax_g C) (rv : ax_rg v) (n0 : 0 ≤ n) (n1 : n ≤ 8) (h1 : ∀ k, 0 ≤ k → k < n → C 501 k = v → (∀ j, 0 ≤ j → j < k → ¬ C 501 j = v) → Φ k C) (h2 : (∀ k, 0 ≤ k → k < n → ¬ C 501 k = v) → Φ (-1) C) : ax_I (az_W B E) (d + 1) q_Program_find [.ref B, ax_i v, ax_i n] C Φ Θ := by
  have rn : ax_rg n := ⟨by omega, by omega⟩
  refine r_Program_find hg rv rn ?_
  refine ax_for (I := fun k V => V = C ∧ (0 ≤ k ∧ k ≤ n) ∧ ∀ j, 0 ≤ j → j < k → ¬ C 501 j = v) (K := fun k V => k_Program_find_2 B E d v n k V Φ Θ) (hi := n) (fun k V w hI next => ?_) (fun k V w hI => ?_) 0 C ⟨rfl, ⟨by omega, by omega⟩, fun j a b => by omega⟩
  · obtain ⟨eV, hk, hj⟩ := hI
    subst eV
    refine r_Program_find_2 hg rv rn ⟨by omega, by omega⟩ ⟨fun q => by omega, fun _ => ⟨fun q => by omega, fun _ => ⟨⟨by omega, by omega⟩, fun q => h1 k hk.1 w q hj, fun q => next V ⟨rfl, ⟨by omega, by omega⟩, fun j a b => ?_⟩⟩⟩⟩
    by_cases z : j = k
    · rw [z]; exact q
    · exact hj j a (by omega)
  · obtain ⟨eV, hk, hj⟩ := hI
    subst eV
    have : k = n := by omega
    rw [this] at hj
    exact r_Program_find_2 hg rv rn ⟨by omega, by omega⟩ ⟨fun _ => h2 hj, fun q => by omega⟩
set_option maxHeartbeats 4000000 in
theorem t_judgeNames {n : Int} {T : Int → Prop} (hS : g_S C0 M0) (hf : g_fr g_X2 C0 C) (hg : ax_g C) (hT : ∀ t, (C 601 5) ≤ t ↔ T t) (n0 : 0 ≤ n) (n1 : n < (M0 222 86)) (h : ∀ C', g_J1 C C' (fun t => (T t ∨ ((∃ k, 0 ≤ k ∧ k < n ∧ M0 226 k = M0 226 n) ∧ M0 287 n ≤ t)) ∨ ∃ q, (0 ≤ q ∧ q < (M0 222 26)) ∧ M0 250 q = n ∧ g_bp M0 q t) → Ψ C') : ax_N (az_W B (az_EJ B r)) (d + 2) q_Judge_judgeNames [.ref r, ax_i n] C Ψ Θ := by
  have hN := hS.2.1
  have hnd := hS.2.2.2.2.1.2.2.2.2.2.2
  have hat := hS.2.2.2.2.2.2.2
  have p0 := hS.2.2.1.1
  have e0 := hS.eqF n0 (by omega)
  have e1 := hS.eqF (n := n + 1) (by omega) (by omega)
  have e2 := hS.eqS n0 n1
  have nm := hS.2.2.1.2.1
  have pl := hnd.2.2.2.1 n n0 (by omega)
  have rn : ax_rg n := ⟨by omega, by omega⟩
  have b8 : 0 ≤ n ∧ n < 8 := ⟨by omega, by omega⟩
  have c501 : C 501 = C0 501 := hf 501 (by decide)
  have c502 : C 502 = C0 502 := hf 502 (by decide)
  obtain ⟨P0, eP0⟩ : ∃ P : Int, P = C0 508 n := ⟨_, rfl⟩
  obtain ⟨P1, eP1⟩ : ∃ P : Int, P = C0 508 (n + 1) := ⟨_, rfl⟩
  -- the parts of the node
  have lp : ∀ (T1 : Int → Prop) C1, g_J1 C C1 T1 → (∀ t, T1 t ↔ (T t ∨ ((∃ k, 0 ≤ k ∧ k < n ∧ M0 226 k = M0 226 n) ∧ M0 287 n ≤ t))) → ∀ y3 y4, ax_y y3 → ax_y y4 → k_Judge_judgeNames_49 B r (d + 1) n P0 y3 y4 C1 Ψ Θ := by
    intro T1 C1 hJ1 hT1
    refine ax_for (I := fun q V => (P0 ≤ q ∧ q ≤ P1) ∧ g_J1 C V (fun t => T1 t ∨ ∃ k, (P0 ≤ k ∧ k < q) ∧ g_bp M0 k t)) (K := fun q V => ∀ y3 y4, ax_y y3 → ax_y y4 → k_Judge_judgeNames_49 B r (d + 1) n q y3 y4 V Ψ Θ) (hi := P1) (fun q V w hI next y3 y4 hy3 hy4 => ?_) (fun q V w hI y3 y4 hy3 hy4 => ?_) P0 C1 ⟨⟨Int.le_refl _, by omega⟩, hJ1.of (fun t => ⟨fun z => Or.inl z, fun z => by rcases z with z | ⟨k, k0, -⟩; exact z; omega⟩)⟩
    · obtain ⟨hq, hJ⟩ := hI
      have q0 : 0 ≤ q := by omega
      have q1 : q < (M0 222 26) := by omega
      have nq : M0 250 q = n := (hS.pN q0 q1 n0 n1).mp ⟨by omega, by omega⟩
      obtain ⟨u1, u2, u3, u4, u5, u6, u7, u8⟩ := hS.p q0 q1
      obtain ⟨t1, t2, t3, t4, t5, t6, t7⟩ := u7
      have g1 := hJ.2.1
      have fc : ∀ c, c ≠ 601 → c ∉ g_X2 → V c = C0 c := fun c z z2 => by rw [hJ.1 c (by simpa using z)]; exact hf c z2
      have v508 : V 508 = C0 508 := fc 508 (by decide) (by decide)
      have v517 : V 517 = C0 517 := fc 517 (by decide) (by decide)
      have v519 : V 519 = C0 519 := fc 519 (by decide) (by decide)
      have v520 : V 520 = C0 520 := fc 520 (by decide) (by decide)
      have v523 : V 523 = C0 523 := fc 523 (by decide) (by decide)
      have v524 : V 524 = C0 524 := fc 524 (by decide) (by decide)
      have v533 : V 533 = C0 533 := fc 533 (by decide) (by decide)
      have v535 : V 535 = C0 535 := fc 535 (by decide) (by decide)
      have v538 : V 538 = C0 538 := fc 538 (by decide) (by decide)
      rw [nq] at t3 t4 t7
      -- on to the next part
      have go : ∀ (V1 : ax_V) (T2 : Int → Prop), g_J1 C V1 T2 → (∀ t, T2 t ↔ ((T1 t ∨ ∃ k, (P0 ≤ k ∧ k < q) ∧ g_bp M0 k t) ∨ g_bp M0 q t)) → ∀ y3 y4, ax_y y3 → ax_y y4 → k_Judge_judgeNames_49 B r (d + 1) n (q + 1) y3 y4 V1 Ψ Θ := by
        intro V1 T2 hJ2 hT2
        refine next V1 ⟨⟨by omega, by omega⟩, hJ2.of (fun t => ?_)⟩
        rw [hT2 t]
        constructor
        · rintro ((z | ⟨k, k0, k1⟩) | z)
          · exact Or.inl z
          · exact Or.inr ⟨k, ⟨k0.1, by omega⟩, k1⟩
          · exact Or.inr ⟨q, ⟨by omega, by omega⟩, z⟩
        · rintro (z | ⟨k, k0, k1⟩)
          · exact Or.inl (Or.inl z)
          · by_cases z : k = q
            · rw [z] at k1; exact Or.inr k1
            · exact Or.inl (Or.inr ⟨k, ⟨k0.1, by omega⟩, k1⟩)
      have blm : ∀ (w p : Int), (w = 0 ∨ w = 1) → ax_rg p → (∀ t, (¬ w = 0 ∧ p ≤ t) ↔ g_bp M0 q t) → ∀ y3 y4, ax_y y3 → ax_y y4 → ax_N (az_W B (az_EJ B r)) (d + 1) q_Judge_blameIf [.ref r, ax_i w, ax_i p] V (fun V1 => k_Judge_judgeNames_49 B r (d + 1) n (q + 1) y3 y4 V1 Ψ Θ) Θ := by
        intro w p hw rp hp y3 y4 hy3 hy4
        refine t_blame g1 (by rcases hw with z | z <;> rw [z] <;> decide) rp (go _ _ (hJ.bl (w := w) rp) (fun t => ?_) y3 y4 hy3 hy4)
        rw [hp t]
      have b7 : 0 ≤ q ∧ q < 700 := ⟨q0, by omega⟩
      refine r_Judge_judgeNames_49 g1 rn ⟨by omega, by omega⟩ hy3 hy4 ⟨⟨by omega, by omega⟩, fun z => by rw [v508] at z; omega, fun _ => ⟨b7, b7, b7, ?_⟩⟩
      rw [v517, v519, v520, u1]
      have o2 : M0 241 q = 2 → _ := fun z => t3 (Or.inl z)
      have hop : 0 ≤ M0 241 q ∧ M0 241 q ≤ 22 := by rcases u6 with z | z | z | z | z <;> omega
      have e2' : e_op (M0 241 q) = 2 ↔ M0 241 q = 2 := by unfold e_op; constructor <;> (intro z; revert z; split <;> (try split) <;> (try split) <;> (try split) <;> omega)
      have e3' : e_op (M0 241 q) = 3 ↔ M0 241 q = 3 := by unfold e_op; constructor <;> (intro z; revert z; split <;> (try split) <;> (try split) <;> (try split) <;> omega)
      have e20 : e_op (M0 241 q) = 20 ↔ M0 241 q = 20 := by unfold e_op; constructor <;> (intro z; revert z; split <;> (try split) <;> (try split) <;> (try split) <;> omega)
      have e21 : e_op (M0 241 q) = 21 ↔ M0 241 q = 21 := by unfold e_op; constructor <;> (intro z; revert z; split <;> (try split) <;> (try split) <;> (try split) <;> omega)
      have e22 : e_op (M0 241 q) = 22 ↔ M0 241 q = 22 := by unfold e_op; constructor <;> (intro z; revert z; split <;> (try split) <;> (try split) <;> (try split) <;> omega)
      rw [e2', e3', e20, e21, e22]
      refine ⟨fun o => ?_, fun o => ?_, fun o => ?_, fun o => ?_, fun o => ?_, fun n2 n3 n20 n21 n22 => ?_⟩
      · obtain ⟨l1, l2, l3, l4, l5⟩ := t3 (Or.inl o)
        rw [l2, l3, v533]
        have tl := hS.told n0 n1 l1.1 l1.2
        have rp : ax_rg (M0 244 q) := ⟨by omega, by omega⟩
        refine ⟨⟨by omega, by omega⟩, fun z => blm 1 _ (Or.inr rfl) rp (fun t => ?_) _ _ (ax_y_i _) (ax_y_i _), fun z => blm 0 _ (Or.inl rfl) rp (fun t => ?_) _ _ (ax_y_i _) (ax_y_i _)⟩
        · unfold g_bp
          rw [nq]
          constructor
          · rintro ⟨-, y⟩; exact Or.inl ⟨o, tl.mp z, y⟩
          · rintro (⟨-, -, y⟩ | ⟨y, -⟩ | ⟨y, -⟩ | ⟨y, -⟩)
            · exact ⟨by decide, y⟩
            · omega
            · omega
            · omega
        · unfold g_bp
          rw [nq]
          constructor
          · rintro ⟨y, -⟩; exact absurd rfl y
          · rintro (⟨-, y, -⟩ | ⟨y, -⟩ | ⟨y, -⟩ | ⟨y, -⟩)
            · exact absurd (tl.mpr y) z
            · omega
            · omega
            · omega
      · obtain ⟨l1, l2, l3, l4, l5⟩ := t3 (Or.inr (Or.inl o))
        rw [l2, l3, v538]
        have f := hS.l n0 n1 l1.1 l1.2
        have rp : ax_rg (M0 244 q) := ⟨by omega, by omega⟩
        rw [f.2.2.2.2.1.1]
        refine ⟨⟨by omega, by omega⟩, fun z => blm 1 _ (Or.inr rfl) rp (fun t => ?_) _ _ (ax_y_i _) (ax_y_i _), fun z => blm 0 _ (Or.inl rfl) rp (fun t => ?_) _ _ (ax_y_i _) (ax_y_i _)⟩
        · unfold g_bp
          rw [nq]
          constructor
          · rintro ⟨-, y⟩; exact Or.inr (Or.inl ⟨o, z, y⟩)
          · rintro (⟨y, -⟩ | ⟨-, -, y⟩ | ⟨y, -⟩ | ⟨y, -⟩)
            · omega
            · exact ⟨by decide, y⟩
            · omega
            · omega
        · unfold g_bp
          rw [nq]
          constructor
          · rintro ⟨y, -⟩; exact absurd rfl y
          · rintro (⟨y, -⟩ | ⟨-, y, -⟩ | ⟨y, -⟩ | ⟨y, -⟩)
            · omega
            · exact absurd y z
            · omega
            · omega
      · obtain ⟨l1, l6, l2, l3, l4, l5⟩ := t4 o
        have es : ax_shr (C0 520 q) 1 = 26 * n + M0 248 q := by rw [l2, b_shr ⟨by omega, by omega⟩]; omega
        rw [es, l3]
        have rp : ax_rg (M0 244 q) := ⟨by omega, by omega⟩
        have y3' : ∀ t, (g_nt M0 (26 * n + M0 248 q) ∧ M0 244 q ≤ t) ↔ g_bp M0 q t := by
          intro t
          unfold g_bp
          rw [nq]
          constructor
          · rintro ⟨y, z⟩; exact Or.inr (Or.inr (Or.inl ⟨Or.inl o, y, z⟩))
          · rintro (⟨y, -⟩ | ⟨y, -⟩ | ⟨-, y⟩ | ⟨y, -⟩)
            · omega
            · omega
            · exact y
            · omega
        refine t_isTruth hS g1 v533 v535 n0 n1 l1.1 l1.2 ?_
        by_cases z : g_nt M0 (26 * n + M0 248 q)
        · rw [show @ax_b (¬ g_nt M0 (26 * n + M0 248 q)) (Classical.propDecidable _) = 0 from if_neg (fun k => k z)]
          exact ⟨fun _ => blm 1 _ (Or.inr rfl) rp (fun t => by rw [← y3' t]; exact ⟨fun k => ⟨z, k.2⟩, fun k => ⟨by decide, k.2⟩⟩) _ _ (ax_y_i _) (ax_y_i _), fun k => absurd rfl k⟩
        · rw [show @ax_b (¬ g_nt M0 (26 * n + M0 248 q)) (Classical.propDecidable _) = 1 from if_pos z]
          exact ⟨fun k => absurd k (by decide), fun _ => blm 0 _ (Or.inl rfl) rp (fun t => by rw [← y3' t]; exact ⟨fun k => absurd rfl k.1, fun k => absurd k.1 z⟩) _ _ (ax_y_i _) (ax_y_i _)⟩
      · obtain ⟨l1, l2, l3, l4, l5⟩ := t3 (Or.inr (Or.inr o))
        rw [l2, l3]
        have rp : ax_rg (M0 244 q) := ⟨by omega, by omega⟩
        have y3' : ∀ t, (g_nt M0 (26 * n + M0 248 q) ∧ M0 244 q ≤ t) ↔ g_bp M0 q t := by
          intro t
          unfold g_bp
          rw [nq]
          constructor
          · rintro ⟨y, z⟩; exact Or.inr (Or.inr (Or.inl ⟨Or.inr o, y, z⟩))
          · rintro (⟨y, -⟩ | ⟨y, -⟩ | ⟨-, y⟩ | ⟨y, -⟩)
            · omega
            · omega
            · exact y
            · omega
        refine t_isTruth hS g1 v533 v535 n0 n1 l1.1 l1.2 ?_
        by_cases z : g_nt M0 (26 * n + M0 248 q)
        · rw [show @ax_b (¬ g_nt M0 (26 * n + M0 248 q)) (Classical.propDecidable _) = 0 from if_neg (fun k => k z)]
          exact ⟨fun _ => blm 1 _ (Or.inr rfl) rp (fun t => by rw [← y3' t]; exact ⟨fun k => ⟨z, k.2⟩, fun k => ⟨by decide, k.2⟩⟩) _ _ (ax_y_i _) (ax_y_i _), fun k => absurd rfl k⟩
        · rw [show @ax_b (¬ g_nt M0 (26 * n + M0 248 q)) (Classical.propDecidable _) = 1 from if_pos z]
          exact ⟨fun k => absurd k (by decide), fun _ => blm 0 _ (Or.inl rfl) rp (fun t => by rw [← y3' t]; exact ⟨fun k => absurd rfl k.1, fun k => absurd k.1 z⟩) _ _ (ax_y_i _) (ax_y_i _)⟩
      · obtain ⟨l1, l2, l3, l4, l5⟩ := t7 o
        rw [l1.1]
        have rp : ax_rg (M0 243 q) := ⟨by omega, by omega⟩
        have fd : C0 520 q = -1 ↔ ∀ k, 0 ≤ k → k < n → ¬ M0 226 k = M0 249 q := by
          rcases l5 with ⟨z1, z2⟩ | ⟨z1, z2, z3, z4⟩
          · exact ⟨fun _ => z2, fun _ => z1⟩
          · exact ⟨fun z => by omega, fun z => absurd z3 (z _ z1 z2)⟩
        have k254 : ∀ (w : Int), (w = 0 ∨ w = 1) → (¬ w = 0 ↔ ∀ k, 0 ≤ k → k < n → ¬ M0 226 k = M0 249 q) → ∀ y, ax_y y → k_Judge_judgeNames_254 B r (d + 1) n q y (M0 243 q) w V Ψ Θ := by
          intro w hw hw2 y hy
          refine r_Judge_judgeNames_254 g1 rn ⟨by omega, by omega⟩ hy rp (by rcases hw with z | z <;> rw [z] <;> decide) (t_blame g1 (by rcases hw with z | z <;> rw [z] <;> decide) rp ?_)
          have hJ2 := hJ.bl (w := w) rp
          obtain ⟨V1, eV1⟩ : ∃ X : ax_V, X = j_bl V w (M0 243 q) := ⟨_, rfl⟩
          rw [← eV1] at hJ2 ⊢
          have n1' : ∀ c, c ≠ 601 → V1 c = V c := fun c z => by rw [eV1]; exact j_bl_ne z
          rw [n1' 523 (by decide), n1' 524 (by decide), v523, v524]
          have gp : ∀ t, g_bp M0 q t ↔ (¬ w = 0 ∧ M0 243 q ≤ t) ∨ (¬ M0 248 q = -1 ∧ g_nt M0 (26 * n + M0 248 q) ∧ M0 244 q ≤ t) := by
            intro t
            unfold g_bp
            rw [nq, hw2]
            constructor
            · rintro (⟨y, -⟩ | ⟨y, -⟩ | ⟨y, -⟩ | ⟨-, y⟩)
              · omega
              · omega
              · omega
              · exact y
            · intro y; exact Or.inr (Or.inr (Or.inr ⟨o, y⟩))
          have go2 : ∀ (v p : Int), (v = 0 ∨ v = 1) → ax_rg p → (∀ t, (¬ v = 0 ∧ p ≤ t) ↔ (¬ M0 248 q = -1 ∧ g_nt M0 (26 * n + M0 248 q) ∧ M0 244 q ≤ t)) → ∀ y4, ax_y y4 → ax_N (az_W B (az_EJ B r)) (d + 1) q_Judge_blameIf [.ref r, ax_i v, ax_i p] V1 (fun V2 => k_Judge_judgeNames_49 B r (d + 1) n (q + 1) y y4 V2 Ψ Θ) Θ := by
            intro v p hv rp hp y4 hy4
            refine t_blame hJ2.2.1 (by rcases hv with z | z <;> rw [z] <;> decide) rp (go _ _ (hJ2.bl (w := v) rp) (fun t => ?_) y y4 hy hy4)
            rw [hp t, gp t]
            constructor
            · rintro ((a | a) | a)
              · exact Or.inl a
              · exact Or.inr (Or.inl a)
              · exact Or.inr (Or.inr a)
            · rintro (a | a | a)
              · exact Or.inl (Or.inl a)
              · exact Or.inl (Or.inr a)
              · exact Or.inr a
          by_cases lz : M0 248 q = -1
          · have e523 := l3 lz
            refine ⟨b7, fun _ => ⟨b7, go2 0 _ (Or.inl rfl) (hS.1.1 _ _) (fun t => ⟨fun k => absurd rfl k.1, fun k => absurd lz k.1⟩) _ (ax_y_i _)⟩, fun k => absurd e523 k⟩
          · obtain ⟨m1, m2, m3⟩ := l4 (by omega)
            rw [m1, m2]
            have rp2 : ax_rg (M0 244 q) := ⟨by omega, by omega⟩
            refine ⟨b7, fun k => by omega, fun _ => ⟨b7, t_isTruth hS hJ2.2.1 (by rw [n1' 533 (by decide)]; exact v533) (by rw [n1' 535 (by decide)]; exact v535) n0 n1 (by omega) l2.2 ?_⟩⟩
            rw [n1' 524 (by decide), v524, m2]
            by_cases z : g_nt M0 (26 * n + M0 248 q)
            · rw [show @ax_b (¬ g_nt M0 (26 * n + M0 248 q)) (Classical.propDecidable _) = 0 from if_neg (fun k => k z)]
              exact ⟨fun _ => ⟨b7, go2 1 _ (Or.inr rfl) rp2 (fun t => ⟨fun k => ⟨lz, z, k.2⟩, fun k => ⟨by decide, k.2.2⟩⟩) _ (ax_y_i _)⟩, fun k => absurd rfl k⟩
            · rw [show @ax_b (¬ g_nt M0 (26 * n + M0 248 q)) (Classical.propDecidable _) = 1 from if_pos z]
              exact ⟨fun k => absurd k (by decide), fun _ => ⟨b7, go2 0 _ (Or.inl rfl) rp2 (fun t => ⟨fun k => absurd rfl k.1, fun k => absurd k.2.1 z⟩) _ (ax_y_i _)⟩⟩
        exact ⟨fun z => k254 1 (Or.inr rfl) ⟨fun _ => fd.mp z, fun _ => by decide⟩ _ (ax_y_i _), fun z => k254 0 (Or.inl rfl) ⟨fun k => absurd rfl k, fun k => absurd (fd.mpr k) z⟩ _ (ax_y_i _)⟩
      · refine go V _ hJ (fun t => ?_) _ _ (ax_y_i _) (ax_y_i _)
        constructor
        · intro z; exact Or.inl z
        · rintro (z | z)
          · exact z
          · unfold g_bp at z
            rcases z with z | z | z | z
            · exact absurd z.1 n2
            · exact absurd z.1 n3
            · rcases z.1 with k | k
              · exact absurd k n20
              · exact absurd k n21
            · exact absurd z.1 n22
    · obtain ⟨hq, hJ⟩ := hI
      have eq : q = P1 := by omega
      have v508 : V 508 = C0 508 := by rw [hJ.1 508 (by decide)]; exact hf 508 (by decide)
      refine r_Judge_judgeNames_49 hJ.2.1 rn ⟨by omega, by omega⟩ hy3 hy4 ⟨⟨by omega, by omega⟩, fun _ => h V (hJ.of (fun t => ?_)), fun z => by rw [v508] at z; omega⟩
      rw [hT1 t]
      constructor
      · rintro (z | ⟨k, k0, k1⟩)
        · exact Or.inl z
        · exact Or.inr ⟨k, ⟨by omega, by omega⟩, (hS.pN (by omega) (by omega) n0 n1).mp ⟨by omega, by omega⟩, k1⟩
      · rintro (z | ⟨k, k0, k1, k2⟩)
        · exact Or.inl z
        · have := (hS.pN k0.1 k0.2 n0 n1).mpr k1
          exact Or.inr ⟨k, ⟨by omega, by omega⟩, k2⟩
  have rv : ax_rg (C 501 n) := hg _ _
  have pln : C0 502 n = M0 287 n := pl.2.2.2.1
  have rp : ax_rg (M0 287 n) := by have := pl.2.2.2.2; exact ⟨by omega, by omega⟩
  have nm' : ∀ k, 0 ≤ k → k ≤ n → C 501 k = M0 226 k := fun k a b => by rw [c501]; exact nm k a (by omega)
  have J0 : g_J1 C C T := ⟨g_fr.rf _ _, hg, hT⟩
  refine r_Judge_judgeNames hg rn ⟨b8, t_findJ hg rv n0 (by omega) (fun k k0 k1 k2 k3 => ?_) (fun k2 => ?_)⟩
  · rw [c502, pln]
    refine ⟨fun z => by omega, fun _ => ⟨b8, t_blame hg (by decide) rp ⟨⟨by omega, by omega⟩, ?_⟩⟩⟩
    rw [j_bl_ne (by decide), hf 508 (by decide), ← eP0]
    refine lp _ _ (J0.bl rp) (fun t => ?_) none none ax_y_n ax_y_n
    rw [nm' k k0 (by omega), nm' n n0 (Int.le_refl _)] at k2
    constructor
    · rintro (z | z)
      · exact Or.inl z
      · exact Or.inr ⟨⟨k, k0, k1, k2⟩, z.2⟩
    · rintro (z | z)
      · exact Or.inl z
      · exact Or.inr ⟨by decide, z.2⟩
  · rw [c502, pln]
    refine ⟨fun _ => ⟨b8, t_blame hg (by decide) rp ⟨⟨by omega, by omega⟩, ?_⟩⟩, fun z => absurd rfl z⟩
    rw [j_bl_ne (by decide), hf 508 (by decide), ← eP0]
    refine lp _ _ (J0.bl rp) (fun t => ?_) none none ax_y_n ax_y_n
    constructor
    · rintro (z | z)
      · exact Or.inl z
      · exact absurd rfl z.1
    · rintro (z | ⟨⟨k, k0, k1, k3⟩, z⟩)
      · exact Or.inl z
      · have := k2 k k0 k1
        rw [nm' k k0 (by omega), nm' n n0 (Int.le_refl _)] at this
        exact absurd k3 this
end Kind2D
