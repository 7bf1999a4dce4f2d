/-! THE CLASS, FAULTS 2: tellings; all of a node; all nodes -/
def g_bt (C M : ax_V) (n l t : Int) : Prop := ¬ M 232 (26 * n + l) = 0 ∧ ((¬ M 232 (26 * n + l) = 1 ∧ (∀ i, 0 ≤ i → i < (M 222 52) → ¬ C 554 i = 26 * n + l) ∧ M 234 (26 * n + l) ≤ t) ∨ (¬ M 235 (26 * n + l) = 0 ∧ g_nt M (26 * n + (M 235 (26 * n + l) - 1) / 2) ∧ C 537 (26 * n + l) ≤ t))
/-- the faults of names of a node, as the class sees them -/
def g_w2 (C M : ax_V) (n t : Int) : Prop := (∃ i, (g_hf M (C 509 n) ≤ i ∧ i < g_hf M (C 509 (n + 1))) ∧ g_bh C M i ∧ C 555 i ≤ t) ∨ ((∃ k, 0 ≤ k ∧ k < n ∧ M 226 k = M 226 n) ∧ M 287 n ≤ t) ∨ (∃ q, (0 ≤ q ∧ q < (M 222 26)) ∧ M 250 q = n ∧ g_bp M q t) ∨ (∃ a, (0 ≤ a ∧ a < (M 222 55)) ∧ M 267 a = n ∧ g_bs M a t) ∨ ∃ l, (0 ≤ l ∧ l < 26) ∧ g_bt C M n l t
section Kind2F
variable {B r d : Nat} {C0 M0 C : ax_V} {Ψ Θ : ax_V → Prop}
theorem g_S.hfM (hS : g_S C0 M0) {e e' : Int} (e0 : 0 ≤ e) (ee : e ≤ e') (e1 : e' ≤ (M0 222 44)) : g_hf M0 e ≤ g_hf M0 e' ∧ 0 ≤ g_hf M0 e ∧ g_hf M0 e ≤ (M0 222 52) := by
  have one : ∀ x, 0 ≤ x → x < (M0 222 44) → 0 ≤ M0 259 x ∧ M0 259 x ≤ (M0 222 52) := fun x x0 x1 => by have := (hS.2.2.2.2.1.2.1 x x0 x1).2.2.1; omega
  have hl := hS.2.2.2.2.1.1.2.1.2.1
  unfold g_hf
  by_cases w : e < (M0 222 44)
  · rw [if_pos w]
    have := one e e0 w
    by_cases w' : e' < (M0 222 44)
    · rw [if_pos w']
      by_cases z : e = e'
      · rw [z] at this ⊢; omega
      · have := hS.lt e0 (by omega : e < e') w'
        have := (hS.2.2.2.2.1.2.1 e e0 w).2.2.1
        omega
    · rw [if_neg w']; omega
  · rw [if_neg w, if_neg (by omega)]; omega
/-- the heads of a node lie between -/
theorem g_S.hN (hS : g_S C0 M0) {i n : Int} (i0 : 0 ≤ i) (i1 : i < (M0 222 52)) (n0 : 0 ≤ n) (n1 : n < (M0 222 86)) : (g_hf M0 (C0 509 n) ≤ i ∧ i < g_hf M0 (C0 509 (n + 1))) ↔ M0 258 (g_eo M0 i) = n := by
  have ho := hS.eo i0 i1
  have a := hS.eqN ho.1.1 ho.1.2 n0 n1
  have e0 := hS.eqF n0 (by omega)
  have e1 := hS.eqF (n := n + 1) (by omega) (by omega)
  rw [← a]
  have lo : ∀ x, 0 ≤ x → x ≤ (M0 222 44) → (g_hf M0 x ≤ i ↔ x ≤ g_eo M0 i) := by
    intro x x0 x1
    unfold g_hf
    by_cases w : x < (M0 222 44)
    · rw [if_pos w]
      constructor
      · intro q
        rcases Int.lt_or_le (g_eo M0 i) x with z | z
        · have := hS.lt ho.1.1 z w
          have := ho.2.2; omega
        · exact z
      · intro q
        by_cases z : x = g_eo M0 i
        · rw [z]; exact ho.2.1
        · have := hS.lt x0 (by omega : x < g_eo M0 i) ho.1.2
          have := ho.2.1
          have := (hS.2.2.2.2.1.2.1 x x0 w).2.2.1
          omega
    · rw [if_neg w]
      have := ho.1.2
      exact ⟨fun q => by omega, fun q => by omega⟩
  have l0 := lo (C0 509 n) e0.1 e0.2.1
  have l1 := lo (C0 509 (n + 1)) e1.1 e1.2.1
  constructor
  · intro q; exact ⟨l0.mp q.1, by
      rcases Int.lt_or_le (g_eo M0 i) (C0 509 (n + 1)) with z | z
      · exact z
      · have := l1.mpr z; omega⟩
  · intro q; exact ⟨l0.mpr q.1, by
      rcases Int.lt_or_le i (g_hf M0 (C0 509 (n + 1))) with z | z
      · exact z
      · have := l1.mp z; omega⟩
set_option maxHeartbeats 4000000 in
theorem t_judgeTellings {n H : Int} {T : Int → Prop} (hS : g_S C0 M0) (hf : g_fr g_X2 C0 C) (hg : ax_g C) (hO : g_Own C0 M0 C H) (hH : ∀ i, 0 ≤ i → i < (M0 222 52) → M0 258 (g_eo M0 i) = n → i < H) (hH2 : H ≤ (M0 222 52)) (hT : ∀ t, (C 601 5) ≤ t ↔ T t) (n0 : 0 ≤ n) (n1 : n < (M0 222 86)) (h : ∀ C', g_J1 C C' (fun t => T t ∨ ∃ l, (0 ≤ l ∧ l < 26) ∧ g_bt C0 M0 n l t) → Ψ C') : ax_N (az_W B (az_EJ B r)) (d + 2) q_Judge_judgeTellings [.ref r, ax_i n] C Ψ Θ := by
  have hN := hS.2.1
  have rn : ax_rg n := ⟨by omega, by omega⟩
  have fc : ∀ {V : ax_V} {T' : Int → Prop}, g_J1 C V T' → ∀ c, c ≠ 601 → c ∉ g_X2 → V c = C0 c := fun hJ c z z2 => by rw [hJ.1 c (by simpa using z)]; exact hf c z2
  refine r_Judge_judgeTellings hg rn ?_
  refine ax_for (I := fun s V => (26 * n ≤ s ∧ s ≤ 26 * n + 26) ∧ g_J1 C V (fun t => T t ∨ ∃ l, (0 ≤ l ∧ 26 * n + l < s) ∧ g_bt C0 M0 n l t)) (K := fun s V => ∀ y3, ax_y y3 → k_Judge_judgeTellings_5 B r (d + 1) n s y3 V Ψ Θ) (hi := 26 * n + 26) (fun s V w hI next y3 hy3 => ?_) (fun s V w hI y3 hy3 => ?_) (n * 26) C ⟨⟨by omega, by omega⟩, g_fr.rf _ _, hg, fun t => by rw [hT t]; exact ⟨fun z => Or.inl z, fun z => by rcases z with z | ⟨k, k0, -⟩; exact z; omega⟩⟩ none ax_y_n
  · obtain ⟨hs, hJ⟩ := hI
    obtain ⟨l, el⟩ : ∃ l : Int, l = s - 26 * n := ⟨_, rfl⟩
    have es : s = 26 * n + l := by omega
    have l0 : 0 ≤ l := by omega
    have l1 : l < 26 := by omega
    have f := hS.l n0 n1 l0 l1
    have tl := hS.told n0 n1 l0 l1
    rw [← es] at f tl
    have b8 : 0 ≤ s ∧ s < 208 := ⟨by omega, by omega⟩
    have rs : ax_rg s := ⟨by omega, by omega⟩
    have v533 : V 533 = C0 533 := fc hJ 533 (by decide) (by decide)
    have v534 : V 534 = C0 534 := fc hJ 534 (by decide) (by decide)
    have v541 : V 541 = C 541 := hJ.1 541 (by decide)
    have gbt : ∀ t, g_bt C0 M0 n l t ↔ ¬ M0 232 s = 0 ∧ ((¬ M0 232 s = 1 ∧ (∀ i, 0 ≤ i → i < (M0 222 52) → ¬ C0 554 i = s) ∧ M0 234 s ≤ t) ∨ (¬ M0 235 s = 0 ∧ g_nt M0 (26 * n + (M0 235 s - 1) / 2) ∧ C0 537 s ≤ t)) := fun t => by unfold g_bt; rw [← es]
    have own : C 541 s = -2 ↔ ∀ i, 0 ≤ i → i < (M0 222 52) → ¬ C0 554 i = s := by
      have nd : ∀ i, 0 ≤ i → i < (M0 222 52) → C0 554 i = s → i < H := fun i i0 i1 i2 => by
        have sl := hS.slot i0 i1
        exact hH i i0 i1 (by omega)
      rcases hO s b8.1 b8.2 with ⟨o1, o2, -⟩ | ⟨ff, ll, ⟨f0, fl, l1'⟩, ⟨e1, e2⟩, -, -, c3, -⟩
      · exact ⟨fun _ i i0 i1 i2 => o1 i i0 (nd i i0 i1 i2) i2, fun _ => o2⟩
      · have hq := hS.eo f0 (by omega : ff < (M0 222 52))
        have : ¬ C 541 s = -2 := by
          rw [c3]
          rcases hS.st hq.1.1 hq.1.2 with z | z <;> omega
        exact ⟨fun q => absurd q this, fun q => absurd e1 (q ff f0 (by omega))⟩
    have go : ∀ (V1 : ax_V) (T2 : Int → Prop), g_J1 C V1 T2 → (∀ t, T2 t ↔ ((T t ∨ ∃ l', (0 ≤ l' ∧ 26 * n + l' < s) ∧ g_bt C0 M0 n l' t) ∨ g_bt C0 M0 n l t)) → ∀ y3, ax_y y3 → k_Judge_judgeTellings_5 B r (d + 1) n (s + 1) y3 V1 Ψ Θ := by
      intro V1 T2 hJ2 hT2
      refine next V1 ⟨⟨by omega, by omega⟩, hJ2.of (fun t => ?_)⟩
      rw [hT2 t]
      constructor
      · rintro ((z | ⟨k, k0, k1⟩) | z)
        · exact Or.inl z
        · exact Or.inr ⟨k, ⟨k0.1, by omega⟩, k1⟩
        · exact Or.inr ⟨l, ⟨l0, by omega⟩, z⟩
      · rintro (z | ⟨k, k0, k1⟩)
        · exact Or.inl (Or.inl z)
        · by_cases z : k = l
          · rw [z] at k1; exact Or.inr k1
          · exact Or.inl (Or.inr ⟨k, ⟨k0.1, by omega⟩, k1⟩)
    -- told: owner, then clock
    have k61 : ∀ (w : Int), (w = 0 ∨ w = 1) → ¬ M0 232 s = 0 → (¬ w = 0 ↔ (¬ M0 232 s = 1 ∧ ∀ i, 0 ≤ i → i < (M0 222 52) → ¬ C0 554 i = s)) → k_Judge_judgeTellings_61 B r (d + 1) n s y3 w V Ψ Θ := by
      intro w hw hk hw2
      have u := f.2.2.1 hk
      have rp : ax_rg (M0 234 s) := by have := u.2.1; exact ⟨by omega, by omega⟩
      have rw' : ax_rg w := by rcases hw with z | z <;> rw [z] <;> decide
      refine r_Judge_judgeTellings_61 hJ.2.1 rn rs hy3 rw' ⟨b8, ?_⟩
      rw [v533, u.1]
      refine t_blame hJ.2.1 rw' rp ?_
      have hJ2 := hJ.bl (w := w) rp
      obtain ⟨V1, eV1⟩ : ∃ X : ax_V, X = j_bl V w (M0 234 s) := ⟨_, rfl⟩
      rw [← eV1] at hJ2 ⊢
      have x536 : V1 536 = C0 536 := fc hJ2 536 (by decide) (by decide)
      have x537 : V1 537 = C0 537 := fc hJ2 537 (by decide) (by decide)
      have x533 : V1 533 = C0 533 := fc hJ2 533 (by decide) (by decide)
      have x535 : V1 535 = C0 535 := fc hJ2 535 (by decide) (by decide)
      rw [x536, x537]
      have rq : ax_rg (C0 537 s) := hS.1.1 _ _
      have go2 : ∀ (v : Int), (v = 0 ∨ v = 1) → (¬ v = 0 ↔ (¬ M0 235 s = 0 ∧ g_nt M0 (26 * n + (M0 235 s - 1) / 2))) → ∀ y, ax_y y → ax_N (az_W B (az_EJ B r)) (d + 1) q_Judge_blameIf [.ref r, ax_i v, ax_i (C0 537 s)] V1 (fun V2 => k_Judge_judgeTellings_5 B r (d + 1) n (s + 1) y V2 Ψ Θ) Θ := by
        intro v hv hv2 y hy
        refine t_blame hJ2.2.1 (by rcases hv with z | z <;> rw [z] <;> decide) rq (go _ _ (hJ2.bl (w := v) rq) (fun t => ?_) y hy)
        rw [gbt t, hv2, hw2]
        constructor
        · rintro ((z | ⟨z1, z2⟩) | ⟨z1, z2⟩)
          · exact Or.inl z
          · exact Or.inr ⟨hk, Or.inl ⟨z1.1, z1.2, z2⟩⟩
          · exact Or.inr ⟨hk, Or.inr ⟨z1.1, z1.2, z2⟩⟩
        · rintro (z | ⟨-, z | z⟩)
          · exact Or.inl (Or.inl z)
          · exact Or.inl (Or.inr ⟨⟨z.1, z.2.1⟩, z.2.2⟩)
          · exact Or.inr ⟨⟨z.1, z.2.1⟩, z.2.2⟩
      rcases f.2.2.2.1 with ⟨c1, c2⟩ | ⟨c1, c2, c3, c4⟩
      · rw [c2]
        exact ⟨b8, fun _ => ⟨b8, go2 0 (Or.inl rfl) ⟨fun z => absurd rfl z, fun z => absurd c1 z.1⟩ _ (ax_y_i _)⟩, fun q => absurd q (by decide)⟩
      · rw [c4]
        have es2 : ax_shr (52 * n + M0 235 s - 1) 1 = 26 * n + (M0 235 s - 1) / 2 := by rw [b_shr ⟨by omega, by omega⟩]; omega
        rw [es2]
        refine ⟨b8, fun q => by omega, fun _ => t_isTruth hS hJ2.2.1 x533 x535 n0 n1 (by omega) (by omega) ?_⟩
        rw [x537]
        by_cases z : g_nt M0 (26 * n + (M0 235 s - 1) / 2)
        · rw [show @ax_b (¬ g_nt M0 (26 * n + (M0 235 s - 1) / 2)) (Classical.propDecidable _) = 0 from if_neg (fun k => k z)]
          exact ⟨fun _ => ⟨b8, go2 1 (Or.inr rfl) ⟨fun _ => ⟨by omega, z⟩, fun _ => by decide⟩ _ (ax_y_i _)⟩, fun k => absurd rfl k⟩
        · rw [show @ax_b (¬ g_nt M0 (26 * n + (M0 235 s - 1) / 2)) (Classical.propDecidable _) = 1 from if_pos z]
          exact ⟨fun k => absurd k (by decide), fun _ => ⟨b8, go2 0 (Or.inl rfl) ⟨fun k => absurd rfl k, fun k => absurd k.2 z⟩ _ (ax_y_i _)⟩⟩
    have e26 : (n + 1) * 26 = 26 * n + 26 := by omega
    refine r_Judge_judgeTellings_5 hJ.2.1 rn rs hy3 ?_
    rw [e26, v533, v534, v541, tl, f.1.1]
    refine ⟨⟨by omega, by omega⟩, fun q => by omega, fun _ => ⟨b8, fun q => go V _ hJ (fun t => ?_) y3 hy3, fun q => ⟨b8, fun q2 => k61 0 (Or.inl rfl) q ⟨fun z => absurd rfl z, fun z => absurd q2 z.1⟩, fun q2 => ⟨b8, fun q3 => k61 1 (Or.inr rfl) q ⟨fun _ => ⟨q2, own.mp q3⟩, fun _ => by decide⟩, fun q3 => k61 0 (Or.inl rfl) q ⟨fun z => absurd rfl z, fun z => absurd (own.mpr z.2) q3⟩⟩⟩⟩⟩
    rw [gbt t]
    exact ⟨fun z => Or.inl z, fun z => by rcases z with z | z; exact z; exact absurd q z.1⟩
  · obtain ⟨hs, hJ⟩ := hI
    have es : s = 26 * n + 26 := by omega
    have e26 : (n + 1) * 26 = 26 * n + 26 := by omega
    refine r_Judge_judgeTellings_5 hJ.2.1 rn ⟨by omega, by omega⟩ hy3 ?_
    rw [e26]
    refine ⟨⟨by omega, by omega⟩, fun _ => h V (hJ.of (fun t => ?_)), fun q => by omega⟩
    constructor
    · rintro (z | ⟨k, k0, k1⟩)
      · exact Or.inl z
      · exact Or.inr ⟨k, ⟨k0.1, by omega⟩, k1⟩
    · rintro (z | ⟨k, k0, k1⟩)
      · exact Or.inl z
      · exact Or.inr ⟨k, ⟨k0.1, by omega⟩, k1⟩
/-- all of a node -/
theorem t_look2 {n : Int} {T : Int → Prop} (hS : g_S C0 M0) (n0 : 0 ≤ n) (n1 : n < (M0 222 86)) (hJ : g_J2 C0 M0 C (g_hf M0 (C0 509 n)) T) (h : ∀ C', g_J2 C0 M0 C' (g_hf M0 (C0 509 (n + 1))) (fun t => T t ∨ g_w2 C0 M0 n t) → Ψ C') : ax_N (az_W B (az_EJ B r)) (d + 4) q_Judge_lookFor [.ref r, ax_i 2, ax_i n] C Ψ Θ := by
  have hN := hS.2.1
  have rn : ax_rg n := ⟨by omega, by omega⟩
  have e1 := hS.eqF (n := n + 1) (by omega) (by omega)
  have e0 := hS.eqF n0 (by omega)
  have hH : ∀ i, 0 ≤ i → i < (M0 222 52) → M0 258 (g_eo M0 i) = n → i < g_hf M0 (C0 509 (n + 1)) := fun i i0 i1 i2 => ((hS.hN i0 i1 n0 n1).mpr i2).2
  have hH2 := (hS.hfM e1.1 (Int.le_refl _) e1.2.1).2.2
  refine r_Judge_lookFor hJ.2.1 (by decide) rn ⟨fun _ => t_judgeHeads hS n0 n1 hJ (fun C1 hJ1 => ?_), fun q => absurd q (by decide), fun q => absurd q (by decide), fun q => absurd q (by decide), fun q => absurd rfl q⟩
  obtain ⟨f1, g1, O1, M1, T1⟩ := hJ1
  refine ax_N.mono (d := d + 2) ?_ (by omega) (fun _ _ q => q) (fun _ _ q => q)
  refine t_judgeNames hS f1 g1 T1 n0 n1 (fun C2 hJ2 => ?_)
  have f2 : g_fr g_X2 C0 C2 := f1.tr (hJ2.1.up (by decide))
  have O2 : g_Own C0 M0 C2 (g_hf M0 (C0 509 (n + 1))) := fun s s0 s1 => by rw [hJ2.1 541 (by decide), hJ2.1 542 (by decide), hJ2.1 543 (by decide)]; exact O1 s s0 s1
  have M2 : g_Msk C0 M0 C2 (g_hf M0 (C0 509 (n + 1))) := fun a s a0 a1 s0 s1 s2 => by rw [hJ2.1 564 (by decide)]; exact M1 a s a0 a1 s0 s1 s2
  refine ax_N.mono (d := d + 2) ?_ (by omega) (fun _ _ q => q) (fun _ _ q => q)
  refine t_judgeStates hS f2 hJ2.2.1 M2 hH hH2 hJ2.2.2 n0 n1 (fun C3 hJ3 => ?_)
  have f3 : g_fr g_X2 C0 C3 := f2.tr (hJ3.1.up (by decide))
  have O3 : g_Own C0 M0 C3 (g_hf M0 (C0 509 (n + 1))) := fun s s0 s1 => by rw [hJ3.1 541 (by decide), hJ3.1 542 (by decide), hJ3.1 543 (by decide)]; exact O2 s s0 s1
  have M3 : g_Msk C0 M0 C3 (g_hf M0 (C0 509 (n + 1))) := fun a s a0 a1 s0 s1 s2 => by rw [hJ3.1 564 (by decide)]; exact M2 a s a0 a1 s0 s1 s2
  refine ax_N.mono (d := d + 2) ?_ (by omega) (fun _ _ q => q) (fun _ _ q => q)
  refine t_judgeTellings hS f3 hJ3.2.1 O3 hH hH2 hJ3.2.2 n0 n1 (fun C4 hJ4 => ?_)
  have f4 : g_fr g_X2 C0 C4 := f3.tr (hJ4.1.up (by decide))
  refine h C4 ⟨f4, hJ4.2.1, fun s s0 s1 => by rw [hJ4.1 541 (by decide), hJ4.1 542 (by decide), hJ4.1 543 (by decide)]; exact O3 s s0 s1, fun a s a0 a1 s0 s1 s2 => by rw [hJ4.1 564 (by decide)]; exact M3 a s a0 a1 s0 s1 s2, fun t => ?_⟩
  rw [hJ4.2.2 t]
  unfold g_w2
  constructor
  · rintro ((((( z | z) | z) | z) | z) | z)
    · exact Or.inl z
    · exact Or.inr (Or.inl z)
    · exact Or.inr (Or.inr (Or.inl z))
    · exact Or.inr (Or.inr (Or.inr (Or.inl z)))
    · exact Or.inr (Or.inr (Or.inr (Or.inr (Or.inl z))))
    · exact Or.inr (Or.inr (Or.inr (Or.inr (Or.inr z))))
  · rintro (z | z | z | z | z | z)
    · exact Or.inl (Or.inl (Or.inl (Or.inl (Or.inl z))))
    · exact Or.inl (Or.inl (Or.inl (Or.inl (Or.inr z))))
    · exact Or.inl (Or.inl (Or.inl (Or.inr z)))
    · exact Or.inl (Or.inl (Or.inr z))
    · exact Or.inl (Or.inr z)
    · exact Or.inr z
/-- the rows of kind 2 at first -/
theorem g_S.first (hS : g_S C0 M0) (hg : ax_g C) (hf : g_fr [601] C0 C) {T : Int → Prop} (hT : ∀ t, (C 601 5) ≤ t ↔ T t) : g_J2 C0 M0 C (g_hf M0 (C0 509 0)) T := by
  have e0 : g_hf M0 (C0 509 0) = 0 := by
    have z := hS.2.2.2.2.1.2.2.2.2.2.2.2.2.2.2.1.2.1
    have u := hS.2.2.2.2.1.2.2.2.2.2.1.2.2.2.2.2.2
    have v := hS.2.2.2.2.1.1.1.2.1
    rw [z]; unfold g_hf
    by_cases w : 0 < (M0 222 44)
    · rw [if_pos w]; exact u.1 w
    · rw [if_neg w]; exact u.2 (by omega)
  rw [e0]
  refine ⟨hf.up (by decide), hg, fun s s0 s1 => Or.inl ⟨fun i a b => by omega, ?_⟩, fun a st a0 a1 s0 a2 a3 => ?_, hT⟩
  · have := hS.2.2.2.1.1.2.2 s s0 s1
    rw [hf 541 (by decide), hf 542 (by decide), hf 543 (by decide)]
    exact ⟨this.2.1, this.2.2.1, this.2.2.2.1⟩
  · have hB := hS.2.2.2.2.1
    have := (hB.2.2.1 a a0 a1).2.2.2.2.2 st a2 a3
    rw [hf 564 (by decide), this.2.1]
    exact ⟨b_ok_0, fun l l0 l1 => ⟨fun q => absurd q (b_in_0 l), fun q => by obtain ⟨i, i0, -⟩ := q; omega⟩⟩
end Kind2F
