/-! ARGUMENTS, one behind the other -/
theorem ax_u_id (V : ax_V) (c : Nat) (i : Int) : ax_u V c i (V c i) = V := by
  funext c' i'
  unfold ax_u
  split
  · next h => rw [h.1, h.2]
  · rfl
theorem e_mig.tie {C M C1 M1 : ax_V} {R : Int → Prop} {l t : Int} (h : e_mig C M C1 M1 R) (hl : R l) (rt : ax_rg t) : e_mig C M (ax_u C1 522 l t) (ax_u M1 252 l t) R := by
  obtain ⟨h1, h2, h3, h4, h5, h6, h7⟩ := h
  obtain ⟨C2, eC⟩ : ∃ X : ax_V, X = ax_u C1 522 l t := ⟨_, rfl⟩
  obtain ⟨M2, eM⟩ : ∃ X : ax_V, X = ax_u M1 252 l t := ⟨_, rfl⟩
  rw [← eC, ← eM]
  have hll := h5 l hl
  have nC : ∀ c, c ≠ 522 → C2 c = C1 c := fun c hc => by rw [eC]; exact ax_u_ne hc
  have nM : ∀ c, c ≠ 252 → M2 c = M1 c := fun c hc => by rw [eM]; exact ax_u_ne hc
  have nCq : ∀ q, q ≠ l → C2 522 q = C1 522 q := fun q hq => by rw [eC]; exact ax_u_k hq
  have nMq : ∀ q, q ≠ l → M2 252 q = M1 252 q := fun q hq => by rw [eM]; exact ax_u_k hq
  have kn : ∀ q x, 0 ≤ q → q < (M1 222 26) → e_kid M1 q x → x ≠ l := fun q x a b hx z => by
    have hlt := ((h1.2.2.2.2.2 q a b).2.2.2.2.2.2.2.2.2.2 x hx).1
    by_cases w : (M 222 26) ≤ q
    · exact (h6 q x w b hx).2 (z ▸ hl)
    · omega
  have ek : ∀ q x, 0 ≤ q → q < (M1 222 26) → (e_kid M2 q x ↔ e_kid M1 q x) := fun q x a b => e_kid_eq (h1.2.2.2.2.2 q a b) (fun c _ _ => by rw [nM c (by omega)]) (fun x hx => nMq x (kn q x a b hx)) x
  have m0 : M2 222 = M1 222 := nM 222 (by decide)
  have c0 : C2 600 = C1 600 := nC 600 (by decide)
  have hR : e_R C2 M2 := by
    obtain ⟨⟨g1, g2⟩, ⟨t1, t2, t3, t4⟩, s0, ⟨p1, p2, p3⟩, p4, p5⟩ := h1
    refine ⟨⟨by rw [eC]; exact ax_u_g g1 rt, by rw [eM]; exact ax_u_g g2 rt⟩, ⟨by rw [c0, m0]; exact t1, by rw [m0]; exact t2, by rw [m0]; exact t3, fun i i0 i1 => ?_⟩, ?_, ⟨by rw [nC 516 (by decide), m0]; exact p1, by rw [m0]; exact p2, by rw [m0]; exact p3⟩, fun k k0 k1 => ?_, fun q q0 q1 => ?_⟩
    · rw [nC 1 (by decide), nM 224 (by decide)]
      exact t4 i i0 (by rw [m0] at i1; exact i1)
    · unfold e_S; rw [c0, m0]; exact s0
    · rw [nC 501 (by decide), nM 226 (by decide)]
      exact p4 k k0 (by rw [m0] at k1; exact k1)
    · rw [m0] at q1
      exact (p5 q q0 q1).keep (fun c _ _ w => by rw [nC c w]) (fun c _ _ => by rw [nM c (by omega)]) (fun k _ _ => by rw [nM 226 (by decide)]) (fun x hx => ⟨nCq x (kn q x q0 q1 hx), by rw [nC 526 (by decide)], nMq x (kn q x q0 q1 hx), by rw [nM 242 (by decide)]⟩)
  refine ⟨hR, h2.tr (by rw [eC]; exact e_fC.ua (by decide) hll.1) (Int.le_refl _), h3.tr (by rw [eM]; exact e_fM.ua (by decide) hll.1) (Int.le_refl _), by rw [m0]; exact ⟨h4.1, h4.2.1, h4.2.2.1, h4.2.2.2.1, fun q a b => by have := h4.2.2.2.2 q a (by rw [m0] at b; exact b); unfold e_nw at this ⊢; rw [nC 525 (by decide), nC 527 (by decide), nM 250 (by decide), nM 256 (by decide), nM 242 (by decide), nM 241 (by decide)]; exact this⟩, fun x w => by rw [m0]; exact h5 x w, fun q x a b hx => ?_, fun q a b => ?_⟩
  · rw [m0] at b
    exact h6 q x a b ((ek q x (by omega) b).mp hx)
  · rw [m0] at b ⊢
    rcases h7 q a b with z | ⟨w, w1, w2, w3⟩
    · exact Or.inl z
    · exact Or.inr ⟨w, w1, w2, (ek w q (by omega) w1).mpr w3.1, fun v a' b' k' => w3.2 v a' b' ((ek v q (by omega) b').mp k')⟩
/-- Program.find -/
theorem t_findL {B d : Nat} {E : List (Nat × ax_S)} {C M : ax_V} {n v : Int} (hg : ax_g C) (hv : ax_rg v) (hn : n ≤ 8) (hnm : ∀ k, 0 ≤ k → k < n → C 501 k = M 226 k) : ∀ (m : Nat) (j : Int), j + (m : Int) = n → 0 ≤ j → (∀ k, 0 ≤ k → k < j → ¬ M 226 k = v) → ∃ w, e_fd M n v w ∧ -1 ≤ w ∧ w < 8 ∧ ∀ (Φ : Int → ax_V → Prop) (Θ : ax_V → Prop), Φ w C → k_Program_find_2 B E d v n j C Φ Θ := by
  intro m
  induction m with
  | zero =>
    intro j hj j0 hb
    refine ⟨-1, Or.inl ⟨rfl, fun k k0 k1 => hb k k0 (by omega)⟩, by omega, by omega, fun Φ Θ hh => ?_⟩
    exact r_Program_find_2 hg hv ⟨by omega, by omega⟩ ⟨by omega, by omega⟩ ⟨fun _ => hh, fun z => by omega⟩
  | succ m ih =>
    intro j hj j0 hb
    by_cases w : M 226 j = v
    · refine ⟨j, Or.inr ⟨j0, by omega, w, hb⟩, by omega, by omega, fun Φ Θ hh => ?_⟩
      exact r_Program_find_2 hg hv ⟨by omega, by omega⟩ ⟨by omega, by omega⟩ ⟨fun z => by omega, fun _ => ⟨fun z => by omega, fun _ => ⟨⟨by omega, by omega⟩, fun _ => hh, fun z => absurd (by rw [hnm j j0 (by omega)]; exact w) z⟩⟩⟩
    · obtain ⟨x, h1, h2, h3, h4⟩ := ih (j + 1) (by omega) (by omega) (fun k k0 k1 => by
        by_cases z : k = j
        · rw [z]; exact w
        · exact hb k k0 (by omega))
      refine ⟨x, h1, h2, h3, fun Φ Θ hh => ?_⟩
      exact r_Program_find_2 hg hv ⟨by omega, by omega⟩ ⟨by omega, by omega⟩ ⟨fun z => by omega, fun _ => ⟨fun z => by omega, fun _ => ⟨⟨by omega, by omega⟩, fun z => absurd (by rw [← hnm j j0 (by omega)]; exact z) w, fun _ => h4 Φ Θ hh⟩⟩⟩
theorem t_find {B d : Nat} {E : List (Nat × ax_S)} {C M : ax_V} {n v : Int} (hg : ax_g C) (hv : ax_rg v) (hn : 0 ≤ n ∧ n ≤ 8) (hnm : ∀ k, 0 ≤ k → k < n → C 501 k = M 226 k) : ∃ w, e_fd M n v w ∧ -1 ≤ w ∧ w < 8 ∧ ∀ (Φ : Int → ax_V → Prop) (Θ : ax_V → Prop), Φ w C → ax_I (az_W B E) (d + 1) q_Program_find [.ref B, ax_i v, ax_i n] C Φ Θ := by
  obtain ⟨w, h1, h2, h3, h4⟩ := t_findL (B := B) (d := d) (E := E) hg hv hn.2 hnm n.toNat 0 (by omega) (by omega) (fun k a b => by omega)
  exact ⟨w, h1, h2, h3, fun Φ Θ hh => r_Program_find hg hv ⟨by omega, by omega⟩ (h4 Φ Θ hh)⟩
