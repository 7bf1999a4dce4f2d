/-! CALLS. So far: R are the arguments read, tied to each other -/
def e_mig (C M C' M' : ax_V) (R : Int → Prop) : Prop :=
  e_R C' M' ∧ e_fC C C' (M 222 26) ∧ e_fM M M' (M 222 26) ∧ ((0 ≤ (M 222 26) ∧ (M 222 26) ≤ (M 222 68)) ∧ (M 222 26) ≤ (M' 222 26) ∧ (M 222 68) < (M' 222 68) ∧ (M' 222 26) - (M 222 26) + 1 ≤ (M' 222 68) - (M 222 68) ∧ e_ns C M C' M') ∧
  (∀ x, R x → (M 222 26) ≤ x ∧ x < (M' 222 26)) ∧
  (∀ q x, (M 222 26) ≤ q → q < (M' 222 26) → e_kid M' q x → (M 222 26) ≤ x ∧ ¬ R x) ∧
  ∀ q, (M 222 26) ≤ q → q < (M' 222 26) → R q ∨ ∃ w, w < (M' 222 26) ∧ (M 222 26) ≤ w ∧ e_on1 M' (M 222 26) (M' 222 26) w q
theorem e_mig.none {C M C' M' : ax_V} (h0 : e_R C M) (h : e_R C' M') (fC : e_mvC C C') (fM : e_mvM M M') (ha : (M 222 68) < (M' 222 68)) : e_mig C M C' M' (fun _ => False) := by
  have m : (M' 222 26) = (M 222 26) := fM.2 26 (by decide) (by decide) (by decide) (by decide)
  have p0 := h0.2.2.2.1
  exact ⟨h, fC.fr, fM.fr, ⟨p0.2, by omega, ha, by omega, fun q a b => by omega⟩, fun x w => w.elim, fun q x a b => by omega, fun q a b => by omega⟩
/-- places move on -/
theorem e_mig.mv {C M C1 M1 C' M' : ax_V} {R : Int → Prop} (h : e_mig C M C1 M1 R) (hR : e_R C' M') (fC : e_mvC C1 C') (fM : e_mvM M1 M') (ha : (M1 222 68) ≤ (M' 222 68)) : e_mig C M C' M' R := by
  obtain ⟨h1, h2, h3, h4, h5, h6, h7⟩ := h
  have m : (M' 222 26) = (M1 222 26) := fM.2 26 (by decide) (by decide) (by decide) (by decide)
  have ek : ∀ q x, 0 ≤ q → q < (M1 222 26) → (e_kid M' q x ↔ e_kid M1 q x) := fun q x a b => e_kid_eq (h1.2.2.2.2.2 q a b) (fun c _ _ => by rw [fM.1 c (by omega)]) (fun x _ => by rw [fM.1 252 (by decide)]) x
  have p0 := h4.1
  refine ⟨hR, h2.tr fC.fr (Int.le_refl _), h3.tr fM.fr (Int.le_refl _), ⟨by omega, by omega, by omega, by omega, h4.2.2.2.2.mv fC fM⟩, fun x w => ?_, fun q x a b k => h6 q x a (by omega) ((ek q x (by omega) (by omega)).mp k), fun q a b => ?_⟩
  · obtain ⟨u1, u2⟩ := h5 x w
    exact ⟨u1, by omega⟩
  · rcases h7 q a (by omega) with r | ⟨w, w1, w2, w3⟩
    · exact Or.inl r
    · exact Or.inr ⟨w, by omega, w2, (ek w q (by omega) w1).mpr w3.1, fun v a' b' k' => w3.2 v a' (by omega) ((ek v q (by omega) (by omega)).mp k')⟩
/-- one more part has been read -/
theorem e_mig.part {C M C1 M1 C2 M2 : ax_V} {R : Int → Prop} {p : Int} (h : e_mig C M C1 M1 R) (k : e_ok C1 M1 C2 M2 p) : e_mig C M C2 M2 (fun q => R q ∨ q = p) := by
  obtain ⟨h1, h2, h3, h4, h5, h6, h7⟩ := h
  obtain ⟨k1, k2, k3, k4, k5, k6, k7, k8, k9⟩ := k
  have ek : ∀ q x, 0 ≤ q → q < (M1 222 26) → (e_kid M2 q x ↔ e_kid M1 q x) := fun q x a b => by
    have hp := h1.2.2.2.2.2 q a b
    exact e_kid_eq hp (fun c u v => k3.2.1 c q (by omega) (by omega) b) (fun x hx => by
      have := (hp.2.2.2.2.2.2.2.2.2.2 x hx).1
      exact k3.2.1 252 x (by decide) (by decide) (by omega)) x
  have kl : ∀ q x, 0 ≤ q → q < (M2 222 26) → e_kid M2 q x → x < q := fun q x a b hx => ((k1.2.2.2.2.2 q a b).2.2.2.2.2.2.2.2.2.2 x hx).1
  refine ⟨k1, h2.tr k2 (by omega), h3.tr k3 (by omega), ⟨by omega, by omega, by omega, by omega, h4.2.2.2.2.tr k6.2.2 h2 h3 (by omega) k2 k3⟩, fun x w => ?_, fun q x a b hx => ?_, fun q a b => ?_⟩
  · rcases w with w | w
    · obtain ⟨u1, u2⟩ := h5 x w
      exact ⟨u1, by omega⟩
    · rw [w]; exact ⟨by omega, by omega⟩
  · have hlt := kl q x (by omega) b hx
    by_cases w : q < (M1 222 26)
    · obtain ⟨u1, u2⟩ := h6 q x a w ((ek q x (by omega) w).mp hx)
      exact ⟨u1, fun z => by rcases z with z | z; exact u2 z; omega⟩
    · have u := k8 q x (by omega) b hx
      refine ⟨by omega, fun z => ?_⟩
      rcases z with z | z
      · have := (h5 x z).2; omega
      · omega
  · by_cases w : q < (M1 222 26)
    · rcases h7 q a w with r | ⟨w', w1, w2, w3⟩
      · exact Or.inl (Or.inl r)
      · refine Or.inr ⟨w', by omega, w2, (ek w' q (by omega) w1).mpr w3.1, fun v a' b' k' => ?_⟩
        by_cases y : v < (M1 222 26)
        · exact w3.2 v a' y ((ek v q (by omega) y).mp k')
        · have := k8 v q (by omega) b' k'; omega
    · by_cases z : q = p
      · exact Or.inl (Or.inr z)
      · obtain ⟨w', w1, w2, w3⟩ := k9 q (by omega) (by omega)
        refine Or.inr ⟨w', by omega, by omega, w3.1, fun v a' b' k' => ?_⟩
        by_cases y : v < (M1 222 26)
        · have := kl v q (by omega) b' k'; omega
        · exact w3.2 v (by omega) b' k'
/-- the part itself is made: it ties those that waited -/
theorem e_mig.close {C M C2 M2 C3 M3 : ax_V} {R : Int → Prop} (h : e_mig C M C2 M2 R) (hd : (M2 222 69) = (M 222 69) ∧ (M2 222 72) = (M 222 72) ∧ (C2 600 13) = (C 600 13)) (hg : ax_g C3 ∧ ax_g M3) (fC : e_fC C2 C3 (M 222 26)) (fM : e_fM M2 M3 (M2 222 26)) (hx : ∀ c p, 517 ≤ c → c ≤ 531 → c ≠ 522 → p < (M2 222 26) → C3 c p = C2 c p) (hy : ∀ p, p < (M2 222 26) → ¬ R p → C3 522 p = C2 522 p)
    (s1 : (C3 600 6) = (C2 600 6)) (s2 : (M3 222 68) = (M2 222 68)) (s3 : (C3 600 11) = (C2 600 11)) (s4 : (M3 222 69) = (M2 222 69)) (s5 : (C3 600 12) = (C2 600 12)) (s6 : (M3 222 72) = (M2 222 72)) (s7 : (C3 600 13) = (C2 600 13)) (c1 : (C3 516 0) = (M2 222 26) + 1) (c2 : (M3 222 26) = (M2 222 26) + 1) (c3 : (M3 222 74) = (M2 222 26))
    (hn : e_p C3 M3 (M2 222 26)) (hk : C3 522 (M2 222 26) = -1 ∧ M3 252 (M2 222 26) = -1 ∧ C3 526 (M2 222 26) = ax_b (0 < (C 600 13))) (hl : ∀ x, e_kid M3 (M2 222 26) x ↔ R x) (hw : e_nw C M C3 M3 (M2 222 26)) : e_ok C M C3 M3 (M2 222 26) := by
  obtain ⟨h1, h2, h3, h4, h5, h6, h7⟩ := h
  have ek : ∀ q x, 0 ≤ q → q < (M2 222 26) → (e_kid M3 q x ↔ e_kid M2 q x) := fun q x a b => by
    have hp := h1.2.2.2.2.2 q a b
    exact e_kid_eq hp (fun c u v => fM.2.1 c q (by omega) (by omega) b) (fun x hx => by
      have := (hp.2.2.2.2.2.2.2.2.2.2 x hx).1
      exact fM.2.1 252 x (by decide) (by decide) (by omega)) x
  have hR : e_R C3 M3 := by
    refine h1.new hg (fC.mono h4.1.1) (fM.mono (by omega)) s1 s2 s3 s4 s5 s6 s7 c1 c2 (by omega) (fun q q0 q1 => ?_) hn
    have hp := h1.2.2.2.2.2 q q0 q1
    refine hp.keep (fun c a b w => hx c q (by omega) (by omega) w q1) (fun c a b => fM.2.1 c q (by omega) (by omega) q1) (fun k _ _ => by rw [fM.1 226 (by decide) (by decide)]) (fun x hx2 => ?_)
    have hlt := (hp.2.2.2.2.2.2.2.2.2.2 x hx2).1
    refine ⟨hy x (by omega) (fun z => ?_), hx 526 x (by decide) (by decide) (by decide) (by omega), fM.2.1 252 x (by decide) (by decide) (by omega), fM.2.1 242 x (by decide) (by decide) (by omega)⟩
    by_cases w : (M 222 26) ≤ q
    · exact (h6 q x w q1 hx2).2 z
    · have := (h5 x z).1; omega
  refine ⟨hR, h2.tr fC (Int.le_refl _), h3.tr fM (by omega), ⟨c3.symm, by omega, by omega⟩, hk, ⟨by omega, by omega, fun q a b => ?_⟩, ⟨by omega, by omega, by omega⟩, fun q x a b hx2 => ?_, fun q a b => ?_⟩
  · by_cases w : q < (M2 222 26)
    · exact (h4.2.2.2.2 q a w).keep (hx 525 q (by decide) (by decide) (by decide) w) (hx 527 q (by decide) (by decide) (by decide) w) (fun c x y => fM.2.1 c q x y w)
    · rw [show q = (M2 222 26) by omega]; exact hw
  · by_cases w : q < (M2 222 26)
    · exact (h6 q x a w ((ek q x (by omega) w).mp hx2)).1
    · have e : q = (M2 222 26) := by omega
      rw [e] at hx2
      exact (h5 x ((hl x).mp hx2)).1
  · rcases h7 q a b with r | ⟨w', w1, w2, w3⟩
    · refine ⟨(M2 222 26), Int.le_refl _, by omega, (hl q).mpr r, fun v a' b' k' => ?_⟩
      by_cases y : v < (M2 222 26)
      · exact absurd r (h6 v q a' y ((ek v q (by omega) y).mp k')).2
      · omega
    · refine ⟨w', by omega, w2, (ek w' q (by omega) w1).mpr w3.1, fun v a' b' k' => ?_⟩
      by_cases y : v < (M2 222 26)
      · exact w3.2 v a' y ((ek v q (by omega) y).mp k')
      · have e : v = (M2 222 26) := by omega
        rw [e] at k'
        exact absurd ((hl q).mp k') (h6 w' q w2 w1 w3.1).2
/-- the arguments from f on -/
def e_ag (M : ax_V) (f : Int) : Nat → Int
  | 0 => f
  | k + 1 => if e_ag M f k = -1 then -1 else M 252 (e_ag M f k)
theorem e_arg_ag (M : ax_V) (q : Int) : ∀ k, e_arg M q k = e_ag M (M 245 q) k := by
  intro k
  induction k with
  | zero => rfl
  | succ k ih =>
    show (if e_arg M q k = -1 then -1 else M 252 (e_arg M q k)) = (if e_ag M (M 245 q) k = -1 then -1 else M 252 (e_ag M (M 245 q) k))
    rw [ih]
theorem e_ag_eq {M M' : ax_V} {f : Int} (h : ∀ k, 0 ≤ e_ag M f k → M' 252 (e_ag M f k) = M 252 (e_ag M f k)) (h2 : ∀ k, -1 ≤ e_ag M f k) : ∀ k, e_ag M' f k = e_ag M f k := by
  intro k
  induction k with
  | zero => rfl
  | succ k ih =>
    show (if e_ag M' f k = -1 then -1 else M' 252 (e_ag M' f k)) = (if e_ag M f k = -1 then -1 else M 252 (e_ag M f k))
    rw [ih]
    by_cases w : e_ag M f k = -1
    · rw [if_pos w, if_pos w]
    · rw [if_neg w, if_neg w]
      exact h k (by have := h2 k; omega)
/-- the arguments so far: from f to l, tied alike on both sides -/
def e_cn (C M : ax_V) (f l : Int) (R : Int → Prop) (dl : Int) : Prop := (f = -1 ∧ l = -1 ∧ ∀ x, ¬ R x) ∨
  ((0 ≤ f ∧ 0 ≤ l) ∧ (∀ x, R x ↔ (0 ≤ x ∧ ∃ i, e_ag M f i = x)) ∧ (∀ i, -1 ≤ e_ag M f i) ∧ R l ∧ M 252 l = -1 ∧ C 522 l = -1 ∧ ∀ x, R x → x ≤ l ∧ C 522 x = M 252 x ∧ (x = l ∨ x < M 252 x) ∧ C 526 x = ax_b (0 < dl))
theorem e_cn.keep {C M C' M' : ax_V} {f l dl : Int} {R : Int → Prop} (h : e_cn C M f l R dl) (hk : ∀ x, R x → C' 522 x = C 522 x ∧ C' 526 x = C 526 x ∧ M' 252 x = M 252 x) : e_cn C' M' f l R dl := by
  rcases h with h | ⟨h1, h2, h3, h4, h5, h6, h7⟩
  · exact Or.inl h
  · have ea : ∀ i, e_ag M' f i = e_ag M f i := e_ag_eq (fun k k0 => (hk _ ((h2 _).mpr ⟨k0, k, rfl⟩)).2.2) h3
    refine Or.inr ⟨h1, fun x => ?_, fun i => by rw [ea i]; exact h3 i, h4, by rw [(hk l h4).2.2]; exact h5, by rw [(hk l h4).1]; exact h6, fun x hx => ?_⟩
    · rw [h2 x]
      constructor
      · rintro ⟨a, i, b⟩; exact ⟨a, i, by rw [ea i]; exact b⟩
      · rintro ⟨a, i, b⟩; exact ⟨a, i, by rw [← ea i]; exact b⟩
    · obtain ⟨g1, g2, g3⟩ := hk x hx
      rw [g1, g2, g3]
      exact h7 x hx
/-- the first argument -/
theorem e_cn.one {C M : ax_V} {t dl : Int} (ht : 0 ≤ t) (h1 : C 522 t = -1) (h2 : M 252 t = -1) (h3 : C 526 t = ax_b (0 < dl)) : e_cn C M t t (fun x => x = t) dl := by
  have ea : ∀ i, e_ag M t (i + 1) = -1 := by
    intro i
    induction i with
    | zero =>
      show (if t = -1 then -1 else M 252 t) = -1
      rw [if_neg (by omega)]; exact h2
    | succ i ih =>
      show (if e_ag M t (i + 1) = -1 then -1 else M 252 (e_ag M t (i + 1))) = -1
      rw [if_pos ih]
  refine Or.inr ⟨⟨ht, ht⟩, fun x => ⟨fun z => ⟨by omega, 0, z.symm⟩, ?_⟩, fun i => ?_, rfl, h2, h1, fun x z => ?_⟩
  · rintro ⟨x0, i, z⟩
    cases i with
    | zero => exact z.symm
    | succ i => rw [ea i] at z; omega
  · cases i with
    | zero => show -1 ≤ t; omega
    | succ i => rw [ea i]; omega
  · rw [show x = t from z, h1, h2, h3]
    exact ⟨Int.le_refl _, rfl, Or.inl rfl, rfl⟩
/-- one more -/
theorem e_cn.more {C M C' M' : ax_V} {f l t dl : Int} {R : Int → Prop} (h : e_cn C M f l R dl) (hl : 0 ≤ l) (hlt : l < t) (t1 : C 522 t = -1) (t2 : M 252 t = -1) (t3 : C 526 t = ax_b (0 < dl)) (hC : ∀ x, x ≠ l → C' 522 x = C 522 x) (hC2 : C' 522 l = t) (hC3 : ∀ x, C' 526 x = C 526 x) (hM : ∀ x, x ≠ l → M' 252 x = M 252 x) (hM2 : M' 252 l = t) : e_cn C' M' f t (fun x => R x ∨ x = t) dl := by
  rcases h with h | ⟨h1, h2, h3, h4, h5, h6, h7⟩
  · omega
  · have up : ∀ i, 0 ≤ e_ag M f i → e_ag M' f i = e_ag M f i := by
      intro i
      induction i with
      | zero => intro _; rfl
      | succ i ih =>
        intro hi
        have e1 : e_ag M f (i + 1) = (if e_ag M f i = -1 then -1 else M 252 (e_ag M f i)) := rfl
        by_cases w : e_ag M f i = -1
        · rw [e1, if_pos w] at hi; omega
        · rw [e1, if_neg w] at hi ⊢
          have hi0 : 0 ≤ e_ag M f i := by have := h3 i; omega
          have nl : e_ag M f i ≠ l := fun z => by rw [z, h5] at hi; omega
          show (if e_ag M' f i = -1 then -1 else M' 252 (e_ag M' f i)) = _
          rw [ih hi0, if_neg w, hM _ nl]
    have dn : ∀ i, e_ag M' f i = -1 ∨ R (e_ag M' f i) ∨ e_ag M' f i = t := by
      intro i
      induction i with
      | zero => exact Or.inr (Or.inl ((h2 f).mpr ⟨h1.1, 0, rfl⟩))
      | succ i ih =>
        show (if e_ag M' f i = -1 then -1 else M' 252 (e_ag M' f i)) = -1 ∨ R (if e_ag M' f i = -1 then -1 else M' 252 (e_ag M' f i)) ∨ (if e_ag M' f i = -1 then -1 else M' 252 (e_ag M' f i)) = t
        by_cases w : e_ag M' f i = -1
        · rw [if_pos w]; exact Or.inl rfl
        · rw [if_neg w]
          rcases ih with z | z | z
          · exact absurd z w
          · by_cases wl : e_ag M' f i = l
            · rw [wl, hM2]; exact Or.inr (Or.inr rfl)
            · rw [hM _ wl]
              obtain ⟨x0, j, hj⟩ := (h2 _).mp z
              have e1 : e_ag M f (j + 1) = M 252 (e_ag M' f i) := by
                show (if e_ag M f j = -1 then -1 else M 252 (e_ag M f j)) = _
                rw [hj, if_neg w]
              by_cases wn : M 252 (e_ag M' f i) = -1
              · exact Or.inl wn
              · refine Or.inr (Or.inl ((h2 _).mpr ⟨?_, j + 1, e1⟩))
                have := h3 (j + 1)
                omega
          · rw [z, hM t (by omega), t2]; exact Or.inl rfl
    refine Or.inr ⟨⟨h1.1, by omega⟩, fun x => ⟨fun z => ?_, ?_⟩, fun i => ?_, Or.inr rfl, by rw [hM t (by omega)]; exact t2, by rw [hC t (by omega)]; exact t1, fun x z => ?_⟩
    · rcases z with z | z
      · obtain ⟨x0, i, hi⟩ := (h2 x).mp z
        exact ⟨x0, i, by rw [up i (by omega)]; exact hi⟩
      · obtain ⟨x0, i, hi⟩ := (h2 l).mp h4
        refine ⟨by omega, i + 1, ?_⟩
        show (if e_ag M' f i = -1 then -1 else M' 252 (e_ag M' f i)) = x
        rw [up i (by omega), hi, if_neg (by omega), hM2, z]
    · rintro ⟨x0, i, z⟩
      rcases dn i with w | w | w
      · omega
      · rw [z] at w; exact Or.inl w
      · rw [z] at w; exact Or.inr w
    · rcases dn i with w | w | w
      · omega
      · have := ((h2 _).mp w).1; omega
      · omega
    · rcases z with z | z
      · obtain ⟨g1, g2, g3, g4⟩ := h7 x z
        by_cases wl : x = l
        · rw [wl, hC2, hM2, hC3 l]
          rw [wl] at g4
          exact ⟨by omega, rfl, Or.inr hlt, g4⟩
        · rw [hC x wl, hM x wl, hC3 x]
          exact ⟨by omega, g2, by rcases g3 with z | z; exact absurd z wl; exact Or.inr z, g4⟩
      · rw [z, hC t (by omega), hM t (by omega), hC3 t, t1, t2]
        exact ⟨Int.le_refl _, rfl, Or.inl rfl, t3⟩
