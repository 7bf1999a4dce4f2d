/-! IN THE MIDDLE of a part that has parts of its own -/
def e_mvC (C C' : ax_V) : Prop := (∀ c, c ≠ 600 → C' c = C c) ∧ ∀ k, k ≠ 6 → k ≠ 11 → k ≠ 12 → k ≠ 13 → C' 600 k = C 600 k
def e_mvM (M M' : ax_V) : Prop := (∀ c, c ≠ 222 → M' c = M c) ∧ ∀ k, k ≠ 68 → k ≠ 69 → k ≠ 72 → k ≠ 75 → M' 222 k = M 222 k
theorem e_mvC.fr {C C1 : ax_V} {P : Int} (hC : e_mvC C C1) : e_fC C C1 P := ⟨fun c x _ => hC.1 c x, fun c p x y _ => by rw [hC.1 c (by omega)], fun k x y z w => hC.2 k x y z w⟩
theorem e_mvM.fr {M M1 : ax_V} {P : Int} (hM : e_mvM M M1) : e_fM M M1 P := ⟨fun c x _ => hM.1 c x, fun c p x y _ => by rw [hM.1 c (by omega)], fun k _ x y z _ w => hM.2 k x y z w⟩
theorem e_ns.mv {C M C1 M1 C' M' : ax_V} (h : e_ns C M C1 M1) (fC : e_mvC C1 C') (fM : e_mvM M1 M') : e_ns C M C' M' := by
  intro q a b
  have m : (M' 222 26) = (M1 222 26) := fM.2 26 (by decide) (by decide) (by decide) (by decide)
  exact (h q a (by omega)).keep (by rw [fC.1 525 (by decide)]) (by rw [fC.1 527 (by decide)]) (fun c x y => by rw [fM.1 c (by omega)])
theorem e_R.mv {C M C' M' : ax_V} (h : e_R C M) (hg : ax_g C' ∧ ax_g M') (hC : e_mvC C C') (hM : e_mvM M M') (s1 : (C' 600 6) = (M' 222 68) ∧ (M 222 68) ≤ (M' 222 68) ∧ (M' 222 68) ≤ (M 222 3)) (s2 : (C' 600 11) = (M' 222 69) ∧ 0 ≤ (M' 222 69) ∧ (M' 222 69) ≤ 20) (s3 : (C' 600 12) = (M' 222 72) ∧ 0 ≤ (M' 222 72) ∧ (M' 222 72) ≤ (M' 222 69)) (s4 : 0 ≤ (C' 600 13) ∧ (C' 600 13) ≤ (M' 222 69)) : e_R C' M' := by
  have h9 := h
  obtain ⟨-, ⟨t1, t2, t3, t4⟩, ⟨a1, a2, a3, a4, a5, a6, a7⟩, ⟨p1, p2, p3⟩, p4, p5⟩ := h
  have m1 := hM.2 3 (by decide) (by decide) (by decide) (by decide)
  have m2 := hM.2 10 (by decide) (by decide) (by decide) (by decide)
  have m3 := hM.2 26 (by decide) (by decide) (by decide) (by decide)
  have m5 := hM.2 70 (by decide) (by decide) (by decide) (by decide)
  have m6 := hM.2 71 (by decide) (by decide) (by decide) (by decide)
  have c1 := hC.2 1 (by decide) (by decide) (by decide) (by decide)
  have c2 := hC.2 8 (by decide) (by decide) (by decide) (by decide)
  have c3 := hC.2 9 (by decide) (by decide) (by decide) (by decide)
  have c4 := hC.2 10 (by decide) (by decide) (by decide) (by decide)
  refine h9.sc hg hC.1 hM.1 c1 m1 m2 m3 ?_ (by omega)
  unfold e_S
  rw [m1, m2, m5, m6, c2, c3, c4]
  exact ⟨⟨s1.1, by omega, s1.2.2⟩, a2, s2, a4, s3, a6, s4⟩
theorem e_kid_eq {C M M' : ax_V} {q : Int} (h : e_p C M q) (hM : ∀ c, 241 ≤ c → c ≤ 250 → M' c q = M c q) (hk : ∀ x, e_kid M q x → M' 252 x = M 252 x) (x : Int) : e_kid M' q x ↔ e_kid M q x := by
  have e1 : M' 241 q = M 241 q := hM _ (by decide) (by decide)
  have e5 : M' 245 q = M 245 q := hM _ (by decide) (by decide)
  have e6 : M' 246 q = M 246 q := hM _ (by decide) (by decide)
  have e7 : M' 247 q = M 247 q := hM _ (by decide) (by decide)
  have ea : M 241 q = 22 → ∀ k, e_arg M' q k = e_arg M q k := fun h22 => e_arg_eq e5 (fun k hk0 => hk _ ⟨hk0, Or.inr ⟨h22, k, rfl⟩⟩) (e_arg_ge h h22)
  unfold e_kid
  rw [e1, e5, e6, e7]
  constructor
  · rintro ⟨x0, w | ⟨h22, k, w⟩⟩
    · exact ⟨x0, Or.inl w⟩
    · exact ⟨x0, Or.inr ⟨h22, k, by rw [← ea h22 k]; exact w⟩⟩
  · rintro ⟨x0, w | ⟨h22, k, w⟩⟩
    · exact ⟨x0, Or.inl w⟩
    · exact ⟨x0, Or.inr ⟨h22, k, by rw [ea h22 k]; exact w⟩⟩
/-- so far: R are the parts that wait for the one they belong to -/
def e_mid (C M C' M' : ax_V) (R : Int → Prop) : Prop :=
  e_R C' M' ∧ e_fC C C' (M 222 26) ∧ e_fM M M' (M 222 26) ∧ ((0 ≤ (M 222 26) ∧ (M 222 26) ≤ (M 222 68)) ∧ (M 222 26) ≤ (M' 222 26) ∧ (M 222 68) < (M' 222 68) ∧ (M' 222 26) - (M 222 26) + 1 ≤ (M' 222 68) - (M 222 68) ∧ e_ns C M C' M') ∧
  (∀ x, R x → (M 222 26) ≤ x ∧ x < (M' 222 26) ∧ C' 522 x = -1 ∧ M' 252 x = -1) ∧
  (∀ q x, (M 222 26) ≤ q → q < (M' 222 26) → e_kid M' q x → (M 222 26) ≤ x ∧ ¬ R x) ∧
  ∀ q, (M 222 26) ≤ q → q < (M' 222 26) → R q ∨ ∃ w, w < (M' 222 26) ∧ (M 222 26) ≤ w ∧ e_on1 M' (M 222 26) (M' 222 26) w q
theorem e_mid.none {C M C' M' : ax_V} (h0 : e_R C M) (h : e_R C' M') (fC : e_mvC C C') (fM : e_mvM M M') (ha : (M 222 68) < (M' 222 68)) : e_mid C M C' M' (fun _ => False) := by
  have m : (M' 222 26) = (M 222 26) := fM.2 26 (by decide) (by decide) (by decide) (by decide)
  have p0 := h0.2.2.2.1
  exact ⟨h, fC.fr, fM.fr, ⟨p0.2, by omega, ha, by omega, fun q a b => by omega⟩, fun x w => w.elim, fun q x a b => by omega, fun q a b => by omega⟩
/-- places move on -/
theorem e_mid.mv {C M C1 M1 C' M' : ax_V} {R : Int → Prop} (h : e_mid C M C1 M1 R) (hR : e_R C' M') (fC : e_mvC C1 C') (fM : e_mvM M1 M') (ha : (M1 222 68) ≤ (M' 222 68)) : e_mid C M C' M' R := by
  obtain ⟨h1, h2, h3, h4, h5, h6, h7⟩ := h
  have m : (M' 222 26) = (M1 222 26) := fM.2 26 (by decide) (by decide) (by decide) (by decide)
  have ek : ∀ q x, 0 ≤ q → q < (M1 222 26) → (e_kid M' q x ↔ e_kid M1 q x) := fun q x a b => e_kid_eq (h1.2.2.2.2.2 q a b) (fun c _ _ => by rw [fM.1 c (by omega)]) (fun x _ => by rw [fM.1 252 (by decide)]) x
  have p0 := h4.1
  refine ⟨hR, h2.tr fC.fr (Int.le_refl _), h3.tr fM.fr (Int.le_refl _), ⟨by omega, by omega, by omega, by omega, h4.2.2.2.2.mv fC fM⟩, fun x w => ?_, fun q x a b k => h6 q x a (by omega) ((ek q x (by omega) (by omega)).mp k), fun q a b => ?_⟩
  · obtain ⟨u1, u2, u3, u4⟩ := h5 x w
    exact ⟨u1, by omega, by rw [fC.1 522 (by decide)]; exact u3, by rw [fM.1 252 (by decide)]; exact u4⟩
  · rcases h7 q a (by omega) with r | ⟨w, w1, w2, w3⟩
    · exact Or.inl r
    · exact Or.inr ⟨w, by omega, w2, (ek w q (by omega) w1).mpr w3.1, fun v a' b' k' => w3.2 v a' (by omega) ((ek v q (by omega) (by omega)).mp k')⟩
/-- one more part has been read -/
theorem e_mid.part {C M C1 M1 C2 M2 : ax_V} {R : Int → Prop} {p : Int} (h : e_mid C M C1 M1 R) (k : e_ok C1 M1 C2 M2 p) : e_mid C M C2 M2 (fun q => R q ∨ q = p) := by
  obtain ⟨h1, h2, h3, h4, h5, h6, h7⟩ := h
  obtain ⟨k1, k2, k3, k4, k5, k6, k7, k8, k9⟩ := k
  have ek : ∀ q x, 0 ≤ q → q < (M1 222 26) → (e_kid M2 q x ↔ e_kid M1 q x) := fun q x a b => by
    have hp := h1.2.2.2.2.2 q a b
    exact e_kid_eq hp (fun c u v => k3.2.1 c q (by omega) (by omega) b) (fun x hx => by
      have := (hp.2.2.2.2.2.2.2.2.2.2 x hx).1
      exact k3.2.1 252 x (by decide) (by decide) (by omega)) x
  have kl : ∀ q x, 0 ≤ q → q < (M2 222 26) → e_kid M2 q x → x < q := fun q x a b hx => ((k1.2.2.2.2.2 q a b).2.2.2.2.2.2.2.2.2.2 x hx).1
  refine ⟨k1, h2.tr k2 (by omega), h3.tr k3 (by omega), ⟨by omega, by omega, by omega, by omega, h4.2.2.2.2.tr k6.2.2 h2 h3 (by omega) k2 k3⟩, fun x w => ?_, fun q x a b hx => ?_, fun q a b => ?_⟩
  · rcases w with w | w
    · obtain ⟨u1, u2, u3, u4⟩ := h5 x w
      exact ⟨u1, by omega, by rw [k2.2.1 522 x (by decide) (by decide) u2]; exact u3, by rw [k3.2.1 252 x (by decide) (by decide) u2]; exact u4⟩
    · rw [w]; exact ⟨by omega, by omega, k5.1, k5.2.1⟩
  · have hlt := kl q x (by omega) b hx
    by_cases w : q < (M1 222 26)
    · obtain ⟨u1, u2⟩ := h6 q x a w ((ek q x (by omega) w).mp hx)
      exact ⟨u1, fun z => by rcases z with z | z; exact u2 z; omega⟩
    · have u := k8 q x (by omega) b hx
      refine ⟨by omega, fun z => ?_⟩
      rcases z with z | z
      · have := (h5 x z).2.1; omega
      · omega
  · by_cases w : q < (M1 222 26)
    · rcases h7 q a w with r | ⟨w', w1, w2, w3⟩
      · exact Or.inl (Or.inl r)
      · refine Or.inr ⟨w', by omega, w2, (ek w' q (by omega) w1).mpr w3.1, fun v a' b' k' => ?_⟩
        by_cases y : v < (M1 222 26)
        · exact w3.2 v a' y ((ek v q (by omega) y).mp k')
        · have := k8 v q (by omega) b' k'; omega
    · by_cases z : q = p
      · exact Or.inl (Or.inr z)
      · obtain ⟨w', w1, w2, w3⟩ := k9 q (by omega) (by omega)
        refine Or.inr ⟨w', by omega, by omega, w3.1, fun v a' b' k' => ?_⟩
        by_cases y : v < (M1 222 26)
        · have := kl v q (by omega) b' k'; omega
        · exact w3.2 v (by omega) b' k'
/-- the first of two has been read, and what stands behind it -/
theorem e_mid.first {C M C1 M1 C' M' : ax_V} {p : Int} (h0 : e_R C M) (k : e_ok C M C1 M1 p) (hR : e_R C' M') (fC : e_mvC C1 C') (fM : e_mvM M1 M') (ha : (M1 222 68) < (M' 222 68)) : e_mid C M C' M' (fun q => q = p) := by
  obtain ⟨k1, k2, k3, k4, k5, k6, k7, k8, k9⟩ := k
  have m : (M' 222 26) = (M1 222 26) := fM.2 26 (by decide) (by decide) (by decide) (by decide)
  have p0 := h0.2.2.2.1.2
  have ek : ∀ q x, 0 ≤ q → q < (M1 222 26) → (e_kid M' q x ↔ e_kid M1 q x) := fun q x a b => e_kid_eq (k1.2.2.2.2.2 q a b) (fun c _ _ => by rw [fM.1 c (by omega)]) (fun x _ => by rw [fM.1 252 (by decide)]) x
  have kl : ∀ q x, 0 ≤ q → q < (M1 222 26) → e_kid M1 q x → x < q := fun q x a b hx => ((k1.2.2.2.2.2 q a b).2.2.2.2.2.2.2.2.2.2 x hx).1
  refine ⟨hR, k2.tr fC.fr (Int.le_refl _), k3.tr fM.fr (Int.le_refl _), ⟨by omega, by omega, by omega, by omega, k6.2.2.mv fC fM⟩, fun x w => ?_, fun q x a b hx => ?_, fun q a b => ?_⟩
  · rw [w]; exact ⟨by omega, by omega, by rw [fC.1 522 (by decide)]; exact k5.1, by rw [fM.1 252 (by decide)]; exact k5.2.1⟩
  · have hx' := (ek q x (by omega) (by omega)).mp hx
    have hlt := kl q x (by omega) (by omega) hx'
    exact ⟨k8 q x a (by omega) hx', fun z => by omega⟩
  · by_cases z : q = p
    · exact Or.inl z
    · obtain ⟨w', w1, w2, w3⟩ := k9 q a (by omega)
      exact Or.inr ⟨w', by omega, w2, (ek w' q (by omega) (by omega)).mpr w3.1, fun v a' b' k' => w3.2 v a' (by omega) ((ek v q (by omega) (by omega)).mp k')⟩
/-- the part itself is made: it ties those that waited -/
theorem e_mid.close {C M C2 M2 C3 M3 : ax_V} {R : Int → Prop} (h : e_mid C M C2 M2 R) (hd : (M2 222 69) = (M 222 69) ∧ (M2 222 72) = (M 222 72) ∧ (C2 600 13) = (C 600 13)) (hg : ax_g C3 ∧ ax_g M3) (fC : e_fC C2 C3 (M 222 26)) (fM : e_fM M2 M3 (M2 222 26)) (hx : ∀ c p, 517 ≤ c → c ≤ 531 → c ≠ 522 → p < (M2 222 26) → C3 c p = C2 c p) (hy : ∀ p, p < (M2 222 26) → ¬ R p → C3 522 p = C2 522 p)
    (s1 : (C3 600 6) = (C2 600 6)) (s2 : (M3 222 68) = (M2 222 68)) (s3 : (C3 600 11) = (C2 600 11)) (s4 : (M3 222 69) = (M2 222 69)) (s5 : (C3 600 12) = (C2 600 12)) (s6 : (M3 222 72) = (M2 222 72)) (s7 : (C3 600 13) = (C2 600 13)) (c1 : (C3 516 0) = (M2 222 26) + 1) (c2 : (M3 222 26) = (M2 222 26) + 1) (c3 : (M3 222 74) = (M2 222 26))
    (hn : e_p C3 M3 (M2 222 26)) (hk : C3 522 (M2 222 26) = -1 ∧ M3 252 (M2 222 26) = -1 ∧ C3 526 (M2 222 26) = ax_b (0 < (C 600 13))) (hl : ∀ x, e_kid M3 (M2 222 26) x ↔ R x) (hw : e_nw C M C3 M3 (M2 222 26)) : e_ok C M C3 M3 (M2 222 26) := by
  obtain ⟨h1, h2, h3, h4, h5, h6, h7⟩ := h
  have ek : ∀ q x, 0 ≤ q → q < (M2 222 26) → (e_kid M3 q x ↔ e_kid M2 q x) := fun q x a b => by
    have hp := h1.2.2.2.2.2 q a b
    exact e_kid_eq hp (fun c u v => fM.2.1 c q (by omega) (by omega) b) (fun x hx => by
      have := (hp.2.2.2.2.2.2.2.2.2.2 x hx).1
      exact fM.2.1 252 x (by decide) (by decide) (by omega)) x
  have hR : e_R C3 M3 := by
    refine h1.new hg (fC.mono h4.1.1) (fM.mono (by omega)) s1 s2 s3 s4 s5 s6 s7 c1 c2 (by omega) (fun q q0 q1 => ?_) hn
    have hp := h1.2.2.2.2.2 q q0 q1
    refine hp.keep (fun c a b w => hx c q (by omega) (by omega) w q1) (fun c a b => fM.2.1 c q (by omega) (by omega) q1) (fun k _ _ => by rw [fM.1 226 (by decide) (by decide)]) (fun x hx2 => ?_)
    have hlt := (hp.2.2.2.2.2.2.2.2.2.2 x hx2).1
    refine ⟨hy x (by omega) (fun z => ?_), hx 526 x (by decide) (by decide) (by decide) (by omega), fM.2.1 252 x (by decide) (by decide) (by omega), fM.2.1 242 x (by decide) (by decide) (by omega)⟩
    by_cases w : (M 222 26) ≤ q
    · exact (h6 q x w q1 hx2).2 z
    · have := (h5 x z).1; omega
  refine ⟨hR, h2.tr fC (Int.le_refl _), h3.tr fM (by omega), ⟨c3.symm, by omega, by omega⟩, hk, ⟨by omega, by omega, fun q a b => ?_⟩, ⟨by omega, by omega, by omega⟩, fun q x a b hx2 => ?_, fun q a b => ?_⟩
  · by_cases w : q < (M2 222 26)
    · exact (h4.2.2.2.2 q a w).keep (hx 525 q (by decide) (by decide) (by decide) w) (hx 527 q (by decide) (by decide) (by decide) w) (fun c x y => fM.2.1 c q x y w)
    · rw [show q = (M2 222 26) by omega]; exact hw
  · by_cases w : q < (M2 222 26)
    · exact (h6 q x a w ((ek q x (by omega) w).mp hx2)).1
    · have e : q = (M2 222 26) := by omega
      rw [e] at hx2
      exact (h5 x ((hl x).mp hx2)).1
  · rcases h7 q a b with r | ⟨w', w1, w2, w3⟩
    · refine ⟨(M2 222 26), Int.le_refl _, by omega, (hl q).mpr r, fun v a' b' k' => ?_⟩
      by_cases y : v < (M2 222 26)
      · exact absurd r (h6 v q a' y ((ek v q (by omega) y).mp k')).2
      · omega
    · refine ⟨w', by omega, w2, (ek w' q (by omega) w1).mpr w3.1, fun v a' b' k' => ?_⟩
      by_cases y : v < (M2 222 26)
      · exact w3.2 v a' y ((ek v q (by omega) y).mp k')
      · have e : v = (M2 222 26) := by omega
        rw [e] at k'
        exact absurd ((hl q).mp k') (h6 w' q w2 w1 w3.1).2
