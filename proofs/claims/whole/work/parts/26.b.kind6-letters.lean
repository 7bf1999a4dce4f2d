/-! FAULTS 6: the letters that parts hold, but for those behind a delay and those of last -/
def g_hd (C M : ax_V) (f w y : Int) : Prop := ∃ q, (f ≤ q ∧ q ≤ w) ∧ C 526 q = 0 ∧ ¬ M 241 q = 3 ∧ M 248 q = y
section Kind6B
variable {B r d : Nat} {C0 M0 M V : ax_V} {q n f w : Int} {Φ : Int → ax_V → Prop} {Ψ Θ : ax_V → Prop}
theorem t_ownLetter2 {E : List (Nat × ax_S)} (hS : g_S C0 M0) (hv : g_fr g_XJ C0 V) (hg : ax_g V) (q0 : 0 ≤ q) (q1 : q < (M0 222 26)) (h1 : ¬ M0 241 q = 3 → ¬ M0 248 q = -1 → Φ (26 * M0 250 q + M0 248 q) V) (h0 : (M0 241 q = 3 ∨ M0 248 q = -1) → Φ (-1) V) : ax_I (az_W B E) (d + 1) q_Parts_ownLetter [.ref (B + 16), ax_i q] V Φ Θ := by
  have p0 := hS.2.2.1.1
  have hat := hS.2.2.2.2.2.2.2
  have dt := (hS.p q0 q1).2.2.2.2.2.2.1
  have lt := hS.let q0 q1
  by_cases o : M0 241 q = 22
  · have oc := hS.eopc q0 q1
    have b7 : 0 ≤ q ∧ q < 700 := ⟨q0, by omega⟩
    have d7 := dt.2.2.2.2.2.2 o
    refine r_Parts_ownLetter hg ⟨by omega, by omega⟩ ⟨b7, ?_⟩
    rw [hv 517 (by decide), hv 523 (by decide)]
    refine ⟨fun z => by omega, fun z => by omega, fun z => by omega, fun _ => ⟨b7, ?_⟩, fun a1 a2 a3 a4 => by omega⟩
    by_cases l : M0 248 q = -1
    · rw [d7.2.2.1 l]; exact h0 (Or.inr l)
    · rw [(d7.2.2.2.1 (by omega)).1]; exact h1 (by omega) l
  · refine t_ownLetter hS hv hg q0 q1 o (fun ow => ?_) (fun ow => ?_)
    · have l := hS.pl q0 q1 (by omega)
      exact h1 (by omega) (by omega)
    · rcases lt with l | ⟨l, -⟩
      · exact h0 (Or.inr l)
      · exact h0 (Or.inl (by omega))
set_option maxHeartbeats 4000000 in
theorem t_lettersIn (hS : g_S C0 M0) (hv : g_fr g_XJ C0 V) (hg : ax_g V) (f0 : 0 ≤ f) (fw : f ≤ w) (w1 : w < (M0 222 26)) (h : ∀ x, b_ok x → (∀ y, 0 ≤ y → y < 26 → (b_in x y ↔ g_hd C0 M0 f w y)) → Φ x V) : ax_I (az_W B (az_EJ B r)) (d + 2) q_Judge_lettersIn [.ref r, ax_i f, ax_i w] V Φ Θ := by
  have p0 := hS.2.2.1.1
  have hat := hS.2.2.2.2.2.2.2
  have hN := hS.2.1
  have rf : ax_rg f := ⟨by omega, by omega⟩
  have rw' : ax_rg w := ⟨by omega, by omega⟩
  refine r_Judge_lettersIn hg rf rw' ?_
  refine ax_for (I := fun q W => W = V ∧ f ≤ q ∧ q ≤ w + 1) (K := fun q W => ∀ x y5, ax_y y5 → b_ok x → (∀ y, 0 ≤ y → y < 26 → (b_in x y ↔ g_hd C0 M0 f (q - 1) y)) → k_Judge_lettersIn_5 B r (d + 1) (some (ax_i f)) w x q y5 W Φ Θ) (hi := w + 1) (fun q W u hI next x y5 hy5 hx hin => ?_) (fun q W u hI x y5 hy5 hx hin => ?_) f V ⟨rfl, Int.le_refl _, by omega⟩ 0 none ax_y_n b_ok_0 (fun y y0 y1 => ⟨fun z => absurd z (b_in_0 y), fun z => by obtain ⟨q, q0, -⟩ := z; omega⟩)
  · obtain ⟨eW, hq, hq2⟩ := hI
    subst eW
    have q0 : 0 ≤ q := by omega
    have q1 : q < (M0 222 26) := by omega
    have pn := (hS.pnode q0 q1).1
    have b7 : 0 ≤ q ∧ q < 700 := ⟨q0, by omega⟩
    have rq : ax_rg q := ⟨by omega, by omega⟩
    have lt := hS.let q0 q1
    have eq1 : q + 1 - 1 = q := by omega
    have same : ¬ (C0 526 q = 0 ∧ ¬ M0 241 q = 3 ∧ ¬ M0 248 q = -1) → ∀ y5, ax_y y5 → k_Judge_lettersIn_5 B r (d + 1) (some (ax_i f)) w x (q + 1) y5 W Φ Θ := fun z y5 hy5 => next W ⟨rfl, by omega, by omega⟩ x y5 hy5 hx (fun y y0 y1 => by
      rw [hin y y0 y1, eq1]
      constructor
      · rintro ⟨p, p0, p1⟩; exact ⟨p, ⟨p0.1, by omega⟩, p1⟩
      · rintro ⟨p, p0, p1, p2, p3⟩
        by_cases e : p = q
        · rw [e] at p1 p2 p3; exact absurd ⟨p1, p2, by omega⟩ z
        · exact ⟨p, ⟨p0.1, by omega⟩, p1, p2, p3⟩)
    refine r_Judge_lettersIn_5 hg (ax_y_i _) rw' hx.1 rq hy5 ⟨fun z => by omega, fun _ => t_ownLetter2 hS hv hg q0 q1 (fun o3 l => ?_) (fun z => ⟨fun _ => same (fun y => by rcases z with z | z; exact y.2.1 z; exact y.2.2 z) _ (ax_y_i _), fun y => absurd y (by decide)⟩)⟩
    rcases lt with z | ⟨-, lb, -⟩
    · exact absurd z l
    · refine ⟨fun z => by omega, fun _ => ⟨b7, ?_⟩⟩
      rw [hv 526 (by decide)]
      refine ⟨fun la => t_bit hg ⟨pn.1, by omega⟩ lb ?_, fun la => same (fun y => la y.1) _ (ax_y_i _)⟩
      refine next W ⟨rfl, by omega, by omega⟩ _ _ (ax_y_i _) (b_ok_or hx (b_ok_bit lb)) (fun y y0 y1 => ?_)
      rw [b_in_or, hin y y0 y1, b_in_bit lb ⟨y0, y1⟩, eq1]
      constructor
      · rintro (⟨p, p0, p1⟩ | e)
        · exact ⟨p, ⟨p0.1, by omega⟩, p1⟩
        · exact ⟨q, ⟨hq, Int.le_refl _⟩, la, o3, e.symm⟩
      · rintro ⟨p, p0, p1, p2, p3⟩
        by_cases e : p = q
        · rw [e] at p3; exact Or.inr p3.symm
        · exact Or.inl ⟨p, ⟨p0.1, by omega⟩, p1, p2, p3⟩
  · obtain ⟨eW, hq, hq2⟩ := hI
    subst eW
    have eq : q = w + 1 := by omega
    rw [eq] at hin ⊢
    rw [show w + 1 - 1 = w by omega] at hin
    exact r_Judge_lettersIn_5 hg (ax_y_i _) rw' hx.1 ⟨by omega, by omega⟩ hy5 ⟨fun _ => h x hx hin, fun z => by omega⟩
/-- the model's, for the letter l -/
theorem s_hangOn {l : Int} (hS : g_S C0 M0) (hV : g_fr g_YM M0 V) (hg : ax_g V) (h56 : ∀ q, 0 ≤ q → q < (M0 222 26) → V 256 q = C0 526 q) (hb : ∀ s, 0 ≤ s → s < 676 → V 283 s = 0 ∨ V 283 s = 1) (l0 : 0 ≤ l) (l1 : l < 26) (f0 : 0 ≤ f) (fw : f ≤ w) (w1 : w < (M0 222 26)) (h : ∀ V', g_fr [283] V V' → ax_g V' → (∀ s, 0 ≤ s → s < 676 → V' 283 s = 0 ∨ V' 283 s = 1) → (∀ x y, 0 ≤ x → x < 26 → 0 ≤ y → y < 26 → (¬ V' 283 (26 * x + y) = 0 ↔ (¬ V 283 (26 * x + y) = 0 ∨ (x = l ∧ g_hd C0 M0 f w y)))) → Ψ V') : ax_N ay_lay (d + 1) q_Model_hangOn [.ref 222, ax_i l, ax_i f, ax_i w] V Ψ Θ := by
  have p0 := hS.2.2.1.1
  have hat := hS.2.2.2.2.2.2.2
  have rf : ax_rg f := ⟨by omega, by omega⟩
  have rw' : ax_rg w := ⟨by omega, by omega⟩
  have rl : ax_rg l := ⟨by omega, by omega⟩
  refine r_Model_hangOn hg rl rf rw' ?_
  refine ax_for (I := fun q W => (f ≤ q ∧ q ≤ w + 1) ∧ g_fr [283] V W ∧ ax_g W ∧ (∀ s, 0 ≤ s → s < 676 → W 283 s = 0 ∨ W 283 s = 1) ∧ ∀ x y, 0 ≤ x → x < 26 → 0 ≤ y → y < 26 → (¬ W 283 (26 * x + y) = 0 ↔ (¬ V 283 (26 * x + y) = 0 ∨ (x = l ∧ g_hd C0 M0 f (q - 1) y)))) (K := fun q W => k_Model_hangOn_3 d l (some (ax_i f)) w q W Ψ Θ) (hi := w + 1) (fun q W u hI next => ?_) (fun q W u hI => ?_) f V ⟨⟨Int.le_refl _, by omega⟩, g_fr.rf _ _, hg, hb, fun x y _ _ _ _ => ⟨fun z => Or.inl z, fun z => by rcases z with z | ⟨-, q, q0, -⟩; exact z; omega⟩⟩
  · obtain ⟨hq, f1, g1, b1, e1⟩ := hI
    have q0 : 0 ≤ q := by omega
    have q1 : q < (M0 222 26) := by omega
    have b7 : 0 ≤ q ∧ q < 701 := ⟨q0, by omega⟩
    have lt := hS.let q0 q1
    have fM : ∀ c, c ∉ g_YM → W c = M0 c := fun c z => by rw [f1 c (fun y => z (by simp at y; rw [y]; decide))]; exact hV c z
    have eq1 : q + 1 - 1 = q := by omega
    have same : ¬ (C0 526 q = 0 ∧ ¬ M0 241 q = 3 ∧ ¬ M0 248 q = -1) → k_Model_hangOn_3 d l (some (ax_i f)) w (q + 1) W Ψ Θ := fun z => next W ⟨⟨by omega, by omega⟩, f1, g1, b1, fun x y x0 x1 y0 y1 => by
      rw [e1 x y x0 x1 y0 y1, eq1]
      constructor
      · rintro (v | ⟨v, p, p0, p1⟩)
        · exact Or.inl v
        · exact Or.inr ⟨v, p, ⟨p0.1, by omega⟩, p1⟩
      · rintro (v | ⟨v, p, p0, p1, p2, p3⟩)
        · exact Or.inl v
        · by_cases e : p = q
          · rw [e] at p1 p2 p3; exact absurd ⟨p1, p2, by omega⟩ z
          · exact Or.inr ⟨v, p, ⟨p0.1, by omega⟩, p1, p2, p3⟩⟩
    refine r_Model_hangOn_3 g1 rl (ax_y_i _) rw' ⟨by omega, by omega⟩ ⟨fun z => by omega, fun _ => ⟨b7, ?_⟩⟩
    rw [f1 256 (by decide), h56 q q0 q1, fM 241 (by decide), fM 248 (by decide)]
    refine ⟨fun la => ⟨b7, fun o3 => same (fun y => y.2.1 o3), fun o3 => ⟨b7, fun lz => same (fun y => y.2.2 lz), fun lz => ⟨b7, ?_⟩⟩⟩, fun la => same (fun y => la y.1)⟩
    rcases lt with z | ⟨-, lb, -⟩
    · exact absurd z lz
    · refine ⟨⟨by omega, by omega⟩, fun V1 ev => next V1 ⟨⟨by omega, by omega⟩, by rw [ev]; exact f1.u (by decide), by rw [ev]; exact ax_u_g g1 (by decide), fun s s0 s1 => ?_, fun x y x0 x1 y0 y1 => ?_⟩⟩
      · by_cases z : s = 26 * l + M0 248 q
        · rw [ev, z, ax_u_s]; exact Or.inr rfl
        · rw [ev, ax_u_k z]; exact b1 s s0 s1
      · rw [eq1]
        by_cases z : 26 * x + y = 26 * l + M0 248 q
        · have ex : x = l := by omega
          have ey : y = M0 248 q := by omega
          rw [ev, z, ax_u_s]
          exact ⟨fun _ => Or.inr ⟨ex, q, ⟨hq.1, Int.le_refl _⟩, la, o3, ey.symm⟩, fun _ => by decide⟩
        · rw [ev, ax_u_k z, e1 x y x0 x1 y0 y1]
          constructor
          · rintro (v | ⟨v, p, p0, p1⟩)
            · exact Or.inl v
            · exact Or.inr ⟨v, p, ⟨p0.1, by omega⟩, p1⟩
          · rintro (v | ⟨v, p, p0, p1, p2, p3⟩)
            · exact Or.inl v
            · by_cases e : p = q
              · rw [e] at p3; exact absurd (by rw [v, p3]) z
              · exact Or.inr ⟨v, p, ⟨p0.1, by omega⟩, p1, p2, p3⟩
  · obtain ⟨hq, f1, g1, b1, e1⟩ := hI
    have eq : q = w + 1 := by omega
    rw [eq] at e1 ⊢
    rw [show w + 1 - 1 = w by omega] at e1
    exact r_Model_hangOn_3 g1 rl (ax_y_i _) rw' ⟨by omega, by omega⟩ ⟨fun _ => h W f1 g1 b1 e1, fun z => by omega⟩
end Kind6B
