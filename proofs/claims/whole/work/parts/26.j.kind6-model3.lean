/-! FAULTS 6: the model, and the same as the class -/
def g_OD (C0 M0 V : ax_V) (n : Int) : Prop := (0 ≤ V 284 n ∧ V 284 n ≤ 26) ∧ (∀ i, 0 ≤ i → i < V 284 n → (0 ≤ V 285 (26 * n + i) ∧ V 285 (26 * n + i) < 26) ∧ ¬ M0 232 (26 * n + V 285 (26 * n + i)) = 0 ∧ ∀ y, 0 ≤ y → y < 26 → g_h0 C0 M0 n (V 285 (26 * n + i)) y → M0 232 (26 * n + y) = 0 ∨ ∃ j, (0 ≤ j ∧ j < i) ∧ V 285 (26 * n + j) = y) ∧ ∀ l, 0 ≤ l → l < 26 → ¬ M0 232 (26 * n + l) = 0 → g_ord V n l ∨ ∃ y, (0 ≤ y ∧ y < 26) ∧ g_h0 C0 M0 n l y ∧ ¬ M0 232 (26 * n + y) = 0 ∧ ¬ g_ord V n y
theorem g_OD.at {C0 M0 V W : ax_V} {n : Int} (h : g_OD C0 M0 V n) (h4 : W 284 n = V 284 n) (h5 : ∀ s, 26 * n ≤ s → s < 26 * n + 26 → W 285 s = V 285 s) : g_OD C0 M0 W n := by
  have b := h.1
  have e5 : ∀ i, 0 ≤ i → i < V 284 n → W 285 (26 * n + i) = V 285 (26 * n + i) := fun i x y => h5 _ (by omega) (by omega)
  have od : ∀ s, g_ord W n s ↔ g_ord V n s := fun s => by
    unfold g_ord
    rw [h4]
    exact ⟨fun ⟨i, i0, i1⟩ => ⟨i, i0, by rw [← e5 i i0.1 i0.2]; exact i1⟩, fun ⟨i, i0, i1⟩ => ⟨i, i0, by rw [e5 i i0.1 i0.2]; exact i1⟩⟩
  refine ⟨by rw [h4]; exact b, fun i i0 i1 => ?_, fun l l0 l1 k => ?_⟩
  · rw [h4] at i1
    rw [e5 i i0 i1]
    have q := h.2.1 i i0 i1
    refine ⟨q.1, q.2.1, fun y y0 y1 hy => ?_⟩
    rcases q.2.2 y y0 y1 hy with v | ⟨j, j0, j1⟩
    · exact Or.inl v
    · exact Or.inr ⟨j, j0, by rw [e5 j j0.1 (by omega)]; exact j1⟩
  · rcases h.2.2 l l0 l1 k with v | ⟨y, y0, y1, y2, y3⟩
    · exact Or.inl ((od l).mpr v)
    · exact Or.inr ⟨y, y0, y1, y2, fun z => y3 ((od y).mp z)⟩
theorem g_wr_congr {H H' : Int → Int → Prop} (h : ∀ k y, 0 ≤ k → k < 26 → 0 ≤ y → y < 26 → (H k y ↔ H' k y)) : ∀ b : Nat, b ≤ 26 → ∀ k y, 0 ≤ k → k < 26 → 0 ≤ y → y < 26 → (g_wr H b k y ↔ g_wr H' b k y) := by
  intro b
  induction b with
  | zero => exact fun _ k y a b c e => h k y a b c e
  | succ b ih =>
    intro hb k y k0 k1 y0 y1
    have b0 : (0 : Int) ≤ (b : Int) := by omega
    have b1 : (b : Int) < 26 := by omega
    show (g_wr H b k y ∨ (g_wr H b k (b : Int) ∧ g_wr H b (b : Int) y)) ↔ (g_wr H' b k y ∨ (g_wr H' b k (b : Int) ∧ g_wr H' b (b : Int) y))
    rw [ih (by omega) k y k0 k1 y0 y1, ih (by omega) k _ k0 k1 b0 b1, ih (by omega) _ y b0 b1 y0 y1]
theorem g_wr_ex (H : Int → Int → Prop) : ∀ (b : Nat) (k y : Int), g_wr H b k y → ∃ z, H k z := by
  intro b
  induction b with
  | zero => exact fun k y h => ⟨y, h⟩
  | succ b ih =>
    intro k y h
    rcases h with h | h
    · exact ih k y h
    · exact ih k _ h.1
def g_H6 (C0 M0 M2 M : ax_V) (n : Int) (T : Int → Prop) : Prop := (g_fr [222, 256, 283, 284, 285, 286] M2 M ∧ g_sc [73] M2 M ∧ ax_g M) ∧ (∀ q, 0 ≤ q → q < (M0 222 26) → M 256 q = C0 526 q) ∧ (∀ k, 0 ≤ k → k < n → g_OD C0 M0 M k) ∧ ∀ t, t < 701 → (m_nb M ≤ t ↔ T t)
section Kind6J
variable {d : Nat} {C0 M0 M V N : ax_V} {n : Int} {T : Int → Prop} {R : Int → Int → Prop} {Φ : Int → ax_V → Prop} {Ψ Θ : ax_V → Prop}
/-- what hangs on what, on both sides -/
theorem g_S.hm0 (hS : g_S C0 M0) (ok : g_N2 M0) (hA : g_EA C0 M0 M (fun _ => True)) (hcl : ∀ e i, g_of M0 e i → M0 235 (26 * M0 258 e + M0 265 i) = M0 235 (26 * M0 258 e + M0 265 (M0 259 e))) (n0 : 0 ≤ n) (n1 : n < (M0 222 86)) {l y : Int} (l0 : 0 ≤ l) (l1 : l < 26) : g_hm C0 M0 (M 239) n l y ↔ g_h0 C0 M0 n l y := by
  have hN := hS.2.1
  have E := (hA (26 * n + l) (by omega) (by omega)).1
  have head : ∀ i, 0 ≤ i → i < (M0 222 52) → (C0 554 i = 26 * n + l ↔ (M0 258 (g_eo M0 i) = n ∧ M0 265 i = l)) := fun i i0 i1 => by
    obtain ⟨s1, s2, s3, -⟩ := hS.slot i0 i1
    omega
  have same : ∀ i j, 0 ≤ i → i < (M0 222 52) → 0 ≤ j → j < (M0 222 52) → M0 265 i = M0 265 j → M0 258 (g_eo M0 i) = M0 258 (g_eo M0 j) → M0 263 (g_eo M0 i) = M0 263 (g_eo M0 j) := by
    intro i j i0 i1 j0 j1 hl hn
    have a := (ok.head hS i0 i1).2
    have b := (ok.head hS j0 j1).2
    by_cases e : i = j
    · rw [e]
    · by_cases w : i < j
      · exact Classical.byContradiction fun z => b ⟨i, ⟨i0, w⟩, hl, hn, Or.inr (Or.inl z)⟩
      · exact Classical.byContradiction fun z => a ⟨j, ⟨j0, by omega⟩, hl.symm, hn.symm, Or.inr (Or.inl (fun v => z v.symm))⟩
  constructor
  · rintro ⟨k, c | ⟨e, e0, en, ⟨i, i0, i1⟩, hd⟩ | ⟨a, b⟩⟩
    · have f := hS.l n0 n1 l0 l1
      have k3 : M0 232 (26 * n + l) = 3 := by
        rcases f.2.2.2.1 with v | v
        · exact absurd v.1 c.1
        · exact v.1
      have tp := (f.2.2.1 k).2.1
      have ex : ∃ e i, g_of M0 e i ∧ M0 258 e = n ∧ M0 265 i = l := Classical.byContradiction fun z => ok.2 n 699 n0 n1 (by decide) (Or.inr (Or.inr (Or.inr (Or.inr (Or.inl ⟨l, ⟨l0, l1⟩, Or.inr k3, z, by omega⟩)))))
      obtain ⟨e, i, a1, a2, a3⟩ := ex
      refine ⟨e, i, a1, a2, a3, Or.inl (Or.inr ⟨i, a1, ?_⟩)⟩
      rw [a2, a3]; exact c
    · exact ⟨e, i, i0, en, i1, Or.inl (Or.inl hd)⟩
    · rcases E with v | ⟨i, i0, -, i1, i2, i3⟩
      · exact absurd v.1 a
      · have hh := (head i i0.1 i0.2).mp i1
        refine ⟨g_eo M0 i, i, hS.eo i0.1 i0.2, hh.1, hh.2, Or.inr ⟨i2, ?_⟩⟩
        rw [← i3]; exact b
  · rintro ⟨e, i, a1, a2, a3, b⟩
    have il := hS.ofl a1
    have eo := hS.eoe a1
    have kd := (ok.head hS il.1 il.2).1
    rw [eo, a2, a3] at kd
    refine ⟨by omega, ?_⟩
    rcases b with (b | ⟨j, j0, j1, j2⟩) | ⟨b, b2⟩
    · exact Or.inr (Or.inl ⟨e, a1.1, a2, ⟨i, a1, a3⟩, b⟩)
    · have c1 := hcl e i a1
      have c2 := hcl e j j0
      rw [a2] at j1 j2 c1 c2
      rw [a3] at c1
      rw [c2, ← c1] at j1 j2
      exact Or.inl ⟨j1, j2⟩
    · refine Or.inr (Or.inr ?_)
      have hi := (head i il.1 il.2).mpr ⟨by rw [eo]; exact a2, a3⟩
      rcases E with v | ⟨j, j0, -, j1, j2, j3⟩
      · have := v.2 i il.1 il.2 trivial hi
        rw [eo] at this
        exact absurd this b
      · have hh := (head j j0.1 j0.2).mp j1
        have sm := same i j il.1 il.2 j0.1 j0.2 (by rw [a3, hh.2]) (by rw [eo, a2, hh.1])
        rw [eo] at sm
        have e2 : M 239 (26 * n + l) = M0 263 e := by rw [sm]; exact j3
        rw [e2]
        exact ⟨b, b2⟩
theorem s_cyc98 (hS : g_S C0 M0) (n0 : 0 ≤ n) (n1 : n < (M0 222 86)) (h34 : N 234 = M0 234) (hr : g_cells N R) (hk : ∀ l, 0 ≤ l → l < 26 → R l l → ¬ M0 232 (26 * n + l) = 0) (hg : ax_g N) (hT : ∀ t, t < 701 → (m_nb N ≤ t ↔ T t)) (h : ∀ V', g_H1 N V' (fun t => T t ∨ ∃ l, (0 ≤ l ∧ l < 26) ∧ R l l ∧ C0 533 (26 * n + l) ≤ t) → Ψ V') : ∀ y3 y4, ax_y y3 → ax_y y4 → k_Model_checkCycles_98 (d + 1) n 0 y3 y4 N Ψ Θ := by
  have hN := hS.2.1
  have rn : ax_rg n := ⟨by omega, by omega⟩
  intro y3 y4 hy3 hy4
  refine ax_for (I := fun l V => (0 ≤ l ∧ l ≤ 26) ∧ g_H1 N V (fun t => T t ∨ ∃ x, (0 ≤ x ∧ x < l) ∧ R x x ∧ C0 533 (26 * n + x) ≤ t)) (K := fun l V => k_Model_checkCycles_98 (d + 1) n l y3 y4 V Ψ Θ) (hi := 26) (fun l V w hI next => ?_) (fun l V w hI => ?_) 0 N ⟨⟨by decide, by decide⟩, (g_H1.rf hg hT).of (fun t _ => ⟨fun z => Or.inl z, fun z => by rcases z with z | ⟨x, x0, -⟩; exact z; omega⟩)⟩
  · obtain ⟨hl, hH⟩ := hI
    have f := hS.l n0 n1 hl.1 w
    have c := hr l l hl.1 w hl.1 w
    refine r_Model_checkCycles_98 hH.2.2.1 rn ⟨by omega, by omega⟩ hy3 hy4 ⟨fun z => by omega, fun _ => ⟨⟨by omega, by omega⟩, ?_⟩⟩
    rw [hH.1 283 (by decide), hH.1 234 (by decide), h34]
    refine ⟨fun z => next V ⟨⟨by omega, by omega⟩, hH.of (fun t _ => ?_)⟩, fun z => ⟨⟨by omega, by omega⟩, ?_⟩⟩
    · constructor
      · rintro (v | ⟨x, x0, x1⟩)
        · exact Or.inl v
        · exact Or.inr ⟨x, ⟨x0.1, by omega⟩, x1⟩
      · rintro (v | ⟨x, x0, x1⟩)
        · exact Or.inl v
        · by_cases e : x = l
          · rw [e] at x1; exact absurd z (c.mpr x1.1)
          · exact Or.inr ⟨x, ⟨x0.1, by omega⟩, x1⟩
    · have tl := f.2.2.1 (hk l hl.1 w (c.mp z))
      have tp := tl.2.1
      refine s_noteE hH.2.2.1 ⟨by omega, by omega⟩ (next _ ⟨⟨by omega, by omega⟩, (hH.nt tp).of (fun t _ => ?_)⟩)
      rw [← tl.1]
      constructor
      · rintro ((v | ⟨x, x0, x1⟩) | v)
        · exact Or.inl v
        · exact Or.inr ⟨x, ⟨x0.1, by omega⟩, x1⟩
        · exact Or.inr ⟨l, ⟨hl.1, by omega⟩, c.mp z, v⟩
      · rintro (v | ⟨x, x0, x1⟩)
        · exact Or.inl (Or.inl v)
        · by_cases e : x = l
          · rw [e] at x1; exact Or.inr x1.2
          · exact Or.inl (Or.inr ⟨x, ⟨x0.1, by omega⟩, x1⟩)
  · obtain ⟨hl, hH⟩ := hI
    have el : l = 26 := by omega
    rw [el] at hH ⊢
    exact r_Model_checkCycles_98 hH.2.2.1 rn (by decide) hy3 hy4 ⟨fun _ => h V hH, fun z => absurd z (by decide)⟩
set_option maxHeartbeats 4000000 in
theorem s_cycles (hS : g_S C0 M0) (hb : g_MB C0 M0 M) (hH0 : ∀ n l y, 0 ≤ n → n < (M0 222 86) → 0 ≤ l → l < 26 → (g_hm C0 M0 (M 239) n l y ↔ g_h0 C0 M0 n l y)) (n0 : 0 ≤ n) (n1 : n < (M0 222 86)) (hI : g_H6 C0 M0 M V n T) (h : ∀ V', g_H6 C0 M0 M V' (n + 1) (fun t => T t ∨ g_w6 C0 M0 n t) → Ψ V') : ax_N ay_lay (d + 4) q_Model_checkCycles [.ref 222, ax_i n] V Ψ Θ := by
  have hN := hS.2.1
  obtain ⟨⟨i1, i2, i3⟩, i4, i5, i6⟩ := hI
  have bV : g_MB C0 M0 V := ⟨hb.1.tr (i1.up (by decide)), fun j z => by rw [i2 j (fun y => z (by simp at y; rw [y]; decide))]; exact hb.2.1 j z, i3, fun q a c o => by rw [i1 251 (by decide)]; exact hb.2.2.2 q a c o⟩
  have rn : ax_rg n := ⟨by omega, by omega⟩
  refine r_Model_checkCycles i3 rn (s_findHangs (d := d + 1) hS bV i4 n0 n1 (fun W1 f1 g1 z1 c1 => ?_))
  have cl : g_cells W1 (g_h0 C0 M0 n) := fun x y x0 x1 y0 y1 => by
    rw [c1 x y x0 x1 y0 y1, i1 239 (by decide)]
    exact hH0 n x y n0 n1 x0 x1
  refine s_findOrder (d := d + 2) (M0 := M0) (H := g_h0 C0 M0 n) g1 ⟨n0, by omega⟩ (by rw [f1 232 (by decide)]; exact bV.1 232 (by decide)) cl (fun W2 o2 e2 => ?_)
  obtain ⟨o1, og, o3, o4, o5, o6, o7⟩ := o2
  have cl2 : g_cells W2 (g_h0 C0 M0 n) := fun x y x0 x1 y0 y1 => by rw [o1 283 (by decide)]; exact cl x y x0 x1 y0 y1
  refine s_warshall (d := d + 2) og rn cl2 (fun W3 f3 g3 c3 y3 y4 hy3 hy4 => ?_) _ _ ax_y_n ax_y_n
  have x3 : g_fr [283, 284, 285, 286] V W3 := ((f1.up (by decide)).tr (o1.up (by decide))).tr (f3.up (by decide))
  refine s_cyc98 (C0 := C0) hS n0 n1 (by rw [x3 234 (by decide)]; exact bV.1 234 (by decide)) c3 (fun l l0 l1 hl => ?_) g3 (T := T) (fun t w => by unfold m_nb; rw [x3 222 (by decide)]; exact i6 t w) (fun V' hV' => h V' ⟨⟨(i1.tr (x3.up (by decide))).tr (hV'.1.up (by decide)), fun j z => by rw [hV'.2.1 j z, x3 222 (by decide)]; exact i2 j z, hV'.2.2.1⟩, fun q a c => by rw [hV'.1 256 (by decide), x3 256 (by decide)]; exact i4 q a c, fun k k0 k1 => ?_, hV'.2.2.2⟩) _ _ hy3 hy4
  · obtain ⟨z, hz⟩ := g_wr_ex _ _ _ _ hl
    exact ((hH0 n l z n0 n1 l0 l1).mpr hz).1
  · have e4 : V' 284 = W2 284 := by rw [hV'.1 284 (by decide), f3 284 (by decide)]
    have e5 : V' 285 = W2 285 := by rw [hV'.1 285 (by decide), f3 285 (by decide)]
    by_cases ek : k = n
    · rw [ek]
      refine g_OD.at (V := W2) ⟨⟨o5.1, by have := o5.2; omega⟩, o7, e2⟩ (by rw [e4]) (fun s _ _ => by rw [e5])
    · refine (i5 k k0 (by omega)).at ?_ (fun s s0 s1 => ?_)
      · rw [e4, o3 k ek, f1 284 (by decide)]
      · rw [e5, o4 s (by omega), f1 285 (by decide)]
/-- the model's faults 6 -/
theorem s_kind6 (hS : g_S C0 M0) (hb : g_MB C0 M0 M) (h56 : ∀ q, 0 ≤ q → q < (M0 222 26) → M 256 q = 0) (hH0 : ∀ n l y, 0 ≤ n → n < (M0 222 86) → 0 ≤ l → l < 26 → (g_hm C0 M0 (M 239) n l y ↔ g_h0 C0 M0 n l y)) (hT : ∀ t, t < 701 → (m_nb M ≤ t ↔ T t)) (h : ∀ V', g_H6 C0 M0 M V' (M0 222 86) (fun t => T t ∨ ∃ n, (0 ≤ n ∧ n < (M0 222 86)) ∧ g_w6 C0 M0 n t) → Ψ V') : ax_N ay_lay (d + 5) q_Model_checkKind [.ref 222, ax_i 6] M Ψ Θ := by
  have hN := hS.2.1
  refine r_Model_checkKind hb.2.2.1 (by decide) ⟨fun q => absurd q (by decide), fun q => absurd q (by decide), fun q => absurd q (by decide), fun q => absurd q (by decide), fun _ _ _ _ => ?_⟩
  refine s_findLater (d := d + 3) hS hb h56 (fun V f g l => ?_)
  refine ax_for (I := fun n W => (0 ≤ n ∧ n ≤ (M0 222 86)) ∧ g_H6 C0 M0 M W n (fun t => T t ∨ ∃ x, (0 ≤ x ∧ x < n) ∧ g_w6 C0 M0 x t)) (K := fun n W => k_Model_checkKind_298 (d + 4) (some (ax_i 6)) n W Ψ Θ) (hi := (M0 222 86)) (fun n W w hI next => ?_) (fun n W w hI => ?_) 0 V ⟨⟨by decide, by omega⟩, ⟨f.up (by decide), fun j _ => by rw [f 222 (by decide)], g⟩, l, fun k k0 k1 => by omega, fun t w => ?_⟩
  · obtain ⟨hn, hI⟩ := hI
    have nc : W 222 86 = (M0 222 86) := by rw [hI.1.2.1 86 (by decide)]; exact hb.2.1 86 (by decide)
    refine r_Model_checkKind_298 hI.1.2.2 (ax_y_i _) ⟨by omega, by omega⟩ ?_
    rw [nc]
    refine ⟨fun z => by omega, fun _ => s_cycles hS hb hH0 hn.1 w hI (fun V' hV' => next V' ⟨⟨by omega, by omega⟩, hV'.1, hV'.2.1, hV'.2.2.1, fun t w => ?_⟩)⟩
    refine (hV'.2.2.2 t w).trans ?_
    constructor
    · rintro ((v | ⟨x, x0, x1⟩) | v)
      · exact Or.inl v
      · exact Or.inr ⟨x, ⟨x0.1, by omega⟩, x1⟩
      · exact Or.inr ⟨n, ⟨hn.1, by omega⟩, v⟩
    · rintro (v | ⟨x, x0, x1⟩)
      · exact Or.inl (Or.inl v)
      · by_cases e : x = n
        · rw [e] at x1; exact Or.inr x1
        · exact Or.inl (Or.inr ⟨x, ⟨x0.1, by omega⟩, x1⟩)
  · obtain ⟨hn, hI⟩ := hI
    have en : n = (M0 222 86) := by omega
    have nc : W 222 86 = (M0 222 86) := by rw [hI.1.2.1 86 (by decide)]; exact hb.2.1 86 (by decide)
    refine r_Model_checkKind_298 hI.1.2.2 (ax_y_i _) ⟨by omega, by omega⟩ ?_
    rw [nc]
    refine ⟨fun _ => h W ?_, fun z => by omega⟩
    rw [en] at hI
    exact hI
  · unfold m_nb
    rw [f 222 (by decide)]
    refine (hT t w).trans ⟨fun z => Or.inl z, fun z => ?_⟩
    rcases z with z | ⟨x, x0, -⟩
    · exact z
    · omega
end Kind6J
