/-! FAULTS 2: class and model see the same -/
section Kind2Q
variable {C0 M0 : ax_V}
/-- what clashes, in the class's and in the model's eyes: the first of them is the same -/
theorem g_S.c12 (hS : g_S C0 M0) {i : Int} (i0 : 0 ≤ i) (i1 : i < (M0 222 52)) (h : g_cf C0 M0 i) : g_c2 M0 i := by
  obtain ⟨f, l, ⟨f0, fl, l1⟩, ⟨e1, e2⟩, c1, c2, c3⟩ := h
  obtain ⟨si, si2, si3, -⟩ := hS.slot i0 i1
  obtain ⟨sf, sf2, sf3, -⟩ := hS.slot f0 (by omega : f < (M0 222 52))
  obtain ⟨sl, sl2, sl3, -⟩ := hS.slot (by omega : 0 ≤ l) (by omega : l < (M0 222 52))
  have oi := (hS.eo i0 i1).1
  have ol := (hS.eo (by omega : 0 ≤ l) (by omega : l < (M0 222 52))).1
  have ti := hS.st oi.1 oi.2
  have tl := hS.st ol.1 ol.2
  by_cases w1 : 0 ≤ M0 263 (g_eo M0 i)
  · by_cases w2 : M0 263 (g_eo M0 i) = M0 263 (g_eo M0 f)
    · have w3 : C0 551 (g_eo M0 i) = C0 551 (g_eo M0 l) := Classical.byContradiction (fun q => c3 ⟨w1, w2, q⟩)
      refine ⟨l, ⟨by omega, l1⟩, by omega, by omega, ?_⟩
      rcases ti with z | ⟨z1, z2, z3, z4, z5, z6, z7⟩
      · omega
      · rcases tl with y | ⟨y1, y2, y3, y4, y5, y6, y7⟩
        · omega
        · rw [w3] at z3
          have ea : M0 263 (g_eo M0 l) = M0 263 (g_eo M0 i) := by omega
          rw [ea] at y5
          exact Or.inr (Or.inr (by omega))
    · exact ⟨f, ⟨f0, by omega⟩, by omega, by omega, Or.inr (Or.inl (fun q => w2 q.symm))⟩
  · refine ⟨f, ⟨f0, by omega⟩, by omega, by omega, ?_⟩
    by_cases q : M0 263 (g_eo M0 f) = -1
    · exact Or.inl q
    · exact Or.inr (Or.inl (fun z => by rcases ti with y | y <;> omega))
/-- the first and the last one ahead with the same letter -/
theorem g_first {f : Int → Int} {s : Int} : ∀ (k : Nat), (∃ j, 0 ≤ j ∧ j < (k : Int) ∧ f j = s) → ∃ j, (0 ≤ j ∧ j < (k : Int)) ∧ f j = s ∧ ∀ x, 0 ≤ x → x < j → ¬ f x = s := by
  intro k
  induction k with
  | zero => rintro ⟨j, a, b, -⟩; omega
  | succ k ih =>
    rintro ⟨j, a, b, c⟩
    by_cases w : ∃ j, 0 ≤ j ∧ j < (k : Int) ∧ f j = s
    · obtain ⟨x, x0, x1⟩ := ih w
      exact ⟨x, ⟨x0.1, by omega⟩, x1⟩
    · have e : j = (k : Int) := by
        rcases Int.lt_or_le j (k : Int) with z | z
        · exact absurd ⟨j, a, z, c⟩ w
        · omega
      exact ⟨j, ⟨a, b⟩, c, fun x x0 x1 x2 => w ⟨x, x0, by omega, x2⟩⟩
theorem g_last {f : Int → Int} {s : Int} : ∀ (k : Nat), (∃ j, 0 ≤ j ∧ j < (k : Int) ∧ f j = s) → ∃ j, (0 ≤ j ∧ j < (k : Int)) ∧ f j = s ∧ ∀ x, j < x → x < (k : Int) → ¬ f x = s := by
  intro k
  induction k with
  | zero => rintro ⟨j, a, b, -⟩; omega
  | succ k ih =>
    rintro ⟨j, a, b, c⟩
    by_cases w : f (k : Int) = s
    · exact ⟨(k : Int), ⟨by omega, by omega⟩, w, fun x x0 x1 => by omega⟩
    · have : j < (k : Int) := by
        rcases Int.lt_or_le j (k : Int) with z | z
        · exact z
        · rw [show j = (k : Int) by omega] at c; exact absurd c w
      obtain ⟨x, x0, x1, x2⟩ := ih ⟨j, a, this, c⟩
      refine ⟨x, ⟨x0.1, by omega⟩, x1, fun y y0 y1 => ?_⟩
      by_cases q : y = (k : Int)
      · rw [q]; exact w
      · exact x2 y y0 (by omega)
theorem g_S.c21 (hS : g_S C0 M0) {i : Int} (i0 : 0 ≤ i) (i1 : i < (M0 222 52)) (h : g_c2 M0 i) : ∃ j, (0 ≤ j ∧ j ≤ i) ∧ M0 258 (g_eo M0 j) = M0 258 (g_eo M0 i) ∧ g_cf C0 M0 j := by
  obtain ⟨j, j0, j1, j2, j3⟩ := h
  obtain ⟨si, si2, si3, -⟩ := hS.slot i0 i1
  obtain ⟨sj, sj2, sj3, -⟩ := hS.slot j0.1 (by omega : j < (M0 222 52))
  have ej : C0 554 j = C0 554 i := by rw [si, sj, j1, j2]
  have ex : ∃ x, 0 ≤ x ∧ x < ((i.toNat : Nat) : Int) ∧ C0 554 x = C0 554 i := ⟨j, j0.1, by omega, ej⟩
  obtain ⟨f, f0, f1, f2⟩ := g_first (f := C0 554) i.toNat ex
  obtain ⟨l, l0, l1, l2⟩ := g_last (f := C0 554) i.toNat ex
  rw [show ((i.toNat : Nat) : Int) = i by omega] at f0 l0 l2
  have fl : f ≤ l := by
    rcases Int.lt_or_le l f with z | z
    · exact absurd l1 (f2 l l0.1 z)
    · exact z
  by_cases w : g_cf C0 M0 i
  · exact ⟨i, ⟨i0, Int.le_refl _⟩, rfl, w⟩
  · have w2 : 0 ≤ M0 263 (g_eo M0 i) ∧ M0 263 (g_eo M0 i) = M0 263 (g_eo M0 f) ∧ ¬ C0 551 (g_eo M0 i) = C0 551 (g_eo M0 l) := Classical.byContradiction (fun q => w ⟨f, l, ⟨f0.1, fl, l0.2⟩, ⟨f1, l1⟩, f2, l2, q⟩)
    obtain ⟨w3, w4, w5⟩ := w2
    -- one between that is of another automaton clashes itself
    have oth : ∀ x, f < x → x < i → C0 554 x = C0 554 i → ¬ M0 263 (g_eo M0 x) = M0 263 (g_eo M0 i) → ∃ j, (0 ≤ j ∧ j ≤ i) ∧ M0 258 (g_eo M0 j) = M0 258 (g_eo M0 i) ∧ g_cf C0 M0 j := by
      intro x x0 x1 x2 x3
      obtain ⟨sx, sx2, sx3, -⟩ := hS.slot (by omega : 0 ≤ x) (by omega : x < (M0 222 52))
      obtain ⟨l', l0', l1', l2'⟩ := g_last (f := C0 554) (s := C0 554 i) x.toNat ⟨f, f0.1, by omega, f1⟩
      rw [show ((x.toNat : Nat) : Int) = x by omega] at l0' l2'
      have fl' : f ≤ l' := by
        rcases Int.lt_or_le l' f with z | z
        · exact absurd l1' (f2 l' l0'.1 z)
        · exact z
      exact ⟨x, ⟨by omega, by omega⟩, by omega, f, l', ⟨f0.1, fl', l0'.2⟩, ⟨by rw [x2]; exact f1, by rw [x2]; exact l1'⟩, fun y y0 y1 => by rw [x2]; exact f2 y y0 y1, fun y y0 y1 => by rw [x2]; exact l2' y y0 y1, fun q => x3 (by rw [q.2.1, w4])⟩
    have oi := hS.eo i0 i1
    have oj := hS.eo j0.1 (by omega : j < (M0 222 52))
    have oll := hS.eo l0.1 (by omega : l < (M0 222 52))
    have fj : f ≤ j := by
      rcases Int.lt_or_le j f with z | z
      · exact absurd ej (f2 j j0.1 z)
      · exact z
    by_cases w6 : M0 263 (g_eo M0 j) = M0 263 (g_eo M0 i)
    · -- the same state: then the last one is in it, too
      have e4 : M0 264 (g_eo M0 j) = M0 264 (g_eo M0 i) := by
        rcases j3 with z | z | z
        · omega
        · exact absurd w6 z
        · exact z
      by_cases w7 : M0 263 (g_eo M0 l) = M0 263 (g_eo M0 i)
      · exfalso
        rcases hS.st oi.1.1 oi.1.2 with z | ⟨z1, z2, z3, z4, z5, z6, z7⟩
        · omega
        · rcases hS.st oj.1.1 oj.1.2 with y | ⟨y1, y2, y3, y4, y5, y6, y7⟩
          · omega
          · rcases hS.st oll.1.1 oll.1.2 with x | ⟨x1, x2, x3, x4, x5, x6, x7⟩
            · omega
            · rw [w6] at y5
              have ess : C0 551 (g_eo M0 j) = C0 551 (g_eo M0 i) := by omega
              -- by the parts of the X's
              have jl : j ≤ l := by
                rcases Int.lt_or_le l j with u | u
                · exact absurd ej (l2 j u j0.2)
                · exact u
              have m1 := hS.eoM j0.1 jl (by omega)
              have m2 := hS.eoM l0.1 (by omega : l ≤ i) i1
              have hB := hS.2.2.2.2.1
              have hcv := hB.2.2.2.2.2.1
              have xi := (hB.2.1 _ oi.1.1 oi.1.2).2.2.2.2.2.1
              have xj := (hB.2.1 _ oj.1.1 oj.1.2).2.2.2.2.2.1
              have xl := (hB.2.1 _ oll.1.1 oll.1.2).2.2.2.2.2.1
              have si' := (xi.2.2 _ (Int.le_refl _) xi.1.2.1).1.2.1
              have sj' := (xj.2.2 _ (Int.le_refl _) xj.1.2.1).1.2.1
              have sl' := (xl.2.2 _ (Int.le_refl _) xl.1.2.1).1.2.1
              have xi1 := xi.1
              have xj1 := xj.1
              have xl1 := xl.1
              have or1 : M0 261 (g_eo M0 j) ≤ M0 261 (g_eo M0 l) := by
                by_cases u : g_eo M0 j = g_eo M0 l
                · rw [u]; exact Int.le_refl _
                · have := hcv.2.2.1.1 _ _ oj.1.1 (by omega : g_eo M0 j < g_eo M0 l) oll.1.2
                  omega
              have or2 : M0 261 (g_eo M0 l) ≤ M0 261 (g_eo M0 i) := by
                by_cases u : g_eo M0 l = g_eo M0 i
                · rw [u]; exact Int.le_refl _
                · have := hcv.2.2.1.1 _ _ oll.1.1 (by omega : g_eo M0 l < g_eo M0 i) oi.1.2
                  omega
              have := hcv.2.1 _ _ _ xj1.1 or1 or2 (by omega) (by rw [sj']; omega) (by rw [si', sj', ess])
              rw [sl', sj'] at this
              exact w5 (by omega)
      · have lf : f < l := by
          rcases Int.lt_or_le f l with z | z
          · exact z
          · have : l = f := by omega
            rw [this] at w7; exact absurd w4.symm w7
        exact oth l lf l0.2 l1 w7
    · have lf : f < j := by
        rcases Int.lt_or_le f j with z | z
        · exact z
        · have : j = f := by omega
          rw [this] at w6; exact absurd w4.symm w6
      exact oth j lf j0.2 ej w6
/-- a place of a head -/
theorem g_S.hp (hS : g_S C0 M0) {i : Int} (i0 : 0 ≤ i) (i1 : i < (M0 222 52)) : C0 555 i = M0 266 i := (hS.h i0 i1).2.2.1
theorem g_S.heads2 (hS : g_S C0 M0) {n : Int} (n0 : 0 ≤ n) (n1 : n < (M0 222 86)) (t : Int) : (∃ i, (g_hf M0 (C0 509 n) ≤ i ∧ i < g_hf M0 (C0 509 (n + 1))) ∧ g_bh C0 M0 i ∧ C0 555 i ≤ t) ↔ ∃ e i, g_of M0 e i ∧ M0 258 e = n ∧ g_bl M0 i t := by
  have e0 := hS.eqF n0 (by omega)
  have e1 := hS.eqF (n := n + 1) (by omega) (by have := hS.2.1; omega)
  have h0 := hS.hfM e0.1 (Int.le_refl _) e0.2.1
  have h1 := hS.hfM e1.1 (Int.le_refl _) e1.2.1
  have lo := hS.2.2.2.2.1.2.2.2.2.2.1.2.2.2.1
  constructor
  · rintro ⟨i, a, b, c⟩
    have i0 : 0 ≤ i := by omega
    have i1 : i < (M0 222 52) := by omega
    have nd := (hS.hN i0 i1 n0 n1).mp a
    obtain ⟨si, si2, si3, -⟩ := hS.slot i0 i1
    have tl := hS.told si3.1 si3.2 si2.1 si2.2
    have f := hS.l si3.1 si3.2 si2.1 si2.2
    refine ⟨g_eo M0 i, i, hS.eo i0 i1, nd, ?_, by rw [← hS.hp i0 i1]; exact c⟩
    unfold g_bh at b
    rw [si, tl, f.1.1] at b
    rcases b with b | b | b
    · exact Or.inl b
    · exact Or.inr (Or.inl b)
    · exact Or.inr (Or.inr (hS.c12 i0 i1 b))
  · rintro ⟨e, i, ho, nd, b, c⟩
    have il := hS.ofl ho
    have eo := hS.eoe ho
    obtain ⟨si, si2, si3, -⟩ := hS.slot il.1 il.2
    have tl := hS.told si3.1 si3.2 si2.1 si2.2
    have f := hS.l si3.1 si3.2 si2.1 si2.2
    have hi := (hS.hN il.1 il.2 n0 n1).mpr (by rw [eo]; exact nd)
    have sim : ∀ (q : C0 533 (C0 554 i) = -1 ∨ C0 534 (C0 554 i) = 1), ∃ i, (g_hf M0 (C0 509 n) ≤ i ∧ i < g_hf M0 (C0 509 (n + 1))) ∧ g_bh C0 M0 i ∧ C0 555 i ≤ t := fun q => ⟨i, hi, by rcases q with q | q; exact Or.inl q; exact Or.inr (Or.inl q), by rw [hS.hp il.1 il.2]; exact c⟩
    rcases b with b | b | b
    · exact sim (Or.inl (by rw [si, tl]; exact b))
    · exact sim (Or.inr (by rw [si, f.1.1]; exact b))
    · obtain ⟨j, jj, nj, cj⟩ := hS.c21 il.1 il.2 b
      have j1 : j < (M0 222 52) := by omega
      refine ⟨j, (hS.hN jj.1 j1 n0 n1).mpr (by rw [nj, eo]; exact nd), Or.inr (Or.inr cj), ?_⟩
      rw [hS.hp jj.1 j1]
      by_cases u : j = i
      · rw [u]; exact c
      · have := lo j i jj.1 (by omega) il.2
        omega
/-- the faults of names: the same, but for what lies behind a letter that is told twice -/
theorem g_S.same2 (hS : g_S C0 M0) (t : Int) : (m_nb M0 ≤ t ∨ ∃ n, (0 ≤ n ∧ n < (M0 222 86)) ∧ g_w2 C0 M0 n t) ↔ (m_nb M0 ≤ t ∨ ∃ n, (0 ≤ n ∧ n < (M0 222 86)) ∧ g_v2 M0 n t) := by
  have hck := hS.2.2.2.1.2.2.1
  have hN := hS.2.1
  -- a letter's clock, in the model's row of clocks
  constructor
  · rintro (z | ⟨n, hn, z⟩)
    · exact Or.inl z
    · refine Or.inr ⟨n, hn, ?_⟩
      rcases z with z | z | z | z | ⟨l, hl, k, z⟩
      · exact Or.inr (Or.inr (Or.inr (Or.inl ((hS.heads2 hn.1 hn.2 t).mp z))))
      · exact Or.inl z
      · exact Or.inr (Or.inr (Or.inl z))
      · exact Or.inr (Or.inr (Or.inr (Or.inr (Or.inr z))))
      · have f := hS.l hn.1 hn.2 hl.1 hl.2
        rcases z with ⟨z1, z2, z3⟩ | ⟨z1, z2, z3⟩
        · refine Or.inr (Or.inr (Or.inr (Or.inr (Or.inl ⟨l, hl, by have := f.1; omega, ?_, z3⟩))))
          rintro ⟨e, i, ho, e1, e2⟩
          have il := hS.ofl ho
          have eo := hS.eoe ho
          have sl := (hS.slot il.1 il.2).1
          rw [eo, e1, e2] at sl
          exact z2 i il.1 il.2 sl
        · obtain ⟨j, j0, j1, j2⟩ := hck.2.1 n l hn.1 hn.2 hl.1 hl.2 z1
          refine Or.inr (Or.inl ⟨j, ⟨j0, j1⟩, j2.2.1, ?_, by rw [j2.2.2]; exact z3⟩)
          have e9 : (M0 235 (26 * n + l) - 1) / 2 = M0 279 j := by rcases j2.1 with u | u <;> omega
          rw [e9] at z2; exact z2
  · rintro (z | ⟨n, hn, z⟩)
    · exact Or.inl z
    · rcases z with z | ⟨j, j0, j1, j2, j3⟩ | z | z | ⟨l, hl, k, z1, z2⟩ | z
      · exact Or.inr ⟨n, hn, Or.inr (Or.inl z)⟩
      · obtain ⟨c1, c2, c3, c4⟩ := hck.2.2 j j0.1 j0.2
        rcases c4 with ⟨l, l0, l1, l2, l3⟩ | ⟨l2, l3⟩
        · rw [j1] at l2 l3
          have f := hS.l hn.1 hn.2 l0 l1
          refine Or.inr ⟨n, hn, Or.inr (Or.inr (Or.inr (Or.inr ⟨l, ⟨l0, l1⟩, ?_, Or.inr ⟨l2, ?_, by rw [← l3.2.2]; exact j3⟩⟩)))⟩
          · rcases f.2.2.2.1 with u | u <;> omega
          · have e9 : (M0 235 (26 * n + l) - 1) / 2 = M0 279 j := by rcases l3.1 with u | u <;> omega
            rw [e9]; exact j2
        · refine Or.inl ?_
          unfold m_nb
          rw [if_neg l2, if_pos (by rcases hS.2.2.2.1.2.2.2 with u | u; exact absurd u.1 l2; exact u.2.2)]; omega
      · exact Or.inr ⟨n, hn, Or.inr (Or.inr (Or.inl z))⟩
      · exact Or.inr ⟨n, hn, Or.inl ((hS.heads2 hn.1 hn.2 t).mpr z)⟩
      · refine Or.inr ⟨n, hn, Or.inr (Or.inr (Or.inr (Or.inr ⟨l, hl, by omega, Or.inl ⟨by omega, fun i i0 i1 i2 => z1 ?_, z2⟩⟩)))⟩
        obtain ⟨si, si2, si3, -⟩ := hS.slot i0 i1
        exact ⟨g_eo M0 i, i, hS.eo i0 i1, by omega, by omega⟩
      · exact Or.inr ⟨n, hn, Or.inr (Or.inr (Or.inr (Or.inl z)))⟩
end Kind2Q
