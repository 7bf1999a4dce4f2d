/-! PROVING: the search, on both sides -/
def p_gd (most f : Int) (fr : Int → Int) : Prop := (0 < f ∧ f ≤ most ∧ most ≤ 300) ∧ fr 0 = -1 ∧ ∀ y, 0 < y → y < f → 0 ≤ fr y ∧ fr y < y
/-- the class behind the search -/
def p_CE (V W : ax_V) (f l : Int) (wf : Int → Int) : Prop := (g_fr [150, 151, 152, 153, 154, 155, 157, 158, 160, 161, 162, 163, 164, 165, 620] V W ∧ (∀ k, ¬ k = 10 → W 150 k = V 150 k) ∧ (∀ k, ¬ k = 1 → ¬ k = 2 → W 157 k = V 157 k) ∧ ax_g W) ∧ W 157 1 = f ∧ W 157 2 = l ∧ ∀ i, 0 ≤ i → i < l → W 158 i = wf i
/-- the model behind the search -/
def p_NE (N W : ax_V) (f l : Int) (wf : Int → Int) : Prop := (g_fr [222, 291, 292, 293, 294, 295, 296, 297, 298, 309, 310, 311, 312, 313] N W ∧ g_sc [101, 115, 120, 123] N W ∧ ax_g W) ∧ W 222 115 = f ∧ W 222 120 = l ∧ ∀ i, 0 ≤ i → i < l → W 312 i = wf i
/-- changes of the search -/
def p_CG (V W : ax_V) : Prop := g_fr [150, 151, 152, 153, 154, 155, 157, 158, 160, 161, 162, 163, 164, 165, 620] V W ∧ (∀ k, ¬ k = 10 → W 150 k = V 150 k) ∧ (∀ k, ¬ k = 1 → ¬ k = 2 → W 157 k = V 157 k) ∧ ax_g W
def p_NG (N W : ax_V) : Prop := g_fr [222, 291, 292, 293, 294, 295, 296, 297, 298, 309, 310, 311, 312, 313] N W ∧ g_sc [101, 115, 120, 123] N W ∧ ax_g W
theorem p_CF.G {V W : ax_V} (h : p_CF V W) : p_CG V W := ⟨fun c z => h.1 c (by simp only [List.mem_cons, List.not_mem_nil, or_false, not_or] at z ⊢; omega), h.2.1, fun k _ _ => by rw [h.1 157 (by decide)], h.2.2⟩
theorem p_NF.G {V W : ax_V} (h : p_NF V W) : p_NG V W := ⟨fun c z => h.1 c (by simp only [List.mem_cons, List.not_mem_nil, or_false, not_or] at z ⊢; omega), fun k z => h.2.1 k (by simp only [List.mem_cons, List.not_mem_nil, or_false, not_or] at z ⊢; omega), h.2.2⟩
theorem p_CG.tr {V W X : ax_V} (h : p_CG V W) (k : p_CG W X) : p_CG V X := ⟨h.1.tr k.1, fun f z => by rw [k.2.1 f z, h.2.1 f z], fun f z1 z2 => by rw [k.2.2.1 f z1 z2, h.2.2.1 f z1 z2], k.2.2.2⟩
theorem p_NG.tr {V W X : ax_V} (h : p_NG V W) (k : p_NG W X) : p_NG V X := ⟨h.1.tr k.1, fun f z => by rw [k.2.1 f z, h.2.1 f z], k.2.2⟩
theorem p_CE.tr {V W X : ax_V} {f l : Int} {wf : Int → Int} (h : p_CG V W) (k : p_CE W X f l wf) : p_CE V X f l wf := ⟨p_CG.tr h k.1, k.2⟩
theorem p_NE.tr {V W X : ax_V} {f l : Int} {wf : Int → Int} (h : p_NG V W) (k : p_NE W X f l wf) : p_NE V X f l wf := ⟨p_NG.tr h k.1, k.2⟩
theorem p_it_c2 {f g : Int → Int} {D : Nat} {m : Int} (h : p_D f D m) (le : ∀ e : Nat, e ≤ D → p_it f e m ≤ m) (e : ∀ y, 0 < y → y ≤ m → g y = f y) : ∀ k : Nat, k ≤ D → p_it g k m = p_it f k m := by
  intro k
  induction k with
  | zero => intro _; rfl
  | succ k ih =>
    intro hk
    have u := h.1 k (by omega)
    show g (p_it g k m) = f (p_it f k m)
    rw [ih (by omega)]
    exact e _ u.1 (le k (by omega))
section Search
variable {nw : Nat} {C0 M0 P : ax_V} {F G Hh S U J Im : Int → Int} {n o wd i0 most : Int}
set_option maxHeartbeats 4000000 in
theorem p_search (hX : h_X C0 M0 P F G Hh S U J Im) (hk : p_ok M0 U J n o i0 wd) (hnw : nw ≤ 1000000) (mw : most * wd ≤ (nw : Int)) : ∀ (K : Nat) (m x f : Int) (mem : Int → Int → Int) (fr bw : Int → Int), (300 - m) * 20 + (16 - x) ≤ (K : Int) → 0 ≤ m → m < f → 0 ≤ x → x ≤ ax_shl 1 (M0 227 n) → p_gd most f fr → ∃ (r f' l : Int) (wf : Int → Int), (r = 0 ∨ r = 1 ∨ r = 2) ∧ (0 ≤ l ∧ l ≤ 300) ∧ (0 ≤ f' ∧ f' ≤ 300) ∧
    (∀ V, p_SC C0 M0 P U F n o i0 most wd f mem fr bw V → ∀ (B w d : Nat) (y4 : Option Value) (Φ : Int → ax_V → Prop) (Θ : ax_V → Prop), ax_y y4 → (∀ W, p_CE V W f' l wf → Φ r W) → k_Prover_search_54 B w nw (d + 27) (ax_shl 1 (M0 227 n)) m x y4 V Φ Θ) ∧
    ∀ N, p_SM C0 M0 S U J Im F n o wd f mem fr bw N → ∀ (d : Nat) (Φ : Int → ax_V → Prop) (Θ : ax_V → Prop), (∀ W, p_NE N W f' l wf → Φ r W) → k_Model_search_84 (d + 82) n i0 o most m x N Φ Θ := by
  have kw := p_ok.bd hX hk
  have sh := p_shl kw.2.2.2.2.1
  intro K
  induction K with
  | zero => intro m x f mem fr bw hK m0 m1 x0 x1 hgd; have := hgd.1; omega
  | succ K ih =>
    intro m x f mem fr bw hK m0 m1 x0 x1 hgd
    obtain ⟨⟨f0, fm, m3⟩, root, back⟩ := hgd
    have rn : ax_rg n := ⟨by omega, by omega⟩
    have rmost : ax_rg most := ⟨by omega, by omega⟩
    have rw' : ax_rg (ax_shl 1 (M0 227 n)) := ⟨by omega, by omega⟩
    have rm : ax_rg m := ⟨by omega, by omega⟩
    have rx : ax_rg x := ⟨by omega, by omega⟩
    have n9 : 0 ≤ n ∧ n < 9 := ⟨kw.2.1.1, by omega⟩
    have fwd : f * wd ≤ (nw : Int) := Int.le_trans (Int.mul_le_mul_of_nonneg_right fm kw.1.1) mw
    by_cases xw : ax_shl 1 (M0 227 n) ≤ x
    · by_cases mf : f ≤ m + 1
      · refine ⟨1, f, 0, fun _ => 0, Or.inr (Or.inl rfl), by decide, ⟨by omega, by omega⟩, fun V hV B w d y4 Φ Θ hy h => ?_, fun N hN d Φ Θ h => ?_⟩
        · obtain ⟨⟨a1, a2⟩, b, c, e1, e2⟩ := hV
          refine r_Prover_search_54 hnw a2 rw' rm rx hy ⟨fun _ => r_Prover_search_37 hnw a2 rw' ⟨by omega, by omega⟩ (ax_y_i _) hy ?_, fun z => by omega⟩
          rw [b.1]
          exact ⟨fun _ => h V ⟨⟨fun _ _ => rfl, fun _ _ => rfl, fun _ _ _ => rfl, a2⟩, b.1, b.2.1, fun i u v => by omega⟩, fun z => by omega⟩
        · obtain ⟨⟨a1, a2⟩, b, e1, e2⟩ := hN
          have e227 : N 227 n = M0 227 n := by rw [a1.1 227 (by decide) (by decide) (by decide)]
          refine r_Model_search_84 a2 rn kw.2.2.2.1 kw.2.2.1 rmost rm rx ⟨n9, ?_⟩
          rw [e227]
          refine ⟨fun _ => r_Model_search_72 a2 rn kw.2.2.2.1 kw.2.2.1 rmost ⟨by omega, by omega⟩ (ax_y_i _) ?_, fun z => by omega⟩
          rw [b.1]
          exact ⟨fun _ => h N ⟨⟨fun _ _ => rfl, fun _ _ => rfl, a2⟩, b.1, b.2.2, fun i u v => by omega⟩, fun z => by omega⟩
      · obtain ⟨r, f', l, wf, hr, hl, hf', ic, im⟩ := ih (m + 1) 0 f mem fr bw (by omega) (by omega) (by omega) (by omega) (by omega) ⟨⟨f0, fm, m3⟩, root, back⟩
        refine ⟨r, f', l, wf, hr, hl, hf', fun V hV B w d y4 Φ Θ hy h => ?_, fun N hN d Φ Θ h => ?_⟩
        · have hV' := hV
          obtain ⟨⟨a1, a2⟩, b, c, e1, e2⟩ := hV
          refine r_Prover_search_54 hnw a2 rw' rm rx hy ⟨fun _ => r_Prover_search_37 hnw a2 rw' ⟨by omega, by omega⟩ (ax_y_i _) hy ?_, fun z => by omega⟩
          rw [b.1]
          exact ⟨fun z => by omega, fun _ => ⟨fun z => by omega, fun _ => ic V hV' B w d y4 Φ Θ hy h⟩⟩
        · have hN' := hN
          obtain ⟨⟨a1, a2⟩, b, e1, e2⟩ := hN
          have e227 : N 227 n = M0 227 n := by rw [a1.1 227 (by decide) (by decide) (by decide)]
          refine r_Model_search_84 a2 rn kw.2.2.2.1 kw.2.2.1 rmost rm rx ⟨n9, ?_⟩
          rw [e227]
          refine ⟨fun _ => r_Model_search_72 a2 rn kw.2.2.2.1 kw.2.2.1 rmost ⟨by omega, by omega⟩ (ax_y_i _) ?_, fun z => by omega⟩
          rw [b.1]
          exact ⟨fun z => by omega, fun _ => im N hN' d Φ Θ h⟩
    · have xlt : x < ax_shl 1 (M0 227 n) := by omega
      obtain ⟨t, g', ht, hc, hm⟩ := p_step (x := x) (nw := nw) hX hk hnw ⟨x0, by omega⟩ (mem m)
      by_cases t0 : t = 0
      · -- a bad tick: the path is told
        obtain ⟨D, dm, hD⟩ := p_D.is (f := f) (by omega) back m.toNat m (by omega) m0 m1
        have le := p_it_le back m1 hD
        have d3 := hD.2.2
        obtain ⟨wf, ewf⟩ : ∃ wf : Int → Int, wf = fun i => if i = (D : Int) then x else bw (p_it fr (D - 1 - i).toNat m) := ⟨_, rfl⟩
        have wD : wf D = x := by rw [ewf]; exact if_pos rfl
        have wE : ∀ e : Nat, e < D → wf (D - 1 - e) = bw (p_it fr e m) := fun e he => by
          rw [ewf]
          show (if (D : Int) - 1 - e = D then x else bw (p_it fr (D - 1 - (D - 1 - e) : Int).toNat m)) = _
          rw [if_neg (by omega), show ((D : Int) - 1 - ((D : Int) - 1 - e)).toNat = e by omega]
        refine ⟨0, f, D + 1, wf, Or.inl rfl, ⟨by omega, by omega⟩, ⟨by omega, by omega⟩, fun V hV B w d y4 Φ Θ hy h => ?_, fun N hN d Φ Θ h => ?_⟩
        · refine p_cls (f := f) hX hk hnw mw m3 ⟨m0, m1⟩ fm ⟨x0, xlt⟩ sh.2 ht hc hV rfl hy (fun W cf _ _ => ⟨fun _ => ?_, fun z => absurd t0 z⟩)
          have sc := cf.SC hV
          obtain ⟨⟨a1, a2⟩, b, c, e1, e2⟩ := sc
          have eqf : ∀ y, 0 < y → y ≤ m → W 161 y = fr y := fun y u v => (e2 y (by omega) (by omega)).1
          have pit := p_it_c2 hD le eqf
          have hDW : p_D (W 161) D m := ⟨fun e he => by rw [pit e (by omega)]; exact hD.1 e he, by rw [pit D (Nat.le_refl _)]; exact hD.2.1, d3⟩
          refine t_tellPath (d := d + 26) hnw a2 ⟨m0, by omega⟩ rx hDW (fun W2 f2 s2 g2 l2 x2 p2 => h W2 (p_CE.tr cf.G ⟨⟨fun c z => f2 c (by simp only [List.mem_cons, List.not_mem_nil, or_false, not_or] at z ⊢; omega), fun k _ => by rw [f2 150 (by decide)], fun k _ z2 => s2 k z2, g2⟩, by rw [s2 1 (by decide)]; exact b.1, l2, fun i u v => ?_⟩))
          by_cases y : i = (D : Int)
          · rw [y, x2, wD]
          · obtain ⟨e, ee⟩ : ∃ e : Nat, (e : Int) = D - 1 - i := ⟨(D - 1 - i).toNat, by omega⟩
            have ei : i = D - 1 - e := by omega
            have b1 := hD.1 e (by omega)
            have b2 := le e (by omega)
            rw [ei, p2 e (by omega), wE e (by omega), pit e (by omega)]
            exact (e2 _ (by omega) (by omega)).2
        · refine p_mdl (f := f) hX hk ⟨by omega, m3⟩ ⟨m0, m1⟩ fm ⟨x0, xlt⟩ hm hN rfl (fun W nf _ _ => ⟨fun _ => ?_, fun z => absurd t0 z⟩)
          have sm := nf.SM hN
          obtain ⟨⟨a1, a2⟩, b, e1, e2⟩ := sm
          have eqf : ∀ y, 0 < y → y ≤ m → W 310 y = fr y := fun y u v => (e2 y (by omega) (by omega)).1
          have pit := p_it_c2 hD le eqf
          have hDW : p_D (W 310) D m := ⟨fun e he => by rw [pit e (by omega)]; exact hD.1 e he, by rw [pit D (Nat.le_refl _)]; exact hD.2.1, d3⟩
          refine s_findWay (d := d + 81) a2 ⟨m0, by omega⟩ rx hDW (by rw [(e2 0 (by omega) f0).1]; exact root) (fun y u v z => ?_) (fun e he => by rw [pit e he]; exact le e he) (fun W2 f2 s2 g2 l2 x2 p2 => h W2 (p_NE.tr nf.G ⟨⟨fun c z => f2 c (by simp only [List.mem_cons, List.not_mem_nil, or_false, not_or] at z ⊢; omega), fun k z => s2 k (by simp only [List.mem_cons, List.not_mem_nil, or_false, not_or] at z ⊢; omega), g2⟩, by rw [s2 115 (by decide)]; exact b.1, l2, fun i u v => ?_⟩))
          · rw [eqf y u v] at z
            have := back y u (by omega)
            omega
          · by_cases y : i = (D : Int)
            · rw [y, x2, wD]
            · obtain ⟨e, ee⟩ : ∃ e : Nat, (e : Int) = D - 1 - i := ⟨(D - 1 - i).toNat, by omega⟩
              have ei : i = D - 1 - e := by omega
              have b1 := hD.1 e (by omega)
              have b2 := le e (by omega)
              rw [ei, p2 e (by omega), wE e (by omega), pit e (by omega)]
              exact (e2 _ (by omega) (by omega)).2
      · -- nothing new
        have old : (t = 2 ∨ (t = 1 ∧ ∃ m', (0 ≤ m' ∧ m' < f) ∧ ∀ j, 0 ≤ j → j < wd → mem m' j = g' j)) → ∃ (r f' l : Int) (wf : Int → Int), (r = 0 ∨ r = 1 ∨ r = 2) ∧ (0 ≤ l ∧ l ≤ 300) ∧ (0 ≤ f' ∧ f' ≤ 300) ∧ (∀ V, p_SC C0 M0 P U F n o i0 most wd f mem fr bw V → ∀ (B w d : Nat) (y4 : Option Value) (Φ : Int → ax_V → Prop) (Θ : ax_V → Prop), ax_y y4 → (∀ W, p_CE V W f' l wf → Φ r W) → k_Prover_search_54 B w nw (d + 27) (ax_shl 1 (M0 227 n)) m x y4 V Φ Θ) ∧ ∀ N, p_SM C0 M0 S U J Im F n o wd f mem fr bw N → ∀ (d : Nat) (Φ : Int → ax_V → Prop) (Θ : ax_V → Prop), (∀ W, p_NE N W f' l wf → Φ r W) → k_Model_search_84 (d + 82) n i0 o most m x N Φ Θ := fun how => by
          obtain ⟨r, f', l, wf, hr, hl, hf', ic, im⟩ := ih m (x + 1) f mem fr bw (by omega) m0 m1 (by omega) (by omega) ⟨⟨f0, fm, m3⟩, root, back⟩
          refine ⟨r, f', l, wf, hr, hl, hf', fun V hV B w d y4 Φ Θ hy h => ?_, fun N hN d Φ Θ h => ?_⟩
          · refine p_cls (f := f) hX hk hnw mw m3 ⟨m0, m1⟩ fm ⟨x0, xlt⟩ sh.2 ht hc hV rfl hy (fun W cf k1 k2 => ⟨fun z => absurd z t0, fun _ => ?_⟩)
            have sc := cf.SC hV
            have sc' := sc
            obtain ⟨⟨a1, a2⟩, b, c, e1, e2⟩ := sc
            have is : ∃ m', (0 ≤ m' ∧ m' < f) ∧ ∀ j, 0 ≤ j → j < wd → W 620 (m' * wd + j) = W 160 j := by
              rcases how with z | ⟨z, m', mb, same⟩
              · exact ⟨m, ⟨m0, m1⟩, fun j u v => by rw [k2 z j u v, cf.1 620 (by decide)]⟩
              · exact ⟨m', mb, (p_same hX hk (a := fun i => W 620 (m' * wd + i)) (fun i j pp => (e1 m' mb.1 mb.2).1 i j pp) (k1 z).1).mpr same⟩
            refine t_findSpot (d := d + 25) hnw a2 b.2.2.2.2.2.2 kw.1 ⟨by omega, by omega⟩ fwd c (fun _ => ⟨fun _ => ?_, fun z => absurd rfl z⟩) (fun no => ?_)
            · exact ic W sc' B w d _ Φ Θ (ax_y_i _) (fun W2 z => h W2 (p_CE.tr cf.G z))
            · obtain ⟨m', mb, same⟩ := is
              exact absurd same (no m' mb.1 mb.2)
          · refine p_mdl (f := f) hX hk ⟨by omega, m3⟩ ⟨m0, m1⟩ fm ⟨x0, xlt⟩ hm hN rfl (fun W nf k1 k2 => ⟨fun z => absurd z t0, fun _ => ⟨fun z => ?_, fun _ => ?_⟩⟩)
            · have sm := nf.SM hN
              have sm' := sm
              obtain ⟨⟨a1, a2⟩, b, e1, e2⟩ := sm
              rcases how with q | ⟨q, m', mb, same⟩
              · rw [k2 q] at z; exact absurd z (by decide)
              · refine s_isSeenM (d := d + 81) a2 (by rw [b.1]; exact ⟨by omega, by omega⟩) (by rw [b.2.1]; exact kw.1) (fun _ => ⟨fun y => absurd y (by decide), fun _ => im W sm' d Φ Θ (fun W2 z => h W2 (p_NE.tr nf.G z))⟩) (fun no => ?_)
                rw [b.1, b.2.1] at no
                exact absurd (fun j u v => by rw [(e1 m' mb.1 mb.2).1 j u v, (k1 q).1 j u v]; exact same j u v) (no m' mb.1 mb.2)
            · exact im W (nf.SM hN) d Φ Θ (fun W2 z => h W2 (p_NE.tr nf.G z))
        by_cases t2 : t = 2
        · exact old (Or.inl t2)
        · have t1 : t = 1 := by
            rcases ht with z | z | z
            · exact absurd z t0
            · exact z
            · exact absurd z t2
          by_cases seen : ∃ m', (0 ≤ m' ∧ m' < f) ∧ ∀ j, 0 ≤ j → j < wd → mem m' j = g' j
          · exact old (Or.inr ⟨t1, seen⟩)
          · have noC : ∀ V W : ax_V, p_SC C0 M0 P U F n o i0 most wd f mem fr bw W → (∀ i j, p_PP C0 M0 U n o i j → W 160 i = g' j) → ¬ ∃ m', (0 ≤ m' ∧ m' < f) ∧ ∀ j, 0 ≤ j → j < wd → W 620 (m' * wd + j) = W 160 j := fun V W sc pr z => by
              obtain ⟨m', mb, same⟩ := z
              exact seen ⟨m', mb, (p_same hX hk (a := fun i => W 620 (m' * wd + i)) (fun i j pp => (sc.2.2.2.1 m' mb.1 mb.2).1 i j pp) pr).mp same⟩
            by_cases full : f = most
            · refine ⟨2, f, 0, fun _ => 0, Or.inr (Or.inr rfl), by decide, ⟨by omega, by omega⟩, fun V hV B w d y4 Φ Θ hy h => ?_, fun N hN d Φ Θ h => ?_⟩
              · refine p_cls (f := f) hX hk hnw mw m3 ⟨m0, m1⟩ fm ⟨x0, xlt⟩ sh.2 ht hc hV rfl hy (fun W cf k1 _ => ⟨fun z => absurd z t0, fun _ => ?_⟩)
                have sc := cf.SC hV
                have nc := noC V W sc (k1 t1).1
                obtain ⟨⟨a1, a2⟩, b, c, e1, e2⟩ := sc
                refine t_findSpot (d := d + 25) hnw a2 b.2.2.2.2.2.2 kw.1 ⟨by omega, by omega⟩ fwd c (fun z => absurd z nc) (fun _ s e s1 _ _ _ _ => ⟨fun z => by omega, fun _ => ⟨fun z => ?_, fun _ => ?_⟩⟩)
                · rw [b.1, b.2.2.2.2.2.1] at z; omega
                · exact h W (p_CE.tr cf.G ⟨⟨fun _ _ => rfl, fun _ _ => rfl, fun _ _ _ => rfl, a2⟩, b.1, b.2.1, fun i u v => by omega⟩)
              · refine p_mdl (f := f) hX hk ⟨by omega, m3⟩ ⟨m0, m1⟩ fm ⟨x0, xlt⟩ hm hN rfl (fun W nf k1 _ => ⟨fun z => absurd z t0, fun _ => ⟨fun z => ?_, fun z => absurd (k1 t1).2.1 z⟩⟩)
                have sm := nf.SM hN
                obtain ⟨⟨a1, a2⟩, b, e1, e2⟩ := sm
                refine s_isSeenM (d := d + 81) a2 (by rw [b.1]; exact ⟨by omega, by omega⟩) (by rw [b.2.1]; exact kw.1) (fun is => ?_) (fun no => ⟨fun _ => ⟨fun _ => ?_, fun y => ?_⟩, fun y => absurd rfl y⟩)
                · rw [b.1, b.2.1] at is
                  obtain ⟨m', mb, same⟩ := is
                  exact absurd ⟨m', mb, fun j u v => by rw [← (e1 m' mb.1 mb.2).1 j u v, ← (k1 t1).1 j u v]; exact same j u v⟩ seen
                · exact h W (p_NE.tr nf.G ⟨⟨fun _ _ => rfl, fun _ _ => rfl, a2⟩, b.1, b.2.2, fun i u v => by omega⟩)
                · exact absurd (by rw [b.1]; exact full) y
            · -- one more
              obtain ⟨mem', em⟩ : ∃ mem' : Int → Int → Int, mem' = fun a => if a = f then g' else mem a := ⟨_, rfl⟩
              obtain ⟨fr', ef⟩ : ∃ fr' : Int → Int, fr' = fun a => if a = f then m else fr a := ⟨_, rfl⟩
              obtain ⟨bw', eb⟩ : ∃ bw' : Int → Int, bw' = fun a => if a = f then x else bw a := ⟨_, rfl⟩
              have memF : mem' f = g' := by rw [em]; exact if_pos rfl
              have memO : ∀ a, ¬ a = f → mem' a = mem a := fun a z => by rw [em]; exact if_neg z
              have frF : fr' f = m := by rw [ef]; exact if_pos rfl
              have frO : ∀ a, ¬ a = f → fr' a = fr a := fun a z => by rw [ef]; exact if_neg z
              have bwF : bw' f = x := by rw [eb]; exact if_pos rfl
              have bwO : ∀ a, ¬ a = f → bw' a = bw a := fun a z => by rw [eb]; exact if_neg z
              have gd' : p_gd most (f + 1) fr' := ⟨⟨by omega, by omega, m3⟩, by rw [frO 0 (by omega)]; exact root, fun y u v => by
                by_cases z : y = f
                · rw [z, frF]; exact ⟨m0, m1⟩
                · rw [frO y z]; exact back y u (by omega)⟩
              obtain ⟨r, f', l, wf, hr, hl, hf', ic, im⟩ := ih m (x + 1) (f + 1) mem' fr' bw' (by omega) m0 (by omega) (by omega) (by omega) gd'
              refine ⟨r, f', l, wf, hr, hl, hf', fun V hV B w d y4 Φ Θ hy h => ?_, fun N hN d Φ Θ h => ?_⟩
              · refine p_cls (f := f) hX hk hnw mw m3 ⟨m0, m1⟩ fm ⟨x0, xlt⟩ sh.2 ht hc hV rfl hy (fun W cf k1 _ => ⟨fun z => absurd z t0, fun _ => ?_⟩)
                have sc := cf.SC hV
                have nc := noC V W sc (k1 t1).1
                obtain ⟨⟨a1, a2⟩, b, c, e1, e2⟩ := sc
                have fb := p_mul kw.1.1 (show f < most by omega)
                refine t_findSpot (d := d + 25) hnw a2 b.2.2.2.2.2.2 kw.1 ⟨by omega, by omega⟩ fwd c (fun z => absurd z nc) (fun _ s e s1 s0 e1' es ch => ⟨fun z => by omega, fun _ => ⟨fun _ => ?_, fun z => ?_⟩⟩)
                · refine t_keepRow (d := d + 26) hnw a2 b.2.2.2.2.2.2 kw.1 b.1 ⟨by omega, by omega⟩ (by omega) s1 rm rx (fun W2 f2 s2 g2 n2 r2 o2 q2 p2 t2' u2 => ?_)
                  have cg : p_CG W W2 := ⟨fun c z => f2 c (by simp only [List.mem_cons, List.not_mem_nil, or_false, not_or] at z ⊢; omega), fun k _ => by rw [f2 150 (by decide)], fun k z1 _ => s2 k z1, g2⟩
                  have hh : p_h (fun j => W2 620 (f * wd + j)) wd = p_h (W 160) wd := p_h_c kw.1.1 r2
                  refine ic W2 ⟨⟨fun c u v => by rw [f2 c (by simp; omega)]; exact a1 c u v, g2⟩, ⟨n2, by rw [s2 2 (by decide)]; exact b.2.1, by rw [s2 13 (by decide)]; exact b.2.2.1, by rw [s2 14 (by decide)]; exact b.2.2.2.1, by rw [s2 15 (by decide)]; exact b.2.2.2.2.1, by rw [s2 16 (by decide)]; exact b.2.2.2.2.2.1, by rw [s2 17 (by decide)]; exact b.2.2.2.2.2.2⟩, c.keep kw.1.1 (by omega) s1 s0 t2' u2 (fun j z => o2 j (by omega)) e1' (by rw [hh]; exact es) (by rw [hh]; exact ch), fun m' u v => ?_, fun m' u v => ?_⟩ B w d _ Φ Θ (ax_y_i _) (fun W3 z => h W3 (p_CE.tr (cf.G.tr cg) z))
                  · by_cases z : m' = f
                    · rw [z, memF]
                      refine ⟨fun i j pp => ?_, (k1 t1).2⟩
                      have pb := p_PP.b hX hk pp
                      rw [r2 i pb.1.1 pb.1.2]; exact (k1 t1).1 i j pp
                    · have mb' := p_mul kw.1.1 (show m' < f by omega)
                      rw [memO m' z]
                      refine ⟨fun i j pp => ?_, (e1 m' u (by omega)).2⟩
                      have pb := p_PP.b hX hk pp
                      rw [o2 _ (by omega)]; exact (e1 m' u (by omega)).1 i j pp
                  · by_cases z : m' = f
                    · rw [z, frF, bwF]; exact q2
                    · rw [frO m' z, bwO m' z, (p2 m' z).1, (p2 m' z).2]; exact e2 m' u (by omega)
                · rw [b.1, b.2.2.2.2.2.1] at z; omega
              · refine p_mdl (f := f) hX hk ⟨by omega, m3⟩ ⟨m0, m1⟩ fm ⟨x0, xlt⟩ hm hN rfl (fun W nf k1 _ => ⟨fun z => absurd z t0, fun _ => ⟨fun z => ?_, fun z => absurd (k1 t1).2.1 z⟩⟩)
                have sm := nf.SM hN
                obtain ⟨⟨a1, a2⟩, b, e1, e2⟩ := sm
                refine s_isSeenM (d := d + 81) a2 (by rw [b.1]; exact ⟨by omega, by omega⟩) (by rw [b.2.1]; exact kw.1) (fun is => ?_) (fun no => ⟨fun _ => ⟨fun y => ?_, fun y => ?_⟩, fun y => absurd rfl y⟩)
                · rw [b.1, b.2.1] at is
                  obtain ⟨m', mb, same⟩ := is
                  exact absurd ⟨m', mb, fun j u v => by rw [← (e1 m' mb.1 mb.2).1 j u v, ← (k1 t1).1 j u v]; exact same j u v⟩ seen
                · rw [b.1] at y; exact absurd y full
                · refine s_keepM (d := d + 81) a2 rm rx (by rw [b.1]; exact ⟨by omega, by omega⟩) (by rw [b.2.1]; exact kw.1) (fun W2 f2 s2 g2 n2 r2 o2 q2 p2 u2 => ?_)
                  rw [b.1] at n2 r2 o2 q2 p2 u2
                  rw [b.2.1] at r2
                  have ng : p_NG W W2 := ⟨fun c z => f2 c (by simp only [List.mem_cons, List.not_mem_nil, or_false, not_or] at z ⊢; omega), fun k z => s2 k (by simp only [List.mem_cons, List.not_mem_nil, or_false, not_or] at z ⊢; omega), g2⟩
                  refine im W2 ⟨⟨a1.gen (fun c u v => f2 c (by simp; omega)) (fun k z => s2 k (by simp; omega)), g2⟩, ⟨n2, by rw [s2 116 (by decide)]; exact b.2.1, by rw [s2 120 (by decide)]; exact b.2.2⟩, fun m' u v => ?_, fun m' u v => ?_⟩ d Φ Θ (fun W3 z => h W3 (p_NE.tr (nf.G.tr ng) z))
                  · by_cases z : m' = f
                    · rw [z, memF]
                      exact ⟨fun j u v => by rw [r2 j u v]; exact (k1 t1).1 j u v, (k1 t1).2.2⟩
                    · rw [memO m' z]
                      exact ⟨fun j u' v' => by rw [o2 _ (by omega)]; exact (e1 m' u (by omega)).1 j u' v', (e1 m' u (by omega)).2⟩
                  · by_cases z : m' = f
                    · rw [z, frF, bwF]; exact ⟨q2, p2⟩
                    · rw [frO m' z, bwO m' z, (u2 m' z).1, (u2 m' z).2]; exact e2 m' u (by omega)
end Search
