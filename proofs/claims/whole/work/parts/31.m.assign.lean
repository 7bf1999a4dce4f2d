/-! LETTERS ARE TOLD, in the invariant -/
section Assign
variable {C0 M0 P V V0 W : ax_V} {F G Hh S U J Im : Int → Int} {n q e a b : Int} {k : Nat} {s t : Int → Prop} {R : h_R}
theorem h_act (hX : h_X C0 M0 P F G Hh S U J Im) (i3 : h_I3 C0 M0 n V s R) (e0 : 0 ≤ e) (e1 : e < (M0 222 44)) (en : M0 258 e = n) (eb : g_eb C0 M0 s n e) : (M0 263 e = -1 ∨ V 154 (M0 263 e) = C0 558 (M0 263 e) + M0 264 e) ↔ h_eh M0 (R []) e := by
  unfold h_eh
  by_cases z : M0 263 e = -1
  · exact ⟨fun _ => Or.inl z, fun _ => Or.inl z⟩
  · rcases hX.hS.st e0 e1 with y | y
    · exact absurd y.2.1 z
    · have v := (i3 _ y.2.1.1 y.2.1.2 (by rw [y.2.2.2.2.2.2]; exact en)).1 (eb.2 z)
      rw [v]
      constructor
      · rintro (w | w)
        · exact absurd w z
        · exact Or.inr (by omega)
      · rintro (w | w)
        · exact absurd w z
        · exact Or.inr (by omega)
theorem h_IR.assign0 (hX : h_X C0 M0 P F G Hh S U J Im) (hn : h_N M0 U J n) (h : h_IR C0 M0 U F S k n b V0 V s R) (te : ∀ v, t v ↔ (s v ∨ v = 1024 + e)) (e0 : 0 ≤ e) (e1 : e < (M0 222 44)) (no : ¬ h_eh M0 (R []) e) : h_IR C0 M0 U F S k n b V0 V t R := by
  have hS := hX.hS
  have sm := hS.small
  have nn := hn.1
  obtain ⟨i1, i2, i3, i4, i5, i6⟩ := h
  have big : ∀ v, ¬ v = 1024 + e → (t v ↔ s v) := fun v hv => by rw [te]; exact ⟨fun z => by rcases z with z | z; exact z; exact absurd z hv, fun z => Or.inl z⟩
  refine ⟨i1.keep (fun q a b => (big _ (by omega)).mp) (fun _ _ _ _ => rfl), ⟨i2.1, fun e' i o en z eh => ?_⟩, i3.keep (fun a x y => big _ (by omega)) (fun _ _ _ _ => rfl), fun e' x i j e0' e1' en ea eb sb => ?_, i5.keep (fun l x y => big _ (by omega)) (fun a x y => big _ (by omega)) (fun _ _ => rfl), i6.keep (fun q a b => big _ (by omega)) rfl⟩
  · by_cases w : e' = e
    · rw [w] at eh; exact absurd eh no
    · exact i2.2 e' i o en ((big _ (by omega)).mp z) eh
  · have xx := hS.eq e0' e1' en ea eb
    have aub : ¬ M0 263 e' = -1 → 0 ≤ M0 263 e' := fun z => by
      rcases hS.st e0' e1' with y | y
      · exact absurd y.2.1 z
      · exact y.2.1.1
    exact (i4 e' x i j e0' e1' en ea eb sb).to (fun z => big _ (by have := aub z; omega)) (fun _ => big _ (by omega)) (fun _ => big _ (by omega)) (fun z => big _ (by have := aub z; omega)) (fun _ z => z)
/-- a letter's clock, told by the class -/
theorem h_onV (rd : h_RD M0 n V s R) {c : Int} (hc : 0 ≤ c ∧ c ≤ 52) (r : ¬ c = 0 → g_rd M0 s n ((c - 1) / 2)) : h_on (h_lv V n) c ↔ h_on (R []) c := by
  by_cases z : c = 0
  · exact ⟨fun _ => Or.inl z, fun _ => Or.inl z⟩
  · obtain ⟨u1, u2⟩ := rd _ (by omega) (by omega) (r z)
    have e2 : ∀ l, h_lv V n 2 l = V 153 (26 * n + l) := fun l => if_pos rfl
    have e1 : ∀ l, h_lv V n 1 l = V 152 (26 * n + l) := fun l => if_neg (by decide)
    unfold h_on
    rw [e2, e1, u1]
    constructor
    · rintro (w | w)
      · exact absurd w z
      · exact Or.inr ⟨w.1, by rw [← (u2 w.1).1]; exact w.2⟩
    · rintro (w | w)
      · exact absurd w z
      · exact Or.inr ⟨w.1, by rw [(u2 w.1).1]; exact w.2⟩
theorem h_X.ecb (hX : h_X C0 M0 P F G Hh S U J Im) (e0 : 0 ≤ e) (e1 : e < (M0 222 44)) : (0 ≤ g_ec M0 e ∧ g_ec M0 e ≤ 52) ∧ g_of M0 e (M0 259 e) ∧ ∀ i, g_of M0 e i → (0 ≤ M0 265 i ∧ M0 265 i < 26) ∧ M0 235 (26 * M0 258 e + M0 265 i) = g_ec M0 e := by
  have hS := hX.hS
  have nd := hS.node e0 e1
  have fe := hS.2.2.2.2.1.2.1 e e0 e1
  have o : g_of M0 e (M0 259 e) := ⟨⟨e0, e1⟩, Int.le_refl _, by have := fe.2.2.1; omega⟩
  have l := (fe.2.2.2.2.2.2 _ o.2.1 o.2.2).2.1
  have f := (hS.l nd.1 nd.2.1 l.1 l.2).2.2.2.1
  have ec := hX.hec e e0 e1
  refine ⟨by omega, o, fun i oi => ⟨(fe.2.2.2.2.2.2 _ oi.2.1 oi.2.2).2.1, by rw [ec]; exact hX.hcl e i oi⟩⟩
set_option maxHeartbeats 1000000 in
theorem h_IR.assign1 (hX : h_X C0 M0 P F G Hh S U J Im) (hn : h_N M0 U J n) (hR : h_TK C0 M0 U S Im (k + 1) n R) (hm : h_MS C0 M0 U F (k + 1) n (R [] 5)) (h : h_IR C0 M0 U F S k n b V0 V s R) (i7 : h_I7 C0 M0 S n (M0 262 e) V R) (te : ∀ v, t v ↔ (s v ∨ v = 1024 + e)) (e0 : 0 ≤ e) (e1 : e < (M0 222 44)) (en : M0 258 e = n) (yes : h_eh M0 (R []) e) (eb : g_eb C0 M0 s n e) (wk : ∀ q, M0 261 e ≤ q → q ≤ M0 262 e → C0 526 q = 0 → s q)
    (fr : g_fr [152, 153] V W) (ho : ∀ x, (∀ i, g_of M0 e i → ¬ x = 26 * n + M0 265 i) → W 152 x = V 152 x ∧ W 153 x = V 153 x) (hd : ∀ i, g_of M0 e i → (h_on (h_lv V n) (g_ec M0 e) → W 153 (26 * n + M0 265 i) = 1 ∧ W 152 (26 * n + M0 265 i) = h_gv C0 M0 V e i) ∧ (¬ h_on (h_lv V n) (g_ec M0 e) → W 153 (26 * n + M0 265 i) = 0)) : h_IR C0 M0 U F S k n b V0 W t R := by
  have hS := hX.hS
  have sm := hS.small
  have nn := hn.1
  obtain ⟨i1, i2, i3, i4, i5, i6⟩ := h
  have rd := i2.rd hX hn hR hm
  have fx := (hS.2.2.2.2.1.2.1 e e0 e1).2.2.2.2.2.1
  have f1 := fx.1
  obtain ⟨cb, o0, lb⟩ := hX.ecb e0 e1
  rw [en] at lb
  have onV := h_onV rd cb (fun z => eb.1 _ (by omega) (by omega) (Or.inr ⟨_, o0, by rw [en, (lb _ o0).2]; exact z, by rw [en, (lb _ o0).2]⟩))
  have big : ∀ v, ¬ v = 1024 + e → (t v ↔ s v) := fun v hv => by rw [te]; exact ⟨fun z => by rcases z with z | z; exact z; exact absurd z hv, fun z => Or.inl z⟩
  have k1 : W 151 = V 151 := fr 151 (by decide)
  have k4 : W 154 = V 154 := fr 154 (by decide)
  have k5 : W 155 = V 155 := fr 155 (by decide)
  have k0 : W 150 = V 150 := fr 150 (by decide)
  refine ⟨i1.keep (fun q a b => (big _ (by omega)).mp) (fun _ _ _ _ => by rw [k1]), ⟨fun y y0 y1 ky => ?_, fun e' i o en' z eh => ?_⟩, i3.keep (fun a x y => big _ (by omega)) (fun _ _ _ _ => by rw [k4]), fun e' x i j e0' e1' en' ea eb' sb => ?_, i5.keep (fun l x y => big _ (by omega)) (fun a x y => big _ (by omega)) (fun _ _ => by rw [k5]), i6.keep (fun q a b => big _ (by omega)) (by rw [k0])⟩
  · have u := ho (26 * n + y) (fun i o z => by
      have il := hS.ofl o
      have hk := (hX.ok.head hS il.1 il.2).1
      rw [hS.eoe o, en, ← z] at hk
      omega)
    unfold h_lt
    rw [u.1, u.2]
    exact i2.1 y y0 y1 ky
  · by_cases w : e' = e
    · rw [w] at o
      have lb1 := lb i o
      have rr := hR.2.2.1.2 e i o en yes
      by_cases on : h_on (R []) (g_ec M0 e)
      · have d := (hd i o).1 (onV.mpr on)
        have r := rr.1 on
        have ac : h_ac M0 S n (R []) (M0 262 e) := (hS.acE (S := S) e0 e1 en f1.2.1 (Int.le_refl _)).mpr ⟨yes, by rw [hX.hT.1 e e0 e1]; exact on⟩
        have sw := wk _ f1.2.1 (Int.le_refl _) fx.2.1.1
        refine ⟨by rw [d.1, r.1], fun _ => ?_⟩
        rw [d.2, r.2]
        unfold h_gv
        by_cases mn : M0 260 e = 1
        · rw [if_pos mn, if_pos mn]
          have u := i1 _ (by omega) f1.2.2 ((fx.2.2 _ f1.2.1 (Int.le_refl _)).1.1.trans en) sw ac
          refine ⟨u.1, fun ty => u.2 ?_⟩
          rw [hS.one hX.n3 e0 e1 mn, en]
          have : i = M0 259 e := by have := o.2; omega
          rw [← this]; exact ty
        · rw [if_neg mn, if_neg mn]
          have mm := hS.many hX.n3 e0 e1 mn
          have u := i7 (by omega) f1.2.2 mm.1 ac (i - M0 259 e) (by have := o.2; omega) (by rw [mm.2.1]; have := o.2; omega)
          refine ⟨u.1, fun ty => u.2 ?_⟩
          have m3 := mm.2.2 (i - M0 259 e) (by have := o.2; omega) (by have := o.2; omega)
          rw [← m3, en, show M0 259 e + (i - M0 259 e) = i by omega]
          exact ty
      · have d := (hd i o).2 (fun y => on (onV.mp y))
        have r := rr.2 on
        exact ⟨by rw [d, r], fun y => absurd r y⟩
    · have u := ho (26 * n + M0 265 i) (fun j oj z => w (hX.one (r := R []) o oj (en'.trans en.symm) (by omega) eh yes))
      unfold h_lt
      rw [u.1, u.2]
      exact i2.2 e' i o en' ((big _ (by omega)).mp z) eh
  · have xx := hS.eq e0' e1' en' ea eb'
    have aub : ¬ M0 263 e' = -1 → 0 ≤ M0 263 e' := fun z => by
      rcases hS.st e0' e1' with y | y
      · exact absurd y.2.1 z
      · exact y.2.1.1
    exact (i4 e' x i j e0' e1' en' ea eb' sb).to (fun z => big _ (by have := aub z; omega)) (fun _ => big _ (by omega)) (fun _ => big _ (by omega)) (fun z => big _ (by have := aub z; omega)) (fun _ z => by rw [k5]; exact z)
/-- no letter hangs on its own clock -/
theorem h_X.hck (hX : h_X C0 M0 P F G Hh S U J Im) (e0 : 0 ≤ e) (e1 : e < (M0 222 44)) (en : M0 258 e = n) (z : ¬ g_ec M0 e = 0) : ∀ i, g_of M0 e i → ¬ M0 265 i = (g_ec M0 e - 1) / 2 := fun i o w => by
  obtain ⟨cb, o0, lb⟩ := hX.ecb e0 e1
  have nd := hX.hS.node e0 e1
  have il := hX.hS.ofl o
  have hk := (hX.ok.head hX.hS il.1 il.2).1
  rw [hX.hS.eoe o, en] at hk
  have l := lb i o
  rw [en] at l
  refine hX.hS.acyc (n := n) hX.n6 (by omega) (by omega) (fun y => y = M0 265 i) (fun y hy => ?_) (M0 265 i) rfl
  rw [hy]
  exact ⟨l.1, by omega, M0 265 i, rfl, e, i, o, en, rfl, Or.inl (Or.inr ⟨i, o, by rw [en, l.2]; exact z, by rw [en, l.2]; exact w.symm⟩)⟩
end Assign
