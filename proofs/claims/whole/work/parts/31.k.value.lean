/-! A PART IS WORKED, but for calls -/
section Value
variable {C0 M0 P V V0 W : ax_V} {F G Hh S U J Im : Int → Int} {n q e a b : Int} {k : Nat} {s t : Int → Prop} {R : h_R}
/-- states stay among the states -/
theorem h_X.st (hX : h_X C0 M0 P F G Hh S U J Im) (hR : h_TK C0 M0 U S Im (k + 1) n R) (hm : h_MS C0 M0 U F (k + 1) n (R [] 5)) : ∀ a, 0 ≤ a → a < (M0 222 55) → M0 267 a = n → (0 ≤ R [] 5 (h_sa M0 n a) ∧ R [] 5 (h_sa M0 n a) < M0 269 a) ∧ (0 ≤ R [] 3 a ∧ R [] 3 a < M0 269 a) ∧ 0 ≤ R [] 6 (h_sa M0 n a) ∧ R [] 6 (h_sa M0 n a) < M0 269 a := fun a a0 a1 an => by
  have r := hR.2.2.2.1 a a0 a1 an
  obtain ⟨m, rfl⟩ := Int.eq_ofNat_of_zero_le a0
  have z := hm.2.2.1 m (by omega) an
  have r1 := h_nx.range hX.ok hX.hS r.1 z
  exact ⟨z, r1, h_nx.range hX.ok hX.hS r.2 r1⟩
theorem h_X.pr (hX : h_X C0 M0 P F G Hh S U J Im) (hn : h_N M0 U J n) (hR : h_TK C0 M0 U S Im (k + 1) n R) (hm : h_MS C0 M0 U F (k + 1) n (R [] 5)) {y : Int} (y0 : 0 ≤ y) (y1 : y < 26) (k0 : ¬ M0 232 (26 * n + y) = 0) : (¬ R [] 2 y = 0 ↔ h_on (R []) (M0 235 (26 * n + y))) ∧ (R [] 2 y = 0 ∨ R [] 2 y = 1) := h_pres hX.hS hX.ok hX.hec hX.hcl hn.1.1 hn.1.2 hR (fun a a0 a1 an => (hX.st hR hm a a0 a1 an).2.1) y0 y1 k0
/-- letters that are ready -/
theorem h_I2.rd (hX : h_X C0 M0 P F G Hh S U J Im) (hn : h_N M0 U J n) (hR : h_TK C0 M0 U S Im (k + 1) n R) (hm : h_MS C0 M0 U F (k + 1) n (R [] 5)) (h : h_I2 M0 n V s R) : h_RD M0 n V s R := fun y y0 y1 rd => by
  rcases rd with z | ⟨k0, z⟩
  · exact h.1 y y0 y1 z
  · by_cases k1 : M0 232 (26 * n + y) = 1
    · exact h.1 y y0 y1 k1
    · obtain ⟨e, i, o, en, l, eh⟩ := hX.hS.act hX.ok hn.1.1 hn.1.2 (fun a a0 a1 an => (hX.st hR hm a a0 a1 an).2.1) y0 y1 k0 k1
      have u := h.2 e i o en (z e i o en l) eh
      rw [l] at u
      exact u
/-- one equation at most tells a letter -/
theorem h_X.one (hX : h_X C0 M0 P F G Hh S U J Im) {r : Int → Int → Int} {e' i i' : Int} (o : g_of M0 e i) (o' : g_of M0 e' i') (en : M0 258 e = M0 258 e') (l : M0 265 i = M0 265 i') (h : h_eh M0 r e) (h' : h_eh M0 r e') : e = e' := by
  have key : ∀ e e' i i', g_of M0 e i → g_of M0 e' i' → M0 258 e = M0 258 e' → M0 265 i = M0 265 i' → h_eh M0 r e → h_eh M0 r e' → ¬ e = e' → ¬ i < i' := fun e e' i i' o o' en l h h' ne w => by
    have il := hX.hS.ofl o
    have jl := hX.hS.ofl o'
    have ei := hX.hS.eoe o
    have ej := hX.hS.eoe o'
    refine (hX.ok.head hX.hS jl.1 jl.2).2 ⟨i, ⟨il.1, w⟩, l, by rw [ei, ej]; exact en, ?_⟩
    rw [ei, ej]
    by_cases a : M0 263 e = -1
    · exact Or.inl a
    · by_cases b : M0 263 e = M0 263 e'
      · refine Or.inr (Or.inr ?_)
        rcases h with h | h
        · exact absurd h a
        · rcases h' with h' | h'
          · exact absurd (b.trans h') a
          · rw [← h, ← h', b]
      · exact Or.inr (Or.inl b)
  refine Classical.byContradiction fun ne => ?_
  have a := key e e' i i' o o' en l h h' ne
  have b := key e' e i' i o' o en.symm l.symm h' h (fun z => ne z.symm)
  have c : i = i' := by omega
  rw [c] at o
  exact ne (hX.hS.of1 o o')
/-- a worked part is on -/
theorem h_X.on (hX : h_X C0 M0 P F G Hh S U J Im) (q0 : 0 ≤ q) (q1 : q < (M0 222 26)) (h : h_ac M0 S n (R []) q) : h_on (R []) (S q) := by
  rcases h with ⟨e, e0, en, qe, h1, h2⟩ | ⟨m, m0, mn, qm, -⟩
  · exact h2
  · refine Or.inl (hX.hS.S0 hX.hT q0 q1 ?_)
    have fx := (hX.hS.2.2.2.2.1.2.2.2.2.1 m m0.1 m0.2).2.2.2.2.2.2.2
    rw [(fx.2.2 q qm.1 qm.2).1.2.1]
    have := (hX.hS.tr m0.1 m0.2).2
    omega
theorem h_X.acn (hX : h_X C0 M0 P F G Hh S U J Im) {r : Int → Int → Int} (h : h_ac M0 S n r q) : (0 ≤ q ∧ q < (M0 222 26)) ∧ M0 250 q = n := by
  rcases h with ⟨e, e0, en, qe, h1, h2⟩ | ⟨m, m0, mn, qm, -⟩
  · exact hX.hS.eq e0.1 e0.2 en qe.1 qe.2
  · have fx := (hX.hS.2.2.2.2.1.2.2.2.2.1 m m0.1 m0.2).2.2.2.2.2.2.2
    have f1 := fx.1
    exact ⟨⟨by omega, by omega⟩, by rw [(fx.2.2 q qm.1 qm.2).1.1]; exact mn⟩
/-- what is remembered lies in an equation -/
theorem h_X.ine (hX : h_X C0 M0 P F G Hh S U J Im) (q0 : 0 ≤ q) (q1 : q < (M0 222 26)) (qn : M0 250 q = n) (o : M0 241 q = 6 ∨ M0 241 q = 19 ∨ M0 241 q = 22) : ∃ e, (0 ≤ e ∧ e < (M0 222 44)) ∧ M0 258 e = n ∧ M0 261 e ≤ q ∧ q ≤ M0 262 e := by
  have hB := hX.hS.2.2.2.2.1
  rcases hB.2.2.2.2.2.1.1 q q0 q1 with ⟨e, e0, e1, ea, eb⟩ | ⟨m, m0, m1, ma, mb⟩
  · have fx := (hB.2.1 e e0 e1).2.2.2.2.2.1.2.2 q ea eb
    exact ⟨e, ⟨e0, e1⟩, by rw [← fx.1.1]; exact qn, ea, eb⟩
  · have fx := (hB.2.2.2.2.1 m m0 m1).2.2.2.2.2.2.2.2.2 q ma mb
    have z := fx.2.2.1 rfl
    rcases o with o | o | o
    · exact absurd o z.1
    · exact absurd o z.2.1
    · exact absurd o z.2.2
theorem h_X.l3 (hX : h_X C0 M0 P F G Hh S U J Im) (q0 : 0 ≤ q) (q1 : q < (M0 222 26)) (o : M0 241 q = 3) : ¬ M0 236 (26 * M0 250 q + M0 248 q) = 0 := fun z => by
  have dt := ((hX.hS.p q0 q1).2.2.2.2.2.2.1).2.2.1 (by omega)
  have p := dt.2.2.2.1
  exact hX.ok.bp hX.hS q0 q1 699 (by decide) (Or.inr (Or.inl ⟨o, z, by omega⟩))
/-- what is still to be worked of an equation: its memory is at 7 -/
theorem h_I4.at7 (hX : h_X C0 M0 P F G Hh S U J Im) (h : h_I4 C0 M0 U k n b V s R) (e0 : 0 ≤ e) (e1 : e < (M0 222 44)) (en : M0 258 e = n) (ea : M0 261 e ≤ q) (eb : q ≤ M0 262 e) {i j : Int} (sb : h_sub C0 M0 U k q i j) (noend : ∀ v, 3072 ≤ v → ¬ s v) (w4 : ¬ M0 263 e = -1 → s (2048 + M0 263 e)) (new : ¬ s q) : V 155 (b + (g_cp C0 M0 U n q.toNat + i)) = R [] 7 (g_sp C0 M0 U n q.toNat + j) := by
  have q0 := (hX.hS.eq e0 e1 en ea eb).1.1
  refine (h e q i j e0 e1 en ea eb sb).2.2.1 (fun z => ?_) (fun z => ?_) ?_
  · rcases hX.hS.st e0 e1 with y | y
    · exact z.1 y.2.1
    · exact noend _ (by have := y.2.1.1; omega) z.2
  · rcases z with z | z
    · exact noend _ (by omega) z.2
    · exact new z.2
  · by_cases au : M0 263 e = -1
    · exact Or.inl au
    · exact Or.inr (w4 au)
theorem h_ar_a (hS : g_S C0 M0) (q0 : 0 ≤ q) (q1 : q < (M0 222 26)) (o : 4 ≤ M0 241 q ∧ M0 241 q ≤ 21) : 0 ≤ M0 245 q := by
  have ar := hS.ar q0 q1
  unfold e_ar at ar
  omega
theorem h_ar_b (hS : g_S C0 M0) (q0 : 0 ≤ q) (q1 : q < (M0 222 26)) (o : (7 ≤ M0 241 q ∧ M0 241 q ≤ 19) ∨ M0 241 q = 21) : 0 ≤ M0 246 q := by
  have ar := hS.ar q0 q1
  unfold e_ar at ar
  omega
theorem h_ar_c (hS : g_S C0 M0) (q0 : 0 ≤ q) (q1 : q < (M0 222 26)) (o : M0 241 q = 18) : 0 ≤ M0 247 q := by
  have ar := hS.ar q0 q1
  unfold e_ar at ar
  omega
theorem h_ar21 (hS : g_S C0 M0) (q0 : 0 ≤ q) (q1 : q < (M0 222 26)) (o : M0 241 q = 21) : ¬ M0 246 q = M0 245 q := fun z => by
  have kdb := hS.kid q0 q1 (by omega)
  have ar := hS.ar q0 q1
  unfold e_ar at ar
  have a0 : 0 ≤ M0 245 q := by omega
  have c1 : M0 247 q = -1 := by omega
  have e := kdb.2.2.2.2.1 a0
  have ch := kdb.2.2.2.2.2.1 (by omega)
  rw [z] at e ch
  omega
set_option maxHeartbeats 1000000 in
theorem h_val (hX : h_X C0 M0 P F G Hh S U J Im) (hn : h_N M0 U J n) (hR : h_TK C0 M0 U S Im (k + 1) n R) (hm : h_MS C0 M0 U F (k + 1) n (R [] 5)) (h : h_IR C0 M0 U F S k n b V0 V s R) (q0 : 0 ≤ q) (q1 : q < (M0 222 26)) (qn : M0 250 q = n) (o22 : ¬ M0 241 q = 22) (ac : h_ac M0 S n (R []) q) (w1 : ∀ x, e_kid M0 q x → M0 241 q = 6 ∨ s x) (w2 : (M0 241 q = 2 ∨ M0 241 q = 20 ∨ M0 241 q = 21 ∨ (M0 241 q = 22 ∧ ¬ M0 248 q = -1)) → g_rd M0 s n (M0 248 q)) (noend : ∀ v, 3072 ≤ v → ¬ s v) (w4 : ∀ e, 0 ≤ e → e < (M0 222 44) → M0 261 e ≤ q → q ≤ M0 262 e → ¬ M0 263 e = -1 → s (2048 + M0 263 e)) (new : ¬ s q) : (M0 241 q = 18 → (if M0 245 q < 0 then 0 else V 151 (M0 245 q)) = 0 ∨ (if M0 245 q < 0 then 0 else V 151 (M0 245 q)) = 1) ∧ (M0 241 q = 21 → V 152 (26 * n + M0 248 q) = 0 ∨ V 152 (26 * n + M0 248 q) = 1) ∧ ((M0 241 q = 10 ∨ M0 241 q = 11) → (if M0 246 q < 0 then 0 else V 151 (M0 246 q)) = R [] 0 (M0 246 q)) ∧ (∀ v, v = h_op (M0 241 q) (M0 249 q) (if M0 245 q < 0 then 0 else V 151 (M0 245 q)) (if M0 246 q < 0 then 0 else V 151 (M0 246 q)) (V 151 (M0 247 q)) (V 152 (26 * n + M0 248 q)) (if M0 241 q = 3 then V 155 (b + P 540 (26 * n + M0 248 q)) else V 155 (b + P 531 q)) → v = R [] 0 q) ∧ (F q = 1 → R [] 0 q = 0 ∨ R [] 0 q = 1) := by
  have hS := hX.hS
  obtain ⟨i1, i2', i3, i4, i5, i6⟩ := h
  have i2 := i2'.rd hX hn hR hm
  have onq := hX.on q0 q1 ac
  have v1 := hR.1 q q0 q1 qn ac
  rw [h_vq_op C0 M0 o22] at v1
  -- the letter
  have lt : (M0 241 q = 2 ∨ M0 241 q = 21) → V 152 (26 * n + M0 248 q) = R [] 1 (M0 248 q) ∧ (M0 233 (26 * n + M0 248 q) = 1 → R [] 1 (M0 248 q) = 0 ∨ R [] 1 (M0 248 q) = 1) := fun o => by
    have l := hS.pl q0 q1 (by omega)
    have rd := w2 (by omega)
    have kd : ¬ M0 232 (26 * n + M0 248 q) = 0 := by
      rcases rd with z | z
      · omega
      · exact z.1
    have c := (hS.Sown (F := F) (Hh := Hh) hX.hG hX.hT hX.n4 q0 q1).1 (by omega)
    rw [c, qn] at onq
    have p := (hX.pr hn hR hm l.1 l.2 kd).1.mpr onq
    exact (i2 _ l.1 l.2 rd).2 p
  have t21 : M0 241 q = 21 → R [] 1 (M0 248 q) = 0 ∨ R [] 1 (M0 248 q) = 1 := fun o => by
    have tl := hX.ok.truth hS q0 q1 (Or.inr (Or.inl o))
    rw [qn] at tl
    have l := hS.pl q0 q1 (by omega)
    have ty := ((hS.l hn.1.1 hn.1.2 l.1 l.2).2.2.1 (fun z => tl (Or.inl z))).2.2.2
    rcases ty with z | z
    · exact absurd (Or.inr z) tl
    · exact (lt (Or.inr o)).2 z
  -- the parts
  have kids : ∀ x, e_kid M0 q x → ¬ M0 241 q = 6 → (M0 241 q = 21 → (x = M0 245 q ∧ R [] 1 (M0 248 q) = 1) ∨ (¬ x = M0 245 q ∧ R [] 1 (M0 248 q) = 0)) → V 151 x = R [] 0 x ∧ (F x = 1 → R [] 0 x = 0 ∨ R [] 0 x = 1) := fun x kx o6 hm1 => by
    have ax := h_kid (Hh := Hh) (F := F) hS hX.ok hX.hG hX.hT hX.n4 hn.1.1 hn.1.2 (fun y y0 y1 k0 => (hX.pr hn hR hm y0 y1 k0).1) q0 q1 qn ac kx hm1
    have xx := hX.acn ax
    rcases w1 x kx with z | z
    · exact absurd z o6
    · exact i1 x xx.1.1 xx.1.2 xx.2 z ax
  have ab := h_ar21 hS q0 q1
  have ka : (M0 241 q = 4 ∨ M0 241 q = 5 ∨ (7 ≤ M0 241 q ∧ M0 241 q ≤ 20) ∨ (M0 241 q = 21 ∧ R [] 1 (M0 248 q) = 1)) → (0 ≤ M0 245 q) ∧ V 151 (M0 245 q) = R [] 0 (M0 245 q) ∧ (F (M0 245 q) = 1 → R [] 0 (M0 245 q) = 0 ∨ R [] 0 (M0 245 q) = 1) := fun o => by
    have a0 : 0 ≤ M0 245 q := h_ar_a hS q0 q1 (by omega)
    exact ⟨a0, kids _ ⟨a0, Or.inl ⟨o22, Or.inl rfl⟩⟩ (by omega) (fun z => Or.inl ⟨rfl, by omega⟩)⟩
  have kb : ((7 ≤ M0 241 q ∧ M0 241 q ≤ 19) ∨ (M0 241 q = 21 ∧ ¬ R [] 1 (M0 248 q) = 1)) → (0 ≤ M0 246 q) ∧ V 151 (M0 246 q) = R [] 0 (M0 246 q) ∧ (F (M0 246 q) = 1 → R [] 0 (M0 246 q) = 0 ∨ R [] 0 (M0 246 q) = 1) := fun o => by
    have b0 : 0 ≤ M0 246 q := h_ar_b hS q0 q1 (by omega)
    exact ⟨b0, kids _ ⟨b0, Or.inl ⟨o22, Or.inr (Or.inl rfl)⟩⟩ (by omega) (fun z => Or.inr ⟨ab z, by have := t21 z; omega⟩)⟩
  have kc : M0 241 q = 18 → (0 ≤ M0 247 q) ∧ V 151 (M0 247 q) = R [] 0 (M0 247 q) ∧ (F (M0 247 q) = 1 → R [] 0 (M0 247 q) = 0 ∨ R [] 0 (M0 247 q) = 1) := fun o => by
    have c0 : 0 ≤ M0 247 q := h_ar_c hS q0 q1 o
    exact ⟨c0, kids _ ⟨c0, Or.inl ⟨o22, Or.inr (Or.inr rfl)⟩⟩ (by omega) (fun z => by omega)⟩
  -- what is remembered
  have m3 : M0 241 q = 3 → V 155 (b + P 540 (26 * n + M0 248 q)) = R [] 5 (g_ll M0 n (M0 248 q).toNat) ∧ (F q = 1 → R [] 5 (g_ll M0 n (M0 248 q).toNat) = 0 ∨ R [] 5 (g_ll M0 n (M0 248 q).toNat) = 1) := fun o => by
    have l := hS.pl q0 q1 (by omega)
    have hl := hX.l3 q0 q1 o
    rw [qn] at hl
    have c := (hX.l5 hn l.1 l.2 hl).1
    refine ⟨by rw [c]; exact (i5.1 _ l.1 l.2 hl).2 (noend _ (by have := hn.1.1; omega)), fun f => ?_⟩
    obtain ⟨m, em⟩ := Int.eq_ofNat_of_zero_le l.1
    rw [em] at hl ⊢
    rw [Int.toNat_natCast]
    refine hm.2.1 m (by omega) hl ?_
    have t3 := (hX.hF q q0 q1).1.2.2.1 (Or.inr o)
    rw [qn] at t3
    rw [← em, ← t3]
    exact f
  have m7 : (M0 241 q = 6 ∨ M0 241 q = 19) → V 155 (b + P 531 q) = R [] 7 (g_sp C0 M0 U n q.toNat) ∧ (M0 241 q = 6 → F q = 1 → R [] 7 (g_sp C0 M0 U n q.toNat) = 0 ∨ R [] 7 (g_sp C0 M0 U n q.toNat) = 1) := fun o => by
    obtain ⟨e, ee, en, ea, eb⟩ := hX.ine q0 q1 qn (by omega)
    have sb : h_sub C0 M0 U k q 0 0 := Or.inl ⟨o, rfl, rfl⟩
    have u := i4.at7 hX ee.1 ee.2 en ea eb sb noend (w4 e ee.1 ee.2 ea eb) new
    rw [Int.add_zero, Int.add_zero] at u
    rw [(hX.c5 hn q0 q1 qn).1]
    refine ⟨u, fun o6 f => ?_⟩
    have bj := (hX.sb hn q0 q1 qn sb).2
    have r := (hR.2.2.2.2.2.1 e q 0 ee.1 ee.2 en ea eb bj.1 bj.2).1 0 (by rw [if_neg o22])
    rw [Int.add_zero] at r
    by_cases z : h_rn M0 (R []) (M0 263 e) 1 (R [] 5 (h_sa M0 n (M0 263 e))) (M0 264 e)
    · exact Or.inl (r.1 z)
    · rw [r.2.1 z]
      obtain ⟨m, rfl⟩ := Int.eq_ofNat_of_zero_le q0
      rw [Int.toNat_natCast]
      exact hm.1 m (by omega) qn o6 f
  have na : ∀ {x : Int}, 0 ≤ x → (if x < 0 then 0 else V 151 x) = V 151 x := fun {x} z => if_neg (by omega)
  refine ⟨fun o => ?_, fun o => ?_, fun o => ?_, fun v hv => ?_, fun f => ?_⟩
  · have u := ka (by omega)
    rw [na u.1, u.2.1]
    refine u.2.2 ?_
    have bp := (hS.p (q := M0 245 q) u.1 (by have := (hS.kid q0 q1 o22).2.1; omega)).2.2.1
    refine Classical.byContradiction fun w => hX.n3 699 (by decide) ((g_FA3 699).mpr ⟨M0 250 q, (hS.pnode q0 q1).1, Or.inl ⟨q, ⟨q0, q1⟩, rfl, Or.inl ⟨(M0 245 q, 1), ?_, w, show M0 242 (M0 245 q) ≤ 699 by omega⟩⟩⟩)
    unfold g_ml
    rw [if_neg (by omega), if_neg (by omega), if_neg (by omega), if_neg (by omega), if_neg (by omega), if_pos o]
    exact List.mem_cons_self
  · rw [(lt (Or.inr o)).1]
    exact t21 o
  · have u := kb (by omega)
    rw [na u.1, u.2.1]
  · rw [hv, v1]
    refine h_op_congr (hS.op q0 q1).1 (fun z => ?_) (fun z => ?_) (fun z => (kc z).2.1) (fun z => (lt z).1) (fun z => ?_)
    · have u := ka z
      rw [na u.1, u.2.1]
    · have u := kb z
      rw [na u.1, u.2.1]
    · by_cases o3 : M0 241 q = 3
      · rw [if_pos o3, if_pos o3]; exact (m3 o3).1
      · rw [if_neg o3, if_neg o3]; exact (m7 (by omega)).1
  · rw [v1]
    refine h_op_t2 hS hX.hF hX.n3 q0 q1 o22 f (fun z => (ka z).2.2) (fun z => (kb z).2.2) (fun z => (kc z).2.2) (fun z => ?_) (fun z => ?_)
    · rw [qn]; exact (lt z).2
    · by_cases o3 : M0 241 q = 3
      · rw [if_pos o3]; exact (m3 o3).2 f
      · rw [if_neg o3]; exact (m7 (by omega)).2 (by omega) f
end Value
