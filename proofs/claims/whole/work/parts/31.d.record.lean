/-! WHAT HOLDS of a tick -/
section Record
variable {C0 M0 : ax_V} {F G Hh S U Im : Int → Int} {n q e : Int} {k : Nat} {R : h_R}
/-- transitions lead to states that are there -/
theorem g_N2.to (ok : g_N2 M0) (hS : g_S C0 M0) {m : Int} (m0 : 0 ≤ m) (m1 : m < (M0 222 60)) : 0 ≤ M0 275 m ∧ M0 275 m < M0 269 (M0 271 m) := by
  have ft := hS.2.2.2.2.1.2.2.2.2.1 m m0 m1
  have tm := (hS.tr m0 m1).1
  have an := (hS.anode tm.1 tm.2).1
  have tp := ft.2.2.2.2.2.2.1.2
  refine ⟨ft.2.2.2.2.2.1.2.1, ?_⟩
  refine Classical.byContradiction fun z => ok.2 (M0 267 (M0 271 m)) 699 an.1 an.2 (by decide) (Or.inr (Or.inr (Or.inr (Or.inr (Or.inr ⟨_, tm, rfl, Or.inr ⟨m, ⟨m0, m1⟩, rfl, by omega, by omega⟩⟩)))))
theorem h_nx.range (ok : g_N2 M0) (hS : g_S C0 M0) {r : Int → Int → Int} {a x st t : Int} (h : h_nx M0 r a x st t) (hs : 0 ≤ st ∧ st < M0 269 a) : 0 ≤ t ∧ t < M0 269 a := by
  rcases h with ⟨m, hm, ht⟩ | ⟨-, ht⟩
  · have := ok.to hS hm.1.1 hm.1.2
    rw [hm.2.1.1] at this
    rw [ht]; exact this
  · rw [ht]; exact hs
/-- a told letter that is no input has an equation that holds -/
theorem g_S.act (hS : g_S C0 M0) (ok : g_N2 M0) (n0 : 0 ≤ n) (n1 : n < (M0 222 86)) (hst : ∀ a, 0 ≤ a → a < (M0 222 55) → M0 267 a = n → 0 ≤ R [] 3 a ∧ R [] 3 a < M0 269 a) {y : Int} (y0 : 0 ≤ y) (y1 : y < 26) (k0 : ¬ M0 232 (26 * n + y) = 0) (k1 : ¬ M0 232 (26 * n + y) = 1) : ∃ e i, g_of M0 e i ∧ M0 258 e = n ∧ M0 265 i = y ∧ h_eh M0 (R []) e := by
  have hB := hS.2.2.2.2.1
  have f := hS.l n0 n1 y0 y1
  have tp := (f.2.2.1 k0).2.1
  have kk := f.1
  obtain ⟨e, i, a1, a2, a3⟩ : ∃ e i, g_of M0 e i ∧ M0 258 e = n ∧ M0 265 i = y := Classical.byContradiction fun z => ok.2 n 699 n0 n1 (by decide) (Or.inr (Or.inr (Or.inr (Or.inr (Or.inl ⟨y, ⟨y0, y1⟩, by omega, z, by omega⟩)))))
  by_cases au : M0 263 e = -1
  · exact ⟨e, i, a1, a2, a3, Or.inl au⟩
  · rcases (hB.2.1 e a1.1.1 a1.1.2).2.2.2.2.1 with g | ⟨g1, g2, g3, g4, g5, g6, g7⟩
    · exact absurd g.2.1 au
    · have a9 : M0 263 e < (M0 222 55) := by have := hB.1.2.2.1; omega
      have fa := hS.au g1 a9
      have an : M0 267 (M0 263 e) = n := by rw [g7]; exact a2
      have st := hst _ g1 a9 an
      have es : M0 264 e < M0 269 (M0 263 e) := by have := fa.2.1; omega
      have ap := fa.1.2.1.2
      have gi : g_in M0 (M0 263 e) (R [] 3 (M0 263 e)) y := Classical.byContradiction fun z => ok.2 n 699 n0 n1 (by decide) (Or.inr (Or.inr (Or.inr (Or.inr (Or.inr ⟨_, ⟨g1, a9⟩, an, Or.inl ⟨⟨y, _, _, ⟨y0, y1⟩, ⟨g3, es⟩, st, ⟨e, i, a1, rfl, rfl, a3⟩, z⟩, by omega⟩⟩)))))
      obtain ⟨e', i', b1, b2, b3, b4⟩ := gi
      refine ⟨e', i', b1, ?_, b4, Or.inr (by rw [b2]; exact b3.symm)⟩
      rcases (hB.2.1 e' b1.1.1 b1.1.2).2.2.2.2.1 with g | ⟨h1, h2, h3, h4, h5, h6, h7⟩
      · have := g.2.1; omega
      · rw [b2] at h7; rw [← h7]; exact an
/-- a letter is there where its clock is -/
theorem h_pres (hS : g_S C0 M0) (ok : g_N2 M0) (hec : ∀ e, 0 ≤ e → e < (M0 222 44) → g_ec M0 e = M0 235 (26 * M0 258 e + M0 265 (M0 259 e))) (hcl : ∀ e i, g_of M0 e i → M0 235 (26 * M0 258 e + M0 265 i) = M0 235 (26 * M0 258 e + M0 265 (M0 259 e))) (n0 : 0 ≤ n) (n1 : n < (M0 222 86)) (hR : h_TK C0 M0 U S Im (k + 1) n R) (hst : ∀ a, 0 ≤ a → a < (M0 222 55) → M0 267 a = n → 0 ≤ R [] 3 a ∧ R [] 3 a < M0 269 a) {y : Int} (y0 : 0 ≤ y) (y1 : y < 26) (k0 : ¬ M0 232 (26 * n + y) = 0) : (¬ R [] 2 y = 0 ↔ h_on (R []) (M0 235 (26 * n + y))) ∧ (R [] 2 y = 0 ∨ R [] 2 y = 1) := by
  have f := hS.l n0 n1 y0 y1
  by_cases k1 : M0 232 (26 * n + y) = 1
  · have c0 : M0 235 (26 * n + y) = 0 := by
      rcases f.2.2.2.1 with v | v
      · exact v.1
      · omega
    have r := hR.2.2.1.1 y y0 y1 k1
    rw [r]
    exact ⟨⟨fun _ => Or.inl c0, fun _ => by decide⟩, Or.inr rfl⟩
  · obtain ⟨e, i, a1, a2, a3, a4⟩ := hS.act (R := R) ok n0 n1 hst y0 y1 k0 k1
    have r := hR.2.2.1.2 e i a1 a2 a4
    have c := hec e a1.1.1 a1.1.2
    rw [← hcl e i a1, a2, a3] at c
    rw [c, a3] at r
    by_cases z : h_on (R []) (M0 235 (26 * n + y))
    · have := (r.1 z).1
      exact ⟨⟨fun _ => z, fun _ => by omega⟩, Or.inr this⟩
    · have := r.2 z
      exact ⟨⟨fun w => absurd this w, fun w => absurd w z⟩, Or.inl this⟩
/-- a worked part's parts are worked; of a merge the one that counts -/
theorem h_kid (hS : g_S C0 M0) (ok : g_N2 M0) (hG : g_G M0 G) (hT : g_ST M0 G S) (n4 : ∀ t, t < 700 → ¬ g_FA C0 M0 F G Hh 4 t) (n0 : 0 ≤ n) (n1 : n < (M0 222 86)) (hpr : ∀ y, 0 ≤ y → y < 26 → ¬ M0 232 (26 * n + y) = 0 → (¬ R [] 2 y = 0 ↔ h_on (R []) (M0 235 (26 * n + y)))) (q0 : 0 ≤ q) (q1 : q < (M0 222 26)) (qn : M0 250 q = n) (h : h_ac M0 S n (R []) q) {x : Int} (kx : e_kid M0 q x) (hm : M0 241 q = 21 → (x = M0 245 q ∧ R [] 1 (M0 248 q) = 1) ∨ (¬ x = M0 245 q ∧ R [] 1 (M0 248 q) = 0)) : h_ac M0 S n (R []) x := by
  have hB := hS.2.2.2.2.1
  have own := hS.Sown (F := F) (Hh := Hh) hG hT n4 q0 q1
  have dm := hT.2.2.1 q x q0 q1 kx
  rcases hB.2.2.2.2.2.1.1 q q0 q1 with ⟨e, e0, e1, ea, eb⟩ | ⟨m, m0, m1, ma, mb⟩
  · have fx := (hB.2.1 e e0 e1).2.2.2.2.2.1
    have en : M0 258 e = n := by rw [← (fx.2.2 q ea eb).1.1]; exact qn
    have u := hS.Xk (Or.inl ⟨e, ⟨e0, e1⟩, rfl, rfl⟩) ⟨ea, eb⟩ kx
    have hq := (hS.acE (S := S) e0 e1 en ea eb).mp h
    refine (hS.acE (S := S) e0 e1 en u.1 (by omega)).mpr ⟨hq.1, ?_⟩
    rw [dm]
    unfold g_dm
    rw [qn]
    by_cases o20 : M0 241 q = 20
    · rw [if_pos o20]
      have l := hS.pl q0 q1 (by omega)
      have tl := ok.truth hS q0 q1 (Or.inl o20)
      rw [qn] at tl
      have d4 := (hS.p q0 q1).2.2.2.2.2.2.1.2.2.2.1 o20
      have sq := own.2 o20
      refine (hpr _ l.1 l.2 (fun z => tl (Or.inl z))).mp ?_
      rcases hq.2 with z | z
      · omega
      · rw [sq, show (2 * M0 248 q + 2 - M0 249 q - 1) / 2 = M0 248 q by omega] at z
        exact z.1
    · rw [if_neg o20]
      by_cases o21 : M0 241 q = 21
      · rw [if_pos o21]
        have l := hS.pl q0 q1 (by omega)
        have tl := ok.truth hS q0 q1 (Or.inr (Or.inl o21))
        rw [qn] at tl
        have sq := own.1 (by omega)
        rw [qn] at sq
        rw [sq] at hq
        have pr := (hpr _ l.1 l.2 (fun z => tl (Or.inl z))).mpr hq.2
        rcases hm o21 with ⟨xa, r⟩ | ⟨xa, r⟩
        · rw [if_pos xa]
          refine Or.inr ⟨?_, ?_⟩
          · rw [show (2 * M0 248 q + 1 - 1) / 2 = M0 248 q by omega]; exact pr
          · rw [show (2 * M0 248 q + 1 - 1) / 2 = M0 248 q by omega, r]; omega
        · rw [if_neg xa]
          refine Or.inr ⟨?_, ?_⟩
          · rw [show (2 * M0 248 q + 2 - 1) / 2 = M0 248 q by omega]; exact pr
          · rw [show (2 * M0 248 q + 2 - 1) / 2 = M0 248 q by omega, r]; omega
      · rw [if_neg o21]; exact hq.2
  · have fx := (hB.2.2.2.2.1 m m0 m1).2.2.2.2.2.2.2
    have mn : M0 267 (M0 271 m) = n := by rw [← (fx.2.2 q ma mb).1.1]; exact qn
    have u := hS.Xk (Or.inr ⟨m, ⟨m0, m1⟩, rfl, rfl⟩) ⟨ma, mb⟩ kx
    exact (hS.acT (S := S) m0 m1 mn u.1 (by omega)).mpr ((hS.acT (S := S) m0 m1 mn ma mb).mp h)
/-- what a part is worth, but for calls -/
theorem h_vq_op (C M : ax_V) (o : ¬ M 241 q = 22) : h_vq C M U n R q = h_op (M 241 q) (M 249 q) (R [] 0 (M 245 q)) (R [] 0 (M 246 q)) (R [] 0 (M 247 q)) (R [] 1 (M 248 q)) (if M 241 q = 3 then R [] 5 (g_ll M n (M 248 q).toNat) else R [] 7 (g_sp C M U n q.toNat)) := if_neg o
/-- truth values stay so -/
theorem h_op_t (hS : g_S C0 M0) (hF : g_F C0 M0 F) (n3 : ∀ t, t < 700 → ¬ g_FA C0 M0 F G Hh 3 t) (q0 : 0 ≤ q) (q1 : q < (M0 222 26)) (o22 : ¬ M0 241 q = 22) (hf : F q = 1) {x y z l m : Int} (hx : F (M0 245 q) = 1 → x = 0 ∨ x = 1) (hy : F (M0 246 q) = 1 → y = 0 ∨ y = 1) (hz : F (M0 247 q) = 1 → z = 0 ∨ z = 1) (hl : M0 233 (26 * M0 250 q + M0 248 q) = 1 → l = 0 ∨ l = 1) (hm : m = 0 ∨ m = 1) : h_op (M0 241 q) (M0 249 q) x y z l m = 0 ∨ h_op (M0 241 q) (M0 249 q) x y z l m = 1 := by
  have nd := (hS.pnode q0 q1).1
  have tv := (hF q q0 q1).1
  have ob := (hS.op q0 q1).1
  have ar := hS.ar q0 q1
  unfold e_ar at ar
  have kd := hS.kid q0 q1 o22
  have bg : ∀ x, 0 ≤ x → x < q → M0 242 x ≤ 699 := fun x a b => by have := (hS.p (q := x) a (by omega)).2.2.1; omega
  have no : ∀ x, x ∈ g_ml M0 F q → 0 ≤ x.1 → x.1 < q → F x.1 = x.2 := fun x hx a b => Classical.byContradiction fun w => n3 699 (by decide) ((g_FA3 699).mpr ⟨M0 250 q, nd, Or.inl ⟨q, ⟨q0, q1⟩, rfl, Or.inl ⟨x, hx, w, bg _ a b⟩⟩⟩)
  obtain ⟨t1, t2, t3, t4, t5, t6⟩ := tv
  have dt := (hS.p q0 q1).2.2.2.2.2.2.1
  clear bg
  have ho := h_22 ob o22
  have ml5 : M0 241 q = 5 → F (M0 245 q) = 1 := fun o => no (M0 245 q, 1) (by unfold g_ml; rw [if_neg (by omega), if_pos o]; exact List.mem_cons_self) (show 0 ≤ M0 245 q by omega) (show M0 245 q < q by omega)
  have ml16 : (M0 241 q = 16 ∨ M0 241 q = 17) → F (M0 245 q) = 1 ∧ F (M0 246 q) = 1 := fun o => by
    have e : g_ml M0 F q = [(M0 245 q, 1), (M0 246 q, 1)] := by unfold g_ml; rw [if_neg (by omega), if_neg (by omega), if_neg (by omega), if_neg (by omega), if_pos o]
    exact ⟨no (M0 245 q, 1) (by rw [e]; exact List.mem_cons_self) (show 0 ≤ M0 245 q by omega) (show M0 245 q < q by omega), no (M0 246 q, 1) (by rw [e]; exact List.mem_cons_of_mem _ List.mem_cons_self) (show 0 ≤ M0 246 q by omega) (show M0 246 q < q by omega)⟩
  have ml18 : M0 241 q = 18 → F (M0 247 q) = F (M0 246 q) := fun o => by
    have e : g_ml M0 F q = [(M0 245 q, 1), (M0 247 q, F (M0 246 q))] := by unfold g_ml; rw [if_neg (by omega), if_neg (by omega), if_neg (by omega), if_neg (by omega), if_neg (by omega), if_pos o]
    exact no (M0 247 q, F (M0 246 q)) (by rw [e]; exact List.mem_cons_of_mem _ List.mem_cons_self) (show 0 ≤ M0 247 q by omega) (show M0 247 q < q by omega)
  have ml19 : (M0 241 q = 19 ∨ M0 241 q = 21) → F (M0 246 q) = F (M0 245 q) := fun o => by
    have e : g_ml M0 F q = [(M0 246 q, F (M0 245 q))] := by unfold g_ml; rw [if_neg (by omega), if_neg (by omega), if_neg (by omega), if_pos (by omega)]
    exact no (M0 246 q, F (M0 245 q)) (by rw [e]; exact List.mem_cons_self) (show 0 ≤ M0 246 q by omega) (show M0 246 q < q by omega)
  clear no ar kd
  rcases ho with o | o | o | o | o | o | o | o | o | o | o | o | o | o | o | o | o | o | o | o | o | o
  · have := t1 (by omega); omega
  · rw [o, h_o1]; exact dt.2.1 o
  · rw [o, h_o2]; exact hl (by rw [← t3 (by omega)]; exact hf)
  · rw [o, h_o3]; exact hm
  · have := t1 (by omega); omega
  · rw [o, h_o5]
    rcases hx (ml5 o) with w | w
    · rw [w]; exact Or.inr (by decide)
    · rw [w]; exact Or.inl (by decide)
  · rw [o, h_o6]; exact hm
  · have := t1 (by omega); omega
  · have := t1 (by omega); omega
  · have := t1 (by omega); omega
  · have := t1 (by omega); omega
  · have := t1 (by omega); omega
  · rw [o, h_o12]; split <;> simp
  · rw [o, h_o13]; split <;> simp
  · rw [o, h_o14]; split <;> simp
  · rw [o, h_o15]; split <;> simp
  · have f := ml16 (Or.inl o)
    rw [o, h_o16]
    rcases hx f.1 with w | w <;> rcases hy f.2 with v | v <;> rw [w, v]
    · exact Or.inl (by decide)
    · exact Or.inl (by decide)
    · exact Or.inl (by decide)
    · exact Or.inr (by decide)
  · have f := ml16 (Or.inr o)
    rw [o, h_o17]
    rcases hx f.1 with w | w <;> rcases hy f.2 with v | v <;> rw [w, v]
    · exact Or.inl (by decide)
    · exact Or.inr (by decide)
    · exact Or.inr (by decide)
    · exact Or.inr (by decide)
  · have fc := ml18 o
    have fb := t4 o
    rw [o, h_o18]
    by_cases w : x = 1
    · rw [if_pos w]; exact hy (by omega)
    · rw [if_neg w]; exact hz (by omega)
  · have fb := ml19 (Or.inl o)
    have fa := t6 (by omega)
    rw [o, h_o19]
    by_cases w : m = 0
    · rw [if_pos w]; exact hx (by omega)
    · rw [if_neg w]; exact hy (by omega)
  · have fa := t6 (by omega)
    rw [o, h_o20]; exact hx (by omega)
  · have fb := ml19 (Or.inr o)
    have fa := t6 (by omega)
    rw [o, h_o21]
    by_cases w : l = 1
    · rw [if_pos w]; exact hx (by omega)
    · rw [if_neg w]; exact hy (by omega)
end Record
