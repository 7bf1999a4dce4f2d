/-! FAULTS 5, the model: who needs a first value; both blame the same -/
def g_fh (M : ax_V) (i t : Int) : Prop := (∀ j, 0 ≤ j → j < i → ¬ (M 265 j = M 265 i ∧ M 258 (g_eo M j) = M 258 (g_eo M i))) ∧ (M 232 (26 * M 258 (g_eo M i) + M 265 i) = 2 ∨ ¬ M 236 (26 * M 258 (g_eo M i) + M 265 i) = 0) ∧ g_LB M (26 * M 258 (g_eo M i) + M 265 i) ∧ M 266 i ≤ t
def g_v5 (M : ax_V) (t : Int) : Prop := (∃ q, (0 ≤ q ∧ q < (M 222 26)) ∧ g_b5 M q t) ∨ (∃ j, (0 ≤ j ∧ j < (M 222 77)) ∧ g_LB M (26 * M 281 j + M 279 j) ∧ M 280 j ≤ t) ∨ (∃ m, (0 ≤ m ∧ m < (M 222 60)) ∧ g_PB M (M 277 m) ∧ M 242 (M 277 m) ≤ t) ∨ ∃ e, (0 ≤ e ∧ e < (M 222 44)) ∧ ((¬ M 263 e = -1 ∧ g_PB M (M 262 e) ∧ M 242 (M 262 e) ≤ t) ∨ ∃ i, (M 259 e ≤ i ∧ i < M 259 e + M 260 e) ∧ g_fh M i t)
section Kind5S
variable {d : Nat} {C0 M0 M N V C2 : ax_V} {q n : Int} {T : Int → Prop} {Φ : Int → ax_V → Prop} {Ψ Θ : ax_V → Prop}
theorem g_LB.hd {s : Int} (h : g_LB M0 s) : ∃ e i, g_of M0 e i ∧ s = 26 * M0 258 e + M0 265 i := h (fun s => ∃ e i, g_of M0 e i ∧ s = 26 * M0 258 e + M0 265 i) (fun _ => True) ⟨fun _ _ _ _ => trivial, fun e i ho _ => ⟨e, i, ho, rfl⟩⟩
theorem g_S.same5 (hS : g_S C0 M0) (ok : g_N2 M0) (hO : g_Own C0 M0 C2 (M0 222 52)) (t : Int) : g_v5 M0 t ↔ ∃ n, (0 ≤ n ∧ n < (M0 222 86)) ∧ g_w5 C0 M0 (C2 543) n t := by
  have hCk := hS.2.2.2.1.2.2.1
  have hN := hS.2.1
  constructor
  · rintro (⟨q, q0, z⟩ | ⟨j, j0, z1, z2⟩ | ⟨m, m0, z⟩ | ⟨e, e0, z | ⟨i, i0, f1, f2, f3, f4⟩⟩)
    · exact ⟨_, (hS.pnode q0.1 q0.2).1, Or.inl ⟨q, q0, rfl, z⟩⟩
    · have c := hCk.2.2 j j0.1 j0.2
      rcases c.2.2.2 with ⟨l, l0, l1, l2, l3⟩ | y
      · refine ⟨_, c.1, Or.inr (Or.inr (Or.inr ⟨l, ⟨l0, l1⟩, Or.inr ⟨l2, ?_, by rw [← l3.2.2]; exact z2⟩⟩))⟩
        have e : (M0 235 (26 * M0 281 j + l) - 1) / 2 = M0 279 j := by rcases l3.1 with y | y <;> omega
        rw [e]; exact z1
      · exact absurd ok.1 y.1
    · have tr := (hS.tr m0.1 m0.2).1
      exact ⟨_, (hS.anode tr.1 tr.2).1, Or.inr (Or.inl ⟨m, m0, rfl, z⟩)⟩
    · have nd := hS.node e0.1 e0.2
      exact ⟨_, ⟨nd.1, nd.2.1⟩, Or.inr (Or.inr (Or.inl ⟨e, e0, rfl, fun y => z.1 ((hS.ea e0.1 e0.2).mp y), z.2⟩))⟩
    · have ho : g_of M0 e i := ⟨e0, i0⟩
      have il := hS.ofl ho
      have eo := hS.eoe ho
      rw [eo] at f1 f2 f3
      have nd := hS.node e0.1 e0.2
      have sl := hS.slot il.1 il.2
      rw [eo] at sl
      refine ⟨_, ⟨nd.1, nd.2.1⟩, Or.inr (Or.inr (Or.inr ⟨M0 265 i, sl.2.1, Or.inl ⟨f2, f3, ?_⟩⟩))⟩
      rcases hO (26 * M0 258 e + M0 265 i) (by omega) (by omega) with y | ⟨f, l, fl, ⟨hf, hl⟩, nf, -, -, -, hp⟩
      · exact absurd sl.1 (y.1 i il.1 il.2)
      · have fi : f = i := by
          rcases Int.lt_trichotomy f i with w | w | w
          · have sf := hS.slot (i := f) fl.1 (by omega)
            rw [hf] at sf
            exact absurd ⟨by omega, by omega⟩ (f1 f fl.1 w)
          · exact w
          · exact absurd sl.1 (nf i il.1 w)
        have hh := hS.h il.1 il.2
        have e1 : C2 543 (26 * M0 258 e + M0 265 i) = M0 266 i := by
          have := hp
          rw [fi] at this
          exact this.trans hh.2.2.1
        rw [e1]; exact f4
  · rintro ⟨n, n0, ⟨q, q0, q1, z⟩ | ⟨m, m0, m1, z⟩ | ⟨e, e0, e1, e2, z⟩ | ⟨l, l0, ⟨z1, z2, z3⟩ | ⟨z1, z2, z3⟩⟩⟩
    · exact Or.inl ⟨q, q0, z⟩
    · exact Or.inr (Or.inr (Or.inl ⟨m, m0, z⟩))
    · exact Or.inr (Or.inr (Or.inr ⟨e, e0, Or.inl ⟨fun y => e2 ((hS.ea e0.1 e0.2).mpr y), z⟩⟩))
    · obtain ⟨e', i', ho', es'⟩ := z2.hd
      have il' := hS.ofl ho'
      have sl' := hS.slot il'.1 il'.2
      rw [hS.eoe ho', ← es'] at sl'
      rcases hO (26 * n + l) (by omega) (by omega) with y | ⟨f, l', fl, ⟨hf, hl⟩, nf, -, -, -, hp⟩
      · exact absurd sl'.1 (y.1 i' il'.1 il'.2)
      · have f1 : f < (M0 222 52) := by omega
        have sf := hS.slot (i := f) fl.1 f1
        have eof := hS.eo fl.1 f1
        rw [hf] at sf
        have a1 : M0 258 (g_eo M0 f) = n := by omega
        have a2 : M0 265 f = l := by omega
        have hh := hS.h fl.1 f1
        refine Or.inr (Or.inr (Or.inr ⟨g_eo M0 f, eof.1, Or.inr ⟨f, eof.2, fun j j0 j1 y => ?_, ?_, ?_, ?_⟩⟩))
        · have sj := hS.slot (i := j) j0 (by omega)
          exact nf j j0 j1 (by rw [sj.1, y.1, y.2, a1, a2])
        · rw [a1, a2]; exact z1
        · rw [a1, a2]; exact z2
        · have e1 : C2 543 (26 * n + l) = M0 266 f := hp.trans hh.2.2.1
          rw [← e1]; exact z3
    · obtain ⟨j, j0, j1, j2, j3, j4⟩ := hCk.2.1 n l n0.1 n0.2 l0.1 l0.2 z1
      have c := (hCk.2.2 j j0 j1).2.1
      refine Or.inr (Or.inl ⟨j, ⟨j0, j1⟩, ?_, by rw [j4]; exact z3⟩)
      have e : (M0 235 (26 * n + l) - 1) / 2 = M0 279 j := by rcases j2 with y | y <;> omega
      rw [e] at z2
      rw [j3]; exact z2
theorem s_have {p : Int} (hS : g_S C0 M0) (hb : g_MB C0 M0 N) (hp : ∀ q, 0 ≤ q → q < (M0 222 26) → (N 255 q = 0 ↔ g_PB M0 q)) (hH : g_H1 N V T) (p0 : 0 ≤ p) (p1 : p < (M0 222 26)) (h : ∀ V', g_H1 N V' (fun t => T t ∨ (g_PB M0 p ∧ M0 242 p ≤ t)) → Ψ V') : ax_N ay_lay (d + 2) q_Model_mustHave [.ref 222, ax_i p] V Ψ Θ := by
  have hat := hS.2.2.2.2.2.2.2
  have hp0 := hS.2.2.1.1
  have b := hH.b hb
  have pb := (hS.p p0 p1).2.2.1
  have k := hp p p0 p1
  have b7 : 0 ≤ p ∧ p < 701 := ⟨p0, by omega⟩
  refine r_Model_mustHave b.2.2.1 ⟨by omega, by omega⟩ ⟨b7, ?_⟩
  rw [hH.1 255 (by decide), b.1 242 (by decide)]
  refine ⟨fun z => ⟨b7, s_noteE b.2.2.1 ⟨by omega, by omega⟩ (h _ ((hH.nt pb).of (fun t _ => ⟨fun y => by rcases y with y | y; exact Or.inl y; exact Or.inr ⟨k.mp z, y⟩, fun y => by rcases y with y | y; exact Or.inl y; exact Or.inr y.2⟩)))⟩, fun z => h V (hH.of (fun t _ => ⟨fun y => Or.inl y, fun y => by rcases y with y | y; exact y; exact absurd (k.mpr y.1) z⟩))⟩
theorem s_lhave {l p : Int} (hb : g_MB C0 M0 N) (hl : ∀ s, 0 ≤ s → s < 240 → (N 282 s = 0 ↔ g_LB M0 s)) (hH : g_H1 N V T) (rn : 0 ≤ n ∧ n < 8) (rl : 0 ≤ l ∧ l < 26) (pp : e_pl p) (h : ∀ V', g_H1 N V' (fun t => T t ∨ (g_LB M0 (26 * n + l) ∧ p ≤ t)) → Ψ V') : ax_N ay_lay (d + 2) q_Model_letterMustHave [.ref 222, ax_i n, ax_i l, ax_i p] V Ψ Θ := by
  have b := hH.b hb
  have k := hl (26 * n + l) (by omega) (by omega)
  refine r_Model_letterMustHave b.2.2.1 ⟨by omega, by omega⟩ ⟨by omega, by omega⟩ ⟨by omega, by omega⟩ ⟨⟨by omega, by omega⟩, ?_⟩
  rw [hH.1 282 (by decide)]
  refine ⟨fun z => s_noteE b.2.2.1 ⟨by omega, by omega⟩ (h _ ((hH.nt pp).of (fun t _ => ⟨fun y => by rcases y with y | y; exact Or.inl y; exact Or.inr ⟨k.mp z, y⟩, fun y => by rcases y with y | y; exact Or.inl y; exact Or.inr y.2⟩))), fun z => h V (hH.of (fun t _ => ⟨fun y => Or.inl y, fun y => by rcases y with y | y; exact y; exact absurd (k.mpr y.1) z⟩))⟩
set_option maxHeartbeats 4000000 in
theorem s_checkFirst (hS : g_S C0 M0) (hb : g_MB C0 M0 N) (hp : ∀ q, 0 ≤ q → q < (M0 222 26) → (N 255 q = 0 ↔ g_PB M0 q)) (hl : ∀ s, 0 ≤ s → s < 240 → (N 282 s = 0 ↔ g_LB M0 s)) (hH : g_H1 N V T) (q0 : 0 ≤ q) (q1 : q < (M0 222 26)) (h : ∀ V', g_H1 N V' (fun t => T t ∨ g_b5 M0 q t) → Ψ V') : ax_N ay_lay (d + 3) q_Model_checkFirst [.ref 222, ax_i q] V Ψ Θ := by
  have p0 := hS.2.2.1.1
  have hat := hS.2.2.2.2.2.2.2
  have hN := hS.2.1
  have pn := (hS.pnode q0 q1).1
  have ar := hS.ar q0 q1
  have b := hH.b hb
  have lt := hS.let q0 q1
  have b7 : 0 ≤ q ∧ q < 701 := ⟨q0, by omega⟩
  have rq : ax_rg q := ⟨by omega, by omega⟩
  obtain ⟨K, K7, KE, KA, -⟩ := hS.kids q0 q1
  refine r_Model_checkFirst b.2.2.1 rq ⟨b7, b7, ?_⟩
  rw [b.1 241 (by decide), b.1 245 (by decide), b.1 250 (by decide), b.1 248 (by decide), b.1 244 (by decide)]
  refine ⟨fun z => ⟨b7, ?_⟩, fun z => ⟨b7, b7, ?_⟩, fun z => ⟨b7, ?_⟩, fun a1 a2 a3 a4 a5 a6 => h V (hH.of (fun t _ => ⟨fun y => Or.inl y, fun y => ?_⟩))⟩
  · have kd := hS.kid q0 q1 (by omega)
    have a0 : 0 ≤ M0 245 q := by rcases ar with z | z | z | z | z <;> omega
    refine s_have hS hb hp hH a0 (by omega) (fun V' hV' => h V' (hV'.of (fun t _ => ?_)))
    constructor
    · rintro (y | y)
      · exact Or.inl y
      · exact Or.inr (Or.inl ⟨z, y⟩)
    · rintro (y | y | y | y)
      · exact Or.inl y
      · exact Or.inr y.2
      · have := y.1; omega
      · have := y.1; omega
  · rcases lt with l | ⟨-, l, s⟩
    · have := hS.pl q0 q1 (by omega); omega
    · refine s_lhave hb hl hH ⟨pn.1, by omega⟩ l s (fun V' hV' => h V' (hV'.of (fun t _ => ?_)))
      constructor
      · rintro (y | y)
        · exact Or.inl y
        · exact Or.inr (Or.inr (Or.inl ⟨z, y⟩))
      · rintro (y | y | y | y)
        · exact Or.inl y
        · have := y.1; omega
        · exact Or.inr y.2
        · have := y.1; omega
  · have e : ∀ k, g_kd M0 q k = e_arg M0 q k := fun k => if_pos z
    have nx : ∀ k, k < K → M0 252 (g_kd M0 q k) = g_kd M0 q (k + 1) := fun k hk => by
      have a := (KA k hk).1.1
      rw [e] at a
      rw [e, e]
      show _ = if e_arg M0 q k = -1 then -1 else M0 252 (e_arg M0 q k)
      rw [if_neg (by omega)]
    have b5 : ∀ t, g_b5 M0 q t ↔ ((∃ k : Nat, 0 ≤ g_kd M0 q k ∧ g_PB M0 (g_kd M0 q k) ∧ M0 242 (g_kd M0 q k) ≤ t) ∨ (¬ M0 248 q = -1 ∧ g_LB M0 (26 * M0 250 q + M0 248 q) ∧ M0 244 q ≤ t)) := fun t => by
      unfold g_b5
      constructor
      · rintro (y | y | y)
        · have := y.1; omega
        · have := y.1; omega
        · exact y.2
      · intro y; exact Or.inr (Or.inr ⟨z, y⟩)
    have lp : ∀ (m k : Nat), k ≤ K → K - k ≤ m → ∀ V1 T1, g_H1 N V1 T1 → (∀ t, T1 t ↔ (T t ∨ ∃ j : Nat, j < k ∧ 0 ≤ g_kd M0 q j ∧ g_PB M0 (g_kd M0 q j) ∧ M0 242 (g_kd M0 q j) ≤ t)) → k_Model_checkFirst_136 (d + 2) q (M0 250 q) (g_kd M0 q k) V1 Ψ Θ := by
      intro m
      induction m with
      | zero =>
        intro k k0 k1 V1 T1 h1 hT1
        have ek : k = K := by omega
        have b1 := h1.b hb
        rw [ek] at hT1 ⊢
        rw [KE K (Nat.le_refl _)]
        have hT2 : ∀ t, T1 t ↔ (T t ∨ ∃ j : Nat, 0 ≤ g_kd M0 q j ∧ g_PB M0 (g_kd M0 q j) ∧ M0 242 (g_kd M0 q j) ≤ t) := fun t => by
          rw [hT1 t]
          constructor
          · rintro (y | ⟨x, -, x1⟩)
            · exact Or.inl y
            · exact Or.inr ⟨x, x1⟩
          · rintro (y | ⟨x, x1⟩)
            · exact Or.inl y
            · refine Or.inr ⟨x, ?_, x1⟩
              by_cases w : K ≤ x
              · have := KE x w; have := x1.1; omega
              · omega
        refine r_Model_checkFirst_136 b1.2.2.1 rq ⟨by omega, by omega⟩ (by decide) ⟨fun _ => ⟨b7, ?_⟩, fun y => absurd rfl y⟩
        rw [b1.1 248 (by decide), b1.1 244 (by decide)]
        refine ⟨fun y => h V1 (h1.of (fun t _ => ?_)), fun y => ⟨b7, b7, ?_⟩⟩
        · rw [hT2 t, b5 t]
          exact ⟨fun x => by rcases x with x | x; exact Or.inl x; exact Or.inr (Or.inl x), fun x => by rcases x with x | x | x; exact Or.inl x; exact Or.inr x; exact absurd y x.1⟩
        · rcases lt with l | ⟨-, l, s⟩
          · exact absurd l y
          · refine s_lhave hb hl h1 ⟨pn.1, by omega⟩ l s (fun V' hV' => h V' (hV'.of (fun t _ => ?_)))
            rw [hT2 t, b5 t]
            exact ⟨fun x => by rcases x with (x | x) | x; exact Or.inl x; exact Or.inr (Or.inl x); exact Or.inr (Or.inr ⟨y, x⟩), fun x => by rcases x with x | x | x; exact Or.inl (Or.inl x); exact Or.inl (Or.inr x); exact Or.inr x.2⟩
      | succ m ih =>
        intro k k0 k1 V1 T1 h1 hT1
        by_cases ek : k = K
        · exact ih k k0 (by omega) V1 T1 h1 hT1
        · obtain ⟨a1, a2, a3⟩ := KA k (by omega)
          have b1 := h1.b hb
          refine r_Model_checkFirst_136 b1.2.2.1 rq ⟨by omega, by omega⟩ ⟨by omega, by omega⟩ ⟨fun y => by omega, fun _ => s_have hS hb hp h1 a1.1 (by omega) (fun V' hV' => ⟨⟨a1.1, by omega⟩, ?_⟩)⟩
          rw [(hV'.b hb).1 252 (by decide), nx k (by omega)]
          refine ih (k + 1) (by omega) (by omega) V' _ hV' (fun t => ?_)
          rw [hT1 t]
          constructor
          · rintro ((y | ⟨x, x0, x1⟩) | y)
            · exact Or.inl y
            · exact Or.inr ⟨x, by omega, x1⟩
            · exact Or.inr ⟨k, by omega, a1.1, y⟩
          · rintro (y | ⟨x, x0, x1⟩)
            · exact Or.inl (Or.inl y)
            · by_cases ex : x = k
              · rw [ex] at x1; exact Or.inr x1.2
              · exact Or.inl (Or.inr ⟨x, by omega, x1⟩)
    have := lp K 0 (by omega) (by omega) V T hH (fun t => ⟨fun y => Or.inl y, fun y => by rcases y with y | ⟨x, x0, -⟩; exact y; omega⟩)
    rw [e 0] at this
    exact this
  · rcases y with y | y | y | y
    · exact y
    · have := y.1; omega
    · have := y.1; omega
    · have := y.1; omega
theorem g_MB.mE (hb : g_MB C0 M0 V) : g_mE M0 V := ⟨fun c hc => hb.1 c (by simp only [g_YM, List.mem_cons, List.not_mem_nil, or_false, not_or]; omega), hb.2.1 44 (by decide)⟩
end Kind5S
