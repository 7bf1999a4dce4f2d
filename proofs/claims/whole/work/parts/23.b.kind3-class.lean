/-! FAULTS 3, the class: what a part gives, and what its parts must give -/
abbrev g_XJ : List Nat := [601, 528, 529, 530, 541, 542, 543, 544, 545, 552, 561, 564]
section TvM
variable {C M : ax_V} {f : Int → Int} {q t : Int}
theorem g_tv.m0 (o : M 241 q = 0 ∨ M 241 q = 4 ∨ (7 ≤ M 241 q ∧ M 241 q ≤ 11)) : g_tv C M f q 0 := ⟨fun _ => rfl, fun z => by omega, fun z => by omega, fun z => by omega, fun z => by omega, fun z => by omega⟩
theorem g_tv.m1 (o : M 241 q = 1 ∨ M 241 q = 5 ∨ (12 ≤ M 241 q ∧ M 241 q ≤ 17)) : g_tv C M f q 1 := ⟨fun z => by omega, fun _ => rfl, fun z => by omega, fun z => by omega, fun z => by omega, fun z => by omega⟩
theorem g_tv.mL (o : M 241 q = 2 ∨ M 241 q = 3) : g_tv C M f q (M 233 (26 * M 250 q + M 248 q)) := ⟨fun z => by omega, fun z => by omega, fun _ => rfl, fun z => by omega, fun z => by omega, fun z => by omega⟩
theorem g_tv.mB (o : M 241 q = 18) : g_tv C M f q (f (M 246 q)) := ⟨fun z => by omega, fun z => by omega, fun z => by omega, fun _ => rfl, fun z => by omega, fun z => by omega⟩
theorem g_tv.mC (o : M 241 q = 22) : g_tv C M f q (M 233 (26 * C 520 q + M 231 (26 * C 520 q))) := ⟨fun z => by omega, fun z => by omega, fun z => by omega, fun z => by omega, fun _ => rfl, fun z => by omega⟩
theorem g_tv.mA (o : M 241 q = 6 ∨ M 241 q = 19 ∨ M 241 q = 20 ∨ M 241 q = 21) : g_tv C M f q (f (M 245 q)) := ⟨fun z => by omega, fun z => by omega, fun z => by omega, fun z => by omega, fun z => by omega, fun _ => rfl⟩
theorem g_b3.n (o : (0 ≤ M 241 q ∧ M 241 q ≤ 3) ∨ M 241 q = 6 ∨ M 241 q = 20) : ¬ g_b3 C M f q t := by
  unfold g_b3 g_ml
  rw [if_neg (by omega), if_neg (by omega), if_neg (by omega), if_neg (by omega), if_neg (by omega), if_neg (by omega)]
  rintro (⟨x, x0, -⟩ | z)
  · cases x0
  · omega
theorem g_b3.u0 (o : M 241 q = 4) : g_b3 C M f q t ↔ (¬ f (M 245 q) = 0 ∧ M 242 (M 245 q) ≤ t) := by
  unfold g_b3 g_ml
  rw [if_pos o]
  simp [o]
theorem g_b3.u1 (o : M 241 q = 5) : g_b3 C M f q t ↔ (¬ f (M 245 q) = 1 ∧ M 242 (M 245 q) ≤ t) := by
  unfold g_b3 g_ml
  rw [if_neg (by omega), if_pos o]
  simp [o]
theorem g_b3.b0 (o : (7 ≤ M 241 q ∧ M 241 q ≤ 11) ∨ M 241 q = 14 ∨ M 241 q = 15) : g_b3 C M f q t ↔ ((¬ f (M 245 q) = 0 ∧ M 242 (M 245 q) ≤ t) ∨ (¬ f (M 246 q) = 0 ∧ M 242 (M 246 q) ≤ t)) := by
  unfold g_b3 g_ml
  rw [if_neg (by omega), if_neg (by omega), if_pos o]
  have o2 : ¬ M 241 q = 22 := by omega
  simp [o2]
theorem g_b3.s (o : M 241 q = 12 ∨ M 241 q = 13 ∨ M 241 q = 19 ∨ M 241 q = 21) : g_b3 C M f q t ↔ (¬ f (M 246 q) = f (M 245 q) ∧ M 242 (M 246 q) ≤ t) := by
  unfold g_b3 g_ml
  rw [if_neg (by omega), if_neg (by omega), if_neg (by omega), if_pos o]
  have o2 : ¬ M 241 q = 22 := by omega
  simp [o2]
theorem g_b3.b1 (o : M 241 q = 16 ∨ M 241 q = 17) : g_b3 C M f q t ↔ ((¬ f (M 245 q) = 1 ∧ M 242 (M 245 q) ≤ t) ∨ (¬ f (M 246 q) = 1 ∧ M 242 (M 246 q) ≤ t)) := by
  unfold g_b3 g_ml
  rw [if_neg (by omega), if_neg (by omega), if_neg (by omega), if_neg (by omega), if_pos o]
  have o2 : ¬ M 241 q = 22 := by omega
  simp [o2]
theorem g_b3.h (o : M 241 q = 18) : g_b3 C M f q t ↔ ((¬ f (M 245 q) = 1 ∧ M 242 (M 245 q) ≤ t) ∨ (¬ f (M 247 q) = f (M 246 q) ∧ M 242 (M 247 q) ≤ t)) := by
  unfold g_b3 g_ml
  rw [if_neg (by omega), if_neg (by omega), if_neg (by omega), if_neg (by omega), if_neg (by omega), if_pos o]
  simp [o]
theorem g_b3.c (o : M 241 q = 22) : g_b3 C M f q t ↔ g_b3c C M f q t := by
  unfold g_b3 g_ml
  rw [if_neg (by omega), if_neg (by omega), if_neg (by omega), if_neg (by omega), if_neg (by omega), if_neg (by omega)]
  simp [o]
end TvM
section Kind3C
variable {B r d : Nat} {C0 M0 V : ax_V} {q : Int} {Φ : Int → ax_V → Prop} {Ψ Θ : ax_V → Prop}
theorem t_isCall {E : List (Nat × ax_S)} (hS : g_S C0 M0) (ok : g_N2 M0) (hv : g_fr g_XJ C0 V) (hg : ax_g V) (q0 : 0 ≤ q) (q1 : q < (M0 222 26)) (h1 : M0 241 q = 22 → Φ 1 V) (h0 : ¬ M0 241 q = 22 → Φ 0 V) : ax_I (az_W B E) (d + 1) q_Parts_isCall [.ref (B + 16), ax_i q] V Φ Θ := by
  have p0 := hS.2.2.1.1
  have hat := hS.2.2.2.2.2.2.2
  have hN := hS.2.1
  have o := hS.op q0 q1
  have pn := (hS.pnode q0 q1).1
  have b7 : 0 ≤ q ∧ q < 700 := ⟨q0, by omega⟩
  have e22 : e_op (M0 241 q) = 22 ↔ M0 241 q = 22 := by unfold e_op; constructor <;> (intro z; revert z; split <;> (try split) <;> (try split) <;> (try split) <;> omega)
  refine r_Parts_isCall hg ⟨by omega, by omega⟩ ⟨b7, ?_⟩
  rw [hv 517 (by decide), hv 520 (by decide), o.2, e22]
  refine ⟨fun z => ?_, fun z => h0 z⟩
  have c := ok.call hS q0 q1 z
  exact ⟨b7, fun w => by omega, fun _ => ⟨b7, fun w => by omega, fun _ => h1 z⟩⟩
set_option maxHeartbeats 4000000 in
theorem t_sortOf (hS : g_S C0 M0) (ok : g_N2 M0) (hv : g_fr g_XJ C0 V) (hg : ax_g V) (q0 : 0 ≤ q) (q1 : q < (M0 222 26)) (h : ∀ v, g_tv C0 M0 (V 528) q v → Φ v V) : ax_I (az_W B (az_EJ B r)) (d + 2) q_Judge_sortOf [.ref r, ax_i q] V Φ Θ := by
  have p0 := hS.2.2.1.1
  have hat := hS.2.2.2.2.2.2.2
  have hN := hS.2.1
  have o9 := (hS.op q0 q1).1
  have u1 := (hS.op q0 q1).2
  have ar := hS.ar q0 q1
  have pn := (hS.pnode q0 q1).1
  have b7 : 0 ≤ q ∧ q < 700 := ⟨q0, by omega⟩
  have v517 : V 517 = C0 517 := hv 517 (by decide)
  have v520 : V 520 = C0 520 := hv 520 (by decide)
  have v521 : V 521 = C0 521 := hv 521 (by decide)
  have v522 : V 522 = C0 522 := hv 522 (by decide)
  have v535 : V 535 = C0 535 := hv 535 (by decide)
  have v507 : V 507 = C0 507 := hv 507 (by decide)
  have kl : (M0 241 q = 2 ∨ M0 241 q = 3) → (0 ≤ V 520 q ∧ V 520 q < 208) ∧ Φ (V 535 (V 520 q)) V := by
    intro o
    have t3 := (hS.p q0 q1).2.2.2.2.2.2.1.2.2.1 (by omega)
    rw [v520, t3.2.1, v535, (hS.sort pn.1 pn.2 t3.1.1 t3.1.2 (ok.told hS q0 q1 o)).1]
    exact ⟨⟨by omega, by omega⟩, h _ (g_tv.mL o)⟩
  have ka : (M0 241 q = 6 ∨ M0 241 q = 19 ∨ M0 241 q = 20 ∨ M0 241 q = 21) → (0 ≤ V 521 q ∧ V 521 q < 700) ∧ Φ (V 528 (V 521 q)) V := by
    intro o
    have kd := hS.kid q0 q1 (by omega)
    have a0 : 0 ≤ M0 245 q := by rcases ar with z | z | z | z | z <;> omega
    rw [v521, kd.1]
    exact ⟨⟨a0, by omega⟩, h _ (g_tv.mA o)⟩
  have kb : M0 241 q = 18 → (0 ≤ V 521 q ∧ V 521 q < 700) ∧ (0 ≤ V 522 (V 521 q) ∧ V 522 (V 521 q) < 700) ∧ Φ (V 528 (V 522 (V 521 q))) V := by
    intro o
    have kd := hS.kid q0 q1 (by omega)
    have a0 : 0 ≤ M0 245 q ∧ 0 ≤ M0 246 q := by rcases ar with z | z | z | z | z <;> omega
    rw [v521, v522, kd.1, kd.2.2.2.2.1 a0.1]
    exact ⟨⟨a0.1, by omega⟩, ⟨a0.2, by omega⟩, h _ (g_tv.mB o)⟩
  have kc : M0 241 q = 22 → ax_I (az_W B (az_EJ B r)) (d + 1) q_Parts_isCall [.ref (B + 16), ax_i q] V (fun r1 V1 => ((r1 = 0 → Φ 0 V1) ∧ (¬ r1 = 0 → (0 ≤ q ∧ q < 700) ∧ (0 ≤ (V1 520 q) * 26 ∧ (V1 520 q) * 26 < 208) ∧ (0 ≤ V1 507 ((V1 520 q) * 26) ∧ V1 507 ((V1 520 q) * 26) < 208) ∧ Φ (V1 535 (V1 507 ((V1 520 q) * 26))) V1))) Θ := by
    intro o
    have c := ok.call hS q0 q1 o
    have u := hS.outp (n := C0 520 q) (i := 0) c.1 (by omega) (by decide) (by have := ok.out hS (n := C0 520 q) c.1 (by omega); omega)
    rw [show 26 * C0 520 q + 0 = 26 * C0 520 q by omega] at u
    refine t_isCall hS ok hv hg q0 q1 (fun _ => ⟨fun z => absurd z (by decide), fun _ => ⟨b7, ?_⟩⟩) (fun z => absurd o z)
    rw [v520, v507, v535, show C0 520 q * 26 = 26 * C0 520 q by omega, u.1, u.2.2.1]
    exact ⟨⟨by omega, by omega⟩, ⟨by omega, by omega⟩, h _ (g_tv.mC o)⟩
  refine r_Judge_sortOf hg ⟨by omega, by omega⟩ ⟨b7, b7, ?_⟩
  have hop : M0 241 q = 0 ∨ M0 241 q = 1 ∨ M0 241 q = 2 ∨ M0 241 q = 3 ∨ M0 241 q = 4 ∨ M0 241 q = 5 ∨ M0 241 q = 6 ∨ M0 241 q = 7 ∨ M0 241 q = 8 ∨ M0 241 q = 9 ∨ M0 241 q = 10 ∨ M0 241 q = 11 ∨ M0 241 q = 12 ∨ M0 241 q = 13 ∨ M0 241 q = 14 ∨ M0 241 q = 15 ∨ M0 241 q = 16 ∨ M0 241 q = 17 ∨ M0 241 q = 18 ∨ M0 241 q = 19 ∨ M0 241 q = 20 ∨ M0 241 q = 21 ∨ M0 241 q = 22 := by omega
  rcases hop with o | o | o | o | o | o | o | o | o | o | o | o | o | o | o | o | o | o | o | o | o | o | o
  · rw [show V 517 q = 0 by rw [v517, u1, o]; decide]; exact ⟨fun _ => h 0 (g_tv.m0 (by omega)), fun z => absurd z (by decide), fun z => absurd z (by decide), fun z => absurd z (by decide), fun z => absurd z (by decide), fun z => absurd z (by decide), fun z => absurd z (by decide), fun z => absurd z (by decide), fun z => absurd z (by decide), fun z => absurd z (by decide), fun z => absurd z (by decide), fun z => absurd z (by decide), fun z => absurd z (by decide), fun z => absurd z (by decide), fun z => absurd z (by decide), fun w _ _ _ _ _ _ _ _ _ _ _ _ _ _ => absurd rfl w⟩
  · rw [show V 517 q = 1 by rw [v517, u1, o]; decide]; exact ⟨fun z => absurd z (by decide), fun z => absurd z (by decide), fun z => absurd z (by decide), fun z => absurd z (by decide), fun z => absurd z (by decide), fun z => absurd z (by decide), fun z => absurd z (by decide), fun z => absurd z (by decide), fun z => absurd z (by decide), fun z => absurd z (by decide), fun z => absurd z (by decide), fun z => absurd z (by decide), fun z => absurd z (by decide), fun z => absurd z (by decide), fun z => absurd z (by decide), fun _ _ _ _ _ _ _ _ _ _ _ _ _ _ _ => h 1 (g_tv.m1 (by omega))⟩
  · rw [show V 517 q = 2 by rw [v517, u1, o]; decide]; exact ⟨fun z => absurd z (by decide), fun _ => ⟨b7, kl (by omega)⟩, fun z => absurd z (by decide), fun z => absurd z (by decide), fun z => absurd z (by decide), fun z => absurd z (by decide), fun z => absurd z (by decide), fun z => absurd z (by decide), fun z => absurd z (by decide), fun z => absurd z (by decide), fun z => absurd z (by decide), fun z => absurd z (by decide), fun z => absurd z (by decide), fun z => absurd z (by decide), fun z => absurd z (by decide), fun _ w _ _ _ _ _ _ _ _ _ _ _ _ _ => absurd rfl w⟩
  · rw [show V 517 q = 3 by rw [v517, u1, o]; decide]; exact ⟨fun z => absurd z (by decide), fun z => absurd z (by decide), fun _ => ⟨b7, kl (by omega)⟩, fun z => absurd z (by decide), fun z => absurd z (by decide), fun z => absurd z (by decide), fun z => absurd z (by decide), fun z => absurd z (by decide), fun z => absurd z (by decide), fun z => absurd z (by decide), fun z => absurd z (by decide), fun z => absurd z (by decide), fun z => absurd z (by decide), fun z => absurd z (by decide), fun z => absurd z (by decide), fun _ _ w _ _ _ _ _ _ _ _ _ _ _ _ => absurd rfl w⟩
  · rw [show V 517 q = 4 by rw [v517, u1, o]; decide]; exact ⟨fun z => absurd z (by decide), fun z => absurd z (by decide), fun z => absurd z (by decide), fun _ => h 0 (g_tv.m0 (by omega)), fun z => absurd z (by decide), fun z => absurd z (by decide), fun z => absurd z (by decide), fun z => absurd z (by decide), fun z => absurd z (by decide), fun z => absurd z (by decide), fun z => absurd z (by decide), fun z => absurd z (by decide), fun z => absurd z (by decide), fun z => absurd z (by decide), fun z => absurd z (by decide), fun _ _ _ w _ _ _ _ _ _ _ _ _ _ _ => absurd rfl w⟩
  · rw [show V 517 q = 5 by rw [v517, u1, o]; decide]; exact ⟨fun z => absurd z (by decide), fun z => absurd z (by decide), fun z => absurd z (by decide), fun z => absurd z (by decide), fun z => absurd z (by decide), fun z => absurd z (by decide), fun z => absurd z (by decide), fun z => absurd z (by decide), fun z => absurd z (by decide), fun z => absurd z (by decide), fun z => absurd z (by decide), fun z => absurd z (by decide), fun z => absurd z (by decide), fun z => absurd z (by decide), fun z => absurd z (by decide), fun _ _ _ _ _ _ _ _ _ _ _ _ _ _ _ => h 1 (g_tv.m1 (by omega))⟩
  · rw [show V 517 q = 6 by rw [v517, u1, o]; decide]; exact ⟨fun z => absurd z (by decide), fun z => absurd z (by decide), fun z => absurd z (by decide), fun z => absurd z (by decide), fun _ => ka (by omega), fun z => absurd z (by decide), fun z => absurd z (by decide), fun z => absurd z (by decide), fun z => absurd z (by decide), fun z => absurd z (by decide), fun z => absurd z (by decide), fun z => absurd z (by decide), fun z => absurd z (by decide), fun z => absurd z (by decide), fun z => absurd z (by decide), fun _ _ _ _ w _ _ _ _ _ _ _ _ _ _ => absurd rfl w⟩
  · rw [show V 517 q = 13 by rw [v517, u1, o]; decide]; exact ⟨fun z => absurd z (by decide), fun z => absurd z (by decide), fun z => absurd z (by decide), fun z => absurd z (by decide), fun z => absurd z (by decide), fun _ => h 0 (g_tv.m0 (by omega)), fun z => absurd z (by decide), fun z => absurd z (by decide), fun z => absurd z (by decide), fun z => absurd z (by decide), fun z => absurd z (by decide), fun z => absurd z (by decide), fun z => absurd z (by decide), fun z => absurd z (by decide), fun z => absurd z (by decide), fun _ _ _ _ _ w _ _ _ _ _ _ _ _ _ => absurd rfl w⟩
  · rw [show V 517 q = 14 by rw [v517, u1, o]; decide]; exact ⟨fun z => absurd z (by decide), fun z => absurd z (by decide), fun z => absurd z (by decide), fun z => absurd z (by decide), fun z => absurd z (by decide), fun z => absurd z (by decide), fun _ => h 0 (g_tv.m0 (by omega)), fun z => absurd z (by decide), fun z => absurd z (by decide), fun z => absurd z (by decide), fun z => absurd z (by decide), fun z => absurd z (by decide), fun z => absurd z (by decide), fun z => absurd z (by decide), fun z => absurd z (by decide), fun _ _ _ _ _ _ w _ _ _ _ _ _ _ _ => absurd rfl w⟩
  · rw [show V 517 q = 15 by rw [v517, u1, o]; decide]; exact ⟨fun z => absurd z (by decide), fun z => absurd z (by decide), fun z => absurd z (by decide), fun z => absurd z (by decide), fun z => absurd z (by decide), fun z => absurd z (by decide), fun z => absurd z (by decide), fun _ => h 0 (g_tv.m0 (by omega)), fun z => absurd z (by decide), fun z => absurd z (by decide), fun z => absurd z (by decide), fun z => absurd z (by decide), fun z => absurd z (by decide), fun z => absurd z (by decide), fun z => absurd z (by decide), fun _ _ _ _ _ _ _ w _ _ _ _ _ _ _ => absurd rfl w⟩
  · rw [show V 517 q = 16 by rw [v517, u1, o]; decide]; exact ⟨fun z => absurd z (by decide), fun z => absurd z (by decide), fun z => absurd z (by decide), fun z => absurd z (by decide), fun z => absurd z (by decide), fun z => absurd z (by decide), fun z => absurd z (by decide), fun z => absurd z (by decide), fun _ => h 0 (g_tv.m0 (by omega)), fun z => absurd z (by decide), fun z => absurd z (by decide), fun z => absurd z (by decide), fun z => absurd z (by decide), fun z => absurd z (by decide), fun z => absurd z (by decide), fun _ _ _ _ _ _ _ _ w _ _ _ _ _ _ => absurd rfl w⟩
  · rw [show V 517 q = 17 by rw [v517, u1, o]; decide]; exact ⟨fun z => absurd z (by decide), fun z => absurd z (by decide), fun z => absurd z (by decide), fun z => absurd z (by decide), fun z => absurd z (by decide), fun z => absurd z (by decide), fun z => absurd z (by decide), fun z => absurd z (by decide), fun z => absurd z (by decide), fun _ => h 0 (g_tv.m0 (by omega)), fun z => absurd z (by decide), fun z => absurd z (by decide), fun z => absurd z (by decide), fun z => absurd z (by decide), fun z => absurd z (by decide), fun _ _ _ _ _ _ _ _ _ w _ _ _ _ _ => absurd rfl w⟩
  · rw [show V 517 q = 9 by rw [v517, u1, o]; decide]; exact ⟨fun z => absurd z (by decide), fun z => absurd z (by decide), fun z => absurd z (by decide), fun z => absurd z (by decide), fun z => absurd z (by decide), fun z => absurd z (by decide), fun z => absurd z (by decide), fun z => absurd z (by decide), fun z => absurd z (by decide), fun z => absurd z (by decide), fun z => absurd z (by decide), fun z => absurd z (by decide), fun z => absurd z (by decide), fun z => absurd z (by decide), fun z => absurd z (by decide), fun _ _ _ _ _ _ _ _ _ _ _ _ _ _ _ => h 1 (g_tv.m1 (by omega))⟩
  · rw [show V 517 q = 10 by rw [v517, u1, o]; decide]; exact ⟨fun z => absurd z (by decide), fun z => absurd z (by decide), fun z => absurd z (by decide), fun z => absurd z (by decide), fun z => absurd z (by decide), fun z => absurd z (by decide), fun z => absurd z (by decide), fun z => absurd z (by decide), fun z => absurd z (by decide), fun z => absurd z (by decide), fun z => absurd z (by decide), fun z => absurd z (by decide), fun z => absurd z (by decide), fun z => absurd z (by decide), fun z => absurd z (by decide), fun _ _ _ _ _ _ _ _ _ _ _ _ _ _ _ => h 1 (g_tv.m1 (by omega))⟩
  · rw [show V 517 q = 11 by rw [v517, u1, o]; decide]; exact ⟨fun z => absurd z (by decide), fun z => absurd z (by decide), fun z => absurd z (by decide), fun z => absurd z (by decide), fun z => absurd z (by decide), fun z => absurd z (by decide), fun z => absurd z (by decide), fun z => absurd z (by decide), fun z => absurd z (by decide), fun z => absurd z (by decide), fun z => absurd z (by decide), fun z => absurd z (by decide), fun z => absurd z (by decide), fun z => absurd z (by decide), fun z => absurd z (by decide), fun _ _ _ _ _ _ _ _ _ _ _ _ _ _ _ => h 1 (g_tv.m1 (by omega))⟩
  · rw [show V 517 q = 12 by rw [v517, u1, o]; decide]; exact ⟨fun z => absurd z (by decide), fun z => absurd z (by decide), fun z => absurd z (by decide), fun z => absurd z (by decide), fun z => absurd z (by decide), fun z => absurd z (by decide), fun z => absurd z (by decide), fun z => absurd z (by decide), fun z => absurd z (by decide), fun z => absurd z (by decide), fun z => absurd z (by decide), fun z => absurd z (by decide), fun z => absurd z (by decide), fun z => absurd z (by decide), fun z => absurd z (by decide), fun _ _ _ _ _ _ _ _ _ _ _ _ _ _ _ => h 1 (g_tv.m1 (by omega))⟩
  · rw [show V 517 q = 8 by rw [v517, u1, o]; decide]; exact ⟨fun z => absurd z (by decide), fun z => absurd z (by decide), fun z => absurd z (by decide), fun z => absurd z (by decide), fun z => absurd z (by decide), fun z => absurd z (by decide), fun z => absurd z (by decide), fun z => absurd z (by decide), fun z => absurd z (by decide), fun z => absurd z (by decide), fun z => absurd z (by decide), fun z => absurd z (by decide), fun z => absurd z (by decide), fun z => absurd z (by decide), fun z => absurd z (by decide), fun _ _ _ _ _ _ _ _ _ _ _ _ _ _ _ => h 1 (g_tv.m1 (by omega))⟩
  · rw [show V 517 q = 7 by rw [v517, u1, o]; decide]; exact ⟨fun z => absurd z (by decide), fun z => absurd z (by decide), fun z => absurd z (by decide), fun z => absurd z (by decide), fun z => absurd z (by decide), fun z => absurd z (by decide), fun z => absurd z (by decide), fun z => absurd z (by decide), fun z => absurd z (by decide), fun z => absurd z (by decide), fun z => absurd z (by decide), fun z => absurd z (by decide), fun z => absurd z (by decide), fun z => absurd z (by decide), fun z => absurd z (by decide), fun _ _ _ _ _ _ _ _ _ _ _ _ _ _ _ => h 1 (g_tv.m1 (by omega))⟩
  · rw [show V 517 q = 18 by rw [v517, u1, o]; decide]; exact ⟨fun z => absurd z (by decide), fun z => absurd z (by decide), fun z => absurd z (by decide), fun z => absurd z (by decide), fun z => absurd z (by decide), fun z => absurd z (by decide), fun z => absurd z (by decide), fun z => absurd z (by decide), fun z => absurd z (by decide), fun z => absurd z (by decide), fun _ => kb o, fun z => absurd z (by decide), fun z => absurd z (by decide), fun z => absurd z (by decide), fun z => absurd z (by decide), fun _ _ _ _ _ _ _ _ _ _ w _ _ _ _ => absurd rfl w⟩
  · rw [show V 517 q = 19 by rw [v517, u1, o]; decide]; exact ⟨fun z => absurd z (by decide), fun z => absurd z (by decide), fun z => absurd z (by decide), fun z => absurd z (by decide), fun z => absurd z (by decide), fun z => absurd z (by decide), fun z => absurd z (by decide), fun z => absurd z (by decide), fun z => absurd z (by decide), fun z => absurd z (by decide), fun z => absurd z (by decide), fun _ => ka (by omega), fun z => absurd z (by decide), fun z => absurd z (by decide), fun z => absurd z (by decide), fun _ _ _ _ _ _ _ _ _ _ _ w _ _ _ => absurd rfl w⟩
  · rw [show V 517 q = 20 by rw [v517, u1, o]; decide]; exact ⟨fun z => absurd z (by decide), fun z => absurd z (by decide), fun z => absurd z (by decide), fun z => absurd z (by decide), fun z => absurd z (by decide), fun z => absurd z (by decide), fun z => absurd z (by decide), fun z => absurd z (by decide), fun z => absurd z (by decide), fun z => absurd z (by decide), fun z => absurd z (by decide), fun z => absurd z (by decide), fun _ => ka (by omega), fun z => absurd z (by decide), fun z => absurd z (by decide), fun _ _ _ _ _ _ _ _ _ _ _ _ w _ _ => absurd rfl w⟩
  · rw [show V 517 q = 21 by rw [v517, u1, o]; decide]; exact ⟨fun z => absurd z (by decide), fun z => absurd z (by decide), fun z => absurd z (by decide), fun z => absurd z (by decide), fun z => absurd z (by decide), fun z => absurd z (by decide), fun z => absurd z (by decide), fun z => absurd z (by decide), fun z => absurd z (by decide), fun z => absurd z (by decide), fun z => absurd z (by decide), fun z => absurd z (by decide), fun z => absurd z (by decide), fun _ => ka (by omega), fun z => absurd z (by decide), fun _ _ _ _ _ _ _ _ _ _ _ _ _ w _ => absurd rfl w⟩
  · rw [show V 517 q = 22 by rw [v517, u1, o]; decide]; exact ⟨fun z => absurd z (by decide), fun z => absurd z (by decide), fun z => absurd z (by decide), fun z => absurd z (by decide), fun z => absurd z (by decide), fun z => absurd z (by decide), fun z => absurd z (by decide), fun z => absurd z (by decide), fun z => absurd z (by decide), fun z => absurd z (by decide), fun z => absurd z (by decide), fun z => absurd z (by decide), fun z => absurd z (by decide), fun z => absurd z (by decide), fun _ => kc o, fun _ _ _ _ _ _ _ _ _ _ _ _ _ _ w => absurd rfl w⟩
/-- a part must give s -/
def j_mb (V : ax_V) (p s : Int) : ax_V := if p < 0 then V else j_bl V (if V 528 p = s then 0 else 1) (V 518 p)
theorem j_mb_ne {p s : Int} {c : Nat} (h : c ≠ 601) : j_mb V p s c = V c := by
  unfold j_mb
  split
  · rfl
  · exact j_bl_ne h
theorem j_mb_le {p s t : Int} : (j_mb V p s) 601 5 ≤ t ↔ V 601 5 ≤ t ∨ (0 ≤ p ∧ ¬ V 528 p = s ∧ V 518 p ≤ t) := by
  unfold j_mb
  split
  · exact ⟨fun z => Or.inl z, fun z => by rcases z with z | z; exact z; omega⟩
  · rw [j_bl_le]
    by_cases w : V 528 p = s
    · rw [if_pos w]; exact ⟨fun z => by rcases z with z | z; exact Or.inl z; exact absurd rfl z.1, fun z => by rcases z with z | z; exact Or.inl z; exact absurd w z.2.1⟩
    · rw [if_neg w]; exact ⟨fun z => by rcases z with z | z; exact Or.inl z; exact Or.inr ⟨by omega, w, z.2⟩, fun z => by rcases z with z | z; exact Or.inl z; exact Or.inr ⟨by decide, z.2.2⟩⟩
theorem j_mb_g {p s : Int} (hg : ax_g V) : ax_g (j_mb V p s) := by
  unfold j_mb
  split
  · exact hg
  · exact j_bl_g hg (hg _ _)
theorem t_mustBe {p s : Int} (hg : ax_g V) (hp : -1 ≤ p ∧ p < 700) (rs : ax_rg s) (h : Ψ (j_mb V p s)) : ax_N (az_W B (az_EJ B r)) (d + 2) q_Judge_mustBe [.ref r, ax_i p, ax_i s] V Ψ Θ := by
  unfold j_mb at h
  refine r_Judge_mustBe hg ⟨by omega, by omega⟩ rs ⟨fun z => by rw [if_pos z] at h; exact h, fun z => ⟨⟨z, hp.2⟩, fun w => ⟨⟨z, hp.2⟩, t_blame hg (by decide) (hg _ _) ?_⟩, fun w => ⟨⟨z, hp.2⟩, t_blame hg (by decide) (hg _ _) ?_⟩⟩⟩
  · rw [if_neg (by omega), if_pos w] at h; exact h
  · rw [if_neg (by omega), if_neg w] at h; exact h
theorem g_J1.mb {C C' : ax_V} {T : Int → Prop} {p s : Int} (h : g_J1 C C' T) : g_J1 C (j_mb C' p s) (fun t => T t ∨ (0 ≤ p ∧ ¬ C 528 p = s ∧ C 518 p ≤ t)) := by
  refine ⟨fun c z => ?_, j_mb_g h.2.1, fun t => ?_⟩
  · rw [j_mb_ne (by simpa using z)]; exact h.1 c z
  · rw [j_mb_le, h.2.2 t, h.1 528 (by decide), h.1 518 (by decide)]
set_option maxHeartbeats 4000000 in
theorem t_callSorts {T : Int → Prop} (hS : g_S C0 M0) (ok : g_N2 M0) (hv : g_fr g_XJ C0 V) (hg : ax_g V) (q0 : 0 ≤ q) (q1 : q < (M0 222 26)) (o : M0 241 q = 22) (hT : ∀ t, (V 601 5) ≤ t ↔ T t) (h : ∀ V', g_J1 V V' (fun t => T t ∨ g_b3c C0 M0 (V 528) q t) → Ψ V') : ax_N (az_W B (az_EJ B r)) (d + 3) q_Judge_judgeCallSorts [.ref r, ax_i q] V Ψ Θ := by
  have p0 := hS.2.2.1.1
  have hat := hS.2.2.2.2.2.2.2
  have hN := hS.2.1
  have pn := (hS.pnode q0 q1).1
  have b7 : 0 ≤ q ∧ q < 700 := ⟨q0, by omega⟩
  have c := ok.call hS q0 q1 o
  obtain ⟨K, K7, KE, KA⟩ := hS.args q0 q1 o
  obtain ⟨w, ew⟩ : ∃ w : Int, w = C0 520 q := ⟨_, rfl⟩
  rw [← ew] at c
  have w1 : w < (M0 222 86) := by omega
  have fl := hS.fl c.1 w1
  have in1 := fl.1
  have out1 := fl.2.1
  have rw' : ax_rg w := ⟨by omega, by omega⟩
  have cn := (f_cn_le M0 w 26).2
  have fl4 := fl.2.2.2.1
  have fl3 := fl.2.2.1.2
  have pb := (hS.p q0 q1).2.2.1
  have pbe : C0 518 q = M0 242 q := (hS.p q0 q1).2.1
  have rb : ax_rg (M0 242 q) := ⟨by omega, by omega⟩
  have hx : ∀ {V' : ax_V} {T' : Int → Prop}, g_J1 V V' T' → ∀ c, c ∉ g_XJ → V' c = C0 c := fun hJ c z => by rw [hJ.1 c (fun q => z (by simp at q; rw [q]; decide))]; exact hv c z
  -- its count, and its outputs
  have fin : ∀ (s : Int), (s = 0 ∨ s = 1) → (¬ s = 0 ↔ ¬ (K : Int) = M0 227 w) → ∀ V1 T1, g_J1 V V1 T1 → (∀ t, T1 t ↔ (T t ∨ ∃ k : Nat, (k < K ∧ (k : Int) < M0 227 w) ∧ ¬ V 528 (e_arg M0 q k) = M0 233 (26 * w + M0 230 (26 * w + (k : Int))) ∧ M0 242 (e_arg M0 q k) ≤ t)) → ∀ y3 y4 y5, ax_y y3 → ax_y y4 → ax_y y5 → k_Judge_judgeCallSorts_131 B r (d + 2) q w y3 y4 y5 s V1 Ψ Θ := by
    intro s hs hs2 V1 T1 hJ1 hT1 y3 y4 y5 hy3 hy4 hy5
    have rs : ax_rg s := by rcases hs with z | z <;> rw [z] <;> decide
    refine r_Judge_judgeCallSorts_131 hJ1.2.1 ⟨by omega, by omega⟩ rw' hy3 hy4 hy5 rs ⟨b7, ?_⟩
    rw [hx hJ1 518 (by decide), pbe]
    refine t_blame hJ1.2.1 rs rb ?_
    have hJ2 := hJ1.bl (w := s) rb
    obtain ⟨V2, eV2⟩ : ∃ X : ax_V, X = j_bl V1 s (M0 242 q) := ⟨_, rfl⟩
    rw [← eV2] at hJ2 ⊢
    rw [hx hJ2 504 (by decide), hx hJ2 527 (by decide), hx hJ2 518 (by decide), pbe, out1.1]
    -- what is blamed, in all
    have all : ∀ (v : Int), (¬ v = 0 ↔ (¬ M0 228 w = 1 ∧ ¬ C0 527 q = M0 228 w)) → ∀ t, (((T1 t ∨ (¬ s = 0 ∧ M0 242 q ≤ t)) ∨ (¬ v = 0 ∧ M0 242 q ≤ t)) ↔ (T t ∨ g_b3c C0 M0 (V 528) q t)) := by
      intro v hv2 t
      rw [hT1 t, hs2, hv2]
      unfold g_b3c
      rw [← ew]
      constructor
      · rintro (((z | ⟨k, k0, k1, k2⟩) | ⟨z1, z2⟩) | ⟨z1, z2⟩)
        · exact Or.inl z
        · refine Or.inr ⟨K, ⟨KE, fun k z => (KA k z).1.1⟩, ?_⟩
          by_cases y : (K : Int) = M0 227 w
          · exact Or.inr (Or.inl ⟨y, k, k0.1, k1, k2⟩)
          · have := (KA k k0.1).2.2.2
            exact Or.inl ⟨y, by omega⟩
        · exact Or.inr ⟨K, ⟨KE, fun k z => (KA k z).1.1⟩, Or.inl ⟨z1, z2⟩⟩
        · exact Or.inr ⟨K, ⟨KE, fun k z => (KA k z).1.1⟩, Or.inr (Or.inr ⟨z1.1, z1.2, z2⟩)⟩
      · rintro (z | ⟨K', ⟨K1, K2⟩, z⟩)
        · exact Or.inl (Or.inl (Or.inl z))
        · have eK : K' = K := by
            rcases Nat.lt_trichotomy K' K with y | y | y
            · have := (KA K' y).1.1; omega
            · exact y
            · have := K2 K y; omega
          rw [eK] at z
          rcases z with z | ⟨z0, k, k0, k1, k2⟩ | z
          · exact Or.inl (Or.inr z)
          · exact Or.inl (Or.inl (Or.inr ⟨k, ⟨k0, by omega⟩, k1, k2⟩))
          · exact Or.inr ⟨⟨z.1, z.2.1⟩, z.2.2⟩
    refine ⟨⟨c.1, by omega⟩, fun z => ⟨b7, t_blame hJ2.2.1 (by decide) rb (h _ ((hJ2.bl rb).of (all 0 ⟨fun y => absurd rfl y, fun y => absurd z y.1⟩)))⟩, fun z => ⟨b7, fun z2 => ⟨b7, t_blame hJ2.2.1 (by decide) rb (h _ ((hJ2.bl rb).of (all 0 ⟨fun y => absurd rfl y, fun y => absurd z2.symm y.2⟩)))⟩, fun z2 => ⟨b7, t_blame hJ2.2.1 (by decide) rb (h _ ((hJ2.bl rb).of (all 1 ⟨fun _ => ⟨z, fun y => z2 y.symm⟩, fun _ => by decide⟩)))⟩⟩⟩
  -- the arguments
  have lp : ∀ (m k : Nat), k ≤ K → K - k ≤ m → ∀ V1 T1, g_J1 V V1 T1 → (∀ t, T1 t ↔ (T t ∨ ∃ x : Nat, (x < k ∧ (x : Int) < M0 227 w) ∧ ¬ V 528 (e_arg M0 q x) = M0 233 (26 * w + M0 230 (26 * w + (x : Int))) ∧ M0 242 (e_arg M0 q x) ≤ t)) → k_Judge_judgeCallSorts_38 B r (d + 2) q w (e_arg M0 q k) (k : Int) (k : Int) V1 Ψ Θ := by
    intro m
    induction m with
    | zero =>
      intro k k0 k1 V1 T1 hJ1 hT1
      have ek : k = K := by omega
      rw [ek] at hT1 ⊢
      rw [KE]
      have e0 : (K : Int) = V1 503 w ↔ (K : Int) = M0 227 w := by rw [hx hJ1 503 (by decide), in1.1]
      refine r_Judge_judgeCallSorts_38 hJ1.2.1 ⟨by omega, by omega⟩ rw' (by decide) ⟨by omega, by omega⟩ ⟨by omega, by omega⟩ ?_
      rw [e0]
      have f1 := fun z => fin 0 (Or.inl rfl) ⟨fun y => absurd rfl y, fun y => absurd z y⟩ V1 T1 hJ1 hT1
      have f2 := fun z => fin 1 (Or.inr rfl) ⟨fun _ => z, fun _ => by decide⟩ V1 T1 hJ1 hT1
      exact ⟨fun _ => ⟨⟨c.1, by omega⟩, fun z => f1 z _ _ _ (ax_y_i _) (ax_y_i _) (ax_y_i _), fun z => f2 z _ _ _ (ax_y_i _) (ax_y_i _) (ax_y_i _)⟩, fun _ => ⟨fun _ => ⟨⟨c.1, by omega⟩, fun z => f1 z _ _ _ (ax_y_i _) (ax_y_i _) (ax_y_i _), fun z => f2 z _ _ _ (ax_y_i _) (ax_y_i _) (ax_y_i _)⟩, fun z => absurd z (by decide)⟩⟩
    | succ m ih =>
      intro k k0 k1 V1 T1 hJ1 hT1
      by_cases ek : k = K
      · exact ih k k0 (by omega) V1 T1 hJ1 hT1
      · obtain ⟨a1, a2, a3, a4⟩ := KA k (by omega)
        have pa := hS.p a1.1 (by omega : e_arg M0 q k < (M0 222 26))
        have ra : ax_rg (e_arg M0 q k) := ⟨by omega, by omega⟩
        have b3 : 0 ≤ e_arg M0 q k ∧ e_arg M0 q k < 700 := ⟨a1.1, by omega⟩
        have k7 : (k : Int) < 700 := by omega
        refine r_Judge_judgeCallSorts_38 hJ1.2.1 ⟨by omega, by omega⟩ rw' ra ⟨by omega, by omega⟩ ⟨by omega, by omega⟩ ⟨fun z => by omega, fun _ => ⟨fun z => by omega, fun _ => ⟨⟨c.1, by omega⟩, ?_⟩⟩⟩
        rw [hx hJ1 503 (by decide), hx hJ1 522 (by decide), hx hJ1 506 (by decide), hx hJ1 535 (by decide), in1.1, a2]
        refine ⟨fun z => ⟨b3, ?_⟩, fun z => ?_⟩
        · have := ih (k + 1) (by omega) (by omega) V1 T1 hJ1 (fun t => by
            rw [hT1 t]
            exact ⟨fun y => by rcases y with y | ⟨x, x0, x1⟩; exact Or.inl y; exact Or.inr ⟨x, ⟨by omega, x0.2⟩, x1⟩, fun y => by rcases y with y | ⟨x, x0, x1⟩; exact Or.inl y; exact Or.inr ⟨x, ⟨by omega, x0.2⟩, x1⟩⟩)
          exact this
        · have u := hS.inp (n := w) (i := (k : Int)) c.1 w1 (by omega) z
          rw [show w * 26 + (k : Int) = 26 * w + (k : Int) by omega, u.1, u.2.2.1]
          refine ⟨⟨by omega, by omega⟩, ⟨by omega, by omega⟩, t_mustBe hJ1.2.1 ⟨by omega, by omega⟩ (by rcases u.2.2.2.1 with y | y <;> rw [y] <;> decide) ⟨b3, ?_⟩⟩
          have hJ2 := hJ1.mb (p := e_arg M0 q k) (s := M0 233 (26 * w + M0 230 (26 * w + (k : Int))))
          have e522 : (j_mb V1 (e_arg M0 q k) (M0 233 (26 * w + M0 230 (26 * w + (k : Int))))) 522 = C0 522 := hx hJ2 522 (by decide)
          rw [e522, a2]
          have := ih (k + 1) (by omega) (by omega) _ _ hJ2 (fun t => by
            rw [hT1 t, hv 518 (by decide), pa.2.1]
            constructor
            · rintro ((y | ⟨x, x0, x1⟩) | ⟨-, y⟩)
              · exact Or.inl y
              · exact Or.inr ⟨x, ⟨by omega, x0.2⟩, x1⟩
              · exact Or.inr ⟨k, ⟨by omega, z⟩, y⟩
            · rintro (y | ⟨x, x0, x1⟩)
              · exact Or.inl (Or.inl y)
              · by_cases ex : x = k
                · rw [ex] at x1; exact Or.inr ⟨a1.1, x1⟩
                · exact Or.inl (Or.inr ⟨x, ⟨by omega, x0.2⟩, x1⟩))
          exact this
  refine r_Judge_judgeCallSorts hg ⟨by omega, by omega⟩ (t_isCall hS ok hv hg q0 q1 (fun _ => ⟨fun z => absurd z (by decide), fun _ => ⟨b7, b7, ?_⟩⟩) (fun z => absurd o z))
  have e21 : V 521 q = e_arg M0 q 0 := by rw [hv 521 (by decide)]; exact (hS.p q0 q1).2.2.2.2.2.2.2.1
  rw [hv 520 (by decide), ← ew, e21]
  exact lp K 0 (by omega) (by omega) V T ⟨g_fr.rf _ _, hg, hT⟩ (fun t => ⟨fun y => Or.inl y, fun y => by rcases y with y | ⟨x, x0, -⟩; exact y; omega⟩)
set_option maxHeartbeats 4000000 in
theorem t_partSorts {T : Int → Prop} (hS : g_S C0 M0) (ok : g_N2 M0) (hv : g_fr g_XJ C0 V) (hg : ax_g V) (q0 : 0 ≤ q) (q1 : q < (M0 222 26)) (hb : ∀ x, 0 ≤ x → x < q → V 528 x = 0 ∨ V 528 x = 1) (hT : ∀ t, (V 601 5) ≤ t ↔ T t) (h : ∀ V', g_J1 V V' (fun t => T t ∨ g_b3 C0 M0 (V 528) q t) → Ψ V') : ax_N (az_W B (az_EJ B r)) (d + 4) q_Judge_judgePartSorts [.ref r, ax_i q] V Ψ Θ := by
  have p0 := hS.2.2.1.1
  have hat := hS.2.2.2.2.2.2.2
  have o9 := (hS.op q0 q1).1
  have u1 := (hS.op q0 q1).2
  have ar := hS.ar q0 q1
  have b7 : 0 ≤ q ∧ q < 700 := ⟨q0, by omega⟩
  have v517 : V 517 = C0 517 := hv 517 (by decide)
  have v518 : V 518 = C0 518 := hv 518 (by decide)
  have v522 : V 522 = C0 522 := hv 522 (by decide)
  have J0 : g_J1 V V T := ⟨g_fr.rf _ _, hg, hT⟩
  have bg : ∀ x, 0 ≤ x → x < (M0 222 26) → V 518 x = M0 242 x := fun x x0 x1 => by rw [v518]; exact (hS.p x0 x1).2.1
  have rb : ∀ x, 0 ≤ x → x < q → ax_rg (V 528 x) := fun x x0 x1 => by rcases hb x x0 x1 with z | z <;> rw [z] <;> decide
  -- from where its parts are known
  have k27 : ∀ (x2 s0 : Int), (¬ M0 241 q = 22 → x2 = M0 245 q ∧ (0 ≤ M0 245 q → s0 = M0 246 q) ∧ (M0 245 q < 0 → s0 = -1)) → ax_rg x2 → ax_rg s0 → k_Judge_judgePartSorts_27 B r (d + 3) q x2 none s0 V Ψ Θ := by
    intro x2 s0 hk rx rs0
    have nc : ¬ M0 241 q = 22 → (x2 = M0 245 q ∧ (0 ≤ M0 245 q → s0 = M0 246 q) ∧ (M0 245 q < 0 → s0 = -1)) ∧ ((-1 ≤ M0 245 q ∧ M0 245 q < q) ∧ (-1 ≤ M0 246 q ∧ M0 246 q < q) ∧ (-1 ≤ M0 247 q ∧ M0 247 q < q)) := fun o => ⟨hk o, (hS.kid q0 q1 o).2.1, (hS.kid q0 q1 o).2.2.1, (hS.kid q0 q1 o).2.2.2.1⟩
    have one : ∀ s T1, ax_rg s → -1 ≤ x2 → x2 < 700 → (∀ t, T1 t ↔ (T t ∨ (0 ≤ x2 ∧ ¬ V 528 x2 = s ∧ V 518 x2 ≤ t))) → g_J1 V (j_mb V x2 s) T1 := fun s T1 rs _ _ hT1 => (J0.mb).of (fun t => (hT1 t).symm)
    have kn : ((0 ≤ M0 241 q ∧ M0 241 q ≤ 3) ∨ M0 241 q = 6 ∨ M0 241 q = 20) → Ψ V := fun o => h V (J0.of (fun t => ⟨fun z => Or.inl z, fun z => by rcases z with z | z; exact z; exact absurd z (g_b3.n o)⟩))
    have ku1 : M0 241 q = 5 → ax_N (az_W B (az_EJ B r)) (d + 3) q_Judge_mustBe [.ref r, ax_i x2, ax_i 1] V (fun V1 => ax_N (az_W B (az_EJ B r)) (d + 3) q_Judge_mustBe [.ref r, ax_i s0, ax_i 1] V1 (fun V2 => Ψ V2) Θ) Θ := by
      intro o
      have n := nc (by omega)
      have a0 : 0 ≤ M0 245 q ∧ M0 246 q = -1 := by rcases ar with z | z | z | z | z <;> omega
      refine t_mustBe hg (by omega) (by decide) (t_mustBe (j_mb_g hg) (by omega) (by decide) (h _ (((J0.mb).mb).of (fun t => ?_))))
      rw [g_b3.u1 o, n.1.1, bg _ a0.1 (by omega)]
      exact ⟨fun z => by rcases z with (z | z) | z; exact Or.inl z; exact Or.inr z.2; omega, fun z => by rcases z with z | z; exact Or.inl (Or.inl z); exact Or.inl (Or.inr ⟨a0.1, z⟩)⟩
    have ku0 : M0 241 q = 4 → ax_N (az_W B (az_EJ B r)) (d + 3) q_Judge_mustBe [.ref r, ax_i x2, ax_i 0] V (fun V1 => ax_N (az_W B (az_EJ B r)) (d + 3) q_Judge_mustBe [.ref r, ax_i s0, ax_i 0] V1 (fun V2 => Ψ V2) Θ) Θ := by
      intro o
      have n := nc (by omega)
      have a0 : 0 ≤ M0 245 q ∧ M0 246 q = -1 := by rcases ar with z | z | z | z | z <;> omega
      refine t_mustBe hg (by omega) (by decide) (t_mustBe (j_mb_g hg) (by omega) (by decide) (h _ (((J0.mb).mb).of (fun t => ?_))))
      rw [g_b3.u0 o, n.1.1, bg _ a0.1 (by omega)]
      exact ⟨fun z => by rcases z with (z | z) | z; exact Or.inl z; exact Or.inr z.2; omega, fun z => by rcases z with z | z; exact Or.inl (Or.inl z); exact Or.inl (Or.inr ⟨a0.1, z⟩)⟩
    have kb1 : (M0 241 q = 16 ∨ M0 241 q = 17) → ax_N (az_W B (az_EJ B r)) (d + 3) q_Judge_mustBe [.ref r, ax_i x2, ax_i 1] V (fun V1 => ax_N (az_W B (az_EJ B r)) (d + 3) q_Judge_mustBe [.ref r, ax_i s0, ax_i 1] V1 (fun V2 => Ψ V2) Θ) Θ := by
      intro o
      have n := nc (by omega)
      have a0 : 0 ≤ M0 245 q ∧ 0 ≤ M0 246 q := by rcases ar with z | z | z | z | z <;> omega
      refine t_mustBe hg (by omega) (by decide) (t_mustBe (j_mb_g hg) (by omega) (by decide) (h _ (((J0.mb).mb).of (fun t => ?_))))
      rw [g_b3.b1 o, n.1.1, n.1.2.1 a0.1, bg _ a0.1 (by omega), bg _ a0.2 (by omega)]
      exact ⟨fun z => by rcases z with (z | z) | z; exact Or.inl z; exact Or.inr (Or.inl z.2); exact Or.inr (Or.inr z.2), fun z => by rcases z with z | z | z; exact Or.inl (Or.inl z); exact Or.inl (Or.inr ⟨a0.1, z⟩); exact Or.inr ⟨a0.2, z⟩⟩
    have kb0 : ((7 ≤ M0 241 q ∧ M0 241 q ≤ 11) ∨ M0 241 q = 14 ∨ M0 241 q = 15) → ax_N (az_W B (az_EJ B r)) (d + 3) q_Judge_mustBe [.ref r, ax_i x2, ax_i 0] V (fun V1 => ax_N (az_W B (az_EJ B r)) (d + 3) q_Judge_mustBe [.ref r, ax_i s0, ax_i 0] V1 (fun V2 => Ψ V2) Θ) Θ := by
      intro o
      have n := nc (by omega)
      have a0 : 0 ≤ M0 245 q ∧ 0 ≤ M0 246 q := by rcases ar with z | z | z | z | z <;> omega
      refine t_mustBe hg (by omega) (by decide) (t_mustBe (j_mb_g hg) (by omega) (by decide) (h _ (((J0.mb).mb).of (fun t => ?_))))
      rw [g_b3.b0 o, n.1.1, n.1.2.1 a0.1, bg _ a0.1 (by omega), bg _ a0.2 (by omega)]
      exact ⟨fun z => by rcases z with (z | z) | z; exact Or.inl z; exact Or.inr (Or.inl z.2); exact Or.inr (Or.inr z.2), fun z => by rcases z with z | z | z; exact Or.inl (Or.inl z); exact Or.inl (Or.inr ⟨a0.1, z⟩); exact Or.inr ⟨a0.2, z⟩⟩
    have ks : (M0 241 q = 12 ∨ M0 241 q = 13 ∨ M0 241 q = 19 ∨ M0 241 q = 21) → (0 ≤ x2 ∧ x2 < 700) ∧ ax_N (az_W B (az_EJ B r)) (d + 3) q_Judge_mustBe [.ref r, ax_i s0, ax_i (V 528 x2)] V (fun V3 => Ψ V3) Θ := by
      intro o
      have n := nc (by omega)
      have a0 : 0 ≤ M0 245 q ∧ 0 ≤ M0 246 q := by rcases ar with z | z | z | z | z <;> omega
      rw [n.1.1, n.1.2.1 a0.1]
      refine ⟨⟨a0.1, by omega⟩, t_mustBe hg (by omega) (rb _ a0.1 (by omega)) (h _ ((J0.mb).of (fun t => ?_)))⟩
      rw [g_b3.s o, bg _ a0.2 (by omega)]
      exact ⟨fun z => by rcases z with z | z; exact Or.inl z; exact Or.inr z.2, fun z => by rcases z with z | z; exact Or.inl z; exact Or.inr ⟨a0.2, z⟩⟩
    have kh : M0 241 q = 18 → ax_N (az_W B (az_EJ B r)) (d + 3) q_Judge_mustBe [.ref r, ax_i x2, ax_i 1] V (fun V4 => (0 ≤ s0 ∧ s0 < 700) ∧ (0 ≤ s0 ∧ s0 < 700) ∧ ax_N (az_W B (az_EJ B r)) (d + 3) q_Judge_mustBe [.ref r, ax_i (V4 522 s0), ax_i (V4 528 s0)] V4 (fun V5 => Ψ V5) Θ) Θ := by
      intro o
      have n := nc (by omega)
      have kd := hS.kid q0 q1 (by omega)
      have a0 : 0 ≤ M0 245 q ∧ 0 ≤ M0 246 q ∧ 0 ≤ M0 247 q := by rcases ar with z | z | z | z | z <;> omega
      rw [n.1.1, n.1.2.1 a0.1]
      refine t_mustBe hg (by omega) (by decide) ⟨⟨a0.2.1, by omega⟩, ⟨a0.2.1, by omega⟩, ?_⟩
      have hJ2 := J0.mb (p := M0 245 q) (s := 1)
      rw [hJ2.1 522 (by decide), hJ2.1 528 (by decide), v522, kd.2.2.2.2.2.1 a0.2.1]
      refine t_mustBe (j_mb_g hg) (by omega) (rb _ a0.2.1 (by omega)) (h _ ((hJ2.mb).of (fun t => ?_)))
      rw [g_b3.h o, bg _ a0.1 (by omega), bg _ a0.2.2 (by omega)]
      exact ⟨fun z => by rcases z with (z | z) | z; exact Or.inl z; exact Or.inr (Or.inl z.2); exact Or.inr (Or.inr z.2), fun z => by rcases z with z | z | z; exact Or.inl (Or.inl z); exact Or.inl (Or.inr ⟨a0.1, z⟩); exact Or.inr ⟨a0.2.2, z⟩⟩
    have kc : M0 241 q = 22 → ax_N (az_W B (az_EJ B r)) (d + 3) q_Judge_judgeCallSorts [.ref r, ax_i q] V (fun V6 => Ψ V6) Θ := fun o => t_callSorts hS ok hv hg q0 q1 o hT (fun V' hV' => h V' (hV'.of (fun t => by rw [g_b3.c o])))
    refine r_Judge_judgePartSorts_27 hg ⟨by omega, by omega⟩ rx ax_y_n rs0 ⟨b7, ?_⟩
    have hop : M0 241 q = 0 ∨ M0 241 q = 1 ∨ M0 241 q = 2 ∨ M0 241 q = 3 ∨ M0 241 q = 4 ∨ M0 241 q = 5 ∨ M0 241 q = 6 ∨ M0 241 q = 7 ∨ M0 241 q = 8 ∨ M0 241 q = 9 ∨ M0 241 q = 10 ∨ M0 241 q = 11 ∨ M0 241 q = 12 ∨ M0 241 q = 13 ∨ M0 241 q = 14 ∨ M0 241 q = 15 ∨ M0 241 q = 16 ∨ M0 241 q = 17 ∨ M0 241 q = 18 ∨ M0 241 q = 19 ∨ M0 241 q = 20 ∨ M0 241 q = 21 ∨ M0 241 q = 22 := by omega
    rcases hop with o | o | o | o | o | o | o | o | o | o | o | o | o | o | o | o | o | o | o | o | o | o | o
    · rw [show V 517 q = 0 by rw [v517, u1, o]; decide]; exact ⟨fun _ => kn (by omega), fun z => absurd z (by decide), fun z => absurd z (by decide), fun z => absurd z (by decide), fun z => absurd z (by decide), fun w _ _ _ _ _ _ _ _ _ _ _ _ _ _ => absurd rfl w⟩
    · rw [show V 517 q = 1 by rw [v517, u1, o]; decide]; exact ⟨fun _ => kn (by omega), fun z => absurd z (by decide), fun z => absurd z (by decide), fun z => absurd z (by decide), fun z => absurd z (by decide), fun _ w _ _ _ _ _ _ _ _ _ _ _ _ _ => absurd rfl w⟩
    · rw [show V 517 q = 2 by rw [v517, u1, o]; decide]; exact ⟨fun _ => kn (by omega), fun z => absurd z (by decide), fun z => absurd z (by decide), fun z => absurd z (by decide), fun z => absurd z (by decide), fun _ _ w _ _ _ _ _ _ _ _ _ _ _ _ => absurd rfl w⟩
    · rw [show V 517 q = 3 by rw [v517, u1, o]; decide]; exact ⟨fun _ => kn (by omega), fun z => absurd z (by decide), fun z => absurd z (by decide), fun z => absurd z (by decide), fun z => absurd z (by decide), fun _ _ _ w _ _ _ _ _ _ _ _ _ _ _ => absurd rfl w⟩
    · rw [show V 517 q = 4 by rw [v517, u1, o]; decide]; exact ⟨fun z => absurd z (by decide), fun z => absurd z (by decide), fun z => absurd z (by decide), fun z => absurd z (by decide), fun z => absurd z (by decide), fun _ _ _ _ _ _ _ _ _ _ _ _ _ _ _ => ku0 o⟩
    · rw [show V 517 q = 5 by rw [v517, u1, o]; decide]; exact ⟨fun z => absurd z (by decide), fun _ => ku1 o, fun z => absurd z (by decide), fun z => absurd z (by decide), fun z => absurd z (by decide), fun _ _ _ _ _ _ w _ _ _ _ _ _ _ _ => absurd rfl w⟩
    · rw [show V 517 q = 6 by rw [v517, u1, o]; decide]; exact ⟨fun _ => kn (by omega), fun z => absurd z (by decide), fun z => absurd z (by decide), fun z => absurd z (by decide), fun z => absurd z (by decide), fun _ _ _ _ w _ _ _ _ _ _ _ _ _ _ => absurd rfl w⟩
    · rw [show V 517 q = 13 by rw [v517, u1, o]; decide]; exact ⟨fun z => absurd z (by decide), fun z => absurd z (by decide), fun z => absurd z (by decide), fun z => absurd z (by decide), fun z => absurd z (by decide), fun _ _ _ _ _ _ _ _ _ _ _ _ _ _ _ => kb0 (by omega)⟩
    · rw [show V 517 q = 14 by rw [v517, u1, o]; decide]; exact ⟨fun z => absurd z (by decide), fun z => absurd z (by decide), fun z => absurd z (by decide), fun z => absurd z (by decide), fun z => absurd z (by decide), fun _ _ _ _ _ _ _ _ _ _ _ _ _ _ _ => kb0 (by omega)⟩
    · rw [show V 517 q = 15 by rw [v517, u1, o]; decide]; exact ⟨fun z => absurd z (by decide), fun z => absurd z (by decide), fun z => absurd z (by decide), fun z => absurd z (by decide), fun z => absurd z (by decide), fun _ _ _ _ _ _ _ _ _ _ _ _ _ _ _ => kb0 (by omega)⟩
    · rw [show V 517 q = 16 by rw [v517, u1, o]; decide]; exact ⟨fun z => absurd z (by decide), fun z => absurd z (by decide), fun z => absurd z (by decide), fun z => absurd z (by decide), fun z => absurd z (by decide), fun _ _ _ _ _ _ _ _ _ _ _ _ _ _ _ => kb0 (by omega)⟩
    · rw [show V 517 q = 17 by rw [v517, u1, o]; decide]; exact ⟨fun z => absurd z (by decide), fun z => absurd z (by decide), fun z => absurd z (by decide), fun z => absurd z (by decide), fun z => absurd z (by decide), fun _ _ _ _ _ _ _ _ _ _ _ _ _ _ _ => kb0 (by omega)⟩
    · rw [show V 517 q = 9 by rw [v517, u1, o]; decide]; exact ⟨fun z => absurd z (by decide), fun z => absurd z (by decide), fun _ => ks (by omega), fun z => absurd z (by decide), fun z => absurd z (by decide), fun _ _ _ _ _ _ _ _ _ w _ _ _ _ _ => absurd rfl w⟩
    · rw [show V 517 q = 10 by rw [v517, u1, o]; decide]; exact ⟨fun z => absurd z (by decide), fun z => absurd z (by decide), fun _ => ks (by omega), fun z => absurd z (by decide), fun z => absurd z (by decide), fun _ _ _ _ _ _ _ _ _ _ w _ _ _ _ => absurd rfl w⟩
    · rw [show V 517 q = 11 by rw [v517, u1, o]; decide]; exact ⟨fun z => absurd z (by decide), fun z => absurd z (by decide), fun z => absurd z (by decide), fun z => absurd z (by decide), fun z => absurd z (by decide), fun _ _ _ _ _ _ _ _ _ _ _ _ _ _ _ => kb0 (by omega)⟩
    · rw [show V 517 q = 12 by rw [v517, u1, o]; decide]; exact ⟨fun z => absurd z (by decide), fun z => absurd z (by decide), fun z => absurd z (by decide), fun z => absurd z (by decide), fun z => absurd z (by decide), fun _ _ _ _ _ _ _ _ _ _ _ _ _ _ _ => kb0 (by omega)⟩
    · rw [show V 517 q = 8 by rw [v517, u1, o]; decide]; exact ⟨fun z => absurd z (by decide), fun _ => kb1 (by omega), fun z => absurd z (by decide), fun z => absurd z (by decide), fun z => absurd z (by decide), fun _ _ _ _ _ _ _ _ w _ _ _ _ _ _ => absurd rfl w⟩
    · rw [show V 517 q = 7 by rw [v517, u1, o]; decide]; exact ⟨fun z => absurd z (by decide), fun _ => kb1 (by omega), fun z => absurd z (by decide), fun z => absurd z (by decide), fun z => absurd z (by decide), fun _ _ _ _ _ _ _ w _ _ _ _ _ _ _ => absurd rfl w⟩
    · rw [show V 517 q = 18 by rw [v517, u1, o]; decide]; exact ⟨fun z => absurd z (by decide), fun z => absurd z (by decide), fun z => absurd z (by decide), fun _ => kh o, fun z => absurd z (by decide), fun _ _ _ _ _ _ _ _ _ _ _ _ _ w _ => absurd rfl w⟩
    · rw [show V 517 q = 19 by rw [v517, u1, o]; decide]; exact ⟨fun z => absurd z (by decide), fun z => absurd z (by decide), fun _ => ks (by omega), fun z => absurd z (by decide), fun z => absurd z (by decide), fun _ _ _ _ _ _ _ _ _ _ _ w _ _ _ => absurd rfl w⟩
    · rw [show V 517 q = 20 by rw [v517, u1, o]; decide]; exact ⟨fun _ => kn (by omega), fun z => absurd z (by decide), fun z => absurd z (by decide), fun z => absurd z (by decide), fun z => absurd z (by decide), fun _ _ _ _ _ w _ _ _ _ _ _ _ _ _ => absurd rfl w⟩
    · rw [show V 517 q = 21 by rw [v517, u1, o]; decide]; exact ⟨fun z => absurd z (by decide), fun z => absurd z (by decide), fun _ => ks (by omega), fun z => absurd z (by decide), fun z => absurd z (by decide), fun _ _ _ _ _ _ _ _ _ _ _ _ w _ _ => absurd rfl w⟩
    · rw [show V 517 q = 22 by rw [v517, u1, o]; decide]; exact ⟨fun z => absurd z (by decide), fun z => absurd z (by decide), fun z => absurd z (by decide), fun z => absurd z (by decide), fun _ => kc o, fun _ _ _ _ _ _ _ _ _ _ _ _ _ _ w => absurd rfl w⟩
  have v521 : V 521 = C0 521 := hv 521 (by decide)
  refine r_Judge_judgePartSorts hg ⟨by omega, by omega⟩ ⟨b7, fun z => ⟨⟨z, ?_⟩, k27 _ _ (fun o => ?_) (hg _ _) (hg _ _)⟩, fun z => k27 _ _ (fun o => ?_) (hg _ _) (by decide)⟩
  · by_cases o : M0 241 q = 22
    · obtain ⟨K, K7, KE, KA⟩ := hS.args q0 q1 o
      have e21 : V 521 q = e_arg M0 q 0 := by rw [v521]; exact (hS.p q0 q1).2.2.2.2.2.2.2.1
      rw [e21] at z ⊢
      by_cases y : K = 0
      · rw [y] at KE; omega
      · have := (KA 0 (by omega)).1; omega
    · have kd := hS.kid q0 q1 o
      rw [v521, kd.1]; omega
  · have kd := hS.kid q0 q1 o
    rw [v521, v522, kd.1]
    exact ⟨rfl, kd.2.2.2.2.1, fun y => by rw [v521, kd.1] at z; omega⟩
  · have kd := hS.kid q0 q1 o
    rw [v521, kd.1] at z ⊢
    exact ⟨rfl, fun y => by omega, fun _ => rfl⟩
end Kind3C
