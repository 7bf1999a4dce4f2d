/-! FAULTS 6, the class: the whole of it -/
def g_w6 (C M : ax_V) (n t : Int) : Prop := ∃ l, (0 ≤ l ∧ l < 26) ∧ g_wr (g_h0 C M n) 26 l l ∧ C 533 (26 * n + l) ≤ t
def g_J6 (C0 M0 C2 C : ax_V) (n : Int) (T : Int → Prop) : Prop := g_fr [601, 545, 552, 561] C2 C ∧ ax_g C ∧ (∀ a, 0 ≤ a → a < C0 510 n → b_ok (C 561 a) ∧ ∀ y, 0 ≤ y → y < 26 → (b_in (C 561 a) y ↔ g_nd C0 M0 a y)) ∧ (∀ a, C0 510 n ≤ a → a < (M0 222 55) → C 561 a = 0) ∧ (∀ e, 0 ≤ e → e < C0 509 n → b_ok (C 552 e) ∧ ∀ y, 0 ≤ y → y < 26 → (b_in (C 552 e) y ↔ g_en C0 M0 e y)) ∧ (∀ s, 26 * n ≤ s → s < 208 → C 545 s = 0) ∧ ∀ t, (C 601 5) ≤ t ↔ T t
section Kind6F
variable {B r d : Nat} {C0 M0 V C C2 : ax_V} {n : Int} {T : Int → Prop} {R : Int → Int → Prop} {Φ : Int → ax_V → Prop} {Ψ Θ : ax_V → Prop}
theorem t_cyc88 (hg : ax_g V) (n0 : 0 ≤ n ∧ n < 8) (h33 : V 533 = C0 533) (hr : g_rw V n R) (hT : ∀ t, (V 601 5) ≤ t ↔ T t) {y1 : Option Value} (hy1 : ax_y y1) (h : ∀ V', g_J1 V V' (fun t => T t ∨ ∃ l, (0 ≤ l ∧ l < 26) ∧ R l l ∧ C0 533 (26 * n + l) ≤ t) → Ψ V') : ∀ y4, ax_y y4 → k_Judge_judgeCycles_88 B r (d + 1) y1 (26 * n) (26 * n) y4 V Ψ Θ := by
  have rn : ax_rg (26 * n) := ⟨by omega, by omega⟩
  intro y4 hy4
  refine ax_for (I := fun s W => (26 * n ≤ s ∧ s ≤ 26 * n + 26) ∧ g_J1 V W (fun t => T t ∨ ∃ l, (0 ≤ l ∧ l < s - 26 * n) ∧ R l l ∧ C0 533 (26 * n + l) ≤ t)) (K := fun s W => k_Judge_judgeCycles_88 B r (d + 1) y1 (26 * n) s y4 W Ψ Θ) (hi := 26 * n + 26) (fun s W w hI next => ?_) (fun s W w hI => ?_) (26 * n) V ⟨⟨Int.le_refl _, by omega⟩, g_fr.rf _ _, hg, fun t => by rw [hT t]; exact ⟨fun z => Or.inl z, fun z => by rcases z with z | ⟨x, x0, -⟩; exact z; omega⟩⟩
  · obtain ⟨hs, hJ⟩ := hI
    obtain ⟨l, el⟩ : ∃ l : Int, l = s - 26 * n := ⟨_, rfl⟩
    have es : s = 26 * n + l := by omega
    have l0 : 0 ≤ l := by omega
    have l1 : l < 26 := by omega
    rw [← el] at hJ
    rw [es] at next ⊢
    have k := hr l l0 l1
    have bs : 0 ≤ 26 * n + l ∧ 26 * n + l < 208 := ⟨by omega, by omega⟩
    have rt : ax_rg (C0 533 (26 * n + l)) := by rw [← h33]; exact hg _ _
    have e33 : W 533 = C0 533 := by rw [hJ.1 533 (by decide)]; exact h33
    refine r_Judge_judgeCycles_88 hJ.2.1 hy1 rn ⟨by omega, by omega⟩ hy4 ⟨⟨by omega, by omega⟩, fun z => by omega, fun _ => ⟨bs, t_bit hJ.2.1 n0 ⟨l0, l1⟩ ?_⟩⟩
    rw [hJ.1 545 (by decide), e33, b_has k.1 ⟨l0, l1⟩, k.2 l l0 l1]
    have all : ∀ v : Int, (¬ v = 0 ↔ R l l) → ∀ t, (((T t ∨ ∃ x, (0 ≤ x ∧ x < l) ∧ R x x ∧ C0 533 (26 * n + x) ≤ t) ∨ (¬ v = 0 ∧ C0 533 (26 * n + l) ≤ t)) ↔ (T t ∨ ∃ x, (0 ≤ x ∧ x < 26 * n + l + 1 - 26 * n) ∧ R x x ∧ C0 533 (26 * n + x) ≤ t)) := fun v hv t => by
      rw [hv]
      constructor
      · rintro ((z | ⟨x, x0, x1⟩) | z)
        · exact Or.inl z
        · exact Or.inr ⟨x, ⟨x0.1, by omega⟩, x1⟩
        · exact Or.inr ⟨l, ⟨l0, by omega⟩, z⟩
      · rintro (z | ⟨x, x0, x1⟩)
        · exact Or.inl (Or.inl z)
        · by_cases y : x = l
          · rw [y] at x1; exact Or.inr x1
          · exact Or.inl (Or.inr ⟨x, ⟨x0.1, by omega⟩, x1⟩)
    exact ⟨fun z => ⟨bs, t_blame hJ.2.1 (by decide) rt (next _ ⟨⟨by omega, by omega⟩, (hJ.bl rt).of (all 0 ⟨fun y => absurd rfl y, fun y => absurd y z⟩)⟩)⟩, fun z => ⟨bs, t_blame hJ.2.1 (by decide) rt (next _ ⟨⟨by omega, by omega⟩, (hJ.bl rt).of (all 1 ⟨fun _ => Classical.byContradiction z, fun _ => by decide⟩)⟩)⟩⟩
  · obtain ⟨hs, hJ⟩ := hI
    have es : s = 26 * n + 26 := by omega
    rw [es] at hJ ⊢
    refine r_Judge_judgeCycles_88 hJ.2.1 hy1 rn ⟨by omega, by omega⟩ hy4 ⟨⟨by omega, by omega⟩, fun _ => h W (hJ.of (fun t => ?_)), fun z => by omega⟩
    rw [show 26 * n + 26 - 26 * n = 26 by omega]
theorem g_S.h01 (hS : g_S C0 M0) (n0 : 0 ≤ n) (n1 : n < (M0 222 86)) (l y : Int) : g_h1 C0 M0 n (C0 509 (n + 1)) l y ↔ g_h0 C0 M0 n l y := by
  have E0 := hS.eqF n0 (by omega)
  have E1 := hS.eqF (n := n + 1) (by omega) (by omega)
  constructor
  · rintro ⟨e, i, a, b, c⟩
    exact ⟨e, i, b, (hS.eqN b.1.1 b.1.2 n0 n1).mp a, c⟩
  · rintro ⟨e, i, b, a, c⟩
    exact ⟨e, i, (hS.eqN b.1.1 b.1.2 n0 n1).mpr a, b, c⟩
set_option maxHeartbeats 4000000 in
theorem t_look6 (hS : g_S C0 M0) (h2 : g_fr g_XJ C0 C2) (n0 : 0 ≤ n) (n1 : n < (M0 222 86)) (hJ : g_J6 C0 M0 C2 C n T) (h : ∀ C', g_J6 C0 M0 C2 C' (n + 1) (fun t => T t ∨ g_w6 C0 M0 n t) → Ψ C') : ax_N (az_W B (az_EJ B r)) (d + 5) q_Judge_lookFor [.ref r, ax_i 6, ax_i n] C Ψ Θ := by
  have hN := hS.2.1
  have rn : ax_rg n := ⟨by omega, by omega⟩
  have E0 := hS.eqF n0 (by omega)
  have E1 := hS.eqF (n := n + 1) (by omega) (by omega)
  have E2 := hS.eqS n0 n1
  have n8 : 0 ≤ n ∧ n < 8 := ⟨n0, by omega⟩
  obtain ⟨j1, j2, j3, j4, j5, j6, j7⟩ := hJ
  have xC : g_fr g_XJ C0 C := h2.tr (j1.up (by decide))
  refine r_Judge_lookFor j2 (by decide) rn ⟨fun q => absurd q (by decide), fun q => absurd q (by decide), fun q => absurd q (by decide), fun q => absurd q (by decide), fun _ _ _ _ => ?_⟩
  refine r_Judge_judgeCycles j2 rn ?_
  refine t_needs1 hS xC j2 n0 n1 (fun a x y => j4 a x (by omega)) (fun V1 f1 g1 k1 k2 => ?_)
  have xV1 : g_fr g_XJ C0 V1 := xC.tr (f1.up (by decide))
  refine t_needs2 hS xV1 g1 n0 n1 k1 (fun s a b => by rw [f1 545 (by decide)]; exact j6 s a (by omega)) (fun V2 f2 g2 k3 k4 k5 k6 => ?_)
  have rw2 : g_rw V2 n (g_h0 C0 M0 n) := fun l l0 l1 => ⟨(k5 l l0 l1).1, fun y y0 y1 => by rw [(k5 l l0 l1).2 y y0 y1]; exact hS.h01 n0 n1 l y⟩
  rw [show n * 26 = 26 * n by omega]
  refine t_warshall g2 n8 rw2 (ax_y_i _) (fun V3 f3 g3 r3 o3 => ?_) _ ax_y_n
  have xV3 : g_fr g_XJ C0 V3 := (xV1.tr (f2.up (by decide))).tr (f3.up (by decide))
  have t3 : ∀ t, (V3 601 5) ≤ t ↔ T t := fun t => by rw [f3 601 (by decide), f2 601 (by decide), f1 601 (by decide)]; exact j7 t
  refine t_cyc88 (C0 := C0) g3 n8 (xV3 533 (by decide)) r3 t3 (ax_y_i _) (fun V4 h4 => h V4 ?_)
  have e61 : V4 561 = V1 561 := by rw [h4.1 561 (by decide), f3 561 (by decide), f2 561 (by decide)]
  have e52 : V4 552 = V2 552 := by rw [h4.1 552 (by decide), f3 552 (by decide)]
  have e45 : ∀ s, 26 * n + 26 ≤ s → s < 208 → V4 545 s = 0 := fun s a b => by
    rw [h4.1 545 (by decide), o3 s (by omega), k6 s (by omega), f1 545 (by decide)]
    exact j6 s (by omega) b
  refine ⟨(((j1.tr (f1.up (by decide))).tr (f2.up (by decide))).tr (f3.up (by decide))).tr (h4.1.up (by decide)), h4.2.1, fun a x y => ?_, fun a x y => ?_, fun e x y => ?_, fun s a b => e45 s (by omega) b, fun t => h4.2.2 t⟩
  · rw [e61]
    by_cases z : C0 510 n ≤ a
    · exact k1 a z y
    · rw [k2 a (by omega)]; exact j3 a x (by omega)
  · rw [e61, k2 a (by omega)]
    exact j4 a (by omega) y
  · rw [e52]
    by_cases z : C0 509 n ≤ e
    · exact k3 e z y
    · rw [k4 e (by omega), f1 552 (by decide)]; exact j5 e x (by omega)
/-- the class's faults 6 -/
theorem t_kind6 (hS : g_S C0 M0) (h2 : g_fr g_XJ C0 C2) (h45 : C2 545 = C0 545) (h61 : C2 561 = C0 561) (hg : ax_g C2) (hT : ∀ t, (C2 601 5) ≤ t ↔ T t) {y1 : Option Value} (hy1 : ax_y y1)
    (fin : ∀ C', g_J6 C0 M0 C2 C' (M0 222 86) (fun t => T t ∨ ∃ n, (0 ≤ n ∧ n < (M0 222 86)) ∧ g_w6 C0 M0 n t) → (700 ≤ (C' 601 5) → ∀ y, ax_y y → k_Judge_judge_7 B r (d + 5) y1 7 y C' Φ Θ) ∧ ((C' 601 5) < 700 → Φ 6 C')) : ∀ y, ax_y y → k_Judge_judge_7 B r (d + 5) y1 6 y C2 Φ Θ := by
  have z0 := hS.2.2.2.2.1.2.2.2.2.2.2.2.2.2.2.1
  refine t_nodes (d := d + 1) (kd := 6) (J := fun C n T => g_J6 C0 M0 C2 C n T) (w := fun n t => g_w6 C0 M0 n t) hS (by decide) (fun C n T h => ⟨h.2.1, (h.1 500 (by decide)).trans (h2 500 (by decide)), h.2.2.2.2.2.2⟩) (fun C n T T' h k => ⟨h.1, h.2.1, h.2.2.1, h.2.2.2.1, h.2.2.2.2.1, h.2.2.2.2.2.1, fun t => (h.2.2.2.2.2.2 t).trans (k t)⟩) hy1 (by decide) (fun C n T n0 n1 h Ψ k => t_look6 hS h2 n0 n1 h k) (T := T) ⟨g_fr.rf _ _, hg, fun a x y => by rw [z0.2.2] at y; omega, fun a x y => ?_, fun e x y => by rw [z0.2.1] at y; omega, fun s a b => ?_, hT⟩ fin
  · rw [h61]
    rw [z0.2.2] at x
    exact ((hS.au x y).1.2.2.2.2.1).2.1
  · rw [h45]
    exact (hS.2.2.2.1.1.2.2 s (by omega) b).2.2.2.2.2.1
end Kind6F
