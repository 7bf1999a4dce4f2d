/-! THE PLANNER: a node, all nodes -/
section Plan
variable {B r d : Nat} {C0 M0 V0 V W : ax_V} {n F : Int} {s t : Int → Prop} {U J Fs Gs Hh S : Int → Int} {Φ : Int → ax_V → Prop} {Ψ Θ : ax_V → Prop}
set_option maxHeartbeats 2000000 in
theorem t_schedule (hS : g_S C0 M0) (ok : g_N2 M0) (n6 : ∀ t, t < 700 → ¬ g_FA C0 M0 Fs Gs Hh 6 t) (n0 : 0 ≤ n) (n1 : n < (M0 222 86)) (hf : g_fr g_XP C0 V) (hg : ax_g V) (hM : g_NM C0 M0 V) (hF : V 602 5 = F) (hF0 : 0 ≤ F) (hF2 : F ≤ g_bs0 C0 n) (h53 : ∀ e, 0 ≤ e → e < (M0 222 44) → M0 258 e = n → V 553 e = 0) (h62 : ∀ a, 0 ≤ a → a < (M0 222 55) → M0 267 a = n → V 562 a = 0) (h46 : ∀ y, 0 ≤ y → y < 26 → V 546 (26 * n + y) = 0)
    (h : ∀ W, g_fr g_XQ V W → ax_g W → (∀ k, k < F → W 512 k = V 512 k) → g_SD C0 M0 (W 512) F (W 602 5) n → W 602 5 ≤ g_bs0 C0 (n + 1) → (∀ e, 0 ≤ e → e < (M0 222 44) → ¬ M0 258 e = n → W 553 e = V 553 e) → (∀ a, 0 ≤ a → a < (M0 222 55) → ¬ M0 267 a = n → W 562 a = V 562 a) → (∀ x, ¬ (26 * n ≤ x ∧ x < 26 * n + 26) → W 546 x = V 546 x) → Ψ W) : ax_N (az_W B (az_EL B r)) (d + 5) q_Planner_schedule [.ref r, ax_i n] V Ψ Θ := by
  have sm := hS.small
  have hN := hS.2.1
  have E0 := hS.eqF n0 (by omega)
  have E1 := hS.eqF (n := n + 1) (by omega) (by omega)
  have E2 := hS.eqS n0 n1
  have rn : ax_rg n := ⟨by omega, by omega⟩
  have bn : 0 ≤ n + 1 ∧ n + 1 < 9 := ⟨by omega, by omega⟩
  obtain ⟨mo, emo⟩ : ∃ mo : Int, mo = C0 509 (n + 1) - C0 509 n + C0 510 (n + 1) - C0 510 n := ⟨_, rfl⟩
  have fin : ∀ W s, g_PI C0 M0 V W n F s → (∀ a, 0 ≤ a → a < (M0 222 55) → M0 267 a = n → s (2048 + a) ∨ ¬ g_ab C0 M0 s n a) → (∀ e, 0 ≤ e → e < (M0 222 44) → M0 258 e = n → s (1024 + e) ∨ ¬ g_eb C0 M0 s n e) → ax_N (az_W B (az_EL B r)) (d + 4) q_Planner_scheduleEnd [.ref r, ax_i n] W (fun V1 => Ψ V1) Θ := fun W s hW ha he => by
    refine t_end hS n0 n1 hF0 hF2 hf hW (hS.complete ok n6 n0 n1 ha he) (fun X fX gX kX sd bX => h X ?_ gX kX sd bX (fun e a b c => ?_) (fun e a b c => ?_) (fun x z => ?_))
    · exact hW.1.1.tr (fX.up (by decide))
    · rw [fX 553 (by decide)]; exact hW.2.2.2.2.1.2 e a b c
    · rw [fX 562 (by decide)]; exact hW.2.2.2.2.2.1.2 e a b c
    · rw [fX 546 (by decide)]; exact hW.2.2.2.2.2.2.1.2 x z
  have main : ∀ (m : Nat) (x3 : Int) W s y4 y5, ax_y y4 → ax_y y5 → g_PI C0 M0 V W n F s → 0 ≤ x3 → (g_un C0 W n : Int) + x3 ≤ mo → mo - x3 ≤ (m : Int) → k_Planner_schedule_51 B r (d + 4) n mo x3 y4 y5 W Ψ Θ := by
    intro m
    induction m with
    | zero => ?_
    | succ m ih => ?_
    all_goals
      intro x3 W s y4 y5 hy4 hy5 hW h0 h1 h2
      refine r_Planner_schedule_51 hW.1.2 rn ⟨by omega, by omega⟩ ⟨by omega, by omega⟩ hy4 hy5 ⟨fun z => by omega, fun _ => ?_⟩
      refine t_strong (d := d + 1) hS n0 n1 hF0 hF2 hf hM hW (fun r2 W2 t2 hW2 st2 c2 => ?_)
      refine t_equations (d := d + 1) hS ok n0 n1 hF0 hF2 hf hM hW2 (fun r3 W3 t3 hW3 st3 c3 => ?_)
      have prog : g_un C0 W3 n + 1 ≤ g_un C0 W n → ∀ y4 y5, ax_y y4 → ax_y y5 → k_Planner_schedule_51 B r (d + 4) n mo (x3 + 1) y4 y5 W3 Ψ Θ := fun z y4 y5 hy4 hy5 => by
        first
        | exact absurd z (by omega)
        | exact ih (x3 + 1) W3 t3 y4 y5 hy4 hy5 hW3 (by omega) (by omega) (by omega)
      have u2 := (g_PI.un hS n0 n1 hW hW2 st2).1
      have u3 := (g_PI.un hS n0 n1 hW2 hW3 st3).1
      refine ⟨fun z2 => ⟨fun z3 => ?_, fun z3 => ?_⟩, fun z2 => ?_⟩
      · rcases c2 with c2 | c2
        · rcases c3 with c3 | c3
          · rw [c3.2.1] at hW3
            rw [c2.2.1] at c3 hW3
            exact fin W3 s hW3 c2.2.2 c3.2.2
          · omega
        · omega
      · rcases c3 with c3 | c3
        · omega
        · exact prog (by omega) _ _ (ax_y_i _) (ax_y_i _)
      · rcases c2 with c2 | c2
        · omega
        · exact prog (by omega) _ _ (ax_y_i _) (ax_y_i _)
  refine r_Planner_schedule hg rn (t_begin (d := d + 2) hS ok n0 n1 hf hg hF h53 h62 h46 (fun V1 hV1 => ⟨bn, ⟨n0, by omega⟩, bn, ⟨n0, by omega⟩, ?_⟩))
  have xV1 : g_fr g_XP C0 V1 := hf.tr (hV1.1.1.up (by decide))
  rw [xV1 509 (by decide), xV1 510 (by decide), ← emo]
  have u := g_ct_le (V1 553) (C0 509 n) (C0 509 (n + 1) - C0 509 n).toNat
  have v := g_ct_le (V1 562) (C0 510 n) (C0 510 (n + 1) - C0 510 n).toNat
  exact main mo.toNat 0 V1 _ none none ax_y_n ax_y_n hV1 (by decide) (by unfold g_un; omega) (by omega)
end Plan
