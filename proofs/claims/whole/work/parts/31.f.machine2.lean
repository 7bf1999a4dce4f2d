/-! THE CLASS'S MACHINE: moves and letters -/
section MachineB
variable {B d : Nat} {C0 M0 P V : ax_V} {F G Hh S U J : Int → Int} {n q e a b : Int} {Φ : Int → ax_V → Prop} {Ψ Θ : ax_V → Prop}
/-- which move it is, said of V -/
def h_mf (C M V : ax_V) (a x m : Int) : Prop := (m = -1 ∧ (∀ m', 0 ≤ m' → m' < (M 222 60) → M 271 m' = a → M 273 m' = x → C 558 a + M 272 m' = V 154 a → ¬ V 151 (M 277 m') = 1)) ∨ (((0 ≤ m ∧ m < (M 222 60)) ∧ (M 271 m = a ∧ M 273 m = x ∧ C 558 a + M 272 m = V 154 a) ∧ V 151 (M 277 m) = 1) ∧ ∀ m', 0 ≤ m' → m' < m → M 271 m' = a → M 273 m' = x → C 558 a + M 272 m' = V 154 a → ¬ V 151 (M 277 m') = 1)
/-- over to the next state -/
theorem t_goOver {x : Int} (hS : g_S C0 M0) (ok : g_N2 M0) (hP : ∀ c, 500 ≤ c → c ≤ 573 → V c = P c) (xP : g_fr g_XP C0 P) (hg : ax_g V) (n0 : 0 ≤ n) (n1 : n < (M0 222 86)) (a0 : 0 ≤ a) (a1 : a < (M0 222 55)) (an : M0 267 a = n) (hx : x = 0 ∨ x = 1) (hb : 0 ≤ b ∧ b ≤ 300) (h5 : g_T C0 M0 U n ≤ 300 ∧ b + g_T C0 M0 U n ≤ 300) (hcell : 0 ≤ b + P 560 a ∧ b + P 560 a < 300) (hls : ∀ s, 0 ≤ s → s < (C0 556 1) → M0 267 (C0 563 s) = n → 0 ≤ P 565 s ∧ P 565 s ≤ P 566 s ∧ P 566 s ≤ g_T C0 M0 U n) (hnow : C0 558 a ≤ V 154 a ∧ V 154 a < C0 558 a + M0 269 a)
    (h : ∀ m W, h_mf C0 M0 V a x m → ∀ t, ((m = -1 ∧ t = V 154 a) ∨ (0 ≤ m ∧ t = C0 558 a + M0 275 m)) → (C0 558 a ≤ t ∧ t < C0 558 a + M0 269 a) → ∀ V1, ((V1 = V ∧ ¬ (0 ≤ m ∧ ¬ M0 274 m = 0)) ∨ ((0 ≤ m ∧ ¬ M0 274 m = 0) ∧ g_fr [155] V V1 ∧ ax_g V1 ∧ (∀ i, ¬ (b + P 565 t ≤ i ∧ i < b + P 566 t) → V1 155 i = V 155 i) ∧ ∀ i, P 565 t ≤ i → i < P 566 t → V1 155 (b + i) = P 515 (300 * n + i))) → W = (if x = 0 then ax_u V1 155 (b + P 560 a) (t - C0 558 a) else ax_u V1 154 a t) → Ψ W) : ax_N (az_W B (az_EM B)) (d + 2) q_Machine_goOver [.ref 150, ax_i a, ax_i x, ax_i n, ax_i b] V Ψ Θ := by
  have sm := hS.small
  have hN := hS.2.1
  have hB := hS.2.2.2.2.1
  have hct := hB.1
  have hc4 := hct.2.2.2.1
  have hc5 := hct.2.2.2.2.1
  have hat := hS.2.2.2.2.2.2.2
  have fa := hS.au a0 a1
  have f3 := fa.1.2.2.1
  have fac : C0 558 (a + 1) = C0 558 a + M0 269 a ∧ 1 ≤ M0 269 a ∧ M0 269 a ≤ 6 := fa.2
  have ra : ax_rg a := ⟨by omega, by omega⟩
  have rn : ax_rg n := ⟨by omega, by omega⟩
  have rb : ax_rg b := ⟨by omega, by omega⟩
  have rx : ax_rg x := by rcases hx with z | z <;> rw [z] <;> decide
  have ba : 0 ≤ a ∧ a < 350 := ⟨a0, by omega⟩
  have ba1 : 0 ≤ a ∧ a < 351 := ⟨a0, by omega⟩
  have tb : ∀ c, 500 ≤ c → c ≤ 573 → c ∉ g_XP → V c = C0 c := fun c a b z => by rw [hP c a b]; exact xP c z
  -- the end of it
  have fin : ∀ m t V1, h_mf C0 M0 V a x m → ((m = -1 ∧ t = V 154 a) ∨ (0 ≤ m ∧ t = C0 558 a + M0 275 m)) → (C0 558 a ≤ t ∧ t < C0 558 a + M0 269 a) → ax_g V1 → (∀ c, c ≠ 155 → V1 c = V c) → ((V1 = V ∧ ¬ (0 ≤ m ∧ ¬ M0 274 m = 0)) ∨ ((0 ≤ m ∧ ¬ M0 274 m = 0) ∧ g_fr [155] V V1 ∧ ax_g V1 ∧ (∀ i, ¬ (b + P 565 t ≤ i ∧ i < b + P 566 t) → V1 155 i = V 155 i) ∧ ∀ i, P 565 t ≤ i → i < P 566 t → V1 155 (b + i) = P 515 (300 * n + i))) → ∀ y3 y5, ax_y y3 → ax_y y5 → k_Machine_goOver_91 B (d + 1) a x y3 b y5 t V1 Ψ Θ := by
    intro m t V1 hm ht tr g1 k1 hV1 y3 y5 hy3 hy5
    refine r_Machine_goOver_91 g1 ra rx hy3 rb hy5 ⟨by omega, by omega⟩ ?_
    rw [k1 560 (by decide), k1 558 (by decide), hP 560 (by decide) (by decide), tb 558 (by decide) (by decide) (by decide)]
    refine ⟨fun z => ⟨ba, ba1, hcell, ⟨by omega, by omega⟩, fun W eW => h m W hm t ht tr V1 hV1 (by rw [if_pos z]; exact eW)⟩, fun z => ⟨ba, fun W eW => h m W hm t ht tr V1 hV1 (by rw [if_neg z]; exact eW)⟩⟩
  refine r_Machine_goOver hg ra rx rn rb (t_firstMove hS hP xP hg a0 a1 hx (fun m hm => ?_))
  have hm' : h_mf C0 M0 V a x m := hm
  rcases hm with ⟨m1, hn⟩ | ⟨⟨m0, mt, mv⟩, hn⟩
  · refine ⟨fun _ => ⟨ba, fun _ => fin m (V 154 a) V hm' (Or.inl ⟨m1, rfl⟩) hnow hg (fun _ _ => rfl) (Or.inl ⟨rfl, fun z => by omega⟩) _ _ (ax_y_i _) (ax_y_i _), fun z => absurd m1 z⟩, fun z => absurd m1 z⟩
  · have ft := hB.2.2.2.2.1 m m0.1 m0.2
    have to := ok.to hS m0.1 m0.2
    rw [mt.1] at to
    have bm : 0 ≤ m ∧ m < 350 := ⟨m0.1, by omega⟩
    have tr : C0 558 a ≤ C0 558 a + M0 275 m ∧ C0 558 a + M0 275 m < C0 558 a + M0 269 a := ⟨by omega, by omega⟩
    have sr : C0 558 a + M0 275 m < C0 558 (a + 1) := by have := fac.1; omega
    have ow := (fa.1.2.2.2.2.2 (C0 558 a + M0 275 m) (by omega) sr).1
    have ls := hls (C0 558 a + M0 275 m) (by omega) (by omega) (by rw [ow]; exact an)
    refine ⟨fun z => by omega, fun _ => ⟨ba1, bm, fun z => by omega, fun _ => ⟨bm, ?_⟩⟩⟩
    rw [tb 569 (by decide) (by decide) (by decide), tb 558 (by decide) (by decide) (by decide), tb 572 (by decide) (by decide) (by decide), hP 565 (by decide) (by decide), hP 566 (by decide) (by decide), ft.2.2.2.1.1, ft.2.2.2.2.2.1.1]
    refine ⟨fun z => fin m _ V hm' (Or.inr ⟨m0.1, rfl⟩) tr hg (fun _ _ => rfl) (Or.inl ⟨rfl, fun y => y.2 z⟩) _ _ (ax_y_i _) (ax_y_i _), fun z => ⟨⟨by omega, by omega⟩, ⟨by omega, by omega⟩, ?_⟩⟩
    refine t_renew hg ⟨n0, by omega⟩ hb.1 ⟨ls.1, ls.2.1⟩ ⟨by omega, by omega⟩ (fun W fW gW oW iW => fin m _ W hm' (Or.inr ⟨m0.1, rfl⟩) tr gW (fun c y => fW c (by simp; exact y)) (Or.inr ⟨⟨m0.1, z⟩, fW, gW, oW, fun i x y => ?_⟩) _ _ (ax_y_i _) (ax_y_i _))
    rw [iW i x y, hP 515 (by decide) (by decide)]
end MachineB
