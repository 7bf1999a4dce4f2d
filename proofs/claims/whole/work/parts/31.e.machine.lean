/-! THE CLASS'S MACHINE, method by method -/
section MachineA
variable {B d : Nat} {C0 M0 P V : ax_V} {F G Hh S U J : Int → Int} {n q e a b : Int} {Φ : Int → ax_V → Prop} {Ψ Θ : ax_V → Prop}
/-- is a part on? -/
theorem t_isOn (hS : g_S C0 M0) (hP : ∀ c, 500 ≤ c → c ≤ 573 → V c = P c) (xP : g_fr g_XP C0 P) (hg : ax_g V) (n0 : 0 ≤ n) (n1 : n < (M0 222 86)) (q0 : 0 ≤ q) (q1 : q < (M0 222 26)) (qn : M0 250 q = n) (hc : C0 525 q = -1 → P 529 q = g_cc n (S q) ∧ 0 ≤ S q ∧ S q ≤ 52) (h1 : ((C0 525 q = -1 ∧ h_on (h_lv V n) (S q)) ∨ (¬ C0 525 q = -1 ∧ V 154 (C0 563 (C0 525 q)) = C0 525 q)) → Φ 1 V) (h0 : ¬ ((C0 525 q = -1 ∧ h_on (h_lv V n) (S q)) ∨ (¬ C0 525 q = -1 ∧ V 154 (C0 563 (C0 525 q)) = C0 525 q)) → Φ 0 V) : ax_I (az_W B (az_EM B)) (d + 2) q_Machine_isOn [.ref 150, ax_i q] V Φ Θ := by
  have sm := hS.small
  have hN := hS.2.1
  have hB := hS.2.2.2.2.1
  have b7 : 0 ≤ q ∧ q < 700 := ⟨q0, by omega⟩
  have tb : ∀ c, 500 ≤ c → c ≤ 573 → c ∉ g_XP → V c = C0 c := fun c a b z => by rw [hP c a b]; exact xP c z
  refine r_Machine_isOn hg ⟨by omega, by omega⟩ ⟨b7, ?_⟩
  rw [tb 525 (by decide) (by decide) (by decide), tb 563 (by decide) (by decide) (by decide), hP 529 (by decide) (by decide)]
  refine ⟨fun z => ⟨b7, ?_⟩, fun z => ?_⟩
  · obtain ⟨c1, c2, c3⟩ := hc z
    rw [c1]
    exact t_isPresent hg ⟨n0, by omega⟩ ⟨c2, c3⟩ (fun w => ⟨Or.inr rfl, h1 (Or.inl ⟨z, w⟩)⟩) (fun w => ⟨Or.inl rfl, h0 (fun u => by rcases u with u | u; exact w u.2; exact u.1 z)⟩)
  · have key : ∀ st au t : Int, f_st C0 M0 st au t n → ¬ st = -1 → (0 ≤ st ∧ st < 350) ∧ 0 ≤ C0 563 st ∧ C0 563 st < 350 := fun st au t hs z => by
      rcases hs with y | ⟨y1, y2, y3, y4, y5, y6, y7⟩
      · exact absurd y.1 z
      · have hc3 := hB.1.2.2.1
        have fa := hB.2.2.1 au y1 (by omega)
        have f3 := fa.2.2.1
        have f5 := fa.2.2.2.2.2 st (by omega) y5
        have hc4 := hB.1.2.2.2.1
        have hat := hS.2.2.2.2.2.2.2
        rw [f5.1]
        exact ⟨⟨by omega, by omega⟩, y1, by omega⟩
    have bs : (0 ≤ C0 525 q ∧ C0 525 q < 350) ∧ 0 ≤ C0 563 (C0 525 q) ∧ C0 563 (C0 525 q) < 350 := by
      rcases hB.2.2.2.2.2.1.1 q q0 q1 with ⟨e, e0, e1, e2, e3⟩ | ⟨m, e0, e1, e2, e3⟩
      · have fe := hB.2.1 e e0 e1
        have fx := fe.2.2.2.2.2.1.2.2 q e2 e3
        rw [fx.1.2.1] at z ⊢
        refine key (C0 551 e) (M0 263 e) (M0 264 e) ?_ z
        rw [← qn, fx.1.1]; exact fe.2.2.2.2.1
      · have ft := hB.2.2.2.2.1 m e0 e1
        have fx := ft.2.2.2.2.2.2.2.2.2 q e2 e3
        rw [fx.1.2.1] at z ⊢
        refine key (C0 567 m) (M0 271 m) (M0 272 m) ?_ z
        rw [← qn, fx.1.1]; exact ft.1.2
    exact ⟨bs.1, bs.2, fun w => h1 (Or.inr ⟨z, w⟩), fun w => h0 (fun u => by rcases u with u | u; exact z u.1; exact w u.2)⟩
/-- the first move out of the state -/
theorem t_firstMove {x : Int} (hS : g_S C0 M0) (hP : ∀ c, 500 ≤ c → c ≤ 573 → V c = P c) (xP : g_fr g_XP C0 P) (hg : ax_g V) (a0 : 0 ≤ a) (a1 : a < (M0 222 55)) (hx : x = 0 ∨ x = 1) (h : ∀ m, (m = -1 ∧ (∀ m', 0 ≤ m' → m' < (M0 222 60) → M0 271 m' = a → M0 273 m' = x → C0 558 a + M0 272 m' = V 154 a → ¬ V 151 (M0 277 m') = 1)) ∨ (((0 ≤ m ∧ m < (M0 222 60)) ∧ (M0 271 m = a ∧ M0 273 m = x ∧ C0 558 a + M0 272 m = V 154 a) ∧ V 151 (M0 277 m) = 1) ∧ ∀ m', 0 ≤ m' → m' < m → M0 271 m' = a → M0 273 m' = x → C0 558 a + M0 272 m' = V 154 a → ¬ V 151 (M0 277 m') = 1) → Φ m V) : ax_I (az_W B (az_EM B)) (d + 1) q_Machine_firstMove [.ref 150, ax_i a, ax_i x] V Φ Θ := by
  have sm := hS.small
  have hN := hS.2.1
  have hB := hS.2.2.2.2.1
  have hct := hB.1
  have hc5 := hct.2.2.2.2.1
  have hat := hS.2.2.2.2.2.2.2
  have fa := hS.au a0 a1
  have fm := fa.1.2.2.2.1
  have ra : ax_rg a := ⟨by omega, by omega⟩
  have rx : ax_rg x := by rcases hx with z | z <;> rw [z] <;> decide
  have ba : 0 ≤ a + 1 ∧ a + 1 < 351 := ⟨by omega, by omega⟩
  have tb : ∀ c, 500 ≤ c → c ≤ 573 → c ∉ g_XP → V c = C0 c := fun c a b z => by rw [hP c a b]; exact xP c z
  refine r_Machine_firstMove hg ra rx ⟨⟨a0, by omega⟩, ?_⟩
  rw [tb 559 (by decide) (by decide) (by decide)]
  refine ax_for (I := fun m W => W = V ∧ (C0 559 a ≤ m ∧ m ≤ C0 559 (a + 1)) ∧ ∀ m', 0 ≤ m' → m' < m → M0 271 m' = a → M0 273 m' = x → C0 558 a + M0 272 m' = V 154 a → ¬ V 151 (M0 277 m') = 1) (K := fun m W => ∀ y4, ax_y y4 → k_Machine_firstMove_10 B d a x m y4 W Φ Θ) (hi := C0 559 (a + 1)) (fun m W w hI next y4 hy4 => ?_) (fun m W w hI y4 hy4 => ?_) (C0 559 a) V ⟨rfl, ⟨Int.le_refl _, by omega⟩, fun m' a' b' c' => ?_⟩ none ax_y_n
  · obtain ⟨eW, hm, hn⟩ := hI
    rw [eW]
    have m0 : 0 ≤ m := by omega
    have m1 : m < (M0 222 60) := by omega
    have ft := hB.2.2.2.2.1 m m0 m1
    have tm := (hS.mvN a0 a1 m0 m1).mp ⟨hm.1, w⟩
    have fx1 := ft.2.2.2.2.2.2.2.1
    have bm : 0 ≤ m ∧ m < 350 := ⟨m0, by omega⟩
    have ms : C0 567 m = C0 558 a + M0 272 m := by
      rcases ft.1.2 with y | y
      · omega
      · have := y.2.2.2.1; rw [tm] at this; exact this
    have skip : ¬ (M0 273 m = x ∧ C0 558 a + M0 272 m = V 154 a ∧ V 151 (M0 277 m) = 1) → ∀ y4, ax_y y4 → k_Machine_firstMove_10 B d a x (m + 1) y4 V Φ Θ := fun z => next V ⟨rfl, ⟨by omega, by omega⟩, fun m' a' b' c' d' e' f' => by
      by_cases u : m' = m
      · rw [u] at d' e' f'; exact z ⟨d', e', f'⟩
      · exact hn m' a' (by omega) c' d' e' f'⟩
    refine r_Machine_firstMove_10 hg ra rx ⟨by omega, by omega⟩ hy4 ⟨ba, ?_⟩
    rw [tb 559 (by decide) (by decide) (by decide), tb 568 (by decide) (by decide) (by decide), tb 567 (by decide) (by decide) (by decide), tb 571 (by decide) (by decide) (by decide), ft.2.2.1.1, ms, ft.2.2.2.2.1.2]
    refine ⟨fun z => by omega, fun _ => ⟨bm, fun z1 => ⟨bm, ⟨a0, by omega⟩, fun z2 => ⟨bm, ⟨by omega, by omega⟩, fun z3 => h m (Or.inr ⟨⟨⟨m0, m1⟩, ⟨tm, z1, z2⟩, z3⟩, hn⟩), fun z3 => skip (fun y => z3 y.2.2) _ (ax_y_i _)⟩, fun z2 => skip (fun y => z2 y.2.1) _ (ax_y_i _)⟩, fun z1 => skip (fun y => z1 y.1) _ (ax_y_i _)⟩⟩
  · obtain ⟨eW, hm, hn⟩ := hI
    rw [eW]
    refine r_Machine_firstMove_10 hg ra rx ⟨by omega, by omega⟩ hy4 ⟨ba, ?_⟩
    rw [tb 559 (by decide) (by decide) (by decide)]
    refine ⟨fun _ => h (-1) (Or.inl ⟨rfl, fun m' a' b' c' => ?_⟩), fun z => by omega⟩
    have := (hS.mvN a0 a1 a' b').mpr c'
    exact hn m' a' (by omega) c'
  · exfalso
    by_cases u : m' < (M0 222 60)
    · have := (hS.mvN a0 a1 a' u).mpr c'; omega
    · omega
/-- from the first memory anew -/
theorem t_renew {f t : Int} (hg : ax_g V) (n0 : 0 ≤ n ∧ n < 8) (hb : 0 ≤ b) (hf : 0 ≤ f ∧ f ≤ t) (ht : t ≤ 300 ∧ b + t ≤ 300) (h : ∀ W, g_fr [155] V W → ax_g W → (∀ i, ¬ (b + f ≤ i ∧ i < b + t) → W 155 i = V 155 i) → (∀ i, f ≤ i → i < t → W 155 (b + i) = V 515 (300 * n + i)) → Ψ W) : ax_N (az_W B (az_EM B)) (d + 1) q_Machine_renew [.ref 150, ax_i n, ax_i f, ax_i t, ax_i b] V Ψ Θ := by
  refine r_Machine_renew hg ⟨by omega, by omega⟩ ⟨by omega, by omega⟩ ⟨by omega, by omega⟩ ⟨by omega, by omega⟩ ⟨⟨by omega, by omega, by omega, by omega, by omega⟩, fun W eW => h W ?_ ?_ (fun i z => ?_) (fun i x y => ?_)⟩
  · rw [eW]; exact (g_fr.rf _ _).cp (by decide)
  · rw [eW]; exact ax_cp_g hg
  · rw [eW, ax_cp_o (by omega)]
  · rw [eW, ax_cp_i ⟨by omega, by omega⟩]
    congr 1
    omega
/-- one input is fed -/
theorem t_feed {i v : Int} (hS : g_S C0 M0) (hP : ∀ c, 500 ≤ c → c ≤ 573 → V c = P c) (xP : g_fr g_XP C0 P) (hg : ax_g V) (n0 : 0 ≤ n) (n1 : n < (M0 222 86)) (i0 : 0 ≤ i) (i1 : i < M0 227 n) (rv : ax_rg v) (h : ∀ W, W = ax_u (ax_u V 152 (26 * n + M0 230 (26 * n + i)) v) 153 (26 * n + M0 230 (26 * n + i)) 1 → Ψ W) : ax_N (az_W B (az_EM B)) (d + 1) q_Machine_feedOne [.ref 150, ax_i n, ax_i i, ax_i v] V Ψ Θ := by
  have hN := hS.2.1
  have ip := hS.inp n0 n1 i0 i1
  have tb : ∀ c, 500 ≤ c → c ≤ 573 → c ∉ g_XP → V c = C0 c := fun c a b z => by rw [hP c a b]; exact xP c z
  refine r_Machine_feedOne hg ⟨by omega, by omega⟩ ⟨by omega, by omega⟩ rv ⟨⟨by omega, by omega⟩, ?_⟩
  rw [tb 506 (by decide) (by decide) (by decide), show n * 26 + i = 26 * n + i by omega, ip.1]
  refine ⟨⟨by omega, by omega⟩, fun V1 e1 => ⟨⟨by omega, by omega⟩, fun W eW => h W (by rw [eW, e1])⟩⟩
end MachineA
