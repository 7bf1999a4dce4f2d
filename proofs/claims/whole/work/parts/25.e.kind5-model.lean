/-! FAULTS 5, the model: rounds until nothing changes -/
def g_L5 (M0 M2 V : ax_V) : Prop := g_fr [255, 282] M2 V ∧ ax_g V ∧ ∀ s, 0 ≤ s → s < 240 → (V 282 s = 0 ∨ V 282 s = 1) ∧ (V 282 s = 0 → g_LB M0 s)
section Kind5M
variable {d : Nat} {C0 M0 M V : ax_V} {q n : Int} {T : Int → Prop} {Φ : Int → ax_V → Prop} {Ψ Θ : ax_V → Prop}
theorem g_kd3 (M : ax_V) (o : ¬ M 241 q = 22) (P : Int → Prop) : (∃ k : Nat, 0 ≤ g_kd M q k ∧ P (g_kd M q k)) ↔ ((0 ≤ M 245 q ∧ P (M 245 q)) ∨ (0 ≤ M 246 q ∧ P (M 246 q)) ∨ (0 ≤ M 247 q ∧ P (M 247 q))) := by
  have e : ∀ k : Nat, g_kd M q k = if k = 0 then M 245 q else if k = 1 then M 246 q else if k = 2 then M 247 q else -1 := fun k => if_neg o
  have e0 : g_kd M q 0 = M 245 q := (e 0).trans (if_pos rfl)
  have e1 : g_kd M q 1 = M 246 q := (e 1).trans (by rw [if_neg (by decide), if_pos rfl])
  have e2 : g_kd M q 2 = M 247 q := (e 2).trans (by rw [if_neg (by decide), if_neg (by decide), if_pos rfl])
  constructor
  · rintro ⟨k, k0, y⟩
    by_cases k3 : 3 ≤ k
    · have : g_kd M q k = -1 := (e k).trans (by rw [if_neg (by omega), if_neg (by omega), if_neg (by omega)])
      omega
    · have : k = 0 ∨ k = 1 ∨ k = 2 := by omega
      rcases this with w | w | w <;> subst w
      · rw [e0] at k0 y; exact Or.inl ⟨k0, y⟩
      · rw [e1] at k0 y; exact Or.inr (Or.inl ⟨k0, y⟩)
      · rw [e2] at k0 y; exact Or.inr (Or.inr ⟨k0, y⟩)
  · rintro (y | y | y)
    · exact ⟨0, by rw [e0]; exact y⟩
    · exact ⟨1, by rw [e1]; exact y⟩
    · exact ⟨2, by rw [e2]; exact y⟩
set_option maxHeartbeats 4000000 in
theorem s_findFirst (hS : g_S C0 M0) (hb : g_MB C0 M0 V) (q0 : 0 ≤ q) (q1 : q < (M0 222 26)) (hk : ∀ x, 0 ≤ x → x < q → V 255 x = 0 ∨ V 255 x = 1) (hl : ∀ s, 0 ≤ s → s < 240 → V 282 s = 0 ∨ V 282 s = 1) (h : ∀ v, (v = 0 ∨ v = 1) → (v = 0 ↔ g_ev M0 (fun s => V 282 s = 0) (fun x => V 255 x = 0) q) → Ψ (ax_u V 255 q v)) : ax_N ay_lay (d + 1) q_Model_findFirst [.ref 222, ax_i q] V Ψ Θ := by
  have p0 := hS.2.2.1.1
  have hat := hS.2.2.2.2.2.2.2
  have hN := hS.2.1
  have pn := (hS.pnode q0 q1).1
  have ar := hS.ar q0 q1
  have o1 := (hS.op q0 q1).1
  have lt := hS.let q0 q1
  have b7 : 0 ≤ q ∧ q < 701 := ⟨q0, by omega⟩
  have rq : ax_rg q := ⟨by omega, by omega⟩
  have put : ∀ v, (v = 0 ∨ v = 1) → (v = 0 ↔ g_ev M0 (fun s => V 282 s = 0) (fun x => V 255 x = 0) q) → ∀ V1, V1 = ax_u V 255 q v → Ψ V1 := fun v a b V1 e => by rw [e]; exact h v a b
  have ev : ¬ M0 241 q = 22 → (g_ev M0 (fun s => V 282 s = 0) (fun x => V 255 x = 0) q ↔ (M0 241 q = 6 ∨ (M0 241 q = 19 ∧ V 255 (M0 245 q) = 0) ∨ ((¬ M0 241 q = 6 ∧ ¬ M0 241 q = 19 ∧ ¬ M0 241 q = 22) ∧ (((M0 241 q = 2 ∨ M0 241 q = 20 ∨ M0 241 q = 21) ∧ V 282 (26 * M0 250 q + M0 248 q) = 0) ∨ ((0 ≤ M0 245 q ∧ V 255 (M0 245 q) = 0) ∨ (0 ≤ M0 246 q ∧ V 255 (M0 246 q) = 0) ∨ (0 ≤ M0 247 q ∧ V 255 (M0 247 q) = 0)))))) := fun o => by
    unfold g_ev
    rw [g_kd3 M0 o (fun x => V 255 x = 0)]
  have ka : 0 ≤ M0 245 q → ¬ M0 241 q = 22 → (V 255 (M0 245 q) = 0 ∨ V 255 (M0 245 q) = 1) ∧ M0 245 q < 701 := fun z o => by
    have := (hS.kid q0 q1 o).2.1.2
    exact ⟨hk _ z this, by omega⟩
  have kb : 0 ≤ M0 246 q → ¬ M0 241 q = 22 → (V 255 (M0 246 q) = 0 ∨ V 255 (M0 246 q) = 1) ∧ M0 246 q < 701 := fun z o => by
    have := (hS.kid q0 q1 o).2.2.1.2
    exact ⟨hk _ z this, by omega⟩
  have kc : 0 ≤ M0 247 q → ¬ M0 241 q = 22 → (V 255 (M0 247 q) = 0 ∨ V 255 (M0 247 q) = 1) ∧ M0 247 q < 701 := fun z o => by
    have := (hS.kid q0 q1 o).2.2.2.1.2
    exact ⟨hk _ z this, by omega⟩
  have k30 : ∀ s0, ax_rg s0 → ((M0 241 q = 2 ∨ M0 241 q = 20 ∨ M0 241 q = 21) → s0 = 26 * M0 250 q + M0 248 q ∧ (0 ≤ s0 ∧ s0 < 240)) → k_Model_findFirst_30 d q none s0 V Ψ Θ := by
    intro s0 rs hs
    refine r_Model_findFirst_30 hb.2.2.1 rq ax_y_n rs ⟨b7, ?_⟩
    rw [hb.1 241 (by decide), hb.1 245 (by decide), hb.1 246 (by decide), hb.1 247 (by decide)]
    refine ⟨fun z => ⟨b7, put 1 (Or.inr rfl) ⟨fun y => absurd y (by decide), fun y => ?_⟩⟩, fun z => ?_, fun z => ⟨b7, put 0 (Or.inl rfl) ⟨fun _ => Or.inl z, fun _ => rfl⟩⟩, fun z => ?_, fun z => ?_, fun z => ?_, fun a1 a2 a3 a4 a5 a6 a7 a8 a9 => ?_⟩
    · exfalso
      by_cases o : M0 241 q = 22
      · rcases y with y | y | y
        · omega
        · have := y.1; omega
        · exact y.1.2.2 o
      · rw [ev o] at y
        have aa : M0 245 q = -1 ∧ M0 246 q = -1 ∧ M0 247 q = -1 := by rcases ar with z | z | z | z | z <;> omega
        rcases y with y | y | ⟨-, y | y | y | y⟩
        · omega
        · have := y.1; omega
        · have := y.1; omega
        · have := y.1; omega
        · have := y.1; omega
        · have := y.1; omega
    · have s := hs (Or.inl z)
      have aa : M0 245 q = -1 ∧ M0 246 q = -1 ∧ M0 247 q = -1 := by rcases ar with z | z | z | z | z <;> omega
      have e := ev (by omega)
      rw [← s.1] at e
      refine ⟨s.2, b7, hl s0 s.2.1 s.2.2, put _ (hl s0 s.2.1 s.2.2) ?_⟩
      rw [e]
      constructor
      · intro y; exact Or.inr (Or.inr ⟨by omega, Or.inl ⟨Or.inl z, y⟩⟩)
      · rintro (y | y | ⟨-, y | y | y | y⟩)
        · omega
        · have := y.1; omega
        · exact y.2
        · have := y.1; omega
        · have := y.1; omega
        · have := y.1; omega
    · have a0 : 0 ≤ M0 245 q := by rcases ar with z | z | z | z | z <;> omega
      have k := ka a0 (by omega)
      refine ⟨b7, ⟨a0, k.2⟩, b7, k.1, put _ k.1 ?_⟩
      rw [ev (by omega)]
      constructor
      · intro y; exact Or.inr (Or.inl ⟨z, y⟩)
      · rintro (y | y | y)
        · omega
        · exact y.2
        · exact absurd z y.1.2.1
    · have s := hs (Or.inr (Or.inl z))
      have aa : 0 ≤ M0 245 q ∧ M0 246 q = -1 ∧ M0 247 q = -1 := by rcases ar with z | z | z | z | z <;> omega
      have k := ka aa.1 (by omega)
      have e := ev (by omega)
      rw [← s.1] at e
      have oo : ¬ M0 241 q = 6 ∧ ¬ M0 241 q = 19 ∧ ¬ M0 241 q = 22 := by omega
      refine ⟨b7, ⟨aa.1, k.2⟩, fun y => ⟨b7, put 0 (Or.inl rfl) ⟨fun _ => e.mpr (Or.inr (Or.inr ⟨oo, Or.inr (Or.inl ⟨aa.1, y⟩)⟩)), fun _ => rfl⟩⟩, fun y => ⟨s.2, fun w => ⟨b7, put 0 (Or.inl rfl) ⟨fun _ => e.mpr (Or.inr (Or.inr ⟨oo, Or.inl ⟨by omega, w⟩⟩)), fun _ => rfl⟩⟩, fun w => ⟨b7, put 1 (Or.inr rfl) ⟨fun x => absurd x (by decide), fun x => ?_⟩⟩⟩⟩
      exfalso
      rcases e.mp x with x | x | ⟨-, x | x | x | x⟩
      · omega
      · have := x.1; omega
      · exact w x.2
      · exact y x.2
      · have := x.1; omega
      · have := x.1; omega
    · have s := hs (Or.inr (Or.inr z))
      have aa : 0 ≤ M0 245 q ∧ 0 ≤ M0 246 q ∧ M0 247 q = -1 := by rcases ar with z | z | z | z | z <;> omega
      have k := ka aa.1 (by omega)
      have k2 := kb aa.2.1 (by omega)
      have e := ev (by omega)
      rw [← s.1] at e
      have oo : ¬ M0 241 q = 6 ∧ ¬ M0 241 q = 19 ∧ ¬ M0 241 q = 22 := by omega
      refine ⟨b7, ⟨aa.1, k.2⟩, fun y => ⟨b7, put 0 (Or.inl rfl) ⟨fun _ => e.mpr (Or.inr (Or.inr ⟨oo, Or.inr (Or.inl ⟨aa.1, y⟩)⟩)), fun _ => rfl⟩⟩, fun y => ⟨b7, ⟨aa.2.1, k2.2⟩, fun y2 => ⟨b7, put 0 (Or.inl rfl) ⟨fun _ => e.mpr (Or.inr (Or.inr ⟨oo, Or.inr (Or.inr (Or.inl ⟨aa.2.1, y2⟩))⟩)), fun _ => rfl⟩⟩, fun y2 => ⟨s.2, fun w => ⟨b7, put 0 (Or.inl rfl) ⟨fun _ => e.mpr (Or.inr (Or.inr ⟨oo, Or.inl ⟨by omega, w⟩⟩)), fun _ => rfl⟩⟩, fun w => ⟨b7, put 1 (Or.inr rfl) ⟨fun x => absurd x (by decide), fun x => ?_⟩⟩⟩⟩⟩
      exfalso
      rcases e.mp x with x | x | ⟨-, x | x | x | x⟩
      · omega
      · have := x.1; omega
      · exact w x.2
      · exact y x.2
      · exact y2 x.2
      · have := x.1; omega
    · have oo : ¬ M0 241 q = 6 ∧ ¬ M0 241 q = 19 ∧ ¬ M0 241 q = 22 := by omega
      have no : ¬ (M0 241 q = 2 ∨ M0 241 q = 20 ∨ M0 241 q = 21) := by omega
      have a0 : 0 ≤ M0 245 q := by rcases ar with z | z | z | z | z <;> omega
      have k := ka a0 oo.2.2
      have e := ev oo.2.2
      have bare : ((0 ≤ M0 245 q ∧ V 255 (M0 245 q) = 0) ∨ (0 ≤ M0 246 q ∧ V 255 (M0 246 q) = 0) ∨ (0 ≤ M0 247 q ∧ V 255 (M0 247 q) = 0)) → ∀ V1, V1 = ax_u V 255 q 0 → Ψ V1 := fun y => put 0 (Or.inl rfl) ⟨fun _ => e.mpr (Or.inr (Or.inr ⟨oo, Or.inr y⟩)), fun _ => rfl⟩
      have full : ¬ ((0 ≤ M0 245 q ∧ V 255 (M0 245 q) = 0) ∨ (0 ≤ M0 246 q ∧ V 255 (M0 246 q) = 0) ∨ (0 ≤ M0 247 q ∧ V 255 (M0 247 q) = 0)) → ∀ V1, V1 = ax_u V 255 q 1 → Ψ V1 := fun y => put 1 (Or.inr rfl) ⟨fun x => absurd x (by decide), fun x => by
        exfalso
        rcases e.mp x with x | x | ⟨-, x | x⟩
        · exact oo.1 x
        · exact oo.2.1 x.1
        · exact no x.1
        · exact y x⟩
      refine ⟨b7, ⟨a0, k.2⟩, fun y => ⟨b7, bare (Or.inl ⟨a0, y⟩)⟩, fun y => ⟨b7, fun yb => ⟨b7, fun yc => ⟨b7, full ?_⟩, fun yc => ?_⟩, fun yb => ?_⟩⟩
      · rintro (x | x | x)
        · exact y x.2
        · have := x.1; omega
        · have := x.1; omega
      · have c0 : 0 ≤ M0 247 q := by rcases ar with z | z | z | z | z <;> omega
        have k3 := kc c0 oo.2.2
        refine ⟨b7, ⟨c0, k3.2⟩, fun w => ⟨b7, bare (Or.inr (Or.inr ⟨c0, w⟩))⟩, fun w => ⟨b7, full ?_⟩⟩
        rintro (x | x | x)
        · exact y x.2
        · have := x.1; omega
        · exact w x.2
      · have b0 : 0 ≤ M0 246 q := by rcases ar with z | z | z | z | z <;> omega
        have k2 := kb b0 oo.2.2
        refine ⟨b7, ⟨b0, k2.2⟩, fun w => ⟨b7, bare (Or.inr (Or.inl ⟨b0, w⟩))⟩, fun w => ⟨b7, fun yc => ⟨b7, full ?_⟩, fun yc => ?_⟩⟩
        · rintro (x | x | x)
          · exact y x.2
          · exact w x.2
          · have := x.1; omega
        · have c0 : 0 ≤ M0 247 q := by rcases ar with z | z | z | z | z <;> omega
          have k3 := kc c0 oo.2.2
          refine ⟨b7, ⟨c0, k3.2⟩, fun u => ⟨b7, bare (Or.inr (Or.inr ⟨c0, u⟩))⟩, fun u => ⟨b7, full ?_⟩⟩
          rintro (x | x | x)
          · exact y x.2
          · exact w x.2
          · exact u x.2
  refine r_Model_findFirst hb.2.2.1 rq ⟨b7, ?_⟩
  rw [hb.1 248 (by decide), hb.1 250 (by decide)]
  refine ⟨fun z => k30 0 (by decide) (fun o => ?_), fun z => ⟨b7, b7, k30 _ ?_ (fun o => ⟨rfl, ?_⟩)⟩⟩
  · have := hS.pl q0 q1 (by omega); omega
  · rcases lt with l | l
    · exact absurd l z
    · have := l.2.1; exact ⟨by omega, by omega⟩
  · have := hS.pl q0 q1 (by omega); omega
end Kind5M
