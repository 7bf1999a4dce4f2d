/-! Model.module -/
/-- an array copied from the front -/
def y_cp (V : ax_V) (s t : Nat) (n : Int) : ax_V := fun c j => if c = t ∧ 0 ≤ j ∧ j < n then V s j else V c j
theorem y_cp_0 (V : ax_V) (s t : Nat) : y_cp V s t 0 = V := by
  funext c j
  exact if_neg (by omega)
theorem y_cp_ne {V : ax_V} {s t c : Nat} {n : Int} (h : ¬ c = t) : y_cp V s t n c = V c := by
  funext j
  exact if_neg (by omega)
theorem y_cp_i {V : ax_V} {s t : Nat} {n j : Int} (h : 0 ≤ j ∧ j < n) : y_cp V s t n t j = V s j := if_pos ⟨rfl, h.1, h.2⟩
theorem y_cp_s {V : ax_V} {s t : Nat} {n : Int} (h : ¬ s = t) (n0 : 0 ≤ n) : ax_u (y_cp V s t n) t n (y_cp V s t n s n) = y_cp V s t (n + 1) := by
  funext c j
  rw [y_cp_ne h]
  by_cases z : c = t ∧ j = n
  · rw [z.1, z.2, ax_u_s, y_cp_i ⟨n0, by omega⟩]
  · rw [ax_u_o z]
    show (if c = t ∧ 0 ≤ j ∧ j < n then V s j else V c j) = (if c = t ∧ 0 ≤ j ∧ j < n + 1 then V s j else V c j)
    by_cases y : c = t ∧ 0 ≤ j ∧ j < n
    · rw [if_pos y, if_pos ⟨y.1, y.2.1, by omega⟩]
    · rw [if_neg y, if_neg (fun w => y ⟨w.1, w.2.1, by
        have : ¬ j = n := fun e => z ⟨w.1, e⟩
        omega⟩)]
theorem y_cp_g {V : ax_V} {s t : Nat} {n : Int} (h : ax_g V) : ax_g (y_cp V s t n) := fun c j => by
  unfold y_cp
  split <;> exact h _ _
theorem ax_I.run {lay : ax_Lay} {d d2 key : Nat} {vs : List Value} {V V' : ax_V} {x : Int} {Φ : Int → ax_V → Prop} {Θ : ax_V → Prop} (h : ax_RI lay d key vs V x V') (hd : d ≤ d2) (rx : ax_rg x) (g : ax_g V') (φ : Φ x V') : ax_I lay d2 key vs V Φ Θ := Or.inl ⟨some (ax_i x), V', ai_nt_i _, g, ⟨x, rfl, rx, φ⟩, fun ss hs => (h ss hs).up hd⟩
section MModule
variable {M N : ax_V} {Φ : Int → ax_V → Prop} {Θ : ax_V → Prop}
/-- the model where isModule begins -/
def y_m1 (M : ax_V) : ax_V := ax_u (y_cp (ax_u M 222 3 (M 222 1)) 223 224 (M 222 1)) 222 1 0
theorem y_m1_g (hg : ax_g M) : ax_g (y_m1 M) := ax_u_g (y_cp_g (ax_u_g hg (hg _ _))) (by decide)
theorem y_m1_c {c : Nat} (h1 : ¬ c = 222) (h2 : ¬ c = 224) : y_m1 M c = M c := by
  unfold y_m1
  rw [ax_u_ne h1, y_cp_ne h2, ax_u_ne h1]
theorem y_m1_j {j : Int} (h1 : ¬ j = 1) (h3 : ¬ j = 3) : y_m1 M 222 j = M 222 j := by
  unfold y_m1
  rw [ax_u_k h1, y_cp_ne (by decide), ax_u_k h3]
theorem y_m1_3 : y_m1 M 222 3 = M 222 1 := by
  unfold y_m1
  rw [ax_u_k (by decide), y_cp_ne (by decide), ax_u_s]
theorem y_m1_1 : y_m1 M 222 1 = 0 := by
  unfold y_m1
  rw [ax_u_s]
theorem y_m1_t {i : Int} (h : 0 ≤ i ∧ i < M 222 1) : y_m1 M 224 i = M 223 i := by
  unfold y_m1
  rw [ax_u_ne (by decide), y_cp_i h, ax_u_ne (by decide)]
/-- the model behind a module that is good -/
def y_mg (N : ax_V) : ax_V := ax_u (y_cp (ax_u (ax_u (ax_u (ax_u (ax_u N 222 8 0) 222 9 0) 222 0 0) 222 7 1) 222 5 (N 222 3)) 224 225 (N 222 3)) 222 102 0
/-- the model behind a module that is not: the old text is back -/
def y_mb (N : ax_V) : ax_V := y_cp (ax_u (ax_u (ax_u (ax_u N 222 8 (N 222 88)) 222 9 (N 222 89)) 222 0 1) 222 3 (N 222 5)) 225 224 (N 222 5)
set_option maxHeartbeats 1000000 in
theorem s_moduleM (hg : ax_g M) (ht : 0 ≤ M 222 1 ∧ M 222 1 ≤ 700)
    (h : (ax_g N ∧ ax_RI ay_lay 426 q_Model_isModule [.ref 222] (y_m1 M) 1 N ∧ (0 ≤ N 222 3 ∧ N 222 3 ≤ 700) ∧ Φ (N 222 86) (y_mg N)) ∨
      (ax_g N ∧ ax_RI ay_lay 426 q_Model_isModule [.ref 222] (y_m1 M) 0 N ∧ (0 ≤ N 222 5 ∧ N 222 5 ≤ 700) ∧ ((N 222 7 = 0 ∧ Φ 0 (y_mb N)) ∨ (¬ N 222 7 = 0 ∧ ∃ N2, ax_g N2 ∧ ax_RI ay_lay 426 q_Model_isModule [.ref 222] (y_mb N) 1 N2 ∧ Φ 0 (ax_u N2 222 10 (N2 222 86)))))) : ax_I ay_lay 427 q_Model_module [.ref 222] M Φ Θ := by
  refine r_Model_module (d := 426) hg (fun V1 e1 => ?_)
  have g1 : ax_g V1 := by rw [e1]; exact ax_u_g hg (hg _ _)
  have s1 : V1 222 3 = M 222 1 := by rw [e1, ax_u_s]
  have c3 : ∀ x : Int, y_cp V1 223 224 x 222 = V1 222 := fun x => y_cp_ne (by decide)
  refine ax_for (I := fun i X => (0 ≤ i ∧ i ≤ M 222 1) ∧ X = y_cp V1 223 224 i) (K := fun i X => ∀ y2, ax_y y2 → k_Model_module_10 426 i y2 X Φ Θ) (hi := M 222 1) (fun i X wi hI nx y2 hy => ?_) (fun i X wi hI y2 hy => ?_) 0 V1 ⟨⟨Int.le_refl _, ht.1⟩, (y_cp_0 _ _ _).symm⟩ none ax_y_n
  · obtain ⟨ib, eX⟩ := hI
    have gX : ax_g X := by rw [eX]; exact y_cp_g g1
    refine r_Model_module_10 gX ⟨by omega, by omega⟩ hy ?_
    have sX : X 222 3 = M 222 1 := by rw [eX, c3, s1]
    rw [sX]
    refine ⟨fun z => by omega, fun _ => ⟨⟨by omega, by omega⟩, ⟨by omega, by omega⟩, fun V5 e5 => nx V5 ⟨⟨by omega, by omega⟩, ?_⟩ y2 hy⟩⟩
    rw [e5, eX]
    exact y_cp_s (by decide) ib.1
  · obtain ⟨ib, eX⟩ := hI
    have ei : i = M 222 1 := by omega
    have gX : ax_g X := by rw [eX]; exact y_cp_g g1
    refine r_Model_module_10 gX ⟨by omega, by omega⟩ hy ?_
    have sX : X 222 3 = M 222 1 := by rw [eX, c3, s1]
    rw [sX]
    refine ⟨fun _ V2 e2 => ?_, fun z => by omega⟩
    have e3 : V2 = y_m1 M := by rw [e2, eX, ei, e1]; rfl
    rw [e3]
    rcases h with ⟨gN, rn, nb, φ⟩ | ⟨gN, rn, nb, φ⟩
    · refine ax_I.run rn (Nat.le_refl _) (by decide) gN ⟨fun z => absurd z (by decide), fun _ V4 e4 => ⟨fun z => absurd z (by decide), fun _ => ?_⟩⟩
      have g4 : ax_g V4 := by rw [e4]; exact ax_u_g gN (by decide)
      refine r_Model_module_75 g4 (by decide) hy (by decide) (fun W1 w1 => ⟨fun z => absurd z (by decide), fun _ W6 w6 => ⟨fun z => absurd z (by decide), fun _ W8 w8 W9 w9 => ?_⟩⟩)
      have k3 : W8 222 3 = N 222 3 := by rw [w8, ax_u_k (by decide), w6, ax_u_k (by decide), w1, ax_u_k (by decide), e4, ax_u_k (by decide)]
      rw [k3] at w9
      have g9 : ax_g W9 := by rw [w9, w8, w6, w1]; exact ax_u_g (ax_u_g (ax_u_g (ax_u_g g4 (by decide)) (by decide)) (by decide)) (gN _ _)
      have t3 : W9 222 3 = N 222 3 := by rw [w9, ax_u_k (by decide), k3]
      have d3 : ∀ x : Int, y_cp W9 224 225 x 222 = W9 222 := fun x => y_cp_ne (by decide)
      refine ax_for (I := fun i X => (0 ≤ i ∧ i ≤ N 222 3) ∧ X = y_cp W9 224 225 i) (K := fun i X => k_Model_module_110 426 (some (ax_i 1)) i X Φ Θ) (hi := N 222 3) (fun i X wi hI nx => ?_) (fun i X wi hI => ?_) 0 W9 ⟨⟨Int.le_refl _, nb.1⟩, (y_cp_0 _ _ _).symm⟩
      · obtain ⟨ib, eX⟩ := hI
        have gX : ax_g X := by rw [eX]; exact y_cp_g g9
        refine r_Model_module_110 gX (ax_y_i _) ⟨by omega, by omega⟩ ?_
        have sX : X 222 3 = N 222 3 := by rw [eX, d3, t3]
        rw [sX]
        refine ⟨fun z => by omega, fun _ => ⟨⟨by omega, by omega⟩, ⟨by omega, by omega⟩, fun V5 e5 => nx V5 ⟨⟨by omega, by omega⟩, ?_⟩⟩⟩
        rw [e5, eX]
        exact y_cp_s (by decide) ib.1
      · obtain ⟨ib, eX⟩ := hI
        have ei : i = N 222 3 := by omega
        have gX : ax_g X := by rw [eX]; exact y_cp_g g9
        refine r_Model_module_110 gX (ax_y_i _) ⟨by omega, by omega⟩ ?_
        have sX : X 222 3 = N 222 3 := by rw [eX, d3, t3]
        rw [sX]
        refine ⟨fun _ V5 e5 => ?_, fun z => by omega⟩
        have e6 : V5 = y_mg N := by rw [e5, eX, ei, w9, w8, w6, w1, e4]; rfl
        have e7 : V5 222 86 = N 222 86 := by rw [e5, ax_u_k (by decide), eX, d3, w9, ax_u_k (by decide), w8, ax_u_k (by decide), w6, ax_u_k (by decide), w1, ax_u_k (by decide), e4, ax_u_k (by decide)]
        rw [e7, e6]
        exact φ
    · refine ax_I.run rn (Nat.le_refl _) (by decide) gN ⟨fun _ V3 e3 => ⟨fun _ => ?_, fun z => absurd rfl z⟩, fun z => absurd rfl z⟩
      have g3 : ax_g V3 := by rw [e3]; exact ax_u_g gN (gN _ _)
      have p3 : V3 222 89 = N 222 89 := by rw [e3, ax_u_k (by decide)]
      rw [p3]
      refine r_Model_module_75 g3 (by decide) hy (gN _ _) (fun W1 w1 => ⟨fun _ W2 w2 => ⟨fun _ W3 w3 => ?_, fun z => absurd rfl z⟩, fun z => absurd rfl z⟩)
      have k5 : W2 222 5 = N 222 5 := by rw [w2, ax_u_k (by decide), w1, ax_u_k (by decide), e3, ax_u_k (by decide)]
      rw [k5] at w3
      have gW : ax_g W3 := by rw [w3, w2, w1]; exact ax_u_g (ax_u_g (ax_u_g g3 (gN _ _)) (by decide)) (gN _ _)
      have t3 : W3 222 3 = N 222 5 := by rw [w3, ax_u_s]
      have t7 : W3 222 7 = N 222 7 := by rw [w3, ax_u_k (by decide), w2, ax_u_k (by decide), w1, ax_u_k (by decide), e3, ax_u_k (by decide)]
      have d3 : ∀ x : Int, y_cp W3 225 224 x 222 = W3 222 := fun x => y_cp_ne (by decide)
      refine ax_for (I := fun i X => (0 ≤ i ∧ i ≤ N 222 5) ∧ X = y_cp W3 225 224 i) (K := fun i X => k_Model_module_156 426 (some (ax_i 0)) i X Φ Θ) (hi := N 222 5) (fun i X wi hI nx => ?_) (fun i X wi hI => ?_) 0 W3 ⟨⟨Int.le_refl _, nb.1⟩, (y_cp_0 _ _ _).symm⟩
      · obtain ⟨ib, eX⟩ := hI
        have gX : ax_g X := by rw [eX]; exact y_cp_g gW
        refine r_Model_module_156 gX (ax_y_i _) ⟨by omega, by omega⟩ ?_
        have sX : X 222 3 = N 222 5 := by rw [eX, d3, t3]
        rw [sX]
        refine ⟨fun z => by omega, fun _ => ⟨⟨by omega, by omega⟩, ⟨by omega, by omega⟩, fun V5 e5 => nx V5 ⟨⟨by omega, by omega⟩, ?_⟩⟩⟩
        rw [e5, eX]
        exact y_cp_s (by decide) ib.1
      · obtain ⟨ib, eX⟩ := hI
        have ei : i = N 222 5 := by omega
        have gX : ax_g X := by rw [eX]; exact y_cp_g gW
        refine r_Model_module_156 gX (ax_y_i _) ⟨by omega, by omega⟩ ?_
        have sX : X 222 3 = N 222 5 := by rw [eX, d3, t3]
        have sX7 : X 222 7 = N 222 7 := by rw [eX, d3, t7]
        have e6 : X = y_mb N := by rw [eX, ei, w3, w2, w1, e3]; rfl
        rw [sX, sX7]
        refine ⟨fun _ => ⟨fun z => ?_, fun z => ?_⟩, fun z => by omega⟩
        · rcases φ with ⟨_, φ⟩ | ⟨w, _⟩
          · rw [e6]; exact φ
          · exact absurd z w
        · rcases φ with ⟨w, _⟩ | ⟨_, N2, g2, r2, φ⟩
          · exact absurd w z
          · rw [e6]
            exact ax_I.run r2 (Nat.le_refl _) (by decide) g2 ⟨fun z => absurd z (by decide), fun _ V2 e2 => by rw [e2]; exact φ⟩
end MModule
