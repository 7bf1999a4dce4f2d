/-! PROVING, the class: holds -/
section Holds
variable {B w nw d : Nat} {C0 M0 P V W : ax_V} {F G Hh S U J Im : Int → Int} {n o x m wd i0 : Int} {R R2 : h_R} {Φ : Int → ax_V → Prop} {Ψ Θ : ax_V → Prop}
set_option maxHeartbeats 1000000 in
/-- one node -/
theorem t_holds1 (hnw : nw ≤ 1000000) (hX : h_X C0 M0 P F G Hh S U J Im) (hn : h_N M0 U J n) (hP : ∀ c, 500 ≤ c → c ≤ 573 → V c = P c) (hg : ax_g V) (e13 : V 157 13 = n) (e14 : V 157 14 = -1) (e17 : V 157 17 = U n) (hi0 : 0 ≤ i0 ∧ i0 < M0 228 n) (e15 : V 157 15 = 26 * n + M0 231 (26 * n + i0)) (m0 : 0 ≤ m ∧ m < 300) (mb : m * U n + U n ≤ (nw : Int)) (hi4 : M0 227 n ≤ 4) (hR : h_TK C0 M0 U S Im 8 n R) (hm : h_MS C0 M0 U F 8 n (R [] 5)) (pairs : ∀ i j, g_PP C0 M0 U 8 n i j → V 620 (m * U n + i) = R [] 5 j) (inp : ∀ i, 0 ≤ i → i < M0 227 n → V 165 i = R [] 1 (M0 230 (26 * n + i)) ∧ (M0 233 (26 * n + M0 230 (26 * n + i)) = 1 → R [] 1 (M0 230 (26 * n + i)) = 0 ∨ R [] 1 (M0 230 (26 * n + i)) = 1))
    (h : ∀ r W, g_fr [150, 151, 152, 153, 154, 155, 160, 164] V W → (∀ f, ¬ f = 10 → W 150 f = V 150 f) → ax_g W → h_MS C0 M0 U F 8 n (R [] 6) → (∀ i j, g_PP C0 M0 U 8 n i j → W 160 i = R [] 6 j) → ((r = 1 ∧ 700 ≤ R [] 4 0 ∧ R [] 1 (M0 231 (26 * n + i0)) = 1) ∨ (r = 0 ∧ ¬ (700 ≤ R [] 4 0 ∧ R [] 1 (M0 231 (26 * n + i0)) = 1))) → Φ r W) : ax_I (az_W B (az_EP B w nw)) (d + 27) q_Prover_holds [.ref 157, ax_i m] V Φ Θ := by
  have hS := hX.hS
  have hN := hS.2.1
  have nn := hn.1
  have ub := (hX.UJ.1 n).1
  have u3 := hn.2.1
  have tt := hX.t hn
  have n8 : 0 ≤ n ∧ n < 8 := ⟨nn.1, by omega⟩
  have fo := ((hS.fl nn.1 nn.2).2.2.2.2.2.1 i0 hi0.1 hi0.2).2.1
  have mu : 0 ≤ m * U n := Int.mul_nonneg m0.1 ub.1
  have u514 : V 514 n = U n := by rw [hP 514 (by decide) (by decide)]; exact hX.u hn
  refine r_Prover_holds (d := d + 26) hnw hg ⟨by omega, by omega⟩ ?_
  rw [e13, e17, u514]
  refine ⟨n8, t_goesP (d := d) (f := m * U n) hnw ⟨mu, mb⟩ hi4 hX hn hP hg hR hm pairs inp (fun r W1 tg => ⟨⟨Int.le_refl _, Int.le_refl _, ub.1, by omega, by omega⟩, fun V2 e2 => ?_⟩)⟩
  obtain ⟨⟨t1, t2, t3⟩, t4, t5, t6, t7, t8⟩ := tg
  have k2 : ∀ c, ¬ c = 160 → V2 c = W1 c := fun c z => by rw [e2]; exact ax_cp_ne z
  have g2 : ax_g V2 := by rw [e2]; exact ax_cp_g t3
  have v7 : V2 157 = V 157 := by rw [k2 157 (by decide), t1 157 (by decide)]
  rw [v7, e14, e15, k2 152 (by decide), (t7 i0 hi0.1 hi0.2).1]
  have fin : ∀ r, ((r = 1 ∧ 700 ≤ R [] 4 0 ∧ R [] 1 (M0 231 (26 * n + i0)) = 1) ∨ (r = 0 ∧ ¬ (700 ≤ R [] 4 0 ∧ R [] 1 (M0 231 (26 * n + i0)) = 1))) → Φ r V2 := fun r hr => by
    refine h r V2 (fun c z => ?_) (fun f z => by rw [k2 150 (by decide)]; exact t2 f z) g2 t5 (fun i j pp => ?_) hr
    · simp only [List.mem_cons, List.not_mem_nil, or_false, not_or] at z
      rw [k2 c (by omega), t1 c (by simp; omega)]
    · have bb := hX.UJ.pb hS hX.ok 8 _ tt.1 i j pp
      rw [e2, ax_cp_i ⟨bb.1.1, by omega⟩, show (0 : Int) + (i - 0) = i by omega]
      exact t4 i j pp
  refine ⟨fun z => absurd z (by decide), fun _ => ⟨fun z => ?_, fun z => ⟨⟨by omega, by omega⟩, fun y => ?_, fun y => ?_⟩⟩⟩
  · rcases t8 with ⟨a, b⟩ | ⟨a, b, c⟩
    · omega
    · exact fin 0 (Or.inr ⟨rfl, fun q => by omega⟩)
  · rcases t8 with ⟨a, b⟩ | ⟨a, b, c⟩
    · exact fin 1 (Or.inl ⟨rfl, b, y⟩)
    · exact absurd a z
  · exact fin 0 (Or.inr ⟨rfl, fun q => y q.2⟩)
set_option maxHeartbeats 2000000 in
/-- two nodes -/
theorem t_holds2 (hnw : nw ≤ 1000000) (hX : h_X C0 M0 P F G Hh S U J Im) (hn : h_N M0 U J n) (ho : h_N M0 U J o) (hP : ∀ c, 500 ≤ c → c ≤ 573 → V c = P c) (hg : ax_g V) (e13 : V 157 13 = n) (e14 : V 157 14 = o) (ew : wd = U n + U o) (e17 : V 157 17 = wd) (m0 : 0 ≤ m ∧ m < 300) (mb : m * wd + wd ≤ (nw : Int)) (hi4 : M0 227 n ≤ 4) (ho4 : M0 227 o ≤ 4) (eo : M0 228 n = M0 228 o) (hR : h_TK C0 M0 U S Im 8 n R) (hm : h_MS C0 M0 U F 8 n (R [] 5)) (pairs : ∀ i j, g_PP C0 M0 U 8 n i j → V 620 (m * wd + i) = R [] 5 j) (inp : ∀ i, 0 ≤ i → i < M0 227 n → V 165 i = R [] 1 (M0 230 (26 * n + i)) ∧ (M0 233 (26 * n + M0 230 (26 * n + i)) = 1 → R [] 1 (M0 230 (26 * n + i)) = 0 ∨ R [] 1 (M0 230 (26 * n + i)) = 1))
    (hR2 : h_TK C0 M0 U S Im 8 o R2) (hm2 : h_MS C0 M0 U F 8 o (R2 [] 5)) (pairs2 : ∀ i j, g_PP C0 M0 U 8 o i j → V 620 (m * wd + U n + i) = R2 [] 5 j) (inp2 : ∀ i, 0 ≤ i → i < M0 227 o → V 165 i = R2 [] 1 (M0 230 (26 * o + i)) ∧ (M0 233 (26 * o + M0 230 (26 * o + i)) = 1 → R2 [] 1 (M0 230 (26 * o + i)) = 0 ∨ R2 [] 1 (M0 230 (26 * o + i)) = 1))
    (hgo : ∀ r W, g_fr [150, 151, 152, 153, 154, 155, 160, 164] V W → (∀ f, ¬ f = 10 → W 150 f = V 150 f) → ax_g W → 700 ≤ R [] 4 0 → 700 ≤ R2 [] 4 0 → h_MS C0 M0 U F 8 n (R [] 6) → h_MS C0 M0 U F 8 o (R2 [] 6) → (∀ i j, g_PP C0 M0 U 8 n i j → W 160 i = R [] 6 j) → (∀ i j, g_PP C0 M0 U 8 o i j → W 160 (U n + i) = R2 [] 6 j) → ((r = 1 ∧ ∀ i, 0 ≤ i → i < M0 228 o → R [] 1 (M0 231 (26 * n + i)) = R2 [] 1 (M0 231 (26 * o + i))) ∨ (r = 0 ∧ ¬ ∀ i, 0 ≤ i → i < M0 228 o → R [] 1 (M0 231 (26 * n + i)) = R2 [] 1 (M0 231 (26 * o + i)))) → Φ r W)
    (hno : ∀ W, g_fr [150, 151, 152, 153, 154, 155, 160, 164] V W → (∀ f, ¬ f = 10 → W 150 f = V 150 f) → ax_g W → R [] 4 0 < 700 → R2 [] 4 0 < 700 → (∀ j, 0 ≤ j → j < wd → W 160 j = V 620 (m * wd + j)) → Φ 1 W)
    (hne : ∀ W, g_fr [150, 151, 152, 153, 154, 155, 160, 164] V W → (∀ f, ¬ f = 10 → W 150 f = V 150 f) → ax_g W → ¬ (700 ≤ R [] 4 0 ↔ 700 ≤ R2 [] 4 0) → Φ 0 W) : ax_I (az_W B (az_EP B w nw)) (d + 27) q_Prover_holds [.ref 157, ax_i m] V Φ Θ := by
  have hS := hX.hS
  have hN := hS.2.1
  have nn := hn.1
  have oo := ho.1
  have ub := (hX.UJ.1 n).1
  have ub2 := (hX.UJ.1 o).1
  have u3 := hn.2.1
  have u4 := ho.2.1
  have tt := hX.t hn
  have tt2 := hX.t ho
  have n8 : 0 ≤ n ∧ n < 8 := ⟨nn.1, by omega⟩
  have mu : 0 ≤ m * wd := Int.mul_nonneg m0.1 (by omega)
  have u514 : V 514 n = U n := by rw [hP 514 (by decide) (by decide)]; exact hX.u hn
  refine r_Prover_holds (d := d + 26) hnw hg ⟨by omega, by omega⟩ ?_
  rw [e13, e17, u514]
  refine ⟨n8, t_goesP (d := d) (f := m * wd) hnw ⟨mu, by omega⟩ hi4 hX hn hP hg hR hm pairs inp (fun r W1 tg => ⟨⟨Int.le_refl _, Int.le_refl _, ub.1, by omega, by omega⟩, fun V2 e2 => ?_⟩)⟩
  obtain ⟨⟨t1, t2, t3⟩, t4, t5, t6, t7, t8⟩ := tg
  have k2 : ∀ c, ¬ c = 160 → V2 c = W1 c := fun c z => by rw [e2]; exact ax_cp_ne z
  have g2 : ax_g V2 := by rw [e2]; exact ax_cp_g t3
  have v7 : V2 157 = V 157 := by rw [k2 157 (by decide), t1 157 (by decide)]
  have P2 : ∀ c, 500 ≤ c → c ≤ 573 → V2 c = P c := fun c a b => by rw [k2 c (by omega), t1 c (by simp; omega)]; exact hP c a b
  have m2 : ∀ i j, g_PP C0 M0 U 8 n i j → V2 160 i = R [] 6 j := fun i j pp => by
    have bb := hX.UJ.pb hS hX.ok 8 _ tt.1 i j pp
    rw [e2, ax_cp_i ⟨bb.1.1, by omega⟩, show (0 : Int) + (i - 0) = i by omega]
    exact t4 i j pp
  rw [v7, e14]
  refine ⟨fun _ => ?_, fun z => by omega⟩
  refine t_takeOutputs (d := d + 25) hnw hX P2 g2 nn (by rw [v7]; exact e13) (fun V3 f3 g3 o3 => ?_)
  have v37 : V3 157 = V 157 := by rw [f3 157 (by decide), v7]
  have P3 : ∀ c, 500 ≤ c → c ≤ 573 → V3 c = P c := fun c a b => by rw [f3 c (by simp; omega)]; exact P2 c a b
  have v36 : ∀ c, c = 620 ∨ c = 165 → V3 c = V c := fun c z => by rw [f3 c (by simp; omega), k2 c (by omega), t1 c (by simp; omega)]
  rw [v37, e14, e17]
  refine t_goesP (d := d) (f := m * wd + U n) hnw ⟨by omega, by omega⟩ ho4 hX ho P3 g3 hR2 hm2 (fun i j pp => by rw [v36 620 (Or.inl rfl)]; exact pairs2 i j pp) (fun i a b => by rw [v36 165 (Or.inr rfl)]; exact inp2 i a b) (fun r' W4 tg => ?_)
  obtain ⟨⟨s1, s2, s3⟩, s4, s5, s6, s7, s8⟩ := tg
  have w7 : W4 157 = V 157 := by rw [s1 157 (by decide), v37]
  rw [w7, e17, ew]
  rw [show U n + U o - U n = U o by omega]
  refine ⟨⟨Int.le_refl _, ub.1, ub2.1, by omega, by omega⟩, fun V5 e5 => ?_⟩
  have k5 : ∀ c, ¬ c = 160 → V5 c = W4 c := fun c z => by rw [e5]; exact ax_cp_ne z
  have g5 : ax_g V5 := by rw [e5]; exact ax_cp_g s3
  have v57 : V5 157 = V 157 := by rw [k5 157 (by decide), w7]
  have P5 : ∀ c, 500 ≤ c → c ≤ 573 → V5 c = P c := fun c a b => by rw [k5 c (by omega), s1 c (by simp; omega)]; exact P3 c a b
  have fr5 : g_fr [150, 151, 152, 153, 154, 155, 160, 164] V V5 := fun c z => by
    simp only [List.mem_cons, List.not_mem_nil, or_false, not_or] at z
    rw [k5 c (by omega), s1 c (by simp; omega), f3 c (by simp; omega), k2 c (by omega), t1 c (by simp; omega)]
  have r5 : ∀ f, ¬ f = 10 → V5 150 f = V 150 f := fun f z => by rw [k5 150 (by decide), s2 f z, f3 150 (by decide), k2 150 (by decide)]; exact t2 f z
  have v56 : V5 620 = V 620 := fr5 620 (by decide)
  have back : ∀ V6, V6 = ax_cp V5 620 160 (m * wd) 0 wd → (g_fr [150, 151, 152, 153, 154, 155, 160, 164] V V6 ∧ (∀ f, ¬ f = 10 → V6 150 f = V 150 f) ∧ ax_g V6) ∧ ∀ j, 0 ≤ j → j < wd → V6 160 j = V 620 (m * wd + j) := fun V6 e6 => by
    refine ⟨⟨fun c z => ?_, fun f z => ?_, by rw [e6]; exact ax_cp_g g5⟩, fun j a b => ?_⟩
    · have z' := z
      simp only [List.mem_cons, List.not_mem_nil, or_false, not_or] at z
      rw [e6, ax_cp_ne (by omega)]; exact fr5 c z'
    · rw [e6, ax_cp_ne (by decide)]; exact r5 f z
    · rw [e6, ax_cp_i ⟨a, by omega⟩, v56, show m * wd + (j - 0) = m * wd + j by omega]
  rw [v57, e17]
  have bd : (0 : Int) ≤ m * wd ∧ (0 : Int) ≤ 0 ∧ (0 : Int) ≤ wd ∧ m * wd + wd ≤ (nw : Int) ∧ (0 : Int) + wd ≤ 600 := ⟨mu, Int.le_refl _, by omega, mb, by omega⟩
  refine ⟨fun z => ⟨bd, fun V6 e6 => ?_⟩, fun z => ⟨fun z2 => ⟨bd, fun V6 e6 => ?_⟩, fun z2 => ?_⟩⟩
  · obtain ⟨⟨b1, b2, b3⟩, b4⟩ := back V6 e6
    refine ⟨fun y => hno V6 b1 b2 b3 (by omega) (by omega) b4, fun y => hne V6 b1 b2 b3 (fun q => ?_)⟩
    omega
  · obtain ⟨⟨b1, b2, b3⟩, b4⟩ := back V6 e6
    refine ⟨fun y => by omega, fun y => hne V6 b1 b2 b3 (fun q => ?_)⟩
    omega
  · have o5 : ∀ i, 0 ≤ i → i < M0 228 o → V5 164 i = R [] 1 (M0 231 (26 * n + i)) ∧ V5 152 (26 * o + M0 231 (26 * o + i)) = R2 [] 1 (M0 231 (26 * o + i)) := fun i a b => by
      rw [k5 164 (by decide), s1 164 (by decide), k5 152 (by decide), (s7 i a b).1, o3 i a (by omega), k2 152 (by decide), (t7 i a (by omega)).1]
      exact ⟨rfl, rfl⟩
    have fin : ∀ r, ((r = 1 ∧ ∀ i, 0 ≤ i → i < M0 228 o → R [] 1 (M0 231 (26 * n + i)) = R2 [] 1 (M0 231 (26 * o + i))) ∨ (r = 0 ∧ ¬ ∀ i, 0 ≤ i → i < M0 228 o → R [] 1 (M0 231 (26 * n + i)) = R2 [] 1 (M0 231 (26 * o + i)))) → Φ r V5 := fun r hr => by
      refine hgo r V5 fr5 r5 g5 (by omega) (by omega) t5 s5 (fun i j pp => ?_) (fun i j pp => ?_) hr
      · have bb := hX.UJ.pb hS hX.ok 8 _ tt.1 i j pp
        rw [e5, ax_cp_o (by omega), s1 160 (by decide), f3 160 (by decide)]
        exact m2 i j pp
      · have bb := hX.UJ.pb hS hX.ok 8 _ tt2.1 i j pp
        rw [e5, ax_cp_i ⟨by omega, by omega⟩, show (0 : Int) + (U n + i - U n) = i by omega]
        exact s4 i j pp
    refine t_hasOutputs (d := d + 25) hnw hX P5 g5 oo (by rw [v57]; exact e14) (fun all => ⟨Or.inr rfl, fin 1 (Or.inl ⟨rfl, fun i a b => ?_⟩)⟩) (fun ne => ⟨Or.inl rfl, fin 0 (Or.inr ⟨rfl, fun all => ne (fun i a b => ?_)⟩)⟩)
    · have u := all i a b
      rw [(o5 i a b).1, (o5 i a b).2] at u
      exact u
    · rw [(o5 i a b).1, (o5 i a b).2]; exact all i a b
end Holds
