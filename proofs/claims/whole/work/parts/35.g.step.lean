/-! PROVING: one step, on both sides -/
/-- cells of the class and slots of the model, of one node or of two -/
def p_PP (C M : ax_V) (U : Int → Int) (n o i j : Int) : Prop := g_PP C M U 8 n i j ∨ (¬ o = -1 ∧ ∃ i' j', (i = U n + i' ∧ j = U n + j') ∧ g_PP C M U 8 o i' j')
def p_MS (C M : ax_V) (U F : Int → Int) (n o : Int) (g : Int → Int) : Prop := h_MS C M U F 8 n g ∧ (¬ o = -1 → h_MS C M U F 8 o (fun j => g (U n + j)))
/-- what is to be proved -/
def p_ok (M : ax_V) (U J : Int → Int) (n o i0 wd : Int) : Prop := (h_N M U J n ∧ M 227 n ≤ 4) ∧ ((o = -1 ∧ wd = U n ∧ 0 ≤ i0 ∧ i0 < M 228 n) ∨ ((h_N M U J o ∧ M 227 o ≤ 4) ∧ M 227 o = M 227 n ∧ M 228 n = M 228 o ∧ wd = U n + U o ∧ ax_rg i0))
/-- the class before holds -/
def p_CI (C M P : ax_V) (U F : Int → Int) (n o i0 wd : Int) (nw : Nat) (V : ax_V) (m : Int) (g : Int → Int) (x : Int) : Prop := ((∀ c, 500 ≤ c → c ≤ 573 → V c = P c) ∧ ax_g V) ∧ (V 157 13 = n ∧ V 157 14 = o ∧ (o = -1 → V 157 15 = 26 * n + M 231 (26 * n + i0)) ∧ V 157 17 = wd) ∧ ((0 ≤ m ∧ m < 300) ∧ m * wd + wd ≤ (nw : Int)) ∧ (∀ i j, p_PP C M U n o i j → V 620 (m * wd + i) = g j) ∧ (∀ i, 0 ≤ i → i < 4 → V 165 i = h_bit x i) ∧ p_MS C M U F n o g
/-- the class behind holds -/
def p_CO (C M : ax_V) (U F : Int → Int) (n o wd : Int) (t : Int) (g' : Int → Int) (V : ax_V) (m : Int) (W : ax_V) : Prop := (g_fr [150, 151, 152, 153, 154, 155, 160, 164] V W ∧ (∀ f, ¬ f = 10 → W 150 f = V 150 f) ∧ ax_g W) ∧ (t = 1 → (∀ i j, p_PP C M U n o i j → W 160 i = g' j) ∧ p_MS C M U F n o g') ∧ (t = 2 → ∀ j, 0 ≤ j → j < wd → W 160 j = V 620 (m * wd + j))
/-- the model before isGood -/
def p_MI (C M : ax_V) (S U J Im F : Int → Int) (n o wd : Int) (N : ax_V) (g : Int → Int) : Prop := (h_RM C M S U J Im N ∧ ax_g N) ∧ (N 222 116 = wd ∧ N 222 123 = 0) ∧ (∀ j, 0 ≤ j → j < wd → N 291 j = g j ∧ N 292 j = g j) ∧ p_MS C M U F n o g
/-- the model behind isGood -/
def p_MO (C M : ax_V) (U F : Int → Int) (n o wd : Int) (t : Int) (g' : Int → Int) (N W : ax_V) : Prop := (g_fr (313 :: h_DC) N W ∧ g_sc [101, 123] N W ∧ ax_g W) ∧ (t = 1 → (∀ j, 0 ≤ j → j < wd → W 292 j = g' j) ∧ W 222 123 = 0 ∧ p_MS C M U F n o g') ∧ (t = 2 → W 222 123 = 1)
section Step
variable {B w nw d : Nat} {C0 M0 P V V0 W : ax_V} {F G Hh S U J Im : Int → Int} {n o x m wd i0 : Int} {R R2 : h_R} {g : Int → Int} {Φ : Int → ax_V → Prop} {Ψ Θ : ax_V → Prop}
/-- what goes in, as a function of the letters -/
theorem p_fi (hX : h_X C0 M0 P F G Hh S U J Im) (n0 : 0 ≤ n ∧ n < (M0 222 86)) : ∀ K : Nat, (K : Int) ≤ M0 227 n → ∃ fi : Int → Int, ∀ i, 0 ≤ i → i < (K : Int) → fi (M0 230 (26 * n + i)) = h_bit x i := by
  intro K
  induction K with
  | zero => intro _; exact ⟨fun _ => 0, fun i a b => by omega⟩
  | succ K ih =>
    intro hK
    obtain ⟨fi, hf⟩ := ih (by omega)
    have un := (hX.hS.fl n0.1 n0.2).2.2.2.2.2.2.2
    refine ⟨fun y => if y = M0 230 (26 * n + (K : Int)) then h_bit x K else fi y, fun i a b => ?_⟩
    by_cases e : i = (K : Int)
    · rw [e]; exact if_pos rfl
    · have ne : ¬ M0 230 (26 * n + i) = M0 230 (26 * n + (K : Int)) := un i K a (by omega) (by omega)
      show (if M0 230 (26 * n + i) = M0 230 (26 * n + (K : Int)) then h_bit x K else fi (M0 230 (26 * n + i))) = h_bit x i
      rw [if_neg ne]
      exact hf i a (by omega)
theorem p_rec (hX : h_X C0 M0 P F G Hh S U J Im) (hn : h_N M0 U J n) (hi4 : M0 227 n ≤ 4) (x0 : 0 ≤ x ∧ x < 16) (g : Int → Int) : ∃ R, h_TK C0 M0 U S Im 8 n R ∧ R [] 5 = g ∧ ∀ i, 0 ≤ i → i < M0 227 n → R [] 1 (M0 230 (26 * n + i)) = h_bit x i ∧ (M0 233 (26 * n + M0 230 (26 * n + i)) = 1 → R [] 1 (M0 230 (26 * n + i)) = 0 ∨ R [] 1 (M0 230 (26 * n + i)) = 1) := by
  have hN := hX.hS.2.1
  have nn := hn.1
  have fl := hX.hS.fl nn.1 nn.2
  have q0 := fl.1.2
  obtain ⟨fi, hf⟩ := p_fi (x := x) hX nn (M0 227 n).toNat (by omega)
  obtain ⟨R, r1, r2, r3, r4⟩ := h_exist hX 8 n g fi hn (by omega)
  refine ⟨R, r1, funext r2, fun i a b => ?_⟩
  have ff := fl.2.2.2.2.1 i a b
  have v := r3 _ ff.2.1.1 ff.2.1.2 ff.2.2
  rw [v, hf i a (by omega)]
  exact ⟨rfl, fun _ => h_bit_b x0 ⟨a, by omega⟩⟩
set_option maxHeartbeats 2000000 in
theorem p_step (hX : h_X C0 M0 P F G Hh S U J Im) (hk : p_ok M0 U J n o i0 wd) (hnw : nw ≤ 1000000) (x0 : 0 ≤ x ∧ x < 16) (g : Int → Int) : ∃ (t : Int) (g' : Int → Int), (t = 0 ∨ t = 1 ∨ t = 2) ∧
    (∀ (V : ax_V) (m : Int), p_CI C0 M0 P U F n o i0 wd nw V m g x → ∀ (B w d : Nat) (Φ : Int → ax_V → Prop) (Θ : ax_V → Prop), (∀ r W, (r = 0 ↔ t = 0) → p_CO C0 M0 U F n o wd t g' V m W → Φ r W) → ax_I (az_W B (az_EP B w nw)) (d + 27) q_Prover_holds [.ref 157, ax_i m] V Φ Θ) ∧
    ∀ N : ax_V, p_MI C0 M0 S U J Im F n o wd N g → ∀ (d : Nat) (Φ : Int → ax_V → Prop) (Θ : ax_V → Prop), (∀ r W, (r = 0 ↔ t = 0) → p_MO C0 M0 U F n o wd t g' N W → Φ r W) → ax_I ay_lay (d + 82) q_Model_isGood [.ref 222, ax_i n, ax_i i0, ax_i o, ax_i x] N Φ Θ := by
  obtain ⟨⟨hn, hi4⟩, hk⟩ := hk
  have hS := hX.hS
  have hN := hS.2.1
  have nn := hn.1
  have ub := (hX.UJ.1 n).1
  have tt := hX.t hn
  obtain ⟨R, r1, r2, r3⟩ := p_rec (x := x) hX hn hi4 x0 g
  rcases hk with ⟨eo, ew, hi0⟩ | ⟨⟨ho, ho4⟩, ei, eo, ew, ri⟩
  · have lift : (∀ k, k ∉ ([101, 123] : List Int) → k ∉ ([101] : List Int)) := fun k z => by simp at z ⊢; exact z.1
    by_cases good : 700 ≤ R [] 4 0 ∧ R [] 1 (M0 231 (26 * n + i0)) = 1
    · refine ⟨1, R [] 6, Or.inr (Or.inl rfl), fun V m hV B w d Φ Θ h => ?_, fun N hN' d Φ Θ h => ?_⟩
      · obtain ⟨⟨v1, v2⟩, ⟨a1, a2, a3, a4⟩, ⟨b1, b2⟩, pr, bt, ms⟩ := hV
        refine t_holds1 (R := R) (d := d) hnw hX hn v1 v2 a1 (by rw [a2]; exact eo) (by rw [a4]; exact ew) hi0 (a3 eo) b1 (by rw [← ew]; exact b2) hi4 r1 (by rw [r2]; exact ms.1) (fun i j pp => by rw [r2, ← ew]; exact pr i j (Or.inl pp)) (fun i a b => ⟨by rw [(r3 i a b).1]; exact bt i a (by omega), (r3 i a b).2⟩) (fun r W f1 f2 f3 m6 p6 res => h r W ?_ ⟨⟨f1, f2, f3⟩, fun _ => ⟨fun i j pp => ?_, m6, fun z => absurd eo z⟩, fun z => absurd z (by decide)⟩)
        · rcases res with y | y
          · exact ⟨fun z => by omega, fun z => absurd z (by decide)⟩
          · exact absurd good y.2
        · rcases pp with y | y
          · exact p6 i j y
          · exact absurd eo y.1
      · obtain ⟨⟨v1, v2⟩, ⟨a1, a2⟩, mem, ms⟩ := hN'
        rw [eo]
        refine s_isGood1 (R := R) (d := d) hX hn v1 v2 x0 hi0 hi4 r1 (by rw [r2]; exact ms.1) (fun j a b => by rw [r2]; exact mem j a (by omega)) (fun i a b => (r3 i a b).1) (fun r W f1 f2 f3 m6 p6 res => h r W ?_ ⟨⟨fun c z => f1 c (by simp at z ⊢; exact z.2), fun k z => f2 k (lift k z), f3⟩, fun _ => ⟨fun j a b => m6 j a (by omega), by rw [f2 123 (by decide)]; exact a2, p6, fun z => absurd eo z⟩, fun z => absurd z (by decide)⟩)
        rcases res with y | y
        · exact ⟨fun z => by omega, fun z => absurd z (by decide)⟩
        · exact absurd good y.2
    · refine ⟨0, R [] 6, Or.inl rfl, fun V m hV B w d Φ Θ h => ?_, fun N hN' d Φ Θ h => ?_⟩
      · obtain ⟨⟨v1, v2⟩, ⟨a1, a2, a3, a4⟩, ⟨b1, b2⟩, pr, bt, ms⟩ := hV
        refine t_holds1 (R := R) (d := d) hnw hX hn v1 v2 a1 (by rw [a2]; exact eo) (by rw [a4]; exact ew) hi0 (a3 eo) b1 (by rw [← ew]; exact b2) hi4 r1 (by rw [r2]; exact ms.1) (fun i j pp => by rw [r2, ← ew]; exact pr i j (Or.inl pp)) (fun i a b => ⟨by rw [(r3 i a b).1]; exact bt i a (by omega), (r3 i a b).2⟩) (fun r W f1 f2 f3 m6 p6 res => h r W ?_ ⟨⟨f1, f2, f3⟩, fun z => absurd z (by decide), fun z => absurd z (by decide)⟩)
        rcases res with y | y
        · exact absurd y.2 good
        · exact ⟨fun _ => rfl, fun _ => y.1⟩
      · obtain ⟨⟨v1, v2⟩, ⟨a1, a2⟩, mem, ms⟩ := hN'
        rw [eo]
        refine s_isGood1 (R := R) (d := d) hX hn v1 v2 x0 hi0 hi4 r1 (by rw [r2]; exact ms.1) (fun j a b => by rw [r2]; exact mem j a (by omega)) (fun i a b => (r3 i a b).1) (fun r W f1 f2 f3 m6 p6 res => h r W ?_ ⟨⟨fun c z => f1 c (by simp at z ⊢; exact z.2), fun k z => f2 k (lift k z), f3⟩, fun z => absurd z (by decide), fun z => absurd z (by decide)⟩)
        rcases res with y | y
        · exact absurd y.2 good
        · exact ⟨fun _ => rfl, fun _ => y.1⟩
  · have lift : (∀ k, k ∉ ([101, 123] : List Int) → k ∉ ([101] : List Int)) := fun k z => by simp at z ⊢; exact z.1
    have oo := ho.1
    have oN : ¬ o = -1 := by omega
    have ub2 := (hX.UJ.1 o).1
    have tt2 := hX.t ho
    obtain ⟨R2, s1, s2, s3⟩ := p_rec (x := x) hX ho ho4 x0 (fun j => g (U n + j))
    -- both sides, for an outcome t
    have run : ∀ (t : Int) (g' : Int → Int), (700 ≤ R [] 4 0 → 700 ≤ R2 [] 4 0 → ((t = 1 ∧ ∀ i, 0 ≤ i → i < M0 228 o → R [] 1 (M0 231 (26 * n + i)) = R2 [] 1 (M0 231 (26 * o + i))) ∨ (t = 0 ∧ ¬ ∀ i, 0 ≤ i → i < M0 228 o → R [] 1 (M0 231 (26 * n + i)) = R2 [] 1 (M0 231 (26 * o + i))))) → (R [] 4 0 < 700 → R2 [] 4 0 < 700 → t = 2) → (¬ (700 ≤ R [] 4 0 ↔ 700 ≤ R2 [] 4 0) → t = 0) → (∀ j, j < U n → g' j = R [] 6 j) → (∀ j, 0 ≤ j → g' (U n + j) = R2 [] 6 j) → (∀ (V : ax_V) (m : Int), p_CI C0 M0 P U F n o i0 wd nw V m g x → ∀ (B w d : Nat) (Φ : Int → ax_V → Prop) (Θ : ax_V → Prop), (∀ r W, (r = 0 ↔ t = 0) → p_CO C0 M0 U F n o wd t g' V m W → Φ r W) → ax_I (az_W B (az_EP B w nw)) (d + 27) q_Prover_holds [.ref 157, ax_i m] V Φ Θ) ∧ ∀ N : ax_V, p_MI C0 M0 S U J Im F n o wd N g → ∀ (d : Nat) (Φ : Int → ax_V → Prop) (Θ : ax_V → Prop), (∀ r W, (r = 0 ↔ t = 0) → p_MO C0 M0 U F n o wd t g' N W → Φ r W) → ax_I ay_lay (d + 82) q_Model_isGood [.ref 222, ax_i n, ax_i i0, ax_i o, ax_i x] N Φ Θ := fun t g' hgo hno hne g1 g2 => by
      have ms' : h_MS C0 M0 U F 8 n (R [] 6) → h_MS C0 M0 U F 8 o (R2 [] 6) → p_MS C0 M0 U F n o g' := fun z1 z2 => ⟨h_MS.cg hX hn z1 (fun j _ b => g1 j b), fun _ => h_MS.cg hX ho z2 (fun j a _ => g2 j a)⟩
      refine ⟨fun V m hV B w d Φ Θ h => ?_, fun N hN' d Φ Θ h => ?_⟩
      · obtain ⟨⟨v1, v2⟩, ⟨a1, a2, a3, a4⟩, ⟨b1, b2⟩, pr, bt, ms⟩ := hV
        refine t_holds2 (R := R) (R2 := R2) (d := d) hnw hX hn ho v1 v2 a1 a2 ew a4 b1 b2 hi4 ho4 eo r1 (by rw [r2]; exact ms.1) (fun i j pp => by rw [r2]; exact pr i j (Or.inl pp)) (fun i a b => ⟨by rw [(r3 i a b).1]; exact bt i a (by omega), (r3 i a b).2⟩) s1 (by rw [s2]; exact ms.2 oN) (fun i j pp => ?_) (fun i a b => ⟨by rw [(s3 i a b).1]; exact bt i a (by omega), (s3 i a b).2⟩) (fun r W f1 f2 f3 k1 k2 m6 m7 p6 p7 res => ?_) (fun W f1 f2 f3 k1 k2 p6 => ?_) (fun W f1 f2 f3 ne => ?_)
        · rw [s2, Int.add_assoc]
          exact pr (U n + i) (U n + j) (Or.inr ⟨oN, i, j, ⟨rfl, rfl⟩, pp⟩)
        · refine h r W ?_ ⟨⟨f1, f2, f3⟩, fun _ => ⟨fun i j pp => ?_, ms' m6 m7⟩, fun z => ?_⟩
          · rcases res with y | y
            · rcases hgo k1 k2 with u | u
              · exact ⟨fun z => by omega, fun z => by omega⟩
              · exact absurd y.2 u.2
            · rcases hgo k1 k2 with u | u
              · exact absurd u.2 y.2
              · exact ⟨fun _ => u.1, fun _ => y.1⟩
          · rcases pp with y | ⟨_, i', j', ⟨e1, e2⟩, y⟩
            · have bb := hX.UJ.pb hS hX.ok 8 _ tt.1 i j y
              rw [g1 j (by omega)]; exact p6 i j y
            · have bb := hX.UJ.pb hS hX.ok 8 _ tt2.1 i' j' y
              rw [e1, e2, g2 j' bb.2.1]; exact p7 i' j' y
          · rcases hgo k1 k2 with u | u
            · omega
            · omega
        · have t2 := hno k1 k2
          exact h 1 W ⟨fun z => absurd z (by decide), fun z => by omega⟩ ⟨⟨f1, f2, f3⟩, fun z => by omega, fun _ => p6⟩
        · have t0 := hne ne
          exact h 0 W ⟨fun _ => t0, fun _ => rfl⟩ ⟨⟨f1, f2, f3⟩, fun z => by omega, fun z => by omega⟩
      · obtain ⟨⟨v1, v2⟩, ⟨a1, a2⟩, mem, ms⟩ := hN'
        refine s_isGood2 (R := R) (R2 := R2) (d := d) hX hn ho v1 v2 x0 ri hi4 ho4 eo (by rw [a1]; exact ew) r1 (by rw [r2]; exact ms.1) (fun j a b => by rw [r2]; exact mem j a (by omega)) (fun i a b => (r3 i a b).1) s1 (by rw [s2]; exact ms.2 oN) (fun j a b => by rw [s2]; exact mem (U n + j) (by omega) (by omega)) (fun i a b => (s3 i a b).1) (fun r W f1 f2 f3 k1 k2 p6 p7 m6 m7 res => ?_) (fun W f1 f2 f3 e123 k1 k2 => ?_) (fun W f1 f2 f3 ne => ?_)
        · refine h r W ?_ ⟨⟨f1, fun k z => f2 k (lift k z), f3⟩, fun _ => ⟨fun j a b => ?_, by rw [f2 123 (by decide)]; exact a2, ms' m6 m7⟩, fun z => ?_⟩
          · rcases res with y | y
            · rcases hgo k1 k2 with u | u
              · exact ⟨fun z => by omega, fun z => by omega⟩
              · exact absurd y.2 u.2
            · rcases hgo k1 k2 with u | u
              · exact absurd u.2 y.2
              · exact ⟨fun _ => u.1, fun _ => y.1⟩
          · by_cases y : j < U n
            · rw [g1 j y]; exact p6 j a y
            · have e : j = U n + (j - U n) := by omega
              rw [e, g2 (j - U n) (by omega)]; exact p7 (j - U n) (by omega) (by omega)
          · rcases hgo k1 k2 with u | u
            · omega
            · omega
        · have t2 := hno k1 k2
          exact h 1 W ⟨fun z => absurd z (by decide), fun z => by omega⟩ ⟨⟨f1, f2, f3⟩, fun z => by omega, fun _ => e123⟩
        · have t0 := hne ne
          exact h 0 W ⟨fun _ => t0, fun _ => rfl⟩ ⟨⟨f1, fun k z => f2 k (lift k z), f3⟩, fun z => by omega, fun z => by omega⟩
    obtain ⟨g', eg⟩ : ∃ g' : Int → Int, g' = fun j => if j < U n then R [] 6 j else R2 [] 6 (j - U n) := ⟨_, rfl⟩
    have g1 : ∀ j, j < U n → g' j = R [] 6 j := fun j hj => by rw [eg]; exact if_pos hj
    have g2 : ∀ j, 0 ≤ j → g' (U n + j) = R2 [] 6 j := fun j hj => by
      rw [eg]
      show (if U n + j < U n then R [] 6 (U n + j) else R2 [] 6 (U n + j - U n)) = R2 [] 6 j
      rw [if_neg (by omega), show U n + j - U n = j by omega]
    by_cases ka : 700 ≤ R [] 4 0
    · by_cases kb : 700 ≤ R2 [] 4 0
      · by_cases al : ∀ i, 0 ≤ i → i < M0 228 o → R [] 1 (M0 231 (26 * n + i)) = R2 [] 1 (M0 231 (26 * o + i))
        · have u := run 1 g' (fun _ _ => Or.inl ⟨rfl, al⟩) (fun z _ => by omega) (fun z => absurd ⟨fun _ => kb, fun _ => ka⟩ z) g1 g2
          exact ⟨1, g', Or.inr (Or.inl rfl), u.1, u.2⟩
        · have u := run 0 g' (fun _ _ => Or.inr ⟨rfl, al⟩) (fun z _ => by omega) (fun z => rfl) g1 g2
          exact ⟨0, g', Or.inl rfl, u.1, u.2⟩
      · have u := run 0 g' (fun _ z => absurd z kb) (fun z _ => by omega) (fun z => rfl) g1 g2
        exact ⟨0, g', Or.inl rfl, u.1, u.2⟩
    · by_cases kb : 700 ≤ R2 [] 4 0
      · have u := run 0 g' (fun z _ => absurd z ka) (fun _ z => by omega) (fun z => rfl) g1 g2
        exact ⟨0, g', Or.inl rfl, u.1, u.2⟩
      · have u := run 2 g' (fun z _ => absurd z ka) (fun _ _ => rfl) (fun z => absurd ⟨fun q => absurd q ka, fun q => absurd q kb⟩ z) g1 g2
        exact ⟨2, g', Or.inr (Or.inr rfl), u.1, u.2⟩
end Step
