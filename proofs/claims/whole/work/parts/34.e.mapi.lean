/-! THE MODEL'S OTHER METHODS about instances -/
section MApi
variable {d : Nat} {C0 M0 P V X X' N N' W : ax_V} {F G Hh S U J Im : Int → Int} {n x T k v i : Int} {R : h_R} {Φ : Int → ax_V → Prop} {Ψ Θ : ax_V → Prop}
theorem h_iq.save (hX : h_X C0 M0 P F G Hh S U J Im) (h : h_iq C0 M0 U J F X N x T n) (x0 : 0 ≤ x) (k0 : 0 ≤ k ∧ k < 4) (cx : ∀ c, 800 ≤ c → c ≤ 804 → X' c = X c) (c5 : ∀ i, 0 ≤ i → i < 300 → X' 805 (300 * k + i) = X 802 i) (c5' : ∀ i, ¬ (300 * k ≤ i ∧ i < 300 * k + 300) → X' 805 i = X 805 i) (c6 : X' 806 k = X 800 1) (c6' : ∀ i, ¬ i = k → X' 806 i = X 806 i) (nx : ∀ c, 299 ≤ c → c ≤ 305 → N' c = N c) (n6 : N' 306 (4 * x + k) = 1) (n6' : ∀ i, ¬ i = 4 * x + k → N' 306 i = N 306 i ∧ N' 308 i = N 308 i) (n8 : N' 308 (4 * x + k) = N 302 x) (n7 : ∀ j, 0 ≤ j → j < 300 → N' 307 (300 * (4 * x + k) + j) = N 301 (300 * x + j)) (n7' : ∀ j, ¬ (300 * (4 * x + k) ≤ j ∧ j < 300 * (4 * x + k) + 300) → N' 307 j = N 307 j) : h_iq C0 M0 U J F X' N' x T n := by
  have h0 := h
  obtain ⟨⟨⟨a1, a2⟩, hn⟩, b, c, inp, ⟨pr, ms⟩, ls, kp⟩ := h
  have tt := hX.t hn
  have u3 := hn.2.1
  have pb := fun i j pp => hX.UJ.pb hX.hS hX.ok 8 n tt.1 i j pp
  unfold h_iq
  rw [cx 800 (by decide) (by decide), cx 801 (by decide) (by decide), cx 802 (by decide) (by decide), cx 803 (by decide) (by decide), cx 804 (by decide) (by decide), nx 299 (by decide) (by decide), nx 300 (by decide) (by decide), nx 301 (by decide) (by decide), nx 302 (by decide) (by decide), nx 303 (by decide) (by decide), nx 304 (by decide) (by decide), nx 305 (by decide) (by decide)]
  refine ⟨⟨⟨a1, a2⟩, hn⟩, b, c, inp, ⟨pr, ms⟩, ls, fun k' k0' k1' => ?_⟩
  by_cases e : k' = k
  · rw [e]
    refine Or.inr ⟨n6, ⟨by rw [c6, n8]; exact b.1, by rw [c6]; exact b.2⟩, fun i j pp => ?_, h_MS.cg hX hn ms (fun j j0 j1 => n7 j j0 (by omega))⟩
    have bb := pb i j pp
    rw [c5 i bb.1.1 (by omega), n7 j bb.2.1 (by omega)]; exact pr i j pp
  · rw [c6' k' e, (n6' (4 * x + k') (by omega)).1, (n6' (4 * x + k') (by omega)).2]
    rcases kp k' k0' k1' with z | ⟨z1, z2, z3, z4⟩
    · exact Or.inl z
    · refine Or.inr ⟨z1, z2, fun i j pp => ?_, h_MS.cg hX hn z4 (fun j j0 j1 => n7' _ (by omega))⟩
      have bb := pb i j pp
      rw [c5' _ (by omega), n7' _ (by omega)]; exact z3 i j pp
theorem h_iq.back (hX : h_X C0 M0 P F G Hh S U J Im) (h : h_iq C0 M0 U J F X N x T n) (x0 : 0 ≤ x) (k0 : 0 ≤ k ∧ k < 4) (sv : N 306 (4 * x + k) = 1) (c0 : X' 800 0 = X 800 0 ∧ X' 800 2 = X 800 2) (c1 : X' 800 1 = X 806 k) (cx : ∀ c, 801 ≤ c → c ≤ 806 → ¬ c = 802 → X' c = X c) (c2 : ∀ i, 0 ≤ i → i < 300 → X' 802 i = X 805 (300 * k + i)) (nx : ∀ c, 299 ≤ c → c ≤ 308 → ¬ c = 301 → ¬ c = 302 → N' c = N c) (n2 : N' 302 x = N 308 (4 * x + k)) (n1 : ∀ j, 0 ≤ j → j < 300 → N' 301 (300 * x + j) = N 307 (300 * (4 * x + k) + j)) : h_iq C0 M0 U J F X' N' x T n := by
  obtain ⟨⟨⟨a1, a2⟩, hn⟩, b, c, inp, ⟨pr, ms⟩, ls, kp⟩ := h
  have tt := hX.t hn
  have u3 := hn.2.1
  have pb := fun i j pp => hX.UJ.pb hX.hS hX.ok 8 n tt.1 i j pp
  obtain ⟨-, z2, z3, z4⟩ := (kp k k0.1 k0.2).resolve_left (fun z => by omega)
  unfold h_iq
  rw [c0.1, c0.2, c1, n2, cx 801 (by decide) (by decide) (by decide), cx 803 (by decide) (by decide) (by decide), cx 804 (by decide) (by decide) (by decide), cx 805 (by decide) (by decide) (by decide), cx 806 (by decide) (by decide) (by decide), nx 299 (by decide) (by decide) (by decide) (by decide), nx 300 (by decide) (by decide) (by decide) (by decide), nx 303 (by decide) (by decide) (by decide) (by decide), nx 304 (by decide) (by decide) (by decide) (by decide), nx 305 (by decide) (by decide) (by decide) (by decide), nx 306 (by decide) (by decide) (by decide) (by decide), nx 307 (by decide) (by decide) (by decide) (by decide), nx 308 (by decide) (by decide) (by decide) (by decide)]
  refine ⟨⟨⟨a1, a2⟩, hn⟩, z2, c, inp, ⟨fun i j pp => ?_, h_MS.cg hX hn z4 (fun j j0 j1 => n1 j j0 (by omega))⟩, ls, kp⟩
  have bb := pb i j pp
  rw [c2 i bb.1.1 (by omega), n1 j bb.2.1 (by omega)]; exact z3 i j pp
theorem h_iq.put (hX : h_X C0 M0 P F G Hh S U J Im) (h : h_iq C0 M0 U J F X N x T n) (x0 : 0 ≤ x) (i0 : 0 ≤ i) (i1 : i < M0 227 n) (ty : M0 233 (26 * n + M0 230 (26 * n + i)) = 1 → v = 0 ∨ v = 1) (cx : X' = ax_u X 801 i v) (nx : ∀ c, 299 ≤ c → c ≤ 308 → ¬ c = 300 → N' c = N c) (n0 : N' 300 (26 * x + M0 230 (26 * n + i)) = v) (n0' : ∀ j, ¬ j = 26 * x + M0 230 (26 * n + i) → N' 300 j = N 300 j) : h_iq C0 M0 U J F X' N' x T n := by
  obtain ⟨⟨⟨a1, a2⟩, hn⟩, b, c, inp, pm, ls, kp⟩ := h
  have k1 : ∀ c, ¬ c = 801 → X' c = X c := fun c z => by rw [cx]; exact ax_u_ne z
  have nn := hn.1
  have inj := (hX.hS.fl nn.1 nn.2).2.2.2.2.2.2.2
  unfold h_iq
  rw [k1 800 (by decide), k1 802 (by decide), k1 803 (by decide), k1 804 (by decide), k1 805 (by decide), k1 806 (by decide), nx 299 (by decide) (by decide) (by decide), nx 301 (by decide) (by decide) (by decide), nx 302 (by decide) (by decide) (by decide), nx 303 (by decide) (by decide) (by decide), nx 304 (by decide) (by decide) (by decide), nx 305 (by decide) (by decide) (by decide), nx 306 (by decide) (by decide) (by decide), nx 307 (by decide) (by decide) (by decide), nx 308 (by decide) (by decide) (by decide)]
  refine ⟨⟨⟨a1, a2⟩, hn⟩, b, c, fun i' i0' i1' => ?_, pm, ls, kp⟩
  by_cases e : i' = i
  · rw [e, cx, ax_u_s, n0]; exact ⟨rfl, ty⟩
  · have ne : ¬ M0 230 (26 * n + i') = M0 230 (26 * n + i) := by
      by_cases w : i' < i
      · exact inj i' i i0' w i1
      · exact fun z => inj i i' i0 (by omega) i1' z.symm
    rw [cx, ax_u_k e, n0' _ (by omega)]; exact inp i' i0' i1'
theorem h_iq.make (hX : h_X C0 M0 P F G Hh S U J Im) (hn : h_N M0 U J n) (x0 : 0 ≤ x) (hT : 0 ≤ T) (c0 : X 800 0 = n ∧ X 800 1 = 0 ∧ X 800 2 = 0) (c1 : ∀ i, 0 ≤ i → i < 26 → X 801 i = 0) (c2 : ∀ i, 0 ≤ i → i < 300 → X 802 i = P 515 (300 * n + i)) (c6 : ∀ k, 0 ≤ k → k < 4 → X 806 k = -1) (n9 : N 299 x = n ∧ N 302 x = 0 ∧ N 303 x = 0) (n0 : ∀ y, 0 ≤ y → y < 26 → N 300 (26 * x + y) = 0) (n1 : ∀ j, 0 ≤ j → j < U n → N 301 (300 * x + j) = Im (300 * n + j)) (n6 : ∀ k, 0 ≤ k → k < 4 → N 306 (4 * x + k) = 0) : h_iq C0 M0 U J F X N x T n := by
  have tt := hX.t hn
  have nn := hn.1
  have u3 := hn.2.1
  have fl := hX.hS.fl nn.1 nn.2
  have i26 : M0 227 n ≤ 26 := by
    have b26 := (f_cn_le M0 n 26).2
    have s1 := fl.2.2.2.1
    have s2 := fl.2.1.2
    have s3 := fl.2.2.1.2
    omega
  have fs := hX.first hn
  refine ⟨⟨⟨c0.1, n9.1⟩, hn⟩, ⟨by omega, by omega, by omega⟩, ⟨by omega, by omega⟩, fun i i0 i1 => ?_, ⟨fun i j pp => ?_, h_MS.cg hX hn fs.2 n1⟩, fun z => absurd c0.2.2 z, fun k k0 k1 => Or.inl ⟨n6 k k0 k1, c6 k k0 k1⟩⟩
  · have ib := (fl.2.2.2.2.1 i i0 i1).2.1
    rw [c1 i i0 (by omega), n0 _ ib.1 ib.2]
    exact ⟨rfl, fun _ => Or.inl rfl⟩
  · have bb := hX.UJ.pb hX.hS hX.ok 8 n tt.1 i j pp
    rw [c2 i bb.1.1 (by omega), n1 j bb.2.1 (by omega)]; exact fs.1 i j pp
/-- ticks -/
theorem s_ticksM (hg : ax_g V) (rx : ax_rg x) (hi : 0 ≤ V 222 102 ∧ V 222 102 ≤ 8) (h : ∀ W, W = ax_u V 222 0 0 → Φ (if 0 ≤ x ∧ x < V 222 102 then V 302 x else -1) W) : ax_I ay_lay (d + 3) q_Model_ticks [.ref 222, ax_i x] V Φ Θ := by
  refine r_Model_ticks hg rx (fun V1 e1 => ?_)
  have s1 : V1 222 102 = V 222 102 := by rw [e1]; exact ax_u_k (by decide)
  have hw := h V1 e1
  refine s_isInstance (d := d) (by rw [e1]; exact ax_u_g hg (by decide)) rx (by rw [s1]; exact hi) ?_
  rw [s1]
  by_cases z : 0 ≤ x ∧ x < V 222 102
  · rw [if_pos z] at hw ⊢
    refine ⟨fun y => absurd y (by decide), fun _ => ⟨⟨z.1, by omega⟩, ?_⟩⟩
    rw [show V1 302 = V 302 by rw [e1]; exact ax_u_ne (by decide)]; exact hw
  · rw [if_neg z] at hw ⊢
    exact ⟨fun _ => hw, fun y => absurd rfl y⟩
set_option maxHeartbeats 1000000 in
/-- save -/
theorem s_saveM (hg : ax_g V) (rx : ax_rg x) (rk : ax_rg k) (hi : 0 ≤ V 222 102 ∧ V 222 102 ≤ 8) (h0 : ¬ ((0 ≤ x ∧ x < V 222 102) ∧ 0 ≤ k ∧ k < 4) → ∀ W, W = ax_u V 222 0 0 → Φ 0 W) (h1 : (0 ≤ x ∧ x < V 222 102) → (0 ≤ k ∧ k < 4) → ∀ W, g_fr [222, 306, 307, 308] V W → g_sc [0] V W → ax_g W → W 222 0 = 0 → W 306 (4 * x + k) = 1 → (∀ i, ¬ i = 4 * x + k → W 306 i = V 306 i ∧ W 308 i = V 308 i) → W 308 (4 * x + k) = V 302 x → (∀ j, 0 ≤ j → j < 300 → W 307 (300 * (4 * x + k) + j) = V 301 (300 * x + j)) → (∀ j, ¬ (300 * (4 * x + k) ≤ j ∧ j < 300 * (4 * x + k) + 300) → W 307 j = V 307 j) → Φ 1 W) : ax_I ay_lay (d + 3) q_Model_save [.ref 222, ax_i x, ax_i k] V Φ Θ := by
  refine r_Model_save hg rx rk (fun V1 e1 => ?_)
  have k1 : ∀ c, ¬ c = 222 → V1 c = V c := fun c z => by rw [e1]; exact ax_u_ne z
  have g1 : ax_g V1 := by rw [e1]; exact ax_u_g hg (by decide)
  have s1 : V1 222 102 = V 222 102 := by rw [e1]; exact ax_u_k (by decide)
  refine s_isInstance (d := d) g1 rx (by rw [s1]; exact hi) ?_
  rw [s1]
  by_cases z : 0 ≤ x ∧ x < V 222 102
  · rw [if_pos z]
    refine ⟨fun y => absurd y (by decide), fun _ => s_within2 (d := d + 1) g1 rk (by decide) (by decide) ?_⟩
    by_cases y : 0 ≤ k ∧ k ≤ 3
    · rw [if_pos y]
      have b4 : 0 ≤ 4 * x + k ∧ 4 * x + k < 32 := ⟨by omega, by omega⟩
      refine ⟨fun w => absurd w (by decide), fun _ => ⟨b4, fun V4 e4 => ⟨⟨z.1, by omega⟩, b4, fun V5 e5 => ?_⟩⟩⟩
      have k5 : ∀ c, ¬ c = 306 → ¬ c = 308 → V5 c = V1 c := fun c w1 w2 => by rw [e5, ax_u_ne w2, e4, ax_u_ne w1]
      have v302 : V4 302 x = V 302 x := by rw [e4, ax_u_ne (by decide), k1 302 (by decide)]
      have g5 : ax_g V5 := by rw [e5]; exact ax_u_g (by rw [e4]; exact ax_u_g g1 (by decide)) (by rw [v302]; exact hg _ _)
      refine ax_for (I := fun s Y => (0 ≤ s ∧ s ≤ 300) ∧ g_fr [307] V5 Y ∧ ax_g Y ∧ (∀ j, 0 ≤ j → j < s → Y 307 (300 * (4 * x + k) + j) = V 301 (300 * x + j)) ∧ ∀ j, ¬ (300 * (4 * x + k) ≤ j ∧ j < 300 * (4 * x + k) + s) → Y 307 j = V 307 j) (K := fun s Y => k_Model_save_53 (d + 2) x k s Y Φ Θ) (hi := 300) (fun s Y w hI nx => ?_) (fun s Y w hI => ?_) 0 V5 ⟨⟨Int.le_refl _, by decide⟩, fun _ _ => rfl, g5, fun j a b => by omega, fun j _ => by rw [k5 307 (by decide) (by decide), k1 307 (by decide)]⟩
      · obtain ⟨sb, fY, gY, iY, oY⟩ := hI
        have v301 : Y 301 = V 301 := by rw [fY 301 (by decide), k5 301 (by decide) (by decide), k1 301 (by decide)]
        refine r_Model_save_53 gY rx rk ⟨by omega, by omega⟩ ⟨fun w' => by omega, fun _ => ⟨⟨by omega, by omega⟩, ⟨by omega, by omega⟩, fun Y1 e1' => nx Y1 ⟨⟨by omega, by omega⟩, by rw [e1']; exact fY.u (by decide), by rw [e1']; exact ax_u_g gY (gY _ _), fun j j0 j1 => ?_, fun j hj => by rw [e1', ax_u_k (by omega)]; exact oY j (by omega)⟩⟩⟩
        by_cases e : j = s
        · rw [e, e1', ax_u_s, v301]
        · rw [e1', ax_u_k (by omega)]; exact iY j j0 (by omega)
      · obtain ⟨sb, fY, gY, iY, oY⟩ := hI
        have es : s = 300 := by omega
        rw [es] at iY oY
        refine r_Model_save_53 gY rx rk ⟨by omega, by omega⟩ ⟨fun _ => h1 z ⟨y.1, by omega⟩ Y (fun c w' => ?_) (fun f w' => ?_) gY ?_ ?_ (fun i hi' => ?_) ?_ iY oY, fun w' => by omega⟩
        · simp only [List.mem_cons, List.not_mem_nil, or_false, not_or] at w'
          rw [fY c (by simp; exact w'.2.2.1), k5 c w'.2.1 w'.2.2.2, k1 c w'.1]
        · rw [fY 222 (by decide), k5 222 (by decide) (by decide), e1]; exact ax_u_k (by simp at w'; exact w')
        · rw [fY 222 (by decide), k5 222 (by decide) (by decide), e1, ax_u_s]
        · rw [fY 306 (by decide), e5, ax_u_ne (by decide), e4, ax_u_s]
        · rw [fY 306 (by decide), fY 308 (by decide), e5, ax_u_ne (by decide), ax_u_k hi', e4, ax_u_k hi', ax_u_ne (by decide), k1 306 (by decide), k1 308 (by decide)]; exact ⟨rfl, rfl⟩
        · rw [fY 308 (by decide), e5, ax_u_s]; exact v302
    · rw [if_neg y]
      exact ⟨fun _ => h0 (fun w => y ⟨w.2.1, by omega⟩) V1 e1, fun w => absurd rfl w⟩
  · rw [if_neg z]
    exact ⟨fun _ => h0 (fun w => z w.1) V1 e1, fun w => absurd rfl w⟩
set_option maxHeartbeats 1000000 in
/-- back -/
theorem s_backM (hg : ax_g V) (rx : ax_rg x) (rk : ax_rg k) (hi : 0 ≤ V 222 102 ∧ V 222 102 ≤ 8) (h0 : ¬ ((0 ≤ x ∧ x < V 222 102) ∧ (0 ≤ k ∧ k < 4) ∧ ¬ V 306 (4 * x + k) = 0) → ∀ W, W = ax_u V 222 0 0 → Φ 0 W) (h1 : (0 ≤ x ∧ x < V 222 102) → (0 ≤ k ∧ k < 4) → ¬ V 306 (4 * x + k) = 0 → ∀ W, g_fr [222, 301, 302] V W → g_sc [0] V W → ax_g W → W 222 0 = 0 → W 302 x = V 308 (4 * x + k) → (∀ i, ¬ i = x → W 302 i = V 302 i) → (∀ j, 0 ≤ j → j < 300 → W 301 (300 * x + j) = V 307 (300 * (4 * x + k) + j)) → (∀ j, ¬ (300 * x ≤ j ∧ j < 300 * x + 300) → W 301 j = V 301 j) → Φ 1 W) : ax_I ay_lay (d + 3) q_Model_back [.ref 222, ax_i x, ax_i k] V Φ Θ := by
  refine r_Model_back hg rx rk (fun V1 e1 => ?_)
  have k1 : ∀ c, ¬ c = 222 → V1 c = V c := fun c z => by rw [e1]; exact ax_u_ne z
  have g1 : ax_g V1 := by rw [e1]; exact ax_u_g hg (by decide)
  have s1 : V1 222 102 = V 222 102 := by rw [e1]; exact ax_u_k (by decide)
  refine s_isInstance (d := d) g1 rx (by rw [s1]; exact hi) ?_
  rw [s1]
  by_cases z : 0 ≤ x ∧ x < V 222 102
  · rw [if_pos z]
    refine ⟨fun y => absurd y (by decide), fun _ => s_within2 (d := d + 1) g1 rk (by decide) (by decide) ?_⟩
    by_cases y : 0 ≤ k ∧ k ≤ 3
    · rw [if_pos y, k1 306 (by decide)]
      have b4 : 0 ≤ 4 * x + k ∧ 4 * x + k < 32 := ⟨by omega, by omega⟩
      refine ⟨fun w => absurd w (by decide), fun _ => ⟨b4, fun sv => h0 (fun w => w.2.2 sv) V1 e1, fun sv => ⟨b4, ⟨z.1, by omega⟩, fun V4 e4 => ?_⟩⟩⟩
      have k4 : ∀ c, ¬ c = 302 → V4 c = V1 c := fun c w => by rw [e4]; exact ax_u_ne w
      have g4 : ax_g V4 := by rw [e4]; exact ax_u_g g1 (g1 _ _)
      refine ax_for (I := fun s Y => (0 ≤ s ∧ s ≤ 300) ∧ g_fr [301] V4 Y ∧ ax_g Y ∧ (∀ j, 0 ≤ j → j < s → Y 301 (300 * x + j) = V 307 (300 * (4 * x + k) + j)) ∧ ∀ j, ¬ (300 * x ≤ j ∧ j < 300 * x + s) → Y 301 j = V 301 j) (K := fun s Y => k_Model_back_55 (d + 2) x k s Y Φ Θ) (hi := 300) (fun s Y w hI nx => ?_) (fun s Y w hI => ?_) 0 V4 ⟨⟨Int.le_refl _, by decide⟩, fun _ _ => rfl, g4, fun j a b => by omega, fun j _ => by rw [k4 301 (by decide), k1 301 (by decide)]⟩
      · obtain ⟨sb, fY, gY, iY, oY⟩ := hI
        have v307 : Y 307 = V 307 := by rw [fY 307 (by decide), k4 307 (by decide), k1 307 (by decide)]
        refine r_Model_back_55 gY rx rk ⟨by omega, by omega⟩ ⟨fun w' => by omega, fun _ => ⟨⟨by omega, by omega⟩, ⟨by omega, by omega⟩, fun Y1 e1' => nx Y1 ⟨⟨by omega, by omega⟩, by rw [e1']; exact fY.u (by decide), by rw [e1']; exact ax_u_g gY (gY _ _), fun j j0 j1 => ?_, fun j hj => by rw [e1', ax_u_k (by omega)]; exact oY j (by omega)⟩⟩⟩
        by_cases e : j = s
        · rw [e, e1', ax_u_s, v307]
        · rw [e1', ax_u_k (by omega)]; exact iY j j0 (by omega)
      · obtain ⟨sb, fY, gY, iY, oY⟩ := hI
        have es : s = 300 := by omega
        rw [es] at iY oY
        refine r_Model_back_55 gY rx rk ⟨by omega, by omega⟩ ⟨fun _ => h1 z ⟨y.1, by omega⟩ sv Y (fun c w' => ?_) (fun f w' => ?_) gY ?_ ?_ (fun i hi' => ?_) iY oY, fun w' => by omega⟩
        · simp only [List.mem_cons, List.not_mem_nil, or_false, not_or] at w'
          rw [fY c (by simp; exact w'.2.1), k4 c w'.2.2, k1 c w'.1]
        · rw [fY 222 (by decide), k4 222 (by decide), e1]; exact ax_u_k (by simp at w'; exact w')
        · rw [fY 222 (by decide), k4 222 (by decide), e1, ax_u_s]
        · rw [fY 302 (by decide), e4, ax_u_s, k1 308 (by decide)]
        · rw [fY 302 (by decide), e4, ax_u_k hi', k1 302 (by decide)]
    · rw [if_neg y]
      exact ⟨fun _ => h0 (fun w => y ⟨w.2.1.1, by omega⟩) V1 e1, fun w => absurd rfl w⟩
  · rw [if_neg z]
    exact ⟨fun _ => h0 (fun w => z w.1) V1 e1, fun w => absurd rfl w⟩
set_option maxHeartbeats 1000000 in
/-- put -/
theorem s_putM (hS : g_S C0 M0) (hV : h_RM C0 M0 S U J Im V) (hg : ax_g V) (rx : ax_rg x) (ri : ax_rg i) (rv : ax_rg v) (hi : 0 ≤ V 222 102 ∧ V 222 102 ≤ 8) (en : (0 ≤ x ∧ x < V 222 102) → V 299 x = n ∧ 0 ≤ n ∧ n < (M0 222 86)) (h0 : ¬ ((0 ≤ x ∧ x < V 222 102) ∧ 0 ≤ i ∧ i < M0 227 n) → ∀ W, W = ax_u V 222 0 0 → Φ 0 W) (h1 : (0 ≤ x ∧ x < V 222 102) → (0 ≤ i ∧ i < M0 227 n) → ∀ W w, (w = if M0 233 (26 * n + M0 230 (26 * n + i)) = 0 then v else if v = 0 then 0 else 1) → W = ax_u (ax_u V 222 0 0) 300 (26 * x + M0 230 (26 * n + i)) w → Φ 1 W) : ax_I ay_lay (d + 3) q_Model_put [.ref 222, ax_i x, ax_i i, ax_i v] V Φ Θ := by
  have hN := hS.2.1
  refine r_Model_put hg rx ri rv (fun V1 e1 => ?_)
  have k1 : ∀ c, ¬ c = 222 → V1 c = V c := fun c z => by rw [e1]; exact ax_u_ne z
  have g1 : ax_g V1 := by rw [e1]; exact ax_u_g hg (by decide)
  have s1 : V1 222 102 = V 222 102 := by rw [e1]; exact ax_u_k (by decide)
  refine s_isInstance (d := d) g1 rx (by rw [s1]; exact hi) ?_
  rw [s1]
  by_cases z : 0 ≤ x ∧ x < V 222 102
  · obtain ⟨e9, n0, n1⟩ := en z
    rw [if_pos z, k1 299 (by decide), e9, k1 227 (by decide), hV.1 227 (by decide) (by decide) (by decide)]
    have fl := hS.fl n0 n1
    have b26 := (f_cn_le M0 n 26).2
    have q1 := fl.2.2.2.1
    have q2 := fl.2.1.2
    have q3 := fl.2.2.1.2
    have q4 := fl.1.2
    refine ⟨fun y => absurd y (by decide), fun _ => ⟨⟨z.1, by omega⟩, ⟨by omega, by omega⟩, s_within2 (d := d + 1) g1 ri (by decide) ⟨by omega, by omega⟩ ?_⟩⟩
    by_cases y : 0 ≤ i ∧ i ≤ M0 227 n - 1
    · have ib := (fl.2.2.2.2.1 i y.1 (by omega)).2.1
      rw [if_pos y, k1 299 (by decide), e9, k1 230 (by decide), hV.1 230 (by decide) (by decide) (by decide), k1 233 (by decide), hV.1 233 (by decide) (by decide) (by decide)]
      have bx : 0 ≤ x ∧ x < 8 := ⟨z.1, by omega⟩
      have bi : 0 ≤ 26 * x + M0 230 (26 * n + i) ∧ 26 * x + M0 230 (26 * n + i) < 208 := ⟨by omega, by omega⟩
      have hh := h1 z ⟨y.1, by omega⟩
      refine ⟨fun w => absurd w (by decide), fun _ => ⟨bx, ⟨by omega, by omega⟩, bx, ⟨by omega, by omega⟩, fun t0 => ⟨bi, fun W eW => hh W v (by rw [if_pos t0]) (by rw [eW, e1])⟩, fun t0 => ⟨fun v0 => ⟨bi, fun W eW => hh W 0 (by rw [if_neg t0, if_pos v0]) (by rw [eW, e1])⟩, fun v0 => ⟨bi, fun W eW => hh W 1 (by rw [if_neg t0, if_neg v0]) (by rw [eW, e1])⟩⟩⟩⟩
    · rw [if_neg y]
      exact ⟨fun _ => h0 (fun w => y ⟨w.2.1, by omega⟩) V1 e1, fun w => absurd rfl w⟩
  · rw [if_neg z]
    exact ⟨fun _ => h0 (fun w => z w.1) V1 e1, fun w => absurd rfl w⟩
end MApi
