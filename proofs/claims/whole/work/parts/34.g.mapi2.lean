/-! THE MODEL: make, state, out, flow -/
section MApi2
variable {d : Nat} {C0 M0 P V N N' W : ax_V} {F G Hh S U J Im : Int → Int} {n x T k v i : Int} {Φ : Int → ax_V → Prop} {Ψ Θ : ax_V → Prop}
theorem s_isNode (hg : ax_g V) (rk : ax_rg k) (hc : ¬ V 222 7 = 0 → 0 ≤ V 222 86 ∧ V 222 86 ≤ 8) (h : Φ (if ¬ V 222 7 = 0 ∧ 0 ≤ k ∧ k < V 222 86 then 1 else 0) V) : ax_I ay_lay (d + 2) q_Model_isNode [.ref 222, ax_i k] V Φ Θ := by
  refine r_Model_isNode hg rk ⟨fun z => ?_, fun z => s_within2 (d := d) hg rk (by decide) (by have hc' := hc z; exact ⟨by omega, by omega⟩) ?_⟩
  · rw [if_neg (fun w => w.1 z)] at h; exact h
  · by_cases y : 0 ≤ k ∧ k ≤ V 222 86 - 1
    · rw [if_pos ⟨z, y.1, by omega⟩] at h
      rw [if_pos y]
      exact ⟨fun w => absurd w (by decide), fun _ => h⟩
    · rw [if_neg (fun w => y ⟨w.2.1, by omega⟩)] at h
      rw [if_neg y]
      exact ⟨fun _ => h, fun w => absurd rfl w⟩
theorem s_canBe (hg : ax_g V) (rk : ax_rg k) (hc : ¬ V 222 7 = 0 → 0 ≤ V 222 86 ∧ V 222 86 ≤ 8) (h : Φ (if (¬ V 222 7 = 0 ∧ 0 ≤ k ∧ k < V 222 86) ∧ V 289 k ≤ 60 ∧ V 288 k ≤ 300 then 1 else 0) V) : ax_I ay_lay (d + 3) q_Model_canBe [.ref 222, ax_i k] V Φ Θ := by
  refine r_Model_canBe hg rk (s_isNode (d := d) hg rk hc ?_)
  by_cases z : ¬ V 222 7 = 0 ∧ 0 ≤ k ∧ k < V 222 86
  · rw [if_pos z]
    have hc' := hc z.1
    refine ⟨fun w => absurd w (by decide), fun _ => ⟨⟨z.2.1, by omega⟩, fun y => ?_, fun y => ⟨⟨z.2.1, by omega⟩, fun w => ?_, fun w => ?_⟩⟩⟩
    · rw [if_neg (fun u => by omega)] at h; exact h
    · rw [if_neg (fun u => by omega)] at h; exact h
    · rw [if_pos ⟨z, y, w⟩] at h; exact h
  · rw [if_neg z]
    rw [if_neg (fun u => z u.1)] at h
    exact ⟨fun _ => h, fun w => absurd rfl w⟩
set_option maxHeartbeats 1000000 in
/-- make -/
theorem s_makeM (hg : ax_g V) (rk : ax_rg k) (hc : ¬ V 222 7 = 0 → 0 ≤ V 222 86 ∧ V 222 86 ≤ 8) (hi : 0 ≤ V 222 102 ∧ V 222 102 ≤ 8) (hu : (0 ≤ k ∧ k < V 222 86) → 0 ≤ V 288 k) (h0 : ¬ (((¬ V 222 7 = 0 ∧ 0 ≤ k ∧ k < V 222 86) ∧ V 289 k ≤ 60 ∧ V 288 k ≤ 300) ∧ V 222 102 < 8) → ∀ W, W = ax_u V 222 0 0 → Φ (-1) W) (h1 : (¬ V 222 7 = 0 ∧ 0 ≤ k ∧ k < V 222 86) → V 289 k ≤ 60 → V 288 k ≤ 300 → V 222 102 < 8 → ∀ W, g_fr [222, 299, 300, 301, 302, 303, 306] V W → g_sc [0, 102] V W → ax_g W → W 222 0 = 0 → W 222 102 = V 222 102 + 1 → W 299 (V 222 102) = k → W 302 (V 222 102) = 0 → W 303 (V 222 102) = 0 → (∀ j, ¬ j = V 222 102 → W 299 j = V 299 j ∧ W 302 j = V 302 j ∧ W 303 j = V 303 j) → (∀ y, 0 ≤ y → y < 26 → W 300 (26 * V 222 102 + y) = 0) → (∀ j, ¬ (26 * V 222 102 ≤ j ∧ j < 26 * V 222 102 + 26) → W 300 j = V 300 j) → (∀ j, 0 ≤ j → j < V 288 k → W 301 (300 * V 222 102 + j) = V 290 (300 * k + j)) → (∀ j, ¬ (300 * V 222 102 ≤ j ∧ j < 300 * V 222 102 + 300) → W 301 j = V 301 j) → (∀ s, 0 ≤ s → s < 4 → W 306 (4 * V 222 102 + s) = 0) → (∀ j, ¬ (4 * V 222 102 ≤ j ∧ j < 4 * V 222 102 + 4) → W 306 j = V 306 j) → Φ (V 222 102) W) : ax_I ay_lay (d + 4) q_Model_make [.ref 222, ax_i k] V Φ Θ := by
  refine r_Model_make (d := d + 3) hg rk (fun V1 e1 => ?_)
  have k1 : ∀ c, ¬ c = 222 → V1 c = V c := fun c z => by rw [e1]; exact ax_u_ne z
  have g1 : ax_g V1 := by rw [e1]; exact ax_u_g hg (by decide)
  have s1 : ∀ f, ¬ f = 0 → V1 222 f = V 222 f := fun f z => by rw [e1]; exact ax_u_k z
  refine s_canBe (d := d) g1 rk (by rw [s1 86 (by decide), s1 7 (by decide)]; exact hc) ?_
  rw [s1 7 (by decide), s1 86 (by decide), s1 102 (by decide), k1 289 (by decide), k1 288 (by decide)]
  by_cases z : (¬ V 222 7 = 0 ∧ 0 ≤ k ∧ k < V 222 86) ∧ V 289 k ≤ 60 ∧ V 288 k ≤ 300
  · rw [if_pos z]
    have hc' := hc z.1.1
    refine ⟨fun w => absurd w (by decide), fun _ => ⟨fun y => h0 (fun w => by omega) V1 e1, fun y => ⟨⟨by omega, by omega⟩, fun V3 e3 => ?_⟩⟩⟩
    have bx : 0 ≤ V 222 102 ∧ V 222 102 < 8 := ⟨hi.1, by omega⟩
    refine ⟨bx, fun V4 e4 => ⟨bx, fun V5 e5 => ⟨bx, fun V6 e6 => ?_⟩⟩⟩
    have rx : ax_rg (V 222 102) := ⟨by omega, by omega⟩
    have k6 : ∀ c, ¬ c = 222 → ¬ c = 299 → ¬ c = 302 → ¬ c = 303 → V6 c = V c := fun c a1 a2 a3 a4 => by rw [e6, ax_u_ne a4, e5, ax_u_ne a3, e4, ax_u_ne a2, e3, ax_u_ne a1, k1 c a1]
    have s6 : V6 222 = V3 222 := by rw [e6, ax_u_ne (by decide), e5, ax_u_ne (by decide), e4, ax_u_ne (by decide)]
    have g6 : ax_g V6 := by rw [e6, e5, e4, e3]; exact ax_u_g (ax_u_g (ax_u_g (ax_u_g g1 ⟨by omega, by omega⟩) rk) (by decide)) (by decide)
    refine ax_for (I := fun l Y => (0 ≤ l ∧ l ≤ 26) ∧ g_fr [300] V6 Y ∧ ax_g Y ∧ (∀ y, 0 ≤ y → y < l → Y 300 (26 * V 222 102 + y) = 0) ∧ ∀ j, ¬ (26 * V 222 102 ≤ j ∧ j < 26 * V 222 102 + l) → Y 300 j = V 300 j) (K := fun l Y => k_Model_make_62 (d + 3) k (V 222 102) l Y Φ Θ) (hi := 26) (fun l Y w hI nx => ?_) (fun l Y w hI => ?_) 0 V6 ⟨⟨Int.le_refl _, by decide⟩, fun _ _ => rfl, g6, fun y a b => by omega, fun j _ => by rw [k6 300 (by decide) (by decide) (by decide) (by decide)]⟩
    · obtain ⟨lb, fY, gY, iY, oY⟩ := hI
      refine r_Model_make_62 gY rk rx ⟨by omega, by omega⟩ ⟨fun w' => by omega, fun _ => ⟨⟨by omega, by omega⟩, fun Y1 e1' => nx Y1 ⟨⟨by omega, by omega⟩, by rw [e1']; exact fY.u (by decide), by rw [e1']; exact ax_u_g gY (by decide), fun y' y0 y1 => ?_, fun j hj => by rw [e1', ax_u_k (by omega)]; exact oY j (by omega)⟩⟩⟩
      by_cases e : y' = l
      · rw [e, e1', ax_u_s]
      · rw [e1', ax_u_k (by omega)]; exact iY y' y0 (by omega)
    · obtain ⟨lb, fY, gY, iY, oY⟩ := hI
      have el : l = 26 := by omega
      rw [el] at iY oY
      refine r_Model_make_62 gY rk rx ⟨by omega, by omega⟩ ⟨fun _ => ?_, fun w' => by omega⟩
      have v288 : ∀ Z : ax_V, Z 288 = Y 288 → Z 288 k = V 288 k := fun Z e => by rw [e, fY 288 (by decide), k6 288 (by decide) (by decide) (by decide) (by decide)]
      refine ax_for (I := fun s Z => (0 ≤ s ∧ s ≤ V 288 k) ∧ g_fr [301] Y Z ∧ ax_g Z ∧ (∀ j, 0 ≤ j → j < s → Z 301 (300 * V 222 102 + j) = V 290 (300 * k + j)) ∧ ∀ j, ¬ (300 * V 222 102 ≤ j ∧ j < 300 * V 222 102 + s) → Z 301 j = V 301 j) (K := fun s Z => k_Model_make_88 (d + 3) k (V 222 102) s Z Φ Θ) (hi := V 288 k) (fun s Z w hI nx => ?_) (fun s Z w hI => ?_) 0 Y ⟨⟨Int.le_refl _, hu z.1.2⟩, fun _ _ => rfl, gY, fun j a b => by omega, fun j _ => by rw [fY 301 (by decide), k6 301 (by decide) (by decide) (by decide) (by decide)]⟩
      · obtain ⟨sb, fZ, gZ, iZ, oZ⟩ := hI
        have v290 : Z 290 = V 290 := by rw [fZ 290 (by decide), fY 290 (by decide), k6 290 (by decide) (by decide) (by decide) (by decide)]
        refine r_Model_make_88 gZ rk rx ⟨by omega, by omega⟩ ⟨⟨z.1.2.1, by omega⟩, ?_⟩
        rw [v288 Z (fZ 288 (by decide))]
        refine ⟨fun w' => by omega, fun _ => ⟨⟨by omega, by omega⟩, ⟨by omega, by omega⟩, fun Z1 e1' => nx Z1 ⟨⟨by omega, by omega⟩, by rw [e1']; exact fZ.u (by decide), by rw [e1']; exact ax_u_g gZ (gZ _ _), fun j j0 j1 => ?_, fun j hj => by rw [e1', ax_u_k (by omega)]; exact oZ j (by omega)⟩⟩⟩
        by_cases e : j = s
        · rw [e, e1', ax_u_s, v290]
        · rw [e1', ax_u_k (by omega)]; exact iZ j j0 (by omega)
      · obtain ⟨sb, fZ, gZ, iZ, oZ⟩ := hI
        have es : s = V 288 k := by omega
        rw [es] at iZ oZ
        refine r_Model_make_88 gZ rk rx ⟨by omega, by omega⟩ ⟨⟨z.1.2.1, by omega⟩, ?_⟩
        rw [v288 Z (fZ 288 (by decide))]
        refine ⟨fun _ => ?_, fun w' => by omega⟩
        refine ax_for (I := fun s Q => (0 ≤ s ∧ s ≤ 4) ∧ g_fr [306] Z Q ∧ ax_g Q ∧ (∀ j, 0 ≤ j → j < s → Q 306 (4 * V 222 102 + j) = 0) ∧ ∀ j, ¬ (4 * V 222 102 ≤ j ∧ j < 4 * V 222 102 + s) → Q 306 j = V 306 j) (K := fun s Q => k_Model_make_130 (d + 3) (some (ax_i k)) (V 222 102) s Q Φ Θ) (hi := 4) (fun s Q w hI nx => ?_) (fun s Q w hI => ?_) 0 Z ⟨⟨Int.le_refl _, by decide⟩, fun _ _ => rfl, gZ, fun j a b => by omega, fun j _ => by rw [fZ 306 (by decide), fY 306 (by decide), k6 306 (by decide) (by decide) (by decide) (by decide)]⟩
        · obtain ⟨sb2, fQ, gQ, iQ, oQ⟩ := hI
          refine r_Model_make_130 gQ (ax_y_i _) rx ⟨by omega, by omega⟩ ⟨fun w' => by omega, fun _ => ⟨⟨by omega, by omega⟩, fun Q1 e1' => nx Q1 ⟨⟨by omega, by omega⟩, by rw [e1']; exact fQ.u (by decide), by rw [e1']; exact ax_u_g gQ (by decide), fun j j0 j1 => ?_, fun j hj => by rw [e1', ax_u_k (by omega)]; exact oQ j (by omega)⟩⟩⟩
          by_cases e : j = s
          · rw [e, e1', ax_u_s]
          · rw [e1', ax_u_k (by omega)]; exact iQ j j0 (by omega)
        · obtain ⟨sb2, fQ, gQ, iQ, oQ⟩ := hI
          have es2 : s = 4 := by omega
          rw [es2] at iQ oQ
          have kq : ∀ c, ¬ c = 300 → ¬ c = 301 → ¬ c = 306 → Q c = V6 c := fun c a1 a2 a3 => by rw [fQ c (by simp; exact a3), fZ c (by simp; exact a2), fY c (by simp; exact a1)]
          have qs : ∀ f, Q 222 f = V3 222 f := fun f => by rw [kq 222 (by decide) (by decide) (by decide), s6]
          refine r_Model_make_130 gQ (ax_y_i _) rx ⟨by omega, by omega⟩ ⟨fun _ => h1 z.1 z.2.1 z.2.2 bx.2 Q (fun c w' => ?_) (fun f w' => ?_) gQ ?_ ?_ ?_ ?_ ?_ (fun j hj => ?_) (fun y' y0 y1 => ?_) (fun j hj => ?_) (fun j j0 j1 => ?_) (fun j hj => ?_) iQ oQ, fun w' => by omega⟩
          · simp only [List.mem_cons, List.not_mem_nil, or_false, not_or] at w'
            rw [kq c w'.2.2.1 w'.2.2.2.1 w'.2.2.2.2.2.2, k6 c w'.1 w'.2.1 w'.2.2.2.2.1 w'.2.2.2.2.2.1]
          · simp at w'
            rw [qs f, e3, ax_u_k w'.2]; exact s1 f w'.1
          · rw [qs 0, e3, ax_u_k (by decide), e1, ax_u_s]
          · rw [qs 102, e3, ax_u_s]
          · rw [kq 299 (by decide) (by decide) (by decide), e6, ax_u_ne (by decide), e5, ax_u_ne (by decide), e4, ax_u_s]
          · rw [kq 302 (by decide) (by decide) (by decide), e6, ax_u_ne (by decide), e5, ax_u_s]
          · rw [kq 303 (by decide) (by decide) (by decide), e6, ax_u_s]
          · rw [kq 299 (by decide) (by decide) (by decide), kq 302 (by decide) (by decide) (by decide), kq 303 (by decide) (by decide) (by decide)]
            have q9 : V6 299 j = V 299 j := by rw [e6, ax_u_ne (by decide), e5, ax_u_ne (by decide), e4, ax_u_k hj, e3, ax_u_ne (by decide), k1 299 (by decide)]
            have q2 : V6 302 j = V 302 j := by rw [e6, ax_u_ne (by decide), e5, ax_u_k hj, e4, ax_u_ne (by decide), e3, ax_u_ne (by decide), k1 302 (by decide)]
            have q3 : V6 303 j = V 303 j := by rw [e6, ax_u_k hj, e5, ax_u_ne (by decide), e4, ax_u_ne (by decide), e3, ax_u_ne (by decide), k1 303 (by decide)]
            exact ⟨q9, q2, q3⟩
          · rw [fQ 300 (by decide), fZ 300 (by decide)]; exact iY y' y0 y1
          · rw [fQ 300 (by decide), fZ 300 (by decide)]; exact oY j hj
          · rw [fQ 301 (by decide)]; exact iZ j j0 j1
          · rw [fQ 301 (by decide)]; exact oZ j (by omega)
  · rw [if_neg z]
    exact ⟨fun _ => h0 (fun w => z w.1) V1 e1, fun w => absurd rfl w⟩
set_option maxHeartbeats 1000000 in
/-- state -/
theorem s_stateM (hX : h_X C0 M0 P F G Hh S U J Im) (hV : h_RM C0 M0 S U J Im V) (hg : ax_g V) (rx : ax_rg x) (rk : ax_rg k) (hi : 0 ≤ V 222 102 ∧ V 222 102 ≤ 8) (en : (0 ≤ x ∧ x < V 222 102) → V 299 x = n ∧ h_N M0 U J n) (h0 : ¬ ((0 ≤ x ∧ x < V 222 102) ∧ 0 ≤ k ∧ C0 510 n + k < C0 510 (n + 1)) → ∀ W, W = ax_u V 222 0 0 → Φ (-1) W) (h1 : (0 ≤ x ∧ x < V 222 102) → 0 ≤ k → C0 510 n + k < C0 510 (n + 1) → ∀ W, W = ax_u V 222 0 0 → Φ (V 301 (300 * x + h_sa M0 n (C0 510 n + k))) W) : ax_I ay_lay (d + 3) q_Model_state [.ref 222, ax_i x, ax_i k] V Φ Θ := by
  have hS := hX.hS
  have hN := hS.2.1
  have sm := hS.small
  refine r_Model_state hg rx rk (fun V1 e1 => ?_)
  have k1 : ∀ c, ¬ c = 222 → V1 c = V c := fun c z => by rw [e1]; exact ax_u_ne z
  have g1 : ax_g V1 := by rw [e1]; exact ax_u_g hg (by decide)
  have s1 : ∀ f, ¬ f = 0 → V1 222 f = V 222 f := fun f z => by rw [e1]; exact ax_u_k z
  refine s_isInstance (d := d) g1 rx (by rw [s1 102 (by decide)]; exact hi) ?_
  rw [s1 102 (by decide)]
  by_cases z : 0 ≤ x ∧ x < V 222 102
  · rw [if_pos z]
    obtain ⟨e9, hn⟩ := en z
    have nn := hn.1
    have E0 := hS.eqF nn.1 (by omega)
    have E1 := hS.eqF (n := n + 1) (by omega) (by omega)
    have E2 := hS.eqS nn.1 nn.2
    have tb := hX.tb n
    have t3 := (hX.t hn).1
    refine ⟨fun w => absurd w (by decide), fun _ => ⟨fun y => ?_, fun y => h0 (fun w => by omega) V1 e1⟩⟩
    have hrest := h0
    refine ax_for (I := fun a Y => (0 ≤ a ∧ a ≤ (M0 222 55)) ∧ Y = V1) (K := fun a Y => ∀ b, ((a ≤ C0 510 n → b = k) ∧ ((C0 510 n ≤ a ∧ a ≤ C0 510 (n + 1)) → b = k - (a - C0 510 n)) ∧ (C0 510 (n + 1) ≤ a → ¬ C0 510 n + k < C0 510 (n + 1)) ∧ (0 ≤ b ∧ b ≤ k)) → k_Model_state_24 (d + 2) x (some (ax_i k)) b a Y Φ Θ) (hi := (M0 222 55)) (fun a Y w hI nx b hb => ?_) (fun a Y w hI b hb => ?_) 0 V1 ⟨⟨Int.le_refl _, by omega⟩, rfl⟩ k ⟨fun _ => rfl, fun u => by omega, fun u => ?_, y, Int.le_refl _⟩
    · obtain ⟨ab, eY⟩ := hI
      rw [eY]
      have bx : 0 ≤ x ∧ x < 8 := ⟨z.1, by omega⟩
      have ba : 0 ≤ a ∧ a < 351 := ⟨ab.1, by omega⟩
      refine r_Model_state_24 g1 rx (ax_y_i _) ⟨by omega, by omega⟩ ⟨by omega, by omega⟩ ?_
      rw [s1 55 (by decide), hV.2.1.2.2.1, k1 267 (by decide), hV.1 267 (by decide) (by decide) (by decide), k1 299 (by decide), e9]
      have aN := hS.aN ab.1 w nn.1 nn.2
      refine ⟨fun u => by omega, fun _ => ⟨ba, bx, fun an => ?_, fun an => ?_⟩⟩
      · have r := aN.mpr an
        have be : b = k - (a - C0 510 n) := hb.2.1 ⟨r.1, by omega⟩
        refine ⟨fun b0 => ⟨ba, ?_⟩, fun b0 => nx V1 ⟨⟨by omega, by omega⟩, rfl⟩ _ ⟨fun u => by omega, fun u => by omega, fun u => by omega, by omega, by omega⟩⟩
        have sa : h_sa M0 n a = g_ll M0 n 26 + g_ca M0 n a.toNat := rfl
        have ca := (hX.a5 hn ab.1 w an).2
        have c2 := (g_ca_b M0 n a.toNat).1
        rw [k1 270 (by decide), hV.aslot hX hn ab.1 w an, k1 301 (by decide)]
        have ea : a = C0 510 n + k := by omega
        refine ⟨⟨by omega, by omega⟩, ?_⟩
        have hh := h1 z y (by omega) V1 e1
        rw [← ea] at hh
        exact hh
      · have r : ¬ (C0 510 n ≤ a ∧ a < C0 510 (n + 1)) := fun u => an (aN.mp u)
        exact nx V1 ⟨⟨by omega, by omega⟩, rfl⟩ b ⟨fun u => hb.1 (by omega), fun u => by have := hb.1; have := hb.2.1; omega, fun u => by
          by_cases e : C0 510 (n + 1) ≤ a
          · exact hb.2.2.1 e
          · have := hb.1 (by omega); omega, hb.2.2.2⟩
    · obtain ⟨ab, eY⟩ := hI
      rw [eY]
      refine r_Model_state_24 g1 rx (ax_y_i _) ⟨by omega, by omega⟩ ⟨by omega, by omega⟩ ?_
      rw [s1 55 (by decide), hV.2.1.2.2.1]
      exact ⟨fun _ => h0 (fun u => hb.2.2.1 (by omega) u.2.2) V1 e1, fun u => by omega⟩
    · omega
  · rw [if_neg z]
    exact ⟨fun _ => h0 (fun w => z w.1) V1 e1, fun w => absurd rfl w⟩
/-- out -/
theorem s_outM (hS : g_S C0 M0) (hV : h_RM C0 M0 S U J Im V) (hg : ax_g V) (rx : ax_rg x) (ri : ax_rg i) (hi : 0 ≤ V 222 102 ∧ V 222 102 ≤ 8) (en : (0 ≤ x ∧ x < V 222 102) → V 299 x = n ∧ 0 ≤ n ∧ n < (M0 222 86)) (h0 : ¬ ((0 ≤ x ∧ x < V 222 102) ∧ ¬ V 303 x = 0 ∧ 0 ≤ i ∧ i < M0 228 n) → ∀ W, W = ax_u V 222 0 1 → Φ 0 W) (h1 : (0 ≤ x ∧ x < V 222 102) → ¬ V 303 x = 0 → (0 ≤ i ∧ i < M0 228 n) → ∀ W, W = ax_u V 222 0 0 → Φ (V 304 (26 * x + M0 231 (26 * n + i))) W) : ax_I ay_lay (d + 3) q_Model_out [.ref 222, ax_i x, ax_i i] V Φ Θ := by
  have hN := hS.2.1
  have bad : ¬ ((0 ≤ x ∧ x < V 222 102) ∧ ¬ V 303 x = 0 ∧ 0 ≤ i ∧ i < M0 228 n) → k_Model_out_44 (d + 2) x i 1 V Φ Θ := fun no => r_Model_out_44 hg rx ri (by decide) (fun V1 e1 => ⟨fun w => by rw [e1, ax_u_s] at w; exact absurd w (by decide), fun _ => h0 no V1 e1⟩)
  refine r_Model_out hg rx ri (s_isInstance (d := d) hg rx hi ?_)
  by_cases z : 0 ≤ x ∧ x < V 222 102
  · rw [if_pos z]
    obtain ⟨e9, n0, n1⟩ := en z
    have fl := hS.fl n0 n1
    have b26 := (f_cn_le M0 n 26).2
    have q1 := fl.2.2.2.1
    have q2 := fl.1.2
    have q3 := fl.2.2.1.2
    have q4 := fl.2.1.2
    have bx : 0 ≤ x ∧ x < 8 := ⟨z.1, by omega⟩
    rw [e9, hV.1 228 (by decide) (by decide) (by decide)]
    refine ⟨fun w => absurd w (by decide), fun _ => ⟨bx, fun t => bad (fun w => w.2.1 t), fun t => ⟨bx, ⟨n0, by omega⟩, s_within2 (d := d + 1) hg ri (by decide) ⟨by omega, by omega⟩ ?_⟩⟩⟩
    by_cases y : 0 ≤ i ∧ i ≤ M0 228 n - 1
    · rw [if_pos y]
      refine ⟨fun w => absurd w (by decide), fun _ => r_Model_out_44 hg rx ri (by decide) (fun V1 e1 => ⟨fun _ => ⟨bx, ?_⟩, fun w => absurd (by rw [e1, ax_u_s]) w⟩)⟩
      have k1 : ∀ c, ¬ c = 222 → V1 c = V c := fun c z => by rw [e1]; exact ax_u_ne z
      have ob := (fl.2.2.2.2.2.1 i y.1 (by omega)).2.1
      rw [k1 299 (by decide), e9, k1 231 (by decide), hV.1 231 (by decide) (by decide) (by decide), k1 304 (by decide)]
      exact ⟨⟨by omega, by omega⟩, ⟨by omega, by omega⟩, h1 z t ⟨y.1, by omega⟩ V1 e1⟩
    · rw [if_neg y]
      exact ⟨fun _ => bad (fun w => y ⟨w.2.2.1, by omega⟩), fun w => absurd rfl w⟩
  · rw [if_neg z]
    exact ⟨fun _ => bad (fun w => z w.1), fun w => absurd rfl w⟩
set_option maxHeartbeats 1000000 in
/-- flow -/
theorem s_flowM (hS : g_S C0 M0) (hV : h_RM C0 M0 S U J Im V) (hg : ax_g V) (rx : ax_rg x) (ri : ax_rg i) (hi : 0 ≤ V 222 102 ∧ V 222 102 ≤ 8) (en : (0 ≤ x ∧ x < V 222 102) → V 299 x = n ∧ 0 ≤ n ∧ n < (M0 222 86)) (h0 : ¬ ((0 ≤ x ∧ x < V 222 102) ∧ ¬ V 303 x = 0 ∧ (97 ≤ i ∧ i ≤ 122) ∧ ¬ M0 232 (26 * n + (i - 97)) = 0 ∧ ¬ V 305 (26 * x + (i - 97)) = 0) → ∀ W, W = ax_u V 222 0 1 → Φ 0 W) (h1 : (0 ≤ x ∧ x < V 222 102) → ¬ V 303 x = 0 → (97 ≤ i ∧ i ≤ 122) → ¬ M0 232 (26 * n + (i - 97)) = 0 → ¬ V 305 (26 * x + (i - 97)) = 0 → ∀ W, W = ax_u V 222 0 0 → Φ (V 304 (26 * x + (i - 97))) W) : ax_I ay_lay (d + 3) q_Model_flow [.ref 222, ax_i x, ax_i i] V Φ Θ := by
  have hN := hS.2.1
  have bad : ¬ ((0 ≤ x ∧ x < V 222 102) ∧ ¬ V 303 x = 0 ∧ (97 ≤ i ∧ i ≤ 122) ∧ ¬ M0 232 (26 * n + (i - 97)) = 0 ∧ ¬ V 305 (26 * x + (i - 97)) = 0) → ∀ V2, V2 = ax_u V 222 0 1 → ((V2 222 0 = 0 → (0 ≤ 26 * x + (i - 97) ∧ 26 * x + (i - 97) < 208) ∧ Φ (V2 304 (26 * x + (i - 97))) V2) ∧ (¬ V2 222 0 = 0 → Φ 0 V2)) := fun no V2 e2 => ⟨fun w => by rw [e2, ax_u_s] at w; exact absurd w (by decide), fun _ => h0 no V2 e2⟩
  refine r_Model_flow hg rx ri (s_isInstance (d := d) hg rx hi ?_)
  by_cases z : 0 ≤ x ∧ x < V 222 102
  · rw [if_pos z]
    obtain ⟨e9, n0, n1⟩ := en z
    have bx : 0 ≤ x ∧ x < 8 := ⟨z.1, by omega⟩
    refine ⟨fun w => absurd w (by decide), fun _ => ⟨bx, fun t => bad (fun w => w.2.1 t), fun t => s_within2 (d := d + 1) hg ri (by decide) (by decide) ?_⟩⟩
    by_cases y : 97 ≤ i ∧ i ≤ 122
    · rw [if_pos y, e9, hV.1 232 (by decide) (by decide) (by decide)]
      refine ⟨fun w => absurd w (by decide), fun _ => ⟨bx, ⟨by omega, by omega⟩, fun kd => bad (fun w => w.2.2.2.1 kd), fun kd => ⟨⟨by omega, by omega⟩, fun fl => bad (fun w => w.2.2.2.2 fl), fun fl V8 e8 => ⟨fun _ => ⟨⟨by omega, by omega⟩, ?_⟩, fun w => absurd (by rw [e8, ax_u_s]) w⟩⟩⟩⟩
      rw [show V8 304 = V 304 by rw [e8]; exact ax_u_ne (by decide)]
      exact h1 z t y kd fl V8 e8
    · rw [if_neg y]
      exact ⟨fun _ => bad (fun w => y w.2.2.1), fun w => absurd rfl w⟩
  · rw [if_neg z]
    exact ⟨fun _ => bad (fun w => z w.1), fun w => absurd rfl w⟩
end MApi2
