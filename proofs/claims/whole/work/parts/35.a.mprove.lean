/-! PROVING, the model's small methods -/
def h_bit (x i : Int) : Int := ax_and (ax_shr x i) 1
theorem h_bit_t : ∀ x : Fin 16, ∀ i : Fin 4, ax_and (ax_shr ((x : Nat) : Int) ((i : Nat) : Int)) 1 = 0 ∨ ax_and (ax_shr ((x : Nat) : Int) ((i : Nat) : Int)) 1 = 1 := by decide +kernel
theorem h_bit_b {x i : Int} (hx : 0 ≤ x ∧ x < 16) (hi : 0 ≤ i ∧ i < 4) : h_bit x i = 0 ∨ h_bit x i = 1 := by
  have h := h_bit_t ⟨x.toNat, by omega⟩ ⟨i.toNat, by omega⟩
  have e1 : (((⟨x.toNat, by omega⟩ : Fin 16) : Nat) : Int) = x := by show ((x.toNat : Nat) : Int) = x; omega
  have e2 : (((⟨i.toNat, by omega⟩ : Fin 4) : Nat) : Int) = i := by show ((i.toNat : Nat) : Int) = i; omega
  rw [e1, e2] at h
  exact h
section MProve
variable {d : Nat} {C0 M0 P V W : ax_V} {F G Hh S U J Im : Int → Int} {n x m k T : Int} {Φ : Int → ax_V → Prop} {Ψ Θ : ax_V → Prop}
theorem s_feedM (hS : g_S C0 M0) (hV : h_RM C0 M0 S U J Im V) (hg : ax_g V) (n0 : 0 ≤ n) (n1 : n < (M0 222 86)) (rx : ax_rg x) (h : ∀ W, g_fr [293] V W → ax_g W → (∀ i, 0 ≤ i → i < M0 227 n → (∀ i', 0 ≤ i' → i' < M0 227 n → M0 230 (26 * n + i') = M0 230 (26 * n + i) → i' = i) → W 293 (M0 230 (26 * n + i)) = h_bit x i) → Ψ W) : ax_N ay_lay (d + 1) q_Model_feed [.ref 222, ax_i n, ax_i x] V Ψ Θ := by
  have hN := hS.2.1
  have fl := hS.fl n0 n1
  have b26 := (f_cn_le M0 n 26).2
  have q1 := fl.2.2.2.1
  have q2 := fl.2.1.2
  have q3 := fl.2.2.1.2
  have q4 := fl.1.2
  have rn : ax_rg n := ⟨by omega, by omega⟩
  refine r_Model_feed hg rn rx ?_
  refine ax_for (I := fun i X => (0 ≤ i ∧ i ≤ M0 227 n) ∧ g_fr [293] V X ∧ ax_g X ∧ ∀ j, 0 ≤ j → j < i → (∀ i', 0 ≤ i' → i' < M0 227 n → M0 230 (26 * n + i') = M0 230 (26 * n + j) → i' = j) → X 293 (M0 230 (26 * n + j)) = h_bit x j) (K := fun i X => k_Model_feed_2 d n x i X Ψ Θ) (hi := M0 227 n) (fun i X w hI nx => ?_) (fun i X w hI => ?_) 0 V ⟨⟨Int.le_refl _, q4⟩, fun _ _ => rfl, hg, fun j a b => by omega⟩
  · obtain ⟨ib, fX, gX, iX⟩ := hI
    have ip := (fl.2.2.2.2.1 i ib.1 w).2.1
    refine r_Model_feed_2 gX rn rx ⟨by omega, by omega⟩ ⟨⟨n0, by omega⟩, ?_⟩
    rw [fX 227 (by decide), hV.1 227 (by decide) (by decide) (by decide), fX 230 (by decide), hV.1 230 (by decide) (by decide) (by decide)]
    refine ⟨fun z => by omega, fun _ => ⟨⟨by omega, by omega⟩, ⟨by omega, by omega⟩, fun X1 e1 => nx X1 ⟨⟨by omega, by omega⟩, by rw [e1]; exact fX.u (by decide), by rw [e1]; exact ax_u_g gX (ax_rg_of _), fun j j0 j1 uq => ?_⟩⟩⟩
    by_cases y : j = i
    · rw [y, e1, ax_u_s]; rfl
    · have ne : ¬ M0 230 (26 * n + j) = M0 230 (26 * n + i) := fun z => y (uq i ib.1 w z.symm).symm
      rw [e1, ax_u_k ne]; exact iX j j0 (by omega) uq
  · obtain ⟨ib, fX, gX, iX⟩ := hI
    have ei : i = M0 227 n := by omega
    rw [ei] at iX
    refine r_Model_feed_2 gX rn rx ⟨by omega, by omega⟩ ⟨⟨n0, by omega⟩, ?_⟩
    rw [fX 227 (by decide), hV.1 227 (by decide) (by decide) (by decide)]
    exact ⟨fun _ => h X fX gX iX, fun z => by omega⟩
/-- a memory is brought back -/
theorem s_recallM (hg : ax_g V) (hm : 0 ≤ m ∧ m < 300) (hw : 0 ≤ V 222 116 ∧ V 222 116 ≤ 600) (h : ∀ W, g_fr [291, 292] V W → ax_g W → (∀ j, 0 ≤ j → j < V 222 116 → W 291 j = V 309 (600 * m + j) ∧ W 292 j = V 309 (600 * m + j)) → Ψ W) : ax_N ay_lay (d + 1) q_Model_recall [.ref 222, ax_i m] V Ψ Θ := by
  have rm : ax_rg m := ⟨by omega, by omega⟩
  refine r_Model_recall hg rm ?_
  refine ax_for (I := fun i X => (0 ≤ i ∧ i ≤ V 222 116) ∧ g_fr [291, 292] V X ∧ ax_g X ∧ ∀ j, 0 ≤ j → j < i → X 291 j = V 309 (600 * m + j) ∧ X 292 j = V 309 (600 * m + j)) (K := fun i X => k_Model_recall_2 d m i X Ψ Θ) (hi := V 222 116) (fun i X w hI nx => ?_) (fun i X w hI => ?_) 0 V ⟨⟨Int.le_refl _, hw.1⟩, fun _ _ => rfl, hg, fun j a b => by omega⟩
  · obtain ⟨ib, fX, gX, iX⟩ := hI
    refine r_Model_recall_2 gX rm ⟨by omega, by omega⟩ ?_
    rw [fX 222 (by decide), fX 309 (by decide)]
    have bi : 0 ≤ i ∧ i < 600 := ⟨ib.1, by omega⟩
    refine ⟨fun z => by omega, fun _ => ⟨⟨by omega, by omega⟩, bi, fun X1 e1 => ⟨bi, bi, fun X2 e2 => nx X2 ⟨⟨by omega, by omega⟩, by rw [e2, e1]; exact (fX.u (by decide)).u (by decide), ?_, fun j j0 j1 => ?_⟩⟩⟩⟩
    · rw [e2]; exact ax_u_g (by rw [e1]; exact ax_u_g gX (hg _ _)) (by rw [e1, ax_u_s]; exact hg _ _)
    · by_cases y : j = i
      · rw [y, e2, ax_u_ne (by decide), ax_u_s, e1, ax_u_s]; exact ⟨rfl, rfl⟩
      · rw [e2, ax_u_ne (by decide), ax_u_k y, e1, ax_u_k y, ax_u_ne (by decide)]
        exact iX j j0 (by omega)
  · obtain ⟨ib, fX, gX, iX⟩ := hI
    have ei : i = V 222 116 := by omega
    rw [ei] at iX
    refine r_Model_recall_2 gX rm ⟨by omega, by omega⟩ ?_
    rw [fX 222 (by decide)]
    exact ⟨fun _ => h X fX gX iX, fun z => by omega⟩
/-- the first memory of a node, from a place on -/
theorem s_beginM (hg : ax_g V) (hk : 0 ≤ k ∧ k < 9) (hu : 0 ≤ V 288 k ∧ V 288 k ≤ 300) (hT : 0 ≤ T ∧ T + V 288 k ≤ 600) (h : ∀ W, g_fr [292] V W → ax_g W → (∀ j, 0 ≤ j → j < V 288 k → W 292 (T + j) = V 290 (300 * k + j)) → (∀ j, ¬ (T ≤ j ∧ j < T + V 288 k) → W 292 j = V 292 j) → Ψ W) : ax_N ay_lay (d + 1) q_Model_begin [.ref 222, ax_i k, ax_i T] V Ψ Θ := by
  have rk : ax_rg k := ⟨by omega, by omega⟩
  have rT : ax_rg T := ⟨by omega, by omega⟩
  refine r_Model_begin hg rk rT ?_
  refine ax_for (I := fun i X => (0 ≤ i ∧ i ≤ V 288 k) ∧ g_fr [292] V X ∧ ax_g X ∧ (∀ j, 0 ≤ j → j < i → X 292 (T + j) = V 290 (300 * k + j)) ∧ ∀ j, ¬ (T ≤ j ∧ j < T + i) → X 292 j = V 292 j) (K := fun i X => k_Model_begin_2 d k T i X Ψ Θ) (hi := V 288 k) (fun i X w hI nx => ?_) (fun i X w hI => ?_) 0 V ⟨⟨Int.le_refl _, hu.1⟩, fun _ _ => rfl, hg, fun j a b => by omega, fun _ _ => rfl⟩
  · obtain ⟨ib, fX, gX, iX, oX⟩ := hI
    refine r_Model_begin_2 gX rk rT ⟨by omega, by omega⟩ ⟨hk, ?_⟩
    rw [fX 288 (by decide), fX 290 (by decide)]
    refine ⟨fun z => by omega, fun _ => ⟨⟨by omega, by omega⟩, ⟨by omega, by omega⟩, fun X1 e1 => nx X1 ⟨⟨by omega, by omega⟩, by rw [e1]; exact fX.u (by decide), by rw [e1]; exact ax_u_g gX (hg _ _), fun j j0 j1 => ?_, fun j hj => by rw [e1, ax_u_k (by omega)]; exact oX j (by omega)⟩⟩⟩
    by_cases y : j = i
    · rw [y, e1, ax_u_s]
    · rw [e1, ax_u_k (by omega)]; exact iX j j0 (by omega)
  · obtain ⟨ib, fX, gX, iX, oX⟩ := hI
    have ei : i = V 288 k := by omega
    rw [ei] at iX oX
    refine r_Model_begin_2 gX rk rT ⟨by omega, by omega⟩ ⟨hk, ?_⟩
    rw [fX 288 (by decide)]
    exact ⟨fun _ => h X fX gX iX oX, fun z => by omega⟩
/-- a memory is kept -/
theorem s_keepM {m x : Int} (hg : ax_g V) (rm : ax_rg m) (rx : ax_rg x) (hf : 0 ≤ V 222 115 ∧ V 222 115 < 300) (hw : 0 ≤ V 222 116 ∧ V 222 116 ≤ 600) (h : ∀ W, g_fr [222, 309, 310, 311] V W → g_sc [115] V W → ax_g W → W 222 115 = V 222 115 + 1 → (∀ j, 0 ≤ j → j < V 222 116 → W 309 (600 * V 222 115 + j) = V 292 j) → (∀ j, ¬ (600 * V 222 115 ≤ j ∧ j < 600 * V 222 115 + 600) → W 309 j = V 309 j) → W 310 (V 222 115) = m → W 311 (V 222 115) = x → (∀ j, ¬ j = V 222 115 → W 310 j = V 310 j ∧ W 311 j = V 311 j) → Ψ W) : ax_N ay_lay (d + 1) q_Model_keep [.ref 222, ax_i m, ax_i x] V Ψ Θ := by
  refine r_Model_keep hg rm rx ?_
  refine ax_for (I := fun i X => (0 ≤ i ∧ i ≤ V 222 116) ∧ g_fr [309] V X ∧ ax_g X ∧ (∀ j, 0 ≤ j → j < i → X 309 (600 * V 222 115 + j) = V 292 j) ∧ ∀ j, ¬ (600 * V 222 115 ≤ j ∧ j < 600 * V 222 115 + i) → X 309 j = V 309 j) (K := fun i X => k_Model_keep_2 d m x i X Ψ Θ) (hi := V 222 116) (fun i X w hI nx => ?_) (fun i X w hI => ?_) 0 V ⟨⟨Int.le_refl _, hw.1⟩, fun _ _ => rfl, hg, fun j a b => by omega, fun _ _ => rfl⟩
  · obtain ⟨ib, fX, gX, iX, oX⟩ := hI
    refine r_Model_keep_2 gX rm rx ⟨by omega, by omega⟩ ?_
    rw [fX 222 (by decide), fX 292 (by decide)]
    refine ⟨fun z => by omega, fun _ => ⟨⟨ib.1, by omega⟩, ⟨by omega, by omega⟩, fun X1 e1 => nx X1 ⟨⟨by omega, by omega⟩, by rw [e1]; exact fX.u (by decide), by rw [e1]; exact ax_u_g gX (hg _ _), fun j j0 j1 => ?_, fun j hj => by rw [e1, ax_u_k (by omega)]; exact oX j (by omega)⟩⟩⟩
    by_cases y : j = i
    · rw [y, e1, ax_u_s]
    · rw [e1, ax_u_k (by omega)]; exact iX j j0 (by omega)
  · obtain ⟨ib, fX, gX, iX, oX⟩ := hI
    have ei : i = V 222 116 := by omega
    rw [ei] at iX oX
    refine r_Model_keep_2 gX rm rx ⟨by omega, by omega⟩ ?_
    rw [fX 222 (by decide)]
    refine ⟨fun _ => ⟨hf, fun X1 e1 => ?_⟩, fun z => by omega⟩
    have x1 : X1 222 = V 222 := by rw [e1, ax_u_ne (by decide), fX 222 (by decide)]
    rw [x1]
    refine ⟨hf, fun X2 e2 => ?_⟩
    have x2 : X2 222 = V 222 := by rw [e2, ax_u_ne (by decide), x1]
    rw [x2]
    refine ⟨⟨by omega, by omega⟩, fun X3 e3 => h X3 (fun c z => ?_) (fun f z => ?_) ?_ ?_ (fun j j0 j1 => ?_) (fun j hj => ?_) ?_ ?_ (fun j hj => ?_)⟩
    · simp only [List.mem_cons, List.not_mem_nil, or_false, not_or] at z
      rw [e3, ax_u_ne z.1, e2, ax_u_ne z.2.2.2, e1, ax_u_ne z.2.2.1, fX c (by simp; exact z.2.1)]
    · simp at z
      rw [e3, ax_u_k z, x2]
    · rw [e3, e2, e1]; exact ax_u_g (ax_u_g (ax_u_g gX rm) rx) ⟨by omega, by omega⟩
    · rw [e3, ax_u_s]
    · rw [e3, ax_u_ne (by decide), e2, ax_u_ne (by decide), e1, ax_u_ne (by decide)]; exact iX j j0 j1
    · rw [e3, ax_u_ne (by decide), e2, ax_u_ne (by decide), e1, ax_u_ne (by decide)]; exact oX j (by omega)
    · rw [e3, ax_u_ne (by decide), e2, ax_u_ne (by decide), e1, ax_u_s]
    · rw [e3, ax_u_ne (by decide), e2, ax_u_s]
    · rw [e3, ax_u_ne (by decide), ax_u_ne (by decide), e2, ax_u_ne (by decide), ax_u_k hj, e1, ax_u_k hj, ax_u_ne (by decide), fX 310 (by decide), fX 311 (by decide)]; exact ⟨rfl, rfl⟩
/-- has this memory been found? -/
theorem s_isSeenM (hg : ax_g V) (hf : 0 ≤ V 222 115 ∧ V 222 115 ≤ 300) (hw : 0 ≤ V 222 116 ∧ V 222 116 ≤ 600) (h1 : (∃ m, (0 ≤ m ∧ m < V 222 115) ∧ ∀ j, 0 ≤ j → j < V 222 116 → V 309 (600 * m + j) = V 292 j) → Φ 1 V) (h0 : (∀ m, 0 ≤ m → m < V 222 115 → ¬ ∀ j, 0 ≤ j → j < V 222 116 → V 309 (600 * m + j) = V 292 j) → Φ 0 V) : ax_I ay_lay (d + 1) q_Model_isSeen [.ref 222] V Φ Θ := by
  refine r_Model_isSeen hg ?_
  refine ax_for (I := fun m X => ((0 ≤ m ∧ m ≤ V 222 115) ∧ ∀ m', 0 ≤ m' → m' < m → ¬ ∀ j, 0 ≤ j → j < V 222 116 → V 309 (600 * m' + j) = V 292 j) ∧ X = V) (K := fun m X => ∀ y2 y3, ax_y y2 → ax_y y3 → k_Model_isSeen_2 d m y2 y3 X Φ Θ) (hi := V 222 115) (fun m X w hI nx y2 y3 hy2 hy3 => ?_) (fun m X w hI y2 y3 hy2 hy3 => ?_) 0 V ⟨⟨⟨Int.le_refl _, hf.1⟩, fun m' a b => by omega⟩, rfl⟩ none none ax_y_n ax_y_n
  · obtain ⟨⟨mb, no⟩, eX⟩ := hI
    rw [eX]
    have rm : ax_rg m := ⟨by omega, by omega⟩
    refine r_Model_isSeen_2 hg rm hy2 hy3 ⟨fun z => by omega, fun _ => ?_⟩
    have miss : (¬ ∀ j, 0 ≤ j → j < V 222 116 → V 309 (600 * m + j) = V 292 j) → ∀ y2 y3, ax_y y2 → ax_y y3 → k_Model_isSeen_2 d (m + 1) y2 y3 V Φ Θ := fun ne y2 y3 a b => nx V ⟨⟨⟨by omega, by omega⟩, fun m' u v => by
      by_cases e : m' = m
      · rw [e]; exact ne
      · exact no m' u (by omega)⟩, rfl⟩ y2 y3 a b
    refine ax_for (I := fun j X => ((0 ≤ j ∧ j ≤ V 222 116) ∧ ∀ j', 0 ≤ j' → j' < j → V 309 (600 * m + j') = V 292 j') ∧ X = V) (K := fun j X => k_Model_isSeen_14 d m 1 j X Φ Θ) (hi := V 222 116) (fun j X w' hI nx' => ?_) (fun j X w' hI => ?_) 0 V ⟨⟨⟨Int.le_refl _, hw.1⟩, fun j' a b => by omega⟩, rfl⟩
    · obtain ⟨⟨jb, eq⟩, eX'⟩ := hI
      rw [eX']
      have rj : ax_rg j := ⟨by omega, by omega⟩
      refine r_Model_isSeen_14 hg rm (by decide) rj ⟨fun z => by omega, fun _ => ⟨fun z => absurd z (by decide), fun _ => ⟨⟨by omega, by omega⟩, ⟨jb.1, by omega⟩, fun e => nx' V ⟨⟨⟨by omega, by omega⟩, fun j' a b => ?_⟩, rfl⟩, fun e => ?_⟩⟩⟩
      · by_cases y : j' = j
        · rw [y]; exact e
        · exact eq j' a (by omega)
      · have ne : ¬ ∀ j, 0 ≤ j → j < V 222 116 → V 309 (600 * m + j) = V 292 j := fun all => e (all j jb.1 w')
        refine r_Model_isSeen_14 hg rm (by decide) ⟨by omega, by omega⟩ ⟨fun z => ⟨fun _ => miss ne _ _ (ax_y_i _) (ax_y_i _), fun y => absurd rfl y⟩, fun z => ⟨fun _ => ⟨fun _ => miss ne _ _ (ax_y_i _) (ax_y_i _), fun y => absurd rfl y⟩, fun y => absurd rfl y⟩⟩
    · obtain ⟨⟨jb, eq⟩, eX'⟩ := hI
      rw [eX']
      refine r_Model_isSeen_14 hg rm (by decide) ⟨by omega, by omega⟩ ⟨fun _ => ⟨fun z => absurd z (by decide), fun _ => h1 ⟨m, ⟨mb.1, w⟩, fun j' a b => eq j' a (by omega)⟩⟩, fun z => by omega⟩
  · obtain ⟨⟨mb, no⟩, eX⟩ := hI
    rw [eX]
    refine r_Model_isSeen_2 hg ⟨by omega, by omega⟩ hy2 hy3 ⟨fun _ => h0 (fun m' a b => no m' a (by omega)), fun z => by omega⟩
end MProve
