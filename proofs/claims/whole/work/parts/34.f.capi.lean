/-! THE CLASS'S OTHER METHODS about instances -/
section CApi
variable {B q d : Nat} {Sp : az_H} {Jx : Int} {C0 M0 P V W : ax_V} {F G Hh S U J Im : Int → Int} {n x k v i : Int} {Φ : Int → ax_V → Prop} {Ψ Θ : ax_V → Prop}
theorem t_isMade (hg : ax_g V) (rx : ax_rg x) (h : Φ (if 0 ≤ x ∧ x < V 0 8 then 1 else 0) V) : ax_I (az_W B (az_EH B Sp q Jx)) (d + 1) q_House_isMade [.ref 0, ax_i x] V Φ Θ := by
  refine r_House_isMade hg rx ⟨fun z => ?_, fun z => ⟨fun y => ?_, fun y => ?_⟩⟩
  · rw [if_neg (by omega)] at h; exact h
  · rw [if_neg (by omega)] at h; exact h
  · rw [if_pos ⟨z, y⟩] at h; exact h
theorem t_ticksH (hg : ax_g V) (rx : ax_rg x) (hJ : 0 ≤ x → x < V 0 8 → x = Jx ∧ x < 8) (h : Φ (if 0 ≤ x ∧ x < V 0 8 then V 800 1 else -1) V) : ax_I (az_W B (az_EH B Sp q Jx)) (d + 2) q_House_ticks [.ref 0, ax_i x] V Φ Θ := by
  refine r_House_ticks hg rx (t_isMade (d := d) hg rx ?_)
  by_cases z : 0 ≤ x ∧ x < V 0 8
  · rw [if_pos z] at h ⊢
    have j := hJ z.1 z.2
    exact ⟨fun y => absurd y (by decide), fun _ => ⟨j.1, ⟨z.1, j.2⟩, h⟩⟩
  · rw [if_neg z] at h ⊢
    exact ⟨fun _ => h, fun y => absurd rfl y⟩
theorem t_saveH (hg : ax_g V) (rx : ax_rg x) (rk : ax_rg k) (hJ : 0 ≤ x → x < V 0 8 → x = Jx ∧ x < 8) (h0 : ¬ ((0 ≤ x ∧ x < V 0 8) ∧ 0 ≤ k ∧ k < 4) → Φ 0 V) (h1 : (0 ≤ x ∧ x < V 0 8) → (0 ≤ k ∧ k < 4) → ∀ W, g_fr [805, 806] V W → ax_g W → (∀ i, 0 ≤ i → i < 300 → W 805 (300 * k + i) = V 802 i) → (∀ i, ¬ (300 * k ≤ i ∧ i < 300 * k + 300) → W 805 i = V 805 i) → W 806 k = V 800 1 → (∀ i, ¬ i = k → W 806 i = V 806 i) → Φ 1 W) : ax_I (az_W B (az_EH B Sp q Jx)) (d + 2) q_House_save [.ref 0, ax_i x, ax_i k] V Φ Θ := by
  refine r_House_save hg rx rk (t_isMade (d := d) hg rx ?_)
  by_cases z : 0 ≤ x ∧ x < V 0 8
  · rw [if_pos z]
    have j := hJ z.1 z.2
    refine ⟨fun y => absurd y (by decide), fun _ => ⟨fun y => h0 (fun w => by omega), fun y => ⟨fun w => ⟨j.1, ⟨z.1, j.2⟩, ?_⟩, fun w => h0 (fun u => by omega)⟩⟩⟩
    refine ax_N.lay az_EH_I (Nat.le_refl _) (r_Instance_keep (d := d) hg rk ⟨⟨by decide, by omega, by decide, by decide, by omega⟩, fun V1 e1 => ⟨⟨y, w⟩, fun V2 e2 => ?_⟩⟩)
    have k1 : ∀ c, ¬ c = 805 → V1 c = V c := fun c u => by rw [e1]; exact ax_cp_ne u
    refine h1 z ⟨y, w⟩ V2 (fun c u => ?_) ?_ (fun i i0 i1 => ?_) (fun i hi => ?_) ?_ (fun i hi => ?_)
    · simp only [List.mem_cons, List.not_mem_nil, or_false, not_or] at u
      rw [e2, ax_u_ne u.2, k1 c u.1]
    · rw [e2]; exact ax_u_g (by rw [e1]; exact ax_cp_g hg) (by rw [k1 800 (by decide)]; exact hg _ _)
    · rw [e2, ax_u_ne (by decide), e1, ax_cp_i ⟨by omega, by omega⟩]
      rw [show 0 + (300 * k + i - k * 300) = i by omega]
    · rw [e2, ax_u_ne (by decide), e1, ax_cp_o (by omega)]
    · rw [e2, ax_u_s, k1 800 (by decide)]
    · rw [e2, ax_u_k hi, k1 806 (by decide)]
  · rw [if_neg z]
    exact ⟨fun _ => h0 (fun w => z w.1), fun y => absurd rfl y⟩
theorem t_backH (hg : ax_g V) (rx : ax_rg x) (rk : ax_rg k) (hJ : 0 ≤ x → x < V 0 8 → x = Jx ∧ x < 8) (h0 : ¬ ((0 ≤ x ∧ x < V 0 8) ∧ (0 ≤ k ∧ k < 4) ∧ ¬ V 806 k = -1) → Φ 0 V) (h1 : (0 ≤ x ∧ x < V 0 8) → (0 ≤ k ∧ k < 4) → ¬ V 806 k = -1 → ∀ W, g_fr [800, 802] V W → ax_g W → W 800 0 = V 800 0 → W 800 2 = V 800 2 → W 800 1 = V 806 k → (∀ i, 0 ≤ i → i < 300 → W 802 i = V 805 (300 * k + i)) → Φ 1 W) : ax_I (az_W B (az_EH B Sp q Jx)) (d + 2) q_House_back [.ref 0, ax_i x, ax_i k] V Φ Θ := by
  refine r_House_back hg rx rk (t_isMade (d := d) hg rx ?_)
  by_cases z : 0 ≤ x ∧ x < V 0 8
  · rw [if_pos z]
    have j := hJ z.1 z.2
    refine ⟨fun y => absurd y (by decide), fun _ => ⟨fun y => h0 (fun w => by omega), fun y => ⟨fun w => ⟨j.1, ⟨z.1, j.2⟩, ?_⟩, fun w => h0 (fun u => by omega)⟩⟩⟩
    refine ax_I.lay az_EH_I (Nat.le_refl _) (r_Instance_bringBack (d := d) hg rk ⟨⟨y, w⟩, fun s => ⟨Or.inl rfl, h0 (fun u => u.2.2 s)⟩, fun s => ⟨⟨by omega, by decide, by decide, by omega, by decide⟩, fun V1 e1 => ⟨⟨y, w⟩, fun V2 e2 => ⟨Or.inr rfl, ?_⟩⟩⟩⟩)
    have k1 : ∀ c, ¬ c = 802 → V1 c = V c := fun c u => by rw [e1]; exact ax_cp_ne u
    refine h1 z ⟨y, w⟩ s V2 (fun c u => ?_) ?_ ?_ ?_ ?_ (fun i i0 i1 => ?_)
    · simp only [List.mem_cons, List.not_mem_nil, or_false, not_or] at u
      rw [e2, ax_u_ne u.1, k1 c u.2]
    · rw [e2]; exact ax_u_g (by rw [e1]; exact ax_cp_g hg) (by rw [k1 806 (by decide)]; exact hg _ _)
    · rw [e2, ax_u_k (by decide), k1 800 (by decide)]
    · rw [e2, ax_u_k (by decide), k1 800 (by decide)]
    · rw [e2, ax_u_s, k1 806 (by decide)]
    · rw [e2, ax_u_ne (by decide), e1, ax_cp_i ⟨i0, by omega⟩]
      rw [show k * 300 + (i - 0) = 300 * k + i by omega]
  · rw [if_neg z]
    exact ⟨fun _ => h0 (fun w => z w.1), fun y => absurd rfl y⟩
theorem t_putH (hS : g_S C0 M0) (hP : ∀ c, 500 ≤ c → c ≤ 573 → c ∉ g_XP → V c = C0 c) (hg : ax_g V) (rx : ax_rg x) (ri : ax_rg i) (rv : ax_rg v) (hJ : 0 ≤ x → x < V 0 8 → x = Jx ∧ x < 8) (en : (0 ≤ x ∧ x < V 0 8) → V 800 0 = n ∧ 0 ≤ n ∧ n < (M0 222 86)) (h0 : ¬ ((0 ≤ x ∧ x < V 0 8) ∧ 0 ≤ i ∧ i < M0 227 n) → Φ 0 V) (h1 : (0 ≤ x ∧ x < V 0 8) → (0 ≤ i ∧ i < M0 227 n) → ∀ W w, (w = if M0 233 (26 * n + M0 230 (26 * n + i)) = 0 then v else if v = 0 then 0 else 1) → W = ax_u V 801 i w → Φ 1 W) : ax_I (az_W B (az_EH B Sp q Jx)) (d + 2) q_House_put [.ref 0, ax_i x, ax_i i, ax_i v] V Φ Θ := by
  have hN := hS.2.1
  refine r_House_put hg rx ri rv (t_isMade (d := d) hg rx ?_)
  by_cases z : 0 ≤ x ∧ x < V 0 8
  · rw [if_pos z]
    have j := hJ z.1 z.2
    obtain ⟨e8, n0, n1⟩ := en z
    have fl := hS.fl n0 n1
    have b26 := (f_cn_le M0 n 26).2
    have q1 := fl.2.2.2.1
    have q2 := fl.2.1.2
    have q3 := fl.2.2.1.2
    have q4 := fl.1.2
    rw [e8, hP 503 (by decide) (by decide) (by decide), hP 506 (by decide) (by decide) (by decide), hP 535 (by decide) (by decide) (by decide), show C0 503 n = M0 227 n from fl.1.1]
    have bx : 0 ≤ x ∧ x < 8 := ⟨z.1, j.2⟩
    refine ⟨fun y => absurd y (by decide), fun _ => ⟨fun y => h0 (fun w => by omega), fun y => ⟨j.1, bx, ⟨n0, by omega⟩, fun w => ?_, fun w => h0 (fun u => by omega)⟩⟩⟩
    have ip := hS.inp (i := i) n0 n1 y w
    have kd := (fl.2.2.2.2.1 i y w).2.2
    have sl : C0 506 (n * 26 + i) = 26 * n + M0 230 (26 * n + i) := by rw [show n * 26 + i = 26 * n + i by omega]; exact ip.1
    have st : C0 535 (26 * n + M0 230 (26 * n + i)) = M0 233 (26 * n + M0 230 (26 * n + i)) := ip.2.2.1
    have ty := ((hS.l n0 n1 ip.2.1.1 ip.2.1.2).2.2.1 (by omega)).2.2.2
    rw [sl, st]
    have bi : 0 ≤ i ∧ i < 26 := ⟨y, by omega⟩
    have hh := h1 z ⟨y, w⟩
    refine ⟨j.1, bx, ⟨by omega, by omega⟩, ⟨by omega, by omega⟩, fun t1 => ⟨fun v0 => ⟨bi, fun W eW => hh W v (by rw [if_neg (by omega), if_pos v0, v0]) eW⟩, fun v0 => ⟨bi, fun W eW => hh W 1 (by rw [if_neg (by omega), if_neg v0]) eW⟩⟩, fun t1 => ⟨bi, fun W eW => hh W v (by rw [if_pos (by omega)]) eW⟩⟩
  · rw [if_neg z]
    exact ⟨fun _ => h0 (fun w => z w.1), fun y => absurd rfl y⟩
/-- state -/
theorem t_stateH (hX : h_X C0 M0 P F G Hh S U J Im) (hP : ∀ c, 500 ≤ c → c ≤ 573 → V c = P c) (hg : ax_g V) (rx : ax_rg x) (rk : ax_rg k) (hJ : 0 ≤ x → x < V 0 8 → x = Jx ∧ x < 8) (en : (0 ≤ x ∧ x < V 0 8) → V 800 0 = n ∧ h_N M0 U J n) (h0 : ¬ ((0 ≤ x ∧ x < V 0 8) ∧ 0 ≤ k ∧ C0 510 n + k < C0 510 (n + 1)) → Φ (-1) V) (h1 : (0 ≤ x ∧ x < V 0 8) → 0 ≤ k → C0 510 n + k < C0 510 (n + 1) → Φ (V 802 (g_cp C0 M0 U n ((M0 222 26)).toNat + g_ca M0 n (C0 510 n + k).toNat)) V) : ax_I (az_W B (az_EH B Sp q Jx)) (d + 2) q_House_state [.ref 0, ax_i x, ax_i k] V Φ Θ := by
  have hS := hX.hS
  have hN := hS.2.1
  refine r_House_state hg rx rk (t_isMade (d := d) hg rx ?_)
  by_cases z : 0 ≤ x ∧ x < V 0 8
  · rw [if_pos z]
    have j := hJ z.1 z.2
    obtain ⟨e8, hn⟩ := en z
    have nn := hn.1
    have sm := hS.small
    have E0 := hS.eqF nn.1 (by omega)
    have E1 := hS.eqF (n := n + 1) (by omega) (by omega)
    have tb := hX.tb n
    have t3 := (hX.t hn).1
    have e510 : V 510 = C0 510 := by rw [hP 510 (by decide) (by decide)]; exact hX.hP 510 (by decide)
    rw [e8, e510, hP 560 (by decide) (by decide)]
    refine ⟨fun y => absurd y (by decide), fun _ => ⟨j.1, ⟨z.1, j.2⟩, ⟨nn.1, by omega⟩, fun y => h0 (fun w => by omega), fun y => ⟨⟨by omega, by omega⟩, ⟨by omega, by omega⟩, fun w => ?_, fun w => h0 (fun u => by omega)⟩⟩⟩
    have a0 : 0 ≤ C0 510 n + k := by omega
    have a1 : C0 510 n + k < (M0 222 55) := by omega
    have an := (hS.aN a0 a1 nn.1 nn.2).mp ⟨by omega, by omega⟩
    have ca := hX.a5 hn a0 a1 an
    rw [ca.1]
    exact ⟨⟨a0, by omega⟩, ⟨by omega, by omega⟩, h1 z y (by omega)⟩
  · rw [if_neg z]
    exact ⟨fun _ => h0 (fun w => z w.1), fun y => absurd rfl y⟩
theorem t_fillA {lay : ax_Lay} {a id m : Nat} (hok : ∀ ss, lay ss → ax_ok ss) (hs : ∀ ss, lay ss → ss[a]? = some (.inr (id, .inl (0, m)))) (hm : m ≤ 1000000) (hg : ax_g V) (rv : ax_rg v) (h : ∀ W, g_fr [id] V W → ax_g W → (∀ i, 0 ≤ i → i < (m : Int) → W id i = v) → Ψ W) : ax_N lay (d + 1) q_Arrays_fill [.ref a, ax_i v] V Ψ Θ := by
  refine r_Arrays_fill hok hs hm hg rv ?_
  refine ax_for (I := fun i X => (0 ≤ i ∧ i ≤ (m : Int)) ∧ g_fr [id] V X ∧ ax_g X ∧ ∀ j, 0 ≤ j → j < i → X id j = v) (K := fun i X => k_Arrays_fill_5 lay a id m d v i (m : Int) X Ψ Θ) (hi := (m : Int)) (fun i X w hI nx => ?_) (fun i X w hI => ?_) 0 V ⟨⟨Int.le_refl _, by omega⟩, fun _ _ => rfl, hg, fun j a b => by omega⟩
  · obtain ⟨ib, fX, gX, iX⟩ := hI
    refine r_Arrays_fill_5 hok hs hm gX rv ⟨by omega, by omega⟩ ⟨by omega, by omega⟩ ⟨fun z => by omega, fun _ => ⟨⟨ib.1, w⟩, fun X1 e1 => nx X1 ⟨⟨by omega, by omega⟩, by rw [e1]; exact fX.u (by simp), by rw [e1]; exact ax_u_g gX rv, fun j j0 j1 => ?_⟩⟩⟩
    by_cases y : j = i
    · rw [y, e1, ax_u_s]
    · rw [e1, ax_u_k y]; exact iX j j0 (by omega)
  · obtain ⟨ib, fX, gX, iX⟩ := hI
    have ei : i = (m : Int) := by omega
    rw [ei] at iX
    refine r_Arrays_fill_5 hok hs hm gX rv ⟨by omega, by omega⟩ ⟨by omega, by omega⟩ ⟨fun _ => h X fX gX iX, fun z => by omega⟩
set_option maxHeartbeats 1000000 in
/-- make -/
theorem t_makeH (hg : ax_g V) (rk : ax_rg k) (hn : 0 ≤ V 500 0 ∧ V 500 0 ≤ 8) (hm : 0 ≤ V 0 8 ∧ V 0 8 ≤ 8) (hJ : V 0 8 < 8 → V 0 8 = Jx) (h0 : ¬ ((0 ≤ k ∧ k < V 500 0) ∧ V 513 k ≤ 60 ∧ V 514 k ≤ 300 ∧ V 0 8 < 8) → Φ (-1) V) (h1 : (0 ≤ k ∧ k < V 500 0) → V 513 k ≤ 60 → V 514 k ≤ 300 → V 0 8 < 8 → ∀ W, g_fr [0, 800, 801, 802, 806] V W → (∀ f, ¬ f = 8 → W 0 f = V 0 f) → ax_g W → W 0 8 = V 0 8 + 1 → W 800 0 = k → W 800 1 = 0 → W 800 2 = 0 → (∀ i, 0 ≤ i → i < 26 → W 801 i = 0) → (∀ i, 0 ≤ i → i < 300 → W 802 i = V 515 (300 * k + i)) → (∀ i, 0 ≤ i → i < 4 → W 806 i = -1) → Φ (V 0 8) W) : ax_I (az_W B (az_EH B Sp q Jx)) (d + 4) q_House_make [.ref 0, ax_i k] V Φ Θ := by
  refine r_House_make (d := d + 3) hg rk (r_Program_canMake (d := d + 2) hg rk (r_Program_has (d := d + 1) hg rk ⟨fun z => ⟨fun _ => ⟨fun _ => h0 (fun w => by omega), fun y => absurd rfl y⟩, fun y => absurd rfl y⟩, fun z => ⟨fun y => ⟨fun _ => ⟨fun _ => h0 (fun w => by omega), fun u => absurd rfl u⟩, fun u => absurd rfl u⟩, fun y => ⟨fun u => absurd u (by decide), fun _ => ⟨⟨z, by omega⟩, fun u => ⟨fun _ => h0 (fun w => by omega), fun u => absurd rfl u⟩, fun u => ⟨⟨z, by omega⟩, fun t => ⟨fun _ => h0 (fun w => by omega), fun u => absurd rfl u⟩, fun t => ⟨fun u => absurd u (by decide), fun _ => ⟨fun s => ?_, fun s => h0 (fun w => by omega)⟩⟩⟩⟩⟩⟩⟩))
  refine ⟨hJ s, ⟨hm.1, s⟩, ax_N.lay az_EH_I (Nat.le_refl _) (r_Instance_begin (d := d + 2) hg rk (fun V1 e1 V2 e2 V3 e3 => ?_))⟩
  have k3 : ∀ c, ¬ c = 800 → V3 c = V c := fun c w => by rw [e3, ax_u_ne w, e2, ax_u_ne w, e1, ax_u_ne w]
  have g3 : ax_g V3 := by rw [e3, e2, e1]; exact ax_u_g (ax_u_g (ax_u_g hg rk) (by decide)) (by decide)
  have a0 : V3 800 0 = k := by rw [e3, ax_u_k (by decide), e2, ax_u_k (by decide), e1, ax_u_s]
  have a1 : V3 800 1 = 0 := by rw [e3, ax_u_k (by decide), e2, ax_u_s]
  have a2 : V3 800 2 = 0 := by rw [e3, ax_u_s]
  refine t_fillA (d := d + 1) (id := 801) (m := 26) (fun ss h => h.1) (fun ss h => h.2.2 7 _ rfl) (by decide) g3 (by decide) (fun V4 f4 g4 i4 => ⟨⟨by omega, by decide, by decide, by omega, by decide⟩, fun V5 e5 => ?_⟩)
  have k5 : ∀ c, ¬ c = 802 → V5 c = V4 c := fun c w => by rw [e5]; exact ax_cp_ne w
  have g5 : ax_g V5 := by rw [e5]; exact ax_cp_g g4
  refine t_fillA (d := d + 1) (id := 806) (m := 4) (fun ss h => h.1) (fun ss h => h.2.2 12 _ rfl) (by decide) g5 (by decide) (fun V6 f6 g6 i6 => ?_)
  have c0 : ∀ f, V6 0 f = V 0 f := fun f => by rw [f6 0 (by decide), k5 0 (by decide), f4 0 (by decide), k3 0 (by decide)]
  have c8 : V6 800 = V3 800 := by rw [f6 800 (by decide), k5 800 (by decide), f4 800 (by decide)]
  rw [c0]
  refine ⟨⟨by omega, by omega⟩, fun V7 e7 => ?_⟩
  have s7 : V7 0 8 = V 0 8 + 1 := by rw [e7, ax_u_s]
  have k7 : ∀ c, ¬ c = 0 → V7 c = V6 c := fun c w => by rw [e7]; exact ax_u_ne w
  rw [s7, show V 0 8 + 1 - 1 = V 0 8 by omega]
  refine ⟨⟨by omega, by omega⟩, h1 ⟨z, y⟩ u t s V7 (fun c w => ?_) (fun f w => ?_) ?_ s7 ?_ ?_ ?_ (fun i i0 i1 => ?_) (fun i i0 i1 => ?_) (fun i i0 i1 => ?_)⟩
  · simp only [List.mem_cons, List.not_mem_nil, or_false, not_or] at w
    rw [k7 c w.1, f6 c (by simp; exact w.2.2.2.2), k5 c w.2.2.2.1, f4 c (by simp; exact w.2.2.1), k3 c w.2.1]
  · rw [e7, ax_u_k w]; exact c0 f
  · rw [e7]; exact ax_u_g g6 ⟨by omega, by omega⟩
  · rw [k7 800 (by decide), c8]; exact a0
  · rw [k7 800 (by decide), c8]; exact a1
  · rw [k7 800 (by decide), c8]; exact a2
  · rw [k7 801 (by decide), f6 801 (by decide), k5 801 (by decide)]; exact i4 i i0 i1
  · rw [k7 802 (by decide), f6 802 (by decide), e5, ax_cp_i ⟨i0, by omega⟩, f4 515 (by decide), k3 515 (by decide)]
    rw [show k * 300 + (i - 0) = 300 * k + i by omega]
  · rw [k7 806 (by decide)]; exact i6 i i0 i1
end CApi
