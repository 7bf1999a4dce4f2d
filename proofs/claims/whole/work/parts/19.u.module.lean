/-! A MODULE IS READ -/
section ReadAll
variable {B r : Nat} {C0 M0 : ax_V}
theorem f_N.cnt {C M M' : ax_V} {n : Int} (h : f_N C0 M0 C M n) (eM : M' = ax_u M 222 86 n) : f_N C0 M0 C M' n := by
  obtain ⟨⟨hgC, hgM⟩, hT, hat, hnn, hz, hP, ⟨fC, fM⟩, hLL, hB, hfr, hno, hJ, hPn⟩ := h
  have nn : ∀ c, c ≠ 222 → M' c = M c := fun c z => by rw [eM]; exact ax_u_ne z
  have ns : ∀ j, j ≠ 86 → M' 222 j = M 222 j := fun j z => by rw [eM]; exact ax_u_k z
  refine ⟨⟨hgC, by rw [eM]; exact ax_u_g hgM ⟨by omega, by omega⟩⟩, ?_, ?_, ?_, ?_, ?_, ⟨fC, by rw [eM]; exact fM.us (by decide)⟩, ?_, ?_, ?_, ?_, ?_, hPn⟩
  · unfold e_T at hT ⊢
    rw [ns 3 (by decide), nn 224 (by decide)]; exact hT
  · rw [ns 68 (by decide), ns 3 (by decide)]; exact hat
  · rw [ns 10 (by decide)]; exact hnn
  · rw [ns 69 (by decide), ns 71 (by decide), ns 72 (by decide), ns 70 (by decide)]; exact hz
  · obtain ⟨p1, p2, p3⟩ := hP
    refine ⟨by rw [ns 26 (by decide), ns 68 (by decide)]; exact p1, fun k a b => by rw [ns 10 (by decide)] at b; rw [nn 226 (by decide)]; exact p2 k a b, fun q a b => ?_⟩
    rw [ns 26 (by decide)] at b
    exact (p3 q a b).keep (fun c x y z => rfl) (fun c x y => by rw [nn c (by omega)]) (fun k x y => by rw [nn 226 (by decide)]) (fun x hx => ⟨rfl, rfl, by rw [nn 252 (by decide)], by rw [nn 242 (by decide)]⟩)
  · exact hLL.keep (fun c z => rfl) (fun c z => nn c (by omega)) rfl (ns 73 (by decide)) (ns 77 (by decide)) (by rw [ns 68 (by decide)]; exact Int.le_refl _)
  · rw [ns 55 (by decide)]
    exact hB.tab (fun _ _ => rfl) (fun _ _ _ => rfl) (fun c z => nn c (by omega)) (fun k _ _ => by rw [nn 287 (by decide)]) (fun i _ => by rw [nn 269 (by decide)]) (fun j z => ns j (by omega)) (by rw [ns 68 (by decide)]; exact Int.le_refl _)
  · rw [ns 26 (by decide), ns 44 (by decide), ns 55 (by decide)]; exact hfr
  · intro z k a b
    rw [ns 73 (by decide)] at z
    rw [nn 228 (by decide)]; exact hno z k a b
  · rw [ns 26 (by decide), ns 44 (by decide), ns 55 (by decide), ns 68 (by decide)]; exact hJ
/-- what is read, at the end -/
def f_M (C0 M0 C M : ax_V) : Prop := f_N C0 M0 C M (M 222 86) ∧ 1 ≤ (M 222 86) ∧ (M 222 68) = (M 222 3)
set_option maxHeartbeats 2000000 in
theorem f_nodes (hX : e_X B r 20) : ∀ (m : Nat) (C M : ax_V) (n : Int), f_N C0 M0 C M n → 8 - n ≤ (m : Int) → (n = 0 ∨ (M 222 68) < (M 222 3)) →
    f_go f_nv (fun Φ Θ => ∀ y, ax_y y → k_Reader_read_9 B r 422 n y C (fun v V => v = 1 ∧ Φ V) Θ) (fun C' Φ _ => Φ C') (fun Φ Θ => ax_I ay_lay 424 q_Model_readNode [.ref 222] M (fun r14 V14 => k_Model_readAll_70 424 r14 V14 Φ Θ) Θ) (fun M' Φ _ => Φ 1 M') C0 M0 (fun C' M' => f_M C0 M0 C' M') := by
  intro m
  induction m with
  | zero =>
    intro C M n h hm hlt
    obtain ⟨⟨hgC, hgM⟩, hT, hat, hnn, ⟨h1, h2, h3, h4, h5⟩, hP, ⟨fC, fM⟩, hLL, hB, hfr, hno, hJ, hPn⟩ := h
    have hsz := hT.2.2.1
    have rn : ax_rg n := ⟨by omega, by omega⟩
    have mi : m_in M := ⟨by omega, by omega, by omega⟩
    obtain ⟨M1, eM1⟩ : ∃ X : ax_V, X = ax_u M 222 86 (M 222 10) := ⟨_, rfl⟩
    have M1_g : ax_g M1 := by rw [eM1]; exact (ax_u_g hgM (hgM _ _))
    have M1_n : ∀ c, c ≠ 222 → M1 c = M c := fun c a222 => by rw [eM1, ax_u_ne a222]
    have M1_v0 : M1 222 86 = (M 222 10) := by rw [eM1]; exact ax_u_s _ _ _ _
    have M1_o222 : ∀ i, i ≠ 86 → M1 222 i = M 222 i := fun i b0 => by rw [eM1, ax_u_k b0]
    refine f_go.stop (C' := C) (M' := M1) (fun Φ Θ z y hy => r_Reader_read_9 hgC rn hy ⟨fun q => by omega, fun _ => ⟨fun q => by omega, fun _ => ⟨fun _ => r_Reader_readHead hgC rn ⟨fun _ => t_refuse hgC z, fun q => by omega⟩, fun q => by rw [hat.1, hT.1] at q; omega⟩⟩⟩) (fun Φ Θ z => ?_) ⟨⟨hgC, M1_g⟩, by rw [M1_o222 68 (by decide)]; exact hat.1, fC, by rw [eM1]; exact fM.us (by decide)⟩
    have key : k_Model_readAll_70 424 0 M Φ Θ := r_Model_readAll_70 hgM (by decide) ⟨fun _ V1 e1 => ⟨Or.inl rfl, by rw [e1, ← eM1]; exact z⟩, fun q => absurd rfl q⟩
    refine r_Model_readNode hgM (s_isName hgM mi ?_)
    by_cases w : m_isN M
    · exact ax_b_y w ⟨fun _ => key, fun q => by omega⟩
    · exact ax_b_n w key
  | succ m ih =>
    intro C M n h hm hlt
    by_cases hn8 : n < 8
    · have h9 := h
      obtain ⟨⟨hgC, hgM⟩, hT, hat, hnn, ⟨h1, h2, h3, h4, h5⟩, hP, ⟨fC, fM⟩, hLL, hB, hfr, hno, hJ, hPn⟩ := h
      have hsz := hT.2.2.1
      have rn : ax_rg n := ⟨by omega, by omega⟩
      have k1 := (f_head (B := B) (r := r) h9 hn8).cont (L := fun V Φ Θ => k_Reader_read_39 B r 422 n 0 V (fun v V => v = 1 ∧ Φ V) Θ)
      -- the node, on both sides
      have k2 : f_go f_nv (fun Φ Θ => ∀ y, ax_y y → k_Reader_read_9 B r 422 n y C (fun v V => v = 1 ∧ Φ V) Θ) (fun C' Φ Θ => ∀ y, ax_y y → k_Reader_read_9 B r 422 (n + 1) y C' (fun v V => v = 1 ∧ Φ V) Θ) (fun Φ Θ => ax_I ay_lay 424 q_Model_readNode [.ref 222] M Φ Θ) (fun M' Φ _ => Φ 1 M') C0 M0 (fun C' M' => f_N C0 M0 C' M' (n + 1) ∧ (M 222 68) < (M' 222 68)) := by
        refine (k1.bind0 (fun C1 M1 q1 => ?_)).of (fun Φ Θ z y hy => r_Reader_read_9 hgC rn hy ⟨fun q => by omega, fun _ => ⟨fun _ => z, fun _ => ⟨fun _ => z, fun q => by rw [hat.1, hT.1] at q; omega⟩⟩⟩) (fun Φ Θ z => z)
        obtain ⟨i1, hh1, no1, a1⟩ := q1
        have hat1 := i1.1.2.2.1.1
        have hsz1 := i1.1.2.1.2.2.1
        exact (f_body (B := B) (r := r) (y1 := some (ax_i 26)) (y2 := some (ax_i (26 * n + 25))) hX ⟨hnn.2.1, hn8⟩ (ax_y_i _) (ax_y_i _) 700 C1 M1 0 i1 hh1 no1 (by omega) (by decide) hat1.2.1).mono (fun C2 M2 q2 => ⟨q2.1, by have := q2.2; omega⟩)
      rcases k2 with ⟨C1, M1, a, b, hN, ha⟩ | ⟨C1, M1, a, b, q⟩ | ⟨C1, M1, a, b, q, ci, w⟩
      · have hN9 := hN
        obtain ⟨⟨hgC1, hgM1⟩, hT1, hat1, hnn1, hz1, hP1, ⟨fC1, fM1⟩, hLL1, hB1, hfr1, hno1, hJ1, hPn1⟩ := hN
        have hsz1 := hT1.2.2.1
        by_cases w : (M1 222 68) < (M1 222 3)
        · refine (ih C1 M1 (n + 1) hN9 (by omega) (Or.inr w)).of (fun Φ Θ z => a Φ Θ z) (fun Φ Θ z => b _ Θ ?_)
          exact r_Model_readAll_70 hgM1 (by decide) ⟨fun q => absurd q (by decide), fun _ => ⟨fun q => by omega, fun _ => z⟩⟩
        · have eN : (M1 222 10) = n + 1 := hnn1.1.symm
          obtain ⟨M2, eM2⟩ : ∃ X : ax_V, X = ax_u M1 222 86 (n + 1) := ⟨_, rfl⟩
          have hN2 := hN9.cnt eM2
          have v2 : M2 222 86 = n + 1 := by rw [eM2]; exact ax_u_s _ _ _ _
          refine f_go.ok (C' := C1) (M' := M2) (fun Φ Θ z => a Φ Θ (fun y hy => r_Reader_read_9 hgC1 ⟨by omega, by omega⟩ hy ⟨fun q => by omega, fun _ => ⟨fun q => by omega, fun _ => ⟨fun q => by rw [hat1.1, hT1.1] at q; omega, fun _ => ⟨rfl, z⟩⟩⟩⟩)) (fun Φ Θ z => b _ Θ (r_Model_readAll_70 hgM1 (by decide) ⟨fun q => absurd q (by decide), fun _ => ⟨fun _ V2 e2 => ⟨Or.inr rfl, by rw [e2, eN, ← eM2]; exact z⟩, fun q => absurd q (by omega)⟩⟩)) ⟨by rw [v2]; exact hN2, by omega, ?_⟩
          rw [eM2, ax_u_k (by decide), ax_u_k (by decide)]; omega
      · obtain ⟨q1, q2, q3, q4⟩ := q
        obtain ⟨M2, eM2⟩ : ∃ X : ax_V, X = ax_u M1 222 86 (M1 222 10) := ⟨_, rfl⟩
        have M2_g : ax_g M2 := by rw [eM2]; exact (ax_u_g q1.2 (q1.2 _ _))
        have M2_n : ∀ c, c ≠ 222 → M2 c = M1 c := fun c a222 => by rw [eM2, ax_u_ne a222]
        have M2_v0 : M2 222 86 = (M1 222 10) := by rw [eM2]; exact ax_u_s _ _ _ _
        have M2_o222 : ∀ i, i ≠ 86 → M2 222 i = M1 222 i := fun i b0 => by rw [eM2, ax_u_k b0]
        exact f_go.stop (C' := C1) (M' := M2) a (fun Φ Θ z => b _ Θ (r_Model_readAll_70 q1.2 (by decide) ⟨fun _ V1 e1 => ⟨Or.inl rfl, by rw [e1, ← eM2]; exact z⟩, fun q => absurd rfl q⟩)) ⟨⟨q1.1, M2_g⟩, by rw [M2_o222 68 (by decide)]; exact q2, q3, by rw [eM2]; exact q4.us (by decide)⟩
      · exact absurd w id
    · exact ih C M n h (by have := h.2.2.2.1; omega) hlt
end ReadAll
/-! ARRAYS THAT ARE FILLED; the tables are cleared -/
def ax_fl (V : ax_V) (id : Nat) (n v : Int) : ax_V := fun c i => if c = id ∧ 0 ≤ i ∧ i < n then v else V c i
theorem ax_fl_ne {V : ax_V} {id c : Nat} {n v : Int} (h : c ≠ id) : ax_fl V id n v c = V c := by
  funext i
  unfold ax_fl
  rw [if_neg (fun q => h q.1)]
theorem ax_fl_at {V : ax_V} {id : Nat} {n v i : Int} (h : 0 ≤ i ∧ i < n) : ax_fl V id n v id i = v := by
  unfold ax_fl
  rw [if_pos ⟨rfl, h⟩]
theorem ax_fl_g {V : ax_V} {id : Nat} {n v : Int} (hg : ax_g V) (hv : ax_rg v) : ax_g (ax_fl V id n v) := by
  intro c i
  unfold ax_fl
  split
  · exact hv
  · exact hg _ _
theorem ax_fl_s {V : ax_V} {id : Nat} {k v : Int} (hk : 0 ≤ k) : ax_u (ax_fl V id k v) id k v = ax_fl V id (k + 1) v := by
  funext c i
  unfold ax_u ax_fl
  by_cases q : c = id
  · by_cases w : i = k
    · rw [if_pos ⟨q, w⟩, if_pos ⟨q, by omega, by omega⟩]
    · rw [if_neg (fun z => w z.2)]
      by_cases u : 0 ≤ i ∧ i < k
      · rw [if_pos ⟨q, u⟩, if_pos ⟨q, u.1, by omega⟩]
      · rw [if_neg (fun z => u z.2), if_neg (fun z => u ⟨z.2.1, by omega⟩)]
  · rw [if_neg (fun z => q z.1), if_neg (fun z => q z.1), if_neg (fun z => q z.1)]
theorem t_fill {lay : ax_Lay} {a id n d : Nat} {V : ax_V} {v : Int} {Ψ Θ : ax_V → Prop} (hok : ∀ ss, lay ss → ax_ok ss) (hs : ∀ ss, lay ss → ss[a]? = some (.inr (id, .inl (0, n)))) (hn : n ≤ 1000000) (hg : ax_g V) (hv : ax_rg v) (h : Ψ (ax_fl V id (n : Int) v)) : ax_N lay (d + 1) q_Arrays_fill [.ref a, ax_i v] V Ψ Θ := by
  have key : ∀ (m : Nat) (k : Int), 0 ≤ k → k ≤ (n : Int) → (n : Int) - k ≤ (m : Int) → k_Arrays_fill_5 lay a id n d v k (n : Int) (ax_fl V id k v) Ψ Θ := by
    intro m
    induction m with
    | zero =>
      intro k k0 k1 hm
      have e : k = (n : Int) := by omega
      rw [e]
      exact r_Arrays_fill_5 hok hs hn (ax_fl_g hg hv) hv ⟨by omega, by omega⟩ ⟨by omega, by omega⟩ ⟨fun _ => h, fun q => by omega⟩
    | succ m ih =>
      intro k k0 k1 hm
      by_cases w : k = (n : Int)
      · rw [w]
        exact r_Arrays_fill_5 hok hs hn (ax_fl_g hg hv) hv ⟨by omega, by omega⟩ ⟨by omega, by omega⟩ ⟨fun _ => h, fun q => by omega⟩
      · refine r_Arrays_fill_5 hok hs hn (ax_fl_g hg hv) hv ⟨by omega, by omega⟩ ⟨by omega, by omega⟩ ⟨fun q => by omega, fun _ => ⟨⟨k0, by omega⟩, fun V1 e1 => ?_⟩⟩
        rw [e1, ax_fl_s k0]
        exact ih (k + 1) (by omega) (by omega) (by omega)
  have e0 : ax_fl V id 0 v = V := by
    funext c i
    unfold ax_fl
    rw [if_neg (fun q => by omega)]
  have := key n 0 (by decide) (by omega) (by omega)
  rw [e0] at this
  exact r_Arrays_fill hok hs hn hg hv this
/-- the tables, empty -/
def c_cl (C : ax_V) : ax_V := ax_fl (ax_fl (ax_fl (ax_fl (ax_fl (ax_fl (ax_fl (ax_fl (ax_fl (ax_fl (ax_fl (ax_fl (ax_u (ax_u (ax_u (ax_u (ax_u (ax_u (ax_fl (ax_fl (ax_fl (ax_u C 500 0 0) 503 8 0) 504 8 0) 505 8 0) 516 0 0) 547 0 0) 547 1 0) 556 0 0) 556 1 0) 556 2 0) 533 208 (-1)) 534 208 0) 536 208 (-1)) 537 208 (-1)) 540 208 (-1)) 541 208 (-2)) 542 208 (-1)) 543 208 (-1)) 545 208 0) 546 208 0) 538 208 0) 544 208 0
theorem ax_fl_u {V : ax_V} {a c : Nat} {n v i x : Int} (h : c ≠ a) : ax_u (ax_fl V a n v) c i x = ax_fl (ax_u V c i x) a n v := by
  funext c' i'
  show (if c' = c ∧ i' = i then x else ax_fl V a n v c' i') = if c' = a ∧ 0 ≤ i' ∧ i' < n then v else ax_u V c i x c' i'
  by_cases q : c' = c ∧ i' = i
  · rw [if_pos q, if_neg (fun z => h (q.1.symm.trans z.1)), show ax_u V c i x c' i' = x from if_pos q]
  · rw [if_neg q, show ax_u V c i x c' i' = V c' i' from if_neg q]; rfl
theorem ax_fl_sw {V : ax_V} {k : Int} (hk : 0 ≤ k) : ax_u (ax_u (ax_fl (ax_fl V 538 k 0) 544 k 0) 538 k 0) 544 k 0 = ax_fl (ax_fl V 538 (k + 1) 0) 544 (k + 1) 0 := by
  rw [ax_fl_u (by decide), ax_fl_s hk, ax_fl_s hk]
set_option maxHeartbeats 2000000 in
theorem t_clear {B r d : Nat} {C : ax_V} {Ψ Θ : ax_V → Prop} (hg : ax_g C) (h : Ψ (c_cl C)) : ax_N (az_W B (az_ER B r)) (d + 3) q_Program_clear [.ref B] C Ψ Θ := by
  refine r_Program_clear hg (fun V1 e1 => ?_)
  have g1 : ax_g V1 := by rw [e1]; exact ax_u_g hg (by decide)
  refine t_fill az_ok (az_b 3 rfl) (by decide) g1 (by decide) (t_fill az_ok (az_b 4 rfl) (by decide) (ax_fl_g g1 (by decide)) (by decide) (t_fill az_ok (az_b 5 rfl) (by decide) (ax_fl_g (ax_fl_g g1 (by decide)) (by decide)) (by decide) (fun V5 e5 V6 e6 V7 e7 V8 e8 V9 e9 V10 e10 => ?_)))
  have g10 : ax_g V10 := by rw [e10, e9, e8, e7, e6, e5]; exact ax_u_g (ax_u_g (ax_u_g (ax_u_g (ax_u_g (ax_u_g (ax_fl_g (ax_fl_g (ax_fl_g g1 (by decide)) (by decide)) (by decide)) (by decide)) (by decide)) (by decide)) (by decide)) (by decide)) (by decide)
  obtain ⟨W, eW⟩ : ∃ W : ax_V, W = ax_fl (ax_fl (ax_fl (ax_fl (ax_fl (ax_fl (ax_fl (ax_fl (ax_fl (ax_fl V10 533 208 (-1)) 534 208 0) 536 208 (-1)) 537 208 (-1)) 540 208 (-1)) 541 208 (-2)) 542 208 (-1)) 543 208 (-1)) 545 208 0) 546 208 0 := ⟨_, rfl⟩
  have w1 : ax_g (ax_fl V10 533 208 (-1)) := ax_fl_g g10 (by decide)
  have w2 : ax_g (ax_fl (ax_fl V10 533 208 (-1)) 534 208 0) := ax_fl_g w1 (by decide)
  have w3 : ax_g (ax_fl (ax_fl (ax_fl V10 533 208 (-1)) 534 208 0) 536 208 (-1)) := ax_fl_g w2 (by decide)
  have w4 := ax_fl_g (id := 537) (n := 208) (v := -1) w3 (by decide)
  have w5 := ax_fl_g (id := 540) (n := 208) (v := -1) w4 (by decide)
  have w6 := ax_fl_g (id := 541) (n := 208) (v := -2) w5 (by decide)
  have w7 := ax_fl_g (id := 542) (n := 208) (v := -1) w6 (by decide)
  have w8 := ax_fl_g (id := 543) (n := 208) (v := -1) w7 (by decide)
  have w9 := ax_fl_g (id := 545) (n := 208) (v := 0) w8 (by decide)
  have w10 := ax_fl_g (id := 546) (n := 208) (v := 0) w9 (by decide)
  refine r_Letters_clear g10 (t_fill az_ok (az_b 33 rfl) (by decide) g10 (by decide) (t_fill az_ok (az_b 34 rfl) (by decide) w1 (by decide) (t_fill az_ok (az_b 36 rfl) (by decide) w2 (by decide) (t_fill az_ok (az_b 37 rfl) (by decide) w3 (by decide) (t_fill az_ok (az_b 40 rfl) (by decide) w4 (by decide) (t_fill az_ok (az_b 41 rfl) (by decide) w5 (by decide) (t_fill az_ok (az_b 42 rfl) (by decide) w6 (by decide) (t_fill az_ok (az_b 43 rfl) (by decide) w7 (by decide) (t_fill az_ok (az_b 45 rfl) (by decide) w8 (by decide) (t_fill az_ok (az_b 46 rfl) (by decide) w9 (by decide) ?_))))))))))
  have key : ∀ (m : Nat) (k : Int), 0 ≤ k → k ≤ 208 → 208 - k ≤ (m : Int) → k_Letters_clear_83 B (az_ER B r) (d + 1) k (ax_fl (ax_fl W 538 k 0) 544 k 0) Ψ Θ := by
    have fin : k_Letters_clear_83 B (az_ER B r) (d + 1) 208 (ax_fl (ax_fl W 538 208 0) 544 208 0) Ψ Θ := by
      refine r_Letters_clear_83 (ax_fl_g (ax_fl_g (by rw [eW]; exact w10) (by decide)) (by decide)) (by decide) ⟨fun _ => ?_, fun q => absurd q (by decide)⟩
      have e : ax_fl (ax_fl W 538 208 0) 544 208 0 = c_cl C := by rw [eW, e10, e9, e8, e7, e6, e5, e1]; rfl
      rw [e]; exact h
    intro m
    induction m with
    | zero =>
      intro k k0 k1 hm
      have e : k = 208 := by omega
      rw [e]; exact fin
    | succ m ih =>
      intro k k0 k1 hm
      by_cases w : k = 208
      · rw [w]; exact fin
      · refine r_Letters_clear_83 (ax_fl_g (ax_fl_g (by rw [eW]; exact w10) (by decide)) (by decide)) ⟨by omega, by omega⟩ ⟨fun q => by omega, fun _ => ⟨⟨k0, by omega⟩, fun V1 e1 => ⟨⟨k0, by omega⟩, fun V2 e2 => ?_⟩⟩⟩
        rw [e2, e1, ax_fl_sw k0]
        exact ih (k + 1) (by omega) (by omega) (by omega)
  have e0 : ax_fl (ax_fl W 538 0 0) 544 0 0 = W := by
    funext c i
    unfold ax_fl
    rw [if_neg (fun q => by omega), if_neg (fun q => by omega)]
  have := key 208 0 (by decide) (by decide) (by decide)
  rw [e0, eW] at this
  exact this
