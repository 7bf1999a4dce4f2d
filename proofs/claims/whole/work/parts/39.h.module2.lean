/-! module, both sides, whole -/
section ModuleWhole
variable {B Sp w nw : Nat} {m p : Value} {ss : List ax_S} {C N X V W : ax_V} {T T' : Int}
/-- a program's numbers may be said otherwise, where its cells are the same -/
theorem y_L.reP (h : y_L B Sp w nw m p ss) (hc : ∀ (k : Nat) (e : ax_S), (az_P B)[k]? = some e → ax_c W e = ax_c V e) : ax_w ss (fun c => if 500 ≤ c ∧ c ≤ 573 then W c else V c) = ax_w ss V := by
  unfold ax_w
  refine List.map_congr_left (fun s hs => ?_)
  obtain ⟨a, ha⟩ := List.getElem?_of_mem hs
  rcases s with e | ⟨id, x⟩
  · rfl
  · by_cases z : 500 ≤ id ∧ id ≤ 573
    · have l74 : (az_P B).length = 74 := rfl
      obtain ⟨k, rfl⟩ : ∃ k, id = 500 + k := ⟨id - 500, by omega⟩
      obtain ⟨t, ht⟩ : ∃ t, (az_P B)[k]? = some t := ⟨_, List.getElem?_eq_getElem (by omega)⟩
      obtain ⟨_, y, ey⟩ := az_P_e ht
      have u := h.2.1 k t ht
      rw [ey] at u
      have ea := h.1 a (B + k) (500 + k) x y ha u
      rw [ea, u] at ha
      have exy : y = x := by
        have q := Option.some.inj ha
        injection q with q
        injection q
      have q := hc k t ht
      rw [ey, exy] at q
      refine Eq.trans ?_ q
      exact ax_c_ne (if_pos z) _
    · exact ax_c_ne (if_neg z) _
theorem y_RD.pw {P : ax_V} (h : y_RD P N) (hC : ∀ c, 500 ≤ c → c ≤ 573 → C c = P c) : ∃ (C1 M1 : ax_V) (F G Hh S U J : Int → Int), y_pw C N P C1 M1 F G Hh S U J := by
  obtain ⟨C1, M1, F, G, Hh, S, U, J, a1, a2, a3, a4, a5, a6⟩ := h
  exact ⟨C1, M1, F, G, Hh, S, U, J, hC, a1, a2, a3, a4, a5, a6⟩
theorem y_BS.sym (h : y_BS B Sp) : y_BS Sp B := by
  rcases h with z | z
  · exact Or.inr ⟨z.2, z.1⟩
  · exact Or.inl ⟨z.2, z.1⟩
/-- what y_mb and y_mg keep -/
theorem y_mb_c {c : Nat} (h1 : ¬ c = 222) (h2 : ¬ c = 224) : y_mb N c = N c := by
  unfold y_mb
  rw [y_cp_ne h2, ax_u_ne h1, ax_u_ne h1, ax_u_ne h1, ax_u_ne h1]
theorem y_mb_j {j : Int} (h0 : ¬ j = 0) (h3 : ¬ j = 3) (h8 : ¬ j = 8) (h9 : ¬ j = 9) : y_mb N 222 j = N 222 j := by
  unfold y_mb
  rw [y_cp_ne (by decide), ax_u_k h3, ax_u_k h0, ax_u_k h9, ax_u_k h8]
theorem y_mb_v : y_mb N 222 0 = 1 ∧ y_mb N 222 3 = N 222 5 ∧ y_mb N 222 8 = N 222 88 ∧ y_mb N 222 9 = N 222 89 := by
  unfold y_mb
  rw [y_cp_ne (by decide)]
  refine ⟨?_, ?_, ?_, ?_⟩
  · rw [ax_u_k (by decide), ax_u_s]
  · rw [ax_u_s]
  · rw [ax_u_k (by decide), ax_u_k (by decide), ax_u_k (by decide), ax_u_s]
  · rw [ax_u_k (by decide), ax_u_k (by decide), ax_u_s]
theorem y_mb_t {i : Int} (h : 0 ≤ i ∧ i < N 222 5) : y_mb N 224 i = N 225 i := by
  unfold y_mb
  rw [y_cp_i h, ax_u_ne (by decide), ax_u_ne (by decide), ax_u_ne (by decide), ax_u_ne (by decide)]
theorem y_mb_g (h : ax_g N) : ax_g (y_mb N) := y_cp_g (ax_u_g (ax_u_g (ax_u_g (ax_u_g h (h _ _)) (h _ _)) (by decide)) (h _ _))
theorem y_mg_c {c : Nat} (h1 : ¬ c = 222) (h2 : ¬ c = 225) : y_mg N c = N c := by
  unfold y_mg
  rw [ax_u_ne h1, y_cp_ne h2, ax_u_ne h1, ax_u_ne h1, ax_u_ne h1, ax_u_ne h1, ax_u_ne h1]
theorem y_mg_j {j : Int} (h0 : ¬ j = 0) (h5 : ¬ j = 5) (h7 : ¬ j = 7) (h8 : ¬ j = 8) (h9 : ¬ j = 9) (h2 : ¬ j = 102) : y_mg N 222 j = N 222 j := by
  unfold y_mg
  rw [ax_u_k h2, y_cp_ne (by decide), ax_u_k h5, ax_u_k h7, ax_u_k h0, ax_u_k h9, ax_u_k h8]
theorem y_mg_v : y_mg N 222 0 = 0 ∧ y_mg N 222 5 = N 222 3 ∧ y_mg N 222 7 = 1 ∧ y_mg N 222 8 = 0 ∧ y_mg N 222 9 = 0 ∧ y_mg N 222 102 = 0 := by
  unfold y_mg
  refine ⟨?_, ?_, ?_, ?_, ?_, ?_⟩
  · rw [ax_u_k (by decide), y_cp_ne (by decide), ax_u_k (by decide), ax_u_k (by decide), ax_u_s]
  · rw [ax_u_k (by decide), y_cp_ne (by decide), ax_u_s]
  · rw [ax_u_k (by decide), y_cp_ne (by decide), ax_u_k (by decide), ax_u_s]
  · rw [ax_u_k (by decide), y_cp_ne (by decide), ax_u_k (by decide), ax_u_k (by decide), ax_u_k (by decide), ax_u_k (by decide), ax_u_s]
  · rw [ax_u_k (by decide), y_cp_ne (by decide), ax_u_k (by decide), ax_u_k (by decide), ax_u_k (by decide), ax_u_s]
  · rw [ax_u_s]
theorem y_mg_t {i : Int} (h : 0 ≤ i ∧ i < N 222 3) : y_mg N 225 i = N 224 i := by
  unfold y_mg
  rw [ax_u_ne (by decide), y_cp_i h, ax_u_ne (by decide), ax_u_ne (by decide), ax_u_ne (by decide), ax_u_ne (by decide), ax_u_ne (by decide)]
theorem y_mg_g (h : ax_g N) : ax_g (y_mg N) := ax_u_g (y_cp_g (ax_u_g (ax_u_g (ax_u_g (ax_u_g (ax_u_g h (by decide)) (by decide)) (by decide)) (by decide)) (h _ _))) (by decide)
/-- what a module comes to -/
def y_SM (T' : Int) (w nw : Nat) (m p : Value) (ss : List ax_S) (C N : ax_V) : Prop := ∃ (r : Int) (ss' : List ax_S) (C' C2 N' : ax_V) (B' Sp' : Nat) (res : Option Value), ax_rg r ∧ ai_Ex ai_P0 427 q_House_module [.ref 0] (ax_w ss (y_n C N)) (res, ax_w ss' (y_n C' N)) ∧ ai_Ex ai_P0 427 q_Model_module [.ref 222] (ax_w ss' (y_n C' N)) (some (ax_i r), ax_w ss' (y_n C2 N')) ∧ y_L B' Sp' w nw m p ss' ∧ y_RL B' Sp' nw ss' C2 N' T' ∧ (ss'.length ≤ ss.length + 4 ∧ y_c ss' ≤ y_c ss + 40 ∧ y_raw ss ss') ∧ ((res = some (ax_i r) ∧ N' 222 0 = 0 ∧ ∀ s2, y_L B' Sp' w nw m p s2 → ai_Ex ai_P0 427 q_Model_module [.ref 222] (ax_w s2 (y_n C' N)) (some (ax_i r), ax_w s2 (y_n C2 N'))) ∨ (∃ a, res = some (.retAddr a) ∧ ss'[a]? = some ax_ex ∧ N' 222 0 = 1))
set_option maxHeartbeats 2000000 in
theorem y_module (h : y_L B Sp w nw m p ss) (hR : y_RL B Sp nw ss C N T) (hT : T ≤ T') : y_SM T' w nw m p ss C N := by
  obtain ⟨bs, nb, ⟨gC, gN⟩, ⟨⟨t1, t1a, t1b, t1c⟩, t2, t3, t4, t5, t6, t7, t8, t9, t10⟩, b6⟩ := hR
  obtain ⟨V, eV⟩ : ∃ V : ax_V, V = y_n C N := ⟨_, rfl⟩
  have vN : ∀ c, 222 ≤ c → c ≤ 313 → V c = N c := fun c a b => by rw [eV]; exact y_n_k ⟨a, b⟩
  have vC : ∀ c, ¬ (222 ≤ c ∧ c ≤ 313) → V c = C c := fun c a => by rw [eV]; exact y_n_n a
  have gV : ax_g V := by rw [eV]; exact y_n_g gC gN
  obtain ⟨s0, es0⟩ : ∃ s0 : List ax_S, s0 = ss.map (ax_rn y_sw V) := ⟨_, rfl⟩
  obtain ⟨X, eX⟩ : ∃ X : ax_V, X = y_x V := ⟨_, rfl⟩
  have K0 : y_K B Sp w nw m p s0 := by rw [es0]; exact h.swap
  have gX : ax_g X := by rw [eX]; exact y_x_g gV
  have fr : ∀ (a id : Nat) (x : (Nat × Nat) ⊕ (Nat × List (Option Value))), s0[a]? = some (.inr (id, x)) → ¬ (600 ≤ id ∧ id ≤ 602) := by rw [es0]; exact y_sw_fr
  have ew : ax_w ss V = ax_w s0 X := by rw [es0, eX]; exact y_sw_w ss V
  have l0 : s0.length = ss.length := by rw [es0, List.length_map]
  have c0 : y_c s0 = y_c ss := by rw [es0]; exact y_c_rn ss
  have xk : ∀ c, ¬ (500 ≤ c ∧ c ≤ 573) → ¬ (1000 ≤ c ∧ c ≤ 1073) → X c = V c := fun c a b => by rw [eX]; exact y_x_k a b
  have x5 : ∀ c, 500 ≤ c → c ≤ 573 → X c = V (c + 500) := fun c a b => by rw [eX]; exact y_x_5 ⟨a, b⟩
  have x10 : ∀ c, 1000 ≤ c → c ≤ 1073 → X c = V (c - 500) := fun c a b => by rw [eX]; exact y_x_10 ⟨a, b⟩
  have xz : X 508 0 = 0 ∧ X 509 0 = 0 ∧ X 510 0 = 0 := by
    rw [x5 508 (by decide) (by decide), x5 509 (by decide) (by decide), x5 510 (by decide) (by decide), vC _ (by decide), vC _ (by decide), vC _ (by decide)]
    exact ⟨t6, t7, t8⟩
  have X0 : X 0 = C 0 := by rw [xk 0 (by decide) (by decide), vC 0 (by decide)]
  have X1 : X 1 = C 1 := by rw [xk 1 (by decide) (by decide), vC 1 (by decide)]
  have txt : X 0 1 = y_m1 N 222 3 ∧ 0 ≤ y_m1 N 222 3 ∧ y_m1 N 222 3 ≤ 700 ∧ ∀ i, 0 ≤ i → i < y_m1 N 222 3 → X 1 i = y_m1 N 224 i ∧ 33 ≤ y_m1 N 224 i ∧ y_m1 N 224 i ≤ 126 := by
    rw [y_m1_3, X0, X1]
    refine ⟨t1, t1a, t1b, fun i a b => ?_⟩
    rw [y_m1_t ⟨a, b⟩]
    exact t1c i a b
  obtain ⟨M', res, z, ex, gM', mf, mo⟩ := t_moduleH K0 fr bs gX (y_m1_g gN) txt xz
  have mc : ∀ c, (c < 224 ∨ c = 225 ∨ 290 < c) → ¬ c = 222 → M' c = N c := fun c a b => by rw [mf.1 c (by omega) b, y_m1_c b (by omega)]
  have mj : ∀ j : Int, (j ≤ 9 ∨ 90 ≤ j) → ¬ j = 1 → ¬ j = 3 → M' 222 j = N 222 j := fun j a b c => by rw [mf.2 j a, y_m1_j b c]
  have m1 : M' 222 1 = 0 := by rw [mf.2 1 (by decide), y_m1_1]
  have m3 : M' 222 3 = N 222 1 := by rw [mf.2 3 (by decide), y_m1_3]
  have m24 : ∀ i, 0 ≤ i → i < N 222 1 → M' 224 i = N 223 i := fun i a b => by rw [mf.1 224 (by decide) (by decide), y_m1_t ⟨a, b⟩]
  rw [← ew, eV] at ex
  rcases mo with ⟨rm, s1, X', er, ez, K1, ⟨l1, l2, l3⟩, gX', hf, x2, x3, x8⟩ | ⟨rm, s1, X', P, er, ez, L1, ⟨l1, l2, l3⟩, gX', hf, x2, x3, x8, hP, rd⟩
  · -- a fault
    obtain ⟨ss', es'⟩ : ∃ ss' : List ax_S, ss' = (s1 ++ [ax_ex]).map (ax_rn y_sw X') := ⟨_, rfl⟩
    obtain ⟨V', eV'⟩ : ∃ V' : ax_V, V' = y_x X' := ⟨_, rfl⟩
    have ez' : z = ax_w ss' V' := by rw [ez, es', eV']; exact y_sw_w _ _
    have L' : y_L B Sp w nw m p ss' := by rw [es']; exact K1.swap
    have gV' : ax_g V' := by rw [eV']; exact y_x_g gX'
    have vo : ∀ c, ¬ c = 0 → ¬ (500 ≤ c ∧ c ≤ 602) → ¬ (1000 ≤ c ∧ c ≤ 1073) → V' c = V c := fun c a b e => by rw [eV', y_x_k (by omega) e, hf.1 c a b, xk c (by omega) e]
    have v5 : ∀ c, 500 ≤ c → c ≤ 573 → V' c = C c := fun c a b => by rw [eV', y_x_5 ⟨a, b⟩, hf.1 (c + 500) (by omega) (by omega), x10 (c + 500) (by omega) (by omega), show c + 500 - 500 = c by omega, vC c (by omega)]
    have v10 : ∀ c, 508 ≤ c → c ≤ 510 → V' (c + 500) 0 = 0 := fun c a b => by
      rw [eV', y_x_10 ⟨by omega, by omega⟩, show c + 500 - 500 = c by omega, hf.2.1 c a b]
      obtain ⟨u1, u2, u3⟩ := xz
      by_cases z1 : c = 508
      · rw [z1]; exact u1
      · by_cases z2 : c = 509
        · rw [z2]; exact u2
        · rw [show c = 510 by omega]; exact u3
    have v0 : V' 0 = X' 0 := by rw [eV']; exact y_x_k (by decide) (by decide)
    have vn : y_n V' N = V' := by
      funext c
      by_cases y : 222 ≤ c ∧ c ≤ 313
      · rw [y_n_k y, vo c (by omega) (by omega) (by omega), vN c y.1 y.2]
      · rw [y_n_n y]
    have vc : ∀ c, ¬ c = 0 → ¬ (500 ≤ c ∧ c ≤ 602) → ¬ (1000 ≤ c ∧ c ≤ 1073) → ¬ (222 ≤ c ∧ c ≤ 313) → V' c = C c := fun c a b e f => by rw [vo c a b e, vC c f]
    have gx : ss'[s1.length]? = some ax_ex := by
      rw [es', List.getElem?_map, y_glast]
      rfl
    have ll : ss'.length ≤ ss.length + 4 ∧ y_c ss' ≤ y_c ss + 40 ∧ y_raw ss ss' := by
      refine ⟨?_, ?_, fun a e u => ?_⟩
      · rw [es', List.length_map, List.length_append]
        show s1.length + 1 ≤ _
        omega
      · rw [es', y_c_rn, ← c0]; exact l2
      · rw [es', List.getElem?_map, l3 a e (by rw [es0, List.getElem?_map, u]; rfl)]
        rfl
    have n5 : M' 222 5 = N 222 5 := mj 5 (by decide) (by decide) (by decide)
    have n7 : M' 222 7 = N 222 7 := mj 7 (by decide) (by decide) (by decide)
    -- what is said of the texts, the fault, what is made, what was told
    have tt : ∀ {C2 N' : ax_V}, (∀ c, ¬ (500 ≤ c ∧ c ≤ 573) → C2 c = V' c) → (∀ c, 508 ≤ c → c ≤ 510 → C2 c 0 = C c 0) → (∀ j : Int, (1 ≤ j ∧ j ≤ 9) ∨ 90 ≤ j → ¬ j = 3 → N' 222 j = y_mb M' 222 j) → (∀ c, 290 < c → N' c = y_mb M' c) → y_T C2 N' := fun {C2 N'} a b c e => by
      have q8 : N' 222 8 = M' 222 88 := by rw [c 8 (by decide) (by decide)]; exact y_mb_v.2.2.1
      have q9 : N' 222 9 = M' 222 89 := by rw [c 9 (by decide) (by decide)]; exact y_mb_v.2.2.2
      have qj : ∀ j : Int, (1 ≤ j ∧ j ≤ 7) ∨ 90 ≤ j → ¬ j = 1 → ¬ j = 3 → N' 222 j = N 222 j := fun j u v v' => by rw [c j (by omega) v', y_mb_j (by omega) v' (by omega) (by omega)]; exact mj j (by omega) v v'
      have q1 : N' 222 1 = 0 := by rw [c 1 (by decide) (by decide), y_mb_j (by decide) (by decide) (by decide) (by decide)]; exact m1
      have qc : N' 312 = N 312 := by rw [e 312 (by decide), y_mb_c (by decide) (by decide)]; exact mc 312 (by decide) (by decide)
      refine ⟨⟨?_, ?_, ?_, fun i u v => ?_⟩, ⟨?_, ?_⟩, ?_, ?_, ?_, ?_, ?_, ?_, ?_, ?_⟩
      · rw [a 0 (by decide), v0, hf.2.2, q1]
      · rw [q1]; exact Int.le_refl _
      · rw [q1]; decide
      · rw [q1] at v; omega
      · rw [a 0 (by decide), v0, x2, q8]
      · rw [a 0 (by decide), v0, x3, q9]
      · rw [a 0 (by decide), v0, x8, X0, qj 102 (by decide) (by decide) (by decide)]; exact t3
      · rw [a 157 (by decide), a 158 (by decide), vc 157 (by decide) (by decide) (by decide) (by decide), vc 158 (by decide) (by decide) (by decide) (by decide), qj 113 (by decide) (by decide) (by decide), qj 115 (by decide) (by decide) (by decide), qj 120 (by decide) (by decide) (by decide), qc]; exact t4
      · rw [b 508 (by decide) (by decide), b 509 (by decide) (by decide), b 510 (by decide) (by decide)]; exact t5
      · rw [a 1008 (by decide)]; exact v10 508 (by decide) (by decide)
      · rw [a 1009 (by decide)]; exact v10 509 (by decide) (by decide)
      · rw [a 1010 (by decide)]; exact v10 510 (by decide) (by decide)
      · rw [qj 5 (by decide) (by decide) (by decide)]; exact t9
      · rw [qj 5 (by decide) (by decide) (by decide)]; exact t10
    rw [er, ez', ← vn] at ex
    have nb5 : 0 ≤ M' 222 5 ∧ M' 222 5 ≤ 700 := by rw [n5]; exact ⟨t9, t10⟩
    rcases b6 with ⟨a1, a2, a3⟩ | ⟨th, og, P, C1, M1, F, G, Hh, S, U, J, pw, ins⟩
    · obtain ⟨x, W2, rx, gW, ⟨f1, f2⟩, ex2⟩ := L'.N2 (C := V') (N := N) (d := 427) (key := q_Model_module) (vs := [.ref 222]) (Φ := fun x W => x = 0 ∧ W = y_mb M') gV' gN (s_moduleM (N := M') gN ⟨t1a, t1b⟩ (Or.inr ⟨gM', rm, nb5, Or.inl ⟨by rw [n7]; exact a1, rfl, rfl⟩⟩))
      rw [f1, f2] at ex2
      refine ⟨0, ss', V', V', y_mb M', B, Sp, _, by decide, ex, ex2, L', ⟨bs, nb, ⟨gV', y_mb_g gM'⟩, tt (fun _ _ => rfl) (fun c a b => by rw [v5 c (by omega) (by omega)]) (fun _ _ _ => rfl) (fun _ _ => rfl), Or.inl ⟨?_, ?_, ?_⟩⟩, ll, Or.inr ⟨s1.length, rfl, gx, y_mb_v.1⟩⟩
      · rw [y_mb_j (by decide) (by decide) (by decide) (by decide), n7]; exact a1
      · rw [v5 500 (by decide) (by decide)]; exact a2
      · rw [v0, x8, X0]; exact a3
    · -- the old program is taken again
      obtain ⟨B0, w0, nw0, m0, p0, s00, X00, n, z1, k1, f0, bs0, g0, z0, u0, e0, blk⟩ := og
      have txt0 : X00 0 1 = y_mb M' 222 3 ∧ 0 ≤ y_mb M' 222 3 ∧ y_mb M' 222 3 ≤ 700 ∧ ∀ i, 0 ≤ i → i < y_mb M' 222 3 → X00 1 i = y_mb M' 224 i ∧ 33 ≤ y_mb M' 224 i ∧ y_mb M' 224 i ≤ 126 := by
        rw [y_mb_v.2.1, n5]
        refine ⟨u0.1, u0.2.1, u0.2.2.1, fun i a b => ?_⟩
        rw [y_mb_t ⟨a, by rw [n5]; exact b⟩, mc 225 (by decide) (by decide)]
        exact u0.2.2.2 i a b
      obtain ⟨M3, res3, z3, ex3, gM3, mf3, mo3⟩ := t_moduleH k1 f0 bs0 g0 (y_mb_g gM') txt0 z0
      have dt := ex3.det e0
      have dr : res3 = some (ax_i n) := congrArg Prod.fst dt
      have dz : z3 = z1 := congrArg Prod.snd dt
      rcases mo3 with ⟨_, s3, X3, er3, _⟩ | ⟨rm3, s3, X3, P3, er3, ez3, L3, _, gX3, _, _, _, _, hP3, rd3⟩
      · rw [dr] at er3; cases er3
      have cells : ∀ (k : Nat) (e : ax_S), (az_P B)[k]? = some e → ax_c X3 e = ax_c C e := fun k e he => by
        have lt := (az_P_e he).1
        have q := blk k lt
        rw [← dz, ez3, ax_w_get (L3.2.1 k e he), ax_w_get (h.2.1 k e he)] at q
        exact Option.some.inj q
      obtain ⟨N', eN'⟩ : ∃ N' : ax_V, N' = ax_u M3 222 10 (M3 222 86) := ⟨_, rfl⟩
      have gN' : ax_g N' := by rw [eN']; exact ax_u_g gM3 (gM3 _ _)
      have n3c : ∀ c, ¬ c = 222 → N' c = M3 c := fun c a => by rw [eN']; exact ax_u_ne a
      have n3j : ∀ j : Int, ¬ j = 10 → N' 222 j = M3 222 j := fun j a => by rw [eN']; exact ax_u_k a
      obtain ⟨x, W2, rx, gW, ⟨f1, f2⟩, ex2⟩ := L'.N2 (C := V') (N := N) (d := 427) (key := q_Model_module) (vs := [.ref 222]) (Φ := fun x W => x = 0 ∧ W = N') gV' gN (s_moduleM (N := M') gN ⟨t1a, t1b⟩ (Or.inr ⟨gM', rm, nb5, Or.inr ⟨by rw [n7]; omega, M3, gM3, rm3, rfl, eN'.symm⟩⟩))
      rw [f1, f2] at ex2
      obtain ⟨C2, eC2⟩ : ∃ C2 : ax_V, C2 = fun c => if 500 ≤ c ∧ c ≤ 573 then X3 c else V' c := ⟨_, rfl⟩
      have k5 : ∀ c, 500 ≤ c → c ≤ 573 → C2 c = X3 c := fun c a b => by rw [eC2]; exact if_pos ⟨a, b⟩
      have ko : ∀ c, ¬ (500 ≤ c ∧ c ≤ 573) → C2 c = V' c := fun c a => by rw [eC2]; exact if_neg a
      have gC2 : ax_g C2 := fun c i => by
        by_cases y : 500 ≤ c ∧ c ≤ 573
        · rw [k5 c y.1 y.2]; exact gX3 _ _
        · rw [ko c y]; exact gV' _ _
      have cv : ∀ (k : Nat) (e : ax_S), (az_P B)[k]? = some e → ax_c X3 e = ax_c V' e := fun k e he => by
        rw [cells k e he]
        obtain ⟨lt, y, ey⟩ := az_P_e he
        rw [ey]
        exact (ax_c_ne (v5 (500 + k) (by omega) (by omega)) _).symm
      have cvn : ∀ (k : Nat) (e : ax_S), (az_P B)[k]? = some e → ax_c X3 e = ax_c (y_n V' N') e := fun k e he => by
        rw [cv k e he]
        obtain ⟨lt, y, ey⟩ := az_P_e he
        rw [ey]
        exact (ax_c_ne (y_n_n (by omega)) _).symm
      have ewn : ax_w ss' (y_n C2 N') = ax_w ss' (y_n V' N') := by
        rw [← L'.reP cvn]
        refine congrArg (ax_w ss') (funext fun c => ?_)
        by_cases y : 500 ≤ c ∧ c ≤ 573
        · rw [if_pos y, y_n_n (by omega), k5 c y.1 y.2]
        · rw [if_neg y]
          by_cases y2 : 222 ≤ c ∧ c ≤ 313
          · rw [y_n_k y2, y_n_k y2]
          · rw [y_n_n y2, y_n_n y2, ko c y]
      rw [← ewn] at ex2
      have hPc : ∀ c, 500 ≤ c → c ≤ 573 → C2 c = P3 c := fun c a b => by rw [k5 c a b]; exact hP3 c a b
      obtain ⟨C1', M1', F', G', Hh', S', U', J', pw3⟩ := y_RD.pw (C := C2) rd3 hPc
      have pw' : y_pw C2 N' P3 C1' M1' F' G' Hh' S' U' J' := pw3.th (fun _ _ _ => rfl) (fun c a b => n3c c (by omega)) (fun k y => n3j k (by omega))
      -- the same program
      have eqC : y_eq C X3 := y_eq.of gC gX3 cells
      have eqP : y_eq P P3 := by
        obtain ⟨q1, q2, q3, q4, q5⟩ := eqC
        have cp : ∀ c, 500 ≤ c → c ≤ 573 → C c = P c := pw.1
        refine ⟨fun c a b n1 n2 n3 n4 n5 i i0 => ?_, ?_, ?_, ?_, ?_⟩
        · rw [← hP3 c a b, ← cp c a b]; exact q1 c a b n1 n2 n3 n4 n5 i i0
        · rw [← hP3 500 (by decide) (by decide), ← cp 500 (by decide) (by decide)]; exact q2
        · rw [← hP3 516 (by decide) (by decide), ← cp 516 (by decide) (by decide)]; exact q3
        · rw [← hP3 547 (by decide) (by decide), ← cp 547 (by decide) (by decide)]; exact q4
        · rw [← hP3 556 (by decide) (by decide), ← cp 556 (by decide) (by decide)]; exact q5
      have hX := pw.2.1
      have hX' := pw'.2.1
      have sm : y_sm C1 M1 C1' M1' := y_sm.of hX.hS hX'.hS hX.hP hX'.hP eqP
      have sc := sm.1
      have smS := hX.hS.small
      have hUJ : ∀ k, 0 ≤ k → k < (M1 222 86) → U' k = U k ∧ J' k = J k := fun k a b => by
        have u := pw.2.2.2.1 k a b
        have u' := pw'.2.2.2.1 k a (by omega)
        have v13 := eqP.1 513 (by decide) (by decide) (by decide) (by decide) (by decide) (by decide) (by decide) k a
        have v14 := eqP.1 514 (by decide) (by decide) (by decide) (by decide) (by decide) (by decide) (by decide) k a
        exact ⟨by omega, by omega⟩
      have hFF : ∀ q, 0 ≤ q → q < (M1 222 26) → F' q = F q := fun q a b => by
        have u := pw.2.2.2.2.1 q a b
        have u' := pw'.2.2.2.2.1 q a (by omega)
        have v28 := eqP.1 528 (by decide) (by decide) (by decide) (by decide) (by decide) (by decide) (by decide) q a
        omega
      have m3j : ∀ j : Int, (j ≤ 9 ∨ 90 ≤ j) → N' 222 j = y_mb M' 222 j := fun j a => by rw [n3j j (by omega)]; exact mf3.2 j a
      have m3c : ∀ c, (c < 226 ∨ 290 < c) → ¬ c = 222 → N' c = y_mb M' c := fun c a b => by rw [n3c c b]; exact mf3.1 c a b
      refine ⟨0, ss', V', C2, N', B, Sp, _, by decide, ex, ex2, L', ⟨bs, nb, ⟨gC2, gN'⟩, tt ko (fun c a b => ?_) (fun j a b => m3j j (by omega)) (fun c a => m3c c (by omega) (by omega)), Or.inr ⟨?_, ⟨B0, w0, nw0, m0, p0, s00, X00, n, z1, k1, f0, bs0, g0, z0, ?_, e0, fun k hk => ?_⟩, P3, C1', M1', F', G', Hh', S', U', J', pw', fun j hj => ?_⟩⟩, ll, Or.inr ⟨s1.length, rfl, gx, ?_⟩⟩
      · rw [k5 c (by omega) (by omega)]
        exact eqC.1 c (by omega) (by omega) (by omega) (by omega) (by omega) (by omega) (by omega) 0 (by decide)
      · rw [m3j 7 (by decide), y_mb_j (by decide) (by decide) (by decide) (by decide), n7]; exact th
      · rw [m3j 5 (by decide), y_mb_j (by decide) (by decide) (by decide) (by decide), n5, m3c 225 (by decide) (by decide), y_mb_c (by decide) (by decide), mc 225 (by decide) (by decide)]
        exact u0
      · have l74 : (az_P B).length = 74 := rfl
        obtain ⟨s, hs⟩ : ∃ s, (az_P B)[k]? = some s := ⟨_, List.getElem?_eq_getElem (by omega)⟩
        obtain ⟨_, y, ey⟩ := az_P_e hs
        rw [blk k hk, ax_w_get (h.2.1 k s hs), ax_w_get (L'.2.1 k s hs), ← cells k s hs, ey]
        exact congrArg some (ax_c_ne (k5 (500 + k) (by omega) (by omega)) _).symm
      · rw [ko 0 (by decide), v0, x8, X0] at hj
        have j8 : j < 8 := by
          have a := t3.1
          have b := t3.2
          omega
        obtain ⟨n', hi⟩ := ins j hj
        refine ⟨n', ((h_iq.same sm hX.hS hX.ok hUJ hFF hi).at (fun c a b => ?_) (fun c a b => ?_)).up hT⟩
        · obtain ⟨q, rfl⟩ : ∃ q, c = 800 + q := ⟨c - 800, by omega⟩
          rw [y_v_j (by omega), y_v_j (by omega), ko _ (by omega), vc _ (by omega) (by omega) (by omega) (by omega)]
        · rw [m3c c (by omega) (by omega), y_mb_c (by omega) (by omega)]
          exact mc c (by omega) (by omega)
      · have q0 := m3j 0 (by decide)
        rw [q0]; exact y_mb_v.1
  · -- a program that can run
    have vn : y_n X' N = X' := by
      funext c
      by_cases y : 222 ≤ c ∧ c ≤ 313
      · rw [y_n_k y, hf.1 c (by omega) (by omega), xk c (by omega) (by omega), vN c y.1 y.2]
      · rw [y_n_n y]
    have rr : ax_rg (M' 222 86) := gM' _ _
    obtain ⟨x, W2, rx, gW, ⟨f1, f2⟩, ex2⟩ := L1.N2 (C := X') (N := N) (d := 427) (key := q_Model_module) (vs := [.ref 222]) (Φ := fun x W => x = M' 222 86 ∧ W = y_mg M') gX' gN (s_moduleM (N := M') gN ⟨t1a, t1b⟩ (Or.inl ⟨gM', rm, by rw [m3]; exact ⟨t1a, t1b⟩, rfl, rfl⟩))
    rw [f1, f2] at ex2
    have ex0 := ex
    rw [er, ez, ← vn] at ex
    obtain ⟨C1, M1, F, G, Hh, S, U, J, pw⟩ := y_RD.pw (C := X') rd hP
    have gj : ∀ j : Int, 90 ≤ j → ¬ j = 102 → y_mg M' 222 j = N 222 j := fun j a b => by rw [y_mg_j (by omega) (by omega) (by omega) (by omega) (by omega) b]; exact mj j (Or.inr a) (by omega) (by omega)
    have xc : ∀ c, ¬ c = 0 → ¬ (500 ≤ c ∧ c ≤ 602) → ¬ (1000 ≤ c ∧ c ≤ 1073) → ¬ (222 ≤ c ∧ c ≤ 313) → X' c = C c := fun c a b e f => by rw [hf.1 c a b, xk c (by omega) e, vC c f]
    have x1k : ∀ c, 508 ≤ c → c ≤ 510 → X' (c + 500) 0 = C c 0 := fun c a b => by rw [hf.1 (c + 500) (by omega) (by omega), x10 (c + 500) (by omega) (by omega), show c + 500 - 500 = c by omega, vC c (by omega)]
    have n1 : y_mg M' 222 1 = 0 := by rw [y_mg_j (by decide) (by decide) (by decide) (by decide) (by decide) (by decide)]; exact m1
    have n5 : y_mg M' 222 5 = N 222 1 := by rw [y_mg_v.2.1, m3]
    have tt : y_T X' (y_mg M') := by
      refine ⟨⟨?_, ?_, ?_, fun i u v => ?_⟩, ⟨?_, ?_⟩, ?_, ?_, ?_, ?_, ?_, ?_, ?_, ?_⟩
      · rw [hf.2.2, n1]
      · rw [n1]; exact Int.le_refl _
      · rw [n1]; decide
      · rw [n1] at v; omega
      · rw [x2, y_mg_v.2.2.2.1]
      · rw [x3, y_mg_v.2.2.2.2.1]
      · rw [x8, y_mg_v.2.2.2.2.2]; exact ⟨rfl, Int.le_refl _, by decide⟩
      · rw [xc 157 (by decide) (by decide) (by decide) (by decide), xc 158 (by decide) (by decide) (by decide) (by decide), gj 113 (by decide) (by decide), gj 115 (by decide) (by decide), gj 120 (by decide) (by decide), y_mg_c (by decide) (by decide), mc 312 (by decide) (by decide)]; exact t4
      · rw [hf.2.1 508 (by decide) (by decide), hf.2.1 509 (by decide) (by decide), hf.2.1 510 (by decide) (by decide)]; exact xz
      · exact (x1k 508 (by decide) (by decide)).trans t5.1
      · exact (x1k 509 (by decide) (by decide)).trans t5.2.1
      · exact (x1k 510 (by decide) (by decide)).trans t5.2.2
      · rw [n5]; exact t1a
      · rw [n5]; exact t1b
    refine ⟨M' 222 86, s1, X', X', y_mg M', Sp, B, _, rr, ex, ex2, L1, ⟨bs.sym, nb, ⟨gX', y_mg_g gM'⟩, tt, Or.inr ⟨y_mg_v.2.2.1, ⟨B, w, nw, m, p, s0, X, M' 222 86, ax_w s1 X', K0, fr, bs, gX, xz, ?_, ?_, fun k hk => rfl⟩, P, C1, M1, F, G, Hh, S, U, J, pw.th (fun _ _ _ => rfl) (fun c a b => y_mg_c (by omega) (by omega)) (fun k y => y_mg_j (by omega) (by omega) (by omega) (by omega) (by omega) (by omega)), fun j hj => ?_⟩⟩, ⟨by omega, by omega, fun a e u => l3 a e (by rw [es0, List.getElem?_map, u]; rfl)⟩, Or.inl ⟨rfl, y_mg_v.1, fun s2 L2 => by
      obtain ⟨q1, Q1, _, _, ⟨d1, d2⟩, dx⟩ := L2.N2 (C := X') (N := N) (d := 427) (key := q_Model_module) (vs := [.ref 222]) (Φ := fun x W => x = M' 222 86 ∧ W = y_mg M') gX' gN (s_moduleM (N := M') gN ⟨t1a, t1b⟩ (Or.inl ⟨gM', rm, by rw [m3]; exact ⟨t1a, t1b⟩, rfl, rfl⟩))
      rw [d1, d2] at dx
      exact dx⟩⟩
    · rw [n5, X0, X1]
      refine ⟨t1, t1a, t1b, fun i a b => ?_⟩
      rw [y_mg_t ⟨a, by rw [m3]; exact b⟩, m24 i a b]
      exact t1c i a b
    · rw [er, ez] at ex0
      rw [← ew, eV]; exact ex0
    · rw [x8] at hj; omega
end ModuleWhole
