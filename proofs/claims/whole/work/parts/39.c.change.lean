/-! CALLS THAT CHANGE AN INSTANCE: save, back, put, make, tick -/
theorem y_v_b {j c : Nat} {C W : ax_V} (h : 800 ≤ c ∧ c ≤ 806) : y_v j (y_b j C W) c = W c := by
  obtain ⟨i, rfl⟩ : ∃ i, c = 800 + i := ⟨c - 800, by omega⟩
  rw [y_v_j (by omega), y_b_j (by omega)]
theorem y_v_o {j j' c : Nat} {C W : ax_V} (h : 800 ≤ c ∧ c ≤ 806) (ne : ¬ j' = j) : y_v j' (y_b j C W) c = y_v j' C c := by
  obtain ⟨i, rfl⟩ : ∃ i, c = 800 + i := ⟨c - 800, by omega⟩
  rw [y_v_j (by omega), y_v_j (by omega), y_b_n (by omega) (by omega)]
section Change
variable {B Sp w nw : Nat} {m p : Value} {ss : List ax_S} {C N C' N' W : ax_V} {T T' x k i v : Int}
theorem y_L.blk (h : y_L B Sp w nw m p ss) (e : ∀ c, 500 ≤ c → c ≤ 573 → C' c = C c) : ∀ k, k < 74 → (ax_w ss C')[B + k]? = (ax_w ss C)[B + k]? := fun k hk => by
  have l : (az_P B).length = 74 := rfl
  obtain ⟨s, hs⟩ : ∃ s, (az_P B)[k]? = some s := ⟨_, List.getElem?_eq_getElem (by omega)⟩
  obtain ⟨_, y, ey⟩ := az_P_e hs
  have u := h.2.1 k s hs
  rw [ax_w_get u, ax_w_get u, ey, ax_c_ne (e (500 + k) (by omega) (by omega))]
/-- the relation, when one instance has changed -/
theorem y_RL.upd {P C1 M1 : ax_V} {F G Hh S U J : Int → Int} (h : y_L B Sp w nw m p ss) (hR : y_RL B Sp nw ss C N T) (hx : 0 ≤ x ∧ x < C 0 8) (og : y_og B (ax_w ss C) N) (th : N 222 7 = 1) (pw : y_pw C N P C1 M1 F G Hh S U J) (ins : ∀ j : Nat, (j : Int) < C 0 8 → ∃ n, h_iq C1 M1 U J F (y_v j C) N (j : Int) T n) (gW : ax_g W) (gN' : ax_g N') (hW : ∀ c, (c < 222 ∧ ¬ (150 ≤ c ∧ c ≤ 155)) ∨ (500 ≤ c ∧ c ≤ 573) → W c = C c) (hN : ∀ c, (223 ≤ c ∧ c ≤ 290) ∨ c = 312 → N' c = N c) (hs : ∀ k : Int, k = 1 ∨ k = 5 ∨ k = 7 ∨ k = 8 ∨ k = 9 ∨ k = 26 ∨ k = 44 ∨ k = 55 ∨ k = 60 ∨ k = 86 ∨ k = 102 ∨ k = 113 ∨ k = 115 ∨ k = 120 → N' 222 k = N 222 k)
    (me : ∃ n, h_iq C1 M1 U J F W N' x T' n) (ot : ∀ j : Nat, (j : Int) < C 0 8 → ¬ (j : Int) = x → ∀ n, h_iq C1 M1 U J F (y_v j C) N (j : Int) T n → h_iq C1 M1 U J F (y_v j C) N' (j : Int) T' n) : y_RL B Sp nw ss (y_b (y_jx x) C W) N' T' := by
  have jx := hR.jx hx
  have md := hR.md
  have mi := hR.mi
  have ck : ∀ c, (c < 222 ∧ ¬ (150 ≤ c ∧ c ≤ 155)) ∨ (500 ≤ c ∧ c ≤ 573) → y_b (y_jx x) C W c = C c := fun c z => by rw [y_b_k (by omega)]; exact hW c z
  have co : ∀ c, 1000 ≤ c → y_b (y_jx x) C W c = C c := fun c z => y_b_n (by have := y_jx_lt x; omega) (by omega)
  obtain ⟨b1, b2, b3, b5, b6⟩ := hR
  refine ⟨b1, b2, ⟨ax_bk_g b3.1 gW, gN'⟩, ?_, Or.inr ⟨by rw [hs 7 (by decide)]; exact th, og.th (hs 5 (by decide)) (hN 225 (by decide)) (h.blk (fun c a b => ck c (Or.inr ⟨a, b⟩))), P, C1, M1, F, G, Hh, S, U, J, pw.th (fun c a b => ck c (Or.inr ⟨a, b⟩)) (fun c a b => hN c (by omega)) (fun k z => hs k (by omega)), fun j hj => ?_⟩⟩
  · unfold y_T
    rw [hs 1 (by decide), hs 5 (by decide), hs 8 (by decide), hs 9 (by decide), hs 102 (by decide), hs 113 (by decide), hs 115 (by decide), hs 120 (by decide), hN 223 (by decide), hN 312 (by decide), ck 0 (by decide), ck 1 (by decide), ck 157 (by decide), ck 158 (by decide), ck 508 (by decide), ck 509 (by decide), ck 510 (by decide), co 1008 (by decide), co 1009 (by decide), co 1010 (by decide)]
    exact b5
  · rw [ck 0 (by decide)] at hj
    by_cases z : (j : Int) = x
    · obtain ⟨n, hi⟩ := me
      have ej : j = y_jx x := by omega
      rw [z, ej]
      exact ⟨n, hi.at (fun c a b => y_v_b ⟨a, b⟩) (fun _ _ _ => rfl)⟩
    · obtain ⟨n, hi⟩ := ins j hj
      exact ⟨n, (ot j hj z n hi).at (fun c a b => y_v_o ⟨a, b⟩ (by omega)) (fun _ _ _ => rfl)⟩
theorem y_save (h : y_L B Sp w nw m p ss) (hR : y_RL B Sp nw ss C N T) (hT : T ≤ T') (rx : ax_rg x) (rk : ax_rg k) : y_ST 2 q_House_save [.ref 0, ax_i x, ax_i k] 3 q_Model_save [.ref 222, ax_i x, ax_i k] T' B Sp w nw m p ss C N := by
  have hJ : 0 ≤ x → x < y_v (y_jx x) C 0 8 → x = ((y_jx x : Nat) : Int) ∧ x < 8 := fun a b => ⟨((hR.jx ⟨a, b⟩).1).symm, (hR.jx ⟨a, b⟩).2⟩
  have md := hR.md
  by_cases z : (0 ≤ x ∧ x < C 0 8) ∧ 0 ≤ k ∧ k < 4
  · have z' : (0 ≤ x ∧ x < N 222 102) ∧ 0 ≤ k ∧ k < 4 := by rw [← md]; exact z
    refine y_op (j := y_jx x) (Φ := fun r W => r = 1 ∧ g_fr [805, 806] (y_v (y_jx x) C) W ∧ (∀ i, 0 ≤ i → i < 300 → W 805 (300 * k + i) = y_v (y_jx x) C 802 i) ∧ (∀ i, ¬ (300 * k ≤ i ∧ i < 300 * k + 300) → W 805 i = y_v (y_jx x) C 805 i) ∧ W 806 k = y_v (y_jx x) C 800 1 ∧ (∀ i, ¬ i = k → W 806 i = y_v (y_jx x) C 806 i)) h (y_jx_lt x) hR.gC hR.gN (t_saveH (d := 0) (y_v_g hR.gC) rx rk hJ (fun y => absurd z y) (fun _ _ W a b c e f g => ⟨rfl, a, c, e, f, g⟩)) (fun r W gW q => ?_)
    obtain ⟨er, f1, f2, f3, f4, f5⟩ := q
    obtain ⟨th, og, P, C1, M1, F, G, Hh, S, U, J, pw, ins, n, hi⟩ := hR.ins z.1
    refine s_saveM (d := 0) hR.gN rx rk hR.mi (fun y => absurd z' y) (fun _ _ N' a1 a2 a3 a4 a5 a6 a7 a8 a9 => ⟨er.symm, fun gN' => ?_⟩)
    have vk : ∀ c, ¬ (800 ≤ c ∧ c ≤ 806) → W c = C c := fun c y => by rw [f1 c (by simp; omega), y_v_k y]
    refine hR.upd h z.1 og th pw ins gW gN' (fun c y => vk c (by omega)) (fun c y => a1 c (by simp; omega)) (fun k y => a2 k (by simp; omega)) ⟨n, (hi.save pw.2.1 z.1.1 z.2 (fun c u v => f1 c (by simp; omega)) f2 f3 f4 f5 (fun c u v => a1 c (by simp; omega)) a5 a6 a7 a8 a9).up hT⟩ (fun j hj ne n hi => ?_)
    refine (hi.other pw.2.1 (fun _ _ _ => rfl) ⟨by rw [a1 299 (by decide)], by rw [a1 302 (by decide)], by rw [a1 303 (by decide)]⟩ (fun y _ _ => ⟨by rw [a1 300 (by decide)], by rw [a1 304 (by decide)], by rw [a1 305 (by decide)]⟩) (fun y _ _ => by rw [a1 301 (by decide)]) (fun k' u v => ?_)).up hT
    have nk : ¬ 4 * (j : Int) + k' = 4 * x + k := by omega
    refine ⟨(a6 _ nk).1, (a6 _ nk).2, fun y u' v' => a9 _ (by omega)⟩
  · have z' : ¬ ((0 ≤ x ∧ x < N 222 102) ∧ 0 ≤ k ∧ k < 4) := by rw [← md]; exact z
    exact y_tell (j := y_jx x) (r := 0) h hR (y_jx_lt x) hT (t_saveH (d := 0) (y_v_g hR.gC) rx rk hJ (fun _ => ⟨rfl, rfl⟩) (fun a b => absurd ⟨a, b⟩ z)) (s_saveM (d := 0) hR.gN rx rk hR.mi (fun _ W e => ⟨rfl, e⟩) (fun a b => absurd ⟨a, b⟩ z'))
theorem y_back (h : y_L B Sp w nw m p ss) (hR : y_RL B Sp nw ss C N T) (hT : T ≤ T') (rx : ax_rg x) (rk : ax_rg k) : y_ST 2 q_House_back [.ref 0, ax_i x, ax_i k] 3 q_Model_back [.ref 222, ax_i x, ax_i k] T' B Sp w nw m p ss C N := by
  have hJ : 0 ≤ x → x < y_v (y_jx x) C 0 8 → x = ((y_jx x : Nat) : Int) ∧ x < 8 := fun a b => ⟨((hR.jx ⟨a, b⟩).1).symm, (hR.jx ⟨a, b⟩).2⟩
  have md := hR.md
  by_cases z : (0 ≤ x ∧ x < C 0 8) ∧ 0 ≤ k ∧ k < 4
  · obtain ⟨th, og, P, C1, M1, F, G, Hh, S, U, J, pw, ins, n, hi⟩ := hR.ins z.1
    have z1 : 0 ≤ x ∧ x < N 222 102 := by rw [← md]; exact z.1
    rcases hi.2.2.2.2.2.2 k z.2.1 z.2.2 with ⟨n6, c6⟩ | ⟨n6, c6, _⟩
    · exact y_tell (j := y_jx x) (r := 0) h hR (y_jx_lt x) hT (t_backH (d := 0) (y_v_g hR.gC) rx rk hJ (fun _ => ⟨rfl, rfl⟩) (fun _ _ y => absurd c6 y)) (s_backM (d := 0) hR.gN rx rk hR.mi (fun _ W e => ⟨rfl, e⟩) (fun _ _ y => absurd n6 y))
    · have c6n : ¬ y_v (y_jx x) C 806 k = -1 := by have := c6.2.1; omega
      have n6n : ¬ N 306 (4 * x + k) = 0 := by omega
      refine y_op (j := y_jx x) (Φ := fun r W => r = 1 ∧ g_fr [800, 802] (y_v (y_jx x) C) W ∧ W 800 0 = y_v (y_jx x) C 800 0 ∧ W 800 2 = y_v (y_jx x) C 800 2 ∧ W 800 1 = y_v (y_jx x) C 806 k ∧ (∀ i, 0 ≤ i → i < 300 → W 802 i = y_v (y_jx x) C 805 (300 * k + i))) h (y_jx_lt x) hR.gC hR.gN (t_backH (d := 0) (y_v_g hR.gC) rx rk hJ (fun y => absurd ⟨z.1, z.2, c6n⟩ y) (fun _ _ _ W a b c e f g => ⟨rfl, a, c, e, f, g⟩)) (fun r W gW q => ?_)
      obtain ⟨er, f1, f2, f3, f4, f5⟩ := q
      refine s_backM (d := 0) hR.gN rx rk hR.mi (fun y => absurd ⟨z1, z.2, n6n⟩ y) (fun _ _ _ N' a1 a2 a3 a4 a5 a6 a7 a8 => ⟨er.symm, fun gN' => ?_⟩)
      have vk : ∀ c, ¬ (800 ≤ c ∧ c ≤ 806) → W c = C c := fun c y => by rw [f1 c (by simp; omega), y_v_k y]
      refine hR.upd h z.1 og th pw ins gW gN' (fun c y => vk c (by omega)) (fun c y => a1 c (by simp; omega)) (fun k y => a2 k (by simp; omega)) ⟨n, (hi.back pw.2.1 z.1.1 z.2 n6 ⟨f2, f3⟩ f4 (fun c u v y => f1 c (by simp; omega)) f5 (fun c u v y y' => a1 c (by simp; omega)) a5 a7).up hT⟩ (fun j hj ne n hi => ?_)
      exact (hi.other pw.2.1 (fun _ _ _ => rfl) ⟨by rw [a1 299 (by decide)], a6 _ ne, by rw [a1 303 (by decide)]⟩ (fun y _ _ => ⟨by rw [a1 300 (by decide)], by rw [a1 304 (by decide)], by rw [a1 305 (by decide)]⟩) (fun y u v => a8 _ (by omega)) (fun k' u v => ⟨by rw [a1 306 (by decide)], by rw [a1 308 (by decide)], fun y _ _ => by rw [a1 307 (by decide)]⟩)).up hT
  · have z' : ¬ ((0 ≤ x ∧ x < N 222 102) ∧ 0 ≤ k ∧ k < 4) := by rw [← md]; exact z
    exact y_tell (j := y_jx x) (r := 0) h hR (y_jx_lt x) hT (t_backH (d := 0) (y_v_g hR.gC) rx rk hJ (fun _ => ⟨rfl, rfl⟩) (fun a b => absurd ⟨a, b⟩ z)) (s_backM (d := 0) hR.gN rx rk hR.mi (fun _ W e => ⟨rfl, e⟩) (fun a b => absurd ⟨a, b⟩ z'))
theorem y_put (h : y_L B Sp w nw m p ss) (hR : y_RL B Sp nw ss C N T) (hT : T ≤ T') (rx : ax_rg x) (ri : ax_rg i) (rv : ax_rg v) : y_ST 2 q_House_put [.ref 0, ax_i x, ax_i i, ax_i v] 3 q_Model_put [.ref 222, ax_i x, ax_i i, ax_i v] T' B Sp w nw m p ss C N := by
  have hJ : 0 ≤ x → x < y_v (y_jx x) C 0 8 → x = ((y_jx x : Nat) : Int) ∧ x < 8 := fun a b => ⟨((hR.jx ⟨a, b⟩).1).symm, (hR.jx ⟨a, b⟩).2⟩
  have md := hR.md
  by_cases z : 0 ≤ x ∧ x < C 0 8
  · obtain ⟨th, og, P, C1, M1, F, G, Hh, S, U, J, pw, ins, n, hi⟩ := hR.ins z
    have z1 : 0 ≤ x ∧ x < N 222 102 := by rw [← md]; exact z
    have hX := pw.2.1
    have hS := hX.hS
    have nn := hi.1.2.1
    have hP : ∀ c, 500 ≤ c → c ≤ 573 → c ∉ g_XP → y_v (y_jx x) C c = C1 c := fun c a b y => by rw [y_v_k (by omega), pw.1 c a b, hX.hP c y]
    by_cases y : 0 ≤ i ∧ i < M1 227 n
    · refine y_op (j := y_jx x) (Φ := fun r W => r = 1 ∧ ∃ u, (u = if M1 233 (26 * n + M1 230 (26 * n + i)) = 0 then v else if v = 0 then 0 else 1) ∧ W = ax_u (y_v (y_jx x) C) 801 i u) h (y_jx_lt x) hR.gC hR.gN (t_putH (d := 0) hS hP (y_v_g hR.gC) rx ri rv hJ (fun _ => ⟨hi.1.1.1, nn⟩) (fun q => absurd ⟨z, y⟩ q) (fun _ _ W u a b => ⟨rfl, u, a, b⟩)) (fun r W gW q => ?_)
      obtain ⟨er, u, eu, eW⟩ := q
      refine s_putM (d := 0) hS pw.2.2.1 hR.gN rx ri rv hR.mi (fun _ => ⟨hi.1.1.2, nn⟩) (fun q => absurd ⟨z1, y⟩ q) (fun _ _ N' u' eu' eN => ⟨er.symm, fun gN' => ?_⟩)
      have uu : u' = u := by rw [eu, eu']
      rw [uu] at eN
      have vk : ∀ c, ¬ (800 ≤ c ∧ c ≤ 806) → W c = C c := fun c q => by rw [eW, ax_u_ne (by omega), y_v_k q]
      have nk : ∀ c, ¬ c = 222 → ¬ c = 300 → N' c = N c := fun c a b => by rw [eN, ax_u_ne b, ax_u_ne a]
      have ns : ∀ k : Int, ¬ k = 0 → N' 222 k = N 222 k := fun k a => by rw [eN, ax_u_ne (by decide), ax_u_k a]
      have n3 : N' 300 (26 * x + M1 230 (26 * n + i)) = u := by rw [eN, ax_u_s]
      have n3o : ∀ j, ¬ j = 26 * x + M1 230 (26 * n + i) → N' 300 j = N 300 j := fun j q => by rw [eN, ax_u_k q, ax_u_ne (by decide)]
      have ip := (hS.fl nn.1 nn.2).2.2.2.2.1 i y.1 y.2
      have o26 := ip.2.1
      refine hR.upd h z og th pw ins gW gN' (fun c q => vk c (by omega)) (fun c q => nk c (by omega) (by omega)) (fun k q => ns k (by omega)) ⟨n, (hi.put hX z.1 y.1 y.2 (fun t1 => ?_) eW (fun c a b q => nk c (by omega) q) n3 n3o).up hT⟩ (fun j hj ne n' hi' => ?_)
      · rw [eu, if_neg (by omega)]
        by_cases v0 : v = 0
        · rw [if_pos v0]; exact Or.inl rfl
        · rw [if_neg v0]; exact Or.inr rfl
      · exact (hi'.other hX (fun _ _ _ => rfl) ⟨by rw [nk 299 (by decide) (by decide)], by rw [nk 302 (by decide) (by decide)], by rw [nk 303 (by decide) (by decide)]⟩ (fun l a b => ⟨n3o _ (by omega), by rw [nk 304 (by decide) (by decide)], by rw [nk 305 (by decide) (by decide)]⟩) (fun l _ _ => by rw [nk 301 (by decide) (by decide)]) (fun k' _ _ => ⟨by rw [nk 306 (by decide) (by decide)], by rw [nk 308 (by decide) (by decide)], fun l _ _ => by rw [nk 307 (by decide) (by decide)]⟩)).up hT
    · exact y_tell (j := y_jx x) (r := 0) h hR (y_jx_lt x) hT (t_putH (d := 0) hS hP (y_v_g hR.gC) rx ri rv hJ (fun _ => ⟨hi.1.1.1, nn⟩) (fun _ => ⟨rfl, rfl⟩) (fun _ a => absurd a y)) (s_putM (d := 0) hS pw.2.2.1 hR.gN rx ri rv hR.mi (fun _ => ⟨hi.1.1.2, nn⟩) (fun _ W e => ⟨rfl, e⟩) (fun _ a => absurd a y))
  · exact y_tell (j := y_jx x) (r := 0) h hR (y_jx_lt x) hT (t_putN (d := 0) (y_v_g hR.gC) rx ri rv z ⟨rfl, rfl⟩) (s_putN (d := 0) hR.gN rx ri rv hR.mi (by rw [← md]; exact z) (fun W e => ⟨rfl, e⟩))
end Change
