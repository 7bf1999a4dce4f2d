/-! make, tick -/
theorem s_make0 {d : Nat} {V : ax_V} {k : Int} {Φ : Int → ax_V → Prop} {Θ : ax_V → Prop} (hg : ax_g V) (rk : ax_rg k) (hc : ¬ V 222 7 = 0 → 0 ≤ V 222 86 ∧ V 222 86 ≤ 8) (hi : 0 ≤ V 222 102 ∧ V 222 102 ≤ 8) (no : ¬ (((¬ V 222 7 = 0 ∧ 0 ≤ k ∧ k < V 222 86) ∧ V 289 k ≤ 60 ∧ V 288 k ≤ 300) ∧ V 222 102 < 8)) (h0 : ∀ W, W = ax_u V 222 0 0 → Φ (-1) W) : ax_I ay_lay (d + 4) q_Model_make [.ref 222, ax_i k] V Φ Θ := by
  refine r_Model_make (d := d + 3) hg rk (fun V1 e1 => ?_)
  have k1 : ∀ c, ¬ c = 222 → V1 c = V c := fun c z => by rw [e1]; exact ax_u_ne z
  have g1 : ax_g V1 := by rw [e1]; exact ax_u_g hg (by decide)
  have s1 : ∀ f, ¬ f = 0 → V1 222 f = V 222 f := fun f z => by rw [e1]; exact ax_u_k z
  refine s_canBe (d := d) g1 rk (by rw [s1 86 (by decide), s1 7 (by decide)]; exact hc) ?_
  rw [s1 7 (by decide), s1 86 (by decide), s1 102 (by decide), k1 289 (by decide), k1 288 (by decide)]
  by_cases z : (¬ V 222 7 = 0 ∧ 0 ≤ k ∧ k < V 222 86) ∧ V 289 k ≤ 60 ∧ V 288 k ≤ 300
  · rw [if_pos z]
    exact ⟨fun w => absurd w (by decide), fun _ => ⟨fun y => h0 V1 e1, fun y => absurd ⟨z, by omega⟩ no⟩⟩
  · rw [if_neg z]
    exact ⟨fun _ => h0 V1 e1, fun w => absurd rfl w⟩
section MakeTick
variable {B Sp w nw : Nat} {m p : Value} {ss : List ax_S} {C N : ax_V} {T T' x k : Int}
set_option maxHeartbeats 1000000 in
theorem y_make (h : y_L B Sp w nw m p ss) (hR : y_RL B Sp nw ss C N T) (hT : T ≤ T') (T0 : 0 ≤ T) (rk : ax_rg k) : y_ST 4 q_House_make [.ref 0, ax_i k] 4 q_Model_make [.ref 222, ax_i k] T' B Sp w nw m p ss C N := by
  have md := hR.md
  have mi := hR.mi
  have c8 := hR.c8
  have cn := hR.cnt
  have b8 : 0 ≤ C 500 0 ∧ C 500 0 ≤ 8 := by
    rw [cn]
    by_cases z : N 222 7 = 0
    · rw [if_pos z]; decide
    · rw [if_neg z]; exact c8 z
  obtain ⟨x, ex⟩ : ∃ x : Int, x = C 0 8 := ⟨_, rfl⟩
  have jlt := y_jx_lt x
  have hJ : y_v (y_jx x) C 0 8 < 8 → y_v (y_jx x) C 0 8 = ((y_jx x : Nat) : Int) := fun a => by
    have a' : C 0 8 < 8 := a
    show C 0 8 = _
    rw [y_jx_e (x := x) ⟨by omega, by omega⟩, ex]
  by_cases z : (0 ≤ k ∧ k < C 500 0) ∧ C 513 k ≤ 60 ∧ C 514 k ≤ 300 ∧ C 0 8 < 8
  · have th : ¬ N 222 7 = 0 := fun y => by
      have := z.1
      rw [cn, if_pos y] at this; omega
    rcases hR.2.2.2.2 with a | ⟨th1, og, P, C1, M1, F, G, Hh, S, U, J, pw, ins⟩
    · exact absurd a.1 th
    have hX := pw.2.1
    have e86 := pw.2.2.2.2.2.2
    have k86 : k < N 222 86 := by
      have := z.1.2
      rw [cn, if_neg th] at this; exact this
    have nd := pw.node (k := k) ⟨z.1.1, by omega⟩
    have hn : h_N M1 U J k := by
      have u := pw.2.2.2.1 k z.1.1 (by omega)
      have v1 := z.2.1
      have v2 := z.2.2.1
      rw [pw.1 513 (by decide) (by decide), u.1] at v1
      rw [pw.1 514 (by decide) (by decide), u.2] at v2
      exact ⟨⟨z.1.1, by omega⟩, v2, v1⟩
    have na := pw.2.2.1.2.2.2.2.2.2.2.1 k z.1.1 (by omega)
    have cm : ((¬ N 222 7 = 0 ∧ 0 ≤ k ∧ k < N 222 86) ∧ N 289 k ≤ 60 ∧ N 288 k ≤ 300) ∧ N 222 102 < 8 := ⟨⟨⟨th, z.1.1, k86⟩, by rw [← nd.2.2.2.2.1]; exact z.2.1, by rw [← nd.2.2.2.2.2]; exact z.2.2.1⟩, by rw [← md]; exact z.2.2.2⟩
    have x8 : 0 ≤ x ∧ x < 8 := ⟨by omega, by omega⟩
    have jx := y_jx_e x8
    refine y_op (j := y_jx x) (Φ := fun r W => r = C 0 8 ∧ g_fr [0, 800, 801, 802, 806] (y_v (y_jx x) C) W ∧ (∀ f, ¬ f = 8 → W 0 f = C 0 f) ∧ W 0 8 = C 0 8 + 1 ∧ (W 800 0 = k ∧ W 800 1 = 0 ∧ W 800 2 = 0) ∧ (∀ i, 0 ≤ i → i < 26 → W 801 i = 0) ∧ (∀ i, 0 ≤ i → i < 300 → W 802 i = C 515 (300 * k + i)) ∧ (∀ i, 0 ≤ i → i < 4 → W 806 i = -1)) h jlt hR.gC hR.gN (t_makeH (d := 0) (y_v_g hR.gC) rk b8 (show 0 ≤ C 0 8 ∧ C 0 8 ≤ 8 by omega) hJ (fun y => absurd z y) (fun _ _ _ _ W a b c e f1 f2 f3 g1 g2 g3 => ⟨rfl, a, b, e, ⟨f1, f2, f3⟩, g1, g2, g3⟩)) (fun r W gW q => ?_)
    obtain ⟨er, f1, f2, f3, f4, f5, f6, f7⟩ := q
    refine s_makeM (d := 0) hR.gN rk c8 mi (fun _ => by rw [na.1]; exact (hX.UJ.1 k).1.1) (fun y => absurd cm y) (fun _ _ _ _ N' a1 a2 a3 a4 a5 a6 a7 a8 a9 a10 a11 a12 a13 a14 a15 => ⟨by rw [er, md], fun gN' => ?_⟩)
    rw [← md, ← ex] at a5 a6 a7 a8 a9 a10 a11 a12 a13 a14 a15
    have ck : ∀ c, (c < 222 ∧ ¬ c = 0) ∨ (500 ≤ c ∧ c ≤ 573) → y_b (y_jx x) C W c = C c := fun c y => by rw [y_b_k (by omega), f1 c (by simp; omega), y_v_k (by omega)]
    have c0 : ∀ f, ¬ f = 8 → y_b (y_jx x) C W 0 f = C 0 f := fun f y => by rw [y_b_k (by decide)]; exact f2 f y
    have c08 : y_b (y_jx x) C W 0 8 = x + 1 := by rw [y_b_k (by decide), f3, ex]
    have co : ∀ c, 1000 ≤ c → y_b (y_jx x) C W c = C c := fun c y => y_b_n (by omega) (by omega)
    have nk : ∀ c, c ∉ [222, 299, 300, 301, 302, 303, 306] → N' c = N c := a1
    have ns : ∀ f : Int, ¬ f = 0 → ¬ f = 102 → N' 222 f = N 222 f := fun f y y' => a2 f (by simp; omega)
    obtain ⟨b1, b2, b3, b5, b6⟩ := hR
    refine ⟨b1, b2, ⟨ax_bk_g b3.1 gW, gN'⟩, ?_, Or.inr ⟨by rw [ns 7 (by decide) (by decide)]; exact th1, og.th (ns 5 (by decide) (by decide)) (nk 225 (by decide)) (h.blk (fun c a b => ck c (Or.inr ⟨a, b⟩))), P, C1, M1, F, G, Hh, S, U, J, pw.th (fun c a b => ck c (Or.inr ⟨a, b⟩)) (fun c a b => nk c (by simp; omega)) (fun k z => ns k (by omega) (by omega)), fun j hj => ?_⟩⟩
    · obtain ⟨t1, t2, t3, t4, t5⟩ := b5
      refine ⟨?_, ?_, ?_, ?_, ?_⟩
      · rw [c0 1 (by decide), ck 1 (by decide), ns 1 (by decide) (by decide), nk 223 (by decide)]; exact t1
      · rw [c0 2 (by decide), c0 3 (by decide), ns 8 (by decide) (by decide), ns 9 (by decide) (by decide)]; exact t2
      · rw [c08, a5]; exact ⟨rfl, by omega, by omega⟩
      · rw [ck 157 (by decide), ck 158 (by decide), ns 113 (by decide) (by decide), ns 115 (by decide) (by decide), ns 120 (by decide) (by decide), nk 312 (by decide)]; exact t4
      · rw [ck 508 (by decide), ck 509 (by decide), ck 510 (by decide), co 1008 (by decide), co 1009 (by decide), co 1010 (by decide), ns 5 (by decide) (by decide)]; exact t5
    · rw [c08] at hj
      by_cases e : (j : Int) = x
      · have ej : j = y_jx x := by omega
        have hi : h_iq C1 M1 U J F W N' x T' k := h_iq.make hX hn x8.1 (by omega) f4 f5 (fun i u v => by rw [f6 i u v, pw.1 515 (by decide) (by decide)]) f7 ⟨a6, a7, a8⟩ a10 (fun j u v => a12 j u (by rw [na.1]; exact v)) a14
        rw [e, ej]
        exact ⟨k, hi.at (fun c u v => y_v_b ⟨u, v⟩) (fun _ _ _ => rfl)⟩
      · obtain ⟨n, hi⟩ := ins j (by omega)
        refine ⟨n, ((hi.other (N' := N') hX (fun _ _ _ => rfl) (a9 _ e) (fun y u v => ⟨a11 _ (by omega), by rw [nk 304 (by decide)], by rw [nk 305 (by decide)]⟩) (fun y u v => a13 _ (by omega)) (fun s u v => ⟨a15 _ (by omega), by rw [nk 308 (by decide)], fun y _ _ => by rw [nk 307 (by decide)]⟩)).at (fun c u v => y_v_o ⟨u, v⟩ (by omega)) (fun _ _ _ => rfl)).up hT⟩
  · have z' : ¬ (((¬ N 222 7 = 0 ∧ 0 ≤ k ∧ k < N 222 86) ∧ N 289 k ≤ 60 ∧ N 288 k ≤ 300) ∧ N 222 102 < 8) := fun y => by
      obtain ⟨⟨⟨th, k0, k1⟩, y1, y2⟩, y3⟩ := y
      rcases hR.2.2.2.2 with a | ⟨th1, og, P, C1, M1, F, G, Hh, S, U, J, pw, ins⟩
      · exact absurd a.1 th
      · have e86 := pw.2.2.2.2.2.2
        have nd := pw.node (k := k) ⟨k0, by omega⟩
        exact z ⟨⟨k0, by rw [cn, if_neg th]; exact k1⟩, by rw [nd.2.2.2.2.1]; exact y1, by rw [nd.2.2.2.2.2]; exact y2, by omega⟩
    refine y_tell (j := y_jx x) (r := -1) h hR jlt hT (t_makeH (d := 0) (y_v_g hR.gC) rk b8 (show 0 ≤ C 0 8 ∧ C 0 8 ≤ 8 by omega) hJ (fun _ => ⟨rfl, rfl⟩) (fun a1 a2 a3 a4 => absurd ⟨a1, a2, a3, a4⟩ z)) ?_
    exact s_make0 (d := 0) hR.gN rk c8 mi z' (fun W e => ⟨rfl, e⟩)
set_option maxHeartbeats 1000000 in
theorem y_tick (h : y_L B Sp w nw m p ss) (hR : y_RL B Sp nw ss C N T) (hT : T + 1 ≤ T') (T0 : 0 ≤ T ∧ T ≤ 100000) (rx : ax_rg x) : y_ST 27 q_House_tick [.ref 0, ax_i x] 83 q_Model_tick [.ref 222, ax_i x] T' B Sp w nw m p ss C N := by
  have md := hR.md
  have mi := hR.mi
  by_cases z : 0 ≤ x ∧ x < C 0 8
  · obtain ⟨th, og, P, C1, M1, F, G, Hh, S, U, J, pw, ins, n, hi⟩ := hR.ins z
    have z1 : 0 ≤ x ∧ x < N 222 102 := by rw [← md]; exact z
    have hX := pw.2.1
    have jx := hR.jx z
    have hn := hi.1.2
    have tb := hi.2.1
    obtain ⟨R, r1, r2, r3, r4, r5, r6⟩ := hi.rec hX
    have hP : ∀ c, 500 ≤ c → c ≤ 573 → y_v (y_jx x) C c = P c := fun c a b => by rw [y_v_k (by omega)]; exact pw.1 c a b
    have in1 : ∀ i, 0 ≤ i → i < M1 227 n → y_v (y_jx x) C 801 i = R [] 1 (M1 230 (26 * n + i)) ∧ (M1 233 (26 * n + M1 230 (26 * n + i)) = 1 → R [] 1 (M1 230 (26 * n + i)) = 0 ∨ R [] 1 (M1 230 (26 * n + i)) = 1) := fun i a b => ⟨(r6 i a b).1.1, (r6 i a b).2⟩
    have in2 : ∀ i, 0 ≤ i → i < M1 227 n → N 300 (26 * x + M1 230 (26 * n + i)) = R [] 1 (M1 230 (26 * n + i)) ∧ (M1 233 (26 * n + M1 230 (26 * n + i)) = 1 → R [] 1 (M1 230 (26 * n + i)) = 0 ∨ R [] 1 (M1 230 (26 * n + i)) = 1) := fun i a b => ⟨(r6 i a b).1.2, (r6 i a b).2⟩
    have tk1 : ax_rg (y_v (y_jx x) C 800 1 + 1) := ⟨by omega, by omega⟩
    have tk2 : ax_rg (N 302 x + 1) := by rw [← tb.1]; exact tk1
    -- others do not see it
    have oth : ∀ {N' : ax_V}, h_MT N N' → (∀ j, ¬ (300 * x ≤ j ∧ j < 300 * x + U n) → N' 301 j = N 301 j) → (∀ j, ¬ j = x → N' 302 j = N 302 j ∧ N' 303 j = N 303 j) → (∀ j, ¬ (26 * x ≤ j ∧ j < 26 * x + 26) → N' 304 j = N 304 j ∧ N' 305 j = N 305 j) → ∀ j : Nat, (j : Int) < C 0 8 → ¬ (j : Int) = x → ∀ n', h_iq C1 M1 U J F (y_v j C) N (j : Int) T n' → h_iq C1 M1 U J F (y_v j C) N' (j : Int) T' n' := fun {N'} mt a b c j hj ne n' hi' => by
      have u3 := hn.2.1
      have q2 := b _ ne
      exact (hi'.other hX (fun _ _ _ => rfl) ⟨by rw [mt.1 299 (by decide)], q2.1, q2.2⟩ (fun y u v => ⟨by rw [mt.1 300 (by decide)], c _ (by omega)⟩) (fun y u v => a _ (by omega)) (fun s u v => ⟨by rw [mt.1 306 (by decide)], by rw [mt.1 308 (by decide)], fun y _ _ => by rw [mt.1 307 (by decide)]⟩)).up (by omega)
    rcases Int.lt_or_le (R [] 4 0) 700 with lt | le
    · refine y_op (j := y_jx x) (Φ := fun r W => r = 1 + R [] 4 0 ∧ g_fr [150, 151, 152, 153, 154, 155] (y_v (y_jx x) C) W) h (y_jx_lt x) hR.gC hR.gN (t_tickH (d := 0) hX hn hP (y_v_g hR.gC) z jx.2 jx.1.symm hi.1.1.1 r1 r2 r3 r4 in1 tk1 (fun W a _ _ _ => ⟨rfl, a⟩) (fun W _ _ _ y => by omega)) (fun r W gW q => ?_)
      obtain ⟨er, f1⟩ := q
      have vk : ∀ c, ¬ (150 ≤ c ∧ c ≤ 155) → ¬ (800 ≤ c ∧ c ≤ 806) → W c = C c := fun c y y' => by rw [f1 c (by simp; omega), y_v_k y']
      have v8 : ∀ c, 800 ≤ c → c ≤ 806 → W c = y_v (y_jx x) C c := fun c a b => f1 c (by simp; omega)
      refine s_tickM (d := 0) hX hn pw.2.2.1 hR.gN mi z1 hi.1.1.2 r1 r3 (fun j _ _ => (r5 j).symm) in2 tk2 (fun N' mt a1 a2 a3 a4 a5 a6 a7 a8 => ⟨er.symm, fun gN' => ?_⟩) (fun N' _ _ y => by omega)
      refine hR.upd h z og th pw ins gW gN' (fun c y => vk c (by omega) (by omega)) (fun c y => mt.1 c (by simp; omega)) (fun k y => mt.2.1 k (by simp; omega)) ⟨n, ?_⟩ (oth mt (fun j _ => by rw [a1]) (fun j _ => by rw [a2, a3]; exact ⟨rfl, rfl⟩) (fun j _ => by rw [a4, a5]; exact ⟨rfl, rfl⟩))
      refine (hi.at v8 (fun c u v => ?_)).up (by omega)
      by_cases y1 : c = 301
      · rw [y1, a1]
      · by_cases y2 : c = 302
        · rw [y2, a2]
        · by_cases y3 : c = 303
          · rw [y3, a3]
          · by_cases y4 : c = 304
            · rw [y4, a4]
            · by_cases y5 : c = 305
              · rw [y5, a5]
              · exact mt.1 c (by simp; omega)
    · refine y_op (j := y_jx x) (Φ := fun r W => r = 0 ∧ g_fr [150, 151, 152, 153, 154, 155, 800, 802, 803, 804] (y_v (y_jx x) C) W ∧ h_MS C1 M1 U F 8 n (R [] 6) ∧ (W 800 0 = n ∧ W 800 1 = y_v (y_jx x) C 800 1 + 1 ∧ W 800 2 = 1) ∧ (∀ i j, g_PP C1 M1 U 8 n i j → W 802 i = R [] 6 j) ∧ (∀ y, 0 ≤ y → y < 26 → (¬ M1 232 (26 * n + y) = 0 → W 804 y = R [] 2 y ∧ (¬ R [] 2 y = 0 → W 803 y = R [] 1 y)) ∧ (M1 232 (26 * n + y) = 0 → W 804 y = 0)) ∧ (∀ i, 0 ≤ i → i < M1 228 n → W 803 (M1 231 (26 * n + i)) = R [] 1 (M1 231 (26 * n + i)))) h (y_jx_lt x) hR.gC hR.gN (t_tickH (d := 0) hX hn hP (y_v_g hR.gC) z jx.2 jx.1.symm hi.1.1.1 r1 r2 r3 r4 in1 tk1 (fun W _ _ _ y => by omega) (fun W a _ _ _ b c e f g1 g2 g3 => ⟨rfl, a, b, ⟨c, e, f⟩, g1, g2, g3⟩)) (fun r W gW q => ?_)
      obtain ⟨er, f1, m6, ⟨w0, w1, w2⟩, wp, wl, wo⟩ := q
      have vk : ∀ c, ¬ (150 ≤ c ∧ c ≤ 155) → ¬ (800 ≤ c ∧ c ≤ 806) → W c = C c := fun c y y' => by rw [f1 c (by simp; omega), y_v_k y']
      refine s_tickM (d := 0) hX hn pw.2.2.1 hR.gN mi z1 hi.1.1.2 r1 r3 (fun j _ _ => (r5 j).symm) in2 tk2 (fun N' _ _ _ _ _ _ _ _ y => by omega) (fun N' mt a1 a2 a3 a4 a5 a6 a7 a8 a9 a10 => ⟨er.symm, fun gN' => ?_⟩)
      exact hR.upd h z og th pw ins gW gN' (fun c y => vk c (by omega) (by omega)) (fun c y => mt.1 c (by simp; omega)) (fun k y => mt.2.1 k (by simp; omega)) ⟨n, hi.tick hX z.1 hT r1 r3 m6 w0 w1 w2 (f1 801 (by decide)) (f1 805 (by decide)) (f1 806 (by decide)) wp wl wo (mt.1 299 (by decide)) (mt.1 300 (by decide)) (mt.1 306 (by decide)) (mt.1 307 (by decide)) (mt.1 308 (by decide)) a4 a6 a7 a9 a10⟩ (oth mt a3 a5 a8)
  · refine y_tell (j := y_jx x) (r := -1) h hR (y_jx_lt x) (by omega) (ax_I.mono (t_tickN (d := 0) (Φ := fun r W => r = -1 ∧ W = y_v (y_jx x) C) (Θ := fun _ => False) (y_v_g hR.gC) rx z ⟨rfl, rfl⟩) (by decide) (fun _ _ _ _ q => q) (fun _ _ q => q)) (ax_I.mono (s_tickN (d := 0) (Φ := fun r W => r = -1 ∧ W = ax_u N 222 0 0) (Θ := fun _ => False) hR.gN rx mi (by rw [← md]; exact z) (fun W e => ⟨rfl, e⟩)) (by decide) (fun _ _ _ _ q => q) (fun _ _ q => q))
end MakeTick
