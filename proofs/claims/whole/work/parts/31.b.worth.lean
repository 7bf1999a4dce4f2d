/-! THE CLASS works a part -/
/-- letters of a node, in the class -/
def h_lv (V : ax_V) (n : Int) : Int → Int → Int := fun k l => if k = 2 then V 153 (26 * n + l) else V 152 (26 * n + l)
theorem i_div_m (a : Int32) : a / -1 = -a := by
  apply Int32.toInt_inj.mp
  rw [Int32.toInt_div]
  have e : (-1 : Int32).toInt = -1 := by decide
  rw [e, Int.tdiv_neg, Int.tdiv_one, Int32.toInt_neg]
theorem ax_div_m {x : Int} (hx : ax_rg x) : ax_div x (-1) = ax_wr (-x) := by
  unfold ax_div ax_wr
  have e : Int32.ofInt (-1) = -1 := rfl
  rw [e, i_div_m, Int32.ofInt_neg]
theorem ax_rem_m {x : Int} (hx : ax_rg x) : ax_rem x (-1) = 0 := by
  unfold ax_rem
  have e : Int32.ofInt (-1) = -1 := rfl
  rw [e, i_div_m, Int32.neg_mul_neg, Int32.mul_one, Int32.sub_self]
  rfl
section Worth
variable {B d : Nat} {C0 M0 P V : ax_V} {n q b c : Int} {Φ : Int → ax_V → Prop} {Ψ Θ : ax_V → Prop}
theorem t_isPresent (hg : ax_g V) (n0 : 0 ≤ n ∧ n < 8) (hc : 0 ≤ c ∧ c ≤ 52) (h1 : h_on (h_lv V n) c → Φ 1 V) (h0 : ¬ h_on (h_lv V n) c → Φ 0 V) : ax_I (az_W B (az_EM B)) (d + 1) q_Machine_isPresent [.ref 150, ax_i (g_cc n c)] V Φ Θ := by
  have rc := g_cc_r (n := n) (x := c) n0 ⟨by omega, by omega⟩
  have e2 : ∀ l, h_lv V n 2 l = V 153 (26 * n + l) := fun l => if_pos rfl
  have e1 : ∀ l, h_lv V n 1 l = V 152 (26 * n + l) := fun l => if_neg (by decide)
  refine r_Machine_isPresent hg rc ?_
  unfold g_cc
  by_cases z : c ≤ 0
  · rw [if_pos z]
    exact ⟨fun y => by omega, fun _ => h1 (Or.inl (by omega))⟩
  · rw [if_neg z, b_shr ⟨by omega, by omega⟩, b_and1 ⟨by omega, by omega⟩]
    have a1 : (52 * n + c - 1) / 2 = 26 * n + (c - 1) / 2 := by omega
    have a2 : 1 - (52 * n + c - 1) % 2 = c % 2 := by omega
    rw [a1, a2]
    refine ⟨fun _ => ⟨⟨by omega, by omega⟩, fun y => h0 (fun w => ?_), fun y => ⟨⟨by omega, by omega⟩, ⟨by omega, by omega⟩, fun w => h1 (Or.inr ⟨by rw [e2]; exact y, by rw [e1]; exact w⟩), fun w => h0 (fun u => ?_)⟩⟩, fun y => by omega⟩
    · rcases w with w | w
      · omega
      · rw [e2] at w; exact w.1 y
    · rcases u with u | u
      · omega
      · rw [e1] at u; exact w u.2
/-- what a part leaves behind -/
def h_W (M V : ax_V) (q cell : Int) (W : ax_V) : Prop := (M 241 q = 19 ∧ W = ax_u V 155 cell 1) ∨ (((M 241 q = 10 ∨ M 241 q = 11) ∧ (if M 246 q < 0 then 0 else V 151 (M 246 q)) = 0 ∧ W = ax_u V 150 10 (if M 243 q < V 150 10 then M 243 q else V 150 10))) ∨ (¬ M 241 q = 19 ∧ (((M 241 q = 10 ∨ M 241 q = 11) ∧ (if M 246 q < 0 then 0 else V 151 (M 246 q)) = 0) → False) ∧ W = V)
set_option maxHeartbeats 8000000 in
theorem t_worth (hS : g_S C0 M0) (hP : ∀ c, 500 ≤ c → c ≤ 573 → V c = P c) (xP : g_fr g_XP C0 P) (hg : ax_g V) (n0 : 0 ≤ n) (n1 : n < (M0 222 86)) (hb : 0 ≤ b ∧ b ≤ 300) (q0 : 0 ≤ q) (q1 : q < (M0 222 26)) (qn : M0 250 q = n) (o22 : ¬ M0 241 q = 22) (hc : (M0 241 q = 6 ∨ M0 241 q = 19) → 0 ≤ b + V 531 q ∧ b + V 531 q < 300) (hl : M0 241 q = 3 → 0 ≤ b + V 540 (26 * n + M0 248 q) ∧ b + V 540 (26 * n + M0 248 q) < 300)
    (h : ∀ v W, ax_rg v → h_W M0 V q (b + V 531 q) W → ((M0 241 q = 18 → (if M0 245 q < 0 then 0 else V 151 (M0 245 q)) = 0 ∨ (if M0 245 q < 0 then 0 else V 151 (M0 245 q)) = 1) → (M0 241 q = 21 → V 152 (26 * n + M0 248 q) = 0 ∨ V 152 (26 * n + M0 248 q) = 1) → v = h_op (M0 241 q) (M0 249 q) (if M0 245 q < 0 then 0 else V 151 (M0 245 q)) (if M0 246 q < 0 then 0 else V 151 (M0 246 q)) (V 151 (M0 247 q)) (V 152 (26 * n + M0 248 q)) (if M0 241 q = 3 then V 155 (b + V 540 (26 * n + M0 248 q)) else V 155 (b + V 531 q))) → Φ v W) : ax_I (az_W B (az_EM B)) (d + 3) q_Machine_worth [.ref 150, ax_i q, ax_i n, ax_i b] V Φ Θ := by
  have sm := hS.small
  have hN := hS.2.1
  have b7 : 0 ≤ q ∧ q < 700 := ⟨q0, by omega⟩
  have rq : ax_rg q := ⟨by omega, by omega⟩
  have rn : ax_rg n := ⟨by omega, by omega⟩
  have rb : ax_rg b := ⟨by omega, by omega⟩
  have tb : ∀ c, 500 ≤ c → c ≤ 573 → c ∉ g_XP → V c = C0 c := fun c a b z => by rw [hP c a b]; exact xP c z
  have oc := (hS.op q0 q1).2
  have ob := (hS.op q0 q1).1
  have kd := hS.kid q0 q1 o22
  have ar := hS.ar q0 q1
  have dt := (hS.p q0 q1).2.2.2.2.2.2.1
  have wh : ((M0 241 q = 0 ∨ M0 241 q = 1) → C0 520 q = M0 249 q) ∧ True := ⟨fun z => (dt.1 z).1, trivial⟩
  have wl : (M0 241 q = 2 ∨ M0 241 q = 3 ∨ M0 241 q = 21) → C0 520 q = 26 * n + M0 248 q := fun z => by rw [(dt.2.2.1 z).2.1, qn]
  have bl : (M0 241 q = 2 ∨ M0 241 q = 3 ∨ M0 241 q = 21) → 0 ≤ 26 * n + M0 248 q ∧ 26 * n + M0 248 q < 208 := fun z => by have := (dt.2.2.1 z).1; omega
  have pl : (9 ≤ M0 241 q ∧ M0 241 q ≤ 11) → C0 519 q = M0 243 q := fun z => (dt.2.2.2.2.2.1 z).1
  unfold e_ar at ar
  obtain ⟨x, ex⟩ : ∃ x : Int, x = if M0 245 q < 0 then 0 else V 151 (M0 245 q) := ⟨_, rfl⟩
  obtain ⟨y, ey⟩ : ∃ y : Int, y = if M0 246 q < 0 then 0 else V 151 (M0 246 q) := ⟨_, rfl⟩
  have hx : ax_rg x := by rw [ex]; split; decide; exact hg _ _
  have hy : ax_rg y := by rw [ey]; split; decide; exact hg _ _
  unfold h_W at h
  rw [← ex, ← ey] at h
  have main : ∀ (y4 y7 : Option Value), ax_y y4 → ax_y y7 → k_Machine_worth_66 B (d + 2) q n b y4 (if M0 245 q < 0 then -1 else M0 246 q) x y7 y V Φ Θ := by
    intro y4 y7 hy4 hy7
    have r5 : ax_rg (if M0 245 q < 0 then -1 else M0 246 q) := by split; decide; exact ⟨by omega, by omega⟩
    refine r_Machine_worth_66 hg rq rn rb hy4 r5 hx hy7 hy ?_
    rw [tb 517 (by decide) (by decide) (by decide), tb 520 (by decide) (by decide) (by decide), tb 519 (by decide) (by decide) (by decide), tb 522 (by decide) (by decide) (by decide)]
    have fin := h
    clear h
    have ho := h_22 ob o22
    rcases ho with o | o | o | o | o | o | o | o | o | o | o | o | o | o | o | o | o | o | o | o | o | o
    · rw [o] at oc
      rw [oc]
      rw [show e_op 0 = 0 from rfl]
      exact ⟨b7, fun _ => ⟨b7, by rw [wh.1 (by omega)]; exact fin _ V (hS.1.2 _ _) (Or.inr (Or.inr ⟨by omega, fun z => by omega, rfl⟩)) (fun _ _ => by rw [o, h_o0])⟩, fun z => absurd z (by decide), fun z => absurd z (by decide), fun z => absurd z (by decide), fun z => absurd z (by decide), fun z => absurd z (by decide), fun z => absurd z (by decide), fun z => absurd z (by decide), fun z => absurd z (by decide), fun z => absurd z (by decide), fun z => absurd z (by decide), fun z => absurd z (by decide), fun w _ _ _ _ _ _ _ _ _ _ _ => absurd rfl w⟩
    · rw [o] at oc
      rw [oc]
      rw [show e_op 1 = 1 from rfl]
      exact ⟨b7, fun z => absurd z (by decide), fun _ => ⟨b7, by rw [wh.1 (by omega)]; exact fin _ V (hS.1.2 _ _) (Or.inr (Or.inr ⟨by omega, fun z => by omega, rfl⟩)) (fun _ _ => by rw [o, h_o1])⟩, fun z => absurd z (by decide), fun z => absurd z (by decide), fun z => absurd z (by decide), fun z => absurd z (by decide), fun z => absurd z (by decide), fun z => absurd z (by decide), fun z => absurd z (by decide), fun z => absurd z (by decide), fun z => absurd z (by decide), fun z => absurd z (by decide), fun _ w _ _ _ _ _ _ _ _ _ _ => absurd rfl w⟩
    · rw [o] at oc
      rw [oc]
      rw [show e_op 2 = 2 from rfl]
      exact ⟨b7, fun z => absurd z (by decide), fun z => absurd z (by decide), fun _ => ⟨b7, by rw [wl (by omega)]; exact ⟨bl (by omega), fin _ V (hg _ _) (Or.inr (Or.inr ⟨by omega, fun z => by omega, rfl⟩)) (fun _ _ => by rw [o, h_o2])⟩⟩, fun z => absurd z (by decide), fun z => absurd z (by decide), fun z => absurd z (by decide), fun z => absurd z (by decide), fun z => absurd z (by decide), fun z => absurd z (by decide), fun z => absurd z (by decide), fun z => absurd z (by decide), fun z => absurd z (by decide), fun _ _ w _ _ _ _ _ _ _ _ _ => absurd rfl w⟩
    · rw [o] at oc
      rw [oc]
      rw [show e_op 3 = 3 from rfl]
      exact ⟨b7, fun z => absurd z (by decide), fun z => absurd z (by decide), fun z => absurd z (by decide), fun _ => ⟨b7, by rw [wl (by omega)]; exact ⟨bl (by omega), hl o, fin _ V (hg _ _) (Or.inr (Or.inr ⟨by omega, fun z => by omega, rfl⟩)) (fun _ _ => by rw [o, h_o3, if_pos rfl])⟩⟩, fun z => absurd z (by decide), fun z => absurd z (by decide), fun z => absurd z (by decide), fun z => absurd z (by decide), fun z => absurd z (by decide), fun z => absurd z (by decide), fun z => absurd z (by decide), fun z => absurd z (by decide), fun _ _ _ w _ _ _ _ _ _ _ _ => absurd rfl w⟩
    · rw [o] at oc
      rw [oc]
      rw [show e_op 4 = 4 from rfl]
      exact ⟨b7, fun z => absurd z (by decide), fun z => absurd z (by decide), fun z => absurd z (by decide), fun z => absurd z (by decide), fun z => absurd z (by decide), fun z => absurd z (by decide), fun z => absurd z (by decide), fun z => absurd z (by decide), fun z => absurd z (by decide), fun z => absurd z (by decide), fun z => absurd z (by decide), fun z => absurd z (by decide), fun _ _ _ _ _ _ _ _ _ _ _ _ => ⟨b7, r_Machine_reckon hg (by decide) hx hy ⟨fun _ => fin _ V (ax_rg_of _) (Or.inr (Or.inr ⟨by omega, fun z => by omega, rfl⟩)) (fun _ _ => by rw [o, h_o4]), fun z => absurd z (by decide), fun z => absurd z (by decide), fun z => absurd z (by decide), fun z => absurd z (by decide), fun z => absurd z (by decide), fun z => absurd z (by decide), fun z => absurd z (by decide), fun z => absurd z (by decide), fun z => absurd z (by decide), fun w _ _ _ _ _ _ _ _ _ => absurd rfl w⟩⟩⟩
    · rw [o] at oc
      rw [oc]
      rw [show e_op 5 = 5 from rfl]
      exact ⟨b7, fun z => absurd z (by decide), fun z => absurd z (by decide), fun z => absurd z (by decide), fun z => absurd z (by decide), fun z => absurd z (by decide), fun z => absurd z (by decide), fun z => absurd z (by decide), fun z => absurd z (by decide), fun z => absurd z (by decide), fun z => absurd z (by decide), fun z => absurd z (by decide), fun z => absurd z (by decide), fun _ _ _ _ _ _ _ _ _ _ _ _ => ⟨b7, r_Machine_reckon hg (by decide) hx hy ⟨fun z => absurd z (by decide), fun _ => fin _ V (ax_rg_of _) (Or.inr (Or.inr ⟨by omega, fun z => by omega, rfl⟩)) (fun _ _ => by rw [o, h_o5]), fun z => absurd z (by decide), fun z => absurd z (by decide), fun z => absurd z (by decide), fun z => absurd z (by decide), fun z => absurd z (by decide), fun z => absurd z (by decide), fun z => absurd z (by decide), fun z => absurd z (by decide), fun _ w _ _ _ _ _ _ _ _ => absurd rfl w⟩⟩⟩
    · rw [o] at oc
      rw [oc]
      rw [show e_op 6 = 6 from rfl]
      exact ⟨b7, fun z => absurd z (by decide), fun z => absurd z (by decide), fun z => absurd z (by decide), fun z => absurd z (by decide), fun _ => ⟨b7, hc (by omega), fin _ V (hg _ _) (Or.inr (Or.inr ⟨by omega, fun z => by omega, rfl⟩)) (fun _ _ => by rw [o, h_o6, if_neg (by decide)])⟩, fun z => absurd z (by decide), fun z => absurd z (by decide), fun z => absurd z (by decide), fun z => absurd z (by decide), fun z => absurd z (by decide), fun z => absurd z (by decide), fun z => absurd z (by decide), fun _ _ _ _ w _ _ _ _ _ _ _ => absurd rfl w⟩
    · rw [o] at oc
      rw [oc]
      rw [show e_op 7 = 13 from rfl]
      exact ⟨b7, fun z => absurd z (by decide), fun z => absurd z (by decide), fun z => absurd z (by decide), fun z => absurd z (by decide), fun z => absurd z (by decide), fun z => absurd z (by decide), fun z => absurd z (by decide), fun z => absurd z (by decide), fun z => absurd z (by decide), fun z => absurd z (by decide), fun z => absurd z (by decide), fun z => absurd z (by decide), fun _ _ _ _ _ _ _ _ _ _ _ _ => ⟨b7, r_Machine_reckon hg (by decide) hx hy ⟨fun z => absurd z (by decide), fun z => absurd z (by decide), fun z => absurd z (by decide), fun z => absurd z (by decide), fun z => absurd z (by decide), fun z => absurd z (by decide), fun z => absurd z (by decide), fun z => absurd z (by decide), fun _ => fin _ V (ax_rg_of _) (Or.inr (Or.inr ⟨by omega, fun z => by omega, rfl⟩)) (fun _ _ => by rw [o, h_o7]), fun z => absurd z (by decide), fun _ _ _ _ _ _ _ _ w _ => absurd rfl w⟩⟩⟩
    · rw [o] at oc
      rw [oc]
      rw [show e_op 8 = 14 from rfl]
      exact ⟨b7, fun z => absurd z (by decide), fun z => absurd z (by decide), fun z => absurd z (by decide), fun z => absurd z (by decide), fun z => absurd z (by decide), fun z => absurd z (by decide), fun z => absurd z (by decide), fun z => absurd z (by decide), fun z => absurd z (by decide), fun z => absurd z (by decide), fun z => absurd z (by decide), fun z => absurd z (by decide), fun _ _ _ _ _ _ _ _ _ _ _ _ => ⟨b7, r_Machine_reckon hg (by decide) hx hy ⟨fun z => absurd z (by decide), fun z => absurd z (by decide), fun z => absurd z (by decide), fun z => absurd z (by decide), fun z => absurd z (by decide), fun z => absurd z (by decide), fun z => absurd z (by decide), fun z => absurd z (by decide), fun z => absurd z (by decide), fun _ => fin _ V (ax_rg_of _) (Or.inr (Or.inr ⟨by omega, fun z => by omega, rfl⟩)) (fun _ _ => by rw [o, h_o8]), fun _ _ _ _ _ _ _ _ _ w => absurd rfl w⟩⟩⟩
    · rw [o] at oc
      rw [oc]
      rw [show e_op 9 = 15 from rfl]
      exact ⟨b7, fun z => absurd z (by decide), fun z => absurd z (by decide), fun z => absurd z (by decide), fun z => absurd z (by decide), fun z => absurd z (by decide), fun z => absurd z (by decide), fun z => absurd z (by decide), fun z => absurd z (by decide), fun z => absurd z (by decide), fun z => absurd z (by decide), fun z => absurd z (by decide), fun z => absurd z (by decide), fun _ _ _ _ _ _ _ _ _ _ _ _ => ⟨b7, r_Machine_reckon hg (by decide) hx hy ⟨fun z => absurd z (by decide), fun z => absurd z (by decide), fun z => absurd z (by decide), fun z => absurd z (by decide), fun z => absurd z (by decide), fun z => absurd z (by decide), fun z => absurd z (by decide), fun z => absurd z (by decide), fun z => absurd z (by decide), fun z => absurd z (by decide), fun _ _ _ _ _ _ _ _ _ _ => fin _ V (ax_rg_of _) (Or.inr (Or.inr ⟨by omega, fun z => by omega, rfl⟩)) (fun _ _ => by rw [o, h_o9])⟩⟩⟩
    · rw [o] at oc
      rw [oc]
      rw [show e_op 10 = 16 from rfl]
      exact ⟨b7, fun z => absurd z (by decide), fun z => absurd z (by decide), fun z => absurd z (by decide), fun z => absurd z (by decide), fun z => absurd z (by decide), fun _ => ⟨b7, by rw [pl (by omega)]; exact r_Machine_divide hg hx hy (hS.1.2 _ _) ⟨fun z V1 e1 => fin 0 V1 (by decide) (Or.inr (Or.inl ⟨by omega, z, e1⟩)) (fun _ _ => by rw [o, h_o10, if_pos z]), fun z => ⟨fun z2 => fin _ V (ax_rg_of _) (Or.inr (Or.inr ⟨by omega, fun y => absurd y.2 z, rfl⟩)) (fun _ _ => by rw [o, h_o10, if_neg z, z2]; exact (ax_div_m hx).symm), fun z2 => ⟨z, fin _ V (ax_rg_of _) (Or.inr (Or.inr ⟨by omega, fun y => absurd y.2 z, rfl⟩)) (fun _ _ => by rw [o, h_o10, if_neg z])⟩⟩⟩⟩, fun z => absurd z (by decide), fun z => absurd z (by decide), fun z => absurd z (by decide), fun z => absurd z (by decide), fun z => absurd z (by decide), fun z => absurd z (by decide), fun _ _ _ _ _ w _ _ _ _ _ _ => absurd rfl w⟩
    · rw [o] at oc
      rw [oc]
      rw [show e_op 11 = 17 from rfl]
      exact ⟨b7, fun z => absurd z (by decide), fun z => absurd z (by decide), fun z => absurd z (by decide), fun z => absurd z (by decide), fun z => absurd z (by decide), fun z => absurd z (by decide), fun _ => ⟨b7, by rw [pl (by omega)]; exact r_Machine_rest hg hx hy (hS.1.2 _ _) ⟨fun z V1 e1 => fin 0 V1 (by decide) (Or.inr (Or.inl ⟨by omega, z, e1⟩)) (fun _ _ => by rw [o, h_o11, if_pos z]), fun z => ⟨fun z2 => fin _ V (by decide) (Or.inr (Or.inr ⟨by omega, fun y => absurd y.2 z, rfl⟩)) (fun _ _ => by rw [o, h_o11, if_neg z, z2]; exact (ax_rem_m hx).symm), fun z2 => ⟨z, fin _ V (ax_rg_of _) (Or.inr (Or.inr ⟨by omega, fun y => absurd y.2 z, rfl⟩)) (fun _ _ => by rw [o, h_o11, if_neg z])⟩⟩⟩⟩, fun z => absurd z (by decide), fun z => absurd z (by decide), fun z => absurd z (by decide), fun z => absurd z (by decide), fun z => absurd z (by decide), fun _ _ _ _ _ _ w _ _ _ _ _ => absurd rfl w⟩
    · rw [o] at oc
      rw [oc]
      rw [show e_op 12 = 9 from rfl]
      exact ⟨b7, fun z => absurd z (by decide), fun z => absurd z (by decide), fun z => absurd z (by decide), fun z => absurd z (by decide), fun z => absurd z (by decide), fun z => absurd z (by decide), fun z => absurd z (by decide), fun z => absurd z (by decide), fun z => absurd z (by decide), fun z => absurd z (by decide), fun z => absurd z (by decide), fun z => absurd z (by decide), fun _ _ _ _ _ _ _ _ _ _ _ _ => ⟨b7, r_Machine_reckon hg (by decide) hx hy ⟨fun z => absurd z (by decide), fun z => absurd z (by decide), fun z => absurd z (by decide), fun z => absurd z (by decide), fun _ => ⟨fun z => fin 1 V (by decide) (Or.inr (Or.inr ⟨by omega, fun z => by omega, rfl⟩)) (fun _ _ => by rw [o, h_o12, if_pos z]), fun z => fin 0 V (by decide) (Or.inr (Or.inr ⟨by omega, fun z => by omega, rfl⟩)) (fun _ _ => by rw [o, h_o12, if_neg z])⟩, fun z => absurd z (by decide), fun z => absurd z (by decide), fun z => absurd z (by decide), fun z => absurd z (by decide), fun z => absurd z (by decide), fun _ _ _ _ w _ _ _ _ _ => absurd rfl w⟩⟩⟩
    · rw [o] at oc
      rw [oc]
      rw [show e_op 13 = 10 from rfl]
      exact ⟨b7, fun z => absurd z (by decide), fun z => absurd z (by decide), fun z => absurd z (by decide), fun z => absurd z (by decide), fun z => absurd z (by decide), fun z => absurd z (by decide), fun z => absurd z (by decide), fun z => absurd z (by decide), fun z => absurd z (by decide), fun z => absurd z (by decide), fun z => absurd z (by decide), fun z => absurd z (by decide), fun _ _ _ _ _ _ _ _ _ _ _ _ => ⟨b7, r_Machine_reckon hg (by decide) hx hy ⟨fun z => absurd z (by decide), fun z => absurd z (by decide), fun z => absurd z (by decide), fun z => absurd z (by decide), fun z => absurd z (by decide), fun _ => ⟨fun z => fin 0 V (by decide) (Or.inr (Or.inr ⟨by omega, fun z => by omega, rfl⟩)) (fun _ _ => by rw [o, h_o13, if_pos z]), fun z => fin 1 V (by decide) (Or.inr (Or.inr ⟨by omega, fun z => by omega, rfl⟩)) (fun _ _ => by rw [o, h_o13, if_neg z])⟩, fun z => absurd z (by decide), fun z => absurd z (by decide), fun z => absurd z (by decide), fun z => absurd z (by decide), fun _ _ _ _ _ w _ _ _ _ => absurd rfl w⟩⟩⟩
    · rw [o] at oc
      rw [oc]
      rw [show e_op 14 = 11 from rfl]
      exact ⟨b7, fun z => absurd z (by decide), fun z => absurd z (by decide), fun z => absurd z (by decide), fun z => absurd z (by decide), fun z => absurd z (by decide), fun z => absurd z (by decide), fun z => absurd z (by decide), fun z => absurd z (by decide), fun z => absurd z (by decide), fun z => absurd z (by decide), fun z => absurd z (by decide), fun z => absurd z (by decide), fun _ _ _ _ _ _ _ _ _ _ _ _ => ⟨b7, r_Machine_reckon hg (by decide) hx hy ⟨fun z => absurd z (by decide), fun z => absurd z (by decide), fun z => absurd z (by decide), fun z => absurd z (by decide), fun z => absurd z (by decide), fun z => absurd z (by decide), fun _ => ⟨fun z => fin 0 V (by decide) (Or.inr (Or.inr ⟨by omega, fun z => by omega, rfl⟩)) (fun _ _ => by rw [o, h_o14, if_neg (by omega)]), fun z => fin 1 V (by decide) (Or.inr (Or.inr ⟨by omega, fun z => by omega, rfl⟩)) (fun _ _ => by rw [o, h_o14, if_pos z])⟩, fun z => absurd z (by decide), fun z => absurd z (by decide), fun z => absurd z (by decide), fun _ _ _ _ _ _ w _ _ _ => absurd rfl w⟩⟩⟩
    · rw [o] at oc
      rw [oc]
      rw [show e_op 15 = 12 from rfl]
      exact ⟨b7, fun z => absurd z (by decide), fun z => absurd z (by decide), fun z => absurd z (by decide), fun z => absurd z (by decide), fun z => absurd z (by decide), fun z => absurd z (by decide), fun z => absurd z (by decide), fun z => absurd z (by decide), fun z => absurd z (by decide), fun z => absurd z (by decide), fun z => absurd z (by decide), fun z => absurd z (by decide), fun _ _ _ _ _ _ _ _ _ _ _ _ => ⟨b7, r_Machine_reckon hg (by decide) hx hy ⟨fun z => absurd z (by decide), fun z => absurd z (by decide), fun z => absurd z (by decide), fun z => absurd z (by decide), fun z => absurd z (by decide), fun z => absurd z (by decide), fun z => absurd z (by decide), fun _ => ⟨fun z => fin 0 V (by decide) (Or.inr (Or.inr ⟨by omega, fun z => by omega, rfl⟩)) (fun _ _ => by rw [o, h_o15, if_neg (by omega)]), fun z => fin 1 V (by decide) (Or.inr (Or.inr ⟨by omega, fun z => by omega, rfl⟩)) (fun _ _ => by rw [o, h_o15, if_pos z])⟩, fun z => absurd z (by decide), fun z => absurd z (by decide), fun _ _ _ _ _ _ _ w _ _ => absurd rfl w⟩⟩⟩
    · rw [o] at oc
      rw [oc]
      rw [show e_op 16 = 8 from rfl]
      exact ⟨b7, fun z => absurd z (by decide), fun z => absurd z (by decide), fun z => absurd z (by decide), fun z => absurd z (by decide), fun z => absurd z (by decide), fun z => absurd z (by decide), fun z => absurd z (by decide), fun z => absurd z (by decide), fun z => absurd z (by decide), fun z => absurd z (by decide), fun z => absurd z (by decide), fun z => absurd z (by decide), fun _ _ _ _ _ _ _ _ _ _ _ _ => ⟨b7, r_Machine_reckon hg (by decide) hx hy ⟨fun z => absurd z (by decide), fun z => absurd z (by decide), fun z => absurd z (by decide), fun _ => fin _ V (ax_rg_of _) (Or.inr (Or.inr ⟨by omega, fun z => by omega, rfl⟩)) (fun _ _ => by rw [o, h_o16]), fun z => absurd z (by decide), fun z => absurd z (by decide), fun z => absurd z (by decide), fun z => absurd z (by decide), fun z => absurd z (by decide), fun z => absurd z (by decide), fun _ _ _ w _ _ _ _ _ _ => absurd rfl w⟩⟩⟩
    · rw [o] at oc
      rw [oc]
      rw [show e_op 17 = 7 from rfl]
      exact ⟨b7, fun z => absurd z (by decide), fun z => absurd z (by decide), fun z => absurd z (by decide), fun z => absurd z (by decide), fun z => absurd z (by decide), fun z => absurd z (by decide), fun z => absurd z (by decide), fun z => absurd z (by decide), fun z => absurd z (by decide), fun z => absurd z (by decide), fun z => absurd z (by decide), fun z => absurd z (by decide), fun _ _ _ _ _ _ _ _ _ _ _ _ => ⟨b7, r_Machine_reckon hg (by decide) hx hy ⟨fun z => absurd z (by decide), fun z => absurd z (by decide), fun _ => fin _ V (ax_rg_of _) (Or.inr (Or.inr ⟨by omega, fun z => by omega, rfl⟩)) (fun _ _ => by rw [o, h_o17]), fun z => absurd z (by decide), fun z => absurd z (by decide), fun z => absurd z (by decide), fun z => absurd z (by decide), fun z => absurd z (by decide), fun z => absurd z (by decide), fun z => absurd z (by decide), fun _ _ w _ _ _ _ _ _ _ => absurd rfl w⟩⟩⟩
    · rw [o] at oc
      rw [oc]
      rw [show e_op 18 = 18 from rfl]
      rw [if_neg (show ¬ M0 245 q < 0 by omega), kd.2.2.2.2.2.1 (by omega)]
      exact ⟨b7, fun z => absurd z (by decide), fun z => absurd z (by decide), fun z => absurd z (by decide), fun z => absurd z (by decide), fun z => absurd z (by decide), fun z => absurd z (by decide), fun z => absurd z (by decide), fun _ => ⟨fun z => ⟨⟨by omega, by omega⟩, ⟨by omega, by omega⟩, fin _ V (hg _ _) (Or.inr (Or.inr ⟨by omega, fun z => by omega, rfl⟩)) (fun _ _ => by rw [o, h_o18, if_neg (by rw [z]; decide)])⟩, fun z => fin _ V hy (Or.inr (Or.inr ⟨by omega, fun z => by omega, rfl⟩)) (fun q1 _ => by rcases q1 o with q1 | q1; exact absurd q1 z; rw [o, h_o18, if_pos q1])⟩, fun z => absurd z (by decide), fun z => absurd z (by decide), fun z => absurd z (by decide), fun z => absurd z (by decide), fun _ _ _ _ _ _ _ w _ _ _ _ => absurd rfl w⟩
    · rw [o] at oc
      rw [oc]
      rw [show e_op 19 = 19 from rfl]
      exact ⟨b7, fun z => absurd z (by decide), fun z => absurd z (by decide), fun z => absurd z (by decide), fun z => absurd z (by decide), fun z => absurd z (by decide), fun z => absurd z (by decide), fun z => absurd z (by decide), fun z => absurd z (by decide), fun _ => ⟨b7, r_Machine_firstThenLater hg ⟨by have := hc (by omega); omega, by have := hc (by omega); omega⟩ hx hy ⟨hc (by omega), fun z => ⟨hc (by omega), fun V2 e2 => fin _ V2 hx (Or.inl ⟨o, e2⟩) (fun _ _ => by rw [o, h_o19, if_neg (show ¬ (19 : Int) = 3 by decide), if_pos z])⟩, fun z => ⟨hc (by omega), fun V2 e2 => fin _ V2 hy (Or.inl ⟨o, e2⟩) (fun _ _ => by rw [o, h_o19, if_neg (show ¬ (19 : Int) = 3 by decide), if_neg z])⟩⟩⟩, fun z => absurd z (by decide), fun z => absurd z (by decide), fun z => absurd z (by decide), fun _ _ _ _ _ _ _ _ w _ _ _ => absurd rfl w⟩
    · rw [o] at oc
      rw [oc]
      rw [show e_op 20 = 20 from rfl]
      exact ⟨b7, fun z => absurd z (by decide), fun z => absurd z (by decide), fun z => absurd z (by decide), fun z => absurd z (by decide), fun z => absurd z (by decide), fun z => absurd z (by decide), fun z => absurd z (by decide), fun z => absurd z (by decide), fun z => absurd z (by decide), fun _ => fin _ V hx (Or.inr (Or.inr ⟨by omega, fun z => by omega, rfl⟩)) (fun _ _ => by rw [o, h_o20]), fun z => absurd z (by decide), fun z => absurd z (by decide), fun _ _ _ _ _ _ _ _ _ w _ _ => absurd rfl w⟩
    · rw [o] at oc
      rw [oc]
      rw [show e_op 21 = 21 from rfl]
      exact ⟨b7, fun z => absurd z (by decide), fun z => absurd z (by decide), fun z => absurd z (by decide), fun z => absurd z (by decide), fun z => absurd z (by decide), fun z => absurd z (by decide), fun z => absurd z (by decide), fun z => absurd z (by decide), fun z => absurd z (by decide), fun z => absurd z (by decide), fun _ => ⟨b7, by rw [wl (by omega)]; exact ⟨bl (by omega), fun z => fin _ V hy (Or.inr (Or.inr ⟨by omega, fun z => by omega, rfl⟩)) (fun _ _ => by rw [o, h_o21, if_neg (by rw [z]; decide)]), fun z => fin _ V hx (Or.inr (Or.inr ⟨by omega, fun z => by omega, rfl⟩)) (fun _ q2 => by rcases q2 o with q2 | q2; exact absurd q2 z; rw [o, h_o21, if_pos q2])⟩⟩, fun z => absurd z (by decide), fun _ _ _ _ _ _ _ _ _ _ w _ => absurd rfl w⟩
  refine r_Machine_worth hg rq rn rb ⟨b7, ?_⟩
  rw [tb 521 (by decide) (by decide) (by decide), tb 522 (by decide) (by decide) (by decide), kd.1]
  refine ⟨fun z => ⟨⟨z, by omega⟩, ?_⟩, fun z => ?_⟩
  · rw [kd.2.2.2.2.1 z]
    have m := main (some (ax_i (M0 245 q))) none (ax_y_i _) ax_y_n
    rw [if_neg (by omega), ex, ey, if_neg (by omega)] at m
    refine r_Machine_worth_30 hg rq rn rb ⟨by omega, by omega⟩ ax_y_n ax_y_n ax_y_n ⟨by omega, by omega⟩ ⟨fun _ => ⟨⟨z, by omega⟩, fun w => ⟨⟨w, by omega⟩, ?_⟩, fun w => ?_⟩, fun w => by omega⟩
    · rw [if_neg (by omega)] at m; exact m
    · rw [if_pos w] at m; exact m
  · have m := main (some (ax_i (M0 245 q))) none (ax_y_i _) ax_y_n
    have bz : M0 246 q < 0 := by omega
    rw [if_pos z, ex, ey, if_pos z, if_pos bz] at m
    refine r_Machine_worth_30 hg rq rn rb ⟨by omega, by omega⟩ ax_y_n ax_y_n ax_y_n (by decide) ⟨fun w => by omega, fun _ => ⟨fun w => absurd w (by decide), fun _ => ?_⟩⟩
    exact m
end Worth
