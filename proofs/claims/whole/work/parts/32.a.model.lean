/-! THE MODEL'S TICK: its world, small methods, a part that is no call -/
abbrev h_DC : List Nat := [222, 291, 292, 293, 294, 295, 296, 297, 298]
abbrev h_CM : List Nat := [238, 239, 240, 251, 253, 254, 255, 256, 257, 270]
/-- a model that can run -/
def h_RM (C M : ax_V) (S U J Im : Int → Int) (V : ax_V) : Prop :=
  (∀ c, 226 ≤ c → c ≤ 277 → c ∉ h_CM → V c = M c) ∧ (V 222 26 = (M 222 26) ∧ V 222 44 = (M 222 44) ∧ V 222 55 = (M 222 55) ∧ V 222 60 = (M 222 60)) ∧ (∀ q, 0 ≤ q → q < (M 222 26) → M 241 q = 22 → V 251 q = C 520 q) ∧ g_EA C M V (fun _ => True) ∧ (∀ q, 0 ≤ q → q < (M 222 26) → V 254 q = S q) ∧ (∀ q, 0 ≤ q → q < (M 222 26) → V 256 q = C 526 q) ∧ (∀ k, 0 ≤ k → k < (M 222 86) → g_OD C M V k) ∧ g_NA C M U J V (M 222 86) ∧ ∀ x, V 290 x = Im x
theorem ax_wr_i {x : Int} (h : ax_rg x) : ax_wr x = x := ax_toInt h
theorem b_rm2_t : ∀ x : Fin 60, ax_rem ((x : Nat) : Int) 2 = (((x : Nat) % 2 : Nat) : Int) := by decide +kernel
theorem b_rm2 {x : Int} (h0 : 0 ≤ x ∧ x < 60) : ax_rem x 2 = x % 2 := by
  have h := b_rm2_t ⟨x.toNat, by omega⟩
  have e : (((⟨x.toNat, by omega⟩ : Fin 60) : Nat) : Int) = x := by show ((x.toNat : Nat) : Int) = x; omega
  rw [e] at h
  rw [h]
  show ((x.toNat % 2 : Nat) : Int) = x % 2
  omega
/-- letters of a level, in the model -/
def h_ml (V : ax_V) (lv : Int) : Int → Int → Int := fun k l => if k = 2 then V 294 (26 * lv + l) else V 293 (26 * lv + l)
/-- what a part leaves behind, but for its value -/
def h_WM (M V : ax_V) (y q cell : Int) (W : ax_V) : Prop := (M 241 q = 19 ∧ W = ax_u V 292 cell 1) ∨ ((M 241 q = 10 ∨ M 241 q = 11) ∧ y = 0 ∧ W = ax_u V 222 101 (if V 222 101 = -1 ∨ M 243 q < V 222 101 then M 243 q else V 222 101)) ∨ (¬ M 241 q = 19 ∧ (((M 241 q = 10 ∨ M 241 q = 11) ∧ y = 0) → False) ∧ W = V)
section ModelA
variable {d : Nat} {C0 M0 V V0 W : ax_V} {S U J Im : Int → Int} {n q b c lv : Int} {Φ : Int → ax_V → Prop} {Ψ Θ : ax_V → Prop}
theorem h_RM.fr (h : h_RM C0 M0 S U J Im V0) (f : g_fr h_DC V0 V) (g : g_sc [101] V0 V) : h_RM C0 M0 S U J Im V := by
  obtain ⟨h1, h2, h3, h4, h5, h6, h7, h8, h9⟩ := h
  have e : ∀ c, 223 ≤ c → c ≤ 290 → V c = V0 c := fun c a b => f c (by simp; omega)
  refine ⟨fun c a b z => by rw [e c (by omega) (by omega)]; exact h1 c a b z, ⟨?_, ?_, ?_, ?_⟩, fun q a b o => by rw [e 251 (by decide) (by decide)]; exact h3 q a b o, h4.at (e 238 (by decide) (by decide)) (e 239 (by decide) (by decide)), fun q a b => by rw [e 254 (by decide) (by decide)]; exact h5 q a b, fun q a b => by rw [e 256 (by decide) (by decide)]; exact h6 q a b, fun k a b => (h7 k a b).at (by rw [e 284 (by decide) (by decide)]) (fun s _ _ => by rw [e 285 (by decide) (by decide)]), fun m m0 m1 => ?_, fun x => by rw [e 290 (by decide) (by decide)]; exact h9 x⟩
  · rw [g 26 (by decide)]; exact h2.1
  · rw [g 44 (by decide)]; exact h2.2.1
  · rw [g 55 (by decide)]; exact h2.2.2.1
  · rw [g 60 (by decide)]; exact h2.2.2.2
  · have u := h8 m m0 m1
    unfold g_NK at u ⊢
    rw [e 288 (by decide) (by decide), e 289 (by decide) (by decide), e 240 (by decide) (by decide), e 290 (by decide) (by decide), e 270 (by decide) (by decide), e 257 (by decide) (by decide)]
    exact u
theorem s_valueAt (hg : ax_g V) (hl : 0 ≤ lv ∧ lv ≤ 8) {x : Int} (hx : -1 ≤ x ∧ x < 701) (h : Φ (if x = -1 then 0 else V 296 (701 * lv + x)) V) : ax_I ay_lay (d + 1) q_Model_valueAt [.ref 222, ax_i lv, ax_i x] V Φ Θ := by
  refine r_Model_valueAt hg ⟨by omega, by omega⟩ ⟨by omega, by omega⟩ ⟨fun z => ?_, fun z => ⟨⟨by omega, by omega⟩, ?_⟩⟩
  · rw [if_pos z] at h; exact h
  · rw [if_neg z] at h; exact h
theorem s_isOnT (hg : ax_g V) (hl : 0 ≤ lv ∧ lv ≤ 7) (hc : 0 ≤ c ∧ c ≤ 52) (h1 : h_on (h_ml V lv) c → Φ 1 V) (h0 : ¬ h_on (h_ml V lv) c → Φ 0 V) : ax_I ay_lay (d + 1) q_Model_isOn [.ref 222, ax_i lv, ax_i c] V Φ Θ := by
  have e2 : ∀ l, h_ml V lv 2 l = V 294 (26 * lv + l) := fun l => if_pos rfl
  have e1 : ∀ l, h_ml V lv 1 l = V 293 (26 * lv + l) := fun l => if_neg (by decide)
  refine r_Model_isOn hg ⟨by omega, by omega⟩ ⟨by omega, by omega⟩ ⟨fun z => h1 (Or.inl z), fun z => ?_⟩
  rw [b_div (x := c - 1) ⟨by omega, by omega⟩, b_rm2 (x := c) ⟨by omega, by omega⟩]
  have bb : 0 ≤ 26 * lv + (c - 1) / 2 ∧ 26 * lv + (c - 1) / 2 < 240 := ⟨by omega, by omega⟩
  refine ⟨bb, fun y => h0 (fun w => ?_), fun y => ⟨bb, fun w => ⟨fun u => h1 (Or.inr ⟨by rw [e2]; exact y, by rw [e1, u, w]⟩), fun u => h0 (fun t => ?_)⟩, fun w => ⟨fun u => h1 (Or.inr ⟨by rw [e2]; exact y, by rw [e1, u]; omega⟩), fun u => h0 (fun t => ?_)⟩⟩⟩
  · rcases w with w | w
    · exact z w
    · rw [e2] at w; exact w.1 y
  · rcases t with t | t
    · exact z t
    · rw [e1, w] at t; exact u t.2
  · rcases t with t | t
    · exact z t
    · rw [e1] at t
      have t2 := t.2
      exact u (by omega)
set_option maxHeartbeats 8000000 in
theorem s_work (hS : g_S C0 M0) (hV : h_RM C0 M0 S U J Im V) (hg : ax_g V) (hlv : 0 ≤ lv ∧ lv ≤ 7) (n0 : 0 ≤ n) (n1 : n < (M0 222 86)) (hb : 0 ≤ b ∧ b ≤ 600) (q0 : 0 ≤ q) (q1 : q < (M0 222 26)) (qn : M0 250 q = n) (o22 : ¬ M0 241 q = 22) (hc : (M0 241 q = 6 ∨ M0 241 q = 19) → 0 ≤ b + V 257 q ∧ b + V 257 q < 600) (hl : M0 241 q = 3 → 0 ≤ b + V 240 (26 * n + M0 248 q) ∧ b + V 240 (26 * n + M0 248 q) < 600)
    (h : ∀ v V1 W, ax_rg v → v = h_op (M0 241 q) (M0 249 q) (if M0 245 q = -1 then 0 else V 296 (701 * lv + M0 245 q)) (if M0 246 q = -1 then 0 else V 296 (701 * lv + M0 246 q)) (if M0 247 q = -1 then 0 else V 296 (701 * lv + M0 247 q)) (V 293 (26 * lv + M0 248 q)) (if M0 241 q = 3 then V 291 (b + V 240 (26 * n + M0 248 q)) else V 291 (b + V 257 q)) → h_WM M0 V (if M0 246 q = -1 then 0 else V 296 (701 * lv + M0 246 q)) q (b + V 257 q) V1 → ax_g V1 → W = ax_u V1 296 (701 * lv + q) v → Ψ W) : ax_N ay_lay (d + 3) q_Model_work [.ref 222, ax_i lv, ax_i n, ax_i b, ax_i q] V Ψ Θ := by
  have sm := hS.small
  have hN := hS.2.1
  have b7 : 0 ≤ q ∧ q < 701 := ⟨q0, by omega⟩
  have rq : ax_rg q := ⟨by omega, by omega⟩
  have rl : ax_rg lv := ⟨by omega, by omega⟩
  have rn : ax_rg n := ⟨by omega, by omega⟩
  have rb : ax_rg b := ⟨by omega, by omega⟩
  have tm := hV.1
  have ob := (hS.op q0 q1).1
  have kd := hS.kid q0 q1 o22
  have dt := (hS.p q0 q1).2.2.2.2.2.2.1
  have lt : (M0 241 q = 2 ∨ M0 241 q = 3 ∨ M0 241 q = 21) → 0 ≤ M0 248 q ∧ M0 248 q < 26 := fun z => (dt.2.2.1 z).1
  have sg : (9 ≤ M0 241 q ∧ M0 241 q ≤ 11) → e_pl (M0 243 q) := fun z => (dt.2.2.2.2.2.1 z).2
  obtain ⟨x, ex⟩ : ∃ x : Int, x = if M0 245 q = -1 then 0 else V 296 (701 * lv + M0 245 q) := ⟨_, rfl⟩
  obtain ⟨y, ey⟩ : ∃ y : Int, y = if M0 246 q = -1 then 0 else V 296 (701 * lv + M0 246 q) := ⟨_, rfl⟩
  obtain ⟨w, ew⟩ : ∃ w : Int, w = if M0 247 q = -1 then 0 else V 296 (701 * lv + M0 247 q) := ⟨_, rfl⟩
  obtain ⟨L, eL⟩ : ∃ L : Int, L = if M0 248 q = -1 then 0 else M0 248 q := ⟨_, rfl⟩
  rw [← ex, ← ey, ← ew] at h
  have hx : ax_rg x := by rw [ex]; split; decide; exact hg _ _
  have hy : ax_rg y := by rw [ey]; split; decide; exact hg _ _
  have hw : ax_rg w := by rw [ew]; split; decide; exact hg _ _
  have eLl : (M0 241 q = 2 ∨ M0 241 q = 3 ∨ M0 241 q = 21) → L = M0 248 q := fun z => by rw [eL, if_neg (by have := lt z; omega)]
  have rL : ax_rg L := by rw [eL]; split; decide; exact hS.1.2 _ _
  have s1 : ax_wr (26 * lv) = 26 * lv := ax_wr_i ⟨by omega, by omega⟩
  have s2 : ax_wr (26 * n) = 26 * n := ax_wr_i ⟨by omega, by omega⟩
  have s3 : ax_wr (ax_wr (701 * lv) + q) = 701 * lv + q := by rw [ax_wr_i (x := 701 * lv) ⟨by omega, by omega⟩]; exact ax_wr_i ⟨by omega, by omega⟩
  have fin : ∀ v V1 (y5 y6 y7 : Option Value), ax_y y5 → ax_y y6 → ax_y y7 → ax_rg v → ax_g V1 → h_WM M0 V y q (b + V 257 q) V1 → v = h_op (M0 241 q) (M0 249 q) x y w (V 293 (26 * lv + M0 248 q)) (if M0 241 q = 3 then V 291 (b + V 240 (26 * n + M0 248 q)) else V 291 (b + V 257 q)) → k_Model_work_518 (d + 2) lv (some (ax_i n)) (some (ax_i b)) q y5 y6 y7 v V1 Ψ Θ := by
    intro v V1 y5 y6 y7 h5 h6 h7 rv g1 hW hv
    refine r_Model_work_518 g1 rl (ax_y_i _) (ax_y_i _) rq h5 h6 h7 rv ?_
    rw [s3]
    exact ⟨⟨by omega, by omega⟩, fun W eW => h v V1 W rv hv hW g1 eW⟩
  have same : ¬ M0 241 q = 19 → (((M0 241 q = 10 ∨ M0 241 q = 11) ∧ y = 0) → False) → h_WM M0 V y q (b + V 257 q) V := fun z1 z2 => Or.inr (Or.inr ⟨z1, z2, rfl⟩)
  have dv : (M0 241 q = 10 ∨ M0 241 q = 11) → ∀ Φ : Int → ax_V → Prop, (∀ v V1, ax_rg v → ax_g V1 → h_WM M0 V y q (b + V 257 q) V1 → ((M0 241 q = 10 → v = if y = 0 then 0 else ax_div x y) ∧ (M0 241 q = 11 → v = if y = 0 then 0 else ax_rem x y)) → Φ v V1) → ax_I ay_lay (d + 2) q_Model_divided [.ref 222, ax_i q, ax_i x, ax_i y] V Φ Θ := by
    intro o Φ hΦ
    have sgo := sg (by omega)
    unfold e_pl at sgo
    refine r_Model_divided hg rq hx hy ⟨fun z => r_Model_fail hg rq ?_, fun z => ⟨b7, ?_⟩⟩
    · rw [tm 243 (by decide) (by decide) (by decide)]
      have go : ∀ V1, V1 = ax_u V 222 101 (if V 222 101 = -1 ∨ M0 243 q < V 222 101 then M0 243 q else V 222 101) → Φ 0 V1 := fun V1 e1 => hΦ 0 V1 (by decide) (by rw [e1]; exact ax_u_g hg (by split; exact hS.1.2 _ _; exact hg _ _)) (Or.inr (Or.inl ⟨o, z, e1⟩)) ⟨fun _ => (if_pos z).symm, fun _ => (if_pos z).symm⟩
      refine ⟨fun u => ⟨b7, fun V1 e1 => go V1 (by rw [if_pos (Or.inl u)]; exact e1)⟩, fun u => ⟨b7, fun u2 V1 e1 => go V1 (by rw [if_neg (by omega)]; exact e1), fun u2 => ⟨b7, fun V1 e1 => go V1 (by rw [if_pos (Or.inr u2)]; exact e1)⟩⟩⟩
    · rw [tm 241 (by decide) (by decide) (by decide)]
      refine ⟨fun u => ⟨z, hΦ _ V (ax_rg_of _) hg (same (by omega) (fun t => z t.2)) ⟨fun _ => by rw [if_neg z], fun t => by omega⟩⟩, fun u => ⟨z, hΦ _ V (ax_rg_of _) hg (same (by omega) (fun t => z t.2)) ⟨fun t => absurd t u, fun _ => by rw [if_neg z]⟩⟩⟩
  have main : ∀ (y7 y8 : Option Value), ax_y y7 → ax_y y8 → k_Model_work_70 (d + 2) lv n b q x y y7 y8 L (ax_wr (26 * lv)) V Ψ Θ := by
    intro y7 y8 h7 h8
    refine r_Model_work_70 hg rl rn rb rq hx hy h7 h8 rL (ax_rg_of _) ?_
    rw [tm 241 (by decide) (by decide) (by decide), tm 249 (by decide) (by decide) (by decide), tm 248 (by decide) (by decide) (by decide), tm 247 (by decide) (by decide) (by decide), s1, s2]
    have ho := h_22 ob o22
    clear h ex ey
    rcases ho with o | o | o | o | o | o | o | o | o | o | o | o | o | o | o | o | o | o | o | o | o | o
    · rw [o]
      exact ⟨b7, fun _ => ⟨b7, fin (_) V _ _ _ (ax_y_i _) (ax_y_i _) (ax_y_i _) (hS.1.2 _ _) hg (same (by omega) (fun t => by have := t.1; omega)) (by rw [o, h_o0])⟩, fun z => absurd z (by decide), fun z => absurd z (by decide), fun z => absurd z (by decide), fun z => absurd z (by decide), fun z => absurd z (by decide), fun z => absurd z (by decide), fun z => absurd z (by decide), fun z => absurd z (by decide), fun z => absurd z (by decide), fun z => absurd z (by decide), fun z => absurd z (by decide), fun z => absurd z (by decide), fun z => absurd z (by decide), fun z => absurd z (by decide), fun z => absurd z (by decide), fun z => absurd z (by decide), fun z => absurd z (by decide), fun z => absurd z (by decide), fun z => absurd z (by decide), fun w _ _ _ _ _ _ _ _ _ _ _ _ _ _ _ _ _ _ _ _ _ => absurd rfl w⟩
    · rw [o]
      exact ⟨b7, fun _ => ⟨b7, fin (_) V _ _ _ (ax_y_i _) (ax_y_i _) (ax_y_i _) (hS.1.2 _ _) hg (same (by omega) (fun t => by have := t.1; omega)) (by rw [o, h_o1])⟩, fun z => absurd z (by decide), fun z => absurd z (by decide), fun z => absurd z (by decide), fun z => absurd z (by decide), fun z => absurd z (by decide), fun z => absurd z (by decide), fun z => absurd z (by decide), fun z => absurd z (by decide), fun z => absurd z (by decide), fun z => absurd z (by decide), fun z => absurd z (by decide), fun z => absurd z (by decide), fun z => absurd z (by decide), fun z => absurd z (by decide), fun z => absurd z (by decide), fun z => absurd z (by decide), fun z => absurd z (by decide), fun z => absurd z (by decide), fun z => absurd z (by decide), fun _ w _ _ _ _ _ _ _ _ _ _ _ _ _ _ _ _ _ _ _ _ => absurd rfl w⟩
    · rw [o]
      exact ⟨b7, fun z => absurd z (by decide), fun _ => by rw [eLl (by omega), ax_wr_i (x := 26 * lv + M0 248 q) ⟨by have := lt (by omega); omega, by have := lt (by omega); omega⟩]; exact ⟨⟨by have := lt (by omega); omega, by have := lt (by omega); omega⟩, fin _ V _ _ _ (ax_y_i _) (ax_y_i _) (ax_y_i _) (hg _ _) hg (same (by omega) (fun t => by have := t.1; omega)) (by rw [o, h_o2])⟩, fun z => absurd z (by decide), fun z => absurd z (by decide), fun z => absurd z (by decide), fun z => absurd z (by decide), fun z => absurd z (by decide), fun z => absurd z (by decide), fun z => absurd z (by decide), fun z => absurd z (by decide), fun z => absurd z (by decide), fun z => absurd z (by decide), fun z => absurd z (by decide), fun z => absurd z (by decide), fun z => absurd z (by decide), fun z => absurd z (by decide), fun z => absurd z (by decide), fun z => absurd z (by decide), fun z => absurd z (by decide), fun z => absurd z (by decide), fun _ _ w _ _ _ _ _ _ _ _ _ _ _ _ _ _ _ _ _ _ _ => absurd rfl w⟩
    · rw [o]
      exact ⟨b7, fun z => absurd z (by decide), fun z => absurd z (by decide), fun _ => by rw [ax_wr_i (x := 26 * n + M0 248 q) ⟨by have := lt (by omega); omega, by have := lt (by omega); omega⟩, ax_wr_i (x := b + V 240 (26 * n + M0 248 q)) ⟨by have := hl o; omega, by have := hl o; omega⟩]; exact ⟨b7, ⟨by have := lt (by omega); omega, by have := lt (by omega); omega⟩, hl o, fin (_) V _ _ _ (ax_y_i _) (ax_y_i _) (ax_y_i _) (hg _ _) hg (same (by omega) (fun t => by have := t.1; omega)) (by rw [o, h_o3]; rw [if_pos rfl])⟩, fun z => absurd z (by decide), fun z => absurd z (by decide), fun z => absurd z (by decide), fun z => absurd z (by decide), fun z => absurd z (by decide), fun z => absurd z (by decide), fun z => absurd z (by decide), fun z => absurd z (by decide), fun z => absurd z (by decide), fun z => absurd z (by decide), fun z => absurd z (by decide), fun z => absurd z (by decide), fun z => absurd z (by decide), fun z => absurd z (by decide), fun z => absurd z (by decide), fun z => absurd z (by decide), fun z => absurd z (by decide), fun _ _ _ w _ _ _ _ _ _ _ _ _ _ _ _ _ _ _ _ _ _ => absurd rfl w⟩
    · rw [o]
      exact ⟨b7, fun z => absurd z (by decide), fun z => absurd z (by decide), fun z => absurd z (by decide), fun _ => fin (_) V _ _ _ (ax_y_i _) (ax_y_i _) (ax_y_i _) (ax_rg_of _) hg (same (by omega) (fun t => by have := t.1; omega)) (by rw [o, h_o4]), fun z => absurd z (by decide), fun z => absurd z (by decide), fun z => absurd z (by decide), fun z => absurd z (by decide), fun z => absurd z (by decide), fun z => absurd z (by decide), fun z => absurd z (by decide), fun z => absurd z (by decide), fun z => absurd z (by decide), fun z => absurd z (by decide), fun z => absurd z (by decide), fun z => absurd z (by decide), fun z => absurd z (by decide), fun z => absurd z (by decide), fun z => absurd z (by decide), fun z => absurd z (by decide), fun _ _ _ _ w _ _ _ _ _ _ _ _ _ _ _ _ _ _ _ _ _ => absurd rfl w⟩
    · rw [o]
      exact ⟨b7, fun z => absurd z (by decide), fun z => absurd z (by decide), fun z => absurd z (by decide), fun z => absurd z (by decide), fun _ => fin (_) V _ _ _ (ax_y_i _) (ax_y_i _) (ax_y_i _) (ax_rg_of _) hg (same (by omega) (fun t => by have := t.1; omega)) (by rw [o, h_o5]), fun z => absurd z (by decide), fun z => absurd z (by decide), fun z => absurd z (by decide), fun z => absurd z (by decide), fun z => absurd z (by decide), fun z => absurd z (by decide), fun z => absurd z (by decide), fun z => absurd z (by decide), fun z => absurd z (by decide), fun z => absurd z (by decide), fun z => absurd z (by decide), fun z => absurd z (by decide), fun z => absurd z (by decide), fun z => absurd z (by decide), fun z => absurd z (by decide), fun _ _ _ _ _ w _ _ _ _ _ _ _ _ _ _ _ _ _ _ _ _ => absurd rfl w⟩
    · rw [o]
      exact ⟨b7, fun z => absurd z (by decide), fun z => absurd z (by decide), fun z => absurd z (by decide), fun z => absurd z (by decide), fun z => absurd z (by decide), fun _ => by rw [ax_wr_i (x := b + V 257 q) ⟨by have := hc (Or.inl o); omega, by have := hc (Or.inl o); omega⟩]; exact ⟨b7, hc (Or.inl o), fin (_) V _ _ _ (ax_y_i _) (ax_y_i _) (ax_y_i _) (hg _ _) hg (same (by omega) (fun t => by have := t.1; omega)) (by rw [o, h_o6]; rw [if_neg (by decide)])⟩, fun z => absurd z (by decide), fun z => absurd z (by decide), fun z => absurd z (by decide), fun z => absurd z (by decide), fun z => absurd z (by decide), fun z => absurd z (by decide), fun z => absurd z (by decide), fun z => absurd z (by decide), fun z => absurd z (by decide), fun z => absurd z (by decide), fun z => absurd z (by decide), fun z => absurd z (by decide), fun z => absurd z (by decide), fun z => absurd z (by decide), fun _ _ _ _ _ _ w _ _ _ _ _ _ _ _ _ _ _ _ _ _ _ => absurd rfl w⟩
    · rw [o]
      exact ⟨b7, fun z => absurd z (by decide), fun z => absurd z (by decide), fun z => absurd z (by decide), fun z => absurd z (by decide), fun z => absurd z (by decide), fun z => absurd z (by decide), fun _ => fin (_) V _ _ _ (ax_y_i _) (ax_y_i _) (ax_y_i _) (ax_rg_of _) hg (same (by omega) (fun t => by have := t.1; omega)) (by rw [o, h_o7]), fun z => absurd z (by decide), fun z => absurd z (by decide), fun z => absurd z (by decide), fun z => absurd z (by decide), fun z => absurd z (by decide), fun z => absurd z (by decide), fun z => absurd z (by decide), fun z => absurd z (by decide), fun z => absurd z (by decide), fun z => absurd z (by decide), fun z => absurd z (by decide), fun z => absurd z (by decide), fun z => absurd z (by decide), fun _ _ _ _ _ _ _ w _ _ _ _ _ _ _ _ _ _ _ _ _ _ => absurd rfl w⟩
    · rw [o]
      exact ⟨b7, fun z => absurd z (by decide), fun z => absurd z (by decide), fun z => absurd z (by decide), fun z => absurd z (by decide), fun z => absurd z (by decide), fun z => absurd z (by decide), fun z => absurd z (by decide), fun _ => fin (_) V _ _ _ (ax_y_i _) (ax_y_i _) (ax_y_i _) (ax_rg_of _) hg (same (by omega) (fun t => by have := t.1; omega)) (by rw [o, h_o8]), fun z => absurd z (by decide), fun z => absurd z (by decide), fun z => absurd z (by decide), fun z => absurd z (by decide), fun z => absurd z (by decide), fun z => absurd z (by decide), fun z => absurd z (by decide), fun z => absurd z (by decide), fun z => absurd z (by decide), fun z => absurd z (by decide), fun z => absurd z (by decide), fun z => absurd z (by decide), fun _ _ _ _ _ _ _ _ w _ _ _ _ _ _ _ _ _ _ _ _ _ => absurd rfl w⟩
    · rw [o]
      exact ⟨b7, fun z => absurd z (by decide), fun z => absurd z (by decide), fun z => absurd z (by decide), fun z => absurd z (by decide), fun z => absurd z (by decide), fun z => absurd z (by decide), fun z => absurd z (by decide), fun z => absurd z (by decide), fun _ => fin (_) V _ _ _ (ax_y_i _) (ax_y_i _) (ax_y_i _) (ax_rg_of _) hg (same (by omega) (fun t => by have := t.1; omega)) (by rw [o, h_o9]), fun z => absurd z (by decide), fun z => absurd z (by decide), fun z => absurd z (by decide), fun z => absurd z (by decide), fun z => absurd z (by decide), fun z => absurd z (by decide), fun z => absurd z (by decide), fun z => absurd z (by decide), fun z => absurd z (by decide), fun z => absurd z (by decide), fun z => absurd z (by decide), fun _ _ _ _ _ _ _ _ _ w _ _ _ _ _ _ _ _ _ _ _ _ => absurd rfl w⟩
    · rw [o]
      exact ⟨b7, fun z => absurd z (by decide), fun z => absurd z (by decide), fun z => absurd z (by decide), fun z => absurd z (by decide), fun z => absurd z (by decide), fun z => absurd z (by decide), fun z => absurd z (by decide), fun z => absurd z (by decide), fun z => absurd z (by decide), fun _ => dv (Or.inl o) _ (fun v V1 rv g1 hW hv => fin v V1 _ _ _ (ax_y_i _) (ax_y_i _) (ax_y_i _) rv g1 hW (by rw [o, h_o10]; exact hv.1 o)), fun z => absurd z (by decide), fun z => absurd z (by decide), fun z => absurd z (by decide), fun z => absurd z (by decide), fun z => absurd z (by decide), fun z => absurd z (by decide), fun z => absurd z (by decide), fun z => absurd z (by decide), fun z => absurd z (by decide), fun z => absurd z (by decide), fun _ _ _ _ _ _ _ _ _ _ w _ _ _ _ _ _ _ _ _ _ _ => absurd rfl w⟩
    · rw [o]
      exact ⟨b7, fun z => absurd z (by decide), fun z => absurd z (by decide), fun z => absurd z (by decide), fun z => absurd z (by decide), fun z => absurd z (by decide), fun z => absurd z (by decide), fun z => absurd z (by decide), fun z => absurd z (by decide), fun z => absurd z (by decide), fun _ => dv (Or.inr o) _ (fun v V1 rv g1 hW hv => fin v V1 _ _ _ (ax_y_i _) (ax_y_i _) (ax_y_i _) rv g1 hW (by rw [o, h_o11]; exact hv.2 o)), fun z => absurd z (by decide), fun z => absurd z (by decide), fun z => absurd z (by decide), fun z => absurd z (by decide), fun z => absurd z (by decide), fun z => absurd z (by decide), fun z => absurd z (by decide), fun z => absurd z (by decide), fun z => absurd z (by decide), fun z => absurd z (by decide), fun _ _ _ _ _ _ _ _ _ _ _ w _ _ _ _ _ _ _ _ _ _ => absurd rfl w⟩
    · rw [o]
      exact ⟨b7, fun z => absurd z (by decide), fun z => absurd z (by decide), fun z => absurd z (by decide), fun z => absurd z (by decide), fun z => absurd z (by decide), fun z => absurd z (by decide), fun z => absurd z (by decide), fun z => absurd z (by decide), fun z => absurd z (by decide), fun z => absurd z (by decide), fun _ => ⟨fun z => fin (1) V _ _ _ (ax_y_i _) (ax_y_i _) (ax_y_i _) (by decide) hg (same (by omega) (fun t => by have := t.1; omega)) (by rw [o, h_o12]; rw [if_pos z]), fun z => fin (0) V _ _ _ (ax_y_i _) (ax_y_i _) (ax_y_i _) (by decide) hg (same (by omega) (fun t => by have := t.1; omega)) (by rw [o, h_o12]; rw [if_neg z])⟩, fun z => absurd z (by decide), fun z => absurd z (by decide), fun z => absurd z (by decide), fun z => absurd z (by decide), fun z => absurd z (by decide), fun z => absurd z (by decide), fun z => absurd z (by decide), fun z => absurd z (by decide), fun z => absurd z (by decide), fun _ _ _ _ _ _ _ _ _ _ _ _ w _ _ _ _ _ _ _ _ _ => absurd rfl w⟩
    · rw [o]
      exact ⟨b7, fun z => absurd z (by decide), fun z => absurd z (by decide), fun z => absurd z (by decide), fun z => absurd z (by decide), fun z => absurd z (by decide), fun z => absurd z (by decide), fun z => absurd z (by decide), fun z => absurd z (by decide), fun z => absurd z (by decide), fun z => absurd z (by decide), fun z => absurd z (by decide), fun _ => ⟨fun z => fin (0) V _ _ _ (ax_y_i _) (ax_y_i _) (ax_y_i _) (by decide) hg (same (by omega) (fun t => by have := t.1; omega)) (by rw [o, h_o13]; rw [if_pos z]), fun z => fin (1) V _ _ _ (ax_y_i _) (ax_y_i _) (ax_y_i _) (by decide) hg (same (by omega) (fun t => by have := t.1; omega)) (by rw [o, h_o13]; rw [if_neg z])⟩, fun z => absurd z (by decide), fun z => absurd z (by decide), fun z => absurd z (by decide), fun z => absurd z (by decide), fun z => absurd z (by decide), fun z => absurd z (by decide), fun z => absurd z (by decide), fun z => absurd z (by decide), fun _ _ _ _ _ _ _ _ _ _ _ _ _ w _ _ _ _ _ _ _ _ => absurd rfl w⟩
    · rw [o]
      exact ⟨b7, fun z => absurd z (by decide), fun z => absurd z (by decide), fun z => absurd z (by decide), fun z => absurd z (by decide), fun z => absurd z (by decide), fun z => absurd z (by decide), fun z => absurd z (by decide), fun z => absurd z (by decide), fun z => absurd z (by decide), fun z => absurd z (by decide), fun z => absurd z (by decide), fun z => absurd z (by decide), fun _ => ⟨fun z => fin (0) V _ _ _ (ax_y_i _) (ax_y_i _) (ax_y_i _) (by decide) hg (same (by omega) (fun t => by have := t.1; omega)) (by rw [o, h_o14]; rw [if_neg (by omega)]), fun z => fin (1) V _ _ _ (ax_y_i _) (ax_y_i _) (ax_y_i _) (by decide) hg (same (by omega) (fun t => by have := t.1; omega)) (by rw [o, h_o14]; rw [if_pos z])⟩, fun z => absurd z (by decide), fun z => absurd z (by decide), fun z => absurd z (by decide), fun z => absurd z (by decide), fun z => absurd z (by decide), fun z => absurd z (by decide), fun z => absurd z (by decide), fun _ _ _ _ _ _ _ _ _ _ _ _ _ _ w _ _ _ _ _ _ _ => absurd rfl w⟩
    · rw [o]
      exact ⟨b7, fun z => absurd z (by decide), fun z => absurd z (by decide), fun z => absurd z (by decide), fun z => absurd z (by decide), fun z => absurd z (by decide), fun z => absurd z (by decide), fun z => absurd z (by decide), fun z => absurd z (by decide), fun z => absurd z (by decide), fun z => absurd z (by decide), fun z => absurd z (by decide), fun z => absurd z (by decide), fun z => absurd z (by decide), fun _ => ⟨fun z => fin (0) V _ _ _ (ax_y_i _) (ax_y_i _) (ax_y_i _) (by decide) hg (same (by omega) (fun t => by have := t.1; omega)) (by rw [o, h_o15]; rw [if_neg (by omega)]), fun z => fin (1) V _ _ _ (ax_y_i _) (ax_y_i _) (ax_y_i _) (by decide) hg (same (by omega) (fun t => by have := t.1; omega)) (by rw [o, h_o15]; rw [if_pos z])⟩, fun z => absurd z (by decide), fun z => absurd z (by decide), fun z => absurd z (by decide), fun z => absurd z (by decide), fun z => absurd z (by decide), fun z => absurd z (by decide), fun _ _ _ _ _ _ _ _ _ _ _ _ _ _ _ w _ _ _ _ _ _ => absurd rfl w⟩
    · rw [o]
      exact ⟨b7, fun z => absurd z (by decide), fun z => absurd z (by decide), fun z => absurd z (by decide), fun z => absurd z (by decide), fun z => absurd z (by decide), fun z => absurd z (by decide), fun z => absurd z (by decide), fun z => absurd z (by decide), fun z => absurd z (by decide), fun z => absurd z (by decide), fun z => absurd z (by decide), fun z => absurd z (by decide), fun z => absurd z (by decide), fun z => absurd z (by decide), fun _ => fin (_) V _ _ _ (ax_y_i _) (ax_y_i _) (ax_y_i _) (ax_rg_of _) hg (same (by omega) (fun t => by have := t.1; omega)) (by rw [o, h_o16]), fun z => absurd z (by decide), fun z => absurd z (by decide), fun z => absurd z (by decide), fun z => absurd z (by decide), fun z => absurd z (by decide), fun _ _ _ _ _ _ _ _ _ _ _ _ _ _ _ _ w _ _ _ _ _ => absurd rfl w⟩
    · rw [o]
      exact ⟨b7, fun z => absurd z (by decide), fun z => absurd z (by decide), fun z => absurd z (by decide), fun z => absurd z (by decide), fun z => absurd z (by decide), fun z => absurd z (by decide), fun z => absurd z (by decide), fun z => absurd z (by decide), fun z => absurd z (by decide), fun z => absurd z (by decide), fun z => absurd z (by decide), fun z => absurd z (by decide), fun z => absurd z (by decide), fun z => absurd z (by decide), fun z => absurd z (by decide), fun _ => fin (_) V _ _ _ (ax_y_i _) (ax_y_i _) (ax_y_i _) (ax_rg_of _) hg (same (by omega) (fun t => by have := t.1; omega)) (by rw [o, h_o17]), fun z => absurd z (by decide), fun z => absurd z (by decide), fun z => absurd z (by decide), fun z => absurd z (by decide), fun _ _ _ _ _ _ _ _ _ _ _ _ _ _ _ _ _ w _ _ _ _ => absurd rfl w⟩
    · rw [o]
      exact ⟨b7, fun z => absurd z (by decide), fun z => absurd z (by decide), fun z => absurd z (by decide), fun z => absurd z (by decide), fun z => absurd z (by decide), fun z => absurd z (by decide), fun z => absurd z (by decide), fun z => absurd z (by decide), fun z => absurd z (by decide), fun z => absurd z (by decide), fun z => absurd z (by decide), fun z => absurd z (by decide), fun z => absurd z (by decide), fun z => absurd z (by decide), fun z => absurd z (by decide), fun z => absurd z (by decide), fun _ => ⟨fun z => fin (y) V _ _ _ (ax_y_i _) (ax_y_i _) (ax_y_i _) hy hg (same (by omega) (fun t => by have := t.1; omega)) (by rw [o, h_o18]; rw [if_pos z]), fun z => ⟨b7, s_valueAt hg ⟨by omega, by omega⟩ ⟨by omega, by omega⟩ (by rw [← ew]; exact fin (w) V _ _ _ (ax_y_i _) (ax_y_i _) (ax_y_i _) hw hg (same (by omega) (fun t => by have := t.1; omega)) (by rw [o, h_o18]; rw [if_neg z]))⟩⟩, fun z => absurd z (by decide), fun z => absurd z (by decide), fun z => absurd z (by decide), fun _ _ _ _ _ _ _ _ _ _ _ _ _ _ _ _ _ _ w _ _ _ => absurd rfl w⟩
    · rw [o]
      exact ⟨b7, fun z => absurd z (by decide), fun z => absurd z (by decide), fun z => absurd z (by decide), fun z => absurd z (by decide), fun z => absurd z (by decide), fun z => absurd z (by decide), fun z => absurd z (by decide), fun z => absurd z (by decide), fun z => absurd z (by decide), fun z => absurd z (by decide), fun z => absurd z (by decide), fun z => absurd z (by decide), fun z => absurd z (by decide), fun z => absurd z (by decide), fun z => absurd z (by decide), fun z => absurd z (by decide), fun z => absurd z (by decide), fun _ => by rw [ax_wr_i (x := b + V 257 q) ⟨by have := hc (Or.inr o); omega, by have := hc (Or.inr o); omega⟩]; exact ⟨b7, hc (Or.inr o), fun z => r_Model_work_458 hg rl (ax_y_i _) rb rq (ax_y_i _) (ax_y_i _) (ax_y_i _) (ax_y_i _) hx (by rw [ax_wr_i (x := b + V 257 q) ⟨by have := hc (Or.inr o); omega, by have := hc (Or.inr o); omega⟩]; exact ⟨b7, hc (Or.inr o), fun V1 e1 => fin x V1 _ _ _ (ax_y_i _) (ax_y_i _) (ax_y_i _) hx (by rw [e1]; exact ax_u_g hg (by decide)) (Or.inl ⟨o, e1⟩) (by rw [o, h_o19, if_neg (c := (19 : Int) = 3) (by decide), if_pos z])⟩), fun z => r_Model_work_458 hg rl (ax_y_i _) rb rq (ax_y_i _) (ax_y_i _) (ax_y_i _) (ax_y_i _) hy (by rw [ax_wr_i (x := b + V 257 q) ⟨by have := hc (Or.inr o); omega, by have := hc (Or.inr o); omega⟩]; exact ⟨b7, hc (Or.inr o), fun V1 e1 => fin y V1 _ _ _ (ax_y_i _) (ax_y_i _) (ax_y_i _) hy (by rw [e1]; exact ax_u_g hg (by decide)) (Or.inl ⟨o, e1⟩) (by rw [o, h_o19, if_neg (c := (19 : Int) = 3) (by decide), if_neg z])⟩)⟩, fun z => absurd z (by decide), fun z => absurd z (by decide), fun _ _ _ _ _ _ _ _ _ _ _ _ _ _ _ _ _ _ _ w _ _ => absurd rfl w⟩
    · rw [o]
      exact ⟨b7, fun z => absurd z (by decide), fun z => absurd z (by decide), fun z => absurd z (by decide), fun z => absurd z (by decide), fun z => absurd z (by decide), fun z => absurd z (by decide), fun z => absurd z (by decide), fun z => absurd z (by decide), fun z => absurd z (by decide), fun z => absurd z (by decide), fun z => absurd z (by decide), fun z => absurd z (by decide), fun z => absurd z (by decide), fun z => absurd z (by decide), fun z => absurd z (by decide), fun z => absurd z (by decide), fun z => absurd z (by decide), fun z => absurd z (by decide), fun _ => fin (x) V _ _ _ (ax_y_i _) (ax_y_i _) (ax_y_i _) hx hg (same (by omega) (fun t => by have := t.1; omega)) (by rw [o, h_o20]), fun z => absurd z (by decide), fun _ _ _ _ _ _ _ _ _ _ _ _ _ _ _ _ _ _ _ _ w _ => absurd rfl w⟩
    · rw [o]
      exact ⟨b7, fun z => absurd z (by decide), fun z => absurd z (by decide), fun z => absurd z (by decide), fun z => absurd z (by decide), fun z => absurd z (by decide), fun z => absurd z (by decide), fun z => absurd z (by decide), fun z => absurd z (by decide), fun z => absurd z (by decide), fun z => absurd z (by decide), fun z => absurd z (by decide), fun z => absurd z (by decide), fun z => absurd z (by decide), fun z => absurd z (by decide), fun z => absurd z (by decide), fun z => absurd z (by decide), fun z => absurd z (by decide), fun z => absurd z (by decide), fun z => absurd z (by decide), fun _ => by rw [eLl (by omega), ax_wr_i (x := 26 * lv + M0 248 q) ⟨by have := lt (by omega); omega, by have := lt (by omega); omega⟩]; exact ⟨⟨by have := lt (by omega); omega, by have := lt (by omega); omega⟩, fun z => fin (x) V _ _ _ (ax_y_i _) (ax_y_i _) (ax_y_i _) hx hg (same (by omega) (fun t => by have := t.1; omega)) (by rw [o, h_o21]; rw [if_pos z]), fun z => fin (y) V _ _ _ (ax_y_i _) (ax_y_i _) (ax_y_i _) hy hg (same (by omega) (fun t => by have := t.1; omega)) (by rw [o, h_o21]; rw [if_neg z])⟩, fun _ _ _ _ _ _ _ _ _ _ _ _ _ _ _ _ _ _ _ _ _ w => absurd rfl w⟩
  refine r_Model_work hg rl rn rb rq ?_
  rw [tm 241 (by decide) (by decide) (by decide), tm 245 (by decide) (by decide) (by decide)]
  refine ⟨b7, fun z => absurd z o22, fun _ => ⟨b7, s_valueAt hg ⟨by omega, by omega⟩ ⟨by omega, by omega⟩ ?_⟩⟩
  rw [← ex]
  refine r_Model_work_28 hg rl rn rb rq ax_y_n ax_y_n ax_y_n ax_y_n hx ?_
  rw [tm 246 (by decide) (by decide) (by decide)]
  refine ⟨b7, s_valueAt hg ⟨by omega, by omega⟩ ⟨by omega, by omega⟩ ?_⟩
  rw [← ey, tm 248 (by decide) (by decide) (by decide)]
  refine ⟨b7, fun z => ?_, fun z => ⟨b7, ?_⟩⟩
  · rw [if_pos z] at eL
    rw [← eL]
    exact main _ _ ax_y_n ax_y_n
  · rw [if_neg z] at eL
    rw [← eL]
    exact main _ _ ax_y_n ax_y_n
end ModelA
