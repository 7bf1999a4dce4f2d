/-! THE LAW'S RELATION between the house (numbers C) and the model (numbers N) -/
def y_T (C N : ax_V) : Prop :=
  (C 0 1 = N 222 1 ∧ 0 ≤ N 222 1 ∧ N 222 1 ≤ 700 ∧ ∀ i, 0 ≤ i → i < N 222 1 → C 1 i = N 223 i ∧ 33 ≤ N 223 i ∧ N 223 i ≤ 126) ∧
  (C 0 2 = N 222 8 ∧ C 0 3 = N 222 9) ∧ (C 0 8 = N 222 102 ∧ 0 ≤ N 222 102 ∧ N 222 102 ≤ 8) ∧
  (C 157 0 = N 222 113 ∧ C 157 1 = N 222 115 ∧ C 157 2 = N 222 120 ∧ (0 ≤ N 222 120 ∧ N 222 120 ≤ 300) ∧ ∀ i, 0 ≤ i → i < N 222 120 → C 158 i = N 312 i) ∧
  (C 508 0 = 0 ∧ C 509 0 = 0 ∧ C 510 0 = 0) ∧ C 1008 0 = 0 ∧ C 1009 0 = 0 ∧ C 1010 0 = 0 ∧ 0 ≤ N 222 5 ∧ N 222 5 ≤ 700
/-- one reading of the program that is there -/
def y_pw (C N P C1 M1 : ax_V) (F G Hh S U J : Int → Int) : Prop := (∀ c, 500 ≤ c → c ≤ 573 → C c = P c) ∧ h_X C1 M1 P F G Hh S U J (N 290) ∧ h_RM C1 M1 S U J (N 290) N ∧ (∀ k, 0 ≤ k → k < (M1 222 86) → P 513 k = J k ∧ P 514 k = U k) ∧ (∀ q, 0 ≤ q → q < (M1 222 26) → P 528 q = F q) ∧ P 500 0 = (M1 222 86) ∧ N 222 86 = (M1 222 86)
def y_pr (C N : ax_V) (T : Int) : Prop := ∃ (P C1 M1 : ax_V) (F G Hh S U J : Int → Int), y_pw C N P C1 M1 F G Hh S U J ∧ ∀ j : Nat, (j : Int) < C 0 8 → ∃ n, h_iq C1 M1 U J F (y_v j C) N (j : Int) T n
/-- where the program came from -/
def y_og (B : Nat) (z : List va_E) (N : ax_V) : Prop := ∃ (B0 w0 nw0 : Nat) (m0 p0 : Value) (s0 : List ax_S) (X0 : ax_V) (n : Int) (z1 : List va_E), y_K B0 B w0 nw0 m0 p0 s0 ∧ (∀ (a id : Nat) (x : (Nat × Nat) ⊕ (Nat × List (Option Value))), s0[a]? = some (.inr (id, x)) → ¬ (600 ≤ id ∧ id ≤ 602)) ∧ y_BS B0 B ∧ ax_g X0 ∧ (X0 508 0 = 0 ∧ X0 509 0 = 0 ∧ X0 510 0 = 0) ∧ (X0 0 1 = N 222 5 ∧ 0 ≤ N 222 5 ∧ N 222 5 ≤ 700 ∧ ∀ i, 0 ≤ i → i < N 222 5 → X0 1 i = N 225 i ∧ 33 ≤ N 225 i ∧ N 225 i ≤ 126) ∧ ai_Ex ai_P0 427 q_House_module [.ref 0] (ax_w s0 X0) (some (ax_i n), z1) ∧ ∀ k, k < 74 → z1[B + k]? = z[B + k]?
def y_RL (B Sp nw : Nat) (ss : List ax_S) (C N : ax_V) (T : Int) : Prop := y_BS B Sp ∧ nw ≤ 180000 ∧ (ax_g C ∧ ax_g N) ∧ y_T C N ∧ ((N 222 7 = 0 ∧ C 500 0 = 0 ∧ C 0 8 = 0) ∨ (N 222 7 = 1 ∧ y_og B (ax_w ss C) N ∧ y_pr C N T))
theorem y_b_n2 {j : Nat} {C N W : ax_V} (hj : j < 8) : y_b j (y_n C N) W = y_n (y_b j C W) N := by
  funext c
  by_cases z : 222 ≤ c ∧ c ≤ 313
  · rw [y_n_k z, y_b_n (by omega) (by omega), y_n_k z]
  · rw [y_n_n z]
    unfold y_b ax_bk
    cases h : y_s j c with
    | some c' => rfl
    | none => exact y_n_n z
theorem y_n_n2 {C N W : ax_V} : y_n (y_n C N) W = y_n C W := by
  funext c
  by_cases z : 222 ≤ c ∧ c ≤ 313
  · rw [y_n_k z, y_n_k z]
  · rw [y_n_n z, y_n_n z, y_n_n z]
theorem y_n_g {C N : ax_V} (h1 : ax_g C) (h2 : ax_g N) : ax_g (y_n C N) := ax_bk_g h1 h2
section Relation
variable {B Sp w nw j d d' key key' : Nat} {m p : Value} {ss : List ax_S} {C N C' N' : ax_V} {T T' x : Int} {vs vs' : List Value} {Φ : Int → ax_V → Prop}
/-- a call of the house, beside the model -/
theorem y_L.I2 (h : y_L B Sp w nw m p ss) (hj : j < 8) (hC : ax_g C) (hN : ax_g N) (c : ax_I (az_W B (az_EH B (Sp, w, m, p, y_f1) (166 + 7 * j) (j : Int))) d key vs (y_v j C) Φ (fun _ => False)) : ∃ x W, ax_rg x ∧ ax_g W ∧ Φ x W ∧ ai_Ex ai_P0 d key vs (ax_w ss (y_n C N)) (some (ax_i x), ax_w ss (y_n (y_b j C W) N)) := by
  have f := ax_T.frame (lay2 := fun s => s = ss) (V := y_n C N) (y_s j) (y_n_g hC hN) (fun c c' e => by
    have u := y_s_o e
    rw [y_n_n (by omega)]
    exact y_L.vv hC c c' e) (fun s hs => by rw [hs]; exact h.H hj) c
  rcases ax_T.E f rfl with ⟨r, W', nt, g, ⟨W1, g1, ⟨x, e, rx, q⟩, eW⟩, k⟩ | ⟨W', g, ⟨W1, g1, z, eW⟩, k⟩
  · rw [e, eW] at k
    have e2 : ax_bk (y_s j) (y_n C N) W1 = y_n (y_b j C W1) N := y_b_n2 hj
    rw [e2] at k
    exact ⟨x, W1, rx, g1, q, k⟩
  · exact z.elim
/-- a call of the model, beside the house -/
theorem y_L.N2 (h : y_L B Sp w nw m p ss) (hC : ax_g C) (hN : ax_g N) (c : ax_I ay_lay d key vs N Φ (fun _ => False)) : ∃ x W, ax_rg x ∧ ax_g W ∧ Φ x W ∧ ai_Ex ai_P0 d key vs (ax_w ss (y_n C N)) (some (ax_i x), ax_w ss (y_n C W)) := by
  have f := ax_T.frame (lay2 := fun s => s = ss) (V := y_n C N) y_m (y_n_g hC hN) (fun c c' e => by
    unfold y_m at e
    by_cases y : 222 ≤ c ∧ c ≤ 313
    · rw [if_pos y] at e; rw [← Option.some.inj e, y_n_k y]
    · rw [if_neg y] at e; cases e) (fun s hs => by rw [hs]; exact h.M) c
  rcases ax_T.E f rfl with ⟨r, W', nt, g, ⟨W1, g1, ⟨x, e, rx, q⟩, eW⟩, k⟩ | ⟨W', g, ⟨W1, g1, z, eW⟩, k⟩
  · rw [e, eW] at k
    have e2 : ax_bk y_m (y_n C N) W1 = y_n C W1 := y_n_n2
    rw [e2] at k
    exact ⟨x, W1, rx, g1, q, k⟩
  · exact z.elim
/-- one step of both -/
def y_ST (d key : Nat) (vs : List Value) (d' key' : Nat) (vs' : List Value) (T' : Int) (B Sp w nw : Nat) (m p : Value) (ss : List ax_S) (C N : ax_V) : Prop := ∃ (r : Int) (C' N' : ax_V), ax_rg r ∧ ai_Ex ai_P0 d key vs (ax_w ss (y_n C N)) (some (ax_i r), ax_w ss (y_n C' N)) ∧ ai_Ex ai_P0 d' key' vs' (ax_w ss (y_n C' N)) (some (ax_i r), ax_w ss (y_n C' N')) ∧ y_RL B Sp nw ss C' N' T'
theorem y_op {Φ : Int → ax_V → Prop} (h : y_L B Sp w nw m p ss) (hj : j < 8) (hC : ax_g C) (hN : ax_g N) (c : ax_I (az_W B (az_EH B (Sp, w, m, p, y_f1) (166 + 7 * j) (j : Int))) d key vs (y_v j C) Φ (fun _ => False)) (k : ∀ r W, ax_g W → Φ r W → ax_I ay_lay d' key' vs' N (fun r' N' => r' = r ∧ (ax_g N' → y_RL B Sp nw ss (y_b j C W) N' T')) (fun _ => False)) : y_ST d key vs d' key' vs' T' B Sp w nw m p ss C N := by
  obtain ⟨r, W, rr, gW, q, ex⟩ := h.I2 (N := N) hj hC hN c
  have gC' : ax_g (y_b j C W) := ax_bk_g hC gW
  obtain ⟨r', N', _, gN', ⟨er, q'⟩, ex'⟩ := h.N2 (C := y_b j C W) gC' hN (k r W gW q)
  rw [er] at ex'
  exact ⟨r, y_b j C W, N', rr, ex, ex', q' gN'⟩
theorem y_pw.th {P C1 M1 : ax_V} {F G Hh S U J : Int → Int} (h : y_pw C N P C1 M1 F G Hh S U J) (hC : ∀ c, 500 ≤ c → c ≤ 573 → C' c = C c) (hN : ∀ c, 226 ≤ c → c ≤ 290 → N' c = N c) (hs : ∀ k : Int, k = 26 ∨ k = 44 ∨ k = 55 ∨ k = 60 ∨ k = 86 → N' 222 k = N 222 k) : y_pw C' N' P C1 M1 F G Hh S U J := by
  obtain ⟨a1, a2, a3, a4, a5, a6, a7⟩ := h
  have e : N' 290 = N 290 := hN 290 (by decide) (by decide)
  refine ⟨fun c a b => by rw [hC c a b]; exact a1 c a b, by rw [e]; exact a2, ?_, a4, a5, a6, by rw [hs 86 (by decide)]; exact a7⟩
  rw [e]
  exact a3.gen hN (fun k z => hs k (by omega))
theorem y_og.th {z z' : List va_E} (h : y_og B z N) (h5 : N' 222 5 = N 222 5) (h25 : N' 225 = N 225) (hz : ∀ k, k < 74 → z'[B + k]? = z[B + k]?) : y_og B z' N' := by
  obtain ⟨B0, w0, nw0, m0, p0, s0, X0, n, z1, a1, a2, a3, a4, a5, a6, a7, a8⟩ := h
  refine ⟨B0, w0, nw0, m0, p0, s0, X0, n, z1, a1, a2, a3, a4, a5, ?_, a7, fun k hk => by rw [hz k hk]; exact a8 k hk⟩
  rw [h5, h25]; exact a6
/-- only thrown has changed -/
theorem y_RL.th (h : y_RL B Sp nw ss C N T) (hx : ax_rg x) (e : N' = ax_u N 222 0 x) (hT : T ≤ T') : y_RL B Sp nw ss C N' T' := by
  have k1 : ∀ c, ¬ c = 222 → N' c = N c := fun c z => by rw [e]; exact ax_u_ne z
  have s1 : ∀ f, ¬ f = 0 → N' 222 f = N 222 f := fun f z => by rw [e]; exact ax_u_k z
  obtain ⟨b1, b2, ⟨b3, b4⟩, b5, b6⟩ := h
  refine ⟨b1, b2, ⟨b3, by rw [e]; exact ax_u_g b4 hx⟩, ?_, ?_⟩
  · unfold y_T
    rw [s1 1 (by decide), s1 5 (by decide), s1 8 (by decide), s1 9 (by decide), s1 102 (by decide), s1 113 (by decide), s1 115 (by decide), s1 120 (by decide), k1 223 (by decide), k1 312 (by decide)]
    exact b5
  · rw [s1 7 (by decide)]
    rcases b6 with b6 | ⟨c1, c2, P, C1, M1, F, G, Hh, S, U, J, c3, c4⟩
    · exact Or.inl b6
    · refine Or.inr ⟨c1, c2.th (s1 5 (by decide)) (k1 225 (by decide)) (fun _ _ => rfl), P, C1, M1, F, G, Hh, S, U, J, c3.th (fun _ _ _ => rfl) (fun c a b => k1 c (by omega)) (fun k z => s1 k (by omega)), fun j hj => ?_⟩
      obtain ⟨n, hi⟩ := c4 j hj
      exact ⟨n, (hi.at (fun _ _ _ => rfl) (fun c a b => k1 c (by omega))).up hT⟩
/-- calls that only tell -/
theorem y_tell {r : Int} (h : y_L B Sp w nw m p ss) (hR : y_RL B Sp nw ss C N T) (hj : j < 8) (hT : T ≤ T') (c : ax_I (az_W B (az_EH B (Sp, w, m, p, y_f1) (166 + 7 * j) (j : Int))) d key vs (y_v j C) (fun x W => x = r ∧ W = y_v j C) (fun _ => False)) (k : ax_I ay_lay d' key' vs' N (fun x W => x = r ∧ W = ax_u N 222 0 0) (fun _ => False)) : y_ST d key vs d' key' vs' T' B Sp w nw m p ss C N := by
  refine y_op h hj hR.2.2.1.1 hR.2.2.1.2 c (fun r' W gW q => ?_)
  rw [q.2, y_b_id hR.2.2.1.1]
  refine ax_I.mono k (Nat.le_refl _) (fun x N' _ _ z => ⟨by rw [z.1, q.1], fun _ => hR.th (by decide) z.2 hT⟩) (fun _ _ z => z)
end Relation
