/-! THE LAW'S WORLD: its shape -/
/-- the array of the eight, closed to the eye: what it is, is told by y_f1_e alone -/
theorem y_fx : ∃ f : Nat → Option Nat, f = y_f0 := ⟨_, rfl⟩
noncomputable def y_f1 : Nat → Option Nat := Classical.choose y_fx
theorem y_f1_e : y_f1 = y_f0 := Classical.choose_spec y_fx
theorem y_f1_j {j : Nat} (h : j < 8) : y_f1 j = some (166 + 7 * j) := by rw [y_f1_e]; exact y_f0_j h
theorem y_f1_c : zM[156]? = some (Sum.inl (4, 8, Sum.inr (Sum.inr (Sum.inr (Sum.inr y_f1))))) := by rw [y_f1_e]; exact y_f0_c
noncomputable def y_A : va_E := .inl (4, 8, .inr (.inr (.inr (.inr y_f1))))
def y_up (s : ax_S) : ax_S := match s with
  | .inl e => .inl e
  | .inr (id, x) => .inr (id + 500, x)
noncomputable def y_E (B Sp w nw : Nat) (m p : Value) : List (Nat × ax_S) := [(0, .inr (0, .inr (11, [some (.ref 1), none, none, none, some (.ref B), some (.ref Sp), some (.ref 150), some (.ref 156), none, some (.ref 157)]))), (1, .inr (1, .inl (2, 700))), (156, .inl y_A), (150, .inr (150, .inr (5, [some (.ref B), some (.ref (B + 16)), some (.ref (B + 32)), some (.ref (B + 47)), some (.ref (B + 56)), some (.ref 151), some (.ref 152), some (.ref 153), some (.ref 154), some (.ref 155), none]))), (151, .inr (151, .inl (0, 700))), (152, .inr (152, .inl (0, 208))), (153, .inr (153, .inl (1, 208))), (154, .inr (154, .inl (0, 350))), (155, .inr (155, .inl (0, 300))), (157, az_pv w m p), (158, .inr (158, .inl (0, 300))), (160, .inr (160, .inl (0, 600))), (161, .inr (161, .inl (0, 300))), (162, .inr (162, .inl (0, 300))), (163, .inr (163, .inl (0, 1024))), (164, .inr (164, .inl (0, 26))), (165, .inr (165, .inl (0, 4))), (w, .inr (620, .inl (0, nw)))]
/-- an instance -/
def y_J (j : Nat) : List ax_S := [.inr (900 + 7 * j, .inr (2, [none, none, none, some (.ref (166 + 7 * j + 1)), some (.ref (166 + 7 * j + 2)), some (.ref (166 + 7 * j + 3)), some (.ref (166 + 7 * j + 4)), some (.ref (166 + 7 * j + 5)), some (.ref (166 + 7 * j + 6))])), .inr (901 + 7 * j, .inl (0, 26)), .inr (902 + 7 * j, .inl (0, 300)), .inr (903 + 7 * j, .inl (0, 26)), .inr (904 + 7 * j, .inl (1, 26)), .inr (905 + 7 * j, .inl (0, 1200)), .inr (906 + 7 * j, .inl (0, 4))]
def y_L (B Sp w nw : Nat) (m p : Value) (ss : List ax_S) : Prop := ax_ok ss ∧ (∀ (k : Nat) (e : ax_S), (az_P B)[k]? = some e → ss[B + k]? = some e) ∧ (∀ (i : Nat) (q : Nat × ax_S), (y_E B Sp w nw m p)[i]? = some q → ss[q.1]? = some q.2) ∧ (∀ (j k : Nat) (e : ax_S), j < 8 → (y_J j)[k]? = some e → ss[166 + 7 * j + k]? = some e) ∧ (∀ (k : Nat) (e : ax_S), (az_P Sp)[k]? = some e → ss[Sp + k]? = some (y_up e)) ∧ ∀ (k : Nat) (e : ax_S), ay_S[k]? = some e → ss[222 + k]? = some e
theorem ay_S_id : ay_S.map ax_idn = (List.range 92).map (fun k => some (222 + k)) := rfl
theorem ay_S_e {k : Nat} {e : ax_S} (h : ay_S[k]? = some e) : k < 92 ∧ ∃ x, e = .inr (222 + k, x) := by
  have lt : k < 92 := by
    have q := (List.getElem?_eq_some_iff.mp h).1
    have l : ay_S.length = 92 := rfl
    omega
  have u : (ay_S.map ax_idn)[k]? = ((List.range 92).map (fun k => some (222 + k)))[k]? := by rw [ay_S_id]
  rw [List.getElem?_map, h, List.getElem?_map, List.getElem?_range lt] at u
  refine ⟨lt, ?_⟩
  rcases e with e | ⟨id, x⟩
  · cases u
  · have v : id = 222 + k := by
      have w : some (some id) = some (some (222 + k)) := u
      cases w
      rfl
    exact ⟨x, by rw [v]⟩
theorem y_J_e {j k : Nat} {e : ax_S} (h : (y_J j)[k]? = some e) : k < 7 ∧ ∃ x, e = .inr (900 + 7 * j + k, x) := by
  match k, h with
  | 0, h => cases h; exact ⟨by decide, _, rfl⟩
  | 1, h => cases h; exact ⟨by decide, _, by rw [show 900 + 7 * j + 1 = 901 + 7 * j by omega]⟩
  | 2, h => cases h; exact ⟨by decide, _, by rw [show 900 + 7 * j + 2 = 902 + 7 * j by omega]⟩
  | 3, h => cases h; exact ⟨by decide, _, by rw [show 900 + 7 * j + 3 = 903 + 7 * j by omega]⟩
  | 4, h => cases h; exact ⟨by decide, _, by rw [show 900 + 7 * j + 4 = 904 + 7 * j by omega]⟩
  | 5, h => cases h; exact ⟨by decide, _, by rw [show 900 + 7 * j + 5 = 905 + 7 * j by omega]⟩
  | 6, h => cases h; exact ⟨by decide, _, by rw [show 900 + 7 * j + 6 = 906 + 7 * j by omega]⟩
  | k + 7, h => exact absurd h (by show ¬ (none = some e); intro z; cases z)
theorem ax_ok_map {σ : Nat → Option Nat} {V : ax_V} {ss : List ax_S} (inj : ∀ c c' k, σ c = some k → σ c' = some k → c = c') (ok : ax_ok ss) : ax_ok (ss.map (ax_rn σ V)) := by
  intro a b id x y ha hb
  rw [List.getElem?_map] at ha hb
  cases h1 : ss[a]? with
  | none => rw [h1] at ha; cases ha
  | some s1 =>
    cases h2 : ss[b]? with
    | none => rw [h2] at hb; cases hb
    | some s2 =>
      rw [h1] at ha
      rw [h2] at hb
      have ha' : ax_rn σ V s1 = .inr (id, x) := Option.some.inj ha
      have hb' : ax_rn σ V s2 = .inr (id, y) := Option.some.inj hb
      obtain ⟨i1, e1, z1⟩ := ax_rn_o ha'
      obtain ⟨i2, e2, z2⟩ := ax_rn_o hb'
      have ii := inj i1 i2 id z1 z2
      rw [e1] at h1
      rw [e2, ← ii] at h2
      exact ok a b i1 x y h1 h2
theorem ax_rn_get {σ : Nat → Option Nat} {V : ax_V} {ss : List ax_S} {a id id' : Nat} {x : (Nat × Nat) ⊕ (Nat × List (Option Value))} (h : ss[a]? = some (.inr (id, x))) (hs : σ id = some id') : (ss.map (ax_rn σ V))[a]? = some (.inr (id', x)) := by
  rw [List.getElem?_map, h]
  show some (ax_rn σ V (.inr (id, x))) = _
  rw [ax_rn_i hs]
/-- which numbers the house knows, called for the instance j -/
def y_s (j c : Nat) : Option Nat := if 900 + 7 * j ≤ c ∧ c ≤ 906 + 7 * j then some (c - (100 + 7 * j)) else if c < 222 ∨ (500 ≤ c ∧ c ≤ 573) then some c else none
theorem y_s_k {j c : Nat} (h : c < 222 ∨ (500 ≤ c ∧ c ≤ 573)) : y_s j c = some c := by
  unfold y_s
  rw [if_neg (by omega), if_pos h]
theorem y_s_j {j c : Nat} (h : c ≤ 6) : y_s j (900 + 7 * j + c) = some (800 + c) := by
  unfold y_s
  rw [if_pos ⟨by omega, by omega⟩]
  exact congrArg some (by omega)
theorem y_s_o {j c k : Nat} (h : y_s j c = some k) : (900 + 7 * j ≤ c ∧ c ≤ 906 + 7 * j ∧ k = c - (100 + 7 * j)) ∨ (k = c ∧ (c < 222 ∨ (500 ≤ c ∧ c ≤ 573))) := by
  unfold y_s at h
  by_cases z : 900 + 7 * j ≤ c ∧ c ≤ 906 + 7 * j
  · rw [if_pos z] at h
    exact Or.inl ⟨z.1, z.2, (Option.some.inj h).symm⟩
  · rw [if_neg z] at h
    by_cases y : c < 222 ∨ (500 ≤ c ∧ c ≤ 573)
    · rw [if_pos y] at h
      exact Or.inr ⟨(Option.some.inj h).symm, y⟩
    · rw [if_neg y] at h; cases h
theorem y_s_n {j c : Nat} (h1 : ¬ (900 + 7 * j ≤ c ∧ c ≤ 906 + 7 * j)) (h2 : ¬ (c < 222 ∨ (500 ≤ c ∧ c ≤ 573))) : y_s j c = none := by
  unfold y_s
  rw [if_neg h1, if_neg h2]
/-- the numbers as the house sees them -/
def y_v (j : Nat) (V : ax_V) : ax_V := fun c => if 800 ≤ c ∧ c ≤ 806 then V (c + (100 + 7 * j)) else V c
/-- and back -/
def y_b (j : Nat) (V W : ax_V) : ax_V := ax_bk (y_s j) V W
theorem y_v_k {j c : Nat} {V : ax_V} (h : ¬ (800 ≤ c ∧ c ≤ 806)) : y_v j V c = V c := if_neg h
theorem y_v_j {j c : Nat} {V : ax_V} (h : c ≤ 6) : y_v j V (800 + c) = V (900 + 7 * j + c) := by
  unfold y_v
  rw [if_pos ⟨by omega, by omega⟩, show 800 + c + (100 + 7 * j) = 900 + 7 * j + c by omega]
theorem y_v_g {j : Nat} {V : ax_V} (h : ax_g V) : ax_g (y_v j V) := fun c i => by
  by_cases z : 800 ≤ c ∧ c ≤ 806
  · unfold y_v; rw [if_pos z]; exact h _ _
  · rw [y_v_k z]; exact h _ _
theorem y_b_k {j c : Nat} {V W : ax_V} (h : c < 222 ∨ (500 ≤ c ∧ c ≤ 573)) : y_b j V W c = W c := by
  unfold y_b ax_bk
  rw [y_s_k h]
theorem y_b_j {j c : Nat} {V W : ax_V} (h : c ≤ 6) : y_b j V W (900 + 7 * j + c) = W (800 + c) := by
  unfold y_b ax_bk
  rw [y_s_j h]
theorem y_b_n {j c : Nat} {V W : ax_V} (h1 : ¬ (900 + 7 * j ≤ c ∧ c ≤ 906 + 7 * j)) (h2 : ¬ (c < 222 ∨ (500 ≤ c ∧ c ≤ 573))) : y_b j V W c = V c := by
  unfold y_b ax_bk
  rw [y_s_n h1 h2]
/-- which numbers the model knows -/
def y_m (c : Nat) : Option Nat := if 222 ≤ c ∧ c ≤ 313 then some c else none
def y_n (V W : ax_V) : ax_V := ax_bk y_m V W
theorem y_n_k {c : Nat} {V W : ax_V} (h : 222 ≤ c ∧ c ≤ 313) : y_n V W c = W c := by
  unfold y_n ax_bk y_m
  rw [if_pos h]
theorem y_n_n {c : Nat} {V W : ax_V} (h : ¬ (222 ≤ c ∧ c ≤ 313)) : y_n V W c = V c := by
  unfold y_n ax_bk y_m
  rw [if_neg h]
section World
variable {B Sp w nw j d key : Nat} {m p : Value} {ss : List ax_S} {V W : ax_V} {vs : List Value} {Φ : Int → ax_V → Prop} {Ψ : ax_V → Prop}
theorem y_L.at (h : y_L B Sp w nw m p ss) (i : Nat) {a : Nat} {s : ax_S} (e : (y_E B Sp w nw m p)[i]? = some (a, s)) : ss[a]? = some s := h.2.2.1 i (a, s) e
theorem y_L.H (h : y_L B Sp w nw m p ss) (hj : j < 8) : az_W B (az_EH B (Sp, w, m, p, y_f1) (166 + 7 * j) (j : Int)) (ss.map (ax_rn (y_s j) V)) := by
  have inj : ∀ c c' k, y_s j c = some k → y_s j c' = some k → c = c' := fun c c' k h1 h2 => by
    have e1 := y_s_o h1
    have e2 := y_s_o h2
    omega
  refine ⟨ax_ok_map inj h.1, fun k e he => ?_, fun i q' hi => ?_⟩
  · obtain ⟨lt, x, ex⟩ := az_P_e he
    rw [ex]
    have u := h.2.1 k e he
    rw [ex] at u
    exact ax_rn_get u (y_s_k (Or.inr ⟨by omega, by omega⟩))
  · have J := h.2.2.2.1 j
    match i, hi with
    | 0, hi => cases hi; exact ax_rn_get (h.at 0 rfl) (y_s_k (by decide))
    | 1, hi =>
      cases hi
      have e : (fun i : Nat => if (i : Int) = (j : Int) then some (166 + 7 * j) else y_f1 i) = y_f1 := funext (fun i => by
        by_cases z : i = j
        · rw [if_pos (by omega), z, y_f1_j hj]
        · rw [if_neg (by omega)])
      show (ss.map (ax_rn (y_s j) V))[156]? = some (.inl (.inl (4, 8, .inr (.inr (.inr (.inr (fun i : Nat => if (i : Int) = (j : Int) then some (166 + 7 * j) else y_f1 i)))))))
      rw [List.getElem?_map, h.at 2 rfl, e]
      rfl
    | 2, hi => cases hi; exact ax_rn_get (h.at 3 rfl) (y_s_k (by decide))
    | 3, hi => cases hi; exact ax_rn_get (h.at 4 rfl) (y_s_k (by decide))
    | 4, hi => cases hi; exact ax_rn_get (h.at 5 rfl) (y_s_k (by decide))
    | 5, hi => cases hi; exact ax_rn_get (h.at 6 rfl) (y_s_k (by decide))
    | 6, hi => cases hi; exact ax_rn_get (h.at 7 rfl) (y_s_k (by decide))
    | 7, hi => cases hi; exact ax_rn_get (h.at 8 rfl) (y_s_k (by decide))
    | 8, hi => cases hi; exact ax_rn_get (J 0 _ hj rfl) (y_s_j (c := 0) (by decide))
    | 9, hi => cases hi; exact ax_rn_get (J 1 _ hj rfl) (by rw [show 901 + 7 * j = 900 + 7 * j + 1 by omega]; exact y_s_j (by decide))
    | 10, hi => cases hi; exact ax_rn_get (J 2 _ hj rfl) (by rw [show 902 + 7 * j = 900 + 7 * j + 2 by omega]; exact y_s_j (by decide))
    | 11, hi => cases hi; exact ax_rn_get (J 3 _ hj rfl) (by rw [show 903 + 7 * j = 900 + 7 * j + 3 by omega]; exact y_s_j (by decide))
    | 12, hi => cases hi; exact ax_rn_get (J 4 _ hj rfl) (by rw [show 904 + 7 * j = 900 + 7 * j + 4 by omega]; exact y_s_j (by decide))
    | 13, hi => cases hi; exact ax_rn_get (J 5 _ hj rfl) (by rw [show 905 + 7 * j = 900 + 7 * j + 5 by omega]; exact y_s_j (by decide))
    | 14, hi => cases hi; exact ax_rn_get (J 6 _ hj rfl) (by rw [show 906 + 7 * j = 900 + 7 * j + 6 by omega]; exact y_s_j (by decide))
    | 15, hi => cases hi; exact ax_rn_get (h.at 9 rfl) (y_s_k (by decide))
    | 16, hi => cases hi; exact ax_rn_get (h.at 10 rfl) (y_s_k (by decide))
    | k + 17, hi => exact absurd hi (by show ¬ (none = some q'); intro z; cases z)
theorem y_L.vv (h : ax_g V) : ∀ c c', y_s j c = some c' → y_v j V c' = V c := fun c c' e => by
  rcases y_s_o e with ⟨a, b, k⟩ | ⟨k, b⟩
  · rw [k]
    unfold y_v
    rw [if_pos ⟨by omega, by omega⟩, show c - (100 + 7 * j) + (100 + 7 * j) = c by omega]
  · rw [k]; exact y_v_k (by omega)
/-- a call of the house -/
theorem y_L.I (h : y_L B Sp w nw m p ss) (hj : j < 8) (hg : ax_g V) (c : ax_I (az_W B (az_EH B (Sp, w, m, p, y_f1) (166 + 7 * j) (j : Int))) d key vs (y_v j V) Φ (fun _ => False)) : ∃ x W, ax_rg x ∧ ax_g W ∧ Φ x W ∧ ai_Ex ai_P0 d key vs (ax_w ss V) (some (ax_i x), ax_w ss (y_b j V W)) := by
  have f := ax_T.frame (lay2 := fun s => s = ss) (y_s j) hg (y_L.vv hg) (fun s hs => by rw [hs]; exact h.H hj) c
  rcases ax_T.E f rfl with ⟨r, W', nt, g, ⟨W1, g1, ⟨x, e, rx, q⟩, eW⟩, k⟩ | ⟨W', g, ⟨W1, g1, z, eW⟩, k⟩
  · rw [e, eW] at k
    exact ⟨x, W1, rx, g1, q, k⟩
  · exact z.elim
theorem y_L.M (h : y_L B Sp w nw m p ss) : ay_lay (ss.map (ax_rn y_m V)) := by
  have o : ∀ c k, y_m c = some k → k = c := fun c k z => by
    unfold y_m at z
    by_cases y : 222 ≤ c ∧ c ≤ 313
    · rw [if_pos y] at z; exact (Option.some.inj z).symm
    · rw [if_neg y] at z; cases z
  refine ⟨ax_ok_map (fun c c' k h1 h2 => by have := o c k h1; have := o c' k h2; omega) h.1, fun k e he => ?_⟩
  obtain ⟨lt, x, ex⟩ := ay_S_e he
  rw [ex]
  have u := h.2.2.2.2.2 k e he
  rw [ex] at u
  exact ax_rn_get u (if_pos ⟨by omega, by omega⟩)
/-- a call of the model -/
theorem y_L.N (h : y_L B Sp w nw m p ss) (hg : ax_g V) (c : ax_I ay_lay d key vs V Φ (fun _ => False)) : ∃ x W, ax_rg x ∧ ax_g W ∧ Φ x W ∧ ai_Ex ai_P0 d key vs (ax_w ss V) (some (ax_i x), ax_w ss (y_n V W)) := by
  have f := ax_T.frame (lay2 := fun s => s = ss) y_m hg (fun c c' e => by
    unfold y_m at e
    by_cases y : 222 ≤ c ∧ c ≤ 313
    · rw [if_pos y] at e; rw [Option.some.inj e]
    · rw [if_neg y] at e; cases e) (fun s hs => by rw [hs]; exact h.M) c
  rcases ax_T.E f rfl with ⟨r, W', nt, g, ⟨W1, g1, ⟨x, e, rx, q⟩, eW⟩, k⟩ | ⟨W', g, ⟨W1, g1, z, eW⟩, k⟩
  · rw [e, eW] at k
    exact ⟨x, W1, rx, g1, q, k⟩
  · exact z.elim
/-- the prover's shape -/
theorem y_L.P (h : y_L B Sp w nw (.ref 150) (.ref B) ss) : az_W B (az_EP B w nw) ss := by
  refine ⟨h.1, h.2.1, fun i q' hi => ?_⟩
  match i, hi with
  | 0, hi => cases hi; exact h.at 3 rfl
  | 1, hi => cases hi; exact h.at 4 rfl
  | 2, hi => cases hi; exact h.at 5 rfl
  | 3, hi => cases hi; exact h.at 6 rfl
  | 4, hi => cases hi; exact h.at 7 rfl
  | 5, hi => cases hi; exact h.at 8 rfl
  | 6, hi => cases hi; exact h.at 9 rfl
  | 7, hi => cases hi; exact h.at 10 rfl
  | 8, hi => cases hi; exact h.at 11 rfl
  | 9, hi => cases hi; exact h.at 12 rfl
  | 10, hi => cases hi; exact h.at 13 rfl
  | 11, hi => cases hi; exact h.at 14 rfl
  | 12, hi => cases hi; exact h.at 15 rfl
  | 13, hi => cases hi; exact h.at 16 rfl
  | 14, hi => cases hi; exact h.at 17 rfl
  | k + 15, hi => exact absurd hi (by show ¬ (none = some q'); intro z; cases z)
/-- the shape behind another: what is not 620 or 157 stays -/
theorem y_L.keep {ss2 : List ax_S} {w2 nw2 : Nat} {m2 p2 : Value} (h : y_L B Sp w nw m p ss) (ok : ax_ok ss2) (kp : ∀ (a id : Nat) (x : (Nat × Nat) ⊕ (Nat × List (Option Value))), ss[a]? = some (.inr (id, x)) → ¬ id = 620 → ¬ id = 157 → ss2[a]? = some (.inr (id, x))) (e156 : ss2[156]? = some (.inl y_A)) (e157 : ss2[157]? = some (az_pv w2 m2 p2)) (ew : ss2[w2]? = some (.inr (620, .inl (0, nw2)))) : y_L B Sp w2 nw2 m2 p2 ss2 := by
  refine ⟨ok, fun k e he => ?_, fun i q' hi => ?_, fun j k e hj he => ?_, fun k e he => ?_, fun k e he => ?_⟩
  · obtain ⟨lt, x, ex⟩ := az_P_e he
    have u := h.2.1 k e he
    rw [ex] at u ⊢
    exact kp _ _ _ u (by omega) (by omega)
  · match i, hi with
    | 0, hi => cases hi; exact kp _ _ _ (h.at 0 rfl) (by decide) (by decide)
    | 1, hi => cases hi; exact kp _ _ _ (h.at 1 rfl) (by decide) (by decide)
    | 2, hi => cases hi; exact e156
    | 3, hi => cases hi; exact kp _ _ _ (h.at 3 rfl) (by decide) (by decide)
    | 4, hi => cases hi; exact kp _ _ _ (h.at 4 rfl) (by decide) (by decide)
    | 5, hi => cases hi; exact kp _ _ _ (h.at 5 rfl) (by decide) (by decide)
    | 6, hi => cases hi; exact kp _ _ _ (h.at 6 rfl) (by decide) (by decide)
    | 7, hi => cases hi; exact kp _ _ _ (h.at 7 rfl) (by decide) (by decide)
    | 8, hi => cases hi; exact kp _ _ _ (h.at 8 rfl) (by decide) (by decide)
    | 9, hi => cases hi; exact e157
    | 10, hi => cases hi; exact kp _ _ _ (h.at 10 rfl) (by decide) (by decide)
    | 11, hi => cases hi; exact kp _ _ _ (h.at 11 rfl) (by decide) (by decide)
    | 12, hi => cases hi; exact kp _ _ _ (h.at 12 rfl) (by decide) (by decide)
    | 13, hi => cases hi; exact kp _ _ _ (h.at 13 rfl) (by decide) (by decide)
    | 14, hi => cases hi; exact kp _ _ _ (h.at 14 rfl) (by decide) (by decide)
    | 15, hi => cases hi; exact kp _ _ _ (h.at 15 rfl) (by decide) (by decide)
    | 16, hi => cases hi; exact kp _ _ _ (h.at 16 rfl) (by decide) (by decide)
    | 17, hi => cases hi; exact ew
    | k + 18, hi => exact absurd hi (by show ¬ (none = some q'); intro z; cases z)
  · obtain ⟨lt, x, ex⟩ := y_J_e he
    have u := h.2.2.2.1 j k e hj he
    rw [ex] at u ⊢
    exact kp _ _ _ u (by omega) (by omega)
  · obtain ⟨lt, x, ex⟩ := az_P_e he
    have u := h.2.2.2.2.1 k e he
    rw [ex] at u ⊢
    exact kp _ _ _ u (by omega) (by omega)
  · obtain ⟨lt, x, ex⟩ := ay_S_e he
    have u := h.2.2.2.2.2 k e he
    rw [ex] at u ⊢
    exact kp _ _ _ u (by omega) (by omega)
end World
