/-! THE SHAPE WHILE A MODULE IS TAKEN: the spare program is the one that is known -/
def y_K (B Sp w nw : Nat) (m p : Value) (ss : List ax_S) : Prop := ax_ok ss ∧ (∀ (k : Nat) (e : ax_S), (az_P Sp)[k]? = some e → ss[Sp + k]? = some e) ∧ (∀ (i : Nat) (q : Nat × ax_S), (y_E B Sp w nw m p)[i]? = some q → ss[q.1]? = some q.2) ∧ (∀ (j k : Nat) (e : ax_S), j < 8 → (y_J j)[k]? = some e → ss[166 + 7 * j + k]? = some e) ∧ (∀ (k : Nat) (e : ax_S), (az_P B)[k]? = some e → ss[B + k]? = some (y_up e)) ∧ ∀ (k : Nat) (e : ax_S), ay_S[k]? = some e → ss[222 + k]? = some e
/-- where the two programs are -/
def y_BS (B Sp : Nat) : Prop := (B = 2 ∧ Sp = 76) ∨ (B = 76 ∧ Sp = 2)
def y_sw (c : Nat) : Option Nat := if 600 ≤ c ∧ c ≤ 602 then none else if 500 ≤ c ∧ c ≤ 573 then some (c + 500) else if 1000 ≤ c ∧ c ≤ 1073 then some (c - 500) else some c
def y_x (V : ax_V) : ax_V := fun c => if 500 ≤ c ∧ c ≤ 573 then V (c + 500) else if 1000 ≤ c ∧ c ≤ 1073 then V (c - 500) else V c
theorem y_sw_o {c k : Nat} (h : y_sw c = some k) : ¬ (600 ≤ c ∧ c ≤ 602) ∧ ((500 ≤ c ∧ c ≤ 573 ∧ k = c + 500) ∨ (1000 ≤ c ∧ c ≤ 1073 ∧ k = c - 500) ∨ (¬ (500 ≤ c ∧ c ≤ 573) ∧ ¬ (1000 ≤ c ∧ c ≤ 1073) ∧ k = c)) := by
  unfold y_sw at h
  by_cases z : 600 ≤ c ∧ c ≤ 602
  · rw [if_pos z] at h; cases h
  · rw [if_neg z] at h
    refine ⟨z, ?_⟩
    by_cases y : 500 ≤ c ∧ c ≤ 573
    · rw [if_pos y] at h
      exact Or.inl ⟨y.1, y.2, (Option.some.inj h).symm⟩
    · rw [if_neg y] at h
      by_cases x : 1000 ≤ c ∧ c ≤ 1073
      · rw [if_pos x] at h
        exact Or.inr (Or.inl ⟨x.1, x.2, (Option.some.inj h).symm⟩)
      · rw [if_neg x] at h
        exact Or.inr (Or.inr ⟨y, x, (Option.some.inj h).symm⟩)
theorem y_sw_5 {k : Nat} (h : k < 74) : y_sw (500 + k) = some (500 + k + 500) := by
  unfold y_sw
  rw [if_neg (by omega), if_pos ⟨by omega, by omega⟩]
theorem y_sw_10 {k : Nat} (h : k < 74) : y_sw (500 + k + 500) = some (500 + k) := by
  unfold y_sw
  rw [if_neg (by omega), if_neg (by omega), if_pos ⟨by omega, by omega⟩]
  exact congrArg some (by omega)
theorem y_sw_k {c : Nat} (h1 : ¬ (500 ≤ c ∧ c ≤ 602)) (h2 : ¬ (1000 ≤ c ∧ c ≤ 1073)) : y_sw c = some c := by
  unfold y_sw
  rw [if_neg (by omega), if_neg (by omega), if_neg h2]
theorem y_x_k {c : Nat} {V : ax_V} (h1 : ¬ (500 ≤ c ∧ c ≤ 573)) (h2 : ¬ (1000 ≤ c ∧ c ≤ 1073)) : y_x V c = V c := by
  unfold y_x
  rw [if_neg h1, if_neg h2]
theorem y_x_5 {c : Nat} {V : ax_V} (h : 500 ≤ c ∧ c ≤ 573) : y_x V c = V (c + 500) := by
  unfold y_x
  rw [if_pos h]
theorem y_x_10 {c : Nat} {V : ax_V} (h : 1000 ≤ c ∧ c ≤ 1073) : y_x V c = V (c - 500) := by
  unfold y_x
  rw [if_neg (by omega), if_pos h]
theorem y_x_g {V : ax_V} (h : ax_g V) : ax_g (y_x V) := fun c i => by
  unfold y_x
  split
  · exact h _ _
  · split <;> exact h _ _
theorem y_x_V {V : ax_V} : ∀ c c', y_sw c = some c' → y_x V c' = V c := fun c c' e => by
  have u := (y_sw_o e).2
  rcases u with ⟨a, b, k⟩ | ⟨a, b, k⟩ | ⟨a, b, k⟩
  · rw [y_x_10 ⟨by omega, by omega⟩, k, show c + 500 - 500 = c by omega]
  · rw [y_x_5 ⟨by omega, by omega⟩, k, show c - 500 + 500 = c by omega]
  · rw [k, y_x_k a b]
/-- the same world, with the programs' numbers turned -/
theorem y_sw_w (ss : List ax_S) (V : ax_V) : ax_w ss V = ax_w (ss.map (ax_rn y_sw V)) (y_x V) := by rw [ax_rn_w, ax_bk_id y_x_V]
theorem y_sw_fr {ss : List ax_S} {V : ax_V} : ∀ (a id : Nat) (x : (Nat × Nat) ⊕ (Nat × List (Option Value))), (ss.map (ax_rn y_sw V))[a]? = some (.inr (id, x)) → ¬ (600 ≤ id ∧ id ≤ 602) := fun a id x h => by
  rw [List.getElem?_map] at h
  cases hs : ss[a]? with
  | none => rw [hs] at h; cases h
  | some s =>
    rw [hs] at h
    have h' : ax_rn y_sw V s = .inr (id, x) := Option.some.inj h
    obtain ⟨i0, _, z⟩ := ax_rn_o h'
    have := y_sw_o z
    omega
theorem y_c_rn {σ : Nat → Option Nat} {V : ax_V} (ss : List ax_S) : y_c (ss.map (ax_rn σ V)) = y_c ss := by
  unfold y_c
  rw [List.map_map]
  refine congrArg List.sum (List.map_congr_left (fun s _ => ?_))
  show ax_sz (ax_rn σ V s) = ax_sz s
  rcases s with e | ⟨id, x⟩
  · rfl
  · cases hs : σ id with
    | some id' => rw [ax_rn_i hs]; rcases x with ⟨t, n⟩ | ⟨ci, fs⟩ <;> rfl
    | none =>
      have e : ax_rn σ V (.inr (id, x)) = .inl (ax_c V (.inr (id, x))) := by
        show (match σ id with | some id' => (.inr (id', x) : ax_S) | none => .inl (ax_c V (.inr (id, x)))) = _
        rw [hs]
      rw [e]
      exact ax_sz_c V _
section Shape
variable {B Sp w nw : Nat} {m p : Value} {ss : List ax_S} {V : ax_V}
theorem y_K.at (h : y_K B Sp w nw m p ss) (i : Nat) {a : Nat} {s : ax_S} (e : (y_E B Sp w nw m p)[i]? = some (a, s)) : ss[a]? = some s := h.2.2.1 i (a, s) e
theorem y_EE (h : ∀ (i : Nat) (q : Nat × ax_S), (y_E B Sp w nw m p)[i]? = some q → ss[q.1]? = some q.2) : ∀ (i : Nat) (q : Nat × ax_S), (y_E B Sp w nw m p)[i]? = some q → (ss.map (ax_rn y_sw V))[q.1]? = some q.2 := fun i q' hi => by
  have u := h i q' hi
  have raw : ∀ {a : Nat} {e : va_E}, ss[a]? = some (.inl e) → (ss.map (ax_rn y_sw V))[a]? = some (.inl e) := fun z => by rw [List.getElem?_map, z]; rfl
  match i, hi with
  | 0, hi => cases hi; exact ax_rn_get u rfl
  | 1, hi => cases hi; exact ax_rn_get u rfl
  | 2, hi => cases hi; exact raw u
  | 3, hi => cases hi; exact ax_rn_get u rfl
  | 4, hi => cases hi; exact ax_rn_get u rfl
  | 5, hi => cases hi; exact ax_rn_get u rfl
  | 6, hi => cases hi; exact ax_rn_get u rfl
  | 7, hi => cases hi; exact ax_rn_get u rfl
  | 8, hi => cases hi; exact ax_rn_get u rfl
  | 9, hi => cases hi; exact ax_rn_get u rfl
  | 10, hi => cases hi; exact ax_rn_get u rfl
  | 11, hi => cases hi; exact ax_rn_get u rfl
  | 12, hi => cases hi; exact ax_rn_get u rfl
  | 13, hi => cases hi; exact ax_rn_get u rfl
  | 14, hi => cases hi; exact ax_rn_get u rfl
  | 15, hi => cases hi; exact ax_rn_get u rfl
  | 16, hi => cases hi; exact ax_rn_get u rfl
  | 17, hi => cases hi; exact ax_rn_get u rfl
  | k + 18, hi => exact absurd hi (by show ¬ (none = some q'); intro z; cases z)
theorem y_sw_ok (ok : ax_ok ss) : ax_ok (ss.map (ax_rn y_sw V)) := ax_ok_map (fun c c' k h1 h2 => by
  have e1 := y_sw_o h1
  have e2 := y_sw_o h2
  omega) ok
theorem y_JJ (h : ∀ (j k : Nat) (e : ax_S), j < 8 → (y_J j)[k]? = some e → ss[166 + 7 * j + k]? = some e) : ∀ (j k : Nat) (e : ax_S), j < 8 → (y_J j)[k]? = some e → (ss.map (ax_rn y_sw V))[166 + 7 * j + k]? = some e := fun j k e hj he => by
  obtain ⟨lt, x, ex⟩ := y_J_e he
  have u := h j k e hj he
  rw [ex] at u ⊢
  exact ax_rn_get u (y_sw_k (by omega) (by omega))
theorem y_MM (h : ∀ (k : Nat) (e : ax_S), ay_S[k]? = some e → ss[222 + k]? = some e) : ∀ (k : Nat) (e : ax_S), ay_S[k]? = some e → (ss.map (ax_rn y_sw V))[222 + k]? = some e := fun k e he => by
  obtain ⟨lt, x, ex⟩ := ay_S_e he
  have u := h k e he
  rw [ex] at u ⊢
  exact ax_rn_get u (y_sw_k (by omega) (by omega))
theorem y_L.swap (h : y_L B Sp w nw m p ss) : y_K B Sp w nw m p (ss.map (ax_rn y_sw V)) := by
  refine ⟨y_sw_ok h.1, fun k e he => ?_, y_EE h.2.2.1, y_JJ h.2.2.2.1, fun k e he => ?_, y_MM h.2.2.2.2.2⟩
  · obtain ⟨lt, x, ex⟩ := az_P_e he
    have u := h.2.2.2.2.1 k e he
    rw [ex] at u ⊢
    exact ax_rn_get u (y_sw_10 lt)
  · obtain ⟨lt, x, ex⟩ := az_P_e he
    have u := h.2.1 k e he
    rw [ex] at u ⊢
    exact ax_rn_get u (y_sw_5 lt)
theorem y_K.swap (h : y_K B Sp w nw m p ss) : y_L B Sp w nw m p (ss.map (ax_rn y_sw V)) := by
  refine ⟨y_sw_ok h.1, fun k e he => ?_, y_EE h.2.2.1, y_JJ h.2.2.2.1, fun k e he => ?_, y_MM h.2.2.2.2.2⟩
  · obtain ⟨lt, x, ex⟩ := az_P_e he
    have u := h.2.2.2.2.1 k e he
    rw [ex] at u ⊢
    exact ax_rn_get u (y_sw_10 lt)
  · obtain ⟨lt, x, ex⟩ := az_P_e he
    have u := h.2.1 k e he
    rw [ex] at u ⊢
    exact ax_rn_get u (y_sw_5 lt)
theorem y_K.app {l : List ax_S} (h : y_K B Sp w nw m p ss) (ok : ax_ok (ss ++ l)) : y_K B Sp w nw m p (ss ++ l) := ⟨ok, fun k e he => y_app (h.2.1 k e he), fun i q he => y_app (h.2.2.1 i q he), fun j k e hj he => y_app (h.2.2.2.1 j k e hj he), fun k e he => y_app (h.2.2.2.2.1 k e he), fun k e he => y_app (h.2.2.2.2.2 k e he)⟩
theorem y_L.app {l : List ax_S} (h : y_L B Sp w nw m p ss) (ok : ax_ok (ss ++ l)) : y_L B Sp w nw m p (ss ++ l) := ⟨ok, fun k e he => y_app (h.2.1 k e he), fun i q he => y_app (h.2.2.1 i q he), fun j k e hj he => y_app (h.2.2.2.1 j k e hj he), fun k e he => y_app (h.2.2.2.2.1 k e he), fun k e he => y_app (h.2.2.2.2.2 k e he)⟩
/-- a cell more that is taken as it is -/
theorem ax_ok_ap1 {e : va_E} (ok : ax_ok ss) : ax_ok (ss ++ [.inl e]) := by
  intro a b i x1 y1 ha hb
  have cut : ∀ (j : Nat) (y : (Nat × Nat) ⊕ (Nat × List (Option Value))), (ss ++ [(.inl e : ax_S)])[j]? = some (.inr (i, y)) → ss[j]? = some (.inr (i, y)) := fun j y hj => by
    by_cases lt : j < ss.length
    · rw [List.getElem?_append_left lt] at hj; exact hj
    · rw [List.getElem?_append_right (by omega)] at hj
      have e0 : j - ss.length = 0 := by
        have := (List.getElem?_eq_some_iff.mp hj).1
        simp at this; omega
      rw [e0] at hj
      cases hj
  exact ok a b i x1 y1 (cut a x1 ha) (cut b y1 hb)
/-- the programs are turned: the house and its machine say so -/
theorem y_K.turn (h : y_K B Sp w nw m p ss) (bs : y_BS B Sp) : y_L Sp B w nw m p ((ss.set 0 (.inr (0, .inr (11, [some (.ref 1), none, none, none, some (.ref Sp), some (.ref B), some (.ref 150), some (.ref 156), none, some (.ref 157)])))).set 150 (az_mc Sp)) := by
  have h0 := h.at 0 rfl
  have h150 := h.at 3 rfl
  have hw := h.at 17 rfl
  obtain ⟨s1, e1⟩ : ∃ s1 : List ax_S, s1 = ss.set 0 (.inr (0, .inr (11, [some (.ref 1), none, none, none, some (.ref Sp), some (.ref B), some (.ref 150), some (.ref 156), none, some (.ref 157)]))) := ⟨_, rfl⟩
  have ok1 : ax_ok s1 := by rw [e1]; exact ax_ok_set h.1 h0
  have g150 : s1[150]? = some (.inr (150, .inr (5, [some (.ref B), some (.ref (B + 16)), some (.ref (B + 32)), some (.ref (B + 47)), some (.ref (B + 56)), some (.ref 151), some (.ref 152), some (.ref 153), some (.ref 154), some (.ref 155), none]))) := by rw [e1]; exact ax_set_ne (by decide) h150
  have kp : ∀ {a : Nat} {s : ax_S}, ss[a]? = some s → ¬ a = 0 → ¬ a = 150 → (s1.set 150 (az_mc Sp))[a]? = some s := fun hs a0 a1 => ax_set_ne (fun z => a1 z.symm) (by rw [e1]; exact ax_set_ne (fun z => a0 z.symm) hs)
  rw [← e1]
  have w0 : ¬ w = 0 := fun z => by rw [z] at hw; rw [hw] at h0; cases h0
  have w1 : ¬ w = 150 := fun z => by rw [z] at hw; rw [hw] at h150; cases h150
  refine ⟨ax_ok_set ok1 g150, fun k e he => ?_, fun i q' hi => ?_, fun j k e hj he => ?_, fun k e he => ?_, fun k e he => ?_⟩
  · obtain ⟨lt, x, ex⟩ := az_P_e he
    exact kp (h.2.1 k e he) (by rcases bs with z | z <;> omega) (by rcases bs with z | z <;> omega)
  · match i, hi with
    | 0, hi => cases hi; exact ax_set_ne (by show ¬ (150 : Nat) = 0; decide) (by rw [e1]; exact ax_set_get h0)
    | 1, hi => cases hi; exact kp (h.at 1 rfl) (by decide) (by decide)
    | 2, hi => cases hi; exact kp (h.at 2 rfl) (by decide) (by decide)
    | 3, hi => cases hi; exact ax_set_get g150
    | 4, hi => cases hi; exact kp (h.at 4 rfl) (by decide) (by decide)
    | 5, hi => cases hi; exact kp (h.at 5 rfl) (by decide) (by decide)
    | 6, hi => cases hi; exact kp (h.at 6 rfl) (by decide) (by decide)
    | 7, hi => cases hi; exact kp (h.at 7 rfl) (by decide) (by decide)
    | 8, hi => cases hi; exact kp (h.at 8 rfl) (by decide) (by decide)
    | 9, hi => cases hi; exact kp (h.at 9 rfl) (by show ¬ (157 : Nat) = 0; decide) (by show ¬ (157 : Nat) = 150; decide)
    | 10, hi => cases hi; exact kp (h.at 10 rfl) (by decide) (by decide)
    | 11, hi => cases hi; exact kp (h.at 11 rfl) (by decide) (by decide)
    | 12, hi => cases hi; exact kp (h.at 12 rfl) (by decide) (by decide)
    | 13, hi => cases hi; exact kp (h.at 13 rfl) (by decide) (by decide)
    | 14, hi => cases hi; exact kp (h.at 14 rfl) (by decide) (by decide)
    | 15, hi => cases hi; exact kp (h.at 15 rfl) (by decide) (by decide)
    | 16, hi => cases hi; exact kp (h.at 16 rfl) (by decide) (by decide)
    | 17, hi => cases hi; exact kp hw w0 w1
    | k + 18, hi => exact absurd hi (by show ¬ (none = some q'); intro z; cases z)
  · obtain ⟨lt, x, ex⟩ := y_J_e he
    exact kp (h.2.2.2.1 j k e hj he) (by omega) (by omega)
  · obtain ⟨lt, x, ex⟩ := az_P_e he
    exact kp (h.2.2.2.2.1 k e he) (by rcases bs with z | z <;> omega) (by rcases bs with z | z <;> omega)
  · obtain ⟨lt, x, ex⟩ := ay_S_e he
    exact kp (h.2.2.2.2.2 k e he) (by omega) (by omega)
end Shape
