/-! THE WORLD AT THE LAW'S LOOP: the relation holds there -/
theorem y_S0_at {l : List ax_S} {a n k : Nat} {e : ax_S} (h : (y_S0.drop a).take n = l) (he : l[k]? = some e) (hk : k < n) : y_S0[a + k]? = some e := by
  rw [← h, List.getElem?_take, if_pos hk, List.getElem?_drop] at he
  exact he
theorem y_S0_2 : (y_S0.drop 2).take 74 = az_P 2 := rfl
theorem y_S0_76 : (y_S0.drop 76).take 74 = (az_P 76).map y_up := rfl
theorem y_S0_222 : (y_S0.drop 222).take 92 = ay_S := rfl
theorem y_S0_L : y_L 2 76 159 0 .null .null y_S0 := by
  have q := y_al_get y_S0 zM 0 y_S0_ok
  have key : ∀ (a id : Nat) (x : (Nat × Nat) ⊕ (Nat × List (Option Value))), y_S0[a]? = some (.inr (id, x)) → y_ad id = a := fun a id x hs => by
    have lt := (List.getElem?_eq_some_iff.mp hs).1
    obtain ⟨e, he⟩ : ∃ e, zM[a]? = some e := ⟨_, List.getElem?_eq_getElem (by omega)⟩
    have c := q.2 a _ e hs he
    rw [Nat.zero_add] at c
    exact (y_ck_c c he).1
  refine ⟨fun a b id x y ha hb => by rw [← key a id x ha, ← key b id y hb], fun k e he => y_S0_at y_S0_2 he (az_P_e he).1, fun i q' hi => ?_, fun j k e hj he => ?_, fun k e he => ?_, fun k e he => y_S0_at y_S0_222 he (ay_S_e he).1⟩
  · match i, hi with
    | 0, hi => cases hi; rfl
    | 1, hi => cases hi; rfl
    | 2, hi => cases hi; rfl
    | 3, hi => cases hi; rfl
    | 4, hi => cases hi; rfl
    | 5, hi => cases hi; rfl
    | 6, hi => cases hi; rfl
    | 7, hi => cases hi; rfl
    | 8, hi => cases hi; rfl
    | 9, hi => cases hi; rfl
    | 10, hi => cases hi; rfl
    | 11, hi => cases hi; rfl
    | 12, hi => cases hi; rfl
    | 13, hi => cases hi; rfl
    | 14, hi => cases hi; rfl
    | 15, hi => cases hi; rfl
    | 16, hi => cases hi; rfl
    | 17, hi => cases hi; rfl
    | k + 18, hi => exact absurd hi (by show ¬ (none = some q'); intro z; cases z)
  · have lt := (y_J_e he).1
    match j, hj, he with
    | 0, _, he => exact y_S0_at (a := 166) (n := 7) (l := y_J 0) rfl he lt
    | 1, _, he => exact y_S0_at (a := 173) (n := 7) (l := y_J 1) rfl he lt
    | 2, _, he => exact y_S0_at (a := 180) (n := 7) (l := y_J 2) rfl he lt
    | 3, _, he => exact y_S0_at (a := 187) (n := 7) (l := y_J 3) rfl he lt
    | 4, _, he => exact y_S0_at (a := 194) (n := 7) (l := y_J 4) rfl he lt
    | 5, _, he => exact y_S0_at (a := 201) (n := 7) (l := y_J 5) rfl he lt
    | 6, _, he => exact y_S0_at (a := 208) (n := 7) (l := y_J 6) rfl he lt
    | 7, _, he => exact y_S0_at (a := 215) (n := 7) (l := y_J 7) rfl he lt
    | j + 8, hj, _ => exact absurd hj (by omega)
  · refine y_S0_at y_S0_76 ?_ (az_P_e he).1
    rw [List.getElem?_map, he]; rfl
theorem y_V0_0 : y_V0 0 1 = 0 ∧ y_V0 0 2 = 0 ∧ y_V0 0 3 = 0 ∧ y_V0 0 8 = 0 ∧ y_V0 157 0 = 0 ∧ y_V0 157 1 = 0 ∧ y_V0 157 2 = 0 ∧ y_V0 500 0 = 0 ∧ y_V0 508 0 = 0 ∧ y_V0 509 0 = 0 ∧ y_V0 510 0 = 0 ∧ y_V0 1008 0 = 0 ∧ y_V0 1009 0 = 0 ∧ y_V0 1010 0 = 0 := by decide +kernel
theorem y_V0_m : y_V0 222 1 = 0 ∧ y_V0 222 5 = 0 ∧ y_V0 222 7 = 0 ∧ y_V0 222 8 = 0 ∧ y_V0 222 9 = 0 ∧ y_V0 222 102 = 0 ∧ y_V0 222 113 = 0 ∧ y_V0 222 115 = 0 ∧ y_V0 222 120 = 0 := by decide +kernel
theorem y_S0_R (l : List ax_S) : y_RL 2 76 0 (y_S0 ++ l) y_V0 y_V0 0 := by
  obtain ⟨a1, a2, a3, a4, a5, a6, a7, a8, a9, a10, a11, a12, a13, a14⟩ := y_V0_0
  obtain ⟨b1, b2, b3, b4, b5, b6, b7, b8, b9⟩ := y_V0_m
  refine ⟨Or.inl ⟨rfl, rfl⟩, by decide, ⟨y_V0_g, y_V0_g⟩, ⟨⟨by rw [a1, b1], by rw [b1]; decide, by rw [b1]; decide, fun i u v => by rw [b1] at v; omega⟩, ⟨by rw [a2, b4], by rw [a3, b5]⟩, ⟨by rw [a4, b6], by rw [b6]; decide, by rw [b6]; decide⟩, ⟨by rw [a5, b7], by rw [a6, b8], by rw [a7, b9], ⟨by rw [b9]; decide, by rw [b9]; decide⟩, fun i u v => by rw [b9] at v; omega⟩, ⟨a9, a10, a11⟩, a12, a13, a14, by rw [b2]; decide, by rw [b2]; decide⟩, Or.inl ⟨b3, a8, a4⟩⟩
theorem y_n_id {V : ax_V} : y_n V V = V := by
  funext c
  by_cases z : 222 ≤ c ∧ c ≤ 313
  · rw [y_n_k z]
  · rw [y_n_n z]
theorem y_c_S0 : y_c y_S0 ≤ 399000 := by decide +kernel
