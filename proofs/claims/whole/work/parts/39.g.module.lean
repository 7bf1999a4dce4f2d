/-! module, both sides -/
theorem ai_Ex.det {P : ai_P} {d d' key : Nat} {vs : List Value} {z : List va_E} {r r' : ai_R} (h : ai_Ex P d key vs z r) (h' : ai_Ex P d' key vs z r') : r = r' := by
  obtain ⟨k, hk⟩ := h.up (Nat.le_max_left d d')
  obtain ⟨k', hk'⟩ := h'.up (Nat.le_max_right d d')
  have a := hk (max k k') (Nat.le_max_left _ _)
  have b := hk' (max k k') (Nat.le_max_right _ _)
  rw [a] at b
  exact Option.some.inj b
theorem ax_i_inj {x y : Int} (hx : ax_rg x) (hy : ax_rg y) (h : Int32.ofInt x = Int32.ofInt y) : x = y := by
  have a := ax_toInt hx
  have b := ax_toInt hy
  rw [h] at a
  omega
/-- two worlds with the same cells have the same numbers there -/
theorem ax_c_arr {V W : ax_V} {id t n : Nat} (ht : t = 0 ∨ t = 1 ∨ t = 2) (gV : ax_g V) (gW : ax_g W) (h : ax_c V (.inr (id, .inl (t, n))) = ax_c W (.inr (id, .inl (t, n)))) : ∀ i, 0 ≤ i → V id i = W id i := fun i i0 => by
  have e : (.inl (t, n, .inl (fun j : Nat => Int32.ofInt (V id (j : Int)))) : va_E) = .inl (t, n, .inl (fun j : Nat => Int32.ofInt (W id (j : Int)))) := h
  have e2 : (fun j : Nat => Int32.ofInt (V id (j : Int))) = fun j : Nat => Int32.ofInt (W id (j : Int)) := by
    injection e with e
    injection e with _ e
    injection e with _ e
    injection e with e
  have e3 := congrFun e2 i.toNat
  rw [show ((i.toNat : Nat) : Int) = i by omega] at e3
  exact ax_i_inj (gV _ _) (gW _ _) e3
/-- all but five cells of a program are arrays -/
theorem y_P_arr {B k : Nat} {s : ax_S} (h : (az_P B)[k]? = some s) (n1 : ¬ k = 0) (n2 : ¬ k = 16) (n3 : ¬ k = 32) (n4 : ¬ k = 47) (n5 : ¬ k = 56) : ∃ t n, (t = 0 ∨ t = 1 ∨ t = 2) ∧ s = .inr (500 + k, .inl (t, n)) := by
  match k, h with
  | 0, h => exact absurd rfl n1
  | 16, h => exact absurd rfl n2
  | 32, h => exact absurd rfl n3
  | 47, h => exact absurd rfl n4
  | 56, h => exact absurd rfl n5
  | 1, h => cases h; exact ⟨_, _, by decide, rfl⟩
  | 2, h => cases h; exact ⟨_, _, by decide, rfl⟩
  | 3, h => cases h; exact ⟨_, _, by decide, rfl⟩
  | 4, h => cases h; exact ⟨_, _, by decide, rfl⟩
  | 5, h => cases h; exact ⟨_, _, by decide, rfl⟩
  | 6, h => cases h; exact ⟨_, _, by decide, rfl⟩
  | 7, h => cases h; exact ⟨_, _, by decide, rfl⟩
  | 8, h => cases h; exact ⟨_, _, by decide, rfl⟩
  | 9, h => cases h; exact ⟨_, _, by decide, rfl⟩
  | 10, h => cases h; exact ⟨_, _, by decide, rfl⟩
  | 11, h => cases h; exact ⟨_, _, by decide, rfl⟩
  | 12, h => cases h; exact ⟨_, _, by decide, rfl⟩
  | 13, h => cases h; exact ⟨_, _, by decide, rfl⟩
  | 14, h => cases h; exact ⟨_, _, by decide, rfl⟩
  | 15, h => cases h; exact ⟨_, _, by decide, rfl⟩
  | 17, h => cases h; exact ⟨_, _, by decide, rfl⟩
  | 18, h => cases h; exact ⟨_, _, by decide, rfl⟩
  | 19, h => cases h; exact ⟨_, _, by decide, rfl⟩
  | 20, h => cases h; exact ⟨_, _, by decide, rfl⟩
  | 21, h => cases h; exact ⟨_, _, by decide, rfl⟩
  | 22, h => cases h; exact ⟨_, _, by decide, rfl⟩
  | 23, h => cases h; exact ⟨_, _, by decide, rfl⟩
  | 24, h => cases h; exact ⟨_, _, by decide, rfl⟩
  | 25, h => cases h; exact ⟨_, _, by decide, rfl⟩
  | 26, h => cases h; exact ⟨_, _, by decide, rfl⟩
  | 27, h => cases h; exact ⟨_, _, by decide, rfl⟩
  | 28, h => cases h; exact ⟨_, _, by decide, rfl⟩
  | 29, h => cases h; exact ⟨_, _, by decide, rfl⟩
  | 30, h => cases h; exact ⟨_, _, by decide, rfl⟩
  | 31, h => cases h; exact ⟨_, _, by decide, rfl⟩
  | 33, h => cases h; exact ⟨_, _, by decide, rfl⟩
  | 34, h => cases h; exact ⟨_, _, by decide, rfl⟩
  | 35, h => cases h; exact ⟨_, _, by decide, rfl⟩
  | 36, h => cases h; exact ⟨_, _, by decide, rfl⟩
  | 37, h => cases h; exact ⟨_, _, by decide, rfl⟩
  | 38, h => cases h; exact ⟨_, _, by decide, rfl⟩
  | 39, h => cases h; exact ⟨_, _, by decide, rfl⟩
  | 40, h => cases h; exact ⟨_, _, by decide, rfl⟩
  | 41, h => cases h; exact ⟨_, _, by decide, rfl⟩
  | 42, h => cases h; exact ⟨_, _, by decide, rfl⟩
  | 43, h => cases h; exact ⟨_, _, by decide, rfl⟩
  | 44, h => cases h; exact ⟨_, _, by decide, rfl⟩
  | 45, h => cases h; exact ⟨_, _, by decide, rfl⟩
  | 46, h => cases h; exact ⟨_, _, by decide, rfl⟩
  | 48, h => cases h; exact ⟨_, _, by decide, rfl⟩
  | 49, h => cases h; exact ⟨_, _, by decide, rfl⟩
  | 50, h => cases h; exact ⟨_, _, by decide, rfl⟩
  | 51, h => cases h; exact ⟨_, _, by decide, rfl⟩
  | 52, h => cases h; exact ⟨_, _, by decide, rfl⟩
  | 53, h => cases h; exact ⟨_, _, by decide, rfl⟩
  | 54, h => cases h; exact ⟨_, _, by decide, rfl⟩
  | 55, h => cases h; exact ⟨_, _, by decide, rfl⟩
  | 57, h => cases h; exact ⟨_, _, by decide, rfl⟩
  | 58, h => cases h; exact ⟨_, _, by decide, rfl⟩
  | 59, h => cases h; exact ⟨_, _, by decide, rfl⟩
  | 60, h => cases h; exact ⟨_, _, by decide, rfl⟩
  | 61, h => cases h; exact ⟨_, _, by decide, rfl⟩
  | 62, h => cases h; exact ⟨_, _, by decide, rfl⟩
  | 63, h => cases h; exact ⟨_, _, by decide, rfl⟩
  | 64, h => cases h; exact ⟨_, _, by decide, rfl⟩
  | 65, h => cases h; exact ⟨_, _, by decide, rfl⟩
  | 66, h => cases h; exact ⟨_, _, by decide, rfl⟩
  | 67, h => cases h; exact ⟨_, _, by decide, rfl⟩
  | 68, h => cases h; exact ⟨_, _, by decide, rfl⟩
  | 69, h => cases h; exact ⟨_, _, by decide, rfl⟩
  | 70, h => cases h; exact ⟨_, _, by decide, rfl⟩
  | 71, h => cases h; exact ⟨_, _, by decide, rfl⟩
  | 72, h => cases h; exact ⟨_, _, by decide, rfl⟩
  | 73, h => cases h; exact ⟨_, _, by decide, rfl⟩
  | k + 74, h => exact absurd h (by show ¬ (none = some s); intro z; cases z)
section ModuleBoth
variable {B Sp w nw : Nat} {m p : Value} {ss : List ax_S} {C N X V : ax_V} {T T' : Int}
/-- the numbers of a program, by its cells -/
theorem y_eq.of (gC : ax_g C) (gX : ax_g X) (h : ∀ (k : Nat) (e : ax_S), (az_P B)[k]? = some e → ax_c X e = ax_c C e) : y_eq C X := by
  have obj : ∀ {id ci : Nat} {fs : List (Option Value)} {k : Nat}, ax_c X (.inr (id, .inr (ci, fs))) = ax_c C (.inr (id, .inr (ci, fs))) → fs[k]? = some none → X id (k : Int) = C id (k : Int) := fun {id ci fs k} e hk => by
    have e1 : (.inr (ci, fs.mapIdx (fun k f => f.getD (ax_i (X id (k : Int))))) : va_E) = .inr (ci, fs.mapIdx (fun k f => f.getD (ax_i (C id (k : Int))))) := e
    have e2 : fs.mapIdx (fun k f => f.getD (ax_i (X id (k : Int)))) = fs.mapIdx (fun k f => f.getD (ax_i (C id (k : Int)))) := by
      injection e1 with e1
      injection e1
    have e3 := congrArg (fun l => l[k]?) e2
    simp only [List.getElem?_mapIdx, hk, Option.map_some, Option.getD_none] at e3
    have e4 : ax_i (X id (k : Int)) = ax_i (C id (k : Int)) := Option.some.inj e3
    have e5 : Int32.ofInt (X id (k : Int)) = Int32.ofInt (C id (k : Int)) := by
      unfold ax_i at e4
      injection e4
    exact ax_i_inj (gX _ _) (gC _ _) e5
  refine ⟨fun c c0 c1 n1 n2 n3 n4 n5 i i0 => ?_, obj (k := 0) (h 0 _ rfl) rfl, obj (k := 0) (h 16 _ rfl) rfl, ⟨obj (k := 0) (h 47 _ rfl) rfl, obj (k := 1) (h 47 _ rfl) rfl⟩, obj (k := 0) (h 56 _ rfl) rfl, obj (k := 1) (h 56 _ rfl) rfl, obj (k := 2) (h 56 _ rfl) rfl⟩
  have l74 : (az_P B).length = 74 := rfl
  obtain ⟨k, rfl⟩ : ∃ k, c = 500 + k := ⟨c - 500, by omega⟩
  obtain ⟨s, hs⟩ : ∃ s, (az_P B)[k]? = some s := ⟨_, List.getElem?_eq_getElem (by omega)⟩
  have arr : ∃ t n, (t = 0 ∨ t = 1 ∨ t = 2) ∧ s = .inr (500 + k, .inl (t, n)) := y_P_arr hs (by omega) (by omega) (by omega) (by omega) (by omega)
  obtain ⟨t, n, ht, es⟩ := arr
  have u := h k s hs
  rw [es] at u
  exact ax_c_arr ht gX gC u i i0
end ModuleBoth
