/-! NEW OBJECTS: the constructors of Reader, Judge, Planner -/
section New
variable {ss : List ax_S} {d : Nat} {M : ai_M} {pc pc' : Nat} {L L' : List (Option Value)} {st st' : List Value} {V V1 : ax_V} {Q Q' : Option Value → List va_E → Prop}
/-- a field of an object that is taken as it is -/
theorem ax_Q.pX {idx ci k a : Nat} {ty : FieldType} {fin : Bool} {fs : List Value} {v : Value} (hf : ai_In M pc (.putfield idx)) (hl : ai_P0.2.1 M.2.2.2.2.1 idx = some (ci, k, ty, fin)) (hs : ss[a]? = some (.inl (.inr (ci, fs)))) (hk : k < fs.length) (hn : narrow ty v = v) (hfit : fits ty v = true) (hfin : fin = true → ai_ini M ci = true) (hp : pc + 3 = pc') (h : ax_Q (ss.set a (.inl (.inr (ci, fs.set k v)))) d M pc' L st V Q) : ax_Q ss d M pc L (v :: .ref a :: st) V Q := by
  subst hp
  obtain ⟨r, z', q, hr⟩ := h
  refine ⟨r, z', q, ?_⟩
  refine ai_Rn.putf hf hl (ax_w_get hs) hk hn hfit hfin ?_
  have e2 : (ax_w ss V).set a (.inr (ci, fs.set k v)) = ax_w (ss.set a (.inl (.inr (ci, fs.set k v)))) V := by
    unfold ax_w
    rw [List.map_set]; rfl
  rw [e2]
  exact hr
/-- Object's own constructor -/
theorem ax_Q.obj {idx a k1 k2 k3 : Nat} (hf : ai_In M pc (.invokespecial idx)) (hl : ai_P0.2.2.2.1 M.2.2.2.2.1 idx = some (3, k1, k2, k3)) (hroom : (st.map fun v => v.category).sum ≤ 8) (hp : pc + 3 = pc') (h : ax_Q ss d M pc' L st V Q) : ax_Q ss d M pc L (.ref a :: st) V Q := by
  subst hp
  refine ax_Q.go (fun r hr => ?_) h
  refine ai_Rn.step (fun call => ?_) hr
  obtain ⟨n, hf⟩ := hf
  unfold ai_step
  simp only [hf, ai_fam, ai_inv, hl, if_pos hroom]
theorem y_last (x y : ax_S) : (ss ++ [x]).set ss.length y = ss ++ [y] := by
  rw [List.set_append_right _ _ (Nat.le_refl _), Nat.sub_self]
  rfl
theorem y_glast (x : ax_S) : (ss ++ [x])[ss.length]? = some x := by
  rw [List.getElem?_append_right (Nat.le_refl _), Nat.sub_self]
  rfl
theorem y_app {a : Nat} {s : ax_S} {l : List ax_S} (h : ss[a]? = some s) : (ss ++ l)[a]? = some s := by
  rw [List.getElem?_append_left ((List.getElem?_eq_some_iff.mp h).1)]
  exact h
end New
theorem fk_10_9 : ai_P0.2.1 10 9 = some (10, 7, .int, false) := rfl
theorem fk_10_15 : ai_P0.2.1 10 15 = some (10, 9, .int, false) := rfl
theorem fk_10_18 : ai_P0.2.1 10 18 = some (10, 0, (.array .char), true) := rfl
theorem fk_10_22 : ai_P0.2.1 10 22 = some (10, 1, .int, true) := rfl
theorem fk_10_25 : ai_P0.2.1 10 25 = some (10, 2, (.object "TickHouse$Program"), true) := rfl
theorem fk_10_29 : ai_P0.2.1 10 29 = some (8, 16, (.object "TickHouse$Parts"), true) := rfl
theorem fk_10_35 : ai_P0.2.1 10 35 = some (10, 3, (.object "TickHouse$Parts"), true) := rfl
theorem fk_10_36 : ai_P0.2.1 10 36 = some (8, 18, (.object "TickHouse$Equations"), true) := rfl
theorem fk_10_40 : ai_P0.2.1 10 40 = some (10, 4, (.object "TickHouse$Equations"), true) := rfl
theorem fk_10_41 : ai_P0.2.1 10 41 = some (8, 19, (.object "TickHouse$Automata"), true) := rfl
theorem fk_10_45 : ai_P0.2.1 10 45 = some (10, 5, (.object "TickHouse$Automata"), true) := rfl
theorem mk_10_3 : ai_P0.2.2.2.1 10 3 = some (3, 0, 0, 0) := rfl
theorem fk_3_9 : ai_P0.2.1 3 9 = some (3, 5, .int, false) := rfl
theorem fk_3_15 : ai_P0.2.1 3 15 = some (3, 0, (.object "TickHouse$Program"), true) := rfl
theorem fk_3_19 : ai_P0.2.1 3 19 = some (8, 16, (.object "TickHouse$Parts"), true) := rfl
theorem fk_3_25 : ai_P0.2.1 3 25 = some (3, 1, (.object "TickHouse$Parts"), true) := rfl
theorem fk_3_26 : ai_P0.2.1 3 26 = some (8, 17, (.object "TickHouse$Letters"), true) := rfl
theorem fk_3_30 : ai_P0.2.1 3 30 = some (3, 2, (.object "TickHouse$Letters"), true) := rfl
theorem fk_3_31 : ai_P0.2.1 3 31 = some (8, 18, (.object "TickHouse$Equations"), true) := rfl
theorem fk_3_35 : ai_P0.2.1 3 35 = some (3, 3, (.object "TickHouse$Equations"), true) := rfl
theorem fk_3_36 : ai_P0.2.1 3 36 = some (8, 19, (.object "TickHouse$Automata"), true) := rfl
theorem fk_3_40 : ai_P0.2.1 3 40 = some (3, 4, (.object "TickHouse$Automata"), true) := rfl
theorem mk_3_3 : ai_P0.2.2.2.1 3 3 = some (3, 0, 0, 0) := rfl
theorem fk_7_9 : ai_P0.2.1 7 9 = some (7, 0, (.object "TickHouse$Program"), true) := rfl
theorem fk_7_15 : ai_P0.2.1 7 15 = some (8, 16, (.object "TickHouse$Parts"), true) := rfl
theorem fk_7_21 : ai_P0.2.1 7 21 = some (7, 1, (.object "TickHouse$Parts"), true) := rfl
theorem fk_7_22 : ai_P0.2.1 7 22 = some (8, 17, (.object "TickHouse$Letters"), true) := rfl
theorem fk_7_26 : ai_P0.2.1 7 26 = some (7, 2, (.object "TickHouse$Letters"), true) := rfl
theorem fk_7_27 : ai_P0.2.1 7 27 = some (8, 18, (.object "TickHouse$Equations"), true) := rfl
theorem fk_7_31 : ai_P0.2.1 7 31 = some (7, 3, (.object "TickHouse$Equations"), true) := rfl
theorem fk_7_32 : ai_P0.2.1 7 32 = some (8, 19, (.object "TickHouse$Automata"), true) := rfl
theorem fk_7_36 : ai_P0.2.1 7 36 = some (7, 4, (.object "TickHouse$Automata"), true) := rfl
theorem mk_7_3 : ai_P0.2.2.2.1 7 3 = some (3, 0, 0, 0) := rfl
def y_rd (D : Nat) (n : Int) : List Value := [.ref 1, ax_i n, .ref D, .ref (D + 16), .ref (D + 47), .ref (D + 56), .int 0, ax_i 700, .int 0, ax_i (-1), .int 0, .int 0, .int 0, .int 0]
def y_jd (D : Nat) : List Value := [.ref D, .ref (D + 16), .ref (D + 32), .ref (D + 47), .ref (D + 56), ax_i 700]
def y_pl (D : Nat) : List Value := [.ref D, .ref (D + 16), .ref (D + 32), .ref (D + 47), .ref (D + 56), .int 0, .int 0]
section NewObjects
variable {ss : List ax_S} {d D : Nat} {V : ax_V} {n : Int}
set_option maxHeartbeats 1000000 in
theorem t_ReaderI (hD : ss[D]? = (az_P D)[0]?) : ai_Ex ai_P0 (d + 1) q_Reader_init [.ref ss.length, .ref 1, ax_i n, .ref D] (ax_w (ss ++ [.inl (.inr (10, ai_P0.2.2.2.2.1 10))]) V) (none, ax_w (ss ++ [.inl (.inr (10, y_rd D n))]) V) := by
  obtain ⟨r, z, ⟨e1, e2⟩, ex⟩ : ax_E (ss ++ [(.inl (.inr (10, ai_P0.2.2.2.2.1 10)) : ax_S)]) (d + 1) q_Reader_init [.ref ss.length, .ref 1, ax_i n, .ref D] V (fun r z => r = none ∧ z = ax_w (ss ++ [.inl (.inr (10, y_rd D n))]) V) := by
    refine ax_E.of (M := m_Reader_init) rfl (Nat.le_of_ble_eq_true rfl) ?_
    refine ax_Q.mv 1 1 [some (.ref ss.length), some (.ref 1), some (ax_i n), some (.ref D)] [.ref ss.length] rfl ?_
    refine ax_Q.obj (pc' := 4) ⟨_, rfl⟩ mk_10_3 (Nat.le_of_ble_eq_true rfl) rfl ?_
    refine ax_Q.mv 1 5 [some (.ref ss.length), some (.ref 1), some (ax_i n), some (.ref D)] [.ref ss.length] rfl ?_
    refine ax_Q.sip (n := 700) (pc' := 8) ⟨_, rfl⟩ (by decide) rfl ?_
    refine ax_Q.pX (pc' := 11) ⟨_, rfl⟩ fk_10_9 (y_glast _) (Nat.le_of_ble_eq_true rfl) rfl rfl (fun _ => rfl) rfl ?_
    rw [y_last]
    refine ax_Q.mv 2 13 [some (.ref ss.length), some (.ref 1), some (ax_i n), some (.ref D)] [ax_i (-1), .ref ss.length] rfl ?_
    refine ax_Q.pX (pc' := 16) ⟨_, rfl⟩ fk_10_15 (y_glast _) (Nat.le_of_ble_eq_true rfl) rfl rfl (fun _ => rfl) rfl ?_
    rw [y_last]
    refine ax_Q.mv 2 18 [some (.ref ss.length), some (.ref 1), some (ax_i n), some (.ref D)] [.ref 1, .ref ss.length] rfl ?_
    refine ax_Q.pX (pc' := 21) ⟨_, rfl⟩ fk_10_18 (y_glast _) (Nat.le_of_ble_eq_true rfl) rfl rfl (fun _ => rfl) rfl ?_
    rw [y_last]
    refine ax_Q.mv 2 23 [some (.ref ss.length), some (.ref 1), some (ax_i n), some (.ref D)] [ax_i n, .ref ss.length] rfl ?_
    refine ax_Q.pX (pc' := 26) ⟨_, rfl⟩ fk_10_22 (y_glast _) (Nat.le_of_ble_eq_true rfl) rfl rfl (fun _ => rfl) rfl ?_
    rw [y_last]
    refine ax_Q.mv 2 28 [some (.ref ss.length), some (.ref 1), some (ax_i n), some (.ref D)] [.ref D, .ref ss.length] rfl ?_
    refine ax_Q.pX (pc' := 31) ⟨_, rfl⟩ fk_10_25 (y_glast _) (Nat.le_of_ble_eq_true rfl) rfl rfl (fun _ => rfl) rfl ?_
    rw [y_last]
    refine ax_Q.mv 2 33 [some (.ref ss.length), some (.ref 1), some (ax_i n), some (.ref D)] [.ref D, .ref ss.length] rfl ?_
    refine ax_Q.gR (v := .ref (D + 16)) (pc' := 36) ⟨_, rfl⟩ fk_10_29 (y_app (hD.trans rfl)) rfl rfl ?_
    refine ax_Q.pX (pc' := 39) ⟨_, rfl⟩ fk_10_35 (y_glast _) (Nat.le_of_ble_eq_true rfl) rfl rfl (fun _ => rfl) rfl ?_
    rw [y_last]
    refine ax_Q.mv 2 41 [some (.ref ss.length), some (.ref 1), some (ax_i n), some (.ref D)] [.ref D, .ref ss.length] rfl ?_
    refine ax_Q.gR (v := .ref (D + 47)) (pc' := 44) ⟨_, rfl⟩ fk_10_36 (y_app (hD.trans rfl)) rfl rfl ?_
    refine ax_Q.pX (pc' := 47) ⟨_, rfl⟩ fk_10_40 (y_glast _) (Nat.le_of_ble_eq_true rfl) rfl rfl (fun _ => rfl) rfl ?_
    rw [y_last]
    refine ax_Q.mv 2 49 [some (.ref ss.length), some (.ref 1), some (ax_i n), some (.ref D)] [.ref D, .ref ss.length] rfl ?_
    refine ax_Q.gR (v := .ref (D + 56)) (pc' := 52) ⟨_, rfl⟩ fk_10_41 (y_app (hD.trans rfl)) rfl rfl ?_
    refine ax_Q.pX (pc' := 55) ⟨_, rfl⟩ fk_10_45 (y_glast _) (Nat.le_of_ble_eq_true rfl) rfl rfl (fun _ => rfl) rfl ?_
    rw [y_last]
    exact ax_Q.vret ⟨_, rfl⟩ rfl ⟨rfl, rfl⟩
  rw [e1, e2] at ex
  exact ex
set_option maxHeartbeats 1000000 in
theorem t_JudgeI (hD : ss[D]? = (az_P D)[0]?) : ai_Ex ai_P0 (d + 1) q_Judge_init [.ref ss.length, .ref D] (ax_w (ss ++ [.inl (.inr (3, ai_P0.2.2.2.2.1 3))]) V) (none, ax_w (ss ++ [.inl (.inr (3, y_jd D))]) V) := by
  obtain ⟨r, z, ⟨e1, e2⟩, ex⟩ : ax_E (ss ++ [(.inl (.inr (3, ai_P0.2.2.2.2.1 3)) : ax_S)]) (d + 1) q_Judge_init [.ref ss.length, .ref D] V (fun r z => r = none ∧ z = ax_w (ss ++ [.inl (.inr (3, y_jd D))]) V) := by
    refine ax_E.of (M := m_Judge_init) rfl (Nat.le_of_ble_eq_true rfl) ?_
    refine ax_Q.mv 1 1 [some (.ref ss.length), some (.ref D)] [.ref ss.length] rfl ?_
    refine ax_Q.obj (pc' := 4) ⟨_, rfl⟩ mk_3_3 (Nat.le_of_ble_eq_true rfl) rfl ?_
    refine ax_Q.mv 1 5 [some (.ref ss.length), some (.ref D)] [.ref ss.length] rfl ?_
    refine ax_Q.sip (n := 700) (pc' := 8) ⟨_, rfl⟩ (by decide) rfl ?_
    refine ax_Q.pX (pc' := 11) ⟨_, rfl⟩ fk_3_9 (y_glast _) (Nat.le_of_ble_eq_true rfl) rfl rfl (fun _ => rfl) rfl ?_
    rw [y_last]
    refine ax_Q.mv 2 13 [some (.ref ss.length), some (.ref D)] [.ref D, .ref ss.length] rfl ?_
    refine ax_Q.pX (pc' := 16) ⟨_, rfl⟩ fk_3_15 (y_glast _) (Nat.le_of_ble_eq_true rfl) rfl rfl (fun _ => rfl) rfl ?_
    rw [y_last]
    refine ax_Q.mv 2 18 [some (.ref ss.length), some (.ref D)] [.ref D, .ref ss.length] rfl ?_
    refine ax_Q.gR (v := .ref (D + 16)) (pc' := 21) ⟨_, rfl⟩ fk_3_19 (y_app (hD.trans rfl)) rfl rfl ?_
    refine ax_Q.pX (pc' := 24) ⟨_, rfl⟩ fk_3_25 (y_glast _) (Nat.le_of_ble_eq_true rfl) rfl rfl (fun _ => rfl) rfl ?_
    rw [y_last]
    refine ax_Q.mv 2 26 [some (.ref ss.length), some (.ref D)] [.ref D, .ref ss.length] rfl ?_
    refine ax_Q.gR (v := .ref (D + 32)) (pc' := 29) ⟨_, rfl⟩ fk_3_26 (y_app (hD.trans rfl)) rfl rfl ?_
    refine ax_Q.pX (pc' := 32) ⟨_, rfl⟩ fk_3_30 (y_glast _) (Nat.le_of_ble_eq_true rfl) rfl rfl (fun _ => rfl) rfl ?_
    rw [y_last]
    refine ax_Q.mv 2 34 [some (.ref ss.length), some (.ref D)] [.ref D, .ref ss.length] rfl ?_
    refine ax_Q.gR (v := .ref (D + 47)) (pc' := 37) ⟨_, rfl⟩ fk_3_31 (y_app (hD.trans rfl)) rfl rfl ?_
    refine ax_Q.pX (pc' := 40) ⟨_, rfl⟩ fk_3_35 (y_glast _) (Nat.le_of_ble_eq_true rfl) rfl rfl (fun _ => rfl) rfl ?_
    rw [y_last]
    refine ax_Q.mv 2 42 [some (.ref ss.length), some (.ref D)] [.ref D, .ref ss.length] rfl ?_
    refine ax_Q.gR (v := .ref (D + 56)) (pc' := 45) ⟨_, rfl⟩ fk_3_36 (y_app (hD.trans rfl)) rfl rfl ?_
    refine ax_Q.pX (pc' := 48) ⟨_, rfl⟩ fk_3_40 (y_glast _) (Nat.le_of_ble_eq_true rfl) rfl rfl (fun _ => rfl) rfl ?_
    rw [y_last]
    exact ax_Q.vret ⟨_, rfl⟩ rfl ⟨rfl, rfl⟩
  rw [e1, e2] at ex
  exact ex
set_option maxHeartbeats 1000000 in
theorem t_PlannerI (hD : ss[D]? = (az_P D)[0]?) : ai_Ex ai_P0 (d + 1) q_Planner_init [.ref ss.length, .ref D] (ax_w (ss ++ [.inl (.inr (7, ai_P0.2.2.2.2.1 7))]) V) (none, ax_w (ss ++ [.inl (.inr (7, y_pl D))]) V) := by
  obtain ⟨r, z, ⟨e1, e2⟩, ex⟩ : ax_E (ss ++ [(.inl (.inr (7, ai_P0.2.2.2.2.1 7)) : ax_S)]) (d + 1) q_Planner_init [.ref ss.length, .ref D] V (fun r z => r = none ∧ z = ax_w (ss ++ [.inl (.inr (7, y_pl D))]) V) := by
    refine ax_E.of (M := m_Planner_init) rfl (Nat.le_of_ble_eq_true rfl) ?_
    refine ax_Q.mv 1 1 [some (.ref ss.length), some (.ref D)] [.ref ss.length] rfl ?_
    refine ax_Q.obj (pc' := 4) ⟨_, rfl⟩ mk_7_3 (Nat.le_of_ble_eq_true rfl) rfl ?_
    refine ax_Q.mv 2 6 [some (.ref ss.length), some (.ref D)] [.ref D, .ref ss.length] rfl ?_
    refine ax_Q.pX (pc' := 9) ⟨_, rfl⟩ fk_7_9 (y_glast _) (Nat.le_of_ble_eq_true rfl) rfl rfl (fun _ => rfl) rfl ?_
    rw [y_last]
    refine ax_Q.mv 2 11 [some (.ref ss.length), some (.ref D)] [.ref D, .ref ss.length] rfl ?_
    refine ax_Q.gR (v := .ref (D + 16)) (pc' := 14) ⟨_, rfl⟩ fk_7_15 (y_app (hD.trans rfl)) rfl rfl ?_
    refine ax_Q.pX (pc' := 17) ⟨_, rfl⟩ fk_7_21 (y_glast _) (Nat.le_of_ble_eq_true rfl) rfl rfl (fun _ => rfl) rfl ?_
    rw [y_last]
    refine ax_Q.mv 2 19 [some (.ref ss.length), some (.ref D)] [.ref D, .ref ss.length] rfl ?_
    refine ax_Q.gR (v := .ref (D + 32)) (pc' := 22) ⟨_, rfl⟩ fk_7_22 (y_app (hD.trans rfl)) rfl rfl ?_
    refine ax_Q.pX (pc' := 25) ⟨_, rfl⟩ fk_7_26 (y_glast _) (Nat.le_of_ble_eq_true rfl) rfl rfl (fun _ => rfl) rfl ?_
    rw [y_last]
    refine ax_Q.mv 2 27 [some (.ref ss.length), some (.ref D)] [.ref D, .ref ss.length] rfl ?_
    refine ax_Q.gR (v := .ref (D + 47)) (pc' := 30) ⟨_, rfl⟩ fk_7_27 (y_app (hD.trans rfl)) rfl rfl ?_
    refine ax_Q.pX (pc' := 33) ⟨_, rfl⟩ fk_7_31 (y_glast _) (Nat.le_of_ble_eq_true rfl) rfl rfl (fun _ => rfl) rfl ?_
    rw [y_last]
    refine ax_Q.mv 2 35 [some (.ref ss.length), some (.ref D)] [.ref D, .ref ss.length] rfl ?_
    refine ax_Q.gR (v := .ref (D + 56)) (pc' := 38) ⟨_, rfl⟩ fk_7_32 (y_app (hD.trans rfl)) rfl rfl ?_
    refine ax_Q.pX (pc' := 41) ⟨_, rfl⟩ fk_7_36 (y_glast _) (Nat.le_of_ble_eq_true rfl) rfl rfl (fun _ => rfl) rfl ?_
    rw [y_last]
    exact ax_Q.vret ⟨_, rfl⟩ rfl ⟨rfl, rfl⟩
  rw [e1, e2] at ex
  exact ex
end NewObjects
