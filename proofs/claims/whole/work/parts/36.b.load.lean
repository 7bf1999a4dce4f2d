/-! Machine.load: the machine takes another program -/
def az_mc5 (a b c e f : Nat) : ax_S := .inr (150, .inr (5, [some (.ref a), some (.ref b), some (.ref c), some (.ref e), some (.ref f), some (.ref 151), some (.ref 152), some (.ref 153), some (.ref 154), some (.ref 155), none]))
def az_mc (B : Nat) : ax_S := az_mc5 B (B + 16) (B + 32) (B + 47) (B + 56)
theorem ax_set_get {ss : List ax_S} {a : Nat} {s t : ax_S} (h : ss[a]? = some s) : (ss.set a t)[a]? = some t := List.getElem?_set_self (List.getElem?_eq_some_iff.mp h).1
theorem ax_set_ne {ss : List ax_S} {a b : Nat} {s t : ax_S} (ne : ¬ a = b) (h : ss[b]? = some s) : (ss.set a t)[b]? = some s := by rw [List.getElem?_set_ne ne]; exact h
section Load
variable {ss : List ax_S} {d B K a b c e f : Nat} {V : ax_V} {s : ax_S}
theorem t_load (hs : ss[150]? = some (az_mc5 a b c e f)) (hB : (az_P K)[0]? = some s) (hK : ss[K]? = some s) (ne : ¬ 150 = K) : ai_Ex ai_P0 (d + 1) q_Machine_load [.ref 150, .ref K] (ax_w ss V) (none, ax_w (ss.set 150 (az_mc K)) V) := by
  have key : ax_E ss (d + 1) q_Machine_load [.ref 150, .ref K] V (fun r z => r = none ∧ z = ax_w (ss.set 150 (az_mc K)) V) := by
    cases hB
    refine ax_E.of (M := m_Machine_load) rfl (Nat.le_of_ble_eq_true rfl) ?_
    refine ax_Q.mv 2 2 [some (.ref 150), some (.ref K)] [.ref K, .ref 150] rfl ?_
    refine ax_Q.pR (v0 := .ref a) (pc' := 5) ⟨_, rfl⟩ fl_5_32 hs rfl rfl rfl rfl ?_
    show ax_Q (ss.set 150 (az_mc5 K b c e f)) d m_Machine_load 5 [some (.ref 150), some (.ref K)] [] V _
    refine ax_Q.mv 2 7 [some (.ref 150), some (.ref K)] [.ref K, .ref 150] rfl ?_
    refine ax_Q.gR (v := .ref (K + 16)) (pc' := 10) ⟨_, rfl⟩ fl_5_36 (ax_set_ne ne hK) rfl rfl ?_
    refine ax_Q.pR (v0 := .ref b) (pc' := 13) ⟨_, rfl⟩ fl_5_42 (ax_set_get hs) rfl rfl rfl rfl ?_
    rw [List.set_set]
    show ax_Q (ss.set 150 (az_mc5 K (K + 16) c e f)) d m_Machine_load 13 [some (.ref 150), some (.ref K)] [] V _
    refine ax_Q.mv 2 15 [some (.ref 150), some (.ref K)] [.ref K, .ref 150] rfl ?_
    refine ax_Q.gR (v := .ref (K + 32)) (pc' := 18) ⟨_, rfl⟩ fl_5_43 (ax_set_ne ne hK) rfl rfl ?_
    refine ax_Q.pR (v0 := .ref c) (pc' := 21) ⟨_, rfl⟩ fl_5_47 (ax_set_get hs) rfl rfl rfl rfl ?_
    rw [List.set_set]
    show ax_Q (ss.set 150 (az_mc5 K (K + 16) (K + 32) e f)) d m_Machine_load 21 [some (.ref 150), some (.ref K)] [] V _
    refine ax_Q.mv 2 23 [some (.ref 150), some (.ref K)] [.ref K, .ref 150] rfl ?_
    refine ax_Q.gR (v := .ref (K + 47)) (pc' := 26) ⟨_, rfl⟩ fl_5_48 (ax_set_ne ne hK) rfl rfl ?_
    refine ax_Q.pR (v0 := .ref e) (pc' := 29) ⟨_, rfl⟩ fl_5_52 (ax_set_get hs) rfl rfl rfl rfl ?_
    rw [List.set_set]
    show ax_Q (ss.set 150 (az_mc5 K (K + 16) (K + 32) (K + 47) f)) d m_Machine_load 29 [some (.ref 150), some (.ref K)] [] V _
    refine ax_Q.mv 2 31 [some (.ref 150), some (.ref K)] [.ref K, .ref 150] rfl ?_
    refine ax_Q.gR (v := .ref (K + 56)) (pc' := 34) ⟨_, rfl⟩ fl_5_53 (ax_set_ne ne hK) rfl rfl ?_
    refine ax_Q.pR (v0 := .ref f) (pc' := 37) ⟨_, rfl⟩ fl_5_57 (ax_set_get hs) rfl rfl rfl rfl ?_
    rw [List.set_set]
    exact ax_Q.vret ⟨_, rfl⟩ rfl ⟨rfl, rfl⟩
  obtain ⟨r, z, ⟨e1, e2⟩, h⟩ := key
  rw [e1, e2] at h
  exact h
end Load
