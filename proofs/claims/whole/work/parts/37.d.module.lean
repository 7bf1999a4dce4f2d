/-! House.module -/
def y_R (D : Nat) : ax_S := .inr (600, .inr (10, [some (.ref 1), none, some (.ref D), some (.ref (D + 16)), some (.ref (D + 47)), some (.ref (D + 56)), none, none, none, none, none, none, none, none]))
def y_D (D : Nat) : ax_S := .inr (601, .inr (3, [some (.ref D), some (.ref (D + 16)), some (.ref (D + 32)), some (.ref (D + 47)), some (.ref (D + 56)), none]))
def y_P (D : Nat) : ax_S := .inr (602, .inr (7, [some (.ref D), some (.ref (D + 16)), some (.ref (D + 32)), some (.ref (D + 47)), some (.ref (D + 56)), none, none]))
/-- numbers of a new Reader, Judge, Planner -/
def y_v6 (V : ax_V) (n : Int) : ax_V := fun c i => if c = 600 then (if i = 1 then n else if i = 7 then 700 else if i = 9 then -1 else 0) else V c i
def y_v7 (V : ax_V) : ax_V := fun c i => if c = 601 then (if i = 5 then 700 else 0) else V c i
def y_v8 (V : ax_V) : ax_V := fun c i => if c = 602 then 0 else V c i
theorem y_R_c (V : ax_V) (D : Nat) (n : Int) : ax_c (y_v6 V n) (y_R D) = .inr (10, y_rd D n) := rfl
theorem y_D_c (V : ax_V) (D : Nat) : ax_c (y_v7 V) (y_D D) = .inr (3, y_jd D) := rfl
theorem y_P_c (V : ax_V) (D : Nat) : ax_c (y_v8 V) (y_P D) = .inr (7, y_pl D) := rfl
/-- a number that is not there says nothing -/
theorem ax_w_fr {ss : List ax_S} {V V' : ax_V} {c0 : Nat} (fr : ∀ (a : Nat) (x : (Nat × Nat) ⊕ (Nat × List (Option Value))), ¬ ss[a]? = some (.inr (c0, x))) (h : ∀ c, ¬ c = c0 → V' c = V c) : ax_w ss V' = ax_w ss V := by
  unfold ax_w
  refine List.map_congr_left (fun s hs => ?_)
  obtain ⟨a, ha⟩ := List.getElem?_of_mem hs
  rcases s with e | ⟨id, x⟩
  · rfl
  · have ne : ¬ id = c0 := fun z => fr a x (by rw [← z]; exact ha)
    exact ax_c_ne (h id ne) _
theorem ax_w_ap1 {ss : List ax_S} {V V' : ax_V} {s : ax_S} {e : va_E} (h : ax_w ss V' = ax_w ss V) (hc : ax_c V' s = e) : ax_w (ss ++ [.inl e]) V = ax_w (ss ++ [s]) V' := by
  unfold ax_w at h ⊢
  rw [List.map_append, List.map_append, h]
  show _ ++ [e] = _ ++ [ax_c V' s]
  rw [hc]
theorem mk_11_56 : ai_P0.2.2.2.1 11 56 = some (1, 61, 3, 0) := rfl
theorem mk_11_61 : ai_P0.2.2.2.1 11 61 = some (1, 62, 1, 0) := rfl
theorem mk_11_94 : ai_P0.2.2.2.1 11 94 = some (1, 139, 1, 0) := rfl
theorem nk_11_54 : ai_P0.2.2.1 11 54 = some 10 := rfl
theorem nk_11_59 : ai_P0.2.2.1 11 59 = some 3 := rfl
theorem nk_11_92 : ai_P0.2.2.1 11 92 = some 7 := rfl
/-- a program that can run, on both sides -/
def y_RD (P N : ax_V) : Prop := ∃ (C1 M1 : ax_V) (F G Hh S U J : Int → Int), h_X C1 M1 P F G Hh S U J (N 290) ∧ h_RM C1 M1 S U J (N 290) N ∧ (∀ k, 0 ≤ k → k < (M1 222 86) → P 513 k = J k ∧ P 514 k = U k) ∧ (∀ q, 0 ≤ q → q < (M1 222 26) → P 528 q = F q) ∧ P 500 0 = (M1 222 86) ∧ N 222 86 = (M1 222 86)
/-- what a module leaves in the house, by numbers -/
def y_hf (X X' : ax_V) : Prop := (∀ c, ¬ c = 0 → ¬ (500 ≤ c ∧ c ≤ 602) → X' c = X c) ∧ (∀ c, 508 ≤ c → c ≤ 510 → X' c 0 = X c 0) ∧ X' 0 1 = 0
section HModule
variable {B Sp w nw : Nat} {m p : Value} {s0 : List ax_S} {X M : ax_V}
/-- the Reader and the Judge are made -/
theorem t_module1 {Q : Option Value → List va_E → Prop} (h : y_K B Sp w nw m p s0) (fr : ∀ (a id : Nat) (x : (Nat × Nat) ⊕ (Nat × List (Option Value))), s0[a]? = some (.inr (id, x)) → ¬ (600 ≤ id ∧ id ≤ 602))
    (k : ax_Q (s0 ++ [y_R Sp] ++ [y_D Sp]) 426 m_House_module 32 [some (.ref 0), some (.ref s0.length), some (.ref (s0.length + 1)), none, none] [] (y_v7 (y_v6 X (X 0 1))) Q) : ax_Q s0 426 m_House_module 0 [some (.ref 0), none, none, none, none] [] X Q := by
  have h0 := h.at 0 rfl
  have kS : s0[Sp]? = (az_P Sp)[0]? := h.2.1 0 _ rfl
  refine ax_Q.new (s := .inl (.inr (10, ai_P0.2.2.2.2.1 10))) (V1 := X) (pc' := 3) ⟨_, rfl⟩ nk_11_54 rfl rfl rfl ?_
  refine ax_Q.mv 2 5 [some (.ref 0), none, none, none, none] [.ref 0, .ref s0.length, .ref s0.length] rfl ?_
  refine ax_Q.gR (v := .ref 1) (pc' := 8) ⟨_, rfl⟩ fl_11_9 (y_app h0) rfl rfl ?_
  refine ax_Q.mv 1 9 [some (.ref 0), none, none, none, none] [.ref 0, .ref 1, .ref s0.length, .ref s0.length] rfl ?_
  refine ax_Q.gI (kI := 1) (pc' := 12) ⟨_, rfl⟩ fl_11_46 (y_app h0) rfl rfl rfl ?_
  refine ax_Q.mv 1 13 [some (.ref 0), none, none, none, none] [.ref 0, ax_i (X 0 1), .ref 1, .ref s0.length, .ref s0.length] rfl ?_
  refine ax_Q.gR (v := .ref Sp) (pc' := 16) ⟨_, rfl⟩ fl_11_20 (y_app h0) rfl rfl ?_
  refine ax_Q.calli (v := none) (rest := [.ref s0.length]) (ss' := s0 ++ [.inl (.inr (10, y_rd Sp (X 0 1)))]) (V1 := X) (pc' := 19) ⟨_, rfl⟩ mk_11_56 (Or.inl rfl) rfl (Nat.le_of_ble_eq_true rfl) ai_nt_n rfl ((t_ReaderI (d := 0) kS).up (by decide)) ?_
  refine ax_Q.re (ax_w_ap1 (V' := y_v6 X (X 0 1)) (s := y_R Sp) (ax_w_fr (c0 := 600) (fun a x z => fr a 600 x z (by decide)) (fun c z => funext fun i => if_neg z)) (y_R_c X Sp (X 0 1))) ?_
  obtain ⟨X1, e1⟩ : ∃ X1 : ax_V, X1 = y_v6 X (X 0 1) := ⟨_, rfl⟩
  rw [← e1] at k ⊢
  refine ax_Q.sta (k := 1) (n := 1) (L' := [some (.ref 0), some (.ref s0.length), none, none, none]) (pc' := 20) ⟨_, rfl⟩ rfl rfl rfl (Nat.le_of_ble_eq_true rfl) rfl rfl ?_
  obtain ⟨s1, es⟩ : ∃ s1 : List ax_S, s1 = s0 ++ [y_R Sp] := ⟨_, rfl⟩
  rw [← es] at k ⊢
  have l1 : s1.length = s0.length + 1 := by rw [es, List.length_append]; rfl
  have g0 : s1[0]? = some (.inr (0, .inr (11, [some (.ref 1), none, none, none, some (.ref B), some (.ref Sp), some (.ref 150), some (.ref 156), none, some (.ref 157)]))) := by rw [es]; exact y_app h0
  have gS : s1[Sp]? = (az_P Sp)[0]? := by rw [es]; exact y_app (kS.trans rfl)
  have fr1 : ∀ (a : Nat) (x : (Nat × Nat) ⊕ (Nat × List (Option Value))), ¬ s1[a]? = some (.inr (601, x)) := fun a x z => by
    rw [es] at z
    by_cases lt : a < s0.length
    · rw [List.getElem?_append_left lt] at z
      exact fr a 601 x z (by decide)
    · rw [List.getElem?_append_right (by omega)] at z
      have e0 : a - s0.length = 0 := by
        have := (List.getElem?_eq_some_iff.mp z).1
        simp at this; omega
      rw [e0] at z
      cases z
  rw [← l1] at k
  refine ax_Q.new (s := .inl (.inr (3, ai_P0.2.2.2.2.1 3))) (V1 := X1) (pc' := 23) ⟨_, rfl⟩ nk_11_59 rfl rfl rfl ?_
  refine ax_Q.mv 2 25 [some (.ref 0), some (.ref s0.length), none, none, none] [.ref 0, .ref s1.length, .ref s1.length] rfl ?_
  refine ax_Q.gR (v := .ref Sp) (pc' := 28) ⟨_, rfl⟩ fl_11_20 (y_app g0) rfl rfl ?_
  refine ax_Q.calli (v := none) (rest := [.ref s1.length]) (ss' := s1 ++ [.inl (.inr (3, y_jd Sp))]) (V1 := X1) (pc' := 31) ⟨_, rfl⟩ mk_11_61 (Or.inl rfl) rfl (Nat.le_of_ble_eq_true rfl) ai_nt_n rfl ((t_JudgeI (d := 0) gS).up (by decide)) ?_
  refine ax_Q.re (ax_w_ap1 (V' := y_v7 X1) (s := y_D Sp) (ax_w_fr (c0 := 601) fr1 (fun c z => funext fun i => if_neg z)) (y_D_c X1 Sp)) ?_
  exact ax_Q.sta (k := 2) (n := 1) (L' := [some (.ref 0), some (.ref s0.length), some (.ref s1.length), none, none]) (pc' := 32) ⟨_, rfl⟩ rfl rfl rfl (Nat.le_of_ble_eq_true rfl) rfl rfl k
/-- what is told about the fault, and the end where there is one: from pc 54 on -/
theorem t_module3 {Q : Option Value → List va_E → Prop} {s : List ax_S} {C : ax_V} {x k pl : Int} {r r2 : Nat} (ok : ax_ok s) (h0 : s[0]? = some (.inr (0, .inr (11, [some (.ref 1), none, none, none, some (.ref B), some (.ref Sp), some (.ref 150), some (.ref 156), none, some (.ref 157)])))) (hr : s[r]? = some (y_R Sp)) (hr2 : s[r2]? = some (y_D Sp)) (hg : ax_g C) (hx : x = 0 ∨ x = 1) (rk : ax_rg k) (e0 : x = 0 → k = 1 ∧ pl = C 600 6) (e1 : x = 1 → 0 < k → pl = C 601 5) (e2 : x = 1 → k ≤ 0 → pl = 0)
    (bad : 0 < k → Q (some (.retAddr s.length)) (ax_w (s ++ [ax_ex]) (ax_u (ax_u (ax_u C 0 2 k) 0 3 pl) 0 1 0)))
    (good : k ≤ 0 → ax_Q s 426 m_House_module 109 [some (.ref 0), some (.ref r), some (.ref r2), some (ax_i x), none] [] (ax_u (ax_u (ax_u C 0 2 k) 0 3 pl) 0 1 0) Q) : ax_Q s 426 m_House_module 54 [some (.ref 0), some (.ref r), some (.ref r2), some (ax_i x), none] [ax_i k, .ref 0] C Q := by
  obtain ⟨C3, c3⟩ : ∃ W : ax_V, W = ax_u C 0 2 k := ⟨_, rfl⟩
  obtain ⟨C4, c4⟩ : ∃ W : ax_V, W = ax_u C3 0 3 pl := ⟨_, rfl⟩
  obtain ⟨C5, c5⟩ : ∃ W : ax_V, W = ax_u C4 0 1 0 := ⟨_, rfl⟩
  rw [← c3, ← c4, ← c5] at bad good
  have v2 : C3 0 2 = k := by rw [c3, ax_u_s]
  have v6 : C3 600 6 = C 600 6 := by rw [c3, ax_u_ne (by decide)]
  have v5 : C3 601 5 = C 601 5 := by rw [c3, ax_u_ne (by decide)]
  have w2 : C5 0 2 = k := by rw [c5, ax_u_k (by decide), c4, ax_u_k (by decide), v2]
  have rx : ax_rg x := by rcases hx with z | z <;> rw [z] <;> decide
  refine ax_Q.pI (kI := 2) (pc' := 57) ⟨_, rfl⟩ fl_11_73 ok h0 rfl rfl rfl rfl c3 rfl ?_
  have fin : ax_Q s 426 m_House_module 84 [some (.ref 0), some (.ref r), some (.ref r2), some (ax_i x), none] [ax_i pl, .ref 0] C3 Q := by
    refine ax_Q.pI (kI := 3) (pc' := 87) ⟨_, rfl⟩ fl_11_82 ok h0 rfl rfl rfl rfl c4 rfl ?_
    refine ax_Q.mv 2 89 [some (.ref 0), some (.ref r), some (.ref r2), some (ax_i x), none] [ax_i 0, .ref 0] rfl ?_
    refine ax_Q.pI (kI := 1) (pc' := 92) ⟨_, rfl⟩ fl_11_46 ok h0 rfl rfl rfl rfl c5 rfl ?_
    refine ax_Q.mv 1 93 [some (.ref 0), some (.ref r), some (.ref r2), some (ax_i x), none] [.ref 0] rfl ?_
    refine ax_Q.gI (kI := 2) (pc' := 96) ⟨_, rfl⟩ fl_11_73 h0 rfl rfl rfl ?_
    rw [w2]
    refine ax_Q.if1 (p1 := 109) (p2 := 99) ⟨_, rfl⟩ (by decide) rfl rk (fun hq => good hq) (fun hq => ?_)
    have hq' : ¬ k ≤ 0 := hq
    exact ax_Q.thr ⟨_, rfl⟩ rfl rfl rfl (Nat.le_of_ble_eq_true rfl) (bad (by omega))
  refine ax_Q.mv 2 59 [some (.ref 0), some (.ref r), some (.ref r2), some (ax_i x), none] [ax_i x, .ref 0] rfl ?_
  refine ax_Q.if1 (p1 := 69) (p2 := 62) ⟨_, rfl⟩ (by decide) rfl rx (fun hq => ?_) (fun hq => ?_)
  · have hq' : ¬ x = 0 := hq
    have x1 : x = 1 := by omega
    refine ax_Q.mv 1 70 [some (.ref 0), some (.ref r), some (.ref r2), some (ax_i x), none] [.ref 0, .ref 0] rfl ?_
    refine ax_Q.gI (kI := 2) (pc' := 73) ⟨_, rfl⟩ fl_11_73 h0 rfl rfl rfl ?_
    rw [v2]
    refine ax_Q.if1 (p1 := 83) (p2 := 76) ⟨_, rfl⟩ (by decide) rfl rk (fun hq2 => ?_) (fun hq2 => ?_)
    · have hk : k ≤ 0 := hq2
      have u := e2 x1 hk
      rw [u] at fin
      exact ax_Q.mv 1 84 [some (.ref 0), some (.ref r), some (.ref r2), some (ax_i x), none] [ax_i 0, .ref 0] rfl fin
    · have hk : ¬ k ≤ 0 := hq2
      have u := e1 x1 (by omega)
      refine ax_Q.mv 1 77 [some (.ref 0), some (.ref r), some (.ref r2), some (ax_i x), none] [.ref r2, .ref 0] rfl ?_
      refine ax_Q.gI (kI := 5) (pc' := 80) ⟨_, rfl⟩ fl_11_79 hr2 rfl rfl rfl ?_
      rw [v5, ← u]
      exact ax_Q.mv 1 84 [some (.ref 0), some (.ref r), some (.ref r2), some (ax_i x), none] [ax_i pl, .ref 0] rfl fin
  · have hq' : ¬ ¬ x = 0 := hq
    have u := (e0 (by omega)).2
    refine ax_Q.mv 1 63 [some (.ref 0), some (.ref r), some (.ref r2), some (ax_i x), none] [.ref r, .ref 0] rfl ?_
    refine ax_Q.gI (kI := 6) (pc' := 66) ⟨_, rfl⟩ fl_11_76 hr rfl rfl rfl ?_
    rw [v6, ← u]
    exact ax_Q.mv 1 84 [some (.ref 0), some (.ref r), some (.ref r2), some (ax_i x), none] [ax_i pl, .ref 0] rfl fin
end HModule
