/-! House.module, whole, beside the model's isModule -/
def y_t (c : Nat) : Option Nat := if 500 ≤ c ∧ c ≤ 602 then some c else none
theorem y_t_k {c : Nat} (h : 500 ≤ c ∧ c ≤ 602) : y_t c = some c := if_pos h
theorem y_t_n {c : Nat} (h : ¬ (500 ≤ c ∧ c ≤ 602)) : y_t c = none := if_neg h
theorem y_t_o {c k : Nat} (h : y_t c = some k) : k = c ∧ 500 ≤ c ∧ c ≤ 602 := by
  unfold y_t at h
  by_cases z : 500 ≤ c ∧ c ≤ 602
  · rw [if_pos z] at h; exact ⟨(Option.some.inj h).symm, z⟩
  · rw [if_neg z] at h; cases h
section HModule2
variable {B Sp w nw : Nat} {m p : Value} {s0 : List ax_S} {X M : ax_V}
set_option maxHeartbeats 2000000 in
/-- from a program without a fault to the end -/
theorem t_module4 {Q : Option Value → List va_E → Prop} {s : List ax_S} {C2 V P : ax_V} {r r2 : Nat} {L3 : Int} (h : y_K B Sp w nw m p s) (bs : y_BS B Sp) (fr : ∀ (a : Nat) (x : (Nat × Nat) ⊕ (Nat × List (Option Value))), ¬ s[a]? = some (.inr (602, x))) (hV : ∀ c, 500 ≤ c → c ≤ 601 → V c = C2 c) (rp : ax_RN (az_W Sp (az_EL Sp s.length)) 7 q_Planner_plan [.ref s.length] (y_v8 C2) P)
    (fin : ∀ s2 Z, s2 = ((s ++ [y_P Sp]).set 0 (.inr (0, .inr (11, [some (.ref 1), none, none, none, some (.ref Sp), some (.ref B), some (.ref 150), some (.ref 156), none, some (.ref 157)])))).set 150 (az_mc Sp) → y_L Sp B w nw m p s2 → Z = ax_u (ax_bk y_t V P) 0 8 0 → Q (some (ax_i (P 500 0))) (ax_w s2 Z)) : ax_Q s 426 m_House_module 109 [some (.ref 0), some (.ref r), some (.ref r2), some (ax_i L3), none] [] V Q := by
  have h0 := h.at 0 rfl
  have kS : s[Sp]? = (az_P Sp)[0]? := h.2.1 0 _ rfl
  refine ax_Q.new (s := .inl (.inr (7, ai_P0.2.2.2.2.1 7))) (V1 := V) (pc' := 112) ⟨_, rfl⟩ nk_11_92 rfl rfl rfl ?_
  refine ax_Q.mv 2 114 [some (.ref 0), some (.ref r), some (.ref r2), some (ax_i L3), none] [.ref 0, .ref s.length, .ref s.length] rfl ?_
  refine ax_Q.gR (v := .ref Sp) (pc' := 117) ⟨_, rfl⟩ fl_11_20 (y_app h0) rfl rfl ?_
  refine ax_Q.calli (v := none) (rest := [.ref s.length]) (ss' := s ++ [.inl (.inr (7, y_pl Sp))]) (V1 := V) (pc' := 120) ⟨_, rfl⟩ mk_11_94 (Or.inl rfl) rfl (Nat.le_of_ble_eq_true rfl) ai_nt_n rfl ((t_PlannerI (d := 0) kS).up (by decide)) ?_
  refine ax_Q.re (ax_w_ap1 (V' := y_v8 V) (s := y_P Sp) (ax_w_fr (c0 := 602) fr (fun c z => funext fun i => if_neg z)) (y_P_c V Sp)) ?_
  obtain ⟨s1, es⟩ : ∃ s1 : List ax_S, s1 = s ++ [y_P Sp] := ⟨_, rfl⟩
  have ok1 : ax_ok s1 := by rw [es]; exact ax_ok_app h.1 rfl fr
  have K1 : y_K B Sp w nw m p s1 := by rw [es]; exact h.app (by rw [← es]; exact ok1)
  have gP : s1[s.length]? = some (y_P Sp) := by rw [es]; exact y_glast _
  rw [← es] at fin ⊢
  -- the plan, where nothing else is known
  have rn : az_W Sp (az_EL Sp s.length) (s1.map (ax_rn y_t (y_v8 V))) := by
    refine ⟨ax_ok_map (fun c c' k a b => by have := y_t_o a; have := y_t_o b; omega) ok1, fun k e he => ?_, fun i q' hi => ?_⟩
    · obtain ⟨lt, x, ex⟩ := az_P_e he
      have u := K1.2.1 k e he
      rw [ex] at u ⊢
      exact ax_rn_get u (y_t_k ⟨by omega, by omega⟩)
    · match i, hi with
      | 0, hi => cases hi; exact ax_rn_get gP (y_t_k (by decide))
      | k + 1, hi => exact absurd hi (by show ¬ (none = some q'); intro z; cases z)
  have ep : ai_Ex ai_P0 7 q_Planner_plan [.ref s.length] (ax_w s1 (y_v8 V)) (none, ax_w s1 (ax_bk y_t V P)) := by
    have u := rp _ rn
    rw [ax_rn_w, ax_rn_w] at u
    have ea : ax_bk y_t (y_v8 V) (y_v8 C2) = y_v8 V := ax_bk_id (fun c c' z => by
      have y := y_t_o z
      rw [y.1]
      funext i
      show (if c = 602 then 0 else C2 c i) = (if c = 602 then 0 else V c i)
      by_cases z2 : c = 602
      · rw [if_pos z2, if_pos z2]
      · rw [if_neg z2, if_neg z2, hV c y.2.1 (by omega)])
    have eb : ax_bk y_t (y_v8 V) P = ax_bk y_t V P := by
      funext c
      unfold ax_bk
      by_cases z : 500 ≤ c ∧ c ≤ 602
      · rw [y_t_k z]
      · rw [y_t_n z]
        funext i
        exact if_neg (by omega)
    rw [ea, eb] at u
    exact u
  obtain ⟨Y, eY⟩ : ∃ Y : ax_V, Y = ax_bk y_t V P := ⟨_, rfl⟩
  rw [← eY] at ep fin
  refine ax_Q.callv (v := none) (rest := []) (pc' := 123) ⟨_, rfl⟩ ml_11_95 rfl gP (Nat.le_of_ble_eq_true rfl) ai_nt_n rfl (ep.up (by decide)) ?_
  have k0 := K1.at 0 rfl
  have k150 : s1[150]? = some (az_mc5 B (B + 16) (B + 32) (B + 47) (B + 56)) := K1.at 3 rfl
  have hS := K1.2.1 0 _ rfl
  refine ax_Q.mv 1 124 [some (.ref 0), some (.ref r), some (.ref r2), some (ax_i L3), none] [.ref 0] rfl ?_
  refine ax_Q.gR (v := .ref B) (pc' := 127) ⟨_, rfl⟩ fl_11_16 k0 rfl rfl ?_
  refine ax_Q.sta (k := 4) (n := 2) (L' := [some (.ref 0), some (.ref r), some (.ref r2), some (ax_i L3), some (.ref B)]) (pc' := 129) ⟨_, rfl⟩ rfl rfl rfl (Nat.le_of_ble_eq_true rfl) rfl rfl ?_
  refine ax_Q.mv 2 131 [some (.ref 0), some (.ref r), some (.ref r2), some (ax_i L3), some (.ref B)] [.ref 0, .ref 0] rfl ?_
  refine ax_Q.gR (v := .ref Sp) (pc' := 134) ⟨_, rfl⟩ fl_11_20 k0 rfl rfl ?_
  refine ax_Q.pR (v0 := .ref B) (pc' := 137) ⟨_, rfl⟩ fl_11_16 k0 rfl rfl rfl rfl ?_
  refine ax_Q.mv 2 140 [some (.ref 0), some (.ref r), some (.ref r2), some (ax_i L3), some (.ref B)] [.ref B, .ref 0] rfl ?_
  refine ax_Q.pR (v0 := .ref Sp) (pc' := 143) ⟨_, rfl⟩ fl_11_20 (ax_set_get k0) rfl rfl rfl rfl ?_
  rw [List.set_set]
  show ax_Q (s1.set 0 (.inr (0, .inr (11, [some (.ref 1), none, none, none, some (.ref Sp), some (.ref B), some (.ref 150), some (.ref 156), none, some (.ref 157)])))) 426 m_House_module 143 [some (.ref 0), some (.ref r), some (.ref r2), some (ax_i L3), some (.ref B)] [] Y Q
  obtain ⟨s2, e2⟩ : ∃ s2 : List ax_S, s2 = s1.set 0 (.inr (0, .inr (11, [some (.ref 1), none, none, none, some (.ref Sp), some (.ref B), some (.ref 150), some (.ref 156), none, some (.ref 157)]))) := ⟨_, rfl⟩
  have g0 : s2[0]? = some (.inr (0, .inr (11, [some (.ref 1), none, none, none, some (.ref Sp), some (.ref B), some (.ref 150), some (.ref 156), none, some (.ref 157)]))) := by rw [e2]; exact ax_set_get k0
  have g150 : s2[150]? = some (az_mc5 B (B + 16) (B + 32) (B + 47) (B + 56)) := by rw [e2]; exact ax_set_ne (by decide) k150
  have gS : s2[Sp]? = (az_P Sp)[0]? := by rw [e2]; exact ax_set_ne (by rcases bs with z | z <;> omega) hS
  have KL := K1.turn bs
  rw [← e2] at KL fin ⊢
  refine ax_Q.mv 1 144 [some (.ref 0), some (.ref r), some (.ref r2), some (ax_i L3), some (.ref B)] [.ref 0] rfl ?_
  refine ax_Q.gR (v := .ref 150) (pc' := 147) ⟨_, rfl⟩ fl_11_28 g0 rfl rfl ?_
  refine ax_Q.mv 1 148 [some (.ref 0), some (.ref r), some (.ref r2), some (ax_i L3), some (.ref B)] [.ref 0, .ref 150] rfl ?_
  refine ax_Q.gR (v := .ref Sp) (pc' := 151) ⟨_, rfl⟩ fl_11_16 g0 rfl rfl ?_
  refine ax_Q.callv (v := none) (rest := []) (ss' := s2.set 150 (az_mc Sp)) (V1 := Y) (pc' := 154) ⟨_, rfl⟩ ml_11_98 rfl g150 (Nat.le_of_ble_eq_true rfl) ai_nt_n rfl ((t_load (d := 0) g150 rfl (gS.trans rfl) (by rcases bs with z | z <;> omega)).up (by decide)) ?_
  obtain ⟨s3, e3⟩ : ∃ s3 : List ax_S, s3 = s2.set 150 (az_mc Sp) := ⟨_, rfl⟩
  rw [← e3] at KL fin ⊢
  have j0 := KL.at 0 rfl
  have jS : s3[Sp]? = (az_P Sp)[0]? := KL.2.1 0 _ rfl
  obtain ⟨Z, eZ⟩ : ∃ Z : ax_V, Z = ax_u Y 0 8 0 := ⟨_, rfl⟩
  refine ax_Q.mv 2 156 [some (.ref 0), some (.ref r), some (.ref r2), some (ax_i L3), some (.ref B)] [ax_i 0, .ref 0] rfl ?_
  refine ax_Q.pI (kI := 8) (pc' := 159) ⟨_, rfl⟩ fl_11_101 KL.1 j0 rfl rfl rfl rfl eZ rfl ?_
  refine ax_Q.mv 1 160 [some (.ref 0), some (.ref r), some (.ref r2), some (ax_i L3), some (.ref B)] [.ref 0] rfl ?_
  refine ax_Q.gR (v := .ref Sp) (pc' := 163) ⟨_, rfl⟩ fl_11_16 j0 rfl rfl ?_
  refine ax_Q.gI (id := 500) (kI := 0) (pc' := 166) ⟨_, rfl⟩ fl_11_104 jS rfl rfl rfl ?_
  have e5 : Z 500 0 = P 500 0 := by
    rw [eZ, ax_u_ne (by decide), eY]
    unfold ax_bk
    rw [y_t_k (by decide)]
  rw [e5]
  exact ax_Q.iret ⟨_, rfl⟩ rfl rfl (fin s3 Z rfl KL eZ)
/-- all that a module does -/
def y_MO (B Sp w nw : Nat) (m p : Value) (s0 : List ax_S) (X M M' : ax_V) (res : Option Value) (z : List va_E) : Prop :=
  (ax_RI ay_lay 426 q_Model_isModule [.ref 222] M 0 M' ∧ ∃ s1 X', res = some (.retAddr s1.length) ∧ z = ax_w (s1 ++ [ax_ex]) X' ∧ y_K B Sp w nw m p (s1 ++ [ax_ex]) ∧ (s1.length ≤ s0.length + 3 ∧ y_c (s1 ++ [ax_ex]) ≤ y_c s0 + 40 ∧ y_raw s0 (s1 ++ [ax_ex])) ∧ ax_g X' ∧ y_hf X X' ∧ X' 0 2 = M' 222 88 ∧ X' 0 3 = M' 222 89 ∧ X' 0 8 = X 0 8) ∨
  (ax_RI ay_lay 426 q_Model_isModule [.ref 222] M 1 M' ∧ ∃ s1 X' P, res = some (ax_i (M' 222 86)) ∧ z = ax_w s1 X' ∧ y_L Sp B w nw m p s1 ∧ (s1.length ≤ s0.length + 4 ∧ y_c s1 ≤ y_c s0 + 40 ∧ y_raw s0 s1) ∧ ax_g X' ∧ y_hf X X' ∧ X' 0 2 = 0 ∧ X' 0 3 = 0 ∧ X' 0 8 = 0 ∧ (∀ c, 500 ≤ c → c ≤ 573 → X' c = P c) ∧ y_RD P M')
set_option maxHeartbeats 2000000 in
theorem t_moduleH (h : y_K B Sp w nw m p s0) (fr : ∀ (a id : Nat) (x : (Nat × Nat) ⊕ (Nat × List (Option Value))), s0[a]? = some (.inr (id, x)) → ¬ (600 ≤ id ∧ id ≤ 602)) (bs : y_BS B Sp) (hg : ax_g X) (hM : ax_g M) (txt : X 0 1 = M 222 3 ∧ 0 ≤ M 222 3 ∧ M 222 3 ≤ 700 ∧ ∀ i, 0 ≤ i → i < M 222 3 → X 1 i = M 224 i ∧ 33 ≤ M 224 i ∧ M 224 i ≤ 126) (hz : X 508 0 = 0 ∧ X 509 0 = 0 ∧ X 510 0 = 0) :
    ∃ M' res z, ai_Ex ai_P0 427 q_House_module [.ref 0] (ax_w s0 X) (res, z) ∧ ax_g M' ∧ y_mf M M' ∧ y_MO B Sp w nw m p s0 X M M' res z := by
  obtain ⟨C, eC⟩ : ∃ C : ax_V, C = y_v7 (y_v6 X (X 0 1)) := ⟨_, rfl⟩
  have c6 : ∀ i, C 600 i = (if i = 1 then X 0 1 else if i = 7 then 700 else if i = 9 then -1 else 0) := fun i => by rw [eC]; rfl
  have cX : ∀ c, ¬ c = 600 → ¬ c = 601 → C c = X c := fun c z1 z2 => by
    rw [eC]
    funext i
    show (if c = 601 then _ else if c = 600 then _ else X c i) = X c i
    rw [if_neg z2, if_neg z1]
  have gC : ax_g C := fun c i => by
    by_cases z2 : c = 601
    · rw [eC, z2]
      show ax_rg (if i = 5 then 700 else 0)
      split <;> decide
    · by_cases z1 : c = 600
      · rw [z1, c6]
        split
        · exact hg _ _
        · split
          · decide
          · split <;> decide
      · rw [cX c z1 z2]; exact hg _ _
  have m3 : ax_u M 222 88 1 222 3 = M 222 3 := ax_u_k (by decide)
  have st0 : f_st0 C (ax_u M 222 88 1) := by
    refine ⟨⟨gC, ax_u_g hM (by decide)⟩, ?_, ⟨by rw [c6]; rfl, by rw [c6]; rfl, by rw [c6]; rfl, by rw [c6]; rfl, by rw [c6]; rfl, by rw [c6]; rfl, by rw [c6]; rfl, by rw [c6]; rfl⟩, by rw [cX 508 (by decide) (by decide)]; exact hz.1, by rw [cX 509 (by decide) (by decide)]; exact hz.2.1, by rw [cX 510 (by decide) (by decide)]; exact hz.2.2⟩
    unfold e_T
    rw [m3, c6, if_pos rfl, cX 1 (by decide) (by decide), ax_u_ne (by decide)]
    exact txt
  -- the shape
  obtain ⟨sJ, eJ⟩ : ∃ sJ : List ax_S, sJ = s0 ++ [y_R Sp] ++ [y_D Sp] := ⟨_, rfl⟩
  have cut : ∀ {l : List ax_S} {t : ax_S} {a id : Nat} {x : (Nat × Nat) ⊕ (Nat × List (Option Value))}, (l ++ [t])[a]? = some (.inr (id, x)) → l[a]? = some (.inr (id, x)) ∨ t = .inr (id, x) := fun {l t a id x} z => by
    by_cases lt : a < l.length
    · rw [List.getElem?_append_left lt] at z; exact Or.inl z
    · rw [List.getElem?_append_right (by omega)] at z
      have e0 : a - l.length = 0 := by
        have := (List.getElem?_eq_some_iff.mp z).1
        simp at this; omega
      rw [e0] at z
      exact Or.inr (Option.some.inj z)
  have okR : ax_ok (s0 ++ [y_R Sp]) := ax_ok_app h.1 rfl (fun j y z => fr j 600 y z (by decide))
  have no1 : ∀ (j : Nat) (y : (Nat × Nat) ⊕ (Nat × List (Option Value))), ¬ (s0 ++ [y_R Sp])[j]? = some (.inr (601, y)) := fun j y z => by
    rcases cut z with u | u
    · exact fr j 601 y u (by decide)
    · cases u
  have okJ : ax_ok sJ := by rw [eJ]; exact ax_ok_app okR rfl no1
  have no2 : ∀ (j : Nat) (y : (Nat × Nat) ⊕ (Nat × List (Option Value))), ¬ sJ[j]? = some (.inr (602, y)) := fun j y z => by
    rw [eJ] at z
    rcases cut z with u | u
    · rcases cut u with v | v
      · exact fr j 602 y v (by decide)
      · cases v
    · cases u
  have KJ : y_K B Sp w nw m p sJ := by
    have u := (h.app okR).app (l := [y_D Sp]) (by rw [← eJ]; exact okJ)
    rw [eJ]; exact u
  have rawJ : y_raw s0 sJ := fun a e z => by rw [eJ]; exact y_app (y_app z)
  have lJ : sJ.length = s0.length + 2 := by rw [eJ, List.length_append, List.length_append]; rfl
  have zJ : y_c sJ = y_c s0 + 20 := by
    rw [eJ, y_c_app, y_c_app]; rfl
  have gR : sJ[s0.length]? = some (y_R Sp) := by rw [eJ]; exact y_app (y_glast _)
  have gD : sJ[s0.length + 1]? = some (y_D Sp) := by
    have u := y_glast (ss := s0 ++ [y_R Sp]) (y_D Sp)
    rw [show (s0 ++ [y_R Sp]).length = s0.length + 1 by rw [List.length_append]; rfl] at u
    rw [eJ]; exact u
  have g0 := KJ.at 0 rfl
  have layR : az_W Sp (az_ER Sp s0.length) sJ := by
    refine ⟨okJ, KJ.2.1, fun i q' hi => ?_⟩
    match i, hi with
    | 0, hi => cases hi; exact KJ.at 1 rfl
    | 1, hi => cases hi; exact gR
    | k + 2, hi => exact absurd hi (by show ¬ (none = some q'); intro z; cases z)
  have layD : az_W Sp (az_EJ Sp (s0.length + 1)) sJ := by
    refine ⟨okJ, KJ.2.1, fun i q' hi => ?_⟩
    match i, hi with
    | 0, hi => cases hi; exact gD
    | k + 1, hi => exact absurd hi (by show ¬ (none = some q'); intro z; cases z)
  -- one run
  have go : ∀ {M' : ax_V}, (ax_g M' ∧ y_mf M M') → ax_Q sJ 426 m_House_module 32 [some (.ref 0), some (.ref s0.length), some (.ref (s0.length + 1)), none, none] [] C (fun res z => y_MO B Sp w nw m p s0 X M M' res z) → ∃ M' res z, ai_Ex ai_P0 427 q_House_module [.ref 0] (ax_w s0 X) (res, z) ∧ ax_g M' ∧ y_mf M M' ∧ y_MO B Sp w nw m p s0 X M M' res z := fun {M'} hh k => by
    rw [eJ, eC] at k
    obtain ⟨res, z, q, ex⟩ : ax_E s0 427 q_House_module [.ref 0] X (fun res z => y_MO B Sp w nw m p s0 X M M' res z) := ax_E.of (M := m_House_module) rfl (Nat.le_of_ble_eq_true rfl) (t_module1 h fr k)
    exact ⟨M', res, z, ex, hh.1, hh.2, q⟩
  have frC : ∀ {C1 : ax_V}, f_fC C C1 → (∀ c, ¬ (500 ≤ c ∧ c ≤ 602) → C1 c = X c) ∧ (∀ c, 508 ≤ c → c ≤ 510 → C1 c 0 = X c 0) := fun f => ⟨fun c z => by rw [f.1 c (by omega) (by omega), cX c (by omega) (by omega)], fun c a b => by rw [f.2.2 c a b, cX c (by omega) (by omega)]⟩
  rcases y_joint (B := Sp) (r := s0.length) (r2 := s0.length + 1) (r3 := sJ.length) hM st0 with ⟨C1, M', ⟨gC1, gM'⟩, rd, rm, ff, mf, m8, m9⟩ | ⟨C1, C2, M', k, ⟨gC1, gC2, gM'⟩, rd, rj, rm, kb, ff, fj, mf, m8, m9⟩ | ⟨C1, M1, C2, M', ⟨gC1, gC2, gM'⟩, rd, rj, rm, ff, fj, mf, m86, F, G, Hh, S, U, J, hRM, pl⟩
  · refine go ⟨gM', mf⟩ ?_
    have xx := frC ff
    obtain ⟨sE, eE⟩ : ∃ sE : List ax_S, sE = sJ ++ [ax_ex] := ⟨_, rfl⟩
    have okE : ax_ok sE := by rw [eE]; exact ax_ok_ap1 okJ
    have er := rd sJ layR
    rw [← eE] at er
    refine ax_Q.mv 1 33 [some (.ref 0), some (.ref s0.length), some (.ref (s0.length + 1)), none, none] [.ref s0.length] rfl ?_
    refine ax_Q.callv (v := some (ax_i 0)) (rest := []) (ss' := sE) (V1 := C1) (pc' := 36) ⟨_, rfl⟩ ml_11_62 rfl gR (Nat.le_of_ble_eq_true rfl) (ai_nt_i _) rfl (er.up (by decide)) ?_
    refine ax_Q.sti (k := 3) (n := 1) (L' := [some (.ref 0), some (.ref s0.length), some (.ref (s0.length + 1)), some (ax_i 0), none]) (pc' := 37) ⟨_, rfl⟩ rfl rfl rfl (Nat.le_of_ble_eq_true rfl) rfl rfl ?_
    refine ax_Q.mv 2 39 [some (.ref 0), some (.ref s0.length), some (.ref (s0.length + 1)), some (ax_i 0), none] [ax_i 0, .ref 0] rfl ?_
    refine ax_Q.if1 (p1 := 53) (p2 := 42) ⟨_, rfl⟩ (by decide) rfl (by decide) (fun _ => ?_) (fun hq => absurd rfl hq)
    refine ax_Q.mv 1 54 [some (.ref 0), some (.ref s0.length), some (.ref (s0.length + 1)), some (ax_i 0), none] [ax_i 1, .ref 0] rfl ?_
    have KE : y_K B Sp w nw m p sE := by rw [eE]; exact KJ.app (by rw [← eE]; exact okE)
    refine t_module3 (pl := C1 600 6) okE (KE.at 0 rfl) (by rw [eE]; exact y_app gR) (by rw [eE]; exact y_app gD) gC1 (Or.inl rfl) (by decide) (fun _ => ⟨rfl, rfl⟩) (fun z => absurd z (by decide)) (fun z => absurd z (by decide)) (fun _ => ?_) (fun z => absurd z (by decide))
    obtain ⟨X', eX⟩ : ∃ X' : ax_V, X' = ax_u (ax_u (ax_u C1 0 2 1) 0 3 (C1 600 6)) 0 1 0 := ⟨_, rfl⟩
    rw [← eX]
    have xo : ∀ c, ¬ c = 0 → X' c = C1 c := fun c z => by rw [eX, ax_u_ne z, ax_u_ne z, ax_u_ne z]
    refine Or.inl ⟨rm, sE, X', rfl, rfl, KE.app (ax_ok_ap1 okE), ⟨?_, ?_, fun a e z => y_app (by rw [eE]; exact y_app (rawJ a e z))⟩, ?_, ⟨fun c z y => by rw [xo c z]; exact xx.1 c y, fun c a b => by rw [xo c (by omega)]; exact xx.2 c a b, by rw [eX, ax_u_s]⟩, ?_, ?_, ?_⟩
    · rw [eE, List.length_append, lJ]; exact Nat.le_refl _
    · rw [y_c_app, eE, y_c_app, zJ]
      show y_c s0 + 20 + 6 + 6 ≤ y_c s0 + 40
      omega
    · rw [eX]; exact ax_u_g (ax_u_g (ax_u_g gC1 (by decide)) (gC1 _ _)) (by decide)
    · rw [eX, ax_u_k (by decide), ax_u_k (by decide), ax_u_s, m8]
    · rw [eX, ax_u_k (by decide), ax_u_s, m9]
    · rw [eX, ax_u_k (by decide), ax_u_k (by decide), ax_u_k (by decide), xx.1 0 (by decide)]
  · refine go ⟨gM', mf⟩ ?_
    have xx := frC ff
    have rk : ax_rg k := ⟨by omega, by omega⟩
    refine ax_Q.mv 1 33 [some (.ref 0), some (.ref s0.length), some (.ref (s0.length + 1)), none, none] [.ref s0.length] rfl ?_
    refine ax_Q.callv (v := some (ax_i 1)) (rest := []) (ss' := sJ) (V1 := C1) (pc' := 36) ⟨_, rfl⟩ ml_11_62 rfl gR (Nat.le_of_ble_eq_true rfl) (ai_nt_i _) rfl ((rd sJ layR).up (by decide)) ?_
    refine ax_Q.sti (k := 3) (n := 1) (L' := [some (.ref 0), some (.ref s0.length), some (.ref (s0.length + 1)), some (ax_i 1), none]) (pc' := 37) ⟨_, rfl⟩ rfl rfl rfl (Nat.le_of_ble_eq_true rfl) rfl rfl ?_
    refine ax_Q.mv 2 39 [some (.ref 0), some (.ref s0.length), some (.ref (s0.length + 1)), some (ax_i 1), none] [ax_i 1, .ref 0] rfl ?_
    refine ax_Q.if1 (p1 := 53) (p2 := 42) ⟨_, rfl⟩ (by decide) rfl (by decide) (fun hq => absurd (show (1 : Int) = 0 from hq) (by decide)) (fun _ => ?_)
    refine ax_Q.mv 2 44 [some (.ref 0), some (.ref s0.length), some (.ref (s0.length + 1)), some (ax_i 1), none] [.ref s0.length, .ref (s0.length + 1), .ref 0] rfl ?_
    refine ax_Q.gI (kI := 7) (pc' := 47) ⟨_, rfl⟩ fl_11_66 gR rfl rfl rfl ?_
    refine ax_Q.callv (v := some (ax_i k)) (rest := [.ref 0]) (ss' := sJ) (V1 := C2) (pc' := 50) ⟨_, rfl⟩ ml_11_69 rfl gD (Nat.le_of_ble_eq_true rfl) (ai_nt_i _) rfl ((rj sJ layD).up (by decide)) ?_
    refine ax_Q.mv 1 54 [some (.ref 0), some (.ref s0.length), some (.ref (s0.length + 1)), some (ax_i 1), none] [ax_i k, .ref 0] rfl ?_
    refine t_module3 (pl := C2 601 5) okJ g0 gR gD gC2 (Or.inr rfl) rk (fun z => absurd z (by decide)) (fun _ _ => rfl) (fun _ z => by omega) (fun _ => ?_) (fun z => by omega)
    obtain ⟨X', eX⟩ : ∃ X' : ax_V, X' = ax_u (ax_u (ax_u C2 0 2 k) 0 3 (C2 601 5)) 0 1 0 := ⟨_, rfl⟩
    rw [← eX]
    have xo : ∀ c, ¬ c = 0 → X' c = C2 c := fun c z => by rw [eX, ax_u_ne z, ax_u_ne z, ax_u_ne z]
    have x2 : ∀ c, (¬ (500 ≤ c ∧ c ≤ 602) ∨ (508 ≤ c ∧ c ≤ 510)) → C2 c = C1 c := fun c z => fj c (by simp only [List.mem_cons, List.not_mem_nil, or_false, not_or]; omega)
    refine Or.inl ⟨rm, sJ, X', rfl, rfl, KJ.app (ax_ok_ap1 okJ), ⟨by omega, ?_, fun a e z => y_app (rawJ a e z)⟩, ?_, ⟨fun c z y => by rw [xo c z, x2 c (Or.inl y)]; exact xx.1 c y, fun c a b => by rw [xo c (by omega), x2 c (Or.inr ⟨a, b⟩)]; exact xx.2 c a b, by rw [eX, ax_u_s]⟩, ?_, ?_, ?_⟩
    · rw [y_c_app, zJ]
      show y_c s0 + 20 + 6 ≤ y_c s0 + 40
      omega
    · rw [eX]; exact ax_u_g (ax_u_g (ax_u_g gC2 rk) (gC2 _ _)) (by decide)
    · rw [eX, ax_u_k (by decide), ax_u_k (by decide), ax_u_s, m8]
    · rw [eX, ax_u_k (by decide), ax_u_s, m9]
    · rw [eX, ax_u_k (by decide), ax_u_k (by decide), ax_u_k (by decide), x2 0 (by decide), xx.1 0 (by decide)]
  · refine go ⟨gM', mf⟩ ?_
    have xx := frC ff
    have x2 : ∀ c, (¬ (500 ≤ c ∧ c ≤ 602) ∨ (508 ≤ c ∧ c ≤ 510)) → C2 c = C1 c := fun c z => fj c (by simp only [List.mem_cons, List.not_mem_nil, or_false, not_or]; omega)
    have g8 : ax_g (y_v8 C2) := fun c i => by
      by_cases z : c = 602
      · rw [z]; show ax_rg 0; decide
      · show ax_rg (if c = 602 then 0 else C2 c i)
        rw [if_neg z]; exact gC2 _ _
    obtain ⟨P, gP, rp, hP, h8, hX⟩ := pl (y_v8 C2) (fun c z => by simp only [List.mem_cons, List.not_mem_nil, or_false] at z; funext i; exact if_neg z) g8 rfl
    refine ax_Q.mv 1 33 [some (.ref 0), some (.ref s0.length), some (.ref (s0.length + 1)), none, none] [.ref s0.length] rfl ?_
    refine ax_Q.callv (v := some (ax_i 1)) (rest := []) (ss' := sJ) (V1 := C1) (pc' := 36) ⟨_, rfl⟩ ml_11_62 rfl gR (Nat.le_of_ble_eq_true rfl) (ai_nt_i _) rfl ((rd sJ layR).up (by decide)) ?_
    refine ax_Q.sti (k := 3) (n := 1) (L' := [some (.ref 0), some (.ref s0.length), some (.ref (s0.length + 1)), some (ax_i 1), none]) (pc' := 37) ⟨_, rfl⟩ rfl rfl rfl (Nat.le_of_ble_eq_true rfl) rfl rfl ?_
    refine ax_Q.mv 2 39 [some (.ref 0), some (.ref s0.length), some (.ref (s0.length + 1)), some (ax_i 1), none] [ax_i 1, .ref 0] rfl ?_
    refine ax_Q.if1 (p1 := 53) (p2 := 42) ⟨_, rfl⟩ (by decide) rfl (by decide) (fun hq => absurd (show (1 : Int) = 0 from hq) (by decide)) (fun _ => ?_)
    refine ax_Q.mv 2 44 [some (.ref 0), some (.ref s0.length), some (.ref (s0.length + 1)), some (ax_i 1), none] [.ref s0.length, .ref (s0.length + 1), .ref 0] rfl ?_
    refine ax_Q.gI (kI := 7) (pc' := 47) ⟨_, rfl⟩ fl_11_66 gR rfl rfl rfl ?_
    refine ax_Q.callv (v := some (ax_i 0)) (rest := [.ref 0]) (ss' := sJ) (V1 := C2) (pc' := 50) ⟨_, rfl⟩ ml_11_69 rfl gD (Nat.le_of_ble_eq_true rfl) (ai_nt_i _) rfl ((rj sJ layD).up (by decide)) ?_
    refine ax_Q.mv 1 54 [some (.ref 0), some (.ref s0.length), some (.ref (s0.length + 1)), some (ax_i 1), none] [ax_i 0, .ref 0] rfl ?_
    refine t_module3 (pl := 0) okJ g0 gR gD gC2 (Or.inr rfl) (by decide) (fun z => absurd z (by decide)) (fun _ z => absurd z (by decide)) (fun _ _ => rfl) (fun z => absurd z (by decide)) (fun _ => ?_)
    obtain ⟨V, eV⟩ : ∃ V : ax_V, V = ax_u (ax_u (ax_u C2 0 2 0) 0 3 0) 0 1 0 := ⟨_, rfl⟩
    rw [← eV]
    have vo : ∀ c, ¬ c = 0 → V c = C2 c := fun c z => by rw [eV, ax_u_ne z, ax_u_ne z, ax_u_ne z]
    have gV : ax_g V := by rw [eV]; exact ax_u_g (ax_u_g (ax_u_g gC2 (by decide)) (by decide)) (by decide)
    refine t_module4 (C2 := C2) (P := P) KJ bs no2 (fun c a b => vo c (by omega)) rp (fun s2 Z es KL eZ => ?_)
    have y0 : ax_bk y_t V P 0 = V 0 := by unfold ax_bk; rw [y_t_n (by decide)]
    have zk : ∀ c, 500 ≤ c → c ≤ 602 → Z c = P c := fun c a b => by rw [eZ, ax_u_ne (by omega)]; unfold ax_bk; rw [y_t_k ⟨a, b⟩]
    have zo : ∀ c, ¬ c = 0 → ¬ (500 ≤ c ∧ c ≤ 602) → Z c = V c := fun c z y => by rw [eZ, ax_u_ne z]; unfold ax_bk; rw [y_t_n y]
    have p500 : P 500 0 = (M1 222 86) := by rw [hP.1.1 500 (by decide)]; exact hX.hS.2.1.2.2.2
    refine Or.inr ⟨rm, s2, Z, P, by rw [p500, m86], rfl, KL, ⟨?_, ?_, fun a e z => ?_⟩, ?_, ⟨fun c z y => by rw [zo c z y, vo c z, x2 c (Or.inl y)]; exact xx.1 c y, fun c a b => by rw [zk c (by omega) (by omega), hP.1.1 c (by simp only [List.mem_cons, List.not_mem_nil, or_false, not_or]; omega)]; exact xx.2 c a b, ?_⟩, ?_, ?_, ?_, fun c a b => zk c a (by omega), C1, M1, F, G, Hh, S, U, J, hX, hRM, fun k a b => ⟨(hP.2.2.1 k a b).2, (hP.2.2.1 k a b).1⟩, h8, p500, m86⟩
    · rw [es, List.length_set, List.length_set, List.length_append, lJ]
      show s0.length + 2 + 1 ≤ _
      omega
    · have q0 : (sJ ++ [y_P Sp])[0]? = some (.inr (0, .inr (11, [some (.ref 1), none, none, none, some (.ref B), some (.ref Sp), some (.ref 150), some (.ref 156), none, some (.ref 157)]))) := y_app g0
      have q1 : (sJ ++ [y_P Sp])[150]? = some (az_mc5 B (B + 16) (B + 32) (B + 47) (B + 56)) := y_app (KJ.at 3 rfl)
      rw [es, y_c_set (s := az_mc5 B (B + 16) (B + 32) (B + 47) (B + 56)) (t := az_mc Sp) (ax_set_ne (by decide) q1) rfl, y_c_set (t := .inr (0, .inr (11, [some (.ref 1), none, none, none, some (.ref Sp), some (.ref B), some (.ref 150), some (.ref 156), none, some (.ref 157)]))) q0 rfl, y_c_app, zJ]
      show y_c s0 + 20 + 7 ≤ y_c s0 + 40
      omega
    · have u := rawJ a e z
      have k0 := KJ.at 0 rfl
      have k3 := KJ.at 3 rfl
      rw [es]
      refine ax_set_ne (fun y => ?_) (ax_set_ne (fun y => ?_) (y_app u))
      · rw [← y, k3] at u; cases u
      · rw [← y, k0] at u; cases u
    · rw [eZ]; exact ax_u_g (ax_bk_g gV gP) (by decide)
    · rw [eZ, ax_u_k (by decide), y0, eV, ax_u_s]
    · rw [eZ, ax_u_k (by decide), y0, eV, ax_u_k (by decide), ax_u_k (by decide), ax_u_s]
    · rw [eZ, ax_u_k (by decide), y0, eV, ax_u_k (by decide), ax_u_s]
    · rw [eZ, ax_u_s]
end HModule2
