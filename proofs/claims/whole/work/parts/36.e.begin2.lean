/-! Prover.begin, from its middle and whole -/
def p_nw (nw : Nat) (x : Int) : Int := if (if x < 2 * (nw : Int) then 2 * (nw : Int) else x) < 180000 then (if x < 2 * (nw : Int) then 2 * (nw : Int) else x) else 180000
/-- what begin leaves: the shape S2, the rows at w2 -/
def p_BO (ss : List ax_S) (V : ax_V) (B w nw : Nat) (m0 p0 : Value) (ss2 : List ax_S) (W : ax_V) (w2 nw2 : Nat) : Prop := (ss2 = ss.set 157 (az_pv w m0 p0) ∧ w2 = w ∧ nw2 = nw ∧ W 620 = V 620) ∨ (ss2 = (ss.set w (.inl (ax_c V (.inr (620, .inl (0, nw)))))).set 157 (az_pv ss.length m0 p0) ++ [.inr (620, .inl (0, nw2))] ∧ w2 = ss.length ∧ nw2 ≤ 180000 ∧ nw < nw2 ∧ (2 * nw ≤ nw2 ∨ nw2 = 180000))
section Begin2
variable {ss ss2 : List ax_S} {d B w nw : Nat} {V W : ax_V} {n o pv most wd : Int} {m0 p0 : Value} {Q : Option Value → List va_E → Prop}
theorem ax_ok_app {t : ax_S} {id : Nat} {x : (Nat × Nat) ⊕ (Nat × List (Option Value))} (ok : ax_ok ss) (ht : t = .inr (id, x)) (no : ∀ (j : Nat) (y : (Nat × Nat) ⊕ (Nat × List (Option Value))), ¬ ss[j]? = some (.inr (id, y))) : ax_ok (ss ++ [t]) := by
  intro a b i x1 y1 ha hb
  have cut : ∀ (j : Nat) (y : (Nat × Nat) ⊕ (Nat × List (Option Value))), (ss ++ [t])[j]? = some (.inr (i, y)) → (j < ss.length ∧ ss[j]? = some (.inr (i, y))) ∨ (j = ss.length ∧ i = id) := fun j y hj => by
    by_cases lt : j < ss.length
    · rw [List.getElem?_append_left lt] at hj; exact Or.inl ⟨lt, hj⟩
    · rw [List.getElem?_append_right (by omega)] at hj
      have e0 : j - ss.length = 0 := by
        have := (List.getElem?_eq_some_iff.mp hj).1
        simp at this; omega
      rw [e0] at hj
      have e1 : t = .inr (i, y) := Option.some.inj hj
      rw [ht] at e1
      cases e1
      exact Or.inr ⟨by omega, rfl⟩
  rcases cut a x1 ha with ⟨l1, h1⟩ | ⟨l1, h1⟩
  · rcases cut b y1 hb with ⟨l2, h2⟩ | ⟨l2, h2⟩
    · exact ok a b i x1 y1 h1 h2
    · rw [h2] at h1; exact absurd h1 (no a x1)
  · rcases cut b y1 hb with ⟨l2, h2⟩ | ⟨l2, h2⟩
    · rw [h1] at h2; exact absurd h2 (no b y1)
    · omega
theorem ax_ok_set {a id : Nat} {x y : (Nat × Nat) ⊕ (Nat × List (Option Value))} (ok : ax_ok ss) (h : ss[a]? = some (.inr (id, x))) : ax_ok (ss.set a (.inr (id, y))) := by
  intro p q i x1 y1 hp hq
  have cut : ∀ (j : Nat) (u : (Nat × Nat) ⊕ (Nat × List (Option Value))), (ss.set a (.inr (id, y)))[j]? = some (.inr (i, u)) → ∃ v, ss[j]? = some (.inr (i, v)) := fun j u hj => by
    by_cases e : a = j
    · subst e
      rw [ax_set_get h] at hj
      cases hj
      exact ⟨x, h⟩
    · rw [List.getElem?_set_ne e] at hj; exact ⟨u, hj⟩
  obtain ⟨v1, h1⟩ := cut p x1 hp
  obtain ⟨v2, h2⟩ := cut q y1 hq
  exact ok p q i v1 v2 h1 h2
theorem ax_ok_raw {a : Nat} {e : va_E} (ok : ax_ok ss) : ax_ok (ss.set a (.inl e)) := by
  intro p q i x1 y1 hp hq
  have cut : ∀ (j : Nat) (u : (Nat × Nat) ⊕ (Nat × List (Option Value))), (ss.set a (.inl e))[j]? = some (.inr (i, u)) → ss[j]? = some (.inr (i, u)) := fun j u hj => by
    by_cases z : a = j
    · subst z
      by_cases lt : a < ss.length
      · rw [List.getElem?_set_self lt] at hj; cases hj
      · rw [List.set_eq_of_length_le (by omega)] at hj; exact hj
    · rw [List.getElem?_set_ne z] at hj; exact hj
  exact ok p q i x1 y1 (cut p x1 hp) (cut q y1 hq)
set_option maxHeartbeats 1000000 in
theorem t_begin2 (ok : ax_ok ss) (h157 : ss[157]? = some (az_pv w m0 p0)) (h163 : ss[163]? = some (.inr (163, .inl (0, 1024)))) (hw : ss[w]? = some (.inr (620, .inl (0, nw)))) (hnw : nw ≤ 180000) (hg : ax_g V) (e16 : V 157 16 = most) (e17 : V 157 17 = wd) (mb : 1 ≤ most ∧ most ≤ 300) (wb : 0 ≤ wd ∧ wd ≤ 600) (mw : 0 ≤ most * wd ∧ most * wd ≤ 180000)
    (h : ∀ ss2 W w2 nw2, p_BO ss V B w nw m0 p0 ss2 W w2 nw2 → most * wd ≤ (nw2 : Int) → g_fr [157, 163, 620] V W → (∀ k, ¬ k = 0 → ¬ k = 1 → ¬ k = 2 → W 157 k = V 157 k) → ax_g W → W 157 0 = 1 → W 157 1 = 0 → W 157 2 = 0 → (∀ s, 0 ≤ s → s < 1024 → W 163 s = 0) → Q none (ax_w ss2 W)) : ax_Q ss (d + 1) m_Prover_begin 72 [some (.ref 157), some (.ref 150), some (ax_i n), some (ax_i o), some (ax_i pv), some (ax_i most)] [] V Q := by
  have same : ss.set 157 (az_pv w m0 p0) = ss := by
    apply List.ext_getElem?
    intro j
    by_cases e : 157 = j
    · subst e; rw [ax_set_get h157, h157]
    · rw [List.getElem?_set_ne e]
  have w57 : ¬ w = 157 := fun z => by rw [z] at hw; rw [hw] at h157; cases h157
  have w63 : ¬ w = 163 := fun z => by rw [z] at hw; rw [hw] at h163; cases h163
  have l157 := (List.getElem?_eq_some_iff.mp h157).1
  refine ax_Q.mv 1 73 [some (.ref 157), some (.ref 150), some (ax_i n), some (ax_i o), some (ax_i pv), some (ax_i most)] [.ref 157] rfl ?_
  refine ax_Q.gR (v := .ref w) (pc' := 76) ⟨_, rfl⟩ fl_9_15 h157 rfl rfl ?_
  refine ax_Q.alen (n := nw) (pc' := 77) ⟨_, rfl⟩ hw rfl ?_
  refine ax_Q.mv 1 78 [some (.ref 157), some (.ref 150), some (ax_i n), some (ax_i o), some (ax_i pv), some (ax_i most)] [.ref 157, ax_i (nw : Int)] rfl ?_
  refine ax_Q.gI (kI := 16) (pc' := 81) ⟨_, rfl⟩ fl_9_57 h157 rfl rfl rfl ?_
  refine ax_Q.mv 1 82 [some (.ref 157), some (.ref 150), some (ax_i n), some (ax_i o), some (ax_i pv), some (ax_i most)] [.ref 157, ax_i (V 157 16), ax_i (nw : Int)] rfl ?_
  refine ax_Q.gI (kI := 17) (pc' := 85) ⟨_, rfl⟩ fl_9_65 h157 rfl rfl rfl ?_
  rw [e16, e17]
  refine ax_Q.mul (pc' := 86) ⟨_, rfl⟩ rfl ?_
  refine ax_Q.if2 (p1 := 119) (p2 := 89) ⟨_, rfl⟩ (by decide) rfl ⟨by omega, by omega⟩ ⟨by omega, by omega⟩ (fun hc => ?_) (fun hc => ?_)
  · have hc' : most * wd ≤ (nw : Int) := hc
    refine t_begin3 rfl ok h157 h163 hg (fun W f s g c0 c1 c2 tz => ?_)
    have u := h ss W w nw (Or.inl ⟨same.symm, rfl, rfl, f 620 (by decide)⟩) hc' (fun c z => f c (by simp only [List.mem_cons, List.not_mem_nil, or_false, not_or] at z ⊢; exact ⟨z.1, z.2.1⟩)) s g c0 c1 c2 tz
    exact u
  · have hc' : (nw : Int) < most * wd := by
      have q : ¬ most * wd ≤ (nw : Int) := hc
      omega
    refine ax_Q.mv 1 90 [some (.ref 157), some (.ref 150), some (ax_i n), some (ax_i o), some (ax_i pv), some (ax_i most)] [.ref 157] rfl ?_
    refine ax_Q.ldc (n := 180000) (pc' := 92) ⟨_, rfl⟩ rfl rfl rfl ?_
    refine ax_Q.mv 1 93 [some (.ref 157), some (.ref 150), some (ax_i n), some (ax_i o), some (ax_i pv), some (ax_i most)] [.ref 157, ax_i 180000, .ref 157] rfl ?_
    refine ax_Q.gI (kI := 16) (pc' := 96) ⟨_, rfl⟩ fl_9_57 h157 rfl rfl rfl ?_
    refine ax_Q.mv 1 97 [some (.ref 157), some (.ref 150), some (ax_i n), some (ax_i o), some (ax_i pv), some (ax_i most)] [.ref 157, ax_i (V 157 16), ax_i 180000, .ref 157] rfl ?_
    refine ax_Q.gI (kI := 17) (pc' := 100) ⟨_, rfl⟩ fl_9_65 h157 rfl rfl rfl ?_
    rw [e16, e17]
    refine ax_Q.mul (pc' := 101) ⟨_, rfl⟩ rfl ?_
    refine ax_Q.mv 2 103 [some (.ref 157), some (.ref 150), some (ax_i n), some (ax_i o), some (ax_i pv), some (ax_i most)] [.ref 157, ax_i 2, ax_i (most * wd), ax_i 180000, .ref 157] rfl ?_
    refine ax_Q.gR (v := .ref w) (pc' := 106) ⟨_, rfl⟩ fl_9_15 h157 rfl rfl ?_
    refine ax_Q.alen (n := nw) (pc' := 107) ⟨_, rfl⟩ hw rfl ?_
    refine ax_Q.mul (pc' := 108) ⟨_, rfl⟩ rfl ?_
    refine ax_Q.max (pc' := 111) ⟨_, rfl⟩ ml_9_69 ⟨by omega, by omega⟩ ⟨by omega, by omega⟩ (Nat.le_of_ble_eq_true rfl) rfl ?_
    obtain ⟨mx, emx⟩ : ∃ mx : Int, mx = if most * wd < 2 * (nw : Int) then 2 * (nw : Int) else most * wd := ⟨_, rfl⟩
    have bmx : (most * wd ≤ mx ∧ mx ≤ 360000) ∧ 2 * (nw : Int) ≤ mx := by
      rw [emx]
      split <;> omega
    rw [← emx]
    refine ax_Q.min (pc' := 114) ⟨_, rfl⟩ ml_9_75 ⟨by decide, by decide⟩ ⟨by omega, by omega⟩ (Nat.le_of_ble_eq_true rfl) rfl ?_
    obtain ⟨mn, emn⟩ : ∃ mn : Int, mn = if mx < 180000 then mx else 180000 := ⟨_, rfl⟩
    have bmn : (most * wd ≤ mn ∧ mn ≤ 180000) ∧ (2 * (nw : Int) ≤ mn ∨ mn = 180000) := by
      rw [emn]
      split <;> omega
    rw [← emn]
    obtain ⟨V1, e1⟩ : ∃ V1 : ax_V, V1 = fun c i => if c = 620 then 0 else V c i := ⟨_, rfl⟩
    have k1 : ∀ c, ¬ c = 620 → V1 c = V c := fun c z => by rw [e1]; funext i; exact if_neg z
    have z1 : ∀ i, V1 620 i = 0 := fun i => by rw [e1]; exact if_pos rfl
    have g1 : ax_g V1 := fun c i => by
      by_cases z : c = 620
      · rw [z, z1]; decide
      · rw [k1 c z]; exact hg _ _
    refine ax_Q.re (ax_raw ok hw k1) ?_
    obtain ⟨sr, esr⟩ : ∃ sr : List ax_S, sr = ss.set w (.inl (ax_c V (.inr (620, .inl (0, nw))))) := ⟨_, rfl⟩
    rw [← esr]
    have lsr : sr.length = ss.length := by rw [esr, List.length_set]
    have okr : ax_ok sr := by rw [esr]; exact ax_ok_raw ok
    have r157 : sr[157]? = some (az_pv w m0 p0) := by rw [esr]; exact ax_set_ne w57 h157
    have r163 : sr[163]? = some (.inr (163, .inl (0, 1024))) := by rw [esr]; exact ax_set_ne w63 h163
    have no620 : ∀ (j : Nat) (y : (Nat × Nat) ⊕ (Nat × List (Option Value))), ¬ sr[j]? = some (.inr (620, y)) := fun j y hj => by
      rw [esr] at hj
      by_cases z : w = j
      · subst z; rw [ax_set_get hw] at hj; cases hj
      · rw [List.getElem?_set_ne z] at hj
        exact z (ok w j 620 _ _ hw hj)
    refine ax_Q.arr (s := .inr (620, .inl (0, mn.toNat))) (V1 := V1) (pc' := 116) ⟨_, rfl⟩ ⟨by omega, by omega⟩ ?_ rfl rfl ?_
    · show (.inl (0, mn.toNat, .inl (fun j : Nat => Int32.ofInt (V1 620 (j : Int)))) : va_E) = _
      have ef : (fun j : Nat => Int32.ofInt (V1 620 (j : Int))) = fun _ => 0 := funext (fun j => by rw [z1]; rfl)
      rw [ef]
    have a157 : (sr ++ [(.inr (620, .inl (0, mn.toNat)) : ax_S)])[157]? = some (az_pv w m0 p0) := by rw [List.getElem?_append_left (by omega)]; exact r157
    refine ax_Q.pR (v0 := .ref w) (pc' := 119) ⟨_, rfl⟩ fl_9_15 a157 rfl rfl rfl rfl ?_
    have oka : ax_ok (sr ++ [(.inr (620, .inl (0, mn.toNat)) : ax_S)]) := ax_ok_app okr rfl no620
    rw [lsr]
    obtain ⟨s2, es2⟩ : ∃ s2 : List ax_S, s2 = (sr ++ [(.inr (620, .inl (0, mn.toNat)) : ax_S)]).set 157 (az_pv ss.length m0 p0) := ⟨_, rfl⟩
    show ax_Q ((sr ++ [(.inr (620, .inl (0, mn.toNat)) : ax_S)]).set 157 (az_pv ss.length m0 p0)) (d + 1) m_Prover_begin 119 [some (.ref 157), some (.ref 150), some (ax_i n), some (ax_i o), some (ax_i pv), some (ax_i most)] [] V1 Q
    rw [← es2]
    have ok2 : ax_ok s2 := by rw [es2]; exact ax_ok_set oka a157
    have q157 : s2[157]? = some (az_pv ss.length m0 p0) := by rw [es2]; exact ax_set_get a157
    have l163 := (List.getElem?_eq_some_iff.mp r163).1
    have q163 : s2[163]? = some (.inr (163, .inl (0, 1024))) := by rw [es2]; exact ax_set_ne (by decide) (by rw [List.getElem?_append_left l163]; exact r163)
    refine t_begin3 rfl ok2 q157 q163 g1 (fun W f s g c0 c1 c2 tz => ?_)
    refine h s2 W ss.length mn.toNat (Or.inr ⟨?_, rfl, by omega, by omega, by omega⟩) (by omega) (fun c z => ?_) (fun k a b c => by rw [s k a b c, k1 157 (by decide)]) g c0 c1 c2 tz
    · rw [es2, esr, List.set_append_left _ _ (by rw [List.length_set]; exact l157)]
    · simp only [List.mem_cons, List.not_mem_nil, or_false, not_or] at z
      rw [f c (by simp; exact ⟨z.1, z.2.1⟩), k1 c z.2.2]
end Begin2
