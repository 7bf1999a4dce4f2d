/-! Prover.begin, whole -/
section Begin3
variable {ss ss2 : List ax_S} {d B w nw : Nat} {V W : ax_V} {n o pv most wd u : Int} {m0 p0 : Value} {Q : Option Value → List va_E → Prop}
theorem p_BO.back {X : ax_V} {s1 : List ax_S} {m p : Value} {w2 nw2 : Nat} (e1 : s1 = ss.set 157 (az_pv w m p)) (wn : ¬ w = 157) (eX : X 620 = V 620) (h : p_BO s1 X B w nw m p ss2 W w2 nw2) : p_BO ss V B w nw m p ss2 W w2 nw2 := by
  rcases h with ⟨a, b, c, e⟩ | ⟨a, b, c⟩
  · exact Or.inl ⟨by rw [a, e1, List.set_set], b, c, by rw [e, eX]⟩
  · have ec : ax_c X (.inr (620, .inl (0, nw))) = ax_c V (.inr (620, .inl (0, nw))) := ax_c_ne eX _
    have el : s1.length = ss.length := by rw [e1, List.length_set]
    refine Or.inr ⟨?_, by rw [b, el], c⟩
    rw [a, ec, el, e1, List.set_comm _ _ (fun z => wn z.symm), List.set_set]
set_option maxHeartbeats 1000000 in
theorem t_beginP (ok : ax_ok ss) (h157 : ss[157]? = some (az_pv w m0 p0)) (h150 : ss[150]? = some (az_mc B)) (hB : ∀ (k : Nat) (e : ax_S), (az_P B)[k]? = some e → ss[B + k]? = some e) (B150 : B + 74 ≤ 150) (h163 : ss[163]? = some (.inr (163, .inl (0, 1024)))) (hw : ss[w]? = some (.inr (620, .inl (0, nw)))) (hnw : nw ≤ 180000) (hg : ax_g V) (n8 : 0 ≤ n ∧ n < 8) (o8 : o = -1 ∨ (0 ≤ o ∧ o < 8)) (rp : ax_rg pv) (mb : 1 ≤ most ∧ most ≤ 300) (e0 : o = -1 → wd = V 514 n) (e1 : 0 ≤ o → wd = V 514 n + V 514 o) (wb : 0 ≤ wd ∧ wd ≤ 600)
    (h : ∀ ss2 W w2 nw2, p_BO ss V B w nw (.ref 150) (.ref B) ss2 W w2 nw2 → most * wd ≤ (nw2 : Int) → g_fr [157, 163, 620] V W → ax_g W → W 157 0 = 1 → W 157 1 = 0 → W 157 2 = 0 → W 157 13 = n → W 157 14 = o → W 157 15 = pv → W 157 16 = most → W 157 17 = wd → (∀ s, 0 ≤ s → s < 1024 → W 163 s = 0) → Q none (ax_w ss2 W)) : ax_E ss (d + 2) q_Prover_begin [.ref 157, .ref 150, ax_i n, ax_i o, ax_i pv, ax_i most] V Q := by
  have w57 : ¬ w = 157 := fun z => by rw [z] at hw; rw [hw] at h157; cases h157
  have mw : 0 ≤ most * wd ∧ most * wd ≤ 180000 := by
    have a := Int.mul_nonneg (show (0 : Int) ≤ most by omega) wb.1
    have b := Int.mul_le_mul_of_nonneg_right mb.2 wb.1
    omega
  refine ax_E.of (M := m_Prover_begin) rfl (Nat.le_of_ble_eq_true rfl) ?_
  refine ax_Q.mv 2 2 [some (.ref 157), some (.ref 150), some (ax_i n), some (ax_i o), some (ax_i pv), some (ax_i most)] [.ref 150, .ref 157] rfl ?_
  refine ax_Q.pR (v0 := m0) (pc' := 5) ⟨_, rfl⟩ fl_9_36 h157 rfl rfl rfl rfl ?_
  show ax_Q (ss.set 157 (az_pv w (.ref 150) p0)) (d + 1) m_Prover_begin 5 [some (.ref 157), some (.ref 150), some (ax_i n), some (ax_i o), some (ax_i pv), some (ax_i most)] [] V Q
  refine ax_Q.mv 2 7 [some (.ref 157), some (.ref 150), some (ax_i n), some (ax_i o), some (ax_i pv), some (ax_i most)] [.ref 150, .ref 157] rfl ?_
  refine ax_Q.gR (v := .ref B) (pc' := 10) ⟨_, rfl⟩ fl_9_40 (ax_set_ne (by decide) h150) rfl rfl ?_
  refine ax_Q.pR (v0 := p0) (pc' := 13) ⟨_, rfl⟩ fl_9_46 (ax_set_get h157) rfl rfl rfl rfl ?_
  rw [List.set_set]
  show ax_Q (ss.set 157 (az_pv w (.ref 150) (.ref B))) (d + 1) m_Prover_begin 13 [some (.ref 157), some (.ref 150), some (ax_i n), some (ax_i o), some (ax_i pv), some (ax_i most)] [] V Q
  obtain ⟨s1, es⟩ : ∃ s1 : List ax_S, s1 = ss.set 157 (az_pv w (.ref 150) (.ref B)) := ⟨_, rfl⟩
  rw [← es]
  have ok1 : ax_ok s1 := by rw [es]; exact ax_ok_set ok h157
  have k157 : s1[157]? = some (az_pv w (.ref 150) (.ref B)) := by rw [es]; exact ax_set_get h157
  have k163 : s1[163]? = some (.inr (163, .inl (0, 1024))) := by rw [es]; exact ax_set_ne (by decide) h163
  have kw : s1[w]? = some (.inr (620, .inl (0, nw))) := by rw [es]; exact ax_set_ne (fun z => w57 z.symm) hw
  have kB : s1[B]? = (az_P B)[0]? := by rw [es, List.getElem?_set_ne (by omega)]; exact hB 0 _ rfl
  have k14 : s1[B + 14]? = some (.inr (514, .inl (0, 8))) := by rw [es]; exact ax_set_ne (by omega) (hB 14 _ rfl)
  obtain ⟨V1, v1⟩ : ∃ W9 : ax_V, W9 = ax_u V 157 13 n := ⟨_, rfl⟩
  obtain ⟨V2, v2⟩ : ∃ W9 : ax_V, W9 = ax_u V1 157 14 o := ⟨_, rfl⟩
  obtain ⟨V3, v3⟩ : ∃ W9 : ax_V, W9 = ax_u V2 157 15 pv := ⟨_, rfl⟩
  obtain ⟨V4, v4⟩ : ∃ W9 : ax_V, W9 = ax_u V3 157 16 most := ⟨_, rfl⟩
  obtain ⟨V5, v5⟩ : ∃ W9 : ax_V, W9 = ax_u V4 157 17 wd := ⟨_, rfl⟩
  have k4 : ∀ c, ¬ c = 157 → V4 c = V c := fun c z => by rw [v4, ax_u_ne z, v3, ax_u_ne z, v2, ax_u_ne z, v1, ax_u_ne z]
  have g4 : ax_g V4 := by rw [v4, v3, v2, v1]; exact ax_u_g (ax_u_g (ax_u_g (ax_u_g hg ⟨by omega, by omega⟩) ⟨by omega, by omega⟩) rp) ⟨by omega, by omega⟩
  have o14 : V4 157 14 = o := by rw [v4, ax_u_k (by decide), v3, ax_u_k (by decide), v2, ax_u_s]
  refine ax_Q.mv 2 15 [some (.ref 157), some (.ref 150), some (ax_i n), some (ax_i o), some (ax_i pv), some (ax_i most)] [ax_i n, .ref 157] rfl ?_
  refine ax_Q.pI (kI := 13) (pc' := 18) ⟨_, rfl⟩ fl_9_47 ok1 k157 rfl rfl rfl rfl v1 rfl ?_
  refine ax_Q.mv 2 20 [some (.ref 157), some (.ref 150), some (ax_i n), some (ax_i o), some (ax_i pv), some (ax_i most)] [ax_i o, .ref 157] rfl ?_
  refine ax_Q.pI (kI := 14) (pc' := 23) ⟨_, rfl⟩ fl_9_51 ok1 k157 rfl rfl rfl rfl v2 rfl ?_
  refine ax_Q.mv 2 26 [some (.ref 157), some (.ref 150), some (ax_i n), some (ax_i o), some (ax_i pv), some (ax_i most)] [ax_i pv, .ref 157] rfl ?_
  refine ax_Q.pI (kI := 15) (pc' := 29) ⟨_, rfl⟩ fl_9_54 ok1 k157 rfl rfl rfl rfl v3 rfl ?_
  refine ax_Q.mv 2 32 [some (.ref 157), some (.ref 150), some (ax_i n), some (ax_i o), some (ax_i pv), some (ax_i most)] [ax_i most, .ref 157] rfl ?_
  refine ax_Q.pI (kI := 16) (pc' := 35) ⟨_, rfl⟩ fl_9_57 ok1 k157 rfl rfl rfl rfl v4 rfl ?_
  -- behind the width
  have fin : ∀ x, x = wd → ax_Q s1 (d + 1) m_Prover_begin 69 [some (.ref 157), some (.ref 150), some (ax_i n), some (ax_i o), some (ax_i pv), some (ax_i most)] [ax_i x, .ref 157] V4 Q := fun x ex => by
    rw [ex]
    refine ax_Q.pI (kI := 17) (pc' := 72) ⟨_, rfl⟩ fl_9_65 ok1 k157 rfl rfl rfl rfl v5 rfl ?_
    have s5 : ∀ k, ¬ k = 17 → V5 157 k = V4 157 k := fun k z => by rw [v5, ax_u_k z]
    have k5 : ∀ c, ¬ c = 157 → V5 c = V c := fun c z => by rw [v5, ax_u_ne z]; exact k4 c z
    have g5 : ax_g V5 := by rw [v5]; exact ax_u_g g4 ⟨by omega, by omega⟩
    have f16 : V5 157 16 = most := by rw [s5 16 (by decide), v4, ax_u_s]
    have f17 : V5 157 17 = wd := by rw [v5, ax_u_s]
    refine t_begin2 (B := B) ok1 k157 k163 kw hnw g5 f16 f17 mb wb mw (fun ss2 W w2 nw2 bo le f s g c0 c1 c2 tz => ?_)
    refine h ss2 W w2 nw2 (p_BO.back es w57 (k5 620 (by decide)) bo) le (fun c z => ?_) g c0 c1 c2 ?_ ?_ ?_ ?_ ?_ tz
    · have z' := z
      simp only [List.mem_cons, List.not_mem_nil, or_false, not_or] at z
      rw [f c z', k5 c z.1]
    · rw [s 13 (by decide) (by decide) (by decide), s5 13 (by decide), v4, ax_u_k (by decide), v3, ax_u_k (by decide), v2, ax_u_k (by decide), v1, ax_u_s]
    · rw [s 14 (by decide) (by decide) (by decide), s5 14 (by decide)]; exact o14
    · rw [s 15 (by decide) (by decide) (by decide), s5 15 (by decide), v4, ax_u_k (by decide), v3, ax_u_s]
    · rw [s 16 (by decide) (by decide) (by decide)]; exact f16
    · rw [s 17 (by decide) (by decide) (by decide)]; exact f17
  refine ax_Q.mv 2 37 [some (.ref 157), some (.ref 150), some (ax_i n), some (ax_i o), some (ax_i pv), some (ax_i most)] [.ref 157, .ref 157] rfl ?_
  refine ax_Q.gR (v := .ref B) (pc' := 40) ⟨_, rfl⟩ fl_9_46 k157 rfl rfl ?_
  refine ax_Q.gR (v := .ref (B + 14)) (pc' := 43) ⟨_, rfl⟩ fl_9_60 kB rfl rfl ?_
  refine ax_Q.mv 1 44 [some (.ref 157), some (.ref 150), some (ax_i n), some (ax_i o), some (ax_i pv), some (ax_i most)] [ax_i n, .ref (B + 14), .ref 157] rfl ?_
  refine ax_Q.ild (n := 8) (pc' := 45) ⟨_, rfl⟩ k14 (by decide) n8 rfl ?_
  refine ax_Q.mv 1 46 [some (.ref 157), some (.ref 150), some (ax_i n), some (ax_i o), some (ax_i pv), some (ax_i most)] [.ref 157, ax_i (V4 514 n), .ref 157] rfl ?_
  refine ax_Q.gI (kI := 14) (pc' := 49) ⟨_, rfl⟩ fl_9_51 k157 rfl rfl rfl ?_
  rw [o14, k4 514 (by decide)]
  refine ax_Q.if1 (p1 := 56) (p2 := 52) ⟨_, rfl⟩ (by decide) rfl ⟨by omega, by omega⟩ (fun hc => ?_) (fun hc => ?_)
  · have hc' : 0 ≤ o := hc
    refine ax_Q.mv 1 57 [some (.ref 157), some (.ref 150), some (ax_i n), some (ax_i o), some (ax_i pv), some (ax_i most)] [.ref 157, ax_i (V 514 n), .ref 157] rfl ?_
    refine ax_Q.gR (v := .ref B) (pc' := 60) ⟨_, rfl⟩ fl_9_46 k157 rfl rfl ?_
    refine ax_Q.gR (v := .ref (B + 14)) (pc' := 63) ⟨_, rfl⟩ fl_9_60 kB rfl rfl ?_
    refine ax_Q.mv 1 64 [some (.ref 157), some (.ref 150), some (ax_i n), some (ax_i o), some (ax_i pv), some (ax_i most)] [.ref 157, .ref (B + 14), ax_i (V 514 n), .ref 157] rfl ?_
    refine ax_Q.gI (kI := 14) (pc' := 67) ⟨_, rfl⟩ fl_9_51 k157 rfl rfl rfl ?_
    rw [o14]
    refine ax_Q.ild (n := 8) (pc' := 68) ⟨_, rfl⟩ k14 (by decide) ⟨by omega, by omega⟩ rfl ?_
    rw [k4 514 (by decide)]
    refine ax_Q.add (pc' := 69) ⟨_, rfl⟩ rfl (fin _ (e1 hc').symm)
  · have hc' : ¬ 0 ≤ o := hc
    refine ax_Q.mv 2 68 [some (.ref 157), some (.ref 150), some (ax_i n), some (ax_i o), some (ax_i pv), some (ax_i most)] [ax_i 0, ax_i (V 514 n), .ref 157] rfl ?_
    refine ax_Q.add (pc' := 69) ⟨_, rfl⟩ rfl (fin _ (by rw [e0 (by omega)]; omega))
end Begin3
