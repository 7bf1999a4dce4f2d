/-! House.prove, House.alike -/
/-- how many slots a shape has -/
def ax_sz (s : ax_S) : Nat := match s with
  | .inl e => ai_sl e
  | .inr (_, .inl (_, n)) => n
  | .inr (_, .inr (_, fs)) => fs.length
def y_c (ss : List ax_S) : Nat := (ss.map ax_sz).sum
theorem ax_sz_c (V : ax_V) (s : ax_S) : ai_sl (ax_c V s) = ax_sz s := by
  rcases s with e | ⟨id, ⟨t, n⟩ | ⟨ci, fs⟩⟩
  · rfl
  · rfl
  · show (fs.mapIdx (fun k f => f.getD (ax_i (V id (k : Int))))).length = fs.length
    rw [List.length_mapIdx]
theorem y_c_w (ss : List ax_S) (V : ax_V) : ai_c (ax_w ss V) = y_c ss := by
  unfold ai_c ax_w y_c
  rw [List.map_map]
  exact congrArg List.sum (List.map_congr_left (fun s _ => ax_sz_c V s))
theorem y_c_set {ss : List ax_S} {a : Nat} {s t : ax_S} (h : ss[a]? = some s) (e : ax_sz t = ax_sz s) : y_c (ss.set a t) = y_c ss := by
  have q : (ss.set a t).map ax_sz = ss.map ax_sz := by
    apply List.ext_getElem?
    intro j
    by_cases z : a = j
    · subst z
      rw [List.getElem?_map, List.getElem?_map, ax_set_get h, h]
      show some (ax_sz t) = some (ax_sz s)
      rw [e]
    · rw [List.getElem?_map, List.getElem?_map, List.getElem?_set_ne z]
  unfold y_c
  rw [q]
theorem y_c_app (ss : List ax_S) (t : ax_S) : y_c (ss ++ [t]) = y_c ss + ax_sz t := by
  unfold y_c
  simp
/-- cells that are taken as they are stay -/
def y_raw (ss ss2 : List ax_S) : Prop := ∀ (a : Nat) (e : va_E), ss[a]? = some (.inl e) → ss2[a]? = some (.inl e)
/-- how the prover's rows may grow -/
def y_G (ss ss2 : List ax_S) (nw nw2 : Nat) : Prop := y_raw ss ss2 ∧ ((ss2.length = ss.length ∧ y_c ss2 = y_c ss ∧ nw2 = nw) ∨ (ss2.length = ss.length + 1 ∧ y_c ss2 = y_c ss + nw2 ∧ nw2 ≤ 180000 ∧ nw < nw2 ∧ (2 * nw ≤ nw2 ∨ nw2 = 180000)))
section HProve
variable {B Sp w nw w2 nw2 j d key : Nat} {m p : Value} {ss ss2 : List ax_S} {C0 M0 P V W N : ax_V} {F G Hh S U J Im : Int → Int} {k o i most : Int}
theorem y_L.BO (h : y_L B Sp w nw m p ss) (bo : p_BO ss V B w nw (.ref 150) (.ref B) ss2 W w2 nw2) : y_L B Sp w2 nw2 (.ref 150) (.ref B) ss2 ∧ y_G ss ss2 nw nw2 := by
  have h157 : ss[157]? = some (az_pv w m p) := h.at 9 rfl
  have hw : ss[w]? = some (.inr (620, .inl (0, nw))) := h.at 17 rfl
  have h156 : ss[156]? = some (.inl y_A) := h.at 2 rfl
  have w57 : ¬ w = 157 := fun z => by rw [z] at hw; rw [hw] at h157; cases h157
  have w56 : ¬ w = 156 := fun z => by rw [z] at hw; rw [hw] at h156; cases h156
  rcases bo with ⟨e, e1, e2, e3⟩ | ⟨e, e1, e2⟩
  · rw [e, e1, e2]
    refine ⟨h.keep (ax_ok_set h.1 h157) (fun a id x hx n1 n2 => ?_) (ax_set_ne (by decide) h156) (ax_set_get h157) (ax_set_ne (fun z => w57 z.symm) hw), fun a e hx => ax_set_ne (fun z => by rw [← z, h157] at hx; cases hx) hx, Or.inl ⟨List.length_set .., y_c_set (t := az_pv w (.ref 150) (.ref B)) h157 rfl, rfl⟩⟩
    refine ax_set_ne (fun z => ?_) hx
    rw [← z, h157] at hx
    cases hx
    exact n2 rfl
  · obtain ⟨sr, esr⟩ : ∃ sr : List ax_S, sr = ss.set w (.inl (ax_c V (.inr (620, .inl (0, nw))))) := ⟨_, rfl⟩
    rw [← esr] at e
    have lsr : sr.length = ss.length := by rw [esr, List.length_set]
    have okr : ax_ok sr := by rw [esr]; exact ax_ok_raw h.1
    have r157 : sr[157]? = some (az_pv w m p) := by rw [esr]; exact ax_set_ne w57 h157
    have r156 : sr[156]? = some (.inl y_A) := by rw [esr]; exact ax_set_ne w56 h156
    have no620 : ∀ (j : Nat) (y : (Nat × Nat) ⊕ (Nat × List (Option Value))), ¬ sr[j]? = some (.inr (620, y)) := fun j y hj => by
      rw [esr] at hj
      by_cases z : w = j
      · subst z; rw [ax_set_get hw] at hj; cases hj
      · rw [List.getElem?_set_ne z] at hj
        exact z (h.1 w j 620 _ _ hw hj)
    obtain ⟨s1, es1⟩ : ∃ s1 : List ax_S, s1 = sr.set 157 (az_pv ss.length (.ref 150) (.ref B)) := ⟨_, rfl⟩
    rw [← es1] at e
    have l1 : s1.length = ss.length := by rw [es1, List.length_set, lsr]
    have ok1 : ax_ok s1 := by rw [es1]; exact ax_ok_set okr r157
    have n1 : ∀ (j : Nat) (y : (Nat × Nat) ⊕ (Nat × List (Option Value))), ¬ s1[j]? = some (.inr (620, y)) := fun j y hj => by
      rw [es1] at hj
      by_cases z : 157 = j
      · subst z; rw [ax_set_get r157] at hj; cases hj
      · rw [List.getElem?_set_ne z] at hj
        exact no620 j y hj
    have up : ∀ (a : Nat) (s : ax_S), s1[a]? = some s → (s1 ++ [(.inr (620, .inl (0, nw2)) : ax_S)])[a]? = some s := fun a s hs => by
      rw [List.getElem?_append_left ((List.getElem?_eq_some_iff.mp hs).1)]; exact hs
    rw [e, e1]
    refine ⟨h.keep (ax_ok_app ok1 rfl n1) (fun a id x hx c1 c2 => up _ _ ?_) (up _ _ ?_) (up _ _ ?_) ?_, fun a e0 hx => up _ _ (by
      rw [es1]
      refine ax_set_ne (fun z => ?_) (by
        rw [esr]
        exact ax_set_ne (fun z => by rw [← z, hw] at hx; cases hx) hx)
      rw [← z, h157] at hx
      cases hx), Or.inr ⟨?_, ?_, e2⟩⟩
    · rw [es1]
      refine ax_set_ne (fun z => ?_) (by
        rw [esr]
        refine ax_set_ne (fun z => ?_) hx
        rw [← z, hw] at hx
        cases hx
        exact c1 rfl)
      rw [← z, h157] at hx
      cases hx
      exact c2 rfl
    · rw [es1]; exact ax_set_ne (by decide) r156
    · rw [es1]; exact ax_set_get r157
    · rw [List.getElem?_append_right (by omega), show ss.length - s1.length = 0 by omega]; rfl
    · rw [List.length_append, l1]; rfl
    · rw [y_c_app, es1, y_c_set (t := az_pv ss.length (.ref 150) (.ref B)) r157 rfl, esr, y_c_set (t := .inl (ax_c V (.inr (620, .inl (0, nw))))) hw (by show ai_sl (ax_c V (.inr (620, .inl (0, nw)))) = _; rw [ax_sz_c])]
      rfl
theorem y_b_id (hg : ax_g V) : y_b j V (y_v j V) = V := ax_bk_id (y_L.vv hg)
/-- what canProve says -/
theorem y_can (h : y_L B Sp w nw m p ss) (hX : h_X C0 M0 P F G Hh S U J Im) (hP : ∀ c, 500 ≤ c → c ≤ 573 → V c = P c) (hg : ax_g V) (hc : V 500 0 = (M0 222 86)) (hU : ∀ m, 0 ≤ m → m < (M0 222 86) → V 513 m = J m ∧ V 514 m = U m) (rk : ax_rg k) : ∃ x, ax_rg x ∧ ((x = 1 ∧ p_cp M0 U J k) ∨ (x = 0 ∧ ¬ p_cp M0 U J k)) ∧ ai_Ex ai_P0 (d + 3) q_House_canProve [.ref 0, ax_i k] (ax_w ss V) (some (ax_i x), ax_w ss V) := by
  have kk : ∀ c, 500 ≤ c → c ≤ 573 → y_v 0 V c = V c := fun c a b => y_v_k (by omega)
  obtain ⟨x, W, rx, gW, ⟨q, eW⟩, ex⟩ := h.I (d := d + 3) (j := 0) (key := q_House_canProve) (vs := [.ref 0, ax_i k]) (Φ := fun x W => ((x = 1 ∧ p_cp M0 U J k) ∨ (x = 0 ∧ ¬ p_cp M0 U J k)) ∧ W = y_v 0 V) (by decide) hg (t_canProve (d := d) hX (fun c a b => by rw [kk c a b]; exact hP c a b) (y_v_g hg) (by rw [kk 500 (by decide) (by decide)]; exact hc) (fun m a b => by rw [kk 513 (by decide) (by decide), kk 514 (by decide) (by decide)]; exact hU m a b) rk (fun z => ⟨Or.inl ⟨rfl, z⟩, rfl⟩) (fun z => ⟨Or.inr ⟨rfl, z⟩, rfl⟩))
  rw [eW, y_b_id hg] at ex
  exact ⟨x, rx, q, ex⟩
/-- what prove and alike leave, where they search -/
def y_PO (B Sp w nw : Nat) (ss : List ax_S) (V : ax_V) (x f' l : Int) (wf : Int → Int) (z : List va_E) : Prop := ∃ (ss2 : List ax_S) (V2 : ax_V) (w2 nw2 : Nat), z = ax_w ss2 V2 ∧ y_L B Sp w2 nw2 (.ref 150) (.ref B) ss2 ∧ y_G ss ss2 nw nw2 ∧ g_fr [150, 151, 152, 153, 154, 155, 157, 158, 160, 161, 162, 163, 164, 165, 620] V V2 ∧ ax_g V2 ∧ V2 157 0 = 1 ∧ V2 157 1 = f' ∧ V2 157 2 = l ∧ ∀ i, 0 ≤ i → i < l → V2 158 i = wf i
/-- the search of both sides, from the class's begin on -/
theorem y_search (h : y_L B Sp w nw m p ss) (B150 : B + 74 ≤ 150) (hX : h_X C0 M0 P F G Hh S U J Im) (hP : ∀ c, 500 ≤ c → c ≤ 573 → V c = P c) (hg : ax_g V) (hU : ∀ m, 0 ≤ m → m < (M0 222 86) → V 513 m = J m ∧ V 514 m = U m) (hnw : nw ≤ 180000) {n o i0 wd pv : Int} (hk : p_ok M0 U J n o i0 wd) (m1 : 1 ≤ most ∧ most ≤ 300) (rp : ax_rg pv) (ep : o = -1 → pv = 26 * n + M0 231 (26 * n + i0)) :
    ∃ (ss1 : List ax_S) (V1 : ax_V) (r f' l : Int) (wf : Int → Int) (w1 : Nat) (m2 p2 : Value), ai_Ex ai_P0 (d + 2) q_Prover_begin [.ref 157, .ref 150, ax_i n, ax_i o, ax_i pv, ax_i most] (ax_w ss V) (none, ax_w ss1 V1) ∧ ss1[157]? = some (az_pv w1 m2 p2) ∧ ss1[0]? = ss[0]? ∧ ax_rg r ∧ (r = 0 ∨ r = 1 ∨ r = 2) ∧ (0 ≤ l ∧ l ≤ 300) ∧ (0 ≤ f' ∧ f' ≤ 300) ∧ (∃ z, ai_Ex ai_P0 (d + 28) q_Prover_search [.ref 157] (ax_w ss1 V1) (some (ax_i r), z) ∧ ∃ (ss2 : List ax_S) (V2 : ax_V), ss2 = ss1 ∧ z = ax_w ss2 V2 ∧ y_PO B Sp w nw ss V r f' l wf z) ∧
    ∀ N, h_RM C0 M0 S U J Im N → ax_g N → ∀ (d : Nat) (Φ : Int → ax_V → Prop) (Θ : ax_V → Prop), (∀ W, p_NH N W → W 222 113 = 1 → W 222 115 = f' → W 222 120 = l → (∀ i, 0 ≤ i → i < l → W 312 i = wf i) → Φ r W) → ax_I ay_lay (d + 83) q_Model_search [.ref 222, ax_i n, ax_i i0, ax_i o, ax_i most] N Φ Θ := by
  have kw := p_ok.bd hX hk
  have hN := hX.hS.2.1
  have nn := hk.1.1.1
  have e0 : o = -1 → wd = V 514 n := fun z => by
    rw [(hU n nn.1 nn.2).2]
    rcases hk.2 with ⟨_, ew, _⟩ | ⟨⟨ho, _⟩, _⟩
    · exact ew
    · have := ho.1.1; omega
  have e1 : 0 ≤ o → wd = V 514 n + V 514 o := fun z => by
    rcases hk.2 with ⟨eo, _⟩ | ⟨⟨ho, _⟩, _, _, ew, _⟩
    · omega
    · rw [(hU n nn.1 nn.2).2, (hU o ho.1.1 ho.1.2).2]; exact ew
  obtain ⟨r0, z0, ⟨er, ss1, V1, w1, nw1, ez, bo, le, f, g, c0, c1, c2, c13, c14, c15, c16, c17, tz⟩, ex⟩ := t_beginP (d := d) (B := B) (ss := ss) (V := V) (Q := fun r z => r = none ∧ ∃ ss1 V1 w1 nw1, z = ax_w ss1 V1 ∧ p_BO ss V B w nw (.ref 150) (.ref B) ss1 V1 w1 nw1 ∧ most * wd ≤ (nw1 : Int) ∧ g_fr [157, 163, 620] V V1 ∧ ax_g V1 ∧ V1 157 0 = 1 ∧ V1 157 1 = 0 ∧ V1 157 2 = 0 ∧ V1 157 13 = n ∧ V1 157 14 = o ∧ V1 157 15 = pv ∧ V1 157 16 = most ∧ V1 157 17 = wd ∧ ∀ s, 0 ≤ s → s < 1024 → V1 163 s = 0) h.1 (h.at 9 rfl) (h.at 3 rfl) h.2.1 B150 (h.at 14 rfl) (h.at 17 rfl) hnw hg kw.2.1 kw.2.2.2.2.2 rp m1 e0 e1 kw.1 (fun ss2 W w2 nw2 a b c e f1 f2 f3 f4 f5 f6 f7 f8 f9 => ⟨rfl, ss2, W, w2, nw2, rfl, a, b, c, e, f1, f2, f3, f4, f5, f6, f7, f8, f9⟩)
  rw [er, ez] at ex
  obtain ⟨L1, G1⟩ := h.BO bo
  have n1 : nw1 ≤ 180000 := by
    rcases G1.2 with ⟨_, _, e⟩ | ⟨_, _, e, _⟩
    · omega
    · exact e
  obtain ⟨r, f', l, wf, hr, hl, hf', ic, im⟩ := p_both (nw := nw1) hX hk (by omega) le m1
  have rr : ax_rg r := by rcases hr with e | e | e <;> rw [e] <;> decide
  have cb : p_CB M0 P n o i0 most wd V1 := ⟨⟨fun c a b => by rw [f c (by simp; omega)]; exact hP c a b, g⟩, ⟨c1, c2, c13, c14, fun z => by rw [c15]; exact ep z, c16, c17⟩, tz⟩
  obtain ⟨x, V2, rx, g2, ⟨exr, ce⟩, ex2⟩ := ax_I.E (ss := ss1) (ic V1 cb B w1 d (fun x W => x = r ∧ p_CE V1 W f' l wf) (fun _ => False) (fun W z => ⟨rfl, z⟩)) L1.P
  rw [exr] at ex2
  obtain ⟨⟨a1, a2, a3, a4⟩, b1, b2, b3⟩ := ce
  refine ⟨ss1, V1, r, f', l, wf, w1, _, _, ex, L1.at 9 rfl, by rw [L1.at 0 rfl, h.at 0 rfl], rr, hr, hl, hf', ⟨_, ex2, ss1, V2, rfl, rfl, ss1, V2, w1, nw1, rfl, L1, G1, fun c z => ?_, a4, by rw [a3 0 (by decide) (by decide)]; exact c0, b1, b2, b3⟩, im⟩
  rw [a1 c z]
  simp only [List.mem_cons, List.not_mem_nil, or_false, not_or] at z
  exact f c (by simp; omega)
set_option maxHeartbeats 2000000 in
/-- House.prove -/
theorem t_proveH (h : y_L B Sp w nw m p ss) (B150 : B + 74 ≤ 150) (hX : h_X C0 M0 P F G Hh S U J Im) (hP : ∀ c, 500 ≤ c → c ≤ 573 → V c = P c) (hg : ax_g V) (hc : V 500 0 = (M0 222 86)) (hU : ∀ m, 0 ≤ m → m < (M0 222 86) → V 513 m = J m ∧ V 514 m = U m) (hnw : nw ≤ 180000) (rk : ax_rg k) (ri : ax_rg i) (rm : ax_rg most) :
    ax_E ss (d + 29) q_House_prove [.ref 0, ax_i k, ax_i i, ax_i most] V (fun res z => (¬ p_pv M0 U J k i most ∧ res = some (ax_i (-1)) ∧ z = ax_w ss V) ∨ (p_pv M0 U J k i most ∧ ∃ (r f' l : Int) (wf : Int → Int), res = some (ax_i r) ∧ (r = 0 ∨ r = 1 ∨ r = 2) ∧ (0 ≤ l ∧ l ≤ 300) ∧ (0 ≤ f' ∧ f' ≤ 300) ∧ y_PO B Sp w nw ss V r f' l wf z ∧
      ∀ N, h_RM C0 M0 S U J Im N → ax_g N → ∀ (d : Nat) (Φ : Int → ax_V → Prop) (Θ : ax_V → Prop), (∀ W, p_NH N W → W 222 113 = 1 → W 222 115 = f' → W 222 120 = l → (∀ i, 0 ≤ i → i < l → W 312 i = wf i) → Φ r W) → ax_I ay_lay (d + 83) q_Model_search [.ref 222, ax_i k, ax_i i, ax_i (-1), ax_i most] N Φ Θ)) := by
  have h0 := h.at 0 rfl
  have hN := hX.hS.2.1
  have kB : ss[B]? = (az_P B)[0]? := h.2.1 0 _ rfl
  refine ax_E.of (M := m_House_prove) rfl (Nat.le_of_ble_eq_true rfl) ?_
  obtain ⟨Q, eQ⟩ : ∃ Q : Option Value → List va_E → Prop, Q = (fun res z => (¬ p_pv M0 U J k i most ∧ res = some (ax_i (-1)) ∧ z = ax_w ss V) ∨ (p_pv M0 U J k i most ∧ ∃ (r f' l : Int) (wf : Int → Int), res = some (ax_i r) ∧ (r = 0 ∨ r = 1 ∨ r = 2) ∧ (0 ≤ l ∧ l ≤ 300) ∧ (0 ≤ f' ∧ f' ≤ 300) ∧ y_PO B Sp w nw ss V r f' l wf z ∧
      ∀ N, h_RM C0 M0 S U J Im N → ax_g N → ∀ (d : Nat) (Φ : Int → ax_V → Prop) (Θ : ax_V → Prop), (∀ W, p_NH N W → W 222 113 = 1 → W 222 115 = f' → W 222 120 = l → (∀ i, 0 ≤ i → i < l → W 312 i = wf i) → Φ r W) → ax_I ay_lay (d + 83) q_Model_search [.ref 222, ax_i k, ax_i i, ax_i (-1), ax_i most] N Φ Θ)) := ⟨_, rfl⟩
  rw [← eQ]
  have out : ¬ p_pv M0 U J k i most → Q (some (ax_i (-1))) (ax_w ss V) := fun z => by rw [eQ]; exact Or.inl ⟨z, rfl, rfl⟩
  have bad : ¬ p_pv M0 U J k i most → ax_Q ss (d + 28) m_House_prove 37 [some (.ref 0), some (ax_i k), some (ax_i i), some (ax_i most), none] [] V Q := fun z => by
    refine ax_Q.mv 1 38 [some (.ref 0), some (ax_i k), some (ax_i i), some (ax_i most), none] [ax_i (-1)] rfl ?_
    exact ax_Q.iret ⟨_, rfl⟩ rfl rfl (out z)
  show ax_Q ss (d + 28) m_House_prove 0 [some (.ref 0), some (ax_i k), some (ax_i i), some (ax_i most), none] [] V Q
  obtain ⟨x, rx, hx, ex⟩ := y_can (d := d) (k := k) h hX hP hg hc hU rk
  refine ax_Q.mv 2 2 [some (.ref 0), some (ax_i k), some (ax_i i), some (ax_i most), none] [ax_i k, .ref 0] rfl ?_
  refine ax_Q.callv (v := some (ax_i x)) (rest := []) (pc' := 5) ⟨_, rfl⟩ ml_11_212 rfl h0 (Nat.le_of_ble_eq_true rfl) (ai_nt_i _) rfl (ex.up (by omega)) ?_
  refine ax_Q.if1 (p1 := 37) (p2 := 8) ⟨_, rfl⟩ (by decide) rfl rx (fun hq => ?_) (fun hq => ?_)
  · have hq' : x = 0 := hq
    refine bad (fun z => ?_)
    rcases hx with ⟨e, _⟩ | ⟨_, e⟩
    · omega
    · exact e z.1
  have hq' : ¬ x = 0 := hq
  have cp : p_cp M0 U J k := by
    rcases hx with ⟨_, e⟩ | ⟨e, _⟩
    · exact e
    · omega
  have k0 := cp.1.1
  have k8 : 0 ≤ k ∧ k < 8 := ⟨k0.1, by omega⟩
  obtain ⟨⟨e503, e504⟩, ⟨q1, q2, q3⟩, inp, outp⟩ := p_let hX hP k0
  refine ax_Q.mv 2 10 [some (.ref 0), some (ax_i k), some (ax_i i), some (ax_i most), none] [ax_i 1, ax_i most] rfl ?_
  refine ax_Q.if2 (p1 := 37) (p2 := 13) ⟨_, rfl⟩ (by decide) rfl rm (by decide) (fun hq => ?_) (fun hq => ?_)
  · have hq1 : most < 1 := hq
    exact bad (fun z => by have := z.2.2.2; omega)
  have m1 : ¬ most < 1 := hq
  refine ax_Q.mv 1 14 [some (.ref 0), some (ax_i k), some (ax_i i), some (ax_i most), none] [ax_i most] rfl ?_
  refine ax_Q.sip (n := 300) (pc' := 17) ⟨_, rfl⟩ (by decide) rfl ?_
  refine ax_Q.if2 (p1 := 37) (p2 := 20) ⟨_, rfl⟩ (by decide) rfl rm (by decide) (fun hq => ?_) (fun hq => ?_)
  · have hq1 : 300 < most := hq
    exact bad (fun z => by have := z.2.2.2; omega)
  have m2 : ¬ 300 < most := hq
  refine ax_Q.mv 1 21 [some (.ref 0), some (ax_i k), some (ax_i i), some (ax_i most), none] [ax_i i] rfl ?_
  refine ax_Q.if1 (p1 := 37) (p2 := 24) ⟨_, rfl⟩ (by decide) rfl ri (fun hq => ?_) (fun hq => ?_)
  · have hq1 : i < 0 := hq
    exact bad (fun z => by have := z.2.1; omega)
  have i1 : ¬ i < 0 := hq
  refine ax_Q.mv 2 26 [some (.ref 0), some (ax_i k), some (ax_i i), some (ax_i most), none] [.ref 0, ax_i i] rfl ?_
  refine ax_Q.gR (v := .ref B) (pc' := 29) ⟨_, rfl⟩ fl_11_16 h0 rfl rfl ?_
  refine ax_Q.gR (v := .ref (B + 4)) (pc' := 32) ⟨_, rfl⟩ fl_11_118 kB rfl rfl ?_
  refine ax_Q.mv 1 33 [some (.ref 0), some (ax_i k), some (ax_i i), some (ax_i most), none] [ax_i k, .ref (B + 4), ax_i i] rfl ?_
  refine ax_Q.ild (n := 8) (id := 504) (pc' := 34) ⟨_, rfl⟩ (h.2.1 4 _ rfl) (by decide) k8 rfl ?_
  rw [e504]
  refine ax_Q.if2 (p1 := 39) (p2 := 37) ⟨_, rfl⟩ (by decide) rfl ri ⟨by omega, by omega⟩ (fun hq => ?_) (fun hq => ?_)
  rotate_left
  · have hq1 : ¬ i < M0 228 k := hq
    exact bad (fun z => by have := z.2.1; omega)
  have i2 : i < M0 228 k := hq
  have oi := outp i (by omega) i2
  have o26 := oi.2.1
  refine ax_Q.mv 1 40 [some (.ref 0), some (ax_i k), some (ax_i i), some (ax_i most), none] [.ref 0] rfl ?_
  refine ax_Q.gR (v := .ref B) (pc' := 43) ⟨_, rfl⟩ fl_11_16 h0 rfl rfl ?_
  refine ax_Q.gR (v := .ref (B + 7)) (pc' := 46) ⟨_, rfl⟩ fl_11_181 kB rfl rfl ?_
  refine ax_Q.mv 1 47 [some (.ref 0), some (ax_i k), some (ax_i i), some (ax_i most), none] [ax_i k, .ref (B + 7)] rfl ?_
  refine ax_Q.bip (n := 26) (pc' := 49) ⟨_, rfl⟩ (by decide) rfl ?_
  refine ax_Q.mul (pc' := 50) ⟨_, rfl⟩ rfl ?_
  refine ax_Q.mv 1 51 [some (.ref 0), some (ax_i k), some (ax_i i), some (ax_i most), none] [ax_i i, ax_i (k * 26), .ref (B + 7)] rfl ?_
  refine ax_Q.add (pc' := 52) ⟨_, rfl⟩ rfl ?_
  refine ax_Q.ild (n := 208) (id := 507) (pc' := 53) ⟨_, rfl⟩ (h.2.1 7 _ rfl) (by decide) ⟨by omega, by omega⟩ rfl ?_
  rw [show k * 26 + i = 26 * k + i by omega, oi.1]
  obtain ⟨s, es⟩ : ∃ s : Int, s = 26 * k + M0 231 (26 * k + i) := ⟨_, rfl⟩
  have st := oi.2.2.1
  rw [← es] at st ⊢
  have rs : ax_rg s := ⟨by omega, by omega⟩
  refine ax_Q.sti (k := 4) (n := 2) (L' := [some (.ref 0), some (ax_i k), some (ax_i i), some (ax_i most), some (ax_i s)]) (pc' := 55) ⟨_, rfl⟩ rfl rfl rfl (Nat.le_of_ble_eq_true rfl) rfl rfl ?_
  refine ax_Q.mv 1 56 [some (.ref 0), some (ax_i k), some (ax_i i), some (ax_i most), some (ax_i s)] [.ref 0] rfl ?_
  refine ax_Q.gR (v := .ref B) (pc' := 59) ⟨_, rfl⟩ fl_11_16 h0 rfl rfl ?_
  refine ax_Q.gR (v := .ref (B + 32)) (pc' := 62) ⟨_, rfl⟩ fl_11_145 kB rfl rfl ?_
  refine ax_Q.gR (v := .ref (B + 35)) (pc' := 65) ⟨_, rfl⟩ fl_11_149 (h.2.1 32 _ rfl) rfl rfl ?_
  refine ax_Q.mv 1 67 [some (.ref 0), some (ax_i k), some (ax_i i), some (ax_i most), some (ax_i s)] [ax_i s, .ref (B + 35)] rfl ?_
  refine ax_Q.ild (n := 208) (id := 535) (pc' := 68) ⟨_, rfl⟩ (h.2.1 35 _ rfl) (by decide) ⟨by omega, by omega⟩ rfl ?_
  rw [st]
  refine ax_Q.mv 1 69 [some (.ref 0), some (ax_i k), some (ax_i i), some (ax_i most), some (ax_i s)] [ax_i 1, ax_i (M0 233 (26 * k + M0 231 (26 * k + i)))] (by rw [← es]; rfl) ?_
  have ty := oi.2.2.2
  refine ax_Q.if2 (p1 := 74) (p2 := 72) ⟨_, rfl⟩ (by decide) rfl ⟨by omega, by omega⟩ (by decide) (fun hq => ?_) (fun hq => ?_)
  rotate_left
  · have hq1 : ¬ M0 233 (26 * k + M0 231 (26 * k + i)) = 1 := hq
    refine ax_Q.mv 1 73 [some (.ref 0), some (ax_i k), some (ax_i i), some (ax_i most), some (ax_i s)] [ax_i (-1)] rfl ?_
    exact ax_Q.iret ⟨_, rfl⟩ rfl rfl (out (fun z => hq1 z.2.2.1))
  have t1 : M0 233 (26 * k + M0 231 (26 * k + i)) = 1 := hq
  have pv : p_pv M0 U J k i most := ⟨cp, ⟨by omega, i2⟩, t1, by omega, by omega⟩
  obtain ⟨ss1, V1, r, f', l, wf, w1, m3, p3, ex1, k157, k0', rr, hr, hl, hf', ⟨z, ex2, ss2, V2, es2, ez, po⟩, im⟩ := y_search (d := d) (most := most) (pv := s) h B150 hX hP hg hU hnw pv.ok ⟨by omega, by omega⟩ rs (fun _ => es)
  refine ax_Q.mv 1 75 [some (.ref 0), some (ax_i k), some (ax_i i), some (ax_i most), some (ax_i s)] [.ref 0] rfl ?_
  refine ax_Q.gR (v := .ref 157) (pc' := 78) ⟨_, rfl⟩ fl_11_41 h0 rfl rfl ?_
  refine ax_Q.mv 1 79 [some (.ref 0), some (ax_i k), some (ax_i i), some (ax_i most), some (ax_i s)] [.ref 0, .ref 157] rfl ?_
  refine ax_Q.gR (v := .ref 150) (pc' := 82) ⟨_, rfl⟩ fl_11_28 h0 rfl rfl ?_
  refine ax_Q.mv 4 87 [some (.ref 0), some (ax_i k), some (ax_i i), some (ax_i most), some (ax_i s)] [ax_i most, ax_i s, ax_i (-1), ax_i k, .ref 150, .ref 157] rfl ?_
  refine ax_Q.callv (v := none) (rest := []) (pc' := 90) ⟨_, rfl⟩ ml_11_215 rfl (h.at 9 rfl) (Nat.le_of_ble_eq_true rfl) ai_nt_n rfl (ex1.up (by omega)) ?_
  refine ax_Q.mv 1 91 [some (.ref 0), some (ax_i k), some (ax_i i), some (ax_i most), some (ax_i s)] [.ref 0] rfl ?_
  refine ax_Q.gR (v := .ref 157) (pc' := 94) ⟨_, rfl⟩ fl_11_41 (k0'.trans h0) rfl rfl ?_
  rw [ez] at ex2
  refine ax_Q.callv (v := some (ax_i r)) (rest := []) (pc' := 97) ⟨_, rfl⟩ ml_11_218 rfl k157 (Nat.le_of_ble_eq_true rfl) (ai_nt_i _) rfl ex2 ?_
  refine ax_Q.iret ⟨_, rfl⟩ rfl rfl ?_
  rw [eQ]
  exact Or.inr ⟨pv, r, f', l, wf, rfl, hr, hl, hf', by rw [← ez]; exact po, im⟩
end HProve
