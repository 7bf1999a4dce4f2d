/-! PROVING, the model: prove, alike, run -/
def p_pv (M : ax_V) (U J : Int → Int) (k i most : Int) : Prop := p_cp M U J k ∧ (0 ≤ i ∧ i < M 228 k) ∧ M 233 (26 * k + M 231 (26 * k + i)) = 1 ∧ 1 ≤ most ∧ most ≤ 300
def p_al (M : ax_V) (U J : Int → Int) (k o most : Int) : Prop := p_cp M U J k ∧ p_cp M U J o ∧ M 227 k = M 227 o ∧ p_so M k o ∧ 1 ≤ most ∧ most ≤ 300
/-- what prove and alike change in the model -/
def p_NV (N W : ax_V) : Prop := g_fr [222, 291, 292, 293, 294, 295, 296, 297, 298, 309, 310, 311, 312, 313] N W ∧ g_sc [0, 101, 113, 114, 115, 116, 120, 123] N W ∧ ax_g W
theorem p_pv.ok {M : ax_V} {U J : Int → Int} {k i most : Int} (h : p_pv M U J k i most) : p_ok M U J k (-1) i (U k) := ⟨⟨h.1.1, h.1.2.1⟩, Or.inl ⟨rfl, rfl, h.2.1⟩⟩
theorem p_al.ok {M : ax_V} {U J : Int → Int} {k o most : Int} (h : p_al M U J k o most) : p_ok M U J k o 0 (U k + U o) := ⟨⟨h.1.1, h.1.2.1⟩, Or.inr ⟨⟨h.2.1.1, h.2.1.2.1⟩, h.2.2.1.symm, h.2.2.2.1.1, rfl, by decide⟩⟩
section MProve2
variable {d : Nat} {C0 M0 P V W N : ax_V} {F G Hh S U J Im wf : Int → Int} {k o x i most r f' l : Int} {Φ : Int → ax_V → Prop} {Ψ Θ : ax_V → Prop}
set_option maxHeartbeats 1000000 in
theorem s_proveM (hX : h_X C0 M0 P F G Hh S U J Im) (hV : h_RM C0 M0 S U J Im N) (hg : ax_g N) (hc : N 222 86 = (M0 222 86)) (th : ¬ N 222 7 = 0) (rk : ax_rg k) (ri : ax_rg i) (rm : ax_rg most) (rr : ax_rg r)
    (hs : p_pv M0 U J k i most → ∀ N, h_RM C0 M0 S U J Im N → ax_g N → ∀ (d : Nat) (Φ : Int → ax_V → Prop) (Θ : ax_V → Prop), (∀ W, p_NH N W → W 222 113 = 1 → W 222 115 = f' → W 222 120 = l → (∀ i, 0 ≤ i → i < l → W 312 i = wf i) → Φ r W) → ax_I ay_lay (d + 83) q_Model_search [.ref 222, ax_i k, ax_i i, ax_i (-1), ax_i most] N Φ Θ)
    (h0 : ¬ p_pv M0 U J k i most → ∀ W, W = ax_u N 222 0 0 → Φ (-1) W)
    (h1 : p_pv M0 U J k i most → ∀ W, p_NV N W → W 222 0 = 0 → W 222 113 = 1 → W 222 115 = f' → W 222 120 = l → (∀ i, 0 ≤ i → i < l → W 312 i = wf i) → Φ r W) : ax_I ay_lay (d + 84) q_Model_prove [.ref 222, ax_i k, ax_i i, ax_i most] N Φ Θ := by
  refine r_Model_prove (d := d + 83) hg rk ri rm (fun V1 e1 => ?_)
  have k1 : ∀ c, ¬ c = 222 → V1 c = N c := fun c z => by rw [e1]; exact ax_u_ne z
  have s1 : ∀ f, ¬ f = 0 → V1 222 f = N 222 f := fun f z => by rw [e1]; exact ax_u_k z
  have g1 : ax_g V1 := by rw [e1]; exact ax_u_g hg (by decide)
  have hV1 : h_RM C0 M0 S U J Im V1 := hV.gen (fun c a b => k1 c (by omega)) (fun k z => s1 k (by omega))
  refine ax_I.lay (fun _ z => z) (show d + 79 + 4 ≤ d + 83 by omega) (s_canBeFed (d := d + 79) hX hV1 g1 (by rw [s1 86 (by decide)]; exact hc) (by rw [s1 7 (by decide)]; exact th) rk (fun cp => ⟨fun z => absurd z (by decide), fun _ => ?_⟩) (fun cp => ⟨fun _ => h0 (fun w => cp w.1) V1 e1, fun z => absurd rfl z⟩))
  have k0 := cp.1.1
  have hN := hX.hS.2.1
  have fl := hX.hS.fl k0.1 k0.2
  have b26 := (f_cn_le M0 k 26).2
  have q1 := fl.2.2.2.1
  have q2 := fl.2.1.2
  have q3 := fl.2.2.1.2
  have q4 := fl.1.2
  have cell : ∀ c, 226 ≤ c → c ≤ 277 → c ∉ h_CM → V1 c = M0 c := hV1.1
  rw [cell 228 (by decide) (by decide) (by decide)]
  refine ⟨⟨k0.1, by omega⟩, s_within2 (d := d + 82) g1 ri (by decide) ⟨by omega, by omega⟩ ?_⟩
  by_cases zi : 0 ≤ i ∧ i ≤ M0 228 k - 1
  · rw [if_pos zi]
    have op := fl.2.2.2.2.2.1 i zi.1 (by omega)
    have o26 := op.2.1
    have st := hX.hS.sort k0.1 k0.2 o26.1 o26.2 (by omega)
    refine ⟨fun z => absurd z (by decide), fun _ => ⟨⟨by omega, by omega⟩, ?_⟩⟩
    rw [cell 231 (by decide) (by decide) (by decide), cell 233 (by decide) (by decide) (by decide)]
    refine ⟨⟨by omega, by omega⟩, fun z => h0 (fun w => by have := w.2.2.1; omega) V1 e1, fun z => s_within2 (d := d + 82) g1 rm (by decide) (by decide) ?_⟩
    by_cases zm : 1 ≤ most ∧ most ≤ 300
    · rw [if_pos zm]
      have pv : p_pv M0 U J k i most := ⟨cp, ⟨zi.1, by omega⟩, by have := st.2; omega, zm⟩
      refine ⟨fun z => absurd z (by decide), fun _ => hs pv V1 hV1 g1 d _ Θ (fun W nh w1 w2 w3 w4 V6 e6 => ?_)⟩
      have e5 : V6 222 114 = r := by rw [e6, ax_u_s]
      have u6 : ∀ f, ¬ f = 114 → V6 222 f = W 222 f := fun f z => by rw [e6, ax_u_k z]
      rw [e5]
      refine h1 pv V6 ⟨fun c z => ?_, fun f z => ?_, by rw [e6]; exact ax_u_g nh.2.2 rr⟩ ?_ (by rw [u6 113 (by decide)]; exact w1) (by rw [u6 115 (by decide)]; exact w2) (by rw [u6 120 (by decide)]; exact w3) (fun j a b => by rw [e6, ax_u_ne (by decide)]; exact w4 j a b)
      · have z' := z
        simp only [List.mem_cons, List.not_mem_nil, or_false, not_or] at z
        rw [e6, ax_u_ne z.1, nh.1 c z', k1 c z.1]
      · simp only [List.mem_cons, List.not_mem_nil, or_false, not_or] at z
        rw [u6 f (by omega), nh.2.1 f (by simp; omega), s1 f z.1]
      · rw [u6 0 (by decide), nh.2.1 0 (by decide), e1, ax_u_s]
    · rw [if_neg zm]
      exact ⟨fun _ => h0 (fun w => zm w.2.2.2) V1 e1, fun z => absurd rfl z⟩
  · rw [if_neg zi]
    exact ⟨fun _ => h0 (fun w => by have := w.2.1; omega) V1 e1, fun z => absurd rfl z⟩
set_option maxHeartbeats 1000000 in
theorem s_alikeM (hX : h_X C0 M0 P F G Hh S U J Im) (hV : h_RM C0 M0 S U J Im N) (hg : ax_g N) (hc : N 222 86 = (M0 222 86)) (th : ¬ N 222 7 = 0) (rk : ax_rg k) (ro : ax_rg o) (rm : ax_rg most) (rr : ax_rg r)
    (hs : p_al M0 U J k o most → ∀ N, h_RM C0 M0 S U J Im N → ax_g N → ∀ (d : Nat) (Φ : Int → ax_V → Prop) (Θ : ax_V → Prop), (∀ W, p_NH N W → W 222 113 = 1 → W 222 115 = f' → W 222 120 = l → (∀ i, 0 ≤ i → i < l → W 312 i = wf i) → Φ r W) → ax_I ay_lay (d + 83) q_Model_search [.ref 222, ax_i k, ax_i 0, ax_i o, ax_i most] N Φ Θ)
    (h0 : ¬ p_al M0 U J k o most → ∀ W, W = ax_u N 222 0 0 → Φ (-1) W)
    (h1 : p_al M0 U J k o most → ∀ W, p_NV N W → W 222 0 = 0 → W 222 113 = 1 → W 222 115 = f' → W 222 120 = l → (∀ i, 0 ≤ i → i < l → W 312 i = wf i) → Φ r W) : ax_I ay_lay (d + 84) q_Model_alike [.ref 222, ax_i k, ax_i o, ax_i most] N Φ Θ := by
  refine r_Model_alike (d := d + 83) hg rk ro rm (fun V1 e1 => ?_)
  have k1 : ∀ c, ¬ c = 222 → V1 c = N c := fun c z => by rw [e1]; exact ax_u_ne z
  have s1 : ∀ f, ¬ f = 0 → V1 222 f = N 222 f := fun f z => by rw [e1]; exact ax_u_k z
  have g1 : ax_g V1 := by rw [e1]; exact ax_u_g hg (by decide)
  have hV1 : h_RM C0 M0 S U J Im V1 := hV.gen (fun c a b => k1 c (by omega)) (fun k z => s1 k (by omega))
  have c1 : V1 222 86 = (M0 222 86) := by rw [s1 86 (by decide)]; exact hc
  have t1 : ¬ V1 222 7 = 0 := by rw [s1 7 (by decide)]; exact th
  refine ax_I.lay (fun _ z => z) (show d + 79 + 4 ≤ d + 83 by omega) (s_canBeFed (d := d + 79) hX hV1 g1 c1 t1 rk (fun cp => ⟨fun z => absurd z (by decide), fun _ => ?_⟩) (fun cp => ⟨fun _ => h0 (fun w => cp w.1) V1 e1, fun z => absurd rfl z⟩))
  refine ax_I.lay (fun _ z => z) (show d + 79 + 4 ≤ d + 83 by omega) (s_canBeFed (d := d + 79) hX hV1 g1 c1 t1 ro (fun cp2 => ⟨fun z => absurd z (by decide), fun _ => ?_⟩) (fun cp2 => ⟨fun _ => h0 (fun w => cp2 w.2.1) V1 e1, fun z => absurd rfl z⟩))
  have k0 := cp.1.1
  have o0 := cp2.1.1
  have hN := hX.hS.2.1
  have fl := hX.hS.fl k0.1 k0.2
  have fl2 := hX.hS.fl o0.1 o0.2
  have b26 := (f_cn_le M0 k 26).2
  have q1 := fl.2.2.2.1
  have q2 := fl.2.1.2
  have q3 := fl.2.2.1.2
  have q4 := fl.1.2
  have cell : ∀ c, 226 ≤ c → c ≤ 277 → c ∉ h_CM → V1 c = M0 c := hV1.1
  have k9 : 0 ≤ k ∧ k < 9 := ⟨k0.1, by omega⟩
  have o9 : 0 ≤ o ∧ o < 9 := ⟨o0.1, by omega⟩
  rw [cell 227 (by decide) (by decide) (by decide), cell 228 (by decide) (by decide) (by decide)]
  refine ⟨k9, o9, fun ei => ⟨k9, o9, fun eo => s_within2 (d := d + 82) g1 rm (by decide) (by decide) ?_, fun eo => h0 (fun w => eo w.2.2.2.1.1) V1 e1⟩, fun ei => h0 (fun w => ei w.2.2.1) V1 e1⟩
  by_cases zm : 1 ≤ most ∧ most ≤ 300
  · rw [if_pos zm]
    refine ⟨fun z => absurd z (by decide), fun _ => ?_⟩
    refine ax_for (I := fun i X => ((0 ≤ i ∧ i ≤ M0 228 k) ∧ ∀ j, 0 ≤ j → j < i → M0 233 (26 * k + M0 231 (26 * k + j)) = M0 233 (26 * o + M0 231 (26 * o + j))) ∧ X = V1) (K := fun i X => k_Model_alike_67 (d + 83) k o most i X Φ Θ) (hi := M0 228 k) (fun i X wi hI nx => ?_) (fun i X wi hI => ?_) 0 V1 ⟨⟨⟨Int.le_refl _, q2⟩, fun j a b => by omega⟩, rfl⟩
    · obtain ⟨⟨ib, iX⟩, eX⟩ := hI
      have op := (fl.2.2.2.2.2.1 i ib.1 wi).2.1
      have op2 := (fl2.2.2.2.2.2.1 i ib.1 (by omega)).2.1
      rw [eX]
      refine r_Model_alike_67 g1 rk ro rm ⟨by omega, by omega⟩ ⟨k9, ?_⟩
      rw [cell 228 (by decide) (by decide) (by decide), cell 231 (by decide) (by decide) (by decide), cell 233 (by decide) (by decide) (by decide)]
      refine ⟨fun v => by omega, fun _ => ⟨⟨by omega, by omega⟩, ⟨by omega, by omega⟩, ⟨by omega, by omega⟩, ⟨by omega, by omega⟩, fun e => nx V1 ⟨⟨⟨by omega, by omega⟩, fun j a b => ?_⟩, rfl⟩, fun e => h0 (fun w => e (w.2.2.2.1.2 i ib.1 wi)) V1 e1⟩⟩
      by_cases yy : j = i
      · rw [yy]; exact e
      · exact iX j a (by omega)
    · obtain ⟨⟨ib, iX⟩, eX⟩ := hI
      have al : p_al M0 U J k o most := ⟨cp, cp2, ei, ⟨eo, fun j a b => iX j a (by omega)⟩, zm⟩
      rw [eX]
      refine r_Model_alike_67 g1 rk ro rm ⟨by omega, by omega⟩ ⟨k9, ?_⟩
      rw [cell 228 (by decide) (by decide) (by decide)]
      refine ⟨fun _ => hs al V1 hV1 g1 d _ Θ (fun W nh w1 w2 w3 w4 V6 e6 => ?_), fun v => by omega⟩
      have e5 : V6 222 114 = r := by rw [e6, ax_u_s]
      have u6 : ∀ f, ¬ f = 114 → V6 222 f = W 222 f := fun f z => by rw [e6, ax_u_k z]
      rw [e5]
      refine h1 al V6 ⟨fun c z => ?_, fun f z => ?_, by rw [e6]; exact ax_u_g nh.2.2 rr⟩ ?_ (by rw [u6 113 (by decide)]; exact w1) (by rw [u6 115 (by decide)]; exact w2) (by rw [u6 120 (by decide)]; exact w3) (fun j a b => by rw [e6, ax_u_ne (by decide)]; exact w4 j a b)
      · have z' := z
        simp only [List.mem_cons, List.not_mem_nil, or_false, not_or] at z
        rw [e6, ax_u_ne z.1, nh.1 c z', k1 c z.1]
      · simp only [List.mem_cons, List.not_mem_nil, or_false, not_or] at z
        rw [u6 f (by omega), nh.2.1 f (by simp; omega), s1 f z.1]
      · rw [u6 0 (by decide), nh.2.1 0 (by decide), e1, ax_u_s]
  · rw [if_neg zm]
    exact ⟨fun _ => h0 (fun w => zm w.2.2.2.2) V1 e1, fun z => absurd rfl z⟩
/-- without a module nothing can be proved -/
theorem s_prove0 (hg : ax_g N) (th : N 222 7 = 0) (rk : ax_rg k) (ri : ax_rg i) (rm : ax_rg most) (h0 : ∀ W, W = ax_u N 222 0 0 → Φ (-1) W) : ax_I ay_lay (d + 5) q_Model_prove [.ref 222, ax_i k, ax_i i, ax_i most] N Φ Θ := by
  refine r_Model_prove (d := d + 4) hg rk ri rm (fun V1 e1 => ?_)
  have s1 : ∀ f, ¬ f = 0 → V1 222 f = N 222 f := fun f z => by rw [e1]; exact ax_u_k z
  have g1 : ax_g V1 := by rw [e1]; exact ax_u_g hg (by decide)
  refine r_Model_canBeFed (d := d + 3) g1 rk (s_canBe (d := d) g1 rk (fun w => absurd (by rw [s1 7 (by decide)]; exact th) w) ?_)
  rw [if_neg (fun w => w.1.1 (by rw [s1 7 (by decide)]; exact th))]
  exact ⟨fun _ => ⟨fun _ => h0 V1 e1, fun z => absurd rfl z⟩, fun z => absurd rfl z⟩
theorem s_alike0 (hg : ax_g N) (th : N 222 7 = 0) (rk : ax_rg k) (ro : ax_rg o) (rm : ax_rg most) (h0 : ∀ W, W = ax_u N 222 0 0 → Φ (-1) W) : ax_I ay_lay (d + 5) q_Model_alike [.ref 222, ax_i k, ax_i o, ax_i most] N Φ Θ := by
  refine r_Model_alike (d := d + 4) hg rk ro rm (fun V1 e1 => ?_)
  have s1 : ∀ f, ¬ f = 0 → V1 222 f = N 222 f := fun f z => by rw [e1]; exact ax_u_k z
  have g1 : ax_g V1 := by rw [e1]; exact ax_u_g hg (by decide)
  refine r_Model_canBeFed (d := d + 3) g1 rk (s_canBe (d := d) g1 rk (fun w => absurd (by rw [s1 7 (by decide)]; exact th) w) ?_)
  rw [if_neg (fun w => w.1.1 (by rw [s1 7 (by decide)]; exact th))]
  exact ⟨fun _ => ⟨fun _ => h0 V1 e1, fun z => absurd rfl z⟩, fun z => absurd rfl z⟩
/-- run: what was told -/
def p_run (told l f : Int) (wf : Int → Int) (x : Int) : Int := if told = 0 then -1 else if x = -1 then l else if x = -2 then f else if 0 ≤ x ∧ x < l then wf x else -1
theorem s_runM (hg : ax_g N) (rx : ax_rg x) (hl : 0 ≤ N 222 120 ∧ N 222 120 ≤ 300) (h : ∀ W, W = ax_u N 222 0 0 → Φ (p_run (N 222 113) (N 222 120) (N 222 115) (N 312) x) W) : ax_I ay_lay (d + 2) q_Model_run [.ref 222, ax_i x] N Φ Θ := by
  refine r_Model_run (d := d + 1) hg rx (fun V1 e1 => ?_)
  have s1 : ∀ f, ¬ f = 0 → V1 222 f = N 222 f := fun f z => by rw [e1]; exact ax_u_k z
  have g1 : ax_g V1 := by rw [e1]; exact ax_u_g hg (by decide)
  have h' := h V1 e1
  unfold p_run at h'
  rw [s1 113 (by decide), s1 120 (by decide), s1 115 (by decide)]
  refine ⟨fun z => by rw [if_pos z] at h'; exact h', fun z => ?_⟩
  rw [if_neg z] at h'
  refine ⟨fun y => by rw [if_pos y] at h'; exact h', fun y => ?_⟩
  rw [if_neg y] at h'
  refine ⟨fun y2 => by rw [if_pos y2] at h'; exact h', fun y2 => s_within2 (d := d) g1 rx (by decide) ⟨by omega, by omega⟩ ?_⟩
  rw [if_neg y2] at h'
  by_cases w : 0 ≤ x ∧ x ≤ N 222 120 - 1
  · rw [if_pos w]
    rw [if_pos ⟨w.1, by omega⟩] at h'
    refine ⟨fun u => absurd u (by decide), fun _ => ⟨⟨w.1, by omega⟩, ?_⟩⟩
    rw [e1, ax_u_ne (by decide), ← e1]
    exact h'
  · rw [if_neg w]
    rw [if_neg (by omega)] at h'
    exact ⟨fun _ => h', fun u => absurd rfl u⟩
end MProve2
