/-! PROVING, the class's small methods: rows and their table -/
theorem p_and10 (x : Int) : 0 ≤ ax_and x 1023 ∧ ax_and x 1023 < 1024 := by
  have e : ax_and x 1023 = ((Int32.ofInt x).toBitVec &&& (Int32.ofInt 1023).toBitVec).toInt := by unfold ax_and; rw [← Int32.toBitVec_and]; rfl
  have k : (Int32.ofInt 1023).toBitVec.toNat = 1023 := by decide
  have l : ((Int32.ofInt x).toBitVec &&& (Int32.ofInt 1023).toBitVec).toNat ≤ 1023 := by
    rw [BitVec.toNat_and, k]; exact Nat.and_le_right
  rw [e, BitVec.toInt_eq_toNat_of_lt (by omega)]
  omega
theorem p_next_t : ∀ x : Fin 1024, ax_and (((x : Nat) : Int) + 1) 1023 = ((((x : Nat) + 1) % 1024 : Nat) : Int) := by decide +kernel
theorem p_next {s : Int} (h : 0 ≤ s ∧ s < 1024) : ax_and (s + 1) 1023 = (s + 1) % 1024 := by
  have t := p_next_t ⟨s.toNat, by omega⟩
  have e1 : (((⟨s.toNat, by omega⟩ : Fin 1024) : Nat) : Int) = s := by show ((s.toNat : Nat) : Int) = s; omega
  have e2 : (((((⟨s.toNat, by omega⟩ : Fin 1024) : Nat) + 1) % 1024 : Nat) : Int) = (s + 1) % 1024 := by show (((s.toNat + 1) % 1024 : Nat) : Int) = (s + 1) % 1024; omega
  rw [e1, e2] at t
  exact t
/-- so many different places take so long a list -/
theorem p_pig : ∀ (n : Nat) (L : List Int), (∀ s : Int, 0 ≤ s → s < (n : Int) → s ∈ L) → n ≤ L.length := by
  intro n
  induction n with
  | zero => intro L _; exact Nat.zero_le _
  | succ n ih =>
    intro L h
    have m := h (n : Int) (by omega) (by omega)
    have r := ih (L.erase (n : Int)) (fun s s0 s1 => (List.mem_erase_of_ne (by omega)).mpr (h s s0 (by omega)))
    rw [List.length_erase_of_mem m] at r
    have p := List.length_pos_of_mem m
    omega
/-- the number that a row gives -/
def p_hx (f : Int → Int) : Nat → Int
  | 0 => 17
  | n + 1 => ax_wr (p_hx f n * 31 + f n)
theorem p_hx_rg (f : Int → Int) (n : Nat) : ax_rg (p_hx f n) := by
  cases n with
  | zero => show ax_rg 17; decide
  | succ n => exact ax_rg_of _
theorem p_hx_c {f g : Int → Int} : ∀ n : Nat, (∀ j : Int, 0 ≤ j → j < (n : Int) → f j = g j) → p_hx f n = p_hx g n := by
  intro n
  induction n with
  | zero => intro _; rfl
  | succ n ih =>
    intro h
    show ax_wr (p_hx f n * 31 + f n) = ax_wr (p_hx g n * 31 + g n)
    rw [ih (fun j a b => h j a (by omega)), h n (by omega) (by omega)]
/-- where a row is looked for at first -/
def p_h (f : Int → Int) (wd : Int) : Int := ax_and (ax_xor (p_hx f wd.toNat) (ax_ushr (p_hx f wd.toNat) 15)) 1023
theorem p_h_b (f : Int → Int) (wd : Int) : 0 ≤ p_h f wd ∧ p_h f wd < 1024 := p_and10 _
theorem p_h_c {f g : Int → Int} {wd : Int} (w0 : 0 ≤ wd) (h : ∀ j, 0 ≤ j → j < wd → f j = g j) : p_h f wd = p_h g wd := by
  unfold p_h
  rw [p_hx_c wd.toNat (fun j a b => h j a (by omega))]
/-- the table of f rows -/
def p_T (T rows : Int → Int) (wd f : Int) : Prop :=
  (∀ s, 0 ≤ s → s < 1024 → 0 ≤ T s ∧ T s ≤ f) ∧
  (∃ L : List Int, (L.length : Int) ≤ f ∧ ∀ s, 0 ≤ s → s < 1024 → ¬ T s = 0 → s ∈ L) ∧
  ∀ m, 0 ≤ m → m < f → ∃ e, (0 ≤ e ∧ e < 1024) ∧ T ((p_h (fun j => rows (m * wd + j)) wd + e) % 1024) = m + 1 ∧ ∀ e', 0 ≤ e' → e' < e → ¬ T ((p_h (fun j => rows (m * wd + j)) wd + e') % 1024) = 0
/-- a row in sight -/
theorem p_mul {m f wd : Int} (w0 : 0 ≤ wd) (h : m < f) : m * wd + wd ≤ f * wd := by
  have e : m * wd + wd = (m + 1) * wd := by rw [Int.add_mul, Int.one_mul]
  rw [e]
  exact Int.mul_le_mul_of_nonneg_right (by omega) w0
theorem p_T.none {rows : Int → Int} {wd : Int} {T : Int → Int} (h : ∀ s, 0 ≤ s → s < 1024 → T s = 0) : p_T T rows wd 0 := ⟨fun s a b => by rw [h s a b]; exact ⟨Int.le_refl _, Int.le_refl _⟩, ⟨[], by decide, fun s a b z => absurd (h s a b) z⟩, fun m a b => by omega⟩
theorem p_T.free {T rows : Int → Int} {wd f h0 : Int} (h : p_T T rows wd f) (hf : f ≤ 300) (hh : 0 ≤ h0 ∧ h0 < 1024) (all : ∀ e, 0 ≤ e → e < 1024 → ¬ T ((h0 + e) % 1024) = 0) : False := by
  obtain ⟨L, l1, l2⟩ := h.2.1
  have p := p_pig 1024 L (fun s s0 s1 => l2 s s0 (by omega) (by
    have u := all ((s - h0) % 1024) (by omega) (by omega)
    rw [show (h0 + (s - h0) % 1024) % 1024 = s by omega] at u
    exact u))
  omega
theorem p_T.keep {T T' rows rows' : Int → Int} {wd f s e : Int} (h : p_T T rows wd f) (w0 : 0 ≤ wd) (f0 : 0 ≤ f) (s1 : 0 ≤ s ∧ s < 1024) (hz : T s = 0) (hT : T' s = f + 1) (hT' : ∀ j, ¬ j = s → T' j = T j) (hr : ∀ j, j < f * wd → rows' j = rows j) (he : 0 ≤ e ∧ e < 1024) (es : s = (p_h (fun j => rows' (f * wd + j)) wd + e) % 1024) (ch : ∀ e', 0 ≤ e' → e' < e → ¬ T ((p_h (fun j => rows' (f * wd + j)) wd + e') % 1024) = 0) : p_T T' rows' wd (f + 1) := by
  have nz : ∀ j, ¬ T j = 0 → ¬ T' j = 0 := fun j z => by
    by_cases y : j = s
    · rw [y] at z; exact absurd hz z
    · rw [hT' j y]; exact z
  refine ⟨fun j a b => ?_, ?_, fun m a b => ?_⟩
  · by_cases y : j = s
    · rw [y, hT]; exact ⟨by omega, Int.le_refl _⟩
    · rw [hT' j y]; have := h.1 j a b; exact ⟨this.1, by omega⟩
  · obtain ⟨L, l1, l2⟩ := h.2.1
    refine ⟨s :: L, by rw [List.length_cons]; omega, fun j a b z => ?_⟩
    by_cases y : j = s
    · rw [y]; exact List.mem_cons_self
    · rw [hT' j y] at z; exact List.mem_cons_of_mem _ (l2 j a b z)
  · by_cases y : m = f
    · rw [y]
      refine ⟨e, he, by rw [← es]; exact hT, fun e' a' b' => nz _ (ch e' a' b')⟩
    · have lt : m < f := by omega
      have mb := p_mul w0 lt
      have eh : p_h (fun j => rows' (m * wd + j)) wd = p_h (fun j => rows (m * wd + j)) wd := p_h_c w0 (fun j j0 j1 => hr _ (by omega))
      obtain ⟨e2, b2, t2, c2⟩ := h.2.2 m a lt
      rw [eh]
      refine ⟨e2, b2, ?_, fun e' a' b' => nz _ (c2 e' a' b')⟩
      rw [hT' _ (fun z => ?_)]
      · exact t2
      · rw [z, hz] at t2; omega
section CProve
variable {B w nw d : Nat} {C0 M0 P V W : ax_V} {F G Hh S U J Im : Int → Int} {n x m wd f : Int} {Φ : Int → ax_V → Prop} {Ψ Θ : ax_V → Prop}
theorem p_k5 {x i : Int} (h : k_Prover_findSpot_5 B w nw d (ax_wr x) i V Φ Θ) : k_Prover_findSpot_5 B w nw d x i V Φ Θ := by
  unfold k_Prover_findSpot_5 at h ⊢
  rw [ax_i_wr] at h
  exact h
/-- is it this row? -/
theorem t_isRow (hnw : nw ≤ 1000000) (hg : ax_g V) (m0 : 0 ≤ m ∧ m < 300) (hw : V 157 17 = wd) (hwd : 0 ≤ wd ∧ wd ≤ 600) (b : 0 ≤ m * wd ∧ m * wd + wd ≤ (nw : Int)) (h1 : (∀ j, 0 ≤ j → j < wd → V 620 (m * wd + j) = V 160 j) → Φ 1 V) (h0 : (¬ ∀ j, 0 ≤ j → j < wd → V 620 (m * wd + j) = V 160 j) → Φ 0 V) : ax_I (az_W B (az_EP B w nw)) (d + 1) q_Prover_isRow [.ref 157, ax_i m] V Φ Θ := by
  have rm : ax_rg m := ⟨by omega, by omega⟩
  refine r_Prover_isRow hnw hg rm ?_
  refine ax_for (I := fun i X => ((0 ≤ i ∧ i ≤ wd) ∧ ∀ j, 0 ≤ j → j < i → V 620 (m * wd + j) = V 160 j) ∧ X = V) (K := fun i X => k_Prover_isRow_2 B w nw d m i X Φ Θ) (hi := wd) (fun i X wi hI nx => ?_) (fun i X wi hI => ?_) 0 V ⟨⟨⟨Int.le_refl _, hwd.1⟩, fun j a b => by omega⟩, rfl⟩
  · obtain ⟨⟨ib, eq⟩, eX⟩ := hI
    rw [eX]
    refine r_Prover_isRow_2 hnw hg rm ⟨by omega, by omega⟩ ?_
    rw [hw]
    refine ⟨fun z => by omega, fun _ => ⟨⟨by omega, by omega⟩, ⟨ib.1, by omega⟩, fun e => nx V ⟨⟨⟨by omega, by omega⟩, fun j a b => ?_⟩, rfl⟩, fun e => h0 (fun all => e (all i ib.1 wi))⟩⟩
    by_cases y : j = i
    · rw [y]; exact e
    · exact eq j a (by omega)
  · obtain ⟨⟨ib, eq⟩, eX⟩ := hI
    rw [eX]
    refine r_Prover_isRow_2 hnw hg rm ⟨by omega, by omega⟩ ?_
    rw [hw]
    exact ⟨fun _ => h1 (fun j a b => eq j a (by omega)), fun z => by omega⟩
/-- where nextRow is to be entered -/
theorem t_findSpot (hnw : nw ≤ 1000000) (hg : ax_g V) (hw : V 157 17 = wd) (hwd : 0 ≤ wd ∧ wd ≤ 600) (hf : 0 ≤ f ∧ f ≤ 300) (b : f * wd ≤ (nw : Int)) (hT : p_T (V 163) (V 620) wd f)
    (h1 : (∃ m, (0 ≤ m ∧ m < f) ∧ ∀ j, 0 ≤ j → j < wd → V 620 (m * wd + j) = V 160 j) → Φ (-1) V)
    (h0 : (∀ m, 0 ≤ m → m < f → ¬ ∀ j, 0 ≤ j → j < wd → V 620 (m * wd + j) = V 160 j) → ∀ s e, (0 ≤ s ∧ s < 1024) → V 163 s = 0 → (0 ≤ e ∧ e < 1024) → s = (p_h (V 160) wd + e) % 1024 → (∀ e', 0 ≤ e' → e' < e → ¬ V 163 ((p_h (V 160) wd + e') % 1024) = 0) → Φ s V) : ax_I (az_W B (az_EP B w nw)) (d + 2) q_Prover_findSpot [.ref 157] V Φ Θ := by
  refine r_Prover_findSpot (d := d + 1) hnw hg ?_
  have e0 : k_Prover_findSpot_5 B w nw (d + 1) 17 0 V Φ Θ = k_Prover_findSpot_5 B w nw (d + 1) (p_hx (V 160) (0 : Int).toNat) 0 V Φ Θ := rfl
  rw [e0]
  refine ax_for (I := fun i X => (0 ≤ i ∧ i ≤ wd) ∧ X = V) (K := fun i X => k_Prover_findSpot_5 B w nw (d + 1) (p_hx (V 160) i.toNat) i X Φ Θ) (hi := wd) (fun i X wi hI nx => ?_) (fun i X wi hI => ?_) 0 V ⟨⟨Int.le_refl _, hwd.1⟩, rfl⟩
  · obtain ⟨ib, eX⟩ := hI
    have n1 := nx V ⟨⟨by omega, by omega⟩, rfl⟩
    rw [eX]
    refine r_Prover_findSpot_5 hnw hg (p_hx_rg _ _) ⟨by omega, by omega⟩ ?_
    rw [hw]
    refine ⟨fun z => by omega, fun _ => ⟨⟨ib.1, by omega⟩, p_k5 ?_⟩⟩
    have ei : (i + 1).toNat = i.toNat + 1 := by omega
    have n2 : k_Prover_findSpot_5 B w nw (d + 1) (p_hx (V 160) (i + 1).toNat) (i + 1) V Φ Θ := n1
    rw [ei] at n2
    have e3 : p_hx (V 160) (i.toNat + 1) = ax_wr (p_hx (V 160) i.toNat * 31 + V 160 i) := by
      show ax_wr (p_hx (V 160) i.toNat * 31 + V 160 ((i.toNat : Nat) : Int)) = _
      rw [show ((i.toNat : Nat) : Int) = i by omega]
    rw [e3] at n2
    exact n2
  · obtain ⟨ib, eX⟩ := hI
    have ei : i = wd := by omega
    rw [eX, ei]
    refine r_Prover_findSpot_5 hnw hg (p_hx_rg _ _) ⟨by omega, by omega⟩ ?_
    rw [hw]
    refine ⟨fun _ => ?_, fun z => by omega⟩
    have hb := p_h_b (V 160) wd
    have e1 : (p_h (V 160) wd + 0) % 1024 = p_h (V 160) wd := by omega
    show k_Prover_findSpot_44 B w nw (d + 1) (p_h (V 160) wd) 0 V Φ Θ
    rw [← e1]
    refine ax_for (I := fun e X => ((0 ≤ e ∧ e ≤ 1024) ∧ ∀ e', 0 ≤ e' → e' < e → ¬ V 163 ((p_h (V 160) wd + e') % 1024) = 0 ∧ ¬ ∀ j, 0 ≤ j → j < wd → V 620 ((V 163 ((p_h (V 160) wd + e') % 1024) - 1) * wd + j) = V 160 j) ∧ X = V) (K := fun e X => k_Prover_findSpot_44 B w nw (d + 1) ((p_h (V 160) wd + e) % 1024) e X Φ Θ) (hi := 1024) (fun e X we hI nx => ?_) (fun e X we hI => ?_) 0 V ⟨⟨⟨Int.le_refl _, by decide⟩, fun e' a b => by omega⟩, rfl⟩
    · obtain ⟨⟨eb, no⟩, eX⟩ := hI
      rw [eX]
      have bs : 0 ≤ (p_h (V 160) wd + e) % 1024 ∧ (p_h (V 160) wd + e) % 1024 < 1024 := ⟨by omega, by omega⟩
      obtain ⟨s, es⟩ : ∃ s, s = (p_h (V 160) wd + e) % 1024 := ⟨_, rfl⟩
      rw [← es] at bs ⊢
      have tb := hT.1 s bs.1 bs.2
      refine r_Prover_findSpot_44 hnw hg ⟨by omega, by omega⟩ ⟨by omega, by omega⟩ ⟨fun z => by omega, fun _ => ⟨bs, fun z => ?_, fun z => ⟨bs, ?_⟩⟩⟩
      · refine h0 (fun m a b' all => ?_) s e bs z ⟨eb.1, we⟩ es (fun e' a b' => (no e' a b').1)
        have eh : p_h (fun j => V 620 (m * wd + j)) wd = p_h (V 160) wd := p_h_c hwd.1 all
        obtain ⟨e2, b2, t2, c2⟩ := hT.2.2 m a b'
        rw [eh] at t2 c2
        by_cases y : e2 < e
        · have u := (no e2 b2.1 y).2
          rw [t2, show m + 1 - 1 = m by omega] at u
          exact u all
        · by_cases y2 : e2 = e
          · rw [y2, ← es, z] at t2; omega
          · have u := c2 e eb.1 (by omega)
            rw [← es] at u
            exact u z
      · have b1 : 0 ≤ V 163 s - 1 ∧ V 163 s - 1 < f := ⟨by omega, by omega⟩
        have mb := p_mul hwd.1 b1.2
        refine t_isRow (d := d) hnw hg ⟨b1.1, by omega⟩ hw hwd ⟨Int.mul_nonneg b1.1 hwd.1, by omega⟩ (fun all => ⟨fun z => absurd z (by decide), fun _ => h1 ⟨_, b1, all⟩⟩) (fun ne => ⟨fun _ => ?_, fun z => absurd rfl z⟩)
        rw [p_next bs, show (s + 1) % 1024 = (p_h (V 160) wd + (e + 1)) % 1024 by omega]
        refine nx V ⟨⟨⟨by omega, by omega⟩, fun e' a b' => ?_⟩, rfl⟩
        by_cases y : e' = e
        · rw [y, ← es]; exact ⟨z, ne⟩
        · exact no e' a (by omega)
    · obtain ⟨⟨eb, no⟩, eX⟩ := hI
      exact (hT.free hf.2 hb (fun e' a b' => (no e' a (by omega)).1)).elim
/-- nextRow is kept -/
theorem t_keepRow {s : Int} (hnw : nw ≤ 1000000) (hg : ax_g V) (hw : V 157 17 = wd) (hwd : 0 ≤ wd ∧ wd ≤ 600) (hf : V 157 1 = f) (f3 : 0 ≤ f ∧ f < 300) (b : f * wd + wd ≤ (nw : Int)) (hs : 0 ≤ s ∧ s < 1024) (rm : ax_rg m) (rx : ax_rg x)
    (h : ∀ W, g_fr [157, 161, 162, 163, 620] V W → (∀ k, ¬ k = 1 → W 157 k = V 157 k) → ax_g W → W 157 1 = f + 1 → (∀ j, 0 ≤ j → j < wd → W 620 (f * wd + j) = V 160 j) → (∀ j, ¬ (f * wd ≤ j ∧ j < f * wd + wd) → W 620 j = V 620 j) → (W 161 f = m ∧ W 162 f = x) → (∀ j, ¬ j = f → W 161 j = V 161 j ∧ W 162 j = V 162 j) → W 163 s = f + 1 → (∀ j, ¬ j = s → W 163 j = V 163 j) → Ψ W) : ax_N (az_W B (az_EP B w nw)) (d + 1) q_Prover_keepRow [.ref 157, ax_i s, ax_i m, ax_i x] V Ψ Θ := by
  have fw : 0 ≤ f * wd := Int.mul_nonneg f3.1 hwd.1
  refine r_Prover_keepRow hnw hg ⟨by omega, by omega⟩ rm rx ?_
  rw [hf, hw]
  refine ⟨fun _ => ⟨⟨Int.le_refl _, fw, hwd.1, by omega, b⟩, fun V1 e1 => ?_⟩, fun z => by omega⟩
  have k1 : ∀ c, ¬ c = 620 → V1 c = V c := fun c z => by rw [e1]; exact ax_cp_ne z
  have g1 : ax_g V1 := by rw [e1]; exact ax_cp_g hg
  rw [k1 157 (by decide), hf]
  refine ⟨f3, fun V2 e2 => ?_⟩
  rw [e2, ax_u_ne (by decide), k1 157 (by decide), hf, ← e2]
  refine ⟨f3, fun V3 e3 => ?_⟩
  have k3 : V3 157 = V 157 := by rw [e3, ax_u_ne (by decide), e2, ax_u_ne (by decide), k1 157 (by decide)]
  rw [k3, hf]
  refine ⟨⟨by omega, by omega⟩, fun V4 e4 => ⟨hs, fun V5 e5 => ?_⟩⟩
  have k4 : V4 157 1 = f + 1 := by rw [e4, ax_u_s]
  rw [k4] at e5
  have r6 : V5 620 = V1 620 := by rw [e5, ax_u_ne (by decide), e4, ax_u_ne (by decide), e3, ax_u_ne (by decide), e2, ax_u_ne (by decide)]
  have c1 : V5 161 = V2 161 := by rw [e5, ax_u_ne (by decide), e4, ax_u_ne (by decide), e3, ax_u_ne (by decide)]
  have c2 : V5 162 = V3 162 := by rw [e5, ax_u_ne (by decide), e4, ax_u_ne (by decide)]
  have c3 : V4 163 = V 163 := by rw [e4, ax_u_ne (by decide), e3, ax_u_ne (by decide), e2, ax_u_ne (by decide), k1 163 (by decide)]
  refine h V5 (fun c z => ?_) (fun k z => ?_) ?_ ?_ (fun j j0 j1 => ?_) (fun j hj => ?_) ⟨?_, ?_⟩ (fun j hj => ⟨?_, ?_⟩) ?_ (fun j hj => ?_)
  · simp only [List.mem_cons, List.not_mem_nil, or_false, not_or] at z
    rw [e5, ax_u_ne z.2.2.2.1, e4, ax_u_ne z.1, e3, ax_u_ne z.2.2.1, e2, ax_u_ne z.2.1, k1 c z.2.2.2.2]
  · rw [e5, ax_u_ne (by decide), e4, ax_u_k z, k3]
  · rw [e5, e4, e3, e2]; exact ax_u_g (ax_u_g (ax_u_g (ax_u_g g1 rm) rx) ⟨by omega, by omega⟩) ⟨by omega, by omega⟩
  · rw [e5, ax_u_ne (by decide)]; exact k4
  · rw [r6, e1, ax_cp_i ⟨by omega, by omega⟩, show (0 : Int) + (f * wd + j - f * wd) = j by omega]
  · rw [r6, e1, ax_cp_o hj]
  · rw [c1, e2, ax_u_s]
  · rw [c2, e3, ax_u_s]
  · rw [c1, e2, ax_u_k hj, k1 161 (by decide)]
  · rw [c2, e3, ax_u_k hj, e2, ax_u_ne (by decide), k1 162 (by decide)]
  · rw [e5, ax_u_s]
  · rw [e5, ax_u_k hj, c3]
end CProve
