/-! A TICK THERE IS: its record -/
section Rec
variable {C0 M0 P V : ax_V} {F G Hh S U J Im : Int → Int} {n q e a b x m st y i j : Int} {k : Nat} {R R' : h_R} {f5 fi : Int → Int} {r r' : Int → Int → Int}
theorem h_ac_k (h1 : r 1 = r' 1) (h2 : r 2 = r' 2) (h3 : r 3 = r' 3) (h5 : r 5 = r' 5) : h_ac M0 S n r q ↔ h_ac M0 S n r' q := by
  unfold h_ac h_eh h_on
  rw [h1, h2, h3, h5]
theorem h_f1_k (h0 : r 0 = r' 0) : h_f1 M0 r a x st m ↔ h_f1 M0 r' a x st m := by
  unfold h_f1
  rw [h0]
theorem h_rn_k (h0 : r 0 = r' 0) : h_rn M0 r a x st y ↔ h_rn M0 r' a x st y := by
  unfold h_rn h_f1
  rw [h0]
theorem h_nx_k (h0 : r 0 = r' 0) : h_nx M0 r a x st y ↔ h_nx M0 r' a x st y := by
  unfold h_nx h_f1
  rw [h0]
theorem h_least {Q : Int → Prop} (up : ∀ t t', t ≤ t' → Q t → Q t') (lo : ∀ t, t < 0 → ¬ Q t) : ∀ N : Nat, Q (N : Int) → ∃ m : Int, 0 ≤ m ∧ ∀ t, m ≤ t ↔ Q t := by
  intro N
  induction N with
  | zero => exact fun h => ⟨0, Int.le_refl _, fun t => ⟨fun z => up 0 t z h, fun z => by
      by_cases w : 0 ≤ t
      · exact w
      · exact absurd z (lo t (by omega))⟩⟩
  | succ N ih =>
    intro h
    by_cases z : Q (N : Int)
    · exact ih z
    · exact ⟨((N + 1 : Nat) : Int), by omega, fun t => ⟨fun w => up _ t w h, fun w => by
        by_cases v : ((N + 1 : Nat) : Int) ≤ t
        · exact v
        · exact absurd (up t (N : Int) (by omega) w) z⟩⟩
/-- the first of some moves -/
theorem h_f1.ex (m0 : 0 ≤ m) (m1 : m < (M0 222 60)) (ta : M0 271 m = a) (tx : M0 273 m = x) (ts : M0 272 m = st) (v : r 0 (M0 277 m) = 1) : ∃ m', h_f1 M0 r a x st m' := by
  refine Classical.byContradiction fun no => ?_
  exact h_f1.least (M0 := M0) (r := r) (m.toNat + 1) m m0 (by omega) m1 (fun y _ w => no ⟨y, w⟩) ta tx ts v
theorem h_nx.ex (r : Int → Int → Int) (a x st : Int) : ∃ y, h_nx M0 r a x st y := by
  by_cases z : ∃ m, h_f1 M0 r a x st m
  · obtain ⟨m, h⟩ := z
    exact ⟨_, Or.inl ⟨m, h, rfl⟩⟩
  · exact ⟨st, Or.inr ⟨fun m h => z ⟨m, h⟩, rfl⟩⟩
/-- places of parts: each belongs to one -/
theorem h_X.su (hX : h_X C0 M0 P F G Hh S U J Im) {q' i' : Int} (q0 : 0 ≤ q) (q1 : q < (M0 222 26)) (qn : M0 250 q = n) (i0 : 0 ≤ i) (i1 : i < g_vl C0 M0 U q) (q0' : 0 ≤ q') (q1' : q' < (M0 222 26)) (qn' : M0 250 q' = n) (i0' : 0 ≤ i') (i1' : i' < g_vl C0 M0 U q') (e : g_sp C0 M0 U n q.toNat + i = g_sp C0 M0 U n q'.toNat + i') : q = q' ∧ i = i' := by
  by_cases z : q = q'
  · rw [z] at e
    exact ⟨z, by omega⟩
  · have := hX.sd (U := U) q0' q1' qn' q0 q1 qn z
    omega
/-- a function on places -/
theorem h_X.pf (hX : h_X C0 M0 P F G Hh S U J Im) (n : Int) (v : Int → Int → Int) : ∃ p : Int → Int, ∀ q i, 0 ≤ q → q < (M0 222 26) → M0 250 q = n → 0 ≤ i → i < g_vl C0 M0 U q → p (g_sp C0 M0 U n q.toNat + i) = v q i := by
  refine ⟨fun j => (Classical.epsilon (fun w : Int => ∃ q i, ((0 ≤ q ∧ q < (M0 222 26)) ∧ M0 250 q = n) ∧ (0 ≤ i ∧ i < g_vl C0 M0 U q) ∧ j = g_sp C0 M0 U n q.toNat + i ∧ w = v q i) : Int), fun q i q0 q1 qn i0 i1 => ?_⟩
  obtain ⟨q', i', c1, c2, c3, c4⟩ := Classical.epsilon_spec (p := fun w : Int => ∃ q' i', ((0 ≤ q' ∧ q' < (M0 222 26)) ∧ M0 250 q' = n) ∧ (0 ≤ i' ∧ i' < g_vl C0 M0 U q') ∧ g_sp C0 M0 U n q.toNat + i = g_sp C0 M0 U n q'.toNat + i' ∧ w = v q' i') ⟨v q i, q, i, ⟨⟨q0, q1⟩, qn⟩, ⟨i0, i1⟩, rfl, rfl⟩
  have u := hX.su q0 q1 qn i0 i1 c1.1.1 c1.1.2 c1.2 c2.1 c2.2 c3
  refine c4.trans ?_
  rw [u.1, u.2]
/-- a function on all places -/
theorem h_X.pf3 (hX : h_X C0 M0 P F G Hh S U J Im) (hn : h_N M0 U J n) (v : Int → Int → Int) (vl va : Int → Int) : ∃ p : Int → Int, (∀ q i, 0 ≤ q → q < (M0 222 26) → M0 250 q = n → 0 ≤ i → i < g_vl C0 M0 U q → p (g_sp C0 M0 U n q.toNat + i) = v q i) ∧ (∀ l, 0 ≤ l → l < 26 → ¬ M0 236 (26 * n + l) = 0 → p (g_ll M0 n l.toNat) = vl l) ∧ ∀ a, 0 ≤ a → a < (M0 222 55) → M0 267 a = n → p (h_sa M0 n a) = va a := by
  obtain ⟨p, hp⟩ := hX.pf (U := U) n v
  have tb := hX.tb n
  refine ⟨fun j => if j < g_ll M0 n 26 then (Classical.epsilon (fun w : Int => ∃ l, (0 ≤ l ∧ l < 26) ∧ ¬ M0 236 (26 * n + l) = 0 ∧ j = g_ll M0 n l.toNat ∧ w = vl l) : Int) else if j < g_ll M0 n 26 + g_ca M0 n ((M0 222 55)).toNat then (Classical.epsilon (fun w : Int => ∃ a, (0 ≤ a ∧ a < (M0 222 55)) ∧ M0 267 a = n ∧ j = h_sa M0 n a ∧ w = va a) : Int) else p j, fun q i q0 q1 qn i0 i1 => ?_, fun l l0 l1 hl => ?_, fun a a0 a1 an => ?_⟩
  · have sp := hX.sp hn q0 q1 qn
    show (if _ then _ else if _ then _ else _) = _
    rw [if_neg (by omega), if_neg (by omega)]
    exact hp q i q0 q1 qn i0 i1
  · have u := (hX.l5 hn l0 l1 hl).2
    show (if _ then _ else if _ then _ else _) = _
    rw [if_pos (by omega)]
    obtain ⟨l', c1, c2, c3, c4⟩ := Classical.epsilon_spec (p := fun w : Int => ∃ l', (0 ≤ l' ∧ l' < 26) ∧ ¬ M0 236 (26 * n + l') = 0 ∧ g_ll M0 n l.toNat = g_ll M0 n l'.toNat ∧ w = vl l') ⟨vl l, l, ⟨l0, l1⟩, hl, rfl, rfl⟩
    refine c4.trans ?_
    by_cases z : l' = l
    · rw [z]
    · exact absurd c3.symm (h_ld l0 hl c1.1 c2 z)
  · have u := (hX.a5 hn a0 a1 an).2
    have sa : h_sa M0 n a = g_ll M0 n 26 + g_ca M0 n a.toNat := rfl
    show (if _ then _ else if _ then _ else _) = _
    rw [if_neg (by omega), if_pos (by omega)]
    obtain ⟨a', c1, c2, c3, c4⟩ := Classical.epsilon_spec (p := fun w : Int => ∃ a', (0 ≤ a' ∧ a' < (M0 222 55)) ∧ M0 267 a' = n ∧ h_sa M0 n a = h_sa M0 n a' ∧ w = va a') ⟨va a, a, ⟨a0, a1⟩, an, rfl, rfl⟩
    refine c4.trans ?_
    by_cases z : a' = a
    · rw [z]
    · have sa' : h_sa M0 n a' = g_ll M0 n 26 + g_ca M0 n a'.toNat := rfl
      have := h_ad (M0 := M0) a0 an c1.1 c2 z
      omega
set_option maxHeartbeats 2000000 in
/-- A TICK THERE IS -/
theorem h_exist (hX : h_X C0 M0 P F G Hh S U J Im) : ∀ (k : Nat) (n : Int) (f5 fi : Int → Int), h_N M0 U J n → n < (k : Int) → ∃ R, h_is C0 M0 U S Im k n f5 fi R := by
  intro k
  induction k with
  | zero => intro n f5 fi hn hk; have := hn.1.1; omega
  | succ k ih =>
    intro n f5 fi hn hk
    have hS := hX.hS
    have sm := hS.small
    have nn := hn.1
    obtain ⟨R, r5, r0, r1, r3⟩ := h_rest hX hn k f5 fi
    have e5 : R [] 5 = f5 := funext r5
    -- calls
    have call : ∀ q, 0 ≤ q → q < (M0 222 26) → M0 250 q = n → M0 241 q = 22 → h_ac M0 S n (R []) q → h_is C0 M0 U S Im k (C0 520 q) (h_g5 C0 M0 U Im n f5 (R []) q) (h_gi C0 M0 (R []) q) (fun p => R (q :: p)) := fun q q0 q1 qn o ac => by
      have sb := hX.sub hn q0 q1 qn o
      have sp := Classical.epsilon_spec (ih (C0 520 q) (h_g5 C0 M0 U Im n f5 (R []) q) (h_gi C0 M0 (R []) q) sb.1 (by omega))
      have e : (fun p => R (q :: p)) = h_E C0 M0 U S Im k (C0 520 q) (h_g5 C0 M0 U Im n f5 (R []) q) (h_gi C0 M0 (R []) q) := by
        funext p kd x
        rw [(r0 q q0 q1 qn).2 p]
        rw [h_gr_s]
        unfold h_vs
        rw [h_if_pos ⟨o, ac⟩]
      rw [e]; exact sp
    -- what is remembered
    obtain ⟨p7, h7⟩ := hX.pf (U := U) n (h_m7 C0 M0 U Im n f5 (R []))
    obtain ⟨p8, h8⟩ := hX.pf (U := U) n (fun q i => h_if (h_ac M0 S n (R []) q) (if M0 241 q = 6 then R [] 0 (M0 245 q) else if M0 241 q = 19 then 1 else R [q] 6 i) (h_m7 C0 M0 U Im n f5 (R []) q i))
    obtain ⟨p6, h6, h6l, h6a⟩ := hX.pf3 hn (fun q i => h_if (h_rn M0 (R []) (M0 263 (h_eo M0 q)) 0 (R [] 3 (M0 263 (h_eo M0 q))) (M0 264 (h_eo M0 q))) (h_vf C0 M0 Im q i) (p8 (g_sp C0 M0 U n q.toNat + i))) (fun l => if R [] 2 l = 0 then f5 (g_ll M0 n l.toNat) else R [] 1 l) (fun a => Classical.choose (h_nx.ex (M0 := M0) (R []) a 0 (R [] 3 a)))
    -- where it fails
    obtain ⟨w4, w40, w4e⟩ := h_least (Q := fun t => 700 ≤ t ∨ (∃ q, (0 ≤ q ∧ q < (M0 222 26)) ∧ M0 250 q = n ∧ h_ac M0 S n (R []) q ∧ (M0 241 q = 10 ∨ M0 241 q = 11) ∧ R [] 0 (M0 246 q) = 0 ∧ M0 243 q ≤ t) ∨ ∃ q, (0 ≤ q ∧ q < (M0 222 26)) ∧ M0 250 q = n ∧ h_ac M0 S n (R []) q ∧ M0 241 q = 22 ∧ R [q] 4 0 ≤ t) (fun t t' le z => by
        rcases z with z | ⟨q, c1, c2, c3, c4, c5, c6⟩ | ⟨q, c1, c2, c3, c4, c5⟩
        · exact Or.inl (by omega)
        · exact Or.inr (Or.inl ⟨q, c1, c2, c3, c4, c5, by omega⟩)
        · exact Or.inr (Or.inr ⟨q, c1, c2, c3, c4, by omega⟩)) (fun t lt z => by
        rcases z with z | ⟨q, c1, c2, c3, c4, c5, c6⟩ | ⟨q, c1, c2, c3, c4, c5⟩
        · omega
        · have sg := (((hS.p c1.1 c1.2).2.2.2.2.2.2.1).2.2.2.2.2.1 (by omega)).2
          unfold e_pl at sg
          omega
        · have := (call q c1.1 c1.2 c2 c4 c3).2.2.2
          have e : (fun p => R (q :: p)) [] 4 0 = R [q] 4 0 := rfl
          rw [e] at this
          omega) 700 (Or.inl (by decide))
    obtain ⟨X, hXe⟩ : ∃ X : h_R, X = fun p kd x => match p with
      | [] => if kd = 4 then w4 else if kd = 6 then p6 x else if kd = 7 then p7 x else if kd = 8 then p8 x else R [] kd x
      | q :: p => R (q :: p) kd x := ⟨_, rfl⟩
    have x0 : X [] 0 = R [] 0 := by rw [hXe]; funext x; rfl
    have x1 : X [] 1 = R [] 1 := by rw [hXe]; funext x; rfl
    have x2 : X [] 2 = R [] 2 := by rw [hXe]; funext x; rfl
    have x3 : X [] 3 = R [] 3 := by rw [hXe]; funext x; rfl
    have x5 : X [] 5 = R [] 5 := by rw [hXe]; funext x; rfl
    have x4 : X [] 4 0 = w4 := by rw [hXe]; rfl
    have x6 : X [] 6 = p6 := by rw [hXe]; funext x; rfl
    have x7 : X [] 7 = p7 := by rw [hXe]; funext x; rfl
    have x8 : X [] 8 = p8 := by rw [hXe]; funext x; rfl
    have xs : ∀ q p, X (q :: p) = R (q :: p) := fun q p => by rw [hXe]
    have ac : ∀ q, h_ac M0 S n (X []) q ↔ h_ac M0 S n (R []) q := fun q => h_ac_k x1 x2 x3 x5
    refine ⟨X, ⟨?_, ?_, ⟨?_, ?_⟩, ?_, ?_, ?_, ?_⟩, fun j => by rw [x5]; exact r5 j, fun y y0 y1 ky => ?_, by rw [x4]; exact w40⟩
    · -- values
      intro q q0 q1 qn a
      have a' := (ac q).mp a
      have v := (r0 q q0 q1 qn).1
      rw [h_gr_0] at v
      unfold h_v0 at v
      rw [h_if_pos a'] at v
      rw [x0, v]
      by_cases o : M0 241 q = 22
      · unfold h_vq
        rw [if_pos o, if_pos o, xs q []]
        have c := (r0 q q0 q1 qn).2 []
        rw [h_gr_s] at c
        rw [c]
        unfold h_vs
        rw [h_if_pos ⟨o, a'⟩]
      · rw [if_neg o, h_vq_op C0 M0 o, x0, x1, x5, x7, e5]
        refine h_op_congr (hS.op q0 q1).1 (fun _ => rfl) (fun _ => rfl) (fun _ => rfl) (fun _ => rfl) (fun z => ?_)
        by_cases o3 : M0 241 q = 3
        · rw [if_pos o3, if_pos o3]
        · rw [if_neg o3, if_neg o3]
          have vl : g_vl C0 M0 U q = 1 := if_pos (by omega)
          have u := h7 q 0 q0 q1 qn (Int.le_refl _) (by omega)
          rw [Int.add_zero] at u
          exact u.symm
    · -- calls
      intro q q0 q1 qn o a
      have a' := (ac q).mp a
      have c := call q q0 q1 qn o a'
      have e : (fun p => X (q :: p)) = fun p => R (q :: p) := funext fun p => xs q p
      rw [e, x1, x0, x7, xs q []]
      have sb := hX.sub hn q0 q1 qn o
      have g5 : ∀ j, R [q] 5 j = h_g5 C0 M0 U Im n f5 (R []) q j := c.2.1
      refine ⟨c.1, fun j j0 j1 => ⟨fun z => ?_, fun z => ?_⟩, fun i hi => ?_⟩
      · rw [g5]
        unfold h_g5
        rw [h_if_pos z]
      · rw [g5]
        unfold h_g5
        rw [h_if_neg z]
        exact (h7 q j q0 q1 qn j0 (by rw [sb.2.2]; exact j1)).symm
      · have ip := hS.inp (i := (i : Int)) sb.1.1.1 sb.1.1.2 (by omega) hi
        have ff := hS.fl sb.1.1.1 sb.1.1.2
        have ki := (ff.2.2.2.2.1 (i : Int) (by omega) hi).2.2
        have v : R [q] 1 (M0 230 (26 * C0 520 q + (i : Int))) = h_gi C0 M0 (R []) q (M0 230 (26 * C0 520 q + (i : Int))) := c.2.2.1 _ ip.2.1.1 ip.2.1.2 ki
        rw [v]
        unfold h_gi
        have ex : ∃ i' : Nat, (i' : Int) < M0 227 (C0 520 q) ∧ M0 230 (26 * C0 520 q + (i' : Int)) = M0 230 (26 * C0 520 q + (i : Int)) := ⟨i, hi, rfl⟩
        rw [h_if_pos ex]
        have sp := Classical.epsilon_spec ex
        obtain ⟨i', hi'⟩ : ∃ i', i' = Classical.epsilon (fun i' : Nat => (i' : Int) < M0 227 (C0 520 q) ∧ M0 230 (26 * C0 520 q + (i' : Int)) = M0 230 (26 * C0 520 q + (i : Int))) := ⟨_, rfl⟩
        rw [← hi'] at sp ⊢
        have same : i' = i := by
          have inj := ff.2.2.2.2.2.2.2
          by_cases z : i' = i
          · exact z
          · by_cases w : i' < i
            · exact absurd sp.2 (inj i' i (by omega) (by omega) hi)
            · exact absurd sp.2.symm (inj i i' (by omega) (by omega) sp.1)
        rw [same]
    · -- inputs
      intro l l0 l1 kl
      have v := (r1 l l0 l1 (by omega)).2
      rw [h_gr_2] at v
      unfold h_v2 at v
      rw [h_if_pos (Or.inl kl)] at v
      rw [x2]; exact v
    · -- letters
      intro e i o en eh
      have eh' : h_eh M0 (R []) e := by
        unfold h_eh at eh ⊢
        rw [x3] at eh; exact eh
      have lf := ((hX.ecb o.1.1 o.1.2).2.2 i o).1
      have ol := hS.ofl o
      have hd := (hX.ok.head hS ol.1 ol.2).1
      rw [hS.eoe o, en] at hd
      have v := r1 (M0 265 i) lf.1 lf.2 (by omega)
      rw [h_gr_1, h_gr_2] at v
      unfold h_v1 h_v2 at v
      have k1 : ¬ M0 232 (26 * n + M0 265 i) = 1 := by omega
      rw [if_neg k1] at v
      have on : h_on (X []) (g_ec M0 e) ↔ h_on (R []) (g_ec M0 e) := by
        unfold h_on
        rw [x1, x2]
      rw [on, x1, x2, x0, xs]
      have tl : ∀ p, h_tl M0 n (R []) (M0 265 i) p → p = (e, i) := fun p hp => by
        have ee : p.1 = e := hX.one (r := R []) hp.1 o (hp.2.1.trans en.symm) hp.2.2.1 hp.2.2.2.1 eh'
        have o' := hp.1
        rw [ee] at o'
        have key : ∀ i1 i2, g_of M0 e i1 → g_of M0 e i2 → M0 265 i1 = M0 265 i2 → ¬ i1 < i2 := fun i1 i2 o1 o2 l w => by
          have il := hS.ofl o1
          have jl := hS.ofl o2
          exact (hX.ok.head hS jl.1 jl.2).2 ⟨i1, ⟨il.1, w⟩, l, by rw [hS.eoe o1, hS.eoe o2], Or.inr (Or.inr (by rw [hS.eoe o1, hS.eoe o2]))⟩
        have c1 := key _ _ o' o hp.2.2.1
        have c2 := key _ _ o o' hp.2.2.1.symm
        have ii : p.2 = i := by omega
        rw [← ee, ← ii]
      refine ⟨fun y => ?_, fun y => ?_⟩
      · have ex : ∃ p, h_tl M0 n (R []) (M0 265 i) p := ⟨(e, i), o, en, rfl, eh', y⟩
        have ep := tl _ (Classical.epsilon_spec ex)
        rw [h_if_pos ex, h_if_pos (Or.inr ex), ep] at v
        exact ⟨v.2, v.1⟩
      · have nex : ¬ ∃ p, h_tl M0 n (R []) (M0 265 i) p := fun ⟨p, hp⟩ => by
          have ep := tl p hp
          rw [ep] at hp
          exact y hp.2.2.2.2
        rw [h_if_neg (p := M0 232 (26 * n + M0 265 i) = 1 ∨ ∃ p, h_tl M0 n (R []) (M0 265 i) p) (fun z => by rcases z with z | z; exact k1 z; exact nex z)] at v
        exact v.2
    · -- automata
      intro a a0 a1 an
      rw [x3, x5, x6, e5, h_nx_k (r' := R []) x0, h_nx_k (r' := R []) x0]
      have v := r3 a a0 a1 an
      rw [h_gr_3] at v
      unfold h_v3 at v
      refine ⟨?_, ?_⟩
      · by_cases z : ∃ m, h_f1 M0 (R []) a 1 (f5 (h_sa M0 n a)) m
        · rw [h_if_pos z] at v
          exact Or.inl ⟨_, Classical.epsilon_spec z, v⟩
        · rw [h_if_neg z] at v
          exact Or.inr ⟨fun m hm => z ⟨m, hm⟩, v⟩
      · rw [h6a a a0 a1 an]
        exact Classical.choose_spec (h_nx.ex (M0 := M0) (R []) a 0 (R [] 3 a))
    · -- last values
      intro l l0 l1 hl
      rw [x2, x6, x1, x5, e5, h6l l l0 l1 hl]
      exact ⟨fun z => if_neg z, fun z => if_pos z⟩
    · -- what is remembered
      intro e q i e0 e1 en ea eb i0 i1
      have qq := hS.eq e0 e1 en ea eb
      have eo := h_eo_e hS e0 e1 ea eb
      have v7 := h7 q i qq.1.1 qq.1.2 qq.2 i0 i1
      have v8 := h8 q i qq.1.1 qq.1.2 qq.2 i0 i1
      have v6 := h6 q i qq.1.1 qq.1.2 qq.2 i0 i1
      rw [eo] at v6
      unfold h_m7 at v7
      rw [eo] at v7
      have m7e : h_m7 C0 M0 U Im n f5 (R []) q i = p7 (g_sp C0 M0 U n q.toNat + i) := (h7 q i qq.1.1 qq.1.2 qq.2 i0 i1).symm
      refine ⟨fun y hy => ?_, ?_⟩
      · have ey : y = h_vf C0 M0 Im q i := hy
        rw [x5, x3, x6, x7, x8, e5, h_rn_k (r' := R []) x0, h_rn_k (r' := R []) x0, ey]
        refine ⟨fun z => by rw [v7, h_if_pos z], fun z => by rw [v7, h_if_neg z], fun z => by rw [v6, h_if_pos z], fun z => by rw [v6, h_if_neg z]⟩
      · rw [x8, x7, x0, xs q [], ac q, v8]
        refine ⟨fun z => by rw [h_if_pos z], fun z => by rw [h_if_neg z]; exact m7e⟩
    · -- where it fails
      intro t
      rw [x4, w4e t]
      constructor
      · rintro (z | ⟨q, c1, c2, c3, c4⟩ | ⟨q, c1, c2, c3, c4⟩)
        · exact Or.inl z
        · exact Or.inr (Or.inl ⟨q, c1, c2, (ac q).mpr c3, by rw [x0]; exact c4⟩)
        · exact Or.inr (Or.inr ⟨q, c1, c2, (ac q).mpr c3, by rw [xs]; exact c4⟩)
      · rintro (z | ⟨q, c1, c2, c3, c4⟩ | ⟨q, c1, c2, c3, c4⟩)
        · exact Or.inl z
        · exact Or.inr (Or.inl ⟨q, c1, c2, (ac q).mp c3, by rw [x0] at c4; exact c4⟩)
        · exact Or.inr (Or.inr ⟨q, c1, c2, (ac q).mp c3, by rw [xs] at c4; exact c4⟩)
    · -- what is put in
      have v := (r1 y y0 y1 (by omega)).1
      rw [h_gr_1] at v
      unfold h_v1 at v
      rw [if_pos ky] at v
      rw [x1]; exact v
end Rec
