/-! SCHEDULING: between two of them -/
abbrev g_XQ : List Nat := [512, 546, 553, 562, 602]
def g_PI (C0 M0 V0 V : ax_V) (n F : Int) (s : Int → Prop) : Prop :=
  (g_fr g_XQ V0 V ∧ ax_g V) ∧ g_PC C0 M0 V0 V n F s ∧ (∀ v, s v → v < 3072) ∧
  (∀ q, 0 ≤ q → q < (M0 222 26) → (s q ↔ ((∃ e, (0 ≤ e ∧ e < (M0 222 44)) ∧ M0 258 e = n ∧ s (1024 + e) ∧ M0 261 e ≤ q ∧ q ≤ M0 262 e ∧ C0 526 q = 0) ∨ ∃ a, (0 ≤ a ∧ a < (M0 222 55)) ∧ M0 267 a = n ∧ s (2048 + a) ∧ g_mv M0 a 1 q))) ∧
  ((∀ e, 0 ≤ e → e < (M0 222 44) → M0 258 e = n → (V 553 e = 0 ∨ V 553 e = 1) ∧ (¬ V 553 e = 0 ↔ s (1024 + e))) ∧ ∀ e, 0 ≤ e → e < (M0 222 44) → ¬ M0 258 e = n → V 553 e = V0 553 e) ∧
  ((∀ a, 0 ≤ a → a < (M0 222 55) → M0 267 a = n → (V 562 a = 0 ∨ V 562 a = 1) ∧ (¬ V 562 a = 0 ↔ s (2048 + a))) ∧ ∀ a, 0 ≤ a → a < (M0 222 55) → ¬ M0 267 a = n → V 562 a = V0 562 a) ∧
  ((∀ y, 0 ≤ y → y < 26 → V 546 (26 * n + y) = g_pn M0 (V 553) n y ((M0 222 44)).toNat) ∧ ∀ x, ¬ (26 * n ≤ x ∧ x < 26 * n + 26) → V 546 x = V0 546 x) ∧
  b_ok (V 602 6) ∧ ∀ y, 0 ≤ y → y < 26 → (b_in (V 602 6) y ↔ g_rd M0 s n y)
section Schedule
variable {B r d : Nat} {C0 M0 V0 V : ax_V} {n F : Int} {s t : Int → Prop} {Φ : Int → ax_V → Prop} {Ψ Θ : ax_V → Prop}
theorem g_PC.at {W : ax_V} (h : g_PC C0 M0 V0 V n F s) (e5 : W 512 = V 512) (e6 : W 602 5 = V 602 5) : g_PC C0 M0 V0 W n F s := by
  unfold g_PC
  rw [e5, e6]
  exact h
/-- steps of a node are numbers below 1024 -/
theorem g_S.small (hS : g_S C0 M0) : (M0 222 26) ≤ 700 ∧ 0 ≤ (M0 222 44) ∧ (M0 222 44) ≤ 350 ∧ 0 ≤ (M0 222 55) ∧ (M0 222 55) ≤ 175 ∧ 0 ≤ (M0 222 26) := by
  have hat := hS.2.2.2.2.2.2.2
  have p0 := hS.2.2.1.1
  have hct := hS.2.2.2.2.1.1
  have hc1 := hct.1
  have hc3 := hct.2.2.1
  omega
set_option maxHeartbeats 4000000 in
/-- one equation -/
theorem t_schedEq {e : Int} (hS : g_S C0 M0) (ok : g_N2 M0) (n0 : 0 ≤ n) (n1 : n < (M0 222 86)) (hF : 0 ≤ F) (hF2 : F ≤ g_bs0 C0 n) (hf : g_fr g_XP C0 V0) (hP : g_PI C0 M0 V0 V n F s) (e0 : 0 ≤ e) (e1 : e < (M0 222 44)) (en : M0 258 e = n) (ud : V 553 e = 0) (eb : g_eb C0 M0 s n e) (h : ∀ W, g_PI C0 M0 V0 W n F (fun v => (s v ∨ (M0 261 e ≤ v ∧ v ≤ M0 262 e ∧ C0 526 v = 0)) ∨ v = 1024 + e) → Ψ W) : ax_N (az_W B (az_EL B r)) (d + 2) q_Planner_scheduleEquation [.ref r, ax_i e] V Ψ Θ := by
  have sm := hS.small
  have hB := hS.2.2.2.2.1
  have fe := hB.2.1 e e0 e1
  have fx1 := fe.2.2.2.2.2.1.1
  obtain ⟨⟨P1, P2⟩, P3, P4, P5, ⟨P6, P6o⟩, ⟨P7, P7o⟩, ⟨P8, P8o⟩, P9, P10⟩ := hP
  have xV : g_fr g_XP C0 V := hf.tr (P1.up (by decide))
  have fre : ¬ s (1024 + e) := fun z => ((P6 e e0 e1 en).2.mpr z) ud
  have orr := hB.2.2.2.2.2.1.2.2.1
  have fresh : ∀ q, M0 261 e ≤ q → q ≤ M0 262 e → C0 526 q = 0 → ¬ s q := fun q a b c z => by
    rcases (P5 q (by omega) (by omega)).mp z with ⟨e', e'0, e'n, e's, e'a, e'b, -⟩ | ⟨a', a'0, a'n, a's, m, m0, -, -, ma, mb⟩
    · have fe' := (hB.2.1 e' e'0.1 e'0.2).2.2.2.2.2.1.1
      by_cases y : e' = e
      · rw [y] at e's; exact fre e's
      · by_cases w : e' < e
        · have := orr.1 e' e e'0.1 w e1; omega
        · have := orr.1 e e' e0 (by omega) e'0.2; omega
    · have := orr.2.2 e m e0 e1 m0.1 m0.2
      omega
  have re : ax_rg e := ⟨by omega, by omega⟩
  refine r_Planner_scheduleEquation P2 re ⟨⟨e0, by omega⟩, ?_⟩
  rw [xV 549 (by decide), fe.2.2.2.1.1]
  refine t_eqParts hS n0 n1 hF hF2 xV P2 e0 e1 en P3 fresh fre eb ax_y_n (fun W f1 g1 r1 k1 V2 e2 => ?_)
  obtain ⟨t, et⟩ : ∃ t : Int → Prop, t = (fun v => (s v ∨ (M0 261 e ≤ v ∧ v ≤ M0 262 e ∧ C0 526 v = 0)) ∨ v = 1024 + e) := ⟨_, rfl⟩
  have te : ∀ v, t v ↔ ((s v ∨ (M0 261 e ≤ v ∧ v ≤ M0 262 e ∧ C0 526 v = 0)) ∨ v = 1024 + e) := fun v => by rw [et]
  rw [← et] at k1 h
  have st : ∀ v, s v → t v := fun v z => (te v).mpr (Or.inl (Or.inl z))
  have d53 : V2 553 e = 1 := by rw [e2, ax_u_s]
  have o53 : ∀ x, x ≠ e → V2 553 x = V 553 x := fun x z => by rw [e2, ax_u_k z, f1 553 (by decide)]
  have d46 : V2 546 = V 546 := by rw [e2, ax_u_ne (by decide), f1 546 (by decide)]
  have d602 : V2 602 = W 602 := by rw [e2, ax_u_ne (by decide)]
  have xV2 : g_fr g_XP C0 V2 := by rw [e2]; exact (xV.tr (f1.up (by decide))).u (by decide)
  have g2 : ax_g V2 := by rw [e2]; exact ax_u_g g1 (by decide)
  refine t_heads hS ok xV2 g2 n0 n1 e0 e1 en (fun y a b => by rw [d46, P8 y a b]; have := g_pn_b (M0 := M0) (D := V 553) (n := n) y ((M0 222 44)).toNat; omega) (by rw [d602, r1]; exact P9) (fun X f3 g3 p3 o3 k3 r3 b3 => h X ?_) _ ax_y_n
  have s24 : ∀ x, 0 ≤ x → x < (M0 222 44) → (t (1024 + x) ↔ (s (1024 + x) ∨ x = e)) := fun x a b => by
    rw [te]
    constructor
    · rintro ((z | z) | z)
      · exact Or.inl z
      · omega
      · exact Or.inr (by omega)
    · rintro (z | z)
      · exact Or.inl (Or.inl z)
      · exact Or.inr (by omega)
  have s48 : ∀ x, 0 ≤ x → x < (M0 222 55) → (t (2048 + x) ↔ s (2048 + x)) := fun x a b => by
    rw [te]
    constructor
    · rintro ((z | z) | z)
      · exact z
      · omega
      · omega
    · exact fun z => Or.inl (Or.inl z)
  have X53 : X 553 = V2 553 := f3 553 (by decide)
  -- undone equations: one less
  have pn : ∀ y, g_pn M0 (V2 553) n y ((M0 222 44)).toNat = g_pn M0 (V 553) n y ((M0 222 44)).toNat - g_b01 (g_hy M0 n y e) := fun y => by
    have u := g_pn_u (M0 := M0) (n := n) (D := V 553) (D' := V2 553) (e0 := e.toNat) (by rw [show ((e.toNat : Nat) : Int) = e by omega]; exact ud) (by rw [show ((e.toNat : Nat) : Int) = e by omega, d53]; decide) (fun x z => o53 x (by omega)) y ((M0 222 44)).toNat
    rw [if_pos (by omega), show ((e.toNat : Nat) : Int) = e by omega] at u
    exact u
  refine ⟨⟨?_, g3⟩, ?_, ?_, ?_, ⟨?_, ?_⟩, ⟨?_, ?_⟩, ⟨?_, ?_⟩, r3, ?_⟩
  · refine P1.tr ?_
    intro c z
    rw [f3 c (fun y => z (by simp at y; rcases y with y | y <;> rw [y] <;> decide)), e2, ax_u_ne (fun y => z (by rw [y]; decide)), f1 c (fun y => z (by simp at y; rcases y with y | y <;> rw [y] <;> decide))]
  · exact k1.at (by rw [f3 512 (by decide), e2, ax_u_ne (by decide)]) (by rw [p3, d602])
  · intro v z
    rcases (te v).mp z with (z | z) | z
    · exact P4 v z
    · omega
    · omega
  · intro q q0 q1
    rw [te q]
    constructor
    · rintro ((z | z) | z)
      · rcases (P5 q q0 q1).mp z with ⟨e', a, b, c, f⟩ | ⟨a', a, b, c, f⟩
        · exact Or.inl ⟨e', a, b, st _ c, f⟩
        · exact Or.inr ⟨a', a, b, st _ c, f⟩
      · exact Or.inl ⟨e, ⟨e0, e1⟩, en, (s24 e e0 e1).mpr (Or.inr rfl), z⟩
      · omega
    · rintro (⟨e', a, b, c, f⟩ | ⟨a', a, b, c, f⟩)
      · rcases (s24 e' a.1 a.2).mp c with c | c
        · exact Or.inl (Or.inl ((P5 q q0 q1).mpr (Or.inl ⟨e', a, b, c, f⟩)))
        · rw [c] at f; exact Or.inl (Or.inr f)
      · exact Or.inl (Or.inl ((P5 q q0 q1).mpr (Or.inr ⟨a', a, b, (s48 a' a.1 a.2).mp c, f⟩)))
  · intro x x0 x1 xn
    rw [X53, s24 x x0 x1]
    by_cases z : x = e
    · rw [z, d53]; exact ⟨Or.inr rfl, fun _ => Or.inr rfl, fun _ => by decide⟩
    · rw [o53 x z]
      have := P6 x x0 x1 xn
      exact ⟨this.1, fun y => Or.inl (this.2.mp y), fun y => by rcases y with y | y; exact this.2.mpr y; exact absurd y z⟩
  · intro x x0 x1 xn
    rw [X53, o53 x (fun z => xn (by rw [z]; exact en))]; exact P6o x x0 x1 xn
  · intro x x0 x1 xn
    rw [f3 562 (by decide), e2, ax_u_ne (by decide), f1 562 (by decide), s48 x x0 x1]; exact P7 x x0 x1 xn
  · intro x x0 x1 xn
    rw [f3 562 (by decide), e2, ax_u_ne (by decide), f1 562 (by decide)]; exact P7o x x0 x1 xn
  · intro y a b
    rw [k3 y a b, d46, P8 y a b, X53, pn y]
  · intro x z
    rw [o3 x z, d46]; exact P8o x z
  · intro y a b
    rw [b3 y a b, d602, r1, P10 y a b, d46, P8 y a b]
    have kd : g_hy M0 n y e → ¬ M0 232 (26 * n + y) = 0 ∧ ¬ M0 232 (26 * n + y) = 1 := fun z => by
      obtain ⟨-, i, i0, i1⟩ := z
      have il := hS.ofl i0
      have := (ok.head hS il.1 il.2).1
      rw [hS.eoe i0, en, i1] at this
      omega
    have zero : g_pn M0 (V2 553) n y ((M0 222 44)).toNat = 0 ↔ ∀ e', 0 ≤ e' → e' < (M0 222 44) → g_hy M0 n y e' → t (1024 + e') := by
      rw [g_pn_0]
      have dn : ∀ x, 0 ≤ x → x < (M0 222 44) → M0 258 x = n → (¬ V2 553 x = 0 ↔ t (1024 + x)) := fun x x0 x1 xn => by
        rw [s24 x x0 x1]
        by_cases z : x = e
        · rw [z, d53]; exact ⟨fun _ => Or.inr rfl, fun _ => by decide⟩
        · rw [o53 x z]
          have := (P6 x x0 x1 xn).2
          exact ⟨fun y => Or.inl (this.mp y), fun y => by rcases y with y | y; exact this.mpr y; exact absurd y z⟩
      constructor
      · intro z e' a b c
        have := z e'.toNat (by omega) (by rw [show ((e'.toNat : Nat) : Int) = e' by omega]; exact c)
        rw [show ((e'.toNat : Nat) : Int) = e' by omega] at this
        exact (dn e' a b c.1).mp this
      · intro z e' a c
        exact (dn _ (by omega) (by omega) c.1).mpr (z _ (by omega) (by omega) c)
    have gb := g_pn_b (M0 := M0) (D := V2 553) (n := n) y ((M0 222 44)).toNat
    constructor
    · rintro (z | ⟨z1, z2⟩)
      · exact z.mono st
      · have := pn y
        rw [g_b01_t z1] at this
        have z0 := zero.mp (by omega)
        refine Or.inr ⟨(kd z1).1, fun e' i o b c => ?_⟩
        exact z0 e' o.1.1 o.1.2 ⟨b, i, o, c⟩
    · intro z
      by_cases q : g_hy M0 n y e
      · rcases z with z | z
        · exact absurd z (kd q).2
        · refine Or.inr ⟨q, ?_⟩
          have z0 := zero.mpr (fun e' a b c => by obtain ⟨c1, i, c2, c3⟩ := c; exact z.2 e' i c2 c1 c3)
          have := pn y
          rw [g_b01_t q] at this
          omega
      · refine Or.inl ?_
        rcases z with z | z
        · exact Or.inl z
        · refine Or.inr ⟨z.1, fun e' i o b c => ?_⟩
          rcases (s24 e' o.1.1 o.1.2).mp (z.2 e' i o b c) with y | y
          · exact y
          · rw [y] at o b; exact absurd ⟨b, i, o, c⟩ q
set_option maxHeartbeats 4000000 in
/-- one automaton -/
theorem t_schedAut {a : Int} (hS : g_S C0 M0) (n0 : 0 ≤ n) (n1 : n < (M0 222 86)) (hF : 0 ≤ F) (hF2 : F ≤ g_bs0 C0 n) (hf : g_fr g_XP C0 V0) (hP : g_PI C0 M0 V0 V n F s) (a0 : 0 ≤ a) (a1 : a < (M0 222 55)) (an : M0 267 a = n) (ud : V 562 a = 0) (ab : g_ab C0 M0 s n a) (h : ∀ W, g_PI C0 M0 V0 W n F (fun v => (s v ∨ g_mv M0 a 1 v) ∨ v = 2048 + a) → Ψ W) : ax_N (az_W B (az_EL B r)) (d + 2) q_Planner_scheduleMoves [.ref r, ax_i a, ax_i 1] V (fun V1 => ax_N (az_W B (az_EL B r)) (d + 2) q_Planner_addStep [.ref r, ax_i 2, ax_i a] V1 (fun V2 => (0 ≤ a ∧ a < 350) ∧ (∀ V3, V3 = ax_u V2 562 a 1 → Ψ V3)) Θ) Θ := by
  have sm := hS.small
  have hB := hS.2.2.2.2.1
  obtain ⟨⟨P1, P2⟩, P3, P4, P5, ⟨P6, P6o⟩, ⟨P7, P7o⟩, ⟨P8, P8o⟩, P9, P10⟩ := hP
  have xV : g_fr g_XP C0 V := hf.tr (P1.up (by decide))
  have fre : ¬ s (2048 + a) := fun z => ((P7 a a0 a1 an).2.mpr z) ud
  have orr := hB.2.2.2.2.2.1.2.2.1
  have mvb : ∀ q, g_mv M0 a 1 q → (0 ≤ q ∧ q < (M0 222 26)) ∧ M0 250 q = n := fun q z => by
    obtain ⟨m, m0, mt, ms, ma, mb⟩ := z
    have fx := (hB.2.2.2.2.1 m m0.1 m0.2).2.2.2.2.2.2.2
    have f1 := fx.1
    refine ⟨⟨by omega, by omega⟩, ?_⟩
    rw [(fx.2.2 q ma mb).1.1, mt]; exact an
  have fresh : ∀ q, g_mv M0 a 1 q → ¬ s q := fun q z y => by
    have qb := (mvb q z).1
    obtain ⟨m, m0, mt, ms, ma, mb⟩ := z
    rcases (P5 q qb.1 qb.2).mp y with ⟨e', e'0, e'n, e's, e'a, e'b, -⟩ | ⟨a', a'0, a'n, a's, m', m'0, m't, -, m'a, m'b⟩
    · have := orr.2.2 e' m e'0.1 e'0.2 m0.1 m0.2
      omega
    · by_cases w : m' = m
      · rw [w, mt] at m't
        rw [← m't] at a's
        exact fre a's
      · by_cases w2 : m' < m
        · have := orr.2.1 m' m m'0.1 w2 m0.2; omega
        · have := orr.2.1 m m' m0.1 (by omega) m'0.2; omega
  refine t_moves (d := d) hS n0 n1 hF hF2 xV P2 a0 a1 (Or.inr rfl) P3 fresh (fun t q m z k => ?_) (fun W f1 g1 r1 k1 => ?_)
  · have qb := mvb q z
    obtain ⟨m', m0, mt, ms, ma, mb⟩ := z
    exact Or.inl ⟨q, rfl, qb, fun x kx => Or.inr (k x kx), Or.inr (Or.inl ⟨m', m0, by rw [mt]; exact an, by omega, ⟨ma, mb⟩, by rw [mt]; exact ab.mono m⟩)⟩
  · refine t_addStep (d := d + 1) (k := 2) (x := a) hS n0 n1 hF hF2 g1 k1 (by decide) ⟨a0, by omega⟩ ?_ ?_ (fun W2 f2 g2 r2 k2 => ⟨⟨a0, by omega⟩, fun X eX => h X ?_⟩)
    · rw [show 1024 * 2 + a = 2048 + a by omega]
      rintro (z | z)
      · exact fre z
      · have := (mvb _ z).1; omega
    · rw [show 1024 * 2 + a = 2048 + a by omega]
      exact Or.inr (Or.inr (Or.inl ⟨a, rfl, ⟨a0, a1⟩, an, ab.mono (fun v z => Or.inl z), fun m q m0 m1 mt ms ma mb => Or.inr ⟨m, ⟨m0, m1⟩, mt, by have := (hB.2.2.2.2.1 m m0 m1).2.2.1.2; omega, ma, mb⟩⟩))
    · obtain ⟨t, et⟩ : ∃ t : Int → Prop, t = (fun v => (s v ∨ g_mv M0 a 1 v) ∨ v = 2048 + a) := ⟨_, rfl⟩
      have te : ∀ v, t v ↔ ((s v ∨ g_mv M0 a 1 v) ∨ v = 2048 + a) := fun v => by rw [et]
      rw [← et]
      have st : ∀ v, s v → t v := fun v z => (te v).mpr (Or.inl (Or.inl z))
      have s24 : ∀ x, 0 ≤ x → x < (M0 222 44) → (t (1024 + x) ↔ s (1024 + x)) := fun x u v => by
        rw [te]
        constructor
        · rintro ((z | z) | z)
          · exact z
          · have := (mvb _ z).1; omega
          · omega
        · exact fun z => Or.inl (Or.inl z)
      have s48 : ∀ x, 0 ≤ x → x < (M0 222 55) → (t (2048 + x) ↔ (s (2048 + x) ∨ x = a)) := fun x u v => by
        rw [te]
        constructor
        · rintro ((z | z) | z)
          · exact Or.inl z
          · have := (mvb _ z).1; omega
          · exact Or.inr (by omega)
        · rintro (z | z)
          · exact Or.inl (Or.inl z)
          · exact Or.inr (by omega)
      have fW : g_fr [512, 602] V W2 := f1.tr f2
      have X602 : X 602 = W2 602 := by rw [eX, ax_u_ne (by decide)]
      refine ⟨⟨?_, by rw [eX]; exact ax_u_g g2 (by decide)⟩, ?_, ?_, ?_, ⟨?_, ?_⟩, ⟨?_, ?_⟩, ⟨?_, ?_⟩, ?_, ?_⟩
      · rw [eX]; exact (P1.tr (fW.up (by decide))).u (by decide)
      · refine (k2.of (fun v => ?_)).at (by rw [eX, ax_u_ne (by decide)]) (by rw [X602])
        rw [show 1024 * 2 + a = 2048 + a by omega, te]
      · intro v z
        rcases (te v).mp z with (z | z) | z
        · exact P4 v z
        · have := (mvb _ z).1; omega
        · omega
      · intro q q0 q1
        rw [te q]
        constructor
        · rintro ((z | z) | z)
          · rcases (P5 q q0 q1).mp z with ⟨e', u, b, c, f⟩ | ⟨a', u, b, c, f⟩
            · exact Or.inl ⟨e', u, b, st _ c, f⟩
            · exact Or.inr ⟨a', u, b, st _ c, f⟩
          · exact Or.inr ⟨a, ⟨a0, a1⟩, an, (s48 a a0 a1).mpr (Or.inr rfl), z⟩
          · omega
        · rintro (⟨e', u, b, c, f⟩ | ⟨a', u, b, c, f⟩)
          · exact Or.inl (Or.inl ((P5 q q0 q1).mpr (Or.inl ⟨e', u, b, (s24 e' u.1 u.2).mp c, f⟩)))
          · rcases (s48 a' u.1 u.2).mp c with c | c
            · exact Or.inl (Or.inl ((P5 q q0 q1).mpr (Or.inr ⟨a', u, b, c, f⟩)))
            · rw [c] at f; exact Or.inl (Or.inr f)
      · intro x x0 x1 xn
        rw [eX, ax_u_ne (by decide), fW 553 (by decide), s24 x x0 x1]; exact P6 x x0 x1 xn
      · intro x x0 x1 xn
        rw [eX, ax_u_ne (by decide), fW 553 (by decide)]; exact P6o x x0 x1 xn
      · intro x x0 x1 xn
        rw [s48 x x0 x1]
        by_cases z : x = a
        · rw [z, eX, ax_u_s]; exact ⟨Or.inr rfl, fun _ => Or.inr rfl, fun _ => by decide⟩
        · rw [eX, ax_u_k z, fW 562 (by decide)]
          have := P7 x x0 x1 xn
          exact ⟨this.1, fun y => Or.inl (this.2.mp y), fun y => by rcases y with y | y; exact this.2.mpr y; exact absurd y z⟩
      · intro x x0 x1 xn
        rw [eX, ax_u_k (fun z => xn (by rw [z]; exact an)), fW 562 (by decide)]; exact P7o x x0 x1 xn
      · intro y u b
        rw [eX, ax_u_ne (by decide), ax_u_ne (by decide), fW 546 (by decide), fW 553 (by decide)]; exact P8 y u b
      · intro x z
        rw [eX, ax_u_ne (by decide), fW 546 (by decide)]; exact P8o x z
      · rw [X602, r2, r1]; exact P9
      · intro y u b
        rw [X602, r2, r1, P10 y u b]
        refine ⟨fun z => z.mono st, fun z => ?_⟩
        rcases z with z | z
        · exact Or.inl z
        · exact Or.inr ⟨z.1, fun e' i o p q => (s24 e' o.1.1 o.1.2).mp (z.2 e' i o p q)⟩
end Schedule
