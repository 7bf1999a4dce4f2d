/-! THE MODEL'S TICK: the invariant, for a record R that is given -/
def h_fl (V : ax_V) : Int := if V 222 101 = -1 then 700 else V 222 101
def h_fo (V : ax_V) : Prop := V 222 101 = -1 ∨ (0 ≤ V 222 101 ∧ V 222 101 < 700)
/-- what a tick of n on a level leaves alone -/
def h_MF (C M : ax_V) (U : Int → Int) (n b lv : Int) (V0 V : ax_V) : Prop := (g_fr h_DC V0 V ∧ g_sc [101] V0 V ∧ ax_g V ∧ h_fo V) ∧ (∀ i, ¬ (b ≤ i ∧ i < b + g_T C M U n) → V 291 i = V0 291 i ∧ V 292 i = V0 292 i) ∧ (∀ x, x < 26 * lv → V 293 x = V0 293 x ∧ V 294 x = V0 294 x ∧ V 295 x = V0 295 x) ∧ (∀ x, x < 701 * lv → V 296 x = V0 296 x) ∧ ∀ x, x < 351 * lv → V 297 x = V0 297 x ∧ V 298 x = V0 298 x
/-- letters and choices of the levels up to lv stay -/
def h_KL (lv : Int) (V W : ax_V) : Prop := (∀ x, x < 26 * lv + 26 → W 293 x = V 293 x ∧ W 294 x = V 294 x ∧ W 295 x = V 295 x) ∧ ∀ x, x < 351 * lv + 351 → W 297 x = V 297 x ∧ W 298 x = V 298 x
def h_mt (M : ax_V) (n lv : Int) (V : ax_V) (R : h_R) (y : Int) : Prop := V 294 (26 * lv + y) = R [] 2 y ∧ (¬ R [] 2 y = 0 → V 293 (26 * lv + y) = R [] 1 y ∧ (M 233 (26 * n + y) = 1 → R [] 1 y = 0 ∨ R [] 1 y = 1))
def h_J1 (M : ax_V) (F S : Int → Int) (n lv : Int) (V : ax_V) (s : Int → Prop) (R : h_R) : Prop := ∀ q, 0 ≤ q → q < (M 222 26) → M 250 q = n → s q → h_ac M S n (R []) q → V 296 (701 * lv + q) = R [] 0 q ∧ (F q = 1 → R [] 0 q = 0 ∨ R [] 0 q = 1)
def h_J2 (M : ax_V) (n lv : Int) (V : ax_V) (R : h_R) : Prop := (∀ y, 0 ≤ y → y < 26 → ¬ V 295 (26 * lv + y) = 0 → h_mt M n lv V R y) ∧ ∀ y, 0 ≤ y → y < 26 → V 294 (26 * lv + y) = 0 ∨ V 294 (26 * lv + y) = 1
def h_J3 (M : ax_V) (n lv : Int) (V : ax_V) (s : Int → Prop) (R : h_R) : Prop := ∀ a, 0 ≤ a → a < (M 222 55) → M 267 a = n → s (2048 + a) → V 298 (351 * lv + a) = R [] 3 a
def h_J4 (C M : ax_V) (U : Int → Int) (n b : Int) (V : ax_V) (s : Int → Prop) (R : h_R) : Prop := (∀ l, 0 ≤ l → l < 26 → ¬ M 236 (26 * n + l) = 0 → V 291 (b + g_ll M n l.toNat) = R [] 5 (g_ll M n l.toNat)) ∧ (∀ a, 0 ≤ a → a < (M 222 55) → M 267 a = n → V 291 (b + h_sa M n a) = R [] 5 (h_sa M n a)) ∧ ∀ e q j, 0 ≤ e → e < (M 222 44) → M 258 e = n → M 261 e ≤ q → q ≤ M 262 e → 0 ≤ j → j < g_vl C M U q → (M 241 q = 22 → ¬ s q) → ((M 263 e = -1 ∨ s (2048 + M 263 e)) → V 291 (b + (g_sp C M U n q.toNat + j)) = R [] 7 (g_sp C M U n q.toNat + j)) ∧ (¬ (M 263 e = -1 ∨ s (2048 + M 263 e)) → V 291 (b + (g_sp C M U n q.toNat + j)) = R [] 5 (g_sp C M U n q.toNat + j))
def h_J5 (C M : ax_V) (U : Int → Int) (n b : Int) (V : ax_V) (s : Int → Prop) (R : h_R) : Prop := (∀ l, 0 ≤ l → l < 26 → ¬ M 236 (26 * n + l) = 0 → (s (4096 + 26 * n + l) → V 292 (b + g_ll M n l.toNat) = R [] 6 (g_ll M n l.toNat)) ∧ (¬ s (4096 + 26 * n + l) → V 292 (b + g_ll M n l.toNat) = R [] 5 (g_ll M n l.toNat))) ∧ (∀ a, 0 ≤ a → a < (M 222 55) → M 267 a = n → (s (5120 + a) → V 292 (b + h_sa M n a) = R [] 6 (h_sa M n a)) ∧ (¬ s (5120 + a) → V 292 (b + h_sa M n a) = R [] 5 (h_sa M n a))) ∧ ∀ e q j, 0 ≤ e → e < (M 222 44) → M 258 e = n → M 261 e ≤ q → q ≤ M 262 e → 0 ≤ j → j < g_vl C M U q → h_stg M s e q (fun t => V 292 (b + (g_sp C M U n q.toNat + j)) = R [] t (g_sp C M U n q.toNat + j))
def h_J6 (M : ax_V) (S : Int → Int) (n : Int) (V0 V : ax_V) (s : Int → Prop) (R : h_R) : Prop := ∀ t, t < 700 → (h_fl V ≤ t ↔ (h_fl V0 ≤ t ∨ (∃ q, (0 ≤ q ∧ q < (M 222 26)) ∧ M 250 q = n ∧ s q ∧ h_ac M S n (R []) q ∧ (M 241 q = 10 ∨ M 241 q = 11) ∧ R [] 0 (M 246 q) = 0 ∧ M 243 q ≤ t) ∨ ∃ q, (0 ≤ q ∧ q < (M 222 26)) ∧ M 250 q = n ∧ s q ∧ h_ac M S n (R []) q ∧ M 241 q = 22 ∧ R [q] 4 0 ≤ t))
/-- a part of an automaton comes behind its choice -/
def h_J9 (M : ax_V) (s : Int → Prop) : Prop := ∀ e q, 0 ≤ e → e < (M 222 44) → M 261 e ≤ q → q ≤ M 262 e → s q → ¬ M 263 e = -1 → s (2048 + M 263 e)
def h_J (C M : ax_V) (U F S : Int → Int) (k : Nat) (n b lv : Int) (V0 V : ax_V) (s : Int → Prop) (R : h_R) : Prop := h_J1 M F S n lv V s R ∧ h_J2 M n lv V R ∧ h_J3 M n lv V s R ∧ h_J4 C M U n b V s R ∧ h_J5 C M U n b V s R ∧ h_J6 M S n V0 V s R ∧ h_I8 C M U F S k n s R ∧ h_J9 M s
section ModelC
variable {d : Nat} {C0 M0 P V V0 V1 W X X' : ax_V} {F G Hh S U J Im : Int → Int} {n q e a b c lv f m l : Int} {k : Nat} {s t : Int → Prop} {R : h_R} {Φ : Int → ax_V → Prop} {Ψ Θ : ax_V → Prop}
theorem h_KL.rf (lv : Int) (V : ax_V) : h_KL lv V V := ⟨fun _ _ => ⟨rfl, rfl, rfl⟩, fun _ _ => ⟨rfl, rfl⟩⟩
theorem h_KL.tr (h : h_KL lv V W) (h' : h_KL lv W X) : h_KL lv V X := ⟨fun x z => ⟨((h'.1 x z).1).trans (h.1 x z).1, ((h'.1 x z).2.1).trans (h.1 x z).2.1, ((h'.1 x z).2.2).trans (h.1 x z).2.2⟩, fun x z => ⟨((h'.2 x z).1).trans (h.2 x z).1, ((h'.2 x z).2).trans (h.2 x z).2⟩⟩
theorem h_MF.tr (h : h_MF C0 M0 U n b lv V0 V) (h' : h_MF C0 M0 U n b lv V W) : h_MF C0 M0 U n b lv V0 W := ⟨⟨h.1.1.tr h'.1.1, fun j z => (h'.1.2.1 j z).trans (h.1.2.1 j z), h'.1.2.2⟩, fun i z => ⟨(h'.2.1 i z).1.trans (h.2.1 i z).1, (h'.2.1 i z).2.trans (h.2.1 i z).2⟩, fun x z => ⟨(h'.2.2.1 x z).1.trans (h.2.2.1 x z).1, (h'.2.2.1 x z).2.1.trans (h.2.2.1 x z).2.1, (h'.2.2.1 x z).2.2.trans (h.2.2.1 x z).2.2⟩, fun x z => (h'.2.2.2.1 x z).trans (h.2.2.2.1 x z), fun x z => ⟨(h'.2.2.2.2 x z).1.trans (h.2.2.2.2 x z).1, (h'.2.2.2.2 x z).2.trans (h.2.2.2.2 x z).2⟩⟩
theorem h_MF.rm (h : h_MF C0 M0 U n b lv V0 V) (hV : h_RM C0 M0 S U J Im V0) : h_RM C0 M0 S U J Im V := hV.fr h.1.1 h.1.2.1
/-- the value of a part that is no call -/
theorem h_valM (hX : h_X C0 M0 P F G Hh S U J Im) (hn : h_N M0 U J n) (hR : h_TK C0 M0 U S Im (k + 1) n R) (hm : h_MS C0 M0 U F (k + 1) n (R [] 5)) (q0 : 0 ≤ q) (q1 : q < (M0 222 26)) (qn : M0 250 q = n) (o22 : ¬ M0 241 q = 22) (ac : h_ac M0 S n (R []) q) {pv : Int → Int} {y μ3 μ7 : Int} (kv : ∀ x, e_kid M0 q x → ¬ M0 241 q = 6 → h_ac M0 S n (R []) x → pv x = R [] 0 x ∧ (F x = 1 → R [] 0 x = 0 ∨ R [] 0 x = 1)) (lt : (M0 241 q = 2 ∨ M0 241 q = 21) → y = R [] 1 (M0 248 q) ∧ (M0 233 (26 * n + M0 248 q) = 1 → R [] 1 (M0 248 q) = 0 ∨ R [] 1 (M0 248 q) = 1)) (h3 : M0 241 q = 3 → μ3 = R [] 5 (g_ll M0 n (M0 248 q).toNat)) (h7 : (M0 241 q = 6 ∨ M0 241 q = 19) → μ7 = R [] 7 (g_sp C0 M0 U n q.toNat)) : ((M0 241 q = 10 ∨ M0 241 q = 11) → (if M0 246 q = -1 then 0 else pv (M0 246 q)) = R [] 0 (M0 246 q)) ∧ (∀ v, v = h_op (M0 241 q) (M0 249 q) (if M0 245 q = -1 then 0 else pv (M0 245 q)) (if M0 246 q = -1 then 0 else pv (M0 246 q)) (if M0 247 q = -1 then 0 else pv (M0 247 q)) y (if M0 241 q = 3 then μ3 else μ7) → v = R [] 0 q) ∧ (F q = 1 → R [] 0 q = 0 ∨ R [] 0 q = 1) := by
  have hS := hX.hS
  have v1 := hR.1 q q0 q1 qn ac
  rw [h_vq_op C0 M0 o22] at v1
  have t21 : M0 241 q = 21 → R [] 1 (M0 248 q) = 0 ∨ R [] 1 (M0 248 q) = 1 := fun o => by
    have tl := hX.ok.truth hS q0 q1 (Or.inr (Or.inl o))
    rw [qn] at tl
    have l := hS.pl q0 q1 (by omega)
    have ty := ((hS.l hn.1.1 hn.1.2 l.1 l.2).2.2.1 (fun z => tl (Or.inl z))).2.2.2
    rcases ty with z | z
    · exact absurd (Or.inr z) tl
    · exact (lt (Or.inr o)).2 z
  have kids : ∀ x, e_kid M0 q x → ¬ M0 241 q = 6 → (M0 241 q = 21 → (x = M0 245 q ∧ R [] 1 (M0 248 q) = 1) ∨ (¬ x = M0 245 q ∧ R [] 1 (M0 248 q) = 0)) → pv x = R [] 0 x ∧ (F x = 1 → R [] 0 x = 0 ∨ R [] 0 x = 1) := fun x kx o6 hm1 => kv x kx o6 (h_kid (Hh := Hh) (F := F) hS hX.ok hX.hG hX.hT hX.n4 hn.1.1 hn.1.2 (fun y y0 y1 k0 => (hX.pr hn hR hm y0 y1 k0).1) q0 q1 qn ac kx hm1)
  have ab := h_ar21 hS q0 q1
  have ka : (M0 241 q = 4 ∨ M0 241 q = 5 ∨ (7 ≤ M0 241 q ∧ M0 241 q ≤ 20) ∨ (M0 241 q = 21 ∧ R [] 1 (M0 248 q) = 1)) → (0 ≤ M0 245 q) ∧ pv (M0 245 q) = R [] 0 (M0 245 q) ∧ (F (M0 245 q) = 1 → R [] 0 (M0 245 q) = 0 ∨ R [] 0 (M0 245 q) = 1) := fun o => by
    have a0 : 0 ≤ M0 245 q := h_ar_a hS q0 q1 (by omega)
    exact ⟨a0, kids _ ⟨a0, Or.inl ⟨o22, Or.inl rfl⟩⟩ (by omega) (fun z => Or.inl ⟨rfl, by omega⟩)⟩
  have kb : ((7 ≤ M0 241 q ∧ M0 241 q ≤ 19) ∨ (M0 241 q = 21 ∧ ¬ R [] 1 (M0 248 q) = 1)) → (0 ≤ M0 246 q) ∧ pv (M0 246 q) = R [] 0 (M0 246 q) ∧ (F (M0 246 q) = 1 → R [] 0 (M0 246 q) = 0 ∨ R [] 0 (M0 246 q) = 1) := fun o => by
    have b0 : 0 ≤ M0 246 q := h_ar_b hS q0 q1 (by omega)
    exact ⟨b0, kids _ ⟨b0, Or.inl ⟨o22, Or.inr (Or.inl rfl)⟩⟩ (by omega) (fun z => Or.inr ⟨ab z, by have := t21 z; omega⟩)⟩
  have kc : M0 241 q = 18 → (0 ≤ M0 247 q) ∧ pv (M0 247 q) = R [] 0 (M0 247 q) ∧ (F (M0 247 q) = 1 → R [] 0 (M0 247 q) = 0 ∨ R [] 0 (M0 247 q) = 1) := fun o => by
    have c0 : 0 ≤ M0 247 q := h_ar_c hS q0 q1 o
    exact ⟨c0, kids _ ⟨c0, Or.inl ⟨o22, Or.inr (Or.inr rfl)⟩⟩ (by omega) (fun z => by omega)⟩
  have m3 : M0 241 q = 3 → F q = 1 → R [] 5 (g_ll M0 n (M0 248 q).toNat) = 0 ∨ R [] 5 (g_ll M0 n (M0 248 q).toNat) = 1 := fun o f => by
    have l := hS.pl q0 q1 (by omega)
    have hl := hX.l3 q0 q1 o
    rw [qn] at hl
    obtain ⟨m, em⟩ := Int.eq_ofNat_of_zero_le l.1
    rw [em] at hl ⊢
    rw [Int.toNat_natCast]
    refine hm.2.1 m (by omega) hl ?_
    have t3 := (hX.hF q q0 q1).1.2.2.1 (Or.inr o)
    rw [qn] at t3
    rw [← em, ← t3]
    exact f
  have m7 : M0 241 q = 6 → F q = 1 → R [] 7 (g_sp C0 M0 U n q.toNat) = 0 ∨ R [] 7 (g_sp C0 M0 U n q.toNat) = 1 := fun o6 f => by
    obtain ⟨e, ee, en, ea, eb⟩ := hX.ine q0 q1 qn (by omega)
    have v1 : g_vl C0 M0 U q = 1 := if_pos (Or.inl o6)
    have r := (hR.2.2.2.2.2.1 e q 0 ee.1 ee.2 en ea eb (Int.le_refl _) (by omega)).1 0 (by rw [if_neg o22])
    rw [Int.add_zero] at r
    by_cases z : h_rn M0 (R []) (M0 263 e) 1 (R [] 5 (h_sa M0 n (M0 263 e))) (M0 264 e)
    · exact Or.inl (r.1 z)
    · rw [r.2.1 z]
      obtain ⟨m, rfl⟩ := Int.eq_ofNat_of_zero_le q0
      rw [Int.toNat_natCast]
      exact hm.1 m (by omega) qn o6 f
  have na : ∀ {x : Int}, 0 ≤ x → (if x = -1 then 0 else pv x) = pv x := fun {x} z => if_neg (by omega)
  refine ⟨fun o => ?_, fun v hv => ?_, fun f => ?_⟩
  · have u := kb (by omega)
    rw [na u.1, u.2.1]
  · rw [hv, v1]
    refine h_op_congr (hS.op q0 q1).1 (fun z => ?_) (fun z => ?_) (fun z => ?_) (fun z => (lt z).1) (fun z => ?_)
    · have u := ka z
      rw [na u.1, u.2.1]
    · have u := kb z
      rw [na u.1, u.2.1]
    · have u := kc z
      rw [na u.1, u.2.1]
    · by_cases o3 : M0 241 q = 3
      · rw [if_pos o3, if_pos o3]; exact h3 o3
      · rw [if_neg o3, if_neg o3]; exact h7 (by omega)
  · rw [v1]
    refine h_op_t2 hS hX.hF hX.n3 q0 q1 o22 f (fun z => (ka z).2.2) (fun z => (kb z).2.2) (fun z => (kc z).2.2) (fun z => ?_) (fun z => ?_)
    · rw [qn]; exact (lt z).2
    · by_cases o3 : M0 241 q = 3
      · rw [if_pos o3]; exact m3 o3 f
      · rw [if_neg o3]; exact m7 (by omega) f
set_option maxHeartbeats 1000000 in
/-- a part has been passed -/
theorem h_J.pass (hX : h_X C0 M0 P F G Hh S U J Im) (hn : h_N M0 U J n) (h : h_J C0 M0 U F S k n b lv V0 V s R) (te : ∀ v, t v ↔ (s v ∨ v = q)) (q0 : 0 ≤ q) (q1 : q < (M0 222 26)) (qn : M0 250 q = n) (w4 : ∀ e, 0 ≤ e → e < (M0 222 44) → M0 261 e ≤ q → q ≤ M0 262 e → (¬ M0 263 e = -1 → s (2048 + M0 263 e)) ∧ ¬ (¬ M0 263 e = -1 ∧ s (5120 + M0 263 e)))
    (hv : h_ac M0 S n (R []) q → W 296 (701 * lv + q) = R [] 0 q ∧ (F q = 1 → R [] 0 q = 0 ∨ R [] 0 q = 1)) (k6 : ∀ x, 0 ≤ x → x < (M0 222 26) → ¬ x = q → W 296 (701 * lv + x) = V 296 (701 * lv + x)) (kl : h_KL lv V W) (k1 : ∀ i, ¬ (M0 241 q = 22 ∧ b + g_sp C0 M0 U n q.toNat ≤ i ∧ i < b + g_sp C0 M0 U n q.toNat + g_vl C0 M0 U q) → W 291 i = V 291 i) (k2 : ∀ i, ¬ (b + g_sp C0 M0 U n q.toNat ≤ i ∧ i < b + g_sp C0 M0 U n q.toNat + g_vl C0 M0 U q) → W 292 i = V 292 i) (m6 : M0 241 q = 6 → W 292 = V 292) (m8 : ¬ M0 241 q = 6 → ∀ j, 0 ≤ j → j < g_vl C0 M0 U q → W 292 (b + (g_sp C0 M0 U n q.toNat + j)) = R [] 8 (g_sp C0 M0 U n q.toNat + j))
    (hfl : ∀ t, t < 700 → (h_fl W ≤ t ↔ (h_fl V ≤ t ∨ (h_ac M0 S n (R []) q ∧ (M0 241 q = 10 ∨ M0 241 q = 11) ∧ R [] 0 (M0 246 q) = 0 ∧ M0 243 q ≤ t) ∨ (h_ac M0 S n (R []) q ∧ M0 241 q = 22 ∧ R [q] 4 0 ≤ t)))) (i8 : M0 241 q = 22 → h_ac M0 S n (R []) q → h_MS C0 M0 U F k (C0 520 q) (R [q] 6)) : h_J C0 M0 U F S k n b lv V0 W t R := by
  have hS := hX.hS
  have sm := hS.small
  have nn := hn.1
  have hN := hS.2.1
  have sq := hX.sp hn q0 q1 qn
  have l0 := hX.tb n
  obtain ⟨j1, j2, j3, j4, j5, j6, j8, j9⟩ := h
  have big : ∀ v, ¬ v = q → (t v ↔ s v) := fun v hv => by rw [te]; exact ⟨fun z => by rcases z with z | z; exact z; exact absurd z hv, fun z => Or.inl z⟩
  have aub : ∀ e, 0 ≤ e → e < (M0 222 44) → ¬ M0 263 e = -1 → 0 ≤ M0 263 e := fun e e0 e1 z => by
    rcases hS.st e0 e1 with y | y
    · exact absurd y.2.1 z
    · exact y.2.1.1
  have ch : ∀ e, 0 ≤ e → e < (M0 222 44) → ((M0 263 e = -1 ∨ t (2048 + M0 263 e)) ↔ (M0 263 e = -1 ∨ s (2048 + M0 263 e))) := fun e e0 e1 => by
    by_cases z : M0 263 e = -1
    · exact ⟨fun _ => Or.inl z, fun _ => Or.inl z⟩
    · rw [big _ (by have := aub e e0 e1 z; omega)]
  refine ⟨fun x x0 x1 xn xs xa => ?_, ⟨fun y y0 y1 dy => ?_, fun y y0 y1 => by rw [(kl.1 (26 * lv + y) (by omega)).2.1]; exact j2.2 y y0 y1⟩, fun a a0 a1 an z => ?_, ⟨fun l l0 l1 hl => ?_, fun a a0 a1 an => ?_, fun e x j e0 e1 en ea eb jb0 jb1 nw => ?_⟩, ⟨fun l l0 l1 hl => ?_, fun a a0 a1 an => ?_, fun e x j e0 e1 en ea eb jb0 jb1 => ?_⟩, fun x hx => ?_, fun x x0 x1 xn xo xs xa => ?_, fun e x e0 e1 ea eb xs au => ?_⟩
  · by_cases z : x = q
    · rw [z] at xa ⊢; exact hv xa
    · rw [k6 x x0 x1 z]; exact j1 x x0 x1 xn ((big x z).mp xs) xa
  · have u := kl.1 (26 * lv + y) (by omega)
    unfold h_mt
    rw [u.1, u.2.1]
    rw [u.2.2] at dy
    exact j2.1 y y0 y1 dy
  · rw [(kl.2 (351 * lv + a) (by omega)).2]
    exact j3 a a0 a1 an ((big _ (by omega)).mp z)
  · have u := (hX.l5 hn l0 l1 hl).2
    have w : ¬ (b + g_sp C0 M0 U n q.toNat ≤ b + g_ll M0 n l.toNat ∧ b + g_ll M0 n l.toNat < b + g_sp C0 M0 U n q.toNat + g_vl C0 M0 U q) := by omega
    rw [k1 _ (fun y => w y.2)]
    exact j4.1 l l0 l1 hl
  · have u := (hX.a5 hn a0 a1 an).2
    have e : h_sa M0 n a = g_ll M0 n 26 + g_ca M0 n a.toNat := rfl
    rw [k1 _ (fun y => by omega)]
    exact j4.2.1 a a0 a1 an
  · rw [ch e e0 e1]
    have xx := hS.eq e0 e1 en ea eb
    have u := j4.2.2 e x j e0 e1 en ea eb jb0 jb1 (fun o z => nw o ((te x).mpr (Or.inl z)))
    by_cases z : x = q
    · rw [k1 _ (fun y => nw (by rw [z]; exact y.1) ((te x).mpr (Or.inr z)))]
      exact u
    · have sd := hX.sd (U := U) q0 q1 qn xx.1.1 xx.1.2 xx.2 z
      rw [k1 _ (fun y => by omega)]
      exact u
  · have u := (hX.l5 hn l0 l1 hl).2
    rw [big _ (by omega), k2 _ (by omega)]
    exact j5.1 l l0 l1 hl
  · have u := (hX.a5 hn a0 a1 an).2
    have e : h_sa M0 n a = g_ll M0 n 26 + g_ca M0 n a.toNat := rfl
    rw [big _ (by omega), k2 _ (by omega)]
    exact j5.2.1 a a0 a1 an
  · have xx := hS.eq e0 e1 en ea eb
    have u := j5.2.2 e x j e0 e1 en ea eb jb0 jb1
    by_cases z : x = q
    · rw [z] at ea eb jb1 u ⊢
      have w := w4 e e0 e1 ea eb
      have w' : ¬ (¬ M0 263 e = -1 ∧ t (5120 + M0 263 e)) := fun y => w.2 ⟨y.1, (big _ (by have := aub e e0 e1 y.1; omega)).mp y.2⟩
      by_cases o : M0 241 q = 6
      · refine u.to (fun y => big _ (by have := aub e e0 e1 y; omega)) (fun _ => big _ (by omega)) (fun y => absurd o y) (fun y => big _ (by have := aub e e0 e1 y; omega)) (fun _ y => by rw [m6 o]; exact y)
      · have dn : (M0 241 q = 6 ∧ t (3072 + q)) ∨ (¬ M0 241 q = 6 ∧ t q) := Or.inr ⟨o, (te q).mpr (Or.inr rfl)⟩
        exact ⟨fun y => absurd y w', fun _ _ => m8 o j jb0 jb1, fun _ y => absurd dn y, fun _ y => absurd dn y⟩
    · have sd := hX.sd (U := U) q0 q1 qn xx.1.1 xx.1.2 xx.2 z
      refine u.to (fun y => big _ (by have := aub e e0 e1 y; omega)) (fun _ => big _ (by omega)) (fun _ => big _ z) (fun y => big _ (by have := aub e e0 e1 y; omega)) (fun _ y => by rw [k2 _ (by omega)]; exact y)
  · rw [hfl x hx, j6 x hx]
    constructor
    · rintro ((z | ⟨y, y0, y1, y2, y3⟩ | ⟨y, y0, y1, y2, y3⟩) | z | z)
      · exact Or.inl z
      · exact Or.inr (Or.inl ⟨y, y0, y1, (te y).mpr (Or.inl y2), y3⟩)
      · exact Or.inr (Or.inr ⟨y, y0, y1, (te y).mpr (Or.inl y2), y3⟩)
      · exact Or.inr (Or.inl ⟨q, ⟨q0, q1⟩, qn, (te q).mpr (Or.inr rfl), z⟩)
      · exact Or.inr (Or.inr ⟨q, ⟨q0, q1⟩, qn, (te q).mpr (Or.inr rfl), z⟩)
    · rintro (z | ⟨y, y0, y1, y2, y3⟩ | ⟨y, y0, y1, y2, y3⟩)
      · exact Or.inl (Or.inl z)
      · rcases (te y).mp y2 with y2 | y2
        · exact Or.inl (Or.inr (Or.inl ⟨y, y0, y1, y2, y3⟩))
        · rw [y2] at y3; exact Or.inr (Or.inl y3)
      · rcases (te y).mp y2 with y2 | y2
        · exact Or.inl (Or.inr (Or.inr ⟨y, y0, y1, y2, y3⟩))
        · rw [y2] at y3; exact Or.inr (Or.inr y3)
  · by_cases z : x = q
    · rw [z] at xo xa ⊢; exact i8 xo xa
    · exact j8 x x0 x1 xn xo ((big x z).mp xs) xa
  · rcases (te x).mp xs with z | z
    · exact (te _).mpr (Or.inl (j9 e x e0 e1 ea eb z au))
    · rw [z] at ea eb
      exact (te _).mpr (Or.inl ((w4 e e0 e1 ea eb).1 au))
/-- a part that is not worked -/
theorem h_J.skip (hX : h_X C0 M0 P F G Hh S U J Im) (hn : h_N M0 U J n) (hR : h_TK C0 M0 U S Im (k + 1) n R) (h : h_J C0 M0 U F S k n b lv V0 V s R) (te : ∀ v, t v ↔ (s v ∨ v = q)) (q0 : 0 ≤ q) (q1 : q < (M0 222 26)) (qn : M0 250 q = n) (w4 : ∀ e, 0 ≤ e → e < (M0 222 44) → M0 261 e ≤ q → q ≤ M0 262 e → (¬ M0 263 e = -1 → s (2048 + M0 263 e)) ∧ ¬ (¬ M0 263 e = -1 ∧ s (5120 + M0 263 e))) (no : ¬ h_ac M0 S n (R []) q) : h_J C0 M0 U F S k n b lv V0 V t R := by
  refine h.pass hX hn te q0 q1 qn w4 (fun z => absurd z no) (fun _ _ _ _ => rfl) (h_KL.rf lv V) (fun _ _ => rfl) (fun _ _ => rfl) (fun _ => rfl) (fun o j j0 j1 => ?_) (fun t _ => ⟨fun z => Or.inl z, fun z => by rcases z with z | z | z; exact z; exact absurd z.1 no; exact absurd z.1 no⟩) (fun _ z => absurd z no)
  have oo : M0 241 q = 6 ∨ M0 241 q = 19 ∨ M0 241 q = 22 := by
    unfold g_vl at j1
    by_cases z : M0 241 q = 6 ∨ M0 241 q = 19
    · omega
    · rw [if_neg z] at j1
      by_cases y : M0 241 q = 22
      · exact Or.inr (Or.inr y)
      · rw [if_neg y] at j1; omega
  obtain ⟨e, ee, en, ea, eb⟩ := hX.ine q0 q1 qn oo
  have w := w4 e ee.1 ee.2 ea eb
  have u := h.2.2.2.2.1.2.2 e q j ee.1 ee.2 en ea eb j0 j1
  have r := (hR.2.2.2.2.2.1 e q j ee.1 ee.2 en ea eb j0 j1).2.2 no
  by_cases z : (M0 241 q = 6 ∧ s (3072 + q)) ∨ (¬ M0 241 q = 6 ∧ s q)
  · exact u.2.1 w.2 z
  · rw [r]
    refine u.2.2.1 w.2 z ?_
    by_cases y : M0 263 e = -1
    · exact Or.inl y
    · exact Or.inr (w.1 y)
end ModelC
