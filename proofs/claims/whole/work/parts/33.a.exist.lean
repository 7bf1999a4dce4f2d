/-! A TICK THERE IS, for every memory and every input: what hangs on what -/
/-- a choice by any question -/
noncomputable def h_if (p : Prop) (a b : Int) : Int := @ite Int p (Classical.propDecidable p) a b
theorem h_if_pos {p : Prop} (h : p) (a b : Int) : h_if p a b = a := by unfold h_if; exact if_pos h
theorem h_if_neg {p : Prop} (h : ¬ p) (a b : Int) : h_if p a b = b := by unfold h_if; exact if_neg h
noncomputable def h_eo (M : ax_V) (q : Int) : Int := (Classical.epsilon (fun e : Int => (0 ≤ e ∧ e < (M 222 44)) ∧ M 261 e ≤ q ∧ q ≤ M 262 e) : Int)
/-- what a part remembers behind the strong moves -/
noncomputable def h_m7 (C M : ax_V) (U Im : Int → Int) (n : Int) (f5 : Int → Int) (r : Int → Int → Int) (q i : Int) : Int := h_if (h_rn M r (M 263 (h_eo M q)) 1 (f5 (h_sa M n (M 263 (h_eo M q)))) (M 264 (h_eo M q))) (h_vf C M Im q i) (f5 (g_sp C M U n q.toNat + i))
noncomputable def h_g5 (C M : ax_V) (U Im : Int → Int) (n : Int) (f5 : Int → Int) (r : Int → Int → Int) (q : Int) : Int → Int := fun j => h_if (¬ M 248 q = -1 ∧ r 1 (M 248 q) = 1) (Im (300 * C 520 q + j)) (h_m7 C M U Im n f5 r q j)
noncomputable def h_gi (C M : ax_V) (r : Int → Int → Int) (q : Int) : Int → Int := fun y => h_if (∃ i : Nat, (i : Int) < M 227 (C 520 q) ∧ M 230 (26 * C 520 q + (i : Int)) = y) (r 0 (e_arg M q (Classical.epsilon (fun i : Nat => (i : Int) < M 227 (C 520 q) ∧ M 230 (26 * C 520 q + (i : Int)) = y)))) 0
/-- a tick with what is remembered and what is put in -/
def h_is (C M : ax_V) (U S Im : Int → Int) (k : Nat) (m : Int) (f5 fi : Int → Int) (R : h_R) : Prop := h_TK C M U S Im k m R ∧ (∀ j, R [] 5 j = f5 j) ∧ (∀ y, 0 ≤ y → y < 26 → M 232 (26 * m + y) = 1 → R [] 1 y = fi y) ∧ 0 ≤ R [] 4 0
noncomputable def h_E (C M : ax_V) (U S Im : Int → Int) (k : Nat) (m : Int) (f5 fi : Int → Int) : h_R := Classical.epsilon (fun R => h_is C M U S Im k m f5 fi R)
/-- an equation that holds and tells y -/
def h_tl (M : ax_V) (n : Int) (r : Int → Int → Int) (y : Int) (p : Int × Int) : Prop := g_of M p.1 p.2 ∧ M 258 p.1 = n ∧ M 265 p.2 = y ∧ h_eh M r p.1 ∧ h_on r (g_ec M p.1)
/-- one round of reckoning: parts, letters, whether they are there, states, calls -/
noncomputable def h_v0 (C M : ax_V) (U S Im : Int → Int) (k : Nat) (n : Int) (f5 : Int → Int) (R : h_R) (x : Int) : Int := h_if (h_ac M S n (R []) x) (if M 241 x = 22 then h_E C M U S Im k (C 520 x) (h_g5 C M U Im n f5 (R []) x) (h_gi C M (R []) x) [] 1 (M 231 (26 * C 520 x)) else h_op (M 241 x) (M 249 x) (R [] 0 (M 245 x)) (R [] 0 (M 246 x)) (R [] 0 (M 247 x)) (R [] 1 (M 248 x)) (if M 241 x = 3 then f5 (g_ll M n (M 248 x).toNat) else h_m7 C M U Im n f5 (R []) x 0)) 0
noncomputable def h_v1 (C M : ax_V) (n : Int) (fi : Int → Int) (R : h_R) (x : Int) : Int := if M 232 (26 * n + x) = 1 then fi x else h_if (∃ p, h_tl M n (R []) x p) (if M 260 (Classical.epsilon (h_tl M n (R []) x)).1 = 1 then R [] 0 (M 262 (Classical.epsilon (h_tl M n (R []) x)).1) else R [M 262 (Classical.epsilon (h_tl M n (R []) x)).1] 1 (M 231 (26 * C 520 (M 262 (Classical.epsilon (h_tl M n (R []) x)).1) + ((Classical.epsilon (h_tl M n (R []) x)).2 - M 259 (Classical.epsilon (h_tl M n (R []) x)).1)))) 0
noncomputable def h_v2 (M : ax_V) (n : Int) (R : h_R) (x : Int) : Int := h_if (M 232 (26 * n + x) = 1 ∨ ∃ p, h_tl M n (R []) x p) 1 0
noncomputable def h_v3 (M : ax_V) (n : Int) (f5 : Int → Int) (R : h_R) (x : Int) : Int := h_if (∃ m, h_f1 M (R []) x 1 (f5 (h_sa M n x)) m) (M 275 (Classical.epsilon (h_f1 M (R []) x 1 (f5 (h_sa M n x))))) (f5 (h_sa M n x))
noncomputable def h_vs (C M : ax_V) (U S Im : Int → Int) (k : Nat) (n : Int) (f5 : Int → Int) (R : h_R) (q : Int) (p : List Int) (kd x : Int) : Int := h_if (M 241 q = 22 ∧ h_ac M S n (R []) q) (h_E C M U S Im k (C 520 q) (h_g5 C M U Im n f5 (R []) q) (h_gi C M (R []) q) p kd x) 0
noncomputable def h_gr (C M : ax_V) (U S Im : Int → Int) (k : Nat) (n : Int) (f5 fi : Int → Int) (R : h_R) : h_R
  | [], kd, x => if kd = 0 then h_v0 C M U S Im k n f5 R x else if kd = 1 then h_v1 C M n fi R x else if kd = 2 then h_v2 M n R x else if kd = 3 then h_v3 M n f5 R x else if kd = 5 then f5 x else 0
  | q :: p, kd, x => h_vs C M U S Im k n f5 R q p kd x
section Rounds
variable {C0 M0 : ax_V} {U S Im f5 fi : Int → Int} {k : Nat} {n x : Int} {R : h_R}
theorem h_gr_0 : h_gr C0 M0 U S Im k n f5 fi R [] 0 x = h_v0 C0 M0 U S Im k n f5 R x := rfl
theorem h_gr_1 : h_gr C0 M0 U S Im k n f5 fi R [] 1 x = h_v1 C0 M0 n fi R x := rfl
theorem h_gr_2 : h_gr C0 M0 U S Im k n f5 fi R [] 2 x = h_v2 M0 n R x := rfl
theorem h_gr_3 : h_gr C0 M0 U S Im k n f5 fi R [] 3 x = h_v3 M0 n f5 R x := rfl
theorem h_gr_5 (j : Int) : h_gr C0 M0 U S Im k n f5 fi R [] 5 j = f5 j := rfl
theorem h_gr_s (q : Int) (p : List Int) : h_gr C0 M0 U S Im k n f5 fi R (q :: p) = h_vs C0 M0 U S Im k n f5 R q p := rfl
end Rounds
/-- two records agree on what has come -/
def h_ag (M : ax_V) (n : Int) (f5 : Int → Int) (s : Int → Prop) (R R' : h_R) : Prop := (∀ q, 0 ≤ q → q < (M 222 26) → M 250 q = n → s q → R [] 0 q = R' [] 0 q ∧ ∀ p, R (q :: p) = R' (q :: p)) ∧ (∀ y, 0 ≤ y → y < 26 → g_rd M s n y → R [] 1 y = R' [] 1 y ∧ R [] 2 y = R' [] 2 y) ∧ (∀ a, 0 ≤ a → a < (M 222 55) → M 267 a = n → s (2048 + a) → R [] 3 a = R' [] 3 a) ∧ ∀ j, R [] 5 j = f5 j ∧ R' [] 5 j = f5 j
section Exist
variable {C0 M0 P V : ax_V} {F G Hh S U J Im : Int → Int} {n q e a b x m st y : Int} {k : Nat} {s t : Int → Prop} {R R' : h_R} {f5 fi : Int → Int}
theorem h_eo_e (hS : g_S C0 M0) (e0 : 0 ≤ e) (e1 : e < (M0 222 44)) (ea : M0 261 e ≤ q) (eb : q ≤ M0 262 e) : h_eo M0 q = e := by
  have orr := hS.2.2.2.2.1.2.2.2.2.2.1.2.2.1
  have sp : (0 ≤ h_eo M0 q ∧ h_eo M0 q < (M0 222 44)) ∧ M0 261 (h_eo M0 q) ≤ q ∧ q ≤ M0 262 (h_eo M0 q) := Classical.epsilon_spec (p := fun e : Int => (0 ≤ e ∧ e < (M0 222 44)) ∧ M0 261 e ≤ q ∧ q ≤ M0 262 e) ⟨e, ⟨e0, e1⟩, ea, eb⟩
  obtain ⟨e', he⟩ : ∃ e', e' = h_eo M0 q := ⟨_, rfl⟩
  rw [← he] at sp ⊢
  by_cases u : e' = e
  · exact u
  · by_cases w : e' < e
    · have := orr.1 e' e sp.1.1 w e1; omega
    · have := orr.1 e e' e0 (by omega) sp.1.2; omega
theorem h_f1_cg {r r' : Int → Int → Int} (h : ∀ m, 0 ≤ m → m < (M0 222 60) → M0 271 m = a → M0 273 m = x → r 0 (M0 277 m) = r' 0 (M0 277 m)) (m : Int) : h_f1 M0 r a x st m ↔ h_f1 M0 r' a x st m := by
  constructor
  · rintro ⟨mb, mt, m1, m2⟩
    exact ⟨mb, mt, by rw [← h m mb.1 mb.2 mt.1 mt.2.1]; exact m1, fun m' a b c d e => by rw [← h m' a (by omega) c d]; exact m2 m' a b c d e⟩
  · rintro ⟨mb, mt, m1, m2⟩
    exact ⟨mb, mt, by rw [h m mb.1 mb.2 mt.1 mt.2.1]; exact m1, fun m' a b c d e => by rw [h m' a (by omega) c d]; exact m2 m' a b c d e⟩
theorem h_on_cg {r r' : Int → Int → Int} {c : Int} (h : ¬ c = 0 → r 1 ((c - 1) / 2) = r' 1 ((c - 1) / 2) ∧ r 2 ((c - 1) / 2) = r' 2 ((c - 1) / 2)) : h_on r c ↔ h_on r' c := by
  unfold h_on
  by_cases z : c = 0
  · exact ⟨fun _ => Or.inl z, fun _ => Or.inl z⟩
  · rw [(h z).1, (h z).2]
theorem h_eh_cg {r r' : Int → Int → Int} (h : ¬ M0 263 e = -1 → r 3 (M0 263 e) = r' 3 (M0 263 e)) : h_eh M0 r e ↔ h_eh M0 r' e := by
  unfold h_eh
  by_cases z : M0 263 e = -1
  · exact ⟨fun _ => Or.inl z, fun _ => Or.inl z⟩
  · rw [h z]
/-- moves that have been worked -/
theorem h_rn_cg (hS : g_S C0 M0) (A : h_ag M0 n f5 s R R') (a0 : 0 ≤ a) (a1 : a < (M0 222 55)) (an : M0 267 a = n) (wk : ∀ m q, 0 ≤ m → m < (M0 222 60) → M0 271 m = a → ¬ M0 273 m = 0 → M0 276 m ≤ q → q ≤ M0 277 m → s q) (m : Int) : h_f1 M0 (R []) a 1 st m ↔ h_f1 M0 (R' []) a 1 st m := by
  refine h_f1_cg (fun m' m0 m1 ta tx => ?_) m
  have fx := (hS.2.2.2.2.1.2.2.2.2.1 m' m0 m1).2.2.2.2.2.2.2
  have f1 := fx.1
  exact (A.1 _ (by omega) f1.2.2 ((fx.2.2 _ f1.2.1 (Int.le_refl _)).1.1.trans (by rw [ta]; exact an)) (wk m' _ m0 m1 ta (by omega) f1.2.1 (Int.le_refl _))).1
/-- what a part finds hangs on what has come -/
theorem h_ac_cg (hX : h_X C0 M0 P F G Hh S U J Im) (A : h_ag M0 n f5 s R R') (q0 : 0 ≤ q) (q1 : q < (M0 222 26)) (qn : M0 250 q = n) (w3 : C0 525 q = -1 → ¬ S q = 0 → g_rd M0 s n ((S q - 1) / 2)) (w4 : ∀ e, 0 ≤ e → e < (M0 222 44) → M0 261 e ≤ q → q ≤ M0 262 e → ¬ M0 263 e = -1 → s (2048 + M0 263 e)) (w5 : ∀ m, 0 ≤ m → m < (M0 222 60) → M0 276 m ≤ q → q ≤ M0 277 m → (M0 273 m = 0 → s (2048 + M0 271 m))) : h_ac M0 S n (R []) q ↔ h_ac M0 S n (R' []) q := by
  have hS := hX.hS
  have hB := hS.2.2.2.2.1
  rcases hB.2.2.2.2.2.1.1 q q0 q1 with ⟨e, e0, e1, ea, eb⟩ | ⟨m, m0, m1, ma, mb⟩
  · have fx := (hB.2.1 e e0 e1).2.2.2.2.2.1.2.2 q ea eb
    have en : M0 258 e = n := by rw [← fx.1.1]; exact qn
    rw [hS.acE (S := S) e0 e1 en ea eb, hS.acE (S := S) e0 e1 en ea eb]
    have c1 := h_eh_cg (M0 := M0) (e := e) (r := R []) (r' := R' []) (fun z => by
      rcases hS.st e0 e1 with y | y
      · exact absurd y.2.1 z
      · exact A.2.2.1 _ y.2.1.1 y.2.1.2 (y.2.2.2.2.2.2.trans en) (w4 e e0 e1 ea eb z))
    have c2 := h_on_cg (c := S q) (r := R []) (r' := R' []) (fun z => by
      have s0 := hS.Snn hX.hT q0 q1
      have s1 := hX.hr q
      have st : C0 525 q = -1 := by
        by_cases y : C0 525 q = -1
        · exact y
        · exact absurd (hS.S0 hX.hT q0 q1 y) z
      exact A.2.1 _ (by omega) (by omega) (w3 st z))
    rw [c1, c2]
  · have fx := (hB.2.2.2.2.1 m m0 m1).2.2.2.2.2.2.2.2.2 q ma mb
    have tm := (hS.tr m0 m1).1
    have mn : M0 267 (M0 271 m) = n := by rw [← fx.1.1]; exact qn
    rw [hS.acT (S := S) m0 m1 mn ma mb, hS.acT (S := S) m0 m1 mn ma mb]
    by_cases z : M0 273 m = 0
    · rw [if_pos z, if_pos z, A.2.2.1 _ tm.1 tm.2 mn (w5 m m0 m1 ma mb z)]
    · rw [if_neg z, if_neg z, (A.2.2.2 _).1, (A.2.2.2 _).2]
set_option maxHeartbeats 1000000 in
/-- a part -/
theorem h_gr_part (hX : h_X C0 M0 P F G Hh S U J Im) (hn : h_N M0 U J n) (A : h_ag M0 n f5 s R R') (cl : h_cl C0 M0 s n) (q0 : 0 ≤ q) (q1 : q < (M0 222 26)) (new : ¬ s q) (sk : g_sk C0 M0 s n q) : h_gr C0 M0 U S Im k n f5 fi R [] 0 q = h_gr C0 M0 U S Im k n f5 fi R' [] 0 q ∧ ∀ p, h_gr C0 M0 U S Im k n f5 fi R (q :: p) = h_gr C0 M0 U S Im k n f5 fi R' (q :: p) := by
  have hS := hX.hS
  have nn := hn.1
  obtain ⟨qn, w1, w2, w3, w4, w5, -⟩ := h_wk hS hX.ok hX.hT hX.hr hX.hcl nn.1 nn.2 cl q0 q1 new sk
  have ac := h_ac_cg hX A q0 q1 qn w3 w4 (fun m m0 m1 ma mb => (w5 m m0 m1 ma mb).1)
  have ob := (hS.op q0 q1).1
  -- what is remembered
  have m7 : (M0 241 q = 6 ∨ M0 241 q = 19 ∨ M0 241 q = 22) → ∀ i, h_m7 C0 M0 U Im n f5 (R []) q i = h_m7 C0 M0 U Im n f5 (R' []) q i := fun o i => by
    obtain ⟨e, ee, en, ea, eb⟩ := hX.ine q0 q1 qn o
    have eo := h_eo_e hS ee.1 ee.2 ea eb
    unfold h_m7
    rw [eo]
    have c : h_rn M0 (R []) (M0 263 e) 1 (f5 (h_sa M0 n (M0 263 e))) (M0 264 e) ↔ h_rn M0 (R' []) (M0 263 e) 1 (f5 (h_sa M0 n (M0 263 e))) (M0 264 e) := by
      by_cases au : M0 263 e = -1
      · exact ⟨fun z => absurd z (h_rn.no hS au), fun z => absurd z (h_rn.no hS au)⟩
      · rcases hS.st ee.1 ee.2 with y | y
        · exact absurd y.2.1 au
        · have f := h_rn_cg (st := f5 (h_sa M0 n (M0 263 e))) hS A y.2.1.1 y.2.1.2 (y.2.2.2.2.2.2.trans en) (fun m q' m0 m1 ta ms qa qb => cl.2.1 _ m q' y.2.1.1 y.2.1.2 (w4 e ee.1 ee.2 ea eb au) m0 m1 ta ms qa qb)
          constructor
          · rintro ⟨m, h1, h2⟩
            exact ⟨m, (f m).mp h1, h2⟩
          · rintro ⟨m, h1, h2⟩
            exact ⟨m, (f m).mpr h1, h2⟩
    rw [propext c]
  have kid : ∀ x, e_kid M0 q x → ¬ M0 241 q = 6 → R [] 0 x = R' [] 0 x := fun x kx o6 => by
    have lt := ((hS.p q0 q1).2.2.2.2.2.2.2.2.2.2 x kx).1
    rcases w1 x kx with z | z
    · exact absurd z o6
    · exact (A.1 x kx.1 (by omega) ((hS.kidn q0 q1 kx).trans qn) z).1
  have lett : (M0 241 q = 2 ∨ M0 241 q = 20 ∨ M0 241 q = 21 ∨ (M0 241 q = 22 ∧ ¬ M0 248 q = -1)) → R [] 1 (M0 248 q) = R' [] 1 (M0 248 q) := fun o => by
    have l := hS.pl q0 q1 (by omega)
    exact (A.2.1 _ l.1 l.2 (w2 o)).1
  have call : M0 241 q = 22 → h_g5 C0 M0 U Im n f5 (R []) q = h_g5 C0 M0 U Im n f5 (R' []) q ∧ h_gi C0 M0 (R []) q = h_gi C0 M0 (R' []) q := fun o => by
    constructor
    · funext j
      unfold h_g5
      rw [m7 (Or.inr (Or.inr o)) j]
      by_cases z : M0 248 q = -1
      · rw [h_if_neg (fun y => y.1 z), h_if_neg (fun y => y.1 z)]
      · rw [lett (Or.inr (Or.inr (Or.inr ⟨o, z⟩)))]
    · funext y
      unfold h_gi
      by_cases z : ∃ i : Nat, (i : Int) < M0 227 (C0 520 q) ∧ M0 230 (26 * C0 520 q + (i : Int)) = y
      · rw [h_if_pos z, h_if_pos z]
        obtain ⟨K, K1, K2, K3⟩ := hS.cargs hX.ok hX.n3 q0 q1 o
        obtain ⟨i, hi⟩ : ∃ i, i = Classical.epsilon (fun i : Nat => (i : Int) < M0 227 (C0 520 q) ∧ M0 230 (26 * C0 520 q + (i : Int)) = y) := ⟨_, rfl⟩
        have sp : (i : Int) < M0 227 (C0 520 q) ∧ M0 230 (26 * C0 520 q + (i : Int)) = y := by rw [hi]; exact Classical.epsilon_spec z
        rw [← hi]
        have a0 := (K3 i (by have := sp.1; omega)).1.1
        exact kid _ ⟨a0, Or.inr ⟨o, i, rfl⟩⟩ (by omega)
      · rw [h_if_neg z, h_if_neg z]
  refine ⟨?_, fun p => ?_⟩
  · rw [h_gr_0, h_gr_0]
    unfold h_v0
    by_cases z : h_ac M0 S n (R []) q
    · rw [h_if_pos z, h_if_pos (ac.mp z)]
      by_cases o : M0 241 q = 22
      · rw [if_pos o, if_pos o, (call o).1, (call o).2]
      · rw [if_neg o, if_neg o]
        have ar := hS.ar q0 q1
        unfold e_ar at ar
        refine h_op_congr ob (fun y => ?_) (fun y => ?_) (fun y => ?_) (fun y => lett (by omega)) (fun y => ?_)
        · exact kid _ ⟨by omega, Or.inl ⟨o, Or.inl rfl⟩⟩ (by omega)
        · exact kid _ ⟨by omega, Or.inl ⟨o, Or.inr (Or.inl rfl)⟩⟩ (by omega)
        · exact kid _ ⟨by omega, Or.inl ⟨o, Or.inr (Or.inr rfl)⟩⟩ (by omega)
        · by_cases o3 : M0 241 q = 3
          · rw [if_pos o3, if_pos o3]
          · rw [if_neg o3, if_neg o3]; exact m7 (by omega) 0
    · rw [h_if_neg z, h_if_neg (fun y => z (ac.mpr y))]
  · funext kd x
    rw [h_gr_s, h_gr_s]
    unfold h_vs
    by_cases z : M0 241 q = 22 ∧ h_ac M0 S n (R []) q
    · rw [h_if_pos z, h_if_pos ⟨z.1, ac.mp z.2⟩, (call z.1).1, (call z.1).2]
    · rw [h_if_neg z, h_if_neg (fun y => z ⟨y.1, ac.mpr y.2⟩)]
/-- an automaton -/
theorem h_gr_au (hX : h_X C0 M0 P F G Hh S U J Im) (A : h_ag M0 n f5 s R R') (a0 : 0 ≤ a) (a1 : a < (M0 222 55)) (an : M0 267 a = n) (wk : ∀ m q, 0 ≤ m → m < (M0 222 60) → M0 271 m = a → ¬ M0 273 m = 0 → M0 276 m ≤ q → q ≤ M0 277 m → s q) : h_gr C0 M0 U S Im k n f5 fi R [] 3 a = h_gr C0 M0 U S Im k n f5 fi R' [] 3 a := by
  have f := h_rn_cg (st := f5 (h_sa M0 n a)) hX.hS A a0 a1 an wk
  have e : h_f1 M0 (R []) a 1 (f5 (h_sa M0 n a)) = h_f1 M0 (R' []) a 1 (f5 (h_sa M0 n a)) := funext fun m => propext (f m)
  rw [h_gr_3, h_gr_3]
  unfold h_v3
  rw [e]
/-- a letter -/
theorem h_gr_lt (hX : h_X C0 M0 P F G Hh S U J Im) (hn : h_N M0 U J n) (A : (∃ e i, g_of M0 e i ∧ M0 258 e = n ∧ M0 265 i = y) → h_ag M0 n f5 s R R') (eb : ∀ e i, g_of M0 e i → M0 258 e = n → M0 265 i = y → g_eb C0 M0 s n e ∧ s (M0 262 e)) : h_gr C0 M0 U S Im k n f5 fi R [] 1 y = h_gr C0 M0 U S Im k n f5 fi R' [] 1 y ∧ h_gr C0 M0 U S Im k n f5 fi R [] 2 y = h_gr C0 M0 U S Im k n f5 fi R' [] 2 y := by
  have hS := hX.hS
  have tl : ∀ p, h_tl M0 n (R []) y p ↔ h_tl M0 n (R' []) y p := fun p => by
    have key : g_of M0 p.1 p.2 → M0 258 p.1 = n → M0 265 p.2 = y → ((h_eh M0 (R []) p.1 ↔ h_eh M0 (R' []) p.1) ∧ (h_on (R []) (g_ec M0 p.1) ↔ h_on (R' []) (g_ec M0 p.1))) := fun o en l => by
      have A := A ⟨p.1, p.2, o, en, l⟩
      obtain ⟨b1, b2⟩ := eb p.1 p.2 o en l
      obtain ⟨cb, o0, lb⟩ := hX.ecb o.1.1 o.1.2
      refine ⟨h_eh_cg (fun z => ?_), h_on_cg (fun z => A.2.1 _ (by omega) (by omega) (b1.1 _ (by omega) (by omega) (Or.inr ⟨_, o0, by rw [(lb _ o0).2]; exact z, by rw [(lb _ o0).2]⟩)))⟩
      rcases hS.st o.1.1 o.1.2 with w | w
      · exact absurd w.2.1 z
      · exact A.2.2.1 _ w.2.1.1 w.2.1.2 (w.2.2.2.2.2.2.trans en) (b1.2 z)
    constructor
    · rintro ⟨o, en, l, h1, h2⟩
      have c := key o en l
      exact ⟨o, en, l, c.1.mp h1, c.2.mp h2⟩
    · rintro ⟨o, en, l, h1, h2⟩
      have c := key o en l
      exact ⟨o, en, l, c.1.mpr h1, c.2.mpr h2⟩
  have e : h_tl M0 n (R []) y = h_tl M0 n (R' []) y := funext fun p => propext (tl p)
  constructor
  · rw [h_gr_1, h_gr_1]
    unfold h_v1
    by_cases k1 : M0 232 (26 * n + y) = 1
    · rw [if_pos k1, if_pos k1]
    · rw [if_neg k1, if_neg k1, e]
      by_cases z : ∃ p, h_tl M0 n (R' []) y p
      · rw [h_if_pos z, h_if_pos z]
        obtain ⟨p, hp⟩ : ∃ p, p = Classical.epsilon (h_tl M0 n (R' []) y) := ⟨_, rfl⟩
        have sp : h_tl M0 n (R' []) y p := by rw [hp]; exact Classical.epsilon_spec z
        rw [← hp]
        have A := A ⟨p.1, p.2, sp.1, sp.2.1, sp.2.2.1⟩
        have b2 := (eb p.1 p.2 sp.1 sp.2.1 sp.2.2.1).2
        have fx := (hS.2.2.2.2.1.2.1 p.1 sp.1.1.1 sp.1.1.2).2.2.2.2.2.1
        have f1 := fx.1
        have c := A.1 _ (by omega) f1.2.2 ((fx.2.2 _ f1.2.1 (Int.le_refl _)).1.1.trans sp.2.1) b2
        rw [c.1, c.2]
      · rw [h_if_neg z, h_if_neg z]
  · rw [h_gr_2, h_gr_2]
    unfold h_v2
    rw [e]
end Exist
