/-! A NEW PART, in the model and in the class -/
/-- the model's tables of parts, from P on, and its places alone may differ -/
def e_fM (M M' : ax_V) (P : Int) : Prop := (∀ c, c ≠ 222 → (c < 241 ∨ 257 < c) → M' c = M c) ∧ (∀ c p, 241 ≤ c → c ≤ 257 → p < P → M' c p = M c p) ∧ ∀ k, k ≠ 26 → k ≠ 68 → k ≠ 69 → k ≠ 72 → k ≠ 74 → k ≠ 75 → M' 222 k = M 222 k
def e_fC (C C' : ax_V) (P : Int) : Prop := (∀ c, c ≠ 600 → (c < 516 ∨ 531 < c) → C' c = C c) ∧ (∀ c p, 517 ≤ c → c ≤ 531 → p < P → C' c p = C c p) ∧ ∀ k, k ≠ 6 → k ≠ 11 → k ≠ 12 → k ≠ 13 → C' 600 k = C 600 k
theorem e_fM.rf (M : ax_V) (P : Int) : e_fM M M P := ⟨fun _ _ _ => rfl, fun _ _ _ _ _ => rfl, fun _ _ _ _ _ _ _ => rfl⟩
theorem e_fC.rf (C : ax_V) (P : Int) : e_fC C C P := ⟨fun _ _ _ => rfl, fun _ _ _ _ _ => rfl, fun _ _ _ _ _ => rfl⟩
theorem e_fM.tr {M M1 M2 : ax_V} {P P1 : Int} (h : e_fM M M1 P) (k : e_fM M1 M2 P1) (hP : P ≤ P1) : e_fM M M2 P :=
  ⟨fun c a b => (k.1 c a b).trans (h.1 c a b), fun c p a b q => (k.2.1 c p a b (by omega)).trans (h.2.1 c p a b q), fun j a b c d e f => (k.2.2 j a b c d e f).trans (h.2.2 j a b c d e f)⟩
theorem e_fC.tr {C C1 C2 : ax_V} {P P1 : Int} (h : e_fC C C1 P) (k : e_fC C1 C2 P1) (hP : P ≤ P1) : e_fC C C2 P :=
  ⟨fun c a b => (k.1 c a b).trans (h.1 c a b), fun c p a b q => (k.2.1 c p a b (by omega)).trans (h.2.1 c p a b q), fun j a b c d => (k.2.2 j a b c d).trans (h.2.2 j a b c d)⟩
theorem e_fM.us {M : ax_V} {P k x : Int} (hk : k = 26 ∨ k = 68 ∨ k = 69 ∨ k = 72 ∨ k = 74 ∨ k = 75) : e_fM M (ax_u M 222 k x) P := by
  refine ⟨fun c a b => ax_u_ne a, fun c p a b q => ?_, fun j a b c d e f => ?_⟩
  · rw [ax_u_ne (by omega)]
  · unfold ax_u
    rw [if_neg (fun w => by have := w.2; omega)]
theorem e_fM.ua {M : ax_V} {P p x : Int} {c : Nat} (hc : 241 ≤ c ∧ c ≤ 257) (hp : P ≤ p) : e_fM M (ax_u M c p x) P := by
  refine ⟨fun c' a b => ax_u_ne (by omega), fun c' q a b w => ?_, fun j a b c d e f => ?_⟩
  · unfold ax_u
    rw [if_neg (fun w => by have := w.2; omega)]
  · rw [ax_u_ne (by omega)]
theorem e_fC.us {C : ax_V} {P k x : Int} (hk : k = 6 ∨ k = 11 ∨ k = 12 ∨ k = 13) : e_fC C (ax_u C 600 k x) P := by
  refine ⟨fun c a b => ax_u_ne a, fun c p a b q => ?_, fun j a b c d => ?_⟩
  · rw [ax_u_ne (by omega)]
  · unfold ax_u
    rw [if_neg (fun w => by have := w.2; omega)]
theorem e_fC.ua {C : ax_V} {P p x : Int} {c : Nat} (hc : 517 ≤ c ∧ c ≤ 531) (hp : P ≤ p) : e_fC C (ax_u C c p x) P := by
  refine ⟨fun c' a b => ax_u_ne (by omega), fun c' q a b w => ?_, fun j a b c d => ?_⟩
  · unfold ax_u
    rw [if_neg (fun w => by have := w.2; omega)]
  · rw [ax_u_ne (by omega)]
theorem e_fC.uc {C : ax_V} {P p x : Int} : e_fC C (ax_u C 516 p x) P := by
  refine ⟨fun c' a b => ax_u_ne (by omega), fun c' q a b w => ?_, fun j a b c d => ?_⟩
  · rw [ax_u_ne (by omega)]
  · rw [ax_u_ne (by omega)]
def m_mk (M : ax_V) (o f x y z : Int) : ax_V := ax_u (ax_u (ax_u (ax_u (ax_u (ax_u (ax_u (ax_u (ax_u (ax_u (ax_u (ax_u (ax_u (ax_u (ax_u M 222 26 ((M 222 26) + 1)) 241 (M 222 26) o) 242 (M 222 26) f) 243 (M 222 26) f) 244 (M 222 26) (-1)) 245 (M 222 26) x) 246 (M 222 26) y) 247 (M 222 26) z) 248 (M 222 26) (-1)) 249 (M 222 26) 0) 250 (M 222 26) (M 222 10)) 251 (M 222 26) (-1)) 252 (M 222 26) (-1)) 256 (M 222 26) 0) 222 74 (M 222 26)
def c_mk (C : ax_V) (o f a w : Int) : ax_V := ax_u (ax_u (ax_u (ax_u (ax_u (ax_u (ax_u (ax_u (ax_u (ax_u (ax_u (ax_u (ax_u C 516 0 ((C 516 0) + 1)) 517 (C 516 0) o) 518 (C 516 0) f) 519 (C 516 0) a) 520 (C 516 0) w) 521 (C 516 0) (-1)) 522 (C 516 0) (-1)) 523 (C 516 0) (-1)) 524 (C 516 0) (-1)) 527 (C 516 0) 0) 531 (C 516 0) (-1)) 525 (C 516 0) (C 600 9)) 526 (C 516 0) (ax_b (0 < (C 600 13)))
section Parts
variable {d : Nat} {M C : ax_V} {Φ : Int → ax_V → Prop} {Θ : ax_V → Prop} {B r : Nat}
theorem m_mk_f {o f x y z : Int} : e_fM M (m_mk M o f x y z) (M 222 26) := by
  unfold m_mk
  refine e_fM.tr ?_ (e_fM.us (by decide)) (Int.le_refl _)
  iterate 13 refine e_fM.tr ?_ (e_fM.ua (by decide) (Int.le_refl _)) (Int.le_refl _)
  exact e_fM.us (by decide)
theorem c_mk_f {o f a w : Int} : e_fC C (c_mk C o f a w) (C 516 0) := by
  unfold c_mk
  iterate 12 refine e_fC.tr ?_ (e_fC.ua (by decide) (Int.le_refl _)) (Int.le_refl _)
  exact e_fC.uc
theorem c_mk_g {o f a w : Int} (hg : ax_g C) (ho : ax_rg o) (hf : ax_rg f) (ha : ax_rg a) (hw : ax_rg w) (hp : ax_rg ((C 516 0) + 1)) : ax_g (c_mk C o f a w) := by
  unfold c_mk
  exact ax_u_g (ax_u_g (ax_u_g (ax_u_g (ax_u_g (ax_u_g (ax_u_g (ax_u_g (ax_u_g (ax_u_g (ax_u_g (ax_u_g (ax_u_g hg hp) ho) hf) ha) hw) (by decide)) (by decide)) (by decide)) (by decide)) (by decide)) (by decide)) (hg _ _)) ax_b_rg
theorem m_mk_g {o f x y z : Int} (hg : ax_g M) (ho : ax_rg o) (hf : ax_rg f) (hx : ax_rg x) (hy : ax_rg y) (hz : ax_rg z) (hp : ax_rg ((M 222 26) + 1)) : ax_g (m_mk M o f x y z) := by
  unfold m_mk
  exact ax_u_g (ax_u_g (ax_u_g (ax_u_g (ax_u_g (ax_u_g (ax_u_g (ax_u_g (ax_u_g (ax_u_g (ax_u_g (ax_u_g (ax_u_g (ax_u_g (ax_u_g hg hp) ho) hf) hf) (by decide)) hx) hy) hz) (by decide)) (by decide)) (hg _ _)) (by decide)) (by decide)) (by decide)) (hg _ _)
theorem m_mk_at {o f x y z : Int} {M' : ax_V} (e : M' = m_mk M o f x y z) : (M' 222 26) = (M 222 26) + 1 ∧ (M' 222 74) = (M 222 26) ∧ M' 241 (M 222 26) = o ∧ M' 242 (M 222 26) = f ∧ M' 243 (M 222 26) = f ∧ M' 244 (M 222 26) = -1 ∧ M' 245 (M 222 26) = x ∧ M' 246 (M 222 26) = y ∧ M' 247 (M 222 26) = z ∧ M' 248 (M 222 26) = -1 ∧ M' 249 (M 222 26) = 0 ∧ M' 250 (M 222 26) = (M 222 10) ∧ M' 251 (M 222 26) = -1 ∧ M' 252 (M 222 26) = -1 ∧ M' 256 (M 222 26) = 0 ∧ (M' 222 68) = (M 222 68) ∧ (M' 222 69) = (M 222 69) ∧ (M' 222 72) = (M 222 72) := by
  subst e
  simp [m_mk, ax_u]
theorem c_mk_at {o f a w : Int} {C' : ax_V} (e : C' = c_mk C o f a w) : (C' 516 0) = (C 516 0) + 1 ∧ C' 517 (C 516 0) = o ∧ C' 518 (C 516 0) = f ∧ C' 519 (C 516 0) = a ∧ C' 520 (C 516 0) = w ∧ C' 521 (C 516 0) = -1 ∧ C' 522 (C 516 0) = -1 ∧ C' 523 (C 516 0) = -1 ∧ C' 524 (C 516 0) = -1 ∧ C' 527 (C 516 0) = 0 ∧ C' 525 (C 516 0) = (C 600 9) ∧ C' 526 (C 516 0) = ax_b (0 < (C 600 13)) ∧ (C' 600 6) = (C 600 6) ∧ (C' 600 11) = (C 600 11) ∧ (C' 600 12) = (C 600 12) ∧ (C' 600 13) = (C 600 13) := by
  subst e
  simp [c_mk, ax_u]
theorem s_makePart {o f x y z : Int} (hg : ax_g M) (ho : ax_rg o) (hf : ax_rg f) (hx : ax_rg x) (hy : ax_rg y) (hz : ax_rg z) (hp : 0 ≤ (M 222 26) ∧ (M 222 26) < 701) (h : Φ (M 222 26) (m_mk M o f x y z)) : ax_I ay_lay (d + 1) q_Model_makePart [.ref 222, ax_i o, ax_i f, ax_i x, ax_i y, ax_i z] M Φ Θ := by
  refine r_Model_makePart hg ho hf hx hy hz ⟨⟨by omega, by omega⟩, fun V1 e1 => ⟨hp, fun V2 e2 => ⟨hp, fun V3 e3 => ⟨hp, fun V4 e4 => ⟨hp, fun V5 e5 => ⟨hp, fun V6 e6 => ⟨hp, fun V7 e7 => ⟨hp, fun V8 e8 => ⟨hp, fun V9 e9 => ⟨hp, fun V10 e10 => ⟨hp, fun V11 e11 => ⟨hp, fun V12 e12 => ⟨hp, fun V13 e13 => ⟨hp, fun V14 e14 V15 e15 => ?_⟩⟩⟩⟩⟩⟩⟩⟩⟩⟩⟩⟩⟩⟩
  have en : (V10 222 10) = (M 222 10) := by subst e1 e2 e3 e4 e5 e6 e7 e8 e9 e10; simp [ax_u]
  rw [en] at e11
  subst e1 e2 e3 e4 e5 e6 e7 e8 e9 e10 e11 e12 e13 e14 e15
  exact h
theorem t_addPart {o f a w : Int} (hg : ax_g C) (ho : ax_rg o) (hf : ax_rg f) (ha : ax_rg a) (hw : ax_rg w) (hp : 0 ≤ (C 516 0) ∧ (C 516 0) < 700) (h : Φ (C 516 0) (c_mk C o f a w)) : ax_I (az_W B (az_ER B r)) (d + 2) q_Reader_addPart [.ref r, ax_i o, ax_i f, ax_i a, ax_i w] C Φ Θ := by
  refine r_Reader_addPart hg ho hf ha hw ⟨fun _ => ?_, fun q => by omega⟩
  refine r_Reader_addPart_17 hg ho hf ha hw ax_y_n ?_
  refine r_Parts_add hg ho hf ha hw ⟨⟨by omega, by omega⟩, fun V1 e1 => ⟨hp, fun V2 e2 => ⟨hp, fun V3 e3 => ⟨hp, fun V4 e4 => ⟨hp, fun V5 e5 => ⟨hp, fun V6 e6 => ⟨hp, fun V7 e7 => ⟨hp, fun V8 e8 => ⟨hp, fun V9 e9 => ⟨hp, fun V10 e10 => ⟨hp, fun V11 e11 => ⟨hp, fun V12 e12 => ?_⟩⟩⟩⟩⟩⟩⟩⟩⟩⟩⟩⟩
  have es : (V11 600 9) = (C 600 9) := by subst e1 e2 e3 e4 e5 e6 e7 e8 e9 e10 e11; simp [ax_u]
  have ed : (V12 600 13) = (C 600 13) := by subst e1 e2 e3 e4 e5 e6 e7 e8 e9 e10 e11 e12; simp [ax_u]
  rw [es] at e12
  rw [ed]
  refine ⟨fun q => ⟨hp, fun V13 e13 => ?_⟩, fun q => ⟨hp, fun V13 e13 => ?_⟩⟩
  · have eb : ax_b (0 < (C 600 13)) = 0 := ax_b_f (by omega)
    unfold c_mk at h
    rw [eb] at h
    subst e1 e2 e3 e4 e5 e6 e7 e8 e9 e10 e11 e12 e13
    exact h
  · have eb : ax_b (0 < (C 600 13)) = 1 := ax_b_t q
    unfold c_mk at h
    rw [eb] at h
    subst e1 e2 e3 e4 e5 e6 e7 e8 e9 e10 e11 e12 e13
    exact h
theorem s_open {w : Int} (hg : ax_g M) (hw : 0 ≤ w ∧ w ≤ 2) (hi : 0 ≤ (M 222 68) ∧ (M 222 68) ≤ 1000000) (hd : 0 ≤ (M 222 69) ∧ (M 222 69) ≤ 20) (h1 : (M 222 69) < 20 → Φ 1 (ax_u (ax_u M 222 69 ((M 222 69) + 1)) 222 68 ((M 222 68) + w))) (h0 : (M 222 69) = 20 → Φ 0 M) : ax_I ay_lay (d + 1) q_Model_open [.ref 222, ax_i w] M Φ Θ := by
  refine r_Model_open hg ⟨by omega, by omega⟩ ⟨h0, fun q => ⟨⟨by omega, by omega⟩, fun V1 e1 => ?_⟩⟩
  have ea : (V1 222 68) = (M 222 68) := by subst e1; simp [ax_u]
  rw [ea]
  refine ⟨⟨by omega, by omega⟩, fun V2 e2 => ?_⟩
  subst e1 e2
  exact h1 (by omega)
end Parts
