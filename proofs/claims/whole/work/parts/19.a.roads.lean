/-! STATEMENTS: two roads go on together, or both stop at the same place -/
abbrev f_PC : Type := (ax_V → Prop) → (ax_V → Prop) → Prop
abbrev f_PM : Type := (Int → ax_V → Prop) → (ax_V → Prop) → Prop
/-- what reading leaves as it is -/
def f_fC (C C' : ax_V) : Prop := (∀ c, (c < 500 ∨ 573 < c) → c ≠ 600 → C' c = C c) ∧ (C' 600 1) = (C 600 1) ∧ ∀ c, 508 ≤ c → c ≤ 510 → C' c 0 = C c 0
def f_fM (M M' : ax_V) : Prop := (∀ c, (c < 226 ∨ 290 < c) → c ≠ 222 → M' c = M c) ∧ ∀ j, (j ≤ 9 ∨ 90 ≤ j ∨ j = 88) → M' 222 j = M 222 j
theorem f_fC.rf (C : ax_V) : f_fC C C := ⟨fun _ _ _ => rfl, rfl, fun _ _ _ => rfl⟩
theorem f_fM.rf (M : ax_V) : f_fM M M := ⟨fun _ _ _ => rfl, fun _ _ => rfl⟩
theorem f_fC.tr {C C1 C2 : ax_V} (h : f_fC C C1) (k : f_fC C1 C2) : f_fC C C2 := ⟨fun c a b => (k.1 c a b).trans (h.1 c a b), k.2.1.trans h.2.1, fun c a b => (k.2.2 c a b).trans (h.2.2 c a b)⟩
theorem f_fM.tr {M M1 M2 : ax_V} (h : f_fM M M1) (k : f_fM M1 M2) : f_fM M M2 := ⟨fun c a b => (k.1 c a b).trans (h.1 c a b), fun j a => (k.2 j a).trans (h.2 j a)⟩
theorem e_fC.f {C C' : ax_V} {P : Int} (h : e_fC C C' P) : f_fC C C' := ⟨fun c a b => h.1 c b (by omega), h.2.2 1 (by decide) (by decide) (by decide) (by decide), fun c a b => by rw [h.1 c (by omega) (by omega)]⟩
theorem e_fM.f {M M' : ax_V} {P : Int} (h : e_fM M M' P) : f_fM M M' := ⟨fun c a b => h.1 c b (by omega), fun j a => h.2.2 j (by omega) (by omega) (by omega) (by omega) (by omega) (by omega)⟩
theorem f_fC.ua {C C1 : ax_V} {c : Nat} {i x : Int} (h : f_fC C C1) (hc : (500 ≤ c ∧ c ≤ 573) ∧ ¬ (508 ≤ c ∧ c ≤ 510)) : f_fC C (ax_u C1 c i x) := ⟨fun c' a b => by rw [ax_u_ne (by omega)]; exact h.1 c' a b, by rw [ax_u_ne (by omega)]; exact h.2.1, fun c' a b => by rw [ax_u_ne (by omega)]; exact h.2.2 c' a b⟩
theorem f_fC.un {C C1 : ax_V} {c : Nat} {i x : Int} (h : f_fC C C1) (hc : 508 ≤ c ∧ c ≤ 510) (hi : i ≠ 0) : f_fC C (ax_u C1 c i x) := ⟨fun c' a b => by rw [ax_u_ne (by omega)]; exact h.1 c' a b, by rw [ax_u_ne (by omega)]; exact h.2.1, fun c' a b => by rw [ax_u_o (fun q => hi q.2.symm)]; exact h.2.2 c' a b⟩
theorem f_fC.us {C C1 : ax_V} {i x : Int} (h : f_fC C C1) (hi : i ≠ 1) : f_fC C (ax_u C1 600 i x) := ⟨fun c' a b => by rw [ax_u_ne b]; exact h.1 c' a b, by rw [ax_u_k (by omega)]; exact h.2.1, fun c' a b => by rw [ax_u_ne (by omega)]; exact h.2.2 c' a b⟩
theorem f_fM.ua {M M1 : ax_V} {c : Nat} {i x : Int} (h : f_fM M M1) (hc : 226 ≤ c ∧ c ≤ 290) : f_fM M (ax_u M1 c i x) := ⟨fun c' a b => by rw [ax_u_ne (by omega)]; exact h.1 c' a b, fun j a => by rw [ax_u_ne (by omega)]; exact h.2 j a⟩
theorem f_fM.us {M M1 : ax_V} {i x : Int} (h : f_fM M M1) (hi : (10 ≤ i ∧ i < 90) ∧ i ≠ 88) : f_fM M (ax_u M1 222 i x) := ⟨fun c' a b => by rw [ax_u_ne b]; exact h.1 c' a b, fun j a => by rw [ax_u_k (by omega)]; exact h.2 j a⟩
/-- both stop: the place is the same -/
def f_no (C M C' M' : ax_V) : Prop := (ax_g C' ∧ ax_g M') ∧ (C' 600 6) = (M' 222 68) ∧ f_fC C C' ∧ f_fM M M'
/-- the roads Pc, Pm go on to Kc, Km; or both stop; or the class goes on to what can't stand there -/
def f_go (bad : ax_V → Prop) (Pc : f_PC) (Kc : ax_V → f_PC) (Pm : f_PM) (Km : ax_V → f_PM) (C M : ax_V) (Q : ax_V → ax_V → Prop) : Prop :=
  (∃ C' M', (∀ Φ Θ, Kc C' Φ Θ → Pc Φ Θ) ∧ (∀ Φ Θ, Km M' Φ Θ → Pm Φ Θ) ∧ Q C' M') ∨
  (∃ C' M', (∀ (Φ Θ : ax_V → Prop), Θ C' → Pc Φ Θ) ∧ (∀ (Φ : Int → ax_V → Prop) (Θ : ax_V → Prop), Φ 0 M' → Pm Φ Θ) ∧ f_no C M C' M') ∨
  (∃ C' M', (∀ Φ Θ, Kc C' Φ Θ → Pc Φ Θ) ∧ (∀ (Φ : Int → ax_V → Prop) (Θ : ax_V → Prop), Φ 0 M' → Pm Φ Θ) ∧ f_no C M C' M' ∧ c_in C' ∧ bad C')
/-- what the class does where it should have stopped -/
def f_hs (bad : ax_V → Prop) (Pc : f_PC) (Kc : ax_V → f_PC) (C : ax_V) : Prop :=
  (∃ C', (∀ (Φ Θ : ax_V → Prop), Θ C' → Pc Φ Θ) ∧ (C' 600 6) = (C 600 6) ∧ f_fC C C' ∧ ax_g C') ∨
  (∃ C', (∀ Φ Θ, Kc C' Φ Θ → Pc Φ Θ) ∧ (C' 600 6) = (C 600 6) ∧ f_fC C C' ∧ ax_g C' ∧ c_in C' ∧ bad C')
abbrev f_nv (_ : ax_V) : Prop := False
section Roads
variable {bad bad' : ax_V → Prop} {Pc Pc' : f_PC} {Kc Lc : ax_V → f_PC} {Pm Pm' : f_PM} {Km Lm : ax_V → f_PM} {C M : ax_V} {Q Q' : ax_V → ax_V → Prop}
theorem f_go.ok {C' M' : ax_V} (hc : ∀ Φ Θ, Kc C' Φ Θ → Pc Φ Θ) (hm : ∀ Φ Θ, Km M' Φ Θ → Pm Φ Θ) (hq : Q C' M') : f_go bad Pc Kc Pm Km C M Q := Or.inl ⟨C', M', hc, hm, hq⟩
theorem f_go.stop {C' M' : ax_V} (hc : ∀ (Φ Θ : ax_V → Prop), Θ C' → Pc Φ Θ) (hm : ∀ (Φ : Int → ax_V → Prop) (Θ : ax_V → Prop), Φ 0 M' → Pm Φ Θ) (hq : f_no C M C' M') : f_go bad Pc Kc Pm Km C M Q := Or.inr (Or.inl ⟨C', M', hc, hm, hq⟩)
theorem f_go.of (h : f_go bad Pc Kc Pm Km C M Q) (hc : ∀ Φ Θ, Pc Φ Θ → Pc' Φ Θ) (hm : ∀ Φ Θ, Pm Φ Θ → Pm' Φ Θ) : f_go bad Pc' Kc Pm' Km C M Q := by
  rcases h with ⟨C', M', a, b, q⟩ | ⟨C', M', a, b, q⟩ | ⟨C', M', a, b, q⟩
  · exact Or.inl ⟨C', M', fun Φ Θ z => hc Φ Θ (a Φ Θ z), fun Φ Θ z => hm Φ Θ (b Φ Θ z), q⟩
  · exact Or.inr (Or.inl ⟨C', M', fun Φ Θ z => hc Φ Θ (a Φ Θ z), fun Φ Θ z => hm Φ Θ (b Φ Θ z), q⟩)
  · exact Or.inr (Or.inr ⟨C', M', fun Φ Θ z => hc Φ Θ (a Φ Θ z), fun Φ Θ z => hm Φ Θ (b Φ Θ z), q⟩)
theorem f_go.mono (h : f_go bad Pc Kc Pm Km C M Q) (hq : ∀ C' M', Q C' M' → Q' C' M') : f_go bad Pc Kc Pm Km C M Q' := by
  rcases h with ⟨C', M', a, b, q⟩ | h | h
  · exact Or.inl ⟨C', M', a, b, hq C' M' q⟩
  · exact Or.inr (Or.inl h)
  · exact Or.inr (Or.inr h)
theorem f_go.any (h : f_go f_nv Pc Kc Pm Km C M Q) : f_go bad Pc Kc Pm Km C M Q := by
  rcases h with h | h | ⟨_, _, _, _, _, _, q⟩
  · exact Or.inl h
  · exact Or.inr (Or.inl h)
  · exact absurd q id
theorem f_go.bind (h : f_go bad Pc Kc Pm Km C M Q) (hk : ∀ C' M', Q C' M' → f_go bad' (Kc C') Lc (Km M') Lm C M Q') (hh : ∀ C', ax_g C' → c_in C' → bad C' → f_hs bad' (Kc C') Lc C') : f_go bad' Pc Lc Pm Lm C M Q' := by
  rcases h with ⟨C1, M1, a, b, q⟩ | ⟨C1, M1, a, b, q⟩ | ⟨C1, M1, a, b, q, ci, w⟩
  · rcases hk C1 M1 q with ⟨C2, M2, a2, b2, q2⟩ | ⟨C2, M2, a2, b2, q2⟩ | ⟨C2, M2, a2, b2, q2⟩
    · exact Or.inl ⟨C2, M2, fun Φ Θ z => a Φ Θ (a2 Φ Θ z), fun Φ Θ z => b Φ Θ (b2 Φ Θ z), q2⟩
    · exact Or.inr (Or.inl ⟨C2, M2, fun Φ Θ z => a Φ Θ (a2 Φ Θ z), fun Φ Θ z => b Φ Θ (b2 Φ Θ z), q2⟩)
    · exact Or.inr (Or.inr ⟨C2, M2, fun Φ Θ z => a Φ Θ (a2 Φ Θ z), fun Φ Θ z => b Φ Θ (b2 Φ Θ z), q2⟩)
  · exact Or.inr (Or.inl ⟨C1, M1, a, b, q⟩)
  · obtain ⟨q1, q2, q3, q4⟩ := q
    rcases hh C1 q1.1 ci w with ⟨C2, a2, e, f, g⟩ | ⟨C2, a2, e, f, g, i, w2⟩
    · exact Or.inr (Or.inl ⟨C2, M1, fun Φ Θ z => a Φ Θ (a2 Φ Θ z), b, ⟨g, q1.2⟩, e.trans q2, q3.tr f, q4⟩)
    · exact Or.inr (Or.inr ⟨C2, M1, fun Φ Θ z => a Φ Θ (a2 Φ Θ z), b, ⟨⟨g, q1.2⟩, e.trans q2, q3.tr f, q4⟩, i, w2⟩)
theorem f_go.bind0 (h : f_go f_nv Pc Kc Pm Km C M Q) (hk : ∀ C' M', Q C' M' → f_go bad' (Kc C') Lc (Km M') Lm C M Q') : f_go bad' Pc Lc Pm Lm C M Q' := h.bind hk (fun _ _ _ z => absurd z id)
end Roads

section Steps
variable {B r dc dm : Nat} {C M C0 M0 : ax_V} {Kc : ax_V → f_PC} {Km : ax_V → f_PM}
theorem f_on {k : Int} (h : e_R C M) (hk : 0 ≤ k) (hs : (M 222 68) + k ≤ (M 222 3)) (fC : f_fC C0 C) (fM : f_fM M0 M) : e_R (c_on C k) (m_on M k) ∧ f_fC C0 (c_on C k) ∧ f_fM M0 (m_on M k) := ⟨h.on hk hs, fC.us (by decide), fM.us (by decide)⟩
theorem f_expect {v : Int} (h : e_R C M) (fC : f_fC C0 C) (fM : f_fM M0 M) (hv : 0 < v ∧ v < 128) : f_go f_nv (fun Φ Θ => ax_N (az_W B (az_ER B r)) (dc + 2) q_Reader_expect [.ref r, ax_i v] C (fun C' => Kc C' Φ Θ) Θ) Kc (fun Φ Θ => ax_I ay_lay (dm + 2) q_Model_want [.ref 222, ax_i v] M (fun x M' => (x = 0 → Φ 0 M') ∧ (¬ x = 0 → Km M' Φ Θ)) Θ) Km C0 M0 (fun C' M' => (C' = c_on C 1 ∧ M' = m_on M 1) ∧ (m_see M = v ∧ (M 222 68) < (M 222 3)) ∧ e_R C' M' ∧ f_fC C0 C' ∧ f_fM M0 M') := by
  have hs := h.see
  have rv : ax_rg v := ⟨by omega, by omega⟩
  by_cases w : m_see M = v
  · have hlt := h.lt (by omega)
    exact f_go.ok (C' := c_on C 1) (M' := m_on M 1) (fun Φ Θ z => t_expect h.1.1 rv h.ci (fun _ => z) (fun q => absurd (hs.trans w) q)) (fun Φ Θ z => s_want h.1.2 rv h.mi (fun _ => ⟨fun q => absurd q (by decide), fun _ => z⟩) (fun q => absurd w q)) ⟨⟨rfl, rfl⟩, ⟨w, hlt⟩, f_on h (by decide) (by omega) fC fM⟩
  · exact f_go.stop (C' := C) (M' := M) (fun Φ Θ z => t_expect h.1.1 rv h.ci (fun q => absurd (hs.symm.trans q) w) (fun _ => z)) (fun Φ Θ z => s_want h.1.2 rv h.mi (fun q => absurd q w) (fun _ => ⟨fun _ => z, fun q => absurd rfl q⟩)) ⟨h.1, h.2.2.1.1.1, fC, fM⟩
/-- where it can't stand, the class stops there, too -/
theorem f_expect_h {v : Int} {bad : ax_V → Prop} {Lc : ax_V → f_PC} (hg : ax_g C) (ci : c_in C) (rv : ax_rg v) (hv : ¬ c_see C = v) : f_hs bad (fun Φ Θ => ax_N (az_W B (az_ER B r)) (dc + 2) q_Reader_expect [.ref r, ax_i v] C (fun C' => Kc C' Φ Θ) Θ) Lc C :=
  Or.inl ⟨C, fun Φ Θ z => t_expect hg rv ci (fun q => absurd q hv) (fun _ => z), rfl, f_fC.rf C, hg⟩
end Steps
