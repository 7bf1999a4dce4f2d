/-! TWO PARTS AND AN OPERATOR BETWEEN THEM -/
def c_join (C : ax_V) (o pl s t v : Int) : ax_V := ax_u (ax_u (ax_u (c_mk C o (C 518 s) pl 0) 521 (C 516 0) s) 522 s t) 522 t v
theorem ax_u_o {V : ax_V} {c c' : Nat} {i i' x : Int} (h : ¬ (c' = c ∧ i' = i)) : ax_u V c i x c' i' = V c' i' := if_neg h
section Binary
variable {B r d : Nat} {C M : ax_V} {Φ : Int → ax_V → Prop} {Θ : ax_V → Prop}
theorem t_join {o pl s t v : Int} (hg : ax_g C) (ho : ax_rg o) (hp : ax_rg pl) (hs : 0 ≤ s ∧ s < 700) (ht : 0 ≤ t ∧ t < 700) (hv : ax_rg v) (hc : 0 ≤ (C 516 0) ∧ (C 516 0) < 700) (h : Φ (C 516 0) (c_join C o pl s t v)) : ax_I (az_W B (az_ER B r)) (d + 3) q_Reader_join [.ref r, ax_i o, ax_i pl, ax_i s, ax_i t, ax_i v] C Φ Θ := by
  refine r_Reader_join hg ho hp ⟨by omega, by omega⟩ ⟨by omega, by omega⟩ hv ⟨hs, t_addPart hg ho (hg _ _) hp (by decide) hc ⟨hc, fun V2 e2 => ⟨hs, fun V3 e3 => ⟨ht, fun V4 e4 => ?_⟩⟩⟩⟩
  rw [e4, e3, e2]
  exact h
theorem c_join_g {o pl s t v : Int} (hg : ax_g C) (ho : ax_rg o) (hp : ax_rg pl) (hs : ax_rg s) (ht : ax_rg t) (hv : ax_rg v) (hc : ax_rg ((C 516 0) + 1)) : ax_g (c_join C o pl s t v) := ax_u_g (ax_u_g (ax_u_g (c_mk_g hg ho (hg _ _) hp (by decide) hc) hs) ht) hv
theorem e_bin {C1 M1 C2 M2 M3 : ax_V} {om pl s t : Int} (h : e_R C M) (k1 : e_ok C M C1 M1 s) (hlt : (M1 222 68) < (M1 222 3)) (k2 : e_ok (c_on C1 1) (m_on M1 1) C2 M2 t) (ho : 7 ≤ om ∧ om ≤ 17) (hpl : pl = (M1 222 68)) (hg3 : ax_g M3) (hM3 : ∀ c q, ¬ (q = (M2 222 26) ∧ c = 243) → M3 c q = m_mk M2 om (M2 242 s) s t (-1) c q) (hsg : (9 ≤ om ∧ om ≤ 11) → M3 243 (M2 222 26) = (M1 222 68)) : e_ok C M (c_join C2 (e_op om) pl s t (-1)) M3 (M2 222 26) := by
  have h1 := k1.1
  have h2 := k2.1
  obtain ⟨⟨s1, s1b, s1c⟩, -, s3, -, s5, -, s7⟩ := id h1.2.2.1
  have hsz := h1.2.1.2.2.1
  have h1' : e_R (c_on C1 1) (m_on M1 1) := h1.on (by omega) (by omega)
  have na : (m_on M1 1) 222 68 = (M1 222 68) + 1 := by simp [m_on, ax_u]
  have np : (m_on M1 1) 222 26 = (M1 222 26) := by simp [m_on, ax_u]
  have nd : (m_on M1 1) 222 69 = (M1 222 69) := by simp [m_on, ax_u]
  have nb : (m_on M1 1) 222 72 = (M1 222 72) := by simp [m_on, ax_u]
  have nl : (c_on C1 1) 600 13 = (C1 600 13) := by simp [c_on, ax_u]
  have mid1 := e_mid.first h k1 h1' ((e_mvC.rf C1).u (by decide)) ((e_mvM.rf M1).u (by decide)) (by show (M1 222 68) < (m_on M1 1) 222 68; omega)
  have mid2 := mid1.part k2
  obtain ⟨-, -, -, ⟨f41, f42, f43⟩, ⟨f51, f52, f53⟩, -, ⟨f71, f72, f73⟩, -, -⟩ := id k1
  obtain ⟨-, g2, g3, ⟨g41, g42, g43⟩, ⟨g51, g52, g53⟩, g6, ⟨g71, g72, g73⟩, -, -⟩ := id k2
  obtain ⟨hgC2, hgM2⟩ := id h2.1
  obtain ⟨n1, n2, n3⟩ := id h2.2.2.2.1
  obtain ⟨⟨w1, w1b, w1c⟩, -⟩ := id h2.2.2.1
  have wsz := h2.2.1.2.2.1
  have p0 := h.2.2.2.1.2.1
  have hb := (h2.2.2.2.2.2 s (by omega) (by omega)).2
  have ls : C2 526 s = C1 526 s := by rw [g2.2.1 526 s (by decide) (by decide) (by omega)]; show (c_on C1 1) 526 s = C1 526 s; rw [show (c_on C1 1) 526 = C1 526 from ax_u_ne (by decide)]
  have roc : ax_rg (e_op om) := by
    unfold e_op
    repeat' split
    all_goals exact ⟨by omega, by omega⟩
  obtain ⟨C9, eC⟩ : ∃ X : ax_V, X = ax_u (c_mk C2 (e_op om) (C2 518 s) pl 0) 521 (M2 222 26) s := ⟨_, rfl⟩
  have eJ : c_join C2 (e_op om) pl s t (-1) = ax_u (ax_u C9 522 s t) 522 t (-1) := by rw [eC]; unfold c_join; rw [n1]
  have hgJ : ax_g (c_join C2 (e_op om) pl s t (-1)) := c_join_g hgC2 roc ⟨by omega, by omega⟩ ⟨by omega, by omega⟩ ⟨by omega, by omega⟩ (by decide) ⟨by omega, by omega⟩
  rw [eJ] at hgJ ⊢
  have hat2 : C2 518 s = M2 242 s := hb.1
  obtain ⟨-, -, -, b4, -, -, -, b8, -⟩ := c_mk_at (C := C2) (o := e_op om) (f := C2 518 s) (a := pl) (w := 0) rfl
  rw [n1] at b4 b8
  obtain ⟨-, -, d3, -, -, -, -, -, -, d10, -⟩ := m_mk_at (M := M2) (o := om) (f := M2 242 s) (x := s) (y := t) (z := -1) rfl
  refine mid2.close2 (om := om) (oc := e_op om) (f := M2 242 s) (a := pl) (w := 0) (s := s) (t := t) (fun x => Iff.rfl) (by omega) ⟨by omega, by omega, by omega⟩ (Or.inl ho) rfl hb.2.1 ⟨by omega, by omega⟩ (by decide) ⟨hgJ, hg3⟩ (fun c q z => ?_) ?_ ?_ (fun c q z => hM3 c q (fun y => z ⟨y.1, Or.inl y.2⟩)) ?_ ?_ ?_ (mid2.2.2.2.1.2.2.2.2 s (by omega) (by omega)).2.2.2.2.1 (e_opk.lo (by omega))
  · rw [ax_u_o (fun y => z ⟨y.1, Or.inr y.2⟩), ax_u_o (fun y => z ⟨y.1, Or.inl y.2⟩), eC, hat2]
  · rw [ax_u_k (by omega), ax_u_s]
  · exact ax_u_s _ _ _ _
  · rw [ls, f53, g73, nl, f73]
  · rw [g53, g73]
  · have e1 : M3 241 (M2 222 26) = om := by rw [hM3 _ _ (fun y => absurd y.2 (by decide))]; exact d3
    have e2 : M3 248 (M2 222 26) = -1 := by rw [hM3 _ _ (fun y => absurd y.2 (by decide))]; exact d10
    have e3 : (ax_u (ax_u C9 522 s t) 522 t (-1)) 523 (M2 222 26) = -1 := by rw [ax_u_ne (c' := 523) (by decide), ax_u_ne (c' := 523) (by decide), eC, ax_u_ne (c' := 523) (by decide)]; exact b8
    have e4 : (ax_u (ax_u C9 522 s t) 522 t (-1)) 519 (M2 222 26) = pl := by rw [ax_u_ne (c' := 519) (by decide), ax_u_ne (c' := 519) (by decide), eC, ax_u_ne (c' := 519) (by decide)]; exact b4
    unfold e_dt
    rw [e1, e2, e3, e4]
    exact ⟨fun q => by rcases q with q | q <;> omega, fun q => by omega, fun q => by rcases q with q | q | q <;> omega, fun q => by omega, fun _ => ⟨rfl, rfl⟩, fun q => by rw [hsg q, hpl]; exact ⟨rfl, ⟨s1b, by omega⟩⟩, fun q => by omega⟩
end Binary
