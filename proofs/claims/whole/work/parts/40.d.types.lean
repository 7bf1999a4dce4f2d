/-! type on both sides -/
section Types
variable {B Sp w nw : Nat} {m p : Value} {ss : List ax_S} {C N : ax_V} {a : Int64} {n T T' L k : Int}
theorem y_ap_nC : y_ap (y_n C N) 1 0 L n a k = y_n (y_ap C 1 0 L n a k) N := by
  funext x
  by_cases z : 222 ≤ x ∧ x ≤ 313
  · rw [y_ap_c (by omega) (by omega), y_n_k z, y_n_k z]
  · rw [y_n_n z]
    funext i
    show (if x = 1 ∧ L ≤ i ∧ i < L + k then y_by a (n - 1 - (i - L)) else if x = 0 ∧ i = 1 then L + k else y_n C N x i) = (if x = 1 ∧ L ≤ i ∧ i < L + k then y_by a (n - 1 - (i - L)) else if x = 0 ∧ i = 1 then L + k else C x i)
    rw [y_n_n z]
theorem y_u_n {x : Int} : ax_u (y_n C N) 222 0 x = y_n C (ax_u N 222 0 x) := by
  funext c
  by_cases z : 222 ≤ c ∧ c ≤ 313
  · rw [y_n_k z]
    by_cases y : c = 222
    · rw [y]
      funext i
      by_cases q : i = 0
      · rw [q, ax_u_s, ax_u_s]
      · rw [ax_u_k q, ax_u_k q, y_n_k (by decide)]
    · rw [ax_u_ne y, ax_u_ne y, y_n_k z]
  · rw [ax_u_ne (by omega), y_n_n z, y_n_n z]
theorem y_ap_nN : y_ap (y_n C N) 223 222 L n a k = y_n C (y_ap N 223 222 L n a k) := by
  funext x
  by_cases z : 222 ≤ x ∧ x ≤ 313
  · rw [y_n_k z]
    funext i
    show (if x = 223 ∧ L ≤ i ∧ i < L + k then y_by a (n - 1 - (i - L)) else if x = 222 ∧ i = 1 then L + k else y_n C N x i) = (if x = 223 ∧ L ≤ i ∧ i < L + k then y_by a (n - 1 - (i - L)) else if x = 222 ∧ i = 1 then L + k else N x i)
    rw [y_n_k z]
  · rw [y_ap_c (by omega) (by omega), y_n_n z, y_n_n z]
set_option maxHeartbeats 1000000 in
theorem y_type (h : y_L B Sp w nw m p ss) (hR : y_RL B Sp nw ss C N T) (hT : T ≤ T') (rn : ax_rg n) : y_ST 2 q_House_type [.ref 0, .long a, ax_i n] 1 q_Model_type [.ref 222, .long a, ax_i n] T' B Sp w nw m p ss C N := by
  have gC := hR.gC
  have gN := hR.gN
  have hR' := hR
  obtain ⟨bs, nb, _, ⟨⟨t1, t1a, t1b, t1c⟩, t2, t3, t4, t5, t6⟩, b6⟩ := hR
  have v0 : y_n C N 0 1 = N 222 1 := by rw [y_n_n (by decide)]; exact t1
  obtain ⟨res, z, q, ex⟩ := t_typeH (d := 0) (V := y_n C N) (a := a) (n := n) h (y_n_g gC gN) (by rw [v0]; exact ⟨t1a, t1b⟩) rn
  rw [v0] at q
  obtain ⟨L, eL⟩ : ∃ L : Int, L = N 222 1 := ⟨_, rfl⟩
  rcases q with ⟨ok, er, ez⟩ | ⟨ok, er, ez⟩
  · rw [er, ez, y_ap_nC, ← eL] at ex
    obtain ⟨C', eC⟩ : ∃ C' : ax_V, C' = y_ap C 1 0 L n a n := ⟨_, rfl⟩
    rw [← eC] at ex
    have n1 : y_n C' N 222 1 = N 222 1 := by rw [y_n_k (by decide)]
    obtain ⟨res2, z2, q2, ex2⟩ := s_typeM (d := 0) (V := y_n C' N) (a := a) (n := n) h (by rw [n1]; exact ⟨t1a, t1b⟩) rn
    rw [n1] at q2
    rcases q2 with ⟨_, er2, ez2⟩ | ⟨no, _, _⟩
    rotate_left
    · exact absurd ok no
    rw [er2, ez2, y_u_n, y_ap_nN, ← eL] at ex2
    obtain ⟨N', eN⟩ : ∃ N' : ax_V, N' = y_ap (ax_u N 222 0 0) 223 222 L n a n := ⟨_, rfl⟩
    rw [← eN] at ex2
    obtain ⟨⟨o1, o2, o3⟩, o4⟩ := ok
    have gC' : ax_g C' := by rw [eC]; exact y_ap_g gC ⟨by omega, by omega⟩ ⟨by omega, by omega⟩
    have gN' : ax_g N' := by rw [eN]; exact y_ap_g (ax_u_g gN (by decide)) ⟨by omega, by omega⟩ ⟨by omega, by omega⟩
    have cc : ∀ c, ¬ c = 1 → ¬ c = 0 → C' c = C c := fun c u v => by rw [eC]; exact y_ap_c u v
    have c0 : ∀ f : Int, ¬ f = 1 → C' 0 f = C 0 f := fun f u => by rw [eC]; exact y_ap_j (by decide) u
    have c01 : C' 0 1 = L + n := by rw [eC]; exact y_ap_1 (by decide)
    have nc : ∀ c, ¬ c = 223 → ¬ c = 222 → N' c = N c := fun c u v => by rw [eN, y_ap_c u v, ax_u_ne v]
    have nj : ∀ f : Int, ¬ f = 1 → ¬ f = 0 → N' 222 f = N 222 f := fun f u v => by rw [eN, y_ap_j (by decide) u, ax_u_k v]
    have n01 : N' 222 1 = L + n := by rw [eN]; exact y_ap_1 (by decide)
    refine ⟨1, C', N', by decide, ex, ex2, bs, nb, ⟨gC', gN'⟩, ⟨⟨by rw [c01, n01], by rw [n01]; omega, by rw [n01]; omega, fun i u v => ?_⟩, ?_, ?_, ?_, ?_, ?_⟩, ?_⟩
    · rw [n01] at v
      by_cases y : L ≤ i
      · have b := o4 (n - 1 - (i - L)) (by omega) (by omega)
        rw [eC, eN, y_ap_i ⟨y, by omega⟩, y_ap_i ⟨y, by omega⟩]
        exact ⟨rfl, b.1, b.2⟩
      · rw [eC, eN, y_ap_o (by decide) (by omega), y_ap_o (by decide) (by omega), ax_u_ne (by decide)]
        exact t1c i u (by omega)
    · rw [c0 2 (by decide), c0 3 (by decide), nj 8 (by decide) (by decide), nj 9 (by decide) (by decide)]; exact t2
    · rw [c0 8 (by decide), nj 102 (by decide) (by decide)]; exact t3
    · rw [cc 157 (by decide) (by decide), cc 158 (by decide) (by decide), nj 113 (by decide) (by decide), nj 115 (by decide) (by decide), nj 120 (by decide) (by decide), nc 312 (by decide) (by decide)]; exact t4
    · rw [cc 508 (by decide) (by decide), cc 509 (by decide) (by decide), cc 510 (by decide) (by decide)]; exact t5
    · rw [cc 1008 (by decide) (by decide), cc 1009 (by decide) (by decide), cc 1010 (by decide) (by decide), nj 5 (by decide) (by decide)]; exact t6
    · rw [nj 7 (by decide) (by decide), c0 8 (by decide), cc 500 (by decide) (by decide)]
      rcases b6 with b6 | ⟨d1, d2, P, C1, M1, F, G, Hh, S, U, J, d3, d4⟩
      · exact Or.inl b6
      · refine Or.inr ⟨d1, d2.th (nj 5 (by decide) (by decide)) (nc 225 (by decide) (by decide)) (h.blk (fun c u v => cc c (by omega) (by omega))), P, C1, M1, F, G, Hh, S, U, J, d3.th (fun c u v => cc c (by omega) (by omega)) (fun c u v => nc c (by omega) (by omega)) (fun k y => nj k (by omega) (by omega)), fun j hj => ?_⟩
        rw [c0 8 (by decide)] at hj
        obtain ⟨n', hi⟩ := d4 j hj
        refine ⟨n', (hi.at (fun c u v => ?_) (fun c u v => nc c (by omega) (by omega))).up hT⟩
        obtain ⟨q, rfl⟩ : ∃ q, c = 800 + q := ⟨c - 800, by omega⟩
        rw [y_v_j (by omega), y_v_j (by omega)]
        exact cc _ (by omega) (by omega)
  · rw [er, ez] at ex
    have n1 : y_n C N 222 1 = N 222 1 := by rw [y_n_k (by decide)]
    obtain ⟨res2, z2, q2, ex2⟩ := s_typeM (d := 0) (V := y_n C N) (a := a) (n := n) h (by rw [n1]; exact ⟨t1a, t1b⟩) rn
    rw [n1] at q2
    rcases q2 with ⟨yes, _, _⟩ | ⟨_, er2, ez2⟩
    · exact absurd yes ok
    · rw [er2, ez2, y_u_n] at ex2
      exact ⟨0, C, ax_u N 222 0 0, by decide, ex, ex2, hR'.th (by decide) rfl hT⟩
end Types
