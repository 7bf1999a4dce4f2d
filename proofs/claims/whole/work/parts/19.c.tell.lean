/-! A FLOW IS TOLD: what it writes -/
theorem e_R.tab {C M C' M' : ax_V} (h : e_R C M) (hg : ax_g C' ∧ ax_g M') (hC : ∀ c, (c = 1 ∨ c = 501 ∨ (516 ≤ c ∧ c ≤ 526)) → C' c = C c) (hM : ∀ c, (c = 224 ∨ c = 226 ∨ (241 ≤ c ∧ c ≤ 252)) → M' c = M c) (hc : ∀ j, (j = 1 ∨ j = 6 ∨ (8 ≤ j ∧ j ≤ 13)) → C' 600 j = C 600 j) (hm : ∀ j, (j = 3 ∨ j = 10 ∨ j = 26 ∨ (68 ≤ j ∧ j ≤ 72)) → M' 222 j = M 222 j) : e_R C' M' := by
  obtain ⟨-, ⟨t1, t2, t3, t4⟩, s0, ⟨p1, p2, p3⟩, p4, p5⟩ := h
  refine ⟨hg, ⟨by rw [hc 1 (by decide), hm 3 (by decide)]; exact t1, by rw [hm 3 (by decide)]; exact t2, by rw [hm 3 (by decide)]; exact t3, fun i i0 i1 => ?_⟩, ?_, ⟨by rw [hC 516 (by decide), hm 26 (by decide)]; exact p1, by rw [hm 26 (by decide)]; exact p2, by rw [hm 26 (by decide), hm 68 (by decide)]; exact p3⟩, fun k k0 k1 => ?_, fun q q0 q1 => ?_⟩
  · rw [hC 1 (by decide), hM 224 (by decide)]
    exact t4 i i0 (by rw [hm 3 (by decide)] at i1; exact i1)
  · unfold e_S
    rw [hc 6 (by decide), hc 8 (by decide), hc 9 (by decide), hc 10 (by decide), hc 11 (by decide), hc 12 (by decide), hc 13 (by decide), hm 3 (by decide), hm 10 (by decide), hm 68 (by decide), hm 69 (by decide), hm 70 (by decide), hm 71 (by decide), hm 72 (by decide)]
    exact s0
  · rw [hC 501 (by decide), hM 226 (by decide)]
    exact p4 k k0 (by rw [hm 10 (by decide)] at k1; exact k1)
  · rw [hm 26 (by decide)] at q1
    exact (p5 q q0 q1).keep (fun c a b _ => by rw [hC c (by omega)]) (fun c a b => by rw [hM c (by omega)]) (fun k _ _ => by rw [hM 226 (by decide)]) (fun x _ => ⟨by rw [hC 522 (by decide)], by rw [hC 526 (by decide)], by rw [hM 252 (by decide)], by rw [hM 242 (by decide)]⟩)
def c_tl (C : ax_V) (s p k t : Int) : ax_V := ax_u (ax_u (ax_u C 533 s p) 534 s k) 535 s t
def c_tf (C : ax_V) (n k s : Int) : ax_V := if k = 1 then ax_u (ax_u C 506 (n * 26 + C 503 n) s) 503 n (C 503 n + 1) else if k = 2 then ax_u (ax_u C 507 (n * 26 + C 504 n) s) 504 n (C 504 n + 1) else ax_u C 505 n (C 505 n + 1)
def m_te (M : ax_V) (s p k t : Int) : ax_V := ax_u (ax_u (ax_u M 232 s k) 233 s t) 234 s p
def m_tf (M : ax_V) (k l : Int) : ax_V := if k = 1 then ax_u (ax_u M 230 (26 * (M 222 10) + M 227 (M 222 10)) l) 227 (M 222 10) (M 227 (M 222 10) + 1) else if k = 2 then ax_u (ax_u M 231 (26 * (M 222 10) + M 228 (M 222 10)) l) 228 (M 222 10) (M 228 (M 222 10) + 1) else ax_u M 229 (M 222 10) (M 229 (M 222 10) + 1)
def f_tf (M : ax_V) (x k l : Int) : ax_V := if x = 0 then m_tf M k l else M
section Tell
variable {B r d : Nat} {C M : ax_V} {Ψ Θ : ax_V → Prop}
theorem c_tl_ne {s p k t : Int} {c : Nat} (h : c < 533 ∨ 535 < c) : c_tl C s p k t c = C c := by
  unfold c_tl; rw [ax_u_ne (by omega), ax_u_ne (by omega), ax_u_ne (by omega)]
theorem c_tf_ne {n k s : Int} {c : Nat} (h : c < 503 ∨ 507 < c) : c_tf C n k s c = C c := by
  unfold c_tf
  split
  · rw [ax_u_ne (by omega), ax_u_ne (by omega)]
  · split
    · rw [ax_u_ne (by omega), ax_u_ne (by omega)]
    · rw [ax_u_ne (by omega)]
theorem m_te_ne {s p k t : Int} {c : Nat} (h : c < 232 ∨ 234 < c) : m_te M s p k t c = M c := by
  unfold m_te; rw [ax_u_ne (by omega), ax_u_ne (by omega), ax_u_ne (by omega)]
theorem m_tf_ne {k l : Int} {c : Nat} (h : c < 227 ∨ 231 < c) : m_tf M k l c = M c := by
  unfold m_tf
  split
  · rw [ax_u_ne (by omega), ax_u_ne (by omega)]
  · split
    · rw [ax_u_ne (by omega), ax_u_ne (by omega)]
    · rw [ax_u_ne (by omega)]
theorem ax_u_c {V V' : ax_V} {a c : Nat} {b x : Int} (h : V' c = V c) : ax_u V' a b x c = ax_u V a b x c := by
  funext i; unfold ax_u; rw [h]
theorem f_tf_eq {M M' : ax_V} {x k l : Int} (hM : ∀ c, 227 ≤ c → c ≤ 232 → M' c = M c) (hn : (M' 222 10) = (M 222 10)) : ∀ c, 227 ≤ c → c ≤ 232 → f_tf M' x k l c = f_tf M x k l c := by
  intro c a b
  have e := hM c a b
  have e1 := hM 227 (by decide) (by decide)
  have e2 := hM 228 (by decide) (by decide)
  have e3 := hM 229 (by decide) (by decide)
  unfold f_tf m_tf
  rw [hn, e1, e2, e3]
  split
  · split
    · exact ax_u_c (ax_u_c e)
    · split
      · exact ax_u_c (ax_u_c e)
      · exact ax_u_c e
  · exact e
theorem t_tell {s p k t : Int} (hg : ax_g C) (hs : 0 ≤ s ∧ s < 208) (hp : ax_rg p) (hk : ax_rg k) (ht : ax_rg t) (h : Ψ (c_tl C s p k t)) : ax_N (az_W B (az_ER B r)) (d + 1) q_Letters_tell [.ref (B + 32), ax_i s, ax_i p, ax_i k, ax_i t] C Ψ Θ :=
  r_Letters_tell hg ⟨by omega, by omega⟩ hp hk ht ⟨hs, fun V1 e1 => ⟨hs, fun V2 e2 => ⟨hs, fun V3 e3 => by subst e1 e2 e3; exact h⟩⟩⟩
theorem t_tellFlow {n k s : Int} (hg : ax_g C) (hn : 0 ≤ n ∧ n < 8) (hk : k = 1 ∨ k = 2 ∨ k = 3) (hs : ax_rg s) (hi : 0 ≤ C 503 n ∧ C 503 n < 26) (ho : 0 ≤ C 504 n ∧ C 504 n < 26) (hl : 0 ≤ C 505 n ∧ C 505 n < 26) (h : Ψ (c_tf C n k s)) : ax_N (az_W B (az_ER B r)) (d + 1) q_Program_tellFlow [.ref B, ax_i n, ax_i k, ax_i s] C Ψ Θ := by
  have rn : ax_rg n := ⟨by omega, by omega⟩
  rcases hk with e | e | e
  · subst e
    refine r_Program_tellFlow hg rn (by decide) hs ⟨fun _ => ⟨hn, fun q => by omega, fun _ => ⟨hn, ⟨by omega, by omega⟩, fun V1 e1 => ⟨hn, hn, ?_⟩⟩⟩, fun q => absurd rfl q⟩
    have e2 : V1 503 n = C 503 n := by rw [e1, ax_u_ne (by decide)]
    rw [e2]
    refine ⟨⟨by omega, by omega⟩, fun V2 e3 => ?_⟩
    rw [e3, e1]
    have e4 : c_tf C n 1 s = _ := if_pos rfl
    rw [e4] at h; exact h
  · subst e
    refine r_Program_tellFlow hg rn (by decide) hs ⟨fun q => absurd q (by decide), fun _ => r_Program_tellFlow_46 hg rn (by decide) hs ⟨fun _ => ⟨hn, fun q => by omega, fun _ => ⟨hn, ⟨by omega, by omega⟩, fun V1 e1 => ⟨hn, hn, ?_⟩⟩⟩, fun q => absurd rfl q⟩⟩
    have e2 : V1 504 n = C 504 n := by rw [e1, ax_u_ne (by decide)]
    rw [e2]
    refine ⟨⟨by omega, by omega⟩, fun V2 e3 => ?_⟩
    rw [e3, e1]
    have e4 : c_tf C n 2 s = _ := (if_neg (by decide)).trans (if_pos rfl)
    rw [e4] at h; exact h
  · subst e
    refine r_Program_tellFlow hg rn (by decide) hs ⟨fun q => absurd q (by decide), fun _ => r_Program_tellFlow_46 hg rn (by decide) hs ⟨fun q => absurd q (by decide), fun _ => ⟨hn, hn, ⟨by omega, by omega⟩, fun V1 e1 => ?_⟩⟩⟩
    rw [e1]
    have e4 : c_tf C n 3 s = _ := (if_neg (by decide)).trans (if_neg (by decide))
    rw [e4] at h; exact h
theorem c_tl_g {s p k t : Int} (hg : ax_g C) (hp : ax_rg p) (hk : ax_rg k) (ht : ax_rg t) : ax_g (c_tl C s p k t) := ax_u_g (ax_u_g (ax_u_g hg hp) hk) ht
theorem m_te_g {s p k t : Int} (hg : ax_g M) (hp : ax_rg p) (hk : ax_rg k) (ht : ax_rg t) : ax_g (m_te M s p k t) := ax_u_g (ax_u_g (ax_u_g hg hk) ht) hp
theorem c_tf_g {n k s : Int} (hg : ax_g C) (hs : ax_rg s) (hi : 0 ≤ C 503 n ∧ C 503 n < 26) (ho : 0 ≤ C 504 n ∧ C 504 n < 26) (hl : 0 ≤ C 505 n ∧ C 505 n < 26) : ax_g (c_tf C n k s) := by
  unfold c_tf
  split
  · exact ax_u_g (ax_u_g hg hs) ⟨by omega, by omega⟩
  · split
    · exact ax_u_g (ax_u_g hg hs) ⟨by omega, by omega⟩
    · exact ax_u_g hg ⟨by omega, by omega⟩
theorem m_tf_g {k l : Int} (hg : ax_g M) (hs : ax_rg l) (hi : 0 ≤ M 227 (M 222 10) ∧ M 227 (M 222 10) < 30) (ho : 0 ≤ M 228 (M 222 10) ∧ M 228 (M 222 10) < 30) (hl : 0 ≤ M 229 (M 222 10) ∧ M 229 (M 222 10) < 30) : ax_g (m_tf M k l) := by
  unfold m_tf
  split
  · exact ax_u_g (ax_u_g hg hs) ⟨by omega, by omega⟩
  · split
    · exact ax_u_g (ax_u_g hg hs) ⟨by omega, by omega⟩
    · exact ax_u_g hg ⟨by omega, by omega⟩
end Tell
/-- one flow more, of each kind -/
theorem f_f.more1 {C M C' M' : ax_V} {n l : Int} (h : f_f C M n) (h0 : M 232 (26 * n + l) = 0) (hl : 0 ≤ l ∧ l < 26) (hk : M' 232 (26 * n + l) = 1) (hko : ∀ j, j ≠ l → M' 232 (26 * n + j) = M 232 (26 * n + j)) (a1 : C' 503 n = C 503 n + 1) (a2 : C' 504 n = C 504 n) (a3 : C' 505 n = C 505 n) (b1 : M' 227 n = M 227 n + 1) (b2 : M' 228 n = M 228 n) (b3 : M' 229 n = M 229 n)
    (c1 : C' 506 (26 * n + M 227 n) = 26 * n + l) (c2 : ∀ i, i ≠ M 227 n → C' 506 (26 * n + i) = C 506 (26 * n + i)) (c3 : ∀ i, C' 507 i = C 507 i) (d1 : M' 230 (26 * n + M 227 n) = l) (d2 : ∀ i, i ≠ M 227 n → M' 230 (26 * n + i) = M 230 (26 * n + i)) (d3 : ∀ i, M' 231 i = M 231 i) : f_f C' M' n := by
  obtain ⟨h1, h2, h3, h4, h5, h6, h7, h8⟩ := h
  have e : f_cn M' n 26 = f_cn M n 26 + 1 := by rw [f_cn_up h0 (by omega) hl.1 hko 26, if_pos (show l < ((26 : Nat) : Int) from hl.2)]
  refine ⟨⟨by omega, by omega⟩, ⟨by omega, by omega⟩, ⟨by omega, by omega⟩, by omega, fun i x y => ?_, fun i x y => ?_, fun j x y z => ?_, fun i j x y z => ?_⟩
  · by_cases w : i = M 227 n
    · rw [w, c1, d1]; exact ⟨rfl, hl, hk⟩
    · obtain ⟨g1, g2, g3⟩ := h5 i x (by omega)
      rw [c2 i w, d2 i w, hko _ (fun q => by rw [q] at g3; omega)]
      exact ⟨g1, g2, g3⟩
  · obtain ⟨g1, g2, g3⟩ := h6 i x (by omega)
    rw [c3, d3, hko _ (fun q => by rw [q] at g3; omega)]
    exact ⟨g1, g2, g3⟩
  · by_cases w : j = l
    · exact ⟨M 227 n, by omega, by omega, by rw [d1, w]⟩
    · rw [hko j w] at z
      obtain ⟨i, u1, u2, u3⟩ := h7 j x y z
      exact ⟨i, u1, by omega, by rw [d2 i (by omega)]; exact u3⟩
  · have g3 := (h5 i x (by omega)).2.2
    rw [d2 i (by omega)]
    by_cases w : j = M 227 n
    · rw [w, d1]; exact fun q => by rw [q, h0] at g3; omega
    · rw [d2 j w]; exact h8 i j x y (by omega)
theorem f_f.more2 {C M C' M' : ax_V} {n l : Int} (h : f_f C M n) (h0 : M 232 (26 * n + l) = 0) (hl : 0 ≤ l ∧ l < 26) (hk : M' 232 (26 * n + l) = 2) (hko : ∀ j, j ≠ l → M' 232 (26 * n + j) = M 232 (26 * n + j)) (a1 : C' 503 n = C 503 n) (a2 : C' 504 n = C 504 n + 1) (a3 : C' 505 n = C 505 n) (b1 : M' 227 n = M 227 n) (b2 : M' 228 n = M 228 n + 1) (b3 : M' 229 n = M 229 n)
    (c1 : C' 507 (26 * n + M 228 n) = 26 * n + l) (c2 : ∀ i, i ≠ M 228 n → C' 507 (26 * n + i) = C 507 (26 * n + i)) (c3 : ∀ i, C' 506 i = C 506 i) (d1 : M' 231 (26 * n + M 228 n) = l) (d2 : ∀ i, i ≠ M 228 n → M' 231 (26 * n + i) = M 231 (26 * n + i)) (d3 : ∀ i, M' 230 i = M 230 i) : f_f C' M' n := by
  obtain ⟨h1, h2, h3, h4, h5, h6, h7, h8⟩ := h
  have e : f_cn M' n 26 = f_cn M n 26 + 1 := by rw [f_cn_up h0 (by omega) hl.1 hko 26, if_pos (show l < ((26 : Nat) : Int) from hl.2)]
  refine ⟨⟨by omega, by omega⟩, ⟨by omega, by omega⟩, ⟨by omega, by omega⟩, by omega, fun i x y => ?_, fun i x y => ?_, fun j x y z => ?_, fun i j x y z => ?_⟩
  · obtain ⟨g1, g2, g3⟩ := h5 i x (by omega)
    rw [c3, d3, hko _ (fun q => by rw [q] at g3; omega)]
    exact ⟨g1, g2, g3⟩
  · by_cases w : i = M 228 n
    · rw [w, c1, d1]; exact ⟨rfl, hl, hk⟩
    · obtain ⟨g1, g2, g3⟩ := h6 i x (by omega)
      rw [c2 i w, d2 i w, hko _ (fun q => by rw [q] at g3; omega)]
      exact ⟨g1, g2, g3⟩
  · by_cases w : j = l
    · rw [w, hk] at z; omega
    · rw [hko j w] at z
      obtain ⟨i, u1, u2, u3⟩ := h7 j x y z
      exact ⟨i, u1, by omega, by rw [d3]; exact u3⟩
  · rw [d3, d3]; exact h8 i j x y (by omega)
theorem f_f.more3 {C M C' M' : ax_V} {n l : Int} (h : f_f C M n) (h0 : M 232 (26 * n + l) = 0) (hl : 0 ≤ l ∧ l < 26) (hk : M' 232 (26 * n + l) = 3) (hko : ∀ j, j ≠ l → M' 232 (26 * n + j) = M 232 (26 * n + j)) (a1 : C' 503 n = C 503 n) (a2 : C' 504 n = C 504 n) (a3 : C' 505 n = C 505 n + 1) (b1 : M' 227 n = M 227 n) (b2 : M' 228 n = M 228 n) (b3 : M' 229 n = M 229 n + 1)
    (c2 : ∀ i, C' 507 i = C 507 i) (c3 : ∀ i, C' 506 i = C 506 i) (d2 : ∀ i, M' 231 i = M 231 i) (d3 : ∀ i, M' 230 i = M 230 i) : f_f C' M' n := by
  obtain ⟨h1, h2, h3, h4, h5, h6, h7, h8⟩ := h
  have e : f_cn M' n 26 = f_cn M n 26 + 1 := by rw [f_cn_up h0 (by omega) hl.1 hko 26, if_pos (show l < ((26 : Nat) : Int) from hl.2)]
  refine ⟨⟨by omega, by omega⟩, ⟨by omega, by omega⟩, ⟨by omega, by omega⟩, by omega, fun i x y => ?_, fun i x y => ?_, fun j x y z => ?_, fun i j x y z => ?_⟩
  · obtain ⟨g1, g2, g3⟩ := h5 i x (by omega)
    rw [c3, d3, hko _ (fun q => by rw [q] at g3; omega)]
    exact ⟨g1, g2, g3⟩
  · obtain ⟨g1, g2, g3⟩ := h6 i x (by omega)
    rw [c2, d2, hko _ (fun q => by rw [q] at g3; omega)]
    exact ⟨g1, g2, g3⟩
  · by_cases w : j = l
    · rw [w, hk] at z; omega
    · rw [hko j w] at z
      obtain ⟨i, u1, u2, u3⟩ := h7 j x y z
      exact ⟨i, u1, by omega, by rw [d3]; exact u3⟩
  · rw [d3, d3]; exact h8 i j x y (by omega)
theorem f_Fs.tell {C M : ax_V} {k l p t : Int} (h : f_Fs C M ((M 222 10) + 1)) (hn : 0 ≤ (M 222 10) ∧ (M 222 10) < 8) (hk : k = 1 ∨ k = 2 ∨ k = 3) (hl : 0 ≤ l ∧ l < 26) (h0 : M 232 (26 * (M 222 10) + l) = 0) : f_Fs (c_tf (c_tl C (26 * (M 222 10) + l) p k t) (M 222 10) k (26 * (M 222 10) + l)) (m_tf (m_te M (26 * (M 222 10) + l) p k t) k l) ((M 222 10) + 1) := by
  obtain ⟨C1, eC1⟩ : ∃ X : ax_V, X = c_tl C (26 * (M 222 10) + l) p k t := ⟨_, rfl⟩
  obtain ⟨M1, eM1⟩ : ∃ X : ax_V, X = m_te M (26 * (M 222 10) + l) p k t := ⟨_, rfl⟩
  have g1 : ∀ c, c < 533 ∨ 535 < c → C1 c = C c := fun c z => by rw [eC1]; exact c_tl_ne z
  have g2 : ∀ c, c < 232 ∨ 234 < c → M1 c = M c := fun c z => by rw [eM1]; exact m_te_ne z
  have n1 : (M1 222 10) = (M 222 10) := by rw [g2 222 (by decide)]
  have k1 : M1 232 (26 * (M 222 10) + l) = k := by rw [eM1]; unfold m_te; rw [ax_u_ne (by decide), ax_u_ne (by decide)]; exact ax_u_s _ _ _ _
  have k2 : ∀ s, s ≠ 26 * (M 222 10) + l → M1 232 s = M 232 s := fun s z => by rw [eM1]; unfold m_te; rw [ax_u_ne (by decide), ax_u_ne (by decide)]; exact ax_u_k z
  rw [← eC1, ← eM1]
  obtain ⟨N, eN⟩ : ∃ x : Int, x = (M 222 10) := ⟨_, rfl⟩
  rw [← eN] at h hn h0 n1 k1 k2 ⊢
  have hf := h.1 N hn.1 (by omega)
  have hb := f_cn_lt h0 hl.1 26 hl.2
  have hf1 := hf.1
  have hf2 := hf.2.1
  have hf3 := hf.2.2.1
  have hf4 := hf.2.2.2.1
  have kk : (m_tf M1 k l) 232 = M1 232 := m_tf_ne (by decide)
  have i1 : M1 227 = M 227 := g2 227 (by decide)
  have i2 : M1 228 = M 228 := g2 228 (by decide)
  have i3 : M1 229 = M 229 := g2 229 (by decide)
  have i4 : M1 230 = M 230 := g2 230 (by decide)
  have i5 : M1 231 = M 231 := g2 231 (by decide)
  have j1 : C1 503 = C 503 := g1 503 (by decide)
  have j2 : C1 504 = C 504 := g1 504 (by decide)
  have j3 : C1 505 = C 505 := g1 505 (by decide)
  have j4 : C1 506 = C 506 := g1 506 (by decide)
  have j5 : C1 507 = C 507 := g1 507 (by decide)
  have hko : ∀ j, j ≠ l → (m_tf M1 k l) 232 (26 * N + j) = M 232 (26 * N + j) := fun j z => by rw [kk]; exact k2 _ (by omega)
  have hkk : (m_tf M1 k l) 232 (26 * N + l) = k := by rw [kk]; exact k1
  rcases hk with e | e | e
  · subst e
    have eC : c_tf C1 N 1 (26 * N + l) = ax_u (ax_u C1 506 (N * 26 + C 503 N) (26 * N + l)) 503 N (C 503 N + 1) := by unfold c_tf; rw [if_pos rfl, j1]
    have eM : m_tf M1 1 l = ax_u (ax_u M1 230 (26 * N + M 227 N) l) 227 N (M 227 N + 1) := by unfold m_tf; rw [if_pos rfl, n1, i1]
    rw [eM] at hko hkk
    rw [eC, eM]
    refine ⟨fun n a b => ?_, fun n a b => ?_⟩
    · by_cases w : n = N
      · rw [w]
        refine hf.more1 h0 hl hkk hko ?_ ?_ ?_ ?_ ?_ ?_ ?_ (fun i z => ?_) (fun i => ?_) ?_ (fun i z => ?_) (fun i => ?_)
        · exact ax_u_s _ _ _ _
        · rw [ax_u_ne (by decide), ax_u_ne (by decide), j2]
        · rw [ax_u_ne (by decide), ax_u_ne (by decide), j3]
        · exact ax_u_s _ _ _ _
        · rw [ax_u_ne (by decide), ax_u_ne (by decide), i2]
        · rw [ax_u_ne (by decide), ax_u_ne (by decide), i3]
        · rw [ax_u_ne (by decide), show 26 * N + M 227 N = N * 26 + C 503 N by omega]; exact ax_u_s _ _ _ _
        · rw [ax_u_ne (by decide), ax_u_k (by omega), j4]
        · rw [ax_u_ne (by decide), ax_u_ne (by decide), j5]
        · rw [ax_u_ne (by decide)]; exact ax_u_s _ _ _ _
        · rw [ax_u_ne (by decide), ax_u_k (by omega), i4]
        · rw [ax_u_ne (by decide), ax_u_ne (by decide), i5]
      · refine (h.1 n a b).at (fun c x y => ?_) (fun c i x y u v => ?_) (fun c x y => ?_) (fun c i x y u v => ?_)
        · rw [ax_u_o (by omega), ax_u_ne (by omega), g1 c (by omega)]
        · rw [ax_u_ne (by omega), ax_u_o (by omega), g1 c (by omega)]
        · rw [ax_u_o (by omega), ax_u_ne (by omega), g2 c (by omega)]
        · rw [ax_u_ne (by omega), ax_u_o (by omega)]
          by_cases w2 : c = 232
          · rw [w2]; exact k2 _ (by omega)
          · rw [g2 c (by omega)]
    · rw [ax_u_k (by omega), ax_u_ne (by decide), ax_u_ne (by decide), ax_u_ne (by decide), ax_u_ne (by decide), ax_u_ne (by decide), j1, j2, j3]
      exact h.2 n a b
  · subst e
    have eC : c_tf C1 N 2 (26 * N + l) = ax_u (ax_u C1 507 (N * 26 + C 504 N) (26 * N + l)) 504 N (C 504 N + 1) := by unfold c_tf; rw [if_neg (by decide), if_pos rfl, j2]
    have eM : m_tf M1 2 l = ax_u (ax_u M1 231 (26 * N + M 228 N) l) 228 N (M 228 N + 1) := by unfold m_tf; rw [if_neg (by decide), if_pos rfl, n1, i2]
    rw [eM] at hko hkk
    rw [eC, eM]
    refine ⟨fun n a b => ?_, fun n a b => ?_⟩
    · by_cases w : n = N
      · rw [w]
        refine hf.more2 h0 hl hkk hko ?_ ?_ ?_ ?_ ?_ ?_ ?_ (fun i z => ?_) (fun i => ?_) ?_ (fun i z => ?_) (fun i => ?_)
        · rw [ax_u_ne (by decide), ax_u_ne (by decide), j1]
        · exact ax_u_s _ _ _ _
        · rw [ax_u_ne (by decide), ax_u_ne (by decide), j3]
        · rw [ax_u_ne (by decide), ax_u_ne (by decide), i1]
        · exact ax_u_s _ _ _ _
        · rw [ax_u_ne (by decide), ax_u_ne (by decide), i3]
        · rw [ax_u_ne (by decide), show 26 * N + M 228 N = N * 26 + C 504 N by omega]; exact ax_u_s _ _ _ _
        · rw [ax_u_ne (by decide), ax_u_k (by omega), j5]
        · rw [ax_u_ne (by decide), ax_u_ne (by decide), j4]
        · rw [ax_u_ne (by decide)]; exact ax_u_s _ _ _ _
        · rw [ax_u_ne (by decide), ax_u_k (by omega), i5]
        · rw [ax_u_ne (by decide), ax_u_ne (by decide), i4]
      · refine (h.1 n a b).at (fun c x y => ?_) (fun c i x y u v => ?_) (fun c x y => ?_) (fun c i x y u v => ?_)
        · rw [ax_u_o (by omega), ax_u_ne (by omega), g1 c (by omega)]
        · rw [ax_u_ne (by omega), ax_u_o (by omega), g1 c (by omega)]
        · rw [ax_u_o (by omega), ax_u_ne (by omega), g2 c (by omega)]
        · rw [ax_u_ne (by omega), ax_u_o (by omega)]
          by_cases w2 : c = 232
          · rw [w2]; exact k2 _ (by omega)
          · rw [g2 c (by omega)]
    · rw [ax_u_ne (by decide), ax_u_ne (by decide), ax_u_k (by omega), ax_u_ne (by decide), ax_u_ne (by decide), ax_u_ne (by decide), j1, j2, j3]
      exact h.2 n a b
  · subst e
    have eC : c_tf C1 N 3 (26 * N + l) = ax_u C1 505 N (C 505 N + 1) := by unfold c_tf; rw [if_neg (by decide), if_neg (by decide), j3]
    have eM : m_tf M1 3 l = ax_u M1 229 N (M 229 N + 1) := by unfold m_tf; rw [if_neg (by decide), if_neg (by decide), n1, i3]
    rw [eM] at hko hkk
    rw [eC, eM]
    refine ⟨fun n a b => ?_, fun n a b => ?_⟩
    · by_cases w : n = N
      · rw [w]
        refine hf.more3 h0 hl hkk hko ?_ ?_ ?_ ?_ ?_ ?_ (fun i => ?_) (fun i => ?_) (fun i => ?_) (fun i => ?_)
        · rw [ax_u_ne (by decide), j1]
        · rw [ax_u_ne (by decide), j2]
        · exact ax_u_s _ _ _ _
        · rw [ax_u_ne (by decide), i1]
        · rw [ax_u_ne (by decide), i2]
        · exact ax_u_s _ _ _ _
        · rw [ax_u_ne (by decide), j5]
        · rw [ax_u_ne (by decide), j4]
        · rw [ax_u_ne (by decide), i5]
        · rw [ax_u_ne (by decide), i4]
      · refine (h.1 n a b).at (fun c x y => ?_) (fun c i x y u v => ?_) (fun c x y => ?_) (fun c i x y u v => ?_)
        · rw [ax_u_o (by omega), g1 c (by omega)]
        · rw [ax_u_ne (by omega), g1 c (by omega)]
        · rw [ax_u_o (by omega), g2 c (by omega)]
        · rw [ax_u_ne (by omega)]
          by_cases w2 : c = 232
          · rw [w2]; exact k2 _ (by omega)
          · rw [g2 c (by omega)]
    · rw [ax_u_ne (by decide), ax_u_ne (by decide), ax_u_k (by omega), j1, j2, j3]
      exact h.2 n a b
