/-! THE SMALL CALLS: total, fault, node, run -/
def p_tot (a b c x : Int) : Int := if x = 0 then a else if x = 1 then b else if x = 2 then c else -1
def p_flt (a b x : Int) : Int := if x = 0 then a else if x = 1 then b else -1
def p_nod (a b c e f g x : Int) : Int := if x = 0 then a else if x = 1 then b else if x = 2 then c else if x = 3 then e else if x = 4 then f else if x = 5 then g else -1
section Small
variable {B q d : Nat} {Sp : az_H} {Jx : Int} {V W N : ax_V} {k x : Int} {Φ : Int → ax_V → Prop} {Ψ Θ : ax_V → Prop}
theorem t_totalH (hg : ax_g V) (rx : ax_rg x) (h : Φ (p_tot (V 500 0) (V 0 1) (V 0 8) x) V) : ax_I (az_W B (az_EH B Sp q Jx)) (d + 1) q_House_total [.ref 0, ax_i x] V Φ Θ := by
  unfold p_tot at h
  refine r_House_total hg rx ⟨fun z => ?_, fun z => ?_, fun z => ?_, fun z1 z2 z3 => ?_⟩
  · rw [if_pos z] at h; exact h
  · rw [if_neg (by omega), if_pos z] at h; exact h
  · rw [if_neg (by omega), if_neg (by omega), if_pos z] at h; exact h
  · rw [if_neg z1, if_neg z2, if_neg z3] at h; exact h
theorem s_totalM (hg : ax_g N) (rx : ax_rg x) (h : ∀ W, W = ax_u N 222 0 0 → Φ (p_tot (if N 222 7 = 0 then 0 else N 222 86) (N 222 1) (N 222 102) x) W) : ax_I ay_lay (d + 1) q_Model_total [.ref 222, ax_i x] N Φ Θ := by
  refine r_Model_total hg rx (fun V1 e1 => ?_)
  have s1 : ∀ f, ¬ f = 0 → V1 222 f = N 222 f := fun f z => by rw [e1]; exact ax_u_k z
  have h' := h V1 e1
  unfold p_tot at h'
  rw [s1 7 (by decide), s1 86 (by decide), s1 1 (by decide), s1 102 (by decide)]
  refine ⟨fun z => ⟨fun y => ?_, fun y => ?_⟩, fun z => ⟨fun y => ?_, fun y => ⟨fun w => ?_, fun w => ?_⟩⟩⟩
  · rw [if_pos z, if_pos y] at h'; exact h'
  · rw [if_pos z, if_neg y] at h'; exact h'
  · rw [if_neg z, if_pos y] at h'; exact h'
  · rw [if_neg z, if_neg y, if_pos w] at h'; exact h'
  · rw [if_neg z, if_neg y, if_neg w] at h'; exact h'
theorem t_faultH (hg : ax_g V) (rx : ax_rg x) (h : Φ (p_flt (V 0 2) (V 0 3) x) V) : ax_I (az_W B (az_EH B Sp q Jx)) (d + 1) q_House_fault [.ref 0, ax_i x] V Φ Θ := by
  unfold p_flt at h
  refine r_House_fault hg rx ⟨fun z => ?_, fun z => ⟨fun y => ?_, fun y => ?_⟩⟩
  · rw [if_pos z] at h; exact h
  · rw [if_neg z, if_pos y] at h; exact h
  · rw [if_neg z, if_neg y] at h; exact h
theorem s_faultM (hg : ax_g N) (rx : ax_rg x) (h : ∀ W, W = ax_u N 222 0 0 → Φ (p_flt (N 222 8) (N 222 9) x) W) : ax_I ay_lay (d + 1) q_Model_fault [.ref 222, ax_i x] N Φ Θ := by
  refine r_Model_fault hg rx (fun V1 e1 => ?_)
  have s1 : ∀ f, ¬ f = 0 → V1 222 f = N 222 f := fun f z => by rw [e1]; exact ax_u_k z
  have h' := h V1 e1
  unfold p_flt at h'
  rw [s1 8 (by decide), s1 9 (by decide)]
  refine ⟨fun z => ?_, fun z => ⟨fun y => ?_, fun y => ?_⟩⟩
  · rw [if_pos z] at h'; exact h'
  · rw [if_neg z, if_pos y] at h'; exact h'
  · rw [if_neg z, if_neg y] at h'; exact h'
theorem p_nod_k {a b c e f g x : Int} {Q : Int → Prop} (h : Q (p_nod a b c e f g x)) : (x = 0 → Q a) ∧ (x = 1 → Q b) ∧ (x = 2 → Q c) ∧ (x = 3 → Q e) ∧ (x = 4 → Q f) ∧ (x = 5 → Q g) ∧ (¬ x = 0 → ¬ x = 1 → ¬ x = 2 → ¬ x = 3 → ¬ x = 4 → ¬ x = 5 → Q (-1)) := by
  unfold p_nod at h
  refine ⟨fun z => ?_, fun z => ?_, fun z => ?_, fun z => ?_, fun z => ?_, fun z => ?_, fun z0 z1 z2 z3 z4 z5 => ?_⟩
  · rw [if_pos z] at h; exact h
  · rw [if_neg (by omega), if_pos z] at h; exact h
  · rw [if_neg (by omega), if_neg (by omega), if_pos z] at h; exact h
  · rw [if_neg (by omega), if_neg (by omega), if_neg (by omega), if_pos z] at h; exact h
  · rw [if_neg (by omega), if_neg (by omega), if_neg (by omega), if_neg (by omega), if_pos z] at h; exact h
  · rw [if_neg (by omega), if_neg (by omega), if_neg (by omega), if_neg (by omega), if_neg (by omega), if_pos z] at h; exact h
  · rw [if_neg z0, if_neg z1, if_neg z2, if_neg z3, if_neg z4, if_neg z5] at h; exact h
theorem t_nodeH (hg : ax_g V) (rk : ax_rg k) (rx : ax_rg x) (hc : V 500 0 ≤ 8) (h0 : ¬ (0 ≤ k ∧ k < V 500 0) → Φ (-1) V) (h1 : (0 ≤ k ∧ k < V 500 0) → Φ (p_nod (V 501 k) (V 503 k) (V 504 k) (V 505 k) (V 513 k) (V 514 k) x) V) : ax_I (az_W B (az_EH B Sp q Jx)) (d + 2) q_House_node [.ref 0, ax_i k, ax_i x] V Φ Θ := by
  refine r_House_node (d := d + 1) hg rk rx (r_Program_has (d := d) hg rk ⟨fun z => ⟨fun _ => h0 (fun w => by omega), fun y => absurd rfl y⟩, fun z => ⟨fun y => ⟨fun _ => h0 (fun w => by omega), fun u => absurd rfl u⟩, fun y => ⟨fun u => absurd u (by decide), fun _ => ?_⟩⟩⟩)
  have k8 : 0 ≤ k ∧ k < 8 := ⟨z, by omega⟩
  obtain ⟨a0, a1, a2, a3, a4, a5, a6⟩ := p_nod_k (Q := fun r => Φ r V) (h1 ⟨z, y⟩)
  exact ⟨fun w => ⟨k8, a0 w⟩, fun w => ⟨k8, a1 w⟩, fun w => ⟨k8, a2 w⟩, fun w => ⟨k8, a3 w⟩, fun w => ⟨k8, a4 w⟩, fun w => ⟨k8, a5 w⟩, a6⟩
theorem s_nodeM (hg : ax_g N) (rk : ax_rg k) (rx : ax_rg x) (hc : ¬ N 222 7 = 0 → 0 ≤ N 222 86 ∧ N 222 86 ≤ 8) (h0 : ¬ (¬ N 222 7 = 0 ∧ 0 ≤ k ∧ k < N 222 86) → ∀ W, W = ax_u N 222 0 0 → Φ (-1) W) (h1 : (¬ N 222 7 = 0 ∧ 0 ≤ k ∧ k < N 222 86) → ∀ W, W = ax_u N 222 0 0 → Φ (p_nod (N 226 k) (N 227 k) (N 228 k) (N 229 k) (N 289 k) (N 288 k) x) W) : ax_I ay_lay (d + 3) q_Model_node [.ref 222, ax_i k, ax_i x] N Φ Θ := by
  refine r_Model_node (d := d + 2) hg rk rx (fun V1 e1 => ?_)
  have s1 : ∀ f, ¬ f = 0 → V1 222 f = N 222 f := fun f z => by rw [e1]; exact ax_u_k z
  have k1 : ∀ c, ¬ c = 222 → V1 c = N c := fun c z => by rw [e1]; exact ax_u_ne z
  have g1 : ax_g V1 := by rw [e1]; exact ax_u_g hg (by decide)
  refine s_isNode (d := d) g1 rk (by rw [s1 86 (by decide), s1 7 (by decide)]; exact hc) ?_
  rw [s1 7 (by decide), s1 86 (by decide)]
  by_cases z : ¬ N 222 7 = 0 ∧ 0 ≤ k ∧ k < N 222 86
  · rw [if_pos z]
    have hc' := hc z.1
    have k9 : 0 ≤ k ∧ k < 9 := ⟨z.2.1, by omega⟩
    obtain ⟨a0, a1, a2, a3, a4, a5, a6⟩ := p_nod_k (Q := fun r => Φ r V1) (h1 z V1 e1)
    rw [k1 226 (by decide), k1 227 (by decide), k1 228 (by decide), k1 229 (by decide), k1 289 (by decide), k1 288 (by decide)]
    exact ⟨fun y => absurd y (by decide), fun _ => ⟨fun w => ⟨k9, a0 w⟩, fun w => ⟨k9, a1 w⟩, fun w => ⟨k9, a2 w⟩, fun w => ⟨k9, a3 w⟩, fun w => ⟨k9, a4 w⟩, fun w => ⟨k9, a5 w⟩, a6⟩⟩
  · rw [if_neg z]
    exact ⟨fun _ => h0 z V1 e1, fun y => absurd rfl y⟩
theorem t_runH (hg : ax_g V) (rx : ax_rg x) (hl : V 157 2 ≤ 300) (h : Φ (p_run (V 157 0) (V 157 2) (V 157 1) (V 158) x) V) : ax_I (az_W B (az_EH B Sp q Jx)) (d + 1) q_House_run [.ref 0, ax_i x] V Φ Θ := by
  unfold p_run at h
  refine r_House_run hg rx ⟨fun z => ?_, fun z => ⟨fun y => ?_, fun y => ⟨fun w => ?_, fun w => ⟨fun u => ?_, fun u => ⟨fun t => ?_, fun t => ⟨⟨u, by omega⟩, ?_⟩⟩⟩⟩⟩⟩
  · rw [if_pos z] at h; exact h
  · rw [if_neg z, if_pos y] at h; exact h
  · rw [if_neg z, if_neg y, if_pos w] at h; exact h
  · rw [if_neg z, if_neg y, if_neg w, if_neg (by omega)] at h; exact h
  · rw [if_neg z, if_neg y, if_neg w, if_neg (by omega)] at h; exact h
  · rw [if_neg z, if_neg y, if_neg w, if_pos ⟨u, t⟩] at h; exact h
end Small
