/-! Prover.begin -/
def az_pv (w : Nat) (m p : Value) : ax_S := .inr (157, .inr (9, [none, none, none, some (.ref 158), some (.ref w), some (.ref 160), some (.ref 161), some (.ref 162), some (.ref 163), some (.ref 164), some (.ref 165), some m, some p, none, none, none, none, none]))
/-- a numbered cell is taken as it is: its number is free -/
theorem ax_raw {ss : List ax_S} {V V' : ax_V} {w id : Nat} {x : (Nat × Nat) ⊕ (Nat × List (Option Value))} (ok : ax_ok ss) (h : ss[w]? = some (.inr (id, x))) (hV : ∀ c, ¬ c = id → V' c = V c) : ax_w ss V = ax_w (ss.set w (.inl (ax_c V (.inr (id, x))))) V' := by
  apply List.ext_getElem?
  intro j
  unfold ax_w
  have hlt := (List.getElem?_eq_some_iff.mp h).1
  by_cases hj : w = j
  · subst hj
    rw [List.getElem?_map, List.getElem?_map, List.getElem?_set_self hlt, h]; rfl
  · rw [List.getElem?_map, List.getElem?_map, List.getElem?_set_ne hj]
    cases hs : ss[j]? with
    | none => rfl
    | some s =>
      rcases s with e | ⟨id', y⟩
      · rfl
      · have ne : ¬ id' = id := fun z => hj (ok w j id x y h (by rw [hs, z]))
        show some (ax_c V (.inr (id', y))) = some (ax_c V' (.inr (id', y)))
        rw [ax_c_ne (hV id' ne)]
section Begin
variable {ss ss2 : List ax_S} {d B w nw : Nat} {V W : ax_V} {n o pv most wd : Int} {m0 p0 : Value} {L : List (Option Value)} {Q : Option Value → List va_E → Prop}
/-- the end of begin -/
theorem t_begin3 {L : List (Option Value)} (hL : L = [some (.ref 157), some (.ref 150), some (ax_i n), some (ax_i o), some (ax_i pv), some (ax_i most)]) (ok : ax_ok ss) (h157 : ss[157]? = some (az_pv w m0 p0)) (h163 : ss[163]? = some (.inr (163, .inl (0, 1024)))) (hg : ax_g V) (h : ∀ W, g_fr [157, 163] V W → (∀ k, ¬ k = 0 → ¬ k = 1 → ¬ k = 2 → W 157 k = V 157 k) → ax_g W → W 157 0 = 1 → W 157 1 = 0 → W 157 2 = 0 → (∀ s, 0 ≤ s → s < 1024 → W 163 s = 0) → Q none (ax_w ss W)) : ax_Q ss (d + 1) m_Prover_begin 119 L [] V Q := by
  subst hL
  refine ax_Q.mv 1 120 [some (.ref 157), some (.ref 150), some (ax_i n), some (ax_i o), some (ax_i pv), some (ax_i most)] [.ref 157] rfl ?_
  refine ax_Q.gR (v := .ref 163) (pc' := 123) ⟨_, rfl⟩ fl_9_27 h157 rfl rfl ?_
  refine ax_Q.mv 1 124 [some (.ref 157), some (.ref 150), some (ax_i n), some (ax_i o), some (ax_i pv), some (ax_i most)] [ax_i 0, .ref 163] rfl ?_
  obtain ⟨V1, g1, ⟨f1, z1⟩, ex⟩ := ax_N.E (ss := ss) (t_fillA (lay := fun s => s = ss) (d := d) (id := 163) (m := 1024) (a := 163) (v := 0) (V := V) (Ψ := fun W => g_fr [163] V W ∧ ∀ i, 0 ≤ i → i < ((1024 : Nat) : Int) → W 163 i = 0) (fun s hs => by rw [hs]; exact ok) (fun s hs => by rw [hs]; exact h163) (by decide) hg (by decide) (fun W a _ c => ⟨a, c⟩)) rfl
  refine ax_Q.calls (v := none) (pc' := 127) ⟨_, rfl⟩ ml_9_78 (Nat.le_of_ble_eq_true rfl) (Nat.le_of_ble_eq_true rfl) ai_nt_n rfl ex ?_
  obtain ⟨V2, e2⟩ : ∃ W9 : ax_V, W9 = ax_u V1 157 1 0 := ⟨_, rfl⟩
  obtain ⟨V3, e3⟩ : ∃ W9 : ax_V, W9 = ax_u V2 157 2 0 := ⟨_, rfl⟩
  obtain ⟨V4, e4⟩ : ∃ W9 : ax_V, W9 = ax_u V3 157 0 1 := ⟨_, rfl⟩
  refine ax_Q.mv 2 129 [some (.ref 157), some (.ref 150), some (ax_i n), some (ax_i o), some (ax_i pv), some (ax_i most)] [ax_i 0, .ref 157] rfl ?_
  refine ax_Q.pI (kI := 1) (pc' := 132) ⟨_, rfl⟩ fl_9_84 ok h157 rfl rfl rfl rfl e2 rfl ?_
  refine ax_Q.mv 2 134 [some (.ref 157), some (.ref 150), some (ax_i n), some (ax_i o), some (ax_i pv), some (ax_i most)] [ax_i 0, .ref 157] rfl ?_
  refine ax_Q.pI (kI := 2) (pc' := 137) ⟨_, rfl⟩ fl_9_87 ok h157 rfl rfl rfl rfl e3 rfl ?_
  refine ax_Q.mv 2 139 [some (.ref 157), some (.ref 150), some (ax_i n), some (ax_i o), some (ax_i pv), some (ax_i most)] [ax_i 1, .ref 157] rfl ?_
  refine ax_Q.pI (kI := 0) (pc' := 142) ⟨_, rfl⟩ fl_9_90 ok h157 rfl rfl (by decide) (by decide) e4 rfl ?_
  refine ax_Q.vret ⟨_, rfl⟩ rfl (h V4 (fun c z => ?_) (fun k z0 z1 z2 => ?_) ?_ ?_ ?_ ?_ (fun s a b => ?_))
  · simp only [List.mem_cons, List.not_mem_nil, or_false, not_or] at z
    rw [e4, ax_u_ne z.1, e3, ax_u_ne z.1, e2, ax_u_ne z.1, f1 c (by simp; exact z.2)]
  · rw [e4, ax_u_k z0, e3, ax_u_k z2, e2, ax_u_k z1, f1 157 (by decide)]
  · rw [e4, e3, e2]; exact ax_u_g (ax_u_g (ax_u_g g1 (by decide)) (by decide)) (by decide)
  · rw [e4, ax_u_s]
  · rw [e4, ax_u_k (by decide), e3, ax_u_k (by decide), e2, ax_u_s]
  · rw [e4, ax_u_k (by decide), e3, ax_u_s]
  · rw [e4, ax_u_ne (by decide), e3, ax_u_ne (by decide), e2, ax_u_ne (by decide)]; exact z1 s a (by omega)
end Begin
