/-! JUDGING: what has been read stays; loops; the least place -/
def g_S (C M : ax_V) : Prop := (ax_g C ∧ ax_g M) ∧ ((M 222 10) = (M 222 86) ∧ 1 ≤ (M 222 86) ∧ (M 222 86) ≤ 8 ∧ (C 500 0) = (M 222 86)) ∧ e_P C M ∧ f_LL C M (M 222 86) ∧ f_B C M (M 222 55) ∧ (C 508 (M 222 86) = (M 222 26) ∧ C 509 (M 222 86) = (M 222 44) ∧ C 510 (M 222 86) = (M 222 55)) ∧ f_no1 M (M 222 86) ∧ ((M 222 26) + (M 222 44) + 4 * (M 222 55) ≤ (M 222 68) ∧ (M 222 68) ≤ 700)
theorem f_M.S {C0 M0 C M : ax_V} (h : f_M C0 M0 C M) : g_S C M := by
  obtain ⟨⟨h1, hT, hat, hnn, hz, hP, hf, hLL, hB, hfr, hno, hJ, hPn⟩, hc, ha⟩ := h
  have := hT.2.2.1
  exact ⟨h1, ⟨hnn.1.symm, hc, hnn.2.2, hPn⟩, hP, hLL, hB, hfr, hno, hJ, by omega⟩
/-- a loop -/
theorem ax_for {K : Int → ax_V → Prop} {I : Int → ax_V → Prop} {hi : Int} (step : ∀ i V, i < hi → I i V → (∀ V', I (i + 1) V' → K (i + 1) V') → K i V) (done : ∀ i V, hi ≤ i → I i V → K i V) : ∀ i V, I i V → K i V := by
  have key : ∀ (m : Nat) (i : Int) (V : ax_V), hi - i ≤ (m : Int) → I i V → K i V := by
    intro m
    induction m with
    | zero => intro i V h hI; exact done i V (by omega) hI
    | succ m ih =>
      intro i V h hI
      by_cases w : i < hi
      · exact step i V w hI (fun V' hI' => ih (i + 1) V' (by omega) hI')
      · exact done i V (by omega) hI
  intro i V hI
  exact key (hi - i).toNat i V (by omega) hI
/-- a loop that goes down -/
theorem ax_ford {K : Int → ax_V → Prop} {I : Int → ax_V → Prop} {lo : Int} (step : ∀ i V, lo ≤ i → I i V → (∀ V', I (i - 1) V' → K (i - 1) V') → K i V) (done : ∀ i V, i < lo → I i V → K i V) : ∀ i V, I i V → K i V := by
  have key : ∀ (m : Nat) (i : Int) (V : ax_V), i - lo < (m : Int) → I i V → K i V := by
    intro m
    induction m with
    | zero => intro i V h hI; exact done i V (by omega) hI
    | succ m ih =>
      intro i V h hI
      by_cases w : lo ≤ i
      · exact step i V w hI (fun V' hI' => ih (i - 1) V' (by omega) hI')
      · exact done i V (by omega) hI
  intro i V hI
  exact key ((i - lo).toNat + 1) i V (by omega) hI
/-! the class blames a place -/
def j_bl (V : ax_V) (w p : Int) : ax_V := if ¬ w = 0 ∧ p < V 601 5 then ax_u V 601 5 p else V
theorem j_bl_ne {V : ax_V} {w p : Int} {c : Nat} (h : c ≠ 601) : j_bl V w p c = V c := by
  unfold j_bl
  split
  · exact ax_u_ne h
  · rfl
theorem j_bl_le (V : ax_V) (w p t : Int) : (j_bl V w p) 601 5 ≤ t ↔ V 601 5 ≤ t ∨ (¬ w = 0 ∧ p ≤ t) := by
  unfold j_bl
  split
  · next h => rw [ax_u_s]; exact ⟨fun q => Or.inr ⟨h.1, q⟩, fun q => by rcases q with q | q <;> omega⟩
  · next h => exact ⟨fun q => Or.inl q, fun q => by
      rcases q with q | q
      · exact q
      · have : ¬ p < V 601 5 := fun z => h ⟨q.1, z⟩
        omega⟩
theorem j_bl_g {V : ax_V} {w p : Int} (hg : ax_g V) (hp : ax_rg p) : ax_g (j_bl V w p) := by
  unfold j_bl
  split
  · exact ax_u_g hg hp
  · exact hg
theorem j_bl_0 (V : ax_V) (p : Int) : j_bl V 0 p = V := by
  unfold j_bl
  rw [if_neg (fun q => q.1 rfl)]
theorem t_blame {B r d : Nat} {V : ax_V} {Ψ Θ : ax_V → Prop} {w p : Int} (hg : ax_g V) (hw : ax_rg w) (hp : ax_rg p) (h : Ψ (j_bl V w p)) : ax_N (az_W B (az_EJ B r)) (d + 1) q_Judge_blameIf [.ref r, ax_i w, ax_i p] V Ψ Θ := by
  refine r_Judge_blameIf hg hw hp ⟨fun q => ?_, fun q => ⟨fun q2 => ?_, fun q2 V1 e1 => ?_⟩⟩
  · unfold j_bl at h; rw [if_neg (fun z => z.1 q)] at h; exact h
  · unfold j_bl at h; rw [if_neg (fun z => by omega)] at h; exact h
  · unfold j_bl at h; rw [if_pos ⟨q, q2⟩] at h; rw [e1]; exact h
/-! the model notes a place: 700 stands for none -/
def m_nb (M : ax_V) : Int := if (M 222 73) = -1 then 700 else if (M 222 73) < 700 then (M 222 73) else (M 222 73) + 1
theorem m_nt_ne {M : ax_V} {p : Int} {c : Nat} (h : c ≠ 222) : m_nt M p c = M c := by
  unfold m_nt
  split
  · exact ax_u_ne h
  · rfl
theorem m_nt_o {M : ax_V} {p j : Int} (h : j ≠ 73) : m_nt M p 222 j = M 222 j := by
  unfold m_nt
  split
  · exact ax_u_k h
  · rfl
theorem m_nt_g {M : ax_V} {p : Int} (hg : ax_g M) (hp : ax_rg p) : ax_g (m_nt M p) := by
  unfold m_nt
  split
  · exact ax_u_g hg hp
  · exact hg
theorem m_nt_le {M : ax_V} {p t : Int} (hp : e_pl p) (ht : t < 701) : m_nb (m_nt M p) ≤ t ↔ m_nb M ≤ t ∨ p ≤ t := by
  unfold m_nb m_nt
  by_cases q : (M 222 73) = -1 ∨ p < (M 222 73)
  · rw [if_pos q, ax_u_s, if_neg (show ¬ p = -1 by omega), if_pos (show p < 700 by omega)]
    by_cases w : (M 222 73) = -1
    · rw [if_pos w]; omega
    · rw [if_neg w]
      by_cases w2 : (M 222 73) < 700
      · rw [if_pos w2]; omega
      · rw [if_neg w2]; omega
  · rw [if_neg q]
    by_cases w : (M 222 73) = -1
    · omega
    · rw [if_neg w]
      by_cases w2 : (M 222 73) < 700
      · rw [if_pos w2]; omega
      · rw [if_neg w2]; omega
/-- what stays as it was: all cells but these; all fields but these -/
def g_fr (X : List Nat) (C0 C : ax_V) : Prop := ∀ c, c ∉ X → C c = C0 c
def g_sc (J : List Int) (M0 M : ax_V) : Prop := ∀ j, j ∉ J → M 222 j = M0 222 j
theorem g_fr.rf (X : List Nat) (C : ax_V) : g_fr X C C := fun _ _ => rfl
theorem g_sc.rf (J : List Int) (M : ax_V) : g_sc J M M := fun _ _ => rfl
theorem g_fr.u {X : List Nat} {C0 C : ax_V} {c : Nat} {i x : Int} (h : g_fr X C0 C) (hc : c ∈ X) : g_fr X C0 (ax_u C c i x) := fun c' z => by
  have q : c' ≠ c := fun e => z (by rw [e]; exact hc)
  rw [ax_u_ne q]; exact h c' z
theorem g_fr.bl {X : List Nat} {C0 C : ax_V} {w p : Int} (h : g_fr X C0 C) (hc : 601 ∈ X) : g_fr X C0 (j_bl C w p) := fun c' z => by
  have q : c' ≠ 601 := fun e => z (by rw [e]; exact hc)
  rw [j_bl_ne q]; exact h c' z
theorem g_fr.nt {X : List Nat} {C0 C : ax_V} {p : Int} (h : g_fr X C0 C) (hc : 222 ∈ X) : g_fr X C0 (m_nt C p) := fun c' z => by
  have q : c' ≠ 222 := fun e => z (by rw [e]; exact hc)
  rw [m_nt_ne q]; exact h c' z
theorem g_fr.tr {X : List Nat} {C0 C C' : ax_V} (h : g_fr X C0 C) (k : g_fr X C C') : g_fr X C0 C' := fun c z => (k c z).trans (h c z)
theorem g_fr.up {X Y : List Nat} {C0 C : ax_V} (h : g_fr X C0 C) (hc : ∀ c, c ∈ X → c ∈ Y) : g_fr Y C0 C := fun c z => h c (fun q => z (hc c q))
theorem g_sc.u {J : List Int} {M0 M : ax_V} {j x : Int} (h : g_sc J M0 M) (hj : j ∈ J) : g_sc J M0 (ax_u M 222 j x) := fun k z => by
  have q : k ≠ j := fun e => z (by rw [e]; exact hj)
  rw [ax_u_k q]; exact h k z
theorem g_sc.a {J : List Int} {M0 M : ax_V} {c : Nat} {i x : Int} (h : g_sc J M0 M) (hc : 222 ≠ c) : g_sc J M0 (ax_u M c i x) := fun k z => by rw [ax_u_ne hc]; exact h k z
theorem g_sc.nt {J : List Int} {M0 M : ax_V} {p : Int} (h : g_sc J M0 M) (hj : (73 : Int) ∈ J) : g_sc J M0 (m_nt M p) := fun k z => by
  have q : k ≠ 73 := fun e => z (by rw [e]; exact hj)
  rw [m_nt_o q]; exact h k z
theorem g_sc.tr {J : List Int} {M0 M M' : ax_V} (h : g_sc J M0 M) (k : g_sc J M M') : g_sc J M0 M' := fun j z => (k j z).trans (h j z)
theorem g_sc.up {J K : List Int} {M0 M : ax_V} (h : g_sc J M0 M) (hc : ∀ c, c ∈ J → c ∈ K) : g_sc K M0 M := fun c z => h c (fun q => z (hc c q))
