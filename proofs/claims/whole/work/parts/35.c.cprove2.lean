/-! PROVING, the class: a tick from a row, outputs, the path told -/
/-- which numbers goes knows, called by the prover -/
def sg_p (c : Nat) : Option Nat := if (150 ≤ c ∧ c ≤ 155) ∨ (500 ≤ c ∧ c ≤ 573) then some c else if c = 165 then some 610 else if c = 620 then some 611 else none
theorem sg_p_k {c : Nat} (h : (150 ≤ c ∧ c ≤ 155) ∨ (500 ≤ c ∧ c ≤ 573)) : sg_p c = some c := if_pos h
theorem sg_p_i (c : Nat) : (sg_p c = some c ∧ ((150 ≤ c ∧ c ≤ 155) ∨ (500 ≤ c ∧ c ≤ 573))) ∨ (c = 165 ∧ sg_p c = some 610) ∨ (c = 620 ∧ sg_p c = some 611) ∨ sg_p c = none := by
  by_cases z : (150 ≤ c ∧ c ≤ 155) ∨ (500 ≤ c ∧ c ≤ 573)
  · exact Or.inl ⟨if_pos z, z⟩
  · by_cases z1 : c = 165
    · exact Or.inr (Or.inl ⟨z1, by unfold sg_p; rw [if_neg z, if_pos z1]⟩)
    · by_cases z2 : c = 620
      · exact Or.inr (Or.inr (Or.inl ⟨z2, by unfold sg_p; rw [if_neg z, if_neg z1, if_pos z2]⟩))
      · exact Or.inr (Or.inr (Or.inr (by unfold sg_p; rw [if_neg z, if_neg z1, if_neg z2])))
theorem sg_p_o {c k : Nat} (h : sg_p c = some k) : (k = c ∧ ((150 ≤ c ∧ c ≤ 155) ∨ (500 ≤ c ∧ c ≤ 573))) ∨ (c = 165 ∧ k = 610) ∨ (c = 620 ∧ k = 611) := by
  rcases sg_p_i c with ⟨a, r⟩ | ⟨a, a'⟩ | ⟨a, a'⟩ | a
  · rw [a] at h; exact Or.inl ⟨(Option.some.inj h).symm, r⟩
  · rw [a'] at h; exact Or.inr (Or.inl ⟨a, (Option.some.inj h).symm⟩)
  · rw [a'] at h; exact Or.inr (Or.inr ⟨a, (Option.some.inj h).symm⟩)
  · rw [a] at h; cases h
section CProve2
variable {B w nw d : Nat} {C0 M0 P V W : ax_V} {F G Hh S U J Im : Int → Int} {n f x m wd : Int} {R : h_R} {Φ : Int → ax_V → Prop} {Ψ Θ : ax_V → Prop}
theorem az_EP_N (ss : List ax_S) (h : az_W B (az_EP B w nw) ss) : az_W B (az_EN B 165 4 w nw) (ss.map (ax_rn sg_p V)) := by
  refine az_W_map (fun c c' k h1 h2 => ?_) (fun k hk => sg_p_k (Or.inr ⟨by omega, by omega⟩)) (fun i q' hi => ?_) ss h
  · have e1 := sg_p_o h1
    have e2 := sg_p_o h2
    omega
  · match i, hi with
    | 0, hi => cases hi; exact ⟨0, _, rfl, rfl, ax_rn_i (sg_p_k (by decide))⟩
    | 1, hi => cases hi; exact ⟨1, _, rfl, rfl, ax_rn_i (sg_p_k (by decide))⟩
    | 2, hi => cases hi; exact ⟨2, _, rfl, rfl, ax_rn_i (sg_p_k (by decide))⟩
    | 3, hi => cases hi; exact ⟨3, _, rfl, rfl, ax_rn_i (sg_p_k (by decide))⟩
    | 4, hi => cases hi; exact ⟨4, _, rfl, rfl, ax_rn_i (sg_p_k (by decide))⟩
    | 5, hi => cases hi; exact ⟨5, _, rfl, rfl, ax_rn_i (sg_p_k (by decide))⟩
    | 6, hi => cases hi; exact ⟨13, _, rfl, rfl, ax_rn_i rfl⟩
    | 7, hi => cases hi; exact ⟨14, _, rfl, rfl, ax_rn_i rfl⟩
    | k + 8, hi => exact absurd hi (by show ¬ (none = some q'); intro z; cases z)
set_option maxHeartbeats 1000000 in
theorem t_goesP (hnw : nw ≤ 1000000) (hf : 0 ≤ f ∧ f + U n ≤ (nw : Int)) (hi4 : M0 227 n ≤ 4) (hX : h_X C0 M0 P F G Hh S U J Im) (hn : h_N M0 U J n) (hP : ∀ c, 500 ≤ c → c ≤ 573 → V c = P c) (hg : ax_g V) (hR : h_TK C0 M0 U S Im 8 n R) (hm : h_MS C0 M0 U F 8 n (R [] 5)) (pairs : ∀ i j, g_PP C0 M0 U 8 n i j → V 620 (f + i) = R [] 5 j) (inp : ∀ i, 0 ≤ i → i < M0 227 n → V 165 i = R [] 1 (M0 230 (26 * n + i)) ∧ (M0 233 (26 * n + M0 230 (26 * n + i)) = 1 → R [] 1 (M0 230 (26 * n + i)) = 0 ∨ R [] 1 (M0 230 (26 * n + i)) = 1))
    (h : ∀ r W, h_TG C0 M0 U F n V W R r → Φ r W) : ax_I (az_W B (az_EP B w nw)) (d + 26) q_Machine_goes [.ref 150, ax_i n, .ref 165, .ref w, ax_i f] V Φ Θ := by
  obtain ⟨V1, eV⟩ : ∃ V1 : ax_V, V1 = fun c => if c = 610 then V 165 else if c = 611 then V 620 else V c := ⟨_, rfl⟩
  have v0 : ∀ c, ¬ c = 610 → ¬ c = 611 → V1 c = V c := fun c z1 z2 => by rw [eV]; show (if c = 610 then V 165 else if c = 611 then V 620 else V c) = V c; rw [if_neg z1, if_neg z2]
  have v10 : V1 610 = V 165 := by rw [eV]; rfl
  have v11 : V1 611 = V 620 := by rw [eV]; rfl
  have g1 : ax_g V1 := fun c i => by
    by_cases z1 : c = 610
    · rw [z1, v10]; exact hg _ _
    · by_cases z2 : c = 611
      · rw [z2, v11]; exact hg _ _
      · rw [v0 c z1 z2]; exact hg _ _
  have t := t_goes (B := B) (a := 165) (na := 4) (b := w) (nb := nw) (d := d) (f := f) (V := V1) (Θ := fun _ => False) (Φ := fun r W1 => h_TG C0 M0 U F n V1 W1 R r) hX hn (by decide) hnw (fun c a b => by rw [v0 c (by omega) (by omega)]; exact hP c a b) g1 hi4 hf hR hm (fun i j pp => by rw [v11]; exact pairs i j pp) (fun i i0 i1 => by rw [v10]; exact inp i i0 i1) (fun r W1 z => z)
  have hV : ∀ c c', sg_p c = some c' → V1 c' = V c := fun c c' z => by
    rcases sg_p_i c with ⟨a, r⟩ | ⟨a, a'⟩ | ⟨a, a'⟩ | a
    · rw [a] at z; cases z; exact v0 c (by omega) (by omega)
    · rw [a'] at z; cases z; rw [a]; exact v10
    · rw [a'] at z; cases z; rw [a]; exact v11
    · rw [a] at z; cases z
  have fr := ax_T.frame (lay2 := az_W B (az_EP B w nw)) sg_p hg hV (fun ss hs => az_EP_N ss hs) t
  refine ax_T.mono fr (Nat.le_refl _) (fun r W gW hW => ?_) (fun W _ hW => ?_)
  · obtain ⟨W1, gW1, ⟨y, ey, ry, tg⟩, eW⟩ := hW
    refine ⟨y, ey, ry, h y W ?_⟩
    have bk : ∀ c, ((150 ≤ c ∧ c ≤ 155) ∨ (500 ≤ c ∧ c ≤ 573)) → W c = W1 c := fun c hc => by
      rw [eW]
      show (match sg_p c with | some c' => W1 c' | none => V c) = W1 c
      rw [sg_p_k hc]
    have ot : ∀ c, ¬ ((150 ≤ c ∧ c ≤ 155) ∨ (500 ≤ c ∧ c ≤ 573)) → W c = V c := fun c hc => by
      rw [eW]
      show (match sg_p c with | some c' => W1 c' | none => V c) = V c
      rcases sg_p_i c with ⟨a, r⟩ | ⟨a, a'⟩ | ⟨a, a'⟩ | a
      · exact absurd r hc
      · rw [a', a]; show W1 610 = V 165; rw [tg.1.1 610 (by decide), v10]
      · rw [a', a]; show W1 611 = V 620; rw [tg.1.1 611 (by decide), v11]
      · rw [a]
    obtain ⟨⟨t1, t2, t3⟩, t4, t5, t6, t7, t8⟩ := tg
    refine ⟨⟨fun c z => ?_, fun f z => ?_, gW⟩, fun i j pp => by rw [bk 155 (by decide)]; exact t4 i j pp, t5, fun y y0 y1 k0 => ?_, fun i i0 i1 => by rw [bk 152 (by decide)]; exact t7 i i0 i1, by rw [bk 150 (by decide)]; exact t8⟩
    · by_cases hc : (150 ≤ c ∧ c ≤ 155) ∨ (500 ≤ c ∧ c ≤ 573)
      · rw [bk c hc, t1 c z]; exact v0 c (by omega) (by omega)
      · exact ot c hc
    · rw [bk 150 (by decide), t2 f z, v0 150 (by decide) (by decide)]
    · have m := t6 y y0 y1 k0
      unfold h_lt at m ⊢
      rw [bk 152 (by decide), bk 153 (by decide)]; exact m
  · obtain ⟨W1, _, th, _⟩ := hW
    exact th.elim

/-- the outputs of the first node are taken -/
theorem t_takeOutputs (hnw : nw ≤ 1000000) (hX : h_X C0 M0 P F G Hh S U J Im) (hP : ∀ c, 500 ≤ c → c ≤ 573 → V c = P c) (hg : ax_g V) (n0 : 0 ≤ n ∧ n < (M0 222 86)) (en : V 157 13 = n) (h : ∀ W, g_fr [164] V W → ax_g W → (∀ i, 0 ≤ i → i < M0 228 n → W 164 i = V 152 (26 * n + M0 231 (26 * n + i))) → Ψ W) : ax_N (az_W B (az_EP B w nw)) (d + 1) q_Prover_takeOutputs [.ref 157] V Ψ Θ := by
  have hS := hX.hS
  have hN := hS.2.1
  have fl := hS.fl n0.1 n0.2
  have b26 := (f_cn_le M0 n 26).2
  have q1 := fl.2.2.2.1
  have q2 := fl.2.1.2
  have q3 := fl.2.2.1.2
  have q4 := fl.1.2
  refine r_Prover_takeOutputs hnw hg ?_
  refine ax_for (I := fun i X => (0 ≤ i ∧ i ≤ M0 228 n) ∧ g_fr [164] V X ∧ ax_g X ∧ ∀ j, 0 ≤ j → j < i → X 164 j = V 152 (26 * n + M0 231 (26 * n + j))) (K := fun i X => k_Prover_takeOutputs_2 B w nw d i X Ψ Θ) (hi := M0 228 n) (fun i X wi hI nx => ?_) (fun i X wi hI => ?_) 0 V ⟨⟨Int.le_refl _, q2⟩, fun _ _ => rfl, hg, fun j a b => by omega⟩
  · obtain ⟨ib, fX, gX, iX⟩ := hI
    have op := fl.2.2.2.2.2.1 i ib.1 wi
    have e504 : X 504 n = M0 228 n := by rw [fX 504 (by decide), hP 504 (by decide) (by decide), hX.hP 504 (by decide)]; exact fl.2.1.1
    have e507 : X 507 (26 * n + i) = 26 * n + M0 231 (26 * n + i) := by rw [fX 507 (by decide), hP 507 (by decide) (by decide), hX.hP 507 (by decide)]; exact op.1
    refine r_Prover_takeOutputs_2 hnw gX ⟨by omega, by omega⟩ ?_
    rw [fX 157 (by decide), en, e504, show n * 26 + i = 26 * n + i by omega, e507, fX 152 (by decide)]
    have o26 := op.2.1
    refine ⟨⟨n0.1, by omega⟩, fun z => by omega, fun _ => ⟨⟨by omega, by omega⟩, ⟨by omega, by omega⟩, ⟨ib.1, by omega⟩, fun X1 e1 => nx X1 ⟨⟨by omega, by omega⟩, by rw [e1]; exact fX.u (by decide), by rw [e1]; exact ax_u_g gX (hg _ _), fun j j0 j1 => ?_⟩⟩⟩
    by_cases y : j = i
    · rw [y, e1, ax_u_s]
    · rw [e1, ax_u_k y]; exact iX j j0 (by omega)
  · obtain ⟨ib, fX, gX, iX⟩ := hI
    have ei : i = M0 228 n := by omega
    rw [ei] at iX
    have e504 : X 504 n = M0 228 n := by rw [fX 504 (by decide), hP 504 (by decide) (by decide), hX.hP 504 (by decide)]; exact fl.2.1.1
    refine r_Prover_takeOutputs_2 hnw gX ⟨by omega, by omega⟩ ?_
    rw [fX 157 (by decide), en, e504]
    exact ⟨⟨n0.1, by omega⟩, fun _ => h X fX gX iX, fun z => by omega⟩
/-- are the other's outputs the same? -/
theorem t_hasOutputs (hnw : nw ≤ 1000000) (hX : h_X C0 M0 P F G Hh S U J Im) (hP : ∀ c, 500 ≤ c → c ≤ 573 → V c = P c) (hg : ax_g V) (n0 : 0 ≤ n ∧ n < (M0 222 86)) (en : V 157 14 = n) (h1 : (∀ i, 0 ≤ i → i < M0 228 n → V 164 i = V 152 (26 * n + M0 231 (26 * n + i))) → Φ 1 V) (h0 : (¬ ∀ i, 0 ≤ i → i < M0 228 n → V 164 i = V 152 (26 * n + M0 231 (26 * n + i))) → Φ 0 V) : ax_I (az_W B (az_EP B w nw)) (d + 1) q_Prover_hasOutputs [.ref 157] V Φ Θ := by
  have hS := hX.hS
  have hN := hS.2.1
  have fl := hS.fl n0.1 n0.2
  have b26 := (f_cn_le M0 n 26).2
  have q1 := fl.2.2.2.1
  have q2 := fl.2.1.2
  have q3 := fl.2.2.1.2
  have q4 := fl.1.2
  have e504 : V 504 n = M0 228 n := by rw [hP 504 (by decide) (by decide), hX.hP 504 (by decide)]; exact fl.2.1.1
  refine r_Prover_hasOutputs hnw hg ?_
  refine ax_for (I := fun i X => ((0 ≤ i ∧ i ≤ M0 228 n) ∧ ∀ j, 0 ≤ j → j < i → V 164 j = V 152 (26 * n + M0 231 (26 * n + j))) ∧ X = V) (K := fun i X => k_Prover_hasOutputs_2 B w nw d i X Φ Θ) (hi := M0 228 n) (fun i X wi hI nx => ?_) (fun i X wi hI => ?_) 0 V ⟨⟨⟨Int.le_refl _, q2⟩, fun j a b => by omega⟩, rfl⟩
  · obtain ⟨⟨ib, iX⟩, eX⟩ := hI
    have op := fl.2.2.2.2.2.1 i ib.1 wi
    have o26 := op.2.1
    have e507 : V 507 (26 * n + i) = 26 * n + M0 231 (26 * n + i) := by rw [hP 507 (by decide) (by decide), hX.hP 507 (by decide)]; exact op.1
    rw [eX]
    refine r_Prover_hasOutputs_2 hnw hg ⟨by omega, by omega⟩ ?_
    rw [en, e504, show n * 26 + i = 26 * n + i by omega, e507]
    refine ⟨⟨n0.1, by omega⟩, fun z => by omega, fun _ => ⟨⟨ib.1, by omega⟩, ⟨by omega, by omega⟩, ⟨by omega, by omega⟩, fun e => nx V ⟨⟨⟨by omega, by omega⟩, fun j j0 j1 => ?_⟩, rfl⟩, fun e => h0 (fun all => e (all i ib.1 wi))⟩⟩
    by_cases y : j = i
    · rw [y]; exact e
    · exact iX j j0 (by omega)
  · obtain ⟨⟨ib, iX⟩, eX⟩ := hI
    rw [eX]
    refine r_Prover_hasOutputs_2 hnw hg ⟨by omega, by omega⟩ ?_
    rw [en, e504]
    exact ⟨⟨n0.1, by omega⟩, fun _ => h1 (fun j a b => iX j a (by omega)), fun z => by omega⟩
end CProve2
