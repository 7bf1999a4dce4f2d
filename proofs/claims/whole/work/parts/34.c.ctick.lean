/-! FRAMES BETWEEN SHAPES of the class; tick -/
def ax_idn (s : ax_S) : Option Nat := match s with
  | .inl _ => none
  | .inr (id, _) => some id
theorem az_P_id (B : Nat) : (az_P B).map ax_idn = (List.range 74).map (fun k => some (500 + k)) := rfl
theorem ax_rn_i {σ : Nat → Option Nat} {V : ax_V} {id id' : Nat} {x : (Nat × Nat) ⊕ (Nat × List (Option Value))} (h : σ id = some id') : ax_rn σ V (.inr (id, x)) = .inr (id', x) := by
  show (match σ id with | some id' => (.inr (id', x) : ax_S) | none => .inl (ax_c V (.inr (id, x)))) = .inr (id', x)
  rw [h]
theorem ax_rn_o {σ : Nat → Option Nat} {V : ax_V} {s : ax_S} {id : Nat} {x : (Nat × Nat) ⊕ (Nat × List (Option Value))} (h : ax_rn σ V s = .inr (id, x)) : ∃ id0, s = .inr (id0, x) ∧ σ id0 = some id := by
  rcases s with e | ⟨id0, y⟩
  · exact absurd h (by intro z; cases z)
  · cases hs : σ id0 with
    | some id' =>
      rw [ax_rn_i hs] at h
      cases h
      exact ⟨id0, rfl, hs⟩
    | none =>
      have e : ax_rn σ V (.inr (id0, y)) = .inl (ax_c V (.inr (id0, y))) := by
        show (match σ id0 with | some id' => (.inr (id', y) : ax_S) | none => .inl (ax_c V (.inr (id0, y)))) = _
        rw [hs]
      rw [e] at h
      cases h
theorem az_P_e {B k : Nat} {e : ax_S} (h : (az_P B)[k]? = some e) : k < 74 ∧ ∃ x, e = .inr (500 + k, x) := by
  have lt : k < 74 := (List.getElem?_eq_some_iff.mp h).1
  have u : ((az_P B).map ax_idn)[k]? = ((List.range 74).map (fun k => some (500 + k)))[k]? := by rw [az_P_id]
  rw [List.getElem?_map, h, List.getElem?_map, List.getElem?_range lt] at u
  refine ⟨lt, ?_⟩
  rcases e with e | ⟨id, x⟩
  · cases u
  · have v : id = 500 + k := by
      have w : some (some id) = some (some (500 + k)) := u
      cases w
      rfl
    exact ⟨x, by rw [v]⟩
theorem az_W_map {B : Nat} {E E' : List (Nat × ax_S)} {σ : Nat → Option Nat} {V : ax_V} (inj : ∀ c c' k, σ c = some k → σ c' = some k → c = c') (hp : ∀ k, k < 74 → σ (500 + k) = some (500 + k)) (hE : ∀ (i : Nat) (q' : Nat × ax_S), E'[i]? = some q' → ∃ (j : Nat) (q : Nat × ax_S), E[j]? = some q ∧ q.1 = q'.1 ∧ ax_rn σ V q.2 = q'.2) (ss : List ax_S) (h : az_W B E ss) : az_W B E' (ss.map (ax_rn σ V)) := by
  refine ⟨fun a b id x y ha hb => ?_, fun k e he => ?_, fun i q' hq => ?_⟩
  · rw [List.getElem?_map] at ha hb
    cases h1 : ss[a]? with
    | none => rw [h1] at ha; cases ha
    | some s1 =>
      cases h2 : ss[b]? with
      | none => rw [h2] at hb; cases hb
      | some s2 =>
        rw [h1] at ha
        rw [h2] at hb
        have ha' : ax_rn σ V s1 = .inr (id, x) := Option.some.inj ha
        have hb' : ax_rn σ V s2 = .inr (id, y) := Option.some.inj hb
        obtain ⟨i1, e1, z1⟩ := ax_rn_o ha'
        obtain ⟨i2, e2, z2⟩ := ax_rn_o hb'
        have ii := inj i1 i2 id z1 z2
        rw [e1] at h1
        rw [e2, ← ii] at h2
        exact h.1 a b i1 x y h1 h2
  · obtain ⟨lt, x, ex⟩ := az_P_e he
    rw [List.getElem?_map, h.2.1 k e he, ex]
    show some (ax_rn σ V (.inr (500 + k, x))) = _
    rw [ax_rn_i (hp k lt)]
  · obtain ⟨j, q, hj, e1, e2⟩ := hE i q' hq
    rw [List.getElem?_map, ← e1, h.2.2 j q hj]
    show some (ax_rn σ V q.2) = _
    rw [e2]
theorem az_W_sub {B : Nat} {E E' : List (Nat × ax_S)} (hE : ∀ (i : Nat) (q : Nat × ax_S), E'[i]? = some q → ∃ j : Nat, E[j]? = some q) (ss : List ax_S) (h : az_W B E ss) : az_W B E' ss := ⟨h.1, h.2.1, fun i q hi => by
  obtain ⟨j, hj⟩ := hE i q hi
  exact h.2.2 j q hj⟩
/-- which numbers goes knows, called for an instance -/
def sg_g (c : Nat) : Option Nat := if (150 ≤ c ∧ c ≤ 155) ∨ (500 ≤ c ∧ c ≤ 573) then some c else if c = 801 then some 610 else if c = 802 then some 611 else none
theorem sg_g_k {c : Nat} (h : (150 ≤ c ∧ c ≤ 155) ∨ (500 ≤ c ∧ c ≤ 573)) : sg_g c = some c := if_pos h
theorem sg_g_i (c : Nat) : (sg_g c = some c ∧ ((150 ≤ c ∧ c ≤ 155) ∨ (500 ≤ c ∧ c ≤ 573))) ∨ (c = 801 ∧ sg_g c = some 610) ∨ (c = 802 ∧ sg_g c = some 611) ∨ sg_g c = none := by
  by_cases z : (150 ≤ c ∧ c ≤ 155) ∨ (500 ≤ c ∧ c ≤ 573)
  · exact Or.inl ⟨if_pos z, z⟩
  · by_cases z1 : c = 801
    · exact Or.inr (Or.inl ⟨z1, by unfold sg_g; rw [if_neg z, if_pos z1]⟩)
    · by_cases z2 : c = 802
      · exact Or.inr (Or.inr (Or.inl ⟨z2, by unfold sg_g; rw [if_neg z, if_neg z1, if_pos z2]⟩))
      · exact Or.inr (Or.inr (Or.inr (by unfold sg_g; rw [if_neg z, if_neg z1, if_neg z2])))
theorem sg_g_o {c k : Nat} (h : sg_g c = some k) : (k = c ∧ ((150 ≤ c ∧ c ≤ 155) ∨ (500 ≤ c ∧ c ≤ 573))) ∨ (c = 801 ∧ k = 610) ∨ (c = 802 ∧ k = 611) := by
  rcases sg_g_i c with ⟨a, r⟩ | ⟨a, a'⟩ | ⟨a, a'⟩ | a
  · rw [a] at h; exact Or.inl ⟨(Option.some.inj h).symm, r⟩
  · rw [a'] at h; exact Or.inr (Or.inl ⟨a, (Option.some.inj h).symm⟩)
  · rw [a'] at h; exact Or.inr (Or.inr ⟨a, (Option.some.inj h).symm⟩)
  · rw [a] at h; cases h
section CTick
variable {B q d : Nat} {Sp : az_H} {Jx : Int} {C0 M0 P V W : ax_V} {F G Hh S U J Im : Int → Int} {n x : Int} {R : h_R} {Φ : Int → ax_V → Prop} {Ψ Θ : ax_V → Prop}
theorem az_EH_N (ss : List ax_S) (h : az_W B (az_EH B Sp q Jx) ss) : az_W B (az_EN B (q + 1) 26 (q + 2) 300) (ss.map (ax_rn sg_g V)) := by
  refine az_W_map (fun c c' k h1 h2 => ?_) (fun k hk => sg_g_k (Or.inr ⟨by omega, by omega⟩)) (fun i q' hi => ?_) ss h
  · have e1 := sg_g_o h1
    have e2 := sg_g_o h2
    omega
  · match i, hi with
    | 0, hi => cases hi; exact ⟨2, _, rfl, rfl, ax_rn_i (sg_g_k (by decide))⟩
    | 1, hi => cases hi; exact ⟨3, _, rfl, rfl, ax_rn_i (sg_g_k (by decide))⟩
    | 2, hi => cases hi; exact ⟨4, _, rfl, rfl, ax_rn_i (sg_g_k (by decide))⟩
    | 3, hi => cases hi; exact ⟨5, _, rfl, rfl, ax_rn_i (sg_g_k (by decide))⟩
    | 4, hi => cases hi; exact ⟨6, _, rfl, rfl, ax_rn_i (sg_g_k (by decide))⟩
    | 5, hi => cases hi; exact ⟨7, _, rfl, rfl, ax_rn_i (sg_g_k (by decide))⟩
    | 6, hi => cases hi; exact ⟨9, _, rfl, rfl, ax_rn_i rfl⟩
    | 7, hi => cases hi; exact ⟨10, _, rfl, rfl, ax_rn_i rfl⟩
    | k + 8, hi => exact absurd hi (by show ¬ (none = some q'); intro z; cases z)
theorem az_EH_I (ss : List ax_S) (h : az_W B (az_EH B Sp q Jx) ss) : az_W B (az_EI B q) ss := by
  refine az_W_sub (fun i q' hi => ?_) ss h
  match i, hi with
  | 0, hi => exact ⟨2, hi⟩
  | 1, hi => exact ⟨3, hi⟩
  | 2, hi => exact ⟨4, hi⟩
  | 3, hi => exact ⟨5, hi⟩
  | 4, hi => exact ⟨6, hi⟩
  | 5, hi => exact ⟨7, hi⟩
  | 6, hi => exact ⟨8, hi⟩
  | 7, hi => exact ⟨9, hi⟩
  | 8, hi => exact ⟨10, hi⟩
  | 9, hi => exact ⟨11, hi⟩
  | 10, hi => exact ⟨12, hi⟩
  | 11, hi => exact ⟨13, hi⟩
  | 12, hi => exact ⟨14, hi⟩
  | k + 13, hi => exact absurd hi (by show ¬ (none = some q'); intro z; cases z)
set_option maxHeartbeats 1000000 in
theorem t_goesH (hX : h_X C0 M0 P F G Hh S U J Im) (hn : h_N M0 U J n) (hP : ∀ c, 500 ≤ c → c ≤ 573 → V c = P c) (hg : ax_g V) (hR : h_TK C0 M0 U S Im 8 n R) (hm : h_MS C0 M0 U F 8 n (R [] 5)) (pairs : ∀ i j, g_PP C0 M0 U 8 n i j → V 802 i = R [] 5 j) (inp : ∀ i, 0 ≤ i → i < M0 227 n → V 801 i = R [] 1 (M0 230 (26 * n + i)) ∧ (M0 233 (26 * n + M0 230 (26 * n + i)) = 1 → R [] 1 (M0 230 (26 * n + i)) = 0 ∨ R [] 1 (M0 230 (26 * n + i)) = 1))
    (h : ∀ r W, h_TG C0 M0 U F n V W R r → Φ r W) : ax_I (az_W B (az_EH B Sp q Jx)) (d + 26) q_Machine_goes [.ref 150, ax_i n, .ref (q + 1), .ref (q + 2), ax_i 0] V Φ Θ := by
  obtain ⟨V1, eV⟩ : ∃ V1 : ax_V, V1 = fun c => if c = 610 then V 801 else if c = 611 then V 802 else V c := ⟨_, rfl⟩
  have v0 : ∀ c, ¬ c = 610 → ¬ c = 611 → V1 c = V c := fun c z1 z2 => by rw [eV]; show (if c = 610 then V 801 else if c = 611 then V 802 else V c) = V c; rw [if_neg z1, if_neg z2]
  have v10 : V1 610 = V 801 := by rw [eV]; rfl
  have v11 : V1 611 = V 802 := by rw [eV]; rfl
  have g1 : ax_g V1 := fun c i => by
    by_cases z1 : c = 610
    · rw [z1, v10]; exact hg _ _
    · by_cases z2 : c = 611
      · rw [z2, v11]; exact hg _ _
      · rw [v0 c z1 z2]; exact hg _ _
  have ff := hX.hS.fl hn.1.1 hn.1.2
  have i26 : M0 227 n ≤ 26 := by
    have b26 := (f_cn_le M0 n 26).2
    have s1 := ff.2.2.2.1
    have s2 := ff.2.1.2
    have s3 := ff.2.2.1.2
    omega
  have u3 := hn.2.1
  have t := t_goes (B := B) (a := q + 1) (na := 26) (b := q + 2) (nb := 300) (d := d) (f := 0) (V := V1) (Θ := fun _ => False) (Φ := fun r W1 => h_TG C0 M0 U F n V1 W1 R r) hX hn (by decide) (by decide) (fun c a b => by rw [v0 c (by omega) (by omega)]; exact hP c a b) g1 (by omega) ⟨Int.le_refl _, by omega⟩ hR hm (fun i j pp => by rw [v11, Int.zero_add]; exact pairs i j pp) (fun i i0 i1 => by rw [v10]; exact inp i i0 i1) (fun r W1 z => z)
  have hV : ∀ c c', sg_g c = some c' → V1 c' = V c := fun c c' z => by
    rcases sg_g_i c with ⟨a, r⟩ | ⟨a, a'⟩ | ⟨a, a'⟩ | a
    · rw [a] at z; cases z; exact v0 c (by omega) (by omega)
    · rw [a'] at z; cases z; rw [a]; exact v10
    · rw [a'] at z; cases z; rw [a]; exact v11
    · rw [a] at z; cases z
  have fr := ax_T.frame (lay2 := az_W B (az_EH B Sp q Jx)) sg_g hg hV (fun ss hs => az_EH_N ss hs) t
  refine ax_T.mono fr (Nat.le_refl _) (fun r W gW hW => ?_) (fun W _ hW => ?_)
  · obtain ⟨W1, gW1, ⟨y, ey, ry, tg⟩, eW⟩ := hW
    refine ⟨y, ey, ry, h y W ?_⟩
    have bk : ∀ c, ((150 ≤ c ∧ c ≤ 155) ∨ (500 ≤ c ∧ c ≤ 573)) → W c = W1 c := fun c hc => by
      rw [eW]
      show (match sg_g c with | some c' => W1 c' | none => V c) = W1 c
      rw [sg_g_k hc]
    have ot : ∀ c, ¬ ((150 ≤ c ∧ c ≤ 155) ∨ (500 ≤ c ∧ c ≤ 573)) → W c = V c := fun c hc => by
      rw [eW]
      show (match sg_g c with | some c' => W1 c' | none => V c) = V c
      rcases sg_g_i c with ⟨a, r⟩ | ⟨a, a'⟩ | ⟨a, a'⟩ | a
      · exact absurd r hc
      · rw [a', a]; show W1 610 = V 801; rw [tg.1.1 610 (by decide), v10]
      · rw [a', a]; show W1 611 = V 802; rw [tg.1.1 611 (by decide), v11]
      · rw [a]
    obtain ⟨⟨t1, t2, t3⟩, t4, t5, t6, t7, t8⟩ := tg
    refine ⟨⟨fun c z => ?_, fun f z => ?_, gW⟩, fun i j pp => by rw [bk 155 (by decide)]; exact t4 i j pp, t5, fun y y0 y1 k0 => ?_, fun i i0 i1 => by rw [bk 152 (by decide)]; exact t7 i i0 i1, by rw [bk 150 (by decide)]; exact t8⟩
    · by_cases hc : (150 ≤ c ∧ c ≤ 155) ∨ (500 ≤ c ∧ c ≤ 573)
      · rw [bk c hc, t1 c z]; exact v0 c (by omega) (by omega)
      · exact ot c hc
    · rw [bk 150 (by decide), t2 f z, v0 150 (by decide) (by decide)]
    · have m := t6 y y0 y1 k0
      unfold h_lt at m ⊢
      rw [bk 152 (by decide), bk 153 (by decide)]; exact m
  · obtain ⟨W1, _, th, _⟩ := hW
    exact th.elim
set_option maxHeartbeats 1000000 in
/-- what a tick gave is taken over -/
theorem t_takeOver {u : Int} (hg : ax_g V) (n0 : 0 ≤ n ∧ n < 8) (hn : V 800 0 = n) (hu : 0 ≤ u ∧ u ≤ 300) (tk : ax_rg (V 800 1 + 1))
    (h : ∀ W, g_fr [800, 802, 803, 804] V W → ax_g W → W 800 0 = n → W 800 1 = V 800 1 + 1 → W 800 2 = 1 → (∀ i, 0 ≤ i → i < u → W 802 i = V 155 i) → (∀ k, 0 ≤ k → k < 26 → W 803 k = V 152 (26 * n + k) ∧ ((¬ V 533 (26 * n + k) = -1 ∧ ¬ V 153 (26 * n + k) = 0) → W 804 k = 1) ∧ (¬ (¬ V 533 (26 * n + k) = -1 ∧ ¬ V 153 (26 * n + k) = 0) → W 804 k = 0)) → Ψ W) : ax_N (az_W B (az_EI B q)) (d + 1) q_Instance_takeOver [.ref q, .ref 150, ax_i u] V Ψ Θ := by
  refine r_Instance_takeOver hg ⟨by omega, by omega⟩ ⟨⟨Int.le_refl _, Int.le_refl _, hu.1, by omega, by omega⟩, fun V1 e1 => ?_⟩
  have k1 : ∀ c, ¬ c = 802 → V1 c = V c := fun c z => by rw [e1]; exact ax_cp_ne z
  have g1 : ax_g V1 := by rw [e1]; exact ax_cp_g hg
  refine ax_for (I := fun k X => (0 ≤ k ∧ k ≤ 26) ∧ g_fr [803, 804] V1 X ∧ ax_g X ∧ ∀ k', 0 ≤ k' → k' < k → X 803 k' = V 152 (26 * n + k') ∧ ((¬ V 533 (26 * n + k') = -1 ∧ ¬ V 153 (26 * n + k') = 0) → X 804 k' = 1) ∧ (¬ (¬ V 533 (26 * n + k') = -1 ∧ ¬ V 153 (26 * n + k') = 0) → X 804 k' = 0)) (K := fun k X => ∀ y4 y5, ax_y y4 → ax_y y5 → k_Instance_takeOver_16 B q d (some (ax_i u)) k y4 y5 X Ψ Θ) (hi := 26) (fun k X w hI nx y4 y5 hy4 hy5 => ?_) (fun k X w hI y4 y5 hy4 hy5 => ?_) 0 V1 ⟨⟨Int.le_refl _, by decide⟩, fun _ _ => rfl, g1, fun k' a b => by omega⟩ none none ax_y_n ax_y_n
  · obtain ⟨kb, fX, gX, iX⟩ := hI
    have x8 : X 800 0 = n := by rw [fX 800 (by decide), k1 800 (by decide)]; exact hn
    have x5 : X 533 = V 533 := by rw [fX 533 (by decide), k1 533 (by decide)]
    have x3 : X 153 = V 153 := by rw [fX 153 (by decide), k1 153 (by decide)]
    have x2 : X 152 = V 152 := by rw [fX 152 (by decide), k1 152 (by decide)]
    have bs : 0 ≤ 26 * n + k ∧ 26 * n + k < 208 := ⟨by omega, by omega⟩
    have bk : 0 ≤ k ∧ k < 26 := ⟨kb.1, w⟩
    refine r_Instance_takeOver_16 gX (ax_y_i _) ⟨by omega, by omega⟩ hy4 hy5 ?_
    rw [x8, show n * 26 + k = 26 * n + k by omega, x5]
    have go : ∀ (v : Int) (X2 : ax_V), (v = 0 ∨ v = 1) → ((¬ V 533 (26 * n + k) = -1 ∧ ¬ V 153 (26 * n + k) = 0) ↔ v = 1) → X2 = ax_u (ax_u X 804 k v) 803 k (V 152 (26 * n + k)) → ∀ y4 y5, ax_y y4 → ax_y y5 → k_Instance_takeOver_16 B q d (some (ax_i u)) (k + 1) y4 y5 X2 Ψ Θ := fun v X2 hv hc e2 y4 y5 h4 h5 => by
      refine nx X2 ⟨⟨by omega, by omega⟩, by rw [e2]; exact (fX.u (by decide)).u (by decide), by rw [e2]; exact ax_u_g (ax_u_g gX ⟨by omega, by omega⟩) (hg _ _), fun k' a b => ?_⟩ y4 y5 h4 h5
      by_cases y : k' = k
      · rw [y, e2, ax_u_s, ax_u_ne (by decide), ax_u_s, hc]
        exact ⟨rfl, fun z => z, fun z => by omega⟩
      · rw [e2, ax_u_k y, ax_u_ne (by decide), ax_u_ne (by decide), ax_u_k y]
        exact iX k' a (by omega)
    refine ⟨fun z => by omega, fun _ => ⟨bs, fun tl => ?_, fun tl => ?_⟩⟩
    · refine r_Instance_takeOver_52 gX (ax_y_i _) ⟨by omega, by omega⟩ ⟨by omega, by omega⟩ hy5 (by decide) ⟨fun _ => ⟨bk, fun X1 e1' => ⟨bs, bk, fun X2 e2 => go 0 X2 (Or.inl rfl) ⟨fun z => absurd tl z.1, fun z => absurd z (by decide)⟩ (by rw [e2, e1', ax_u_ne (by decide), x2]) _ _ (ax_y_i _) (ax_y_i _)⟩⟩, fun z => absurd rfl z⟩
    · refine r_Instance_takeOver_52 gX (ax_y_i _) ⟨by omega, by omega⟩ ⟨by omega, by omega⟩ hy5 (by decide) ⟨fun z => absurd z (by decide), fun _ => ⟨bs, ?_⟩⟩
      rw [x3]
      refine ⟨fun on => ⟨bk, fun X1 e1' => ⟨bs, bk, fun X2 e2 => go 0 X2 (Or.inl rfl) ⟨fun z => absurd on z.2, fun z => absurd z (by decide)⟩ (by rw [e2, e1', ax_u_ne (by decide), x2]) _ _ (ax_y_i _) (ax_y_i _)⟩⟩, fun on => ⟨bk, fun X1 e1' => ⟨bs, bk, fun X2 e2 => go 1 X2 (Or.inr rfl) ⟨fun _ => rfl, fun _ => ⟨tl, on⟩⟩ (by rw [e2, e1', ax_u_ne (by decide), x2]) _ _ (ax_y_i _) (ax_y_i _)⟩⟩⟩
  · obtain ⟨kb, fX, gX, iX⟩ := hI
    have ek : k = 26 := by omega
    rw [ek] at iX
    have x8 : ∀ f, X 800 f = V 800 f := fun f => by rw [fX 800 (by decide), k1 800 (by decide)]
    refine r_Instance_takeOver_16 gX (ax_y_i _) ⟨by omega, by omega⟩ hy4 hy5 ⟨fun _ X1 e1' => ?_, fun z => by omega⟩
    have c1 : X1 800 1 = V 800 1 := by rw [e1', ax_u_k (by decide)]; exact x8 1
    rw [c1]
    refine ⟨tk, fun X2 e2 => ?_⟩
    have kx : ∀ c, ¬ c = 800 → X2 c = X c := fun c z => by rw [e2, ax_u_ne z, e1', ax_u_ne z]
    refine h X2 (fun c z => ?_) (by rw [e2, e1']; exact ax_u_g (ax_u_g gX (by decide)) tk) ?_ ?_ ?_ (fun i i0 i1 => ?_) (fun k' a b => ?_)
    · simp only [List.mem_cons, List.not_mem_nil, or_false, not_or] at z
      rw [kx c z.1, fX c (by simp; exact ⟨z.2.2.1, z.2.2.2⟩), k1 c z.2.1]
    · rw [e2, ax_u_k (by decide), e1', ax_u_k (by decide), x8 0]; exact hn
    · rw [e2, ax_u_s]
    · rw [e2, ax_u_k (by decide), e1', ax_u_s]
    · rw [kx 802 (by decide), fX 802 (by decide), e1, ax_cp_i ⟨i0, by omega⟩, Int.zero_add, Int.sub_zero]
    · rw [kx 803 (by decide), kx 804 (by decide)]
      exact iX k' a b
set_option maxHeartbeats 1000000 in
/-- tick -/
theorem t_tickH (hX : h_X C0 M0 P F G Hh S U J Im) (hn : h_N M0 U J n) (hP : ∀ c, 500 ≤ c → c ≤ 573 → V c = P c) (hg : ax_g V) (hx : 0 ≤ x ∧ x < V 0 8) (hx8 : x < 8) (ex : x = Jx) (en : V 800 0 = n) (hR : h_TK C0 M0 U S Im 8 n R) (r4 : 0 ≤ R [] 4 0) (hm : h_MS C0 M0 U F 8 n (R [] 5)) (pairs : ∀ i j, g_PP C0 M0 U 8 n i j → V 802 i = R [] 5 j) (inp : ∀ i, 0 ≤ i → i < M0 227 n → V 801 i = R [] 1 (M0 230 (26 * n + i)) ∧ (M0 233 (26 * n + M0 230 (26 * n + i)) = 1 → R [] 1 (M0 230 (26 * n + i)) = 0 ∨ R [] 1 (M0 230 (26 * n + i)) = 1)) (tk : ax_rg (V 800 1 + 1))
    (h0 : ∀ W, g_fr [150, 151, 152, 153, 154, 155] V W → (∀ f, ¬ f = 10 → W 150 f = V 150 f) → ax_g W → R [] 4 0 < 700 → Φ (1 + R [] 4 0) W)
    (h1 : ∀ W, g_fr [150, 151, 152, 153, 154, 155, 800, 802, 803, 804] V W → (∀ f, ¬ f = 10 → W 150 f = V 150 f) → ax_g W → 700 ≤ R [] 4 0 → h_MS C0 M0 U F 8 n (R [] 6) → W 800 0 = n → W 800 1 = V 800 1 + 1 → W 800 2 = 1 → (∀ i j, g_PP C0 M0 U 8 n i j → W 802 i = R [] 6 j) → (∀ y, 0 ≤ y → y < 26 → (¬ M0 232 (26 * n + y) = 0 → W 804 y = R [] 2 y ∧ (¬ R [] 2 y = 0 → W 803 y = R [] 1 y)) ∧ (M0 232 (26 * n + y) = 0 → W 804 y = 0)) → (∀ i, 0 ≤ i → i < M0 228 n → W 803 (M0 231 (26 * n + i)) = R [] 1 (M0 231 (26 * n + i))) → Φ 0 W) : ax_I (az_W B (az_EH B Sp q Jx)) (d + 27) q_House_tick [.ref 0, ax_i x] V Φ Θ := by
  have hS := hX.hS
  have hN := hS.2.1
  have nn := hn.1
  have tt := hX.t hn
  have u3 := hn.2.1
  have ub := (hX.UJ.1 n).1
  have rx : ax_rg x := ⟨by omega, by omega⟩
  have bx : 0 ≤ x ∧ x < 8 := ⟨hx.1, hx8⟩
  have n8 : 0 ≤ n ∧ n < 8 := ⟨nn.1, by omega⟩
  refine r_House_tick (d := d + 26) hg rx (r_House_isMade (d := d + 25) hg rx ⟨fun z => by omega, fun _ => ⟨fun z => by omega, fun _ => ⟨fun z => absurd z (by decide), fun _ => ⟨ex, bx, ?_⟩⟩⟩⟩)
  rw [en]
  refine t_goesH (d := d) hX hn hP hg hR hm pairs inp (fun r W tg => ?_)
  obtain ⟨⟨t1, t2, t3⟩, t4, t5, t6, t7, t8⟩ := tg
  rcases t8 with ⟨er, no⟩ | ⟨er, fl, ef⟩
  · rw [er]
    refine ⟨fun z => absurd z (by decide), fun _ => ?_⟩
    have w8 : W 800 = V 800 := t1 800 (by decide)
    have hPW : ∀ c, 500 ≤ c → c ≤ 573 → W c = P c := fun c a b => by rw [t1 c (by simp; omega)]; exact hP c a b
    have u514 : W 514 n = U n := by rw [hPW 514 (by decide) (by decide)]; exact hX.u hn
    rw [w8, en, u514]
    refine ⟨n8, ax_N.lay az_EH_I (Nat.le_refl _) (t_takeOver (d := d + 25) t3 n8 (by rw [w8]; exact en) ⟨ub.1, u3⟩ (by rw [w8]; exact tk) (fun W2 f2 g2 a0 a1 a2 a3 a4 => ?_))⟩
    have told : ∀ y, 0 ≤ y → y < 26 → (W 533 (26 * n + y) = -1 ↔ M0 232 (26 * n + y) = 0) := fun y y0 y1 => by
      have fl := hS.l nn.1 nn.2 y0 y1
      rw [hPW 533 (by decide) (by decide), hX.hP 533 (by decide)]
      constructor
      · intro z
        by_cases k0 : M0 232 (26 * n + y) = 0
        · exact k0
        · have tl := fl.2.2.1 k0
          have t2 := tl.2.1
          unfold e_pl at t2
          have t1 : C0 533 (26 * n + y) = M0 234 (26 * n + y) := tl.1
          omega
      · exact fun z => (fl.2.1 z).1
    refine h1 W2 (fun c z => ?_) (fun f z => ?_) g2 no t5 a0 (by rw [a1, w8]) a2 (fun i j pp => ?_) (fun y y0 y1 => ⟨fun k0 => ?_, fun k0 => ?_⟩) (fun i i0 i1 => ?_)
    · simp only [List.mem_cons, List.not_mem_nil, or_false, not_or] at z
      rw [f2 c (by simp; omega), t1 c (by simp; omega)]
    · rw [f2 150 (by decide)]; exact t2 f z
    · have bb := hX.UJ.pb hS hX.ok 8 _ tt.1 i j pp
      rw [a3 i bb.1.1 (by omega)]; exact t4 i j pp
    · have m := t6 y y0 y1 k0
      have a := a4 y y0 y1
      have pr := (hX.pr hn hR hm y0 y1 k0).2
      refine ⟨?_, fun z => by rw [a.1]; exact (m.2 z).1⟩
      by_cases z : R [] 2 y = 0
      · rw [a.2.2 (fun w => w.2 (by rw [m.1]; exact z)), z]
      · rw [a.2.1 ⟨fun w => k0 ((told y y0 y1).mp w), fun w => z (by rw [← m.1]; exact w)⟩]
        omega
    · exact (a4 y y0 y1).2.2 (fun w => w.1 ((told y y0 y1).mpr k0))
    · have fo := ((hS.fl nn.1 nn.2).2.2.2.2.2.1 i i0 i1).2.1
      rw [(a4 _ fo.1 fo.2).1]; exact (t7 i i0 i1).1
  · rw [er, ef]
    refine ⟨fun _ => ⟨⟨by omega, by omega⟩, h0 W t1 t2 t3 fl⟩, fun z => absurd rfl z⟩
end CTick
