/-! SETTLING, the model -/
def g_D8 (S : Int → Int) (V V' : ax_V) (D : Int → Prop) : Prop := g_fr [254] V V' ∧ ax_g V' ∧ (∀ q, V' 254 q = V 254 q ∨ V' 254 q = S q) ∧ ∀ x, D x → V' 254 x = S x
/-- q is no whole, and no part above p has it -/
def g_ny (M0 : ax_V) (p q : Int) : Prop := (∀ f, ¬ g_X M0 f q) ∧ ∀ p', p < p' → p' < (M0 222 26) → ¬ e_kid M0 p' q
def g_I8 (M0 : ax_V) (S : Int → Int) (M V : ax_V) (p : Int) : Prop := g_fr [254] M V ∧ ax_g V ∧ ∀ q, 0 ≤ q → q < (M0 222 26) → V 254 q = S q ∨ (V 254 q = -1 ∧ g_ny M0 p q)
section SettleM
variable {d : Nat} {C0 M0 M V V' : ax_V} {S G : Int → Int} {D : Int → Prop} {x v p : Int} {Φ : Int → ax_V → Prop} {Ψ Θ : ax_V → Prop}
theorem g_S.ny (hS : g_S C0 M0) (p0 : 0 ≤ p) (p1 : p < (M0 222 26)) : ¬ g_ny M0 p p := fun h => by
  obtain ⟨f, w, hX, a, b⟩ := hS.Xin p0 p1
  by_cases z : p = w
  · rw [← z] at hX; exact h.1 f hX
  · obtain ⟨n, s, tr, m, fx⟩ := hS.Xx hX
    obtain ⟨p', w1, w2⟩ := hS.Xp hX ⟨a, by omega⟩
    have := fx.1
    exact h.2 p' w1.1 (by omega) w2
theorem s_free8 (h8 : g_D8 S V V' D) (hx : x = -1 ∨ ((0 ≤ x ∧ x < 700) ∧ v = S x ∧ (V 254 x = S x ∨ V 254 x = -1))) (rv : ax_rg v) (h : ∀ V2, g_D8 S V V2 (fun y => D y ∨ (y = x ∧ ¬ x = -1)) → Ψ V2) : ax_N ay_lay (d + 1) q_Model_free [.ref 222, ax_i x, ax_i v] V' Ψ Θ := by
  have rx : ax_rg x := by rcases hx with z | z <;> exact ⟨by omega, by omega⟩
  have bx : ¬ x = -1 → 0 ≤ x ∧ x < 701 := fun z => by rcases hx with y | y <;> omega
  refine r_Model_free h8.2.1 rx rv ⟨fun z => h V' ⟨h8.1, h8.2.1, h8.2.2.1, fun y hy => by rcases hy with hy | hy; exact h8.2.2.2 y hy; exact absurd z hy.2⟩, fun z => ⟨bx z, fun e => ⟨bx z, fun V1 e1 => h V1 ?_⟩, fun e => h V' ⟨h8.1, h8.2.1, h8.2.2.1, fun y hy => ?_⟩⟩⟩
  · have vx : v = S x := by rcases hx with y | y; exact absurd y z; exact y.2.1
    refine ⟨by rw [e1]; exact h8.1.u (by decide), by rw [e1]; exact ax_u_g h8.2.1 rv, fun q => ?_, fun y hy => ?_⟩
    · by_cases y : q = x
      · rw [y, e1, ax_u_s]; exact Or.inr vx
      · rw [e1, ax_u_k y]; exact h8.2.2.1 q
    · by_cases w : y = x
      · rw [w, e1, ax_u_s]; exact vx
      · rw [e1, ax_u_k w]
        rcases hy with hy | hy
        · exact h8.2.2.2 y hy
        · exact absurd hy.1 w
  · rcases hy with hy | hy
    · exact h8.2.2.2 y hy
    · rw [hy.1]
      rcases hx with u | u
      · exact absurd u z
      · rcases h8.2.2.1 x with t | t
        · rcases u.2.2 with s | s
          · rw [t]; exact s
          · rw [t] at e; exact absurd s e
        · exact t
theorem g_D8.rf (hg : ax_g V) : g_D8 S V V (fun _ => False) := ⟨g_fr.rf _ _, hg, fun _ => Or.inl rfl, fun _ z => z.elim⟩
/-- all parts of p are settled -/
theorem g_I8.next (h : g_I8 M0 S M V p) (k : g_D8 S V V' D) (hd : ∀ x, e_kid M0 p x → D x) : g_I8 M0 S M V' (p - 1) := ⟨h.1.tr k.1, k.2.1, fun q a b => by
  rcases k.2.2.1 q with e | e
  · rcases h.2.2 q a b with z | z
    · exact Or.inl (by rw [e]; exact z)
    · by_cases y : e_kid M0 p q
      · exact Or.inl (k.2.2.2 q (hd q y))
      · refine Or.inr ⟨by rw [e]; exact z.1, z.2.1, fun p' c c2 => ?_⟩
        by_cases w : p' = p
        · rw [w]; exact y
        · exact z.2.2 p' (by omega) c2
  · exact Or.inl e⟩
set_option maxHeartbeats 8000000 in
theorem s_settle (hS : g_S C0 M0) (hb : g_MB C0 M0 M) (hT : g_ST M0 G S) (hr : ∀ q, ax_rg (S q)) (hG : ∀ q, 0 ≤ q → q < (M0 222 26) → M 254 q = G q) (h : ∀ V, g_fr [254] M V → ax_g V → (∀ q, 0 ≤ q → q < (M0 222 26) → V 254 q = S q) → Ψ V) : ax_N ay_lay (d + 2) q_Model_settleClocks [.ref 222] M Ψ Θ := by
  obtain ⟨T1, T2, T3, T4⟩ := hT
  have hN := hS.2.1
  have hat := hS.2.2.2.2.2.2.2
  have hct := hS.2.2.2.2.1.1
  have hc1 := hct.1
  have hc2 := hct.2.1
  have hc5 := hct.2.2.2.2.1
  have p0 := hS.2.2.1.1
  have hB := hS.2.2.2.2.1
  have fM : ∀ {W : ax_V}, g_fr [254] M W → ∀ c, c ∉ g_YM → W c = M0 c := fun f c z => by rw [f c (fun y => z (by simp at y; rw [y]; decide))]; exact hb.1 c z
  have gM : ∀ {W : ax_V}, g_fr [254] M W → g_fr g_YM M0 W := fun f => hb.1.tr (f.up (by decide))
  have sc : ∀ {W : ax_V}, g_fr [254] M W → ∀ j, j ∉ g_KM → W 222 j = M0 222 j := fun f j z => by rw [f 222 (by decide)]; exact hb.2.1 j z
  -- the parts, from the last
  have parts : ∀ y2, ax_y y2 → ∀ W, g_I8 M0 S M W ((M0 222 26) - 1) → k_Model_settleClocks_65 (d + 1) ((M0 222 26) - 1) y2 W Ψ Θ := by
    intro y2 hy2 W hW
    refine ax_ford (I := fun p W => (-1 ≤ p ∧ p < (M0 222 26)) ∧ g_I8 M0 S M W p) (K := fun p W => ∀ y2, ax_y y2 → k_Model_settleClocks_65 (d + 1) p y2 W Ψ Θ) (lo := 0) (fun p V w hI next y2 hy2 => ?_) (fun p V w hI y2 hy2 => ?_) ((M0 222 26) - 1) W ⟨⟨by omega, by omega⟩, hW⟩ y2 hy2
    · obtain ⟨hp, hV⟩ := hI
      have rp : ax_rg p := ⟨by omega, by omega⟩
      have b7 : 0 ≤ p ∧ p < 701 := ⟨w, by omega⟩
      have vp : V 254 p = S p := by
        rcases hV.2.2 p w hp.2 with z | z
        · exact z
        · exact absurd z.2 (hS.ny w hp.2)
      have ar := hS.ar w hp.2
      have nd := (hS.pnode w hp.2).1
      have kid : ∀ x, e_kid M0 p x → (0 ≤ x ∧ x < 700) ∧ S x = g_dm M0 (S p) p x ∧ (V 254 x = S x ∨ V 254 x = -1) := fun x k => by
        have xp := ((hS.p w hp.2).2.2.2.2.2.2.2.2.2.2 x k).1
        have x0 := k.1
        refine ⟨⟨x0, by omega⟩, T3 p x w hp.2 k, ?_⟩
        rcases hV.2.2 x x0 (by omega) with z | z
        · exact Or.inl z
        · exact Or.inr z.1
      have go : ∀ V' D, g_D8 S V V' D → (∀ x, e_kid M0 p x → D x) → ∀ y2, ax_y y2 → k_Model_settleClocks_65 (d + 1) (p + -1) y2 V' Ψ Θ := fun V' D k hd => next V' ⟨⟨by omega, by omega⟩, hV.next k hd⟩
      have cell : ∀ {V' D}, g_D8 S V V' D → ∀ c, c ∉ g_YM → V' c = M0 c := fun k c z => fM (hV.1.tr k.1) c z
      refine r_Model_settleClocks_65 hV.2.1 rp hy2 ⟨fun z => by omega, fun _ => ⟨b7, ?_⟩⟩
      rw [fM hV.1 241 (by decide), fM hV.1 250 (by decide), fM hV.1 248 (by decide), fM hV.1 245 (by decide), vp]
      refine ⟨fun o => ⟨b7, b7, b7, ?_⟩, fun o => ⟨b7, fun o2 => ⟨b7, b7, ?_⟩, fun o2 => ⟨b7, fun o3 => ⟨b7, ?_⟩, fun o3 => ⟨b7, b7, ?_⟩⟩⟩⟩
      · -- sampled
        have lt := hS.pl w hp.2 (by omega)
        have ka : e_kid M0 p (M0 245 p) := ⟨by unfold e_ar at ar; omega, Or.inl ⟨by omega, Or.inl rfl⟩⟩
        obtain ⟨u1, u2, u3⟩ := kid _ ka
        have dm : g_dm M0 (S p) p (M0 245 p) = M0 235 (26 * M0 250 p + M0 248 p) := by unfold g_dm; rw [if_pos o]
        refine s_clockOf hS (gM hV.1) hV.2.1 nd.1 nd.2 lt.1 lt.2 (s_free8 (g_D8.rf hV.2.1) (Or.inr ⟨u1, by rw [u2, dm], u3⟩) (by rw [← dm, ← u2]; exact hr _) (fun V2 k2 => go V2 _ k2 (fun x k => Or.inr ⟨?_, by omega⟩) _ hy2))
        have := e_kid_abc k (by omega)
        unfold e_ar at ar
        omega
      · -- merged
        have ka : e_kid M0 p (M0 245 p) := ⟨by unfold e_ar at ar; omega, Or.inl ⟨by omega, Or.inl rfl⟩⟩
        have kb : e_kid M0 p (M0 246 p) := ⟨by unfold e_ar at ar; omega, Or.inl ⟨by omega, Or.inr (Or.inl rfl)⟩⟩
        have kd := hS.kid w hp.2 (by omega)
        have ab : ¬ M0 246 p = M0 245 p := fun z => by
          have e1 := kd.2.2.2.2.1 ka.1
          have e2 := kd.2.2.2.2.2.1 kb.1
          have kb0 := kb.1
          unfold e_ar at ar
          rw [z] at e2
          omega
        obtain ⟨u1, u2, u3⟩ := kid _ ka
        obtain ⟨v1, v2, v3⟩ := kid _ kb
        have dma : g_dm M0 (S p) p (M0 245 p) = 2 * M0 248 p + 1 := by unfold g_dm; rw [if_neg o, if_pos o2, if_pos rfl]
        have dmb : g_dm M0 (S p) p (M0 246 p) = 2 * M0 248 p + 2 := by unfold g_dm; rw [if_neg o, if_pos o2, if_neg ab]
        refine s_free8 (g_D8.rf hV.2.1) (Or.inr ⟨u1, by rw [u2, dma], u3⟩) (by rw [← dma, ← u2]; exact hr _) (fun V2 k2 => ⟨b7, b7, ?_⟩)
        rw [cell k2 246 (by decide), cell k2 248 (by decide)]
        refine s_free8 k2 (Or.inr ⟨v1, by rw [v2, dmb], v3⟩) (by rw [← dmb, ← v2]; exact hr _) (fun V3 k3 => go V3 _ k3 (fun x k => ?_) _ hy2)
        have kx := e_kid_abc k (by omega)
        have va := ka.1
        have vb := kb.1
        rcases kx.2 with z | z | z
        · exact Or.inl (Or.inr ⟨z.symm, by omega⟩)
        · exact Or.inr ⟨z.symm, by omega⟩
        · unfold e_ar at ar; omega
      · -- a call
        obtain ⟨K, K7, KE, KA⟩ := hS.args w hp.2 o3
        have dm : ∀ x, g_dm M0 (S p) p x = S p := fun x => by unfold g_dm; rw [if_neg o, if_neg o2]
        have loop : ∀ (m k : Nat), k ≤ K → K - k ≤ m → ∀ V', g_D8 S V V' (fun x => ∃ j : Nat, j < k ∧ e_arg M0 p j = x) → k_Model_settleClocks_181 (d + 1) p (e_arg M0 p k) V' Ψ Θ := by
          intro m
          induction m with
          | zero =>
            intro k k0 k1 V' hV'
            have ek : k = K := by omega
            rw [ek] at hV' ⊢
            rw [KE]
            refine r_Model_settleClocks_181 hV'.2.1 rp (by decide) ⟨fun _ => go V' _ hV' (fun x hx => ?_) _ (ax_y_i _), fun z => absurd rfl z⟩
            rcases hx.2 with z | ⟨-, j, z⟩
            · exact absurd o3 z.1
            · have hx0 := hx.1
              rcases Nat.lt_or_ge j K with y | y
              · exact ⟨j, y, z⟩
              · exfalso
                have : ∀ i : Nat, e_arg M0 p (K + i) = -1 := by
                  intro i
                  induction i with
                  | zero => exact KE
                  | succ i ih =>
                    show (if e_arg M0 p (K + i) = -1 then -1 else _) = -1
                    rw [if_pos ih]
                have t := this (j - K)
                rw [show K + (j - K) = j by omega] at t
                omega
          | succ m ih =>
            intro k k0 k1 V' hV'
            by_cases ek : k = K
            · exact ih k k0 (by omega) V' hV'
            · obtain ⟨a1, a2, a3, a4⟩ := KA k (by omega)
              have kx : e_kid M0 p (e_arg M0 p k) := ⟨a1.1, Or.inr ⟨o3, k, rfl⟩⟩
              obtain ⟨u1, u2, u3⟩ := kid _ kx
              have vp' : V' 254 p = S p := by
                rcases hV'.2.2.1 p with z | z
                · rw [z]; exact vp
                · exact z
              refine r_Model_settleClocks_181 hV'.2.1 rp ⟨by omega, by omega⟩ ⟨fun z => by omega, fun _ => ⟨b7, ?_⟩⟩
              rw [vp']
              refine s_free8 hV' (Or.inr ⟨u1, by rw [u2, dm], u3⟩) (hr _) (fun V2 k2 => ⟨⟨a1.1, by omega⟩, ?_⟩)
              rw [cell k2 252 (by decide), a3]
              refine ih (k + 1) (by omega) (by omega) V2 ⟨k2.1, k2.2.1, k2.2.2.1, fun x hx => k2.2.2.2 x ?_⟩
              obtain ⟨j, j0, j1⟩ := hx
              by_cases y : j = k
              · rw [y] at j1; exact Or.inr ⟨j1.symm, by omega⟩
              · exact Or.inl ⟨j, by omega, j1⟩
        exact loop K 0 (by omega) (by omega) V ⟨g_fr.rf _ _, hV.2.1, fun _ => Or.inl rfl, fun x hx => by obtain ⟨j, j0, -⟩ := hx; omega⟩
      · -- the others
        have dm : ∀ x, g_dm M0 (S p) p x = S p := fun x => by unfold g_dm; rw [if_neg o, if_neg o2]
        have kd := hS.kid w hp.2 o3
        have ok : ∀ x, (x = M0 245 p ∨ x = M0 246 p ∨ x = M0 247 p) → x = -1 ∨ ((0 ≤ x ∧ x < 700) ∧ S p = S x ∧ (V 254 x = S x ∨ V 254 x = -1)) := fun x hx => by
          by_cases z : x = -1
          · exact Or.inl z
          · have kx : e_kid M0 p x := ⟨by omega, Or.inl ⟨o3, by omega⟩⟩
            obtain ⟨u1, u2, u3⟩ := kid _ kx
            exact Or.inr ⟨u1, by rw [u2, dm], u3⟩
        have vq : ∀ {V' D}, g_D8 S V V' D → V' 254 p = S p := fun k => by
          rcases k.2.2.1 p with z | z
          · rw [z]; exact vp
          · exact z
        refine s_free8 (g_D8.rf hV.2.1) (ok _ (Or.inl rfl)) (hr _) (fun V1 k1 => ⟨b7, b7, ?_⟩)
        rw [cell k1 246 (by decide), vq k1]
        refine s_free8 k1 (ok _ (Or.inr (Or.inl rfl))) (hr _) (fun V2 k2 => ⟨b7, b7, ?_⟩)
        rw [cell k2 247 (by decide), vq k2]
        refine s_free8 k2 (ok _ (Or.inr (Or.inr rfl))) (hr _) (fun V3 k3 => go V3 _ k3 (fun x k => ?_) _ hy2)
        have kx := e_kid_abc k o3
        have x0 := kx.1
        rcases kx.2 with z | z | z
        · exact Or.inl (Or.inl (Or.inr ⟨z.symm, by omega⟩))
        · exact Or.inl (Or.inr ⟨z.symm, by omega⟩)
        · exact Or.inr ⟨z.symm, by omega⟩
    · obtain ⟨hp, hV⟩ := hI
      refine r_Model_settleClocks_65 hV.2.1 ⟨by omega, by omega⟩ hy2 ⟨fun _ => h V hV.1 hV.2.1 (fun q a b => ?_), fun z => by omega⟩
      rcases hV.2.2 q a b with z | z
      · exact z
      · exfalso
        refine hS.ny a b ⟨z.2.1, fun p' c c2 => z.2.2 p' (by omega) c2⟩
  -- the transitions
  have trs : ∀ W, (g_fr [254] M W ∧ ax_g W ∧ ∀ q, 0 ≤ q → q < (M0 222 26) → W 254 q = S q ∨ (W 254 q = -1 ∧ ∀ e, 0 ≤ e → e < (M0 222 44) → ¬ M0 262 e = q)) → k_Model_settleClocks_33 (d + 1) 0 none W Ψ Θ := by
    intro W hW
    refine ax_for (I := fun m V => (0 ≤ m ∧ m ≤ (M0 222 60)) ∧ g_fr [254] M V ∧ ax_g V ∧ ∀ q, 0 ≤ q → q < (M0 222 26) → V 254 q = S q ∨ (V 254 q = -1 ∧ (∀ e, 0 ≤ e → e < (M0 222 44) → ¬ M0 262 e = q) ∧ ∀ m', 0 ≤ m' → m' < m → ¬ M0 277 m' = q)) (K := fun m V => k_Model_settleClocks_33 (d + 1) m none V Ψ Θ) (hi := (M0 222 60)) (fun m V w hI next => ?_) (fun m V w hI => ?_) 0 W ⟨⟨by decide, by omega⟩, hW.1, hW.2.1, fun q a b => ?_⟩
    · obtain ⟨hm, f1, g1, k1⟩ := hI
      have fx := (hB.2.2.2.2.1 m hm.1 w).2.2.2.2.2.2.2.1
      have e0 := T2 m hm.1 w
      have bq := k1 (M0 277 m) (by omega) fx.2.2
      refine r_Model_settleClocks_33 g1 ⟨by omega, by omega⟩ ax_y_n ?_
      rw [sc f1 60 (by decide), fM f1 277 (by decide)]
      refine ⟨fun z => by omega, fun _ => ⟨⟨by omega, by omega⟩, s_free8 (g_D8.rf g1) (Or.inr ⟨⟨by omega, by omega⟩, e0.symm, ?_⟩) (by decide) (fun V2 k2 => next V2 ⟨⟨by omega, by omega⟩, f1.tr k2.1, k2.2.1, fun q a b => ?_⟩)⟩⟩
      · rcases bq with z | z
        · exact Or.inl z
        · exact Or.inr z.1
      · rcases k2.2.2.1 q with e | e
        · rcases k1 q a b with z | z
          · exact Or.inl (by rw [e]; exact z)
          · by_cases y : q = M0 277 m
            · exact Or.inl (k2.2.2.2 q (Or.inr ⟨y, by omega⟩))
            · refine Or.inr ⟨by rw [e]; exact z.1, z.2.1, fun m' c c2 => ?_⟩
              by_cases u : m' = m
              · rw [u]; exact fun t => y t.symm
              · exact z.2.2 m' c (by omega)
        · exact Or.inl e
    · obtain ⟨hm, f1, g1, k1⟩ := hI
      have em : m = (M0 222 60) := by omega
      refine r_Model_settleClocks_33 g1 ⟨by omega, by omega⟩ ax_y_n ?_
      rw [sc f1 60 (by decide), sc f1 26 (by decide)]
      refine ⟨fun _ => parts _ ax_y_n V ⟨f1, g1, fun q a b => ?_⟩, fun z => by omega⟩
      rcases k1 q a b with z | z
      · exact Or.inl z
      · refine Or.inr ⟨z.1, fun f hX => ?_, fun p' c c2 => by omega⟩
        rcases hX with ⟨e, e0, -, e2⟩ | ⟨m', e0, -, e2⟩
        · exact z.2.1 e e0.1 e0.2 e2.symm
        · exact z.2.2 m' e0.1 (by omega) e2.symm
    · rcases hW.2.2 q a b with z | z
      · exact Or.inl z
      · exact Or.inr ⟨z.1, z.2, fun m' c c2 => by omega⟩
  -- the equations
  refine r_Model_settleClocks hb.2.2.1 ?_
  refine ax_for (I := fun e V => (0 ≤ e ∧ e ≤ (M0 222 44)) ∧ g_fr [254] M V ∧ ax_g V ∧ ∀ q, 0 ≤ q → q < (M0 222 26) → V 254 q = S q ∨ (V 254 q = -1 ∧ ∀ e', 0 ≤ e' → e' < e → ¬ M0 262 e' = q)) (K := fun e V => k_Model_settleClocks_2 (d + 1) e none V Ψ Θ) (hi := (M0 222 44)) (fun e V w hI next => ?_) (fun e V w hI => ?_) 0 M ⟨⟨by decide, by omega⟩, g_fr.rf _ _, hb.2.2.1, fun q a b => ?_⟩
  · obtain ⟨he, f1, g1, k1⟩ := hI
    have fe := hB.2.1 e he.1 w
    have fx := fe.2.2.2.2.2.1.1
    have fe3 := fe.2.2.1
    have nd := hS.node he.1 w
    have lf := (fe.2.2.2.2.2.2 (M0 259 e) (by omega) (by omega)).2.1
    have e0 := T1 e he.1 w
    have bq := k1 (M0 262 e) (by omega) fx.2.2
    have be : 0 ≤ e ∧ e < 351 := ⟨by omega, by omega⟩
    have ck := hS.ck nd.1 nd.2.1 lf.1 lf.2
    have rest : ∀ v, v = S (M0 262 e) → ax_rg v → ax_N ay_lay (d + 1) q_Model_free [.ref 222, ax_i (M0 262 e), ax_i v] V (fun V2 => k_Model_settleClocks_2 (d + 1) (e + 1) none V2 Ψ Θ) Θ := by
      intro v hv rv
      refine s_free8 (g_D8.rf g1) (Or.inr ⟨⟨by omega, by omega⟩, hv, ?_⟩) rv (fun V2 k2 => next V2 ⟨⟨by omega, by omega⟩, f1.tr k2.1, k2.2.1, fun q a b => ?_⟩)
      · rcases bq with z | z
        · exact Or.inl z
        · exact Or.inr z.1
      · rcases k2.2.2.1 q with e1 | e1
        · rcases k1 q a b with z | z
          · exact Or.inl (by rw [e1]; exact z)
          · by_cases y : q = M0 262 e
            · exact Or.inl (k2.2.2.2 q (Or.inr ⟨y, by omega⟩))
            · refine Or.inr ⟨by rw [e1]; exact z.1, fun m' c c2 => ?_⟩
              by_cases u : m' = e
              · rw [u]; exact fun t => y t.symm
              · exact z.2 m' c (by omega)
        · exact Or.inl e1
    refine r_Model_settleClocks_2 g1 ⟨by omega, by omega⟩ ax_y_n ?_
    rw [sc f1 44 (by decide), fM f1 262 (by decide)]
    refine ⟨fun z => by omega, fun _ => ⟨be, r_Model_eqClock g1 ⟨by omega, by omega⟩ ⟨be, ?_⟩⟩⟩
    rw [fM f1 263 (by decide), fM f1 259 (by decide), fM f1 258 (by decide), fM f1 265 (by decide), fM f1 235 (by decide)]
    unfold g_ec at e0
    refine ⟨fun z => ⟨be, be, ⟨by omega, by omega⟩, ⟨by omega, by omega⟩, ?_⟩, fun z => ?_⟩
    · rw [if_pos z] at e0
      exact rest _ e0.symm ⟨by omega, by omega⟩
    · rw [if_neg z] at e0
      exact rest _ e0.symm (by decide)
  · obtain ⟨he, f1, g1, k1⟩ := hI
    have ee : e = (M0 222 44) := by omega
    refine r_Model_settleClocks_2 g1 ⟨by omega, by omega⟩ ax_y_n ?_
    rw [sc f1 44 (by decide)]
    refine ⟨fun _ => trs V ⟨f1, g1, fun q a b => ?_⟩, fun z => by omega⟩
    rw [ee] at k1
    exact k1 q a b
  · rw [hG q a b]
    by_cases z : G q = -1
    · exact Or.inr ⟨z, fun e' c c2 => by omega⟩
    · exact Or.inl (T4 q a b z).symm
end SettleM
