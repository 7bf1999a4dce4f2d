/-! SETTLING, the class -/
abbrev g_XP : List Nat := [600, 601, 602, 528, 529, 530, 541, 542, 543, 544, 545, 552, 561, 564, 511, 512, 513, 514, 515, 531, 540, 546, 553, 560, 562, 565, 566]
/-- parts of the equations of a node -/
def g_E (M : ax_V) (n q : Int) : Prop := ∃ e, (0 ≤ e ∧ e < (M 222 44)) ∧ M 258 e = n ∧ M 261 e ≤ q ∧ q ≤ M 262 e
def g_D9 (C0 M0 : ax_V) (S : Int → Int) (n : Int) (V V' : ax_V) (D : Int → Prop) : Prop := g_fr [529] V V' ∧ ax_g V' ∧ (∀ q, ¬ (C0 508 n ≤ q ∧ q < C0 508 (n + 1)) → V' 529 q = V 529 q) ∧ (∀ q, g_E M0 n q → V' 529 q = V 529 q ∨ V' 529 q = g_cc n (S q)) ∧ ∀ x, D x → g_E M0 n x → V' 529 x = g_cc n (S x)
def g_I9 (C0 M0 : ax_V) (S : Int → Int) (n : Int) (V0 V : ax_V) (p : Int) : Prop := g_fr [529] V0 V ∧ ax_g V ∧ (∀ q, ¬ (C0 508 n ≤ q ∧ q < C0 508 (n + 1)) → V 529 q = V0 529 q) ∧ ∀ q, g_E M0 n q → V 529 q = g_cc n (S q) ∨ (V 529 q = -2 ∧ g_ny M0 p q)
section SettleC
variable {B r d : Nat} {C0 M0 V V' : ax_V} {S G : Int → Int} {D : Int → Prop} {x v p n : Int} {Φ : Int → ax_V → Prop} {Ψ Θ : ax_V → Prop}
theorem t_settle9 (h9 : g_D9 C0 M0 S n V V' D) (hx : 0 ≤ x ∧ x < 700) (hn : C0 508 n ≤ x ∧ x < C0 508 (n + 1)) (hE : g_E M0 n x → v = g_cc n (S x) ∧ (V 529 x = g_cc n (S x) ∨ V 529 x = -2)) (rv : ax_rg v) (h : ∀ V2, g_D9 C0 M0 S n V V2 (fun y => D y ∨ y = x) → Ψ V2) : ax_N (az_W B (az_EL B r)) (d + 1) q_Planner_settle [.ref r, ax_i x, ax_i v] V' Ψ Θ := by
  refine r_Planner_settle h9.2.1 ⟨by omega, by omega⟩ rv ⟨hx, fun e => ⟨hx, fun V1 e1 => h V1 ⟨by rw [e1]; exact h9.1.u (by decide), by rw [e1]; exact ax_u_g h9.2.1 rv, fun q z => ?_, fun q hq => ?_, fun y hy hyE => ?_⟩⟩, fun e => h V' ⟨h9.1, h9.2.1, h9.2.2.1, h9.2.2.2.1, fun y hy hyE => ?_⟩⟩
  · rw [e1, ax_u_k (fun y => z (by rw [y]; exact hn))]; exact h9.2.2.1 q z
  · by_cases y : q = x
    · rw [y] at hq ⊢
      rw [e1, ax_u_s]; exact Or.inr (hE hq).1
    · rw [e1, ax_u_k y]; exact h9.2.2.2.1 q hq
  · by_cases w : y = x
    · rw [w] at hyE ⊢
      rw [e1, ax_u_s]; exact (hE hyE).1
    · rw [e1, ax_u_k w]
      rcases hy with hy | hy
      · exact h9.2.2.2.2 y hy hyE
      · exact absurd hy w
  · rcases hy with hy | hy
    · exact h9.2.2.2.2 y hy hyE
    · rw [hy] at hyE ⊢
      rcases h9.2.2.2.1 x hyE with t | t
      · rcases (hE hyE).2 with s | s
        · rw [t]; exact s
        · rw [t] at e; exact absurd s e
      · exact t
theorem g_D9.rf (hg : ax_g V) : g_D9 C0 M0 S n V V (fun _ => False) := ⟨g_fr.rf _ _, hg, fun _ _ => rfl, fun _ _ => Or.inl rfl, fun _ z => z.elim⟩
theorem g_I9.next {V0 : ax_V} (h : g_I9 C0 M0 S n V0 V p) (k : g_D9 C0 M0 S n V V' D) (hd : ∀ x, e_kid M0 p x → D x) : g_I9 C0 M0 S n V0 V' (p - 1) := ⟨h.1.tr k.1, k.2.1, fun q z => by rw [k.2.2.1 q z]; exact h.2.2.1 q z, fun q hq => by
  rcases k.2.2.2.1 q hq with e | e
  · rcases h.2.2.2 q hq with z | z
    · exact Or.inl (by rw [e]; exact z)
    · by_cases y : e_kid M0 p q
      · exact Or.inl (k.2.2.2.2 q (hd q y) hq)
      · refine Or.inr ⟨by rw [e]; exact z.1, z.2.1, fun p' c c2 => ?_⟩
        by_cases w : p' = p
        · rw [w]; exact y
        · exact z.2.2 p' (by omega) c2
  · exact Or.inl e⟩
/-- the heads of an equation are on its clock -/
theorem g_S.ecl (hS : g_S C0 M0) {F H : Int → Int} (n4 : ∀ t, t < 700 → ¬ g_FA C0 M0 F G H 4 t) {e : Int} (e0 : 0 ≤ e) (e1 : e < (M0 222 44)) : g_ec M0 e = M0 235 (26 * M0 258 e + M0 265 (M0 259 e)) := by
  have nd := hS.node e0 e1
  have fe := hS.2.2.2.2.1.2.1 e e0 e1
  have fe3 := fe.2.2.1
  have ofe : g_of M0 e (M0 259 e) := ⟨⟨e0, e1⟩, by omega, by omega⟩
  have il := hS.ofl ofe
  have pl := (hS.h il.1 il.2).2.2.2
  unfold g_ec
  by_cases au : M0 263 e = -1
  · rw [if_pos au]
  · rw [if_neg au]
    exact Classical.byContradiction fun y => n4 699 (by decide) ((g_FA4 699).mpr ⟨M0 258 e, ⟨nd.1, nd.2.1⟩, Or.inr (Or.inr ⟨e, ⟨e0, e1⟩, rfl, Or.inr ⟨fun y2 => au ((hS.ea e0 e1).mp y2), M0 259 e, ofe, fun z => y z.symm, by omega⟩⟩)⟩)
/-- a part of an equation's part is the equation's -/
theorem g_S.Ek (hS : g_S C0 M0) (p0 : 0 ≤ p) (p1 : p < (M0 222 26)) (k : e_kid M0 p x) : g_E M0 n x ↔ g_E M0 n p := by
  have B := hS.2.2.2.2.1
  obtain ⟨f, w, hX, a, b⟩ := hS.Xin p0 p1
  have u := hS.Xk hX ⟨a, b⟩ k
  constructor
  · rintro ⟨e, e0, en, e1, e2⟩
    have z := hS.X1 (q := x) hX (Or.inl ⟨e, e0, rfl, rfl⟩) ⟨u.1, by omega⟩ ⟨e1, e2⟩
    exact ⟨e, e0, en, by omega, by omega⟩
  · rintro ⟨e, e0, en, e1, e2⟩
    have z := hS.X1 (q := p) hX (Or.inl ⟨e, e0, rfl, rfl⟩) ⟨a, b⟩ ⟨e1, e2⟩
    exact ⟨e, e0, en, by omega, by omega⟩
set_option maxHeartbeats 8000000 in
theorem t_settleClocks (hS : g_S C0 M0) (hf : g_fr g_XP C0 V) (hg : ax_g V) (hT : g_ST M0 G S) (hr : ∀ q, -1 ≤ S q ∧ S q ≤ 52) (hec : ∀ e, 0 ≤ e → e < (M0 222 44) → g_ec M0 e = M0 235 (26 * M0 258 e + M0 265 (M0 259 e))) (n0 : 0 ≤ n) (n1 : n < (M0 222 86)) (hG : ∀ q, 0 ≤ q → q < (M0 222 26) → M0 250 q = n → V 529 q = g_cc n (G q)) (h : ∀ V', g_fr [529] V V' → ax_g V' → (∀ q, ¬ (C0 508 n ≤ q ∧ q < C0 508 (n + 1)) → V' 529 q = V 529 q) → (∀ q, g_E M0 n q → V' 529 q = g_cc n (S q)) → Ψ V') : ax_N (az_W B (az_EL B r)) (d + 2) q_Planner_settleClocks [.ref r, ax_i n] V Ψ Θ := by
  obtain ⟨T1, T2, T3, T4⟩ := hT
  have hN := hS.2.1
  have hat := hS.2.2.2.2.2.2.2
  have hct := hS.2.2.2.2.1.1
  have hc1 := hct.1
  have hc2 := hct.2.1
  have p0 := hS.2.2.1.1
  have hB := hS.2.2.2.2.1
  have E0 := hS.eqF n0 (by omega)
  have E1 := hS.eqF (n := n + 1) (by omega) (by omega)
  have E2 := hS.eqS n0 n1
  have rn : ax_rg n := ⟨by omega, by omega⟩
  have n8 : 0 ≤ n ∧ n < 8 := ⟨n0, by omega⟩
  have rc : ∀ q, ax_rg (g_cc n (S q)) := fun q => g_cc_r n8 (hr q)
  have fC : ∀ {W : ax_V}, g_fr [529] V W → ∀ c, c ∉ g_XP → W c = C0 c := fun f c z => by rw [f c (fun y => z (by simp at y; rw [y]; decide))]; exact hf c z
  have bn : 0 ≤ n + 1 ∧ n + 1 < 9 := ⟨by omega, by omega⟩
  have Eq : ∀ q, g_E M0 n q → (0 ≤ q ∧ q < (M0 222 26)) ∧ M0 250 q = n := fun q hq => by
    obtain ⟨e, e0, en, e1, e2⟩ := hq
    have fx := (hB.2.1 e e0.1 e0.2).2.2.2.2.2.1
    have f1 := fx.1
    refine ⟨⟨by omega, by omega⟩, ?_⟩
    rw [(fx.2.2 q e1 e2).1.1]; exact en
  -- the parts, from the last
  have parts : ∀ y3 y4 y5, ax_y y3 → ax_y y4 → ax_y y5 → ∀ W, g_I9 C0 M0 S n V W (C0 508 (n + 1) - 1) → k_Planner_settleClocks_83 B r (d + 1) n (C0 508 (n + 1) - 1) y3 y4 y5 W Ψ Θ := by
    intro y3 y4 y5 hy3 hy4 hy5 W hW
    refine ax_ford (I := fun p W => (C0 508 n - 1 ≤ p ∧ p < C0 508 (n + 1)) ∧ g_I9 C0 M0 S n V W p) (K := fun p W => ∀ y3 y4 y5, ax_y y3 → ax_y y4 → ax_y y5 → k_Planner_settleClocks_83 B r (d + 1) n p y3 y4 y5 W Ψ Θ) (lo := C0 508 n) (fun p V2 w hI next y3 y4 y5 hy3 hy4 hy5 => ?_) (fun p V2 w hI y3 y4 y5 hy3 hy4 hy5 => ?_) (C0 508 (n + 1) - 1) W ⟨⟨by omega, by omega⟩, hW⟩ y3 y4 y5 hy3 hy4 hy5
    · obtain ⟨hp, hV⟩ := hI
      have q0 : 0 ≤ p := by omega
      have q1 : p < (M0 222 26) := by omega
      have pn : M0 250 p = n := (hS.pN q0 q1 n0 n1).mp ⟨w, hp.2⟩
      have rp : ax_rg p := ⟨by omega, by omega⟩
      have b7 : 0 ≤ p ∧ p < 700 := ⟨q0, by omega⟩
      have vp : g_E M0 n p → V2 529 p = g_cc n (S p) := fun hE => by
        rcases hV.2.2.2 p hE with z | z
        · exact z
        · exact absurd z.2 (hS.ny q0 q1)
      obtain ⟨K, K7, KE, KA, KF⟩ := hS.kids q0 q1
      have oc := hS.eopc q0 q1
      have dt := (hS.p q0 q1).2.2.2.2.2.2.1
      have ar := hS.ar q0 q1
      have kd0 : ∀ k, k < K → e_kid M0 p (g_kd M0 p k) := fun k hk => (e_kid_kd _ _ _).mpr ⟨(KA k hk).1.1, k, rfl⟩
      have loop : ∀ (m k : Nat), k ≤ K → K - k ≤ m → ∀ V', g_D9 C0 M0 S n V2 V' (fun x => ∃ j : Nat, j < k ∧ g_kd M0 p j = x) → k_Planner_settleClocks_120 B r (d + 1) n p (g_kd M0 p k) (C0 517 p) (k : Int) V' Ψ Θ := by
        intro m
        induction m with
        | zero =>
          intro k k0 k1 V' hV'
          have ek : k = K := by omega
          have gK := KE k (by omega)
          have go : ∀ x3 x4 x5, k_Planner_settleClocks_83 B r (d + 1) n (p + -1) (some (ax_i x3)) (some (ax_i x4)) (some (ax_i x5)) V' Ψ Θ := fun x3 x4 x5 => next V' ⟨⟨by omega, by omega⟩, hV.next hV' (fun x hx => by
            obtain ⟨x0, j, hj⟩ := (e_kid_kd _ _ _).mp hx
            refine ⟨j, ?_, hj⟩
            rcases Nat.lt_or_ge j K with y | y
            · omega
            · have := KE j y; omega)⟩ _ _ _ (ax_y_i _) (ax_y_i _) (ax_y_i _)
          rw [gK]
          refine r_Planner_settleClocks_120 hV'.2.1 rn rp (by decide) ⟨by omega, by omega⟩ ⟨by omega, by omega⟩ ⟨fun _ => go _ _ _, fun _ => ⟨fun _ => go _ _ _, fun z => absurd z (by decide)⟩⟩
        | succ m ih =>
          intro k k0 k1 V' hV'
          by_cases ek : k = K
          · exact ih k k0 (by omega) V' hV'
          · obtain ⟨a1, a2, a3⟩ := KA k (by omega)
            have kx := kd0 k (by omega)
            obtain ⟨x, ex⟩ : ∃ x : Int, x = g_kd M0 p k := ⟨_, rfl⟩
            rw [← ex] at a1 a2 a3 kx ⊢
            have xn : M0 250 x = n := by rw [a3]; exact pn
            have xr := (hS.pN a1.1 (by omega : x < (M0 222 26)) n0 n1).mpr xn
            have bx : 0 ≤ x ∧ x < 700 := ⟨a1.1, by omega⟩
            have dm := T3 p x q0 q1 kx
            have old : g_E M0 n x → V2 529 x = g_cc n (S x) ∨ V2 529 x = -2 := fun hE => by
              rcases hV.2.2.2 x hE with z | z
              · exact Or.inl z
              · exact Or.inr z.1
            have vp' : g_E M0 n p → V' 529 p = g_cc n (S p) := fun hE => by
              rcases hV'.2.2.2.1 p hE with z | z
              · rw [z]; exact vp hE
              · exact z
            have step : ∀ v, ax_rg v → (g_E M0 n x → v = g_cc n (S x)) → ax_N (az_W B (az_EL B r)) (d + 1) q_Planner_settle [.ref r, ax_i x, ax_i v] V' (fun V4 => (0 ≤ x ∧ x < 700) ∧ k_Planner_settleClocks_120 B r (d + 1) n p (V4 522 x) (C0 517 p) ((k : Int) + 1) V4 Ψ Θ) Θ := fun v rv hv => t_settle9 hV' bx xr (fun hE => ⟨hv hE, old hE⟩) rv (fun V4 k4 => ⟨bx, by
              rw [fC (hV.1.tr k4.1) 522 (by decide), a2]
              refine ih (k + 1) (by omega) (by omega) V4 ⟨k4.1, k4.2.1, k4.2.2.1, k4.2.2.2.1, fun y hy => k4.2.2.2.2 y ?_⟩
              obtain ⟨j, j0, j1⟩ := hy
              by_cases u : j = k
              · rw [u] at j1; exact Or.inr (by rw [← j1, ex])
              · exact Or.inl ⟨j, by omega, j1⟩⟩)
            have F' := hV.1.tr hV'.1
            refine r_Planner_settleClocks_120 hV'.2.1 rn rp ⟨by omega, by omega⟩ ⟨by omega, by omega⟩ ⟨by omega, by omega⟩ ⟨fun z => by omega, fun _ => ⟨fun z => by omega, fun _ => ?_⟩⟩
            rw [fC F' 520 (by decide), fC F' 536 (by decide)]
            refine ⟨fun o => ?_, fun o => ⟨fun o2 => ⟨b7, ?_⟩, fun o2 => ⟨b7, ?_⟩⟩⟩
            · have o' : M0 241 p = 20 := by omega
              have d4 := dt.2.2.2.1 o'
              have es : ax_shr (C0 520 p) 1 = 26 * n + M0 248 p := by rw [d4.2.2.1, pn, b_shr ⟨by omega, by omega⟩]; omega
              have ck := hS.ck n0 n1 d4.1.1 d4.1.2
              rw [es]
              refine ⟨b7, ⟨by omega, by omega⟩, step _ ?_ (fun _ => ?_)⟩
              · rw [ck.1]; exact g_cc_r n8 ⟨by omega, by omega⟩
              · rw [dm]; unfold g_dm; rw [if_pos o', pn]; exact ck.1
            · have o' : M0 241 p = 21 := by omega
              have d3 := dt.2.2.1 (Or.inr (Or.inr o'))
              have kd := hS.kid q0 q1 (by omega)
              have e0 : g_kd M0 p 0 = M0 245 p := by unfold g_kd; rw [if_neg (by omega), if_pos rfl]
              have e1 : g_kd M0 p 1 = M0 246 p := by unfold g_kd; rw [if_neg (by omega), if_neg (by decide), if_pos rfl]
              have ar2 : 0 ≤ M0 245 p ∧ 0 ≤ M0 246 p ∧ M0 247 p = -1 := by unfold e_ar at ar; omega
              rw [d3.2.1, pn]
              refine ⟨fun z => step _ ⟨by omega, by omega⟩ (fun _ => ?_), fun z => step _ ⟨by omega, by omega⟩ (fun _ => ?_)⟩
              · have kz : k = 0 := by omega
                rw [kz, e0] at ex
                rw [dm]; unfold g_dm g_cc; rw [if_neg (by omega), if_pos o', if_pos ex, if_neg (by omega)]; omega
              · have xa : ¬ x = M0 245 p := fun y => by
                  have g1 := kd.2.2.2.2.1 ar2.1
                  have g2 := kd.2.2.2.2.2.1 ar2.2.1
                  have kx2 := e_kid_abc kx (by omega)
                  have : k = 1 := by
                    by_cases k1 : k = 1
                    · exact k1
                    · have : g_kd M0 p k = -1 := by
                        unfold g_kd
                        rw [if_neg (by omega), if_neg (by omega), if_neg k1]
                        by_cases k2 : k = 2
                        · rw [if_pos k2]; exact ar2.2.2
                        · rw [if_neg k2]
                      omega
                  rw [this, e1] at ex
                  rw [← ex, y, g1] at g2
                  omega
                rw [dm]; unfold g_dm g_cc; rw [if_neg (by omega), if_pos o', if_neg xa, if_neg (by omega)]; omega
            · refine step _ (hV'.2.1 _ _) (fun hE => ?_)
              rw [vp' ((hS.Ek q0 q1 kx).mp hE), dm]
              unfold g_dm
              rw [if_neg (by omega), if_neg (by omega)]
      refine r_Planner_settleClocks_83 hV.2.1 rn rp hy3 hy4 hy5 ⟨⟨n0, by omega⟩, ?_⟩
      rw [fC hV.1 508 (by decide), fC hV.1 521 (by decide), fC hV.1 517 (by decide), KF]
      exact ⟨fun z => by omega, fun _ => ⟨b7, b7, loop K 0 (by omega) (by omega) V2 ⟨g_fr.rf _ _, hV.2.1, fun _ _ => rfl, fun _ _ => Or.inl rfl, fun x hx => by obtain ⟨j, j0, -⟩ := hx; omega⟩⟩⟩
    · obtain ⟨hp, hV⟩ := hI
      refine r_Planner_settleClocks_83 hV.2.1 rn ⟨by omega, by omega⟩ hy3 hy4 hy5 ⟨⟨n0, by omega⟩, ?_⟩
      rw [fC hV.1 508 (by decide)]
      refine ⟨fun _ => h V2 hV.1 hV.2.1 hV.2.2.1 (fun q hq => ?_), fun z => by omega⟩
      rcases hV.2.2.2 q hq with z | z
      · exact z
      · exfalso
        obtain ⟨⟨q0, q1⟩, qn⟩ := Eq q hq
        have := (hS.pN q0 q1 n0 n1).mpr qn
        exact hS.ny q0 q1 ⟨z.2.1, fun p' c c2 => z.2.2 p' (by omega) c2⟩
  refine r_Planner_settleClocks hg rn ⟨⟨n0, by omega⟩, ?_⟩
  rw [hf 509 (by decide)]
  refine ax_for (I := fun e W => (C0 509 n ≤ e ∧ e ≤ C0 509 (n + 1)) ∧ g_fr [529] V W ∧ ax_g W ∧ (∀ q, ¬ (C0 508 n ≤ q ∧ q < C0 508 (n + 1)) → W 529 q = V 529 q) ∧ ∀ q, g_E M0 n q → W 529 q = g_cc n (S q) ∨ (W 529 q = -2 ∧ ∀ e', 0 ≤ e' → e' < e → ¬ M0 262 e' = q)) (K := fun e W => k_Planner_settleClocks_10 B r (d + 1) n e none none none W Ψ Θ) (hi := C0 509 (n + 1)) (fun e W w hI next => ?_) (fun e W w hI => ?_) (C0 509 n) V ⟨⟨Int.le_refl _, by omega⟩, g_fr.rf _ _, hg, fun _ _ => rfl, fun q hq => ?_⟩
  · obtain ⟨he, f1, g1, o1, k1⟩ := hI
    have e0 : 0 ≤ e := by omega
    have e1 : e < (M0 222 44) := by omega
    have en := (hS.eqN e0 e1 n0 n1).mp ⟨he.1, w⟩
    have fe := hB.2.1 e e0 e1
    have fx := fe.2.2.2.2.2.1.1
    have fe3 := fe.2.2.1
    have hh := fe.2.2.2.2.2.2 (M0 259 e) (by omega) (by omega)
    rw [en] at hh
    have lf := hh.2.1
    have ck := hS.ck n0 n1 lf.1 lf.2
    have wE : g_E M0 n (M0 262 e) := ⟨e, ⟨e0, e1⟩, en, fx.2.1, Int.le_refl _⟩
    have wr := (hS.pN (Eq _ wE).1.1 (Eq _ wE).1.2 n0 n1).mpr (Eq _ wE).2
    have sv : g_cc n (M0 235 (26 * n + M0 265 (M0 259 e))) = g_cc n (S (M0 262 e)) := by rw [T1 e e0 e1, hec e e0 e1, en]
    refine r_Planner_settleClocks_10 g1 rn ⟨by omega, by omega⟩ ax_y_n ax_y_n ax_y_n ⟨bn, ?_⟩
    rw [fC f1 509 (by decide), fC f1 550 (by decide), fC f1 548 (by decide), fC f1 554 (by decide), fC f1 536 (by decide), fe.2.1.1, fe.2.2.2.1.2.1, hh.1, ck.1]
    refine ⟨fun z => by omega, fun _ => ⟨⟨by omega, by omega⟩, ⟨by omega, by omega⟩, ⟨by omega, by omega⟩, ⟨by omega, by omega⟩, ?_⟩⟩
    refine t_settle9 (S := S) (M0 := M0) (C0 := C0) (n := n) (g_D9.rf g1) ⟨by omega, by omega⟩ wr (fun hE => ⟨sv, ?_⟩) (g_cc_r n8 ⟨by omega, by omega⟩) (fun V2 k2 => next V2 ⟨⟨by omega, by omega⟩, f1.tr k2.1, k2.2.1, fun q z => by rw [k2.2.2.1 q z]; exact o1 q z, fun q hq => ?_⟩)
    · rcases k1 _ hE with z | z
      · exact Or.inl z
      · exact Or.inr z.1
    · rcases k2.2.2.2.1 q hq with e1' | e1'
      · rcases k1 q hq with z | z
        · exact Or.inl (by rw [e1']; exact z)
        · by_cases y : q = M0 262 e
          · exact Or.inl (k2.2.2.2.2 q (Or.inr y) hq)
          · refine Or.inr ⟨by rw [e1']; exact z.1, fun m' c c2 => ?_⟩
            by_cases u : m' = e
            · rw [u]; exact fun t => y t.symm
            · exact z.2 m' c (by omega)
      · exact Or.inl e1'
  · obtain ⟨he, f1, g1, o1, k1⟩ := hI
    have ee : e = C0 509 (n + 1) := by omega
    refine r_Planner_settleClocks_10 g1 rn ⟨by omega, by omega⟩ ax_y_n ax_y_n ax_y_n ⟨bn, ?_⟩
    rw [fC f1 509 (by decide), fC f1 508 (by decide)]
    refine ⟨fun _ => ⟨bn, parts _ _ _ ax_y_n ax_y_n ax_y_n W ⟨f1, g1, o1, fun q hq => ?_⟩⟩, fun z => by omega⟩
    rcases k1 q hq with z | z
    · exact Or.inl z
    · obtain ⟨⟨q0, q1⟩, qn⟩ := Eq q hq
      refine Or.inr ⟨z.1, fun f hX => ?_, fun p' c c2 k => ?_⟩
      · obtain ⟨e2, e20, e2n, e21, e22⟩ := hq
        have fx2 := hS.Xx hX
        obtain ⟨a1, a2, a3, a4, fx2⟩ := fx2
        have f2 := fx2.1
        have u := hS.X1 (q := q) hX (Or.inl ⟨e2, e20, rfl, rfl⟩) ⟨by omega, Int.le_refl _⟩ ⟨e21, e22⟩
        have en2 := (hS.eqN e20.1 e20.2 n0 n1).mpr e2n
        exact z.2 e2 e20.1 (by omega) u.2.symm
      · have kn := hS.kidn (q := p') (by omega) c2 k
        have := (hS.pN (q := p') (by omega) c2 n0 n1).mpr (by rw [← kn]; exact qn)
        omega
  · obtain ⟨⟨q0, q1⟩, qn⟩ := Eq q hq
    rw [hG q q0 q1 qn]
    by_cases z : G q = -1
    · refine Or.inr ⟨by rw [z]; rfl, fun e' c c2 y => ?_⟩
      obtain ⟨e2, e20, e2n, e21, e22⟩ := hq
      have fe := (hB.2.1 e' c (by omega)).2.2.2.2.2.1.1
      have en2 := (hS.eqN e20.1 e20.2 n0 n1).mpr e2n
      have u := hS.2.2.2.2.1.2.2.2.2.2.1.2.2.1.1 e' e2 c (by omega) e20.2
      omega
    · exact Or.inl (by rw [T4 q q0 q1 z])
end SettleC
