/-! FAULTS 5, the model: the rounds -/
section Kind5N
variable {d : Nat} {C0 M0 M V : ax_V} {q n : Int} {T : Int → Prop} {Φ : Int → ax_V → Prop} {Ψ Θ : ax_V → Prop}
set_option maxHeartbeats 4000000 in
theorem s_findFirsts (hS : g_S C0 M0) (hb : g_MB C0 M0 M) (h : ∀ V, g_L5 M0 M V → (∀ q, 0 ≤ q → q < (M0 222 26) → (V 255 q = 0 ∨ V 255 q = 1) ∧ (V 255 q = 0 ↔ g_PB M0 q)) → (∀ s, 0 ≤ s → s < 240 → (V 282 s = 0 ↔ g_LB M0 s)) → Ψ V) : ax_N ay_lay (d + 2) q_Model_findFirsts [.ref 222] M Ψ Θ := by
  have p0 := hS.2.2.1.1
  have hat := hS.2.2.2.2.2.2.2
  have hN := hS.2.1
  have hc1 := hS.2.2.2.2.1.1.1
  have hc2 := hS.2.2.2.2.1.1.2.1
  have mb : ∀ {V : ax_V}, g_fr [255, 282] M V → ax_g V → g_MB C0 M0 V := fun f1 g1 => ⟨hb.1.tr (f1.up (by decide)), fun j z => by rw [f1 222 (by decide)]; exact hb.2.1 j z, g1, fun q a b o => by rw [f1 251 (by decide)]; exact hb.2.2.2 q a b o⟩
  have hd : ∀ e i, 0 ≤ e → e < (M0 222 44) → M0 259 e ≤ i → i < M0 259 e + M0 260 e → (0 ≤ 26 * M0 258 e + M0 265 i ∧ 26 * M0 258 e + M0 265 i < 240) ∧ 0 ≤ i ∧ i < 350 := fun e i a b i0 i1 => by
    have fe := hS.2.2.2.2.1.2.1 e a b
    have fe3 := fe.2.2.1
    have nd := hS.node a b
    have u := (fe.2.2.2.2.2.2 i i0 i1).2.1
    exact ⟨⟨by omega, by omega⟩, by omega, by omega⟩
  have fin : ∀ V, g_L5 M0 M V → (∀ p, 0 ≤ p → p < (M0 222 26) → (V 255 p = 0 ∨ V 255 p = 1) ∧ (V 255 p = 0 ↔ g_ev M0 (fun s => V 282 s = 0) (fun x => V 255 x = 0) p) ∧ (V 255 p = 0 → g_PB M0 p)) → (∀ e i, 0 ≤ e → e < (M0 222 44) → g_of M0 e i → V 255 (M0 262 e) = 0 → V 282 (26 * M0 258 e + M0 265 i) = 0) → Ψ V := by
    intro V hV hp he
    have cl : g_cl M0 (fun s => V 282 s = 0) (fun q => 0 ≤ q → q < (M0 222 26) → V 255 q = 0) := by
      refine ⟨fun q q0 q1 ev _ _ => ?_, fun e i ho hw => ?_⟩
      · refine ((hp q q0 q1).2.1).mpr ((g_ev.cg hS q0 q1 (P' := fun x => V 255 x = 0) (fun x x0 x1 _ => ⟨fun y => y x0 (by omega), fun y _ _ => y⟩)).mp ev)
      · have fx1 := (hS.2.2.2.2.1.2.1 e ho.1.1 ho.1.2).2.2.2.2.2.1.1
        exact he e i ho.1.1 ho.1.2 ho (hw (by omega) fx1.2.2)
    exact h V hV (fun q a b => ⟨(hp q a b).1, (hp q a b).2.2, fun z => z _ _ cl a b⟩) (fun s a b => ⟨(hV.2.2 s a b).2, fun z => z _ _ cl⟩)
  have main : ∀ (m : Nat) V, g_L5 M0 M V → g_ct (fun s => V 282 s - 1) 0 240 ≤ m → ∀ y2 y3 y4, ax_y y2 → ax_y y3 → ax_y y4 → k_Model_findFirsts_24 (d + 1) 1 y2 y3 y4 V Ψ Θ := by
    intro m
    induction m using Nat.strongRecOn with
    | ind m ih =>
      intro V hV hct y2 y3 y4 hy2 hy3 hy4
      refine r_Model_findFirsts_24 hV.2.1 (by decide) hy2 hy3 hy4 ⟨fun z => absurd z (by decide), fun _ => ?_⟩
      refine ax_for (I := fun q W => (0 ≤ q ∧ q ≤ (M0 222 26)) ∧ g_L5 M0 M W ∧ W 282 = V 282 ∧ ∀ p, 0 ≤ p → p < q → (W 255 p = 0 ∨ W 255 p = 1) ∧ (W 255 p = 0 ↔ g_ev M0 (fun s => W 282 s = 0) (fun x => W 255 x = 0) p) ∧ (W 255 p = 0 → g_PB M0 p)) (K := fun q W => k_Model_findFirsts_32 (d + 1) 0 q y3 y4 W Ψ Θ) (hi := (M0 222 26)) (fun q W w hI next => ?_) (fun q W w hI => ?_) 0 V ⟨⟨by decide, p0.2.1⟩, hV, rfl, fun p a b => by omega⟩
      · obtain ⟨hq, hW, e82, hp⟩ := hI
        have b := mb hW.1 hW.2.1
        refine r_Model_findFirsts_32 hW.2.1 (by decide) ⟨by omega, by omega⟩ hy3 hy4 ?_
        rw [b.2.1 26 (by decide)]
        refine ⟨fun z => by omega, fun _ => s_findFirst hS b hq.1 w (fun x x0 x1 => (hp x x0 x1).1) (fun s a b => (hW.2.2 s a b).1) (fun v hv hv2 => ?_)⟩
        have rv : ax_rg v := by rcases hv with z | z <;> rw [z] <;> decide
        obtain ⟨W2, e2⟩ : ∃ X : ax_V, X = ax_u W 255 q v := ⟨_, rfl⟩
        have vq : W2 255 q = v := by rw [e2, ax_u_s]
        have vo : ∀ y, y ≠ q → W2 255 y = W 255 y := fun y z => by rw [e2, ax_u_k z]
        have w82 : W2 282 = W 282 := by rw [e2, ax_u_ne (by decide)]
        have hW2 : g_L5 M0 M W2 := ⟨by rw [e2]; exact hW.1.u (by decide), by rw [e2]; exact ax_u_g hW.2.1 rv, by rw [w82]; exact hW.2.2⟩
        rw [← e2]
        refine next W2 ⟨⟨by omega, by omega⟩, hW2, by rw [w82, e82], fun p a b => ?_⟩
        have cg : ∀ p, 0 ≤ p → p ≤ q → (g_ev M0 (fun s => W 282 s = 0) (fun x => W 255 x = 0) p ↔ g_ev M0 (fun s => W 282 s = 0) (fun x => W2 255 x = 0) p) := fun p a b => g_ev.cg hS a (by omega) (fun y y0 y1 _ => by rw [vo y (by omega)])
        rw [w82]
        by_cases z : p = q
        · rw [z, vq, ← cg q hq.1 (Int.le_refl _)]
          refine ⟨hv, hv2, fun y => ?_⟩
          refine (hv2.mp y).so hS hq.1 w (fun o z2 => ?_) (fun y y0 y1 _ y3 => (hp y y0 y1).2.2 y3)
          have l := hS.pl hq.1 w (by omega)
          have pn := (hS.pnode hq.1 w).1
          exact (hW.2.2 _ (by omega) (by omega)).2 z2
        · rw [vo p z, ← cg p a (by omega)]
          exact hp p a (by omega)
      · obtain ⟨hq, hA, e82, hp⟩ := hI
        have eq : q = (M0 222 26) := by omega
        rw [eq] at hp ⊢
        rw [← e82] at hct
        have b := mb hA.1 hA.2.1
        refine r_Model_findFirsts_32 hA.2.1 (by decide) ⟨by omega, by omega⟩ hy3 hy4 ?_
        rw [b.2.1 26 (by decide)]
        refine ⟨fun _ => ?_, fun z => by omega⟩
        obtain ⟨A, eA⟩ : ∃ A : ax_V, A = W := ⟨_, rfl⟩
        rw [← eA] at hA hp hct ⊢
        refine ax_for (I := fun e _ => 0 ≤ e ∧ e ≤ (M0 222 44)) (K := fun e W => ∀ x1 y3 y4, ax_y y3 → ax_y y4 → (g_L5 M0 M W ∧ W 255 = A 255) → ((x1 = 0 ∧ W = A ∧ ∀ e' i, 0 ≤ e' → e' < e → g_of M0 e' i → A 255 (M0 262 e') = 0 → A 282 (26 * M0 258 e' + M0 265 i) = 0) ∨ (x1 = 1 ∧ g_ct (fun s => W 282 s - 1) 0 240 + 1 ≤ g_ct (fun s => A 282 s - 1) 0 240)) → k_Model_findFirsts_53 (d + 1) x1 e y3 y4 W Ψ Θ) (hi := (M0 222 44)) (fun e W w hI next x1 y3 y4 hy3 hy4 hW hc => ?_) (fun e W w hI x1 y3 y4 hy3 hy4 hW hc => ?_) 0 A ⟨by decide, by omega⟩ 0 y3 y4 hy3 hy4 ⟨hA, rfl⟩ (Or.inl ⟨rfl, rfl, fun e' i a b => by omega⟩)
        · have e0 : 0 ≤ e := hI.1
          have be : 0 ≤ e ∧ e < 351 := ⟨e0, by omega⟩
          have fe := hS.2.2.2.2.1.2.1 e e0 w
          have fe3 := fe.2.2.1
          have fx1 := fe.2.2.2.2.2.1.1
          have b := mb hW.1.1 hW.1.2.1
          have rx1 : ax_rg x1 := by rcases hc with z | z <;> rw [z.1] <;> decide
          refine r_Model_findFirsts_53 hW.1.2.1 rx1 ⟨by omega, by omega⟩ hy3 hy4 ?_
          rw [b.2.1 44 (by decide), b.1 259 (by decide)]
          refine ⟨fun z => by omega, fun _ => ⟨be, ?_⟩⟩
          refine ax_for (I := fun i _ => M0 259 e ≤ i ∧ i ≤ M0 259 e + M0 260 e) (K := fun i W => ∀ x1 y4, ax_y y4 → (g_L5 M0 M W ∧ W 255 = A 255) → ((x1 = 0 ∧ W = A ∧ (∀ e' i, 0 ≤ e' → e' < e → g_of M0 e' i → A 255 (M0 262 e') = 0 → A 282 (26 * M0 258 e' + M0 265 i) = 0) ∧ ∀ j, M0 259 e ≤ j → j < i → A 255 (M0 262 e) = 0 → A 282 (26 * M0 258 e + M0 265 j) = 0) ∨ (x1 = 1 ∧ g_ct (fun s => W 282 s - 1) 0 240 + 1 ≤ g_ct (fun s => A 282 s - 1) 0 240)) → k_Model_findFirsts_68 (d + 1) x1 e i y4 W Ψ Θ) (hi := M0 259 e + M0 260 e) (fun i W w2 hI2 next2 x1 y4 hy4 hW hc => ?_) (fun i W w2 hI2 x1 y4 hy4 hW hc => ?_) (M0 259 e) W ⟨Int.le_refl _, by omega⟩ x1 y4 hy4 hW ?_
          · have u := hd e i e0 w hI2.1 w2
            have b := mb hW.1.1 hW.1.2.1
            have rx1 : ax_rg x1 := by rcases hc with z | z <;> rw [z.1] <;> decide
            have gog : (W = A → (A 255 (M0 262 e) = 0 → A 282 (26 * M0 258 e + M0 265 i) = 0)) → ∀ y4, ax_y y4 → k_Model_findFirsts_68 (d + 1) x1 e (i + 1) y4 W Ψ Θ := fun hm y4 hy4 => next2 W ⟨by omega, by omega⟩ x1 y4 hy4 hW (by
              rcases hc with ⟨z1, z2, z3, z4⟩ | z
              · refine Or.inl ⟨z1, z2, z3, fun j a b c => ?_⟩
                by_cases y : j = i
                · rw [y]; exact hm z2 c
                · exact z4 j a (by omega) c
              · exact Or.inr z)
            refine r_Model_findFirsts_68 hW.1.2.1 rx1 ⟨by omega, by omega⟩ ⟨by omega, by omega⟩ hy4 ⟨be, be, ?_⟩
            rw [b.1 259 (by decide), b.1 260 (by decide), b.1 262 (by decide), b.1 258 (by decide), b.1 265 (by decide)]
            refine ⟨⟨by omega, by omega⟩, fun z => absurd w2 (by omega), fun _ => ⟨be, ⟨u.2.1, by omega⟩, be, ⟨by omega, by omega⟩, fun z => ⟨u.1, fun z2 => gog (fun eW _ => ?_) _ (ax_y_i _), fun z2 => ⟨u.1, fun W2 e2 => ?_⟩⟩, fun z => gog (fun eW y => ?_) _ (ax_y_i _)⟩⟩
            · rw [eW] at z2; exact z2
            · have hw : g_PB M0 (M0 262 e) := by
                rw [hW.2] at z
                exact (hp _ (by omega) fx1.2.2).2.2 z
              have lb : g_LB M0 (26 * M0 258 e + M0 265 i) := g_LB.i (M := M0) (e := e) (i := i) ⟨⟨e0, w⟩, hI2.1, w2⟩ hw
              have vq : W2 282 (26 * M0 258 e + M0 265 i) = 0 := by rw [e2, ax_u_s]
              have vo : ∀ y, y ≠ 26 * M0 258 e + M0 265 i → W2 282 y = W 282 y := fun y z => by rw [e2, ax_u_k z]
              have w55 : W2 255 = W 255 := by rw [e2, ax_u_ne (by decide)]
              have one : W 282 (26 * M0 258 e + M0 265 i) = 1 := by
                rcases (hW.1.2.2 _ u.1.1 u.1.2).1 with y | y
                · exact absurd y z2
                · exact y
              have hW2 : g_L5 M0 M W2 := ⟨by rw [e2]; exact hW.1.1.u (by decide), by rw [e2]; exact ax_u_g hW.1.2.1 (by decide), fun s s0 s1 => by
                by_cases y : s = 26 * M0 258 e + M0 265 i
                · rw [y, vq]; exact ⟨Or.inl rfl, fun _ => lb⟩
                · rw [vo s y]; exact hW.1.2.2 s s0 s1⟩
              have dn := (g_ct_up (f := fun s => W 282 s - 1) (f' := fun s => W2 282 s - 1) (s := 0) (x := 26 * M0 258 e + M0 265 i) (by show W 282 _ - 1 = 0; rw [one]; rfl) (by show ¬ W2 282 _ - 1 = 0; rw [vq]; decide) (fun y z => by show W2 282 y - 1 = W 282 y - 1; rw [vo y z]) 240).1 ⟨by omega, by omega⟩
              have ca : g_ct (fun s => W 282 s - 1) 0 240 ≤ g_ct (fun s => A 282 s - 1) 0 240 := by
                rcases hc with y | y
                · rw [y.2.1]; exact Nat.le_refl _
                · have := y.2; omega
              exact next2 W2 ⟨by omega, by omega⟩ 1 _ (ax_y_i _) ⟨hW2, by rw [w55]; exact hW.2⟩ (Or.inr ⟨rfl, by omega⟩)
            · rw [hW.2] at z; exact absurd y z
          · have ei : i = M0 259 e + M0 260 e := by omega
            rw [ei] at hc ⊢
            have b := mb hW.1.1 hW.1.2.1
            have rx1 : ax_rg x1 := by rcases hc with z | z <;> rw [z.1] <;> decide
            refine r_Model_findFirsts_68 hW.1.2.1 rx1 ⟨by omega, by omega⟩ ⟨by omega, by omega⟩ hy4 ⟨be, be, ?_⟩
            rw [b.1 259 (by decide), b.1 260 (by decide)]
            refine ⟨⟨by omega, by omega⟩, fun _ => next W ⟨by omega, by omega⟩ x1 _ _ (ax_y_i _) hy4 hW ?_, fun z => by omega⟩
            rcases hc with ⟨z1, z2, z3, z4⟩ | z
            · refine Or.inl ⟨z1, z2, fun e' j a b ho => ?_⟩
              by_cases y : e' = e
              · rw [y] at ho ⊢; exact z4 j ho.2.1 ho.2.2
              · exact z3 e' j a (by omega) ho
            · exact Or.inr z
          · rcases hc with ⟨z1, z2, z3⟩ | z
            · exact Or.inl ⟨z1, z2, z3, fun j a b => by omega⟩
            · exact Or.inr z
        · have ee : e = (M0 222 44) := by omega
          rw [ee] at hc ⊢
          have b := mb hW.1.1 hW.1.2.1
          have rx1 : ax_rg x1 := by rcases hc with z | z <;> rw [z.1] <;> decide
          refine r_Model_findFirsts_53 hW.1.2.1 rx1 ⟨by omega, by omega⟩ hy3 hy4 ?_
          rw [b.2.1 44 (by decide)]
          refine ⟨fun _ => ?_, fun z => by omega⟩
          rcases hc with ⟨z1, z2, z3⟩ | ⟨z1, z2⟩
          · rw [z1, z2]
            exact r_Model_findFirsts_24 hA.2.1 (by decide) (ax_y_i _) hy3 hy4 ⟨fun _ => fin A hA hp (fun e' i a b ho => z3 e' i a b ho), fun y => absurd rfl y⟩
          · rw [z1]
            exact ih (g_ct (fun s => W 282 s - 1) 0 240) (by omega) W hW.1 (Nat.le_refl _) _ _ _ (ax_y_i _) hy3 hy4
  refine r_Model_findFirsts hb.2.2.1 ?_
  refine ax_for (I := fun k V => (0 ≤ k ∧ k ≤ 240) ∧ g_fr [255, 282] M V ∧ ax_g V ∧ ∀ s, 0 ≤ s → s < k → V 282 s = 1) (K := fun k V => k_Model_findFirsts_2 (d + 1) k none none none V Ψ Θ) (hi := 240) (fun k V w hI next => ?_) (fun k V w hI => ?_) 0 M ⟨⟨by decide, by decide⟩, g_fr.rf _ _, hb.2.2.1, fun s a b => by omega⟩
  · obtain ⟨hk, f1, g1, hs⟩ := hI
    refine r_Model_findFirsts_2 g1 ⟨by omega, by omega⟩ ax_y_n ax_y_n ax_y_n ⟨fun z => by omega, fun _ => ⟨⟨hk.1, w⟩, fun V1 e1 => next V1 ⟨⟨by omega, by omega⟩, by rw [e1]; exact f1.u (by decide), by rw [e1]; exact ax_u_g g1 (by decide), fun s a b => ?_⟩⟩⟩
    by_cases z : s = k
    · rw [e1, z, ax_u_s]
    · rw [e1, ax_u_k z]; exact hs s a (by omega)
  · obtain ⟨hk, f1, g1, hs⟩ := hI
    refine r_Model_findFirsts_2 g1 ⟨by omega, by omega⟩ ax_y_n ax_y_n ax_y_n ⟨fun _ => main _ V ⟨f1, g1, fun s a b => ⟨Or.inr (hs s a (by omega)), fun z => by rw [hs s a (by omega)] at z; exact absurd z (by decide)⟩⟩ (Nat.le_refl _) _ _ _ ax_y_n ax_y_n ax_y_n, fun z => by omega⟩
end Kind5N
