/-! JUDGING, all kinds: the model -/
/-- the model behind judging, no fault found -/
def g_JM (C0 M0 : ax_V) (F G : Int → Int) (M : ax_V) : Prop := g_MB C0 M0 M ∧ g_EA C0 M0 M (fun _ => True) ∧ (∀ q, 0 ≤ q → q < (M0 222 26) → M 253 q = F q) ∧ (∀ q, 0 ≤ q → q < (M0 222 26) → M 254 q = G q) ∧ (∀ q, 0 ≤ q → q < (M0 222 26) → M 256 q = C0 526 q) ∧ ∀ k, 0 ≤ k → k < (M0 222 86) → g_OD C0 M0 M k
theorem g_MB.u {C0 M0 M : ax_V} {j v : Int} (h : g_MB C0 M0 M) (hj : j ∈ g_KM) (hv : ax_rg v) : g_MB C0 M0 (ax_u M 222 j v) := ⟨h.1.u (by decide), h.2.1.u hj, ax_u_g h.2.2.1 hv, fun q a b o => by rw [ax_u_ne (by decide)]; exact h.2.2.2 q a b o⟩
theorem g_EA.at {C0 M0 M M' : ax_V} {D : Int → Prop} (h : g_EA C0 M0 M D) (h8 : M' 238 = M 238) (h9 : M' 239 = M 239) : g_EA C0 M0 M' D := by
  unfold g_EA at *
  rw [h8, h9]
  exact h
/-- behind a kind -/
theorem s_after {V3 : ax_V} {k : Int} {X : ax_V → Prop} {P : ax_V → Prop} (hg : ax_g V3) (rk : ax_rg k) {A : Int → Prop} (hA : ∀ t, t < 701 → (m_nb V3 ≤ t ↔ (700 ≤ t ∨ A t)))
    (h0 : ∀ V5, g_fr [222] V3 V5 → g_sc [88, 89] V3 V5 → ax_g V5 → V5 222 73 = -1 → (∀ t, t < 700 → ¬ A t) → X V5)
    (h1 : ∀ V5, g_fr [222] V3 V5 → g_sc [88, 89] V3 V5 → ax_g V5 → V5 222 88 = k → (V5 222 89 < 700 ∧ ∀ t, t < 700 → (V5 222 89 ≤ t ↔ A t)) → P V5) :
    ∀ V4, V4 = ax_u V3 222 88 k → ∀ V5, V5 = ax_u V4 222 89 (V4 222 73) → ((V5 222 73 = -1 → X V5) ∧ (¬ V5 222 73 = -1 → P V5)) := by
  intro V4 e4 V5 e5
  have n4 : V4 222 73 = V3 222 73 := by rw [e4, ax_u_k (by decide)]
  have n5 : V5 222 73 = V3 222 73 := by rw [e5, ax_u_k (by decide), n4]
  have p5 : V5 222 89 = V3 222 73 := by rw [e5, ax_u_s, n4]
  have k5 : V5 222 88 = k := by rw [e5, ax_u_k (by decide), e4, ax_u_s]
  have f5 : g_fr [222] V3 V5 := by rw [e5, e4]; exact ((g_fr.rf _ _).u (by decide)).u (by decide)
  have s5 : g_sc [88, 89] V3 V5 := by rw [e5, e4]; exact ((g_sc.rf _ _).u (by decide)).u (by decide)
  have g5 : ax_g V5 := by rw [e5, e4]; exact ax_u_g (ax_u_g hg rk) (by rw [ax_u_k (by decide)]; exact hg _ _)
  have r := hg 222 73
  rw [n5]
  refine ⟨fun z => h0 V5 f5 s5 g5 (by rw [n5]; exact z) (fun t w y => ?_), fun z => h1 V5 f5 s5 g5 k5 ?_⟩
  · have := (hA t (by omega)).mpr (Or.inr y)
    unfold m_nb at this
    rw [if_pos z] at this
    omega
  · have lt : V3 222 73 < 700 := by
      by_cases w : V3 222 73 < 700
      · exact w
      · have := (hA 700 (by decide)).mpr (Or.inl (by decide))
        unfold m_nb at this
        rw [if_neg z, if_neg w] at this
        omega
    rw [p5]
    refine ⟨lt, fun t w => ?_⟩
    have q := hA t (by omega)
    unfold m_nb at q
    rw [if_neg z, if_pos lt] at q
    rw [q]
    exact ⟨fun y => by rcases y with y | y; omega; exact y, fun y => Or.inr y⟩
section JudgeC
variable {d : Nat} {C0 M0 C2 : ax_V} {F G : Int → Int} {Φ : Int → ax_V → Prop} {Θ : ax_V → Prop}
theorem g_S.hcl (hS : g_S C0 M0) {H : Int → Int} (n4 : ∀ t, t < 700 → ¬ g_FA C0 M0 F G H 4 t) {e i : Int} (a : g_of M0 e i) : M0 235 (26 * M0 258 e + M0 265 i) = M0 235 (26 * M0 258 e + M0 265 (M0 259 e)) := by
  have nd := hS.node a.1.1 a.1.2
  have il := hS.ofl a
  have pl := (hS.h il.1 il.2).2.2.2
  exact Classical.byContradiction fun z => n4 699 (by decide) ((g_FA4 699).mpr ⟨M0 258 e, ⟨nd.1, nd.2.1⟩, Or.inr (Or.inr ⟨e, a.1, rfl, Or.inl (Or.inl ⟨i, a, z, by omega⟩)⟩)⟩)
/-- noted is none again -/
theorem m_nb_none {M : ax_V} {t : Int} (h : M 222 73 = -1) : m_nb M ≤ t ↔ 700 ≤ t := by
  unfold m_nb
  rw [if_pos h]
set_option maxHeartbeats 4000000 in
/-- the model judges -/
theorem s_judge (hS : g_S C0 M0) (hF : g_N2 M0 → g_F C0 M0 F) (hG : g_G M0 G) (hO : g_Own C0 M0 C2 (M0 222 52))
    (bad : ∀ k M', ax_g M' → g_fr g_YM M0 M' → g_sc g_KM M0 M' → M' 222 88 = k → g_FK C0 M0 F G (C2 543) k (M' 222 89) → Φ 0 M')
    (good : ∀ M', g_FN C0 M0 F G (C2 543) 7 → g_JM C0 M0 F G M' → ax_N ay_lay (d + 5) q_Model_settleClocks [.ref 222] M' (fun V1 => ax_N ay_lay (d + 5) q_Model_findSlots [.ref 222] V1 (fun V2 => Φ 1 V2) Θ) Θ) : k_Model_isModule_24 (d + 5) 2 M0 Φ Θ := by
  have tw := hS.2.2.2.1.2.2.2
  have m0 : m_nb M0 ≤ 700 := by
    unfold m_nb
    rcases tw with v | v
    · rw [if_pos v.1]; decide
    · have v2 := v.2
      rw [if_neg (by omega), if_pos (by omega)]; omega
  -- behind a kind: the frame
  have mb : ∀ {V3 V5 : ax_V}, g_MB C0 M0 V3 → g_fr [222] V3 V5 → g_sc [88, 89] V3 V5 → ax_g V5 → g_MB C0 M0 V5 := fun b f s g => ⟨b.1.tr (f.up (by decide)), fun j z => by rw [s j (fun y => z (by simp at y; rcases y with y | y <;> rw [y] <;> decide))]; exact b.2.1 j z, g, fun q x y o => by rw [f 251 (by decide)]; exact b.2.2.2 q x y o⟩
  have sb : ∀ {V3 V7 : ax_V} {L : List Nat}, (∀ c, c ∈ L → c ∈ g_YM) → ¬ 251 ∈ L → g_MB C0 M0 V3 → g_fr L V3 V7 → g_sc [73] V3 V7 → ax_g V7 → g_MB C0 M0 V7 := fun sub no b f s g => ⟨b.1.tr (f.up sub), fun j z => by rw [s j (fun y => z (by simp at y; rw [y]; decide))]; exact b.2.1 j z, g, fun q x y o => by rw [f 251 no]; exact b.2.2.2 q x y o⟩
  refine r_Model_isModule_24 hS.1.2 (by decide) ⟨fun z => absurd z (by decide), fun _ => ⟨fun _ => ?_, fun z => absurd z (by decide)⟩⟩
  refine s_kind2 (d := d) hS (fun M2 h2 => ?_)
  have b2 : g_MB C0 M0 M2 := ⟨h2.1.1.up (by decide), fun j z => h2.1.2.1 j (fun y => z (by simp at y; rcases y with y | y <;> rw [y] <;> decide)), h2.1.2.2.1, fun q x y o => h2.2.1 q x y trivial o⟩
  have x2 : M2 256 = M0 256 := h2.1.1 256 (by decide)
  have A2 : ∀ t, t < 701 → (m_nb M2 ≤ t ↔ (700 ≤ t ∨ g_FA C0 M0 F G (C2 543) 2 t)) := fun t w => by
    rw [h2.2.2.2 t w, g_FA2 t, hS.same2 t]
    exact ⟨fun z => Or.inr z, fun z => by rcases z with z | z; exact Or.inl (by omega); exact z⟩
  refine s_after (X := fun V => k_Model_isModule_24 (d + 5) (2 + 1) V Φ Θ) (P := fun V => Φ 0 V) b2.2.2.1 (by decide) A2 (fun V2 f2 s2 g2 z2 n2 => ?_) (fun V2 f2 s2 g2 k2 p2 => bad 2 V2 g2 (mb b2 f2 s2 g2).1 (mb b2 f2 s2 g2).2.1 k2 ⟨by decide, g_FN.two, p2⟩)
  have c2 := mb b2 f2 s2 g2
  have y2 : V2 256 = M0 256 := by rw [f2 256 (by decide)]; exact x2
  have a2 : g_EA C0 M0 V2 (fun _ => True) := h2.2.2.1.at (f2 238 (by decide)) (f2 239 (by decide))
  have N3 : g_FN C0 M0 F G (C2 543) 3 := g_FN.two.next n2
  have ok := hS.N2 n2
  -- kind 3
  refine r_Model_isModule_24 g2 (by decide) ⟨fun z => absurd z (by decide), fun _ => ⟨fun z => absurd z (by decide), fun _ W3 eW3 => ?_⟩⟩
  have d3 : g_MB C0 M0 W3 := by rw [eW3]; exact c2.u (by decide) (by decide)
  refine s_kind3 (d := d) hS ok (hF ok) d3 (T := fun t => 700 ≤ t) (fun t w => m_nb_none (by rw [eW3, ax_u_s])) (fun M3 h3 => ?_)
  have b3 := sb (by decide) (by decide) d3 h3.1.1 h3.1.2.1 h3.1.2.2
  refine s_after (X := fun V => k_Model_isModule_24 (d + 5) (2 + 1 + 1) V Φ Θ) (P := fun V => Φ 0 V) b3.2.2.1 (by decide) (A := g_FA C0 M0 F G (C2 543) 3) (fun t w => by rw [h3.2.2 t w, g_FA3 t]) (fun V3 f3 s3 g3 z3 n3 => ?_) (fun V3 f3 s3 g3 k3 p3 => bad 3 V3 g3 (mb b3 f3 s3 g3).1 (mb b3 f3 s3 g3).2.1 k3 ⟨by decide, N3, p3⟩)
  have c3 := mb b3 f3 s3 g3
  have k3 : ∀ c, c ≠ 222 → c ≠ 253 → V3 c = V2 c := fun c u v => by rw [f3 c (by simp; exact u), h3.1.1 c (by simp; exact ⟨u, v⟩), eW3, ax_u_ne u]
  have F3 : ∀ q, 0 ≤ q → q < (M0 222 26) → V3 253 q = F q := fun q x y => by rw [f3 253 (by decide)]; exact h3.2.1 q x y
  have N4 : g_FN C0 M0 F G (C2 543) 4 := N3.next n3
  -- kind 4
  refine r_Model_isModule_24 g3 (by decide) ⟨fun z => absurd z (by decide), fun _ => ⟨fun z => absurd z (by decide), fun _ W4 eW4 => ?_⟩⟩
  have d4 : g_MB C0 M0 W4 := by rw [eW4]; exact c3.u (by decide) (by decide)
  refine s_kind4 (d := d) hS hG d4 (T := fun t => 700 ≤ t) (fun t w => m_nb_none (by rw [eW4, ax_u_s])) (fun M4 h4 => ?_)
  have b4 := sb (by decide) (by decide) d4 h4.1.1 h4.1.2.1 h4.1.2.2
  refine s_after (X := fun V => k_Model_isModule_24 (d + 5) (2 + 1 + 1 + 1) V Φ Θ) (P := fun V => Φ 0 V) b4.2.2.1 (by decide) (A := g_FA C0 M0 F G (C2 543) 4) (fun t w => by rw [h4.2.2 t w, g_FA4 t]) (fun V4 f4 s4 g4 z4 n4 => ?_) (fun V4 f4 s4 g4 k4 p4 => bad 4 V4 g4 (mb b4 f4 s4 g4).1 (mb b4 f4 s4 g4).2.1 k4 ⟨by decide, N4, p4⟩)
  have c4 := mb b4 f4 s4 g4
  have k4 : ∀ c, c ≠ 222 → c ≠ 254 → V4 c = V3 c := fun c u v => by rw [f4 c (by simp; exact u), h4.1.1 c (by simp; exact ⟨u, v⟩), eW4, ax_u_ne u]
  have G4 : ∀ q, 0 ≤ q → q < (M0 222 26) → V4 254 q = G q := fun q x y => by rw [f4 254 (by decide)]; exact h4.2.1 q x y
  have N5 : g_FN C0 M0 F G (C2 543) 5 := N4.next n4
  -- kind 5
  refine r_Model_isModule_24 g4 (by decide) ⟨fun z => absurd z (by decide), fun _ => ⟨fun z => absurd z (by decide), fun _ W5 eW5 => ?_⟩⟩
  have d5 : g_MB C0 M0 W5 := by rw [eW5]; exact c4.u (by decide) (by decide)
  refine s_kind5 (d := d) hS ok hO d5 (T := fun t => 700 ≤ t) (fun t w => m_nb_none (by rw [eW5, ax_u_s])) (fun M5 h5 => ?_)
  have b5 := sb (by decide) (by decide) d5 h5.1.1 h5.1.2.1 h5.1.2.2
  refine s_after (X := fun V => k_Model_isModule_24 (d + 5) (2 + 1 + 1 + 1 + 1) V Φ Θ) (P := fun V => Φ 0 V) b5.2.2.1 (by decide) (A := g_FA C0 M0 F G (C2 543) 5) (fun t w => by rw [h5.2 t w, g_FA5 t]) (fun V5 f5 s5 g5 z5 n5 => ?_) (fun V5 f5 s5 g5 k5 p5 => bad 5 V5 g5 (mb b5 f5 s5 g5).1 (mb b5 f5 s5 g5).2.1 k5 ⟨by decide, N5, p5⟩)
  have c5 := mb b5 f5 s5 g5
  have k5 : ∀ c, c ≠ 222 → c ≠ 255 → c ≠ 282 → V5 c = V4 c := fun c u v w => by rw [f5 c (by simp; exact u), h5.1.1 c (by simp; exact ⟨u, v, w⟩), eW5, ax_u_ne u]
  have N6 : g_FN C0 M0 F G (C2 543) 6 := N5.next n5
  -- kind 6
  refine r_Model_isModule_24 g5 (by decide) ⟨fun z => absurd z (by decide), fun _ => ⟨fun z => absurd z (by decide), fun _ W6 eW6 => ?_⟩⟩
  have d6 : g_MB C0 M0 W6 := by rw [eW6]; exact c5.u (by decide) (by decide)
  have e39 : W6 239 = V2 239 := by rw [eW6, ax_u_ne (by decide), k5 239 (by decide) (by decide) (by decide), k4 239 (by decide) (by decide), k3 239 (by decide) (by decide)]
  have e38 : W6 238 = V2 238 := by rw [eW6, ax_u_ne (by decide), k5 238 (by decide) (by decide) (by decide), k4 238 (by decide) (by decide), k3 238 (by decide) (by decide)]
  have e56 : W6 256 = M0 256 := by rw [eW6, ax_u_ne (by decide), k5 256 (by decide) (by decide) (by decide), k4 256 (by decide) (by decide), k3 256 (by decide) (by decide)]; exact y2
  have a6 : g_EA C0 M0 W6 (fun _ => True) := a2.at e38 e39
  refine s_kind6 (d := d) hS d6 (fun q x y => by rw [e56]; exact hS.later x y) (fun n l y u v w x => hS.hm0 ok a6 (fun e i a => hS.hcl n4 a) u v w x) (T := fun t => 700 ≤ t) (fun t w => m_nb_none (by rw [eW6, ax_u_s])) (fun M6 h6 => ?_)
  have b6 := sb (by decide) (by decide) d6 h6.1.1 h6.1.2.1 h6.1.2.2
  refine s_after (X := fun V => k_Model_isModule_24 (d + 5) (2 + 1 + 1 + 1 + 1 + 1) V Φ Θ) (P := fun V => Φ 0 V) b6.2.2.1 (by decide) (A := g_FA C0 M0 F G (C2 543) 6) (fun t w => by rw [h6.2.2.2 t w, g_FA6 t]) (fun V6 f6 s6 g6 z6 n6 => ?_) (fun V6 f6 s6 g6 k6 p6 => bad 6 V6 g6 (mb b6 f6 s6 g6).1 (mb b6 f6 s6 g6).2.1 k6 ⟨by decide, N6, p6⟩)
  have c6 := mb b6 f6 s6 g6
  refine r_Model_isModule_24 g6 (by decide) ⟨fun _ => good V6 (N6.next n6) ⟨c6, ?_, fun q x y => ?_, fun q x y => ?_, fun q x y => ?_, fun k x y => ?_⟩, fun z => absurd z (by decide)⟩
  · exact a6.at (by rw [f6 238 (by decide), h6.1.1 238 (by decide)]) (by rw [f6 239 (by decide), h6.1.1 239 (by decide)])
  · rw [f6 253 (by decide), h6.1.1 253 (by decide), eW6, ax_u_ne (by decide), k5 253 (by decide) (by decide) (by decide), k4 253 (by decide) (by decide)]; exact F3 q x y
  · rw [f6 254 (by decide), h6.1.1 254 (by decide), eW6, ax_u_ne (by decide), k5 254 (by decide) (by decide) (by decide)]; exact G4 q x y
  · rw [f6 256 (by decide)]; exact h6.2.1 q x y
  · exact (h6.2.2.1 k x y).at (by rw [f6 284 (by decide)]) (fun s _ _ => by rw [f6 285 (by decide)])
end JudgeC
