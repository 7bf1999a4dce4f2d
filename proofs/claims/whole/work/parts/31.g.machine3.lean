/-! THE CLASS'S MACHINE: letters are told -/
section MachineC
variable {B d : Nat} {C0 M0 P V : ax_V} {F G Hh S U J : Int → Int} {n q e a b c : Int} {Φ : Int → ax_V → Prop} {Ψ Θ : ax_V → Prop}
/-- what the i-th letter of an equation gets -/
def h_gv (C M V : ax_V) (e i : Int) : Int := if M 260 e = 1 then V 151 (M 262 e) else V 152 (26 * C 520 (M 262 e) + M 231 (26 * C 520 (M 262 e) + (i - M 259 e)))
set_option maxHeartbeats 2000000 in
theorem t_assign (hS : g_S C0 M0) (ok : g_N2 M0) (n3 : ∀ t, t < 700 → ¬ g_FA C0 M0 F G Hh 3 t) (hP : ∀ c, 500 ≤ c → c ≤ 573 → V c = P c) (xP : g_fr g_XP C0 P) (hg : ax_g V) (n0 : 0 ≤ n) (n1 : n < (M0 222 86)) (e0 : 0 ≤ e) (e1 : e < (M0 222 44)) (en : M0 258 e = n) (hc : ∀ i, g_of M0 e i → M0 235 (26 * n + M0 265 i) = c) (hck : ¬ c = 0 → ∀ i, g_of M0 e i → ¬ M0 265 i = (c - 1) / 2)
    (h0 : ¬ (M0 263 e = -1 ∨ V 154 (M0 263 e) = C0 558 (M0 263 e) + M0 264 e) → Ψ V)
    (h1 : (M0 263 e = -1 ∨ V 154 (M0 263 e) = C0 558 (M0 263 e) + M0 264 e) → ∀ W, g_fr [152, 153] V W → ax_g W → (∀ x, (∀ i, g_of M0 e i → ¬ x = 26 * n + M0 265 i) → W 152 x = V 152 x ∧ W 153 x = V 153 x) → (∀ i, g_of M0 e i → (h_on (h_lv V n) c → W 153 (26 * n + M0 265 i) = 1 ∧ W 152 (26 * n + M0 265 i) = h_gv C0 M0 V e i) ∧ (¬ h_on (h_lv V n) c → W 153 (26 * n + M0 265 i) = 0)) → Ψ W) : ax_N (az_W B (az_EM B)) (d + 2) q_Machine_assign [.ref 150, ax_i e] V Ψ Θ := by
  have sm := hS.small
  have hN := hS.2.1
  have hB := hS.2.2.2.2.1
  have hct := hB.1
  have hc2 := hct.2.1
  have hc4 := hct.2.2.2.1
  have hat := hS.2.2.2.2.2.2.2
  have fe := hB.2.1 e e0 e1
  have fe3 := fe.2.2.1
  have fx1 := fe.2.2.2.2.2.1.1
  have be : 0 ≤ e ∧ e < 350 := ⟨e0, by omega⟩
  have be1 : 0 ≤ e ∧ e < 351 := ⟨e0, by omega⟩
  have ben : 0 ≤ e + 1 ∧ e + 1 < 351 := ⟨by omega, by omega⟩
  have re : ax_rg e := ⟨by omega, by omega⟩
  have n8 : 0 ≤ n ∧ n < 8 := ⟨n0, by omega⟩
  have tb : ∀ c, 500 ≤ c → c ≤ 573 → c ∉ g_XP → V c = C0 c := fun c a b z => by rw [hP c a b]; exact xP c z
  have tbW : ∀ {W : ax_V}, g_fr [152, 153] V W → ∀ c, 500 ≤ c → c ≤ 573 → c ∉ g_XP → W c = C0 c := fun f c a b z => by rw [f c (by simp; omega)]; exact tb c a b z
  have hd : ∀ i, M0 259 e ≤ i → i < M0 259 e + M0 260 e → g_of M0 e i := fun i a b => ⟨⟨e0, e1⟩, a, b⟩
  -- the letters
  have loop : (M0 263 e = -1 ∨ V 154 (M0 263 e) = C0 558 (M0 263 e) + M0 264 e) → ∀ x5, (x5 = 0 ∨ x5 = 1) → (x5 = 0 ↔ M0 260 e = 1) → ∀ y2 y7 y8, ax_y y2 → ax_y y7 → ax_y y8 → k_Machine_assign_95 B (d + 1) e y2 (M0 262 e) (M0 259 e) x5 (M0 259 e) y7 y8 V Ψ Θ := by
    intro act x5 h5 hx5 y2 y7 y8 hy2 hy7 hy8
    have r5 : ax_rg x5 := by rcases h5 with z | z <;> rw [z] <;> decide
    refine ax_for (I := fun i W => (M0 259 e ≤ i ∧ i ≤ M0 259 e + M0 260 e) ∧ g_fr [152, 153] V W ∧ ax_g W ∧ (∀ x, (∀ j, M0 259 e ≤ j → j < i → ¬ x = 26 * n + M0 265 j) → W 152 x = V 152 x ∧ W 153 x = V 153 x) ∧ (∀ j, M0 259 e ≤ j → j < i → (h_on (h_lv V n) c → W 153 (26 * n + M0 265 j) = 1 ∧ W 152 (26 * n + M0 265 j) = h_gv C0 M0 V e j) ∧ (¬ h_on (h_lv V n) c → W 153 (26 * n + M0 265 j) = 0))) (K := fun i W => ∀ y7 y8, ax_y y7 → ax_y y8 → k_Machine_assign_95 B (d + 1) e y2 (M0 262 e) (M0 259 e) x5 i y7 y8 W Ψ Θ) (hi := M0 259 e + M0 260 e) (fun i W w hI next y7 y8 hy7 hy8 => ?_) (fun i W w hI y7 y8 hy7 hy8 => ?_) (M0 259 e) V ⟨⟨Int.le_refl _, by omega⟩, g_fr.rf _ _, hg, fun _ _ => ⟨rfl, rfl⟩, fun j a b => by omega⟩ y7 y8 hy7 hy8
    · obtain ⟨hi, f1, g1, o1, k1⟩ := hI
      have u := fe.2.2.2.2.2.2 i hi.1 w
      rw [en] at u
      have u2 := u.2.1
      obtain ⟨l, el⟩ : ∃ l : Int, l = M0 265 i := ⟨_, rfl⟩
      rw [← el] at u2
      have bs : 0 ≤ 26 * n + l ∧ 26 * n + l < 208 := ⟨by omega, by omega⟩
      have cc := hc i (hd i hi.1 w)
      rw [← el] at cc
      have ck := hS.ck n0 n1 u2.1 u2.2
      rw [cc] at ck
      -- the clock's letter is none of them
      have on_eq : h_on (h_lv W n) c ↔ h_on (h_lv V n) c := by
        by_cases z : c = 0
        · exact ⟨fun _ => Or.inl z, fun _ => Or.inl z⟩
        · have e2 : ∀ (X : ax_V) l, h_lv X n 2 l = X 153 (26 * n + l) := fun X l => if_pos rfl
          have e1 : ∀ (X : ax_V) l, h_lv X n 1 l = X 152 (26 * n + l) := fun X l => if_neg (by decide)
          have oo := o1 (26 * n + (c - 1) / 2) (fun j a b y => hck z j (hd j a (by omega)) (by omega))
          unfold h_on
          rw [e2, e2, e1, e1, oo.1, oo.2]
      have no : ∀ j, M0 259 e ≤ j → j < i → ¬ M0 265 j = l := fun j a b y => by
        have := ok.once hS (e := e) (i := j) (j := i) (hd j a (by omega)) (hd i hi.1 w) (by rw [y, el])
        omega
      -- one of them
      have one : ∀ v, v = h_gv C0 M0 V e i → ax_rg v → k_Machine_assign_169 B (d + 1) e y2 (M0 262 e) (M0 259 e) x5 i (26 * n + l) v W Ψ Θ := by
        intro v hv rv
        refine r_Machine_assign_169 g1 re hy2 ⟨by omega, by omega⟩ ⟨by omega, by omega⟩ r5 ⟨by omega, by omega⟩ ⟨by omega, by omega⟩ rv ⟨bs, ?_⟩
        rw [tbW f1 536 (by decide) (by decide) (by decide), ck.1]
        refine t_isPresent g1 n8 ck.2 (fun on => ⟨bs, Or.inr rfl, fun W2 e2 => ⟨bs, ?_⟩⟩) (fun on => ⟨bs, Or.inl rfl, fun W2 e2 => ⟨bs, ?_⟩⟩)
        · rw [show W2 153 (26 * n + l) = 1 by rw [e2, ax_u_s]]
          refine ⟨fun z => absurd z (by decide), fun _ => ⟨bs, fun W4 e4 => next W4 ⟨⟨by omega, by omega⟩, by rw [e4, e2]; exact (f1.u (by decide)).u (by decide), by rw [e4, e2]; exact ax_u_g (ax_u_g g1 (by decide)) rv, fun x hx => ?_, fun j a b => ?_⟩ _ _ (ax_y_i _) (ax_y_i _)⟩⟩
          · have xl : ¬ x = 26 * n + l := fun y => hx i hi.1 (by omega) (by rw [y, el])
            rw [e4, ax_u_k xl, ax_u_ne (by decide), e2, ax_u_k xl, ax_u_ne (by decide)]
            exact o1 x (fun j a b => hx j a (by omega))
          · by_cases ji : j = i
            · rw [ji, ← el, e4, ax_u_s, ax_u_ne (by decide), e2, ax_u_s]
              exact ⟨fun _ => ⟨rfl, hv⟩, fun z => absurd (on_eq.mp on) z⟩
            · have nl : ¬ 26 * n + M0 265 j = 26 * n + l := fun y => no j a (by omega) (by omega)
              rw [e4, ax_u_k nl, ax_u_ne (by decide), e2, ax_u_k nl, ax_u_ne (by decide)]
              exact k1 j a (by omega)
        · rw [show W2 153 (26 * n + l) = 0 by rw [e2, ax_u_s]]
          refine ⟨fun _ => ⟨bs, fun W4 e4 => next W4 ⟨⟨by omega, by omega⟩, by rw [e4, e2]; exact (f1.u (by decide)).u (by decide), by rw [e4, e2]; exact ax_u_g (ax_u_g g1 (by decide)) (by decide), fun x hx => ?_, fun j a b => ?_⟩ _ _ (ax_y_i _) (ax_y_i _)⟩, fun z => absurd rfl z⟩
          · have xl : ¬ x = 26 * n + l := fun y => hx i hi.1 (by omega) (by rw [y, el])
            rw [e4, ax_u_k xl, ax_u_ne (by decide), e2, ax_u_k xl, ax_u_ne (by decide)]
            exact o1 x (fun j a b => hx j a (by omega))
          · by_cases ji : j = i
            · rw [ji, ← el, e4, ax_u_ne (by decide), e2, ax_u_s]
              exact ⟨fun z => absurd (on_eq.mpr z) on, fun _ => rfl⟩
            · have nl : ¬ 26 * n + M0 265 j = 26 * n + l := fun y => no j a (by omega) (by omega)
              rw [e4, ax_u_k nl, ax_u_ne (by decide), e2, ax_u_k nl, ax_u_ne (by decide)]
              exact k1 j a (by omega)
      refine r_Machine_assign_95 g1 re hy2 ⟨by omega, by omega⟩ ⟨by omega, by omega⟩ r5 ⟨by omega, by omega⟩ hy7 hy8 ⟨ben, ?_⟩
      rw [tbW f1 548 (by decide) (by decide) (by decide), fe.2.1.2, tbW f1 554 (by decide) (by decide) (by decide), u.1, ← el, tbW f1 520 (by decide) (by decide) (by decide), tbW f1 507 (by decide) (by decide) (by decide)]
      refine ⟨fun z => by omega, fun _ => ⟨⟨by omega, by omega⟩, ⟨by omega, by omega⟩, fun z => ?_, fun z => ?_⟩⟩
      · refine one _ ?_ (g1 _ _)
        unfold h_gv
        rw [if_pos (hx5.mp z), f1 151 (by decide)]
      · have mz : ¬ M0 260 e = 1 := fun y => z (hx5.mpr y)
        have my := hS.many n3 e0 e1 mz
        have cw := ok.call hS (q := M0 262 e) (by omega) fx1.2.2 my.1
        have wn := (hS.pnode (q := M0 262 e) (by omega) fx1.2.2).1
        have wq : M0 250 (M0 262 e) = n := by rw [(fe.2.2.2.2.2.1.2.2 (M0 262 e) fx1.2.1 (Int.le_refl _)).1.1]; exact en
        have op := hS.outp (n := C0 520 (M0 262 e)) (i := i - M0 259 e) cw.1 (by omega) (by omega) (by omega)
        rw [show C0 520 (M0 262 e) * 26 + (i - M0 259 e) = 26 * C0 520 (M0 262 e) + (i - M0 259 e) by omega, op.1]
        refine ⟨⟨by omega, by omega⟩, ⟨by omega, by omega⟩, ⟨by omega, by omega⟩, one _ ?_ (g1 _ _)⟩
        unfold h_gv
        rw [if_neg mz]
        exact (o1 _ (fun j a b y => by
          have v2 := (fe.2.2.2.2.2.2 j a (by omega)).2.1
          omega)).1
    · obtain ⟨hi, f1, g1, o1, k1⟩ := hI
      have ei : i = M0 259 e + M0 260 e := by omega
      refine r_Machine_assign_95 g1 re hy2 ⟨by omega, by omega⟩ ⟨by omega, by omega⟩ r5 ⟨by omega, by omega⟩ hy7 hy8 ⟨ben, ?_⟩
      rw [tbW f1 548 (by decide) (by decide) (by decide), fe.2.1.2]
      refine ⟨fun _ => h1 act W f1 g1 (fun x hx => o1 x (fun j a b => hx j (hd j a (by omega)))) (fun j oj => k1 j oj.2.1 (by have := oj.2.2; omega)), fun z => by omega⟩
  -- one letter or several
  have go : (M0 263 e = -1 ∨ V 154 (M0 263 e) = C0 558 (M0 263 e) + M0 264 e) → ∀ y2 y3 y4 y5 y6 y7 y8, ax_y y2 → ax_y y3 → ax_y y4 → ax_y y5 → ax_y y6 → ax_y y7 → ax_y y8 → k_Machine_assign_34 B (d + 1) e y2 y3 y4 y5 y6 y7 y8 V Ψ Θ := by
    intro act y2 y3 y4 y5 y6 y7 y8 hy2 hy3 hy4 hy5 hy6 hy7 hy8
    refine r_Machine_assign_34 hg re hy2 hy3 hy4 hy5 hy6 hy7 hy8 ⟨be, be1, ben, ?_⟩
    rw [tb 548 (by decide) (by decide) (by decide), fe.2.1.1, fe.2.1.2, tb 550 (by decide) (by decide) (by decide), fe.2.2.2.1.2.1]
    refine ⟨⟨by omega, by omega⟩, fun z => loop act 0 (Or.inl rfl) ⟨fun _ => by omega, fun _ => rfl⟩ _ _ _ hy2 hy7 hy8, fun z => ?_⟩
    have my := hS.many n3 e0 e1 (by omega)
    have cw := ok.call hS (q := M0 262 e) (by omega) fx1.2.2 my.1
    have wn := (hS.pnode (q := M0 262 e) (by omega) fx1.2.2).1
    have oc := hS.eopc (q := M0 262 e) (by omega) fx1.2.2
    have b7 : 0 ≤ M0 262 e ∧ M0 262 e < 700 := ⟨by omega, by omega⟩
    refine r_Parts_isCall hg ⟨by omega, by omega⟩ ⟨b7, ?_⟩
    rw [tb 517 (by decide) (by decide) (by decide), tb 520 (by decide) (by decide) (by decide)]
    refine ⟨fun _ => ⟨b7, fun y => by omega, fun _ => ⟨b7, fun y => by omega, fun _ => ⟨fun y => absurd y (by decide), fun _ => loop act 1 (Or.inr rfl) ⟨fun y => absurd y (by decide), fun y => by omega⟩ _ _ _ hy2 hy7 hy8⟩⟩⟩, fun y => by omega⟩
  refine r_Machine_assign hg re ⟨be, ?_⟩
  rw [tb 551 (by decide) (by decide) (by decide), tb 563 (by decide) (by decide) (by decide)]
  refine ⟨fun z => go (Or.inl ((hS.ea e0 e1).mp z)) _ _ _ _ _ _ _ (ax_y_i _) ax_y_n ax_y_n ax_y_n ax_y_n ax_y_n ax_y_n, fun z => ?_⟩
  rcases fe.2.2.2.2.1 with y | ⟨y1, y2, y3, y4, y5, y6, y7⟩
  · exact absurd y.1 z
  · have a9 : M0 263 e < (M0 222 55) := by have := hct.2.2.1; omega
    have fa := hS.au y1 a9
    have f3 := fa.1.2.2.1
    have ow := (fa.1.2.2.2.2.2 (C0 551 e) (by omega) y5).1
    rw [ow]
    refine ⟨⟨by omega, by omega⟩, ⟨y1, by omega⟩, fun w => go (Or.inr (by omega)) _ _ _ _ _ _ _ (ax_y_i _) ax_y_n ax_y_n ax_y_n ax_y_n ax_y_n ax_y_n, fun w => h0 (fun u => by rcases u with u | u; omega; omega)⟩
end MachineC
