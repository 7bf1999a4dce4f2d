/-! THE MODULE ON BOTH SIDES, by numbers -/
def ax_RI (lay : ax_Lay) (d key : Nat) (vs : List Value) (V : ax_V) (x : Int) (V' : ax_V) : Prop := ∀ ss, lay ss → ai_Ex ai_P0 d key vs (ax_w ss V) (some (ax_i x), ax_w ss V')
def ax_RN (lay : ax_Lay) (d key : Nat) (vs : List Value) (V V' : ax_V) : Prop := ∀ ss, lay ss → ai_Ex ai_P0 d key vs (ax_w ss V) (none, ax_w ss V')
theorem ax_I.ex1 {lay : ax_Lay} {d key : Nat} {vs : List Value} {V : ax_V} {Φ : Int → ax_V → Prop} (h : ax_I lay d key vs V Φ (fun _ => False)) : ∃ x V', ax_rg x ∧ ax_g V' ∧ Φ x V' ∧ ax_RI lay d key vs V x V' := by
  rcases h with ⟨r, V', a, b, ⟨x, e, rx, c⟩, k⟩ | ⟨V', b, c, k⟩
  · exact ⟨x, V', rx, b, c, fun ss hs => by have u := k ss hs; rw [e] at u; exact u⟩
  · exact c.elim
theorem ax_N.ex1 {lay : ax_Lay} {d key : Nat} {vs : List Value} {V : ax_V} {Φ : ax_V → Prop} (h : ax_N lay d key vs V Φ (fun _ => False)) : ∃ V', ax_g V' ∧ Φ V' ∧ ax_RN lay d key vs V V' := by
  rcases h with ⟨r, V', a, b, ⟨e, c⟩, k⟩ | ⟨V', b, c, k⟩
  · exact ⟨V', b, c, fun ss hs => by have u := k ss hs; rw [e] at u; exact u⟩
  · exact c.elim
/-- what isModule leaves as it is -/
def y_mf (M M' : ax_V) : Prop := (∀ c, (c < 226 ∨ 290 < c) → ¬ c = 222 → M' c = M c) ∧ ∀ j, (j ≤ 9 ∨ 90 ≤ j) → M' 222 j = M 222 j
section Joint
variable {B r r2 r3 : Nat} {C M C1 M1 C2 : ax_V} {F G H : Int → Int} {k p : Int}
theorem g_FK.uniq {k' p' : Int} (h : g_FK C M F G H k p) (h' : g_FK C M F G H k' p') : k' = k ∧ p' = p := by
  obtain ⟨a1, a2, a3, a4⟩ := h
  obtain ⟨b1, b2, b3, b4⟩ := h'
  have ha := (a4 p a3).mp (Int.le_refl _)
  have hb := (b4 p' b3).mp (Int.le_refl _)
  have ek : k' = k := by
    rcases Int.lt_trichotomy k' k with z | z | z
    · exact absurd hb (a2 k' p' (by omega) z b3)
    · exact z
    · exact absurd ha (b2 k p (by omega) z a3)
  rw [ek] at b4 hb
  have u := (a4 p' b3).mpr hb
  have v := (b4 p a3).mpr ha
  exact ⟨ek, by omega⟩
theorem g_FK.no (h : g_FK C M F G H k p) (h' : g_FN C M F G H 7) : False := h' k p (by have := h.1; omega) (by have := h.1; omega) h.2.2.1 ((h.2.2.2 p h.2.2.1).mp (Int.le_refl _))
theorem y_judge (hS : g_S C1 M1) (hF : g_N2 M1 → g_F C1 M1 F) (hG : g_G M1 G) : ∃ k C', ax_rg k ∧ ax_g C' ∧ (∃ C2, (g_Own C1 M1 C2 (M1 222 52) ∧ g_fr g_XJ C1 C' ∧ g_FK C1 M1 F G (C2 543) k (C' 601 5)) ∨ (k = 0 ∧ g_FN C1 M1 F G (C2 543) 7 ∧ g_JC C1 M1 F G C2 C')) ∧ ax_RI (az_W B (az_EJ B r2)) 8 q_Judge_judge [.ref r2, ax_i ((C1 600 7))] C1 k C' := by
  have rt : ax_rg (C1 600 7) := hS.1.1 _ _
  have tw := hS.2.2.2.1.2.2.2
  have nb : m_nb M1 = (C1 600 7) := by
    unfold m_nb
    rcases tw with v | v
    · rw [if_pos v.1, v.2]
    · have v2 := v.2
      rw [if_neg (by omega), if_pos (by omega), v.1]
  refine ax_I.ex1 (r_Judge_judge (d := 7) hS.1.1 rt (fun V1 e1 => ?_))
  refine t_judge (d := 0) hS hF hG (by rw [e1]; exact (g_fr.rf _ _).u (by decide)) (by rw [e1]; exact ax_u_g hS.1.1 rt) (fun t => ?_) (ax_y_i _) (fun k C2 C' o g f fk => ⟨C2, Or.inl ⟨o, f, fk⟩⟩) (fun C2 C' fn jc => ⟨C2, Or.inr ⟨rfl, fn, jc⟩⟩) none ax_y_n
  rw [nb, e1, ax_u_s]
/-- the three ways a module goes -/
def y_way (B r r2 r3 : Nat) (C M : ax_V) : Prop :=
  (∃ C1 M', (ax_g C1 ∧ ax_g M') ∧ (∀ ss, az_W B (az_ER B r) ss → ai_Ex ai_P0 423 q_Reader_read [.ref r] (ax_w ss C) (some (ax_i 0), ax_w (ss ++ [ax_ex]) C1)) ∧ ax_RI ay_lay 426 q_Model_isModule [.ref 222] M 0 M' ∧ f_fC C C1 ∧ y_mf M M' ∧ M' 222 88 = 1 ∧ M' 222 89 = (C1 600 6)) ∨
  (∃ C1 C2 M' k, (ax_g C1 ∧ ax_g C2 ∧ ax_g M') ∧ ax_RI (az_W B (az_ER B r)) 423 q_Reader_read [.ref r] C 1 C1 ∧ ax_RI (az_W B (az_EJ B r2)) 8 q_Judge_judge [.ref r2, ax_i ((C1 600 7))] C1 k C2 ∧ ax_RI ay_lay 426 q_Model_isModule [.ref 222] M 0 M' ∧ (2 ≤ k ∧ k ≤ 6) ∧ f_fC C C1 ∧ g_fr g_XJ C1 C2 ∧ y_mf M M' ∧ M' 222 88 = k ∧ M' 222 89 = (C2 601 5)) ∨
  ∃ C1 M1 C2 M', (ax_g C1 ∧ ax_g C2 ∧ ax_g M') ∧ ax_RI (az_W B (az_ER B r)) 423 q_Reader_read [.ref r] C 1 C1 ∧ ax_RI (az_W B (az_EJ B r2)) 8 q_Judge_judge [.ref r2, ax_i ((C1 600 7))] C1 0 C2 ∧ ax_RI ay_lay 426 q_Model_isModule [.ref 222] M 1 M' ∧ f_fC C C1 ∧ g_fr g_XJ C1 C2 ∧ y_mf M M' ∧ M' 222 86 = (M1 222 86) ∧
    ∃ (F G Hh S U J : Int → Int), h_RM C1 M1 S U J (M' 290) M' ∧ ∀ V, g_fr [602] C2 V → ax_g V → V 602 5 = 0 → ∃ P, ax_g P ∧ ax_RN (az_W B (az_EL B r3)) 7 q_Planner_plan [.ref r3] V P ∧ g_PL C1 M1 U J G S P (M1 222 86) ∧ (∀ q, 0 ≤ q → q < (M1 222 26) → P 528 q = F q) ∧ h_X C1 M1 P F G Hh S U J (M' 290)
set_option maxHeartbeats 1000000 in
theorem y_joint (hM : ax_g M) (h : f_st0 C (ax_u M 222 88 1)) : y_way B r r2 r3 C M := by
  have mf0 : ∀ {M1 : ax_V}, f_fM (ax_u M 222 88 1) M1 → y_mf M M1 := fun f => ⟨fun c a b => by rw [f.1 c a b, ax_u_ne b], fun j a => by rw [f.2 j (by omega), ax_u_k (by omega)]⟩
  have mfJ : ∀ {M1 M' : ax_V}, y_mf M M1 → g_fr g_YM M1 M' → g_sc g_KM M1 M' → y_mf M M' := fun a f s => ⟨fun c u v => by rw [f c (by simp only [List.mem_cons, List.not_mem_nil, or_false, not_or]; omega)]; exact a.1 c u v, fun j u => by rw [s j (by simp only [List.mem_cons, List.not_mem_nil, or_false, not_or]; omega)]; exact a.2 j u⟩
  rcases f_read (B := B) (r := r) h with ⟨C1, M1, a, b, q⟩ | ⟨C1, M1, a, b, q⟩
  · have hS : g_S C1 M1 := f_M.S q
    have ff := q.1.2.2.2.2.2.2.1
    have y1 := mf0 ff.2
    have rd : ax_RI (az_W B (az_ER B r)) 423 q_Reader_read [.ref r] C 1 C1 := by
      rcases a (fun x W => x = 1 ∧ W = C1) (fun _ => False) ⟨rfl, rfl⟩ with ⟨x, V', _, _, ⟨ex, eV⟩, k⟩ | ⟨V', _, z, _⟩
      · rw [ex, eV] at k; exact k
      · exact z.elim
    obtain ⟨F, hF⟩ : ∃ F, g_N2 M1 → g_F C1 M1 F := by
      by_cases ok : g_N2 M1
      · obtain ⟨F, hF⟩ := hS.F ok
        exact ⟨F, fun _ => hF⟩
      · exact ⟨fun _ => 0, fun z => absurd z ok⟩
    obtain ⟨G, hG⟩ := hS.G
    obtain ⟨k, C', rk, g', ⟨C2, cs⟩, rj⟩ := y_judge (B := B) (r2 := r2) hS hF hG
    rcases cs with ⟨o, f, fk⟩ | ⟨k0, fn, jc⟩
    · obtain ⟨x, M', _, gM', ⟨ex, m8, m9, y'⟩, rm⟩ := ax_I.ex1 (r_Model_isModule (d := 425) (V := M) (Φ := fun x W => x = 0 ∧ W 222 88 = k ∧ W 222 89 = (C' 601 5) ∧ y_mf M W) (Θ := fun _ => False) hM (fun V1 e1 => by
        rw [e1]
        refine b _ _ ⟨fun z => absurd z (by decide), fun _ => s_judge (d := 420) hS hF hG o (fun k' M' gM fM sM ek fk' => ?_) (fun M' fn' jm => (fk.no fn').elim)⟩
        have u := fk.uniq fk'
        exact ⟨rfl, by rw [ek]; exact u.1, u.2, mfJ y1 fM sM⟩))
      rw [ex] at rm
      exact Or.inr (Or.inl ⟨C1, C', M', k, ⟨hS.1.1, g', gM'⟩, rd, rj, rm, fk.1, ff.1, f, y', m8, m9⟩)
    · have ok : g_N2 M1 := hS.N2 (fun t tl => fn 2 t (by decide) (by decide) tl)
      have n4 : ∀ t, t < 700 → ¬ g_FA C1 M1 F G (C2 543) 4 t := fun t tl => fn 4 t (by decide) (by decide) tl
      obtain ⟨S, hT, hr⟩ := hS.ST hG n4
      obtain ⟨U, J, hUJ⟩ := hS.UJ ok
      have o := jc.2.2.1
      obtain ⟨x, M', _, gM', ⟨ex, ⟨rm1, na, c86⟩, y'⟩, rm⟩ := ax_I.ex1 (r_Model_isModule (d := 425) (V := M) (Φ := fun x W => x = 1 ∧ (h_RM C1 M1 S U J (W 290) W ∧ g_NA C1 M1 U J W (M1 222 86) ∧ W 222 86 = (M1 222 86)) ∧ y_mf M W) (Θ := fun _ => False) hM (fun V1 e1 => by
        rw [e1]
        refine b _ _ ⟨fun z => absurd z (by decide), fun _ => s_judge (d := 420) hS hF hG o (fun k' M' gM fM sM ek fk' => (fk'.no fn).elim) (fun M' fn' jm => ?_)⟩
        refine ax_N.lay (fun _ z => z) (show 2 ≤ 425 by decide) (s_settle (d := 0) hS jm.1 hT (fun q => ⟨by have := hr q; omega, by have := hr q; omega⟩) jm.2.2.2.1 (fun V2 f2 g2 s2 => ?_))
        have mb2 : g_MB C1 M1 V2 := ⟨jm.1.1.tr (f2.up (by decide)), fun j z => by rw [f2 222 (by decide)]; exact jm.1.2.1 j z, g2, fun q x y z => by rw [f2 251 (by decide)]; exact jm.1.2.2.2 q x y z⟩
        refine ax_N.lay (fun _ z => z) (show 3 ≤ 425 by decide) (s_findSlots (d := 0) hS ok hUJ mb2 (fun W f3 g3 na => ?_))
        have e222 : ∀ j, j ∉ g_KM → W 222 j = M1 222 j := fun j z => by rw [f3 222 (by decide)]; exact mb2.2.1 j z
        refine ⟨rfl, ⟨h_RM.of jm f2 s2 f3 na, na, e222 86 (by decide)⟩, fun c u v => ?_, fun j u => ?_⟩
        · rw [f3 c (by simp only [List.mem_cons, List.not_mem_nil, or_false, not_or]; omega), mb2.1 c (by simp only [List.mem_cons, List.not_mem_nil, or_false, not_or]; omega)]
          exact y1.1 c u v
        · rw [e222 j (by simp only [List.mem_cons, List.not_mem_nil, or_false, not_or]; omega)]
          exact y1.2 j u))
      rw [ex] at rm
      rw [k0] at rj
      refine Or.inr (Or.inr ⟨C1, M1, C', M', ⟨hS.1.1, g', gM'⟩, rd, rj, rm, ff.1, jc.1, y', c86, F, G, C2 543, S, U, J, rm1, fun V f g z => ?_⟩)
      obtain ⟨P, gP, ⟨hP, h8⟩, rp⟩ := ax_N.ex1 (t_plan (B := B) (r := r3) (d := 0) (V := V) (Ψ := fun W => g_PL C1 M1 U J G S W (M1 222 86) ∧ W 528 = V 528) (Θ := fun _ => False) hS ok (fun t tl => fn 6 t (by decide) (by decide) tl) hUJ hT hr (fun e x y => hS.ecl n4 x y) (g_PL.zero hS jc f g z) (fun W hW h8 => ⟨hW, h8⟩))
      exact ⟨P, gP, rp, hP, fun q a b => by rw [h8, f 528 (by decide)]; exact jc.2.2.2.1 q a b, h_X.of hS ok fn (hF ok) hG hT hr hUJ hP na⟩
  · have ff := q.2.2
    obtain ⟨x, M', _, gM', ⟨ex, m8, m9, y'⟩, rm⟩ := ax_I.ex1 (r_Model_isModule (d := 425) (V := M) (Φ := fun x W => x = 0 ∧ W 222 88 = 1 ∧ W 222 89 = (C1 600 6) ∧ y_mf M W) (Θ := fun _ => False) hM (fun V1 e1 => by
      rw [e1]
      refine b _ _ ⟨fun _ V3 e3 => ?_, fun z => absurd rfl z⟩
      have y1 := mf0 ff.2
      refine ⟨rfl, ?_, by rw [e3, ax_u_s]; exact q.2.1.symm, fun c u v => by rw [e3, ax_u_ne v]; exact y1.1 c u v, fun j u => by rw [e3, ax_u_k (by omega)]; exact y1.2 j u⟩
      rw [e3, ax_u_k (by decide), ff.2.2 88 (by decide), ax_u_s]))
    rw [ex] at rm
    refine Or.inl ⟨C1, M', ⟨q.1.1, gM'⟩, fun ss hs => ?_, rm, ff.1, y', m8, m9⟩
    rcases a (fun _ _ => False) (fun W => W = C1) rfl with ⟨x, V', _, _, z, _⟩ | ⟨V', _, eV, k⟩
    · exact z.elim
    · rw [eV] at k; exact k ss hs
end Joint
