/-! THE MODEL'S TICK: moves -/
section ModelG
variable {d : Nat} {C0 M0 P V V0 V1 W X X' : ax_V} {F G Hh S U J Im : Int → Int} {n q e a b c lv f g m l fl x st z : Int} {k : Nat} {s t : Int → Prop} {R : h_R} {Φ : Int → ax_V → Prop} {Ψ Θ : ax_V → Prop}
/-- a state's parts, by their equation -/
theorem h_PS.eq (hS : g_S C0 M0) (e0 : 0 ≤ e) (e1 : e < (M0 222 44)) (ea : M0 261 e ≤ q) (eb : q ≤ M0 262 e) : h_PS M0 a z q ↔ (M0 263 e = a ∧ M0 264 e = z) := by
  have orr := hS.2.2.2.2.1.2.2.2.2.2.1.2.2.1
  constructor
  · rintro ⟨e', e'b, p1, p2, p3, p4⟩
    have : e' = e := by
      by_cases u : e' = e
      · exact u
      · by_cases w : e' < e
        · have := orr.1 e' e e'b.1 w e1; omega
        · have := orr.1 e e' e0 (by omega) e'b.2; omega
    rw [this] at p1 p2
    exact ⟨p1, p2⟩
  · exact fun y => ⟨e, ⟨e0, e1⟩, y.1, y.2, ea, eb⟩
theorem h_PS.node (hS : g_S C0 M0) (a0 : 0 ≤ a) (an : M0 267 a = n) (h : h_PS M0 a z q) : (0 ≤ q ∧ q < (M0 222 26)) ∧ M0 250 q = n := by
  obtain ⟨e, eb, p1, p2, p3, p4⟩ := h
  refine hS.eq eb.1 eb.2 ?_ p3 p4
  rcases hS.st eb.1 eb.2 with y | y
  · omega
  · rw [← y.2.2.2.2.2.2, p1]; exact an
theorem h_nx.at {r : Int → Int → Int} {y : Int} (nx : h_nx M0 r a x st y) (h : (m = -1 ∧ ∀ m', ¬ h_f1 M0 r a x st m') ∨ (0 ≤ m ∧ h_f1 M0 r a x st m)) : ((m = -1 ∧ y = st) ∨ (0 ≤ m ∧ y = M0 275 m)) ∧ ∀ z, h_rn M0 r a x st z ↔ (0 ≤ m ∧ ¬ M0 274 m = 0 ∧ M0 275 m = z) := by
  rcases h with ⟨m1, no⟩ | ⟨m0, yes⟩
  · refine ⟨Or.inl ⟨m1, ?_⟩, fun z => ⟨fun ⟨m', h', _⟩ => absurd h' (no m'), fun w => by omega⟩⟩
    rcases nx with ⟨m', h', -⟩ | h'
    · exact absurd h' (no m')
    · exact h'.2
  · refine ⟨Or.inr ⟨m0, ?_⟩, fun z => ⟨fun ⟨m', h', w⟩ => ?_, fun w => ⟨m, yes, w.2⟩⟩⟩
    · rcases nx with ⟨m', h', w⟩ | h'
      · rw [w, yes.uniq h']
      · exact absurd yes (h'.1 m)
    · rw [yes.uniq h']
      exact ⟨h'.1.1, w⟩
/-- cells of parts that are begun anew, and others -/
theorem h_cells (hX : h_X C0 M0 P F G Hh S U J Im) (hn : h_N M0 U J n) (a0 : 0 ≤ a) (an : M0 267 a = n) {p p' : Int → Int} (h1 : ∀ q i, h_PS M0 a z q → 0 ≤ i → i < g_vl C0 M0 U q → p' (b + (g_sp C0 M0 U n q.toNat + i)) = h_vf C0 M0 Im q i) (h2 : ∀ y, (∀ q i, h_PS M0 a z q → 0 ≤ i → i < g_vl C0 M0 U q → ¬ y = b + (g_sp C0 M0 U n q.toNat + i)) → p' y = p y) :
    (∀ e q j, 0 ≤ e → e < (M0 222 44) → M0 258 e = n → M0 261 e ≤ q → q ≤ M0 262 e → 0 ≤ j → j < g_vl C0 M0 U q → ((M0 263 e = a ∧ M0 264 e = z) → p' (b + (g_sp C0 M0 U n q.toNat + j)) = h_vf C0 M0 Im q j) ∧ (¬ (M0 263 e = a ∧ M0 264 e = z) → p' (b + (g_sp C0 M0 U n q.toNat + j)) = p (b + (g_sp C0 M0 U n q.toNat + j)))) ∧ ∀ i, i < g_ll M0 n 26 + g_ca M0 n ((M0 222 55)).toNat → p' (b + i) = p (b + i) := by
  have hS := hX.hS
  refine ⟨fun e q j e0 e1 en ea eb j0 j1 => ⟨fun y => h1 q j ((h_PS.eq hS e0 e1 ea eb).mpr y) j0 j1, fun y => h2 _ (fun q' i hq i0 i1 => ?_)⟩, fun i hi => h2 _ (fun q' i' hq i0 i1 => ?_)⟩
  · have qq := h_PS.node hS a0 an hq
    have q2 := hS.eq e0 e1 en ea eb
    have ne : ¬ q = q' := fun w => y ((h_PS.eq hS e0 e1 ea eb).mp (by rw [w]; exact hq))
    have sd := hX.sd (U := U) qq.1.1 qq.1.2 qq.2 q2.1.1 q2.1.2 q2.2 ne
    omega
  · have qq := h_PS.node hS a0 an hq
    have sp := hX.sp hn qq.1.1 qq.1.2 qq.2
    omega
set_option maxHeartbeats 1000000 in
theorem h_J.chosen (hX : h_X C0 M0 P F G Hh S U J Im) (hn : h_N M0 U J n) (hR : h_TK C0 M0 U S Im (k + 1) n R) (h : h_J C0 M0 U F S k n b lv V0 V s R) (te : ∀ v, t v ↔ (s v ∨ v = 2048 + a)) (a0 : 0 ≤ a) (a1 : a < (M0 222 55)) (an : M0 267 a = n) (new : ¬ s (2048 + a)) (noend : ∀ v, 3072 ≤ v → ¬ s v) (e6 : W 296 = V 296) (e0 : W 222 = V 222) (kl : W 293 = V 293 ∧ W 294 = V 294 ∧ W 295 = V 295) (k8 : W 298 (351 * lv + a) = R [] 3 a) (k8' : ∀ x, ¬ x = 351 * lv + a → W 298 x = V 298 x)
    (rn : (W 291 = V 291 ∧ W 292 = V 292 ∧ ∀ z, ¬ h_rn M0 (R []) a 1 (R [] 5 (h_sa M0 n a)) z) ∨ ∃ z, (∀ y, h_rn M0 (R []) a 1 (R [] 5 (h_sa M0 n a)) y ↔ y = z) ∧ (∀ q i, h_PS M0 a z q → 0 ≤ i → i < g_vl C0 M0 U q → W 292 (b + (g_sp C0 M0 U n q.toNat + i)) = h_vf C0 M0 Im q i ∧ W 291 (b + (g_sp C0 M0 U n q.toNat + i)) = h_vf C0 M0 Im q i) ∧ ∀ x, (∀ q i, h_PS M0 a z q → 0 ≤ i → i < g_vl C0 M0 U q → ¬ x = b + (g_sp C0 M0 U n q.toNat + i)) → W 292 x = V 292 x ∧ W 291 x = V 291 x) : h_J C0 M0 U F S k n b lv V0 W t R := by
  have hS := hX.hS
  have sm := hS.small
  obtain ⟨j1, j2, j3, j4, j5, j6, j8, j9⟩ := h
  have big : ∀ v, ¬ v = 2048 + a → (t v ↔ s v) := fun v hv => by rw [te]; exact ⟨fun z => by rcases z with z | z; exact z; exact absurd z hv, fun z => Or.inl z⟩
  have ta : t (2048 + a) := (te _).mpr (Or.inr rfl)
  have ef : h_fl W = h_fl V := by unfold h_fl; rw [e0]
  have aub : ∀ e, 0 ≤ e → e < (M0 222 44) → ¬ M0 263 e = -1 → 0 ≤ M0 263 e := fun e e0 e1 z => by
    rcases hS.st e0 e1 with y | y
    · exact absurd y.2.1 z
    · exact y.2.1.1
  -- the cells
  have low : ∀ i, i < g_ll M0 n 26 + g_ca M0 n ((M0 222 55)).toNat → W 291 (b + i) = V 291 (b + i) ∧ W 292 (b + i) = V 292 (b + i) := fun i hi => by
    rcases rn with ⟨r1, r2, -⟩ | ⟨z, r1, r2, r3⟩
    · rw [r1, r2]; exact ⟨rfl, rfl⟩
    · exact ⟨(h_cells hX hn a0 an (fun q i a b c => (r2 q i a b c).2) (fun x hx => (r3 x hx).2)).2 i hi, (h_cells hX hn a0 an (fun q i a b c => (r2 q i a b c).1) (fun x hx => (r3 x hx).1)).2 i hi⟩
  have oth : ∀ e q j, 0 ≤ e → e < (M0 222 44) → M0 258 e = n → M0 261 e ≤ q → q ≤ M0 262 e → 0 ≤ j → j < g_vl C0 M0 U q → ¬ M0 263 e = a → W 291 (b + (g_sp C0 M0 U n q.toNat + j)) = V 291 (b + (g_sp C0 M0 U n q.toNat + j)) ∧ W 292 (b + (g_sp C0 M0 U n q.toNat + j)) = V 292 (b + (g_sp C0 M0 U n q.toNat + j)) := fun e q j e0 e1 en ea eb jb0 jb1 ne => by
    rcases rn with ⟨r1, r2, -⟩ | ⟨z, r1, r2, r3⟩
    · rw [r1, r2]; exact ⟨rfl, rfl⟩
    · exact ⟨((h_cells hX hn a0 an (fun q i a b c => (r2 q i a b c).2) (fun x hx => (r3 x hx).2)).1 e q j e0 e1 en ea eb jb0 jb1).2 (fun w => ne w.1), ((h_cells hX hn a0 an (fun q i a b c => (r2 q i a b c).1) (fun x hx => (r3 x hx).1)).1 e q j e0 e1 en ea eb jb0 jb1).2 (fun w => ne w.1)⟩
  have own : ∀ e q j, 0 ≤ e → e < (M0 222 44) → M0 258 e = n → M0 261 e ≤ q → q ≤ M0 262 e → 0 ≤ j → j < g_vl C0 M0 U q → M0 263 e = a → V 291 (b + (g_sp C0 M0 U n q.toNat + j)) = R [] 5 (g_sp C0 M0 U n q.toNat + j) → V 292 (b + (g_sp C0 M0 U n q.toNat + j)) = R [] 5 (g_sp C0 M0 U n q.toNat + j) → W 291 (b + (g_sp C0 M0 U n q.toNat + j)) = R [] 7 (g_sp C0 M0 U n q.toNat + j) ∧ W 292 (b + (g_sp C0 M0 U n q.toNat + j)) = R [] 7 (g_sp C0 M0 U n q.toNat + j) := fun e q j e0 e1 en ea eb jb0 jb1 ee v1 v2 => by
    have r := (hR.2.2.2.2.2.1 e q j e0 e1 en ea eb jb0 jb1).1 (h_vf C0 M0 Im q j) rfl
    rw [ee] at r
    rcases rn with ⟨r1, r2, r3⟩ | ⟨z, r1, r2, r3⟩
    · rw [r1, r2, v1, v2, r.2.1 (r3 _)]; exact ⟨rfl, rfl⟩
    · have c1 := (h_cells hX hn a0 an (fun q i a b c => (r2 q i a b c).2) (fun x hx => (r3 x hx).2)).1 e q j e0 e1 en ea eb jb0 jb1
      have c2 := (h_cells hX hn a0 an (fun q i a b c => (r2 q i a b c).1) (fun x hx => (r3 x hx).1)).1 e q j e0 e1 en ea eb jb0 jb1
      by_cases y : M0 264 e = z
      · rw [c1.1 ⟨ee, y⟩, c2.1 ⟨ee, y⟩, r.1 ((r1 _).mpr y)]; exact ⟨rfl, rfl⟩
      · rw [c1.2 (fun w => y w.2), c2.2 (fun w => y w.2), v1, v2, r.2.1 (fun w => y ((r1 _).mp w))]; exact ⟨rfl, rfl⟩
  refine ⟨fun q q0 q1 qn sq ac => ?_, by unfold h_J2 h_mt; rw [kl.1, kl.2.1, kl.2.2]; exact j2, fun a' a0' a1' an' z => ?_, ⟨fun l l0 l1 hl => ?_, fun a' a0' a1' an' => ?_, fun e q j e0 e1 en ea eb jb0 jb1 nw => ?_⟩, ⟨fun l l0 l1 hl => ?_, fun a' a0' a1' an' => ?_, fun e q j e0 e1 en ea eb jb0 jb1 => ?_⟩, fun x hx => ?_, fun q q0 q1 qn o sq ac => ?_, fun e q e0 e1 ea eb sq au => ?_⟩
  · rw [e6]; exact j1 q q0 q1 qn ((big _ (by omega)).mp sq) ac
  · by_cases y : a' = a
    · rw [y]; exact k8
    · rw [k8' _ (by omega)]; exact j3 a' a0' a1' an' ((big _ (by omega)).mp z)
  · have u := (hX.l5 hn l0 l1 hl).2
    have c := (g_ca_b M0 n ((M0 222 55)).toNat).1
    rw [(low _ (by omega)).1]; exact j4.1 l l0 l1 hl
  · have u := (hX.a5 hn a0' a1' an').2
    have e : h_sa M0 n a' = g_ll M0 n 26 + g_ca M0 n a'.toNat := rfl
    rw [(low _ (by omega)).1]; exact j4.2.1 a' a0' a1' an'
  · have u := j4.2.2 e q j e0 e1 en ea eb jb0 jb1 (fun o y => nw o ((te _).mpr (Or.inl y)))
    by_cases ee : M0 263 e = a
    · have v5 := j5.2.2 e q j e0 e1 en ea eb jb0 jb1
      have nc : ¬ (M0 263 e = -1 ∨ s (2048 + M0 263 e)) := fun y => by
        rcases y with y | y
        · omega
        · rw [ee] at y; exact new y
      have nd : ¬ ((M0 241 q = 6 ∧ s (3072 + q)) ∨ (¬ M0 241 q = 6 ∧ s q)) := fun y => by
        have qq := hS.eq e0 e1 en ea eb
        rcases y with y | y
        · exact noend _ (by omega) y.2
        · exact nc (Or.inr (j9 e q e0 e1 ea eb y.2 (by omega)))
      have o := own e q j e0 e1 en ea eb jb0 jb1 ee (u.2 nc) (v5.2.2.2 (fun y => noend _ (by omega) y.2) nd nc)
      exact ⟨fun _ => o.1, fun y => absurd (Or.inr (by rw [ee]; exact ta)) y⟩
    · have o := oth e q j e0 e1 en ea eb jb0 jb1 ee
      rw [o.1]
      have ch : (M0 263 e = -1 ∨ t (2048 + M0 263 e)) ↔ (M0 263 e = -1 ∨ s (2048 + M0 263 e)) := by rw [big _ (by omega)]
      rw [ch]
      exact u
  · have u := (hX.l5 hn l0 l1 hl).2
    have c := (g_ca_b M0 n ((M0 222 55)).toNat).1
    have nn := hn.1
    rw [(low _ (by omega)).2, big _ (by omega)]; exact j5.1 l l0 l1 hl
  · have u := (hX.a5 hn a0' a1' an').2
    have e : h_sa M0 n a' = g_ll M0 n 26 + g_ca M0 n a'.toNat := rfl
    rw [(low _ (by omega)).2, big _ (by omega)]; exact j5.2.1 a' a0' a1' an'
  · have v5 := j5.2.2 e q j e0 e1 en ea eb jb0 jb1
    have qq := hS.eq e0 e1 en ea eb
    by_cases ee : M0 263 e = a
    · have nc : ¬ (M0 263 e = -1 ∨ s (2048 + M0 263 e)) := fun y => by
        rcases y with y | y
        · omega
        · rw [ee] at y; exact new y
      have ns : ¬ s q := fun y => nc (Or.inr (j9 e q e0 e1 ea eb y (by omega)))
      have nd : ¬ ((M0 241 q = 6 ∧ s (3072 + q)) ∨ (¬ M0 241 q = 6 ∧ s q)) := fun y => by
        rcases y with y | y
        · exact noend _ (by omega) y.2
        · exact ns y.2
      have u := j4.2.2 e q j e0 e1 en ea eb jb0 jb1 (fun _ => ns)
      have o := own e q j e0 e1 en ea eb jb0 jb1 ee (u.2 nc) (v5.2.2.2 (fun y => noend _ (by omega) y.2) nd nc)
      refine ⟨fun y => absurd ((big _ (by omega)).mp y.2) (noend _ (by omega)), fun _ y => ?_, fun _ _ _ => o.2, fun _ _ y => absurd (Or.inr (by rw [ee]; exact ta)) y⟩
      rcases y with y | y
      · exact absurd ((big _ (by omega)).mp y.2) (noend _ (by omega))
      · exact absurd ((big _ (by omega)).mp y.2) ns
    · refine v5.to (fun y => big _ (by have := aub e e0 e1 y; omega)) (fun _ => big _ (by omega)) (fun _ => big _ (by omega)) (fun _ => big _ (by omega)) (fun _ y => by rw [(oth e q j e0 e1 en ea eb jb0 jb1 ee).2]; exact y)
  · rw [ef, j6 x hx]
    constructor
    · rintro (y | ⟨q, qb, y1, y2, y3⟩ | ⟨q, qb, y1, y2, y3⟩)
      · exact Or.inl y
      · exact Or.inr (Or.inl ⟨q, qb, y1, (te _).mpr (Or.inl y2), y3⟩)
      · exact Or.inr (Or.inr ⟨q, qb, y1, (te _).mpr (Or.inl y2), y3⟩)
    · rintro (y | ⟨q, qb, y1, y2, y3⟩ | ⟨q, qb, y1, y2, y3⟩)
      · exact Or.inl y
      · exact Or.inr (Or.inl ⟨q, qb, y1, (big _ (by omega)).mp y2, y3⟩)
      · exact Or.inr (Or.inr ⟨q, qb, y1, (big _ (by omega)).mp y2, y3⟩)
  · exact j8 q q0 q1 qn o ((big _ (by omega)).mp sq) ac
  · have qq := (hS.2.2.2.2.1.2.1 e e0 e1).2.2.2.2.2.1.1
    exact (te _).mpr (Or.inl (j9 e q e0 e1 ea eb ((big _ (by omega)).mp sq) au))
set_option maxHeartbeats 1000000 in
theorem h_J.left (hX : h_X C0 M0 P F G Hh S U J Im) (hn : h_N M0 U J n) (hR : h_TK C0 M0 U S Im (k + 1) n R) (h : h_J C0 M0 U F S k n b lv V0 V s R) (te : ∀ v, t v ↔ (s v ∨ v = 5120 + a)) (a0 : 0 ≤ a) (a1 : a < (M0 222 55)) (an : M0 267 a = n) (new : ¬ s (5120 + a)) (done : ∀ e q, 0 ≤ e → e < (M0 222 44) → M0 263 e = a → M0 261 e ≤ q → q ≤ M0 262 e → (M0 241 q = 6 ∧ s (3072 + q)) ∨ (¬ M0 241 q = 6 ∧ s q)) (e1' : W 291 = V 291) (e6 : W 296 = V 296) (e0 : W 222 = V 222) (kl : W 293 = V 293 ∧ W 294 = V 294 ∧ W 295 = V 295) (k8 : W 298 = V 298) (aw : W 292 (b + h_sa M0 n a) = R [] 6 (h_sa M0 n a))
    (rn : ((∀ x, ¬ x = b + h_sa M0 n a → W 292 x = V 292 x) ∧ ∀ z, ¬ h_rn M0 (R []) a 0 (R [] 3 a) z) ∨ ∃ z, (∀ y, h_rn M0 (R []) a 0 (R [] 3 a) y ↔ y = z) ∧ (∀ q i, h_PS M0 a z q → 0 ≤ i → i < g_vl C0 M0 U q → W 292 (b + (g_sp C0 M0 U n q.toNat + i)) = h_vf C0 M0 Im q i) ∧ ∀ x, ¬ x = b + h_sa M0 n a → (∀ q i, h_PS M0 a z q → 0 ≤ i → i < g_vl C0 M0 U q → ¬ x = b + (g_sp C0 M0 U n q.toNat + i)) → W 292 x = V 292 x) : h_J C0 M0 U F S k n b lv V0 W t R := by
  have hS := hX.hS
  have sm := hS.small
  have nn := hn.1
  have hN := hS.2.1
  obtain ⟨j1, j2, j3, j4, j5, j6, j8, j9⟩ := h
  have big : ∀ v, ¬ v = 5120 + a → (t v ↔ s v) := fun v hv => by rw [te]; exact ⟨fun z => by rcases z with z | z; exact z; exact absurd z hv, fun z => Or.inl z⟩
  have ta : t (5120 + a) := (te _).mpr (Or.inr rfl)
  have ef : h_fl W = h_fl V := by unfold h_fl; rw [e0]
  have sa : h_sa M0 n a = g_ll M0 n 26 + g_ca M0 n a.toNat := rfl
  have ca := (hX.a5 hn a0 a1 an).2
  have aub : ∀ e, 0 ≤ e → e < (M0 222 44) → ¬ M0 263 e = -1 → 0 ≤ M0 263 e ∧ M0 263 e < (M0 222 55) := fun e e0 e1 z => by
    rcases hS.st e0 e1 with y | y
    · exact absurd y.2.1 z
    · exact y.2.1
  have low : ∀ i, i < g_ll M0 n 26 + g_ca M0 n ((M0 222 55)).toNat → ¬ i = h_sa M0 n a → W 292 (b + i) = V 292 (b + i) := fun i hi ne => by
    rcases rn with ⟨r1, -⟩ | ⟨z, r1, r2, r3⟩
    · exact r1 _ (by omega)
    · refine r3 _ (by omega) (fun q i' hq i0 i1 => ?_)
      have qq := h_PS.node hS a0 an hq
      have sp := hX.sp hn qq.1.1 qq.1.2 qq.2
      omega
  have part : ∀ e q j, 0 ≤ e → e < (M0 222 44) → M0 258 e = n → M0 261 e ≤ q → q ≤ M0 262 e → 0 ≤ j → j < g_vl C0 M0 U q → (¬ M0 263 e = a → W 292 (b + (g_sp C0 M0 U n q.toNat + j)) = V 292 (b + (g_sp C0 M0 U n q.toNat + j))) ∧ (M0 263 e = a → V 292 (b + (g_sp C0 M0 U n q.toNat + j)) = R [] 8 (g_sp C0 M0 U n q.toNat + j) → W 292 (b + (g_sp C0 M0 U n q.toNat + j)) = R [] 6 (g_sp C0 M0 U n q.toNat + j)) := fun e q j e0 e1 en ea eb jb0 jb1 => by
    have qq := hS.eq e0 e1 en ea eb
    have sp := hX.sp hn qq.1.1 qq.1.2 qq.2
    have nsa : ¬ b + (g_sp C0 M0 U n q.toNat + j) = b + h_sa M0 n a := by omega
    have r := (hR.2.2.2.2.2.1 e q j e0 e1 en ea eb jb0 jb1).1 (h_vf C0 M0 Im q j) rfl
    rcases rn with ⟨r1, r2⟩ | ⟨z, r1, r2, r3⟩
    · refine ⟨fun _ => r1 _ nsa, fun ee v => ?_⟩
      rw [ee] at r
      rw [r1 _ nsa, v, r.2.2.2 (r2 _)]
    · have keep : ¬ (M0 263 e = a ∧ M0 264 e = z) → W 292 (b + (g_sp C0 M0 U n q.toNat + j)) = V 292 (b + (g_sp C0 M0 U n q.toNat + j)) := fun y => by
        refine r3 _ nsa (fun q' i' hq i0 i1 => ?_)
        have q2 := h_PS.node hS a0 an hq
        have ne : ¬ q = q' := fun w => y ((h_PS.eq hS e0 e1 ea eb).mp (by rw [w]; exact hq))
        have sd := hX.sd (U := U) q2.1.1 q2.1.2 q2.2 qq.1.1 qq.1.2 qq.2 ne
        omega
      refine ⟨fun ne => keep (fun w => ne w.1), fun ee v => ?_⟩
      rw [ee] at r
      by_cases y : M0 264 e = z
      · rw [r2 q j ((h_PS.eq hS e0 e1 ea eb).mpr ⟨ee, y⟩) jb0 jb1, r.2.2.1 ((r1 _).mpr y)]
      · rw [keep (fun w => y w.2), v, r.2.2.2 (fun w => y ((r1 _).mp w))]
  refine ⟨fun q q0 q1 qn sq ac => ?_, by unfold h_J2 h_mt; rw [kl.1, kl.2.1, kl.2.2]; exact j2, fun a' a0' a1' an' z => ?_, ⟨fun l l0 l1 hl => by rw [e1']; exact j4.1 l l0 l1 hl, fun a' a0' a1' an' => by rw [e1']; exact j4.2.1 a' a0' a1' an', fun e q j e0 e1 en ea eb jb0 jb1 nw => ?_⟩, ⟨fun l l0 l1 hl => ?_, fun a' a0' a1' an' => ?_, fun e q j e0 e1 en ea eb jb0 jb1 => ?_⟩, fun x hx => ?_, fun q q0 q1 qn o sq ac => ?_, fun e q e0 e1 ea eb sq au => ?_⟩
  · rw [e6]; exact j1 q q0 q1 qn ((big _ (by omega)).mp sq) ac
  · rw [k8]; exact j3 a' a0' a1' an' ((big _ (by omega)).mp z)
  · have u := j4.2.2 e q j e0 e1 en ea eb jb0 jb1 (fun o y => nw o ((te _).mpr (Or.inl y)))
    rw [e1']
    have ch : (M0 263 e = -1 ∨ t (2048 + M0 263 e)) ↔ (M0 263 e = -1 ∨ s (2048 + M0 263 e)) := by
      by_cases y : M0 263 e = -1
      · exact ⟨fun _ => Or.inl y, fun _ => Or.inl y⟩
      · rw [big _ (by have := aub e e0 e1 y; omega)]
    rw [ch]
    exact u
  · have u := (hX.l5 hn l0 l1 hl).2
    have c := (g_ca_b M0 n ((M0 222 55)).toNat).1
    have c2 := (g_ca_b M0 n a.toNat).1
    rw [low _ (by omega) (by omega), big _ (by omega)]; exact j5.1 l l0 l1 hl
  · by_cases y : a' = a
    · rw [y]
      exact ⟨fun _ => aw, fun w => absurd ta w⟩
    · have u := (hX.a5 hn a0' a1' an').2
      have e : h_sa M0 n a' = g_ll M0 n 26 + g_ca M0 n a'.toNat := rfl
      have ne := h_ad (M0 := M0) a0 an a0' an' y
      rw [low _ (by omega) (by omega), big _ (by omega)]; exact j5.2.1 a' a0' a1' an'
  · have v5 := j5.2.2 e q j e0 e1 en ea eb jb0 jb1
    have qq := hS.eq e0 e1 en ea eb
    have pp := part e q j e0 e1 en ea eb jb0 jb1
    by_cases ee : M0 263 e = a
    · have v8 := v5.2.1 (fun y => new (by rw [← ee]; exact y.2)) (done e q e0 e1 ee ea eb)
      have c : ¬ M0 263 e = -1 ∧ t (5120 + M0 263 e) := ⟨by omega, by rw [ee]; exact ta⟩
      exact ⟨fun _ => pp.2 ee v8, fun y => absurd c y, fun y => absurd c y, fun y => absurd c y⟩
    · refine v5.to (fun y => big _ (by omega)) (fun _ => big _ (by omega)) (fun _ => big _ (by omega)) (fun y => big _ (by have := aub e e0 e1 y; omega)) (fun _ y => by rw [pp.1 ee]; exact y)
  · rw [ef, j6 x hx]
    constructor
    · rintro (y | ⟨q, qb, y1, y2, y3⟩ | ⟨q, qb, y1, y2, y3⟩)
      · exact Or.inl y
      · exact Or.inr (Or.inl ⟨q, qb, y1, (te _).mpr (Or.inl y2), y3⟩)
      · exact Or.inr (Or.inr ⟨q, qb, y1, (te _).mpr (Or.inl y2), y3⟩)
    · rintro (y | ⟨q, qb, y1, y2, y3⟩ | ⟨q, qb, y1, y2, y3⟩)
      · exact Or.inl y
      · exact Or.inr (Or.inl ⟨q, qb, y1, (big _ (by omega)).mp y2, y3⟩)
      · exact Or.inr (Or.inr ⟨q, qb, y1, (big _ (by omega)).mp y2, y3⟩)
  · exact j8 q q0 q1 qn o ((big _ (by omega)).mp sq) ac
  · have qq := (hS.2.2.2.2.1.2.1 e e0 e1).2.2.2.2.2.1.1
    exact (te _).mpr (Or.inl (j9 e q e0 e1 ea eb ((big _ (by omega)).mp sq) au))
end ModelG
