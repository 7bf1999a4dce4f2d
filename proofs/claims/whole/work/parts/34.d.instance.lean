/-! AN INSTANCE ON BOTH SIDES: X the class's (800 to 806), N the model's, number x; at most T ticks so far -/
def h_iq (C M : ax_V) (U J F : Int → Int) (X N : ax_V) (x T n : Int) : Prop :=
  ((X 800 0 = n ∧ N 299 x = n) ∧ h_N M U J n) ∧
  (X 800 1 = N 302 x ∧ 0 ≤ X 800 1 ∧ X 800 1 ≤ T) ∧
  (X 800 2 = N 303 x ∧ (X 800 2 = 0 ∨ X 800 2 = 1)) ∧
  (∀ i, 0 ≤ i → i < M 227 n → X 801 i = N 300 (26 * x + M 230 (26 * n + i)) ∧ (M 233 (26 * n + M 230 (26 * n + i)) = 1 → X 801 i = 0 ∨ X 801 i = 1)) ∧
  ((∀ i j, g_PP C M U 8 n i j → X 802 i = N 301 (300 * x + j)) ∧ h_MS C M U F 8 n (fun j => N 301 (300 * x + j))) ∧
  (¬ X 800 2 = 0 → (∀ y, 0 ≤ y → y < 26 → (¬ M 232 (26 * n + y) = 0 → (X 804 y = 0 ∨ X 804 y = 1) ∧ N 305 (26 * x + y) = X 804 y ∧ (¬ X 804 y = 0 → N 304 (26 * x + y) = X 803 y)) ∧ (M 232 (26 * n + y) = 0 → X 804 y = 0)) ∧ ∀ i, 0 ≤ i → i < M 228 n → N 304 (26 * x + M 231 (26 * n + i)) = X 803 (M 231 (26 * n + i))) ∧
  ∀ k, 0 ≤ k → k < 4 → (N 306 (4 * x + k) = 0 ∧ X 806 k = -1) ∨ (N 306 (4 * x + k) = 1 ∧ (X 806 k = N 308 (4 * x + k) ∧ 0 ≤ X 806 k ∧ X 806 k ≤ T) ∧ (∀ i j, g_PP C M U 8 n i j → X 805 (300 * k + i) = N 307 (300 * (4 * x + k) + j)) ∧ h_MS C M U F 8 n (fun j => N 307 (300 * (4 * x + k) + j)))
section Inst
variable {C0 M0 P V X X' N N' : ax_V} {F G Hh S U J Im : Int → Int} {n x T T' : Int} {R : h_R}
theorem h_MS.cg (hX : h_X C0 M0 P F G Hh S U J Im) (hn : h_N M0 U J n) {f g : Int → Int} (h : h_MS C0 M0 U F 8 n f) (e : ∀ j, 0 ≤ j → j < U n → g j = f j) : h_MS C0 M0 U F 8 n g := h_MS.eq hX 8 n f g hn h (fun j j0 j1 => e j j0 (by have := (hX.t hn).2; omega))
/-- what is there at first -/
theorem h_X.first (hX : h_X C0 M0 P F G Hh S U J Im) (hn : h_N M0 U J n) : (∀ i j, g_PP C0 M0 U 8 n i j → P 515 (300 * n + i) = Im (300 * n + j)) ∧ h_MS C0 M0 U F 8 n (fun j => Im (300 * n + j)) := ⟨fun i j pp => (hX.im hn).1 8 i j pp, (hX.im hn).2 8⟩
/-- a record for the next tick -/
theorem h_iq.rec (hX : h_X C0 M0 P F G Hh S U J Im) (h : h_iq C0 M0 U J F X N x T n) : ∃ R, h_TK C0 M0 U S Im 8 n R ∧ 0 ≤ R [] 4 0 ∧ h_MS C0 M0 U F 8 n (R [] 5) ∧ (∀ i j, g_PP C0 M0 U 8 n i j → X 802 i = R [] 5 j) ∧ (∀ j, R [] 5 j = N 301 (300 * x + j)) ∧ ∀ i, 0 ≤ i → i < M0 227 n → (X 801 i = R [] 1 (M0 230 (26 * n + i)) ∧ N 300 (26 * x + M0 230 (26 * n + i)) = R [] 1 (M0 230 (26 * n + i))) ∧ (M0 233 (26 * n + M0 230 (26 * n + i)) = 1 → R [] 1 (M0 230 (26 * n + i)) = 0 ∨ R [] 1 (M0 230 (26 * n + i)) = 1) := by
  obtain ⟨⟨⟨a1, a2⟩, hn⟩, b, c, inp, ⟨pr, ms⟩, -⟩ := h
  have hN := hX.hS.2.1
  have nn := hn.1
  obtain ⟨R, r1, r2, r3, r4⟩ := h_exist hX 8 n (fun j => N 301 (300 * x + j)) (fun y => N 300 (26 * x + y)) hn (by omega)
  have e5 : R [] 5 = fun j => N 301 (300 * x + j) := funext r2
  refine ⟨R, r1, r4, by rw [e5]; exact ms, fun i j pp => by rw [r2]; exact pr i j pp, r2, fun i i0 i1 => ?_⟩
  have ff := (hX.hS.fl nn.1 nn.2).2.2.2.2.1 i i0 i1
  have v := r3 _ ff.2.1.1 ff.2.1.2 ff.2.2
  have u := inp i i0 i1
  refine ⟨⟨by rw [v]; exact u.1, v.symm⟩, fun ty => ?_⟩
  rw [v]
  show N 300 _ = 0 ∨ N 300 _ = 1
  rw [← u.1]; exact u.2 ty
/-- a tick that does not fail -/
theorem h_iq.tick (hX : h_X C0 M0 P F G Hh S U J Im) (h : h_iq C0 M0 U J F X N x T n) (x0 : 0 ≤ x) (hT : T + 1 ≤ T') (hR : h_TK C0 M0 U S Im 8 n R) (hm : h_MS C0 M0 U F 8 n (R [] 5)) (m6 : h_MS C0 M0 U F 8 n (R [] 6))
    (c0 : X' 800 0 = n) (c1 : X' 800 1 = X 800 1 + 1) (c2 : X' 800 2 = 1) (cI : X' 801 = X 801) (c5 : X' 805 = X 805) (c6 : X' 806 = X 806) (cp : ∀ i j, g_PP C0 M0 U 8 n i j → X' 802 i = R [] 6 j) (cl : ∀ y, 0 ≤ y → y < 26 → (¬ M0 232 (26 * n + y) = 0 → X' 804 y = R [] 2 y ∧ (¬ R [] 2 y = 0 → X' 803 y = R [] 1 y)) ∧ (M0 232 (26 * n + y) = 0 → X' 804 y = 0)) (co : ∀ i, 0 ≤ i → i < M0 228 n → X' 803 (M0 231 (26 * n + i)) = R [] 1 (M0 231 (26 * n + i)))
    (n9 : N' 299 = N 299) (n0 : N' 300 = N 300) (n6 : N' 306 = N 306) (n7 : N' 307 = N 307) (n8 : N' 308 = N 308) (nm : ∀ j, 0 ≤ j → j < U n → N' 301 (300 * x + j) = R [] 6 j) (n2 : N' 302 x = N 302 x + 1) (n3 : N' 303 x = 1) (nl : ∀ y, 0 ≤ y → y < 26 → ¬ M0 232 (26 * n + y) = 0 → N' 305 (26 * x + y) = R [] 2 y ∧ (¬ R [] 2 y = 0 → N' 304 (26 * x + y) = R [] 1 y)) (no : ∀ i, 0 ≤ i → i < M0 228 n → N' 304 (26 * x + M0 231 (26 * n + i)) = R [] 1 (M0 231 (26 * n + i))) : h_iq C0 M0 U J F X' N' x T' n := by
  obtain ⟨⟨⟨a1, a2⟩, hn⟩, b, c, inp, ⟨pr, ms⟩, -, kp⟩ := h
  have tt := hX.t hn
  refine ⟨⟨⟨c0, by rw [n9]; exact a2⟩, hn⟩, ⟨by omega, by omega, by omega⟩, ⟨by omega, Or.inr c2⟩, fun i i0 i1 => by rw [cI, n0]; exact inp i i0 i1, ⟨fun i j pp => ?_, h_MS.cg hX hn m6 (fun j j0 j1 => nm j j0 j1)⟩, fun _ => ⟨fun y y0 y1 => ⟨fun k0 => ?_, (cl y y0 y1).2⟩, fun i i0 i1 => by rw [no i i0 i1, co i i0 i1]⟩, fun k k0 k1 => ?_⟩
  · have bb := hX.UJ.pb hX.hS hX.ok 8 _ tt.1 i j pp
    rw [cp i j pp, nm j bb.2.1 (by omega)]
  · have u := (cl y y0 y1).1 k0
    have v := nl y y0 y1 k0
    have p := (hX.pr hn hR hm y0 y1 k0).2
    refine ⟨by rw [u.1]; exact p, by rw [v.1, u.1], fun z => ?_⟩
    rw [u.1] at z
    rw [v.2 z, u.2 z]
  · rw [n6, n7, n8, c5, c6]
    rcases kp k k0 k1 with z | ⟨z1, z2, z3⟩
    · exact Or.inl z
    · exact Or.inr ⟨z1, ⟨z2.1, z2.2.1, by omega⟩, z3⟩
/-- more ticks may have been -/
theorem h_iq.up (h : h_iq C0 M0 U J F X N x T n) (hT : T ≤ T') : h_iq C0 M0 U J F X N x T' n := by
  obtain ⟨a, b, c, inp, pm, ls, kp⟩ := h
  refine ⟨a, ⟨b.1, b.2.1, by omega⟩, c, inp, pm, ls, fun k k0 k1 => ?_⟩
  rcases kp k k0 k1 with z | ⟨z1, z2, z3⟩
  · exact Or.inl z
  · exact Or.inr ⟨z1, ⟨z2.1, z2.2.1, by omega⟩, z3⟩
/-- what the instance stands on has not changed -/
theorem h_iq.at (h : h_iq C0 M0 U J F X N x T n) (hx : ∀ c, 800 ≤ c → c ≤ 806 → X' c = X c) (hn : ∀ c, 299 ≤ c → c ≤ 308 → N' c = N c) : h_iq C0 M0 U J F X' N' x T n := by
  unfold h_iq at h ⊢
  rw [hx 800 (by decide) (by decide), hx 801 (by decide) (by decide), hx 802 (by decide) (by decide), hx 803 (by decide) (by decide), hx 804 (by decide) (by decide), hx 805 (by decide) (by decide), hx 806 (by decide) (by decide), hn 299 (by decide) (by decide), hn 300 (by decide) (by decide), hn 301 (by decide) (by decide), hn 302 (by decide) (by decide), hn 303 (by decide) (by decide), hn 304 (by decide) (by decide), hn 305 (by decide) (by decide), hn 306 (by decide) (by decide), hn 307 (by decide) (by decide), hn 308 (by decide) (by decide)]
  exact h
/-- another instance's rows of the model have changed -/
theorem h_iq.other (h : h_iq C0 M0 U J F X N x T n) (hX : h_X C0 M0 P F G Hh S U J Im) (hx : ∀ c, 800 ≤ c → c ≤ 806 → X' c = X c) (m1 : N' 299 x = N 299 x ∧ N' 302 x = N 302 x ∧ N' 303 x = N 303 x) (m26 : ∀ y, 0 ≤ y → y < 26 → N' 300 (26 * x + y) = N 300 (26 * x + y) ∧ N' 304 (26 * x + y) = N 304 (26 * x + y) ∧ N' 305 (26 * x + y) = N 305 (26 * x + y)) (m300 : ∀ j, 0 ≤ j → j < 300 → N' 301 (300 * x + j) = N 301 (300 * x + j)) (m4 : ∀ k, 0 ≤ k → k < 4 → N' 306 (4 * x + k) = N 306 (4 * x + k) ∧ N' 308 (4 * x + k) = N 308 (4 * x + k) ∧ ∀ j, 0 ≤ j → j < 300 → N' 307 (300 * (4 * x + k) + j) = N 307 (300 * (4 * x + k) + j)) : h_iq C0 M0 U J F X' N' x T n := by
  have h' : h_iq C0 M0 U J F X' N x T n := h.at hx (fun _ _ _ => rfl)
  obtain ⟨⟨⟨a1, a2⟩, hn⟩, b, c, inp, ⟨pr, ms⟩, ls, kp⟩ := h'
  have nn := hn.1
  have tt := hX.t hn
  have u3 := hn.2.1
  have fl := hX.hS.fl nn.1 nn.2
  have pb := fun i j pp => hX.UJ.pb hX.hS hX.ok 8 n tt.1 i j pp
  refine ⟨⟨⟨a1, by rw [m1.1]; exact a2⟩, hn⟩, by rw [m1.2.1]; exact b, by rw [m1.2.2]; exact c, fun i i0 i1 => ?_, ⟨fun i j pp => ?_, h_MS.cg hX hn ms (fun j j0 j1 => m300 j j0 (by omega))⟩, fun z => ⟨fun y y0 y1 => ?_, fun i i0 i1 => ?_⟩, fun k k0 k1 => ?_⟩
  · have ib := (fl.2.2.2.2.1 i i0 i1).2.1
    rw [(m26 _ ib.1 ib.2).1]; exact inp i i0 i1
  · have bb := pb i j pp
    rw [m300 j bb.2.1 (by omega)]; exact pr i j pp
  · rw [(m26 y y0 y1).2.1, (m26 y y0 y1).2.2]; exact (ls z).1 y y0 y1
  · have ob := (fl.2.2.2.2.2.1 i i0 i1).2.1
    rw [(m26 _ ob.1 ob.2).2.1]; exact (ls z).2 i i0 i1
  · have mk := m4 k k0 k1
    rw [mk.1, mk.2.1]
    rcases kp k k0 k1 with z | ⟨z1, z2, z3, z4⟩
    · exact Or.inl z
    · refine Or.inr ⟨z1, z2, fun i j pp => ?_, h_MS.cg hX hn z4 (fun j j0 j1 => mk.2.2 j j0 (by omega))⟩
      have bb := pb i j pp
      rw [mk.2.2 j bb.2.1 (by omega)]; exact z3 i j pp
end Inst
