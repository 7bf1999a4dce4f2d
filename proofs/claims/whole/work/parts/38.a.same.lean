/-! THE SAME PROGRAM, taken twice: what was said of instances stays true -/
/-- the cells of a program are the same -/
def y_eq (P P' : ax_V) : Prop := (∀ c, 500 ≤ c → c ≤ 573 → ¬ c = 500 → ¬ c = 516 → ¬ c = 532 → ¬ c = 547 → ¬ c = 556 → ∀ i, 0 ≤ i → P' c i = P c i) ∧ P' 500 0 = P 500 0 ∧ P' 516 0 = P 516 0 ∧ (P' 547 0 = P 547 0 ∧ P' 547 1 = P 547 1) ∧ P' 556 0 = P 556 0 ∧ P' 556 1 = P 556 1 ∧ P' 556 2 = P 556 2
theorem e_op_inj {o o' : Int} (h : e_op o' = e_op o) : o' = o := by
  unfold e_op at h
  repeat' split at h
  all_goals omega
/-- what two readings of one program have in common -/
def y_sm (C M C' M' : ax_V) : Prop := ((M' 222 86) = (M 222 86) ∧ (M' 222 26) = (M 222 26) ∧ (M' 222 55) = (M 222 55)) ∧ (∀ q, 0 ≤ q → q < (M 222 26) → M' 250 q = M 250 q ∧ M' 241 q = M 241 q ∧ C' 520 q = C 520 q) ∧ (∀ a, 0 ≤ a → a < (M 222 55) → M' 267 a = M 267 a ∧ M' 269 a = M 269 a) ∧ (∀ n l, 0 ≤ n → n < (M 222 86) → 0 ≤ l → l < 26 → M' 232 (26 * n + l) = M 232 (26 * n + l) ∧ M' 236 (26 * n + l) = M 236 (26 * n + l) ∧ (¬ M 232 (26 * n + l) = 0 → M' 233 (26 * n + l) = M 233 (26 * n + l))) ∧ ∀ n, 0 ≤ n → n < (M 222 86) → (M' 227 n = M 227 n ∧ M' 228 n = M 228 n) ∧ (∀ i, 0 ≤ i → i < M 227 n → M' 230 (26 * n + i) = M 230 (26 * n + i)) ∧ ∀ i, 0 ≤ i → i < M 228 n → M' 231 (26 * n + i) = M 231 (26 * n + i)
section Same
variable {C M C' M' P P' X N N' : ax_V} {F G Hh S U J Im F' G' Hh' S' U' J' Im' : Int → Int} {n x T : Int} {k : Nat}
set_option maxHeartbeats 1000000 in
theorem y_sm.of (hS : g_S C M) (hS' : g_S C' M') (xP : g_fr g_XP C P) (xP' : g_fr g_XP C' P') (e : y_eq P P') : y_sm C M C' M' := by
  obtain ⟨e1, e2, e3, e4, e5⟩ := e
  have cc : ∀ c, 500 ≤ c → c ≤ 573 → ¬ c = 500 → ¬ c = 516 → ¬ c = 532 → ¬ c = 547 → ¬ c = 556 → c ∉ g_XP → ∀ i, 0 ≤ i → C' c i = C c i := fun c a b z1 z2 z3 z4 z5 z i i0 => by rw [← xP c z, ← xP' c z]; exact e1 c a b z1 z2 z3 z4 z5 i i0
  have hN := hS.2.1
  have hN' := hS'.2.1
  have en : (M' 222 86) = (M 222 86) := by
    have a := hN.2.2.2
    have b := hN'.2.2.2
    rw [← xP 500 (by decide)] at a
    rw [← xP' 500 (by decide), e2] at b
    omega
  have ep : (M' 222 26) = (M 222 26) := by
    have a := hS.2.2.1.1.1
    have b := hS'.2.2.1.1.1
    rw [← xP 516 (by decide)] at a
    rw [← xP' 516 (by decide), e3] at b
    omega
  have ea : (M' 222 55) = (M 222 55) := by
    have a := hS.2.2.2.2.1.1.2.2.1.1
    have b := hS'.2.2.2.2.1.1.2.2.1.1
    rw [← xP 556 (by decide)] at a
    rw [← xP' 556 (by decide), e5.1] at b
    omega
  refine ⟨⟨en, ep, ea⟩, fun q q0 q1 => ?_, fun a a0 a1 => ?_, fun m l m0 m1 l0 l1 => ?_, fun m m0 m1 => ?_⟩
  · have pn := hS.pnode q0 q1
    have pn' := hS'.pnode q0 (show q < (M' 222 26) by omega)
    have u := hS.2.2.1.2.2 q q0 q1
    have u' := hS'.2.2.1.2.2 q q0 (by omega)
    refine ⟨?_, e_op_inj ?_, cc 520 (by decide) (by decide) (by decide) (by decide) (by decide) (by decide) (by decide) (by decide) q q0⟩
    · have w := (hS'.pN (n := M 250 q) q0 (show q < (M' 222 26) by omega) pn.1.1 (by omega)).mp ⟨by
        rw [cc 508 (by decide) (by decide) (by decide) (by decide) (by decide) (by decide) (by decide) (by decide) _ pn.1.1]; exact pn.2.1, by
        rw [cc 508 (by decide) (by decide) (by decide) (by decide) (by decide) (by decide) (by decide) (by decide) _ (by omega)]; exact pn.2.2⟩
      exact w
    · have a := u.1
      have b := u'.1
      rw [cc 517 (by decide) (by decide) (by decide) (by decide) (by decide) (by decide) (by decide) (by decide) q q0, a] at b
      exact b.symm
  · have au := hS.au a0 a1
    have au' := hS'.au a0 (show a < (M' 222 55) by omega)
    have ad := hS.anode a0 a1
    have an0 := ad.1
    have w := ad.2
    have ac := au.2.1
    have ac' := au'.2.1
    have e8 := cc 558 (by decide) (by decide) (by decide) (by decide) (by decide) (by decide) (by decide) (by decide)
    rw [e8 a a0, e8 (a + 1) (by omega)] at ac'
    refine ⟨?_, by omega⟩
    exact (hS'.aN (n := M 267 a) a0 (by omega) an0.1 (by omega)).mp ⟨by
      rw [cc 510 (by decide) (by decide) (by decide) (by decide) (by decide) (by decide) (by decide) (by decide) _ an0.1]; exact w.1, by
      rw [cc 510 (by decide) (by decide) (by decide) (by decide) (by decide) (by decide) (by decide) (by decide) _ (by omega)]; exact w.2⟩
  · have u := hS.l m0 m1 l0 l1
    have u' := hS'.l m0 (show m < (M' 222 86) by omega) l0 l1
    have s0 : 0 ≤ 26 * m + l := by omega
    have a1 := u.1.1
    have b1 := u'.1.1
    rw [cc 534 (by decide) (by decide) (by decide) (by decide) (by decide) (by decide) (by decide) (by decide) _ s0, a1] at b1
    have a2 := u.2.2.2.2.1.1
    have b2 := u'.2.2.2.2.1.1
    rw [cc 538 (by decide) (by decide) (by decide) (by decide) (by decide) (by decide) (by decide) (by decide) _ s0, a2] at b2
    refine ⟨b1.symm, b2.symm, fun z => ?_⟩
    have a3 := (hS.sort m0 m1 l0 l1 z).1
    have b3 := (hS'.sort m0 (show m < (M' 222 86) by omega) l0 l1 (by rw [← b1]; exact z)).1
    rw [cc 535 (by decide) (by decide) (by decide) (by decide) (by decide) (by decide) (by decide) (by decide) _ s0, a3] at b3
    exact b3.symm
  · have fl := hS.fl m0 m1
    have fl' := hS'.fl m0 (show m < (M' 222 86) by omega)
    have a1 := fl.1.1
    have b1 := fl'.1.1
    rw [cc 503 (by decide) (by decide) (by decide) (by decide) (by decide) (by decide) (by decide) (by decide) _ m0, a1] at b1
    have a2 := fl.2.1.1
    have b2 := fl'.2.1.1
    rw [cc 504 (by decide) (by decide) (by decide) (by decide) (by decide) (by decide) (by decide) (by decide) _ m0, a2] at b2
    refine ⟨⟨b1.symm, b2.symm⟩, fun i i0 i1 => ?_, fun i i0 i1 => ?_⟩
    · have a := (fl.2.2.2.2.1 i i0 i1).1
      have b := (fl'.2.2.2.2.1 i i0 (by omega)).1
      rw [cc 506 (by decide) (by decide) (by decide) (by decide) (by decide) (by decide) (by decide) (by decide) _ (by omega), a] at b
      omega
    · have a := (fl.2.2.2.2.2.1 i i0 i1).1
      have b := (fl'.2.2.2.2.2.1 i i0 (by omega)).1
      rw [cc 507 (by decide) (by decide) (by decide) (by decide) (by decide) (by decide) (by decide) (by decide) _ (by omega), a] at b
      omega
theorem y_sm.ll (h : y_sm C M C' M') (n0 : 0 ≤ n) (n1 : n < (M 222 86)) : ∀ k : Nat, k ≤ 26 → g_ll M' n k = g_ll M n k := by
  intro k
  induction k with
  | zero => intro _; rfl
  | succ k ih =>
    intro hk
    show g_ll M' n k + (if M' 236 (26 * n + (k : Int)) = 0 then 0 else 1) = g_ll M n k + if M 236 (26 * n + (k : Int)) = 0 then 0 else 1
    rw [ih (by omega), (h.2.2.2.1 n (k : Int) n0 n1 (by omega) (by omega)).2.1]
theorem y_sm.ca (h : y_sm C M C' M') : ∀ k : Nat, (k : Int) ≤ (M 222 55) → g_ca M' n k = g_ca M n k := by
  intro k
  induction k with
  | zero => intro _; rfl
  | succ k ih =>
    intro hk
    show g_ca M' n k + (if M' 267 (k : Int) = n then 1 else 0) = g_ca M n k + if M 267 (k : Int) = n then 1 else 0
    rw [ih (by omega), (h.2.2.1 (k : Int) (by omega) (by omega)).1]
theorem y_sm.cp (h : y_sm C M C' M') (hS : g_S C M) (ok : g_N2 M) (hU : ∀ m, 0 ≤ m → m < (M 222 86) → U' m = U m) : ∀ k : Nat, (k : Int) ≤ (M 222 26) → g_cp C' M' U' n k = g_cp C M U n k := by
  intro k
  induction k with
  | zero => intro _; rfl
  | succ k ih =>
    intro hk
    have u := h.2.1 (k : Int) (by omega) (by omega)
    have ev : g_vl C' M' U' (k : Int) = g_vl C M U (k : Int) := by
      unfold g_vl
      rw [u.2.1, u.2.2]
      by_cases o : M 241 (k : Int) = 22
      · have w := ok.call hS (q := (k : Int)) (by omega) (by omega) o
        have pn := (hS.pnode (q := (k : Int)) (by omega) (by omega)).1
        rw [hU _ w.1 (by omega)]
      · rw [if_neg o, if_neg o]
    show g_cp C' M' U' n k + (if M' 250 (k : Int) = n then g_vl C' M' U' (k : Int) else 0) = g_cp C M U n k + if M 250 (k : Int) = n then g_vl C M U (k : Int) else 0
    rw [ih (by omega), u.1, ev]
theorem y_sm.pp (h : y_sm C M C' M') (hS : g_S C M) (ok : g_N2 M) (hU : ∀ m, 0 ≤ m → m < (M 222 86) → U' m = U m) : ∀ (k : Nat) (n i j : Int), 0 ≤ n → n < (M 222 86) → g_PP C' M' U' k n i j → g_PP C M U k n i j := by
  have ct := hS.2.2.2.2.1.1.2.2.1
  have pt := hS.2.2.1.1
  intro k
  induction k with
  | zero => intro n i j _ _ z; exact z
  | succ k ih =>
    intro n i j n0 n1 z
    have e1 := h.1.2.1
    have e2 := h.1.2.2
    have lp : g_cp C' M' U' n ((M' 222 26)).toNat = g_cp C M U n ((M 222 26)).toNat := by rw [e1]; exact h.cp hS ok hU _ (by omega)
    have la : g_ca M' n ((M' 222 55)).toNat = g_ca M n ((M 222 55)).toNat := by rw [e2]; exact h.ca _ (by omega)
    have l26 := h.ll n0 n1 26 (by decide)
    rcases z with ⟨l, l1, hl, ei, ej⟩ | ⟨a, a1, an, ei, ej⟩ | ⟨q, q1, qn, i', j', cs, ei, ej⟩
    · refine Or.inl ⟨l, l1, ?_, ?_, ?_⟩
      · rw [← (h.2.2.2.1 n (l : Int) n0 n1 (by omega) (by omega)).2.1]; exact hl
      · rw [ei, lp, la, h.ll n0 n1 l (by omega)]
      · rw [ej, h.ll n0 n1 l (by omega)]
    · rw [e2] at a1
      refine Or.inr (Or.inl ⟨a, a1, ?_, ?_, ?_⟩)
      · rw [← (h.2.2.1 (a : Int) (by omega) (by omega)).1]; exact an
      · rw [ei, lp, h.ca a (by omega)]
      · rw [ej, l26, h.ca a (by omega)]
    · rw [e1] at q1
      have u := h.2.1 (q : Int) (by omega) (by omega)
      rw [u.1] at qn
      rw [u.2.1, u.2.2] at cs
      refine Or.inr (Or.inr ⟨q, q1, qn, i', j', ?_, ?_, ?_⟩)
      · rcases cs with c | c
        · exact Or.inl c
        · have w := ok.call hS (q := (q : Int)) (by omega) (by omega) c.1
          exact Or.inr ⟨c.1, ih _ _ _ w.1 (by omega) c.2⟩
      · rw [ei, h.cp hS ok hU q (by omega)]
      · rw [ej]
        show g_ll M' n 26 + g_ca M' n ((M' 222 55)).toNat + g_cp C' M' U' n q + j' = g_ll M n 26 + g_ca M n ((M 222 55)).toNat + g_cp C M U n q + j'
        rw [l26, la, h.cp hS ok hU q (by omega)]
theorem y_sm.ms (h : y_sm C M C' M') (hS : g_S C M) (ok : g_N2 M) (hU : ∀ m, 0 ≤ m → m < (M 222 86) → U' m = U m) (hF : ∀ q, 0 ≤ q → q < (M 222 26) → F' q = F q) : ∀ (k : Nat) (n : Int) (g : Int → Int), 0 ≤ n → n < (M 222 86) → h_MS C M U F k n g → h_MS C' M' U' F' k n g := by
  have ct := hS.2.2.2.2.1.1.2.2.1
  have pt := hS.2.2.1.1
  intro k
  induction k with
  | zero => intro _ _ _ _ _; exact trivial
  | succ k ih =>
    intro n g n0 n1 z
    have e1 := h.1.2.1
    have e2 := h.1.2.2
    have la : g_ca M' n ((M' 222 55)).toNat = g_ca M n ((M 222 55)).toNat := by rw [e2]; exact h.ca _ (by omega)
    have l26 := h.ll n0 n1 26 (by decide)
    have sp : ∀ q : Nat, (q : Int) ≤ (M 222 26) → g_sp C' M' U' n q = g_sp C M U n q := fun q hq => by
      show g_ll M' n 26 + g_ca M' n ((M' 222 55)).toNat + g_cp C' M' U' n q = g_ll M n 26 + g_ca M n ((M 222 55)).toNat + g_cp C M U n q
      rw [l26, la, h.cp hS ok hU q hq]
    obtain ⟨z1, z2, z3, z4⟩ := z
    refine ⟨fun q q1 qn o f1 => ?_, fun l l1 hl ty => ?_, fun a a1 an => ?_, fun q q1 qn o => ?_⟩
    · rw [e1] at q1
      have u := h.2.1 (q : Int) (by omega) (by omega)
      rw [u.1] at qn
      rw [u.2.1] at o
      rw [hF _ (by omega) (by omega)] at f1
      rw [sp q (by omega)]
      exact z1 q q1 qn o f1
    · have u := h.2.2.2.1 n (l : Int) n0 n1 (by omega) (by omega)
      rw [u.2.1] at hl
      have kd : ¬ M 232 (26 * n + (l : Int)) = 0 := fun w => hl ((hS.l n0 n1 (l := (l : Int)) (by omega) (by omega)).2.1 w).2.2
      rw [u.2.2 kd] at ty
      rw [h.ll n0 n1 l (by omega)]
      exact z2 l l1 hl ty
    · rw [e2] at a1
      have u := h.2.2.1 (a : Int) (by omega) (by omega)
      rw [u.1] at an
      have es : h_sa M' n (a : Int) = h_sa M n (a : Int) := by
        show g_ll M' n 26 + g_ca M' n ((a : Int)).toNat = g_ll M n 26 + g_ca M n ((a : Int)).toNat
        rw [Int.toNat_natCast, l26, h.ca a (by omega)]
      rw [es, u.2]
      exact z3 a a1 an
    · rw [e1] at q1
      have u := h.2.1 (q : Int) (by omega) (by omega)
      rw [u.1] at qn
      rw [u.2.1] at o
      have w := ok.call hS (q := (q : Int)) (by omega) (by omega) o
      rw [u.2.2]
      refine ih _ _ w.1 (by omega) ?_
      rw [sp q (by omega)]
      exact z4 q q1 qn o
/-- an instance, seen by the other reading -/
theorem h_iq.same (h : y_sm C M C' M') (hS : g_S C M) (ok : g_N2 M) (hU : ∀ m, 0 ≤ m → m < (M 222 86) → U' m = U m ∧ J' m = J m) (hF : ∀ q, 0 ≤ q → q < (M 222 26) → F' q = F q) (hi : h_iq C M U J F X N x T n) : h_iq C' M' U' J' F' X N x T n := by
  have hu : ∀ m, 0 ≤ m → m < (M 222 86) → U' m = U m := fun m a b => (hU m a b).1
  obtain ⟨⟨i1, i2⟩, i3, i4, i5, ⟨i6, i7⟩, i8, i9⟩ := hi
  have n0 := i2.1
  have fl := hS.fl n0.1 n0.2
  have io := h.2.2.2.2 n n0.1 n0.2
  have pp := h.pp hS ok hu 8 n
  have ms := fun g => h.ms (F' := F') (F := F) hS ok hu hF 8 n g n0.1 n0.2
  refine ⟨⟨i1, ⟨n0.1, by rw [h.1.1]; exact n0.2⟩, by rw [hu n n0.1 n0.2]; exact i2.2.1, by rw [(hU n n0.1 n0.2).2]; exact i2.2.2⟩, i3, i4, fun i a b => ?_, ⟨fun i j z => i6 i j (pp i j n0.1 n0.2 z), ms _ i7⟩, fun z => ⟨fun y a b => ?_, fun i a b => ?_⟩, fun k a b => ?_⟩
  · rw [io.1.1] at b
    have ip := fl.2.2.2.2.1 i a b
    rw [io.2.1 i a b, (h.2.2.2.1 n (M 230 (26 * n + i)) n0.1 n0.2 ip.2.1.1 ip.2.1.2).2.2 (by omega)]
    exact i5 i a b
  · have u := h.2.2.2.1 n y n0.1 n0.2 a b
    rw [u.1]
    exact (i8 z).1 y a b
  · rw [io.1.2] at b
    rw [io.2.2 i a b]
    exact (i8 z).2 i a b
  · rcases i9 k a b with w | ⟨w1, w2, w3, w4⟩
    · exact Or.inl w
    · exact Or.inr ⟨w1, w2, fun i j z => w3 i j (pp i j n0.1 n0.2 z), ms _ w4⟩
end Same
