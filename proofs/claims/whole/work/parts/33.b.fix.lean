/-! A TICK THERE IS: rounds come to rest -/
noncomputable def h_it (C M : ax_V) (U S Im : Int → Int) (k : Nat) (n : Int) (f5 fi : Int → Int) : Nat → h_R
  | 0 => h_gr C M U S Im k n f5 fi (fun _ _ _ => 0)
  | i + 1 => h_gr C M U S Im k n f5 fi (h_it C M U S Im k n f5 fi i)
section Fix
variable {C0 M0 P V : ax_V} {F G Hh S U J Im : Int → Int} {n q e a b x m st y T F0 p : Int} {k : Nat} {s t : Int → Prop} {R R' : h_R} {f5 fi f : Int → Int}
theorem h_it_5 (i : Nat) (j : Int) : h_it C0 M0 U S Im k n f5 fi i [] 5 j = f5 j := by
  cases i with
  | zero => exact h_gr_5 j
  | succ i => exact h_gr_5 j
/-- a step -/
theorem h_ag.step (hX : h_X C0 M0 P F G Hh S U J Im) (hn : h_N M0 U J n) (hQ : g_SQ C0 M0 f F0 T n) (hp : F0 ≤ p) (hpT : p < T) (A : h_ag M0 n f5 (g_st f F0 p) R R') (B : h_ag M0 n f5 (g_st f F0 p) (h_gr C0 M0 U S Im k n f5 fi R) (h_gr C0 M0 U S Im k n f5 fi R')) : h_ag M0 n f5 (g_st f F0 (p + 1)) (h_gr C0 M0 U S Im k n f5 fi R) (h_gr C0 M0 U S Im k n f5 fi R') := by
  have hS := hX.hS
  have sm := hS.small
  have nn := hn.1
  obtain ⟨sq1, sq2, -⟩ := hQ p hp hpT
  have te := g_st_s (f := f) hp
  have cl := hQ.cl hS nn.1 (k := p) (by omega)
  refine ⟨fun q q0 q1 qn z => ?_, fun y y0 y1 rd => ?_, fun a a0 a1 an z => ?_, fun j => ⟨h_gr_5 j, h_gr_5 j⟩⟩
  · rcases (te q).mp z with w | w
    · exact B.1 q q0 q1 qn w
    · rw [← w] at sq1 sq2
      exact h_gr_part hX hn A cl q0 q1 sq1 sq2
  · refine h_gr_lt hX hn (fun _ => A) (fun e i o en l => ?_)
    have ol := hS.ofl o
    have hd := (hX.ok.head hS ol.1 ol.2).1
    rw [hS.eoe o, en, l] at hd
    have z : g_st f F0 (p + 1) (1024 + e) := by
      rcases rd with w | w
      · omega
      · exact w.2 e i o en l
    have fx := (hS.2.2.2.2.1.2.1 e o.1.1 o.1.2).2.2.2.2.2.1
    rcases (te _).mp z with w | w
    · have c := hQ.eb hS nn.1 (k := p) (by omega) o.1.1 o.1.2 w
      exact ⟨c.1, c.2.2 _ fx.1.2.1 (Int.le_refl _) fx.2.1.1⟩
    · rw [← w] at sq2
      have c := sq2.eq hS nn.1 o.1.1 o.1.2
      exact ⟨c.2.1, c.2.2 _ fx.1.2.1 (Int.le_refl _) fx.2.1.1⟩
  · rcases (te _).mp z with w | w
    · have c := hQ.ab hS nn.1 (k := p) (by omega) a0 a1 w
      exact h_gr_au hX A a0 a1 an c.2.2
    · rw [← w] at sq2
      have c := sq2.au hS nn.1 a0 a1
      exact h_gr_au hX A a0 a1 an c.2.2
theorem h_ag.begin (hX : h_X C0 M0 P F G Hh S U J Im) (hn : h_N M0 U J n) : h_ag M0 n f5 (g_st f F0 F0) (h_gr C0 M0 U S Im k n f5 fi R) (h_gr C0 M0 U S Im k n f5 fi R') := by
  have emp : ∀ v, ¬ g_st f F0 F0 v := fun v ⟨j, j1, _⟩ => by omega
  have hS := hX.hS
  refine ⟨fun q _ _ _ z => absurd z (emp _), fun y y0 y1 rd => ?_, fun a _ _ _ z => absurd z (emp _), fun j => ⟨h_gr_5 j, h_gr_5 j⟩⟩
  have no : ∀ e i, g_of M0 e i → M0 258 e = n → M0 265 i = y → False := fun e i o en l => by
    have ol := hS.ofl o
    have hd := (hX.ok.head hS ol.1 ol.2).1
    rw [hS.eoe o, en, l] at hd
    rcases rd with w | w
    · omega
    · exact emp _ (w.2 e i o en l)
  exact h_gr_lt (s := fun _ => True) hX hn (fun ⟨e, i, o, en, l⟩ => (no e i o en l).elim) (fun e i o en l => (no e i o en l).elim)
theorem h_it_ag (hX : h_X C0 M0 P F G Hh S U J Im) (hn : h_N M0 U J n) (hQ : g_SQ C0 M0 f F0 T n) : ∀ (r : Nat), F0 + (r : Int) ≤ T → ∀ i : Nat, r ≤ i → h_ag M0 n f5 (g_st f F0 (F0 + (r : Int))) (h_it C0 M0 U S Im k n f5 fi i) (h_it C0 M0 U S Im k n f5 fi (i + 1)) := by
  intro r
  induction r with
  | zero =>
    intro _ i _
    rw [show F0 + ((0 : Nat) : Int) = F0 by omega]
    cases i with
    | zero => exact h_ag.begin hX hn
    | succ i => exact h_ag.begin hX hn
  | succ r ih =>
    intro hT i hi
    obtain ⟨i', rfl⟩ : ∃ i', i = i' + 1 := ⟨i - 1, by omega⟩
    rw [show F0 + ((r + 1 : Nat) : Int) = F0 + (r : Int) + 1 by omega]
    exact h_ag.step hX hn hQ (by omega) (by omega) (ih (by omega) i' (by omega)) (ih (by omega) (i' + 1) (by omega))
/-- a record at rest -/
theorem h_rest (hX : h_X C0 M0 P F G Hh S U J Im) (hn : h_N M0 U J n) (k : Nat) (f5 fi : Int → Int) : ∃ R : h_R, (∀ j, R [] 5 j = f5 j) ∧ (∀ q, 0 ≤ q → q < (M0 222 26) → M0 250 q = n → R [] 0 q = h_gr C0 M0 U S Im k n f5 fi R [] 0 q ∧ ∀ p, R (q :: p) = h_gr C0 M0 U S Im k n f5 fi R (q :: p)) ∧ (∀ y, 0 ≤ y → y < 26 → ¬ M0 232 (26 * n + y) = 0 → R [] 1 y = h_gr C0 M0 U S Im k n f5 fi R [] 1 y ∧ R [] 2 y = h_gr C0 M0 U S Im k n f5 fi R [] 2 y) ∧ ∀ a, 0 ≤ a → a < (M0 222 55) → M0 267 a = n → R [] 3 a = h_gr C0 M0 U S Im k n f5 fi R [] 3 a := by
  have hSD : g_SD C0 M0 (P 512) (P 511 n) (P 511 (n + 1)) n := (hX.dn hn).2.2.2.2.2.2
  have F3 := hSD.1
  obtain ⟨N, hN⟩ : ∃ N : Nat, N = (P 511 (n + 1) - P 511 n).toNat := ⟨_, rfl⟩
  have A := h_it_ag (k := k) (f5 := f5) (fi := fi) hX hn hSD.2.1 N (by omega) N (Nat.le_refl _)
  rw [show P 511 n + (N : Int) = P 511 (n + 1) by omega] at A
  obtain ⟨-, -, al, aw, -, -⟩ := hSD
  refine ⟨h_it C0 M0 U S Im k n f5 fi N, fun j => h_it_5 N j, fun q q0 q1 qn => A.1 q q0 q1 qn (aw.1 q q0 q1 qn), fun y y0 y1 k0 => A.2.1 y y0 y1 (al.rd hX.hS hX.ok hn.1.1 hn.1.2 k0), fun a a0 a1 an => A.2.2.1 a a0 a1 an (al.2 a a0 a1 an)⟩
end Fix
