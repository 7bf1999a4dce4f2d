/-! SLOTS: where the model remembers what -/
def g_sp (C M : ax_V) (U : Int → Int) (n : Int) (k : Nat) : Int := g_ll M n 26 + g_ca M n ((M 222 55)).toNat + g_cp C M U n k
/-- slots and first values of a node: of its first letters, automata, parts -/
def g_NK (C M : ax_V) (U : Int → Int) (W : ax_V) (n : Int) (kl ka kp : Nat) : Prop :=
  (∀ l : Nat, l < kl → ¬ M 236 (26 * n + (l : Int)) = 0 → W 240 (26 * n + (l : Int)) = g_ll M n l ∧ W 290 (300 * n + g_ll M n l) = M 237 (26 * n + (l : Int))) ∧
  (∀ a : Nat, a < ka → M 267 (a : Int) = n → W 270 (a : Int) = g_ll M n 26 + g_ca M n a ∧ W 290 (300 * n + (g_ll M n 26 + g_ca M n a)) = 0) ∧
  ∀ q : Nat, q < kp → M 250 (q : Int) = n → ((M 241 (q : Int) = 6 ∨ M 241 (q : Int) = 19) → W 257 (q : Int) = g_sp C M U n q ∧ W 290 (300 * n + g_sp C M U n q) = 0) ∧ (M 241 (q : Int) = 22 → W 257 (q : Int) = g_sp C M U n q ∧ ∀ i, 0 ≤ i → i < U (C 520 (q : Int)) → W 290 (300 * n + (g_sp C M U n q + i)) = W 290 (300 * C 520 (q : Int) + i))
abbrev g_XS : List Nat := [240, 257, 270, 288, 289, 290]
/-- the rows of other nodes stay -/
def g_KO (M0 V W : ax_V) (n : Int) : Prop := g_fr g_XS V W ∧ (∀ m, m ≠ n → W 288 m = V 288 m ∧ W 289 m = V 289 m) ∧ (∀ i, ¬ (300 * n ≤ i ∧ i < 300 * n + 300) → W 290 i = V 290 i) ∧ (∀ s, ¬ (26 * n ≤ s ∧ s < 26 * n + 26) → W 240 s = V 240 s) ∧ (∀ a, 0 ≤ a → a < (M0 222 55) → ¬ M0 267 a = n → W 270 a = V 270 a) ∧ ∀ q, 0 ≤ q → q < (M0 222 26) → ¬ M0 250 q = n → W 257 q = V 257 q
section SlotsM
variable {d : Nat} {C0 M0 M V W W' : ax_V} {U J : Int → Int} {n : Int} {Φ : Int → ax_V → Prop} {Ψ Θ : ax_V → Prop}
theorem g_KO.rf : g_KO M0 V V n := ⟨g_fr.rf _ _, fun _ _ => ⟨rfl, rfl⟩, fun _ _ => rfl, fun _ _ => rfl, fun _ _ _ _ => rfl, fun _ _ _ _ => rfl⟩
theorem g_KO.tr (h : g_KO M0 V W n) (k : g_KO M0 W W' n) : g_KO M0 V W' n := ⟨h.1.tr k.1, fun m z => ⟨(k.2.1 m z).1.trans (h.2.1 m z).1, (k.2.1 m z).2.trans (h.2.1 m z).2⟩, fun i z => (k.2.2.1 i z).trans (h.2.2.1 i z), fun s z => (k.2.2.2.1 s z).trans (h.2.2.2.1 s z), fun a x y z => (k.2.2.2.2.1 a x y z).trans (h.2.2.2.2.1 a x y z), fun q x y z => (k.2.2.2.2.2 q x y z).trans (h.2.2.2.2.2 q x y z)⟩
/-- another node's rows stand -/
theorem g_NK.other {m : Int} (h : g_NK C0 M0 U V m 26 ((M0 222 55)).toNat ((M0 222 26)).toNat) (k : g_KO M0 V W n) (mn : 0 ≤ m ∧ m < n) (hw : ∀ q : Nat, q < ((M0 222 26)).toNat → M0 250 (q : Int) = m → M0 241 (q : Int) = 22 → 0 ≤ C0 520 (q : Int) ∧ C0 520 (q : Int) < m) (hU : ∀ x, 0 ≤ U x) (h3 : g_T C0 M0 U m ≤ 300) (hUb : ∀ x, 0 ≤ U x ∧ U x ≤ 1000000) : g_NK C0 M0 U W m 26 ((M0 222 55)).toNat ((M0 222 26)).toNat := by
  have L := g_ll_b M0 m 26
  have A := g_ca_b M0 m ((M0 222 55)).toNat
  have im : ∀ i, 0 ≤ i → i < 300 → W 290 (300 * m + i) = V 290 (300 * m + i) := fun i a b => k.2.2.1 _ (by omega)
  refine ⟨fun l hl z => ?_, fun a ha z => ?_, fun q hq z => ?_⟩
  · have u := h.1 l hl z
    have b := g_ll_b M0 m l
    rw [k.2.2.2.1 _ (by omega), im _ b.1 (by omega)]
    exact u
  · have u := h.2.1 a ha z
    have b := g_ca_b M0 m a
    have b2 := g_ca_m M0 m (show a ≤ ((M0 222 55)).toNat by omega)
    have c := g_cp_0 (C0 := C0) (M0 := M0) (n := m) hUb ((M0 222 26)).toNat
    have s := g_ca_s z
    have b3 := g_ca_m M0 m (show a + 1 ≤ ((M0 222 55)).toNat by omega)
    unfold g_T at h3
    rw [k.2.2.2.2.1 _ (by omega) (by omega) (by omega), im _ (by omega) (by omega)]
    exact u
  · have u := h.2.2 q hq z
    have c := g_cp_0 (C0 := C0) (M0 := M0) (n := m) hUb q
    have s := g_cp_s (C0 := C0) (U := U) z
    have c2 := g_cp_m (C0 := C0) (M0 := M0) (n := m) hUb (show q + 1 ≤ ((M0 222 26)).toNat by omega)
    unfold g_T at h3
    have e : W 257 (q : Int) = V 257 (q : Int) := k.2.2.2.2.2 _ (by omega) (by omega) (by omega)
    refine ⟨fun o => ?_, fun o => ?_⟩
    · have v : g_vl C0 M0 U (q : Int) = 1 := by unfold g_vl; rw [if_pos o]
      have u2 := u.1 o
      unfold g_sp at u2 ⊢
      rw [e, im _ (by omega) (by omega)]
      exact u2
    · have v : g_vl C0 M0 U (q : Int) = U (C0 520 (q : Int)) := by unfold g_vl; rw [if_neg (by omega), if_pos o]
      have u2 := u.2 o
      have w := hw q hq z o
      refine ⟨by rw [e]; exact u2.1, fun i i0 i1 => ?_⟩
      have u3 := u2.2 i i0 i1
      unfold g_sp at u3 ⊢
      rw [im _ (by omega) (by omega), k.2.2.1 (300 * C0 520 (q : Int) + i) (by omega)]
      exact u3
theorem s_least {x : Int} (hg : ax_g V) (hx : ax_rg x) (h : Φ (g_sat x) V) : ax_I ay_lay (d + 1) q_Model_least [.ref 222, ax_i x] V Φ Θ := by
  refine r_Model_least hg hx ⟨fun z => ?_, fun z => ?_⟩
  · have e : g_sat x = x := by unfold g_sat; split <;> omega
    rw [e] at h; exact h
  · have e : g_sat x = 1000000 := by unfold g_sat; rw [if_neg (by omega)]
    rw [e] at h; exact h
/-- a place more -/
theorem s_place {v s : Int} (hg : ax_g V) (n0 : 0 ≤ n ∧ n < 8) (rv : ax_rg v) (hs : 0 ≤ s) (hm : V 288 n = g_sat s) (h : ∀ W, g_fr [288, 290] V W → ax_g W → W 288 n = g_sat (s + 1) → (∀ m, m ≠ n → W 288 m = V 288 m) → (∀ i, i ≠ 300 * n + s → W 290 i = V 290 i) → (¬ (300 * n ≤ 300 * n + s ∧ 300 * n + s < 300 * n + 300) → W 290 = V 290) → (s < 300 → W 290 (300 * n + s) = v) → Φ (g_sat (s + 1) - 1) W) : ax_I ay_lay (d + 2) q_Model_place [.ref 222, ax_i n, ax_i v] V Φ Θ := by
  have b := g_sat_b hs
  have b1 := g_sat_b (x := s + 1) (by omega)
  have rn : ax_rg n := ⟨by omega, by omega⟩
  have b9 : 0 ≤ n ∧ n < 9 := ⟨n0.1, by omega⟩
  refine r_Model_place hg rn rv ⟨b9, fun z => ⟨b9, ?_⟩, fun z => ⟨b9, ?_⟩⟩
  · rw [hm]
    rw [hm] at z
    have s3 : ¬ s < 300 := fun y => by unfold g_sat at z; rw [if_pos (by omega)] at z; omega
    refine s_least hg ⟨by omega, by omega⟩ ⟨b9, fun V2 e2 => ⟨b9, ?_⟩⟩
    rw [g_sat_a (by decide)] at e2
    have e3 : V2 288 n = g_sat (s + 1) := by rw [e2, ax_u_s]
    have e0 : V2 290 = V 290 := by rw [e2, ax_u_ne (by decide)]
    rw [e3]
    exact ⟨⟨by omega, by omega⟩, h V2 (by rw [e2]; exact (g_fr.rf _ _).u (by decide)) (by rw [e2]; exact ax_u_g hg ⟨by omega, by omega⟩) e3 (fun m y => by rw [e2, ax_u_k y]) (fun i _ => by rw [e0]) (fun _ => e0) (fun y => absurd y s3)⟩
  · rw [hm] at z ⊢
    have s3 : s < 300 := (by unfold g_sat at z; split at z <;> omega)
    have es : g_sat s = s := by unfold g_sat; rw [if_pos (by omega)]
    rw [es]
    refine ⟨⟨by omega, by omega⟩, fun V3 e3 => ⟨b9, ?_⟩⟩
    have m3 : V3 288 n = s := by rw [e3, ax_u_ne (by decide), hm, es]
    have g3 : ax_g V3 := by rw [e3]; exact ax_u_g hg rv
    rw [m3]
    refine s_least g3 ⟨by omega, by omega⟩ ⟨b9, fun V5 e5 => ⟨b9, ?_⟩⟩
    have e6 : V5 288 n = g_sat (s + 1) := by rw [e5, ax_u_s]
    rw [e6]
    exact ⟨⟨by omega, by omega⟩, h V5 (by rw [e5, e3]; exact ((g_fr.rf _ _).u (by decide)).u (by decide)) (by rw [e5]; exact ax_u_g g3 ⟨by omega, by omega⟩) e6 (fun m y => by rw [e5, ax_u_k y, e3, ax_u_ne (by decide)]) (fun i y => by rw [e5, ax_u_ne (by decide), e3, ax_u_k y]) (fun y => absurd ⟨by omega, by omega⟩ y) (fun _ => by rw [e5, ax_u_ne (by decide), e3, ax_u_s])⟩
/-- what is remembered ahead of cur stays -/
theorem g_NK.up {kl ka kp : Nat} {cur : Int} (h : g_NK C0 M0 U W n kl ka kp) (n0 : 0 ≤ n) (hw : ∀ q : Nat, q < kp → M0 250 (q : Int) = n → M0 241 (q : Int) = 22 → 0 ≤ C0 520 (q : Int) ∧ C0 520 (q : Int) < n) (hUb : ∀ x, 0 ≤ U x ∧ U x ≤ 1000000) (c3 : cur ≤ 300)
    (hl : ∀ l : Nat, l < kl → ¬ M0 236 (26 * n + (l : Int)) = 0 → g_ll M0 n l < cur) (ha : ∀ a : Nat, a < ka → M0 267 (a : Int) = n → g_ll M0 n 26 + g_ca M0 n a < cur) (hq : ∀ q : Nat, q < kp → M0 250 (q : Int) = n → g_sp C0 M0 U n q + g_vl C0 M0 U (q : Int) ≤ cur)
    (im : ∀ i, 0 ≤ i → i < 300 * n + cur → W' 290 i = W 290 i) (e40 : ∀ l : Nat, l < kl → W' 240 (26 * n + (l : Int)) = W 240 (26 * n + (l : Int))) (e70 : ∀ a : Nat, a < ka → W' 270 (a : Int) = W 270 (a : Int)) (e57 : ∀ q : Nat, q < kp → W' 257 (q : Int) = W 257 (q : Int)) : g_NK C0 M0 U W' n kl ka kp := by
  have L := g_ll_b M0 n 26
  refine ⟨fun l x z => ?_, fun a x z => ?_, fun q x z => ⟨fun o => ?_, fun o => ?_⟩⟩
  · have := hl l x z
    have b := g_ll_b M0 n l
    rw [e40 l x, im _ (by omega) (by omega)]; exact h.1 l x z
  · have := ha a x z
    have b := g_ca_b M0 n a
    rw [e70 a x, im _ (by omega) (by omega)]; exact h.2.1 a x z
  · have v : g_vl C0 M0 U (q : Int) = 1 := by unfold g_vl; rw [if_pos o]
    have := hq q x z
    have c := g_cp_0 (C0 := C0) (M0 := M0) (n := n) hUb q
    have b := g_ca_b M0 n ((M0 222 55)).toNat
    have s0 : 0 ≤ g_sp C0 M0 U n q := by unfold g_sp; omega
    rw [e57 q x, im _ (by omega) (by omega)]; exact (h.2.2 q x z).1 o
  · have v : g_vl C0 M0 U (q : Int) = U (C0 520 (q : Int)) := by unfold g_vl; rw [if_neg (by omega), if_pos o]
    have := hq q x z
    have c := g_cp_0 (C0 := C0) (M0 := M0) (n := n) hUb q
    have b := g_ca_b M0 n ((M0 222 55)).toNat
    have s0 : 0 ≤ g_sp C0 M0 U n q := by unfold g_sp; omega
    have w := hw q x z o
    refine ⟨by rw [e57 q x]; exact ((h.2.2 q x z).2 o).1, fun i i0 i1 => ?_⟩
    rw [im _ (by omega) (by omega), im _ (by omega) (by omega)]
    exact ((h.2.2 q x z).2 o).2 i i0 i1
end SlotsM
