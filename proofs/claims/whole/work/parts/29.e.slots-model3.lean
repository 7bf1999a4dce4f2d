/-! SLOTS: all nodes of the model -/
def g_NA (C0 M0 : ax_V) (U J : Int → Int) (W : ax_V) (n : Int) : Prop := ∀ m, 0 ≤ m → m < n → W 288 m = U m ∧ W 289 m = J m ∧ (g_T C0 M0 U m ≤ 300 → g_NK C0 M0 U W m 26 ((M0 222 55)).toNat ((M0 222 26)).toNat)
section SlotsA
variable {d : Nat} {C0 M0 M V : ax_V} {U J : Int → Int} {n : Int} {Φ : Int → ax_V → Prop} {Ψ Θ : ax_V → Prop}
theorem s_findSlots (hS : g_S C0 M0) (ok : g_N2 M0) (hUJ : g_UJ C0 M0 U J) (hb : g_MB C0 M0 M) (h : ∀ W, g_fr g_XS M W → ax_g W → g_NA C0 M0 U J W (M0 222 86) → Ψ W) : ax_N ay_lay (d + 3) q_Model_findSlots [.ref 222] M Ψ Θ := by
  have hN := hS.2.1
  have bU : ∀ m, 0 ≤ U m ∧ U m ≤ 1000000 := fun m => (hUJ.1 m).1
  have sc : ∀ {W : ax_V}, g_fr g_XS M W → ∀ j, j ∉ g_KM → W 222 j = M0 222 j := fun f j z => by rw [f 222 (by decide)]; exact hb.2.1 j z
  refine r_Model_findSlots hb.2.2.1 ?_
  refine ax_for (I := fun n W => (0 ≤ n ∧ n ≤ (M0 222 86)) ∧ g_fr g_XS M W ∧ ax_g W ∧ g_NA C0 M0 U J W n) (K := fun n W => ∀ y2 y3 y4, ax_y y2 → ax_y y3 → ax_y y4 → k_Model_findSlots_2 (d + 2) n y2 y3 y4 W Ψ Θ) (hi := (M0 222 86)) (fun n W w hI next y2 y3 y4 hy2 hy3 hy4 => ?_) (fun n W w hI y2 y3 y4 hy2 hy3 hy4 => ?_) 0 M ⟨⟨by decide, by omega⟩, g_fr.rf _ _, hb.2.2.1, fun m a b => by omega⟩ none none none ax_y_n ax_y_n ax_y_n
  · obtain ⟨hn, f1, g1, k1⟩ := hI
    refine r_Model_findSlots_2 g1 ⟨by omega, by omega⟩ hy2 hy3 hy4 ?_
    rw [sc f1 86 (by decide)]
    refine ⟨fun z => by omega, fun _ => ⟨⟨hn.1, by omega⟩, fun V1 e1 => ⟨⟨hn.1, by omega⟩, fun V2 e2 => ?_⟩⟩⟩
    rw [e1] at e2
    refine s_slotsNode hS ok hUJ hb f1 g1 hn.1 w (fun m a b => (k1 m a b).1) (fun m a b => (k1 m a b).2.1) (fun W2 x2 y3 y4 hy3 hy4 hQ hU hJ => next W2 ⟨⟨by omega, by omega⟩, f1.tr hQ.1.1, hQ.2.1, fun m a b => ?_⟩ _ _ _ (ax_y_i _) hy3 hy4) _ _ hy3 hy4 V2 e2
    by_cases e : m = n
    · rw [e]; exact ⟨hU, hJ, hQ.2.2.2⟩
    · have km := k1 m a (by omega)
      refine ⟨by rw [(hQ.1.2.1 m e).1]; exact km.1, by rw [(hQ.1.2.1 m e).2]; exact km.2.1, fun t3 => (km.2.2 t3).other hQ.1 ⟨a, by omega⟩ (fun q x y o => ?_) (fun x => (bU x).1) t3 bU⟩
      have := ok.call hS (q := (q : Int)) (by omega) (by omega) o
      omega
  · obtain ⟨hn, f1, g1, k1⟩ := hI
    have en : n = (M0 222 86) := by omega
    rw [en] at k1
    refine r_Model_findSlots_2 g1 ⟨by omega, by omega⟩ hy2 hy3 hy4 ?_
    rw [sc f1 86 (by decide)]
    exact ⟨fun _ => h W f1 g1 k1, fun z => by omega⟩
end SlotsA
