/-! PROVING: what can be proved -/
def p_cp (M : ax_V) (U J : Int → Int) (k : Int) : Prop := h_N M U J k ∧ M 227 k ≤ 4 ∧ ∀ i, 0 ≤ i → i < M 227 k → M 233 (26 * k + M 230 (26 * k + i)) = 1
def p_so (M : ax_V) (k o : Int) : Prop := M 228 k = M 228 o ∧ ∀ i, 0 ≤ i → i < M 228 k → M 233 (26 * k + M 231 (26 * k + i)) = M 233 (26 * o + M 231 (26 * o + i))
section Can
variable {B q d : Nat} {Sp : az_H} {Jx : Int} {C0 M0 P V W N : ax_V} {F G Hh S U J Im : Int → Int} {k o x i : Int} {Φ : Int → ax_V → Prop} {Ψ Θ : ax_V → Prop}
/-- letters of inputs and outputs, in the class -/
theorem p_let (hX : h_X C0 M0 P F G Hh S U J Im) (hP : ∀ c, 500 ≤ c → c ≤ 573 → V c = P c) (k0 : 0 ≤ k ∧ k < (M0 222 86)) : (V 503 k = M0 227 k ∧ V 504 k = M0 228 k) ∧ (0 ≤ M0 227 k ∧ 0 ≤ M0 228 k ∧ M0 227 k + M0 228 k ≤ 26) ∧ (∀ i, 0 ≤ i → i < M0 227 k → V 506 (26 * k + i) = 26 * k + M0 230 (26 * k + i) ∧ (0 ≤ M0 230 (26 * k + i) ∧ M0 230 (26 * k + i) < 26) ∧ V 535 (26 * k + M0 230 (26 * k + i)) = M0 233 (26 * k + M0 230 (26 * k + i)) ∧ (M0 233 (26 * k + M0 230 (26 * k + i)) = 0 ∨ M0 233 (26 * k + M0 230 (26 * k + i)) = 1)) ∧ ∀ i, 0 ≤ i → i < M0 228 k → V 507 (26 * k + i) = 26 * k + M0 231 (26 * k + i) ∧ (0 ≤ M0 231 (26 * k + i) ∧ M0 231 (26 * k + i) < 26) ∧ V 535 (26 * k + M0 231 (26 * k + i)) = M0 233 (26 * k + M0 231 (26 * k + i)) ∧ (M0 233 (26 * k + M0 231 (26 * k + i)) = 0 ∨ M0 233 (26 * k + M0 231 (26 * k + i)) = 1) := by
  have hS := hX.hS
  have fl := hS.fl k0.1 k0.2
  have b26 := (f_cn_le M0 k 26).2
  have q1 := fl.2.2.2.1
  have q2 := fl.2.1.2
  have q3 := fl.2.2.1.2
  have q4 := fl.1.2
  have cell : ∀ c, 500 ≤ c → c ≤ 573 → c ∉ g_XP → V c = C0 c := fun c a b z => by rw [hP c a b, hX.hP c z]
  refine ⟨⟨by rw [cell 503 (by decide) (by decide) (by decide)]; exact fl.1.1, by rw [cell 504 (by decide) (by decide) (by decide)]; exact fl.2.1.1⟩, ⟨q4, q2, by omega⟩, fun i a b => ?_, fun i a b => ?_⟩
  · have ip := fl.2.2.2.2.1 i a b
    have st := hS.sort k0.1 k0.2 ip.2.1.1 ip.2.1.2 (by omega)
    rw [cell 506 (by decide) (by decide) (by decide), cell 535 (by decide) (by decide) (by decide)]
    exact ⟨ip.1, ip.2.1, st.1, st.2⟩
  · have ip := fl.2.2.2.2.2.1 i a b
    have st := hS.sort k0.1 k0.2 ip.2.1.1 ip.2.1.2 (by omega)
    rw [cell 507 (by decide) (by decide) (by decide), cell 535 (by decide) (by decide) (by decide)]
    exact ⟨ip.1, ip.2.1, st.1, st.2⟩
set_option maxHeartbeats 1000000 in
theorem t_canProve (hX : h_X C0 M0 P F G Hh S U J Im) (hP : ∀ c, 500 ≤ c → c ≤ 573 → V c = P c) (hg : ax_g V) (hc : V 500 0 = (M0 222 86)) (hU : ∀ m, 0 ≤ m → m < (M0 222 86) → V 513 m = J m ∧ V 514 m = U m) (rk : ax_rg k) (h1 : p_cp M0 U J k → Φ 1 V) (h0 : ¬ p_cp M0 U J k → Φ 0 V) : ax_I (az_W B (az_EH B Sp q Jx)) (d + 3) q_House_canProve [.ref 0, ax_i k] V Φ Θ := by
  have hN := hX.hS.2.1
  refine r_House_canProve (d := d + 2) hg rk (r_Program_canMake (d := d + 1) hg rk (r_Program_has (d := d) hg rk ?_))
  rw [hc]
  refine ⟨fun z => ⟨fun _ => ⟨fun _ => h0 (fun w => by have := w.1.1.1; omega), fun y => absurd rfl y⟩, fun y => absurd rfl y⟩, fun z => ⟨fun y => ⟨fun _ => ⟨fun _ => h0 (fun w => by have := w.1.1.2; omega), fun u => absurd rfl u⟩, fun u => absurd rfl u⟩, fun y => ⟨fun u => absurd u (by decide), fun _ => ?_⟩⟩⟩
  have k8 : 0 ≤ k ∧ k < 8 := ⟨z, by omega⟩
  rw [(hU k z y).1, (hU k z y).2]
  refine ⟨k8, fun u => ⟨fun _ => h0 (fun w => by have := w.1.2.2; omega), fun u => absurd rfl u⟩, fun u => ⟨k8, fun t => ⟨fun _ => h0 (fun w => by have := w.1.2.1; omega), fun u => absurd rfl u⟩, fun t => ⟨fun u => absurd u (by decide), fun _ => ⟨k8, ?_⟩⟩⟩⟩
  obtain ⟨⟨e503, e504⟩, ⟨q1, q2, q3⟩, inp, out⟩ := p_let hX hP ⟨z, y⟩
  rw [e503]
  refine ⟨fun w4 => ?_, fun w4 => h0 (fun w => by have := w.2.1; omega)⟩
  refine ax_for (I := fun i X => ((0 ≤ i ∧ i ≤ M0 227 k) ∧ ∀ j, 0 ≤ j → j < i → M0 233 (26 * k + M0 230 (26 * k + j)) = 1) ∧ X = V) (K := fun i X => k_House_canProve_28 B Sp q Jx (d + 2) k i X Φ Θ) (hi := M0 227 k) (fun i X wi hI nx => ?_) (fun i X wi hI => ?_) 0 V ⟨⟨⟨Int.le_refl _, q1⟩, fun j a b => by omega⟩, rfl⟩
  · obtain ⟨⟨ib, iX⟩, eX⟩ := hI
    have ip := inp i ib.1 wi
    have i26 := ip.2.1
    rw [eX]
    refine r_House_canProve_28 hg rk ⟨by omega, by omega⟩ ⟨k8, ?_⟩
    rw [e503, show k * 26 + i = 26 * k + i by omega, ip.1, ip.2.2.1]
    refine ⟨fun v => by omega, fun _ => ⟨⟨by omega, by omega⟩, ⟨by omega, by omega⟩, fun e => nx V ⟨⟨⟨by omega, by omega⟩, fun j a b => ?_⟩, rfl⟩, fun e => h0 (fun w => e (w.2.2 i ib.1 wi))⟩⟩
    by_cases yy : j = i
    · rw [yy]; exact e
    · exact iX j a (by omega)
  · obtain ⟨⟨ib, iX⟩, eX⟩ := hI
    rw [eX]
    refine r_House_canProve_28 hg rk ⟨by omega, by omega⟩ ⟨k8, ?_⟩
    rw [e503]
    exact ⟨fun _ => h1 ⟨⟨⟨z, y⟩, t, u⟩, w4, fun j a b => iX j a (by omega)⟩, fun v => by omega⟩
set_option maxHeartbeats 1000000 in
theorem t_haveSame (hX : h_X C0 M0 P F G Hh S U J Im) (hP : ∀ c, 500 ≤ c → c ≤ 573 → V c = P c) (hg : ax_g V) (k0 : 0 ≤ k ∧ k < (M0 222 86)) (o0 : 0 ≤ o ∧ o < (M0 222 86)) (h1 : p_so M0 k o → Φ 1 V) (h0 : ¬ p_so M0 k o → Φ 0 V) : ax_I (az_W B (az_EH B Sp q Jx)) (d + 1) q_House_haveSameOutputs [.ref 0, ax_i k, ax_i o] V Φ Θ := by
  have hN := hX.hS.2.1
  obtain ⟨⟨e503, e504⟩, ⟨q1, q2, q3⟩, inp, out⟩ := p_let hX hP k0
  obtain ⟨⟨e503', e504'⟩, ⟨q1', q2', q3'⟩, inp', out'⟩ := p_let hX hP o0
  have rk : ax_rg k := ⟨by omega, by omega⟩
  have ro : ax_rg o := ⟨by omega, by omega⟩
  have k8 : 0 ≤ k ∧ k < 8 := ⟨k0.1, by omega⟩
  have o8 : 0 ≤ o ∧ o < 8 := ⟨o0.1, by omega⟩
  refine r_House_haveSameOutputs hg rk ro ⟨k8, o8, ?_⟩
  rw [e504, e504']
  refine ⟨fun eo => ?_, fun eo => h0 (fun w => eo w.1)⟩
  refine ax_for (I := fun i X => ((0 ≤ i ∧ i ≤ M0 228 k) ∧ ∀ j, 0 ≤ j → j < i → M0 233 (26 * k + M0 231 (26 * k + j)) = M0 233 (26 * o + M0 231 (26 * o + j))) ∧ X = V) (K := fun i X => ∀ y4 y5, ax_y y4 → ax_y y5 → k_House_haveSameOutputs_25 B Sp q Jx d k o i y4 y5 X Φ Θ) (hi := M0 228 k) (fun i X wi hI nx y4 y5 h4 h5 => ?_) (fun i X wi hI y4 y5 h4 h5 => ?_) 0 V ⟨⟨⟨Int.le_refl _, q2⟩, fun j a b => by omega⟩, rfl⟩ none none ax_y_n ax_y_n
  · obtain ⟨⟨ib, iX⟩, eX⟩ := hI
    have ip := out i ib.1 wi
    have ip' := out' i ib.1 (by omega)
    have i26 := ip.2.1
    have i26' := ip'.2.1
    rw [eX]
    refine r_House_haveSameOutputs_25 hg rk ro ⟨by omega, by omega⟩ h4 h5 ⟨k8, ?_⟩
    rw [e504, show k * 26 + i = 26 * k + i by omega, show o * 26 + i = 26 * o + i by omega, ip.1, ip'.1, ip.2.2.1, ip'.2.2.1]
    refine ⟨fun v => by omega, fun _ => ⟨⟨by omega, by omega⟩, ⟨by omega, by omega⟩, ⟨by omega, by omega⟩, ⟨by omega, by omega⟩, fun e => nx V ⟨⟨⟨by omega, by omega⟩, fun j a b => ?_⟩, rfl⟩ _ _ (ax_y_i _) (ax_y_i _), fun e => h0 (fun w => e (w.2 i ib.1 wi))⟩⟩
    by_cases yy : j = i
    · rw [yy]; exact e
    · exact iX j a (by omega)
  · obtain ⟨⟨ib, iX⟩, eX⟩ := hI
    rw [eX]
    refine r_House_haveSameOutputs_25 hg rk ro ⟨by omega, by omega⟩ h4 h5 ⟨k8, ?_⟩
    rw [e504]
    exact ⟨fun _ => h1 ⟨eo, fun j a b => iX j a (by omega)⟩, fun v => by omega⟩
set_option maxHeartbeats 1000000 in
theorem s_canBeFed (hX : h_X C0 M0 P F G Hh S U J Im) (hV : h_RM C0 M0 S U J Im N) (hg : ax_g N) (hc : N 222 86 = (M0 222 86)) (th : ¬ N 222 7 = 0) (rk : ax_rg k) (h1 : p_cp M0 U J k → Φ 1 N) (h0 : ¬ p_cp M0 U J k → Φ 0 N) : ax_I ay_lay (d + 4) q_Model_canBeFed [.ref 222, ax_i k] N Φ Θ := by
  have hN := hX.hS.2.1
  have cell : ∀ c, 226 ≤ c → c ≤ 277 → c ∉ h_CM → N c = M0 c := hV.1
  refine r_Model_canBeFed (d := d + 3) hg rk (s_canBe (d := d) hg rk (fun _ => by rw [hc]; exact ⟨by omega, by omega⟩) ?_)
  rw [hc]
  by_cases z : (¬ N 222 7 = 0 ∧ 0 ≤ k ∧ k < (M0 222 86)) ∧ N 289 k ≤ 60 ∧ N 288 k ≤ 300
  · rw [if_pos z]
    have k0 := z.1.2
    have k9 : 0 ≤ k ∧ k < 9 := ⟨k0.1, by omega⟩
    have na := hV.2.2.2.2.2.2.2.1 k k0.1 k0.2
    have hn : h_N M0 U J k := ⟨k0, by rw [← na.1]; exact z.2.2, by rw [← na.2.1]; exact z.2.1⟩
    have fl := hX.hS.fl k0.1 k0.2
    have q1 := fl.1.2
    have e227 : N 227 k = M0 227 k := by rw [cell 227 (by decide) (by decide) (by decide)]
    rw [e227]
    refine ⟨fun y => absurd y (by decide), fun _ => ⟨k9, fun w4 => ?_, fun w4 => h0 (fun w => by have := w.2.1; omega)⟩⟩
    refine ax_for (I := fun i X => ((0 ≤ i ∧ i ≤ M0 227 k) ∧ ∀ j, 0 ≤ j → j < i → M0 233 (26 * k + M0 230 (26 * k + j)) = 1) ∧ X = N) (K := fun i X => k_Model_canBeFed_22 (d + 3) k i X Φ Θ) (hi := M0 227 k) (fun i X wi hI nx => ?_) (fun i X wi hI => ?_) 0 N ⟨⟨⟨Int.le_refl _, q1⟩, fun j a b => by omega⟩, rfl⟩
    · obtain ⟨⟨ib, iX⟩, eX⟩ := hI
      have ip := hX.hS.inp (i := i) k0.1 k0.2 ib.1 wi
      have i26 := ip.2.1
      have ty := ip.2.2.2.1
      have e230 : N 230 (26 * k + i) = M0 230 (26 * k + i) := by rw [cell 230 (by decide) (by decide) (by decide)]
      have eT : ∀ j, N 233 j = M0 233 j := fun j => by rw [cell 233 (by decide) (by decide) (by decide)]
      rw [eX]
      refine r_Model_canBeFed_22 hg rk ⟨by omega, by omega⟩ ⟨k9, ?_⟩
      rw [e227, e230, eT]
      refine ⟨fun v => by omega, fun _ => ⟨⟨by omega, by omega⟩, ⟨by omega, by omega⟩, fun e => h0 (fun w => by have := w.2.2 i ib.1 wi; omega), fun e => nx N ⟨⟨⟨by omega, by omega⟩, fun j a b => ?_⟩, rfl⟩⟩⟩
      by_cases yy : j = i
      · rw [yy]; omega
      · exact iX j a (by omega)
    · obtain ⟨⟨ib, iX⟩, eX⟩ := hI
      rw [eX]
      refine r_Model_canBeFed_22 hg rk ⟨by omega, by omega⟩ ⟨k9, ?_⟩
      rw [e227]
      exact ⟨fun _ => h1 ⟨hn, w4, fun j a b => iX j a (by omega)⟩, fun v => by omega⟩
  · rw [if_neg z]
    refine ⟨fun _ => h0 (fun w => z ?_), fun y => absurd rfl y⟩
    have na := hV.2.2.2.2.2.2.2.1 k w.1.1.1 w.1.1.2
    exact ⟨⟨th, w.1.1⟩, by rw [na.2.1]; exact w.1.2.2, by rw [na.1]; exact w.1.2.1⟩
end Can
