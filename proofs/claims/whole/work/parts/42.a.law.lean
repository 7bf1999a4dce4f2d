/-! THE LAW'S HELPERS: module, out, flow, with the box (cell 314) -/
def y_bx (f : Nat → Int64) : va_E := .inl (3, 1, .inr (.inl f))
section Helpers
variable {B Sp w nw d : Nat} {m p : Value} {ss : List ax_S} {C N V : ax_V} {T : Int} {f f' : Nat → Int64}
theorem y_L.bx (h : y_L B Sp w nw m p ss) (hb : ss[314]? = some (.inl (y_bx f))) : y_L B Sp w nw m p (ss.set 314 (.inl (y_bx f'))) := by
  have kp : ∀ {a id : Nat} {x : (Nat × Nat) ⊕ (Nat × List (Option Value))}, ss[a]? = some (.inr (id, x)) → (ss.set 314 (.inl (y_bx f')))[a]? = some (.inr (id, x)) := fun hs => ax_set_ne (fun z => by rw [← z, hb] at hs; cases hs) hs
  refine h.keep (ax_ok_raw h.1) (fun a id x hs _ _ => kp hs) (ax_set_ne (by decide) (h.at 2 rfl)) (kp (h.at 9 rfl)) (kp (h.at 17 rfl))
theorem y_RL.bx (h : y_L B Sp w nw m p ss) (hb : ss[314]? = some (.inl (y_bx f))) (hR : y_RL B Sp nw ss C N T) : y_RL B Sp nw (ss.set 314 (.inl (y_bx f'))) C N T := by
  obtain ⟨b1, b2, b3, b5, b6⟩ := hR
  refine ⟨b1, b2, b3, b5, ?_⟩
  rcases b6 with a | ⟨a, og, c⟩
  · exact Or.inl a
  · refine Or.inr ⟨a, og.th rfl rfl (fun k hk => ?_), c⟩
    have l74 : (az_P B).length = 74 := rfl
    obtain ⟨s, hs⟩ : ∃ s, (az_P B)[k]? = some s := ⟨_, List.getElem?_eq_getElem (by omega)⟩
    rw [ax_w_get (h.2.1 k s hs), ax_w_get ((h.bx (f' := f') hb).2.1 k s hs)]
/-- a long into the box -/
theorem ax_w_bx (hb : ss[314]? = some (.inl (y_bx f))) : (ax_w ss V)[314]? = some (y_bx f) ∧ (ax_w ss V).set 314 (y_bx f') = ax_w (ss.set 314 (.inl (y_bx f'))) V := by
  refine ⟨ax_w_get hb, ?_⟩
  unfold ax_w
  rw [List.map_set]; rfl
theorem y_c_bx (hb : ss[314]? = some (.inl (y_bx f))) : y_c (ss.set 314 (.inl (y_bx f'))) = y_c ss := y_c_set (t := .inl (y_bx f')) hb rfl
theorem lk_15_7 : ai_P0.2.2.2.1 15 7 = some (0, 60, 0, 11) := rfl
theorem lk_15_15 : ai_P0.2.2.2.1 15 15 = some (0, 156, 2, 11) := rfl
theorem lk_15_21 : ai_P0.2.2.2.1 15 21 = some (0, 157, 2, 11) := rfl
end Helpers
