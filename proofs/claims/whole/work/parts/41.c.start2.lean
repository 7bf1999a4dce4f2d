/-! THE WORLD AT THE LAW'S LOOP: its numbers; the relation holds there -/
def y_g0 (o : Option va_E) (i : Int) : Int := match o with
  | some (Sum.inl (_, _, Sum.inl f)) => (f i.toNat).toInt
  | some (Sum.inr (_, vs)) => (match vs[i.toNat]? with
    | some (.int x) => x.toInt
    | _ => 0)
  | _ => 0
def y_V0 : ax_V := fun c i => y_g0 (zM[y_ad c]?) i
theorem y_g0_g (o : Option va_E) (i : Int) : ax_rg (y_g0 o i) := by
  unfold y_g0
  split
  · exact ax_rg_of _
  · split
    · exact ax_rg_of _
    · decide
  · decide
theorem y_V0_g : ax_g y_V0 := fun c i => y_g0_g _ _
theorem y_vq_e {u v : Value} (h : y_vq u v = true) : u = v := by
  unfold y_vq at h
  split at h
  · next a b => rw [beq_iff_eq] at h; rw [h]
  · rfl
  · cases h
theorem y_fq_k : ∀ (fs : List (Option Value)) (vs : List Value), y_fq fs vs = true → fs.length = vs.length ∧ ∀ k : Nat, (fs[k]? = some none → ∃ x, vs[k]? = some (.int x)) ∧ ∀ u, fs[k]? = some (some u) → vs[k]? = some u := by
  intro fs
  induction fs with
  | nil =>
    intro vs h
    cases vs with
    | nil => exact ⟨rfl, fun k => ⟨fun z => by simp at z, fun u z => by simp at z⟩⟩
    | cons v vs => simp [y_fq] at h
  | cons f fs ih =>
    intro vs h
    cases vs with
    | nil => cases f <;> simp [y_fq] at h
    | cons v vs =>
      cases f with
      | none =>
        have hv : ∃ x, v = .int x ∧ y_fq fs vs = true := by
          cases v <;> first | exact ⟨_, rfl, h⟩ | simp [y_fq] at h
        obtain ⟨x, ex, h2⟩ := hv
        obtain ⟨l, k⟩ := ih vs h2
        refine ⟨by simp [l], fun j => ?_⟩
        cases j with
        | zero => exact ⟨fun _ => ⟨x, by rw [ex]; rfl⟩, fun u z => by simp at z⟩
        | succ j => simpa using k j
      | some u =>
        have hv : y_vq u v = true ∧ y_fq fs vs = true := by
          have h' : (y_vq u v && y_fq fs vs) = true := by
            cases v <;> exact h
          simpa using h'
        obtain ⟨l, k⟩ := ih vs hv.2
        refine ⟨by simp [l], fun j => ?_⟩
        cases j with
        | zero => exact ⟨fun z => by simp at z, fun u' z => by
            have e : u = u' := by simpa using z
            rw [← e, y_vq_e hv.1]; rfl⟩
        | succ j => simpa using k j
theorem y_ck_c {id a : Nat} {x : (Nat × Nat) ⊕ (Nat × List (Option Value))} {e : va_E} (h : y_ck (.inr (id, x)) e a = true) (he : zM[a]? = some e) : y_ad id = a ∧ ax_c y_V0 (.inr (id, x)) = e := by
  rcases x with ⟨t, n⟩ | ⟨ci, fs⟩
  · rcases e with ⟨t', n', f | f⟩ | ⟨cj, vs⟩
    · have h' : (y_ad id == a && t == t' && n == n') = true := h
      simp only [Bool.and_eq_true, beq_iff_eq] at h'
      refine ⟨h'.1.1, ?_⟩
      show (.inl (t, n, .inl (fun j : Nat => Int32.ofInt (y_V0 id (j : Int)))) : va_E) = _
      have ef : (fun j : Nat => Int32.ofInt (y_V0 id (j : Int))) = f := funext (fun j => by
        show Int32.ofInt (y_g0 (zM[y_ad id]?) (j : Int)) = f j
        rw [h'.1.1, he]
        show Int32.ofInt (f ((j : Int)).toNat).toInt = f j
        rw [Int32.ofInt_toInt, Int.toNat_natCast])
      rw [ef, h'.1.2, h'.2]
    · exact absurd h (by intro z; cases z)
    · exact absurd h (by intro z; cases z)
  · rcases e with ⟨t', n', f⟩ | ⟨cj, vs⟩
    · exact absurd h (by intro z; cases z)
    · have h' : (y_ad id == a && ci == cj && y_fq fs vs) = true := h
      simp only [Bool.and_eq_true, beq_iff_eq] at h'
      obtain ⟨l, k⟩ := y_fq_k fs vs h'.2
      refine ⟨h'.1.1, ?_⟩
      show (.inr (ci, fs.mapIdx (fun k f => f.getD (ax_i (y_V0 id (k : Int))))) : va_E) = .inr (cj, vs)
      have ev : fs.mapIdx (fun k f => f.getD (ax_i (y_V0 id (k : Int)))) = vs := by
        apply List.ext_getElem?
        intro j
        rw [List.getElem?_mapIdx]
        cases hf : fs[j]? with
        | none =>
          have : vs[j]? = none := by
            rw [List.getElem?_eq_none_iff] at hf ⊢
            omega
          rw [this]; rfl
        | some f =>
          cases f with
          | none =>
            obtain ⟨x, ex⟩ := (k j).1 hf
            rw [ex]
            show some (ax_i (y_V0 id (j : Int))) = _
            have e1 : y_V0 id (j : Int) = x.toInt := by
              show y_g0 (zM[y_ad id]?) (j : Int) = _
              rw [h'.1.1, he]
              show (match vs[((j : Int)).toNat]? with | some (.int x) => x.toInt | _ => 0) = x.toInt
              rw [Int.toNat_natCast, ex]
            rw [e1]
            unfold ax_i
            rw [Int32.ofInt_toInt]
          | some u =>
            rw [(k j).2 u hf]; rfl
      rw [ev, h'.1.2]
theorem y_al_get : ∀ (ss : List ax_S) (es : List va_E) (a0 : Nat), y_al ss es a0 = true → ss.length = es.length ∧ ∀ (k : Nat) (s : ax_S) (e : va_E), ss[k]? = some s → es[k]? = some e → y_ck s e (a0 + k) = true := by
  intro ss
  induction ss with
  | nil =>
    intro es a0 h
    cases es with
    | nil => exact ⟨rfl, fun k s e z => by simp at z⟩
    | cons e es => cases h
  | cons s ss ih =>
    intro es a0 h
    cases es with
    | nil => cases h
    | cons e es =>
      have h' : (y_ck s e a0 && y_al ss es (a0 + 1)) = true := h
      simp only [Bool.and_eq_true] at h'
      obtain ⟨l, k⟩ := ih es (a0 + 1) h'.2
      refine ⟨by simp [l], fun j s' e' hs he => ?_⟩
      cases j with
      | zero =>
        have e1 : s = s' := by simpa using hs
        have e2 : e = e' := by simpa using he
        rw [← e1, ← e2]; exact h'.1
      | succ j =>
        have u := k j s' e' (by simpa using hs) (by simpa using he)
        rw [show a0 + (j + 1) = a0 + 1 + j by omega]; exact u
theorem y_S0_len : y_S0.length = 314 := by decide +kernel
theorem y_S0_156 : y_S0[156]? = some (.inl y_A) := rfl
/-- only one cell is taken as it is -/
theorem y_S0_raw : ∀ a : Fin 314, (match y_S0[a.val]? with | some (.inl _) => a.val == 156 | _ => true) = true := by decide +kernel
theorem y_S0_w : ax_w y_S0 y_V0 = zM := by
  have q := y_al_get y_S0 zM 0 y_S0_ok
  apply List.ext_getElem?
  intro j
  unfold ax_w
  rw [List.getElem?_map]
  cases hs : y_S0[j]? with
  | none =>
    have : zM[j]? = none := by
      rw [List.getElem?_eq_none_iff] at hs ⊢
      omega
    rw [this]; rfl
  | some s =>
    have lt := (List.getElem?_eq_some_iff.mp hs).1
    obtain ⟨e, he⟩ : ∃ e, zM[j]? = some e := ⟨_, List.getElem?_eq_getElem (by omega)⟩
    have c := q.2 j s e hs he
    rw [Nat.zero_add] at c
    rw [he]
    rcases s with r | ⟨id, x⟩
    · have u := y_S0_raw ⟨j, by have := y_S0_len; omega⟩
      have u' : (match y_S0[j]? with | some (.inl _) => j == 156 | _ => true) = true := u
      rw [hs] at u'
      have ej : j = 156 := by simpa using u'
      rw [ej] at hs he
      rw [y_S0_156] at hs
      rw [y_f1_c] at he
      have e1 : (.inl y_A : ax_S) = .inl r := Option.some.inj hs
      have e2 : y_A = r := by injection e1
      have e3 : y_A = e := Option.some.inj he
      show some r = some e
      rw [← e2, e3]
    · exact congrArg some (y_ck_c c he).2
