/-! THE WORLD AT THE LAW'S LOOP: its shape -/
noncomputable def y_S0 : List ax_S := [.inr (0, .inr (11, [some (.ref 1), none, none, none, some (.ref 2), some (.ref 76), some (.ref 150), some (.ref 156), none, some (.ref 157)])), .inr (1, .inl (2, 700))] ++ az_P 2 ++ (az_P 76).map y_up ++ [az_mc 2, .inr (151, .inl (0, 700)), .inr (152, .inl (0, 208)), .inr (153, .inl (1, 208)), .inr (154, .inl (0, 350)), .inr (155, .inl (0, 300)), .inl y_A, az_pv 159 .null .null, .inr (158, .inl (0, 300)), .inr (620, .inl (0, 0)), .inr (160, .inl (0, 600)), .inr (161, .inl (0, 300)), .inr (162, .inl (0, 300)), .inr (163, .inl (0, 1024)), .inr (164, .inl (0, 26)), .inr (165, .inl (0, 4))] ++ y_J 0 ++ y_J 1 ++ y_J 2 ++ y_J 3 ++ y_J 4 ++ y_J 5 ++ y_J 6 ++ y_J 7 ++ ay_S
/-- where a number is at first -/
def y_ad (c : Nat) : Nat := if 500 ≤ c ∧ c ≤ 573 then c - 498 else if 1000 ≤ c ∧ c ≤ 1073 then c - 924 else if c = 620 then 159 else if 900 ≤ c ∧ c ≤ 955 then c - 734 else c
def y_vq (u v : Value) : Bool := match u, v with
  | .ref a, .ref b => a == b
  | .null, .null => true
  | _, _ => false
def y_fq : List (Option Value) → List Value → Bool
  | [], [] => true
  | none :: fs, .int _ :: vs => y_fq fs vs
  | some u :: fs, v :: vs => y_vq u v && y_fq fs vs
  | _, _ => false
/-- a cell has this shape -/
def y_ck (s : ax_S) (e : va_E) (a : Nat) : Bool := match s, e with
  | .inl _, _ => true
  | .inr (id, .inl (t, n)), .inl (t', n', .inl _) => y_ad id == a && t == t' && n == n'
  | .inr (id, .inr (ci, fs)), .inr (cj, vs) => y_ad id == a && ci == cj && y_fq fs vs
  | _, _ => false
def y_al : List ax_S → List va_E → Nat → Bool
  | [], [], _ => true
  | s :: ss, e :: es, a => y_ck s e a && y_al ss es (a + 1)
  | _, _, _ => false
theorem y_S0_ok : y_al y_S0 zM 0 = true := by decide +kernel
