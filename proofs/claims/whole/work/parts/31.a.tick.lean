/-! A TICK, said once. R path kind index: 0 values of parts, 1 values of letters, 2 whether they are there, 3 states, 4 where it fails, 5 what is remembered, 7 after strong moves, 8 before weak moves, 6 afterwards; the path: the calls on the way down -/
abbrev h_R := List Int → Int → Int → Int
def h_on (r : Int → Int → Int) (c : Int) : Prop := c = 0 ∨ (¬ r 2 ((c - 1) / 2) = 0 ∧ r 1 ((c - 1) / 2) = c % 2)
/-- an equation holds in this tick -/
def h_eh (M : ax_V) (r : Int → Int → Int) (e : Int) : Prop := M 263 e = -1 ∨ r 3 (M 263 e) = M 264 e
def h_sa (M : ax_V) (n a : Int) : Int := g_ll M n 26 + g_ca M n a.toNat
/-- a part is worked in this tick -/
def h_ac (M : ax_V) (S : Int → Int) (n : Int) (r : Int → Int → Int) (q : Int) : Prop :=
  (∃ e, (0 ≤ e ∧ e < (M 222 44)) ∧ M 258 e = n ∧ (M 261 e ≤ q ∧ q ≤ M 262 e) ∧ h_eh M r e ∧ h_on r (S q)) ∨
  ∃ m, (0 ≤ m ∧ m < (M 222 60)) ∧ M 267 (M 271 m) = n ∧ (M 276 m ≤ q ∧ q ≤ M 277 m) ∧ M 272 m = if M 273 m = 0 then r 3 (M 271 m) else r 5 (h_sa M n (M 271 m))
/-- m is the first move out of state s that is 1; where it leads -/
def h_f1 (M : ax_V) (r : Int → Int → Int) (a x s m : Int) : Prop := (0 ≤ m ∧ m < (M 222 60)) ∧ (M 271 m = a ∧ M 273 m = x ∧ M 272 m = s) ∧ r 0 (M 277 m) = 1 ∧ ∀ m', 0 ≤ m' → m' < m → M 271 m' = a → M 273 m' = x → M 272 m' = s → ¬ r 0 (M 277 m') = 1
def h_nx (M : ax_V) (r : Int → Int → Int) (a x s t : Int) : Prop := (∃ m, h_f1 M r a x s m ∧ t = M 275 m) ∨ ((∀ m, ¬ h_f1 M r a x s m) ∧ t = s)
/-- the state t of a is begun anew -/
def h_rn (M : ax_V) (r : Int → Int → Int) (a x s t : Int) : Prop := ∃ m, h_f1 M r a x s m ∧ ¬ M 274 m = 0 ∧ M 275 m = t
def h_op (o num x y z l m : Int) : Int :=
  if o = 0 ∨ o = 1 then num else if o = 2 then l else if o = 3 then m else if o = 4 then ax_wr (-x) else if o = 5 then ax_wr (1 - x) else if o = 6 then m else if o = 7 then ax_wr (x + y) else if o = 8 then ax_wr (x - y) else if o = 9 then ax_wr (x * y) else if o = 10 then (if y = 0 then 0 else ax_div x y) else if o = 11 then (if y = 0 then 0 else ax_rem x y) else if o = 12 then (if x = y then 1 else 0) else if o = 13 then (if x = y then 0 else 1) else if o = 14 then (if x < y then 1 else 0) else if o = 15 then (if y < x then 1 else 0) else if o = 16 then ax_and x y else if o = 17 then ax_or x y else if o = 18 then (if x = 1 then y else z) else if o = 19 then (if m = 0 then x else y) else if o = 20 then x else if o = 21 then (if l = 1 then x else y) else 0
theorem h_o0 (num x y z l m : Int) : h_op 0 num x y z l m = num := by
  unfold h_op
  rw [if_pos (by decide)]
theorem h_o1 (num x y z l m : Int) : h_op 1 num x y z l m = num := by
  unfold h_op
  rw [if_pos (by decide)]
theorem h_o2 (num x y z l m : Int) : h_op 2 num x y z l m = l := by
  unfold h_op
  rw [if_neg (by decide), if_pos (by decide)]
theorem h_o3 (num x y z l m : Int) : h_op 3 num x y z l m = m := by
  unfold h_op
  rw [if_neg (by decide), if_neg (by decide), if_pos (by decide)]
theorem h_o4 (num x y z l m : Int) : h_op 4 num x y z l m = ax_wr (-x) := by
  unfold h_op
  rw [if_neg (by decide), if_neg (by decide), if_neg (by decide), if_pos (by decide)]
theorem h_o5 (num x y z l m : Int) : h_op 5 num x y z l m = ax_wr (1 - x) := by
  unfold h_op
  rw [if_neg (by decide), if_neg (by decide), if_neg (by decide), if_neg (by decide), if_pos (by decide)]
theorem h_o6 (num x y z l m : Int) : h_op 6 num x y z l m = m := by
  unfold h_op
  rw [if_neg (by decide), if_neg (by decide), if_neg (by decide), if_neg (by decide), if_neg (by decide), if_pos (by decide)]
theorem h_o7 (num x y z l m : Int) : h_op 7 num x y z l m = ax_wr (x + y) := by
  unfold h_op
  rw [if_neg (by decide), if_neg (by decide), if_neg (by decide), if_neg (by decide), if_neg (by decide), if_neg (by decide), if_pos (by decide)]
theorem h_o8 (num x y z l m : Int) : h_op 8 num x y z l m = ax_wr (x - y) := by
  unfold h_op
  rw [if_neg (by decide), if_neg (by decide), if_neg (by decide), if_neg (by decide), if_neg (by decide), if_neg (by decide), if_neg (by decide), if_pos (by decide)]
theorem h_o9 (num x y z l m : Int) : h_op 9 num x y z l m = ax_wr (x * y) := by
  unfold h_op
  rw [if_neg (by decide), if_neg (by decide), if_neg (by decide), if_neg (by decide), if_neg (by decide), if_neg (by decide), if_neg (by decide), if_neg (by decide), if_pos (by decide)]
theorem h_o10 (num x y z l m : Int) : h_op 10 num x y z l m = (if y = 0 then 0 else ax_div x y) := by
  unfold h_op
  rw [if_neg (by decide), if_neg (by decide), if_neg (by decide), if_neg (by decide), if_neg (by decide), if_neg (by decide), if_neg (by decide), if_neg (by decide), if_neg (by decide), if_pos (by decide)]
theorem h_o11 (num x y z l m : Int) : h_op 11 num x y z l m = (if y = 0 then 0 else ax_rem x y) := by
  unfold h_op
  rw [if_neg (by decide), if_neg (by decide), if_neg (by decide), if_neg (by decide), if_neg (by decide), if_neg (by decide), if_neg (by decide), if_neg (by decide), if_neg (by decide), if_neg (by decide), if_pos (by decide)]
theorem h_o12 (num x y z l m : Int) : h_op 12 num x y z l m = (if x = y then 1 else 0) := by
  unfold h_op
  rw [if_neg (by decide), if_neg (by decide), if_neg (by decide), if_neg (by decide), if_neg (by decide), if_neg (by decide), if_neg (by decide), if_neg (by decide), if_neg (by decide), if_neg (by decide), if_neg (by decide), if_pos (by decide)]
theorem h_o13 (num x y z l m : Int) : h_op 13 num x y z l m = (if x = y then 0 else 1) := by
  unfold h_op
  rw [if_neg (by decide), if_neg (by decide), if_neg (by decide), if_neg (by decide), if_neg (by decide), if_neg (by decide), if_neg (by decide), if_neg (by decide), if_neg (by decide), if_neg (by decide), if_neg (by decide), if_neg (by decide), if_pos (by decide)]
theorem h_o14 (num x y z l m : Int) : h_op 14 num x y z l m = (if x < y then 1 else 0) := by
  unfold h_op
  rw [if_neg (by decide), if_neg (by decide), if_neg (by decide), if_neg (by decide), if_neg (by decide), if_neg (by decide), if_neg (by decide), if_neg (by decide), if_neg (by decide), if_neg (by decide), if_neg (by decide), if_neg (by decide), if_neg (by decide), if_pos (by decide)]
theorem h_o15 (num x y z l m : Int) : h_op 15 num x y z l m = (if y < x then 1 else 0) := by
  unfold h_op
  rw [if_neg (by decide), if_neg (by decide), if_neg (by decide), if_neg (by decide), if_neg (by decide), if_neg (by decide), if_neg (by decide), if_neg (by decide), if_neg (by decide), if_neg (by decide), if_neg (by decide), if_neg (by decide), if_neg (by decide), if_neg (by decide), if_pos (by decide)]
theorem h_o16 (num x y z l m : Int) : h_op 16 num x y z l m = ax_and x y := by
  unfold h_op
  rw [if_neg (by decide), if_neg (by decide), if_neg (by decide), if_neg (by decide), if_neg (by decide), if_neg (by decide), if_neg (by decide), if_neg (by decide), if_neg (by decide), if_neg (by decide), if_neg (by decide), if_neg (by decide), if_neg (by decide), if_neg (by decide), if_neg (by decide), if_pos (by decide)]
theorem h_o17 (num x y z l m : Int) : h_op 17 num x y z l m = ax_or x y := by
  unfold h_op
  rw [if_neg (by decide), if_neg (by decide), if_neg (by decide), if_neg (by decide), if_neg (by decide), if_neg (by decide), if_neg (by decide), if_neg (by decide), if_neg (by decide), if_neg (by decide), if_neg (by decide), if_neg (by decide), if_neg (by decide), if_neg (by decide), if_neg (by decide), if_neg (by decide), if_pos (by decide)]
theorem h_o18 (num x y z l m : Int) : h_op 18 num x y z l m = (if x = 1 then y else z) := by
  unfold h_op
  rw [if_neg (by decide), if_neg (by decide), if_neg (by decide), if_neg (by decide), if_neg (by decide), if_neg (by decide), if_neg (by decide), if_neg (by decide), if_neg (by decide), if_neg (by decide), if_neg (by decide), if_neg (by decide), if_neg (by decide), if_neg (by decide), if_neg (by decide), if_neg (by decide), if_neg (by decide), if_pos (by decide)]
theorem h_o19 (num x y z l m : Int) : h_op 19 num x y z l m = (if m = 0 then x else y) := by
  unfold h_op
  rw [if_neg (by decide), if_neg (by decide), if_neg (by decide), if_neg (by decide), if_neg (by decide), if_neg (by decide), if_neg (by decide), if_neg (by decide), if_neg (by decide), if_neg (by decide), if_neg (by decide), if_neg (by decide), if_neg (by decide), if_neg (by decide), if_neg (by decide), if_neg (by decide), if_neg (by decide), if_neg (by decide), if_pos (by decide)]
theorem h_o20 (num x y z l m : Int) : h_op 20 num x y z l m = x := by
  unfold h_op
  rw [if_neg (by decide), if_neg (by decide), if_neg (by decide), if_neg (by decide), if_neg (by decide), if_neg (by decide), if_neg (by decide), if_neg (by decide), if_neg (by decide), if_neg (by decide), if_neg (by decide), if_neg (by decide), if_neg (by decide), if_neg (by decide), if_neg (by decide), if_neg (by decide), if_neg (by decide), if_neg (by decide), if_neg (by decide), if_pos (by decide)]
theorem h_o21 (num x y z l m : Int) : h_op 21 num x y z l m = (if l = 1 then x else y) := by
  unfold h_op
  rw [if_neg (by decide), if_neg (by decide), if_neg (by decide), if_neg (by decide), if_neg (by decide), if_neg (by decide), if_neg (by decide), if_neg (by decide), if_neg (by decide), if_neg (by decide), if_neg (by decide), if_neg (by decide), if_neg (by decide), if_neg (by decide), if_neg (by decide), if_neg (by decide), if_neg (by decide), if_neg (by decide), if_neg (by decide), if_neg (by decide), if_pos (by decide)]
theorem h_22 {o : Int} (a : 0 ≤ o ∧ o ≤ 22) (b : ¬ o = 22) : o = 0 ∨ o = 1 ∨ o = 2 ∨ o = 3 ∨ o = 4 ∨ o = 5 ∨ o = 6 ∨ o = 7 ∨ o = 8 ∨ o = 9 ∨ o = 10 ∨ o = 11 ∨ o = 12 ∨ o = 13 ∨ o = 14 ∨ o = 15 ∨ o = 16 ∨ o = 17 ∨ o = 18 ∨ o = 19 ∨ o = 20 ∨ o = 21 := by omega
/-- the value of a part -/
def h_vq (C M : ax_V) (U : Int → Int) (n : Int) (R : h_R) (q : Int) : Int :=
  if M 241 q = 22 then R [q] 1 (M 231 (26 * C 520 q)) else h_op (M 241 q) (M 249 q) (R [] 0 (M 245 q)) (R [] 0 (M 246 q)) (R [] 0 (M 247 q)) (R [] 1 (M 248 q)) (if M 241 q = 3 then R [] 5 (g_ll M n (M 248 q).toNat) else R [] 7 (g_sp C M U n q.toNat))
/-- a tick of node n -/
def h_TK (C M : ax_V) (U S Im : Int → Int) : Nat → Int → h_R → Prop
  | 0 => fun _ _ => False
  | k + 1 => fun n R =>
    (∀ q, 0 ≤ q → q < (M 222 26) → M 250 q = n → h_ac M S n (R []) q → R [] 0 q = h_vq C M U n R q) ∧
    (∀ q, 0 ≤ q → q < (M 222 26) → M 250 q = n → M 241 q = 22 → h_ac M S n (R []) q → h_TK C M U S Im k (C 520 q) (fun p => R (q :: p)) ∧ (∀ j, 0 ≤ j → j < U (C 520 q) → ((¬ M 248 q = -1 ∧ R [] 1 (M 248 q) = 1) → R [q] 5 j = Im (300 * C 520 q + j)) ∧ (¬ (¬ M 248 q = -1 ∧ R [] 1 (M 248 q) = 1) → R [q] 5 j = R [] 7 (g_sp C M U n q.toNat + j))) ∧ ∀ i : Nat, (i : Int) < M 227 (C 520 q) → R [q] 1 (M 230 (26 * C 520 q + (i : Int))) = R [] 0 (e_arg M q i)) ∧
    ((∀ l, 0 ≤ l → l < 26 → M 232 (26 * n + l) = 1 → R [] 2 l = 1) ∧ ∀ e i, g_of M e i → M 258 e = n → h_eh M (R []) e → (h_on (R []) (g_ec M e) → R [] 2 (M 265 i) = 1 ∧ R [] 1 (M 265 i) = if M 260 e = 1 then R [] 0 (M 262 e) else R [M 262 e] 1 (M 231 (26 * C 520 (M 262 e) + (i - M 259 e)))) ∧ (¬ h_on (R []) (g_ec M e) → R [] 2 (M 265 i) = 0)) ∧
    (∀ a, 0 ≤ a → a < (M 222 55) → M 267 a = n → h_nx M (R []) a 1 (R [] 5 (h_sa M n a)) (R [] 3 a) ∧ h_nx M (R []) a 0 (R [] 3 a) (R [] 6 (h_sa M n a))) ∧
    (∀ l, 0 ≤ l → l < 26 → ¬ M 236 (26 * n + l) = 0 → (¬ R [] 2 l = 0 → R [] 6 (g_ll M n l.toNat) = R [] 1 l) ∧ (R [] 2 l = 0 → R [] 6 (g_ll M n l.toNat) = R [] 5 (g_ll M n l.toNat))) ∧
    (∀ e q i, 0 ≤ e → e < (M 222 44) → M 258 e = n → M 261 e ≤ q → q ≤ M 262 e → 0 ≤ i → i < g_vl C M U q → (∀ x, (x = if M 241 q = 22 then Im (300 * C 520 q + i) else 0) →
      (h_rn M (R []) (M 263 e) 1 (R [] 5 (h_sa M n (M 263 e))) (M 264 e) → R [] 7 (g_sp C M U n q.toNat + i) = x) ∧ (¬ h_rn M (R []) (M 263 e) 1 (R [] 5 (h_sa M n (M 263 e))) (M 264 e) → R [] 7 (g_sp C M U n q.toNat + i) = R [] 5 (g_sp C M U n q.toNat + i)) ∧
      (h_rn M (R []) (M 263 e) 0 (R [] 3 (M 263 e)) (M 264 e) → R [] 6 (g_sp C M U n q.toNat + i) = x) ∧ (¬ h_rn M (R []) (M 263 e) 0 (R [] 3 (M 263 e)) (M 264 e) → R [] 6 (g_sp C M U n q.toNat + i) = R [] 8 (g_sp C M U n q.toNat + i))) ∧
      (h_ac M S n (R []) q → R [] 8 (g_sp C M U n q.toNat + i) = if M 241 q = 6 then R [] 0 (M 245 q) else if M 241 q = 19 then 1 else R [q] 6 i) ∧ (¬ h_ac M S n (R []) q → R [] 8 (g_sp C M U n q.toNat + i) = R [] 7 (g_sp C M U n q.toNat + i))) ∧
    ∀ t, R [] 4 0 ≤ t ↔ (700 ≤ t ∨ (∃ q, (0 ≤ q ∧ q < (M 222 26)) ∧ M 250 q = n ∧ h_ac M S n (R []) q ∧ (M 241 q = 10 ∨ M 241 q = 11) ∧ R [] 0 (M 246 q) = 0 ∧ M 243 q ≤ t) ∨ ∃ q, (0 ≤ q ∧ q < (M 222 26)) ∧ M 250 q = n ∧ h_ac M S n (R []) q ∧ M 241 q = 22 ∧ R [q] 4 0 ≤ t)
section TickA
variable {C0 M0 : ax_V} {F G Hh S : Int → Int} {n q e m : Int}
/-- in which X a part lies -/
theorem g_S.acE (hS : g_S C0 M0) {r : Int → Int → Int} (e0 : 0 ≤ e) (e1 : e < (M0 222 44)) (en : M0 258 e = n) (qa : M0 261 e ≤ q) (qb : q ≤ M0 262 e) : h_ac M0 S n r q ↔ (h_eh M0 r e ∧ h_on r (S q)) := by
  have orr := hS.2.2.2.2.1.2.2.2.2.2.1.2.2.1
  constructor
  · rintro (⟨e', e'0, e'n, qe, h1, h2⟩ | ⟨m, m0, mn, qm, -⟩)
    · have : e' = e := by
        by_cases u : e' = e
        · exact u
        · by_cases w : e' < e
          · have := orr.1 e' e e'0.1 w e1; omega
          · have := orr.1 e e' e0 (by omega) e'0.2; omega
      rw [this] at h1
      exact ⟨h1, h2⟩
    · have := orr.2.2 e m e0 e1 m0.1 m0.2; omega
  · exact fun z => Or.inl ⟨e, ⟨e0, e1⟩, en, ⟨qa, qb⟩, z.1, z.2⟩
theorem g_S.acT (hS : g_S C0 M0) {r : Int → Int → Int} (m0 : 0 ≤ m) (m1 : m < (M0 222 60)) (mn : M0 267 (M0 271 m) = n) (qa : M0 276 m ≤ q) (qb : q ≤ M0 277 m) : h_ac M0 S n r q ↔ M0 272 m = if M0 273 m = 0 then r 3 (M0 271 m) else r 5 (h_sa M0 n (M0 271 m)) := by
  have orr := hS.2.2.2.2.1.2.2.2.2.2.1.2.2.1
  constructor
  · rintro (⟨e', e'0, e'n, qe, h1, h2⟩ | ⟨m', m'0, m'n, qm, h⟩)
    · have := orr.2.2 e' m e'0.1 e'0.2 m0 m1; omega
    · have : m' = m := by
        by_cases u : m' = m
        · exact u
        · by_cases w : m' < m
          · have := orr.2.1 m' m m'0.1 w m1; omega
          · have := orr.2.1 m m' m0 (by omega) m'0.2; omega
      rw [this] at h
      exact h
  · exact fun z => Or.inr ⟨m, ⟨m0, m1⟩, mn, ⟨qa, qb⟩, z⟩
/-- several letters are told by a call alone -/
theorem g_S.many (hS : g_S C0 M0) (n3 : ∀ t, t < 700 → ¬ g_FA C0 M0 F G Hh 3 t) (e0 : 0 ≤ e) (e1 : e < (M0 222 44)) (z : ¬ M0 260 e = 1) : M0 241 (M0 262 e) = 22 ∧ M0 228 (C0 520 (M0 262 e)) = M0 260 e ∧ ∀ i, 0 ≤ i → i < M0 260 e → M0 233 (26 * M0 258 e + M0 265 (M0 259 e + i)) = M0 233 (26 * C0 520 (M0 262 e) + M0 231 (26 * C0 520 (M0 262 e) + i)) := by
  have nd := hS.node e0 e1
  have fx := (hS.2.2.2.2.1.2.1 e e0 e1).2.2.2.2.2.1.1
  have bp := (hS.p (q := M0 262 e) (by omega) fx.2.2).2.2.1
  exact Classical.byContradiction fun y => n3 699 (by decide) ((g_FA3 699).mpr ⟨M0 258 e, ⟨nd.1, nd.2.1⟩, Or.inr (Or.inl ⟨e, ⟨e0, e1⟩, rfl, Or.inr ⟨z, y, by omega⟩⟩)⟩)
theorem g_S.one (hS : g_S C0 M0) (n3 : ∀ t, t < 700 → ¬ g_FA C0 M0 F G Hh 3 t) (e0 : 0 ≤ e) (e1 : e < (M0 222 44)) (z : M0 260 e = 1) : F (M0 262 e) = M0 233 (26 * M0 258 e + M0 265 (M0 259 e)) := by
  have nd := hS.node e0 e1
  have fx := (hS.2.2.2.2.1.2.1 e e0 e1).2.2.2.2.2.1.1
  have bp := (hS.p (q := M0 262 e) (by omega) fx.2.2).2.2.1
  exact Classical.byContradiction fun y => n3 699 (by decide) ((g_FA3 699).mpr ⟨M0 258 e, ⟨nd.1, nd.2.1⟩, Or.inr (Or.inl ⟨e, ⟨e0, e1⟩, rfl, Or.inl ⟨z, y, by omega⟩⟩)⟩)
/-- a call has as many arguments as the node has inputs, of their sorts -/
theorem g_S.cargs (hS : g_S C0 M0) (ok : g_N2 M0) (n3 : ∀ t, t < 700 → ¬ g_FA C0 M0 F G Hh 3 t) (q0 : 0 ≤ q) (q1 : q < (M0 222 26)) (o : M0 241 q = 22) : ∃ K : Nat, (K : Int) = M0 227 (C0 520 q) ∧ e_arg M0 q K = -1 ∧ ∀ k : Nat, k < K → (0 ≤ e_arg M0 q k ∧ e_arg M0 q k < q) ∧ C0 522 (e_arg M0 q k) = e_arg M0 q (k + 1) ∧ M0 252 (e_arg M0 q k) = e_arg M0 q (k + 1) ∧ F (e_arg M0 q k) = M0 233 (26 * C0 520 q + M0 230 (26 * C0 520 q + (k : Int))) := by
  have nd := (hS.pnode q0 q1).1
  have bq := (hS.p q0 q1).2.2.1
  obtain ⟨K, K7, KE, KA⟩ := hS.args q0 q1 o
  have no : ¬ g_b3c C0 M0 F q 699 := fun y => n3 699 (by decide) ((g_FA3 699).mpr ⟨M0 250 q, nd, Or.inl ⟨q, ⟨q0, q1⟩, rfl, Or.inr ⟨o, y⟩⟩⟩)
  have KK : e_arg M0 q K = -1 ∧ ∀ k : Nat, k < K → 0 ≤ e_arg M0 q k := ⟨KE, fun k hk => (KA k hk).1.1⟩
  have eK : (K : Int) = M0 227 (C0 520 q) := Classical.byContradiction fun y => no ⟨K, KK, Or.inl ⟨y, by omega⟩⟩
  refine ⟨K, eK, KE, fun k hk => ?_⟩
  obtain ⟨a1, a2, a3, a4⟩ := KA k hk
  have bk := (hS.p (q := e_arg M0 q k) a1.1 (by omega)).2.2.1
  exact ⟨a1, a2, a3, Classical.byContradiction fun y => no ⟨K, KK, Or.inr (Or.inl ⟨eK, k, hk, y, by omega⟩)⟩⟩
end TickA
