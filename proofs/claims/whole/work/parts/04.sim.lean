/-! ===== the pure picture and the machine's heap ===== -/
def tqad (g : tqG) (a : Nat) : Nat := if a = 1 then g.2.2.1 else g.2.2.2 + (a - 2)
def tqrr (g : tqG) (a : Nat) : Option Nat := if a = 0 then none else some (tqad g a)
def tqrz (g : tqG) : tqV → Value
  | .inl x => .int (Int32.ofInt x)
  | .inr (.inl x) => .long (Int64.ofInt x)
  | .inr (.inr a) => va_rf (tqrr g a)
def tqo : tqV → Prop
  | .inl x => in32 x
  | .inr (.inl x) => in64 x
  | .inr (.inr _) => True
def tqcat : tqV → Nat
  | .inl _ => 1
  | .inr (.inl _) => 2
  | .inr (.inr _) => 1
theorem tqcat_rz (g : tqG) (v : tqV) : (tqrz g v).category = tqcat v := by
  rcases v with x | x | a
  · rfl
  · rfl
  · show (va_rf (tqrr g a)).category = 1
    unfold tqrr
    split <;> rfl
abbrev tqS (m : tqM) (a : Nat) : Nat × Nat := m.2.2.1 a
/-- the kind of a place: 0 int, 1 long, 2 boolean, 3 a pointer -/
def tqkd (sh : Nat) (j : Nat) : Nat := if sh = 1 then 0 else if sh = 2 then 1 else if sh = 3 then 2 else if sh < 10 then 3 else tqk (sh - 10) j
def tqfv (g : tqG) (m : tqM) (a k j : Nat) : Value :=
  if tqk k j = 0 then .int (Int32.ofInt (m.1 a j)) else if tqk k j = 1 then .long (Int64.ofInt (m.1 a j)) else if tqk k j = 2 then .int (Int32.ofInt (m.1 a j)) else va_rf (tqrr g (m.2.1 a j))
def tqent (g : tqG) (m : tqM) (a : Nat) : va_E :=
  if (tqS m a).1 = 1 then .inl (g.2.1 1, (tqS m a).2, .inl (fun j => Int32.ofInt (m.1 a j)))
  else if (tqS m a).1 = 2 then .inl (g.2.1 2, (tqS m a).2, .inr (.inl (fun j => Int64.ofInt (m.1 a j))))
  else if (tqS m a).1 = 3 then .inl (g.2.1 3, (tqS m a).2, .inl (fun j => Int32.ofInt (m.1 a j)))
  else if (tqS m a).1 < 10 then .inl (g.2.1 (tqS m a).1, (tqS m a).2, .inr (.inr (.inr (.inr (fun j => tqrr g (m.2.1 a j))))))
  else .inr ((tqS m a).1 - 10, (List.range (tqN ((tqS m a).1 - 10))).map (tqfv g m a ((tqS m a).1 - 10)))
def tqwl (g : tqG) (m : tqM) : va_W := (List.range (m.2.2.2 - 1)).map (fun i => (g.2.2.2 + i, tqent g m (i + 2)))
/-- what may stand where: numbers in their ranges, shapes only at addresses that are used -/
def tqok (m : tqM) : Prop :=
  (∀ a j, (tqkd (tqS m a).1 j = 0 → in32 (m.1 a j)) ∧ (tqkd (tqS m a).1 j = 1 → in64 (m.1 a j)) ∧ (tqkd (tqS m a).1 j = 2 → m.1 a j = 0 ∨ m.1 a j = 1)) ∧
  (∀ a, (tqS m a).1 ≠ 0 → 2 ≤ a ∧ a ≤ m.2.2.2 ∧ (tqS m a).2 < 536870912) ∧ 1 ≤ m.2.2.2
def tqH (g : tqG) (m : tqM) (H : Heap) : Prop := H.size = g.2.2.2 + (m.2.2.2 - 1) ∧ va_P g.1 tqcl (tqwl g m) H ∧ tqok m
abbrev tqA (g : tqG) : Nat → Prop := fun q => g.2.2.2 ≤ q
/-- the array classes: their numbers and types -/
abbrev tqty (g : tqG) : List (ClassId × FieldType) := [(g.2.1 1, .int), (g.2.1 2, .long), (g.2.1 3, .boolean), (g.2.1 4, .object tqR2), (g.2.1 5, .object tqR8), (g.2.1 6, .object tqR9), (g.2.1 7, .array .int)]
def tqnest : Cond → Bool
  | .fieldLinkNest _ _ _ _ _ _ => true
  | .methodLinkNest _ _ _ _ => true
  | .arrayOver _ => true
  | _ => false
/-- what is known of the tables -/
def tqKn (g : tqG) (U : State) : Prop := va_K g.1 tqcl (tqty g) U ∧ ∀ w ∈ lw_tbl, tqnest w = true → va_Nw w U
theorem tqwl_at {g : tqG} {m : tqM} {a : Nat} (h : 2 ≤ a) (h2 : a ≤ m.2.2.2) : (tqwl g m)[a - 2]? = some (tqad g a, tqent g m a) := by
  unfold tqwl
  rw [List.getElem?_map, List.getElem?_range (by omega)]
  simp only [Option.map_some, tqad, if_neg (show ¬ a = 1 by omega), show a - 2 + 2 = a by omega]
theorem tqwl_len (g : tqG) (m : tqM) : (tqwl g m).length = m.2.2.2 - 1 := by simp [tqwl]
theorem tqwl_D (g : tqG) (m : tqM) : va_D (tqA g) (tqwl g m) := by
  have key : ∀ (k : Nat) (q : Nat × va_E), (tqwl g m)[k]? = some q → q.1 = g.2.2.2 + k := by
    intro k q hq
    unfold tqwl at hq
    rw [List.getElem?_map] at hq
    by_cases hk : k < m.2.2.2 - 1
    · rw [List.getElem?_range hk] at hq
      cases hq
      rfl
    · rw [List.getElem?_eq_none (by rw [List.length_range]; omega)] at hq
      cases hq
  refine ⟨fun i j p q hi hj e => ?_, fun k q hk => ?_⟩
  · have := key i p hi
    have := key j q hj
    omega
  · show g.2.2.2 ≤ q.1
    rw [key k q hk]
    exact Nat.le_add_right _ _
/-- one cell has changed -/
theorem tqwl_set {g : tqG} {m m' : tqM} {a : Nat} (h : 2 ≤ a) (hn : m'.2.2.2 = m.2.2.2) (ho : ∀ b, b ≠ a → tqent g m' b = tqent g m b) : (tqwl g m).set (a - 2) (tqad g a, tqent g m' a) = tqwl g m' := by
  apply List.ext_getElem?
  intro k
  by_cases hk : k < m.2.2.2 - 1
  · by_cases e : k = a - 2
    · subst e
      rw [List.getElem?_set_self (by rw [tqwl_len]; exact hk), tqwl_at h (by rw [hn]; omega)]
    · rw [List.getElem?_set_ne (Ne.symm e)]
      have h1 := tqwl_at (g := g) (m := m) (a := k + 2) (by omega) (by omega)
      have h2 := tqwl_at (g := g) (m := m') (a := k + 2) (by omega) (by omega)
      rw [show k + 2 - 2 = k by omega] at h1 h2
      rw [h1, h2, ho (k + 2) (by omega)]
  · rw [List.getElem?_eq_none (by rw [List.length_set, tqwl_len]; omega), List.getElem?_eq_none (by rw [tqwl_len, hn]; omega)]
/-! writing -/
def tqw (m : tqM) (a j : Nat) (x : Int) : tqM := (fun b k => if b = a then (if k = j then x else m.1 b k) else m.1 b k, m.2)
def tqp (m : tqM) (a j : Nat) (x : Nat) : tqM := (m.1, fun b k => if b = a then (if k = j then x else m.2.1 b k) else m.2.1 b k, m.2.2)
theorem tqw_ent {g : tqG} {m : tqM} {a j : Nat} {x : Int} {b : Nat} (h : b ≠ a) : tqent g (tqw m a j x) b = tqent g m b := by
  simp [tqent, tqw, tqS, tqfv, h]
  rfl
theorem tqp_ent {g : tqG} {m : tqM} {a j : Nat} {x : Nat} {b : Nat} (h : b ≠ a) : tqent g (tqp m a j x) b = tqent g m b := by
  simp [tqent, tqp, tqS, tqfv, h]
  rfl
theorem tqw_ok {m : tqM} {a j : Nat} {x : Int} (h : tqok m) (hx : (tqkd (tqS m a).1 j = 0 → in32 x) ∧ (tqkd (tqS m a).1 j = 1 → in64 x) ∧ (tqkd (tqS m a).1 j = 2 → x = 0 ∨ x = 1)) : tqok (tqw m a j x) := by
  refine ⟨fun b k => ?_, h.2⟩
  show (tqkd (tqS m b).1 k = 0 → in32 (if b = a then (if k = j then x else m.1 b k) else m.1 b k)) ∧ (tqkd (tqS m b).1 k = 1 → in64 (if b = a then (if k = j then x else m.1 b k) else m.1 b k)) ∧ (tqkd (tqS m b).1 k = 2 → (if b = a then (if k = j then x else m.1 b k) else m.1 b k) = 0 ∨ (if b = a then (if k = j then x else m.1 b k) else m.1 b k) = 1)
  by_cases e : b = a
  · subst e
    by_cases e2 : k = j
    · subst e2
      simpa using hx
    · simpa [e2] using h.1 b k
  · simpa [e] using h.1 b k
theorem tqp_ok {m : tqM} {a j : Nat} {x : Nat} (h : tqok m) : tqok (tqp m a j x) := h
