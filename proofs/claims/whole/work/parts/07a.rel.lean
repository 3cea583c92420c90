/-! ===== the pure machine and the real one: values, locals, heap ===== -/
/-- classes and slots, array classes by kind, the script's cell, the first own cell, the script's length and ints -/
abbrev tqG : Type := va_G × (Nat → ClassId) × Nat × Nat × Nat × (Nat → Int32)
def tqad (g : tqG) (a : Nat) : Nat := if a = 1 then g.2.2.1 else g.2.2.2.1 + (a - 2)
def tqrr (g : tqG) (a : Nat) : Option Nat := if a = 0 then none else some (tqad g a)
def tqrz (g : tqG) : tqV → Value
  | .inl x => .int (Int32.ofInt x)
  | .inr (.inl x) => .long (Int64.ofInt x)
  | .inr (.inr (.inl a)) => va_rf (tqrr g a)
  | .inr (.inr (.inr _)) => .null
def tqo : tqV → Prop
  | .inl x => in32 x
  | .inr (.inl x) => in64 x
  | _ => True
theorem tqrz_R {g : tqG} {a : Nat} (h : a ≠ 0) : tqrz g (vR a) = .ref (tqad g a) := by
  show va_rf (tqrr g a) = _
  unfold tqrr
  rw [if_neg h]
  rfl
theorem tqrz_0 (g : tqG) : tqrz g (vR 0) = .null := rfl
theorem tqcat_rz (g : tqG) (v : tqV) : (tqrz g v).category = tqcat v := by
  rcases v with x | x | a | u
  · rfl
  · rfl
  · show (va_rf (tqrr g a)).category = 1
    unfold tqrr
    split <;> rfl
  · rfl
theorem tqcs_rz (g : tqG) : ∀ st : List tqV, ((st.map (tqrz g)).map fun v => v.category).sum = tqcs st
  | [] => rfl
  | v :: st => by
    simp only [List.map_cons, List.sum_cons, tqcs, tqcat_rz]
    rw [tqcs_rz g st]
/-! locals -/
def tqL (g : tqG) : Nat → List tqV → List (Nat × Value)
  | _, [] => []
  | i, .inr (.inr (.inr _)) :: l => tqL g (i + 1) l
  | i, .inl x :: l => (i, tqrz g (.inl x)) :: tqL g (i + 1) l
  | i, .inr (.inl x) :: l => (i, tqrz g (.inr (.inl x))) :: tqL g (i + 1) l
  | i, .inr (.inr (.inl x)) :: l => (i, tqrz g (.inr (.inr (.inl x)))) :: tqL g (i + 1) l
theorem tqL_mem (g : tqG) : ∀ (l : List tqV) (i : Nat) (q : Nat × Value), q ∈ tqL g i l ↔ ∃ j, tqg l j ≠ vU ∧ q = (i + j, tqrz g (tqg l j))
  | [], i, q => by simp [tqL, tqg]
  | v :: l, i, q => by
    have key : (∃ j, tqg (v :: l) j ≠ vU ∧ q = (i + j, tqrz g (tqg (v :: l) j))) ↔ (v ≠ vU ∧ q = (i, tqrz g v)) ∨ ∃ j, tqg l j ≠ vU ∧ q = (i + 1 + j, tqrz g (tqg l j)) := by
      constructor
      · rintro ⟨j, h1, h2⟩
        match j, h1, h2 with
        | 0, h1, h2 => exact Or.inl ⟨h1, h2⟩
        | j + 1, h1, h2 => exact Or.inr ⟨j, h1, by rw [show i + 1 + j = i + (j + 1) by omega]; exact h2⟩
      · rintro (⟨h1, h2⟩ | ⟨j, h1, h2⟩)
        · exact ⟨0, h1, h2⟩
        · exact ⟨j + 1, h1, by rw [show i + (j + 1) = i + 1 + j by omega]; exact h2⟩
    rw [key, ← tqL_mem g l (i + 1) q]
    rcases v with x | x | a | u <;> simp [tqL]
theorem tqg_s : ∀ (l : List tqV) (n : Nat) (v : tqV) (j : Nat), tqg (tqs l n v) j = if j = n ∧ n < l.length then v else tqg l j
  | [], n, v, j => by simp [tqs, tqg]
  | x :: l, 0, v, 0 => by simp [tqs, tqg]
  | x :: l, 0, v, j + 1 => by simp [tqs, tqg]
  | x :: l, n + 1, v, 0 => by simp [tqs, tqg]
  | x :: l, n + 1, v, j + 1 => by
    show tqg (tqs l n v) j = _
    rw [tqg_s l n v j]
    simp [tqg]
theorem tqs_len : ∀ (l : List tqV) (n : Nat) (v : tqV), (tqs l n v).length = l.length
  | [], _, _ => rfl
  | _ :: _, 0, _ => rfl
  | _ :: l, n + 1, v => by simp [tqs, tqs_len l n v]
def tqlr (g : tqG) (ls : Array Slot) (nL : Nat) (l : List tqV) : Prop := lv_has ls nL (tqL g 0 l) ∧ l.length = nL ∧ ∀ j, tqo (tqg l j)
theorem tqlr.at {g : tqG} {ls : Array Slot} {nL : Nat} {l : List tqV} (h : tqlr g ls nL l) {j : Nat} (hj : tqg l j ≠ vU) : ls[j]? = some (.val (tqrz g (tqg l j))) := by
  have := h.1.2.2 (j, tqrz g (tqg l j)) ((tqL_mem g l 0 _).mpr ⟨j, hj, by simp⟩)
  exact this
theorem tqlr.sub {g : tqG} {ls : Array Slot} {nL : Nat} {l l' : List tqV} (h : tqlr g ls nL l) (hl : l'.length = l.length) (hs : ∀ j, tqg l' j = vU ∨ tqg l' j = tqg l j) : tqlr g ls nL l' := by
  refine ⟨⟨h.1.1, h.1.2.1, fun q hq => ?_⟩, hl.trans h.2.1, fun j => ?_⟩
  · obtain ⟨j, h1, rfl⟩ := (tqL_mem g l' 0 q).mp hq
    rcases hs j with e | e
    · exact absurd e h1
    · rw [e] at h1 ⊢
      exact h.1.2.2 _ ((tqL_mem g l 0 _).mpr ⟨j, h1, rfl⟩)
  · rcases hs j with e | e
    · rw [e]; trivial
    · rw [e]; exact h.2.2 j
theorem tqlr.kill {g : tqG} {ls : Array Slot} {nL : Nat} : ∀ (is : List Nat) {l : List tqV}, tqlr g ls nL l → tqlr g ls nL (tqkill is l)
  | [], _, h => h
  | i :: is, l, h => tqlr.kill is (h.sub (tqs_len l i vU) (fun j => by rw [tqg_s]; split; exact Or.inl rfl; exact Or.inr rfl))
theorem tqlr.kl {g : tqG} {ls : Array Slot} {nL : Nat} (e : Option tqEn) {l : List tqV} (h : tqlr g ls nL l) : tqlr g ls nL (tqkl e l) := by
  rcases e with _ | ⟨_, _, _, _, _, _, dd⟩
  · exact h
  · exact tqlr.kill dd h
theorem tqnl_cat {g : tqG} {l : List tqV} {n j : Nat} (h : tqnl l n = true) (hj : j + 1 = n) : (tqrz g (tqg l j)).category ≠ 2 := by
  subst hj
  rw [tqcat_rz]
  have h : (match tqg l j with
    | .inr (.inl _) => false
    | _ => true) = true := h
  rcases hv : tqg l j with x | x | a | u
  · exact (by decide : (1 : Nat) ≠ 2)
  · rw [hv] at h; cases h
  · exact (by decide : (1 : Nat) ≠ 2)
  · exact (by decide : (1 : Nat) ≠ 2)
theorem tqlr.st1 {g : tqG} {ls ls' : Array Slot} {nL : Nat} {l : List tqV} {n : Nat} {v : tqV} (h : tqlr g ls nL l) (hn : tqnl l n = true) (hv : tqo v) (h2 : lv_has ls' nL ((n, tqrz g v) :: (tqL g 0 l).filter (fun q => !(q.1 == n) && !(q.1 + 1 == n && q.2.category == 2)))) : tqlr g ls' nL (tqs l n v) := by
  refine ⟨⟨h2.1, h2.2.1, fun q hq => ?_⟩, (tqs_len l n v).trans h.2.1, fun j => ?_⟩
  · obtain ⟨j, h1, rfl⟩ := (tqL_mem g _ 0 q).mp hq
    apply h2.2.2
    rw [tqg_s] at h1 ⊢
    by_cases e : j = n ∧ n < l.length
    · rw [if_pos e, e.1]
      simp
    · rw [if_neg e] at h1 ⊢
      have hjn : j ≠ n := fun q => by
        apply h1
        subst q
        have hle : l.length ≤ j := by
          rcases Nat.lt_or_ge j l.length with q | q
          · exact absurd ⟨rfl, q⟩ e
          · exact q
        exact (show ∀ (l : List tqV) (j : Nat), l.length ≤ j → tqg l j = vU from fun l => by
          induction l with
          | nil => intro j _; rfl
          | cons x l ih => intro j hj; match j, hj with
            | j + 1, hj => exact ih j (by simpa using hj)) l j hle
      refine List.mem_cons_of_mem _ (List.mem_filter.mpr ⟨(tqL_mem g l 0 _).mpr ⟨j, h1, rfl⟩, ?_⟩)
      simp only [Nat.zero_add, Bool.and_eq_true, Bool.not_eq_true', beq_eq_false_iff_ne, ne_eq, Bool.and_eq_false_iff]
      refine ⟨hjn, ?_⟩
      by_cases e2 : j + 1 = n
      · exact Or.inr (tqnl_cat hn e2)
      · exact Or.inl e2
  · rw [tqg_s]
    split
    · exact hv
    · exact h.2.2 j
theorem tqg_out : ∀ (l : List tqV) (j : Nat), l.length ≤ j → tqg l j = vU
  | [], _, _ => rfl
  | _ :: l, j + 1, h => tqg_out l j (by simpa using h)
theorem tqlr.st2 {g : tqG} {ls ls' : Array Slot} {nL : Nat} {l : List tqV} {n : Nat} {v : tqV} (h : tqlr g ls nL l) (hn : tqnl l n = true) (hv : tqo v) (hlt : n < nL) (h2 : lv_has ls' nL ((n, tqrz g v) :: (tqL g 0 l).filter (fun q => !(q.1 == n) && (!(q.1 == n + 1) && !(q.1 + 1 == n && q.2.category == 2))))) : tqlr g ls' nL (tqs (tqs l n v) (n + 1) vU) := by
  have hg : ∀ j, tqg (tqs (tqs l n v) (n + 1) vU) j = if j = n then v else if j = n + 1 then vU else tqg l j := by
    intro j
    rw [tqg_s, tqg_s, tqs_len]
    by_cases e : j = n
    · subst e
      rw [if_neg (by omega), if_pos ⟨rfl, by rw [h.2.1]; exact hlt⟩, if_pos rfl]
    · rw [if_neg e]
      by_cases e2 : j = n + 1
      · rw [if_pos e2]
        by_cases e3 : n + 1 < l.length
        · rw [if_pos ⟨e2, e3⟩]
        · rw [if_neg (fun q => e3 q.2), if_neg (fun q => e q.1)]
          exact tqg_out l j (by omega)
      · rw [if_neg (fun q => e2 q.1), if_neg (fun q => e q.1), if_neg e2]
  refine ⟨⟨h2.1, h2.2.1, fun q hq => ?_⟩, (tqs_len _ _ _).trans ((tqs_len l n v).trans h.2.1), fun j => ?_⟩
  · obtain ⟨j, h1, rfl⟩ := (tqL_mem g _ 0 q).mp hq
    apply h2.2.2
    rw [hg] at h1 ⊢
    by_cases e : j = n
    · rw [if_pos e, e]
      simp
    · rw [if_neg e] at h1 ⊢
      by_cases e2 : j = n + 1
      · rw [if_pos e2] at h1
        exact absurd rfl h1
      · rw [if_neg e2] at h1 ⊢
        refine List.mem_cons_of_mem _ (List.mem_filter.mpr ⟨(tqL_mem g l 0 _).mpr ⟨j, h1, rfl⟩, ?_⟩)
        simp only [Nat.zero_add, Bool.and_eq_true, Bool.not_eq_true', beq_eq_false_iff_ne, ne_eq, Bool.and_eq_false_iff]
        refine ⟨e, e2, ?_⟩
        by_cases e3 : j + 1 = n
        · exact Or.inr (tqnl_cat hn e3)
        · exact Or.inl e3
  · rw [hg]
    split
    · exact hv
    · split
      · trivial
      · exact h.2.2 j
/-! ===== the heap ===== -/
/-- the kind of a place: 0 int, 1 long, 2 boolean, 3 a pointer -/
def tqkd (sh : Nat) (j : Int) : Nat := if sh = 1 ∨ sh = 8 then 0 else if sh = 2 then 1 else if sh = 3 then 2 else if sh < 10 then 3 else tqk (sh - 10) j.toNat
def tqfv (g : tqG) (m : tqM) (a k j : Nat) : Value :=
  if tqk k j = 0 then .int (Int32.ofInt (m.1 a (j : Int))) else if tqk k j = 1 then .long (Int64.ofInt (m.1 a (j : Int))) else if tqk k j = 2 then .int (Int32.ofInt (m.1 a (j : Int))) else va_rf (tqrr g (m.2.1 a (j : Int)))
def tqent (g : tqG) (m : tqM) (a : Nat) : va_E :=
  if (tqS m a).1 = 1 then .inl (g.2.1 1, (tqS m a).2, .inl (fun j => Int32.ofInt (m.1 a (j : Int))))
  else if (tqS m a).1 = 2 then .inl (g.2.1 2, (tqS m a).2, .inr (.inl (fun j => Int64.ofInt (m.1 a (j : Int)))))
  else if (tqS m a).1 = 3 then .inl (g.2.1 3, (tqS m a).2, .inl (fun j => Int32.ofInt (m.1 a (j : Int))))
  else if (tqS m a).1 < 10 then .inl (g.2.1 (tqS m a).1, (tqS m a).2, .inr (.inr (.inr (.inr (fun j => tqrr g (m.2.1 a (j : Int)))))))
  else .inr ((tqS m a).1 - 10, (List.range (tqN ((tqS m a).1 - 10))).map (tqfv g m a ((tqS m a).1 - 10)))
def tqok (g : tqG) (m : tqM) : Prop :=
  (∀ a j, (tqkd (tqS m a).1 j = 0 → in32 (m.1 a j)) ∧ (tqkd (tqS m a).1 j = 1 → in64 (m.1 a j)) ∧ (tqkd (tqS m a).1 j = 2 → m.1 a j = 0 ∨ m.1 a j = 1)) ∧
  (∀ a, (tqS m a).1 ≠ 0 → a = 1 ∨ (2 ≤ a ∧ a ≤ m.2.2.2.1 ∧ (tqS m a).1 ≠ 8 ∧ (tqS m a).2 < 536870912)) ∧ 1 ≤ m.2.2.2.1 ∧
  tqS m 1 = (8, g.2.2.2.2.1) ∧ g.2.2.2.2.1 < 536870912 ∧ ∀ j : Nat, j < g.2.2.2.2.1 → Int32.ofInt (m.1 1 (j : Int)) = g.2.2.2.2.2 j
/-- every cell of the pure memory stands in the heap -/
def tqH (g : tqG) (m : tqM) (H : Heap) : Prop := H.size = g.2.2.2.1 + (m.2.2.2.1 - 1) ∧ (∀ a, 2 ≤ a → a ≤ m.2.2.2.1 → va_at g.1 tqcl (tqad g a, tqent g m a) H) ∧ tqok g m
abbrev tqA (g : tqG) : Nat → Prop := fun q => g.2.2.2.1 ≤ q
theorem tqad_ge {g : tqG} {a : Nat} (h : 2 ≤ a) : tqad g a = g.2.2.2.1 + (a - 2) := by unfold tqad; rw [if_neg (by omega)]
theorem tqad_inj {g : tqG} {a b : Nat} (ha : 2 ≤ a) (hb : 2 ≤ b) (h : tqad g a = tqad g b) : a = b := by rw [tqad_ge ha, tqad_ge hb] at h; omega
/-- one cell has changed -/
theorem tqH.put {g : tqG} {m m' : tqM} {H H' : Heap} {a : Nat} (h : tqH g m H) (ha : 2 ≤ a) (hn : m'.2.2.2.1 = m.2.2.2.1) (hz : H'.size = H.size) (ho : ∀ q, q ≠ tqad g a → H'[q]? = H[q]?) (he : ∀ b, b ≠ a → tqent g m' b = tqent g m b) (hat : va_at g.1 tqcl (tqad g a, tqent g m' a) H') (hok : tqok g m') : tqH g m' H' := by
  refine ⟨by rw [hz, hn]; exact h.1, fun b hb hb2 => ?_, hok⟩
  by_cases e : b = a
  · subst e; exact hat
  · rw [he b e]
    exact (h.2.1 b hb (by rw [← hn]; exact hb2)).kept (ho _ (fun q => e (tqad_inj hb ha q)))
/-- one cell is new -/
theorem tqH.push {g : tqG} {m m' : tqM} {H H' : Heap} (h : tqH g m H) (hn : m'.2.2.2.1 = m.2.2.2.1 + 1) (hz : H'.size = H.size + 1) (ho : ∀ q, q < H.size → H'[q]? = H[q]?) (he : ∀ b, b ≠ m.2.2.2.1 + 1 → tqent g m' b = tqent g m b) (hat : va_at g.1 tqcl (H.size, tqent g m' (m.2.2.2.1 + 1)) H') (hok : tqok g m') : tqH g m' H' := by
  have h1 : 1 ≤ m.2.2.2.1 := h.2.2.2.2.1
  refine ⟨by rw [hz, hn, h.1]; omega, fun b hb hb2 => ?_, hok⟩
  by_cases e : b = m.2.2.2.1 + 1
  · subst e
    rw [tqad_ge hb, show g.2.2.2.1 + (m.2.2.2.1 + 1 - 2) = H.size by rw [h.1]; omega]
    exact hat
  · rw [he b e]
    have hb3 : b ≤ m.2.2.2.1 := by omega
    exact (h.2.1 b hb hb3).kept (ho _ (by rw [tqad_ge hb, h.1]; omega))
theorem tqad_new {g : tqG} {m : tqM} {H : Heap} (h : tqH g m H) : tqad g (m.2.2.2.1 + 1) = H.size := by
  have h1 : 1 ≤ m.2.2.2.1 := h.2.2.2.2.1
  rw [tqad_ge (by omega), h.1]; omega
theorem tqw_ent {g : tqG} {m : tqM} {a : Nat} {j x : Int} {b : Nat} (h : b ≠ a) : tqent g (tqw m a j x) b = tqent g m b := by
  have e : ∀ i, (tqw m a j x).1 b i = m.1 b i := fun i => if_neg h
  unfold tqent tqfv
  simp only [e]
  rfl
theorem tqp_ent {g : tqG} {m : tqM} {a : Nat} {j : Int} {x : Nat} {b : Nat} (h : b ≠ a) : tqent g (tqp m a j x) b = tqent g m b := by
  have e : ∀ i, (tqp m a j x).2.1 b i = m.2.1 b i := fun i => if_neg h
  unfold tqent tqfv
  simp only [e]
  rfl
theorem tqw_ok {g : tqG} {m : tqM} {a : Nat} {j x : Int} (h : tqok g m) (ha : a ≠ 1) (hx : (tqkd (tqS m a).1 j = 0 → in32 x) ∧ (tqkd (tqS m a).1 j = 1 → in64 x) ∧ (tqkd (tqS m a).1 j = 2 → x = 0 ∨ x = 1)) : tqok g (tqw m a j x) := by
  refine ⟨fun b k => ?_, h.2.1, h.2.2.1, h.2.2.2.1, h.2.2.2.2.1, fun i hi => ?_⟩
  · show (tqkd (tqS m b).1 k = 0 → in32 ((tqw m a j x).1 b k)) ∧ (tqkd (tqS m b).1 k = 1 → in64 ((tqw m a j x).1 b k)) ∧ (tqkd (tqS m b).1 k = 2 → (tqw m a j x).1 b k = 0 ∨ (tqw m a j x).1 b k = 1)
    by_cases e : b = a
    · subst e
      by_cases e2 : k = j
      · subst e2
        simpa [tqw] using hx
      · simpa [tqw, e2] using h.1 b k
    · simpa [tqw, e] using h.1 b k
  · have e : (tqw m a j x).1 1 (i : Int) = m.1 1 (i : Int) := if_neg (Ne.symm ha)
    rw [e]
    exact h.2.2.2.2.2 i hi
theorem tqp_ok {g : tqG} {m : tqM} {a : Nat} {j : Int} {x : Nat} (h : tqok g m) : tqok g (tqp m a j x) := h
theorem tqnew_ent {g : tqG} {m : tqM} {kd n b : Nat} (h : b ≠ m.2.2.2.1 + 1) : tqent g (tqnew m kd n) b = tqent g m b := by
  have e1 : ∀ i, (tqnew m kd n).1 b i = m.1 b i := fun i => if_neg h
  have e2 : ∀ i, (tqnew m kd n).2.1 b i = m.2.1 b i := fun i => if_neg h
  have e3 : tqS (tqnew m kd n) b = tqS m b := if_neg h
  unfold tqent tqfv
  simp only [e1, e2, e3]
theorem tqnew_ok {g : tqG} {m : tqM} {kd n : Nat} (h : tqok g m) (h8 : kd ≠ 8) (hn : n < 536870912) : tqok g (tqnew m kd n) := by
  have h1 : 1 ≤ m.2.2.2.1 := h.2.2.1
  have es : ∀ b, tqS (tqnew m kd n) b = if b = m.2.2.2.1 + 1 then (kd, n) else tqS m b := fun b => rfl
  have ed : ∀ b i, (tqnew m kd n).1 b i = if b = m.2.2.2.1 + 1 then 0 else m.1 b i := fun b i => rfl
  refine ⟨fun b j => ?_, fun b hb => ?_, Nat.le_add_left _ _, ?_, h.2.2.2.2.1, fun i hi => ?_⟩
  · rw [es, ed]
    by_cases e : b = m.2.2.2.1 + 1
    · rw [if_pos e, if_pos e]
      exact ⟨fun _ => in32_0, fun _ => in64_0, fun _ => Or.inl rfl⟩
    · rw [if_neg e, if_neg e]
      exact h.1 b j
  · rw [es] at hb ⊢
    by_cases e : b = m.2.2.2.1 + 1
    · rw [if_pos e]
      exact Or.inr ⟨by omega, by show b ≤ m.2.2.2.1 + 1; omega, h8, hn⟩
    · rw [if_neg e] at hb ⊢
      rcases h.2.1 b hb with q | ⟨q1, q2, q3, q4⟩
      · exact Or.inl q
      · exact Or.inr ⟨q1, by show b ≤ m.2.2.2.1 + 1; omega, q3, q4⟩
  · rw [es, if_neg (by omega)]
    exact h.2.2.2.1
  · rw [ed, if_neg (by omega)]
    exact h.2.2.2.2.2 i hi
