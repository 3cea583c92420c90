/-! ===== what the checks give ===== -/
theorem tqgood {w : Cond} (h : w ∈ lw_tbl) (hg : goodWord w = true) : w ∈ tqWd := List.mem_filter.mpr ⟨h, hg⟩
theorem tqbq {a b : Nat} (h : Nat.beq a b = true) : a = b := Nat.eq_of_beq_eq_true h
theorem tqbl {a b : Nat} (h : Nat.blt a b = true) : a < b := Nat.le_of_ble_eq_true h
theorem tqFL_link {o idx k j : Nat} (h : tqFL.any (fun q => Nat.beq q.2.2.1 o && (Nat.beq q.2.2.2.1 idx && (Nat.beq q.2.2.2.2.1 k && Nat.beq q.2.2.2.2.2.1 j))) = true) : Cond.fieldLink (tqRn o) idx (tqRn k) (tqTn k j).2.1 (tqTn k j).2.2.1 ∈ lw_tbl ∨ Cond.fieldLinkNest (tqRn o) idx (tqRn k) (tqTn k j).2.1 (tqTn k j).2.2.1 "TrailerYards" ∈ lw_tbl := by
  obtain ⟨q, hq, h⟩ := List.any_eq_true.mp h
  simp only [Bool.and_eq_true] at h
  obtain ⟨h1, h2, h3, h4⟩ := h
  have hm := tqch_in (tqFL_ok q hq)
  obtain ⟨a, b, o', i', k', j', z⟩ := q
  cases tqbq h1; cases tqbq h2; cases tqbq h3; cases tqbq h4
  match z, hm with
  | 0, hm => exact Or.inl hm
  | _ + 1, hm => exact Or.inr hm
theorem tqFL_put {o idx k j : Nat} {b : Bool} (h : tqFL.any (fun q => Nat.beq q.2.2.1 o && (Nat.beq q.2.2.2.1 idx && (Nat.beq q.2.2.2.2.1 k && (Nat.beq q.2.2.2.2.2.1 j && (!(tqTn k j).2.2.2 || (Nat.beq q.2.2.2.2.2.2 0 && (Nat.beq o k && b))))))) = true) :
    ((tqTn k j).2.2.2 = false ∧ (Cond.fieldLink (tqRn o) idx (tqRn k) (tqTn k j).2.1 (tqTn k j).2.2.1 ∈ lw_tbl ∨ Cond.fieldLinkNest (tqRn o) idx (tqRn k) (tqTn k j).2.1 (tqTn k j).2.2.1 "TrailerYards" ∈ lw_tbl)) ∨ ((tqTn k j).2.2.2 = true ∧ Cond.fieldLink (tqRn o) idx (tqRn k) (tqTn k j).2.1 (tqTn k j).2.2.1 ∈ lw_tbl ∧ b = true ∧ o = k) := by
  obtain ⟨q, hq, h⟩ := List.any_eq_true.mp h
  simp only [Bool.and_eq_true] at h
  obtain ⟨h1, h2, h3, h4, h5⟩ := h
  have hm := tqch_in (tqFL_ok q hq)
  obtain ⟨a, b', o', i', k', j', z⟩ := q
  cases tqbq h1; cases tqbq h2; cases tqbq h3; cases tqbq h4
  cases hfin : (tqTn k' j').2.2.2 with
  | false =>
    refine Or.inl ⟨rfl, ?_⟩
    match z, hm with
    | 0, hm => exact Or.inl hm
    | _ + 1, hm => exact Or.inr hm
  | true =>
    rw [hfin] at h5
    simp only [Bool.not_true, Bool.false_or, Bool.and_eq_true] at h5
    obtain ⟨h6, h7, h8⟩ := h5
    cases tqbq h6
    exact Or.inr ⟨rfl, hm, h8, tqbq h7⟩
theorem tqHL_link {o idx k : Nat} (h : tqHL.any (fun q => Nat.beq q.2.2.1 o && (Nat.beq q.2.2.2.1 idx && Nat.beq q.2.2.2.2.1 k)) = true) : Cond.methodLink (tqRn o) idx (tqhy k) ∈ lw_tbl ∨ Cond.methodLinkNest (tqRn o) idx (tqhy k) "TrailerYards" ∈ lw_tbl := by
  obtain ⟨q, hq, h⟩ := List.any_eq_true.mp h
  simp only [Bool.and_eq_true] at h
  obtain ⟨h1, h2, h3⟩ := h
  have hm := tqch_in (tqHL_ok q hq)
  obtain ⟨a, b, o', i', k', z⟩ := q
  cases tqbq h1; cases tqbq h2; cases tqbq h3
  match z, hm with
  | 0, hm => exact Or.inl hm
  | _ + 1, hm => exact Or.inr hm
theorem tqHL_plain {o idx k : Nat} (h : tqHL.any (fun q => Nat.beq q.2.2.1 o && (Nat.beq q.2.2.2.1 idx && (Nat.beq q.2.2.2.2.1 k && Nat.beq q.2.2.2.2.2 0))) = true) : Cond.methodLink (tqRn o) idx (tqhy k) ∈ lw_tbl := by
  obtain ⟨q, hq, h⟩ := List.any_eq_true.mp h
  simp only [Bool.and_eq_true] at h
  obtain ⟨h1, h2, h3, h4⟩ := h
  have hm := tqch_in (tqHL_ok q hq)
  obtain ⟨a, b, o', i', k', z⟩ := q
  cases tqbq h1; cases tqbq h2; cases tqbq h3; cases tqbq h4
  exact hm
theorem tqCL_link {o idx k : Nat} (hk : k < 90) (h : tqCL.any (fun q => Nat.beq q.2.2.1 o && (Nat.beq q.2.2.2.1 idx && Nat.beq q.2.2.2.2 k)) = true) : Cond.classLink (tqRn o) idx (tqRn k) ∈ lw_tbl := by
  obtain ⟨q, hq, h⟩ := List.any_eq_true.mp h
  simp only [Bool.and_eq_true] at h
  obtain ⟨h1, h2, h3⟩ := h
  have hm := tqch_in (tqCL_ok q hq)
  obtain ⟨a, b, o', i', k'⟩ := q
  cases tqbq h1; cases tqbq h2; cases tqbq h3
  have hk : k' < 90 := hk
  have e : tqcw (a, b, o', i', k') = .classLink (tqRn o') i' (tqRn k') := by
    unfold tqcw
    split
    · rename_i heq
      simp at heq
      omega
    · rename_i heq
      simp at heq
      obtain ⟨rfl, rfl, rfl⟩ := heq.2.2
      rfl
  rw [e] at hm
  exact hm
theorem tqCL_grid {o idx : Nat} (h : tqCL.any (fun q => Nat.beq q.2.2.1 o && (Nat.beq q.2.2.2.1 idx && Nat.beq q.2.2.2.2 99)) = true) : Cond.classLink (tqRn o) idx "[[I" ∈ lw_tbl := by
  obtain ⟨q, hq, h⟩ := List.any_eq_true.mp h
  simp only [Bool.and_eq_true] at h
  obtain ⟨h1, h2, h3⟩ := h
  have hm := tqch_in (tqCL_ok q hq)
  obtain ⟨a, b, o', i', k'⟩ := q
  cases tqbq h1; cases tqbq h2; cases tqbq h3
  exact hm
theorem tqKL_link {o idx : Nat} {v : Int} (h : tqKL.any (fun q => Nat.beq q.2.2.1 o && (Nat.beq q.2.2.2.1 idx && decide (q.2.2.2.2 = v))) = true) : Cond.constant (tqRn o) idx (Int32.ofInt v) ∈ lw_tbl := by
  obtain ⟨q, hq, h⟩ := List.any_eq_true.mp h
  simp only [Bool.and_eq_true, decide_eq_true_eq] at h
  obtain ⟨h1, h2, h3⟩ := h
  have hm := tqch_in (tqKL_ok q hq)
  unfold tqkw at hm
  rw [tqbq h1, tqbq h2, h3] at hm
  exact hm
theorem tqJL_link {o idx : Nat} {v : Int} (h : tqJL.any (fun q => Nat.beq q.2.2.1 o && (Nat.beq q.2.2.2.1 idx && decide (q.2.2.2.2 = v))) = true) : Cond.constantLong (tqRn o) idx (Int64.ofInt v) ∈ lw_tbl := by
  obtain ⟨q, hq, h⟩ := List.any_eq_true.mp h
  simp only [Bool.and_eq_true, decide_eq_true_eq] at h
  obtain ⟨h1, h2, h3⟩ := h
  have hm := tqch_in (tqJL_ok q hq)
  unfold tqjw at hm
  rw [tqbq h1, tqbq h2, h3] at hm
  exact hm
/-- of a method: its code; static or instance; selects; initialized -/
theorem tqkf_spec {k : Nat} (hk : k < 255) : Cond.code (tqmi k).1 (tqmi k).2.1 (tqmi k).2.2.1 (tqmi k).2.2.2 ∈ lw_tbl ∧ ((tqkf k).1 = 1 → Cond.static (tqmi k).1 ∈ lw_tbl) ∧ ((tqkf k).1 = 0 → Cond.instanceMethod (tqmi k).1 ∈ lw_tbl) ∧ ((tqkf k).2.2.2.2.2.1 ≠ 99 → Cond.selects (tqmi k).1.cls (tqmi k).1 (tqmi k).1 ∈ lw_tbl) ∧ Cond.initialized (tqmi k).1.cls ∈ lw_tbl := by
  have h := tqkf_all k hk
  have hc := tqch_in (tqkc_all k hk)
  refine ⟨hc, ?_⟩
  clear hc
  unfold tqkfok at h
  generalize tqkf k = z at h ⊢
  obtain ⟨s, a1, a2, b1, b2, c1, c2, d1, d2⟩ := z
  simp only [Bool.and_eq_true, decide_eq_true_eq, Bool.or_eq_true] at h
  obtain ⟨⟨h2, h3⟩, h4⟩ := h
  refine ⟨fun e => ?_, fun e => ?_, fun e => ?_, tqch_in h4⟩
  · cases e
    exact tqch_in h2
  · cases e
    exact tqch_in h2
  · rcases h3 with h3 | h3
    · exact absurd (tqbq h3) e
    · exact tqch_in h3
theorem tqna_spec {k : Nat} (hk : k < 255) : (parseMethodDescriptor (tqmi k).1.desc).map (fun d => d.parameters.length) = some (tqNA.getD k 0) ∧ (tqmi k).1.cls ≠ "java/lang/invoke/MethodHandle" ∧ (tqmi k).1.cls ≠ "java/lang/invoke/VarHandle" ∧ plainName (tqmi k).1.cls = true ∧ (tqmi k).1.cls = tqRn (tqow k) ∧ (tqmi k).2.2.1 ≤ 40 ∧ (tqP k).2 = (tqmi k).2.2.1 := by
  have h := tqna_all k hk
  unfold tqnaok at h
  simp only [Bool.and_eq_true, decide_eq_true_eq, Bool.not_eq_true', decide_eq_false_iff_not] at h
  obtain ⟨⟨⟨⟨⟨⟨h1, h2⟩, h3⟩, h4⟩, h5⟩, h6⟩, h7⟩ := h
  exact ⟨h1, h2, h3, h4, h5, Nat.le_of_ble_eq_true h6, tqbq h7⟩
theorem tqcode_le {k pc : Nat} {en : tqEn} (h : (tqP k).1 pc = some en) (hz : ∀ pc, tqMx.getD k 0 < pc → (tqP k).1 pc = none) : pc ≤ tqMx.getD k 0 := by
  rcases Nat.lt_or_ge (tqMx.getD k 0) pc with q | q
  · rw [hz pc q] at h; cases h
  · exact q
