/-! ===== look: the next order reads the first places alone ===== -/
theorem noi_le (o : Int → Int) : ∀ (f : Nat) (i : Int), noi o f i ≤ i
  | 0, i => Int.le_refl _
  | f + 1, i => by
    show (if i < 0 then i else if o i ≤ o (i + 1) then i else noi o f (i - 1)) ≤ i
    by_cases c : i < 0
    · rw [if_pos c]; omega
    · rw [if_neg c]
      by_cases q : o i ≤ o (i + 1)
      · rw [if_pos q]; omega
      · rw [if_neg q]
        have := noi_le o f (i - 1)
        omega
def AgN (N : Int) (o o' : Int → Int) : Prop := ∀ k : Int, 0 ≤ k → k < N → o k = o' k
theorem noi_c {N : Int} {o o' : Int → Int} (h : AgN N o o') : ∀ (f : Nat) (i : Int), i + 2 ≤ N → noi o f i = noi o' f i
  | 0, i, _ => rfl
  | f + 1, i, hi => by
    show (if i < 0 then i else if o i ≤ o (i + 1) then i else noi o f (i - 1)) = (if i < 0 then i else if o' i ≤ o' (i + 1) then i else noi o' f (i - 1))
    by_cases c : i < 0
    · rw [if_pos c, if_pos c]
    · rw [if_neg c, if_neg c, h i (by omega) (by omega), h (i + 1) (by omega) (by omega), noi_c h f (i - 1) (by omega)]
theorem noj_c {N i : Int} {o o' : Int → Int} (h : AgN N o o') (i0 : 0 ≤ i) : ∀ (f : Nat) (j : Int), i ≤ j → j < N → noj o (o i) f j = noj o' (o' i) f j ∧ (j - i < f → i ≤ noj o (o i) f j ∧ noj o (o i) f j < N)
  | 0, j, ij, jN => ⟨rfl, fun t => by omega⟩
  | f + 1, j, ij, jN => by
    have ei := h i i0 (by omega)
    have ej := h j (by omega) jN
    show (if o i ≤ o j then j else noj o (o i) f (j - 1)) = (if o' i ≤ o' j then j else noj o' (o' i) f (j - 1)) ∧ (j - i < ((f + 1 : Nat) : Int) → i ≤ (if o i ≤ o j then j else noj o (o i) f (j - 1)) ∧ (if o i ≤ o j then j else noj o (o i) f (j - 1)) < N)
    by_cases q : o i ≤ o j
    · rw [if_pos q, if_pos (by rw [← ei, ← ej]; exact q)]
      exact ⟨rfl, fun _ => ⟨ij, jN⟩⟩
    · have ne : j ≠ i := fun t => q (by rw [t]; exact Int.le_refl _)
      obtain ⟨r1, r2⟩ := noj_c h i0 f (j - 1) (by omega) (by omega)
      rw [if_neg q, if_neg (by rw [← ei, ← ej]; exact q)]
      exact ⟨r1, fun t => r2 (by omega)⟩
theorem swo_c {N a b : Int} {o o' : Int → Int} (h : AgN N o o') (a0 : 0 ≤ a) (a1 : a < N) (c0 : 0 ≤ b) (c1 : b < N) : AgN N (swo o a b) (swo o' a b) := by
  intro k k0 k1
  unfold swo
  rw [h a a0 a1, h b c0 c1, h k k0 k1]
theorem norv_c {N : Int} : ∀ (f : Nat) (a b : Int) (o o' : Int → Int), AgN N o o' → 0 ≤ a → b < N → AgN N (norv o f a b) (norv o' f a b)
  | 0, a, b, o, o', h, _, _ => h
  | f + 1, a, b, o, o', h, a0, c1 => by
    show AgN N (if b ≤ a then o else norv (swo o a b) f (a + 1) (b - 1)) (if b ≤ a then o' else norv (swo o' a b) f (a + 1) (b - 1))
    by_cases c : b ≤ a
    · rw [if_pos c, if_pos c]; exact h
    · rw [if_neg c, if_neg c]
      exact norv_c f (a + 1) (b - 1) _ _ (swo_c h a0 (by omega) (by omega) c1) (by omega) (by omega)
theorem nxo_c {N : Int} {o o' : Int → Int} (h : AgN N o o') (N1 : N ≤ 6) (q : ¬ noi o 6 (N - 2) < 0) : AgN N (nxo o N) (nxo o' N) := by
  have e := noi_c h 6 (N - 2) (by omega)
  have l := noi_le o 6 (N - 2)
  obtain ⟨r1, r2⟩ := noj_c h (i := noi o 6 (N - 2)) (by omega) 7 (N - 1) (by omega) (by omega)
  have r3 := r2 (by omega)
  unfold nxo
  rw [← e, ← r1]
  exact norv_c 6 _ _ _ _ (swo_c h (by omega) (by omega) (by omega) r3.2) (by omega) (by omega)
/-- the list of the first places -/
theorem lf_ag {N : Nat} {o : Int → Int} {l : List Int} (e : (List.range N).map (fun k : Nat => o ((k : Nat) : Int)) = l) : AgN (N : Int) o (lf6 l) := by
  intro k k0 k1
  obtain ⟨u, rfl⟩ : ∃ u : Nat, k = u := ⟨k.toNat, by omega⟩
  have hu : u < N := by omega
  unfold lf6
  rw [← e]
  simp [List.getD, hu]
