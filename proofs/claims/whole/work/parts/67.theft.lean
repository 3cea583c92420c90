/-- the last of the first k with a property -/
def lst (p : Int → Bool) : Nat → Int
  | 0 => -9
  | k + 1 => if p (k : Int) = true then (k : Int) else lst p k
theorem lst_S (p : Int → Bool) (k : Nat) : lst p (k + 1) = if p (k : Int) = true then (k : Int) else lst p k := rfl
theorem lst_in (p : Int → Bool) : ∀ k : Nat, lst p k = -9 ∨ (0 ≤ lst p k ∧ lst p k < k ∧ p (lst p k) = true)
  | 0 => Or.inl rfl
  | k + 1 => by
    rw [lst_S]
    by_cases c : p (k : Int) = true
    · rw [if_pos c]; exact Or.inr ⟨by omega, by omega, c⟩
    · rw [if_neg c]
      rcases lst_in p k with q | q
      · exact Or.inl q
      · exact Or.inr ⟨q.1, by omega, q.2.2⟩
theorem tzUU (D : Nat → Int → Int) (a : Nat) (j x y : Int) : tzU (tzU D a j x) a j y = tzU D a j y := by
  funext b k
  rw [rdU, rdU, rdU]
  by_cases c : b = a
  · rw [if_pos c, if_pos c, if_pos c]
    by_cases e : k = j
    · rw [if_pos e, if_pos e]
    · rw [if_neg e, if_neg e, if_neg e]
  · rw [if_neg c, if_neg c, if_neg c]
theorem tzUi (D : Nat → Int → Int) (a : Nat) (j x : Int) (h : D a j = x) : tzU D a j x = D := by
  funext b k
  rw [rdU]
  by_cases c : b = a
  · rw [if_pos c]
    by_cases e : k = j
    · rw [if_pos e, c, e]; exact h.symm
    · rw [if_neg e]
  · rw [if_neg c]
def pB (D : Nat → Int → Int) (t : Int) (i : Int) : Bool := decide (D 110 i = t ∧ D 111 i = 5)
def pW (D : Nat → Int → Int) (t : Int) (i : Int) : Bool := decide (D 110 i = t ∧ (D 111 i = 3 ∨ D 111 i = 4))
theorem pB_i (D : Nat → Int → Int) (t i : Int) : (pB D t i = true) = (D 110 i = t ∧ D 111 i = 5) := propext decide_eq_true_iff
theorem pW_i (D : Nat → Int → Int) (t i : Int) : (pW D t i = true) = (D 110 i = t ∧ (D 111 i = 3 ∨ D 111 i = 4)) := propext decide_eq_true_iff
theorem lstB_S (D : Nat → Int → Int) (t : Int) (k : Nat) : lst (pB D t) (k + 1) = if D 110 k = t ∧ D 111 k = 5 then (k : Int) else lst (pB D t) k := by rw [lst_S]; simp only [pB_i]
theorem lstW_S (D : Nat → Int → Int) (t : Int) (k : Nat) : lst (pW D t) (k + 1) = if D 110 k = t ∧ (D 111 k = 3 ∨ D 111 k = 4) then (k : Int) else lst (pW D t) k := by rw [lst_S]; simp only [pW_i]
theorem w32_d (k : Nat) (h : k ≤ 1000) : w32 ((k : Int) + -1) = (k : Int) - 1 := (w32_id (x := (k : Int) + -1) ⟨by omega, by omega⟩).trans (by omega)
theorem w32_d2 (k : Nat) (h : k ≤ 1000) : w32 ((k : Int) - 1) = (k : Int) - 1 := w32_id ⟨by omega, by omega⟩
theorem kd (k : Nat) : (((k + 1 : Nat) : Int) - 1) = (k : Int) := by omega
theorem sE_lst {D : Nat → Int → Int} {t : Int} : ∀ {k : Nat}, sE D t k → lst (pW D t) k ≠ -9
  | 0, h => absurd h (by unfold sE; exact not_false)
  | k + 1, h => by
    rw [lstW_S]
    unfold sE at h
    by_cases c : D 110 k = t ∧ (D 111 k = 3 ∨ D 111 k = 4)
    · rw [if_pos c]; omega
    · rw [if_neg c]
      rcases h with q | q
      · exact absurd q c
      · exact sE_lst q
set_option maxRecDepth 100000 in
set_option maxHeartbeats 400000 in
theorem p_fB (d : Nat) (D : Nat → Int → Int) (L n : Nat) (t : Int) {N : Int} (h : BE D N) : ∀ (k : Nat), (k : Int) ≤ N → tqrun tqP (d + 2) tqc_X1_foundBroken 7 [vR 13, vI t, vI ((k : Int) - 1)] [] (tzW D L n) = some (some (vI (lst (pB D t) k)), tzW D L n)
  | 0, _ => by
    have c : (((0 : Nat) : Int) - 1) < 0 := by omega
    rw [b_X1_foundBroken_7]
    simp only [z_cd, i10, i11, dnn, rdU, eW, eU, tzC_w, w_shp, w_ptr, Nat.beq_refl, nbz, nb133, nb75, nb55, nb67, n133a, n133b, n75a, n75b, aT, aR, oT, oR, oF, oG, kT, kF, bI, bL, bR, b0, Classical.not_not, not_true_eq_false, not_false_eq_true, and_self, and_true, true_and, ↓reduceIte, decide_true, decide_false, Nat.reduceEqDiff, Nat.reduceLT, Nat.reduceLeDiff, Int.reduceEq, Bool.false_eq_true, c]
    rfl
  | k + 1, hk => by
    have c : ¬ ((k : Int) < 0) := by omega
    have ih := p_fB d D L n t h k (by omega)
    have h6 := h.2.2.2.1
    have io := p_isOf1 d D L n h k t 5 (by omega) (by omega)
    have w1 := w32_d k (by omega)
    rw [kd, b_X1_foundBroken_7, lstB_S]
    by_cases q : D 110 (k : Int) = t ∧ D 111 (k : Int) = 5
    · rw [if_pos q] at io ⊢
      simp only [z_cd, i10, i11, dnn, rdU, eW, eU, tzC_w, w_shp, w_ptr, Nat.beq_refl, nbz, nb133, nb75, nb55, nb67, n133a, n133b, n75a, n75b, aT, aR, oT, oR, oF, oG, kT, kF, bI, bL, bR, b0, Classical.not_not, not_true_eq_false, not_false_eq_true, and_self, and_true, true_and, ↓reduceIte, decide_true, decide_false, Nat.reduceEqDiff, Nat.reduceLT, Nat.reduceLeDiff, Int.reduceEq, Bool.false_eq_true, c, io]
    · rw [if_neg q] at io ⊢
      simp only [z_cd, i10, i11, dnn, rdU, eW, eU, tzC_w, w_shp, w_ptr, Nat.beq_refl, nbz, nb133, nb75, nb55, nb67, n133a, n133b, n75a, n75b, aT, aR, oT, oR, oF, oG, kT, kF, bI, bL, bR, b0, Classical.not_not, not_true_eq_false, not_false_eq_true, and_self, and_true, true_and, ↓reduceIte, decide_true, decide_false, Nat.reduceEqDiff, Nat.reduceLT, Nat.reduceLeDiff, Int.reduceEq, Bool.false_eq_true, c, io, w1, ih]
set_option maxRecDepth 100000 in
set_option maxHeartbeats 400000 in
theorem p_sW (d : Nat) (D : Nat → Int → Int) (L n : Nat) (t : Int) {N : Int} (h : BE D N) : ∀ (k : Nat), (k : Int) ≤ N → tqrun tqP (d + 2) tqc_X1_seenWholeAhead 4 [vR 13, vI t, vU, vI ((k : Int) - 1)] [] (tzW D L n) = some (some (vI (lst (pW D t) k)), tzW D L n)
  | 0, _ => by
    have c : (((0 : Nat) : Int) - 1) < 0 := by omega
    rw [b_X1_seenWholeAhead_4]
    simp only [z_cd, i10, i11, dnn, rdU, eW, eU, tzC_w, w_shp, w_ptr, Nat.beq_refl, nbz, nb133, nb75, nb55, nb67, n133a, n133b, n75a, n75b, aT, aR, oT, oR, oF, oG, kT, kF, bI, bL, bR, b0, Classical.not_not, not_true_eq_false, not_false_eq_true, and_self, and_true, true_and, ↓reduceIte, decide_true, decide_false, Nat.reduceEqDiff, Nat.reduceLT, Nat.reduceLeDiff, Int.reduceEq, Bool.false_eq_true, c]
    rfl
  | k + 1, hk => by
    have c : ¬ ((k : Int) < 0) := by omega
    have ih := p_sW d D L n t h k (by omega)
    have h6 := h.2.2.2.1
    have io := p_isOf1 d D L n h k t 3 (by omega) (by omega)
    have ip := p_isOf1 d D L n h k t 4 (by omega) (by omega)
    have w1 := w32_d k (by omega)
    rw [kd, b_X1_seenWholeAhead_4, lstW_S]
    by_cases q1 : D 110 (k : Int) = t
    · by_cases q3 : D 111 (k : Int) = 3
      · simp only [z_cd, i10, i11, dnn, rdU, eW, eU, tzC_w, w_shp, w_ptr, Nat.beq_refl, nbz, nb133, nb75, nb55, nb67, n133a, n133b, n75a, n75b, aT, aR, oT, oR, oF, oG, kT, kF, bI, bL, bR, b0, Classical.not_not, not_true_eq_false, not_false_eq_true, and_self, and_true, true_and, ↓reduceIte, decide_true, decide_false, Nat.reduceEqDiff, Nat.reduceLT, Nat.reduceLeDiff, Int.reduceEq, Bool.false_eq_true, c, io, ip, w1, ih, q1, q3, or_false, false_or, or_true, true_or, or_self, and_false, false_and, Int.reduceLT, Int.reduceLE, Int.reduceNeg]
      · by_cases q4 : D 111 (k : Int) = 4
        · simp only [z_cd, i10, i11, dnn, rdU, eW, eU, tzC_w, w_shp, w_ptr, Nat.beq_refl, nbz, nb133, nb75, nb55, nb67, n133a, n133b, n75a, n75b, aT, aR, oT, oR, oF, oG, kT, kF, bI, bL, bR, b0, Classical.not_not, not_true_eq_false, not_false_eq_true, and_self, and_true, true_and, ↓reduceIte, decide_true, decide_false, Nat.reduceEqDiff, Nat.reduceLT, Nat.reduceLeDiff, Int.reduceEq, Bool.false_eq_true, c, io, ip, w1, ih, q1, q3, q4, or_false, false_or, or_true, true_or, or_self, and_false, false_and, Int.reduceLT, Int.reduceLE, Int.reduceNeg]
        · simp only [z_cd, i10, i11, dnn, rdU, eW, eU, tzC_w, w_shp, w_ptr, Nat.beq_refl, nbz, nb133, nb75, nb55, nb67, n133a, n133b, n75a, n75b, aT, aR, oT, oR, oF, oG, kT, kF, bI, bL, bR, b0, Classical.not_not, not_true_eq_false, not_false_eq_true, and_self, and_true, true_and, ↓reduceIte, decide_true, decide_false, Nat.reduceEqDiff, Nat.reduceLT, Nat.reduceLeDiff, Int.reduceEq, Bool.false_eq_true, c, io, ip, w1, ih, q1, q3, q4, or_false, false_or, or_true, true_or, or_self, and_false, false_and, Int.reduceLT, Int.reduceLE, Int.reduceNeg]
    · simp only [z_cd, i10, i11, dnn, rdU, eW, eU, tzC_w, w_shp, w_ptr, Nat.beq_refl, nbz, nb133, nb75, nb55, nb67, n133a, n133b, n75a, n75b, aT, aR, oT, oR, oF, oG, kT, kF, bI, bL, bR, b0, Classical.not_not, not_true_eq_false, not_false_eq_true, and_self, and_true, true_and, ↓reduceIte, decide_true, decide_false, Nat.reduceEqDiff, Nat.reduceLT, Nat.reduceLeDiff, Int.reduceEq, Bool.false_eq_true, c, io, ip, w1, ih, q1, or_false, false_or, or_true, true_or, or_self, and_false, false_and, Int.reduceLT, Int.reduceLE, Int.reduceNeg]
set_option maxRecDepth 100000 in
set_option maxHeartbeats 400000 in
theorem q_fT (d : Nat) (D : Nat → Int → Int) (L n : Nat) (t : Int) {N : Nat} (hN : D 81 34 = N) (h6 : N ≤ 60) : ∀ (j k : Nat), k + j = N → tqrun tqP (d + 1) tqc_X12_findTheft 14 [vR 81, vI t, vI (k : Int)] [] (tzW (tzU D 81 49 (lst (pB D t) k)) L n) = tqrun tqP (d + 1) tqc_X12_findTheft 62 [vR 81, vI t, vI 0] [] (tzW (tzU D 81 49 (lst (pB D t) N)) L n)
  | 0, k, h => by
    have c : (N : Int) ≤ k := by omega
    have e : k = N := by omega
    rw [b_X12_findTheft_14]
    simp only [z_cd, i10, i11, dnn, rdU, eW, eU, tzC_w, w_shp, w_ptr, Nat.beq_refl, nbz, nb133, nb75, nb55, nb67, n133a, n133b, n75a, n75b, aT, aR, oT, oR, oF, oG, kT, kF, bI, bL, bR, b0, Classical.not_not, not_true_eq_false, not_false_eq_true, and_self, and_true, true_and, ↓reduceIte, decide_true, decide_false, Nat.reduceEqDiff, Nat.reduceLT, Nat.reduceLeDiff, Int.reduceEq, Bool.false_eq_true, hN, c]
    rw [e]
  | j + 1, k, h => by
    have c : ¬ (N : Int) ≤ k := by omega
    have hb : tqib (k : Int) 60 = true := tqib_y (by omega) (by omega)
    have ih := q_fT d D L n t hN h6 j (k + 1) (by omega)
    rw [lstB_S] at ih
    have w1 := w32_s k (by omega)
    rw [← ih, b_X12_findTheft_14]
    by_cases q1 : D 110 (k : Int) = t
    · by_cases q2 : D 111 (k : Int) = 5
      · simp only [z_cd, i10, i11, dnn, rdU, eW, eU, tzC_w, w_shp, w_ptr, Nat.beq_refl, nbz, nb133, nb75, nb55, nb67, n133a, n133b, n75a, n75b, aT, aR, oT, oR, oF, oG, kT, kF, bI, bL, bR, b0, Classical.not_not, not_true_eq_false, not_false_eq_true, and_self, and_true, true_and, ↓reduceIte, decide_true, decide_false, Nat.reduceEqDiff, Nat.reduceLT, Nat.reduceLeDiff, Int.reduceEq, Bool.false_eq_true, hN, c, hb, q1, q2, w1, tzUU]
      · simp only [z_cd, i10, i11, dnn, rdU, eW, eU, tzC_w, w_shp, w_ptr, Nat.beq_refl, nbz, nb133, nb75, nb55, nb67, n133a, n133b, n75a, n75b, aT, aR, oT, oR, oF, oG, kT, kF, bI, bL, bR, b0, Classical.not_not, not_true_eq_false, not_false_eq_true, and_self, and_true, true_and, ↓reduceIte, decide_true, decide_false, Nat.reduceEqDiff, Nat.reduceLT, Nat.reduceLeDiff, Int.reduceEq, Bool.false_eq_true, hN, c, hb, q1, q2, w1, tzUU, or_false, false_or, or_true, true_or, or_self, and_false, false_and, Int.reduceLT, Int.reduceLE, Int.reduceNeg]
    · simp only [z_cd, i10, i11, dnn, rdU, eW, eU, tzC_w, w_shp, w_ptr, Nat.beq_refl, nbz, nb133, nb75, nb55, nb67, n133a, n133b, n75a, n75b, aT, aR, oT, oR, oF, oG, kT, kF, bI, bL, bR, b0, Classical.not_not, not_true_eq_false, not_false_eq_true, and_self, and_true, true_and, ↓reduceIte, decide_true, decide_false, Nat.reduceEqDiff, Nat.reduceLT, Nat.reduceLeDiff, Int.reduceEq, Bool.false_eq_true, hN, c, hb, q1, w1, tzUU, or_false, false_or, or_true, true_or, or_self, and_false, false_and, Int.reduceLT, Int.reduceLE, Int.reduceNeg]
set_option maxRecDepth 100000 in
set_option maxHeartbeats 400000 in
theorem q_fF (d : Nat) (D : Nat → Int → Int) (L n : Nat) (t : Int) {B : Int} (hB : D 81 49 = B) (hb6 : B ≤ 60) : ∀ (j k : Nat), (k : Int) + j = B → tqrun tqP (d + 1) tqc_X12_findTheft 62 [vR 81, vI t, vI (k : Int)] [] (tzW (tzU D 81 48 (lst (pW D t) k)) L n) = some (some (vI 1), tzW (tzU D 81 48 (lst (pW D t) (k + j))) L n)
  | 0, k, h => by
    have c : B ≤ k := by omega
    have c2 : ¬ B < 0 := by omega
    rw [b_X12_findTheft_62]
    simp only [z_cd, i10, i11, dnn, rdU, eW, eU, tzC_w, w_shp, w_ptr, Nat.beq_refl, nbz, nb133, nb75, nb55, nb67, n133a, n133b, n75a, n75b, aT, aR, oT, oR, oF, oG, kT, kF, bI, bL, bR, b0, Classical.not_not, not_true_eq_false, not_false_eq_true, and_self, and_true, true_and, ↓reduceIte, decide_true, decide_false, Nat.reduceEqDiff, Nat.reduceLT, Nat.reduceLeDiff, Int.reduceEq, Bool.false_eq_true, hB, c, c2, Nat.add_zero]
  | j + 1, k, h => by
    have c : ¬ B ≤ k := by omega
    have hb : tqib (k : Int) 60 = true := tqib_y (by omega) (by omega)
    have e : k + (j + 1) = k + 1 + j := by omega
    have ih := q_fF d D L n t hB hb6 j (k + 1) (by omega)
    rw [e, ← ih]
    clear ih
    have w1 := w32_s k (by omega)
    rw [lstW_S, b_X12_findTheft_62]
    by_cases q1 : D 110 (k : Int) = t
    · by_cases q3 : D 111 (k : Int) = 3
      · simp only [z_cd, i10, i11, dnn, rdU, eW, eU, tzC_w, w_shp, w_ptr, Nat.beq_refl, nbz, nb133, nb75, nb55, nb67, n133a, n133b, n75a, n75b, aT, aR, oT, oR, oF, oG, kT, kF, bI, bL, bR, b0, Classical.not_not, not_true_eq_false, not_false_eq_true, and_self, and_true, true_and, ↓reduceIte, decide_true, decide_false, Nat.reduceEqDiff, Nat.reduceLT, Nat.reduceLeDiff, Int.reduceEq, Bool.false_eq_true, hB, c, hb, q1, q3, w1, tzUU, or_false, false_or, or_true, true_or, or_self, and_false, false_and, Int.reduceLT, Int.reduceLE, Int.reduceNeg]
      · by_cases q4 : D 111 (k : Int) = 4
        · simp only [z_cd, i10, i11, dnn, rdU, eW, eU, tzC_w, w_shp, w_ptr, Nat.beq_refl, nbz, nb133, nb75, nb55, nb67, n133a, n133b, n75a, n75b, aT, aR, oT, oR, oF, oG, kT, kF, bI, bL, bR, b0, Classical.not_not, not_true_eq_false, not_false_eq_true, and_self, and_true, true_and, ↓reduceIte, decide_true, decide_false, Nat.reduceEqDiff, Nat.reduceLT, Nat.reduceLeDiff, Int.reduceEq, Bool.false_eq_true, hB, c, hb, q1, q3, q4, w1, tzUU, or_false, false_or, or_true, true_or, or_self, and_false, false_and, Int.reduceLT, Int.reduceLE, Int.reduceNeg]
        · simp only [z_cd, i10, i11, dnn, rdU, eW, eU, tzC_w, w_shp, w_ptr, Nat.beq_refl, nbz, nb133, nb75, nb55, nb67, n133a, n133b, n75a, n75b, aT, aR, oT, oR, oF, oG, kT, kF, bI, bL, bR, b0, Classical.not_not, not_true_eq_false, not_false_eq_true, and_self, and_true, true_and, ↓reduceIte, decide_true, decide_false, Nat.reduceEqDiff, Nat.reduceLT, Nat.reduceLeDiff, Int.reduceEq, Bool.false_eq_true, hB, c, hb, q1, q3, q4, w1, tzUU, or_false, false_or, or_true, true_or, or_self, and_false, false_and, Int.reduceLT, Int.reduceLE, Int.reduceNeg]
    · simp only [z_cd, i10, i11, dnn, rdU, eW, eU, tzC_w, w_shp, w_ptr, Nat.beq_refl, nbz, nb133, nb75, nb55, nb67, n133a, n133b, n75a, n75b, aT, aR, oT, oR, oF, oG, kT, kF, bI, bL, bR, b0, Classical.not_not, not_true_eq_false, not_false_eq_true, and_self, and_true, true_and, ↓reduceIte, decide_true, decide_false, Nat.reduceEqDiff, Nat.reduceLT, Nat.reduceLeDiff, Int.reduceEq, Bool.false_eq_true, hB, c, hb, q1, w1, tzUU, or_false, false_or, or_true, true_or, or_self, and_false, false_and, Int.reduceLT, Int.reduceLE, Int.reduceNeg]
