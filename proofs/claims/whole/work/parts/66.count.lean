/-- what is counted -/
def cv (D : Nat → Int → Int) (n : Nat) (w : Int) : Int := if w = 0 then D 81 5 else if w = 1 then (n : Int) else if w = 2 then ctr (fun i => decide (¬ D 96 i = 0)) n 0 0 else if w = 3 then wcn (D 88) 64 else if w = 4 then D 81 40 else if w = 5 then D 81 34 else if w = 6 then ctr (fun i => decide (0 ≤ D 83 i)) 6 0 0 else ctr (fun i => decide (0 ≤ D 86 i)) 4 0 0
set_option maxRecDepth 100000 in
set_option maxHeartbeats 400000 in
theorem p_count (d : Nat) (D : Nat → Int → Int) (L n : Nat) (hR : Rel D n) (a : Int) (h : a = 0 ∨ a = 1 ∨ a = 2 ∨ a = 3 ∨ a = 4 ∨ a = 5 ∨ a = 6 ∨ a = 7) : tqden tqP (d + 3) n_X11_count [vR 2, vI a] (tzW D L n) = some (some (vI (cv D n a)), tzW D L n) := by
  obtain ⟨hA, hL, hW, hN, ⟨c1, c2, c3⟩, hT, hD, hK, hB, hQ, hX, hM, hP, hS⟩ := id hR
  have en : D 2 13 = D 81 5 := hN.1
  have ew : D 7 5 = wcn (D 88) 64 := hW.2.2.2
  have em : D 18 4 = D 81 40 := hM.1
  have eb : D 13 4 = D 81 34 := hB.1
  have pl : tqden tqP (d + 2) n_X11_lostOnes [vR 2] (tzW D L n) = some (some (vI (ctr (fun i => decide (¬ D 96 i = 0)) n 0 0)), tzW D L n) := by
    rw [dn_X11_lostOnes, b_X11_lostOnes_0]
    exact p_lost (d + 1) D L n _ c1 c3 (fun t ht => by rw [(hT.1 t ht).2.2.2.2.1]) n 0 0 (by omega)
  have pr : tqden tqP (d + 2) n_X11_linesThere [vR 3] (tzW D L n) = some (some (vI (ctr (fun i => decide (0 ≤ D 83 i)) 6 0 0)), tzW D L n) := by
    rw [dn_X11_linesThere, b_X11_linesThere_0]
    exact p_rows d D L n _ (fun k hk => decide_eq_decide.mpr (by rcases hL.1 k hk with q | q <;> omega)) 6 0 0 (by omega)
  have pt : tqden tqP (d + 2) n_X11_linesThere [vR 4] (tzW D L n) = some (some (vI (ctr (fun i => decide (0 ≤ D 86 i)) 4 0 0)), tzW D L n) := by
    rw [dn_X11_linesThere, b_X11_linesThere_0]
    exact p_txts d D L n _ (fun k hk => decide_eq_decide.mpr (by rcases hL.2.2.1 k hk with q | q <;> omega)) 4 0 0 (by omega)
  rcases h with h | h | h | h | h | h | h | h
  · subst h
    rw [dn_X11_count, b_X11_count_0]
    unfold cv
    simp only [z_cd, i10, i11, dnn, rdU, eW, eU, tzC_w, w_shp, w_ptr, Nat.beq_refl, nbz, nb133, nb75, nb55, nb67, n133a, n133b, n75a, n75b, aT, aR, oT, oR, oF, oG, kT, kF, bI, bL, bR, b0, Classical.not_not, not_true_eq_false, not_false_eq_true, and_self, and_true, true_and, ↓reduceIte, decide_true, decide_false, Nat.reduceEqDiff, Nat.reduceLT, Nat.reduceLeDiff, Int.reduceEq, en, Int.reduceLT, Int.reduceLE, Int.reduceNeg]
  · subst h
    rw [dn_X11_count, b_X11_count_0]
    unfold cv
    simp only [z_cd, i10, i11, dnn, rdU, eW, eU, tzC_w, w_shp, w_ptr, Nat.beq_refl, nbz, nb133, nb75, nb55, nb67, n133a, n133b, n75a, n75b, aT, aR, oT, oR, oF, oG, kT, kF, bI, bL, bR, b0, Classical.not_not, not_true_eq_false, not_false_eq_true, and_self, and_true, true_and, ↓reduceIte, decide_true, decide_false, Nat.reduceEqDiff, Nat.reduceLT, Nat.reduceLeDiff, Int.reduceEq, c1, Int.reduceLT, Int.reduceLE, Int.reduceNeg]
  · subst h
    rw [dn_X11_count, b_X11_count_0]
    unfold cv
    simp only [z_cd, i10, i11, dnn, rdU, eW, eU, tzC_w, w_shp, w_ptr, Nat.beq_refl, nbz, nb133, nb75, nb55, nb67, n133a, n133b, n75a, n75b, aT, aR, oT, oR, oF, oG, kT, kF, bI, bL, bR, b0, Classical.not_not, not_true_eq_false, not_false_eq_true, and_self, and_true, true_and, ↓reduceIte, decide_true, decide_false, Nat.reduceEqDiff, Nat.reduceLT, Nat.reduceLeDiff, Int.reduceEq, pl, Int.reduceLT, Int.reduceLE, Int.reduceNeg]
  · subst h
    rw [dn_X11_count, b_X11_count_0]
    unfold cv
    simp only [z_cd, i10, i11, dnn, rdU, eW, eU, tzC_w, w_shp, w_ptr, Nat.beq_refl, nbz, nb133, nb75, nb55, nb67, n133a, n133b, n75a, n75b, aT, aR, oT, oR, oF, oG, kT, kF, bI, bL, bR, b0, Classical.not_not, not_true_eq_false, not_false_eq_true, and_self, and_true, true_and, ↓reduceIte, decide_true, decide_false, Nat.reduceEqDiff, Nat.reduceLT, Nat.reduceLeDiff, Int.reduceEq, ew, Int.reduceLT, Int.reduceLE, Int.reduceNeg]
  · subst h
    rw [dn_X11_count, b_X11_count_0]
    unfold cv
    simp only [z_cd, i10, i11, dnn, rdU, eW, eU, tzC_w, w_shp, w_ptr, Nat.beq_refl, nbz, nb133, nb75, nb55, nb67, n133a, n133b, n75a, n75b, aT, aR, oT, oR, oF, oG, kT, kF, bI, bL, bR, b0, Classical.not_not, not_true_eq_false, not_false_eq_true, and_self, and_true, true_and, ↓reduceIte, decide_true, decide_false, Nat.reduceEqDiff, Nat.reduceLT, Nat.reduceLeDiff, Int.reduceEq, em, Int.reduceLT, Int.reduceLE, Int.reduceNeg]
  · subst h
    rw [dn_X11_count, b_X11_count_0]
    unfold cv
    simp only [z_cd, i10, i11, dnn, rdU, eW, eU, tzC_w, w_shp, w_ptr, Nat.beq_refl, nbz, nb133, nb75, nb55, nb67, n133a, n133b, n75a, n75b, aT, aR, oT, oR, oF, oG, kT, kF, bI, bL, bR, b0, Classical.not_not, not_true_eq_false, not_false_eq_true, and_self, and_true, true_and, ↓reduceIte, decide_true, decide_false, Nat.reduceEqDiff, Nat.reduceLT, Nat.reduceLeDiff, Int.reduceEq, eb, Int.reduceLT, Int.reduceLE, Int.reduceNeg]
  · subst h
    rw [dn_X11_count, b_X11_count_0]
    unfold cv
    simp only [z_cd, i10, i11, dnn, rdU, eW, eU, tzC_w, w_shp, w_ptr, Nat.beq_refl, nbz, nb133, nb75, nb55, nb67, n133a, n133b, n75a, n75b, aT, aR, oT, oR, oF, oG, kT, kF, bI, bL, bR, b0, Classical.not_not, not_true_eq_false, not_false_eq_true, and_self, and_true, true_and, ↓reduceIte, decide_true, decide_false, Nat.reduceEqDiff, Nat.reduceLT, Nat.reduceLeDiff, Int.reduceEq, pr, Int.reduceLT, Int.reduceLE, Int.reduceNeg]
  · subst h
    rw [dn_X11_count, b_X11_count_0]
    unfold cv
    simp only [z_cd, i10, i11, dnn, rdU, eW, eU, tzC_w, w_shp, w_ptr, Nat.beq_refl, nbz, nb133, nb75, nb55, nb67, n133a, n133b, n75a, n75b, aT, aR, oT, oR, oF, oG, kT, kF, bI, bL, bR, b0, Classical.not_not, not_true_eq_false, not_false_eq_true, and_self, and_true, true_and, ↓reduceIte, decide_true, decide_false, Nat.reduceEqDiff, Nat.reduceLT, Nat.reduceLeDiff, Int.reduceEq, pt, Int.reduceLT, Int.reduceLE, Int.reduceNeg]
set_option maxRecDepth 100000 in
set_option maxHeartbeats 400000 in
theorem q_counts (d : Nat) (D : Nat → Int → Int) (L n : Nat) (c2 : D 81 16 = n) (c3 : n ≤ 12) (a : Int) (h : a = 0 ∨ a = 1 ∨ a = 2 ∨ a = 3 ∨ a = 4 ∨ a = 5 ∨ a = 6 ∨ a = 7) : tqden tqP (d + 1) n_X12_counts [vR 81, vI a] (tzW D L n) = some (some (vI (cv D n a)), tzW D L n) := by
  have i0 : in32 0 := ⟨by omega, by omega⟩
  rcases h with h | h | h | h | h | h | h | h
  · subst h
    rw [dn_X12_counts, b_X12_counts_0]
    unfold cv
    simp only [z_cd, i10, i11, dnn, rdU, eW, eU, tzC_w, w_shp, w_ptr, Nat.beq_refl, nbz, nb133, nb75, nb55, nb67, n133a, n133b, n75a, n75b, aT, aR, oT, oR, oF, oG, kT, kF, bI, bL, bR, b0, Classical.not_not, not_true_eq_false, not_false_eq_true, and_self, and_true, true_and, ↓reduceIte, decide_true, decide_false, Nat.reduceEqDiff, Nat.reduceLT, Nat.reduceLeDiff, Int.reduceEq, Int.reduceLT, Int.reduceLE, Int.reduceNeg]
  · subst h
    rw [dn_X12_counts, b_X12_counts_0]
    unfold cv
    simp only [z_cd, i10, i11, dnn, rdU, eW, eU, tzC_w, w_shp, w_ptr, Nat.beq_refl, nbz, nb133, nb75, nb55, nb67, n133a, n133b, n75a, n75b, aT, aR, oT, oR, oF, oG, kT, kF, bI, bL, bR, b0, Classical.not_not, not_true_eq_false, not_false_eq_true, and_self, and_true, true_and, ↓reduceIte, decide_true, decide_false, Nat.reduceEqDiff, Nat.reduceLT, Nat.reduceLeDiff, Int.reduceEq, c2, Int.reduceLT, Int.reduceLE, Int.reduceNeg]
  · subst h
    rw [dn_X12_counts, b_X12_counts_0]
    unfold cv
    simp only [z_cd, i10, i11, dnn, rdU, eW, eU, tzC_w, w_shp, w_ptr, Nat.beq_refl, nbz, nb133, nb75, nb55, nb67, n133a, n133b, n75a, n75b, aT, aR, oT, oR, oF, oG, kT, kF, bI, bL, bR, b0, Classical.not_not, not_true_eq_false, not_false_eq_true, and_self, and_true, true_and, ↓reduceIte, decide_true, decide_false, Nat.reduceEqDiff, Nat.reduceLT, Nat.reduceLeDiff, Int.reduceEq, Int.reduceLT, Int.reduceLE, Int.reduceNeg]
    exact q_lost d D L n _ c2 c3 (fun k hk => rfl) n 0 0 (by omega) i0
  · subst h
    rw [dn_X12_counts, b_X12_counts_0]
    unfold cv
    simp only [z_cd, i10, i11, dnn, rdU, eW, eU, tzC_w, w_shp, w_ptr, Nat.beq_refl, nbz, nb133, nb75, nb55, nb67, n133a, n133b, n75a, n75b, aT, aR, oT, oR, oF, oG, kT, kF, bI, bL, bR, b0, Classical.not_not, not_true_eq_false, not_false_eq_true, and_self, and_true, true_and, ↓reduceIte, decide_true, decide_false, Nat.reduceEqDiff, Nat.reduceLT, Nat.reduceLeDiff, Int.reduceEq, Int.reduceLT, Int.reduceLE, Int.reduceNeg]
    exact q_wcn d D L n 64 0 (by omega)
  · subst h
    rw [dn_X12_counts, b_X12_counts_0]
    unfold cv
    simp only [z_cd, i10, i11, dnn, rdU, eW, eU, tzC_w, w_shp, w_ptr, Nat.beq_refl, nbz, nb133, nb75, nb55, nb67, n133a, n133b, n75a, n75b, aT, aR, oT, oR, oF, oG, kT, kF, bI, bL, bR, b0, Classical.not_not, not_true_eq_false, not_false_eq_true, and_self, and_true, true_and, ↓reduceIte, decide_true, decide_false, Nat.reduceEqDiff, Nat.reduceLT, Nat.reduceLeDiff, Int.reduceEq, Int.reduceLT, Int.reduceLE, Int.reduceNeg]
  · subst h
    rw [dn_X12_counts, b_X12_counts_0]
    unfold cv
    simp only [z_cd, i10, i11, dnn, rdU, eW, eU, tzC_w, w_shp, w_ptr, Nat.beq_refl, nbz, nb133, nb75, nb55, nb67, n133a, n133b, n75a, n75b, aT, aR, oT, oR, oF, oG, kT, kF, bI, bL, bR, b0, Classical.not_not, not_true_eq_false, not_false_eq_true, and_self, and_true, true_and, ↓reduceIte, decide_true, decide_false, Nat.reduceEqDiff, Nat.reduceLT, Nat.reduceLeDiff, Int.reduceEq, Int.reduceLT, Int.reduceLE, Int.reduceNeg]
  · subst h
    rw [dn_X12_counts, b_X12_counts_0]
    unfold cv
    simp only [z_cd, i10, i11, dnn, rdU, eW, eU, tzC_w, w_shp, w_ptr, Nat.beq_refl, nbz, nb133, nb75, nb55, nb67, n133a, n133b, n75a, n75b, aT, aR, oT, oR, oF, oG, kT, kF, bI, bL, bR, b0, Classical.not_not, not_true_eq_false, not_false_eq_true, and_self, and_true, true_and, ↓reduceIte, decide_true, decide_false, Nat.reduceEqDiff, Nat.reduceLT, Nat.reduceLeDiff, Int.reduceEq, Int.reduceLT, Int.reduceLE, Int.reduceNeg]
    exact q_rows d D L n _ (fun k hk => rfl) 6 0 0 (by omega) i0
  · subst h
    rw [dn_X12_counts, b_X12_counts_0]
    unfold cv
    simp only [z_cd, i10, i11, dnn, rdU, eW, eU, tzC_w, w_shp, w_ptr, Nat.beq_refl, nbz, nb133, nb75, nb55, nb67, n133a, n133b, n75a, n75b, aT, aR, oT, oR, oF, oG, kT, kF, bI, bL, bR, b0, Classical.not_not, not_true_eq_false, not_false_eq_true, and_self, and_true, true_and, ↓reduceIte, decide_true, decide_false, Nat.reduceEqDiff, Nat.reduceLT, Nat.reduceLeDiff, Int.reduceEq, Int.reduceLT, Int.reduceLE, Int.reduceNeg]
    exact q_txts d D L n _ (fun k hk => rfl) 4 0 0 (by omega) i0
set_option maxRecDepth 100000 in
set_option maxHeartbeats 400000 in
theorem ag_count {L : Nat} (a0 : Int) : AgI Rel L n_X11_count n_X12_count [vI a0] := by
  intro D n hR
  by_cases h : a0 = 0 ∨ a0 = 1 ∨ a0 = 2 ∨ a0 = 3 ∨ a0 = 4 ∨ a0 = 5 ∨ a0 = 6 ∨ a0 = 7
  · have q : 0 ≤ a0 ∧ a0 ≤ 7 := by omega
    refine ⟨cv D n a0, D, n, D, ?_, ?_, rfl, rfl, hR⟩
    · exact p_count 1396 D L n hR a0 h
    · rw [dn_X12_count, b_X12_count_0]
      simp only [z_cd, i10, i11, dnn, rdU, eW, eU, tzC_w, w_shp, w_ptr, Nat.beq_refl, nbz, nb133, nb75, nb55, nb67, n133a, n133b, n75a, n75b, aT, aR, oT, oR, oF, oG, kT, kF, bI, bL, bR, b0, Classical.not_not, not_true_eq_false, not_false_eq_true, and_self, and_true, true_and, ↓reduceIte, decide_true, decide_false, Nat.reduceEqDiff, Nat.reduceLT, Nat.reduceLeDiff, Int.reduceEq, p_in, q, q_counts _ D L n hR.2.2.2.2.1.2.1 hR.2.2.2.2.1.2.2 a0 h]
  · have q : ¬ (0 ≤ a0 ∧ a0 ≤ 7) := by omega
    have q0 : ¬ a0 = 0 := by omega
    have q1 : ¬ a0 = 1 := by omega
    have q2 : ¬ a0 = 2 := by omega
    have q3 : ¬ a0 = 3 := by omega
    have q4 : ¬ a0 = 4 := by omega
    have q5 : ¬ a0 = 5 := by omega
    have q6 : ¬ a0 = 6 := by omega
    have q7 : ¬ a0 = 7 := by omega
    · refine ⟨-1, D, n, D, ?_, ?_, rfl, rfl, hR⟩
      · rw [dn_X11_count, b_X11_count_0]
        simp only [z_cd, i10, i11, dnn, rdU, eW, eU, tzC_w, w_shp, w_ptr, Nat.beq_refl, nbz, nb133, nb75, nb55, nb67, n133a, n133b, n75a, n75b, aT, aR, oT, oR, oF, oG, kT, kF, bI, bL, bR, b0, Classical.not_not, not_true_eq_false, not_false_eq_true, and_self, and_true, true_and, ↓reduceIte, decide_true, decide_false, Nat.reduceEqDiff, Nat.reduceLT, Nat.reduceLeDiff, Int.reduceEq, q0, q1, q2, q3, q4, q5, q6, q7]
      · rw [dn_X12_count, b_X12_count_0]
        simp only [z_cd, i10, i11, dnn, rdU, eW, eU, tzC_w, w_shp, w_ptr, Nat.beq_refl, nbz, nb133, nb75, nb55, nb67, n133a, n133b, n75a, n75b, aT, aR, oT, oR, oF, oG, kT, kF, bI, bL, bR, b0, Classical.not_not, not_true_eq_false, not_false_eq_true, and_self, and_true, true_and, ↓reduceIte, decide_true, decide_false, Nat.reduceEqDiff, Nat.reduceLT, Nat.reduceLeDiff, Int.reduceEq, p_in, q]
