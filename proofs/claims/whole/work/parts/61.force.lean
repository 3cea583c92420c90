set_option maxRecDepth 100000 in
set_option maxHeartbeats 400000 in
theorem p_inForce (d : Nat) (D : Nat → Int → Int) (L n : Nat) (th day kn : Int) {N : Nat} (h : ME D N) (ht : 0 ≤ th ∧ th < 18) : tqden tqP (d + 2) n_X7_inForce [vR 18, vI th, vI day, vI kn] (tzW D L n) = some (some (vI (foV D th (fo D th day kn N (-9) 0))), tzW D L n) := by
  have q1 : ¬ th < 0 := by omega
  rw [dn_X7_inForce, b_X7_inForce_0]
  simp only [z_cd, i10, i11, dnn, rdU, eW, eU, tzC_w, w_shp, w_ptr, Nat.beq_refl, nbz, nb133, nb75, nb55, nb67, n133a, n133b, n75a, n75b, aT, aR, oT, oR, oF, oG, kT, kF, bI, bL, bR, b0, Classical.not_not, not_true_eq_false, not_false_eq_true, and_self, and_true, true_and, ↓reduceIte, decide_true, decide_false, Nat.reduceEqDiff, Nat.reduceLT, Nat.reduceLeDiff, Int.reduceEq, q1, ht.2]
  exact p_iF d D L n th day kn h ht N (-9) (-1) 0 (by omega) (by omega) (Or.inl ⟨rfl, rfl⟩)
set_option maxRecDepth 100000 in
set_option maxHeartbeats 400000 in
theorem q_inForce (d : Nat) (D : Nat → Int → Int) (L n : Nat) (w y th day kn : Int) {N : Nat} (h : ME D N) (hw : (w = 0 ∧ th = y ∧ 0 ≤ y ∧ y ≤ 7) ∨ (w = 1 ∧ th = 8 + y ∧ 0 ≤ y ∧ y ≤ 7) ∨ (w = 2 ∧ th = 16) ∨ (w = 3 ∧ th = 17)) : tqden tqP (d + 1) n_X12_inForce [vR 81, vI w, vI y, vI day, vI kn] (tzW D L n) = some (some (vI (foV D th (fo D th day kn N (-9) 0))), tzW D L n) := by
  have e := q_iF d D L n w th day kn h.2.1 h.2.2.2.1 (by omega) (by omega) N (-9) 0 (by omega) (by omega) (Or.inl rfl)
  rw [dn_X12_inForce, b_X12_inForce_0]
  rcases hw with q | q | q | q
  · obtain ⟨q1, q2, q3, q4⟩ := q
    subst q1 q2
    simp only [z_cd, i10, i11, dnn, rdU, eW, eU, tzC_w, w_shp, w_ptr, Nat.beq_refl, nbz, nb133, nb75, nb55, nb67, n133a, n133b, n75a, n75b, aT, aR, oT, oR, oF, oG, kT, kF, bI, bL, bR, b0, Classical.not_not, not_true_eq_false, not_false_eq_true, and_self, and_true, true_and, ↓reduceIte, decide_true, decide_false, Nat.reduceEqDiff, Nat.reduceLT, Nat.reduceLeDiff, Int.reduceEq, e]
  · obtain ⟨q1, q2, q3, q4⟩ := q
    have g1 : -2147483648 ≤ 8 + y := by omega
    have g2 : 8 + y ≤ 2147483647 := by omega
    subst q1 q2
    have w1 := w32_i g1 g2
    simp only [z_cd, i10, i11, dnn, rdU, eW, eU, tzC_w, w_shp, w_ptr, Nat.beq_refl, nbz, nb133, nb75, nb55, nb67, n133a, n133b, n75a, n75b, aT, aR, oT, oR, oF, oG, kT, kF, bI, bL, bR, b0, Classical.not_not, not_true_eq_false, not_false_eq_true, and_self, and_true, true_and, ↓reduceIte, decide_true, decide_false, Nat.reduceEqDiff, Nat.reduceLT, Nat.reduceLeDiff, Int.reduceEq, w1, e]
  · obtain ⟨q1, q2⟩ := q
    subst q1 q2
    have w1 : w32 (14 + 2) = 16 := w32_id (x := 16) ⟨by omega, by omega⟩
    simp only [z_cd, i10, i11, dnn, rdU, eW, eU, tzC_w, w_shp, w_ptr, Nat.beq_refl, nbz, nb133, nb75, nb55, nb67, n133a, n133b, n75a, n75b, aT, aR, oT, oR, oF, oG, kT, kF, bI, bL, bR, b0, Classical.not_not, not_true_eq_false, not_false_eq_true, and_self, and_true, true_and, ↓reduceIte, decide_true, decide_false, Nat.reduceEqDiff, Nat.reduceLT, Nat.reduceLeDiff, Int.reduceEq, w1, e]
  · obtain ⟨q1, q2⟩ := q
    subst q1 q2
    have w1 : w32 (14 + 3) = 17 := w32_id (x := 17) ⟨by omega, by omega⟩
    simp only [z_cd, i10, i11, dnn, rdU, eW, eU, tzC_w, w_shp, w_ptr, Nat.beq_refl, nbz, nb133, nb75, nb55, nb67, n133a, n133b, n75a, n75b, aT, aR, oT, oR, oF, oG, kT, kF, bI, bL, bR, b0, Classical.not_not, not_true_eq_false, not_false_eq_true, and_self, and_true, true_and, ↓reduceIte, decide_true, decide_false, Nat.reduceEqDiff, Nat.reduceLT, Nat.reduceLeDiff, Int.reduceEq, w1, e]
set_option maxRecDepth 100000 in
set_option maxHeartbeats 400000 in
theorem ag_force {L : Nat} (a0 a1 a2 a3 : Int) : AgI Rel L n_X11_force n_X12_force [vI a0, vI a1, vI a2, vI a3] := by
  intro D n hR
  obtain ⟨hA, hL, hW, hN, ⟨c1, c2, c3⟩, hT, hD, hK, hB, hQ, hX, hM, hP, hS⟩ := id hR
  have me := ME_of hM
  obtain ⟨N, hNN⟩ : ∃ N : Nat, D 81 40 = N := ⟨(D 81 40).toNat, by have := hM.2.1; omega⟩
  rw [hNN] at me
  by_cases c0 : 0 ≤ a0 ∧ a0 ≤ 3
  · have k : a0 = 0 ∨ a0 = 1 ∨ a0 = 2 ∨ a0 = 3 := by omega
    rcases k with k | k | k | k
    · subst k
      by_cases cy : 0 ≤ a1 ∧ a1 ≤ 7
      · by_cases cd : 0 ≤ a2 ∧ a2 ≤ 69
        · by_cases ck : 0 ≤ a3 ∧ a3 ≤ 69
          · have pf := p_inForce 1396 D L n (a1) a2 a3 me (by omega)
            have qf := q_inForce 1397 D L n 0 a1 (a1) a2 a3 me (by omega)
            have w1 : w32 (0 + a1) = a1 := (w32_id (x := 0 + a1) ⟨by omega, by omega⟩).trans (by omega)
            · refine ⟨foV D (a1) (fo D (a1) a2 a3 N (-9) 0), D, n, D, ?_, ?_, rfl, rfl, hR⟩
              · rw [dn_X11_force, b_X11_force_0]
                simp only [z_cd, i10, i11, dnn, rdU, eW, eU, tzC_w, w_shp, w_ptr, Nat.beq_refl, nbz, nb133, nb75, nb55, nb67, n133a, n133b, n75a, n75b, aT, aR, oT, oR, oF, oG, kT, kF, bI, bL, bR, b0, Classical.not_not, not_true_eq_false, not_false_eq_true, and_self, and_true, true_and, ↓reduceIte, decide_true, decide_false, Nat.reduceEqDiff, Nat.reduceLT, Nat.reduceLeDiff, Int.reduceEq, p_isWithin, p_isYard, Int.reduceLT, Int.reduceLE, Int.reduceNeg, cy, cd, ck, w1, pf]
              · rw [dn_X12_force, b_X12_force_0]
                simp only [z_cd, i10, i11, dnn, rdU, eW, eU, tzC_w, w_shp, w_ptr, Nat.beq_refl, nbz, nb133, nb75, nb55, nb67, n133a, n133b, n75a, n75b, aT, aR, oT, oR, oF, oG, kT, kF, bI, bL, bR, b0, Classical.not_not, not_true_eq_false, not_false_eq_true, and_self, and_true, true_and, ↓reduceIte, decide_true, decide_false, Nat.reduceEqDiff, Nat.reduceLT, Nat.reduceLeDiff, Int.reduceEq, p_in, q_isDay, q_isYard, Int.reduceLT, Int.reduceLE, Int.reduceNeg, cy, cd, ck, qf]
          · refine ⟨-1, D, n, D, ?_, ?_, rfl, rfl, hR⟩
            · rw [dn_X11_force, b_X11_force_0]
              simp only [z_cd, i10, i11, dnn, rdU, eW, eU, tzC_w, w_shp, w_ptr, Nat.beq_refl, nbz, nb133, nb75, nb55, nb67, n133a, n133b, n75a, n75b, aT, aR, oT, oR, oF, oG, kT, kF, bI, bL, bR, b0, Classical.not_not, not_true_eq_false, not_false_eq_true, and_self, and_true, true_and, ↓reduceIte, decide_true, decide_false, Nat.reduceEqDiff, Nat.reduceLT, Nat.reduceLeDiff, Int.reduceEq, p_isWithin, p_isYard, Int.reduceLT, Int.reduceLE, Int.reduceNeg, cy, cd, ck]
            · rw [dn_X12_force, b_X12_force_0]
              simp only [z_cd, i10, i11, dnn, rdU, eW, eU, tzC_w, w_shp, w_ptr, Nat.beq_refl, nbz, nb133, nb75, nb55, nb67, n133a, n133b, n75a, n75b, aT, aR, oT, oR, oF, oG, kT, kF, bI, bL, bR, b0, Classical.not_not, not_true_eq_false, not_false_eq_true, and_self, and_true, true_and, ↓reduceIte, decide_true, decide_false, Nat.reduceEqDiff, Nat.reduceLT, Nat.reduceLeDiff, Int.reduceEq, p_in, q_isDay, q_isYard, Int.reduceLT, Int.reduceLE, Int.reduceNeg, cy, cd, ck]
        · refine ⟨-1, D, n, D, ?_, ?_, rfl, rfl, hR⟩
          · rw [dn_X11_force, b_X11_force_0]
            simp only [z_cd, i10, i11, dnn, rdU, eW, eU, tzC_w, w_shp, w_ptr, Nat.beq_refl, nbz, nb133, nb75, nb55, nb67, n133a, n133b, n75a, n75b, aT, aR, oT, oR, oF, oG, kT, kF, bI, bL, bR, b0, Classical.not_not, not_true_eq_false, not_false_eq_true, and_self, and_true, true_and, ↓reduceIte, decide_true, decide_false, Nat.reduceEqDiff, Nat.reduceLT, Nat.reduceLeDiff, Int.reduceEq, p_isWithin, p_isYard, Int.reduceLT, Int.reduceLE, Int.reduceNeg, cy, cd]
          · rw [dn_X12_force, b_X12_force_0]
            simp only [z_cd, i10, i11, dnn, rdU, eW, eU, tzC_w, w_shp, w_ptr, Nat.beq_refl, nbz, nb133, nb75, nb55, nb67, n133a, n133b, n75a, n75b, aT, aR, oT, oR, oF, oG, kT, kF, bI, bL, bR, b0, Classical.not_not, not_true_eq_false, not_false_eq_true, and_self, and_true, true_and, ↓reduceIte, decide_true, decide_false, Nat.reduceEqDiff, Nat.reduceLT, Nat.reduceLeDiff, Int.reduceEq, p_in, q_isDay, q_isYard, Int.reduceLT, Int.reduceLE, Int.reduceNeg, cy, cd]
      · by_cases cd : 0 ≤ a2 ∧ a2 ≤ 69
        · by_cases ck : 0 ≤ a3 ∧ a3 ≤ 69
          · refine ⟨-1, D, n, D, ?_, ?_, rfl, rfl, hR⟩
            · rw [dn_X11_force, b_X11_force_0]
              simp only [z_cd, i10, i11, dnn, rdU, eW, eU, tzC_w, w_shp, w_ptr, Nat.beq_refl, nbz, nb133, nb75, nb55, nb67, n133a, n133b, n75a, n75b, aT, aR, oT, oR, oF, oG, kT, kF, bI, bL, bR, b0, Classical.not_not, not_true_eq_false, not_false_eq_true, and_self, and_true, true_and, ↓reduceIte, decide_true, decide_false, Nat.reduceEqDiff, Nat.reduceLT, Nat.reduceLeDiff, Int.reduceEq, p_isWithin, p_isYard, Int.reduceLT, Int.reduceLE, Int.reduceNeg, cy, cd, ck]
            · rw [dn_X12_force, b_X12_force_0]
              simp only [z_cd, i10, i11, dnn, rdU, eW, eU, tzC_w, w_shp, w_ptr, Nat.beq_refl, nbz, nb133, nb75, nb55, nb67, n133a, n133b, n75a, n75b, aT, aR, oT, oR, oF, oG, kT, kF, bI, bL, bR, b0, Classical.not_not, not_true_eq_false, not_false_eq_true, and_self, and_true, true_and, ↓reduceIte, decide_true, decide_false, Nat.reduceEqDiff, Nat.reduceLT, Nat.reduceLeDiff, Int.reduceEq, p_in, q_isDay, q_isYard, Int.reduceLT, Int.reduceLE, Int.reduceNeg, cy, cd, ck]
          · refine ⟨-1, D, n, D, ?_, ?_, rfl, rfl, hR⟩
            · rw [dn_X11_force, b_X11_force_0]
              simp only [z_cd, i10, i11, dnn, rdU, eW, eU, tzC_w, w_shp, w_ptr, Nat.beq_refl, nbz, nb133, nb75, nb55, nb67, n133a, n133b, n75a, n75b, aT, aR, oT, oR, oF, oG, kT, kF, bI, bL, bR, b0, Classical.not_not, not_true_eq_false, not_false_eq_true, and_self, and_true, true_and, ↓reduceIte, decide_true, decide_false, Nat.reduceEqDiff, Nat.reduceLT, Nat.reduceLeDiff, Int.reduceEq, p_isWithin, p_isYard, Int.reduceLT, Int.reduceLE, Int.reduceNeg, cy, cd, ck]
            · rw [dn_X12_force, b_X12_force_0]
              simp only [z_cd, i10, i11, dnn, rdU, eW, eU, tzC_w, w_shp, w_ptr, Nat.beq_refl, nbz, nb133, nb75, nb55, nb67, n133a, n133b, n75a, n75b, aT, aR, oT, oR, oF, oG, kT, kF, bI, bL, bR, b0, Classical.not_not, not_true_eq_false, not_false_eq_true, and_self, and_true, true_and, ↓reduceIte, decide_true, decide_false, Nat.reduceEqDiff, Nat.reduceLT, Nat.reduceLeDiff, Int.reduceEq, p_in, q_isDay, q_isYard, Int.reduceLT, Int.reduceLE, Int.reduceNeg, cy, cd, ck]
        · refine ⟨-1, D, n, D, ?_, ?_, rfl, rfl, hR⟩
          · rw [dn_X11_force, b_X11_force_0]
            simp only [z_cd, i10, i11, dnn, rdU, eW, eU, tzC_w, w_shp, w_ptr, Nat.beq_refl, nbz, nb133, nb75, nb55, nb67, n133a, n133b, n75a, n75b, aT, aR, oT, oR, oF, oG, kT, kF, bI, bL, bR, b0, Classical.not_not, not_true_eq_false, not_false_eq_true, and_self, and_true, true_and, ↓reduceIte, decide_true, decide_false, Nat.reduceEqDiff, Nat.reduceLT, Nat.reduceLeDiff, Int.reduceEq, p_isWithin, p_isYard, Int.reduceLT, Int.reduceLE, Int.reduceNeg, cy, cd]
          · rw [dn_X12_force, b_X12_force_0]
            simp only [z_cd, i10, i11, dnn, rdU, eW, eU, tzC_w, w_shp, w_ptr, Nat.beq_refl, nbz, nb133, nb75, nb55, nb67, n133a, n133b, n75a, n75b, aT, aR, oT, oR, oF, oG, kT, kF, bI, bL, bR, b0, Classical.not_not, not_true_eq_false, not_false_eq_true, and_self, and_true, true_and, ↓reduceIte, decide_true, decide_false, Nat.reduceEqDiff, Nat.reduceLT, Nat.reduceLeDiff, Int.reduceEq, p_in, q_isDay, q_isYard, Int.reduceLT, Int.reduceLE, Int.reduceNeg, cy, cd]
    · subst k
      by_cases cy : 0 ≤ a1 ∧ a1 ≤ 7
      · by_cases cd : 0 ≤ a2 ∧ a2 ≤ 69
        · by_cases ck : 0 ≤ a3 ∧ a3 ≤ 69
          · have pf := p_inForce 1396 D L n (8 + a1) a2 a3 me (by omega)
            have qf := q_inForce 1397 D L n 1 a1 (8 + a1) a2 a3 me (by omega)
            have w1 : w32 (8 + a1) = 8 + a1 := w32_id ⟨by omega, by omega⟩
            · refine ⟨foV D (8 + a1) (fo D (8 + a1) a2 a3 N (-9) 0), D, n, D, ?_, ?_, rfl, rfl, hR⟩
              · rw [dn_X11_force, b_X11_force_0]
                simp only [z_cd, i10, i11, dnn, rdU, eW, eU, tzC_w, w_shp, w_ptr, Nat.beq_refl, nbz, nb133, nb75, nb55, nb67, n133a, n133b, n75a, n75b, aT, aR, oT, oR, oF, oG, kT, kF, bI, bL, bR, b0, Classical.not_not, not_true_eq_false, not_false_eq_true, and_self, and_true, true_and, ↓reduceIte, decide_true, decide_false, Nat.reduceEqDiff, Nat.reduceLT, Nat.reduceLeDiff, Int.reduceEq, p_isWithin, p_isYard, Int.reduceLT, Int.reduceLE, Int.reduceNeg, cy, cd, ck, w1, pf]
              · rw [dn_X12_force, b_X12_force_0]
                simp only [z_cd, i10, i11, dnn, rdU, eW, eU, tzC_w, w_shp, w_ptr, Nat.beq_refl, nbz, nb133, nb75, nb55, nb67, n133a, n133b, n75a, n75b, aT, aR, oT, oR, oF, oG, kT, kF, bI, bL, bR, b0, Classical.not_not, not_true_eq_false, not_false_eq_true, and_self, and_true, true_and, ↓reduceIte, decide_true, decide_false, Nat.reduceEqDiff, Nat.reduceLT, Nat.reduceLeDiff, Int.reduceEq, p_in, q_isDay, q_isYard, Int.reduceLT, Int.reduceLE, Int.reduceNeg, cy, cd, ck, qf]
          · refine ⟨-1, D, n, D, ?_, ?_, rfl, rfl, hR⟩
            · rw [dn_X11_force, b_X11_force_0]
              simp only [z_cd, i10, i11, dnn, rdU, eW, eU, tzC_w, w_shp, w_ptr, Nat.beq_refl, nbz, nb133, nb75, nb55, nb67, n133a, n133b, n75a, n75b, aT, aR, oT, oR, oF, oG, kT, kF, bI, bL, bR, b0, Classical.not_not, not_true_eq_false, not_false_eq_true, and_self, and_true, true_and, ↓reduceIte, decide_true, decide_false, Nat.reduceEqDiff, Nat.reduceLT, Nat.reduceLeDiff, Int.reduceEq, p_isWithin, p_isYard, Int.reduceLT, Int.reduceLE, Int.reduceNeg, cy, cd, ck]
            · rw [dn_X12_force, b_X12_force_0]
              simp only [z_cd, i10, i11, dnn, rdU, eW, eU, tzC_w, w_shp, w_ptr, Nat.beq_refl, nbz, nb133, nb75, nb55, nb67, n133a, n133b, n75a, n75b, aT, aR, oT, oR, oF, oG, kT, kF, bI, bL, bR, b0, Classical.not_not, not_true_eq_false, not_false_eq_true, and_self, and_true, true_and, ↓reduceIte, decide_true, decide_false, Nat.reduceEqDiff, Nat.reduceLT, Nat.reduceLeDiff, Int.reduceEq, p_in, q_isDay, q_isYard, Int.reduceLT, Int.reduceLE, Int.reduceNeg, cy, cd, ck]
        · refine ⟨-1, D, n, D, ?_, ?_, rfl, rfl, hR⟩
          · rw [dn_X11_force, b_X11_force_0]
            simp only [z_cd, i10, i11, dnn, rdU, eW, eU, tzC_w, w_shp, w_ptr, Nat.beq_refl, nbz, nb133, nb75, nb55, nb67, n133a, n133b, n75a, n75b, aT, aR, oT, oR, oF, oG, kT, kF, bI, bL, bR, b0, Classical.not_not, not_true_eq_false, not_false_eq_true, and_self, and_true, true_and, ↓reduceIte, decide_true, decide_false, Nat.reduceEqDiff, Nat.reduceLT, Nat.reduceLeDiff, Int.reduceEq, p_isWithin, p_isYard, Int.reduceLT, Int.reduceLE, Int.reduceNeg, cy, cd]
          · rw [dn_X12_force, b_X12_force_0]
            simp only [z_cd, i10, i11, dnn, rdU, eW, eU, tzC_w, w_shp, w_ptr, Nat.beq_refl, nbz, nb133, nb75, nb55, nb67, n133a, n133b, n75a, n75b, aT, aR, oT, oR, oF, oG, kT, kF, bI, bL, bR, b0, Classical.not_not, not_true_eq_false, not_false_eq_true, and_self, and_true, true_and, ↓reduceIte, decide_true, decide_false, Nat.reduceEqDiff, Nat.reduceLT, Nat.reduceLeDiff, Int.reduceEq, p_in, q_isDay, q_isYard, Int.reduceLT, Int.reduceLE, Int.reduceNeg, cy, cd]
      · by_cases cd : 0 ≤ a2 ∧ a2 ≤ 69
        · by_cases ck : 0 ≤ a3 ∧ a3 ≤ 69
          · refine ⟨-1, D, n, D, ?_, ?_, rfl, rfl, hR⟩
            · rw [dn_X11_force, b_X11_force_0]
              simp only [z_cd, i10, i11, dnn, rdU, eW, eU, tzC_w, w_shp, w_ptr, Nat.beq_refl, nbz, nb133, nb75, nb55, nb67, n133a, n133b, n75a, n75b, aT, aR, oT, oR, oF, oG, kT, kF, bI, bL, bR, b0, Classical.not_not, not_true_eq_false, not_false_eq_true, and_self, and_true, true_and, ↓reduceIte, decide_true, decide_false, Nat.reduceEqDiff, Nat.reduceLT, Nat.reduceLeDiff, Int.reduceEq, p_isWithin, p_isYard, Int.reduceLT, Int.reduceLE, Int.reduceNeg, cy, cd, ck]
            · rw [dn_X12_force, b_X12_force_0]
              simp only [z_cd, i10, i11, dnn, rdU, eW, eU, tzC_w, w_shp, w_ptr, Nat.beq_refl, nbz, nb133, nb75, nb55, nb67, n133a, n133b, n75a, n75b, aT, aR, oT, oR, oF, oG, kT, kF, bI, bL, bR, b0, Classical.not_not, not_true_eq_false, not_false_eq_true, and_self, and_true, true_and, ↓reduceIte, decide_true, decide_false, Nat.reduceEqDiff, Nat.reduceLT, Nat.reduceLeDiff, Int.reduceEq, p_in, q_isDay, q_isYard, Int.reduceLT, Int.reduceLE, Int.reduceNeg, cy, cd, ck]
          · refine ⟨-1, D, n, D, ?_, ?_, rfl, rfl, hR⟩
            · rw [dn_X11_force, b_X11_force_0]
              simp only [z_cd, i10, i11, dnn, rdU, eW, eU, tzC_w, w_shp, w_ptr, Nat.beq_refl, nbz, nb133, nb75, nb55, nb67, n133a, n133b, n75a, n75b, aT, aR, oT, oR, oF, oG, kT, kF, bI, bL, bR, b0, Classical.not_not, not_true_eq_false, not_false_eq_true, and_self, and_true, true_and, ↓reduceIte, decide_true, decide_false, Nat.reduceEqDiff, Nat.reduceLT, Nat.reduceLeDiff, Int.reduceEq, p_isWithin, p_isYard, Int.reduceLT, Int.reduceLE, Int.reduceNeg, cy, cd, ck]
            · rw [dn_X12_force, b_X12_force_0]
              simp only [z_cd, i10, i11, dnn, rdU, eW, eU, tzC_w, w_shp, w_ptr, Nat.beq_refl, nbz, nb133, nb75, nb55, nb67, n133a, n133b, n75a, n75b, aT, aR, oT, oR, oF, oG, kT, kF, bI, bL, bR, b0, Classical.not_not, not_true_eq_false, not_false_eq_true, and_self, and_true, true_and, ↓reduceIte, decide_true, decide_false, Nat.reduceEqDiff, Nat.reduceLT, Nat.reduceLeDiff, Int.reduceEq, p_in, q_isDay, q_isYard, Int.reduceLT, Int.reduceLE, Int.reduceNeg, cy, cd, ck]
        · refine ⟨-1, D, n, D, ?_, ?_, rfl, rfl, hR⟩
          · rw [dn_X11_force, b_X11_force_0]
            simp only [z_cd, i10, i11, dnn, rdU, eW, eU, tzC_w, w_shp, w_ptr, Nat.beq_refl, nbz, nb133, nb75, nb55, nb67, n133a, n133b, n75a, n75b, aT, aR, oT, oR, oF, oG, kT, kF, bI, bL, bR, b0, Classical.not_not, not_true_eq_false, not_false_eq_true, and_self, and_true, true_and, ↓reduceIte, decide_true, decide_false, Nat.reduceEqDiff, Nat.reduceLT, Nat.reduceLeDiff, Int.reduceEq, p_isWithin, p_isYard, Int.reduceLT, Int.reduceLE, Int.reduceNeg, cy, cd]
          · rw [dn_X12_force, b_X12_force_0]
            simp only [z_cd, i10, i11, dnn, rdU, eW, eU, tzC_w, w_shp, w_ptr, Nat.beq_refl, nbz, nb133, nb75, nb55, nb67, n133a, n133b, n75a, n75b, aT, aR, oT, oR, oF, oG, kT, kF, bI, bL, bR, b0, Classical.not_not, not_true_eq_false, not_false_eq_true, and_self, and_true, true_and, ↓reduceIte, decide_true, decide_false, Nat.reduceEqDiff, Nat.reduceLT, Nat.reduceLeDiff, Int.reduceEq, p_in, q_isDay, q_isYard, Int.reduceLT, Int.reduceLE, Int.reduceNeg, cy, cd]
    · subst k
      by_cases cd : 0 ≤ a2 ∧ a2 ≤ 69
      · by_cases ck : 0 ≤ a3 ∧ a3 ≤ 69
        · refine ⟨foV D (16) (fo D (16) a2 a3 N (-9) 0), D, n, D, ?_, ?_, rfl, rfl, hR⟩
          · rw [dn_X11_force, b_X11_force_0]
            simp only [z_cd, i10, i11, dnn, rdU, eW, eU, tzC_w, w_shp, w_ptr, Nat.beq_refl, nbz, nb133, nb75, nb55, nb67, n133a, n133b, n75a, n75b, aT, aR, oT, oR, oF, oG, kT, kF, bI, bL, bR, b0, Classical.not_not, not_true_eq_false, not_false_eq_true, and_self, and_true, true_and, ↓reduceIte, decide_true, decide_false, Nat.reduceEqDiff, Nat.reduceLT, Nat.reduceLeDiff, Int.reduceEq, p_isWithin, p_isYard, Int.reduceLT, Int.reduceLE, Int.reduceNeg, cd, ck, p_inForce _ D L n 16 a2 a3 me (by omega)]
          · rw [dn_X12_force, b_X12_force_0]
            simp only [z_cd, i10, i11, dnn, rdU, eW, eU, tzC_w, w_shp, w_ptr, Nat.beq_refl, nbz, nb133, nb75, nb55, nb67, n133a, n133b, n75a, n75b, aT, aR, oT, oR, oF, oG, kT, kF, bI, bL, bR, b0, Classical.not_not, not_true_eq_false, not_false_eq_true, and_self, and_true, true_and, ↓reduceIte, decide_true, decide_false, Nat.reduceEqDiff, Nat.reduceLT, Nat.reduceLeDiff, Int.reduceEq, p_in, q_isDay, q_isYard, Int.reduceLT, Int.reduceLE, Int.reduceNeg, cd, ck, q_inForce _ D L n 2 a1 16 a2 a3 me (by omega)]
        · refine ⟨-1, D, n, D, ?_, ?_, rfl, rfl, hR⟩
          · rw [dn_X11_force, b_X11_force_0]
            simp only [z_cd, i10, i11, dnn, rdU, eW, eU, tzC_w, w_shp, w_ptr, Nat.beq_refl, nbz, nb133, nb75, nb55, nb67, n133a, n133b, n75a, n75b, aT, aR, oT, oR, oF, oG, kT, kF, bI, bL, bR, b0, Classical.not_not, not_true_eq_false, not_false_eq_true, and_self, and_true, true_and, ↓reduceIte, decide_true, decide_false, Nat.reduceEqDiff, Nat.reduceLT, Nat.reduceLeDiff, Int.reduceEq, p_isWithin, p_isYard, Int.reduceLT, Int.reduceLE, Int.reduceNeg, cd, ck]
          · rw [dn_X12_force, b_X12_force_0]
            simp only [z_cd, i10, i11, dnn, rdU, eW, eU, tzC_w, w_shp, w_ptr, Nat.beq_refl, nbz, nb133, nb75, nb55, nb67, n133a, n133b, n75a, n75b, aT, aR, oT, oR, oF, oG, kT, kF, bI, bL, bR, b0, Classical.not_not, not_true_eq_false, not_false_eq_true, and_self, and_true, true_and, ↓reduceIte, decide_true, decide_false, Nat.reduceEqDiff, Nat.reduceLT, Nat.reduceLeDiff, Int.reduceEq, p_in, q_isDay, q_isYard, Int.reduceLT, Int.reduceLE, Int.reduceNeg, cd, ck]
      · refine ⟨-1, D, n, D, ?_, ?_, rfl, rfl, hR⟩
        · rw [dn_X11_force, b_X11_force_0]
          simp only [z_cd, i10, i11, dnn, rdU, eW, eU, tzC_w, w_shp, w_ptr, Nat.beq_refl, nbz, nb133, nb75, nb55, nb67, n133a, n133b, n75a, n75b, aT, aR, oT, oR, oF, oG, kT, kF, bI, bL, bR, b0, Classical.not_not, not_true_eq_false, not_false_eq_true, and_self, and_true, true_and, ↓reduceIte, decide_true, decide_false, Nat.reduceEqDiff, Nat.reduceLT, Nat.reduceLeDiff, Int.reduceEq, p_isWithin, p_isYard, Int.reduceLT, Int.reduceLE, Int.reduceNeg, cd]
        · rw [dn_X12_force, b_X12_force_0]
          simp only [z_cd, i10, i11, dnn, rdU, eW, eU, tzC_w, w_shp, w_ptr, Nat.beq_refl, nbz, nb133, nb75, nb55, nb67, n133a, n133b, n75a, n75b, aT, aR, oT, oR, oF, oG, kT, kF, bI, bL, bR, b0, Classical.not_not, not_true_eq_false, not_false_eq_true, and_self, and_true, true_and, ↓reduceIte, decide_true, decide_false, Nat.reduceEqDiff, Nat.reduceLT, Nat.reduceLeDiff, Int.reduceEq, p_in, q_isDay, q_isYard, Int.reduceLT, Int.reduceLE, Int.reduceNeg, cd]
    · subst k
      by_cases cd : 0 ≤ a2 ∧ a2 ≤ 69
      · by_cases ck : 0 ≤ a3 ∧ a3 ≤ 69
        · refine ⟨foV D (17) (fo D (17) a2 a3 N (-9) 0), D, n, D, ?_, ?_, rfl, rfl, hR⟩
          · rw [dn_X11_force, b_X11_force_0]
            simp only [z_cd, i10, i11, dnn, rdU, eW, eU, tzC_w, w_shp, w_ptr, Nat.beq_refl, nbz, nb133, nb75, nb55, nb67, n133a, n133b, n75a, n75b, aT, aR, oT, oR, oF, oG, kT, kF, bI, bL, bR, b0, Classical.not_not, not_true_eq_false, not_false_eq_true, and_self, and_true, true_and, ↓reduceIte, decide_true, decide_false, Nat.reduceEqDiff, Nat.reduceLT, Nat.reduceLeDiff, Int.reduceEq, p_isWithin, p_isYard, Int.reduceLT, Int.reduceLE, Int.reduceNeg, cd, ck, p_inForce _ D L n 17 a2 a3 me (by omega)]
          · rw [dn_X12_force, b_X12_force_0]
            simp only [z_cd, i10, i11, dnn, rdU, eW, eU, tzC_w, w_shp, w_ptr, Nat.beq_refl, nbz, nb133, nb75, nb55, nb67, n133a, n133b, n75a, n75b, aT, aR, oT, oR, oF, oG, kT, kF, bI, bL, bR, b0, Classical.not_not, not_true_eq_false, not_false_eq_true, and_self, and_true, true_and, ↓reduceIte, decide_true, decide_false, Nat.reduceEqDiff, Nat.reduceLT, Nat.reduceLeDiff, Int.reduceEq, p_in, q_isDay, q_isYard, Int.reduceLT, Int.reduceLE, Int.reduceNeg, cd, ck, q_inForce _ D L n 3 a1 17 a2 a3 me (by omega)]
        · refine ⟨-1, D, n, D, ?_, ?_, rfl, rfl, hR⟩
          · rw [dn_X11_force, b_X11_force_0]
            simp only [z_cd, i10, i11, dnn, rdU, eW, eU, tzC_w, w_shp, w_ptr, Nat.beq_refl, nbz, nb133, nb75, nb55, nb67, n133a, n133b, n75a, n75b, aT, aR, oT, oR, oF, oG, kT, kF, bI, bL, bR, b0, Classical.not_not, not_true_eq_false, not_false_eq_true, and_self, and_true, true_and, ↓reduceIte, decide_true, decide_false, Nat.reduceEqDiff, Nat.reduceLT, Nat.reduceLeDiff, Int.reduceEq, p_isWithin, p_isYard, Int.reduceLT, Int.reduceLE, Int.reduceNeg, cd, ck]
          · rw [dn_X12_force, b_X12_force_0]
            simp only [z_cd, i10, i11, dnn, rdU, eW, eU, tzC_w, w_shp, w_ptr, Nat.beq_refl, nbz, nb133, nb75, nb55, nb67, n133a, n133b, n75a, n75b, aT, aR, oT, oR, oF, oG, kT, kF, bI, bL, bR, b0, Classical.not_not, not_true_eq_false, not_false_eq_true, and_self, and_true, true_and, ↓reduceIte, decide_true, decide_false, Nat.reduceEqDiff, Nat.reduceLT, Nat.reduceLeDiff, Int.reduceEq, p_in, q_isDay, q_isYard, Int.reduceLT, Int.reduceLE, Int.reduceNeg, cd, ck]
      · refine ⟨-1, D, n, D, ?_, ?_, rfl, rfl, hR⟩
        · rw [dn_X11_force, b_X11_force_0]
          simp only [z_cd, i10, i11, dnn, rdU, eW, eU, tzC_w, w_shp, w_ptr, Nat.beq_refl, nbz, nb133, nb75, nb55, nb67, n133a, n133b, n75a, n75b, aT, aR, oT, oR, oF, oG, kT, kF, bI, bL, bR, b0, Classical.not_not, not_true_eq_false, not_false_eq_true, and_self, and_true, true_and, ↓reduceIte, decide_true, decide_false, Nat.reduceEqDiff, Nat.reduceLT, Nat.reduceLeDiff, Int.reduceEq, p_isWithin, p_isYard, Int.reduceLT, Int.reduceLE, Int.reduceNeg, cd]
        · rw [dn_X12_force, b_X12_force_0]
          simp only [z_cd, i10, i11, dnn, rdU, eW, eU, tzC_w, w_shp, w_ptr, Nat.beq_refl, nbz, nb133, nb75, nb55, nb67, n133a, n133b, n75a, n75b, aT, aR, oT, oR, oF, oG, kT, kF, bI, bL, bR, b0, Classical.not_not, not_true_eq_false, not_false_eq_true, and_self, and_true, true_and, ↓reduceIte, decide_true, decide_false, Nat.reduceEqDiff, Nat.reduceLT, Nat.reduceLeDiff, Int.reduceEq, p_in, q_isDay, q_isYard, Int.reduceLT, Int.reduceLE, Int.reduceNeg, cd]
  · refine ⟨-1, D, n, D, ?_, ?_, rfl, rfl, hR⟩
    · rw [dn_X11_force, b_X11_force_0]
      simp only [z_cd, i10, i11, dnn, rdU, eW, eU, tzC_w, w_shp, w_ptr, Nat.beq_refl, nbz, nb133, nb75, nb55, nb67, n133a, n133b, n75a, n75b, aT, aR, oT, oR, oF, oG, kT, kF, bI, bL, bR, b0, Classical.not_not, not_true_eq_false, not_false_eq_true, and_self, and_true, true_and, ↓reduceIte, decide_true, decide_false, Nat.reduceEqDiff, Nat.reduceLT, Nat.reduceLeDiff, Int.reduceEq, p_isWithin, c0]
    · rw [dn_X12_force, b_X12_force_0]
      simp only [z_cd, i10, i11, dnn, rdU, eW, eU, tzC_w, w_shp, w_ptr, Nat.beq_refl, nbz, nb133, nb75, nb55, nb67, n133a, n133b, n75a, n75b, aT, aR, oT, oR, oF, oG, kT, kF, bI, bL, bR, b0, Classical.not_not, not_true_eq_false, not_false_eq_true, and_self, and_true, true_and, ↓reduceIte, decide_true, decide_false, Nat.reduceEqDiff, Nat.reduceLT, Nat.reduceLeDiff, Int.reduceEq, p_in, c0]
