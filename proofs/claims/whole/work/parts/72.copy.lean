set_option maxRecDepth 100000 in
set_option maxHeartbeats 400000 in
theorem ag_copy {L : Nat} (a0 a1 a2 a3 a4 : Int) (i1 : in32 a1) (i3 : in32 a3) (i4 : in32 a4) : AgI Rel L n_X11_copy n_X12_copy [vI a0, vI a1, vI a2, vI a3, vI a4] := by
  intro D n hR
  obtain ⟨hA, hL, hW, hN, ⟨c1, c2, c3⟩, hT, hD, hK, hB, hQ, hX, hM, hP, hS⟩ := id hR
  unfold in32 at i1 i3 i4
  have g1 : -1000000000000 ≤ a1 + a4 := by omega
  have g2 : a1 + a4 ≤ 1000000000000 := by omega
  have g3 : -1000000000000 ≤ a3 + a4 := by omega
  have g4 : a3 + a4 ≤ 1000000000000 := by omega
  by_cases cr : 0 ≤ a0 ∧ a0 ≤ 5
  · obtain ⟨r, e⟩ : ∃ r : Nat, a0 = r := ⟨a0.toNat, by omega⟩
    subst e
    have hr : r < 6 := by omega
    have hbr : tqib (r : Int) 6 = true := tqib_y (by omega) (by omega)
    by_cases ct : 0 ≤ a2 ∧ a2 ≤ 5
    · obtain ⟨t, e⟩ : ∃ t : Nat, a2 = t := ⟨a2.toNat, by omega⟩
      subst e
      have ht : t < 6 := by omega
      have hbt : tqib (t : Int) 6 = true := tqib_y (by omega) (by omega)
      by_cases cn : 0 ≤ a4
      · rcases hL.1 r hr with ⟨er, zr, zr4⟩ | ⟨er, zr⟩
        · have zr2 : ¬ D 83 r < 0 := by omega
          rcases hL.1 t ht with ⟨et, zt, zt4⟩ | ⟨et, zt⟩
          · by_cases n1 : a1 < 0
            · refine ⟨-3, tzRx D 2, n, tzRm (tzRx D 2) 2, ?_, ?_, Sm_1 (by unfold tzRx; (repeat (refine Sm_U (by omega) ?_)); exact Sm_r _ _), Sm_1 (by unfold tzRm tzRx; (repeat (refine Sm_U (by omega) ?_)); exact Sm_r _ _), Rel_ref hR (by omega) (by omega)⟩
              · by_cases s1 : 0 ≤ a1 ∧ a1 + a4 ≤ D 83 r
                · have s2 : ¬ (0 ≤ a3 ∧ a3 + a4 ≤ D 83 t) := by omega
                  rw [dn_X11_copy, b_X11_copy_0]
                  simp only [z_cd, i10, i11, dnn, rdU, eW, eU, tzC_w, w_shp, w_ptr, Nat.beq_refl, nbz, nb133, nb75, nb55, nb67, n133a, n133b, n75a, n75b, aT, aR, oT, oR, oF, oG, kT, kF, bI, bL, bR, b0, Classical.not_not, not_true_eq_false, not_false_eq_true, and_self, and_true, true_and, ↓reduceIte, decide_true, decide_false, Nat.reduceEqDiff, Nat.reduceLT, Nat.reduceLeDiff, Int.reduceEq, s_lineAt_rows_y _ D L n hr, s_lineAt_rows_y _ D L n ht, w_row D L n hr, w_row D L n ht, nb55, cn, s_isMissing _ D L n (w_row D L n hr).1, s_isMissing _ D L n (w_row D L n ht).1, er, et, zr, zt, p_hasSpan _ D L n (55 + 2 * r) (w_row D L n hr).1 a1 a4 (by omega) (by omega) cn, p_hasSpan _ D L n (55 + 2 * t) (w_row D L n ht).1 a3 a4 (by omega) (by omega) cn, s1, s2, s_refuse _ D L n (f := 2) (by decide) (by decide), or_false, false_or, or_true, true_or, or_self, and_false, false_and, Int.reduceLT, Int.reduceLE, Int.reduceNeg]
                · rw [dn_X11_copy, b_X11_copy_0]
                  simp only [z_cd, i10, i11, dnn, rdU, eW, eU, tzC_w, w_shp, w_ptr, Nat.beq_refl, nbz, nb133, nb75, nb55, nb67, n133a, n133b, n75a, n75b, aT, aR, oT, oR, oF, oG, kT, kF, bI, bL, bR, b0, Classical.not_not, not_true_eq_false, not_false_eq_true, and_self, and_true, true_and, ↓reduceIte, decide_true, decide_false, Nat.reduceEqDiff, Nat.reduceLT, Nat.reduceLeDiff, Int.reduceEq, s_lineAt_rows_y _ D L n hr, s_lineAt_rows_y _ D L n ht, w_row D L n hr, w_row D L n ht, nb55, cn, s_isMissing _ D L n (w_row D L n hr).1, s_isMissing _ D L n (w_row D L n ht).1, er, et, zr, zt, p_hasSpan _ D L n (55 + 2 * r) (w_row D L n hr).1 a1 a4 (by omega) (by omega) cn, p_hasSpan _ D L n (55 + 2 * t) (w_row D L n ht).1 a3 a4 (by omega) (by omega) cn, s1, s_refuse _ D L n (f := 2) (by decide) (by decide), or_false, false_or, or_true, true_or, or_self, and_false, false_and, Int.reduceLT, Int.reduceLE, Int.reduceNeg]
              · have yr : tzRx D 2 83 r = D 83 r := rfl
                have yt : tzRx D 2 83 t = D 83 t := rfl
                have w1 := w64_s g1 g2
                have w2 := w64_s g3 g4
                rw [dn_X12_copy, b_X12_copy_0]
                simp only [z_cd, i10, i11, dnn, rdU, eW, eU, tzC_w, w_shp, w_ptr, Nat.beq_refl, nbz, nb133, nb75, nb55, nb67, n133a, n133b, n75a, n75b, aT, aR, oT, oR, oF, oG, kT, kF, bI, bL, bR, b0, Classical.not_not, not_true_eq_false, not_false_eq_true, and_self, and_true, true_and, ↓reduceIte, decide_true, decide_false, Nat.reduceEqDiff, Nat.reduceLT, Nat.reduceLeDiff, Int.reduceEq, q_isRow, cr, ct, cn, hbr, hbt, yr, yt, zr2, zt, jc_gt, jc_le, w1, w2, b_X12_copy_95, s_meets _ (tzRx D 2) L n (f := 2) (by decide) (by decide), n1, or_false, false_or, or_true, true_or, or_self, and_false, false_and, Int.reduceLT, Int.reduceLE, Int.reduceNeg]
            · by_cases n2 : a3 < 0
              · refine ⟨-3, tzRx D 2, n, tzRm (tzRx D 2) 2, ?_, ?_, Sm_1 (by unfold tzRx; (repeat (refine Sm_U (by omega) ?_)); exact Sm_r _ _), Sm_1 (by unfold tzRm tzRx; (repeat (refine Sm_U (by omega) ?_)); exact Sm_r _ _), Rel_ref hR (by omega) (by omega)⟩
                · by_cases s1 : 0 ≤ a1 ∧ a1 + a4 ≤ D 83 r
                  · have s2 : ¬ (0 ≤ a3 ∧ a3 + a4 ≤ D 83 t) := by omega
                    rw [dn_X11_copy, b_X11_copy_0]
                    simp only [z_cd, i10, i11, dnn, rdU, eW, eU, tzC_w, w_shp, w_ptr, Nat.beq_refl, nbz, nb133, nb75, nb55, nb67, n133a, n133b, n75a, n75b, aT, aR, oT, oR, oF, oG, kT, kF, bI, bL, bR, b0, Classical.not_not, not_true_eq_false, not_false_eq_true, and_self, and_true, true_and, ↓reduceIte, decide_true, decide_false, Nat.reduceEqDiff, Nat.reduceLT, Nat.reduceLeDiff, Int.reduceEq, s_lineAt_rows_y _ D L n hr, s_lineAt_rows_y _ D L n ht, w_row D L n hr, w_row D L n ht, nb55, cn, s_isMissing _ D L n (w_row D L n hr).1, s_isMissing _ D L n (w_row D L n ht).1, er, et, zr, zt, p_hasSpan _ D L n (55 + 2 * r) (w_row D L n hr).1 a1 a4 (by omega) (by omega) cn, p_hasSpan _ D L n (55 + 2 * t) (w_row D L n ht).1 a3 a4 (by omega) (by omega) cn, s1, s2, s_refuse _ D L n (f := 2) (by decide) (by decide), or_false, false_or, or_true, true_or, or_self, and_false, false_and, Int.reduceLT, Int.reduceLE, Int.reduceNeg]
                  · rw [dn_X11_copy, b_X11_copy_0]
                    simp only [z_cd, i10, i11, dnn, rdU, eW, eU, tzC_w, w_shp, w_ptr, Nat.beq_refl, nbz, nb133, nb75, nb55, nb67, n133a, n133b, n75a, n75b, aT, aR, oT, oR, oF, oG, kT, kF, bI, bL, bR, b0, Classical.not_not, not_true_eq_false, not_false_eq_true, and_self, and_true, true_and, ↓reduceIte, decide_true, decide_false, Nat.reduceEqDiff, Nat.reduceLT, Nat.reduceLeDiff, Int.reduceEq, s_lineAt_rows_y _ D L n hr, s_lineAt_rows_y _ D L n ht, w_row D L n hr, w_row D L n ht, nb55, cn, s_isMissing _ D L n (w_row D L n hr).1, s_isMissing _ D L n (w_row D L n ht).1, er, et, zr, zt, p_hasSpan _ D L n (55 + 2 * r) (w_row D L n hr).1 a1 a4 (by omega) (by omega) cn, p_hasSpan _ D L n (55 + 2 * t) (w_row D L n ht).1 a3 a4 (by omega) (by omega) cn, s1, s_refuse _ D L n (f := 2) (by decide) (by decide), or_false, false_or, or_true, true_or, or_self, and_false, false_and, Int.reduceLT, Int.reduceLE, Int.reduceNeg]
                · have yr : tzRx D 2 83 r = D 83 r := rfl
                  have yt : tzRx D 2 83 t = D 83 t := rfl
                  have w1 := w64_s g1 g2
                  have w2 := w64_s g3 g4
                  rw [dn_X12_copy, b_X12_copy_0]
                  simp only [z_cd, i10, i11, dnn, rdU, eW, eU, tzC_w, w_shp, w_ptr, Nat.beq_refl, nbz, nb133, nb75, nb55, nb67, n133a, n133b, n75a, n75b, aT, aR, oT, oR, oF, oG, kT, kF, bI, bL, bR, b0, Classical.not_not, not_true_eq_false, not_false_eq_true, and_self, and_true, true_and, ↓reduceIte, decide_true, decide_false, Nat.reduceEqDiff, Nat.reduceLT, Nat.reduceLeDiff, Int.reduceEq, q_isRow, cr, ct, cn, hbr, hbt, yr, yt, zr2, zt, jc_gt, jc_le, w1, w2, b_X12_copy_95, s_meets _ (tzRx D 2) L n (f := 2) (by decide) (by decide), n1, n2, or_false, false_or, or_true, true_or, or_self, and_false, false_and, Int.reduceLT, Int.reduceLE, Int.reduceNeg]
              · by_cases n3 : D 83 r < a1 + a4
                · refine ⟨-3, tzRx D 2, n, tzRm (tzRx D 2) 2, ?_, ?_, Sm_1 (by unfold tzRx; (repeat (refine Sm_U (by omega) ?_)); exact Sm_r _ _), Sm_1 (by unfold tzRm tzRx; (repeat (refine Sm_U (by omega) ?_)); exact Sm_r _ _), Rel_ref hR (by omega) (by omega)⟩
                  · by_cases s1 : 0 ≤ a1 ∧ a1 + a4 ≤ D 83 r
                    · have s2 : ¬ (0 ≤ a3 ∧ a3 + a4 ≤ D 83 t) := by omega
                      rw [dn_X11_copy, b_X11_copy_0]
                      simp only [z_cd, i10, i11, dnn, rdU, eW, eU, tzC_w, w_shp, w_ptr, Nat.beq_refl, nbz, nb133, nb75, nb55, nb67, n133a, n133b, n75a, n75b, aT, aR, oT, oR, oF, oG, kT, kF, bI, bL, bR, b0, Classical.not_not, not_true_eq_false, not_false_eq_true, and_self, and_true, true_and, ↓reduceIte, decide_true, decide_false, Nat.reduceEqDiff, Nat.reduceLT, Nat.reduceLeDiff, Int.reduceEq, s_lineAt_rows_y _ D L n hr, s_lineAt_rows_y _ D L n ht, w_row D L n hr, w_row D L n ht, nb55, cn, s_isMissing _ D L n (w_row D L n hr).1, s_isMissing _ D L n (w_row D L n ht).1, er, et, zr, zt, p_hasSpan _ D L n (55 + 2 * r) (w_row D L n hr).1 a1 a4 (by omega) (by omega) cn, p_hasSpan _ D L n (55 + 2 * t) (w_row D L n ht).1 a3 a4 (by omega) (by omega) cn, s1, s2, s_refuse _ D L n (f := 2) (by decide) (by decide), or_false, false_or, or_true, true_or, or_self, and_false, false_and, Int.reduceLT, Int.reduceLE, Int.reduceNeg]
                    · rw [dn_X11_copy, b_X11_copy_0]
                      simp only [z_cd, i10, i11, dnn, rdU, eW, eU, tzC_w, w_shp, w_ptr, Nat.beq_refl, nbz, nb133, nb75, nb55, nb67, n133a, n133b, n75a, n75b, aT, aR, oT, oR, oF, oG, kT, kF, bI, bL, bR, b0, Classical.not_not, not_true_eq_false, not_false_eq_true, and_self, and_true, true_and, ↓reduceIte, decide_true, decide_false, Nat.reduceEqDiff, Nat.reduceLT, Nat.reduceLeDiff, Int.reduceEq, s_lineAt_rows_y _ D L n hr, s_lineAt_rows_y _ D L n ht, w_row D L n hr, w_row D L n ht, nb55, cn, s_isMissing _ D L n (w_row D L n hr).1, s_isMissing _ D L n (w_row D L n ht).1, er, et, zr, zt, p_hasSpan _ D L n (55 + 2 * r) (w_row D L n hr).1 a1 a4 (by omega) (by omega) cn, p_hasSpan _ D L n (55 + 2 * t) (w_row D L n ht).1 a3 a4 (by omega) (by omega) cn, s1, s_refuse _ D L n (f := 2) (by decide) (by decide), or_false, false_or, or_true, true_or, or_self, and_false, false_and, Int.reduceLT, Int.reduceLE, Int.reduceNeg]
                  · have yr : tzRx D 2 83 r = D 83 r := rfl
                    have yt : tzRx D 2 83 t = D 83 t := rfl
                    have w1 := w64_s g1 g2
                    have w2 := w64_s g3 g4
                    rw [dn_X12_copy, b_X12_copy_0]
                    simp only [z_cd, i10, i11, dnn, rdU, eW, eU, tzC_w, w_shp, w_ptr, Nat.beq_refl, nbz, nb133, nb75, nb55, nb67, n133a, n133b, n75a, n75b, aT, aR, oT, oR, oF, oG, kT, kF, bI, bL, bR, b0, Classical.not_not, not_true_eq_false, not_false_eq_true, and_self, and_true, true_and, ↓reduceIte, decide_true, decide_false, Nat.reduceEqDiff, Nat.reduceLT, Nat.reduceLeDiff, Int.reduceEq, q_isRow, cr, ct, cn, hbr, hbt, yr, yt, zr2, zt, jc_gt, jc_le, w1, w2, b_X12_copy_95, s_meets _ (tzRx D 2) L n (f := 2) (by decide) (by decide), n1, n2, n3, or_false, false_or, or_true, true_or, or_self, and_false, false_and, Int.reduceLT, Int.reduceLE, Int.reduceNeg]
                · by_cases n4 : a3 + a4 ≤ D 83 t
                  · obtain ⟨N, hN2⟩ : ∃ N : Nat, a4 = N := ⟨a4.toNat, by omega⟩
                    subst hN2
                    have s1 : 0 ≤ a1 ∧ a1 + N ≤ D 83 r := by omega
                    have s2 : 0 ≤ a3 ∧ a3 + N ≤ D 83 t := by omega
                    have f1 : a1 + N ≤ ((40 : Nat) : Int) := by omega
                    have f2 : a3 + N ≤ ((40 : Nat) : Int) := by omega
                    have A := p_hasSpan 1397 D L n (55 + 2 * r) (w_row D L n hr).1 a1 N (by omega) (by omega) cn
                    have B := p_hasSpan 1397 D L n (55 + 2 * t) (w_row D L n ht).1 a3 N (by omega) (by omega) cn
                    obtain ⟨D1, eD1⟩ : ∃ D1, D1 = tzC D (56 + 2 * r) a1 (56 + 2 * t) a3 N := ⟨_, rfl⟩
                    have hq : ∀ (b : Nat) (j : Int), 81 ≤ b → b ≤ 132 → D1 b j = D b j := by
                      intro b j p q
                      rw [eD1, rdC, if_neg (by omega)]
                    have Q1 := q_c1 1398 D1 L n hr a1 t a3 N (by omega) (by omega) N 0 (by omega)
                    have Q2 := q_c2 1398 (tzC (D1) 84 (40 * r + a1) 85 0 N) L n ht a3 N (by omega) (by omega) N 0 (by omega)
                    rw [show (((0 : Nat) : Int)) = 0 from rfl, tzC_0] at Q1 Q2
                    rw [Q2] at Q1
                    refine ⟨1, D1, n, tzC (tzC (D1) 84 (40 * r + a1) 85 0 N) 85 0 84 (40 * t + a3) N, ?_, ?_, Sm_1 (by rw [eD1]; exact Sm_C (fun x p q => by omega) (Sm_r _ _)), Sm_1 (by rw [eD1]; exact Sm_C (fun x p q => by omega) (Sm_C (fun x p q => by omega) (Sm_C (fun x p q => by omega) (Sm_r _ _)))), ?_⟩
                    · rw [eD1]
                      rw [dn_X11_copy, b_X11_copy_0]
                      simp only [z_cd, i10, i11, dnn, rdU, eW, eU, tzC_w, w_shp, w_ptr, Nat.beq_refl, nbz, nb133, nb75, nb55, nb67, n133a, n133b, n75a, n75b, aT, aR, oT, oR, oF, oG, kT, kF, bI, bL, bR, b0, Classical.not_not, not_true_eq_false, not_false_eq_true, and_self, and_true, true_and, ↓reduceIte, decide_true, decide_false, Nat.reduceEqDiff, Nat.reduceLT, Nat.reduceLeDiff, Int.reduceEq, s_lineAt_rows_y _ D L n hr, s_lineAt_rows_y _ D L n ht, w_row D L n hr, w_row D L n ht, nb55, cn, s_isMissing _ D L n (w_row D L n hr).1, s_isMissing _ D L n (w_row D L n ht).1, er, et, zr, zt, A, B, s1, s2, f1, f2, or_false, false_or, or_true, true_or, or_self, and_false, false_and, Int.reduceLT, Int.reduceLE, Int.reduceNeg]
                    · have w1 := w64_s g1 g2
                      have w2 := w64_s g3 g4
                      rw [dn_X12_copy, b_X12_copy_0]
                      simp only [z_cd, i10, i11, dnn, rdU, eW, eU, tzC_w, w_shp, w_ptr, Nat.beq_refl, nbz, nb133, nb75, nb55, nb67, n133a, n133b, n75a, n75b, aT, aR, oT, oR, oF, oG, kT, kF, bI, bL, bR, b0, Classical.not_not, not_true_eq_false, not_false_eq_true, and_self, and_true, true_and, ↓reduceIte, decide_true, decide_false, Nat.reduceEqDiff, Nat.reduceLT, Nat.reduceLeDiff, Int.reduceEq, q_isRow, cr, ct, cn, hbr, hbt, hq, zr2, zt, jc_gt, jc_le, w1, w2, n1, n2, n3, n4, or_false, false_or, or_true, true_or, or_self, and_false, false_and, Int.reduceLT, Int.reduceLE, Int.reduceNeg]
                      exact Q1
                    · clear A B Q1 Q2
                      subst eD1
                      refine ⟨?_, ?_, ?_, ?_, ?_, ?_, ?_, ?_, ?_, ?_, ?_, ?_, ?_, ?_⟩
                      · exact RA_fr (Sm_C (fun x p q => by unfold PA; omega) (Sm_C (fun x p q => by unfold PA; omega) (Sm_C (fun x p q => by unfold PA; omega) (Sm_r _ _)))) hA
                      · refine RL_row hL ht (Sm_C (fun x p q => by unfold PL; omega) (Sm_C (fun x p q => by unfold PL; omega) (Sm_C (fun x p q => by unfold PL; omega) (Sm_r _ _)))) (Or.inl ?_) (fun x x0 x1 => ?_)
                        · rw [rdC, if_neg (by omega), rdC, if_neg (by omega), rdC, if_neg (by omega), rdC, if_neg (by omega), rdC, if_neg (by omega), rdC, if_neg (by omega)]
                          exact ⟨et, zt, zt4⟩
                        · rw [rdC _ 85, if_neg (show ¬ (56 + 2 * t = 84) by omega), rdC _ 84, if_neg (show ¬ (56 + 2 * t = 85) by omega), rdC D, if_pos rfl, rdC _ 85, if_pos rfl]
                          by_cases c : a3 ≤ x ∧ x < a3 + N
                          · rw [if_pos c, if_pos (by omega), rdC _ 84, if_pos rfl, if_pos (by omega), rdC D, if_neg (show ¬ (84 = 56 + 2 * t) by omega), hL.2.1 r _ hr (by omega) (by omega)]
                            have z : 40 * (r : Int) + (a1 + (x - a3)) = 40 * r + a1 + (0 + (40 * t + x - (40 * t + a3)) - 0) := by omega
                            rw [z]
                          · rw [if_neg c, if_neg (by omega), rdC _ 84, if_neg (show ¬ (84 = 85) by omega), rdC D, if_neg (show ¬ (84 = 56 + 2 * t) by omega)]
                            exact hL.2.1 t x ht x0 x1
                      · exact RW_fr (Sm_C (fun x p q => by unfold PW; omega) (Sm_C (fun x p q => by unfold PW; omega) (Sm_C (fun x p q => by unfold PW; omega) (Sm_r _ _)))) hW
                      · exact RN_fr (Sm_C (fun x p q => by unfold PN; omega) (Sm_C (fun x p q => by unfold PN; omega) (Sm_C (fun x p q => by unfold PN; omega) (Sm_r _ _)))) hN
                      · exact RC_fr (Sm_C (fun x p q => by unfold PC; omega) (Sm_C (fun x p q => by unfold PC; omega) (Sm_C (fun x p q => by unfold PC; omega) (Sm_r _ _)))) ⟨c1, c2, c3⟩
                      · exact RT_fr (Sm_C (fun x p q => by unfold PT; omega) (Sm_C (fun x p q => by unfold PT; omega) (Sm_C (fun x p q => by unfold PT; omega) (Sm_r _ _)))) hT
                      · exact RD_fr (Sm_C (fun x p q => by unfold PD; omega) (Sm_C (fun x p q => by unfold PD; omega) (Sm_C (fun x p q => by unfold PD; omega) (Sm_r _ _)))) hD
                      · exact RK_fr (Sm_C (fun x p q => by unfold PK; omega) (Sm_C (fun x p q => by unfold PK; omega) (Sm_C (fun x p q => by unfold PK; omega) (Sm_r _ _)))) hK
                      · exact RB_fr (Sm_C (fun x p q => by unfold PB; omega) (Sm_C (fun x p q => by unfold PB; omega) (Sm_C (fun x p q => by unfold PB; omega) (Sm_r _ _)))) hB
                      · exact RQ_fr (Sm_C (fun x p q => by unfold PQ; omega) (Sm_C (fun x p q => by unfold PQ; omega) (Sm_C (fun x p q => by unfold PQ; omega) (Sm_r _ _)))) hQ
                      · exact RX_fr (Sm_C (fun x p q => by unfold PX; omega) (Sm_C (fun x p q => by unfold PX; omega) (Sm_C (fun x p q => by unfold PX; omega) (Sm_r _ _)))) hX
                      · exact RM_fr (Sm_C (fun x p q => by unfold PM; omega) (Sm_C (fun x p q => by unfold PM; omega) (Sm_C (fun x p q => by unfold PM; omega) (Sm_r _ _)))) hM
                      · exact RP_fr (Sm_C (fun x p q => by unfold PP; omega) (Sm_C (fun x p q => by unfold PP; omega) (Sm_C (fun x p q => by unfold PP; omega) (Sm_r _ _)))) hP
                      · exact RS_fr (Sm_C (fun x p q => by unfold PS; omega) (Sm_C (fun x p q => by unfold PS; omega) (Sm_C (fun x p q => by unfold PS; omega) (Sm_r _ _)))) hS
                  · refine ⟨-3, tzRx D 2, n, tzRm (tzRx D 2) 2, ?_, ?_, Sm_1 (by unfold tzRx; (repeat (refine Sm_U (by omega) ?_)); exact Sm_r _ _), Sm_1 (by unfold tzRm tzRx; (repeat (refine Sm_U (by omega) ?_)); exact Sm_r _ _), Rel_ref hR (by omega) (by omega)⟩
                    · by_cases s1 : 0 ≤ a1 ∧ a1 + a4 ≤ D 83 r
                      · have s2 : ¬ (0 ≤ a3 ∧ a3 + a4 ≤ D 83 t) := by omega
                        rw [dn_X11_copy, b_X11_copy_0]
                        simp only [z_cd, i10, i11, dnn, rdU, eW, eU, tzC_w, w_shp, w_ptr, Nat.beq_refl, nbz, nb133, nb75, nb55, nb67, n133a, n133b, n75a, n75b, aT, aR, oT, oR, oF, oG, kT, kF, bI, bL, bR, b0, Classical.not_not, not_true_eq_false, not_false_eq_true, and_self, and_true, true_and, ↓reduceIte, decide_true, decide_false, Nat.reduceEqDiff, Nat.reduceLT, Nat.reduceLeDiff, Int.reduceEq, s_lineAt_rows_y _ D L n hr, s_lineAt_rows_y _ D L n ht, w_row D L n hr, w_row D L n ht, nb55, cn, s_isMissing _ D L n (w_row D L n hr).1, s_isMissing _ D L n (w_row D L n ht).1, er, et, zr, zt, p_hasSpan _ D L n (55 + 2 * r) (w_row D L n hr).1 a1 a4 (by omega) (by omega) cn, p_hasSpan _ D L n (55 + 2 * t) (w_row D L n ht).1 a3 a4 (by omega) (by omega) cn, s1, s2, s_refuse _ D L n (f := 2) (by decide) (by decide), or_false, false_or, or_true, true_or, or_self, and_false, false_and, Int.reduceLT, Int.reduceLE, Int.reduceNeg]
                      · rw [dn_X11_copy, b_X11_copy_0]
                        simp only [z_cd, i10, i11, dnn, rdU, eW, eU, tzC_w, w_shp, w_ptr, Nat.beq_refl, nbz, nb133, nb75, nb55, nb67, n133a, n133b, n75a, n75b, aT, aR, oT, oR, oF, oG, kT, kF, bI, bL, bR, b0, Classical.not_not, not_true_eq_false, not_false_eq_true, and_self, and_true, true_and, ↓reduceIte, decide_true, decide_false, Nat.reduceEqDiff, Nat.reduceLT, Nat.reduceLeDiff, Int.reduceEq, s_lineAt_rows_y _ D L n hr, s_lineAt_rows_y _ D L n ht, w_row D L n hr, w_row D L n ht, nb55, cn, s_isMissing _ D L n (w_row D L n hr).1, s_isMissing _ D L n (w_row D L n ht).1, er, et, zr, zt, p_hasSpan _ D L n (55 + 2 * r) (w_row D L n hr).1 a1 a4 (by omega) (by omega) cn, p_hasSpan _ D L n (55 + 2 * t) (w_row D L n ht).1 a3 a4 (by omega) (by omega) cn, s1, s_refuse _ D L n (f := 2) (by decide) (by decide), or_false, false_or, or_true, true_or, or_self, and_false, false_and, Int.reduceLT, Int.reduceLE, Int.reduceNeg]
                    · have yr : tzRx D 2 83 r = D 83 r := rfl
                      have yt : tzRx D 2 83 t = D 83 t := rfl
                      have w1 := w64_s g1 g2
                      have w2 := w64_s g3 g4
                      rw [dn_X12_copy, b_X12_copy_0]
                      simp only [z_cd, i10, i11, dnn, rdU, eW, eU, tzC_w, w_shp, w_ptr, Nat.beq_refl, nbz, nb133, nb75, nb55, nb67, n133a, n133b, n75a, n75b, aT, aR, oT, oR, oF, oG, kT, kF, bI, bL, bR, b0, Classical.not_not, not_true_eq_false, not_false_eq_true, and_self, and_true, true_and, ↓reduceIte, decide_true, decide_false, Nat.reduceEqDiff, Nat.reduceLT, Nat.reduceLeDiff, Int.reduceEq, q_isRow, cr, ct, cn, hbr, hbt, yr, yt, zr2, zt, jc_gt, jc_le, w1, w2, b_X12_copy_95, s_meets _ (tzRx D 2) L n (f := 2) (by decide) (by decide), n1, n2, n3, n4, or_false, false_or, or_true, true_or, or_self, and_false, false_and, Int.reduceLT, Int.reduceLE, Int.reduceNeg]
          · refine ⟨-3, tzRx D 1, n, tzRm (tzRx D 1) 1, ?_, ?_, Sm_1 (by unfold tzRx; (repeat (refine Sm_U (by omega) ?_)); exact Sm_r _ _), Sm_1 (by unfold tzRm tzRx; (repeat (refine Sm_U (by omega) ?_)); exact Sm_r _ _), Rel_ref hR (by omega) (by omega)⟩
            · rw [dn_X11_copy, b_X11_copy_0]
              simp only [z_cd, i10, i11, dnn, rdU, eW, eU, tzC_w, w_shp, w_ptr, Nat.beq_refl, nbz, nb133, nb75, nb55, nb67, n133a, n133b, n75a, n75b, aT, aR, oT, oR, oF, oG, kT, kF, bI, bL, bR, b0, Classical.not_not, not_true_eq_false, not_false_eq_true, and_self, and_true, true_and, ↓reduceIte, decide_true, decide_false, Nat.reduceEqDiff, Nat.reduceLT, Nat.reduceLeDiff, Int.reduceEq, s_lineAt_rows_y _ D L n hr, s_lineAt_rows_y _ D L n ht, w_row D L n hr, w_row D L n ht, nb55, cn, s_isMissing _ D L n (w_row D L n hr).1, s_isMissing _ D L n (w_row D L n ht).1, er, et, zr, or_false, false_or, or_true, true_or, or_self, and_false, false_and, Int.reduceLT, Int.reduceLE, Int.reduceNeg, s_refuse _ D L n (f := 1) (by decide) (by decide)]
            · have yr : tzRx D 1 83 r = D 83 r := rfl
              have yt : tzRx D 1 83 t = D 83 t := rfl
              have zt2 : ¬ 0 ≤ D 83 t := by omega
              rw [dn_X12_copy, b_X12_copy_0]
              simp only [z_cd, i10, i11, dnn, rdU, eW, eU, tzC_w, w_shp, w_ptr, Nat.beq_refl, nbz, nb133, nb75, nb55, nb67, n133a, n133b, n75a, n75b, aT, aR, oT, oR, oF, oG, kT, kF, bI, bL, bR, b0, Classical.not_not, not_true_eq_false, not_false_eq_true, and_self, and_true, true_and, ↓reduceIte, decide_true, decide_false, Nat.reduceEqDiff, Nat.reduceLT, Nat.reduceLeDiff, Int.reduceEq, q_isRow, cr, ct, cn, hbr, hbt, yr, yt, zr2, zt2, or_false, false_or, or_true, true_or, or_self, and_false, false_and, Int.reduceLT, Int.reduceLE, Int.reduceNeg, s_meets _ (tzRx D 1) L n (f := 1) (by decide) (by decide)]
        · refine ⟨-3, tzRx D 1, n, tzRm (tzRx D 1) 1, ?_, ?_, Sm_1 (by unfold tzRx; (repeat (refine Sm_U (by omega) ?_)); exact Sm_r _ _), Sm_1 (by unfold tzRm tzRx; (repeat (refine Sm_U (by omega) ?_)); exact Sm_r _ _), Rel_ref hR (by omega) (by omega)⟩
          · rw [dn_X11_copy, b_X11_copy_0]
            simp only [z_cd, i10, i11, dnn, rdU, eW, eU, tzC_w, w_shp, w_ptr, Nat.beq_refl, nbz, nb133, nb75, nb55, nb67, n133a, n133b, n75a, n75b, aT, aR, oT, oR, oF, oG, kT, kF, bI, bL, bR, b0, Classical.not_not, not_true_eq_false, not_false_eq_true, and_self, and_true, true_and, ↓reduceIte, decide_true, decide_false, Nat.reduceEqDiff, Nat.reduceLT, Nat.reduceLeDiff, Int.reduceEq, s_lineAt_rows_y _ D L n hr, s_lineAt_rows_y _ D L n ht, w_row D L n hr, w_row D L n ht, nb55, cn, s_isMissing _ D L n (w_row D L n hr).1, s_isMissing _ D L n (w_row D L n ht).1, er, or_false, false_or, or_true, true_or, or_self, and_false, false_and, Int.reduceLT, Int.reduceLE, Int.reduceNeg, s_refuse _ D L n (f := 1) (by decide) (by decide)]
          · have yr : tzRx D 1 83 r = D 83 r := rfl
            have yt : tzRx D 1 83 t = D 83 t := rfl
            rw [dn_X12_copy, b_X12_copy_0]
            simp only [z_cd, i10, i11, dnn, rdU, eW, eU, tzC_w, w_shp, w_ptr, Nat.beq_refl, nbz, nb133, nb75, nb55, nb67, n133a, n133b, n75a, n75b, aT, aR, oT, oR, oF, oG, kT, kF, bI, bL, bR, b0, Classical.not_not, not_true_eq_false, not_false_eq_true, and_self, and_true, true_and, ↓reduceIte, decide_true, decide_false, Nat.reduceEqDiff, Nat.reduceLT, Nat.reduceLeDiff, Int.reduceEq, q_isRow, cr, ct, cn, hbr, hbt, yr, yt, zr, or_false, false_or, or_true, true_or, or_self, and_false, false_and, Int.reduceLT, Int.reduceLE, Int.reduceNeg, s_meets _ (tzRx D 1) L n (f := 1) (by decide) (by decide)]
      · refine ⟨-3, tzRx D 5, n, tzRm (tzRx D 5) 5, ?_, ?_, Sm_1 (by unfold tzRx; (repeat (refine Sm_U (by omega) ?_)); exact Sm_r _ _), Sm_1 (by unfold tzRm tzRx; (repeat (refine Sm_U (by omega) ?_)); exact Sm_r _ _), Rel_ref hR (by omega) (by omega)⟩
        · rw [dn_X11_copy, b_X11_copy_0]
          simp only [z_cd, i10, i11, dnn, rdU, eW, eU, tzC_w, w_shp, w_ptr, Nat.beq_refl, nbz, nb133, nb75, nb55, nb67, n133a, n133b, n75a, n75b, aT, aR, oT, oR, oF, oG, kT, kF, bI, bL, bR, b0, Classical.not_not, not_true_eq_false, not_false_eq_true, and_self, and_true, true_and, ↓reduceIte, decide_true, decide_false, Nat.reduceEqDiff, Nat.reduceLT, Nat.reduceLeDiff, Int.reduceEq, s_lineAt_rows_y _ D L n hr, s_lineAt_rows_y _ D L n ht, nb55, cn, s_refuse _ D L n (f := 5) (by decide) (by decide)]
        · rw [dn_X12_copy, b_X12_copy_0]
          simp only [z_cd, i10, i11, dnn, rdU, eW, eU, tzC_w, w_shp, w_ptr, Nat.beq_refl, nbz, nb133, nb75, nb55, nb67, n133a, n133b, n75a, n75b, aT, aR, oT, oR, oF, oG, kT, kF, bI, bL, bR, b0, Classical.not_not, not_true_eq_false, not_false_eq_true, and_self, and_true, true_and, ↓reduceIte, decide_true, decide_false, Nat.reduceEqDiff, Nat.reduceLT, Nat.reduceLeDiff, Int.reduceEq, q_isRow, cr, ct, cn, s_meets _ (tzRx D 5) L n (f := 5) (by decide) (by decide)]
    · refine ⟨-1, D, n, D, ?_, ?_, rfl, rfl, hR⟩
      · rw [dn_X11_copy, b_X11_copy_0]
        simp only [z_cd, i10, i11, dnn, rdU, eW, eU, tzC_w, w_shp, w_ptr, Nat.beq_refl, nbz, nb133, nb75, nb55, nb67, n133a, n133b, n75a, n75b, aT, aR, oT, oR, oF, oG, kT, kF, bI, bL, bR, b0, Classical.not_not, not_true_eq_false, not_false_eq_true, and_self, and_true, true_and, ↓reduceIte, decide_true, decide_false, Nat.reduceEqDiff, Nat.reduceLT, Nat.reduceLeDiff, Int.reduceEq, s_lineAt_rows_y _ D L n hr, s_lineAt_rows_n _ D L n (a := a2) (by omega), nb55]
      · rw [dn_X12_copy, b_X12_copy_0]
        simp only [z_cd, i10, i11, dnn, rdU, eW, eU, tzC_w, w_shp, w_ptr, Nat.beq_refl, nbz, nb133, nb75, nb55, nb67, n133a, n133b, n75a, n75b, aT, aR, oT, oR, oF, oG, kT, kF, bI, bL, bR, b0, Classical.not_not, not_true_eq_false, not_false_eq_true, and_self, and_true, true_and, ↓reduceIte, decide_true, decide_false, Nat.reduceEqDiff, Nat.reduceLT, Nat.reduceLeDiff, Int.reduceEq, q_isRow, cr, ct]
  · refine ⟨-1, D, n, D, ?_, ?_, rfl, rfl, hR⟩
    · by_cases ct : 0 ≤ a2 ∧ a2 ≤ 5
      · obtain ⟨t, e⟩ : ∃ t : Nat, a2 = t := ⟨a2.toNat, by omega⟩
        subst e
        rw [dn_X11_copy, b_X11_copy_0]
        simp only [z_cd, i10, i11, dnn, rdU, eW, eU, tzC_w, w_shp, w_ptr, Nat.beq_refl, nbz, nb133, nb75, nb55, nb67, n133a, n133b, n75a, n75b, aT, aR, oT, oR, oF, oG, kT, kF, bI, bL, bR, b0, Classical.not_not, not_true_eq_false, not_false_eq_true, and_self, and_true, true_and, ↓reduceIte, decide_true, decide_false, Nat.reduceEqDiff, Nat.reduceLT, Nat.reduceLeDiff, Int.reduceEq, s_lineAt_rows_n _ D L n (a := a0) (by omega), s_lineAt_rows_y _ D L n (show t < 6 by omega)]
      · rw [dn_X11_copy, b_X11_copy_0]
        simp only [z_cd, i10, i11, dnn, rdU, eW, eU, tzC_w, w_shp, w_ptr, Nat.beq_refl, nbz, nb133, nb75, nb55, nb67, n133a, n133b, n75a, n75b, aT, aR, oT, oR, oF, oG, kT, kF, bI, bL, bR, b0, Classical.not_not, not_true_eq_false, not_false_eq_true, and_self, and_true, true_and, ↓reduceIte, decide_true, decide_false, Nat.reduceEqDiff, Nat.reduceLT, Nat.reduceLeDiff, Int.reduceEq, s_lineAt_rows_n _ D L n (a := a0) (by omega), s_lineAt_rows_n _ D L n (a := a2) (by omega)]
    · rw [dn_X12_copy, b_X12_copy_0]
      simp only [z_cd, i10, i11, dnn, rdU, eW, eU, tzC_w, w_shp, w_ptr, Nat.beq_refl, nbz, nb133, nb75, nb55, nb67, n133a, n133b, n75a, n75b, aT, aR, oT, oR, oF, oG, kT, kF, bI, bL, bR, b0, Classical.not_not, not_true_eq_false, not_false_eq_true, and_self, and_true, true_and, ↓reduceIte, decide_true, decide_false, Nat.reduceEqDiff, Nat.reduceLT, Nat.reduceLeDiff, Int.reduceEq, q_isRow, cr]
