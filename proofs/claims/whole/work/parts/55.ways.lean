set_option maxRecDepth 100000 in
set_option maxHeartbeats 400000 in
theorem ag_way {L : Nat} (a0 a1 a2 a3 : Int) : AgI Rel L n_X11_way n_X12_way [vI a0, vI a1, vI a2, vI a3] := by
  intro D n hR
  obtain ⟨hA, hL, hW, hN, ⟨c1, c2, c3⟩, hT, hD, hK, hB, hQ, hX, hM, hP, hS⟩ := id hR
  by_cases y1 : 0 ≤ a0 ∧ a0 ≤ 7
  · skip
    by_cases y2 : 0 ≤ a1 ∧ a1 ≤ 7
    · skip
      by_cases y3 : a0 = a1
      · refine ⟨-1, D, n, D, ?_, ?_, rfl, rfl, hR⟩
        · rw [dn_X11_way, b_X11_way_0]
          simp only [z_cd, i10, i11, dnn, rdU, eW, eU, tzC_w, w_shp, w_ptr, Nat.beq_refl, nbz, nb133, nb75, nb55, nb67, n133a, n133b, n75a, n75b, aT, aR, oT, oR, oF, oG, kT, kF, bI, bL, bR, b0, Classical.not_not, not_true_eq_false, not_false_eq_true, and_self, and_true, true_and, ↓reduceIte, decide_true, decide_false, Nat.reduceEqDiff, Nat.reduceLT, Nat.reduceLeDiff, Int.reduceEq, p_isYard, y1, y2, y3]
        · rw [dn_X12_way, b_X12_way_0]
          simp only [z_cd, i10, i11, dnn, rdU, eW, eU, tzC_w, w_shp, w_ptr, Nat.beq_refl, nbz, nb133, nb75, nb55, nb67, n133a, n133b, n75a, n75b, aT, aR, oT, oR, oF, oG, kT, kF, bI, bL, bR, b0, Classical.not_not, not_true_eq_false, not_false_eq_true, and_self, and_true, true_and, ↓reduceIte, decide_true, decide_false, Nat.reduceEqDiff, Nat.reduceLT, Nat.reduceLeDiff, Int.reduceEq, q_isYard, y1, y2, y3]
      · skip
        by_cases y4 : 1 ≤ a2 ∧ a2 ≤ 600
        · skip
          by_cases y5 : 0 ≤ a3 ∧ a3 ≤ 999
          · skip
            have e8 := (hW.1 (8 * a0 + a1) (by omega) (by omega)).1
            have zb := wcn_bd (D 88) 64
            have ze := hW.2.2.2
            have z0 : -1000 ≤ D 7 5 := by omega
            have z1 : D 7 5 ≤ 1000 := by omega
            have ab : a0 ≠ a1 := y3
            have nn : ¬ (8 * a0 + a1 = 8 * a1 + a0) := by omega
            have nm : ¬ (8 * a1 + a0 = 8 * a0 + a1) := by omega
            obtain ⟨z, hz⟩ : ∃ z, z = if D 8 (8 * a0 + a1) ≤ 0 then D 7 5 + 1 else D 7 5 := ⟨_, rfl⟩
            refine ⟨1, tzU (tzU (tzU (tzU (tzU (tzU (tzU (tzU (tzU D 7 5 z) 8 (8 * a0 + a1) a2) 8 (8 * a1 + a0) a2) 9 (8 * a0 + a1) a3) 9 (8 * a1 + a0) a3) 10 (8 * a0 + a1) 0) 10 (8 * a1 + a0) 0) 11 (8 * a0 + a1) 0) 11 (8 * a1 + a0) 0, n, tzU (tzU (tzU (tzU (tzU (tzU (tzU (tzU (tzU (tzU (tzU (tzU (tzU (tzU (tzU (tzU (tzU D 7 5 z) 8 (8 * a0 + a1) a2) 8 (8 * a1 + a0) a2) 9 (8 * a0 + a1) a3) 9 (8 * a1 + a0) a3) 10 (8 * a0 + a1) 0) 10 (8 * a1 + a0) 0) 11 (8 * a0 + a1) 0) 11 (8 * a1 + a0) 0) 88 (8 * a0 + a1) a2) 89 (8 * a0 + a1) a3) 90 (8 * a0 + a1) 0) 91 (8 * a0 + a1) 0) 88 (8 * a1 + a0) a2) 89 (8 * a1 + a0) a3) 90 (8 * a1 + a0) 0) 91 (8 * a1 + a0) 0, ?_, ?_, Sm_1 (by (repeat (refine Sm_U (by omega) ?_)); exact Sm_r _ _), Sm_1 (by (repeat (refine Sm_U (by omega) ?_)); exact Sm_r _ _), ?_⟩
            · rw [dn_X11_way, b_X11_way_0]
              simp only [z_cd, i10, i11, dnn, rdU, eW, eU, tzC_w, w_shp, w_ptr, Nat.beq_refl, nbz, nb133, nb75, nb55, nb67, n133a, n133b, n75a, n75b, aT, aR, oT, oR, oF, oG, kT, kF, bI, bL, bR, b0, Classical.not_not, not_true_eq_false, not_false_eq_true, and_self, and_true, true_and, ↓reduceIte, decide_true, decide_false, Nat.reduceEqDiff, Nat.reduceLT, Nat.reduceLeDiff, Int.reduceEq, p_isYard, y1, y2, y3, p_isWithin, y4, y5, p_join _ D L n a0 a1 a2 a3 z y1 y2 hz z0 z1]
            · rw [dn_X12_way, b_X12_way_0]
              simp only [z_cd, i10, i11, dnn, rdU, eW, eU, tzC_w, w_shp, w_ptr, Nat.beq_refl, nbz, nb133, nb75, nb55, nb67, n133a, n133b, n75a, n75b, aT, aR, oT, oR, oF, oG, kT, kF, bI, bL, bR, b0, Classical.not_not, not_true_eq_false, not_false_eq_true, and_self, and_true, true_and, ↓reduceIte, decide_true, decide_false, Nat.reduceEqDiff, Nat.reduceLT, Nat.reduceLeDiff, Int.reduceEq, q_isYard, y1, y2, y3, p_in, y4, y5, q_setWay _ _ L n a0 a1 a2 a3 0 0 y1 y2, q_setWay _ _ L n a1 a0 a2 a3 0 0 y2 y1]
            · refine ⟨?_, ?_, ?_, ?_, ?_, ?_, ?_, ?_, ?_, ?_, ?_, ?_, ?_, ?_⟩
              · exact RA_fr (by ((repeat (refine Sm_U (by unfold PA; omega) ?_)); exact Sm_r _ _)) hA
              · exact RL_fr (by ((repeat (refine Sm_U (by unfold PL; omega) ?_)); exact Sm_r _ _)) hL
              · exact RW_set (a := a0) (b := a1) (m := a2) (c := a3) (e := 0) (f := 0) hW y1 y2 ab y4 y5 (by omega) (by omega)
                  (fun q j hq n1 n2 => by
                    have nq : ¬ (q = 7) := by omega
                    simp only [rdU, n133a, n133b, n75a, n75b, ↓reduceIte, Nat.reduceEqDiff, Nat.reduceLT, Nat.reduceLeDiff, Int.reduceEq, not_true_eq_false, not_false_eq_true, true_and, and_true, and_self, true_or, or_true, or_false, false_or, ite_self, n1, n2, nq])
                  (fun j hj => by
                    rcases hj with q | q
                    · subst q
                      simp only [rdU, n133a, n133b, n75a, n75b, ↓reduceIte, Nat.reduceEqDiff, Nat.reduceLT, Nat.reduceLeDiff, Int.reduceEq, not_true_eq_false, not_false_eq_true, true_and, and_true, and_self, true_or, or_true, or_false, false_or, ite_self, nn]
                    · subst q
                      simp only [rdU, n133a, n133b, n75a, n75b, ↓reduceIte, Nat.reduceEqDiff, Nat.reduceLT, Nat.reduceLeDiff, Int.reduceEq, not_true_eq_false, not_false_eq_true, true_and, and_true, and_self, true_or, or_true, or_false, false_or, ite_self, nm])
                  (by simp only [rdU, n133a, n133b, n75a, n75b, ↓reduceIte, Nat.reduceEqDiff, Nat.reduceLT, Nat.reduceLeDiff, Int.reduceEq, not_true_eq_false, not_false_eq_true, true_and, and_true, and_self, true_or, or_true, or_false, false_or, ite_self]; exact by rw [← e8]; exact hz)
              · exact RN_fr (by ((repeat (refine Sm_U (by unfold PN; omega) ?_)); exact Sm_r _ _)) hN
              · exact RC_fr (by ((repeat (refine Sm_U (by unfold PC; omega) ?_)); exact Sm_r _ _)) ⟨c1, c2, c3⟩
              · exact RT_fr (by ((repeat (refine Sm_U (by unfold PT; omega) ?_)); exact Sm_r _ _)) hT
              · exact RD_fr (by ((repeat (refine Sm_U (by unfold PD; omega) ?_)); exact Sm_r _ _)) hD
              · exact RK_fr (by ((repeat (refine Sm_U (by unfold PK; omega) ?_)); exact Sm_r _ _)) hK
              · exact RB_fr (by ((repeat (refine Sm_U (by unfold PB; omega) ?_)); exact Sm_r _ _)) hB
              · exact RQ_fr (by ((repeat (refine Sm_U (by unfold PQ; omega) ?_)); exact Sm_r _ _)) hQ
              · exact RX_fr (by ((repeat (refine Sm_U (by unfold PX; omega) ?_)); exact Sm_r _ _)) hX
              · exact RM_fr (by ((repeat (refine Sm_U (by unfold PM; omega) ?_)); exact Sm_r _ _)) hM
              · exact RP_fr (by ((repeat (refine Sm_U (by unfold PP; omega) ?_)); exact Sm_r _ _)) hP
              · exact RS_fr (by ((repeat (refine Sm_U (by unfold PS; omega) ?_)); exact Sm_r _ _)) hS
          · refine ⟨-1, D, n, D, ?_, ?_, rfl, rfl, hR⟩
            · rw [dn_X11_way, b_X11_way_0]
              simp only [z_cd, i10, i11, dnn, rdU, eW, eU, tzC_w, w_shp, w_ptr, Nat.beq_refl, nbz, nb133, nb75, nb55, nb67, n133a, n133b, n75a, n75b, aT, aR, oT, oR, oF, oG, kT, kF, bI, bL, bR, b0, Classical.not_not, not_true_eq_false, not_false_eq_true, and_self, and_true, true_and, ↓reduceIte, decide_true, decide_false, Nat.reduceEqDiff, Nat.reduceLT, Nat.reduceLeDiff, Int.reduceEq, p_isYard, y1, y2, y3, p_isWithin, y4, y5]
            · rw [dn_X12_way, b_X12_way_0]
              simp only [z_cd, i10, i11, dnn, rdU, eW, eU, tzC_w, w_shp, w_ptr, Nat.beq_refl, nbz, nb133, nb75, nb55, nb67, n133a, n133b, n75a, n75b, aT, aR, oT, oR, oF, oG, kT, kF, bI, bL, bR, b0, Classical.not_not, not_true_eq_false, not_false_eq_true, and_self, and_true, true_and, ↓reduceIte, decide_true, decide_false, Nat.reduceEqDiff, Nat.reduceLT, Nat.reduceLeDiff, Int.reduceEq, q_isYard, y1, y2, y3, p_in, y4, y5]
        · refine ⟨-1, D, n, D, ?_, ?_, rfl, rfl, hR⟩
          · rw [dn_X11_way, b_X11_way_0]
            simp only [z_cd, i10, i11, dnn, rdU, eW, eU, tzC_w, w_shp, w_ptr, Nat.beq_refl, nbz, nb133, nb75, nb55, nb67, n133a, n133b, n75a, n75b, aT, aR, oT, oR, oF, oG, kT, kF, bI, bL, bR, b0, Classical.not_not, not_true_eq_false, not_false_eq_true, and_self, and_true, true_and, ↓reduceIte, decide_true, decide_false, Nat.reduceEqDiff, Nat.reduceLT, Nat.reduceLeDiff, Int.reduceEq, p_isYard, y1, y2, y3, p_isWithin, y4]
          · rw [dn_X12_way, b_X12_way_0]
            simp only [z_cd, i10, i11, dnn, rdU, eW, eU, tzC_w, w_shp, w_ptr, Nat.beq_refl, nbz, nb133, nb75, nb55, nb67, n133a, n133b, n75a, n75b, aT, aR, oT, oR, oF, oG, kT, kF, bI, bL, bR, b0, Classical.not_not, not_true_eq_false, not_false_eq_true, and_self, and_true, true_and, ↓reduceIte, decide_true, decide_false, Nat.reduceEqDiff, Nat.reduceLT, Nat.reduceLeDiff, Int.reduceEq, q_isYard, y1, y2, y3, p_in, y4]
    · refine ⟨-1, D, n, D, ?_, ?_, rfl, rfl, hR⟩
      · rw [dn_X11_way, b_X11_way_0]
        simp only [z_cd, i10, i11, dnn, rdU, eW, eU, tzC_w, w_shp, w_ptr, Nat.beq_refl, nbz, nb133, nb75, nb55, nb67, n133a, n133b, n75a, n75b, aT, aR, oT, oR, oF, oG, kT, kF, bI, bL, bR, b0, Classical.not_not, not_true_eq_false, not_false_eq_true, and_self, and_true, true_and, ↓reduceIte, decide_true, decide_false, Nat.reduceEqDiff, Nat.reduceLT, Nat.reduceLeDiff, Int.reduceEq, p_isYard, y1, y2]
      · rw [dn_X12_way, b_X12_way_0]
        simp only [z_cd, i10, i11, dnn, rdU, eW, eU, tzC_w, w_shp, w_ptr, Nat.beq_refl, nbz, nb133, nb75, nb55, nb67, n133a, n133b, n75a, n75b, aT, aR, oT, oR, oF, oG, kT, kF, bI, bL, bR, b0, Classical.not_not, not_true_eq_false, not_false_eq_true, and_self, and_true, true_and, ↓reduceIte, decide_true, decide_false, Nat.reduceEqDiff, Nat.reduceLT, Nat.reduceLeDiff, Int.reduceEq, q_isYard, y1, y2]
  · refine ⟨-1, D, n, D, ?_, ?_, rfl, rfl, hR⟩
    · rw [dn_X11_way, b_X11_way_0]
      simp only [z_cd, i10, i11, dnn, rdU, eW, eU, tzC_w, w_shp, w_ptr, Nat.beq_refl, nbz, nb133, nb75, nb55, nb67, n133a, n133b, n75a, n75b, aT, aR, oT, oR, oF, oG, kT, kF, bI, bL, bR, b0, Classical.not_not, not_true_eq_false, not_false_eq_true, and_self, and_true, true_and, ↓reduceIte, decide_true, decide_false, Nat.reduceEqDiff, Nat.reduceLT, Nat.reduceLeDiff, Int.reduceEq, p_isYard, y1]
    · rw [dn_X12_way, b_X12_way_0]
      simp only [z_cd, i10, i11, dnn, rdU, eW, eU, tzC_w, w_shp, w_ptr, Nat.beq_refl, nbz, nb133, nb75, nb55, nb67, n133a, n133b, n75a, n75b, aT, aR, oT, oR, oF, oG, kT, kF, bI, bL, bR, b0, Classical.not_not, not_true_eq_false, not_false_eq_true, and_self, and_true, true_and, ↓reduceIte, decide_true, decide_false, Nat.reduceEqDiff, Nat.reduceLT, Nat.reduceLeDiff, Int.reduceEq, q_isYard, y1]
set_option maxRecDepth 100000 in
set_option maxHeartbeats 400000 in
theorem ag_ferry {L : Nat} (a0 a1 a2 a3 : Int) : AgI Rel L n_X11_ferry n_X12_ferry [vI a0, vI a1, vI a2, vI a3] := by
  intro D n hR
  obtain ⟨hA, hL, hW, hN, ⟨c1, c2, c3⟩, hT, hD, hK, hB, hQ, hX, hM, hP, hS⟩ := id hR
  by_cases y1 : 0 ≤ a0 ∧ a0 ≤ 7
  · skip
    by_cases y2 : 0 ≤ a1 ∧ a1 ≤ 7
    · skip
      by_cases y4 : 1 ≤ a2 ∧ a2 ≤ 1440
      · skip
        have w1 : w32 (a2 - 1) = a2 - 1 := w32_id ⟨by omega, by omega⟩
        by_cases y5 : 0 ≤ a3 ∧ a3 ≤ a2 - 1
        · skip
          have q8 := hW.1 (8 * a0 + a1) (by omega) (by omega)
          have q9 := hW.1 (8 * a1 + a0) (by omega) (by omega)
          have qs := hW.2.1 a0 a1 (by omega) (by omega) (by omega) (by omega)
          have e8 := q8.1
          have nn : ¬ (8 * a0 + a1 = 8 * a1 + a0) ∨ a0 = a1 := by omega
          have hbs := ib8 y1 y2
          have w2 := w8_b y1 y2
          by_cases cz : D 88 (8 * a0 + a1) = 0
          · have cz2 : D 88 (8 * a0 + a1) ≤ 0 := by clear w1 w2; omega
            · refine ⟨-3, tzRx D 1, n, tzRm (tzRx D 1) 1, ?_, ?_, Sm_1 (by unfold tzRx; (repeat (refine Sm_U (by omega) ?_)); exact Sm_r _ _), Sm_1 (by unfold tzRm tzRx; (repeat (refine Sm_U (by omega) ?_)); exact Sm_r _ _), Rel_ref hR (by omega) (by omega)⟩
              · rw [dn_X11_ferry, b_X11_ferry_0]
                simp only [z_cd, i10, i11, dnn, rdU, eW, eU, tzC_w, w_shp, w_ptr, Nat.beq_refl, nbz, nb133, nb75, nb55, nb67, n133a, n133b, n75a, n75b, aT, aR, oT, oR, oF, oG, kT, kF, bI, bL, bR, b0, Classical.not_not, not_true_eq_false, not_false_eq_true, and_self, and_true, true_and, ↓reduceIte, decide_true, decide_false, Nat.reduceEqDiff, Nat.reduceLT, Nat.reduceLeDiff, Int.reduceEq, p_isYard, y1, y2, p_isWithin, y4, w1, y5, p_joins _ D L n a0 a1 y1 y2, e8, cz2, s_refuse _ D L n (f := 1) (by decide) (by decide)]
              · have cz3 : tzRx D 1 88 (8 * a0 + a1) = 0 := cz
                rw [dn_X12_ferry, b_X12_ferry_0]
                simp only [z_cd, i10, i11, dnn, rdU, eW, eU, tzC_w, w_shp, w_ptr, Nat.beq_refl, nbz, nb133, nb75, nb55, nb67, n133a, n133b, n75a, n75b, aT, aR, oT, oR, oF, oG, kT, kF, bI, bL, bR, b0, Classical.not_not, not_true_eq_false, not_false_eq_true, and_self, and_true, true_and, ↓reduceIte, decide_true, decide_false, Nat.reduceEqDiff, Nat.reduceLT, Nat.reduceLeDiff, Int.reduceEq, q_isYard, y1, y2, p_in, y4, w1, y5, hbs, w2, cz3, s_meets _ (tzRx D 1) L n (f := 1) (by decide) (by decide)]
          · have cz2 : ¬ D 88 (8 * a0 + a1) ≤ 0 := by clear w1 w2; omega
            have ab : a0 ≠ a1 := by
              intro q
              apply cz
              have h9 := hW.2.2.1 a0 (by clear w1 w2; omega) (by clear w1 w2; omega)
              have : 8 * a0 + a1 = 9 * a0 := by clear w1 w2; omega
              rw [this]
              exact h9
            have nn : ¬ (8 * a0 + a1 = 8 * a1 + a0) := by clear w1 w2; omega
            have nm : ¬ (8 * a1 + a0 = 8 * a0 + a1) := by clear w1 w2; omega
            have f8 : D 8 (8 * a1 + a0) = D 88 (8 * a0 + a1) := by rw [q9.1, qs.1]
            have f9 : D 9 (8 * a1 + a0) = D 89 (8 * a0 + a1) := by rw [q9.2.1, qs.2.1]
            have g9 : D 9 (8 * a0 + a1) = D 89 (8 * a0 + a1) := q8.2.1
            have b1 : 1 ≤ D 88 (8 * a0 + a1) ∧ D 88 (8 * a0 + a1) ≤ 600 := by clear w1 w2; omega
            have b2 : 0 ≤ D 89 (8 * a0 + a1) ∧ D 89 (8 * a0 + a1) ≤ 999 := by clear w1 w2; omega
            refine ⟨1, tzU (tzU (tzU (tzU D 10 (8 * a0 + a1) a2) 10 (8 * a1 + a0) a2) 11 (8 * a0 + a1) a3) 11 (8 * a1 + a0) a3, n, tzU (tzU (tzU (tzU (tzU (tzU (tzU (tzU (tzU (tzU (tzU (tzU D 10 (8 * a0 + a1) a2) 10 (8 * a1 + a0) a2) 11 (8 * a0 + a1) a3) 11 (8 * a1 + a0) a3) 88 (8 * a0 + a1) (D 88 (8 * a0 + a1))) 89 (8 * a0 + a1) (D 89 (8 * a0 + a1))) 90 (8 * a0 + a1) a2) 91 (8 * a0 + a1) a3) 88 (8 * a1 + a0) (D 88 (8 * a0 + a1))) 89 (8 * a1 + a0) (D 89 (8 * a0 + a1))) 90 (8 * a1 + a0) a2) 91 (8 * a1 + a0) a3, ?_, ?_, Sm_1 (by (try clear w1 w2); (repeat (refine Sm_U (by omega) ?_)); exact Sm_r _ _), Sm_1 (by (try clear w1 w2); (repeat (refine Sm_U (by omega) ?_)); exact Sm_r _ _), ?_⟩
            · rw [dn_X11_ferry, b_X11_ferry_0]
              simp only [z_cd, i10, i11, dnn, rdU, eW, eU, tzC_w, w_shp, w_ptr, Nat.beq_refl, nbz, nb133, nb75, nb55, nb67, n133a, n133b, n75a, n75b, aT, aR, oT, oR, oF, oG, kT, kF, bI, bL, bR, b0, Classical.not_not, not_true_eq_false, not_false_eq_true, and_self, and_true, true_and, ↓reduceIte, decide_true, decide_false, Nat.reduceEqDiff, Nat.reduceLT, Nat.reduceLeDiff, Int.reduceEq, p_isYard, y1, y2, p_isWithin, y4, w1, y5, p_joins _ D L n a0 a1 y1 y2, e8, cz2, p_makeFerry _ D L n a0 a1 a2 a3 y1 y2]
            · rw [dn_X12_ferry, b_X12_ferry_0]
              simp only [z_cd, i10, i11, dnn, rdU, eW, eU, tzC_w, w_shp, w_ptr, Nat.beq_refl, nbz, nb133, nb75, nb55, nb67, n133a, n133b, n75a, n75b, aT, aR, oT, oR, oF, oG, kT, kF, bI, bL, bR, b0, Classical.not_not, not_true_eq_false, not_false_eq_true, and_self, and_true, true_and, ↓reduceIte, decide_true, decide_false, Nat.reduceEqDiff, Nat.reduceLT, Nat.reduceLeDiff, Int.reduceEq, q_isYard, y1, y2, p_in, y4, w1, y5, hbs, w2, cz, q_setWay _ _ L n a0 a1 (D 88 (8 * a0 + a1)) (D 89 (8 * a0 + a1)) a2 a3 y1 y2, q_setWay _ _ L n a1 a0 (D 88 (8 * a0 + a1)) (D 89 (8 * a0 + a1)) a2 a3 y2 y1]
            · clear w1 w2
              refine ⟨?_, ?_, ?_, ?_, ?_, ?_, ?_, ?_, ?_, ?_, ?_, ?_, ?_, ?_⟩
              · exact RA_fr (by ((repeat (refine Sm_U (by unfold PA; omega) ?_)); exact Sm_r _ _)) hA
              · exact RL_fr (by ((repeat (refine Sm_U (by unfold PL; omega) ?_)); exact Sm_r _ _)) hL
              · exact RW_set (a := a0) (b := a1) (m := D 88 (8 * a0 + a1)) (c := D 89 (8 * a0 + a1)) (e := a2) (f := a3) hW y1 y2 ab b1 b2 (by omega) (by omega)
                  (fun q j hq n1 n2 => by
                    have nq : ¬ (q = 7) := by omega
                    simp only [rdU, n133a, n133b, n75a, n75b, ↓reduceIte, Nat.reduceEqDiff, Nat.reduceLT, Nat.reduceLeDiff, Int.reduceEq, not_true_eq_false, not_false_eq_true, true_and, and_true, and_self, true_or, or_true, or_false, false_or, ite_self, n1, n2, nq])
                  (fun j hj => by
                    rcases hj with q | q
                    · subst q
                      simp only [rdU, n133a, n133b, n75a, n75b, ↓reduceIte, Nat.reduceEqDiff, Nat.reduceLT, Nat.reduceLeDiff, Int.reduceEq, not_true_eq_false, not_false_eq_true, true_and, and_true, and_self, true_or, or_true, or_false, false_or, ite_self, nn, e8, f8, f9, g9]
                    · subst q
                      simp only [rdU, n133a, n133b, n75a, n75b, ↓reduceIte, Nat.reduceEqDiff, Nat.reduceLT, Nat.reduceLeDiff, Int.reduceEq, not_true_eq_false, not_false_eq_true, true_and, and_true, and_self, true_or, or_true, or_false, false_or, ite_self, nm, e8, f8, f9, g9])
                  (by simp only [rdU, n133a, n133b, n75a, n75b, ↓reduceIte, Nat.reduceEqDiff, Nat.reduceLT, Nat.reduceLeDiff, Int.reduceEq, not_true_eq_false, not_false_eq_true, true_and, and_true, and_self, true_or, or_true, or_false, false_or, ite_self]; exact by rw [if_neg cz2])
              · exact RN_fr (by ((repeat (refine Sm_U (by unfold PN; omega) ?_)); exact Sm_r _ _)) hN
              · exact RC_fr (by ((repeat (refine Sm_U (by unfold PC; omega) ?_)); exact Sm_r _ _)) ⟨c1, c2, c3⟩
              · exact RT_fr (by ((repeat (refine Sm_U (by unfold PT; omega) ?_)); exact Sm_r _ _)) hT
              · exact RD_fr (by ((repeat (refine Sm_U (by unfold PD; omega) ?_)); exact Sm_r _ _)) hD
              · exact RK_fr (by ((repeat (refine Sm_U (by unfold PK; omega) ?_)); exact Sm_r _ _)) hK
              · exact RB_fr (by ((repeat (refine Sm_U (by unfold PB; omega) ?_)); exact Sm_r _ _)) hB
              · exact RQ_fr (by ((repeat (refine Sm_U (by unfold PQ; omega) ?_)); exact Sm_r _ _)) hQ
              · exact RX_fr (by ((repeat (refine Sm_U (by unfold PX; omega) ?_)); exact Sm_r _ _)) hX
              · exact RM_fr (by ((repeat (refine Sm_U (by unfold PM; omega) ?_)); exact Sm_r _ _)) hM
              · exact RP_fr (by ((repeat (refine Sm_U (by unfold PP; omega) ?_)); exact Sm_r _ _)) hP
              · exact RS_fr (by ((repeat (refine Sm_U (by unfold PS; omega) ?_)); exact Sm_r _ _)) hS
        · refine ⟨-1, D, n, D, ?_, ?_, rfl, rfl, hR⟩
          · rw [dn_X11_ferry, b_X11_ferry_0]
            simp only [z_cd, i10, i11, dnn, rdU, eW, eU, tzC_w, w_shp, w_ptr, Nat.beq_refl, nbz, nb133, nb75, nb55, nb67, n133a, n133b, n75a, n75b, aT, aR, oT, oR, oF, oG, kT, kF, bI, bL, bR, b0, Classical.not_not, not_true_eq_false, not_false_eq_true, and_self, and_true, true_and, ↓reduceIte, decide_true, decide_false, Nat.reduceEqDiff, Nat.reduceLT, Nat.reduceLeDiff, Int.reduceEq, p_isYard, y1, y2, p_isWithin, y4, w1, y5]
          · rw [dn_X12_ferry, b_X12_ferry_0]
            simp only [z_cd, i10, i11, dnn, rdU, eW, eU, tzC_w, w_shp, w_ptr, Nat.beq_refl, nbz, nb133, nb75, nb55, nb67, n133a, n133b, n75a, n75b, aT, aR, oT, oR, oF, oG, kT, kF, bI, bL, bR, b0, Classical.not_not, not_true_eq_false, not_false_eq_true, and_self, and_true, true_and, ↓reduceIte, decide_true, decide_false, Nat.reduceEqDiff, Nat.reduceLT, Nat.reduceLeDiff, Int.reduceEq, b_X12_ferry_37, q_isYard, y1, y2, p_in, y4, w1, y5]
      · refine ⟨-1, D, n, D, ?_, ?_, rfl, rfl, hR⟩
        · rw [dn_X11_ferry, b_X11_ferry_0]
          simp only [z_cd, i10, i11, dnn, rdU, eW, eU, tzC_w, w_shp, w_ptr, Nat.beq_refl, nbz, nb133, nb75, nb55, nb67, n133a, n133b, n75a, n75b, aT, aR, oT, oR, oF, oG, kT, kF, bI, bL, bR, b0, Classical.not_not, not_true_eq_false, not_false_eq_true, and_self, and_true, true_and, ↓reduceIte, decide_true, decide_false, Nat.reduceEqDiff, Nat.reduceLT, Nat.reduceLeDiff, Int.reduceEq, p_isYard, y1, y2, p_isWithin, y4]
        · rw [dn_X12_ferry, b_X12_ferry_0]
          simp only [z_cd, i10, i11, dnn, rdU, eW, eU, tzC_w, w_shp, w_ptr, Nat.beq_refl, nbz, nb133, nb75, nb55, nb67, n133a, n133b, n75a, n75b, aT, aR, oT, oR, oF, oG, kT, kF, bI, bL, bR, b0, Classical.not_not, not_true_eq_false, not_false_eq_true, and_self, and_true, true_and, ↓reduceIte, decide_true, decide_false, Nat.reduceEqDiff, Nat.reduceLT, Nat.reduceLeDiff, Int.reduceEq, b_X12_ferry_37, q_isYard, y1, y2, p_in, y4]
    · refine ⟨-1, D, n, D, ?_, ?_, rfl, rfl, hR⟩
      · rw [dn_X11_ferry, b_X11_ferry_0]
        simp only [z_cd, i10, i11, dnn, rdU, eW, eU, tzC_w, w_shp, w_ptr, Nat.beq_refl, nbz, nb133, nb75, nb55, nb67, n133a, n133b, n75a, n75b, aT, aR, oT, oR, oF, oG, kT, kF, bI, bL, bR, b0, Classical.not_not, not_true_eq_false, not_false_eq_true, and_self, and_true, true_and, ↓reduceIte, decide_true, decide_false, Nat.reduceEqDiff, Nat.reduceLT, Nat.reduceLeDiff, Int.reduceEq, p_isYard, y1, y2]
      · rw [dn_X12_ferry, b_X12_ferry_0]
        simp only [z_cd, i10, i11, dnn, rdU, eW, eU, tzC_w, w_shp, w_ptr, Nat.beq_refl, nbz, nb133, nb75, nb55, nb67, n133a, n133b, n75a, n75b, aT, aR, oT, oR, oF, oG, kT, kF, bI, bL, bR, b0, Classical.not_not, not_true_eq_false, not_false_eq_true, and_self, and_true, true_and, ↓reduceIte, decide_true, decide_false, Nat.reduceEqDiff, Nat.reduceLT, Nat.reduceLeDiff, Int.reduceEq, b_X12_ferry_37, q_isYard, y1, y2]
  · refine ⟨-1, D, n, D, ?_, ?_, rfl, rfl, hR⟩
    · rw [dn_X11_ferry, b_X11_ferry_0]
      simp only [z_cd, i10, i11, dnn, rdU, eW, eU, tzC_w, w_shp, w_ptr, Nat.beq_refl, nbz, nb133, nb75, nb55, nb67, n133a, n133b, n75a, n75b, aT, aR, oT, oR, oF, oG, kT, kF, bI, bL, bR, b0, Classical.not_not, not_true_eq_false, not_false_eq_true, and_self, and_true, true_and, ↓reduceIte, decide_true, decide_false, Nat.reduceEqDiff, Nat.reduceLT, Nat.reduceLeDiff, Int.reduceEq, p_isYard, y1]
    · rw [dn_X12_ferry, b_X12_ferry_0]
      simp only [z_cd, i10, i11, dnn, rdU, eW, eU, tzC_w, w_shp, w_ptr, Nat.beq_refl, nbz, nb133, nb75, nb55, nb67, n133a, n133b, n75a, n75b, aT, aR, oT, oR, oF, oG, kT, kF, bI, bL, bR, b0, Classical.not_not, not_true_eq_false, not_false_eq_true, and_self, and_true, true_and, ↓reduceIte, decide_true, decide_false, Nat.reduceEqDiff, Nat.reduceLT, Nat.reduceLeDiff, Int.reduceEq, b_X12_ferry_37, q_isYard, y1]
