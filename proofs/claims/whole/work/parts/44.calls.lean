set_option maxRecDepth 100000 in
set_option maxHeartbeats 400000 in
theorem ag_tractor {L : Nat} (a0 a1 : Int) : AgI Rel L n_X11_tractor n_X12_tractor [vI a0, vI a1] := by
  intro D n hR
  obtain ⟨hA, hL, hW, hN, ⟨c1, c2, c3⟩, hT, hD, hK, hB, hQ, hX, hM, hP, hS⟩ := id hR
  by_cases ct : 0 ≤ a0 ∧ a0 ≤ 5
  · obtain ⟨k, e⟩ : ∃ k : Nat, a0 = k := ⟨a0.toNat, by omega⟩
    subst e
    have hk : k < 6 := by omega
    have hb : tqib (k : Int) 6 = true := tqib_y (by omega) (by omega)
    have r := hK k hk
    have r2 := r
    by_cases cw : 0 ≤ a1 ∧ a1 ≤ 4
    · refine ⟨1, tzU D 53 2 (kS D k a1), n, tzU (tzU D 53 2 (kS D k a1)) 81 2 (kS D k a1), ?_, ?_, Sm_1 (by (repeat (refine Sm_U (by omega) ?_)); exact Sm_r _ _), Sm_1 (by (repeat (refine Sm_U (by omega) ?_)); exact Sm_r _ _), Rel_ask hR _⟩
      · rw [dn_X11_tractor, b_X11_tractor_0]
        simp only [z_cd, i10, i11, dnn, rdU, eW, eU, tzC_w, w_shp, w_ptr, Nat.beq_refl, nbz, nb133, nb75, nb55, nb67, n133a, n133b, n75a, n75b, aT, aR, oT, oR, oF, oG, kT, kF, bI, bL, bR, b0, Classical.not_not, not_true_eq_false, not_false_eq_true, and_self, and_true, true_and, ↓reduceIte, decide_true, decide_false, Nat.reduceEqDiff, Nat.reduceLT, Nat.reduceLeDiff, Int.reduceEq, s_tractorAt_y _ D L n hk, p_isWithin, cw, w_tractor D L n hk, p_ksays _ D L n k hk, s_tells]
      · have eM : kM (tzU D 53 2 (kS D k a1)) k a1 = kS D k a1 := (kS_M r a1).symm
        rw [dn_X12_tractor, b_X12_tractor_0]
        simp only [z_cd, i10, i11, dnn, rdU, eW, eU, tzC_w, w_shp, w_ptr, Nat.beq_refl, nbz, nb133, nb75, nb55, nb67, n133a, n133b, n75a, n75b, aT, aR, oT, oR, oF, oG, kT, kF, bI, bL, bR, b0, Classical.not_not, not_true_eq_false, not_false_eq_true, and_self, and_true, true_and, ↓reduceIte, decide_true, decide_false, Nat.reduceEqDiff, Nat.reduceLT, Nat.reduceLeDiff, Int.reduceEq, q_isTractor, ct, p_in, cw, q_ktells _ _ L n k hk, q_ask, eM]
    · refine ⟨-1, D, n, D, ?_, ?_, rfl, rfl, hR⟩
      · rw [dn_X11_tractor, b_X11_tractor_0]
        simp only [z_cd, i10, i11, dnn, rdU, eW, eU, tzC_w, w_shp, w_ptr, Nat.beq_refl, nbz, nb133, nb75, nb55, nb67, n133a, n133b, n75a, n75b, aT, aR, oT, oR, oF, oG, kT, kF, bI, bL, bR, b0, Classical.not_not, not_true_eq_false, not_false_eq_true, and_self, and_true, true_and, ↓reduceIte, decide_true, decide_false, Nat.reduceEqDiff, Nat.reduceLT, Nat.reduceLeDiff, Int.reduceEq, s_tractorAt_y _ D L n hk, p_isWithin, cw]
      · rw [dn_X12_tractor, b_X12_tractor_0]
        simp only [z_cd, i10, i11, dnn, rdU, eW, eU, tzC_w, w_shp, w_ptr, Nat.beq_refl, nbz, nb133, nb75, nb55, nb67, n133a, n133b, n75a, n75b, aT, aR, oT, oR, oF, oG, kT, kF, bI, bL, bR, b0, Classical.not_not, not_true_eq_false, not_false_eq_true, and_self, and_true, true_and, ↓reduceIte, decide_true, decide_false, Nat.reduceEqDiff, Nat.reduceLT, Nat.reduceLeDiff, Int.reduceEq, q_isTractor, ct, p_in, cw]
  · refine ⟨-1, D, n, D, ?_, ?_, rfl, rfl, hR⟩
    · rw [dn_X11_tractor, b_X11_tractor_0]
      simp only [z_cd, i10, i11, dnn, rdU, eW, eU, tzC_w, w_shp, w_ptr, Nat.beq_refl, nbz, nb133, nb75, nb55, nb67, n133a, n133b, n75a, n75b, aT, aR, oT, oR, oF, oG, kT, kF, bI, bL, bR, b0, Classical.not_not, not_true_eq_false, not_false_eq_true, and_self, and_true, true_and, ↓reduceIte, decide_true, decide_false, Nat.reduceEqDiff, Nat.reduceLT, Nat.reduceLeDiff, Int.reduceEq, s_tractorAt_n _ D L n (a := a0) (by omega), p_isWithin, p_isYard]
    · rw [dn_X12_tractor, b_X12_tractor_0]
      simp only [z_cd, i10, i11, dnn, rdU, eW, eU, tzC_w, w_shp, w_ptr, Nat.beq_refl, nbz, nb133, nb75, nb55, nb67, n133a, n133b, n75a, n75b, aT, aR, oT, oR, oF, oG, kT, kF, bI, bL, bR, b0, Classical.not_not, not_true_eq_false, not_false_eq_true, and_self, and_true, true_and, ↓reduceIte, decide_true, decide_false, Nat.reduceEqDiff, Nat.reduceLT, Nat.reduceLeDiff, Int.reduceEq, q_isTractor, ct, p_in, q_isYard]
set_option maxRecDepth 100000 in
set_option maxHeartbeats 400000 in
theorem ag_park {L : Nat} (a0 a1 : Int) : AgI Rel L n_X11_park n_X12_park [vI a0, vI a1] := by
  intro D n hR
  obtain ⟨hA, hL, hW, hN, ⟨c1, c2, c3⟩, hT, hD, hK, hB, hQ, hX, hM, hP, hS⟩ := id hR
  by_cases ct : 0 ≤ a0 ∧ a0 ≤ 5
  · obtain ⟨k, e⟩ : ∃ k : Nat, a0 = k := ⟨a0.toNat, by omega⟩
    subst e
    have hk : k < 6 := by omega
    have hb : tqib (k : Int) 6 = true := tqib_y (by omega) (by omega)
    have r := hK k hk
    have r2 := r
    by_cases cw : 0 ≤ a1 ∧ a1 ≤ 7
    · have e1 : D (75 + k) 1 = D 106 k := r.2.1
      have e2 : D 2 13 = D 81 5 := hN.1
      by_cases co : D 81 5 < D 106 k
      · refine ⟨-4, D, n, D, ?_, ?_, rfl, rfl, hR⟩
        · rw [dn_X11_park, b_X11_park_0]
          simp only [z_cd, i10, i11, dnn, rdU, eW, eU, tzC_w, w_shp, w_ptr, Nat.beq_refl, nbz, nb133, nb75, nb55, nb67, n133a, n133b, n75a, n75b, aT, aR, oT, oR, oF, oG, kT, kF, bI, bL, bR, b0, Classical.not_not, not_true_eq_false, not_false_eq_true, and_self, and_true, true_and, ↓reduceIte, decide_true, decide_false, Nat.reduceEqDiff, Nat.reduceLT, Nat.reduceLeDiff, Int.reduceEq, s_tractorAt_y _ D L n hk, p_isYard, cw, w_tractor D L n hk, p_onWay _ D L n k hk, e1, e2, co]
        · rw [dn_X12_park, b_X12_park_0]
          simp only [z_cd, i10, i11, dnn, rdU, eW, eU, tzC_w, w_shp, w_ptr, Nat.beq_refl, nbz, nb133, nb75, nb55, nb67, n133a, n133b, n75a, n75b, aT, aR, oT, oR, oF, oG, kT, kF, bI, bL, bR, b0, Classical.not_not, not_true_eq_false, not_false_eq_true, and_self, and_true, true_and, ↓reduceIte, decide_true, decide_false, Nat.reduceEqDiff, Nat.reduceLT, Nat.reduceLeDiff, Int.reduceEq, q_isTractor, ct, q_isYard, cw, q_onWay _ D L n k hk, co]
      · refine ⟨1, tzU (tzU (tzU D (75 + k) 0 a1) (75 + k) 1 (D 2 13)) (75 + k) 3 0, n, tzU (tzU (tzU (tzU (tzU (tzU D (75 + k) 0 a1) (75 + k) 1 (D 2 13)) (75 + k) 3 0) 105 k a1) 106 k (D 81 5)) 108 k 0, ?_, ?_, Sm_1 (by (repeat (refine Sm_U (by omega) ?_)); exact Sm_r _ _), Sm_1 (by (repeat (refine Sm_U (by omega) ?_)); exact Sm_r _ _), ?_⟩
        · rw [dn_X11_park, b_X11_park_0]
          simp only [z_cd, i10, i11, dnn, rdU, eW, eU, tzC_w, w_shp, w_ptr, Nat.beq_refl, nbz, nb133, nb75, nb55, nb67, n133a, n133b, n75a, n75b, aT, aR, oT, oR, oF, oG, kT, kF, bI, bL, bR, b0, Classical.not_not, not_true_eq_false, not_false_eq_true, and_self, and_true, true_and, ↓reduceIte, decide_true, decide_false, Nat.reduceEqDiff, Nat.reduceLT, Nat.reduceLeDiff, Int.reduceEq, s_tractorAt_y _ D L n hk, p_isYard, cw, w_tractor D L n hk, p_onWay _ D L n k hk, e1, e2, co]
        · rw [dn_X12_park, b_X12_park_0]
          simp only [z_cd, i10, i11, dnn, rdU, eW, eU, tzC_w, w_shp, w_ptr, Nat.beq_refl, nbz, nb133, nb75, nb55, nb67, n133a, n133b, n75a, n75b, aT, aR, oT, oR, oF, oG, kT, kF, bI, bL, bR, b0, Classical.not_not, not_true_eq_false, not_false_eq_true, and_self, and_true, true_and, ↓reduceIte, decide_true, decide_false, Nat.reduceEqDiff, Nat.reduceLT, Nat.reduceLeDiff, Int.reduceEq, q_isTractor, ct, q_isYard, cw, q_onWay _ _ L n k hk, co, hb, n75c hk, n75d hk]
        · refine ⟨?_, ?_, ?_, ?_, ?_, ?_, ?_, ?_, ?_, ?_, ?_, ?_, ?_, ?_⟩
          · exact RA_fr (by ((repeat (refine Sm_U (by unfold PA; omega) ?_)); exact Sm_r _ _)) hA
          · exact RL_fr (by ((repeat (refine Sm_U (by unfold PL; omega) ?_)); exact Sm_r _ _)) hL
          · exact RW_fr (by ((repeat (refine Sm_U (by unfold PW; omega) ?_)); exact Sm_r _ _)) hW
          · exact RN_fr (by ((repeat (refine Sm_U (by unfold PN; omega) ?_)); exact Sm_r _ _)) hN
          · exact RC_fr (by ((repeat (refine Sm_U (by unfold PC; omega) ?_)); exact Sm_r _ _)) ⟨c1, c2, c3⟩
          · exact RT_fr (by ((repeat (refine Sm_U (by unfold PT; omega) ?_)); exact Sm_r _ _)) hT
          · exact RD_fr (by ((repeat (refine Sm_U (by unfold PD; omega) ?_)); exact Sm_r _ _)) hD
          · refine RK_up (t := k) hK (by (repeat (refine Sm_U (by unfold PKx; omega) ?_)); exact Sm_r _ _) ?_
            have q1 := hN.1
            have q2 := hN.2
            unfold KR at r2 ⊢
            simp only [rdU, n133a, n133b, n75a, n75b, ↓reduceIte, Nat.reduceEqDiff, Nat.reduceLT, Nat.reduceLeDiff, Int.reduceEq, not_true_eq_false, not_false_eq_true, true_and, and_true, and_self, true_or, or_true, or_false, false_or, ite_self, n75c hk, n75d hk]
            omega
          · exact RB_fr (by ((repeat (refine Sm_U (by unfold PB; omega) ?_)); exact Sm_r _ _)) hB
          · exact RQ_fr (by ((repeat (refine Sm_U (by unfold PQ; omega) ?_)); exact Sm_r _ _)) hQ
          · exact RX_fr (by ((repeat (refine Sm_U (by unfold PX; omega) ?_)); exact Sm_r _ _)) hX
          · exact RM_fr (by ((repeat (refine Sm_U (by unfold PM; omega) ?_)); exact Sm_r _ _)) hM
          · exact RP_fr (by ((repeat (refine Sm_U (by unfold PP; omega) ?_)); exact Sm_r _ _)) hP
          · exact RS_fr (by ((repeat (refine Sm_U (by unfold PS; omega) ?_)); exact Sm_r _ _)) hS
    · refine ⟨-1, D, n, D, ?_, ?_, rfl, rfl, hR⟩
      · rw [dn_X11_park, b_X11_park_0]
        simp only [z_cd, i10, i11, dnn, rdU, eW, eU, tzC_w, w_shp, w_ptr, Nat.beq_refl, nbz, nb133, nb75, nb55, nb67, n133a, n133b, n75a, n75b, aT, aR, oT, oR, oF, oG, kT, kF, bI, bL, bR, b0, Classical.not_not, not_true_eq_false, not_false_eq_true, and_self, and_true, true_and, ↓reduceIte, decide_true, decide_false, Nat.reduceEqDiff, Nat.reduceLT, Nat.reduceLeDiff, Int.reduceEq, s_tractorAt_y _ D L n hk, p_isYard, cw]
      · rw [dn_X12_park, b_X12_park_0]
        simp only [z_cd, i10, i11, dnn, rdU, eW, eU, tzC_w, w_shp, w_ptr, Nat.beq_refl, nbz, nb133, nb75, nb55, nb67, n133a, n133b, n75a, n75b, aT, aR, oT, oR, oF, oG, kT, kF, bI, bL, bR, b0, Classical.not_not, not_true_eq_false, not_false_eq_true, and_self, and_true, true_and, ↓reduceIte, decide_true, decide_false, Nat.reduceEqDiff, Nat.reduceLT, Nat.reduceLeDiff, Int.reduceEq, q_isTractor, ct, q_isYard, cw]
  · refine ⟨-1, D, n, D, ?_, ?_, rfl, rfl, hR⟩
    · rw [dn_X11_park, b_X11_park_0]
      simp only [z_cd, i10, i11, dnn, rdU, eW, eU, tzC_w, w_shp, w_ptr, Nat.beq_refl, nbz, nb133, nb75, nb55, nb67, n133a, n133b, n75a, n75b, aT, aR, oT, oR, oF, oG, kT, kF, bI, bL, bR, b0, Classical.not_not, not_true_eq_false, not_false_eq_true, and_self, and_true, true_and, ↓reduceIte, decide_true, decide_false, Nat.reduceEqDiff, Nat.reduceLT, Nat.reduceLeDiff, Int.reduceEq, s_tractorAt_n _ D L n (a := a0) (by omega), p_isWithin, p_isYard]
    · rw [dn_X12_park, b_X12_park_0]
      simp only [z_cd, i10, i11, dnn, rdU, eW, eU, tzC_w, w_shp, w_ptr, Nat.beq_refl, nbz, nb133, nb75, nb55, nb67, n133a, n133b, n75a, n75b, aT, aR, oT, oR, oF, oG, kT, kF, bI, bL, bR, b0, Classical.not_not, not_true_eq_false, not_false_eq_true, and_self, and_true, true_and, ↓reduceIte, decide_true, decide_false, Nat.reduceEqDiff, Nat.reduceLT, Nat.reduceLeDiff, Int.reduceEq, q_isTractor, ct, p_in, q_isYard]
set_option maxRecDepth 100000 in
set_option maxHeartbeats 400000 in
theorem ag_slide {L : Nat} (a0 a1 : Int) : AgI Rel L n_X11_slide n_X12_slide [vI a0, vI a1] := by
  intro D n hR
  obtain ⟨hA, hL, hW, hN, ⟨c1, c2, c3⟩, hT, hD, hK, hB, hQ, hX, hM, hP, hS⟩ := id hR
  by_cases ct : 0 ≤ a0 ∧ a0 < n
  · obtain ⟨t, e⟩ : ∃ t : Nat, a0 = t := ⟨a0.toNat, by omega⟩
    subst e
    have ht : t < n := by omega
    have ht12 : t < 12 := by omega
    have hb : tqib (t : Int) 12 = true := tqib_y (by omega) (by omega)
    have r := hT.1 t ht
    have r2 := r
    by_cases cw : 60 ≤ a1 ∧ a1 ≤ 120
    · have e1 : D (133 + t) 9 = D 98 t := r.2.2.2.2.2.2.2.2.1
      refine ⟨D 98 t, tzU D (133 + t) 9 a1, n, tzU (tzU D (133 + t) 9 a1) 98 t a1, ?_, ?_, Sm_1 (by (repeat (refine Sm_U (by omega) ?_)); exact Sm_r _ _), Sm_1 (by (repeat (refine Sm_U (by omega) ?_)); exact Sm_r _ _), ?_⟩
      · rw [dn_X11_slide, b_X11_slide_0]
        simp only [z_cd, i10, i11, dnn, rdU, eW, eU, tzC_w, w_shp, w_ptr, Nat.beq_refl, nbz, nb133, nb75, nb55, nb67, n133a, n133b, n75a, n75b, aT, aR, oT, oR, oF, oG, kT, kF, bI, bL, bR, b0, Classical.not_not, not_true_eq_false, not_false_eq_true, and_self, and_true, true_and, ↓reduceIte, decide_true, decide_false, Nat.reduceEqDiff, Nat.reduceLT, Nat.reduceLeDiff, Int.reduceEq, p_trailerAt_y _ D L n t c1 c3 ht, p_isWithin, cw, w_trailer D L n ht, e1]
      · rw [dn_X12_slide, b_X12_slide_0]
        simp only [z_cd, i10, i11, dnn, rdU, eW, eU, tzC_w, w_shp, w_ptr, Nat.beq_refl, nbz, nb133, nb75, nb55, nb67, n133a, n133b, n75a, n75b, aT, aR, oT, oR, oF, oG, kT, kF, bI, bL, bR, b0, Classical.not_not, not_true_eq_false, not_false_eq_true, and_self, and_true, true_and, ↓reduceIte, decide_true, decide_false, Nat.reduceEqDiff, Nat.reduceLT, Nat.reduceLeDiff, Int.reduceEq, q_isTrailer _ (tzU D (133 + t) 9 a1) L n t (by simp only [rdU, n133a, n133b, n75a, n75b, ↓reduceIte, Nat.reduceEqDiff, Nat.reduceLT, Nat.reduceLeDiff, Int.reduceEq, not_true_eq_false, not_false_eq_true, true_and, and_true, and_self, true_or, or_true, or_false, false_or, ite_self]; exact c2) c3, ct, q_isAxle, cw, hb]
      · refine ⟨?_, ?_, ?_, ?_, ?_, ?_, ?_, ?_, ?_, ?_, ?_, ?_, ?_, ?_⟩
        · exact RA_fr (by ((repeat (refine Sm_U (by unfold PA; omega) ?_)); exact Sm_r _ _)) hA
        · exact RL_fr (by ((repeat (refine Sm_U (by unfold PL; omega) ?_)); exact Sm_r _ _)) hL
        · exact RW_fr (by ((repeat (refine Sm_U (by unfold PW; omega) ?_)); exact Sm_r _ _)) hW
        · exact RN_fr (by ((repeat (refine Sm_U (by unfold PN; omega) ?_)); exact Sm_r _ _)) hN
        · exact RC_fr (by ((repeat (refine Sm_U (by unfold PC; omega) ?_)); exact Sm_r _ _)) ⟨c1, c2, c3⟩
        · refine RT_up hT ht (by (repeat (refine Sm_U (by unfold PTx; omega) ?_)); exact Sm_r _ _) ?_
          unfold TR in32 at r2 ⊢
          simp only [rdU, n133a, n133b, n75a, n75b, ↓reduceIte, Nat.reduceEqDiff, Nat.reduceLT, Nat.reduceLeDiff, Int.reduceEq, not_true_eq_false, not_false_eq_true, true_and, and_true, and_self, true_or, or_true, or_false, false_or, ite_self]
          omega
        · exact RD_fr (by ((repeat (refine Sm_U (by unfold PD; omega) ?_)); exact Sm_r _ _)) hD
        · exact RK_fr (by ((repeat (refine Sm_U (by unfold PK; omega) ?_)); exact Sm_r _ _)) hK
        · exact RB_fr (by ((repeat (refine Sm_U (by unfold PB; omega) ?_)); exact Sm_r _ _)) hB
        · exact RQ_fr (by ((repeat (refine Sm_U (by unfold PQ; omega) ?_)); exact Sm_r _ _)) hQ
        · exact RX_fr (by ((repeat (refine Sm_U (by unfold PX; omega) ?_)); exact Sm_r _ _)) hX
        · exact RM_fr (by ((repeat (refine Sm_U (by unfold PM; omega) ?_)); exact Sm_r _ _)) hM
        · exact RP_fr (by ((repeat (refine Sm_U (by unfold PP; omega) ?_)); exact Sm_r _ _)) hP
        · exact RS_fr (by ((repeat (refine Sm_U (by unfold PS; omega) ?_)); exact Sm_r _ _)) hS
    · refine ⟨-1, D, n, D, ?_, ?_, rfl, rfl, hR⟩
      · rw [dn_X11_slide, b_X11_slide_0]
        simp only [z_cd, i10, i11, dnn, rdU, eW, eU, tzC_w, w_shp, w_ptr, Nat.beq_refl, nbz, nb133, nb75, nb55, nb67, n133a, n133b, n75a, n75b, aT, aR, oT, oR, oF, oG, kT, kF, bI, bL, bR, b0, Classical.not_not, not_true_eq_false, not_false_eq_true, and_self, and_true, true_and, ↓reduceIte, decide_true, decide_false, Nat.reduceEqDiff, Nat.reduceLT, Nat.reduceLeDiff, Int.reduceEq, p_trailerAt_y _ D L n t c1 c3 ht, p_isWithin, cw]
      · rw [dn_X12_slide, b_X12_slide_0]
        simp only [z_cd, i10, i11, dnn, rdU, eW, eU, tzC_w, w_shp, w_ptr, Nat.beq_refl, nbz, nb133, nb75, nb55, nb67, n133a, n133b, n75a, n75b, aT, aR, oT, oR, oF, oG, kT, kF, bI, bL, bR, b0, Classical.not_not, not_true_eq_false, not_false_eq_true, and_self, and_true, true_and, ↓reduceIte, decide_true, decide_false, Nat.reduceEqDiff, Nat.reduceLT, Nat.reduceLeDiff, Int.reduceEq, q_isTrailer _ D L n t c2 c3, ct, q_isAxle, cw]
  · refine ⟨-1, D, n, D, ?_, ?_, rfl, rfl, hR⟩
    · rw [dn_X11_slide, b_X11_slide_0]
      simp only [z_cd, i10, i11, dnn, rdU, eW, eU, tzC_w, w_shp, w_ptr, Nat.beq_refl, nbz, nb133, nb75, nb55, nb67, n133a, n133b, n75a, n75b, aT, aR, oT, oR, oF, oG, kT, kF, bI, bL, bR, b0, Classical.not_not, not_true_eq_false, not_false_eq_true, and_self, and_true, true_and, ↓reduceIte, decide_true, decide_false, Nat.reduceEqDiff, Nat.reduceLT, Nat.reduceLeDiff, Int.reduceEq, p_trailerAt_n _ D L n a0 c1 ct, p_isWithin, p_isYard]
    · rw [dn_X12_slide, b_X12_slide_0]
      simp only [z_cd, i10, i11, dnn, rdU, eW, eU, tzC_w, w_shp, w_ptr, Nat.beq_refl, nbz, nb133, nb75, nb55, nb67, n133a, n133b, n75a, n75b, aT, aR, oT, oR, oF, oG, kT, kF, bI, bL, bR, b0, Classical.not_not, not_true_eq_false, not_false_eq_true, and_self, and_true, true_and, ↓reduceIte, decide_true, decide_false, Nat.reduceEqDiff, Nat.reduceLT, Nat.reduceLeDiff, Int.reduceEq, q_isTrailer _ D L n a0 c2 c3, ct, p_in, q_isYard]
set_option maxRecDepth 100000 in
set_option maxHeartbeats 400000 in
theorem ag_unload {L : Nat} (a0 : Int) : AgI Rel L n_X11_unload n_X12_unload [vI a0] := by
  intro D n hR
  obtain ⟨hA, hL, hW, hN, ⟨c1, c2, c3⟩, hT, hD, hK, hB, hQ, hX, hM, hP, hS⟩ := id hR
  by_cases ct : 0 ≤ a0 ∧ a0 < n
  · obtain ⟨t, e⟩ : ∃ t : Nat, a0 = t := ⟨a0.toNat, by omega⟩
    subst e
    have ht : t < n := by omega
    have ht12 : t < 12 := by omega
    have hb : tqib (t : Int) 12 = true := tqib_y (by omega) (by omega)
    have r := hT.1 t ht
    have r2 := r
    have e1 : D (133 + t) 10 = D 99 t := (hD.1 t ht).1
    refine ⟨D 99 t, tzU (tzU (tzU D (133 + t) 10 0) (133 + t) 11 0) (133 + t) 12 0, n, tzU (tzU (tzU (tzU D (133 + t) 10 0) (133 + t) 11 0) (133 + t) 12 0) 99 t 0, ?_, ?_, Sm_1 (by (repeat (refine Sm_U (by omega) ?_)); exact Sm_r _ _), Sm_1 (by (repeat (refine Sm_U (by omega) ?_)); exact Sm_r _ _), ?_⟩
    · rw [dn_X11_unload, b_X11_unload_0]
      simp only [z_cd, i10, i11, dnn, rdU, eW, eU, tzC_w, w_shp, w_ptr, Nat.beq_refl, nbz, nb133, nb75, nb55, nb67, n133a, n133b, n75a, n75b, aT, aR, oT, oR, oF, oG, kT, kF, bI, bL, bR, b0, Classical.not_not, not_true_eq_false, not_false_eq_true, and_self, and_true, true_and, ↓reduceIte, decide_true, decide_false, Nat.reduceEqDiff, Nat.reduceLT, Nat.reduceLeDiff, Int.reduceEq, p_trailerAt_y _ D L n t c1 c3 ht, w_trailer D L n ht, e1]
    · rw [dn_X12_unload, b_X12_unload_0]
      simp only [z_cd, i10, i11, dnn, rdU, eW, eU, tzC_w, w_shp, w_ptr, Nat.beq_refl, nbz, nb133, nb75, nb55, nb67, n133a, n133b, n75a, n75b, aT, aR, oT, oR, oF, oG, kT, kF, bI, bL, bR, b0, Classical.not_not, not_true_eq_false, not_false_eq_true, and_self, and_true, true_and, ↓reduceIte, decide_true, decide_false, Nat.reduceEqDiff, Nat.reduceLT, Nat.reduceLeDiff, Int.reduceEq, q_isTrailer _ (tzU (tzU (tzU D (133 + t) 10 0) (133 + t) 11 0) (133 + t) 12 0) L n t (by simp only [rdU, n133a, n133b, n75a, n75b, ↓reduceIte, Nat.reduceEqDiff, Nat.reduceLT, Nat.reduceLeDiff, Int.reduceEq, not_true_eq_false, not_false_eq_true, true_and, and_true, and_self, true_or, or_true, or_false, false_or, ite_self]; exact c2) c3, ct, hb]
    · refine ⟨?_, ?_, ?_, ?_, ?_, ?_, ?_, ?_, ?_, ?_, ?_, ?_, ?_, ?_⟩
      · exact RA_fr (by ((repeat (refine Sm_U (by unfold PA; omega) ?_)); exact Sm_r _ _)) hA
      · exact RL_fr (by ((repeat (refine Sm_U (by unfold PL; omega) ?_)); exact Sm_r _ _)) hL
      · exact RW_fr (by ((repeat (refine Sm_U (by unfold PW; omega) ?_)); exact Sm_r _ _)) hW
      · exact RN_fr (by ((repeat (refine Sm_U (by unfold PN; omega) ?_)); exact Sm_r _ _)) hN
      · exact RC_fr (by ((repeat (refine Sm_U (by unfold PC; omega) ?_)); exact Sm_r _ _)) ⟨c1, c2, c3⟩
      · exact RT_fr (by ((repeat (refine Sm_U (by unfold PT; omega) ?_)); exact Sm_r _ _)) hT
      · refine RD_up hD ht (by (repeat (refine Sm_U (by unfold PDx; omega) ?_)); exact Sm_r _ _) ?_
        unfold LD
        simp only [rdU, n133a, n133b, n75a, n75b, ↓reduceIte, Nat.reduceEqDiff, Nat.reduceLT, Nat.reduceLeDiff, Int.reduceEq, not_true_eq_false, not_false_eq_true, true_and, and_true, and_self, true_or, or_true, or_false, false_or, ite_self]
        refine ⟨by omega, by omega, rfl, rfl, fun k hk => absurd hk (by omega)⟩
      · exact RK_fr (by ((repeat (refine Sm_U (by unfold PK; omega) ?_)); exact Sm_r _ _)) hK
      · exact RB_fr (by ((repeat (refine Sm_U (by unfold PB; omega) ?_)); exact Sm_r _ _)) hB
      · exact RQ_fr (by ((repeat (refine Sm_U (by unfold PQ; omega) ?_)); exact Sm_r _ _)) hQ
      · exact RX_fr (by ((repeat (refine Sm_U (by unfold PX; omega) ?_)); exact Sm_r _ _)) hX
      · exact RM_fr (by ((repeat (refine Sm_U (by unfold PM; omega) ?_)); exact Sm_r _ _)) hM
      · exact RP_fr (by ((repeat (refine Sm_U (by unfold PP; omega) ?_)); exact Sm_r _ _)) hP
      · exact RS_fr (by ((repeat (refine Sm_U (by unfold PS; omega) ?_)); exact Sm_r _ _)) hS
  · refine ⟨-1, D, n, D, ?_, ?_, rfl, rfl, hR⟩
    · rw [dn_X11_unload, b_X11_unload_0]
      simp only [z_cd, i10, i11, dnn, rdU, eW, eU, tzC_w, w_shp, w_ptr, Nat.beq_refl, nbz, nb133, nb75, nb55, nb67, n133a, n133b, n75a, n75b, aT, aR, oT, oR, oF, oG, kT, kF, bI, bL, bR, b0, Classical.not_not, not_true_eq_false, not_false_eq_true, and_self, and_true, true_and, ↓reduceIte, decide_true, decide_false, Nat.reduceEqDiff, Nat.reduceLT, Nat.reduceLeDiff, Int.reduceEq, p_trailerAt_n _ D L n a0 c1 ct, p_isWithin, p_isYard]
    · rw [dn_X12_unload, b_X12_unload_0]
      simp only [z_cd, i10, i11, dnn, rdU, eW, eU, tzC_w, w_shp, w_ptr, Nat.beq_refl, nbz, nb133, nb75, nb55, nb67, n133a, n133b, n75a, n75b, aT, aR, oT, oR, oF, oG, kT, kF, bI, bL, bR, b0, Classical.not_not, not_true_eq_false, not_false_eq_true, and_self, and_true, true_and, ↓reduceIte, decide_true, decide_false, Nat.reduceEqDiff, Nat.reduceLT, Nat.reduceLeDiff, Int.reduceEq, q_isTrailer _ D L n a0 c2 c3, ct, p_in, q_isYard]
theorem sw_bd {D : Nat → Int → Int} {t : Nat} : ∀ k : Nat, (∀ i : Nat, i < k → 1 ≤ D 100 (6 * t + i) ∧ D 100 (6 * t + i) ≤ 20000) → 0 ≤ sw D t k ∧ sw D t k ≤ 20000 * k
  | 0, _ => ⟨by show (0 : Int) ≤ 0; omega, by show (0 : Int) ≤ 20000 * 0; omega⟩
  | k + 1, h => by
    have := sw_bd k (fun i q => h i (by omega))
    have := h k (by omega)
    unfold sw
    omega
theorem mul_bd {x y : Int} (h1 : 1 ≤ x) (h2 : x ≤ 20000) (h3 : 0 ≤ y) (h4 : y ≤ 130) : 0 ≤ x * y ∧ x * y ≤ 2600000 :=
  ⟨Int.mul_nonneg (by omega) h3, Int.le_trans (Int.mul_le_mul h2 h4 h3 (by omega)) (by omega)⟩
theorem sm_bd {D : Nat → Int → Int} {t : Nat} : ∀ k : Nat, (∀ i : Nat, i < k → 1 ≤ D 100 (6 * t + i) ∧ D 100 (6 * t + i) ≤ 20000 ∧ 0 ≤ D 101 (6 * t + i) ∧ D 101 (6 * t + i) ≤ 130) → 0 ≤ sm D t k ∧ sm D t k ≤ 2600000 * k
  | 0, _ => ⟨by show (0 : Int) ≤ 0; omega, by show (0 : Int) ≤ 2600000 * 0; omega⟩
  | k + 1, h => by
    have h1 := sm_bd k (fun i q => h i (by omega))
    obtain ⟨q1, q2, q3, q4⟩ := h k (by omega)
    have h2 := mul_bd q1 q2 q3 q4
    unfold sm
    omega
set_option maxRecDepth 100000 in
set_option maxHeartbeats 400000 in
theorem ag_load {L : Nat} (a0 a1 a2 : Int) : AgI Rel L n_X11_load n_X12_load [vI a0, vI a1, vI a2] := by
  intro D n hR
  obtain ⟨hA, hL, hW, hN, ⟨c1, c2, c3⟩, hT, hD, hK, hB, hQ, hX, hM, hP, hS⟩ := id hR
  by_cases ct : 0 ≤ a0 ∧ a0 < n
  · obtain ⟨t, e⟩ : ∃ t : Nat, a0 = t := ⟨a0.toNat, by omega⟩
    subst e
    have ht : t < n := by omega
    have ht12 : t < 12 := by omega
    have hb : tqib (t : Int) 12 = true := tqib_y (by omega) (by omega)
    have r := hT.1 t ht
    have r2 := r
    have g := hD.1 t ht
    have e1 : D (133 + t) 10 = D 99 t := g.1
    by_cases cw : 1 ≤ a1 ∧ a1 ≤ 20000
    · by_cases cp : 0 ≤ a2 ∧ a2 ≤ 130
      · by_cases cf : D 99 t = 6
        · have cf2 : ¬ D 99 t < 6 := by omega
          refine ⟨-2, D, n, D, ?_, ?_, rfl, rfl, hR⟩
          · rw [dn_X11_load, b_X11_load_0]
            simp only [z_cd, i10, i11, dnn, rdU, eW, eU, tzC_w, w_shp, w_ptr, Nat.beq_refl, nbz, nb133, nb75, nb55, nb67, n133a, n133b, n75a, n75b, aT, aR, oT, oR, oF, oG, kT, kF, bI, bL, bR, b0, Classical.not_not, not_true_eq_false, not_false_eq_true, and_self, and_true, true_and, ↓reduceIte, decide_true, decide_false, Nat.reduceEqDiff, Nat.reduceLT, Nat.reduceLeDiff, Int.reduceEq, p_trailerAt_y _ D L n t c1 c3 ht, p_isWithin, cw, cp, w_trailer D L n ht, e1, cf2]
          · rw [dn_X12_load, b_X12_load_0]
            simp only [z_cd, i10, i11, dnn, rdU, eW, eU, tzC_w, w_shp, w_ptr, Nat.beq_refl, nbz, nb133, nb75, nb55, nb67, n133a, n133b, n75a, n75b, aT, aR, oT, oR, oF, oG, kT, kF, bI, bL, bR, b0, Classical.not_not, not_true_eq_false, not_false_eq_true, and_self, and_true, true_and, ↓reduceIte, decide_true, decide_false, Nat.reduceEqDiff, Nat.reduceLT, Nat.reduceLeDiff, Int.reduceEq, q_isTrailer _ D L n t c2 c3, ct, p_in, cw, cp, hb, cf]
        · obtain ⟨g1, g2, g3, g4, g5, g6⟩ := g
          have cf2 : D 99 t < 6 := by omega
          obtain ⟨l, hl⟩ : ∃ l : Nat, D 99 t = l := ⟨(D 99 t).toNat, by omega⟩
          have hlt : (D 99 t).toNat = l := by omega
          have b1 := sw_bd (D := D) (t := t) l (fun i q => ⟨(g6 i (by omega)).1, (g6 i (by omega)).2.1⟩)
          have b2 := sm_bd (D := D) (t := t) l (fun i q => g6 i (by omega))
          have b3 := mul_bd cw.1 cw.2 cp.1 cp.2
          rw [hlt] at g4 g5
          have w1 : w32 (D 99 t + 1) = D 99 t + 1 := w32_id ⟨by omega, by omega⟩
          have w2 : w32 (D (133 + t) 11 + a1) = D (133 + t) 11 + a1 := w32_id ⟨by omega, by omega⟩
          have w3 : w32 (a1 * a2) = a1 * a2 := w32_id ⟨by omega, by omega⟩
          have w4 : w32 (D (133 + t) 12 + a1 * a2) = D (133 + t) 12 + a1 * a2 := w32_id ⟨by omega, by omega⟩
          have w5 : w32 (6 * (t : Int)) = 6 * t := w32_id ⟨by omega, by omega⟩
          have w6 : w32 (6 * (t : Int) + D 99 t) = 6 * t + D 99 t := w32_id ⟨by omega, by omega⟩
          have hb7 : tqib (6 * (t : Int) + D 99 t) 72 = true := tqib_y (by omega) (by omega)
          refine ⟨D 99 t + 1, tzU (tzU (tzU D (133 + t) 10 (D 99 t + 1)) (133 + t) 11 (D (133 + t) 11 + a1)) (133 + t) 12 (D (133 + t) 12 + a1 * a2), n, tzU (tzU (tzU (tzU (tzU (tzU D (133 + t) 10 (D 99 t + 1)) (133 + t) 11 (D (133 + t) 11 + a1)) (133 + t) 12 (D (133 + t) 12 + a1 * a2)) 100 (6 * t + D 99 t) a1) 101 (6 * t + D 99 t) a2) 99 t (D 99 t + 1), ?_, ?_, Sm_1 (by (repeat (refine Sm_U (by omega) ?_)); exact Sm_r _ _), Sm_1 (by (repeat (refine Sm_U (by omega) ?_)); exact Sm_r _ _), ?_⟩
          · rw [dn_X11_load, b_X11_load_0]
            simp only [z_cd, i10, i11, dnn, rdU, eW, eU, tzC_w, w_shp, w_ptr, Nat.beq_refl, nbz, nb133, nb75, nb55, nb67, n133a, n133b, n75a, n75b, aT, aR, oT, oR, oF, oG, kT, kF, bI, bL, bR, b0, Classical.not_not, not_true_eq_false, not_false_eq_true, and_self, and_true, true_and, ↓reduceIte, decide_true, decide_false, Nat.reduceEqDiff, Nat.reduceLT, Nat.reduceLeDiff, Int.reduceEq, p_trailerAt_y _ D L n t c1 c3 ht, p_isWithin, cw, cp, w_trailer D L n ht, e1, cf2, w1, w2, w3, w4]
          · rw [dn_X12_load, b_X12_load_0]
            simp only [z_cd, i10, i11, dnn, rdU, eW, eU, tzC_w, w_shp, w_ptr, Nat.beq_refl, nbz, nb133, nb75, nb55, nb67, n133a, n133b, n75a, n75b, aT, aR, oT, oR, oF, oG, kT, kF, bI, bL, bR, b0, Classical.not_not, not_true_eq_false, not_false_eq_true, and_self, and_true, true_and, ↓reduceIte, decide_true, decide_false, Nat.reduceEqDiff, Nat.reduceLT, Nat.reduceLeDiff, Int.reduceEq, q_isTrailer _ (tzU (tzU (tzU D (133 + t) 10 (D 99 t + 1)) (133 + t) 11 (D (133 + t) 11 + a1)) (133 + t) 12 (D (133 + t) 12 + a1 * a2)) L n t (by simp only [rdU, n133a, n133b, n75a, n75b, ↓reduceIte, Nat.reduceEqDiff, Nat.reduceLT, Nat.reduceLeDiff, Int.reduceEq, not_true_eq_false, not_false_eq_true, true_and, and_true, and_self, true_or, or_true, or_false, false_or, ite_self]; exact c2) c3, ct, p_in, cw, cp, hb, cf, w1, w5, w6, hb7]
          · refine ⟨?_, ?_, ?_, ?_, ?_, ?_, ?_, ?_, ?_, ?_, ?_, ?_, ?_, ?_⟩
            · exact RA_fr (by ((repeat (refine Sm_U (by unfold PA; omega) ?_)); exact Sm_r _ _)) hA
            · exact RL_fr (by ((repeat (refine Sm_U (by unfold PL; omega) ?_)); exact Sm_r _ _)) hL
            · exact RW_fr (by ((repeat (refine Sm_U (by unfold PW; omega) ?_)); exact Sm_r _ _)) hW
            · exact RN_fr (by ((repeat (refine Sm_U (by unfold PN; omega) ?_)); exact Sm_r _ _)) hN
            · exact RC_fr (by ((repeat (refine Sm_U (by unfold PC; omega) ?_)); exact Sm_r _ _)) ⟨c1, c2, c3⟩
            · exact RT_fr (by ((repeat (refine Sm_U (by unfold PT; omega) ?_)); exact Sm_r _ _)) hT
            · refine RD_up hD ht (by (repeat (refine Sm_U (by unfold PDx; omega) ?_)); exact Sm_r _ _) ?_
              have z1 : (tzU (tzU (tzU (tzU (tzU (tzU D (133 + t) 10 (D 99 t + 1)) (133 + t) 11 (D (133 + t) 11 + a1)) (133 + t) 12 (D (133 + t) 12 + a1 * a2)) 100 (6 * t + D 99 t) a1) 101 (6 * t + D 99 t) a2) 99 t (D 99 t + 1)) 99 t = D 99 t + 1 := by simp only [rdU, n133a, n133b, n75a, n75b, ↓reduceIte, Nat.reduceEqDiff, Nat.reduceLT, Nat.reduceLeDiff, Int.reduceEq, not_true_eq_false, not_false_eq_true, true_and, and_true, and_self, true_or, or_true, or_false, false_or, ite_self]
              have z2 : ((D 99 t + 1) : Int).toNat = l + 1 := by omega
              have z3 : ∀ i : Nat, i < l → (tzU (tzU (tzU (tzU (tzU (tzU D (133 + t) 10 (D 99 t + 1)) (133 + t) 11 (D (133 + t) 11 + a1)) (133 + t) 12 (D (133 + t) 12 + a1 * a2)) 100 (6 * t + D 99 t) a1) 101 (6 * t + D 99 t) a2) 99 t (D 99 t + 1)) 100 (6 * t + i) = D 100 (6 * t + i) ∧ (tzU (tzU (tzU (tzU (tzU (tzU D (133 + t) 10 (D 99 t + 1)) (133 + t) 11 (D (133 + t) 11 + a1)) (133 + t) 12 (D (133 + t) 12 + a1 * a2)) 100 (6 * t + D 99 t) a1) 101 (6 * t + D 99 t) a2) 99 t (D 99 t + 1)) 101 (6 * t + i) = D 101 (6 * t + i) := by
                intro i hi
                have hne : ¬ ((6 : Int) * t + i = 6 * t + D 99 t) := by omega
                simp only [rdU, n133a, n133b, n75a, n75b, ↓reduceIte, Nat.reduceEqDiff, Nat.reduceLT, Nat.reduceLeDiff, Int.reduceEq, not_true_eq_false, not_false_eq_true, true_and, and_true, and_self, true_or, or_true, or_false, false_or, ite_self, hne]
              have z4 : (tzU (tzU (tzU (tzU (tzU (tzU D (133 + t) 10 (D 99 t + 1)) (133 + t) 11 (D (133 + t) 11 + a1)) (133 + t) 12 (D (133 + t) 12 + a1 * a2)) 100 (6 * t + D 99 t) a1) 101 (6 * t + D 99 t) a2) 99 t (D 99 t + 1)) 100 (6 * t + l) = a1 := by rw [← hl]; simp only [rdU, n133a, n133b, n75a, n75b, ↓reduceIte, Nat.reduceEqDiff, Nat.reduceLT, Nat.reduceLeDiff, Int.reduceEq, not_true_eq_false, not_false_eq_true, true_and, and_true, and_self, true_or, or_true, or_false, false_or, ite_self]
              have z5 : (tzU (tzU (tzU (tzU (tzU (tzU D (133 + t) 10 (D 99 t + 1)) (133 + t) 11 (D (133 + t) 11 + a1)) (133 + t) 12 (D (133 + t) 12 + a1 * a2)) 100 (6 * t + D 99 t) a1) 101 (6 * t + D 99 t) a2) 99 t (D 99 t + 1)) 101 (6 * t + l) = a2 := by rw [← hl]; simp only [rdU, n133a, n133b, n75a, n75b, ↓reduceIte, Nat.reduceEqDiff, Nat.reduceLT, Nat.reduceLeDiff, Int.reduceEq, not_true_eq_false, not_false_eq_true, true_and, and_true, and_self, true_or, or_true, or_false, false_or, ite_self]
              have z6 : sw (tzU (tzU (tzU (tzU (tzU (tzU D (133 + t) 10 (D 99 t + 1)) (133 + t) 11 (D (133 + t) 11 + a1)) (133 + t) 12 (D (133 + t) 12 + a1 * a2)) 100 (6 * t + D 99 t) a1) 101 (6 * t + D 99 t) a2) 99 t (D 99 t + 1)) t (l + 1) = sw D t l + a1 := by
                show sw (tzU (tzU (tzU (tzU (tzU (tzU D (133 + t) 10 (D 99 t + 1)) (133 + t) 11 (D (133 + t) 11 + a1)) (133 + t) 12 (D (133 + t) 12 + a1 * a2)) 100 (6 * t + D 99 t) a1) 101 (6 * t + D 99 t) a2) 99 t (D 99 t + 1)) t l + (tzU (tzU (tzU (tzU (tzU (tzU D (133 + t) 10 (D 99 t + 1)) (133 + t) 11 (D (133 + t) 11 + a1)) (133 + t) 12 (D (133 + t) 12 + a1 * a2)) 100 (6 * t + D 99 t) a1) 101 (6 * t + D 99 t) a2) 99 t (D 99 t + 1)) 100 (6 * t + l) = _
                rw [sw_fr l (fun i q => (z3 i q).1), z4]
              have z7 : sm (tzU (tzU (tzU (tzU (tzU (tzU D (133 + t) 10 (D 99 t + 1)) (133 + t) 11 (D (133 + t) 11 + a1)) (133 + t) 12 (D (133 + t) 12 + a1 * a2)) 100 (6 * t + D 99 t) a1) 101 (6 * t + D 99 t) a2) 99 t (D 99 t + 1)) t (l + 1) = sm D t l + a1 * a2 := by
                show sm (tzU (tzU (tzU (tzU (tzU (tzU D (133 + t) 10 (D 99 t + 1)) (133 + t) 11 (D (133 + t) 11 + a1)) (133 + t) 12 (D (133 + t) 12 + a1 * a2)) 100 (6 * t + D 99 t) a1) 101 (6 * t + D 99 t) a2) 99 t (D 99 t + 1)) t l + (tzU (tzU (tzU (tzU (tzU (tzU D (133 + t) 10 (D 99 t + 1)) (133 + t) 11 (D (133 + t) 11 + a1)) (133 + t) 12 (D (133 + t) 12 + a1 * a2)) 100 (6 * t + D 99 t) a1) 101 (6 * t + D 99 t) a2) 99 t (D 99 t + 1)) 100 (6 * t + l) * (tzU (tzU (tzU (tzU (tzU (tzU D (133 + t) 10 (D 99 t + 1)) (133 + t) 11 (D (133 + t) 11 + a1)) (133 + t) 12 (D (133 + t) 12 + a1 * a2)) 100 (6 * t + D 99 t) a1) 101 (6 * t + D 99 t) a2) 99 t (D 99 t + 1)) 101 (6 * t + l) = _
                rw [sm_fr l z3, z4, z5]
              unfold LD
              rw [z1, z2, z6, z7]
              refine ⟨by simp only [rdU, n133a, n133b, n75a, n75b, ↓reduceIte, Nat.reduceEqDiff, Nat.reduceLT, Nat.reduceLeDiff, Int.reduceEq, not_true_eq_false, not_false_eq_true, true_and, and_true, and_self, true_or, or_true, or_false, false_or, ite_self], by omega, by omega, by simp only [rdU, n133a, n133b, n75a, n75b, ↓reduceIte, Nat.reduceEqDiff, Nat.reduceLT, Nat.reduceLeDiff, Int.reduceEq, not_true_eq_false, not_false_eq_true, true_and, and_true, and_self, true_or, or_true, or_false, false_or, ite_self]; omega, by simp only [rdU, n133a, n133b, n75a, n75b, ↓reduceIte, Nat.reduceEqDiff, Nat.reduceLT, Nat.reduceLeDiff, Int.reduceEq, not_true_eq_false, not_false_eq_true, true_and, and_true, and_self, true_or, or_true, or_false, false_or, ite_self]; omega, ?_⟩
              intro k hk
              by_cases ck : k = l
              · rw [ck, z4, z5]; exact ⟨cw.1, cw.2, cp.1, cp.2⟩
              · rw [(z3 k (by omega)).1, (z3 k (by omega)).2]; exact g6 k (by omega)
            · exact RK_fr (by ((repeat (refine Sm_U (by unfold PK; omega) ?_)); exact Sm_r _ _)) hK
            · exact RB_fr (by ((repeat (refine Sm_U (by unfold PB; omega) ?_)); exact Sm_r _ _)) hB
            · exact RQ_fr (by ((repeat (refine Sm_U (by unfold PQ; omega) ?_)); exact Sm_r _ _)) hQ
            · exact RX_fr (by ((repeat (refine Sm_U (by unfold PX; omega) ?_)); exact Sm_r _ _)) hX
            · exact RM_fr (by ((repeat (refine Sm_U (by unfold PM; omega) ?_)); exact Sm_r _ _)) hM
            · exact RP_fr (by ((repeat (refine Sm_U (by unfold PP; omega) ?_)); exact Sm_r _ _)) hP
            · exact RS_fr (by ((repeat (refine Sm_U (by unfold PS; omega) ?_)); exact Sm_r _ _)) hS
      · refine ⟨-1, D, n, D, ?_, ?_, rfl, rfl, hR⟩
        · rw [dn_X11_load, b_X11_load_0]
          simp only [z_cd, i10, i11, dnn, rdU, eW, eU, tzC_w, w_shp, w_ptr, Nat.beq_refl, nbz, nb133, nb75, nb55, nb67, n133a, n133b, n75a, n75b, aT, aR, oT, oR, oF, oG, kT, kF, bI, bL, bR, b0, Classical.not_not, not_true_eq_false, not_false_eq_true, and_self, and_true, true_and, ↓reduceIte, decide_true, decide_false, Nat.reduceEqDiff, Nat.reduceLT, Nat.reduceLeDiff, Int.reduceEq, p_trailerAt_y _ D L n t c1 c3 ht, p_isWithin, cw, cp]
        · rw [dn_X12_load, b_X12_load_0]
          simp only [z_cd, i10, i11, dnn, rdU, eW, eU, tzC_w, w_shp, w_ptr, Nat.beq_refl, nbz, nb133, nb75, nb55, nb67, n133a, n133b, n75a, n75b, aT, aR, oT, oR, oF, oG, kT, kF, bI, bL, bR, b0, Classical.not_not, not_true_eq_false, not_false_eq_true, and_self, and_true, true_and, ↓reduceIte, decide_true, decide_false, Nat.reduceEqDiff, Nat.reduceLT, Nat.reduceLeDiff, Int.reduceEq, q_isTrailer _ D L n t c2 c3, ct, p_in, cw, cp]
    · refine ⟨-1, D, n, D, ?_, ?_, rfl, rfl, hR⟩
      · rw [dn_X11_load, b_X11_load_0]
        simp only [z_cd, i10, i11, dnn, rdU, eW, eU, tzC_w, w_shp, w_ptr, Nat.beq_refl, nbz, nb133, nb75, nb55, nb67, n133a, n133b, n75a, n75b, aT, aR, oT, oR, oF, oG, kT, kF, bI, bL, bR, b0, Classical.not_not, not_true_eq_false, not_false_eq_true, and_self, and_true, true_and, ↓reduceIte, decide_true, decide_false, Nat.reduceEqDiff, Nat.reduceLT, Nat.reduceLeDiff, Int.reduceEq, p_trailerAt_y _ D L n t c1 c3 ht, p_isWithin, cw]
      · rw [dn_X12_load, b_X12_load_0]
        simp only [z_cd, i10, i11, dnn, rdU, eW, eU, tzC_w, w_shp, w_ptr, Nat.beq_refl, nbz, nb133, nb75, nb55, nb67, n133a, n133b, n75a, n75b, aT, aR, oT, oR, oF, oG, kT, kF, bI, bL, bR, b0, Classical.not_not, not_true_eq_false, not_false_eq_true, and_self, and_true, true_and, ↓reduceIte, decide_true, decide_false, Nat.reduceEqDiff, Nat.reduceLT, Nat.reduceLeDiff, Int.reduceEq, q_isTrailer _ D L n t c2 c3, ct, p_in, cw]
  · refine ⟨-1, D, n, D, ?_, ?_, rfl, rfl, hR⟩
    · rw [dn_X11_load, b_X11_load_0]
      simp only [z_cd, i10, i11, dnn, rdU, eW, eU, tzC_w, w_shp, w_ptr, Nat.beq_refl, nbz, nb133, nb75, nb55, nb67, n133a, n133b, n75a, n75b, aT, aR, oT, oR, oF, oG, kT, kF, bI, bL, bR, b0, Classical.not_not, not_true_eq_false, not_false_eq_true, and_self, and_true, true_and, ↓reduceIte, decide_true, decide_false, Nat.reduceEqDiff, Nat.reduceLT, Nat.reduceLeDiff, Int.reduceEq, p_trailerAt_n _ D L n a0 c1 ct, p_isWithin, p_isYard]
    · rw [dn_X12_load, b_X12_load_0]
      simp only [z_cd, i10, i11, dnn, rdU, eW, eU, tzC_w, w_shp, w_ptr, Nat.beq_refl, nbz, nb133, nb75, nb55, nb67, n133a, n133b, n75a, n75b, aT, aR, oT, oR, oF, oG, kT, kF, bI, bL, bR, b0, Classical.not_not, not_true_eq_false, not_false_eq_true, and_self, and_true, true_and, ↓reduceIte, decide_true, decide_false, Nat.reduceEqDiff, Nat.reduceLT, Nat.reduceLeDiff, Int.reduceEq, q_isTrailer _ D L n a0 c2 c3, ct, p_in, q_isYard]
