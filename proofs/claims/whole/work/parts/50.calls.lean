set_option maxRecDepth 100000 in
set_option maxHeartbeats 400000 in
theorem ag_seal {L : Nat} (a0 a1 : Int) : AgI Rel L n_X11_seal n_X12_seal [vI a0, vI a1] := by
  intro D n hR
  obtain ⟨hA, hL, hW, hN, ⟨c1, c2, c3⟩, hT, hD, hK, hB, hQ, hX, hM, hP, hS⟩ := id hR
  by_cases ct : 0 ≤ a0 ∧ a0 < n
  · obtain ⟨t, e⟩ : ∃ t : Nat, a0 = t := ⟨a0.toNat, by omega⟩
    subst e
    have ht : t < n := by omega
    have ht12 : t < 12 := by omega
    have hb : tqib (t : Int) 12 = true := tqib_y (by omega) (by omega)
    have r := hT.1 t ht
    have r2 := r
    have e5 : D (133 + t) 5 = D 96 t := r.2.2.2.2.1
    have e6 : D (133 + t) 6 = D 102 t := r.2.2.2.2.2.1
    have b6 : D 102 t = 0 ∨ D 102 t = 1 := by unfold TR at r2; omega
    by_cases cw : 3 ≤ a1 ∧ a1 ≤ 5
    · by_cases cl : D 96 t = 0
      · by_cases k3 : a1 = 3
        · subst k3
          rcases b6 with b6 | b6
          · by_cases cf : D 81 34 = 60
            · have cf2 : 60 ≤ D 13 4 := by have := hB.1; omega
              · refine ⟨-2, D, n, D, ?_, ?_, rfl, rfl, hR⟩
                · rw [dn_X11_seal, b_X11_seal_0]
                  simp only [z_cd, i10, i11, dnn, rdU, eW, eU, tzC_w, w_shp, w_ptr, Nat.beq_refl, nbz, nb133, nb75, nb55, nb67, n133a, n133b, n75a, n75b, aT, aR, oT, oR, oF, oG, kT, kF, bI, bL, bR, b0, Classical.not_not, not_true_eq_false, not_false_eq_true, and_self, and_true, true_and, ↓reduceIte, decide_true, decide_false, Nat.reduceEqDiff, Nat.reduceLT, Nat.reduceLeDiff, Int.reduceEq, p_trailerAt_y _ D L n t c1 c3 ht, p_isWithin, cw, w_trailer D L n ht, e5, e6, cl, b_X11_seal_42, b6, p_isFull, cf2, cf]
                · rw [dn_X12_seal, b_X12_seal_0]
                  simp only [z_cd, i10, i11, dnn, rdU, eW, eU, tzC_w, w_shp, w_ptr, Nat.beq_refl, nbz, nb133, nb75, nb55, nb67, n133a, n133b, n75a, n75b, aT, aR, oT, oR, oF, oG, kT, kF, bI, bL, bR, b0, Classical.not_not, not_true_eq_false, not_false_eq_true, and_self, and_true, true_and, ↓reduceIte, decide_true, decide_false, Nat.reduceEqDiff, Nat.reduceLT, Nat.reduceLeDiff, Int.reduceEq, q_isTrailer _ D L n t c2 c3, ct, p_in, cw, hb, cl, b_X12_seal_44, b6, p_isFull, cf2, cf]
            · have cf2 : ¬ 60 ≤ D 13 4 := by have := hB.1; have := hB.2.2.1; omega
              have cf3 : 0 ≤ D 13 4 := by have := hB.1; have := hB.2.1; omega
              obtain ⟨D1, eD1⟩ : ∃ D1, D1 = EN (tzU D (133 + t) 6 1) t 3 (D 2 13) (-9) := ⟨_, rfl⟩
              have sD1 : Sm (fun b _ => 81 ≤ b ∧ b ≤ 132) D D1 := by
                rw [eD1]
                unfold EN
                (repeat (refine Sm_U (by omega) ?_)); exact Sm_r _ _
              have hr : ∀ (b : Nat) (j : Int), 81 ≤ b → b ≤ 132 → D1 b j = D b j := fun b j q1 q2 => sD1 b j ⟨q1, q2⟩
              refine ⟨1, D1, n, EM (tzU (D1) 102 t 1) t 3 (-9) (-9), ?_, ?_, Sm_1 (by rw [eD1]; unfold EN; (repeat (refine Sm_U (by omega) ?_)); exact Sm_r _ _), Sm_1 (by rw [eD1]; unfold EM EN; (repeat (refine Sm_U (by omega) ?_)); exact Sm_r _ _), ?_⟩
              · rw [eD1]
                rw [dn_X11_seal, b_X11_seal_0]
                simp only [z_cd, i10, i11, dnn, rdU, eW, eU, tzC_w, w_shp, w_ptr, Nat.beq_refl, nbz, nb133, nb75, nb55, nb67, n133a, n133b, n75a, n75b, aT, aR, oT, oR, oF, oG, kT, kF, bI, bL, bR, b0, Classical.not_not, not_true_eq_false, not_false_eq_true, and_self, and_true, true_and, ↓reduceIte, decide_true, decide_false, Nat.reduceEqDiff, Nat.reduceLT, Nat.reduceLeDiff, Int.reduceEq, p_trailerAt_y _ D L n t c1 c3 ht, p_isWithin, cw, w_trailer D L n ht, e5, e6, cl, b_X11_seal_42, b6, p_isFull, cf2, p_enter _ (tzU D (133 + t) 6 1) L n t 3 (D 2 13) (-9) (by simp only [rdU, n133a, n133b, n75a, n75b, ↓reduceIte, Nat.reduceEqDiff, Nat.reduceLT, Nat.reduceLeDiff, Int.reduceEq, not_true_eq_false, not_false_eq_true, true_and, and_true, and_self, true_or, or_true, or_false, false_or, ite_self]; omega) (by simp only [rdU, n133a, n133b, n75a, n75b, ↓reduceIte, Nat.reduceEqDiff, Nat.reduceLT, Nat.reduceLeDiff, Int.reduceEq, not_true_eq_false, not_false_eq_true, true_and, and_true, and_self, true_or, or_true, or_false, false_or, ite_self]; omega)]
              · rw [dn_X12_seal, b_X12_seal_0]
                simp only [z_cd, i10, i11, dnn, rdU, eW, eU, tzC_w, w_shp, w_ptr, Nat.beq_refl, nbz, nb133, nb75, nb55, nb67, n133a, n133b, n75a, n75b, aT, aR, oT, oR, oF, oG, kT, kF, bI, bL, bR, b0, Classical.not_not, not_true_eq_false, not_false_eq_true, and_self, and_true, true_and, ↓reduceIte, decide_true, decide_false, Nat.reduceEqDiff, Nat.reduceLT, Nat.reduceLeDiff, Int.reduceEq, q_isTrailer _ D1 L n t (by rw [hr _ _ (by omega) (by omega)]; exact c2) c3, ct, p_in, cw, hb, cl, b_X12_seal_44, b6, hr, cf, q_enter _ (tzU (D1) 102 t 1) L n t 3 (-9) (-9) (by simp only [rdU, n133a, n133b, n75a, n75b, ↓reduceIte, Nat.reduceEqDiff, Nat.reduceLT, Nat.reduceLeDiff, Int.reduceEq, not_true_eq_false, not_false_eq_true, true_and, and_true, and_self, true_or, or_true, or_false, false_or, ite_self, hr]; exact hB.2.1) (by simp only [rdU, n133a, n133b, n75a, n75b, ↓reduceIte, Nat.reduceEqDiff, Nat.reduceLT, Nat.reduceLeDiff, Int.reduceEq, not_true_eq_false, not_false_eq_true, true_and, and_true, and_self, true_or, or_true, or_false, false_or, ite_self, hr]; have := hB.2.2.1; omega)]
              · subst eD1
                have w : New D (EM (tzU (EN (tzU D (133 + t) 6 1) t 3 (D 2 13) (-9)) 102 t 1) t 3 (-9) (-9)) t 3 (-9) (-9) := EM_new (D := D) (D1 := tzU D (133 + t) 6 1) (t := t) (s := 3) (m := D 2 13) (h := -9) (y := -9) (D2 := tzU (EN (tzU D (133 + t) 6 1) t 3 (D 2 13) (-9)) 102 t 1) hB.1 (by simp only [rdU, n133a, n133b, n75a, n75b, ↓reduceIte, Nat.reduceEqDiff, Nat.reduceLT, Nat.reduceLeDiff, Int.reduceEq, not_true_eq_false, not_false_eq_true, true_and, and_true, and_self, true_or, or_true, or_false, false_or, ite_self]) hN.1 (by (repeat (refine Sm_U (by omega) ?_)); exact Sm_r _ _) (by (repeat (refine Sm_U (by omega) ?_)); exact Sm_r _ _) (by (repeat (refine Sm_U (by omega) ?_)); exact Sm_r _ _)
                refine ⟨?_, ?_, ?_, ?_, ?_, ?_, ?_, ?_, ?_, ?_, ?_, ?_, ?_, ?_⟩
                · exact RA_fr (by (unfold EM EN; (repeat (refine Sm_U (by unfold PA; omega) ?_)); exact Sm_r _ _)) hA
                · exact RL_fr (by (unfold EM EN; (repeat (refine Sm_U (by unfold PL; omega) ?_)); exact Sm_r _ _)) hL
                · exact RW_fr (by (unfold EM EN; (repeat (refine Sm_U (by unfold PW; omega) ?_)); exact Sm_r _ _)) hW
                · exact RN_fr (by (unfold EM EN; (repeat (refine Sm_U (by unfold PN; omega) ?_)); exact Sm_r _ _)) hN
                · exact RC_fr (by (unfold EM EN; (repeat (refine Sm_U (by unfold PC; omega) ?_)); exact Sm_r _ _)) ⟨c1, c2, c3⟩
                · refine RT_up hT ht (by unfold EM EN; (repeat (refine Sm_U (by unfold PTx; omega) ?_)); exact Sm_r _ _) ?_
                  unfold TR in32 at r2 ⊢
                  unfold EM EN
                  simp only [rdU, n133a, n133b, n75a, n75b, ↓reduceIte, Nat.reduceEqDiff, Nat.reduceLT, Nat.reduceLeDiff, Int.reduceEq, not_true_eq_false, not_false_eq_true, true_and, and_true, and_self, true_or, or_true, or_false, false_or, ite_self]
                  omega
                · exact RD_fr (by (unfold EM EN; (repeat (refine Sm_U (by unfold PD; omega) ?_)); exact Sm_r _ _)) hD
                · exact RK_fr (by (unfold EM EN; (repeat (refine Sm_U (by unfold PK; omega) ?_)); exact Sm_r _ _)) hK
                · exact RB_new hB hN (by have := hB.2.2.1; omega) w ⟨by omega, by omega⟩ (by omega) (by omega) (by omega)
                · exact RQ_new hQ w
                · refine RX_new hX hB.2.1 w ht (fun u hu => by unfold EM EN; simp only [rdU, n133a, n133b, n75a, n75b, ↓reduceIte, Nat.reduceEqDiff, Nat.reduceLT, Nat.reduceLeDiff, Int.reduceEq, not_true_eq_false, not_false_eq_true, true_and, and_true, and_self, true_or, or_true, or_false, false_or, ite_self]) (fun u hu hut => ?_) ?_
                  · have ne : ¬ (133 + u = 133 + t) := by omega
                    unfold EM EN
                    simp only [rdU, n133a, n133b, n75a, n75b, ↓reduceIte, Nat.reduceEqDiff, Nat.reduceLT, Nat.reduceLeDiff, Int.reduceEq, not_true_eq_false, not_false_eq_true, true_and, and_true, and_self, true_or, or_true, or_false, false_or, ite_self, ne]
                  · have z3 : (EM (tzU (EN (tzU D (133 + t) 6 1) t 3 (D 2 13) (-9)) 102 t 1) t 3 (-9) (-9)) (133 + t) 3 = D (133 + t) 3 := by unfold EM EN; simp only [rdU, n133a, n133b, n75a, n75b, ↓reduceIte, Nat.reduceEqDiff, Nat.reduceLT, Nat.reduceLeDiff, Int.reduceEq, not_true_eq_false, not_false_eq_true, true_and, and_true, and_self, true_or, or_true, or_false, false_or, ite_self]
                    have z6 : (EM (tzU (EN (tzU D (133 + t) 6 1) t 3 (D 2 13) (-9)) 102 t 1) t 3 (-9) (-9)) (133 + t) 6 = 1 := by unfold EM EN; simp only [rdU, n133a, n133b, n75a, n75b, ↓reduceIte, Nat.reduceEqDiff, Nat.reduceLT, Nat.reduceLeDiff, Int.reduceEq, not_true_eq_false, not_false_eq_true, true_and, and_true, and_self, true_or, or_true, or_false, false_or, ite_self]
                    exact Or.inr (Or.inr (Or.inr (Or.inl ⟨Or.inl rfl, z3⟩)))
                · exact RM_fr (by (unfold EM EN; (repeat (refine Sm_U (by unfold PM; omega) ?_)); exact Sm_r _ _)) hM
                · exact RP_fr (by (unfold EM EN; (repeat (refine Sm_U (by unfold PP; omega) ?_)); exact Sm_r _ _)) hP
                · exact RS_fr (by (unfold EM EN; (repeat (refine Sm_U (by unfold PS; omega) ?_)); exact Sm_r _ _)) hS
          · refine ⟨-4, D, n, D, ?_, ?_, rfl, rfl, hR⟩
            · rw [dn_X11_seal, b_X11_seal_0]
              simp only [z_cd, i10, i11, dnn, rdU, eW, eU, tzC_w, w_shp, w_ptr, Nat.beq_refl, nbz, nb133, nb75, nb55, nb67, n133a, n133b, n75a, n75b, aT, aR, oT, oR, oF, oG, kT, kF, bI, bL, bR, b0, Classical.not_not, not_true_eq_false, not_false_eq_true, and_self, and_true, true_and, ↓reduceIte, decide_true, decide_false, Nat.reduceEqDiff, Nat.reduceLT, Nat.reduceLeDiff, Int.reduceEq, p_trailerAt_y _ D L n t c1 c3 ht, p_isWithin, cw, w_trailer D L n ht, e5, e6, cl, b_X11_seal_42, b6]
            · rw [dn_X12_seal, b_X12_seal_0]
              simp only [z_cd, i10, i11, dnn, rdU, eW, eU, tzC_w, w_shp, w_ptr, Nat.beq_refl, nbz, nb133, nb75, nb55, nb67, n133a, n133b, n75a, n75b, aT, aR, oT, oR, oF, oG, kT, kF, bI, bL, bR, b0, Classical.not_not, not_true_eq_false, not_false_eq_true, and_self, and_true, true_and, ↓reduceIte, decide_true, decide_false, Nat.reduceEqDiff, Nat.reduceLT, Nat.reduceLeDiff, Int.reduceEq, q_isTrailer _ D L n t c2 c3, ct, p_in, cw, hb, cl, b_X12_seal_44, b6]
        · rcases b6 with b6 | b6
          · refine ⟨-4, D, n, D, ?_, ?_, rfl, rfl, hR⟩
            · rw [dn_X11_seal, b_X11_seal_0]
              simp only [z_cd, i10, i11, dnn, rdU, eW, eU, tzC_w, w_shp, w_ptr, Nat.beq_refl, nbz, nb133, nb75, nb55, nb67, n133a, n133b, n75a, n75b, aT, aR, oT, oR, oF, oG, kT, kF, bI, bL, bR, b0, Classical.not_not, not_true_eq_false, not_false_eq_true, and_self, and_true, true_and, ↓reduceIte, decide_true, decide_false, Nat.reduceEqDiff, Nat.reduceLT, Nat.reduceLeDiff, Int.reduceEq, p_trailerAt_y _ D L n t c1 c3 ht, p_isWithin, cw, w_trailer D L n ht, e5, e6, cl, b_X11_seal_42, b6, k3]
            · rw [dn_X12_seal, b_X12_seal_0]
              simp only [z_cd, i10, i11, dnn, rdU, eW, eU, tzC_w, w_shp, w_ptr, Nat.beq_refl, nbz, nb133, nb75, nb55, nb67, n133a, n133b, n75a, n75b, aT, aR, oT, oR, oF, oG, kT, kF, bI, bL, bR, b0, Classical.not_not, not_true_eq_false, not_false_eq_true, and_self, and_true, true_and, ↓reduceIte, decide_true, decide_false, Nat.reduceEqDiff, Nat.reduceLT, Nat.reduceLeDiff, Int.reduceEq, q_isTrailer _ D L n t c2 c3, ct, p_in, cw, hb, cl, b_X12_seal_44, b6, k3]
          · by_cases cf : D 81 34 = 60
            · have cf2 : 60 ≤ D 13 4 := by have := hB.1; omega
              · refine ⟨-2, D, n, D, ?_, ?_, rfl, rfl, hR⟩
                · rw [dn_X11_seal, b_X11_seal_0]
                  simp only [z_cd, i10, i11, dnn, rdU, eW, eU, tzC_w, w_shp, w_ptr, Nat.beq_refl, nbz, nb133, nb75, nb55, nb67, n133a, n133b, n75a, n75b, aT, aR, oT, oR, oF, oG, kT, kF, bI, bL, bR, b0, Classical.not_not, not_true_eq_false, not_false_eq_true, and_self, and_true, true_and, ↓reduceIte, decide_true, decide_false, Nat.reduceEqDiff, Nat.reduceLT, Nat.reduceLeDiff, Int.reduceEq, p_trailerAt_y _ D L n t c1 c3 ht, p_isWithin, cw, w_trailer D L n ht, e5, e6, cl, b_X11_seal_42, b6, k3, p_isFull, cf2, cf]
                · rw [dn_X12_seal, b_X12_seal_0]
                  simp only [z_cd, i10, i11, dnn, rdU, eW, eU, tzC_w, w_shp, w_ptr, Nat.beq_refl, nbz, nb133, nb75, nb55, nb67, n133a, n133b, n75a, n75b, aT, aR, oT, oR, oF, oG, kT, kF, bI, bL, bR, b0, Classical.not_not, not_true_eq_false, not_false_eq_true, and_self, and_true, true_and, ↓reduceIte, decide_true, decide_false, Nat.reduceEqDiff, Nat.reduceLT, Nat.reduceLeDiff, Int.reduceEq, q_isTrailer _ D L n t c2 c3, ct, p_in, cw, hb, cl, b_X12_seal_44, b6, k3, p_isFull, cf2, cf]
            · have cf2 : ¬ 60 ≤ D 13 4 := by have := hB.1; have := hB.2.2.1; omega
              have cf3 : 0 ≤ D 13 4 := by have := hB.1; have := hB.2.1; omega
              by_cases k5 : a1 = 5
              · subst k5
                obtain ⟨D1, eD1⟩ : ∃ D1, D1 = EN (tzU D (133 + t) 6 0) t 5 (D 2 13) (-9) := ⟨_, rfl⟩
                have sD1 : Sm (fun b _ => 81 ≤ b ∧ b ≤ 132) D D1 := by
                  rw [eD1]
                  unfold EN
                  (repeat (refine Sm_U (by omega) ?_)); exact Sm_r _ _
                have hr : ∀ (b : Nat) (j : Int), 81 ≤ b → b ≤ 132 → D1 b j = D b j := fun b j q1 q2 => sD1 b j ⟨q1, q2⟩
                refine ⟨1, D1, n, EM (tzU (D1) 102 t 0) t 5 (-9) (-9), ?_, ?_, Sm_1 (by rw [eD1]; unfold EN; (repeat (refine Sm_U (by omega) ?_)); exact Sm_r _ _), Sm_1 (by rw [eD1]; unfold EM EN; (repeat (refine Sm_U (by omega) ?_)); exact Sm_r _ _), ?_⟩
                · rw [eD1]
                  rw [dn_X11_seal, b_X11_seal_0]
                  simp only [z_cd, i10, i11, dnn, rdU, eW, eU, tzC_w, w_shp, w_ptr, Nat.beq_refl, nbz, nb133, nb75, nb55, nb67, n133a, n133b, n75a, n75b, aT, aR, oT, oR, oF, oG, kT, kF, bI, bL, bR, b0, Classical.not_not, not_true_eq_false, not_false_eq_true, and_self, and_true, true_and, ↓reduceIte, decide_true, decide_false, Nat.reduceEqDiff, Nat.reduceLT, Nat.reduceLeDiff, Int.reduceEq, p_trailerAt_y _ D L n t c1 c3 ht, p_isWithin, cw, w_trailer D L n ht, e5, e6, cl, b_X11_seal_42, b6, k3, p_isFull, cf2, p_enter _ (tzU D (133 + t) 6 0) L n t 5 (D 2 13) (-9) (by simp only [rdU, n133a, n133b, n75a, n75b, ↓reduceIte, Nat.reduceEqDiff, Nat.reduceLT, Nat.reduceLeDiff, Int.reduceEq, not_true_eq_false, not_false_eq_true, true_and, and_true, and_self, true_or, or_true, or_false, false_or, ite_self]; omega) (by simp only [rdU, n133a, n133b, n75a, n75b, ↓reduceIte, Nat.reduceEqDiff, Nat.reduceLT, Nat.reduceLeDiff, Int.reduceEq, not_true_eq_false, not_false_eq_true, true_and, and_true, and_self, true_or, or_true, or_false, false_or, ite_self]; omega)]
                · rw [dn_X12_seal, b_X12_seal_0]
                  simp only [z_cd, i10, i11, dnn, rdU, eW, eU, tzC_w, w_shp, w_ptr, Nat.beq_refl, nbz, nb133, nb75, nb55, nb67, n133a, n133b, n75a, n75b, aT, aR, oT, oR, oF, oG, kT, kF, bI, bL, bR, b0, Classical.not_not, not_true_eq_false, not_false_eq_true, and_self, and_true, true_and, ↓reduceIte, decide_true, decide_false, Nat.reduceEqDiff, Nat.reduceLT, Nat.reduceLeDiff, Int.reduceEq, q_isTrailer _ D1 L n t (by rw [hr _ _ (by omega) (by omega)]; exact c2) c3, ct, p_in, cw, hb, cl, b_X12_seal_44, b6, k3, hr, cf, q_enter _ (tzU (D1) 102 t 0) L n t 5 (-9) (-9) (by simp only [rdU, n133a, n133b, n75a, n75b, ↓reduceIte, Nat.reduceEqDiff, Nat.reduceLT, Nat.reduceLeDiff, Int.reduceEq, not_true_eq_false, not_false_eq_true, true_and, and_true, and_self, true_or, or_true, or_false, false_or, ite_self, hr]; exact hB.2.1) (by simp only [rdU, n133a, n133b, n75a, n75b, ↓reduceIte, Nat.reduceEqDiff, Nat.reduceLT, Nat.reduceLeDiff, Int.reduceEq, not_true_eq_false, not_false_eq_true, true_and, and_true, and_self, true_or, or_true, or_false, false_or, ite_self, hr]; have := hB.2.2.1; omega)]
                · subst eD1
                  have w : New D (EM (tzU (EN (tzU D (133 + t) 6 0) t 5 (D 2 13) (-9)) 102 t 0) t 5 (-9) (-9)) t 5 (-9) (-9) := EM_new (D := D) (D1 := tzU D (133 + t) 6 0) (t := t) (s := 5) (m := D 2 13) (h := -9) (y := -9) (D2 := tzU (EN (tzU D (133 + t) 6 0) t 5 (D 2 13) (-9)) 102 t 0) hB.1 (by simp only [rdU, n133a, n133b, n75a, n75b, ↓reduceIte, Nat.reduceEqDiff, Nat.reduceLT, Nat.reduceLeDiff, Int.reduceEq, not_true_eq_false, not_false_eq_true, true_and, and_true, and_self, true_or, or_true, or_false, false_or, ite_self]) hN.1 (by (repeat (refine Sm_U (by omega) ?_)); exact Sm_r _ _) (by (repeat (refine Sm_U (by omega) ?_)); exact Sm_r _ _) (by (repeat (refine Sm_U (by omega) ?_)); exact Sm_r _ _)
                  refine ⟨?_, ?_, ?_, ?_, ?_, ?_, ?_, ?_, ?_, ?_, ?_, ?_, ?_, ?_⟩
                  · exact RA_fr (by (unfold EM EN; (repeat (refine Sm_U (by unfold PA; omega) ?_)); exact Sm_r _ _)) hA
                  · exact RL_fr (by (unfold EM EN; (repeat (refine Sm_U (by unfold PL; omega) ?_)); exact Sm_r _ _)) hL
                  · exact RW_fr (by (unfold EM EN; (repeat (refine Sm_U (by unfold PW; omega) ?_)); exact Sm_r _ _)) hW
                  · exact RN_fr (by (unfold EM EN; (repeat (refine Sm_U (by unfold PN; omega) ?_)); exact Sm_r _ _)) hN
                  · exact RC_fr (by (unfold EM EN; (repeat (refine Sm_U (by unfold PC; omega) ?_)); exact Sm_r _ _)) ⟨c1, c2, c3⟩
                  · refine RT_up hT ht (by unfold EM EN; (repeat (refine Sm_U (by unfold PTx; omega) ?_)); exact Sm_r _ _) ?_
                    unfold TR in32 at r2 ⊢
                    unfold EM EN
                    simp only [rdU, n133a, n133b, n75a, n75b, ↓reduceIte, Nat.reduceEqDiff, Nat.reduceLT, Nat.reduceLeDiff, Int.reduceEq, not_true_eq_false, not_false_eq_true, true_and, and_true, and_self, true_or, or_true, or_false, false_or, ite_self]
                    omega
                  · exact RD_fr (by (unfold EM EN; (repeat (refine Sm_U (by unfold PD; omega) ?_)); exact Sm_r _ _)) hD
                  · exact RK_fr (by (unfold EM EN; (repeat (refine Sm_U (by unfold PK; omega) ?_)); exact Sm_r _ _)) hK
                  · exact RB_new hB hN (by have := hB.2.2.1; omega) w ⟨by omega, by omega⟩ (by omega) (by omega) (by omega)
                  · exact RQ_new hQ w
                  · refine RX_new hX hB.2.1 w ht (fun u hu => by unfold EM EN; simp only [rdU, n133a, n133b, n75a, n75b, ↓reduceIte, Nat.reduceEqDiff, Nat.reduceLT, Nat.reduceLeDiff, Int.reduceEq, not_true_eq_false, not_false_eq_true, true_and, and_true, and_self, true_or, or_true, or_false, false_or, ite_self]) (fun u hu hut => ?_) ?_
                    · have ne : ¬ (133 + u = 133 + t) := by omega
                      unfold EM EN
                      simp only [rdU, n133a, n133b, n75a, n75b, ↓reduceIte, Nat.reduceEqDiff, Nat.reduceLT, Nat.reduceLeDiff, Int.reduceEq, not_true_eq_false, not_false_eq_true, true_and, and_true, and_self, true_or, or_true, or_false, false_or, ite_self, ne]
                    · have z3 : (EM (tzU (EN (tzU D (133 + t) 6 0) t 5 (D 2 13) (-9)) 102 t 0) t 5 (-9) (-9)) (133 + t) 3 = D (133 + t) 3 := by unfold EM EN; simp only [rdU, n133a, n133b, n75a, n75b, ↓reduceIte, Nat.reduceEqDiff, Nat.reduceLT, Nat.reduceLeDiff, Int.reduceEq, not_true_eq_false, not_false_eq_true, true_and, and_true, and_self, true_or, or_true, or_false, false_or, ite_self]
                      have z6 : (EM (tzU (EN (tzU D (133 + t) 6 0) t 5 (D 2 13) (-9)) 102 t 0) t 5 (-9) (-9)) (133 + t) 6 = 0 := by unfold EM EN; simp only [rdU, n133a, n133b, n75a, n75b, ↓reduceIte, Nat.reduceEqDiff, Nat.reduceLT, Nat.reduceLeDiff, Int.reduceEq, not_true_eq_false, not_false_eq_true, true_and, and_true, and_self, true_or, or_true, or_false, false_or, ite_self]
                      exact Or.inr (Or.inr (Or.inr (Or.inr ⟨rfl, e6.trans b6, z3, z6⟩)))
                  · exact RM_fr (by (unfold EM EN; (repeat (refine Sm_U (by unfold PM; omega) ?_)); exact Sm_r _ _)) hM
                  · exact RP_fr (by (unfold EM EN; (repeat (refine Sm_U (by unfold PP; omega) ?_)); exact Sm_r _ _)) hP
                  · exact RS_fr (by (unfold EM EN; (repeat (refine Sm_U (by unfold PS; omega) ?_)); exact Sm_r _ _)) hS
              · have k4 : a1 = 4 := by omega
                subst k4
                obtain ⟨D1, eD1⟩ : ∃ D1, D1 = EN (tzU D (133 + t) 6 1) t 4 (D 2 13) (-9) := ⟨_, rfl⟩
                have sD1 : Sm (fun b _ => 81 ≤ b ∧ b ≤ 132) D D1 := by
                  rw [eD1]
                  unfold EN
                  (repeat (refine Sm_U (by omega) ?_)); exact Sm_r _ _
                have hr : ∀ (b : Nat) (j : Int), 81 ≤ b → b ≤ 132 → D1 b j = D b j := fun b j q1 q2 => sD1 b j ⟨q1, q2⟩
                refine ⟨1, D1, n, EM (tzU (D1) 102 t 1) t 4 (-9) (-9), ?_, ?_, Sm_1 (by rw [eD1]; unfold EN; (repeat (refine Sm_U (by omega) ?_)); exact Sm_r _ _), Sm_1 (by rw [eD1]; unfold EM EN; (repeat (refine Sm_U (by omega) ?_)); exact Sm_r _ _), ?_⟩
                · rw [eD1]
                  rw [dn_X11_seal, b_X11_seal_0]
                  simp only [z_cd, i10, i11, dnn, rdU, eW, eU, tzC_w, w_shp, w_ptr, Nat.beq_refl, nbz, nb133, nb75, nb55, nb67, n133a, n133b, n75a, n75b, aT, aR, oT, oR, oF, oG, kT, kF, bI, bL, bR, b0, Classical.not_not, not_true_eq_false, not_false_eq_true, and_self, and_true, true_and, ↓reduceIte, decide_true, decide_false, Nat.reduceEqDiff, Nat.reduceLT, Nat.reduceLeDiff, Int.reduceEq, p_trailerAt_y _ D L n t c1 c3 ht, p_isWithin, cw, w_trailer D L n ht, e5, e6, cl, b_X11_seal_42, b6, k3, k5, p_isFull, cf2, p_enter _ (tzU D (133 + t) 6 1) L n t 4 (D 2 13) (-9) (by simp only [rdU, n133a, n133b, n75a, n75b, ↓reduceIte, Nat.reduceEqDiff, Nat.reduceLT, Nat.reduceLeDiff, Int.reduceEq, not_true_eq_false, not_false_eq_true, true_and, and_true, and_self, true_or, or_true, or_false, false_or, ite_self]; omega) (by simp only [rdU, n133a, n133b, n75a, n75b, ↓reduceIte, Nat.reduceEqDiff, Nat.reduceLT, Nat.reduceLeDiff, Int.reduceEq, not_true_eq_false, not_false_eq_true, true_and, and_true, and_self, true_or, or_true, or_false, false_or, ite_self]; omega)]
                · rw [dn_X12_seal, b_X12_seal_0]
                  simp only [z_cd, i10, i11, dnn, rdU, eW, eU, tzC_w, w_shp, w_ptr, Nat.beq_refl, nbz, nb133, nb75, nb55, nb67, n133a, n133b, n75a, n75b, aT, aR, oT, oR, oF, oG, kT, kF, bI, bL, bR, b0, Classical.not_not, not_true_eq_false, not_false_eq_true, and_self, and_true, true_and, ↓reduceIte, decide_true, decide_false, Nat.reduceEqDiff, Nat.reduceLT, Nat.reduceLeDiff, Int.reduceEq, q_isTrailer _ D1 L n t (by rw [hr _ _ (by omega) (by omega)]; exact c2) c3, ct, p_in, cw, hb, cl, b_X12_seal_44, b6, k3, k5, hr, cf, q_enter _ (tzU (D1) 102 t 1) L n t 4 (-9) (-9) (by simp only [rdU, n133a, n133b, n75a, n75b, ↓reduceIte, Nat.reduceEqDiff, Nat.reduceLT, Nat.reduceLeDiff, Int.reduceEq, not_true_eq_false, not_false_eq_true, true_and, and_true, and_self, true_or, or_true, or_false, false_or, ite_self, hr]; exact hB.2.1) (by simp only [rdU, n133a, n133b, n75a, n75b, ↓reduceIte, Nat.reduceEqDiff, Nat.reduceLT, Nat.reduceLeDiff, Int.reduceEq, not_true_eq_false, not_false_eq_true, true_and, and_true, and_self, true_or, or_true, or_false, false_or, ite_self, hr]; have := hB.2.2.1; omega)]
                · subst eD1
                  have w : New D (EM (tzU (EN (tzU D (133 + t) 6 1) t 4 (D 2 13) (-9)) 102 t 1) t 4 (-9) (-9)) t 4 (-9) (-9) := EM_new (D := D) (D1 := tzU D (133 + t) 6 1) (t := t) (s := 4) (m := D 2 13) (h := -9) (y := -9) (D2 := tzU (EN (tzU D (133 + t) 6 1) t 4 (D 2 13) (-9)) 102 t 1) hB.1 (by simp only [rdU, n133a, n133b, n75a, n75b, ↓reduceIte, Nat.reduceEqDiff, Nat.reduceLT, Nat.reduceLeDiff, Int.reduceEq, not_true_eq_false, not_false_eq_true, true_and, and_true, and_self, true_or, or_true, or_false, false_or, ite_self]) hN.1 (by (repeat (refine Sm_U (by omega) ?_)); exact Sm_r _ _) (by (repeat (refine Sm_U (by omega) ?_)); exact Sm_r _ _) (by (repeat (refine Sm_U (by omega) ?_)); exact Sm_r _ _)
                  refine ⟨?_, ?_, ?_, ?_, ?_, ?_, ?_, ?_, ?_, ?_, ?_, ?_, ?_, ?_⟩
                  · exact RA_fr (by (unfold EM EN; (repeat (refine Sm_U (by unfold PA; omega) ?_)); exact Sm_r _ _)) hA
                  · exact RL_fr (by (unfold EM EN; (repeat (refine Sm_U (by unfold PL; omega) ?_)); exact Sm_r _ _)) hL
                  · exact RW_fr (by (unfold EM EN; (repeat (refine Sm_U (by unfold PW; omega) ?_)); exact Sm_r _ _)) hW
                  · exact RN_fr (by (unfold EM EN; (repeat (refine Sm_U (by unfold PN; omega) ?_)); exact Sm_r _ _)) hN
                  · exact RC_fr (by (unfold EM EN; (repeat (refine Sm_U (by unfold PC; omega) ?_)); exact Sm_r _ _)) ⟨c1, c2, c3⟩
                  · refine RT_up hT ht (by unfold EM EN; (repeat (refine Sm_U (by unfold PTx; omega) ?_)); exact Sm_r _ _) ?_
                    unfold TR in32 at r2 ⊢
                    unfold EM EN
                    simp only [rdU, n133a, n133b, n75a, n75b, ↓reduceIte, Nat.reduceEqDiff, Nat.reduceLT, Nat.reduceLeDiff, Int.reduceEq, not_true_eq_false, not_false_eq_true, true_and, and_true, and_self, true_or, or_true, or_false, false_or, ite_self]
                    omega
                  · exact RD_fr (by (unfold EM EN; (repeat (refine Sm_U (by unfold PD; omega) ?_)); exact Sm_r _ _)) hD
                  · exact RK_fr (by (unfold EM EN; (repeat (refine Sm_U (by unfold PK; omega) ?_)); exact Sm_r _ _)) hK
                  · exact RB_new hB hN (by have := hB.2.2.1; omega) w ⟨by omega, by omega⟩ (by omega) (by omega) (by omega)
                  · exact RQ_new hQ w
                  · refine RX_new hX hB.2.1 w ht (fun u hu => by unfold EM EN; simp only [rdU, n133a, n133b, n75a, n75b, ↓reduceIte, Nat.reduceEqDiff, Nat.reduceLT, Nat.reduceLeDiff, Int.reduceEq, not_true_eq_false, not_false_eq_true, true_and, and_true, and_self, true_or, or_true, or_false, false_or, ite_self]) (fun u hu hut => ?_) ?_
                    · have ne : ¬ (133 + u = 133 + t) := by omega
                      unfold EM EN
                      simp only [rdU, n133a, n133b, n75a, n75b, ↓reduceIte, Nat.reduceEqDiff, Nat.reduceLT, Nat.reduceLeDiff, Int.reduceEq, not_true_eq_false, not_false_eq_true, true_and, and_true, and_self, true_or, or_true, or_false, false_or, ite_self, ne]
                    · have z3 : (EM (tzU (EN (tzU D (133 + t) 6 1) t 4 (D 2 13) (-9)) 102 t 1) t 4 (-9) (-9)) (133 + t) 3 = D (133 + t) 3 := by unfold EM EN; simp only [rdU, n133a, n133b, n75a, n75b, ↓reduceIte, Nat.reduceEqDiff, Nat.reduceLT, Nat.reduceLeDiff, Int.reduceEq, not_true_eq_false, not_false_eq_true, true_and, and_true, and_self, true_or, or_true, or_false, false_or, ite_self]
                      have z6 : (EM (tzU (EN (tzU D (133 + t) 6 1) t 4 (D 2 13) (-9)) 102 t 1) t 4 (-9) (-9)) (133 + t) 6 = 1 := by unfold EM EN; simp only [rdU, n133a, n133b, n75a, n75b, ↓reduceIte, Nat.reduceEqDiff, Nat.reduceLT, Nat.reduceLeDiff, Int.reduceEq, not_true_eq_false, not_false_eq_true, true_and, and_true, and_self, true_or, or_true, or_false, false_or, ite_self]
                      exact Or.inr (Or.inr (Or.inr (Or.inl ⟨Or.inr rfl, z3⟩)))
                  · exact RM_fr (by (unfold EM EN; (repeat (refine Sm_U (by unfold PM; omega) ?_)); exact Sm_r _ _)) hM
                  · exact RP_fr (by (unfold EM EN; (repeat (refine Sm_U (by unfold PP; omega) ?_)); exact Sm_r _ _)) hP
                  · exact RS_fr (by (unfold EM EN; (repeat (refine Sm_U (by unfold PS; omega) ?_)); exact Sm_r _ _)) hS
      · refine ⟨-4, D, n, D, ?_, ?_, rfl, rfl, hR⟩
        · rw [dn_X11_seal, b_X11_seal_0]
          simp only [z_cd, i10, i11, dnn, rdU, eW, eU, tzC_w, w_shp, w_ptr, Nat.beq_refl, nbz, nb133, nb75, nb55, nb67, n133a, n133b, n75a, n75b, aT, aR, oT, oR, oF, oG, kT, kF, bI, bL, bR, b0, Classical.not_not, not_true_eq_false, not_false_eq_true, and_self, and_true, true_and, ↓reduceIte, decide_true, decide_false, Nat.reduceEqDiff, Nat.reduceLT, Nat.reduceLeDiff, Int.reduceEq, p_trailerAt_y _ D L n t c1 c3 ht, p_isWithin, cw, w_trailer D L n ht, e5, e6, cl]
        · rw [dn_X12_seal, b_X12_seal_0]
          simp only [z_cd, i10, i11, dnn, rdU, eW, eU, tzC_w, w_shp, w_ptr, Nat.beq_refl, nbz, nb133, nb75, nb55, nb67, n133a, n133b, n75a, n75b, aT, aR, oT, oR, oF, oG, kT, kF, bI, bL, bR, b0, Classical.not_not, not_true_eq_false, not_false_eq_true, and_self, and_true, true_and, ↓reduceIte, decide_true, decide_false, Nat.reduceEqDiff, Nat.reduceLT, Nat.reduceLeDiff, Int.reduceEq, q_isTrailer _ D L n t c2 c3, ct, p_in, cw, hb, cl]
    · refine ⟨-1, D, n, D, ?_, ?_, rfl, rfl, hR⟩
      · rw [dn_X11_seal, b_X11_seal_0]
        simp only [z_cd, i10, i11, dnn, rdU, eW, eU, tzC_w, w_shp, w_ptr, Nat.beq_refl, nbz, nb133, nb75, nb55, nb67, n133a, n133b, n75a, n75b, aT, aR, oT, oR, oF, oG, kT, kF, bI, bL, bR, b0, Classical.not_not, not_true_eq_false, not_false_eq_true, and_self, and_true, true_and, ↓reduceIte, decide_true, decide_false, Nat.reduceEqDiff, Nat.reduceLT, Nat.reduceLeDiff, Int.reduceEq, p_trailerAt_y _ D L n t c1 c3 ht, p_isWithin, cw, w_trailer D L n ht, e5, e6]
      · rw [dn_X12_seal, b_X12_seal_0]
        simp only [z_cd, i10, i11, dnn, rdU, eW, eU, tzC_w, w_shp, w_ptr, Nat.beq_refl, nbz, nb133, nb75, nb55, nb67, n133a, n133b, n75a, n75b, aT, aR, oT, oR, oF, oG, kT, kF, bI, bL, bR, b0, Classical.not_not, not_true_eq_false, not_false_eq_true, and_self, and_true, true_and, ↓reduceIte, decide_true, decide_false, Nat.reduceEqDiff, Nat.reduceLT, Nat.reduceLeDiff, Int.reduceEq, q_isTrailer _ D L n t c2 c3, ct, p_in, cw, hb]
  · refine ⟨-1, D, n, D, ?_, ?_, rfl, rfl, hR⟩
    · rw [dn_X11_seal, b_X11_seal_0]
      simp only [z_cd, i10, i11, dnn, rdU, eW, eU, tzC_w, w_shp, w_ptr, Nat.beq_refl, nbz, nb133, nb75, nb55, nb67, n133a, n133b, n75a, n75b, aT, aR, oT, oR, oF, oG, kT, kF, bI, bL, bR, b0, Classical.not_not, not_true_eq_false, not_false_eq_true, and_self, and_true, true_and, ↓reduceIte, decide_true, decide_false, Nat.reduceEqDiff, Nat.reduceLT, Nat.reduceLeDiff, Int.reduceEq, p_trailerAt_n _ D L n a0 c1 ct, p_isWithin, p_isYard]
    · rw [dn_X12_seal, b_X12_seal_0]
      simp only [z_cd, i10, i11, dnn, rdU, eW, eU, tzC_w, w_shp, w_ptr, Nat.beq_refl, nbz, nb133, nb75, nb55, nb67, n133a, n133b, n75a, n75b, aT, aR, oT, oR, oF, oG, kT, kF, bI, bL, bR, b0, Classical.not_not, not_true_eq_false, not_false_eq_true, and_self, and_true, true_and, ↓reduceIte, decide_true, decide_false, Nat.reduceEqDiff, Nat.reduceLT, Nat.reduceLeDiff, Int.reduceEq, q_isTrailer _ D L n a0 c2 c3, ct, p_in, q_isYard]
