set_option maxRecDepth 100000 in
set_option maxHeartbeats 400000 in
theorem ag_lose {L : Nat} (a0 : Int) : AgI Rel L n_X11_lose n_X12_lose [vI a0] := by
  intro D n hR
  obtain ⟨hA, hL, hW, hN, ⟨c1, c2, c3⟩, hT, hD, hK, hB, hQ, hX, hM, hP, hS⟩ := id hR
  by_cases ct : 0 ≤ a0 ∧ a0 < n
  · obtain ⟨t, e⟩ : ∃ t : Nat, a0 = t := ⟨a0.toNat, by omega⟩
    subst e
    have ht : t < n := by omega
    have ht12 : t < 12 := by omega
    have hb : tqib (t : Int) 12 = true := tqib_y (by omega) (by omega)
    have r := hT.1 t ht
    have r2 := r
    have e5 : D (133 + t) 5 = D 96 t := r.2.2.2.2.1
    have e4 : D (133 + t) 4 = D 95 t := r.2.2.2.1
    have b4 : D 95 t = -9 ∨ 0 ≤ D 95 t ∧ D 95 t ≤ 5 := by unfold TR at r2; omega
    by_cases cl : D 96 t = 0
    · by_cases cf : D 81 34 = 60
      · have cf2 : 60 ≤ D 13 4 := by have := hB.1; omega
        · refine ⟨-2, D, n, D, ?_, ?_, rfl, rfl, hR⟩
          · rw [dn_X11_lose, b_X11_lose_0]
            simp only [z_cd, i10, i11, dnn, rdU, eW, eU, tzC_w, w_shp, w_ptr, Nat.beq_refl, nbz, nb133, nb75, nb55, nb67, n133a, n133b, n75a, n75b, aT, aR, oT, oR, oF, oG, kT, kF, bI, bL, bR, b0, Classical.not_not, not_true_eq_false, not_false_eq_true, and_self, and_true, true_and, ↓reduceIte, decide_true, decide_false, Nat.reduceEqDiff, Nat.reduceLT, Nat.reduceLeDiff, Int.reduceEq, p_trailerAt_y _ D L n t c1 c3 ht, w_trailer D L n ht, e5, cl, p_isFull, cf2]
          · rw [dn_X12_lose, b_X12_lose_0]
            simp only [z_cd, i10, i11, dnn, rdU, eW, eU, tzC_w, w_shp, w_ptr, Nat.beq_refl, nbz, nb133, nb75, nb55, nb67, n133a, n133b, n75a, n75b, aT, aR, oT, oR, oF, oG, kT, kF, bI, bL, bR, b0, Classical.not_not, not_true_eq_false, not_false_eq_true, and_self, and_true, true_and, ↓reduceIte, decide_true, decide_false, Nat.reduceEqDiff, Nat.reduceLT, Nat.reduceLeDiff, Int.reduceEq, q_isTrailer _ D L n t c2 c3, ct, hb, cl, cf]
      · have cf2 : ¬ 60 ≤ D 13 4 := by have := hB.1; have := hB.2.2.1; omega
        have cf3 : 0 ≤ D 13 4 := by have := hB.1; have := hB.2.1; omega
        rcases b4 with eh | b4
        · obtain ⟨D1, eD1⟩ : ∃ D1, D1 = EN (tzU (tzU (tzU (D) (133 + t) 4 (-9)) (133 + t) 3 (-9)) (133 + t) 5 1) t 2 (D 2 13) (-9) := ⟨_, rfl⟩
          have sD1 : Sm (fun b _ => 81 ≤ b ∧ b ≤ 132) D D1 := by
            rw [eD1]
            unfold EN
            (repeat (refine Sm_U (by omega) ?_)); exact Sm_r _ _
          have hr : ∀ (b : Nat) (j : Int), 81 ≤ b → b ≤ 132 → D1 b j = D b j := fun b j q1 q2 => sD1 b j ⟨q1, q2⟩
          refine ⟨1, D1, n, EM (tzU (tzU (tzU (D1) 95 t (-9)) 94 t (-9)) 96 t 1) t 2 (-9) (-9), ?_, ?_, Sm_1 (by rw [eD1]; unfold EN; (repeat (refine Sm_U (by omega) ?_)); exact Sm_r _ _), Sm_1 (by rw [eD1]; unfold EM EN; (repeat (refine Sm_U (by omega) ?_)); exact Sm_r _ _), ?_⟩
          · rw [eD1]
            rw [dn_X11_lose, b_X11_lose_0]
            simp only [z_cd, i10, i11, dnn, rdU, eW, eU, tzC_w, w_shp, w_ptr, Nat.beq_refl, nbz, nb133, nb75, nb55, nb67, n133a, n133b, n75a, n75b, aT, aR, oT, oR, oF, oG, kT, kF, bI, bL, bR, b0, Classical.not_not, not_true_eq_false, not_false_eq_true, and_self, and_true, true_and, ↓reduceIte, decide_true, decide_false, Nat.reduceEqDiff, Nat.reduceLT, Nat.reduceLeDiff, Int.reduceEq, p_trailerAt_y _ D L n t c1 c3 ht, w_trailer D L n ht, e5, e4, cl, eh, s_tractorAt_n _ D L n (a := -9) (by omega), Int.reduceLT, Int.reduceLE, Int.reduceNeg, p_isFull, cf2, p_enter _ (tzU (tzU (tzU (D) (133 + t) 4 (-9)) (133 + t) 3 (-9)) (133 + t) 5 1) L n t 2 (D 2 13) (-9) (by simp only [rdU, n133a, n133b, n75a, n75b, ↓reduceIte, Nat.reduceEqDiff, Nat.reduceLT, Nat.reduceLeDiff, Int.reduceEq, not_true_eq_false, not_false_eq_true, true_and, and_true, and_self, true_or, or_true, or_false, false_or, ite_self]; omega) (by simp only [rdU, n133a, n133b, n75a, n75b, ↓reduceIte, Nat.reduceEqDiff, Nat.reduceLT, Nat.reduceLeDiff, Int.reduceEq, not_true_eq_false, not_false_eq_true, true_and, and_true, and_self, true_or, or_true, or_false, false_or, ite_self]; omega)]
          · rw [dn_X12_lose, b_X12_lose_0]
            simp only [z_cd, i10, i11, dnn, rdU, eW, eU, tzC_w, w_shp, w_ptr, Nat.beq_refl, nbz, nb133, nb75, nb55, nb67, n133a, n133b, n75a, n75b, aT, aR, oT, oR, oF, oG, kT, kF, bI, bL, bR, b0, Classical.not_not, not_true_eq_false, not_false_eq_true, and_self, and_true, true_and, ↓reduceIte, decide_true, decide_false, Nat.reduceEqDiff, Nat.reduceLT, Nat.reduceLeDiff, Int.reduceEq, q_isTrailer _ D1 L n t (by rw [hr _ _ (by omega) (by omega)]; exact c2) c3, ct, hb, cl, eh, b_X12_lose_56, Int.reduceLT, Int.reduceLE, Int.reduceNeg, hr, cf, q_enter _ (tzU (tzU (tzU (D1) 95 t (-9)) 94 t (-9)) 96 t 1) L n t 2 (-9) (-9) (by simp only [rdU, n133a, n133b, n75a, n75b, ↓reduceIte, Nat.reduceEqDiff, Nat.reduceLT, Nat.reduceLeDiff, Int.reduceEq, not_true_eq_false, not_false_eq_true, true_and, and_true, and_self, true_or, or_true, or_false, false_or, ite_self, hr]; exact hB.2.1) (by simp only [rdU, n133a, n133b, n75a, n75b, ↓reduceIte, Nat.reduceEqDiff, Nat.reduceLT, Nat.reduceLeDiff, Int.reduceEq, not_true_eq_false, not_false_eq_true, true_and, and_true, and_self, true_or, or_true, or_false, false_or, ite_self, hr]; have := hB.2.2.1; omega)]
          · subst eD1
            have w : New D (EM (tzU (tzU (tzU (EN (tzU (tzU (tzU (D) (133 + t) 4 (-9)) (133 + t) 3 (-9)) (133 + t) 5 1) t 2 (D 2 13) (-9)) 95 t (-9)) 94 t (-9)) 96 t 1) t 2 (-9) (-9)) t 2 (-9) (-9) := EM_new (D := D) (D1 := tzU (tzU (tzU (D) (133 + t) 4 (-9)) (133 + t) 3 (-9)) (133 + t) 5 1) (t := t) (s := 2) (m := D 2 13) (h := -9) (y := -9) (D2 := tzU (tzU (tzU (EN (tzU (tzU (tzU (D) (133 + t) 4 (-9)) (133 + t) 3 (-9)) (133 + t) 5 1) t 2 (D 2 13) (-9)) 95 t (-9)) 94 t (-9)) 96 t 1) hB.1 (by simp only [rdU, n133a, n133b, n75a, n75b, ↓reduceIte, Nat.reduceEqDiff, Nat.reduceLT, Nat.reduceLeDiff, Int.reduceEq, not_true_eq_false, not_false_eq_true, true_and, and_true, and_self, true_or, or_true, or_false, false_or, ite_self]) hN.1 (by (repeat (refine Sm_U (by omega) ?_)); exact Sm_r _ _) (by (repeat (refine Sm_U (by omega) ?_)); exact Sm_r _ _) (by (repeat (refine Sm_U (by omega) ?_)); exact Sm_r _ _)
            refine ⟨?_, ?_, ?_, ?_, ?_, ?_, ?_, ?_, ?_, ?_, ?_, ?_, ?_, ?_⟩
            · exact RA_fr (by (unfold EM EN; (repeat (refine Sm_U (by unfold PA; omega) ?_)); exact Sm_r _ _)) hA
            · exact RL_fr (by (unfold EM EN; (repeat (refine Sm_U (by unfold PL; omega) ?_)); exact Sm_r _ _)) hL
            · exact RW_fr (by (unfold EM EN; (repeat (refine Sm_U (by unfold PW; omega) ?_)); exact Sm_r _ _)) hW
            · exact RN_fr (by (unfold EM EN; (repeat (refine Sm_U (by unfold PN; omega) ?_)); exact Sm_r _ _)) hN
            · exact RC_fr (by (unfold EM EN; (repeat (refine Sm_U (by unfold PC; omega) ?_)); exact Sm_r _ _)) ⟨c1, c2, c3⟩
            · refine RT_up hT ht (by unfold EM EN; (repeat (refine Sm_U (by unfold PTx; omega) ?_)); exact Sm_r _ _) ?_
              unfold TR in32 at r2 ⊢
              unfold EM EN
              simp only [rdU, n133a, n133b, n75a, n75b, ↓reduceIte, Nat.reduceEqDiff, Nat.reduceLT, Nat.reduceLeDiff, Int.reduceEq, not_true_eq_false, not_false_eq_true, true_and, and_true, and_self, true_or, or_true, or_false, false_or, ite_self]
              omega
            · exact RD_fr (by (unfold EM EN; (repeat (refine Sm_U (by unfold PD; omega) ?_)); exact Sm_r _ _)) hD
            · exact RK_fr (by (unfold EM EN; (repeat (refine Sm_U (by unfold PK; omega) ?_)); exact Sm_r _ _)) hK
            · exact RB_new hB hN (by have := hB.2.2.1; omega) w ⟨by omega, by omega⟩ (by omega) (by omega) (by omega)
            · exact RQ_new hQ w
            · refine RX_new hX hB.2.1 w ht (fun u hu => by unfold EM EN; simp only [rdU, n133a, n133b, n75a, n75b, ↓reduceIte, Nat.reduceEqDiff, Nat.reduceLT, Nat.reduceLeDiff, Int.reduceEq, not_true_eq_false, not_false_eq_true, true_and, and_true, and_self, true_or, or_true, or_false, false_or, ite_self]) (fun u hu hut => ?_) ?_
              · have ne : ¬ (133 + u = 133 + t) := by omega
                unfold EM EN
                simp only [rdU, n133a, n133b, n75a, n75b, ↓reduceIte, Nat.reduceEqDiff, Nat.reduceLT, Nat.reduceLeDiff, Int.reduceEq, not_true_eq_false, not_false_eq_true, true_and, and_true, and_self, true_or, or_true, or_false, false_or, ite_self, ne]
              · have z3 : (EM (tzU (tzU (tzU (EN (tzU (tzU (tzU (D) (133 + t) 4 (-9)) (133 + t) 3 (-9)) (133 + t) 5 1) t 2 (D 2 13) (-9)) 95 t (-9)) 94 t (-9)) 96 t 1) t 2 (-9) (-9)) (133 + t) 3 = -9 := by unfold EM EN; simp only [rdU, n133a, n133b, n75a, n75b, ↓reduceIte, Nat.reduceEqDiff, Nat.reduceLT, Nat.reduceLeDiff, Int.reduceEq, not_true_eq_false, not_false_eq_true, true_and, and_true, and_self, true_or, or_true, or_false, false_or, ite_self]
                have z6 : (EM (tzU (tzU (tzU (EN (tzU (tzU (tzU (D) (133 + t) 4 (-9)) (133 + t) 3 (-9)) (133 + t) 5 1) t 2 (D 2 13) (-9)) 95 t (-9)) 94 t (-9)) 96 t 1) t 2 (-9) (-9)) (133 + t) 6 = D (133 + t) 6 := by unfold EM EN; simp only [rdU, n133a, n133b, n75a, n75b, ↓reduceIte, Nat.reduceEqDiff, Nat.reduceLT, Nat.reduceLeDiff, Int.reduceEq, not_true_eq_false, not_false_eq_true, true_and, and_true, and_self, true_or, or_true, or_false, false_or, ite_self]
                exact Or.inr (Or.inr (Or.inl ⟨rfl, z3, z6⟩))
            · exact RM_fr (by (unfold EM EN; (repeat (refine Sm_U (by unfold PM; omega) ?_)); exact Sm_r _ _)) hM
            · exact RP_fr (by (unfold EM EN; (repeat (refine Sm_U (by unfold PP; omega) ?_)); exact Sm_r _ _)) hP
            · exact RS_fr (by (unfold EM EN; (repeat (refine Sm_U (by unfold PS; omega) ?_)); exact Sm_r _ _)) hS
        · obtain ⟨k, eh⟩ : ∃ k : Nat, D 95 t = k := ⟨(D 95 t).toNat, by omega⟩
          have hk : k < 6 := by omega
          have ck0 : ¬ ((k : Int) < 0) := by omega
          have hbk : tqib (k : Int) 6 = true := tqib_y (by omega) (by omega)
          obtain ⟨D1, eD1⟩ : ∃ D1, D1 = EN (tzU (tzU (tzU (tzU D (75 + k) 2 (-9)) (133 + t) 4 (-9)) (133 + t) 3 (-9)) (133 + t) 5 1) t 2 (D 2 13) (-9) := ⟨_, rfl⟩
          have sD1 : Sm (fun b _ => 81 ≤ b ∧ b ≤ 132) D D1 := by
            rw [eD1]
            unfold EN
            (repeat (refine Sm_U (by omega) ?_)); exact Sm_r _ _
          have hr : ∀ (b : Nat) (j : Int), 81 ≤ b → b ≤ 132 → D1 b j = D b j := fun b j q1 q2 => sD1 b j ⟨q1, q2⟩
          refine ⟨1, D1, n, EM (tzU (tzU (tzU (tzU (D1) 107 k (-9)) 95 t (-9)) 94 t (-9)) 96 t 1) t 2 (-9) (-9), ?_, ?_, Sm_1 (by rw [eD1]; unfold EN; (repeat (refine Sm_U (by omega) ?_)); exact Sm_r _ _), Sm_1 (by rw [eD1]; unfold EM EN; (repeat (refine Sm_U (by omega) ?_)); exact Sm_r _ _), ?_⟩
          · rw [eD1]
            rw [dn_X11_lose, b_X11_lose_0]
            simp only [z_cd, i10, i11, dnn, rdU, eW, eU, tzC_w, w_shp, w_ptr, Nat.beq_refl, nbz, nb133, nb75, nb55, nb67, n133a, n133b, n75a, n75b, aT, aR, oT, oR, oF, oG, kT, kF, bI, bL, bR, b0, Classical.not_not, not_true_eq_false, not_false_eq_true, and_self, and_true, true_and, ↓reduceIte, decide_true, decide_false, Nat.reduceEqDiff, Nat.reduceLT, Nat.reduceLeDiff, Int.reduceEq, p_trailerAt_y _ D L n t c1 c3 ht, w_trailer D L n ht, e5, e4, cl, eh, s_tractorAt_y _ D L n hk, w_tractor D L n hk, Int.reduceLT, Int.reduceLE, Int.reduceNeg, p_isFull, cf2, p_enter _ (tzU (tzU (tzU (tzU D (75 + k) 2 (-9)) (133 + t) 4 (-9)) (133 + t) 3 (-9)) (133 + t) 5 1) L n t 2 (D 2 13) (-9) (by simp only [rdU, n133a, n133b, n75a, n75b, ↓reduceIte, Nat.reduceEqDiff, Nat.reduceLT, Nat.reduceLeDiff, Int.reduceEq, not_true_eq_false, not_false_eq_true, true_and, and_true, and_self, true_or, or_true, or_false, false_or, ite_self, n75c hk, n75d hk, n75e hk, n75f hk]; omega) (by simp only [rdU, n133a, n133b, n75a, n75b, ↓reduceIte, Nat.reduceEqDiff, Nat.reduceLT, Nat.reduceLeDiff, Int.reduceEq, not_true_eq_false, not_false_eq_true, true_and, and_true, and_self, true_or, or_true, or_false, false_or, ite_self, n75c hk, n75d hk, n75e hk, n75f hk]; omega), n75c hk, n75d hk, n75e hk, n75f hk]
          · rw [dn_X12_lose, b_X12_lose_0]
            simp only [z_cd, i10, i11, dnn, rdU, eW, eU, tzC_w, w_shp, w_ptr, Nat.beq_refl, nbz, nb133, nb75, nb55, nb67, n133a, n133b, n75a, n75b, aT, aR, oT, oR, oF, oG, kT, kF, bI, bL, bR, b0, Classical.not_not, not_true_eq_false, not_false_eq_true, and_self, and_true, true_and, ↓reduceIte, decide_true, decide_false, Nat.reduceEqDiff, Nat.reduceLT, Nat.reduceLeDiff, Int.reduceEq, q_isTrailer _ D1 L n t (by rw [hr _ _ (by omega) (by omega)]; exact c2) c3, ct, hb, cl, eh, b_X12_lose_56, ck0, hbk, Int.reduceLT, Int.reduceLE, Int.reduceNeg, hr, cf, q_enter _ (tzU (tzU (tzU (tzU (D1) 107 k (-9)) 95 t (-9)) 94 t (-9)) 96 t 1) L n t 2 (-9) (-9) (by simp only [rdU, n133a, n133b, n75a, n75b, ↓reduceIte, Nat.reduceEqDiff, Nat.reduceLT, Nat.reduceLeDiff, Int.reduceEq, not_true_eq_false, not_false_eq_true, true_and, and_true, and_self, true_or, or_true, or_false, false_or, ite_self, hr, n75c hk, n75d hk, n75e hk, n75f hk]; exact hB.2.1) (by simp only [rdU, n133a, n133b, n75a, n75b, ↓reduceIte, Nat.reduceEqDiff, Nat.reduceLT, Nat.reduceLeDiff, Int.reduceEq, not_true_eq_false, not_false_eq_true, true_and, and_true, and_self, true_or, or_true, or_false, false_or, ite_self, hr, n75c hk, n75d hk, n75e hk, n75f hk]; have := hB.2.2.1; omega), n75c hk, n75d hk, n75e hk, n75f hk]
          · subst eD1
            have w : New D (EM (tzU (tzU (tzU (tzU (EN (tzU (tzU (tzU (tzU D (75 + k) 2 (-9)) (133 + t) 4 (-9)) (133 + t) 3 (-9)) (133 + t) 5 1) t 2 (D 2 13) (-9)) 107 k (-9)) 95 t (-9)) 94 t (-9)) 96 t 1) t 2 (-9) (-9)) t 2 (-9) (-9) := EM_new (D := D) (D1 := tzU (tzU (tzU (tzU D (75 + k) 2 (-9)) (133 + t) 4 (-9)) (133 + t) 3 (-9)) (133 + t) 5 1) (t := t) (s := 2) (m := D 2 13) (h := -9) (y := -9) (D2 := tzU (tzU (tzU (tzU (EN (tzU (tzU (tzU (tzU D (75 + k) 2 (-9)) (133 + t) 4 (-9)) (133 + t) 3 (-9)) (133 + t) 5 1) t 2 (D 2 13) (-9)) 107 k (-9)) 95 t (-9)) 94 t (-9)) 96 t 1) hB.1 (by simp only [rdU, n133a, n133b, n75a, n75b, ↓reduceIte, Nat.reduceEqDiff, Nat.reduceLT, Nat.reduceLeDiff, Int.reduceEq, not_true_eq_false, not_false_eq_true, true_and, and_true, and_self, true_or, or_true, or_false, false_or, ite_self, n75c hk, n75d hk, n75e hk, n75f hk]) hN.1 (by (repeat (refine Sm_U (by omega) ?_)); exact Sm_r _ _) (by (repeat (refine Sm_U (by omega) ?_)); exact Sm_r _ _) (by (repeat (refine Sm_U (by omega) ?_)); exact Sm_r _ _)
            refine ⟨?_, ?_, ?_, ?_, ?_, ?_, ?_, ?_, ?_, ?_, ?_, ?_, ?_, ?_⟩
            · exact RA_fr (by (unfold EM EN; (repeat (refine Sm_U (by unfold PA; omega) ?_)); exact Sm_r _ _)) hA
            · exact RL_fr (by (unfold EM EN; (repeat (refine Sm_U (by unfold PL; omega) ?_)); exact Sm_r _ _)) hL
            · exact RW_fr (by (unfold EM EN; (repeat (refine Sm_U (by unfold PW; omega) ?_)); exact Sm_r _ _)) hW
            · exact RN_fr (by (unfold EM EN; (repeat (refine Sm_U (by unfold PN; omega) ?_)); exact Sm_r _ _)) hN
            · exact RC_fr (by (unfold EM EN; (repeat (refine Sm_U (by unfold PC; omega) ?_)); exact Sm_r _ _)) ⟨c1, c2, c3⟩
            · refine RT_up hT ht (by unfold EM EN; (repeat (refine Sm_U (by unfold PTx; omega) ?_)); exact Sm_r _ _) ?_
              unfold TR in32 at r2 ⊢
              unfold EM EN
              simp only [rdU, n133a, n133b, n75a, n75b, ↓reduceIte, Nat.reduceEqDiff, Nat.reduceLT, Nat.reduceLeDiff, Int.reduceEq, not_true_eq_false, not_false_eq_true, true_and, and_true, and_self, true_or, or_true, or_false, false_or, ite_self, n75c hk, n75d hk, n75e hk, n75f hk]
              omega
            · exact RD_fr (by (unfold EM EN; (repeat (refine Sm_U (by unfold PD; omega) ?_)); exact Sm_r _ _)) hD
            · refine RK_up (t := k) hK (by unfold EM EN; (repeat (refine Sm_U (by unfold PKx; omega) ?_)); exact Sm_r _ _) ?_
              have r3 := hK k hk
              unfold KR at r3 ⊢
              unfold EM EN
              simp only [rdU, n133a, n133b, n75a, n75b, ↓reduceIte, Nat.reduceEqDiff, Nat.reduceLT, Nat.reduceLeDiff, Int.reduceEq, not_true_eq_false, not_false_eq_true, true_and, and_true, and_self, true_or, or_true, or_false, false_or, ite_self, n75c hk, n75d hk, n75e hk, n75f hk]
              omega
            · exact RB_new hB hN (by have := hB.2.2.1; omega) w ⟨by omega, by omega⟩ (by omega) (by omega) (by omega)
            · exact RQ_new hQ w
            · refine RX_new hX hB.2.1 w ht (fun u hu => by unfold EM EN; simp only [rdU, n133a, n133b, n75a, n75b, ↓reduceIte, Nat.reduceEqDiff, Nat.reduceLT, Nat.reduceLeDiff, Int.reduceEq, not_true_eq_false, not_false_eq_true, true_and, and_true, and_self, true_or, or_true, or_false, false_or, ite_self, n75c hk, n75d hk, n75e hk, n75f hk]) (fun u hu hut => ?_) ?_
              · have ne : ¬ (133 + u = 133 + t) := by omega
                unfold EM EN
                simp only [rdU, n133a, n133b, n75a, n75b, ↓reduceIte, Nat.reduceEqDiff, Nat.reduceLT, Nat.reduceLeDiff, Int.reduceEq, not_true_eq_false, not_false_eq_true, true_and, and_true, and_self, true_or, or_true, or_false, false_or, ite_self, n75c hk, n75d hk, n75e hk, n75f hk, ne]
              · have z3 : (EM (tzU (tzU (tzU (tzU (EN (tzU (tzU (tzU (tzU D (75 + k) 2 (-9)) (133 + t) 4 (-9)) (133 + t) 3 (-9)) (133 + t) 5 1) t 2 (D 2 13) (-9)) 107 k (-9)) 95 t (-9)) 94 t (-9)) 96 t 1) t 2 (-9) (-9)) (133 + t) 3 = -9 := by unfold EM EN; simp only [rdU, n133a, n133b, n75a, n75b, ↓reduceIte, Nat.reduceEqDiff, Nat.reduceLT, Nat.reduceLeDiff, Int.reduceEq, not_true_eq_false, not_false_eq_true, true_and, and_true, and_self, true_or, or_true, or_false, false_or, ite_self, n75c hk, n75d hk, n75e hk, n75f hk]
                have z6 : (EM (tzU (tzU (tzU (tzU (EN (tzU (tzU (tzU (tzU D (75 + k) 2 (-9)) (133 + t) 4 (-9)) (133 + t) 3 (-9)) (133 + t) 5 1) t 2 (D 2 13) (-9)) 107 k (-9)) 95 t (-9)) 94 t (-9)) 96 t 1) t 2 (-9) (-9)) (133 + t) 6 = D (133 + t) 6 := by unfold EM EN; simp only [rdU, n133a, n133b, n75a, n75b, ↓reduceIte, Nat.reduceEqDiff, Nat.reduceLT, Nat.reduceLeDiff, Int.reduceEq, not_true_eq_false, not_false_eq_true, true_and, and_true, and_self, true_or, or_true, or_false, false_or, ite_self, n75c hk, n75d hk, n75e hk, n75f hk]
                exact Or.inr (Or.inr (Or.inl ⟨rfl, z3, z6⟩))
            · exact RM_fr (by (unfold EM EN; (repeat (refine Sm_U (by unfold PM; omega) ?_)); exact Sm_r _ _)) hM
            · exact RP_fr (by (unfold EM EN; (repeat (refine Sm_U (by unfold PP; omega) ?_)); exact Sm_r _ _)) hP
            · exact RS_fr (by (unfold EM EN; (repeat (refine Sm_U (by unfold PS; omega) ?_)); exact Sm_r _ _)) hS
    · refine ⟨-4, D, n, D, ?_, ?_, rfl, rfl, hR⟩
      · rw [dn_X11_lose, b_X11_lose_0]
        simp only [z_cd, i10, i11, dnn, rdU, eW, eU, tzC_w, w_shp, w_ptr, Nat.beq_refl, nbz, nb133, nb75, nb55, nb67, n133a, n133b, n75a, n75b, aT, aR, oT, oR, oF, oG, kT, kF, bI, bL, bR, b0, Classical.not_not, not_true_eq_false, not_false_eq_true, and_self, and_true, true_and, ↓reduceIte, decide_true, decide_false, Nat.reduceEqDiff, Nat.reduceLT, Nat.reduceLeDiff, Int.reduceEq, p_trailerAt_y _ D L n t c1 c3 ht, w_trailer D L n ht, e5, cl]
      · rw [dn_X12_lose, b_X12_lose_0]
        simp only [z_cd, i10, i11, dnn, rdU, eW, eU, tzC_w, w_shp, w_ptr, Nat.beq_refl, nbz, nb133, nb75, nb55, nb67, n133a, n133b, n75a, n75b, aT, aR, oT, oR, oF, oG, kT, kF, bI, bL, bR, b0, Classical.not_not, not_true_eq_false, not_false_eq_true, and_self, and_true, true_and, ↓reduceIte, decide_true, decide_false, Nat.reduceEqDiff, Nat.reduceLT, Nat.reduceLeDiff, Int.reduceEq, q_isTrailer _ D L n t c2 c3, ct, hb, cl]
  · refine ⟨-1, D, n, D, ?_, ?_, rfl, rfl, hR⟩
    · rw [dn_X11_lose, b_X11_lose_0]
      simp only [z_cd, i10, i11, dnn, rdU, eW, eU, tzC_w, w_shp, w_ptr, Nat.beq_refl, nbz, nb133, nb75, nb55, nb67, n133a, n133b, n75a, n75b, aT, aR, oT, oR, oF, oG, kT, kF, bI, bL, bR, b0, Classical.not_not, not_true_eq_false, not_false_eq_true, and_self, and_true, true_and, ↓reduceIte, decide_true, decide_false, Nat.reduceEqDiff, Nat.reduceLT, Nat.reduceLeDiff, Int.reduceEq, p_trailerAt_n _ D L n a0 c1 ct, p_isWithin, p_isYard]
    · rw [dn_X12_lose, b_X12_lose_0]
      simp only [z_cd, i10, i11, dnn, rdU, eW, eU, tzC_w, w_shp, w_ptr, Nat.beq_refl, nbz, nb133, nb75, nb55, nb67, n133a, n133b, n75a, n75b, aT, aR, oT, oR, oF, oG, kT, kF, bI, bL, bR, b0, Classical.not_not, not_true_eq_false, not_false_eq_true, and_self, and_true, true_and, ↓reduceIte, decide_true, decide_false, Nat.reduceEqDiff, Nat.reduceLT, Nat.reduceLeDiff, Int.reduceEq, q_isTrailer _ D L n a0 c2 c3, ct, p_in, q_isYard]
set_option maxRecDepth 100000 in
set_option maxHeartbeats 400000 in
theorem ag_hitch {L : Nat} (a0 a1 : Int) : AgI Rel L n_X11_hitch n_X12_hitch [vI a0, vI a1] := by
  intro D n hR
  obtain ⟨hA, hL, hW, hN, ⟨c1, c2, c3⟩, hT, hD, hK, hB, hQ, hX, hM, hP, hS⟩ := id hR
  by_cases ct : 0 ≤ a0 ∧ a0 ≤ 5
  · obtain ⟨k, e⟩ : ∃ k : Nat, a0 = k := ⟨a0.toNat, by omega⟩
    subst e
    have hk : k < 6 := by omega
    have hbk : tqib (k : Int) 6 = true := tqib_y (by omega) (by omega)
    have rk := hK k hk
    have e0 : D (75 + k) 0 = D 105 k := rk.1
    have e1 : D (75 + k) 1 = D 106 k := rk.2.1
    have e2 : D (75 + k) 2 = D 107 k := rk.2.2.1
    have en : D 2 13 = D 81 5 := hN.1
    have kb : 0 ≤ D 105 k ∧ D 105 k ≤ 7 := by unfold KR at rk; omega
    have kc : D 107 k = -9 ∨ 0 ≤ D 107 k ∧ D 107 k < n := by unfold KR at rk; omega
    by_cases cw : 0 ≤ a1 ∧ a1 < n
    · obtain ⟨t, e⟩ : ∃ t : Nat, a1 = t := ⟨a1.toNat, by omega⟩
      subst e
      have ht : t < n := by omega
      have ht12 : t < 12 := by omega
      have hb : tqib (t : Int) 12 = true := tqib_y (by omega) (by omega)
      have r := hT.1 t ht
      have r2 := r
      have e3 : D (133 + t) 3 = D 94 t := r.2.2.1
      by_cases co : D 81 5 < D 106 k
      · refine ⟨-4, D, n, D, ?_, ?_, rfl, rfl, hR⟩
        · rw [dn_X11_hitch, b_X11_hitch_0]
          simp only [z_cd, i10, i11, dnn, rdU, eW, eU, tzC_w, w_shp, w_ptr, Nat.beq_refl, nbz, nb133, nb75, nb55, nb67, n133a, n133b, n75a, n75b, aT, aR, oT, oR, oF, oG, kT, kF, bI, bL, bR, b0, Classical.not_not, not_true_eq_false, not_false_eq_true, and_self, and_true, true_and, ↓reduceIte, decide_true, decide_false, Nat.reduceEqDiff, Nat.reduceLT, Nat.reduceLeDiff, Int.reduceEq, s_tractorAt_y _ D L n hk, w_tractor D L n hk, p_trailerAt_y _ D L n t c1 c3 ht, w_trailer D L n ht, p_onWay _ D L n k hk, e0, e1, e2, en, co]
        · rw [dn_X12_hitch, b_X12_hitch_0]
          simp only [z_cd, i10, i11, dnn, rdU, eW, eU, tzC_w, w_shp, w_ptr, Nat.beq_refl, nbz, nb133, nb75, nb55, nb67, n133a, n133b, n75a, n75b, aT, aR, oT, oR, oF, oG, kT, kF, bI, bL, bR, b0, Classical.not_not, not_true_eq_false, not_false_eq_true, and_self, and_true, true_and, ↓reduceIte, decide_true, decide_false, Nat.reduceEqDiff, Nat.reduceLT, Nat.reduceLeDiff, Int.reduceEq, q_isTractor, ct, q_isTrailer _ D L n t c2 c3, cw, hb, hbk, q_onWay _ D L n k hk, co]
      · rcases kc with eh | kc
        · by_cases cy : D 94 t = D 105 k
          · by_cases cf : D 81 34 = 60
            · have cf2 : 60 ≤ D 13 4 := by have := hB.1; omega
              · refine ⟨-2, D, n, D, ?_, ?_, rfl, rfl, hR⟩
                · rw [dn_X11_hitch, b_X11_hitch_0]
                  simp only [z_cd, i10, i11, dnn, rdU, eW, eU, tzC_w, w_shp, w_ptr, Nat.beq_refl, nbz, nb133, nb75, nb55, nb67, n133a, n133b, n75a, n75b, aT, aR, oT, oR, oF, oG, kT, kF, bI, bL, bR, b0, Classical.not_not, not_true_eq_false, not_false_eq_true, and_self, and_true, true_and, ↓reduceIte, decide_true, decide_false, Nat.reduceEqDiff, Nat.reduceLT, Nat.reduceLeDiff, Int.reduceEq, s_tractorAt_y _ D L n hk, w_tractor D L n hk, p_trailerAt_y _ D L n t c1 c3 ht, w_trailer D L n ht, p_onWay _ D L n k hk, e0, e1, e2, en, co, eh, e3, cy, p_isFull, cf2, Int.reduceLT, Int.reduceLE, Int.reduceNeg]
                · rw [dn_X12_hitch, b_X12_hitch_0]
                  simp only [z_cd, i10, i11, dnn, rdU, eW, eU, tzC_w, w_shp, w_ptr, Nat.beq_refl, nbz, nb133, nb75, nb55, nb67, n133a, n133b, n75a, n75b, aT, aR, oT, oR, oF, oG, kT, kF, bI, bL, bR, b0, Classical.not_not, not_true_eq_false, not_false_eq_true, and_self, and_true, true_and, ↓reduceIte, decide_true, decide_false, Nat.reduceEqDiff, Nat.reduceLT, Nat.reduceLeDiff, Int.reduceEq, q_isTractor, ct, q_isTrailer _ D L n t c2 c3, cw, hb, hbk, q_onWay _ D L n k hk, co, eh, cy, cf, Int.reduceLT, Int.reduceLE, Int.reduceNeg]
            · have cf2 : ¬ 60 ≤ D 13 4 := by have := hB.1; have := hB.2.2.1; omega
              have cf3 : 0 ≤ D 13 4 := by have := hB.1; have := hB.2.1; omega
              obtain ⟨D1, eD1⟩ : ∃ D1, D1 = EN (tzU (tzU (tzU D (75 + k) 2 t) (133 + t) 3 (-9)) (133 + t) 4 k) t 1 (D 81 5) k := ⟨_, rfl⟩
              have sD1 : Sm (fun b _ => 81 ≤ b ∧ b ≤ 132) D D1 := by
                rw [eD1]
                unfold EN
                (repeat (refine Sm_U (by omega) ?_)); exact Sm_r _ _
              have hr : ∀ (b : Nat) (j : Int), 81 ≤ b → b ≤ 132 → D1 b j = D b j := fun b j q1 q2 => sD1 b j ⟨q1, q2⟩
              refine ⟨1, D1, n, tzU (tzU (tzU (EM (D1) t 1 k (D 105 k)) 94 t (-9)) 95 t k) 107 k t, ?_, ?_, Sm_1 (by rw [eD1]; unfold EN; (repeat (refine Sm_U (by omega) ?_)); exact Sm_r _ _), Sm_1 (by rw [eD1]; unfold EM EN; (repeat (refine Sm_U (by omega) ?_)); exact Sm_r _ _), ?_⟩
              · rw [eD1]
                rw [dn_X11_hitch, b_X11_hitch_0]
                simp only [z_cd, i10, i11, dnn, rdU, eW, eU, tzC_w, w_shp, w_ptr, Nat.beq_refl, nbz, nb133, nb75, nb55, nb67, n133a, n133b, n75a, n75b, aT, aR, oT, oR, oF, oG, kT, kF, bI, bL, bR, b0, Classical.not_not, not_true_eq_false, not_false_eq_true, and_self, and_true, true_and, ↓reduceIte, decide_true, decide_false, Nat.reduceEqDiff, Nat.reduceLT, Nat.reduceLeDiff, Int.reduceEq, s_tractorAt_y _ D L n hk, w_tractor D L n hk, p_trailerAt_y _ D L n t c1 c3 ht, w_trailer D L n ht, p_onWay _ D L n k hk, e0, e1, e2, en, co, eh, e3, cy, Int.reduceLT, Int.reduceLE, Int.reduceNeg, p_isFull, cf2, p_enter _ (tzU (tzU (tzU D (75 + k) 2 t) (133 + t) 3 (-9)) (133 + t) 4 k) L n t 1 (D 81 5) k (by simp only [rdU, n133a, n133b, n75a, n75b, ↓reduceIte, Nat.reduceEqDiff, Nat.reduceLT, Nat.reduceLeDiff, Int.reduceEq, not_true_eq_false, not_false_eq_true, true_and, and_true, and_self, true_or, or_true, or_false, false_or, ite_self, n75c hk, n75d hk, n75e hk, n75f hk]; omega) (by simp only [rdU, n133a, n133b, n75a, n75b, ↓reduceIte, Nat.reduceEqDiff, Nat.reduceLT, Nat.reduceLeDiff, Int.reduceEq, not_true_eq_false, not_false_eq_true, true_and, and_true, and_self, true_or, or_true, or_false, false_or, ite_self, n75c hk, n75d hk, n75e hk, n75f hk]; omega), n75c hk, n75d hk, n75e hk, n75f hk]
              · rw [dn_X12_hitch, b_X12_hitch_0]
                simp only [z_cd, i10, i11, dnn, rdU, eW, eU, tzC_w, w_shp, w_ptr, Nat.beq_refl, nbz, nb133, nb75, nb55, nb67, n133a, n133b, n75a, n75b, aT, aR, oT, oR, oF, oG, kT, kF, bI, bL, bR, b0, Classical.not_not, not_true_eq_false, not_false_eq_true, and_self, and_true, true_and, ↓reduceIte, decide_true, decide_false, Nat.reduceEqDiff, Nat.reduceLT, Nat.reduceLeDiff, Int.reduceEq, q_isTractor, ct, q_isTrailer _ D1 L n t (by rw [hr _ _ (by omega) (by omega)]; exact c2) c3, cw, hb, hbk, q_onWay _ D1 L n k hk, co, eh, cy, Int.reduceLT, Int.reduceLE, Int.reduceNeg, hr, cf, q_enter _ (D1) L n t 1 k (D 105 k) (by simp only [rdU, n133a, n133b, n75a, n75b, ↓reduceIte, Nat.reduceEqDiff, Nat.reduceLT, Nat.reduceLeDiff, Int.reduceEq, not_true_eq_false, not_false_eq_true, true_and, and_true, and_self, true_or, or_true, or_false, false_or, ite_self, hr, n75c hk, n75d hk, n75e hk, n75f hk]; exact hB.2.1) (by simp only [rdU, n133a, n133b, n75a, n75b, ↓reduceIte, Nat.reduceEqDiff, Nat.reduceLT, Nat.reduceLeDiff, Int.reduceEq, not_true_eq_false, not_false_eq_true, true_and, and_true, and_self, true_or, or_true, or_false, false_or, ite_self, hr, n75c hk, n75d hk, n75e hk, n75f hk]; have := hB.2.2.1; omega), n75c hk, n75d hk, n75e hk, n75f hk]
              · subst eD1
                have w : New D (tzU (tzU (tzU (EM (EN (tzU (tzU (tzU D (75 + k) 2 t) (133 + t) 3 (-9)) (133 + t) 4 k) t 1 (D 81 5) k) t 1 k (D 105 k)) 94 t (-9)) 95 t k) 107 k t) t 1 k (D 105 k) := EM_new (D := D) (D1 := tzU (tzU (tzU D (75 + k) 2 t) (133 + t) 3 (-9)) (133 + t) 4 k) (t := t) (s := 1) (m := D 81 5) (h := k) (y := D 105 k) (D2 := EN (tzU (tzU (tzU D (75 + k) 2 t) (133 + t) 3 (-9)) (133 + t) 4 k) t 1 (D 81 5) k) hB.1 (by simp only [rdU, n133a, n133b, n75a, n75b, ↓reduceIte, Nat.reduceEqDiff, Nat.reduceLT, Nat.reduceLeDiff, Int.reduceEq, not_true_eq_false, not_false_eq_true, true_and, and_true, and_self, true_or, or_true, or_false, false_or, ite_self, n75c hk, n75d hk, n75e hk, n75f hk]) rfl (by (repeat (refine Sm_U (by omega) ?_)); exact Sm_r _ _) (by (repeat (refine Sm_U (by omega) ?_)); exact Sm_r _ _) (by (repeat (refine Sm_U (by omega) ?_)); exact Sm_r _ _)
                refine ⟨?_, ?_, ?_, ?_, ?_, ?_, ?_, ?_, ?_, ?_, ?_, ?_, ?_, ?_⟩
                · exact RA_fr (by (unfold EM EN; (repeat (refine Sm_U (by unfold PA; omega) ?_)); exact Sm_r _ _)) hA
                · exact RL_fr (by (unfold EM EN; (repeat (refine Sm_U (by unfold PL; omega) ?_)); exact Sm_r _ _)) hL
                · exact RW_fr (by (unfold EM EN; (repeat (refine Sm_U (by unfold PW; omega) ?_)); exact Sm_r _ _)) hW
                · exact RN_fr (by (unfold EM EN; (repeat (refine Sm_U (by unfold PN; omega) ?_)); exact Sm_r _ _)) hN
                · exact RC_fr (by (unfold EM EN; (repeat (refine Sm_U (by unfold PC; omega) ?_)); exact Sm_r _ _)) ⟨c1, c2, c3⟩
                · refine RT_up hT ht (by unfold EM EN; (repeat (refine Sm_U (by unfold PTx; omega) ?_)); exact Sm_r _ _) ?_
                  unfold TR in32 at r2 ⊢
                  unfold EM EN
                  simp only [rdU, n133a, n133b, n75a, n75b, ↓reduceIte, Nat.reduceEqDiff, Nat.reduceLT, Nat.reduceLeDiff, Int.reduceEq, not_true_eq_false, not_false_eq_true, true_and, and_true, and_self, true_or, or_true, or_false, false_or, ite_self, n75c hk, n75d hk, n75e hk, n75f hk]
                  omega
                · exact RD_fr (by (unfold EM EN; (repeat (refine Sm_U (by unfold PD; omega) ?_)); exact Sm_r _ _)) hD
                · refine RK_up (t := k) hK (by unfold EM EN; (repeat (refine Sm_U (by unfold PKx; omega) ?_)); exact Sm_r _ _) ?_
                  have r3 := hK k hk
                  unfold KR at r3 ⊢
                  unfold EM EN
                  simp only [rdU, n133a, n133b, n75a, n75b, ↓reduceIte, Nat.reduceEqDiff, Nat.reduceLT, Nat.reduceLeDiff, Int.reduceEq, not_true_eq_false, not_false_eq_true, true_and, and_true, and_self, true_or, or_true, or_false, false_or, ite_self, n75c hk, n75d hk, n75e hk, n75f hk]
                  omega
                · exact RB_new hB hN (by have := hB.2.2.1; omega) w ⟨by omega, by omega⟩ (by omega) (by omega) (fun _ => ⟨by omega, by omega⟩)
                · exact RQ_new hQ w
                · refine RX_new hX hB.2.1 w ht (fun u hu => by unfold EM EN; simp only [rdU, n133a, n133b, n75a, n75b, ↓reduceIte, Nat.reduceEqDiff, Nat.reduceLT, Nat.reduceLeDiff, Int.reduceEq, not_true_eq_false, not_false_eq_true, true_and, and_true, and_self, true_or, or_true, or_false, false_or, ite_self, n75c hk, n75d hk, n75e hk, n75f hk]) (fun u hu hut => ?_) ?_
                  · have ne : ¬ (133 + u = 133 + t) := by omega
                    unfold EM EN
                    simp only [rdU, n133a, n133b, n75a, n75b, ↓reduceIte, Nat.reduceEqDiff, Nat.reduceLT, Nat.reduceLeDiff, Int.reduceEq, not_true_eq_false, not_false_eq_true, true_and, and_true, and_self, true_or, or_true, or_false, false_or, ite_self, n75c hk, n75d hk, n75e hk, n75f hk, ne]
                  · have z3 : (tzU (tzU (tzU (EM (EN (tzU (tzU (tzU D (75 + k) 2 t) (133 + t) 3 (-9)) (133 + t) 4 k) t 1 (D 81 5) k) t 1 k (D 105 k)) 94 t (-9)) 95 t k) 107 k t) (133 + t) 3 = -9 := by unfold EM EN; simp only [rdU, n133a, n133b, n75a, n75b, ↓reduceIte, Nat.reduceEqDiff, Nat.reduceLT, Nat.reduceLeDiff, Int.reduceEq, not_true_eq_false, not_false_eq_true, true_and, and_true, and_self, true_or, or_true, or_false, false_or, ite_self, n75c hk, n75d hk, n75e hk, n75f hk]
                    have z6 : (tzU (tzU (tzU (EM (EN (tzU (tzU (tzU D (75 + k) 2 t) (133 + t) 3 (-9)) (133 + t) 4 k) t 1 (D 81 5) k) t 1 k (D 105 k)) 94 t (-9)) 95 t k) 107 k t) (133 + t) 6 = D (133 + t) 6 := by unfold EM EN; simp only [rdU, n133a, n133b, n75a, n75b, ↓reduceIte, Nat.reduceEqDiff, Nat.reduceLT, Nat.reduceLeDiff, Int.reduceEq, not_true_eq_false, not_false_eq_true, true_and, and_true, and_self, true_or, or_true, or_false, false_or, ite_self, n75c hk, n75d hk, n75e hk, n75f hk]
                    exact Or.inr (Or.inl ⟨rfl, by rw [e3, cy]; omega, (e3.trans cy).symm, z3, z6⟩)
                · exact RM_fr (by (unfold EM EN; (repeat (refine Sm_U (by unfold PM; omega) ?_)); exact Sm_r _ _)) hM
                · exact RP_fr (by (unfold EM EN; (repeat (refine Sm_U (by unfold PP; omega) ?_)); exact Sm_r _ _)) hP
                · exact RS_fr (by (unfold EM EN; (repeat (refine Sm_U (by unfold PS; omega) ?_)); exact Sm_r _ _)) hS
          · refine ⟨-4, D, n, D, ?_, ?_, rfl, rfl, hR⟩
            · rw [dn_X11_hitch, b_X11_hitch_0]
              simp only [z_cd, i10, i11, dnn, rdU, eW, eU, tzC_w, w_shp, w_ptr, Nat.beq_refl, nbz, nb133, nb75, nb55, nb67, n133a, n133b, n75a, n75b, aT, aR, oT, oR, oF, oG, kT, kF, bI, bL, bR, b0, Classical.not_not, not_true_eq_false, not_false_eq_true, and_self, and_true, true_and, ↓reduceIte, decide_true, decide_false, Nat.reduceEqDiff, Nat.reduceLT, Nat.reduceLeDiff, Int.reduceEq, s_tractorAt_y _ D L n hk, w_tractor D L n hk, p_trailerAt_y _ D L n t c1 c3 ht, w_trailer D L n ht, p_onWay _ D L n k hk, e0, e1, e2, en, co, eh, e3, cy, Int.reduceLT, Int.reduceLE, Int.reduceNeg]
            · rw [dn_X12_hitch, b_X12_hitch_0]
              simp only [z_cd, i10, i11, dnn, rdU, eW, eU, tzC_w, w_shp, w_ptr, Nat.beq_refl, nbz, nb133, nb75, nb55, nb67, n133a, n133b, n75a, n75b, aT, aR, oT, oR, oF, oG, kT, kF, bI, bL, bR, b0, Classical.not_not, not_true_eq_false, not_false_eq_true, and_self, and_true, true_and, ↓reduceIte, decide_true, decide_false, Nat.reduceEqDiff, Nat.reduceLT, Nat.reduceLeDiff, Int.reduceEq, q_isTractor, ct, q_isTrailer _ D L n t c2 c3, cw, hb, hbk, q_onWay _ D L n k hk, co, eh, cy, Int.reduceLT, Int.reduceLE, Int.reduceNeg]
        · have kn : ¬ (D 107 k = -9) := by omega
          have kp : 0 ≤ D 107 k := kc.1
          · refine ⟨-4, D, n, D, ?_, ?_, rfl, rfl, hR⟩
            · rw [dn_X11_hitch, b_X11_hitch_0]
              simp only [z_cd, i10, i11, dnn, rdU, eW, eU, tzC_w, w_shp, w_ptr, Nat.beq_refl, nbz, nb133, nb75, nb55, nb67, n133a, n133b, n75a, n75b, aT, aR, oT, oR, oF, oG, kT, kF, bI, bL, bR, b0, Classical.not_not, not_true_eq_false, not_false_eq_true, and_self, and_true, true_and, ↓reduceIte, decide_true, decide_false, Nat.reduceEqDiff, Nat.reduceLT, Nat.reduceLeDiff, Int.reduceEq, s_tractorAt_y _ D L n hk, w_tractor D L n hk, p_trailerAt_y _ D L n t c1 c3 ht, w_trailer D L n ht, p_onWay _ D L n k hk, e0, e1, e2, en, co, kn]
            · rw [dn_X12_hitch, b_X12_hitch_0]
              simp only [z_cd, i10, i11, dnn, rdU, eW, eU, tzC_w, w_shp, w_ptr, Nat.beq_refl, nbz, nb133, nb75, nb55, nb67, n133a, n133b, n75a, n75b, aT, aR, oT, oR, oF, oG, kT, kF, bI, bL, bR, b0, Classical.not_not, not_true_eq_false, not_false_eq_true, and_self, and_true, true_and, ↓reduceIte, decide_true, decide_false, Nat.reduceEqDiff, Nat.reduceLT, Nat.reduceLeDiff, Int.reduceEq, q_isTractor, ct, q_isTrailer _ D L n t c2 c3, cw, hb, hbk, q_onWay _ D L n k hk, co, kp]
    · refine ⟨-1, D, n, D, ?_, ?_, rfl, rfl, hR⟩
      · rw [dn_X11_hitch, b_X11_hitch_0]
        simp only [z_cd, i10, i11, dnn, rdU, eW, eU, tzC_w, w_shp, w_ptr, Nat.beq_refl, nbz, nb133, nb75, nb55, nb67, n133a, n133b, n75a, n75b, aT, aR, oT, oR, oF, oG, kT, kF, bI, bL, bR, b0, Classical.not_not, not_true_eq_false, not_false_eq_true, and_self, and_true, true_and, ↓reduceIte, decide_true, decide_false, Nat.reduceEqDiff, Nat.reduceLT, Nat.reduceLeDiff, Int.reduceEq, s_tractorAt_y _ D L n hk, p_trailerAt_n _ D L n a1 c1 cw]
      · rw [dn_X12_hitch, b_X12_hitch_0]
        simp only [z_cd, i10, i11, dnn, rdU, eW, eU, tzC_w, w_shp, w_ptr, Nat.beq_refl, nbz, nb133, nb75, nb55, nb67, n133a, n133b, n75a, n75b, aT, aR, oT, oR, oF, oG, kT, kF, bI, bL, bR, b0, Classical.not_not, not_true_eq_false, not_false_eq_true, and_self, and_true, true_and, ↓reduceIte, decide_true, decide_false, Nat.reduceEqDiff, Nat.reduceLT, Nat.reduceLeDiff, Int.reduceEq, q_isTractor, ct, q_isTrailer _ D L n a1 c2 c3, cw]
  · refine ⟨-1, D, n, D, ?_, ?_, rfl, rfl, hR⟩
    · by_cases cw : 0 ≤ a1 ∧ a1 < n
      · obtain ⟨t, e⟩ : ∃ t : Nat, a1 = t := ⟨a1.toNat, by omega⟩
        subst e
        rw [dn_X11_hitch, b_X11_hitch_0]
        simp only [z_cd, i10, i11, dnn, rdU, eW, eU, tzC_w, w_shp, w_ptr, Nat.beq_refl, nbz, nb133, nb75, nb55, nb67, n133a, n133b, n75a, n75b, aT, aR, oT, oR, oF, oG, kT, kF, bI, bL, bR, b0, Classical.not_not, not_true_eq_false, not_false_eq_true, and_self, and_true, true_and, ↓reduceIte, decide_true, decide_false, Nat.reduceEqDiff, Nat.reduceLT, Nat.reduceLeDiff, Int.reduceEq, s_tractorAt_n _ D L n (a := a0) (by omega), p_trailerAt_y _ D L n t c1 c3 (by omega)]
      · rw [dn_X11_hitch, b_X11_hitch_0]
        simp only [z_cd, i10, i11, dnn, rdU, eW, eU, tzC_w, w_shp, w_ptr, Nat.beq_refl, nbz, nb133, nb75, nb55, nb67, n133a, n133b, n75a, n75b, aT, aR, oT, oR, oF, oG, kT, kF, bI, bL, bR, b0, Classical.not_not, not_true_eq_false, not_false_eq_true, and_self, and_true, true_and, ↓reduceIte, decide_true, decide_false, Nat.reduceEqDiff, Nat.reduceLT, Nat.reduceLeDiff, Int.reduceEq, s_tractorAt_n _ D L n (a := a0) (by omega), p_trailerAt_n _ D L n a1 c1 cw]
    · rw [dn_X12_hitch, b_X12_hitch_0]
      simp only [z_cd, i10, i11, dnn, rdU, eW, eU, tzC_w, w_shp, w_ptr, Nat.beq_refl, nbz, nb133, nb75, nb55, nb67, n133a, n133b, n75a, n75b, aT, aR, oT, oR, oF, oG, kT, kF, bI, bL, bR, b0, Classical.not_not, not_true_eq_false, not_false_eq_true, and_self, and_true, true_and, ↓reduceIte, decide_true, decide_false, Nat.reduceEqDiff, Nat.reduceLT, Nat.reduceLeDiff, Int.reduceEq, q_isTractor, ct]
set_option maxRecDepth 100000 in
set_option maxHeartbeats 400000 in
theorem ag_drop {L : Nat} (a0 : Int) : AgI Rel L n_X11_drop n_X12_drop [vI a0] := by
  intro D n hR
  obtain ⟨hA, hL, hW, hN, ⟨c1, c2, c3⟩, hT, hD, hK, hB, hQ, hX, hM, hP, hS⟩ := id hR
  by_cases ct : 0 ≤ a0 ∧ a0 ≤ 5
  · obtain ⟨k, e⟩ : ∃ k : Nat, a0 = k := ⟨a0.toNat, by omega⟩
    subst e
    have hk : k < 6 := by omega
    have hbk : tqib (k : Int) 6 = true := tqib_y (by omega) (by omega)
    have rk := hK k hk
    have e0 : D (75 + k) 0 = D 105 k := rk.1
    have e1 : D (75 + k) 1 = D 106 k := rk.2.1
    have e2 : D (75 + k) 2 = D 107 k := rk.2.2.1
    have en : D 2 13 = D 81 5 := hN.1
    have kb : 0 ≤ D 105 k ∧ D 105 k ≤ 7 := by unfold KR at rk; omega
    have kc : D 107 k = -9 ∨ 0 ≤ D 107 k ∧ D 107 k < n := by unfold KR at rk; omega
    rcases kc with eh | kc
    · by_cases co : D 81 5 < D 106 k
      · refine ⟨-4, D, n, D, ?_, ?_, rfl, rfl, hR⟩
        · rw [dn_X11_drop, b_X11_drop_0]
          simp only [z_cd, i10, i11, dnn, rdU, eW, eU, tzC_w, w_shp, w_ptr, Nat.beq_refl, nbz, nb133, nb75, nb55, nb67, n133a, n133b, n75a, n75b, aT, aR, oT, oR, oF, oG, kT, kF, bI, bL, bR, b0, Classical.not_not, not_true_eq_false, not_false_eq_true, and_self, and_true, true_and, ↓reduceIte, decide_true, decide_false, Nat.reduceEqDiff, Nat.reduceLT, Nat.reduceLeDiff, Int.reduceEq, s_tractorAt_y _ D L n hk, w_tractor D L n hk, e2, eh, p_trailerAt_n _ D L n (-9) c1 (by omega), p_onWay _ D L n k hk, e0, e1, en, co]
        · rw [dn_X12_drop, b_X12_drop_0]
          simp only [z_cd, i10, i11, dnn, rdU, eW, eU, tzC_w, w_shp, w_ptr, Nat.beq_refl, nbz, nb133, nb75, nb55, nb67, n133a, n133b, n75a, n75b, aT, aR, oT, oR, oF, oG, kT, kF, bI, bL, bR, b0, Classical.not_not, not_true_eq_false, not_false_eq_true, and_self, and_true, true_and, ↓reduceIte, decide_true, decide_false, Nat.reduceEqDiff, Nat.reduceLT, Nat.reduceLeDiff, Int.reduceEq, q_isTractor, ct, eh, hbk, q_onWay _ D L n k hk, Int.reduceLT, Int.reduceLE, Int.reduceNeg, co]
      · refine ⟨-4, D, n, D, ?_, ?_, rfl, rfl, hR⟩
        · rw [dn_X11_drop, b_X11_drop_0]
          simp only [z_cd, i10, i11, dnn, rdU, eW, eU, tzC_w, w_shp, w_ptr, Nat.beq_refl, nbz, nb133, nb75, nb55, nb67, n133a, n133b, n75a, n75b, aT, aR, oT, oR, oF, oG, kT, kF, bI, bL, bR, b0, Classical.not_not, not_true_eq_false, not_false_eq_true, and_self, and_true, true_and, ↓reduceIte, decide_true, decide_false, Nat.reduceEqDiff, Nat.reduceLT, Nat.reduceLeDiff, Int.reduceEq, s_tractorAt_y _ D L n hk, w_tractor D L n hk, e2, eh, p_trailerAt_n _ D L n (-9) c1 (by omega), p_onWay _ D L n k hk, e0, e1, en, co]
        · rw [dn_X12_drop, b_X12_drop_0]
          simp only [z_cd, i10, i11, dnn, rdU, eW, eU, tzC_w, w_shp, w_ptr, Nat.beq_refl, nbz, nb133, nb75, nb55, nb67, n133a, n133b, n75a, n75b, aT, aR, oT, oR, oF, oG, kT, kF, bI, bL, bR, b0, Classical.not_not, not_true_eq_false, not_false_eq_true, and_self, and_true, true_and, ↓reduceIte, decide_true, decide_false, Nat.reduceEqDiff, Nat.reduceLT, Nat.reduceLeDiff, Int.reduceEq, q_isTractor, ct, eh, hbk, q_onWay _ D L n k hk, Int.reduceLT, Int.reduceLE, Int.reduceNeg, co]
    · obtain ⟨t, eh⟩ : ∃ t : Nat, D 107 k = t := ⟨(D 107 k).toNat, by omega⟩
      have ht : t < n := by omega
      have ht12 : t < 12 := by omega
      have hb : tqib (t : Int) 12 = true := tqib_y (by omega) (by omega)
      have r := hT.1 t ht
      have r2 := r
      have e3 : D (133 + t) 3 = D 94 t := r.2.2.1
      have c0 : (0 : Int) ≤ (t : Int) := by omega
      by_cases co : D 81 5 < D 106 k
      · refine ⟨-4, D, n, D, ?_, ?_, rfl, rfl, hR⟩
        · rw [dn_X11_drop, b_X11_drop_0]
          simp only [z_cd, i10, i11, dnn, rdU, eW, eU, tzC_w, w_shp, w_ptr, Nat.beq_refl, nbz, nb133, nb75, nb55, nb67, n133a, n133b, n75a, n75b, aT, aR, oT, oR, oF, oG, kT, kF, bI, bL, bR, b0, Classical.not_not, not_true_eq_false, not_false_eq_true, and_self, and_true, true_and, ↓reduceIte, decide_true, decide_false, Nat.reduceEqDiff, Nat.reduceLT, Nat.reduceLeDiff, Int.reduceEq, s_tractorAt_y _ D L n hk, w_tractor D L n hk, e2, eh, p_trailerAt_y _ D L n t c1 c3 ht, w_trailer D L n ht, p_onWay _ D L n k hk, e0, e1, en, co]
        · rw [dn_X12_drop, b_X12_drop_0]
          simp only [z_cd, i10, i11, dnn, rdU, eW, eU, tzC_w, w_shp, w_ptr, Nat.beq_refl, nbz, nb133, nb75, nb55, nb67, n133a, n133b, n75a, n75b, aT, aR, oT, oR, oF, oG, kT, kF, bI, bL, bR, b0, Classical.not_not, not_true_eq_false, not_false_eq_true, and_self, and_true, true_and, ↓reduceIte, decide_true, decide_false, Nat.reduceEqDiff, Nat.reduceLT, Nat.reduceLeDiff, Int.reduceEq, q_isTractor, ct, eh, c0, hb, hbk, q_onWay _ D L n k hk, co]
      · by_cases cf : D 81 34 = 60
        · have cf2 : 60 ≤ D 13 4 := by have := hB.1; omega
          · refine ⟨-2, D, n, D, ?_, ?_, rfl, rfl, hR⟩
            · rw [dn_X11_drop, b_X11_drop_0]
              simp only [z_cd, i10, i11, dnn, rdU, eW, eU, tzC_w, w_shp, w_ptr, Nat.beq_refl, nbz, nb133, nb75, nb55, nb67, n133a, n133b, n75a, n75b, aT, aR, oT, oR, oF, oG, kT, kF, bI, bL, bR, b0, Classical.not_not, not_true_eq_false, not_false_eq_true, and_self, and_true, true_and, ↓reduceIte, decide_true, decide_false, Nat.reduceEqDiff, Nat.reduceLT, Nat.reduceLeDiff, Int.reduceEq, s_tractorAt_y _ D L n hk, w_tractor D L n hk, e2, eh, p_trailerAt_y _ D L n t c1 c3 ht, w_trailer D L n ht, p_onWay _ D L n k hk, e0, e1, en, co, p_isFull, cf2]
            · rw [dn_X12_drop, b_X12_drop_0]
              simp only [z_cd, i10, i11, dnn, rdU, eW, eU, tzC_w, w_shp, w_ptr, Nat.beq_refl, nbz, nb133, nb75, nb55, nb67, n133a, n133b, n75a, n75b, aT, aR, oT, oR, oF, oG, kT, kF, bI, bL, bR, b0, Classical.not_not, not_true_eq_false, not_false_eq_true, and_self, and_true, true_and, ↓reduceIte, decide_true, decide_false, Nat.reduceEqDiff, Nat.reduceLT, Nat.reduceLeDiff, Int.reduceEq, q_isTractor, ct, eh, c0, hb, hbk, q_onWay _ D L n k hk, co, cf]
        · have cf2 : ¬ 60 ≤ D 13 4 := by have := hB.1; have := hB.2.2.1; omega
          have cf3 : 0 ≤ D 13 4 := by have := hB.1; have := hB.2.1; omega
          obtain ⟨D1, eD1⟩ : ∃ D1, D1 = EN (tzU (tzU (tzU D (75 + k) 2 (-9)) (133 + t) 4 (-9)) (133 + t) 3 (D 105 k)) t 0 (D 81 5) (D 105 k) := ⟨_, rfl⟩
          have sD1 : Sm (fun b _ => 81 ≤ b ∧ b ≤ 132) D D1 := by
            rw [eD1]
            unfold EN
            (repeat (refine Sm_U (by omega) ?_)); exact Sm_r _ _
          have hr : ∀ (b : Nat) (j : Int), 81 ≤ b → b ≤ 132 → D1 b j = D b j := fun b j q1 q2 => sD1 b j ⟨q1, q2⟩
          refine ⟨(t : Int), D1, n, EM (tzU (tzU (tzU (D1) 107 k (-9)) 95 t (-9)) 94 t (D 105 k)) t 0 (D 105 k) (D 105 k), ?_, ?_, Sm_1 (by rw [eD1]; unfold EN; (repeat (refine Sm_U (by omega) ?_)); exact Sm_r _ _), Sm_1 (by rw [eD1]; unfold EM EN; (repeat (refine Sm_U (by omega) ?_)); exact Sm_r _ _), ?_⟩
          · rw [eD1]
            rw [dn_X11_drop, b_X11_drop_0]
            simp only [z_cd, i10, i11, dnn, rdU, eW, eU, tzC_w, w_shp, w_ptr, Nat.beq_refl, nbz, nb133, nb75, nb55, nb67, n133a, n133b, n75a, n75b, aT, aR, oT, oR, oF, oG, kT, kF, bI, bL, bR, b0, Classical.not_not, not_true_eq_false, not_false_eq_true, and_self, and_true, true_and, ↓reduceIte, decide_true, decide_false, Nat.reduceEqDiff, Nat.reduceLT, Nat.reduceLeDiff, Int.reduceEq, s_tractorAt_y _ D L n hk, w_tractor D L n hk, e2, eh, p_trailerAt_y _ D L n t c1 c3 ht, w_trailer D L n ht, p_onWay _ D L n k hk, e0, e1, en, co, p_isFull, cf2, p_enter _ (tzU (tzU (tzU D (75 + k) 2 (-9)) (133 + t) 4 (-9)) (133 + t) 3 (D 105 k)) L n t 0 (D 81 5) (D 105 k) (by simp only [rdU, n133a, n133b, n75a, n75b, ↓reduceIte, Nat.reduceEqDiff, Nat.reduceLT, Nat.reduceLeDiff, Int.reduceEq, not_true_eq_false, not_false_eq_true, true_and, and_true, and_self, true_or, or_true, or_false, false_or, ite_self, n75c hk, n75d hk, n75e hk, n75f hk]; omega) (by simp only [rdU, n133a, n133b, n75a, n75b, ↓reduceIte, Nat.reduceEqDiff, Nat.reduceLT, Nat.reduceLeDiff, Int.reduceEq, not_true_eq_false, not_false_eq_true, true_and, and_true, and_self, true_or, or_true, or_false, false_or, ite_self, n75c hk, n75d hk, n75e hk, n75f hk]; omega), n75c hk, n75d hk, n75e hk, n75f hk]
          · rw [dn_X12_drop, b_X12_drop_0]
            simp only [z_cd, i10, i11, dnn, rdU, eW, eU, tzC_w, w_shp, w_ptr, Nat.beq_refl, nbz, nb133, nb75, nb55, nb67, n133a, n133b, n75a, n75b, aT, aR, oT, oR, oF, oG, kT, kF, bI, bL, bR, b0, Classical.not_not, not_true_eq_false, not_false_eq_true, and_self, and_true, true_and, ↓reduceIte, decide_true, decide_false, Nat.reduceEqDiff, Nat.reduceLT, Nat.reduceLeDiff, Int.reduceEq, q_isTractor, ct, eh, c0, hb, hbk, q_onWay _ D1 L n k hk, co, hr, cf, q_enter _ (tzU (tzU (tzU (D1) 107 k (-9)) 95 t (-9)) 94 t (D 105 k)) L n t 0 (D 105 k) (D 105 k) (by simp only [rdU, n133a, n133b, n75a, n75b, ↓reduceIte, Nat.reduceEqDiff, Nat.reduceLT, Nat.reduceLeDiff, Int.reduceEq, not_true_eq_false, not_false_eq_true, true_and, and_true, and_self, true_or, or_true, or_false, false_or, ite_self, hr, n75c hk, n75d hk, n75e hk, n75f hk]; exact hB.2.1) (by simp only [rdU, n133a, n133b, n75a, n75b, ↓reduceIte, Nat.reduceEqDiff, Nat.reduceLT, Nat.reduceLeDiff, Int.reduceEq, not_true_eq_false, not_false_eq_true, true_and, and_true, and_self, true_or, or_true, or_false, false_or, ite_self, hr, n75c hk, n75d hk, n75e hk, n75f hk]; have := hB.2.2.1; omega), n75c hk, n75d hk, n75e hk, n75f hk]
          · subst eD1
            have w : New D (EM (tzU (tzU (tzU (EN (tzU (tzU (tzU D (75 + k) 2 (-9)) (133 + t) 4 (-9)) (133 + t) 3 (D 105 k)) t 0 (D 81 5) (D 105 k)) 107 k (-9)) 95 t (-9)) 94 t (D 105 k)) t 0 (D 105 k) (D 105 k)) t 0 (D 105 k) (D 105 k) := EM_new (D := D) (D1 := tzU (tzU (tzU D (75 + k) 2 (-9)) (133 + t) 4 (-9)) (133 + t) 3 (D 105 k)) (t := t) (s := 0) (m := D 81 5) (h := D 105 k) (y := D 105 k) (D2 := tzU (tzU (tzU (EN (tzU (tzU (tzU D (75 + k) 2 (-9)) (133 + t) 4 (-9)) (133 + t) 3 (D 105 k)) t 0 (D 81 5) (D 105 k)) 107 k (-9)) 95 t (-9)) 94 t (D 105 k)) hB.1 (by simp only [rdU, n133a, n133b, n75a, n75b, ↓reduceIte, Nat.reduceEqDiff, Nat.reduceLT, Nat.reduceLeDiff, Int.reduceEq, not_true_eq_false, not_false_eq_true, true_and, and_true, and_self, true_or, or_true, or_false, false_or, ite_self, n75c hk, n75d hk, n75e hk, n75f hk]) rfl (by (repeat (refine Sm_U (by omega) ?_)); exact Sm_r _ _) (by (repeat (refine Sm_U (by omega) ?_)); exact Sm_r _ _) (by (repeat (refine Sm_U (by omega) ?_)); exact Sm_r _ _)
            refine ⟨?_, ?_, ?_, ?_, ?_, ?_, ?_, ?_, ?_, ?_, ?_, ?_, ?_, ?_⟩
            · exact RA_fr (by (unfold EM EN; (repeat (refine Sm_U (by unfold PA; omega) ?_)); exact Sm_r _ _)) hA
            · exact RL_fr (by (unfold EM EN; (repeat (refine Sm_U (by unfold PL; omega) ?_)); exact Sm_r _ _)) hL
            · exact RW_fr (by (unfold EM EN; (repeat (refine Sm_U (by unfold PW; omega) ?_)); exact Sm_r _ _)) hW
            · exact RN_fr (by (unfold EM EN; (repeat (refine Sm_U (by unfold PN; omega) ?_)); exact Sm_r _ _)) hN
            · exact RC_fr (by (unfold EM EN; (repeat (refine Sm_U (by unfold PC; omega) ?_)); exact Sm_r _ _)) ⟨c1, c2, c3⟩
            · refine RT_up hT ht (by unfold EM EN; (repeat (refine Sm_U (by unfold PTx; omega) ?_)); exact Sm_r _ _) ?_
              unfold TR in32 at r2 ⊢
              unfold EM EN
              simp only [rdU, n133a, n133b, n75a, n75b, ↓reduceIte, Nat.reduceEqDiff, Nat.reduceLT, Nat.reduceLeDiff, Int.reduceEq, not_true_eq_false, not_false_eq_true, true_and, and_true, and_self, true_or, or_true, or_false, false_or, ite_self, n75c hk, n75d hk, n75e hk, n75f hk]
              omega
            · exact RD_fr (by (unfold EM EN; (repeat (refine Sm_U (by unfold PD; omega) ?_)); exact Sm_r _ _)) hD
            · refine RK_up (t := k) hK (by unfold EM EN; (repeat (refine Sm_U (by unfold PKx; omega) ?_)); exact Sm_r _ _) ?_
              have r3 := hK k hk
              unfold KR at r3 ⊢
              unfold EM EN
              simp only [rdU, n133a, n133b, n75a, n75b, ↓reduceIte, Nat.reduceEqDiff, Nat.reduceLT, Nat.reduceLeDiff, Int.reduceEq, not_true_eq_false, not_false_eq_true, true_and, and_true, and_self, true_or, or_true, or_false, false_or, ite_self, n75c hk, n75d hk, n75e hk, n75f hk]
              omega
            · exact RB_new hB hN (by have := hB.2.2.1; omega) w ⟨by omega, by omega⟩ (by omega) (fun _ => ⟨by omega, by omega⟩) (by omega)
            · exact RQ_new hQ w
            · refine RX_new hX hB.2.1 w ht (fun u hu => by unfold EM EN; simp only [rdU, n133a, n133b, n75a, n75b, ↓reduceIte, Nat.reduceEqDiff, Nat.reduceLT, Nat.reduceLeDiff, Int.reduceEq, not_true_eq_false, not_false_eq_true, true_and, and_true, and_self, true_or, or_true, or_false, false_or, ite_self, n75c hk, n75d hk, n75e hk, n75f hk]) (fun u hu hut => ?_) ?_
              · have ne : ¬ (133 + u = 133 + t) := by omega
                unfold EM EN
                simp only [rdU, n133a, n133b, n75a, n75b, ↓reduceIte, Nat.reduceEqDiff, Nat.reduceLT, Nat.reduceLeDiff, Int.reduceEq, not_true_eq_false, not_false_eq_true, true_and, and_true, and_self, true_or, or_true, or_false, false_or, ite_self, n75c hk, n75d hk, n75e hk, n75f hk, ne]
              · have z3 : (EM (tzU (tzU (tzU (EN (tzU (tzU (tzU D (75 + k) 2 (-9)) (133 + t) 4 (-9)) (133 + t) 3 (D 105 k)) t 0 (D 81 5) (D 105 k)) 107 k (-9)) 95 t (-9)) 94 t (D 105 k)) t 0 (D 105 k) (D 105 k)) (133 + t) 3 = D 105 k := by unfold EM EN; simp only [rdU, n133a, n133b, n75a, n75b, ↓reduceIte, Nat.reduceEqDiff, Nat.reduceLT, Nat.reduceLeDiff, Int.reduceEq, not_true_eq_false, not_false_eq_true, true_and, and_true, and_self, true_or, or_true, or_false, false_or, ite_self, n75c hk, n75d hk, n75e hk, n75f hk]
                have z6 : (EM (tzU (tzU (tzU (EN (tzU (tzU (tzU D (75 + k) 2 (-9)) (133 + t) 4 (-9)) (133 + t) 3 (D 105 k)) t 0 (D 81 5) (D 105 k)) 107 k (-9)) 95 t (-9)) 94 t (D 105 k)) t 0 (D 105 k) (D 105 k)) (133 + t) 6 = D (133 + t) 6 := by unfold EM EN; simp only [rdU, n133a, n133b, n75a, n75b, ↓reduceIte, Nat.reduceEqDiff, Nat.reduceLT, Nat.reduceLeDiff, Int.reduceEq, not_true_eq_false, not_false_eq_true, true_and, and_true, and_self, true_or, or_true, or_false, false_or, ite_self, n75c hk, n75d hk, n75e hk, n75f hk]
                exact Or.inl ⟨rfl, kb.1, rfl, z3, z6⟩
            · exact RM_fr (by (unfold EM EN; (repeat (refine Sm_U (by unfold PM; omega) ?_)); exact Sm_r _ _)) hM
            · exact RP_fr (by (unfold EM EN; (repeat (refine Sm_U (by unfold PP; omega) ?_)); exact Sm_r _ _)) hP
            · exact RS_fr (by (unfold EM EN; (repeat (refine Sm_U (by unfold PS; omega) ?_)); exact Sm_r _ _)) hS
  · refine ⟨-1, D, n, D, ?_, ?_, rfl, rfl, hR⟩
    · rw [dn_X11_drop, b_X11_drop_0]
      simp only [z_cd, i10, i11, dnn, rdU, eW, eU, tzC_w, w_shp, w_ptr, Nat.beq_refl, nbz, nb133, nb75, nb55, nb67, n133a, n133b, n75a, n75b, aT, aR, oT, oR, oF, oG, kT, kF, bI, bL, bR, b0, Classical.not_not, not_true_eq_false, not_false_eq_true, and_self, and_true, true_and, ↓reduceIte, decide_true, decide_false, Nat.reduceEqDiff, Nat.reduceLT, Nat.reduceLeDiff, Int.reduceEq, s_tractorAt_n _ D L n (a := a0) (by omega), p_isWithin, p_isYard]
    · rw [dn_X12_drop, b_X12_drop_0]
      simp only [z_cd, i10, i11, dnn, rdU, eW, eU, tzC_w, w_shp, w_ptr, Nat.beq_refl, nbz, nb133, nb75, nb55, nb67, n133a, n133b, n75a, n75b, aT, aR, oT, oR, oF, oG, kT, kF, bI, bL, bR, b0, Classical.not_not, not_true_eq_false, not_false_eq_true, and_self, and_true, true_and, ↓reduceIte, decide_true, decide_false, Nat.reduceEqDiff, Nat.reduceLT, Nat.reduceLeDiff, Int.reduceEq, q_isTractor, ct, p_in, q_isYard]
