set_option maxRecDepth 100000 in
set_option maxHeartbeats 400000 in
theorem ag_cold {L : Nat} (a0 a1 a2 : Int) : AgI Rel L n_X11_cold n_X12_cold [vI a0, vI a1, vI a2] := by
  intro D n hR
  obtain ⟨hA, hL, hW, hN, ⟨c1, c2, c3⟩, hT, hD, hK, hB, hQ, hX, hM, hP, hS⟩ := id hR
  by_cases ct : 0 ≤ a0 ∧ a0 < n
  · obtain ⟨t, e⟩ : ∃ t : Nat, a0 = t := ⟨a0.toNat, by omega⟩
    subst e
    have ht : t < n := by omega
    have ht12 : t < 12 := by omega
    have hb : tqib (t : Int) 12 = true := tqib_y (by omega) (by omega)
    have r := hT.1 t ht
    have r2 := r
    have e0 : D (133 + t) 0 = D 93 t := r.1
    have e7 : D (133 + t) 7 = D 103 t := r.2.2.2.2.2.2.1
    have e8 : D (133 + t) 8 = D 104 t := r.2.2.2.2.2.2.2.1
    by_cases cr : 0 ≤ a1 ∧ a1 ≤ 5
    · obtain ⟨k, e⟩ : ∃ k : Nat, a1 = k := ⟨a1.toNat, by omega⟩
      subst e
      have hk : k < 6 := by omega
      have hbk : tqib (k : Int) 6 = true := tqib_y (by omega) (by omega)
      by_cases cw : 0 ≤ a2 ∧ a2 ≤ 2
      · by_cases cc : D 93 t = 1 ∨ D 93 t = 3
        · rcases hL.1 k hk with ⟨e1, z0, z40⟩ | ⟨e1, z0⟩
          · obtain ⟨N, hN2⟩ : ∃ N : Nat, D 83 k = N := ⟨(D 83 k).toNat, by omega⟩
            obtain ⟨f, hf⟩ : ∃ f : Int → Int, f = fun i => D 84 (40 * k + i) := ⟨_, rfl⟩
            have n40 : (N : Int) ≤ 40 := by omega
            have i0 : in32 0 := ⟨by omega, by omega⟩
            obtain ⟨D1, eD1⟩ : ∃ D1, D1 = tzU D (133 + t) 8 (w32 (D 104 t + 1)) := ⟨_, rfl⟩
            have hr : ∀ (b : Nat) (j : Int), b < 133 → D1 b j = D b j := by
              intro b j q
              rw [eD1, rdU, if_neg (by omega)]
            have d1 : D1 (55 + 2 * k) 1 = N := by rw [hr _ _ (by omega), e1]; exact hN2
            have d2 : ∀ i : Int, 0 ≤ i → i < 40 → D1 (56 + 2 * k) i = f i := fun i a b => by rw [hr _ _ (by omega), hf]; exact hL.2.1 k i hk a b
            have y2 : D1 81 16 = n := by rw [hr _ _ (by omega)]; exact c2
            have k3 : a2 = 0 ∨ a2 = 1 ∨ a2 = 2 := by omega
            rcases k3 with q | q | q
            · subst q
              have P : ∀ d, tqden tqP (d + 1) n_X2_warmOnes [vR (55 + 2 * k), vI (D 103 t), vI 0] (tzW D1 L n) = some (some (vI (cA f (D 103 t) N 0 0)), tzW D1 L n) := fun d => by
                rw [dn_X2_warmOnes, b_X2_warmOnes_0]
                exact p_wa d D1 L n f (D 103 t) hk n40 d1 d2 N 0 0 (by omega) (by omega)
              have Q := q_cold 1398 (tzU D1 104 t (w32 (D 104 t + 1))) L n f (D 103 t) 0 (t := t) hk n40 ((hr 83 k (by omega)).trans hN2) hbk hb (hr 103 t (by omega)) (fun i a b => (hr 84 _ (by omega)).trans (by rw [hf])) N 0 0 0 0 0 (by omega) (by omega) i0 i0
              refine ⟨w32 (10 * cA f (D 103 t) N 0 0), D1, n, tzU D1 104 t (w32 (D 104 t + 1)), ?_, ?_, Sm_1 (by rw [eD1]; (repeat (refine Sm_U (by omega) ?_)); exact Sm_r _ _), Sm_1 (by rw [eD1]; (repeat (refine Sm_U (by omega) ?_)); exact Sm_r _ _), ?_⟩
              · rw [eD1] at P
                rw [eD1]
                rw [dn_X11_cold, b_X11_cold_0]
                simp only [z_cd, i10, i11, dnn, rdU, eW, eU, tzC_w, w_shp, w_ptr, Nat.beq_refl, nbz, nb133, nb75, nb55, nb67, n133a, n133b, n75a, n75b, aT, aR, oT, oR, oF, oG, kT, kF, bI, bL, bR, b0, Classical.not_not, not_true_eq_false, not_false_eq_true, and_self, and_true, true_and, ↓reduceIte, decide_true, decide_false, Nat.reduceEqDiff, Nat.reduceLT, Nat.reduceLeDiff, Int.reduceEq, p_trailerAt_y _ D L n t c1 c3 ht, w_trailer D L n ht, s_lineAt_rows_y _ D L n hk, w_row D L n hk, p_isWithin, cw, p_isOf _ D L n t ht, e0, cc, s_isMissing _ D L n (w_row D L n hk).1, e1, z0, e7, e8, P, or_false, false_or, or_true, true_or, or_self, and_false, false_and, Int.reduceLT, Int.reduceLE, Int.reduceNeg]
              · rw [dn_X12_cold, b_X12_cold_0]
                simp only [z_cd, i10, i11, dnn, rdU, eW, eU, tzC_w, w_shp, w_ptr, Nat.beq_refl, nbz, nb133, nb75, nb55, nb67, n133a, n133b, n75a, n75b, aT, aR, oT, oR, oF, oG, kT, kF, bI, bL, bR, b0, Classical.not_not, not_true_eq_false, not_false_eq_true, and_self, and_true, true_and, ↓reduceIte, decide_true, decide_false, Nat.reduceEqDiff, Nat.reduceLT, Nat.reduceLeDiff, Int.reduceEq, q_isTrailer _ D1 L n t y2 c3, ct, q_isRow, cr, p_in, cw, q_isCold _ D1 L n t ht12, hr, cc, hb, hbk, z0, or_false, false_or, or_true, true_or, or_self, and_false, false_and, Int.reduceLT, Int.reduceLE, Int.reduceNeg]
                refine Q.trans ?_
                simp only [z_cd, i10, i11, dnn, rdU, eW, eU, tzC_w, w_shp, w_ptr, Nat.beq_refl, nbz, nb133, nb75, nb55, nb67, n133a, n133b, n75a, n75b, aT, aR, oT, oR, oF, oG, kT, kF, bI, bL, bR, b0, Classical.not_not, not_true_eq_false, not_false_eq_true, and_self, and_true, true_and, ↓reduceIte, decide_true, decide_false, Nat.reduceEqDiff, Nat.reduceLT, Nat.reduceLeDiff, Int.reduceEq, Int.reduceLT, Int.reduceLE, Int.reduceNeg]
              · subst eD1
                refine ⟨?_, ?_, ?_, ?_, ?_, ?_, ?_, ?_, ?_, ?_, ?_, ?_, ?_, ?_⟩
                · exact RA_fr (by ((repeat (refine Sm_U (by unfold PA; omega) ?_)); exact Sm_r _ _)) hA
                · exact RL_fr (by ((repeat (refine Sm_U (by unfold PL; omega) ?_)); exact Sm_r _ _)) hL
                · exact RW_fr (by ((repeat (refine Sm_U (by unfold PW; omega) ?_)); exact Sm_r _ _)) hW
                · exact RN_fr (by ((repeat (refine Sm_U (by unfold PN; omega) ?_)); exact Sm_r _ _)) hN
                · exact RC_fr (by ((repeat (refine Sm_U (by unfold PC; omega) ?_)); exact Sm_r _ _)) ⟨c1, c2, c3⟩
                · refine RT_up hT ht (by (repeat (refine Sm_U (by unfold PTx; omega) ?_)); exact Sm_r _ _) ?_
                  unfold TR at r2 ⊢
                  simp only [rdU, n133a, n133b, n75a, n75b, ↓reduceIte, Nat.reduceEqDiff, Nat.reduceLT, Nat.reduceLeDiff, Int.reduceEq, not_true_eq_false, not_false_eq_true, true_and, and_true, and_self, true_or, or_true, or_false, false_or, ite_self]
                  clear P Q
                  have := r2
                  refine ⟨r2.1, r2.2.1, r2.2.2.1, r2.2.2.2.1, r2.2.2.2.2.1, r2.2.2.2.2.2.1, r2.2.2.2.2.2.2.1, r2.2.2.2.2.2.2.2.2⟩
                · exact RD_fr (by ((repeat (refine Sm_U (by unfold PD; omega) ?_)); exact Sm_r _ _)) hD
                · exact RK_fr (by ((repeat (refine Sm_U (by unfold PK; omega) ?_)); exact Sm_r _ _)) hK
                · exact RB_fr (by ((repeat (refine Sm_U (by unfold PB; omega) ?_)); exact Sm_r _ _)) hB
                · exact RQ_fr (by ((repeat (refine Sm_U (by unfold PQ; omega) ?_)); exact Sm_r _ _)) hQ
                · exact RX_fr (by ((repeat (refine Sm_U (by unfold PX; omega) ?_)); exact Sm_r _ _)) hX
                · exact RM_fr (by ((repeat (refine Sm_U (by unfold PM; omega) ?_)); exact Sm_r _ _)) hM
                · exact RP_fr (by ((repeat (refine Sm_U (by unfold PP; omega) ?_)); exact Sm_r _ _)) hP
                · exact RS_fr (by ((repeat (refine Sm_U (by unfold PS; omega) ?_)); exact Sm_r _ _)) hS
            · subst q
              have P : ∀ d, tqden tqP (d + 1) n_X2_warmOnes [vR (55 + 2 * k), vI (D 103 t), vI 1] (tzW D1 L n) = some (some (vI (cB f (D 103 t) N 0 0)), tzW D1 L n) := fun d => by
                rw [dn_X2_warmOnes, b_X2_warmOnes_0]
                exact p_wb d D1 L n f (D 103 t) hk n40 d1 d2 N 0 0 (by omega) (by omega)
              have Q := q_cold 1398 (tzU D1 104 t (w32 (D 104 t + 1))) L n f (D 103 t) 1 (t := t) hk n40 ((hr 83 k (by omega)).trans hN2) hbk hb (hr 103 t (by omega)) (fun i a b => (hr 84 _ (by omega)).trans (by rw [hf])) N 0 0 0 0 0 (by omega) (by omega) i0 i0
              refine ⟨w32 (10 * cB f (D 103 t) N 0 0), D1, n, tzU D1 104 t (w32 (D 104 t + 1)), ?_, ?_, Sm_1 (by rw [eD1]; (repeat (refine Sm_U (by omega) ?_)); exact Sm_r _ _), Sm_1 (by rw [eD1]; (repeat (refine Sm_U (by omega) ?_)); exact Sm_r _ _), ?_⟩
              · rw [eD1] at P
                rw [eD1]
                rw [dn_X11_cold, b_X11_cold_0]
                simp only [z_cd, i10, i11, dnn, rdU, eW, eU, tzC_w, w_shp, w_ptr, Nat.beq_refl, nbz, nb133, nb75, nb55, nb67, n133a, n133b, n75a, n75b, aT, aR, oT, oR, oF, oG, kT, kF, bI, bL, bR, b0, Classical.not_not, not_true_eq_false, not_false_eq_true, and_self, and_true, true_and, ↓reduceIte, decide_true, decide_false, Nat.reduceEqDiff, Nat.reduceLT, Nat.reduceLeDiff, Int.reduceEq, p_trailerAt_y _ D L n t c1 c3 ht, w_trailer D L n ht, s_lineAt_rows_y _ D L n hk, w_row D L n hk, p_isWithin, cw, p_isOf _ D L n t ht, e0, cc, s_isMissing _ D L n (w_row D L n hk).1, e1, z0, e7, e8, P, or_false, false_or, or_true, true_or, or_self, and_false, false_and, Int.reduceLT, Int.reduceLE, Int.reduceNeg]
              · rw [dn_X12_cold, b_X12_cold_0]
                simp only [z_cd, i10, i11, dnn, rdU, eW, eU, tzC_w, w_shp, w_ptr, Nat.beq_refl, nbz, nb133, nb75, nb55, nb67, n133a, n133b, n75a, n75b, aT, aR, oT, oR, oF, oG, kT, kF, bI, bL, bR, b0, Classical.not_not, not_true_eq_false, not_false_eq_true, and_self, and_true, true_and, ↓reduceIte, decide_true, decide_false, Nat.reduceEqDiff, Nat.reduceLT, Nat.reduceLeDiff, Int.reduceEq, q_isTrailer _ D1 L n t y2 c3, ct, q_isRow, cr, p_in, cw, q_isCold _ D1 L n t ht12, hr, cc, hb, hbk, z0, or_false, false_or, or_true, true_or, or_self, and_false, false_and, Int.reduceLT, Int.reduceLE, Int.reduceNeg]
                refine Q.trans ?_
                simp only [z_cd, i10, i11, dnn, rdU, eW, eU, tzC_w, w_shp, w_ptr, Nat.beq_refl, nbz, nb133, nb75, nb55, nb67, n133a, n133b, n75a, n75b, aT, aR, oT, oR, oF, oG, kT, kF, bI, bL, bR, b0, Classical.not_not, not_true_eq_false, not_false_eq_true, and_self, and_true, true_and, ↓reduceIte, decide_true, decide_false, Nat.reduceEqDiff, Nat.reduceLT, Nat.reduceLeDiff, Int.reduceEq, Int.reduceLT, Int.reduceLE, Int.reduceNeg]
              · subst eD1
                refine ⟨?_, ?_, ?_, ?_, ?_, ?_, ?_, ?_, ?_, ?_, ?_, ?_, ?_, ?_⟩
                · exact RA_fr (by ((repeat (refine Sm_U (by unfold PA; omega) ?_)); exact Sm_r _ _)) hA
                · exact RL_fr (by ((repeat (refine Sm_U (by unfold PL; omega) ?_)); exact Sm_r _ _)) hL
                · exact RW_fr (by ((repeat (refine Sm_U (by unfold PW; omega) ?_)); exact Sm_r _ _)) hW
                · exact RN_fr (by ((repeat (refine Sm_U (by unfold PN; omega) ?_)); exact Sm_r _ _)) hN
                · exact RC_fr (by ((repeat (refine Sm_U (by unfold PC; omega) ?_)); exact Sm_r _ _)) ⟨c1, c2, c3⟩
                · refine RT_up hT ht (by (repeat (refine Sm_U (by unfold PTx; omega) ?_)); exact Sm_r _ _) ?_
                  unfold TR at r2 ⊢
                  simp only [rdU, n133a, n133b, n75a, n75b, ↓reduceIte, Nat.reduceEqDiff, Nat.reduceLT, Nat.reduceLeDiff, Int.reduceEq, not_true_eq_false, not_false_eq_true, true_and, and_true, and_self, true_or, or_true, or_false, false_or, ite_self]
                  clear P Q
                  have := r2
                  refine ⟨r2.1, r2.2.1, r2.2.2.1, r2.2.2.2.1, r2.2.2.2.2.1, r2.2.2.2.2.2.1, r2.2.2.2.2.2.2.1, r2.2.2.2.2.2.2.2.2⟩
                · exact RD_fr (by ((repeat (refine Sm_U (by unfold PD; omega) ?_)); exact Sm_r _ _)) hD
                · exact RK_fr (by ((repeat (refine Sm_U (by unfold PK; omega) ?_)); exact Sm_r _ _)) hK
                · exact RB_fr (by ((repeat (refine Sm_U (by unfold PB; omega) ?_)); exact Sm_r _ _)) hB
                · exact RQ_fr (by ((repeat (refine Sm_U (by unfold PQ; omega) ?_)); exact Sm_r _ _)) hQ
                · exact RX_fr (by ((repeat (refine Sm_U (by unfold PX; omega) ?_)); exact Sm_r _ _)) hX
                · exact RM_fr (by ((repeat (refine Sm_U (by unfold PM; omega) ?_)); exact Sm_r _ _)) hM
                · exact RP_fr (by ((repeat (refine Sm_U (by unfold PP; omega) ?_)); exact Sm_r _ _)) hP
                · exact RS_fr (by ((repeat (refine Sm_U (by unfold PS; omega) ?_)); exact Sm_r _ _)) hS
            · subst q
              have P : ∀ d, tqden tqP (d + 1) n_X2_longestWarm [vR (55 + 2 * k), vI (D 103 t)] (tzW D1 L n) = some (some (vI (cW f (D 103 t) N 0 0 0)), tzW D1 L n) := fun d => by
                rw [dn_X2_longestWarm, b_X2_longestWarm_0]
                exact p_wl d D1 L n f (D 103 t) hk n40 d1 d2 N 0 0 0 (by omega) (by omega)
              have Q := q_cold 1398 (tzU D1 104 t (w32 (D 104 t + 1))) L n f (D 103 t) 2 (t := t) hk n40 ((hr 83 k (by omega)).trans hN2) hbk hb (hr 103 t (by omega)) (fun i a b => (hr 84 _ (by omega)).trans (by rw [hf])) N 0 0 0 0 0 (by omega) (by omega) i0 i0
              refine ⟨w32 (10 * cW f (D 103 t) N 0 0 0), D1, n, tzU D1 104 t (w32 (D 104 t + 1)), ?_, ?_, Sm_1 (by rw [eD1]; (repeat (refine Sm_U (by omega) ?_)); exact Sm_r _ _), Sm_1 (by rw [eD1]; (repeat (refine Sm_U (by omega) ?_)); exact Sm_r _ _), ?_⟩
              · rw [eD1] at P
                rw [eD1]
                rw [dn_X11_cold, b_X11_cold_0]
                simp only [z_cd, i10, i11, dnn, rdU, eW, eU, tzC_w, w_shp, w_ptr, Nat.beq_refl, nbz, nb133, nb75, nb55, nb67, n133a, n133b, n75a, n75b, aT, aR, oT, oR, oF, oG, kT, kF, bI, bL, bR, b0, Classical.not_not, not_true_eq_false, not_false_eq_true, and_self, and_true, true_and, ↓reduceIte, decide_true, decide_false, Nat.reduceEqDiff, Nat.reduceLT, Nat.reduceLeDiff, Int.reduceEq, p_trailerAt_y _ D L n t c1 c3 ht, w_trailer D L n ht, s_lineAt_rows_y _ D L n hk, w_row D L n hk, p_isWithin, cw, p_isOf _ D L n t ht, e0, cc, s_isMissing _ D L n (w_row D L n hk).1, e1, z0, e7, e8, P, or_false, false_or, or_true, true_or, or_self, and_false, false_and, Int.reduceLT, Int.reduceLE, Int.reduceNeg]
              · rw [dn_X12_cold, b_X12_cold_0]
                simp only [z_cd, i10, i11, dnn, rdU, eW, eU, tzC_w, w_shp, w_ptr, Nat.beq_refl, nbz, nb133, nb75, nb55, nb67, n133a, n133b, n75a, n75b, aT, aR, oT, oR, oF, oG, kT, kF, bI, bL, bR, b0, Classical.not_not, not_true_eq_false, not_false_eq_true, and_self, and_true, true_and, ↓reduceIte, decide_true, decide_false, Nat.reduceEqDiff, Nat.reduceLT, Nat.reduceLeDiff, Int.reduceEq, q_isTrailer _ D1 L n t y2 c3, ct, q_isRow, cr, p_in, cw, q_isCold _ D1 L n t ht12, hr, cc, hb, hbk, z0, or_false, false_or, or_true, true_or, or_self, and_false, false_and, Int.reduceLT, Int.reduceLE, Int.reduceNeg]
                refine Q.trans ?_
                simp only [z_cd, i10, i11, dnn, rdU, eW, eU, tzC_w, w_shp, w_ptr, Nat.beq_refl, nbz, nb133, nb75, nb55, nb67, n133a, n133b, n75a, n75b, aT, aR, oT, oR, oF, oG, kT, kF, bI, bL, bR, b0, Classical.not_not, not_true_eq_false, not_false_eq_true, and_self, and_true, true_and, ↓reduceIte, decide_true, decide_false, Nat.reduceEqDiff, Nat.reduceLT, Nat.reduceLeDiff, Int.reduceEq, Int.reduceLT, Int.reduceLE, Int.reduceNeg]
              · subst eD1
                refine ⟨?_, ?_, ?_, ?_, ?_, ?_, ?_, ?_, ?_, ?_, ?_, ?_, ?_, ?_⟩
                · exact RA_fr (by ((repeat (refine Sm_U (by unfold PA; omega) ?_)); exact Sm_r _ _)) hA
                · exact RL_fr (by ((repeat (refine Sm_U (by unfold PL; omega) ?_)); exact Sm_r _ _)) hL
                · exact RW_fr (by ((repeat (refine Sm_U (by unfold PW; omega) ?_)); exact Sm_r _ _)) hW
                · exact RN_fr (by ((repeat (refine Sm_U (by unfold PN; omega) ?_)); exact Sm_r _ _)) hN
                · exact RC_fr (by ((repeat (refine Sm_U (by unfold PC; omega) ?_)); exact Sm_r _ _)) ⟨c1, c2, c3⟩
                · refine RT_up hT ht (by (repeat (refine Sm_U (by unfold PTx; omega) ?_)); exact Sm_r _ _) ?_
                  unfold TR at r2 ⊢
                  simp only [rdU, n133a, n133b, n75a, n75b, ↓reduceIte, Nat.reduceEqDiff, Nat.reduceLT, Nat.reduceLeDiff, Int.reduceEq, not_true_eq_false, not_false_eq_true, true_and, and_true, and_self, true_or, or_true, or_false, false_or, ite_self]
                  clear P Q
                  have := r2
                  refine ⟨r2.1, r2.2.1, r2.2.2.1, r2.2.2.2.1, r2.2.2.2.2.1, r2.2.2.2.2.2.1, r2.2.2.2.2.2.2.1, r2.2.2.2.2.2.2.2.2⟩
                · exact RD_fr (by ((repeat (refine Sm_U (by unfold PD; omega) ?_)); exact Sm_r _ _)) hD
                · exact RK_fr (by ((repeat (refine Sm_U (by unfold PK; omega) ?_)); exact Sm_r _ _)) hK
                · exact RB_fr (by ((repeat (refine Sm_U (by unfold PB; omega) ?_)); exact Sm_r _ _)) hB
                · exact RQ_fr (by ((repeat (refine Sm_U (by unfold PQ; omega) ?_)); exact Sm_r _ _)) hQ
                · exact RX_fr (by ((repeat (refine Sm_U (by unfold PX; omega) ?_)); exact Sm_r _ _)) hX
                · exact RM_fr (by ((repeat (refine Sm_U (by unfold PM; omega) ?_)); exact Sm_r _ _)) hM
                · exact RP_fr (by ((repeat (refine Sm_U (by unfold PP; omega) ?_)); exact Sm_r _ _)) hP
                · exact RS_fr (by ((repeat (refine Sm_U (by unfold PS; omega) ?_)); exact Sm_r _ _)) hS
          · refine ⟨-3, tzRx D 1, n, tzRm (tzRx D 1) 1, ?_, ?_, Sm_1 (by unfold tzRx; (repeat (refine Sm_U (by omega) ?_)); exact Sm_r _ _), Sm_1 (by unfold tzRm tzRx; (repeat (refine Sm_U (by omega) ?_)); exact Sm_r _ _), Rel_ref hR (by omega) (by omega)⟩
            · rw [dn_X11_cold, b_X11_cold_0]
              simp only [z_cd, i10, i11, dnn, rdU, eW, eU, tzC_w, w_shp, w_ptr, Nat.beq_refl, nbz, nb133, nb75, nb55, nb67, n133a, n133b, n75a, n75b, aT, aR, oT, oR, oF, oG, kT, kF, bI, bL, bR, b0, Classical.not_not, not_true_eq_false, not_false_eq_true, and_self, and_true, true_and, ↓reduceIte, decide_true, decide_false, Nat.reduceEqDiff, Nat.reduceLT, Nat.reduceLeDiff, Int.reduceEq, p_trailerAt_y _ D L n t c1 c3 ht, w_trailer D L n ht, s_lineAt_rows_y _ D L n hk, w_row D L n hk, p_isWithin, cw, p_isOf _ D L n t ht, e0, cc, s_isMissing _ D L n (w_row D L n hk).1, e1, or_false, false_or, or_true, true_or, or_self, and_false, false_and, Int.reduceLT, Int.reduceLE, Int.reduceNeg, s_refuse _ D L n (f := 1) (by decide) (by decide)]
            · have y0 : tzRx D 1 93 t = D 93 t := rfl
              have y1 : tzRx D 1 83 k = D 83 k := rfl
              have z1 : ¬ 0 ≤ D 83 k := by omega
              rw [dn_X12_cold, b_X12_cold_0]
              simp only [z_cd, i10, i11, dnn, rdU, eW, eU, tzC_w, w_shp, w_ptr, Nat.beq_refl, nbz, nb133, nb75, nb55, nb67, n133a, n133b, n75a, n75b, aT, aR, oT, oR, oF, oG, kT, kF, bI, bL, bR, b0, Classical.not_not, not_true_eq_false, not_false_eq_true, and_self, and_true, true_and, ↓reduceIte, decide_true, decide_false, Nat.reduceEqDiff, Nat.reduceLT, Nat.reduceLeDiff, Int.reduceEq, q_isTrailer _ (tzRx D 1) L n t c2 c3, ct, q_isRow, cr, p_in, cw, q_isCold _ (tzRx D 1) L n t ht12, y0, hb, hbk, cc, y1, z1, or_false, false_or, or_true, true_or, or_self, and_false, false_and, Int.reduceLT, Int.reduceLE, Int.reduceNeg, s_meets _ (tzRx D 1) L n (f := 1) (by decide) (by decide)]
        · refine ⟨-3, tzRx D 3, n, tzRm (tzRx D 3) 3, ?_, ?_, Sm_1 (by unfold tzRx; (repeat (refine Sm_U (by omega) ?_)); exact Sm_r _ _), Sm_1 (by unfold tzRm tzRx; (repeat (refine Sm_U (by omega) ?_)); exact Sm_r _ _), Rel_ref hR (by omega) (by omega)⟩
          · rw [dn_X11_cold, b_X11_cold_0]
            simp only [z_cd, i10, i11, dnn, rdU, eW, eU, tzC_w, w_shp, w_ptr, Nat.beq_refl, nbz, nb133, nb75, nb55, nb67, n133a, n133b, n75a, n75b, aT, aR, oT, oR, oF, oG, kT, kF, bI, bL, bR, b0, Classical.not_not, not_true_eq_false, not_false_eq_true, and_self, and_true, true_and, ↓reduceIte, decide_true, decide_false, Nat.reduceEqDiff, Nat.reduceLT, Nat.reduceLeDiff, Int.reduceEq, p_trailerAt_y _ D L n t c1 c3 ht, w_trailer D L n ht, s_lineAt_rows_y _ D L n hk, w_row D L n hk, p_isWithin, cw, p_isOf _ D L n t ht, e0, cc, or_false, false_or, or_true, true_or, or_self, and_false, false_and, Int.reduceLT, Int.reduceLE, Int.reduceNeg, s_refuse _ D L n (f := 3) (by decide) (by decide)]
          · have y0 : tzRx D 3 93 t = D 93 t := rfl
            rw [dn_X12_cold, b_X12_cold_0]
            simp only [z_cd, i10, i11, dnn, rdU, eW, eU, tzC_w, w_shp, w_ptr, Nat.beq_refl, nbz, nb133, nb75, nb55, nb67, n133a, n133b, n75a, n75b, aT, aR, oT, oR, oF, oG, kT, kF, bI, bL, bR, b0, Classical.not_not, not_true_eq_false, not_false_eq_true, and_self, and_true, true_and, ↓reduceIte, decide_true, decide_false, Nat.reduceEqDiff, Nat.reduceLT, Nat.reduceLeDiff, Int.reduceEq, q_isTrailer _ (tzRx D 3) L n t c2 c3, ct, q_isRow, cr, p_in, cw, q_isCold _ (tzRx D 3) L n t ht12, y0, hb, hbk, cc, or_false, false_or, or_true, true_or, or_self, and_false, false_and, Int.reduceLT, Int.reduceLE, Int.reduceNeg, s_meets _ (tzRx D 3) L n (f := 3) (by decide) (by decide)]
      · refine ⟨-1, D, n, D, ?_, ?_, rfl, rfl, hR⟩
        · rw [dn_X11_cold, b_X11_cold_0]
          simp only [z_cd, i10, i11, dnn, rdU, eW, eU, tzC_w, w_shp, w_ptr, Nat.beq_refl, nbz, nb133, nb75, nb55, nb67, n133a, n133b, n75a, n75b, aT, aR, oT, oR, oF, oG, kT, kF, bI, bL, bR, b0, Classical.not_not, not_true_eq_false, not_false_eq_true, and_self, and_true, true_and, ↓reduceIte, decide_true, decide_false, Nat.reduceEqDiff, Nat.reduceLT, Nat.reduceLeDiff, Int.reduceEq, p_trailerAt_y _ D L n t c1 c3 ht, w_trailer D L n ht, s_lineAt_rows_y _ D L n hk, w_row D L n hk, p_isWithin, cw, p_isOf _ D L n t ht, e0, b_X11_cold_36]
        · rw [dn_X12_cold, b_X12_cold_0]
          simp only [z_cd, i10, i11, dnn, rdU, eW, eU, tzC_w, w_shp, w_ptr, Nat.beq_refl, nbz, nb133, nb75, nb55, nb67, n133a, n133b, n75a, n75b, aT, aR, oT, oR, oF, oG, kT, kF, bI, bL, bR, b0, Classical.not_not, not_true_eq_false, not_false_eq_true, and_self, and_true, true_and, ↓reduceIte, decide_true, decide_false, Nat.reduceEqDiff, Nat.reduceLT, Nat.reduceLeDiff, Int.reduceEq, q_isTrailer _ D L n t c2 c3, ct, q_isRow, cr, p_in, cw]
    · refine ⟨-1, D, n, D, ?_, ?_, rfl, rfl, hR⟩
      · rw [dn_X11_cold, b_X11_cold_0]
        simp only [z_cd, i10, i11, dnn, rdU, eW, eU, tzC_w, w_shp, w_ptr, Nat.beq_refl, nbz, nb133, nb75, nb55, nb67, n133a, n133b, n75a, n75b, aT, aR, oT, oR, oF, oG, kT, kF, bI, bL, bR, b0, Classical.not_not, not_true_eq_false, not_false_eq_true, and_self, and_true, true_and, ↓reduceIte, decide_true, decide_false, Nat.reduceEqDiff, Nat.reduceLT, Nat.reduceLeDiff, Int.reduceEq, p_trailerAt_y _ D L n t c1 c3 ht, s_lineAt_rows_n _ D L n (a := a1) (by omega), b_X11_cold_36]
      · rw [dn_X12_cold, b_X12_cold_0]
        simp only [z_cd, i10, i11, dnn, rdU, eW, eU, tzC_w, w_shp, w_ptr, Nat.beq_refl, nbz, nb133, nb75, nb55, nb67, n133a, n133b, n75a, n75b, aT, aR, oT, oR, oF, oG, kT, kF, bI, bL, bR, b0, Classical.not_not, not_true_eq_false, not_false_eq_true, and_self, and_true, true_and, ↓reduceIte, decide_true, decide_false, Nat.reduceEqDiff, Nat.reduceLT, Nat.reduceLeDiff, Int.reduceEq, q_isTrailer _ D L n t c2 c3, ct, q_isRow, cr]
  · refine ⟨-1, D, n, D, ?_, ?_, rfl, rfl, hR⟩
    · by_cases cr : 0 ≤ a1 ∧ a1 ≤ 5
      · obtain ⟨k, e⟩ : ∃ k : Nat, a1 = k := ⟨a1.toNat, by omega⟩
        subst e
        rw [dn_X11_cold, b_X11_cold_0]
        simp only [z_cd, i10, i11, dnn, rdU, eW, eU, tzC_w, w_shp, w_ptr, Nat.beq_refl, nbz, nb133, nb75, nb55, nb67, n133a, n133b, n75a, n75b, aT, aR, oT, oR, oF, oG, kT, kF, bI, bL, bR, b0, Classical.not_not, not_true_eq_false, not_false_eq_true, and_self, and_true, true_and, ↓reduceIte, decide_true, decide_false, Nat.reduceEqDiff, Nat.reduceLT, Nat.reduceLeDiff, Int.reduceEq, p_trailerAt_n _ D L n a0 c1 ct, s_lineAt_rows_y _ D L n (show k < 6 by omega), b_X11_cold_36]
      · rw [dn_X11_cold, b_X11_cold_0]
        simp only [z_cd, i10, i11, dnn, rdU, eW, eU, tzC_w, w_shp, w_ptr, Nat.beq_refl, nbz, nb133, nb75, nb55, nb67, n133a, n133b, n75a, n75b, aT, aR, oT, oR, oF, oG, kT, kF, bI, bL, bR, b0, Classical.not_not, not_true_eq_false, not_false_eq_true, and_self, and_true, true_and, ↓reduceIte, decide_true, decide_false, Nat.reduceEqDiff, Nat.reduceLT, Nat.reduceLeDiff, Int.reduceEq, p_trailerAt_n _ D L n a0 c1 ct, s_lineAt_rows_n _ D L n (a := a1) (by omega), b_X11_cold_36]
    · rw [dn_X12_cold, b_X12_cold_0]
      simp only [z_cd, i10, i11, dnn, rdU, eW, eU, tzC_w, w_shp, w_ptr, Nat.beq_refl, nbz, nb133, nb75, nb55, nb67, n133a, n133b, n75a, n75b, aT, aR, oT, oR, oF, oG, kT, kF, bI, bL, bR, b0, Classical.not_not, not_true_eq_false, not_false_eq_true, and_self, and_true, true_and, ↓reduceIte, decide_true, decide_false, Nat.reduceEqDiff, Nat.reduceLT, Nat.reduceLeDiff, Int.reduceEq, q_isTrailer _ D L n a0 c2 c3, ct]
