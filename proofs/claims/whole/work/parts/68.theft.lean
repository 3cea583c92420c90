set_option maxRecDepth 100000 in
set_option maxHeartbeats 400000 in
theorem q_fT0 (d : Nat) (D : Nat → Int → Int) (L n : Nat) (t : Int) {N : Nat} (hN : D 81 34 = N) (h6 : N ≤ 60) : tqden tqP (d + 1) n_X12_findTheft [vR 81, vI t] (tzW D L n) = tqrun tqP (d + 1) tqc_X12_findTheft 62 [vR 81, vI t, vI 0] [] (tzW (tzU (tzU D 81 48 (-9)) 81 49 (lst (pB D t) N)) L n) := by
  have e : pB (tzU D 81 48 (-9)) t = pB D t := rfl
  have q := q_fT d (tzU D 81 48 (-9)) L n t hN h6 N 0 (by omega)
  rw [e] at q
  rw [dn_X12_findTheft, b_X12_findTheft_0]
  simp only [z_cd, i10, i11, dnn, rdU, eW, eU, tzC_w, w_shp, w_ptr, Nat.beq_refl, nbz, nb133, nb75, nb55, nb67, n133a, n133b, n75a, n75b, aT, aR, oT, oR, oF, oG, kT, kF, bI, bL, bR, b0, Classical.not_not, not_true_eq_false, not_false_eq_true, and_self, and_true, true_and, ↓reduceIte, decide_true, decide_false, Nat.reduceEqDiff, Nat.reduceLT, Nat.reduceLeDiff, Int.reduceEq, Bool.false_eq_true]
  exact q
set_option maxRecDepth 100000 in
set_option maxHeartbeats 400000 in
theorem q_find_n (d : Nat) (D : Nat → Int → Int) (L n : Nat) (t : Int) {N : Nat} (hN : D 81 34 = N) (h6 : N ≤ 60) (hB : lst (pB D t) N = -9) : tqden tqP (d + 1) n_X12_findTheft [vR 81, vI t] (tzW D L n) = some (some (vI 0), tzW (tzU (tzU D 81 48 (-9)) 81 49 (-9)) L n) := by
  rw [q_fT0 d D L n t hN h6, hB, b_X12_findTheft_62]
  simp only [z_cd, i10, i11, dnn, rdU, eW, eU, tzC_w, w_shp, w_ptr, Nat.beq_refl, nbz, nb133, nb75, nb55, nb67, n133a, n133b, n75a, n75b, aT, aR, oT, oR, oF, oG, kT, kF, bI, bL, bR, b0, Classical.not_not, not_true_eq_false, not_false_eq_true, and_self, and_true, true_and, ↓reduceIte, decide_true, decide_false, Nat.reduceEqDiff, Nat.reduceLT, Nat.reduceLeDiff, Int.reduceEq, Bool.false_eq_true, Int.reduceLT, Int.reduceLE, Int.reduceNeg]
set_option maxRecDepth 100000 in
set_option maxHeartbeats 400000 in
theorem q_find_y (d : Nat) (D : Nat → Int → Int) (L n : Nat) (t : Int) {N k : Nat} (hN : D 81 34 = N) (h6 : N ≤ 60) (hB : lst (pB D t) N = k) (hk : k ≤ 60) : tqden tqP (d + 1) n_X12_findTheft [vR 81, vI t] (tzW D L n) = some (some (vI 1), tzW (tzU (tzU (tzU D 81 48 (-9)) 81 49 k) 81 48 (lst (pW D t) k)) L n) := by
  have e : pW (tzU (tzU D 81 48 (-9)) 81 49 k) t = pW D t := rfl
  have q := q_fF d (tzU (tzU D 81 48 (-9)) 81 49 k) L n t (B := (k : Int)) (by simp only [rdU, n133a, n133b, n75a, n75b, ↓reduceIte, Nat.reduceEqDiff, Nat.reduceLT, Nat.reduceLeDiff, Int.reduceEq, not_true_eq_false, not_false_eq_true, true_and, and_true, and_self, true_or, or_true, or_false, false_or, ite_self]) (by omega) k 0 (by omega)
  rw [e, Nat.zero_add] at q
  rw [q_fT0 d D L n t hN h6, hB]
  have z : tzU (tzU (tzU D 81 48 (-9)) 81 49 k) 81 48 (lst (pW D t) 0) = tzU (tzU D 81 48 (-9)) 81 49 k := tzUi _ 81 48 _ (by simp only [rdU, n133a, n133b, n75a, n75b, ↓reduceIte, Nat.reduceEqDiff, Nat.reduceLT, Nat.reduceLeDiff, Int.reduceEq, not_true_eq_false, not_false_eq_true, true_and, and_true, and_self, true_or, or_true, or_false, false_or, ite_self]; rfl)
  rw [z] at q
  exact q
set_option maxRecDepth 100000 in
set_option maxHeartbeats 400000 in
theorem ag_theft {L : Nat} (a0 : Int) : AgI Rel L n_X11_theft n_X12_theft [vI a0] := by
  intro D n hR
  obtain ⟨hA, hL, hW, hN, ⟨c1, c2, c3⟩, hT, hD, hK, hB, hQ, hX, hM, hP, hS⟩ := id hR
  by_cases ct : 0 ≤ a0 ∧ a0 < n
  · obtain ⟨t, e⟩ : ∃ t : Nat, a0 = t := ⟨a0.toNat, by omega⟩
    subst e
    have ht : t < n := by omega
    have ht12 : t < 12 := by omega
    have hb : tqib (t : Int) 12 = true := tqib_y (by omega) (by omega)
    have r := hT.1 t ht
    have r2 := r
    have be := BE_of hB
    obtain ⟨N, hNN⟩ : ∃ N : Nat, D 81 34 = N := ⟨(D 81 34).toNat, by have := hB.2.1; omega⟩
    rw [hNN] at be
    have h6 : N ≤ 60 := by have := be.2.2.2.1; omega
    have fb : ∀ d, tqden tqP (d + 2) n_X1_foundBroken [vR 13, vI (t : Int)] (tzW D L n) = some (some (vI (lst (pB D t) N)), tzW D L n) := fun d => by
      have q := p_fB d D L n t be N (by omega)
      have w1 := w32_d2 N (by omega)
      rw [dn_X1_foundBroken, b_X1_foundBroken_0]
      simp only [z_cd, i10, i11, dnn, rdU, eW, eU, tzC_w, w_shp, w_ptr, Nat.beq_refl, nbz, nb133, nb75, nb55, nb67, n133a, n133b, n75a, n75b, aT, aR, oT, oR, oF, oG, kT, kF, bI, bL, bR, b0, Classical.not_not, not_true_eq_false, not_false_eq_true, and_self, and_true, true_and, ↓reduceIte, decide_true, decide_false, Nat.reduceEqDiff, Nat.reduceLT, Nat.reduceLeDiff, Int.reduceEq, Bool.false_eq_true, be.1, w1]
      exact q
    have sh : ∀ (d k : Nat), k ≤ N → tqden tqP (d + 2) n_X1_seenWholeAhead [vR 13, vI (t : Int), vI (k : Int)] (tzW D L n) = some (some (vI (lst (pW D t) k)), tzW D L n) := fun d k hk => by
      have q := p_sW d D L n t be k (by omega)
      have w1 := w32_d2 k (by omega)
      rw [dn_X1_seenWholeAhead, b_X1_seenWholeAhead_0, w1]
      exact q
    have sn : ∀ d, tqden tqP (d + 2) n_X1_seenWholeAhead [vR 13, vI (t : Int), vI (-9)] (tzW D L n) = some (some (vI (-9)), tzW D L n) := fun d => by
      have w1 : w32 (-9 - 1) = -10 := by decide +kernel
      rw [dn_X1_seenWholeAhead, b_X1_seenWholeAhead_0, w1, b_X1_seenWholeAhead_4]
      simp only [z_cd, i10, i11, dnn, rdU, eW, eU, tzC_w, w_shp, w_ptr, Nat.beq_refl, nbz, nb133, nb75, nb55, nb67, n133a, n133b, n75a, n75b, aT, aR, oT, oR, oF, oG, kT, kF, bI, bL, bR, b0, Classical.not_not, not_true_eq_false, not_false_eq_true, and_self, and_true, true_and, ↓reduceIte, decide_true, decide_false, Nat.reduceEqDiff, Nat.reduceLT, Nat.reduceLeDiff, Int.reduceEq, Bool.false_eq_true, Int.reduceLT, Int.reduceLE, Int.reduceNeg]
    rcases lst_in (pB D t) N with hl | ⟨l0, l1, l2⟩
    · refine ⟨-4, D, n, tzU (tzU D 81 48 (-9)) 81 49 (-9), ?_, ?_, rfl, Sm_1 (by (repeat (refine Sm_U (by omega) ?_)); exact Sm_r _ _), ?_⟩
      · rw [dn_X11_theft, b_X11_theft_0]
        simp only [z_cd, i10, i11, dnn, rdU, eW, eU, tzC_w, w_shp, w_ptr, Nat.beq_refl, nbz, nb133, nb75, nb55, nb67, n133a, n133b, n75a, n75b, aT, aR, oT, oR, oF, oG, kT, kF, bI, bL, bR, b0, Classical.not_not, not_true_eq_false, not_false_eq_true, and_self, and_true, true_and, ↓reduceIte, decide_true, decide_false, Nat.reduceEqDiff, Nat.reduceLT, Nat.reduceLeDiff, Int.reduceEq, Bool.false_eq_true, p_trailerAt_y _ D L n t c1 c3 ht, fb, hl, sn]
      · rw [dn_X12_theft, b_X12_theft_0]
        simp only [z_cd, i10, i11, dnn, rdU, eW, eU, tzC_w, w_shp, w_ptr, Nat.beq_refl, nbz, nb133, nb75, nb55, nb67, n133a, n133b, n75a, n75b, aT, aR, oT, oR, oF, oG, kT, kF, bI, bL, bR, b0, Classical.not_not, not_true_eq_false, not_false_eq_true, and_self, and_true, true_and, ↓reduceIte, decide_true, decide_false, Nat.reduceEqDiff, Nat.reduceLT, Nat.reduceLeDiff, Int.reduceEq, Bool.false_eq_true, q_isTrailer _ D L n t c2 c3, ct, q_find_n _ D L n t hNN h6 hl]
      · refine ⟨?_, ?_, ?_, ?_, ?_, ?_, ?_, ?_, ?_, ?_, ?_, ?_, ?_, ?_⟩
        · exact RA_fr (by ((repeat (refine Sm_U (by unfold PA; omega) ?_)); exact Sm_r _ _)) hA
        · exact RL_fr (by ((repeat (refine Sm_U (by unfold PL; omega) ?_)); exact Sm_r _ _)) hL
        · exact RW_fr (by ((repeat (refine Sm_U (by unfold PW; omega) ?_)); exact Sm_r _ _)) hW
        · exact RN_fr (by ((repeat (refine Sm_U (by unfold PN; omega) ?_)); exact Sm_r _ _)) hN
        · exact RC_fr (by ((repeat (refine Sm_U (by unfold PC; omega) ?_)); exact Sm_r _ _)) ⟨c1, c2, c3⟩
        · exact RT_fr (by ((repeat (refine Sm_U (by unfold PT; omega) ?_)); exact Sm_r _ _)) hT
        · exact RD_fr (by ((repeat (refine Sm_U (by unfold PD; omega) ?_)); exact Sm_r _ _)) hD
        · exact RK_fr (by ((repeat (refine Sm_U (by unfold PK; omega) ?_)); exact Sm_r _ _)) hK
        · exact RB_fr (by ((repeat (refine Sm_U (by unfold PB; omega) ?_)); exact Sm_r _ _)) hB
        · exact RQ_fr (by ((repeat (refine Sm_U (by unfold PQ; omega) ?_)); exact Sm_r _ _)) hQ
        · exact RX_fr (by ((repeat (refine Sm_U (by unfold PX; omega) ?_)); exact Sm_r _ _)) hX
        · exact RM_fr (by ((repeat (refine Sm_U (by unfold PM; omega) ?_)); exact Sm_r _ _)) hM
        · exact RP_fr (by ((repeat (refine Sm_U (by unfold PP; omega) ?_)); exact Sm_r _ _)) hP
        · exact RS_fr (by ((repeat (refine Sm_U (by unfold PS; omega) ?_)); exact Sm_r _ _)) hS
    · obtain ⟨k, hk⟩ : ∃ k : Nat, lst (pB D t) N = k := ⟨(lst (pB D t) N).toNat, by omega⟩
      rw [hk] at l0 l1 l2
      rw [pB_i] at l2
      have k60 : k ≤ 60 := by omega
      have kN : k ≤ N := by omega
      have hs := sE_lst (by have u := hX.2 k (by omega) l2.2; rw [l2.1] at u; exact u)
      rcases lst_in (pW D t) k with u | ⟨u0, u1, u2⟩
      · exact absurd u hs
      obtain ⟨s, hs2⟩ : ∃ s : Nat, lst (pW D t) k = s := ⟨(lst (pW D t) k).toNat, by omega⟩
      rw [hs2] at u0 u1 hs
      have sN : s < N := by omega
      have ns : ¬ (s : Int) = -9 := by omega
      have nk : ¬ (k : Int) = -9 := by omega
      have hbs : tqib (s : Int) 60 = true := tqib_y (by omega) (by omega)
      have hbk : tqib (k : Int) 60 = true := tqib_y (by omega) (by omega)
      have g1 := (be.2.2.2.2 s (by omega) (by omega)).2.2.1
      have g2 := (be.2.2.2.2 k (by omega) (by omega)).2.2.1
      refine ⟨w32 (D 112 k - D 112 s), tzU D 53 2 (D 112 s), n, tzU (tzU (tzU (tzU (tzU D 53 2 (D 112 s)) 81 48 (-9)) 81 49 k) 81 48 s) 81 2 (D 112 s), ?_, ?_, Sm_1 (by (repeat (refine Sm_U (by omega) ?_)); exact Sm_r _ _), Sm_1 (by (repeat (refine Sm_U (by omega) ?_)); exact Sm_r _ _), ?_⟩
      · rw [dn_X11_theft, b_X11_theft_0]
        simp only [z_cd, i10, i11, dnn, rdU, eW, eU, tzC_w, w_shp, w_ptr, Nat.beq_refl, nbz, nb133, nb75, nb55, nb67, n133a, n133b, n75a, n75b, aT, aR, oT, oR, oF, oG, kT, kF, bI, bL, bR, b0, Classical.not_not, not_true_eq_false, not_false_eq_true, and_self, and_true, true_and, ↓reduceIte, decide_true, decide_false, Nat.reduceEqDiff, Nat.reduceLT, Nat.reduceLeDiff, Int.reduceEq, Bool.false_eq_true, p_trailerAt_y _ D L n t c1 c3 ht, fb, hk, sh _ k kN, hs2, nk, ns, hbs, hbk, g1, g2]
      · have f := q_find_y 1397 (tzU D 53 2 (D 112 s)) L n t hNN h6 (show lst (pB (tzU D 53 2 (D 112 s)) t) N = k from hk) k60
        rw [show lst (pW (tzU D 53 2 (D 112 s)) t) k = s from hs2] at f
        rw [dn_X12_theft, b_X12_theft_0]
        simp only [z_cd, i10, i11, dnn, rdU, eW, eU, tzC_w, w_shp, w_ptr, Nat.beq_refl, nbz, nb133, nb75, nb55, nb67, n133a, n133b, n75a, n75b, aT, aR, oT, oR, oF, oG, kT, kF, bI, bL, bR, b0, Classical.not_not, not_true_eq_false, not_false_eq_true, and_self, and_true, true_and, ↓reduceIte, decide_true, decide_false, Nat.reduceEqDiff, Nat.reduceLT, Nat.reduceLeDiff, Int.reduceEq, Bool.false_eq_true, q_isTrailer _ (tzU D 53 2 (D 112 s)) L n t c2 c3, ct, f, hbs, hbk, q_ask]
      · refine ⟨?_, ?_, ?_, ?_, ?_, ?_, ?_, ?_, ?_, ?_, ?_, ?_, ?_, ?_⟩
        · refine RA_ask hA (by (repeat (refine Sm_U (by unfold PA; omega) ?_)); exact Sm_r _ _) ?_
          simp only [rdU, n133a, n133b, n75a, n75b, ↓reduceIte, Nat.reduceEqDiff, Nat.reduceLT, Nat.reduceLeDiff, Int.reduceEq, not_true_eq_false, not_false_eq_true, true_and, and_true, and_self, true_or, or_true, or_false, false_or, ite_self]
        · exact RL_fr (by ((repeat (refine Sm_U (by unfold PL; omega) ?_)); exact Sm_r _ _)) hL
        · exact RW_fr (by ((repeat (refine Sm_U (by unfold PW; omega) ?_)); exact Sm_r _ _)) hW
        · exact RN_fr (by ((repeat (refine Sm_U (by unfold PN; omega) ?_)); exact Sm_r _ _)) hN
        · exact RC_fr (by ((repeat (refine Sm_U (by unfold PC; omega) ?_)); exact Sm_r _ _)) ⟨c1, c2, c3⟩
        · exact RT_fr (by ((repeat (refine Sm_U (by unfold PT; omega) ?_)); exact Sm_r _ _)) hT
        · exact RD_fr (by ((repeat (refine Sm_U (by unfold PD; omega) ?_)); exact Sm_r _ _)) hD
        · exact RK_fr (by ((repeat (refine Sm_U (by unfold PK; omega) ?_)); exact Sm_r _ _)) hK
        · exact RB_fr (by ((repeat (refine Sm_U (by unfold PB; omega) ?_)); exact Sm_r _ _)) hB
        · exact RQ_fr (by ((repeat (refine Sm_U (by unfold PQ; omega) ?_)); exact Sm_r _ _)) hQ
        · exact RX_fr (by ((repeat (refine Sm_U (by unfold PX; omega) ?_)); exact Sm_r _ _)) hX
        · exact RM_fr (by ((repeat (refine Sm_U (by unfold PM; omega) ?_)); exact Sm_r _ _)) hM
        · exact RP_fr (by ((repeat (refine Sm_U (by unfold PP; omega) ?_)); exact Sm_r _ _)) hP
        · exact RS_fr (by ((repeat (refine Sm_U (by unfold PS; omega) ?_)); exact Sm_r _ _)) hS
  · refine ⟨-1, D, n, D, ?_, ?_, rfl, rfl, hR⟩
    · rw [dn_X11_theft, b_X11_theft_0]
      simp only [z_cd, i10, i11, dnn, rdU, eW, eU, tzC_w, w_shp, w_ptr, Nat.beq_refl, nbz, nb133, nb75, nb55, nb67, n133a, n133b, n75a, n75b, aT, aR, oT, oR, oF, oG, kT, kF, bI, bL, bR, b0, Classical.not_not, not_true_eq_false, not_false_eq_true, and_self, and_true, true_and, ↓reduceIte, decide_true, decide_false, Nat.reduceEqDiff, Nat.reduceLT, Nat.reduceLeDiff, Int.reduceEq, Bool.false_eq_true, p_trailerAt_n _ D L n a0 c1 ct, p_isWithin, p_isYard]
    · rw [dn_X12_theft, b_X12_theft_0]
      simp only [z_cd, i10, i11, dnn, rdU, eW, eU, tzC_w, w_shp, w_ptr, Nat.beq_refl, nbz, nb133, nb75, nb55, nb67, n133a, n133b, n75a, n75b, aT, aR, oT, oR, oF, oG, kT, kF, bI, bL, bR, b0, Classical.not_not, not_true_eq_false, not_false_eq_true, and_self, and_true, true_and, ↓reduceIte, decide_true, decide_false, Nat.reduceEqDiff, Nat.reduceLT, Nat.reduceLeDiff, Int.reduceEq, Bool.false_eq_true, q_isTrailer _ D L n a0 c2 c3, ct, p_in, q_isYard]
