def PTx (t : Nat) (b : Nat) (j : Int) : Prop := (133 ≤ b ∧ b ≠ 133 + t ∧ 0 ≤ j ∧ j ≤ 9) ∨ (93 ≤ b ∧ b ≤ 104 ∧ b ≠ 99 ∧ b ≠ 100 ∧ b ≠ 101 ∧ j ≠ t)
theorem RT_up {D D' : Nat → Int → Int} {n t : Nat} (h : RT D n) (ht : t < n) (s : Sm (PTx t) D D') (r : TR D' t) : RT D' n := by
  have e : ∀ b j, PTx t b j → D' b j = D b j := s
  refine ⟨fun u hu => ?_, fun u a b => ?_⟩
  · by_cases c : u = t
    · subst c; exact r
    · exact TR_fr (fun j a b => e _ _ (by unfold PTx; omega)) (fun b q1 q2 q3 q4 q5 => e _ _ (by unfold PTx; omega)) (h.1 u hu)
  · rw [e 96 _ (by unfold PTx; omega), e 102 _ (by unfold PTx; omega), e 104 _ (by unfold PTx; omega)]
    exact h.2 u a b
def PDx (t : Nat) (b : Nat) (j : Int) : Prop := (133 ≤ b ∧ b ≠ 133 + t ∧ 10 ≤ j ∧ j ≤ 12) ∨ (b = 99 ∧ j ≠ t) ∨ ((b = 100 ∨ b = 101) ∧ ¬ (6 * (t : Int) ≤ j ∧ j < 6 * t + 6))
theorem RD_up {D D' : Nat → Int → Int} {n t : Nat} (h : RD D n) (ht : t < n) (s : Sm (PDx t) D D') (r : LD D' t) : RD D' n := by
  have e : ∀ b j, PDx t b j → D' b j = D b j := s
  refine ⟨fun u hu => ?_, fun u a b => ?_⟩
  · by_cases c : u = t
    · subst c; exact r
    · exact LD_fr (fun j a b => e _ _ (by unfold PDx; omega)) (e _ _ (by unfold PDx; omega)) (fun k hk => ⟨e _ _ (by unfold PDx; omega), e _ _ (by unfold PDx; omega)⟩) (h.1 u hu)
  · rw [e 99 _ (by unfold PDx; omega)]
    exact h.2 u a b
def PKx (t : Nat) (b : Nat) (j : Int) : Prop := (75 ≤ b ∧ b ≤ 80 ∧ b ≠ 75 + t) ∨ (105 ≤ b ∧ b ≤ 109 ∧ j ≠ t)
theorem RK_up {D D' : Nat → Int → Int} {n t : Nat} (h : RK D n) (s : Sm (PKx t) D D') (r : KR D' n t) : RK D' n := by
  have e : ∀ b j, PKx t b j → D' b j = D b j := s
  intro u hu
  by_cases c : u = t
  · subst c; exact r
  · exact KR_fr (fun j a b => e _ _ (by unfold PKx; omega)) (fun b q1 q2 => e _ _ (by unfold PKx; omega)) (h u hu)
theorem RA_ask {D D' : Nat → Int → Int} (h : RA D) (s : Sm (fun b j => PA b j ∧ ¬ (b = 53 ∧ j = 2) ∧ ¬ (b = 81 ∧ j = 2)) D D') (e2 : D' 53 2 = D' 81 2) : RA D' := by
  obtain ⟨h1, h2, h3, h4, h5, h6⟩ := h
  have e : ∀ b j, (PA b j ∧ ¬ (b = 53 ∧ j = 2) ∧ ¬ (b = 81 ∧ j = 2)) → D' b j = D b j := s
  refine ⟨?_, ?_, e2, ?_, ?_, ?_⟩
  · rw [e 53 1 (by unfold PA; omega), e 81 0 (by unfold PA; omega)]; exact h1
  · intro j a b; rw [e 54 j (by unfold PA; omega), e 82 j (by unfold PA; omega)]; exact h2 j a b
  · rw [e 53 3 (by unfold PA; omega), e 81 45 (by unfold PA; omega)]; exact h4
  · rw [e 53 4 (by unfold PA; omega), e 81 3 (by unfold PA; omega)]; exact h5
  · rw [e 53 5 (by unfold PA; omega), e 81 4 (by unfold PA; omega)]; exact h6
set_option maxRecDepth 100000 in
set_option maxHeartbeats 400000 in
theorem ag_told {L : Nat} (a0 a1 : Int) : AgI Rel L n_X11_told n_X12_told [vI a0, vI a1] := by
  intro D n hR
  obtain ⟨hA, hL, hW, hN, ⟨c1, c2, c3⟩, hT, hD, hK, hB, hQ, hX, hM, hP, hS⟩ := id hR
  by_cases ct : 0 ≤ a0 ∧ a0 < n
  · obtain ⟨t, e⟩ : ∃ t : Nat, a0 = t := ⟨a0.toNat, by omega⟩
    subst e
    have ht : t < n := by omega
    have ht12 : t < 12 := by omega
    have hb : tqib (t : Int) 12 = true := tqib_y (by omega) (by omega)
    have r := hT.1 t ht
    have r2 := r
    by_cases cw : 0 ≤ a1 ∧ a1 ≤ 7
    · refine ⟨1, tzU D 53 2 (tS D t a1), n, tzU (tzU D 53 2 (tS D t a1)) 81 2 (tS D t a1), ?_, ?_, Sm_1 (by (repeat (refine Sm_U (by omega) ?_)); exact Sm_r _ _), Sm_1 (by (repeat (refine Sm_U (by omega) ?_)); exact Sm_r _ _), Rel_ask hR _⟩
      · rw [dn_X11_told, b_X11_told_0]
        simp only [z_cd, i10, i11, dnn, rdU, eW, eU, tzC_w, w_shp, w_ptr, Nat.beq_refl, nbz, nb133, nb75, nb55, nb67, n133a, n133b, n75a, n75b, aT, aR, oT, oR, oF, oG, kT, kF, bI, bL, bR, b0, Classical.not_not, not_true_eq_false, not_false_eq_true, and_self, and_true, true_and, ↓reduceIte, decide_true, decide_false, Nat.reduceEqDiff, Nat.reduceLT, Nat.reduceLeDiff, Int.reduceEq, p_trailerAt_y _ D L n t c1 c3 ht, p_isWithin, cw, w_trailer D L n ht, p_says _ D L n t ht, s_tells]
      · have eM : tM (tzU D 53 2 (tS D t a1)) t a1 = tS D t a1 := (tS_M r (hD.1 t ht) a1).symm
        rw [dn_X12_told, b_X12_told_0]
        simp only [z_cd, i10, i11, dnn, rdU, eW, eU, tzC_w, w_shp, w_ptr, Nat.beq_refl, nbz, nb133, nb75, nb55, nb67, n133a, n133b, n75a, n75b, aT, aR, oT, oR, oF, oG, kT, kF, bI, bL, bR, b0, Classical.not_not, not_true_eq_false, not_false_eq_true, and_self, and_true, true_and, ↓reduceIte, decide_true, decide_false, Nat.reduceEqDiff, Nat.reduceLT, Nat.reduceLeDiff, Int.reduceEq, q_isTrailer _ (tzU D 53 2 (tS D t a1)) L n t c2 c3, ct, p_in, cw, q_tells _ _ L n t ht12, q_ask, eM]
    · refine ⟨-1, D, n, D, ?_, ?_, rfl, rfl, hR⟩
      · rw [dn_X11_told, b_X11_told_0]
        simp only [z_cd, i10, i11, dnn, rdU, eW, eU, tzC_w, w_shp, w_ptr, Nat.beq_refl, nbz, nb133, nb75, nb55, nb67, n133a, n133b, n75a, n75b, aT, aR, oT, oR, oF, oG, kT, kF, bI, bL, bR, b0, Classical.not_not, not_true_eq_false, not_false_eq_true, and_self, and_true, true_and, ↓reduceIte, decide_true, decide_false, Nat.reduceEqDiff, Nat.reduceLT, Nat.reduceLeDiff, Int.reduceEq, p_trailerAt_y _ D L n t c1 c3 ht, p_isWithin, cw]
      · rw [dn_X12_told, b_X12_told_0]
        simp only [z_cd, i10, i11, dnn, rdU, eW, eU, tzC_w, w_shp, w_ptr, Nat.beq_refl, nbz, nb133, nb75, nb55, nb67, n133a, n133b, n75a, n75b, aT, aR, oT, oR, oF, oG, kT, kF, bI, bL, bR, b0, Classical.not_not, not_true_eq_false, not_false_eq_true, and_self, and_true, true_and, ↓reduceIte, decide_true, decide_false, Nat.reduceEqDiff, Nat.reduceLT, Nat.reduceLeDiff, Int.reduceEq, q_isTrailer _ D L n t c2 c3, ct, p_in, cw]
  · refine ⟨-1, D, n, D, ?_, ?_, rfl, rfl, hR⟩
    · rw [dn_X11_told, b_X11_told_0]
      simp only [z_cd, i10, i11, dnn, rdU, eW, eU, tzC_w, w_shp, w_ptr, Nat.beq_refl, nbz, nb133, nb75, nb55, nb67, n133a, n133b, n75a, n75b, aT, aR, oT, oR, oF, oG, kT, kF, bI, bL, bR, b0, Classical.not_not, not_true_eq_false, not_false_eq_true, and_self, and_true, true_and, ↓reduceIte, decide_true, decide_false, Nat.reduceEqDiff, Nat.reduceLT, Nat.reduceLeDiff, Int.reduceEq, p_trailerAt_n _ D L n a0 c1 ct, p_isWithin, p_isYard]
    · rw [dn_X12_told, b_X12_told_0]
      simp only [z_cd, i10, i11, dnn, rdU, eW, eU, tzC_w, w_shp, w_ptr, Nat.beq_refl, nbz, nb133, nb75, nb55, nb67, n133a, n133b, n75a, n75b, aT, aR, oT, oR, oF, oG, kT, kF, bI, bL, bR, b0, Classical.not_not, not_true_eq_false, not_false_eq_true, and_self, and_true, true_and, ↓reduceIte, decide_true, decide_false, Nat.reduceEqDiff, Nat.reduceLT, Nat.reduceLeDiff, Int.reduceEq, q_isTrailer _ D L n a0 c2 c3, ct, p_in, q_isYard]
set_option maxRecDepth 100000 in
set_option maxHeartbeats 400000 in
theorem ag_limit {L : Nat} (a0 a1 : Int) : AgI Rel L n_X11_limit n_X12_limit [vI a0, vI a1] := by
  intro D n hR
  obtain ⟨hA, hL, hW, hN, ⟨c1, c2, c3⟩, hT, hD, hK, hB, hQ, hX, hM, hP, hS⟩ := id hR
  by_cases ct : 0 ≤ a0 ∧ a0 < n
  · obtain ⟨t, e⟩ : ∃ t : Nat, a0 = t := ⟨a0.toNat, by omega⟩
    subst e
    have ht : t < n := by omega
    have ht12 : t < 12 := by omega
    have hb : tqib (t : Int) 12 = true := tqib_y (by omega) (by omega)
    have r := hT.1 t ht
    have r2 := r
    by_cases cw : -50 ≤ a1 ∧ a1 ≤ 50
    · by_cases co : D (133 + t) 0 = 1 ∨ D (133 + t) 0 = 3
      · have co2 : D 93 t = 1 ∨ D 93 t = 3 := by rw [← r.1]; exact co
        refine ⟨1, tzU (tzU D (133 + t) 7 a1) 53 2 (D (133 + t) 7), n, tzU (tzU (tzU (tzU D (133 + t) 7 a1) 53 2 (D (133 + t) 7)) 81 2 (D 103 t)) 103 t a1, ?_, ?_, Sm_1 (by (repeat (refine Sm_U (by omega) ?_)); exact Sm_r _ _), Sm_1 (by (repeat (refine Sm_U (by omega) ?_)); exact Sm_r _ _), ?_⟩
        · rw [dn_X11_limit, b_X11_limit_0]
          simp only [z_cd, i10, i11, dnn, rdU, eW, eU, tzC_w, w_shp, w_ptr, Nat.beq_refl, nbz, nb133, nb75, nb55, nb67, n133a, n133b, n75a, n75b, aT, aR, oT, oR, oF, oG, kT, kF, bI, bL, bR, b0, Classical.not_not, not_true_eq_false, not_false_eq_true, and_self, and_true, true_and, ↓reduceIte, decide_true, decide_false, Nat.reduceEqDiff, Nat.reduceLT, Nat.reduceLeDiff, Int.reduceEq, p_trailerAt_y _ D L n t c1 c3 ht, p_isWithin, cw, w_trailer D L n ht, p_isOf _ D L n t ht, co, s_tells]
        · rw [dn_X12_limit, b_X12_limit_0]
          simp only [z_cd, i10, i11, dnn, rdU, eW, eU, tzC_w, w_shp, w_ptr, Nat.beq_refl, nbz, nb133, nb75, nb55, nb67, n133a, n133b, n75a, n75b, aT, aR, oT, oR, oF, oG, kT, kF, bI, bL, bR, b0, Classical.not_not, not_true_eq_false, not_false_eq_true, and_self, and_true, true_and, ↓reduceIte, decide_true, decide_false, Nat.reduceEqDiff, Nat.reduceLT, Nat.reduceLeDiff, Int.reduceEq, q_isTrailer _ (tzU (tzU D (133 + t) 7 a1) 53 2 (D (133 + t) 7)) L n t (by simp only [rdU, n133a, n133b, n75a, n75b, ↓reduceIte, Nat.reduceEqDiff, Nat.reduceLT, Nat.reduceLeDiff, Int.reduceEq, not_true_eq_false, not_false_eq_true, true_and, and_true, and_self, true_or, or_true, or_false, false_or, ite_self]; exact c2) c3, ct, p_in, cw, q_isCold _ _ L n t ht12, co2, hb]
        · refine ⟨?_, ?_, ?_, ?_, ?_, ?_, ?_, ?_, ?_, ?_, ?_, ?_, ?_, ?_⟩
          · refine RA_ask hA (by (repeat (refine Sm_U (by unfold PA; omega) ?_)); exact Sm_r _ _) ?_
            simp only [rdU, n133a, n133b, n75a, n75b, ↓reduceIte, Nat.reduceEqDiff, Nat.reduceLT, Nat.reduceLeDiff, Int.reduceEq, not_true_eq_false, not_false_eq_true, true_and, and_true, and_self, true_or, or_true, or_false, false_or, ite_self]
            exact r.2.2.2.2.2.2.1
          · exact RL_fr (by ((repeat (refine Sm_U (by unfold PL; omega) ?_)); exact Sm_r _ _)) hL
          · exact RW_fr (by ((repeat (refine Sm_U (by unfold PW; omega) ?_)); exact Sm_r _ _)) hW
          · exact RN_fr (by ((repeat (refine Sm_U (by unfold PN; omega) ?_)); exact Sm_r _ _)) hN
          · exact RC_fr (by ((repeat (refine Sm_U (by unfold PC; omega) ?_)); exact Sm_r _ _)) ⟨c1, c2, c3⟩
          · refine RT_up hT ht (by (repeat (refine Sm_U (by unfold PTx; omega) ?_)); exact Sm_r _ _) ?_
            unfold TR in32 at r2 ⊢
            simp only [rdU, n133a, n133b, n75a, n75b, ↓reduceIte, Nat.reduceEqDiff, Nat.reduceLT, Nat.reduceLeDiff, Int.reduceEq, not_true_eq_false, not_false_eq_true, true_and, and_true, and_self, true_or, or_true, or_false, false_or, ite_self]
            omega
          · exact RD_fr (by ((repeat (refine Sm_U (by unfold PD; omega) ?_)); exact Sm_r _ _)) hD
          · exact RK_fr (by ((repeat (refine Sm_U (by unfold PK; omega) ?_)); exact Sm_r _ _)) hK
          · exact RB_fr (by ((repeat (refine Sm_U (by unfold PB; omega) ?_)); exact Sm_r _ _)) hB
          · exact RQ_fr (by ((repeat (refine Sm_U (by unfold PQ; omega) ?_)); exact Sm_r _ _)) hQ
          · exact RX_fr (by ((repeat (refine Sm_U (by unfold PX; omega) ?_)); exact Sm_r _ _)) hX
          · exact RM_fr (by ((repeat (refine Sm_U (by unfold PM; omega) ?_)); exact Sm_r _ _)) hM
          · exact RP_fr (by ((repeat (refine Sm_U (by unfold PP; omega) ?_)); exact Sm_r _ _)) hP
          · exact RS_fr (by ((repeat (refine Sm_U (by unfold PS; omega) ?_)); exact Sm_r _ _)) hS
      · have co2 : ¬ (D 93 t = 1 ∨ D 93 t = 3) := by rw [← r.1]; exact co
        refine ⟨-3, tzRx D 3, n, tzRm (tzRx D 3) 3, ?_, ?_, Sm_1 (by unfold tzRx; (repeat (refine Sm_U (by omega) ?_)); exact Sm_r _ _), Sm_1 (by unfold tzRm tzRx; (repeat (refine Sm_U (by omega) ?_)); exact Sm_r _ _), Rel_ref hR (by omega) (by omega)⟩
        · rw [dn_X11_limit, b_X11_limit_0]
          simp only [z_cd, i10, i11, dnn, rdU, eW, eU, tzC_w, w_shp, w_ptr, Nat.beq_refl, nbz, nb133, nb75, nb55, nb67, n133a, n133b, n75a, n75b, aT, aR, oT, oR, oF, oG, kT, kF, bI, bL, bR, b0, Classical.not_not, not_true_eq_false, not_false_eq_true, and_self, and_true, true_and, ↓reduceIte, decide_true, decide_false, Nat.reduceEqDiff, Nat.reduceLT, Nat.reduceLeDiff, Int.reduceEq, p_trailerAt_y _ D L n t c1 c3 ht, p_isWithin, cw, w_trailer D L n ht, p_isOf _ D L n t ht, co, s_refuse _ D L n (f := 3) (by decide) (by decide)]
        · have co3 : ¬ (tzRx D 3 93 t = 1 ∨ tzRx D 3 93 t = 3) := co2
          rw [dn_X12_limit, b_X12_limit_0]
          simp only [z_cd, i10, i11, dnn, rdU, eW, eU, tzC_w, w_shp, w_ptr, Nat.beq_refl, nbz, nb133, nb75, nb55, nb67, n133a, n133b, n75a, n75b, aT, aR, oT, oR, oF, oG, kT, kF, bI, bL, bR, b0, Classical.not_not, not_true_eq_false, not_false_eq_true, and_self, and_true, true_and, ↓reduceIte, decide_true, decide_false, Nat.reduceEqDiff, Nat.reduceLT, Nat.reduceLeDiff, Int.reduceEq, q_isTrailer _ (tzRx D 3) L n t c2 c3, ct, p_in, cw, q_isCold _ _ L n t ht12, co3, s_meets _ (tzRx D 3) L n (f := 3) (by decide) (by decide)]
    · refine ⟨-1, D, n, D, ?_, ?_, rfl, rfl, hR⟩
      · rw [dn_X11_limit, b_X11_limit_0]
        simp only [z_cd, i10, i11, dnn, rdU, eW, eU, tzC_w, w_shp, w_ptr, Nat.beq_refl, nbz, nb133, nb75, nb55, nb67, n133a, n133b, n75a, n75b, aT, aR, oT, oR, oF, oG, kT, kF, bI, bL, bR, b0, Classical.not_not, not_true_eq_false, not_false_eq_true, and_self, and_true, true_and, ↓reduceIte, decide_true, decide_false, Nat.reduceEqDiff, Nat.reduceLT, Nat.reduceLeDiff, Int.reduceEq, p_trailerAt_y _ D L n t c1 c3 ht, p_isWithin, cw]
      · rw [dn_X12_limit, b_X12_limit_0]
        simp only [z_cd, i10, i11, dnn, rdU, eW, eU, tzC_w, w_shp, w_ptr, Nat.beq_refl, nbz, nb133, nb75, nb55, nb67, n133a, n133b, n75a, n75b, aT, aR, oT, oR, oF, oG, kT, kF, bI, bL, bR, b0, Classical.not_not, not_true_eq_false, not_false_eq_true, and_self, and_true, true_and, ↓reduceIte, decide_true, decide_false, Nat.reduceEqDiff, Nat.reduceLT, Nat.reduceLeDiff, Int.reduceEq, q_isTrailer _ D L n t c2 c3, ct, p_in, cw]
  · refine ⟨-1, D, n, D, ?_, ?_, rfl, rfl, hR⟩
    · rw [dn_X11_limit, b_X11_limit_0]
      simp only [z_cd, i10, i11, dnn, rdU, eW, eU, tzC_w, w_shp, w_ptr, Nat.beq_refl, nbz, nb133, nb75, nb55, nb67, n133a, n133b, n75a, n75b, aT, aR, oT, oR, oF, oG, kT, kF, bI, bL, bR, b0, Classical.not_not, not_true_eq_false, not_false_eq_true, and_self, and_true, true_and, ↓reduceIte, decide_true, decide_false, Nat.reduceEqDiff, Nat.reduceLT, Nat.reduceLeDiff, Int.reduceEq, p_trailerAt_n _ D L n a0 c1 ct, p_isWithin, p_isYard]
    · rw [dn_X12_limit, b_X12_limit_0]
      simp only [z_cd, i10, i11, dnn, rdU, eW, eU, tzC_w, w_shp, w_ptr, Nat.beq_refl, nbz, nb133, nb75, nb55, nb67, n133a, n133b, n75a, n75b, aT, aR, oT, oR, oF, oG, kT, kF, bI, bL, bR, b0, Classical.not_not, not_true_eq_false, not_false_eq_true, and_self, and_true, true_and, ↓reduceIte, decide_true, decide_false, Nat.reduceEqDiff, Nat.reduceLT, Nat.reduceLeDiff, Int.reduceEq, q_isTrailer _ D L n a0 c2 c3, ct, p_in, q_isYard]
