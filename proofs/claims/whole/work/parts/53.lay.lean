set_option maxRecDepth 100000 in
set_option maxHeartbeats 400000 in
theorem RL_put {D D' : Nat → Int → Int} {k : Nat} {j : Int} (h : RL D) (hk : k < 6) (j0 : 0 ≤ j) (j1 : j < 40) (s : Sm (fun b i => PL b i ∧ ¬ (b = 56 + 2 * k ∧ i = j) ∧ ¬ (b = 84 ∧ i = 40 * k + j)) D D') (e : D' (56 + 2 * k) j = D' 84 (40 * k + j)) : RL D' := by
  obtain ⟨h1, h2, h3, h4, h5⟩ := h
  have q : ∀ b i, PL b i ∧ ¬ (b = 56 + 2 * k ∧ i = j) ∧ ¬ (b = 84 ∧ i = 40 * k + j) → D' b i = D b i := s
  refine ⟨?_, ?_, ?_, ?_, ?_⟩
  · intro u hu; rw [q (55 + 2 * u) 1 (by unfold PL; omega), q 83 u (by unfold PL; omega)]; exact h1 u hu
  · intro u i hu a b
    by_cases c : u = k ∧ i = j
    · rw [c.1, c.2]; exact e
    · rw [q (56 + 2 * u) i (by unfold PL; omega), q 84 _ (by unfold PL; omega)]; exact h2 u i hu a b
  · intro u hu; rw [q (67 + 2 * u) 1 (by unfold PL; omega), q 86 u (by unfold PL; omega)]; exact h3 u hu
  · intro u i hu a b; rw [q (68 + 2 * u) i (by unfold PL; omega), q 87 _ (by unfold PL; omega)]; exact h4 u i hu a b
  · intro i a b; rw [q 87 i (by unfold PL; omega)]; exact h5 i a b
theorem n56a {k : Nat} (hk : k < 6) (c : Nat) (h : c < 55) : (56 + 2 * k = c) = False := by simp only [eq_iff_iff, iff_false]; omega
theorem n56b {k : Nat} (hk : k < 6) (c : Nat) (h : c < 55) : (c = 56 + 2 * k) = False := by simp only [eq_iff_iff, iff_false]; omega
theorem n56c {k : Nat} (hk : k < 6) (c : Nat) (h : 66 < c) : (56 + 2 * k = c) = False := by simp only [eq_iff_iff, iff_false]; omega
theorem n56d {k : Nat} (hk : k < 6) (c : Nat) (h : 66 < c) : (c = 56 + 2 * k) = False := by simp only [eq_iff_iff, iff_false]; omega
theorem n56e (k : Nat) : (55 + 2 * k = 56 + 2 * k) = False := by simp only [eq_iff_iff, iff_false]; omega
theorem w32_40 {k : Nat} (h : k < 6) : w32 (40 * (k : Int)) = 40 * k := w32_id ⟨by omega, by omega⟩
theorem w32_40k {k : Nat} {i : Int} (h : k < 6) (h1 : 0 ≤ i) (h2 : i < 40) : w32 (40 * (k : Int) + i) = 40 * k + i := w32_id ⟨by omega, by omega⟩
set_option maxRecDepth 100000 in
set_option maxHeartbeats 400000 in
theorem ag_lay {L : Nat} (a0 a1 a2 : Int) : AgI Rel L n_X11_lay n_X12_lay [vI a0, vI a1, vI a2] := by
  intro D n hR
  obtain ⟨hA, hL, hW, hN, ⟨c1, c2, c3⟩, hT, hD, hK, hB, hQ, hX, hM, hP, hS⟩ := id hR
  by_cases ct : 0 ≤ a0 ∧ a0 ≤ 5
  · obtain ⟨k, e⟩ : ∃ k : Nat, a0 = k := ⟨a0.toNat, by omega⟩
    subst e
    have hk : k < 6 := by omega
    have hb : tqib (k : Int) 6 = true := tqib_y (by omega) (by omega)
    rcases hL.1 k hk with ⟨e1, z0, z40⟩ | ⟨e1, z0⟩
    · by_cases ci : 0 ≤ a1 ∧ a1 < D 83 k
      · have hbi : tqib a1 40 = true := tqib_y (by omega) (by omega)
        have hb2 : tqib (40 * (k : Int) + a1) 240 = true := tqib_y (by omega) (by omega)
        have ci2 : 0 ≤ a1 ∧ a1 ≤ D 83 k - 1 := by omega
        have i40 : a1 < 40 := by omega
        have z100 : D 83 k ≤ 100000 := by omega
        obtain ⟨D1, eD1⟩ : ∃ D1, D1 = tzU (tzU D (56 + 2 * k) a1 a2) 53 2 (D (56 + 2 * k) a1) := ⟨_, rfl⟩
        have sD1 : Sm (fun b _ => 81 ≤ b ∧ b ≤ 132) D D1 := by
          rw [eD1]
          (repeat (refine Sm_U (by omega) ?_)); exact Sm_r _ _
        have hr : ∀ (b : Nat) (j : Int), 81 ≤ b → b ≤ 132 → D1 b j = D b j := fun b j q1 q2 => sD1 b j ⟨q1, q2⟩
        have y0 : 0 ≤ D1 83 k := by rw [hr _ _ (by omega) (by omega)]; exact z0
        have w1 := w32_s1 z0 z100
        have w2 := w32_40 hk
        have w3 := w32_40k hk ci.1 i40
        refine ⟨1, D1, n, tzU (tzU (D1) 81 2 (D 84 (40 * k + a1))) 84 (40 * k + a1) a2, ?_, ?_, Sm_1 (by rw [eD1]; (repeat (refine Sm_U (by omega) ?_)); exact Sm_r _ _), Sm_1 (by rw [eD1]; (repeat (refine Sm_U (by omega) ?_)); exact Sm_r _ _), ?_⟩
        · rw [eD1]
          rw [dn_X11_lay, b_X11_lay_0]
          simp only [z_cd, i10, i11, dnn, rdU, eW, eU, tzC_w, w_shp, w_ptr, Nat.beq_refl, nbz, nb133, nb75, nb55, nb67, n133a, n133b, n75a, n75b, aT, aR, oT, oR, oF, oG, kT, kF, bI, bL, bR, b0, Classical.not_not, not_true_eq_false, not_false_eq_true, and_self, and_true, true_and, ↓reduceIte, decide_true, decide_false, Nat.reduceEqDiff, Nat.reduceLT, Nat.reduceLeDiff, Int.reduceEq, s_lineAt_rows_y _ D L n hk, w_row D L n hk, s_isMissing _ D L n (w_row D L n hk).1, e1, z0, s_has _ D L n (w_row D L n hk).1, ci, hbi, s_tells]
        · rw [dn_X12_lay, b_X12_lay_0]
          simp only [z_cd, i10, i11, dnn, rdU, eW, eU, tzC_w, w_shp, w_ptr, Nat.beq_refl, nbz, nb133, nb75, nb55, nb67, n133a, n133b, n75a, n75b, aT, aR, oT, oR, oF, oG, kT, kF, bI, bL, bR, b0, Classical.not_not, not_true_eq_false, not_false_eq_true, and_self, and_true, true_and, ↓reduceIte, decide_true, decide_false, Nat.reduceEqDiff, Nat.reduceLT, Nat.reduceLeDiff, Int.reduceEq, s_askedRow_y _ D1 L n ct.1 ct.2 y0, hr, p_in, ci2, hb, hb2, w1, w2, w3, Int.reduceLT, Int.reduceLE, Int.reduceNeg]
        · subst eD1
          clear w1 w2 w3
          refine ⟨?_, ?_, ?_, ?_, ?_, ?_, ?_, ?_, ?_, ?_, ?_, ?_, ?_, ?_⟩
          · refine RA_ask hA (by (repeat (refine Sm_U (by unfold PA; omega) ?_)); exact Sm_r _ _) ?_
            have q := hL.2.1 k a1 hk (by omega) (by omega)
            simp only [rdU, n133a, n133b, n75a, n75b, ↓reduceIte, Nat.reduceEqDiff, Nat.reduceLT, Nat.reduceLeDiff, Int.reduceEq, not_true_eq_false, not_false_eq_true, true_and, and_true, and_self, true_or, or_true, or_false, false_or, ite_self, n56b hk, n56d hk]
            exact q
          · refine RL_put hL hk (j := a1) (by omega) (by omega) (by (repeat (refine Sm_U (by unfold PL; omega) ?_)); exact Sm_r _ _) ?_
            simp only [rdU, n133a, n133b, n75a, n75b, ↓reduceIte, Nat.reduceEqDiff, Nat.reduceLT, Nat.reduceLeDiff, Int.reduceEq, not_true_eq_false, not_false_eq_true, true_and, and_true, and_self, true_or, or_true, or_false, false_or, ite_self, n56a hk, n56c hk]
          · exact RW_fr (by ((repeat (refine Sm_U (by unfold PW; omega) ?_)); exact Sm_r _ _)) hW
          · exact RN_fr (by ((repeat (refine Sm_U (by unfold PN; omega) ?_)); exact Sm_r _ _)) hN
          · exact RC_fr (by ((repeat (refine Sm_U (by unfold PC; omega) ?_)); exact Sm_r _ _)) ⟨c1, c2, c3⟩
          · exact RT_fr (by ((repeat (refine Sm_U (by unfold PT; omega) ?_)); exact Sm_r _ _)) hT
          · exact RD_fr (by ((repeat (refine Sm_U (by unfold PD; omega) ?_)); exact Sm_r _ _)) hD
          · exact RK_fr (by ((repeat (refine Sm_U (by unfold PK; omega) ?_)); exact Sm_r _ _)) hK
          · exact RB_fr (by ((repeat (refine Sm_U (by unfold PB; omega) ?_)); exact Sm_r _ _)) hB
          · exact RQ_fr (by ((repeat (refine Sm_U (by unfold PQ; omega) ?_)); exact Sm_r _ _)) hQ
          · exact RX_fr (by ((repeat (refine Sm_U (by unfold PX; omega) ?_)); exact Sm_r _ _)) hX
          · exact RM_fr (by ((repeat (refine Sm_U (by unfold PM; omega) ?_)); exact Sm_r _ _)) hM
          · exact RP_fr (by ((repeat (refine Sm_U (by unfold PP; omega) ?_)); exact Sm_r _ _)) hP
          · exact RS_fr (by ((repeat (refine Sm_U (by unfold PS; omega) ?_)); exact Sm_r _ _)) hS
      · refine ⟨-3, tzRx D 2, n, tzRm (tzRx D 2) 2, ?_, ?_, Sm_1 (by unfold tzRx; (repeat (refine Sm_U (by omega) ?_)); exact Sm_r _ _), Sm_1 (by unfold tzRm tzRx; (repeat (refine Sm_U (by omega) ?_)); exact Sm_r _ _), Rel_ref hR (by omega) (by omega)⟩
        · rw [dn_X11_lay, b_X11_lay_0]
          simp only [z_cd, i10, i11, dnn, rdU, eW, eU, tzC_w, w_shp, w_ptr, Nat.beq_refl, nbz, nb133, nb75, nb55, nb67, n133a, n133b, n75a, n75b, aT, aR, oT, oR, oF, oG, kT, kF, bI, bL, bR, b0, Classical.not_not, not_true_eq_false, not_false_eq_true, and_self, and_true, true_and, ↓reduceIte, decide_true, decide_false, Nat.reduceEqDiff, Nat.reduceLT, Nat.reduceLeDiff, Int.reduceEq, s_lineAt_rows_y _ D L n hk, w_row D L n hk, s_isMissing _ D L n (w_row D L n hk).1, e1, z0, s_has _ D L n (w_row D L n hk).1, ci, s_refuse _ D L n (f := 2) (by decide) (by decide)]
        · have y1 : tzRx D 2 83 k = D 83 k := rfl
          have y0 : 0 ≤ tzRx D 2 83 k := z0
          have ci2 : ¬ (0 ≤ a1 ∧ a1 ≤ D 83 k - 1) := by omega
          have z100 : D 83 k ≤ 100000 := by omega
          have w1 := w32_s1 z0 z100
          rw [dn_X12_lay, b_X12_lay_0]
          simp only [z_cd, i10, i11, dnn, rdU, eW, eU, tzC_w, w_shp, w_ptr, Nat.beq_refl, nbz, nb133, nb75, nb55, nb67, n133a, n133b, n75a, n75b, aT, aR, oT, oR, oF, oG, kT, kF, bI, bL, bR, b0, Classical.not_not, not_true_eq_false, not_false_eq_true, and_self, and_true, true_and, ↓reduceIte, decide_true, decide_false, Nat.reduceEqDiff, Nat.reduceLT, Nat.reduceLeDiff, Int.reduceEq, s_askedRow_y _ (tzRx D 2) L n ct.1 ct.2 y0, y1, p_in, ci2, hb, w1, Int.reduceLT, Int.reduceLE, Int.reduceNeg, s_meets _ (tzRx D 2) L n (f := 2) (by decide) (by decide)]
    · refine ⟨-3, tzRx D 1, n, tzRm (tzRx D 1) 1, ?_, ?_, Sm_1 (by unfold tzRx; (repeat (refine Sm_U (by omega) ?_)); exact Sm_r _ _), Sm_1 (by unfold tzRm tzRx; (repeat (refine Sm_U (by omega) ?_)); exact Sm_r _ _), Rel_ref hR (by omega) (by omega)⟩
      · rw [dn_X11_lay, b_X11_lay_0]
        simp only [z_cd, i10, i11, dnn, rdU, eW, eU, tzC_w, w_shp, w_ptr, Nat.beq_refl, nbz, nb133, nb75, nb55, nb67, n133a, n133b, n75a, n75b, aT, aR, oT, oR, oF, oG, kT, kF, bI, bL, bR, b0, Classical.not_not, not_true_eq_false, not_false_eq_true, and_self, and_true, true_and, ↓reduceIte, decide_true, decide_false, Nat.reduceEqDiff, Nat.reduceLT, Nat.reduceLeDiff, Int.reduceEq, s_lineAt_rows_y _ D L n hk, w_row D L n hk, s_isMissing _ D L n (w_row D L n hk).1, e1, Int.reduceLT, Int.reduceLE, Int.reduceNeg, s_refuse _ D L n (f := 1) (by decide) (by decide)]
      · have y0 : tzRx D 1 83 k < 0 := z0
        rw [dn_X12_lay, b_X12_lay_0]
        simp only [z_cd, i10, i11, dnn, rdU, eW, eU, tzC_w, w_shp, w_ptr, Nat.beq_refl, nbz, nb133, nb75, nb55, nb67, n133a, n133b, n75a, n75b, aT, aR, oT, oR, oF, oG, kT, kF, bI, bL, bR, b0, Classical.not_not, not_true_eq_false, not_false_eq_true, and_self, and_true, true_and, ↓reduceIte, decide_true, decide_false, Nat.reduceEqDiff, Nat.reduceLT, Nat.reduceLeDiff, Int.reduceEq, s_askedRow_n _ (tzRx D 1) L n ct.1 ct.2 y0, Int.reduceLT, Int.reduceLE, Int.reduceNeg, s_meets _ (tzRx D 1) L n (f := 1) (by decide) (by decide)]
  · refine ⟨-1, D, n, D, ?_, ?_, rfl, rfl, hR⟩
    · rw [dn_X11_lay, b_X11_lay_0]
      simp only [z_cd, i10, i11, dnn, rdU, eW, eU, tzC_w, w_shp, w_ptr, Nat.beq_refl, nbz, nb133, nb75, nb55, nb67, n133a, n133b, n75a, n75b, aT, aR, oT, oR, oF, oG, kT, kF, bI, bL, bR, b0, Classical.not_not, not_true_eq_false, not_false_eq_true, and_self, and_true, true_and, ↓reduceIte, decide_true, decide_false, Nat.reduceEqDiff, Nat.reduceLT, Nat.reduceLeDiff, Int.reduceEq, s_lineAt_rows_n _ D L n (a := a0) (by omega)]
    · rw [dn_X12_lay, b_X12_lay_0]
      simp only [z_cd, i10, i11, dnn, rdU, eW, eU, tzC_w, w_shp, w_ptr, Nat.beq_refl, nbz, nb133, nb75, nb55, nb67, n133a, n133b, n75a, n75b, aT, aR, oT, oR, oF, oG, kT, kF, bI, bL, bR, b0, Classical.not_not, not_true_eq_false, not_false_eq_true, and_self, and_true, true_and, ↓reduceIte, decide_true, decide_false, Nat.reduceEqDiff, Nat.reduceLT, Nat.reduceLeDiff, Int.reduceEq, s_askedRow_b _ (tzW D L n) (a := a0) (by omega), Int.reduceLT, Int.reduceLE, Int.reduceNeg]
