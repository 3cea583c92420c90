theorem Ofq_UU {A : Nat} {D D' : Nat → Int → Int} (h : Ofq A D D') (b : Nat) (j x : Int) : Ofq A (tzU D b j x) (tzU D' b j x) := by
  intro c k q
  have e := h c k q
  unfold tzU
  rw [e]
theorem wdr (a b : Int) {c : Int} (h : c = a + b) (h0 : 0 ≤ c) (h1 : c ≤ 1000000) : w32 (a + b) = c := by rw [← h]; exact w32_i (by omega) (by omega)
set_option maxRecDepth 100000 in
set_option maxHeartbeats 400000 in
theorem ag_go {L : Nat} (a0 a1 : Int) : AgI Rel L n_X11_go n_X12_go [vI a0, vI a1] := by
  intro D n hR
  obtain ⟨hA, hL, hW, hN, ⟨c1, c2, c3⟩, hT, hD, hK, hB, hQ, hX, hM, hP, hS⟩ := id hR
  by_cases ct : 0 ≤ a0 ∧ a0 ≤ 5
  · obtain ⟨k, e⟩ : ∃ k : Nat, a0 = k := ⟨a0.toNat, by omega⟩
    subst e
    have hk : k < 6 := by omega
    have hb : tqib (k : Int) 6 = true := tqib_y (by omega) (by omega)
    have r := hK k hk
    have r2 := r
    have w := WY_of hW
    have hd := hd_of hW
    by_cases cw : 0 ≤ a1 ∧ a1 ≤ 7
    · have e0 : D (75 + k) 0 = D 105 k := r.1
      have e1 : D (75 + k) 1 = D 106 k := r.2.1
      have e2 : D 2 13 = D 81 5 := hN.1
      by_cases cy : D 105 k = a1
      · refine ⟨-1, D, n, D, ?_, ?_, rfl, rfl, hR⟩
        · rw [dn_X11_go, b_X11_go_0]
          simp only [z_cd, i10, i11, dnn, rdU, eW, eU, tzC_w, w_shp, w_ptr, Nat.beq_refl, nbz, nb133, nb75, nb55, nb67, n133a, n133b, n75a, n75b, aT, aR, oT, oR, oF, oG, kT, kF, bI, bL, bR, b0, Classical.not_not, not_true_eq_false, not_false_eq_true, and_self, and_true, true_and, ↓reduceIte, decide_true, decide_false, Nat.reduceEqDiff, Nat.reduceLT, Nat.reduceLeDiff, Int.reduceEq, s_tractorAt_y _ D L n hk, p_isYard, cw, w_tractor D L n hk, e0, e2, cy]
        · rw [dn_X12_go, b_X12_go_0]
          simp only [z_cd, i10, i11, dnn, rdU, eW, eU, tzC_w, w_shp, w_ptr, Nat.beq_refl, nbz, nb133, nb75, nb55, nb67, n133a, n133b, n75a, n75b, aT, aR, oT, oR, oF, oG, kT, kF, bI, bL, bR, b0, Classical.not_not, not_true_eq_false, not_false_eq_true, and_self, and_true, true_and, ↓reduceIte, decide_true, decide_false, Nat.reduceEqDiff, Nat.reduceLT, Nat.reduceLeDiff, Int.reduceEq, q_isTractor, ct, q_isYard, cw, hb, cy]
      · by_cases co : D 81 5 < D 106 k
        · refine ⟨-4, D, n, D, ?_, ?_, rfl, rfl, hR⟩
          · rw [dn_X11_go, b_X11_go_0]
            simp only [z_cd, i10, i11, dnn, rdU, eW, eU, tzC_w, w_shp, w_ptr, Nat.beq_refl, nbz, nb133, nb75, nb55, nb67, n133a, n133b, n75a, n75b, aT, aR, oT, oR, oF, oG, kT, kF, bI, bL, bR, b0, Classical.not_not, not_true_eq_false, not_false_eq_true, and_self, and_true, true_and, ↓reduceIte, decide_true, decide_false, Nat.reduceEqDiff, Nat.reduceLT, Nat.reduceLeDiff, Int.reduceEq, s_tractorAt_y _ D L n hk, p_isYard, cw, w_tractor D L n hk, e0, e2, e1, cy, p_onWay _ D L n k hk, co]
          · rw [dn_X12_go, b_X12_go_0]
            simp only [z_cd, i10, i11, dnn, rdU, eW, eU, tzC_w, w_shp, w_ptr, Nat.beq_refl, nbz, nb133, nb75, nb55, nb67, n133a, n133b, n75a, n75b, aT, aR, oT, oR, oF, oG, kT, kF, bI, bL, bR, b0, Classical.not_not, not_true_eq_false, not_false_eq_true, and_self, and_true, true_and, ↓reduceIte, decide_true, decide_false, Nat.reduceEqDiff, Nat.reduceLT, Nat.reduceLeDiff, Int.reduceEq, q_isTractor, ct, q_isYard, cw, hb, cy, q_onWay _ D L n k hk, co]
        · obtain ⟨g1, g2, g3, g4, g5, g6, g7, g8, g9, g10, g11, g12⟩ := id r
          obtain ⟨n1, n2, n3⟩ := id hN
          obtain ⟨D1, u1, u2⟩ := p_arrival 1394 L n D (a := D 105 k) (s := D 81 5) (b := a1) (by omega) (by omega) (by omega) (by omega) (by omega) (by omega) w hd
          have sv := Sm_v o12 u2
          have hR1 := Rel_off o12 u2 hR
          have gg := er_ok w hd (bt := 0) (Or.inl rfl) (a := D 105 k) (s := D 81 5) (y := a1) (by omega) (by omega) (by omega) (by omega) (by omega) (by omega)
          have gb := er_b w (by omega) (by omega) gg
          obtain ⟨E0, hE⟩ : ∃ E0, E0 = erq D 0 (D 105 k) (D 81 5) a1 := ⟨_, rfl⟩
          rw [← hE] at u1 gb
          clear gg
          by_cases hv : E0 = 2147483647
          · have sx := Sm_Rx 1 sv
            obtain ⟨D2, v1, v2⟩ := q_comesTo 1396 L n (tzRx D1 1) (a := D 105 k) (s := D 81 5) (b := a1) (by omega) (by omega) (by omega) (by omega) (by omega) (by omega) (Wy_sm sx w) (Hd_sm sx hd)
            rw [er_sm sx, ← hE, hv, nv_y] at v1
            rw [hv] at u1
            have x5 : tzRx D1 1 81 5 = D 81 5 := u2 81 5 (by omega)
            have x1 : tzRx D1 1 106 k = D 106 k := u2 106 k (by omega)
            have x6 : tzRx D1 1 105 k = D 105 k := u2 105 k (by omega)
            refine ⟨-3, tzRx D1 1, n, tzRm D2 1, ?_, ?_, ?_, ?_, Rel_off o92 (Ofq_Rm o92 v2 1) (Rel_ref hR1 (by omega) (by omega))⟩
            · rw [dn_X11_go, b_X11_go_0]
              simp only [z_cd, i10, i11, dnn, rdU, eW, eU, tzC_w, w_shp, w_ptr, Nat.beq_refl, nbz, nb133, nb75, nb55, nb67, n133a, n133b, n75a, n75b, aT, aR, oT, oR, oF, oG, kT, kF, bI, bL, bR, b0, Classical.not_not, not_true_eq_false, not_false_eq_true, and_self, and_true, true_and, ↓reduceIte, decide_true, decide_false, Nat.reduceEqDiff, Nat.reduceLT, Nat.reduceLeDiff, Int.reduceEq, s_tractorAt_y _ D L n hk, p_isYard, cw, w_tractor D L n hk, e0, e2, e1, cy, p_onWay _ D L n k hk, co, u1, s_refuse _ D1 L n (f := 1) (by decide) (by decide)]
            · rw [dn_X12_go, b_X12_go_0]
              simp only [z_cd, i10, i11, dnn, rdU, eW, eU, tzC_w, w_shp, w_ptr, Nat.beq_refl, nbz, nb133, nb75, nb55, nb67, n133a, n133b, n75a, n75b, aT, aR, oT, oR, oF, oG, kT, kF, bI, bL, bR, b0, Classical.not_not, not_true_eq_false, not_false_eq_true, and_self, and_true, true_and, ↓reduceIte, decide_true, decide_false, Nat.reduceEqDiff, Nat.reduceLT, Nat.reduceLeDiff, Int.reduceEq, q_isTractor, ct, q_isYard, cw, hb, cy, q_onWay _ (tzRx D1 1) L n k hk, x5, x1, x6, co, v1, s_meets _ D2 L n (f := 1) (by decide) (by decide)]
            · exact (Sm_1 (by unfold tzRx; (repeat (refine Sm_U (by omega) ?_)); exact Sm_r _ _)).trans (Ofq_1 o12 u2)
            · exact (Sm_1 (by unfold tzRm; (repeat (refine Sm_U (by omega) ?_)); exact Sm_r _ _)).trans ((Ofq_1 o92 v2).trans ((Sm_1 (by unfold tzRx; (repeat (refine Sm_U (by omega) ?_)); exact Sm_r _ _)).trans (Ofq_1 o12 u2)))
          · have hM1 := RM_fr (Sm_off u2 (by intro j; unfold PM; omega)) hM
            obtain ⟨dy, hdy⟩ : ∃ dy, dy = w32 ((D 81 5).tdiv 1440) := ⟨_, rfl⟩
            have s1F : ∀ th, iFq D1 th dy = iFq D th dy := fun th => iFq_fr (Sm_off u2 (by intro j; unfold PM; omega)) th dy
            have pr := p_iFq 1396 D1 L n 17 dy hM1 (by omega) (by omega)
            have pH := p_iFq 1396 D1 L n 16 dy hM1 (by omega) (by omega)
            rw [s1F] at pr pH
            have b16 := iFq_bd hM (th := 16) dy (by omega) (by omega)
            have k13 : D1 2 13 = D 81 5 := (u2 2 13 (by omega)).trans n1
            have k1 : D1 (75 + k) 1 = D 106 k := (u2 _ 1 (by omega)).trans g2
            have k3 : D1 (75 + k) 3 = D 108 k := (u2 _ 3 (by omega)).trans g4
            have h8n : ¬ E0 = 100000000 := by omega
            have q5' : D1 105 k = D 105 k := u2 105 k (by omega)
            have q6' : D1 106 k = D 106 k := u2 106 k (by omega)
            have q7' : D1 81 5 = D 81 5 := u2 81 5 (by omega)
            have q8' : D1 108 k = D 108 k := u2 108 k (by omega)
            have q9' : D1 109 k = D 109 k := u2 109 k (by omega)
            have k4 : D1 (75 + k) 4 = D 109 k := (u2 _ 4 (by omega)).trans g5
            have e3 : w32 (D 81 5 - D 106 k) = D 81 5 - D 106 k := w32_i (by omega) (by omega)
            have e4 : w32 (E0 - D 81 5) = E0 - D 81 5 := w32_i (by omega) (by omega)
            by_cases cr : D 81 5 - D 106 k < iFq D 17 dy
            · skip
              have s1 : 0 ≤ E0 - D 81 5 + D 108 k ∧ E0 - D 81 5 + D 108 k ≤ 1000000 := by omega
              have a1' : w32 (E0 - D 81 5 + D 108 k) = E0 - D 81 5 + D 108 k := wdr _ _ rfl s1.1 s1.2
              have a2' : w32 (D 108 k + (E0 - D 81 5)) = E0 - D 81 5 + D 108 k := wdr _ _ (Int.add_comm _ _) s1.1 s1.2
              by_cases c9 : E0 ≤ 99999
              · have c9n : ¬ 99999 < E0 := by omega
                by_cases ch : iFq D 16 dy < E0 - D 81 5 + D 108 k
                · have chn : ¬ E0 - D 81 5 + D 108 k ≤ iFq D 16 dy := by omega
                  obtain ⟨D2, v1, v2⟩ := q_comesTo 1396 L n D1 (a := D 105 k) (s := D 81 5) (b := a1) (by omega) (by omega) (by omega) (by omega) (by omega) (by omega) (Wy_sm sv w) (Hd_sm sv hd)
                  rw [er_sm sv, ← hE, nv_n hv] at v1
                  have q13 : D2 81 5 = D 81 5 := (v2 81 5 (by omega)).trans (u2 81 5 (by omega))
                  have q1 : D2 106 k = D 106 k := (v2 106 k (by omega)).trans (u2 106 k (by omega))
                  have q3 : D2 108 k = D 108 k := (v2 108 k (by omega)).trans (u2 108 k (by omega))
                  have q5 : D2 105 k = D 105 k := (v2 105 k (by omega)).trans (u2 105 k (by omega))
                  have hM2 := RM_fr (Sm_off v2 (by intro j; unfold PM; omega)) hM1
                  have s2 : ∀ th, iFq D2 th dy = iFq D th dy := fun th => (iFq_fr (Sm_off v2 (by intro j; unfold PM; omega)) th dy).trans (s1F th)
                  have qr := q_iFq 1397 D2 L n 3 0 17 dy hM2 (by omega)
                  have qH := q_iFq 1397 D2 L n 2 0 16 dy hM2 (by omega)
                  rw [s2] at qr qH
                  refine ⟨-4, D1, n, D2, ?_, ?_, Ofq_1 o12 u2, (Ofq_1 o92 v2).trans (Ofq_1 o12 u2), Rel_off o92 v2 hR1⟩
                  · rw [dn_X11_go, b_X11_go_0]
                    simp only [z_cd, i10, i11, dnn, rdU, eW, eU, tzC_w, w_shp, w_ptr, Nat.beq_refl, nbz, nb133, nb75, nb55, nb67, n133a, n133b, n75a, n75b, aT, aR, oT, oR, oF, oG, kT, kF, bI, bL, bR, b0, Classical.not_not, not_true_eq_false, not_false_eq_true, and_self, and_true, true_and, ↓reduceIte, decide_true, decide_false, Nat.reduceEqDiff, Nat.reduceLT, Nat.reduceLeDiff, Int.reduceEq, s_tractorAt_y _ D L n hk, p_isYard, cw, w_tractor D L n hk, w_tractor D1 L n hk, e0, e2, e1, cy, p_onWay _ D L n k hk, co, u1, hv, p_dayOf, k13, k1, e3, pr, pH, b_X11_go_111, b_X11_go_133, cr, k3, e4, ← hdy, c9, c9n, ch, chn, a1', a2']
                  · rw [dn_X12_go, b_X12_go_0]
                    simp only [z_cd, i10, i11, dnn, rdU, eW, eU, tzC_w, w_shp, w_ptr, Nat.beq_refl, nbz, nb133, nb75, nb55, nb67, n133a, n133b, n75a, n75b, aT, aR, oT, oR, oF, oG, kT, kF, bI, bL, bR, b0, Classical.not_not, not_true_eq_false, not_false_eq_true, and_self, and_true, true_and, ↓reduceIte, decide_true, decide_false, Nat.reduceEqDiff, Nat.reduceLT, Nat.reduceLeDiff, Int.reduceEq, q_isTractor, h8n, ct, q_isYard, cw, hb, cy, q_onWay _ D1 L n k hk, co, v1, q_day, q13, q1, q3, q5, e3, qr, qH, b_X12_go_109, cr, e4, ← hdy, q5', q6', q7', c9, c9n, ch, chn, a1', a2']
                · have chn : E0 - D 81 5 + D 108 k ≤ iFq D 16 dy := by omega
                  have sX : Sm PVq D1 (tzU (tzU (tzU (tzU D1 (75 + k) 0 a1) (75 + k) 1 E0) (75 + k) 3 (E0 - D 81 5 + D 108 k)) (75 + k) 4 (w32 (D 109 k + (E0 - D 81 5)))) := by (repeat (refine Sm_U (by unfold PVq; omega) ?_)); exact Sm_r _ _
                  have sM : Sm PM D1 (tzU (tzU (tzU (tzU D1 (75 + k) 0 a1) (75 + k) 1 E0) (75 + k) 3 (E0 - D 81 5 + D 108 k)) (75 + k) 4 (w32 (D 109 k + (E0 - D 81 5)))) := by (repeat (refine Sm_U (by unfold PM; omega) ?_)); exact Sm_r _ _
                  obtain ⟨D2, v1, v2⟩ := q_comesTo 1396 L n (tzU (tzU (tzU (tzU D1 (75 + k) 0 a1) (75 + k) 1 E0) (75 + k) 3 (E0 - D 81 5 + D 108 k)) (75 + k) 4 (w32 (D 109 k + (E0 - D 81 5)))) (a := D 105 k) (s := D 81 5) (b := a1) (by omega) (by omega) (by omega) (by omega) (by omega) (by omega) (Wy_sm sX (Wy_sm sv w)) (Hd_sm sX (Hd_sm sv hd))
                  rw [er_sm sX, er_sm sv, ← hE, nv_n hv] at v1
                  have z1 : ¬ (75 + k = 81) := by omega
                  have z2 : ¬ (75 + k = 105) := by omega
                  have z3 : ¬ (75 + k = 106) := by omega
                  have z4 : ¬ (75 + k = 108) := by omega
                  have z5 : ¬ (75 + k = 109) := by omega
                  have z1' : ¬ (81 = 75 + k) := by omega
                  have z2' : ¬ (105 = 75 + k) := by omega
                  have z3' : ¬ (106 = 75 + k) := by omega
                  have z4' : ¬ (108 = 75 + k) := by omega
                  have z5' : ¬ (109 = 75 + k) := by omega
                  have z6' : ¬ (107 = 75 + k) := by omega
                  have x5 : (tzU (tzU (tzU (tzU D1 (75 + k) 0 a1) (75 + k) 1 E0) (75 + k) 3 (E0 - D 81 5 + D 108 k)) (75 + k) 4 (w32 (D 109 k + (E0 - D 81 5)))) 81 5 = D 81 5 := by simp only [rdU, n133a, n133b, n75a, n75b, ↓reduceIte, Nat.reduceEqDiff, Nat.reduceLT, Nat.reduceLeDiff, Int.reduceEq, not_true_eq_false, not_false_eq_true, true_and, and_true, and_self, true_or, or_true, or_false, false_or, ite_self, z1']; exact u2 81 5 (by omega)
                  have x1 : (tzU (tzU (tzU (tzU D1 (75 + k) 0 a1) (75 + k) 1 E0) (75 + k) 3 (E0 - D 81 5 + D 108 k)) (75 + k) 4 (w32 (D 109 k + (E0 - D 81 5)))) 106 k = D 106 k := by simp only [rdU, n133a, n133b, n75a, n75b, ↓reduceIte, Nat.reduceEqDiff, Nat.reduceLT, Nat.reduceLeDiff, Int.reduceEq, not_true_eq_false, not_false_eq_true, true_and, and_true, and_self, true_or, or_true, or_false, false_or, ite_self, z3']; exact u2 106 k (by omega)
                  have x3 : (tzU (tzU (tzU (tzU D1 (75 + k) 0 a1) (75 + k) 1 E0) (75 + k) 3 (E0 - D 81 5 + D 108 k)) (75 + k) 4 (w32 (D 109 k + (E0 - D 81 5)))) 108 k = D 108 k := by simp only [rdU, n133a, n133b, n75a, n75b, ↓reduceIte, Nat.reduceEqDiff, Nat.reduceLT, Nat.reduceLeDiff, Int.reduceEq, not_true_eq_false, not_false_eq_true, true_and, and_true, and_self, true_or, or_true, or_false, false_or, ite_self, z4']; exact u2 108 k (by omega)
                  have x6 : (tzU (tzU (tzU (tzU D1 (75 + k) 0 a1) (75 + k) 1 E0) (75 + k) 3 (E0 - D 81 5 + D 108 k)) (75 + k) 4 (w32 (D 109 k + (E0 - D 81 5)))) 105 k = D 105 k := by simp only [rdU, n133a, n133b, n75a, n75b, ↓reduceIte, Nat.reduceEqDiff, Nat.reduceLT, Nat.reduceLeDiff, Int.reduceEq, not_true_eq_false, not_false_eq_true, true_and, and_true, and_self, true_or, or_true, or_false, false_or, ite_self, z2']; exact u2 105 k (by omega)
                  have x9 : (tzU (tzU (tzU (tzU D1 (75 + k) 0 a1) (75 + k) 1 E0) (75 + k) 3 (E0 - D 81 5 + D 108 k)) (75 + k) 4 (w32 (D 109 k + (E0 - D 81 5)))) 109 k = D 109 k := by simp only [rdU, n133a, n133b, n75a, n75b, ↓reduceIte, Nat.reduceEqDiff, Nat.reduceLT, Nat.reduceLeDiff, Int.reduceEq, not_true_eq_false, not_false_eq_true, true_and, and_true, and_self, true_or, or_true, or_false, false_or, ite_self, z5']; exact u2 109 k (by omega)
                  have q13 : D2 81 5 = D 81 5 := (v2 81 5 (by omega)).trans x5
                  have q1 : D2 106 k = D 106 k := (v2 106 k (by omega)).trans x1
                  have q3 : D2 108 k = D 108 k := (v2 108 k (by omega)).trans x3
                  have q5 : D2 105 k = D 105 k := (v2 105 k (by omega)).trans x6
                  have q9 : D2 109 k = D 109 k := (v2 109 k (by omega)).trans x9
                  have hM2 := RM_fr (Sm_t sM (Sm_off v2 (by intro j; unfold PM; omega))) hM1
                  have s2 : ∀ th, iFq D2 th dy = iFq D th dy := fun th => (iFq_fr (Sm_t sM (Sm_off v2 (by intro j; unfold PM; omega))) th dy).trans (s1F th)
                  have qr := q_iFq 1397 D2 L n 3 0 17 dy hM2 (by omega)
                  have qH := q_iFq 1397 D2 L n 2 0 16 dy hM2 (by omega)
                  rw [s2] at qr qH
                  have oY : Ofq 92 (tzU (tzU (tzU (tzU (tzU (tzU (tzU (tzU D1 (75 + k) 0 a1) (75 + k) 1 E0) (75 + k) 3 (E0 - D 81 5 + D 108 k)) (75 + k) 4 (w32 (D 109 k + (E0 - D 81 5)))) 108 k (E0 - D 81 5 + D 108 k)) 109 k (w32 (D 109 k + (E0 - D 81 5)))) 105 k a1) 106 k E0) (tzU (tzU (tzU (tzU D2 108 k (E0 - D 81 5 + D 108 k)) 109 k (w32 (D 109 k + (E0 - D 81 5)))) 105 k a1) 106 k E0) := Ofq_UU (Ofq_UU (Ofq_UU (Ofq_UU v2 _ _ _) _ _ _) _ _ _) _ _ _
                  have hY : Rel (tzU (tzU (tzU (tzU (tzU (tzU (tzU (tzU D1 (75 + k) 0 a1) (75 + k) 1 E0) (75 + k) 3 (E0 - D 81 5 + D 108 k)) (75 + k) 4 (w32 (D 109 k + (E0 - D 81 5)))) 108 k (E0 - D 81 5 + D 108 k)) 109 k (w32 (D 109 k + (E0 - D 81 5)))) 105 k a1) 106 k E0) n := by
                    obtain ⟨hA, hL, hW, hN, ⟨c1, c2, c3⟩, hT, hD, hK, hB, hQ, hX, hM, hP, hS⟩ := id hR1
                    refine ⟨?_, ?_, ?_, ?_, ?_, ?_, ?_, ?_, ?_, ?_, ?_, ?_, ?_, ?_⟩
                    · exact RA_fr (by ((repeat (refine Sm_U (by unfold PA; omega) ?_)); exact Sm_r _ _)) hA
                    · exact RL_fr (by ((repeat (refine Sm_U (by unfold PL; omega) ?_)); exact Sm_r _ _)) hL
                    · exact RW_fr (by ((repeat (refine Sm_U (by unfold PW; omega) ?_)); exact Sm_r _ _)) hW
                    · exact RN_fr (by ((repeat (refine Sm_U (by unfold PN; omega) ?_)); exact Sm_r _ _)) hN
                    · exact RC_fr (by ((repeat (refine Sm_U (by unfold PC; omega) ?_)); exact Sm_r _ _)) ⟨c1, c2, c3⟩
                    · exact RT_fr (by ((repeat (refine Sm_U (by unfold PT; omega) ?_)); exact Sm_r _ _)) hT
                    · exact RD_fr (by ((repeat (refine Sm_U (by unfold PD; omega) ?_)); exact Sm_r _ _)) hD
                    · refine RK_up (t := k) hK (by (repeat (refine Sm_U (by unfold PKx; omega) ?_)); exact Sm_r _ _) ?_
                      have f1 : D1 107 k = D 107 k := u2 107 k (by omega)
                      have f2 : D1 (75 + k) 2 = D (75 + k) 2 := u2 (75 + k) 2 (by omega)
                      have r2 := r
                      unfold KR at r2 ⊢
                      simp only [rdU, n133a, n133b, n75a, n75b, ↓reduceIte, Nat.reduceEqDiff, Nat.reduceLT, Nat.reduceLeDiff, Int.reduceEq, not_true_eq_false, not_false_eq_true, true_and, and_true, and_self, true_or, or_true, or_false, false_or, ite_self, z1, z2, z3, z4, z5, z1', z2', z3', z4', z5', z6', f1, f2]
                      omega
                    · exact RB_fr (by ((repeat (refine Sm_U (by unfold PB; omega) ?_)); exact Sm_r _ _)) hB
                    · exact RQ_fr (by ((repeat (refine Sm_U (by unfold PQ; omega) ?_)); exact Sm_r _ _)) hQ
                    · exact RX_fr (by ((repeat (refine Sm_U (by unfold PX; omega) ?_)); exact Sm_r _ _)) hX
                    · exact RM_fr (by ((repeat (refine Sm_U (by unfold PM; omega) ?_)); exact Sm_r _ _)) hM
                    · exact RP_fr (by ((repeat (refine Sm_U (by unfold PP; omega) ?_)); exact Sm_r _ _)) hP
                    · exact RS_fr (by ((repeat (refine Sm_U (by unfold PS; omega) ?_)); exact Sm_r _ _)) hS
                  have fX : Sm (fun b _ => b = 1) D1 (tzU (tzU (tzU (tzU D1 (75 + k) 0 a1) (75 + k) 1 E0) (75 + k) 3 (E0 - D 81 5 + D 108 k)) (75 + k) 4 (w32 (D 109 k + (E0 - D 81 5)))) := by (repeat (refine Sm_U (by omega) ?_)); exact Sm_r _ _
                  have fY : Sm (fun b _ => b = 1) D1 (tzU (tzU (tzU (tzU (tzU (tzU (tzU (tzU D1 (75 + k) 0 a1) (75 + k) 1 E0) (75 + k) 3 (E0 - D 81 5 + D 108 k)) (75 + k) 4 (w32 (D 109 k + (E0 - D 81 5)))) 108 k (E0 - D 81 5 + D 108 k)) 109 k (w32 (D 109 k + (E0 - D 81 5)))) 105 k a1) 106 k E0) := by (repeat (refine Sm_U (by omega) ?_)); exact Sm_r _ _
                  refine ⟨E0, tzU (tzU (tzU (tzU D1 (75 + k) 0 a1) (75 + k) 1 E0) (75 + k) 3 (E0 - D 81 5 + D 108 k)) (75 + k) 4 (w32 (D 109 k + (E0 - D 81 5))), n, tzU (tzU (tzU (tzU D2 108 k (E0 - D 81 5 + D 108 k)) 109 k (w32 (D 109 k + (E0 - D 81 5)))) 105 k a1) 106 k E0, ?_, ?_, (Sm_1 fX).trans (Ofq_1 o12 u2), (Ofq_1 o92 oY).trans ((Sm_1 fY).trans (Ofq_1 o12 u2)), Rel_off o92 oY hY⟩
                  · rw [dn_X11_go, b_X11_go_0]
                    simp only [z_cd, i10, i11, dnn, rdU, eW, eU, tzC_w, w_shp, w_ptr, Nat.beq_refl, nbz, nb133, nb75, nb55, nb67, n133a, n133b, n75a, n75b, aT, aR, oT, oR, oF, oG, kT, kF, bI, bL, bR, b0, Classical.not_not, not_true_eq_false, not_false_eq_true, and_self, and_true, true_and, ↓reduceIte, decide_true, decide_false, Nat.reduceEqDiff, Nat.reduceLT, Nat.reduceLeDiff, Int.reduceEq, s_tractorAt_y _ D L n hk, p_isYard, cw, w_tractor D L n hk, w_tractor D1 L n hk, e0, e2, e1, cy, p_onWay _ D L n k hk, co, u1, hv, p_dayOf, k13, k1, e3, pr, pH, b_X11_go_111, b_X11_go_133, cr, k3, e4, ← hdy, k4, c9, c9n, ch, chn, a1', a2', z1, z1']
                  · rw [dn_X12_go, b_X12_go_0]
                    simp only [z_cd, i10, i11, dnn, rdU, eW, eU, tzC_w, w_shp, w_ptr, Nat.beq_refl, nbz, nb133, nb75, nb55, nb67, n133a, n133b, n75a, n75b, aT, aR, oT, oR, oF, oG, kT, kF, bI, bL, bR, b0, Classical.not_not, not_true_eq_false, not_false_eq_true, and_self, and_true, true_and, ↓reduceIte, decide_true, decide_false, Nat.reduceEqDiff, Nat.reduceLT, Nat.reduceLeDiff, Int.reduceEq, q_isTractor, h8n, ct, q_isYard, cw, hb, cy, q_onWay _ (tzU (tzU (tzU (tzU D1 (75 + k) 0 a1) (75 + k) 1 E0) (75 + k) 3 (E0 - D 81 5 + D 108 k)) (75 + k) 4 (w32 (D 109 k + (E0 - D 81 5)))) L n k hk, co, v1, q_day, q13, q1, q3, q5, e3, qr, qH, b_X12_go_109, cr, e4, ← hdy, z1', z2', z3', z4', z5', q5', q6', q7', q8', q9', q9, c9, c9n, ch, chn, a1', a2']
              · have c9n : 99999 < E0 := by omega
                obtain ⟨D2, v1, v2⟩ := q_comesTo 1396 L n D1 (a := D 105 k) (s := D 81 5) (b := a1) (by omega) (by omega) (by omega) (by omega) (by omega) (by omega) (Wy_sm sv w) (Hd_sm sv hd)
                rw [er_sm sv, ← hE, nv_n hv] at v1
                have q13 : D2 81 5 = D 81 5 := (v2 81 5 (by omega)).trans (u2 81 5 (by omega))
                have q1 : D2 106 k = D 106 k := (v2 106 k (by omega)).trans (u2 106 k (by omega))
                have q3 : D2 108 k = D 108 k := (v2 108 k (by omega)).trans (u2 108 k (by omega))
                have q5 : D2 105 k = D 105 k := (v2 105 k (by omega)).trans (u2 105 k (by omega))
                have hM2 := RM_fr (Sm_off v2 (by intro j; unfold PM; omega)) hM1
                have s2 : ∀ th, iFq D2 th dy = iFq D th dy := fun th => (iFq_fr (Sm_off v2 (by intro j; unfold PM; omega)) th dy).trans (s1F th)
                have qr := q_iFq 1397 D2 L n 3 0 17 dy hM2 (by omega)
                have qH := q_iFq 1397 D2 L n 2 0 16 dy hM2 (by omega)
                rw [s2] at qr qH
                refine ⟨-4, D1, n, D2, ?_, ?_, Ofq_1 o12 u2, (Ofq_1 o92 v2).trans (Ofq_1 o12 u2), Rel_off o92 v2 hR1⟩
                · rw [dn_X11_go, b_X11_go_0]
                  simp only [z_cd, i10, i11, dnn, rdU, eW, eU, tzC_w, w_shp, w_ptr, Nat.beq_refl, nbz, nb133, nb75, nb55, nb67, n133a, n133b, n75a, n75b, aT, aR, oT, oR, oF, oG, kT, kF, bI, bL, bR, b0, Classical.not_not, not_true_eq_false, not_false_eq_true, and_self, and_true, true_and, ↓reduceIte, decide_true, decide_false, Nat.reduceEqDiff, Nat.reduceLT, Nat.reduceLeDiff, Int.reduceEq, s_tractorAt_y _ D L n hk, p_isYard, cw, w_tractor D L n hk, w_tractor D1 L n hk, e0, e2, e1, cy, p_onWay _ D L n k hk, co, u1, hv, p_dayOf, k13, k1, e3, pr, pH, b_X11_go_111, b_X11_go_133, cr, k3, e4, ← hdy, c9, c9n, a1', a2', ite_self]
                · rw [dn_X12_go, b_X12_go_0]
                  simp only [z_cd, i10, i11, dnn, rdU, eW, eU, tzC_w, w_shp, w_ptr, Nat.beq_refl, nbz, nb133, nb75, nb55, nb67, n133a, n133b, n75a, n75b, aT, aR, oT, oR, oF, oG, kT, kF, bI, bL, bR, b0, Classical.not_not, not_true_eq_false, not_false_eq_true, and_self, and_true, true_and, ↓reduceIte, decide_true, decide_false, Nat.reduceEqDiff, Nat.reduceLT, Nat.reduceLeDiff, Int.reduceEq, q_isTractor, h8n, ct, q_isYard, cw, hb, cy, q_onWay _ D1 L n k hk, co, v1, q_day, q13, q1, q3, q5, e3, qr, qH, b_X12_go_109, cr, e4, ← hdy, q5', q6', q7', c9, c9n, a1', a2', ite_self]
            · skip
              have s1 : 0 ≤ E0 - D 81 5 + 0 ∧ E0 - D 81 5 + 0 ≤ 1000000 := by omega
              have a1' : w32 (E0 - D 81 5 + 0) = E0 - D 81 5 + 0 := wdr _ _ rfl s1.1 s1.2
              have a2' : w32 (0 + (E0 - D 81 5)) = E0 - D 81 5 + 0 := wdr _ _ (Int.add_comm _ _) s1.1 s1.2
              by_cases c9 : E0 ≤ 99999
              · have c9n : ¬ 99999 < E0 := by omega
                by_cases ch : iFq D 16 dy < E0 - D 81 5 + 0
                · have chn : ¬ E0 - D 81 5 + 0 ≤ iFq D 16 dy := by omega
                  obtain ⟨D2, v1, v2⟩ := q_comesTo 1396 L n D1 (a := D 105 k) (s := D 81 5) (b := a1) (by omega) (by omega) (by omega) (by omega) (by omega) (by omega) (Wy_sm sv w) (Hd_sm sv hd)
                  rw [er_sm sv, ← hE, nv_n hv] at v1
                  have q13 : D2 81 5 = D 81 5 := (v2 81 5 (by omega)).trans (u2 81 5 (by omega))
                  have q1 : D2 106 k = D 106 k := (v2 106 k (by omega)).trans (u2 106 k (by omega))
                  have q3 : D2 108 k = D 108 k := (v2 108 k (by omega)).trans (u2 108 k (by omega))
                  have q5 : D2 105 k = D 105 k := (v2 105 k (by omega)).trans (u2 105 k (by omega))
                  have hM2 := RM_fr (Sm_off v2 (by intro j; unfold PM; omega)) hM1
                  have s2 : ∀ th, iFq D2 th dy = iFq D th dy := fun th => (iFq_fr (Sm_off v2 (by intro j; unfold PM; omega)) th dy).trans (s1F th)
                  have qr := q_iFq 1397 D2 L n 3 0 17 dy hM2 (by omega)
                  have qH := q_iFq 1397 D2 L n 2 0 16 dy hM2 (by omega)
                  rw [s2] at qr qH
                  refine ⟨-4, D1, n, D2, ?_, ?_, Ofq_1 o12 u2, (Ofq_1 o92 v2).trans (Ofq_1 o12 u2), Rel_off o92 v2 hR1⟩
                  · rw [dn_X11_go, b_X11_go_0]
                    simp only [z_cd, i10, i11, dnn, rdU, eW, eU, tzC_w, w_shp, w_ptr, Nat.beq_refl, nbz, nb133, nb75, nb55, nb67, n133a, n133b, n75a, n75b, aT, aR, oT, oR, oF, oG, kT, kF, bI, bL, bR, b0, Classical.not_not, not_true_eq_false, not_false_eq_true, and_self, and_true, true_and, ↓reduceIte, decide_true, decide_false, Nat.reduceEqDiff, Nat.reduceLT, Nat.reduceLeDiff, Int.reduceEq, s_tractorAt_y _ D L n hk, p_isYard, cw, w_tractor D L n hk, w_tractor D1 L n hk, e0, e2, e1, cy, p_onWay _ D L n k hk, co, u1, hv, p_dayOf, k13, k1, e3, pr, pH, b_X11_go_111, b_X11_go_133, cr, k3, e4, ← hdy, c9, c9n, ch, chn, a1', a2']
                  · rw [dn_X12_go, b_X12_go_0]
                    simp only [z_cd, i10, i11, dnn, rdU, eW, eU, tzC_w, w_shp, w_ptr, Nat.beq_refl, nbz, nb133, nb75, nb55, nb67, n133a, n133b, n75a, n75b, aT, aR, oT, oR, oF, oG, kT, kF, bI, bL, bR, b0, Classical.not_not, not_true_eq_false, not_false_eq_true, and_self, and_true, true_and, ↓reduceIte, decide_true, decide_false, Nat.reduceEqDiff, Nat.reduceLT, Nat.reduceLeDiff, Int.reduceEq, q_isTractor, h8n, ct, q_isYard, cw, hb, cy, q_onWay _ D1 L n k hk, co, v1, q_day, q13, q1, q3, q5, e3, qr, qH, b_X12_go_109, cr, e4, ← hdy, q5', q6', q7', c9, c9n, ch, chn, a1', a2']
                · have chn : E0 - D 81 5 + 0 ≤ iFq D 16 dy := by omega
                  have sX : Sm PVq D1 (tzU (tzU (tzU (tzU D1 (75 + k) 0 a1) (75 + k) 1 E0) (75 + k) 3 (E0 - D 81 5 + 0)) (75 + k) 4 (w32 (D 109 k + (E0 - D 81 5)))) := by (repeat (refine Sm_U (by unfold PVq; omega) ?_)); exact Sm_r _ _
                  have sM : Sm PM D1 (tzU (tzU (tzU (tzU D1 (75 + k) 0 a1) (75 + k) 1 E0) (75 + k) 3 (E0 - D 81 5 + 0)) (75 + k) 4 (w32 (D 109 k + (E0 - D 81 5)))) := by (repeat (refine Sm_U (by unfold PM; omega) ?_)); exact Sm_r _ _
                  obtain ⟨D2, v1, v2⟩ := q_comesTo 1396 L n (tzU (tzU (tzU (tzU D1 (75 + k) 0 a1) (75 + k) 1 E0) (75 + k) 3 (E0 - D 81 5 + 0)) (75 + k) 4 (w32 (D 109 k + (E0 - D 81 5)))) (a := D 105 k) (s := D 81 5) (b := a1) (by omega) (by omega) (by omega) (by omega) (by omega) (by omega) (Wy_sm sX (Wy_sm sv w)) (Hd_sm sX (Hd_sm sv hd))
                  rw [er_sm sX, er_sm sv, ← hE, nv_n hv] at v1
                  have z1 : ¬ (75 + k = 81) := by omega
                  have z2 : ¬ (75 + k = 105) := by omega
                  have z3 : ¬ (75 + k = 106) := by omega
                  have z4 : ¬ (75 + k = 108) := by omega
                  have z5 : ¬ (75 + k = 109) := by omega
                  have z1' : ¬ (81 = 75 + k) := by omega
                  have z2' : ¬ (105 = 75 + k) := by omega
                  have z3' : ¬ (106 = 75 + k) := by omega
                  have z4' : ¬ (108 = 75 + k) := by omega
                  have z5' : ¬ (109 = 75 + k) := by omega
                  have z6' : ¬ (107 = 75 + k) := by omega
                  have x5 : (tzU (tzU (tzU (tzU D1 (75 + k) 0 a1) (75 + k) 1 E0) (75 + k) 3 (E0 - D 81 5 + 0)) (75 + k) 4 (w32 (D 109 k + (E0 - D 81 5)))) 81 5 = D 81 5 := by simp only [rdU, n133a, n133b, n75a, n75b, ↓reduceIte, Nat.reduceEqDiff, Nat.reduceLT, Nat.reduceLeDiff, Int.reduceEq, not_true_eq_false, not_false_eq_true, true_and, and_true, and_self, true_or, or_true, or_false, false_or, ite_self, z1']; exact u2 81 5 (by omega)
                  have x1 : (tzU (tzU (tzU (tzU D1 (75 + k) 0 a1) (75 + k) 1 E0) (75 + k) 3 (E0 - D 81 5 + 0)) (75 + k) 4 (w32 (D 109 k + (E0 - D 81 5)))) 106 k = D 106 k := by simp only [rdU, n133a, n133b, n75a, n75b, ↓reduceIte, Nat.reduceEqDiff, Nat.reduceLT, Nat.reduceLeDiff, Int.reduceEq, not_true_eq_false, not_false_eq_true, true_and, and_true, and_self, true_or, or_true, or_false, false_or, ite_self, z3']; exact u2 106 k (by omega)
                  have x3 : (tzU (tzU (tzU (tzU D1 (75 + k) 0 a1) (75 + k) 1 E0) (75 + k) 3 (E0 - D 81 5 + 0)) (75 + k) 4 (w32 (D 109 k + (E0 - D 81 5)))) 108 k = D 108 k := by simp only [rdU, n133a, n133b, n75a, n75b, ↓reduceIte, Nat.reduceEqDiff, Nat.reduceLT, Nat.reduceLeDiff, Int.reduceEq, not_true_eq_false, not_false_eq_true, true_and, and_true, and_self, true_or, or_true, or_false, false_or, ite_self, z4']; exact u2 108 k (by omega)
                  have x6 : (tzU (tzU (tzU (tzU D1 (75 + k) 0 a1) (75 + k) 1 E0) (75 + k) 3 (E0 - D 81 5 + 0)) (75 + k) 4 (w32 (D 109 k + (E0 - D 81 5)))) 105 k = D 105 k := by simp only [rdU, n133a, n133b, n75a, n75b, ↓reduceIte, Nat.reduceEqDiff, Nat.reduceLT, Nat.reduceLeDiff, Int.reduceEq, not_true_eq_false, not_false_eq_true, true_and, and_true, and_self, true_or, or_true, or_false, false_or, ite_self, z2']; exact u2 105 k (by omega)
                  have x9 : (tzU (tzU (tzU (tzU D1 (75 + k) 0 a1) (75 + k) 1 E0) (75 + k) 3 (E0 - D 81 5 + 0)) (75 + k) 4 (w32 (D 109 k + (E0 - D 81 5)))) 109 k = D 109 k := by simp only [rdU, n133a, n133b, n75a, n75b, ↓reduceIte, Nat.reduceEqDiff, Nat.reduceLT, Nat.reduceLeDiff, Int.reduceEq, not_true_eq_false, not_false_eq_true, true_and, and_true, and_self, true_or, or_true, or_false, false_or, ite_self, z5']; exact u2 109 k (by omega)
                  have q13 : D2 81 5 = D 81 5 := (v2 81 5 (by omega)).trans x5
                  have q1 : D2 106 k = D 106 k := (v2 106 k (by omega)).trans x1
                  have q3 : D2 108 k = D 108 k := (v2 108 k (by omega)).trans x3
                  have q5 : D2 105 k = D 105 k := (v2 105 k (by omega)).trans x6
                  have q9 : D2 109 k = D 109 k := (v2 109 k (by omega)).trans x9
                  have hM2 := RM_fr (Sm_t sM (Sm_off v2 (by intro j; unfold PM; omega))) hM1
                  have s2 : ∀ th, iFq D2 th dy = iFq D th dy := fun th => (iFq_fr (Sm_t sM (Sm_off v2 (by intro j; unfold PM; omega))) th dy).trans (s1F th)
                  have qr := q_iFq 1397 D2 L n 3 0 17 dy hM2 (by omega)
                  have qH := q_iFq 1397 D2 L n 2 0 16 dy hM2 (by omega)
                  rw [s2] at qr qH
                  have oY : Ofq 92 (tzU (tzU (tzU (tzU (tzU (tzU (tzU (tzU D1 (75 + k) 0 a1) (75 + k) 1 E0) (75 + k) 3 (E0 - D 81 5 + 0)) (75 + k) 4 (w32 (D 109 k + (E0 - D 81 5)))) 108 k (E0 - D 81 5 + 0)) 109 k (w32 (D 109 k + (E0 - D 81 5)))) 105 k a1) 106 k E0) (tzU (tzU (tzU (tzU D2 108 k (E0 - D 81 5 + 0)) 109 k (w32 (D 109 k + (E0 - D 81 5)))) 105 k a1) 106 k E0) := Ofq_UU (Ofq_UU (Ofq_UU (Ofq_UU v2 _ _ _) _ _ _) _ _ _) _ _ _
                  have hY : Rel (tzU (tzU (tzU (tzU (tzU (tzU (tzU (tzU D1 (75 + k) 0 a1) (75 + k) 1 E0) (75 + k) 3 (E0 - D 81 5 + 0)) (75 + k) 4 (w32 (D 109 k + (E0 - D 81 5)))) 108 k (E0 - D 81 5 + 0)) 109 k (w32 (D 109 k + (E0 - D 81 5)))) 105 k a1) 106 k E0) n := by
                    obtain ⟨hA, hL, hW, hN, ⟨c1, c2, c3⟩, hT, hD, hK, hB, hQ, hX, hM, hP, hS⟩ := id hR1
                    refine ⟨?_, ?_, ?_, ?_, ?_, ?_, ?_, ?_, ?_, ?_, ?_, ?_, ?_, ?_⟩
                    · exact RA_fr (by ((repeat (refine Sm_U (by unfold PA; omega) ?_)); exact Sm_r _ _)) hA
                    · exact RL_fr (by ((repeat (refine Sm_U (by unfold PL; omega) ?_)); exact Sm_r _ _)) hL
                    · exact RW_fr (by ((repeat (refine Sm_U (by unfold PW; omega) ?_)); exact Sm_r _ _)) hW
                    · exact RN_fr (by ((repeat (refine Sm_U (by unfold PN; omega) ?_)); exact Sm_r _ _)) hN
                    · exact RC_fr (by ((repeat (refine Sm_U (by unfold PC; omega) ?_)); exact Sm_r _ _)) ⟨c1, c2, c3⟩
                    · exact RT_fr (by ((repeat (refine Sm_U (by unfold PT; omega) ?_)); exact Sm_r _ _)) hT
                    · exact RD_fr (by ((repeat (refine Sm_U (by unfold PD; omega) ?_)); exact Sm_r _ _)) hD
                    · refine RK_up (t := k) hK (by (repeat (refine Sm_U (by unfold PKx; omega) ?_)); exact Sm_r _ _) ?_
                      have f1 : D1 107 k = D 107 k := u2 107 k (by omega)
                      have f2 : D1 (75 + k) 2 = D (75 + k) 2 := u2 (75 + k) 2 (by omega)
                      have r2 := r
                      unfold KR at r2 ⊢
                      simp only [rdU, n133a, n133b, n75a, n75b, ↓reduceIte, Nat.reduceEqDiff, Nat.reduceLT, Nat.reduceLeDiff, Int.reduceEq, not_true_eq_false, not_false_eq_true, true_and, and_true, and_self, true_or, or_true, or_false, false_or, ite_self, z1, z2, z3, z4, z5, z1', z2', z3', z4', z5', z6', f1, f2]
                      omega
                    · exact RB_fr (by ((repeat (refine Sm_U (by unfold PB; omega) ?_)); exact Sm_r _ _)) hB
                    · exact RQ_fr (by ((repeat (refine Sm_U (by unfold PQ; omega) ?_)); exact Sm_r _ _)) hQ
                    · exact RX_fr (by ((repeat (refine Sm_U (by unfold PX; omega) ?_)); exact Sm_r _ _)) hX
                    · exact RM_fr (by ((repeat (refine Sm_U (by unfold PM; omega) ?_)); exact Sm_r _ _)) hM
                    · exact RP_fr (by ((repeat (refine Sm_U (by unfold PP; omega) ?_)); exact Sm_r _ _)) hP
                    · exact RS_fr (by ((repeat (refine Sm_U (by unfold PS; omega) ?_)); exact Sm_r _ _)) hS
                  have fX : Sm (fun b _ => b = 1) D1 (tzU (tzU (tzU (tzU D1 (75 + k) 0 a1) (75 + k) 1 E0) (75 + k) 3 (E0 - D 81 5 + 0)) (75 + k) 4 (w32 (D 109 k + (E0 - D 81 5)))) := by (repeat (refine Sm_U (by omega) ?_)); exact Sm_r _ _
                  have fY : Sm (fun b _ => b = 1) D1 (tzU (tzU (tzU (tzU (tzU (tzU (tzU (tzU D1 (75 + k) 0 a1) (75 + k) 1 E0) (75 + k) 3 (E0 - D 81 5 + 0)) (75 + k) 4 (w32 (D 109 k + (E0 - D 81 5)))) 108 k (E0 - D 81 5 + 0)) 109 k (w32 (D 109 k + (E0 - D 81 5)))) 105 k a1) 106 k E0) := by (repeat (refine Sm_U (by omega) ?_)); exact Sm_r _ _
                  refine ⟨E0, tzU (tzU (tzU (tzU D1 (75 + k) 0 a1) (75 + k) 1 E0) (75 + k) 3 (E0 - D 81 5 + 0)) (75 + k) 4 (w32 (D 109 k + (E0 - D 81 5))), n, tzU (tzU (tzU (tzU D2 108 k (E0 - D 81 5 + 0)) 109 k (w32 (D 109 k + (E0 - D 81 5)))) 105 k a1) 106 k E0, ?_, ?_, (Sm_1 fX).trans (Ofq_1 o12 u2), (Ofq_1 o92 oY).trans ((Sm_1 fY).trans (Ofq_1 o12 u2)), Rel_off o92 oY hY⟩
                  · rw [dn_X11_go, b_X11_go_0]
                    simp only [z_cd, i10, i11, dnn, rdU, eW, eU, tzC_w, w_shp, w_ptr, Nat.beq_refl, nbz, nb133, nb75, nb55, nb67, n133a, n133b, n75a, n75b, aT, aR, oT, oR, oF, oG, kT, kF, bI, bL, bR, b0, Classical.not_not, not_true_eq_false, not_false_eq_true, and_self, and_true, true_and, ↓reduceIte, decide_true, decide_false, Nat.reduceEqDiff, Nat.reduceLT, Nat.reduceLeDiff, Int.reduceEq, s_tractorAt_y _ D L n hk, p_isYard, cw, w_tractor D L n hk, w_tractor D1 L n hk, e0, e2, e1, cy, p_onWay _ D L n k hk, co, u1, hv, p_dayOf, k13, k1, e3, pr, pH, b_X11_go_111, b_X11_go_133, cr, k3, e4, ← hdy, k4, c9, c9n, ch, chn, a1', a2', z1, z1']
                  · rw [dn_X12_go, b_X12_go_0]
                    simp only [z_cd, i10, i11, dnn, rdU, eW, eU, tzC_w, w_shp, w_ptr, Nat.beq_refl, nbz, nb133, nb75, nb55, nb67, n133a, n133b, n75a, n75b, aT, aR, oT, oR, oF, oG, kT, kF, bI, bL, bR, b0, Classical.not_not, not_true_eq_false, not_false_eq_true, and_self, and_true, true_and, ↓reduceIte, decide_true, decide_false, Nat.reduceEqDiff, Nat.reduceLT, Nat.reduceLeDiff, Int.reduceEq, q_isTractor, h8n, ct, q_isYard, cw, hb, cy, q_onWay _ (tzU (tzU (tzU (tzU D1 (75 + k) 0 a1) (75 + k) 1 E0) (75 + k) 3 (E0 - D 81 5 + 0)) (75 + k) 4 (w32 (D 109 k + (E0 - D 81 5)))) L n k hk, co, v1, q_day, q13, q1, q3, q5, e3, qr, qH, b_X12_go_109, cr, e4, ← hdy, z1', z2', z3', z4', z5', q5', q6', q7', q8', q9', q9, c9, c9n, ch, chn, a1', a2']
              · have c9n : 99999 < E0 := by omega
                obtain ⟨D2, v1, v2⟩ := q_comesTo 1396 L n D1 (a := D 105 k) (s := D 81 5) (b := a1) (by omega) (by omega) (by omega) (by omega) (by omega) (by omega) (Wy_sm sv w) (Hd_sm sv hd)
                rw [er_sm sv, ← hE, nv_n hv] at v1
                have q13 : D2 81 5 = D 81 5 := (v2 81 5 (by omega)).trans (u2 81 5 (by omega))
                have q1 : D2 106 k = D 106 k := (v2 106 k (by omega)).trans (u2 106 k (by omega))
                have q3 : D2 108 k = D 108 k := (v2 108 k (by omega)).trans (u2 108 k (by omega))
                have q5 : D2 105 k = D 105 k := (v2 105 k (by omega)).trans (u2 105 k (by omega))
                have hM2 := RM_fr (Sm_off v2 (by intro j; unfold PM; omega)) hM1
                have s2 : ∀ th, iFq D2 th dy = iFq D th dy := fun th => (iFq_fr (Sm_off v2 (by intro j; unfold PM; omega)) th dy).trans (s1F th)
                have qr := q_iFq 1397 D2 L n 3 0 17 dy hM2 (by omega)
                have qH := q_iFq 1397 D2 L n 2 0 16 dy hM2 (by omega)
                rw [s2] at qr qH
                refine ⟨-4, D1, n, D2, ?_, ?_, Ofq_1 o12 u2, (Ofq_1 o92 v2).trans (Ofq_1 o12 u2), Rel_off o92 v2 hR1⟩
                · rw [dn_X11_go, b_X11_go_0]
                  simp only [z_cd, i10, i11, dnn, rdU, eW, eU, tzC_w, w_shp, w_ptr, Nat.beq_refl, nbz, nb133, nb75, nb55, nb67, n133a, n133b, n75a, n75b, aT, aR, oT, oR, oF, oG, kT, kF, bI, bL, bR, b0, Classical.not_not, not_true_eq_false, not_false_eq_true, and_self, and_true, true_and, ↓reduceIte, decide_true, decide_false, Nat.reduceEqDiff, Nat.reduceLT, Nat.reduceLeDiff, Int.reduceEq, s_tractorAt_y _ D L n hk, p_isYard, cw, w_tractor D L n hk, w_tractor D1 L n hk, e0, e2, e1, cy, p_onWay _ D L n k hk, co, u1, hv, p_dayOf, k13, k1, e3, pr, pH, b_X11_go_111, b_X11_go_133, cr, k3, e4, ← hdy, c9, c9n, a1', a2', ite_self]
                · rw [dn_X12_go, b_X12_go_0]
                  simp only [z_cd, i10, i11, dnn, rdU, eW, eU, tzC_w, w_shp, w_ptr, Nat.beq_refl, nbz, nb133, nb75, nb55, nb67, n133a, n133b, n75a, n75b, aT, aR, oT, oR, oF, oG, kT, kF, bI, bL, bR, b0, Classical.not_not, not_true_eq_false, not_false_eq_true, and_self, and_true, true_and, ↓reduceIte, decide_true, decide_false, Nat.reduceEqDiff, Nat.reduceLT, Nat.reduceLeDiff, Int.reduceEq, q_isTractor, h8n, ct, q_isYard, cw, hb, cy, q_onWay _ D1 L n k hk, co, v1, q_day, q13, q1, q3, q5, e3, qr, qH, b_X12_go_109, cr, e4, ← hdy, q5', q6', q7', c9, c9n, a1', a2', ite_self]
    · refine ⟨-1, D, n, D, ?_, ?_, rfl, rfl, hR⟩
      · rw [dn_X11_go, b_X11_go_0]
        simp only [z_cd, i10, i11, dnn, rdU, eW, eU, tzC_w, w_shp, w_ptr, Nat.beq_refl, nbz, nb133, nb75, nb55, nb67, n133a, n133b, n75a, n75b, aT, aR, oT, oR, oF, oG, kT, kF, bI, bL, bR, b0, Classical.not_not, not_true_eq_false, not_false_eq_true, and_self, and_true, true_and, ↓reduceIte, decide_true, decide_false, Nat.reduceEqDiff, Nat.reduceLT, Nat.reduceLeDiff, Int.reduceEq, s_tractorAt_y _ D L n hk, p_isYard, cw, w_tractor D L n hk]
      · rw [dn_X12_go, b_X12_go_0]
        simp only [z_cd, i10, i11, dnn, rdU, eW, eU, tzC_w, w_shp, w_ptr, Nat.beq_refl, nbz, nb133, nb75, nb55, nb67, n133a, n133b, n75a, n75b, aT, aR, oT, oR, oF, oG, kT, kF, bI, bL, bR, b0, Classical.not_not, not_true_eq_false, not_false_eq_true, and_self, and_true, true_and, ↓reduceIte, decide_true, decide_false, Nat.reduceEqDiff, Nat.reduceLT, Nat.reduceLeDiff, Int.reduceEq, q_isTractor, ct, q_isYard, cw, hb]
  · refine ⟨-1, D, n, D, ?_, ?_, rfl, rfl, hR⟩
    · rw [dn_X11_go, b_X11_go_0]
      simp only [z_cd, i10, i11, dnn, rdU, eW, eU, tzC_w, w_shp, w_ptr, Nat.beq_refl, nbz, nb133, nb75, nb55, nb67, n133a, n133b, n75a, n75b, aT, aR, oT, oR, oF, oG, kT, kF, bI, bL, bR, b0, Classical.not_not, not_true_eq_false, not_false_eq_true, and_self, and_true, true_and, ↓reduceIte, decide_true, decide_false, Nat.reduceEqDiff, Nat.reduceLT, Nat.reduceLeDiff, Int.reduceEq, s_tractorAt_n _ D L n (a := a0) (by omega), p_isWithin, p_isYard]
    · rw [dn_X12_go, b_X12_go_0]
      simp only [z_cd, i10, i11, dnn, rdU, eW, eU, tzC_w, w_shp, w_ptr, Nat.beq_refl, nbz, nb133, nb75, nb55, nb67, n133a, n133b, n75a, n75b, aT, aR, oT, oR, oF, oG, kT, kF, bI, bL, bR, b0, Classical.not_not, not_true_eq_false, not_false_eq_true, and_self, and_true, true_and, ↓reduceIte, decide_true, decide_false, Nat.reduceEqDiff, Nat.reduceLT, Nat.reduceLeDiff, Int.reduceEq, q_isTractor, ct, p_in, q_isYard]
