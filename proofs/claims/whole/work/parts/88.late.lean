/-! ===== late ===== -/
set_option maxRecDepth 100000 in
set_option maxHeartbeats 400000 in
theorem p_worth (d : Nat) (D : Nat → Int → Int) (L n t : Nat) (hn : D 2 12 = n) (hm : n ≤ 12) (ht : t < n) : tqden tqP (d + 2) n_X11_worthOf [vR 2, vI (t : Int)] (tzW D L n) = some (some (vI (D (133 + t) 1)), tzW D L n) := by
  rw [dn_X11_worthOf, b_X11_worthOf_0]
  simp only [z_cd, i10, i11, dnn, rdU, eW, eU, tzC_w, w_shp, w_ptr, Nat.beq_refl, nbz, nb133, nb75, nb55, nb67, n133a, n133b, n75a, n75b, aT, aR, oT, oR, oF, oG, kT, kF, bI, bL, bR, b0, Classical.not_not, not_true_eq_false, not_false_eq_true, and_self, and_true, true_and, ↓reduceIte, decide_true, decide_false, Nat.reduceEqDiff, Nat.reduceLT, Nat.reduceLeDiff, Int.reduceEq, p_trailerAt_y _ D L n t hn hm ht, w_trailer D L n ht]
theorem jcmp_c (x y : Int) : (0 < jcmp x y ∧ y < x) ∨ (¬ 0 < jcmp x y ∧ x ≤ y) := by
  unfold jcmp
  by_cases c : x < y
  · rw [if_pos c]; exact Or.inr ⟨by decide, by omega⟩
  · rw [if_neg c]
    by_cases e : x = y
    · rw [if_pos e]; exact Or.inr ⟨by decide, by omega⟩
    · rw [if_neg e]; exact Or.inl ⟨by decide, by omega⟩
theorem Ofq_t3 {A : Nat} {D D1 D2 D3 : Nat → Int → Int} (a : Ofq A D D1) (b : Ofq A D1 D2) (c : Ofq A D2 D3) : Ofq A D D3 := Ofq_t (Ofq_t a b) c
set_option maxRecDepth 100000 in
set_option maxHeartbeats 400000 in
theorem ag_late {L : Nat} (a0 a1 a2 a3 a4 a5 : Int) : AgI Rel L n_X11_late n_X12_late [vI a0, vI a1, vI a2, vI a3, vI a4, vI a5] := by
  intro D n hR
  obtain ⟨hA, hL, hW, hN, ⟨c1, c2, c3⟩, hT, hD, hK, hB, hQ0, hX, hM, hP0, hS⟩ := id hR
  have w := WY_of hW
  have hd := hd_of hW
  by_cases ct0 : 0 ≤ a0 ∧ a0 ≤ 5
  · obtain ⟨k, e⟩ : ∃ k : Nat, a0 = k := ⟨a0.toNat, by omega⟩
    subst e
    have hk : k < 6 := by omega
    have hbk : tqib (k : Int) 6 = true := tqib_y (by omega) (by omega)
    have rk := hK k hk
    by_cases ct1 : 0 ≤ a1 ∧ a1 ≤ 5
    · obtain ⟨l, e⟩ : ∃ l : Nat, a1 = l := ⟨a1.toNat, by omega⟩
      subst e
      have hl : l < 6 := by omega
      have hbl : tqib (l : Int) 6 = true := tqib_y (by omega) (by omega)
      have rl := hK l hl
      by_cases ne : (k : Int) = (l : Int)
      · have ne' : ((k : Int) = (l : Int)) = True := eq_true ne
        refine ⟨-1, D, n, D, ?_, ?_, rfl, rfl, hR⟩
        · rw [dn_X11_late, b_X11_late_0]
          simp only [z_cd, i10, i11, dnn, rdU, eW, eU, tzC_w, w_shp, w_ptr, Nat.beq_refl, nbz, nb133, nb75, nb55, nb67, n133a, n133b, n75a, n75b, aT, aR, oT, oR, oF, oG, kT, kF, bI, bL, bR, b0, Classical.not_not, not_true_eq_false, not_false_eq_true, and_self, and_true, true_and, ↓reduceIte, decide_true, decide_false, Nat.reduceEqDiff, Nat.reduceLT, Nat.reduceLeDiff, Int.reduceEq, s_tractorAt_y _ D L n hk, s_tractorAt_y _ D L n hl, nb75, b_X11_late_44, b_X11_late_69, b_X11_late_89, ne']
        · rw [dn_X12_late, b_X12_late_0]
          simp only [z_cd, i10, i11, dnn, rdU, eW, eU, tzC_w, w_shp, w_ptr, Nat.beq_refl, nbz, nb133, nb75, nb55, nb67, n133a, n133b, n75a, n75b, aT, aR, oT, oR, oF, oG, kT, kF, bI, bL, bR, b0, Classical.not_not, not_true_eq_false, not_false_eq_true, and_self, and_true, true_and, ↓reduceIte, decide_true, decide_false, Nat.reduceEqDiff, Nat.reduceLT, Nat.reduceLeDiff, Int.reduceEq, q_isTractor, ct0, ct1, b_X12_late_57, ne']
      · by_cases y2 : 0 ≤ a2 ∧ a2 ≤ 7
        · by_cases y3 : 0 ≤ a3 ∧ a3 ≤ 7
          · by_cases y4 : 0 ≤ a4 ∧ a4 ≤ 2000
            · by_cases y5 : 0 ≤ a5 ∧ a5 ≤ 99999
              · have e2 : D 2 13 = D 81 5 := hN.1
                by_cases s1 : cSw D k
                · by_cases s2 : cSw D l
                  · skip
                    obtain ⟨g1, g2, g3, g4, g5, g6, g7, g8, g9, g10, g11, g12⟩ := id rk
                    obtain ⟨k1, k2, k3, k4, k5, k6, k7, k8, k9, k10, k11, k12⟩ := id rl
                    obtain ⟨n1, n2, n3⟩ := id hN
                    obtain ⟨D1, u1, u2⟩ := p_arrival 1394 L n D (a := D 105 k) (s := D 81 5) (b := a3) (by omega) (by omega) (by omega) (by omega) (by omega) (by omega) w hd
                    have sv1 := Sm_v o12 u2
                    have hR1 := Rel_off o12 u2 hR
                    obtain ⟨D2, v1, v2⟩ := p_arrival 1394 L n D1 (a := D 105 l) (s := D 81 5) (b := a3) (by omega) (by omega) (by omega) (by omega) (by omega) (by omega) (Wy_sm sv1 w) (Hd_sm sv1 hd)
                    rw [er_sm sv1] at v1
                    have oo2 := Ofq_t u2 v2
                    have oo21 := v2
                    have f2 : D1 (75 + l) 0 = D 105 l := (u2 (75 + l) 0 (by omega)).trans k1
                    have f13 : D1 2 13 = D 81 5 := (u2 2 13 (by omega)).trans n1
                    have TP := er_b w (by omega) (by omega) (er_ok w hd (bt := 0) (Or.inl rfl) (a := D 105 k) (s := D 81 5) (y := a3) (by omega) (by omega) (by omega) (by omega) (by omega) (by omega))
                    have TQ := er_b w (by omega) (by omega) (er_ok w hd (bt := 0) (Or.inl rfl) (a := D 105 l) (s := D 81 5) (y := a3) (by omega) (by omega) (by omega) (by omega) (by omega) (by omega))
                    have swE : swF D (D 81 5) (D 105 k) (D 105 l) a4 a3 a2 = erq D 0 a3 (jmax (erq D 0 (D 105 k) (D 81 5) a3 + a4) (erq D 0 (D 105 l) (D 81 5) a3) + 10) a2 := rfl
                    obtain ⟨P, hP⟩ : ∃ P, P = erq D 0 (D 105 k) (D 81 5) a3 := ⟨_, rfl⟩
                    obtain ⟨Q, hQ⟩ : ∃ Q, Q = erq D 0 (D 105 l) (D 81 5) a3 := ⟨_, rfl⟩
                    obtain ⟨H, hH⟩ : ∃ H, H = swF D (D 81 5) (D 105 k) (D 105 l) a4 a3 a2 := ⟨_, rfl⟩
                    rw [← hP] at u1 TP swE
                    rw [← hQ] at v1 TQ swE
                    rw [← hH] at swE
                    by_cases p1 : P = 2147483647
                    · skip
                      have sv : Sm PVq D (tzRx D2 1) := Sm_Rx 1 (Sm_v o12 oo2)
                      have sK : Sm PK D1 (tzRx D2 1) := Sm_t (Sm_off (oo21) (by intro j; unfold PK; omega)) (by unfold tzRx; (repeat (refine Sm_U (by unfold PK; omega) ?_)); exact Sm_r _ _)
                      have b105k : (tzRx D2 1) 105 k = D 105 k := oo2 105 k (by omega)
                      have b105l : (tzRx D2 1) 105 l = D 105 l := oo2 105 l (by omega)
                      have b5 : (tzRx D2 1) 81 5 = D 81 5 := oo2 81 5 (by omega)
                      have z1 : cSw (tzRx D2 1) k := by rw [cSw_fr b5 (oo2 106 k (by omega)) (oo2 107 k (by omega))]; exact s1
                      have z2 : cSw (tzRx D2 1) l := by rw [cSw_fr b5 (oo2 106 l (by omega)) (oo2 107 l (by omega))]; exact s2
                      have rkB := KR_fr2 sK hk (hR1.2.2.2.2.2.2.2.1 k hk)
                      have rlB := KR_fr2 sK hl (hR1.2.2.2.2.2.2.2.1 l hl)
                      obtain ⟨E, r, x1, x2, x3, x4⟩ := q_swapsAt 1395 L n (tzRx D2 1) (a := k) (b := l) (hA := a2) (hB := a2) (m := a3) (lt := a4) hk hl (Wy_sm sv w) (Hd_sm sv hd) (by rw [b105k]; exact ⟨g6, g7⟩) (by rw [b105l]; exact ⟨k6, k7⟩) (by rw [b5]; exact hN.2) y2 y2 y3 y4
                      simp only [b105k, b105l, b5, er_sm sv, swF_sm sv, ← hP, ← hQ, ← hH] at x4
                      have r0 : r = 0 := by
                        rcases x4 with t | t
                        · exact t.1
                        · exact absurd (Or.inl p1) t.2.1
                      rw [r0] at x1
                      refine ⟨-3, tzRx D2 1, n, tzRm E 1, ?_, ?_, ?_, ?_, Rel_sm (Sm_Rm x2 (fun j => by unfold PSw; omega) 1) PSw_z PSw_a (Rel_ref (Rel_off o12 oo2 hR) (by omega) (by omega))⟩
                      · rw [dn_X11_late, b_X11_late_0]
                        simp only [z_cd, i10, i11, dnn, rdU, eW, eU, tzC_w, w_shp, w_ptr, Nat.beq_refl, nbz, nb133, nb75, nb55, nb67, n133a, n133b, n75a, n75b, aT, aR, oT, oR, oF, oG, kT, kF, bI, bL, bR, b0, Classical.not_not, not_true_eq_false, not_false_eq_true, and_self, and_true, true_and, ↓reduceIte, decide_true, decide_false, Nat.reduceEqDiff, Nat.reduceLT, Nat.reduceLeDiff, Int.reduceEq, s_tractorAt_y _ D L n hk, s_tractorAt_y _ D L n hl, nb75, b_X11_late_44, b_X11_late_69, b_X11_late_89, ne, p_isYard, y2, y3, p_isWithin, y4, y5, p_canSwap_y _ D L n hk rk e2 s1, p_canSwap_y _ D L n hl rl e2 s2, w_tractor D L n hk, w_tractor D L n hl, e2, g1, u1, w_tractor D1 L n hk, w_tractor D1 L n hl, f2, f13, v1, p1, b_X11_late_146, s_refuse _ D2 L n (f := 1) (by decide) (by decide)]
                      · rw [dn_X12_late, b_X12_late_0]
                        simp only [z_cd, i10, i11, dnn, rdU, eW, eU, tzC_w, w_shp, w_ptr, Nat.beq_refl, nbz, nb133, nb75, nb55, nb67, n133a, n133b, n75a, n75b, aT, aR, oT, oR, oF, oG, kT, kF, bI, bL, bR, b0, Classical.not_not, not_true_eq_false, not_false_eq_true, and_self, and_true, true_and, ↓reduceIte, decide_true, decide_false, Nat.reduceEqDiff, Nat.reduceLT, Nat.reduceLeDiff, Int.reduceEq, q_isTractor, ct0, ct1, b_X12_late_57, ne, q_isYard, y2, y3, p_in, y4, y5, q_may_y _ (tzRx D2 1) L n hk rkB z1, q_may_y _ (tzRx D2 1) L n hl rlB z2, x1, s_meets _ E L n (f := 1) (by decide) (by decide)]
                      · exact (Sm_1 (by unfold tzRx; (repeat (refine Sm_U (by omega) ?_)); exact Sm_r _ _)).trans (Ofq_1 o12 oo2)
                      · exact (Sm_1 (by unfold tzRm; (repeat (refine Sm_U (by omega) ?_)); exact Sm_r _ _)).trans ((PSw_1 x2).trans ((Sm_1 (by unfold tzRx; (repeat (refine Sm_U (by omega) ?_)); exact Sm_r _ _)).trans (Ofq_1 o12 oo2)))
                    · by_cases p2 : Q = 2147483647
                      · skip
                        have sv : Sm PVq D (tzRx D2 1) := Sm_Rx 1 (Sm_v o12 oo2)
                        have sK : Sm PK D1 (tzRx D2 1) := Sm_t (Sm_off (oo21) (by intro j; unfold PK; omega)) (by unfold tzRx; (repeat (refine Sm_U (by unfold PK; omega) ?_)); exact Sm_r _ _)
                        have b105k : (tzRx D2 1) 105 k = D 105 k := oo2 105 k (by omega)
                        have b105l : (tzRx D2 1) 105 l = D 105 l := oo2 105 l (by omega)
                        have b5 : (tzRx D2 1) 81 5 = D 81 5 := oo2 81 5 (by omega)
                        have z1 : cSw (tzRx D2 1) k := by rw [cSw_fr b5 (oo2 106 k (by omega)) (oo2 107 k (by omega))]; exact s1
                        have z2 : cSw (tzRx D2 1) l := by rw [cSw_fr b5 (oo2 106 l (by omega)) (oo2 107 l (by omega))]; exact s2
                        have rkB := KR_fr2 sK hk (hR1.2.2.2.2.2.2.2.1 k hk)
                        have rlB := KR_fr2 sK hl (hR1.2.2.2.2.2.2.2.1 l hl)
                        obtain ⟨E, r, x1, x2, x3, x4⟩ := q_swapsAt 1395 L n (tzRx D2 1) (a := k) (b := l) (hA := a2) (hB := a2) (m := a3) (lt := a4) hk hl (Wy_sm sv w) (Hd_sm sv hd) (by rw [b105k]; exact ⟨g6, g7⟩) (by rw [b105l]; exact ⟨k6, k7⟩) (by rw [b5]; exact hN.2) y2 y2 y3 y4
                        simp only [b105k, b105l, b5, er_sm sv, swF_sm sv, ← hP, ← hQ, ← hH] at x4
                        have r0 : r = 0 := by
                          rcases x4 with t | t
                          · exact t.1
                          · exact absurd (Or.inr (Or.inl p2)) t.2.1
                        rw [r0] at x1
                        refine ⟨-3, tzRx D2 1, n, tzRm E 1, ?_, ?_, ?_, ?_, Rel_sm (Sm_Rm x2 (fun j => by unfold PSw; omega) 1) PSw_z PSw_a (Rel_ref (Rel_off o12 oo2 hR) (by omega) (by omega))⟩
                        · rw [dn_X11_late, b_X11_late_0]
                          simp only [z_cd, i10, i11, dnn, rdU, eW, eU, tzC_w, w_shp, w_ptr, Nat.beq_refl, nbz, nb133, nb75, nb55, nb67, n133a, n133b, n75a, n75b, aT, aR, oT, oR, oF, oG, kT, kF, bI, bL, bR, b0, Classical.not_not, not_true_eq_false, not_false_eq_true, and_self, and_true, true_and, ↓reduceIte, decide_true, decide_false, Nat.reduceEqDiff, Nat.reduceLT, Nat.reduceLeDiff, Int.reduceEq, s_tractorAt_y _ D L n hk, s_tractorAt_y _ D L n hl, nb75, b_X11_late_44, b_X11_late_69, b_X11_late_89, ne, p_isYard, y2, y3, p_isWithin, y4, y5, p_canSwap_y _ D L n hk rk e2 s1, p_canSwap_y _ D L n hl rl e2 s2, w_tractor D L n hk, w_tractor D L n hl, e2, g1, u1, w_tractor D1 L n hk, w_tractor D1 L n hl, f2, f13, v1, p1, p2, b_X11_late_146, s_refuse _ D2 L n (f := 1) (by decide) (by decide)]
                        · rw [dn_X12_late, b_X12_late_0]
                          simp only [z_cd, i10, i11, dnn, rdU, eW, eU, tzC_w, w_shp, w_ptr, Nat.beq_refl, nbz, nb133, nb75, nb55, nb67, n133a, n133b, n75a, n75b, aT, aR, oT, oR, oF, oG, kT, kF, bI, bL, bR, b0, Classical.not_not, not_true_eq_false, not_false_eq_true, and_self, and_true, true_and, ↓reduceIte, decide_true, decide_false, Nat.reduceEqDiff, Nat.reduceLT, Nat.reduceLeDiff, Int.reduceEq, q_isTractor, ct0, ct1, b_X12_late_57, ne, q_isYard, y2, y3, p_in, y4, y5, q_may_y _ (tzRx D2 1) L n hk rkB z1, q_may_y _ (tzRx D2 1) L n hl rlB z2, x1, s_meets _ E L n (f := 1) (by decide) (by decide)]
                        · exact (Sm_1 (by unfold tzRx; (repeat (refine Sm_U (by omega) ?_)); exact Sm_r _ _)).trans (Ofq_1 o12 oo2)
                        · exact (Sm_1 (by unfold tzRm; (repeat (refine Sm_U (by omega) ?_)); exact Sm_r _ _)).trans ((PSw_1 x2).trans ((Sm_1 (by unfold tzRx; (repeat (refine Sm_U (by omega) ?_)); exact Sm_r _ _)).trans (Ofq_1 o12 oo2)))
                      · have jc := jmax_c (P + a4) Q
                        obtain ⟨W, hW'⟩ : ∃ W, W = jmax (P + a4) Q := ⟨_, rfl⟩
                        rw [← hW'] at jc swE
                        have sv2 := Sm_v o12 oo2
                        obtain ⟨D3, w1, w2⟩ := p_arrival 1394 L n D2 (a := a3) (s := W + 10) (b := a2) (by omega) (by omega) (by omega) (by omega) (by omega) (by omega) (Wy_sm sv2 w) (Hd_sm sv2 hd)
                        rw [er_sm sv2, ← swE] at w1
                        have oo3 := Ofq_t oo2 w2
                        have oo31 := Ofq_t v2 w2
                        have TH := er_b w (y := a2) (by omega) (by omega) (er_ok w hd (bt := 0) (Or.inl rfl) (a := a3) (s := W + 10) (y := a2) (by omega) (by omega) (by omega) (by omega) (by omega) (by omega))
                        rw [← swE] at TH
                        have wP : w32 (P + a4) = P + a4 := w32_i (by omega) (by omega)
                        have wW : w32 (W + 10) = W + 10 := w32_i (by clear wP; omega) (by clear wP; omega)
                        by_cases p3 : H = 2147483647
                        · skip
                          have sv : Sm PVq D (tzRx D3 1) := Sm_Rx 1 (Sm_v o12 oo3)
                          have sK : Sm PK D1 (tzRx D3 1) := Sm_t (Sm_off (oo31) (by intro j; unfold PK; omega)) (by unfold tzRx; (repeat (refine Sm_U (by unfold PK; omega) ?_)); exact Sm_r _ _)
                          have b105k : (tzRx D3 1) 105 k = D 105 k := oo3 105 k (by omega)
                          have b105l : (tzRx D3 1) 105 l = D 105 l := oo3 105 l (by omega)
                          have b5 : (tzRx D3 1) 81 5 = D 81 5 := oo3 81 5 (by omega)
                          have z1 : cSw (tzRx D3 1) k := by rw [cSw_fr b5 (oo3 106 k (by omega)) (oo3 107 k (by omega))]; exact s1
                          have z2 : cSw (tzRx D3 1) l := by rw [cSw_fr b5 (oo3 106 l (by omega)) (oo3 107 l (by omega))]; exact s2
                          have rkB := KR_fr2 sK hk (hR1.2.2.2.2.2.2.2.1 k hk)
                          have rlB := KR_fr2 sK hl (hR1.2.2.2.2.2.2.2.1 l hl)
                          obtain ⟨E, r, x1, x2, x3, x4⟩ := q_swapsAt 1395 L n (tzRx D3 1) (a := k) (b := l) (hA := a2) (hB := a2) (m := a3) (lt := a4) hk hl (Wy_sm sv w) (Hd_sm sv hd) (by rw [b105k]; exact ⟨g6, g7⟩) (by rw [b105l]; exact ⟨k6, k7⟩) (by rw [b5]; exact hN.2) y2 y2 y3 y4
                          simp only [b105k, b105l, b5, er_sm sv, swF_sm sv, ← hP, ← hQ, ← hH] at x4
                          have r0 : r = 0 := by
                            rcases x4 with t | t
                            · exact t.1
                            · exact absurd (Or.inr (Or.inr (Or.inl p3))) t.2.1
                          rw [r0] at x1
                          refine ⟨-3, tzRx D3 1, n, tzRm E 1, ?_, ?_, ?_, ?_, Rel_sm (Sm_Rm x2 (fun j => by unfold PSw; omega) 1) PSw_z PSw_a (Rel_ref (Rel_off o12 oo3 hR) (by omega) (by omega))⟩
                          · rw [dn_X11_late, b_X11_late_0]
                            simp only [z_cd, i10, i11, dnn, rdU, eW, eU, tzC_w, w_shp, w_ptr, Nat.beq_refl, nbz, nb133, nb75, nb55, nb67, n133a, n133b, n75a, n75b, aT, aR, oT, oR, oF, oG, kT, kF, bI, bL, bR, b0, Classical.not_not, not_true_eq_false, not_false_eq_true, and_self, and_true, true_and, ↓reduceIte, decide_true, decide_false, Nat.reduceEqDiff, Nat.reduceLT, Nat.reduceLeDiff, Int.reduceEq, s_tractorAt_y _ D L n hk, s_tractorAt_y _ D L n hl, nb75, b_X11_late_44, b_X11_late_69, b_X11_late_89, ne, p_isYard, y2, y3, p_isWithin, y4, y5, p_canSwap_y _ D L n hk rk e2 s1, p_canSwap_y _ D L n hl rl e2 s2, w_tractor D L n hk, w_tractor D L n hl, e2, g1, u1, w_tractor D1 L n hk, w_tractor D1 L n hl, f2, f13, v1, p1, p2, wP, ← hW', wW, w1, p3, b_X11_late_146, s_refuse _ D3 L n (f := 1) (by decide) (by decide)]
                          · rw [dn_X12_late, b_X12_late_0]
                            simp only [z_cd, i10, i11, dnn, rdU, eW, eU, tzC_w, w_shp, w_ptr, Nat.beq_refl, nbz, nb133, nb75, nb55, nb67, n133a, n133b, n75a, n75b, aT, aR, oT, oR, oF, oG, kT, kF, bI, bL, bR, b0, Classical.not_not, not_true_eq_false, not_false_eq_true, and_self, and_true, true_and, ↓reduceIte, decide_true, decide_false, Nat.reduceEqDiff, Nat.reduceLT, Nat.reduceLeDiff, Int.reduceEq, q_isTractor, ct0, ct1, b_X12_late_57, ne, q_isYard, y2, y3, p_in, y4, y5, q_may_y _ (tzRx D3 1) L n hk rkB z1, q_may_y _ (tzRx D3 1) L n hl rlB z2, x1, s_meets _ E L n (f := 1) (by decide) (by decide)]
                          · exact (Sm_1 (by unfold tzRx; (repeat (refine Sm_U (by omega) ?_)); exact Sm_r _ _)).trans (Ofq_1 o12 oo3)
                          · exact (Sm_1 (by unfold tzRm; (repeat (refine Sm_U (by omega) ?_)); exact Sm_r _ _)).trans ((PSw_1 x2).trans ((Sm_1 (by unfold tzRx; (repeat (refine Sm_U (by omega) ?_)); exact Sm_r _ _)).trans (Ofq_1 o12 oo3)))
                        · obtain ⟨t1, ht1⟩ : ∃ t1 : Nat, D 107 k = t1 := ⟨(D 107 k).toNat, by clear wP wW; have := s1.2; omega⟩
                          obtain ⟨t2, ht2⟩ : ∃ t2 : Nat, D 107 l = t2 := ⟨(D 107 l).toNat, by clear wP wW; have := s2.2; omega⟩
                          have lt1 : t1 < n := by clear wP wW; omega
                          have lt2 : t2 < n := by clear wP wW; omega
                          have i1 : D3 (75 + k) 2 = t1 := by rw [oo3 (75 + k) 2 (by clear wP wW; omega), g3, ht1]
                          have i2 : D3 (75 + l) 2 = t2 := by rw [oo3 (75 + l) 2 (by clear wP wW; omega), k3, ht2]
                          have i12 : D3 2 12 = n := (oo3 2 12 (by clear wP wW; omega)).trans c1
                          have pw1 := p_worth 1396 D3 L n t1 i12 c3 lt1
                          have pw2 := p_worth 1396 D3 L n t2 i12 c3 lt2
                          rw [oo3 (133 + t1) 1 (by clear wP wW; omega), (hT.1 t1 lt1).2.1] at pw1
                          rw [oo3 (133 + t2) 1 (by clear wP wW; omega), (hT.1 t2 lt2).2.1] at pw2
                          have OV : jmax (w32 (H - a5)) 0 = if H ≤ a5 then 0 else w32 (H - a5) := by
                            have e : w32 (H - a5) = H - a5 := w32_i (by clear wP wW; omega) (by clear wP wW; omega)
                            rw [e]
                            have q := jmax_c (H - a5) 0
                            clear wP wW e
                            by_cases c : H ≤ a5
                            · rw [if_pos c]; omega
                            · rw [if_neg c]; omega
                          obtain ⟨U, hU⟩ : ∃ U, U = jmax (w32 (H - a5)) 0 := ⟨_, rfl⟩
                          rw [← hU] at OV
                          obtain ⟨A, hA'⟩ : ∃ A, A = w64 ((w64 (U * D 97 t2)).tdiv 1000) := ⟨_, rfl⟩
                          obtain ⟨G, hG⟩ : ∃ G, G = w32 ((w32 (D 97 t1 + D 97 t2)).tdiv 10) := ⟨_, rfl⟩
                          have jj := jcmp_c A G
                          have mm : jmin A G = if 0 < jcmp A G then G else A := by
                            clear wP wW
                            unfold jmin
                            rcases jj with q | q
                            · rw [if_pos q.1, if_pos q.2]
                            · rw [if_neg q.1, if_neg (by omega)]
                          obtain ⟨V, hV⟩ : ∃ V, V = w32 (jmin A G) := ⟨_, rfl⟩
                          rw [mm] at hV
                          have sv : Sm PVq D (tzU D3 53 2 V) := Sm_U (by unfold PVq; omega) (Sm_v o12 oo3)
                          have sK : Sm PK D1 (tzU D3 53 2 V) := Sm_t (Sm_off oo31 (by intro j; unfold PK; omega)) (by (repeat (refine Sm_U (by unfold PK; omega) ?_)); exact Sm_r _ _)
                          have b105k : (tzU D3 53 2 V) 105 k = D 105 k := oo3 105 k (by omega)
                          have b105l : (tzU D3 53 2 V) 105 l = D 105 l := oo3 105 l (by omega)
                          have b5 : (tzU D3 53 2 V) 81 5 = D 81 5 := oo3 81 5 (by omega)
                          have z1 : cSw (tzU D3 53 2 V) k := by rw [cSw_fr b5 (oo3 106 k (by omega)) (oo3 107 k (by omega))]; exact s1
                          have z2 : cSw (tzU D3 53 2 V) l := by rw [cSw_fr b5 (oo3 106 l (by omega)) (oo3 107 l (by omega))]; exact s2
                          have rkB := KR_fr2 sK hk (hR1.2.2.2.2.2.2.2.1 k hk)
                          have rlB := KR_fr2 sK hl (hR1.2.2.2.2.2.2.2.1 l hl)
                          obtain ⟨E, r, x1, x2, x3, x4⟩ := q_swapsAt 1395 L n (tzU D3 53 2 V) (a := k) (b := l) (hA := a2) (hB := a2) (m := a3) (lt := a4) hk hl (Wy_sm sv w) (Hd_sm sv hd) (by rw [b105k]; exact ⟨g6, g7⟩) (by rw [b105l]; exact ⟨k6, k7⟩) (by rw [b5]; exact hN.2) y2 y2 y3 y4
                          simp only [b105k, b105l, b5, er_sm sv, swF_sm sv, ← hP, ← hQ, ← hH] at x4
                          rcases x4 with t | t
                          · exact absurd t.2 (fun z => by rcases z with z | z | z | z; exact p1 z; exact p2 z; exact p3 z; exact p3 z)
                          · obtain ⟨t1', t2', t3', t4', _, _⟩ := t
                            rw [t1'] at x1
                            have j107l : E 107 l = t2 := by rw [x2 107 l (by unfold PSw; omega)]; exact (oo3 107 l (by clear wP wW; omega)).trans ht2
                            have j107k : E 107 k = t1 := by rw [x2 107 k (by unfold PSw; omega)]; exact (oo3 107 k (by clear wP wW; omega)).trans ht1
                            have j97a : E 97 t1 = D 97 t1 := by rw [x2 97 t1 (by unfold PSw; omega)]; exact oo3 97 t1 (by clear wP wW; omega)
                            have j97b : E 97 t2 = D 97 t2 := by rw [x2 97 t2 (by unfold PSw; omega)]; exact oo3 97 t2 (by clear wP wW; omega)
                            have bt1 : tqib (t1 : Int) 12 = true := tqib_y (by clear wP wW; omega) (by clear wP wW; omega)
                            have bt2 : tqib (t2 : Int) 12 = true := tqib_y (by clear wP wW; omega) (by clear wP wW; omega)
                            have hR3 := Rel_off o12 oo3 hR
                            have relE : ∀ v, v = V → Rel (tzU E 81 2 v) n := fun v hv => by rw [hv]; exact Rel_sm (Sm_UU x2 81 2 V) PSw_z PSw_a (Rel_ask hR3 V)
                            have run : ∀ y, tqrun tqP (1398 + 1) tqc_X12_late 120 [vR 81, vI (k : Int), vI (l : Int), vI a2, vI a3, vI a4, vI a5, vU, vU, vU, vU, vU, vU] [vL U] (tzW E L n) = y → tqden tqP 1399 n_X12_late [vR 81, vI (k : Int), vI (l : Int), vI a2, vI a3, vI a4, vI a5] (tzW (tzU D3 53 2 V) L n) = y := by
                              intro y hy
                              rw [← hy, dn_X12_late, b_X12_late_0]
                              by_cases c : H ≤ a5
                              · rw [if_pos c] at OV
                                rw [OV]
                                simp only [z_cd, i10, i11, dnn, rdU, eW, eU, tzC_w, w_shp, w_ptr, Nat.beq_refl, nbz, nb133, nb75, nb55, nb67, n133a, n133b, n75a, n75b, aT, aR, oT, oR, oF, oG, kT, kF, bI, bL, bR, b0, Classical.not_not, not_true_eq_false, not_false_eq_true, and_self, and_true, true_and, ↓reduceIte, decide_true, decide_false, Nat.reduceEqDiff, Nat.reduceLT, Nat.reduceLeDiff, Int.reduceEq, q_isTractor, ct0, ct1, b_X12_late_57, ne, q_isYard, y2, y3, p_in, y4, y5, q_may_y _ (tzU D3 53 2 V) L n hk rkB z1, q_may_y _ (tzU D3 53 2 V) L n hl rlB z2, x1, t4', c]
                              · rw [if_neg c] at OV
                                rw [OV]
                                simp only [z_cd, i10, i11, dnn, rdU, eW, eU, tzC_w, w_shp, w_ptr, Nat.beq_refl, nbz, nb133, nb75, nb55, nb67, n133a, n133b, n75a, n75b, aT, aR, oT, oR, oF, oG, kT, kF, bI, bL, bR, b0, Classical.not_not, not_true_eq_false, not_false_eq_true, and_self, and_true, true_and, ↓reduceIte, decide_true, decide_false, Nat.reduceEqDiff, Nat.reduceLT, Nat.reduceLeDiff, Int.reduceEq, q_isTractor, ct0, ct1, b_X12_late_57, ne, q_isYard, y2, y3, p_in, y4, y5, q_may_y _ (tzU D3 53 2 V) L n hk rkB z1, q_may_y _ (tzU D3 53 2 V) L n hl rlB z2, x1, t4', c]
                            rcases jj with ⟨q1, _⟩ | ⟨q1, _⟩
                            · have hVG : V = w32 G := by rw [hV, if_pos q1]
                              refine ⟨0, tzU D3 53 2 V, n, tzU E 81 2 (w32 G), ?_, ?_, (Sm_1 (by (repeat (refine Sm_U (by omega) ?_)); exact Sm_r _ _)).trans (Ofq_1 o12 oo3), (Sm_1 (by (repeat (refine Sm_U (by omega) ?_)); exact Sm_r _ _)).trans ((PSw_1 x2).trans ((Sm_1 (by (repeat (refine Sm_U (by omega) ?_)); exact Sm_r _ _)).trans (Ofq_1 o12 oo3))), relE _ hVG.symm⟩
                              · rw [hVG]
                                rw [if_pos q1] at mm
                                rw [dn_X11_late, b_X11_late_0]
                                simp only [z_cd, i10, i11, dnn, rdU, eW, eU, tzC_w, w_shp, w_ptr, Nat.beq_refl, nbz, nb133, nb75, nb55, nb67, n133a, n133b, n75a, n75b, aT, aR, oT, oR, oF, oG, kT, kF, bI, bL, bR, b0, Classical.not_not, not_true_eq_false, not_false_eq_true, and_self, and_true, true_and, ↓reduceIte, decide_true, decide_false, Nat.reduceEqDiff, Nat.reduceLT, Nat.reduceLeDiff, Int.reduceEq, s_tractorAt_y _ D L n hk, s_tractorAt_y _ D L n hl, nb75, b_X11_late_44, b_X11_late_69, b_X11_late_89, ne, p_isYard, y2, y3, p_isWithin, y4, y5, p_canSwap_y _ D L n hk rk e2 s1, p_canSwap_y _ D L n hl rl e2 s2, w_tractor D L n hk, w_tractor D L n hl, e2, g1, u1, w_tractor D1 L n hk, w_tractor D1 L n hl, f2, f13, v1, p1, p2, wP, ← hW', wW, w1, p3, w_tractor D3 L n hk, w_tractor D3 L n hl, i1, i2, pw1, pw2, ← hU, ← hA', ← hG, q1, mm]
                              · refine run _ ?_
                                rw [b_X12_late_120]
                                simp only [z_cd, i10, i11, dnn, rdU, eW, eU, tzC_w, w_shp, w_ptr, Nat.beq_refl, nbz, nb133, nb75, nb55, nb67, n133a, n133b, n75a, n75b, aT, aR, oT, oR, oF, oG, kT, kF, bI, bL, bR, b0, Classical.not_not, not_true_eq_false, not_false_eq_true, and_self, and_true, true_and, ↓reduceIte, decide_true, decide_false, Nat.reduceEqDiff, Nat.reduceLT, Nat.reduceLeDiff, Int.reduceEq, hbk, hbl, j107k, j107l, bt1, bt2, j97a, j97b, ← hA', ← hG, q1, q_ask]
                            · have hVG : V = w32 A := by rw [hV, if_neg q1]
                              refine ⟨1, tzU D3 53 2 V, n, tzU E 81 2 (w32 A), ?_, ?_, (Sm_1 (by (repeat (refine Sm_U (by omega) ?_)); exact Sm_r _ _)).trans (Ofq_1 o12 oo3), (Sm_1 (by (repeat (refine Sm_U (by omega) ?_)); exact Sm_r _ _)).trans ((PSw_1 x2).trans ((Sm_1 (by (repeat (refine Sm_U (by omega) ?_)); exact Sm_r _ _)).trans (Ofq_1 o12 oo3))), relE _ hVG.symm⟩
                              · rw [hVG]
                                rw [if_neg q1] at mm
                                rw [dn_X11_late, b_X11_late_0]
                                simp only [z_cd, i10, i11, dnn, rdU, eW, eU, tzC_w, w_shp, w_ptr, Nat.beq_refl, nbz, nb133, nb75, nb55, nb67, n133a, n133b, n75a, n75b, aT, aR, oT, oR, oF, oG, kT, kF, bI, bL, bR, b0, Classical.not_not, not_true_eq_false, not_false_eq_true, and_self, and_true, true_and, ↓reduceIte, decide_true, decide_false, Nat.reduceEqDiff, Nat.reduceLT, Nat.reduceLeDiff, Int.reduceEq, s_tractorAt_y _ D L n hk, s_tractorAt_y _ D L n hl, nb75, b_X11_late_44, b_X11_late_69, b_X11_late_89, ne, p_isYard, y2, y3, p_isWithin, y4, y5, p_canSwap_y _ D L n hk rk e2 s1, p_canSwap_y _ D L n hl rl e2 s2, w_tractor D L n hk, w_tractor D L n hl, e2, g1, u1, w_tractor D1 L n hk, w_tractor D1 L n hl, f2, f13, v1, p1, p2, wP, ← hW', wW, w1, p3, w_tractor D3 L n hk, w_tractor D3 L n hl, i1, i2, pw1, pw2, ← hU, ← hA', ← hG, q1, mm]
                              · refine run _ ?_
                                rw [b_X12_late_120]
                                simp only [z_cd, i10, i11, dnn, rdU, eW, eU, tzC_w, w_shp, w_ptr, Nat.beq_refl, nbz, nb133, nb75, nb55, nb67, n133a, n133b, n75a, n75b, aT, aR, oT, oR, oF, oG, kT, kF, bI, bL, bR, b0, Classical.not_not, not_true_eq_false, not_false_eq_true, and_self, and_true, true_and, ↓reduceIte, decide_true, decide_false, Nat.reduceEqDiff, Nat.reduceLT, Nat.reduceLeDiff, Int.reduceEq, hbk, hbl, j107k, j107l, bt1, bt2, j97a, j97b, ← hA', ← hG, q1, q_ask]
                  · refine ⟨-4, D, n, D, ?_, ?_, rfl, rfl, hR⟩
                    · rw [dn_X11_late, b_X11_late_0]
                      simp only [z_cd, i10, i11, dnn, rdU, eW, eU, tzC_w, w_shp, w_ptr, Nat.beq_refl, nbz, nb133, nb75, nb55, nb67, n133a, n133b, n75a, n75b, aT, aR, oT, oR, oF, oG, kT, kF, bI, bL, bR, b0, Classical.not_not, not_true_eq_false, not_false_eq_true, and_self, and_true, true_and, ↓reduceIte, decide_true, decide_false, Nat.reduceEqDiff, Nat.reduceLT, Nat.reduceLeDiff, Int.reduceEq, s_tractorAt_y _ D L n hk, s_tractorAt_y _ D L n hl, nb75, b_X11_late_44, b_X11_late_69, b_X11_late_89, ne, p_isYard, y2, y3, p_isWithin, y4, y5, p_canSwap_y _ D L n hk rk e2 s1, p_canSwap_n _ D L n hl rl e2 s2]
                    · rw [dn_X12_late, b_X12_late_0]
                      simp only [z_cd, i10, i11, dnn, rdU, eW, eU, tzC_w, w_shp, w_ptr, Nat.beq_refl, nbz, nb133, nb75, nb55, nb67, n133a, n133b, n75a, n75b, aT, aR, oT, oR, oF, oG, kT, kF, bI, bL, bR, b0, Classical.not_not, not_true_eq_false, not_false_eq_true, and_self, and_true, true_and, ↓reduceIte, decide_true, decide_false, Nat.reduceEqDiff, Nat.reduceLT, Nat.reduceLeDiff, Int.reduceEq, q_isTractor, ct0, ct1, b_X12_late_57, ne, q_isYard, y2, y3, p_in, y4, y5, q_may_y _ D L n hk rk s1, q_may_n _ D L n hl s2]
                · refine ⟨-4, D, n, D, ?_, ?_, rfl, rfl, hR⟩
                  · rw [dn_X11_late, b_X11_late_0]
                    simp only [z_cd, i10, i11, dnn, rdU, eW, eU, tzC_w, w_shp, w_ptr, Nat.beq_refl, nbz, nb133, nb75, nb55, nb67, n133a, n133b, n75a, n75b, aT, aR, oT, oR, oF, oG, kT, kF, bI, bL, bR, b0, Classical.not_not, not_true_eq_false, not_false_eq_true, and_self, and_true, true_and, ↓reduceIte, decide_true, decide_false, Nat.reduceEqDiff, Nat.reduceLT, Nat.reduceLeDiff, Int.reduceEq, s_tractorAt_y _ D L n hk, s_tractorAt_y _ D L n hl, nb75, b_X11_late_44, b_X11_late_69, b_X11_late_89, ne, p_isYard, y2, y3, p_isWithin, y4, y5, p_canSwap_n _ D L n hk rk e2 s1]
                  · rw [dn_X12_late, b_X12_late_0]
                    simp only [z_cd, i10, i11, dnn, rdU, eW, eU, tzC_w, w_shp, w_ptr, Nat.beq_refl, nbz, nb133, nb75, nb55, nb67, n133a, n133b, n75a, n75b, aT, aR, oT, oR, oF, oG, kT, kF, bI, bL, bR, b0, Classical.not_not, not_true_eq_false, not_false_eq_true, and_self, and_true, true_and, ↓reduceIte, decide_true, decide_false, Nat.reduceEqDiff, Nat.reduceLT, Nat.reduceLeDiff, Int.reduceEq, q_isTractor, ct0, ct1, b_X12_late_57, ne, q_isYard, y2, y3, p_in, y4, y5, q_may_n _ D L n hk s1]
              · refine ⟨-1, D, n, D, ?_, ?_, rfl, rfl, hR⟩
                · rw [dn_X11_late, b_X11_late_0]
                  simp only [z_cd, i10, i11, dnn, rdU, eW, eU, tzC_w, w_shp, w_ptr, Nat.beq_refl, nbz, nb133, nb75, nb55, nb67, n133a, n133b, n75a, n75b, aT, aR, oT, oR, oF, oG, kT, kF, bI, bL, bR, b0, Classical.not_not, not_true_eq_false, not_false_eq_true, and_self, and_true, true_and, ↓reduceIte, decide_true, decide_false, Nat.reduceEqDiff, Nat.reduceLT, Nat.reduceLeDiff, Int.reduceEq, s_tractorAt_y _ D L n hk, s_tractorAt_y _ D L n hl, nb75, b_X11_late_44, b_X11_late_69, b_X11_late_89, ne, p_isYard, y2, y3, p_isWithin, y4, y5]
                · rw [dn_X12_late, b_X12_late_0]
                  simp only [z_cd, i10, i11, dnn, rdU, eW, eU, tzC_w, w_shp, w_ptr, Nat.beq_refl, nbz, nb133, nb75, nb55, nb67, n133a, n133b, n75a, n75b, aT, aR, oT, oR, oF, oG, kT, kF, bI, bL, bR, b0, Classical.not_not, not_true_eq_false, not_false_eq_true, and_self, and_true, true_and, ↓reduceIte, decide_true, decide_false, Nat.reduceEqDiff, Nat.reduceLT, Nat.reduceLeDiff, Int.reduceEq, q_isTractor, ct0, ct1, b_X12_late_57, ne, q_isYard, y2, y3, p_in, y4, y5]
            · refine ⟨-1, D, n, D, ?_, ?_, rfl, rfl, hR⟩
              · rw [dn_X11_late, b_X11_late_0]
                simp only [z_cd, i10, i11, dnn, rdU, eW, eU, tzC_w, w_shp, w_ptr, Nat.beq_refl, nbz, nb133, nb75, nb55, nb67, n133a, n133b, n75a, n75b, aT, aR, oT, oR, oF, oG, kT, kF, bI, bL, bR, b0, Classical.not_not, not_true_eq_false, not_false_eq_true, and_self, and_true, true_and, ↓reduceIte, decide_true, decide_false, Nat.reduceEqDiff, Nat.reduceLT, Nat.reduceLeDiff, Int.reduceEq, s_tractorAt_y _ D L n hk, s_tractorAt_y _ D L n hl, nb75, b_X11_late_44, b_X11_late_69, b_X11_late_89, ne, p_isYard, y2, y3, p_isWithin, y4]
              · rw [dn_X12_late, b_X12_late_0]
                simp only [z_cd, i10, i11, dnn, rdU, eW, eU, tzC_w, w_shp, w_ptr, Nat.beq_refl, nbz, nb133, nb75, nb55, nb67, n133a, n133b, n75a, n75b, aT, aR, oT, oR, oF, oG, kT, kF, bI, bL, bR, b0, Classical.not_not, not_true_eq_false, not_false_eq_true, and_self, and_true, true_and, ↓reduceIte, decide_true, decide_false, Nat.reduceEqDiff, Nat.reduceLT, Nat.reduceLeDiff, Int.reduceEq, q_isTractor, ct0, ct1, b_X12_late_57, ne, q_isYard, y2, y3, p_in, y4]
          · refine ⟨-1, D, n, D, ?_, ?_, rfl, rfl, hR⟩
            · rw [dn_X11_late, b_X11_late_0]
              simp only [z_cd, i10, i11, dnn, rdU, eW, eU, tzC_w, w_shp, w_ptr, Nat.beq_refl, nbz, nb133, nb75, nb55, nb67, n133a, n133b, n75a, n75b, aT, aR, oT, oR, oF, oG, kT, kF, bI, bL, bR, b0, Classical.not_not, not_true_eq_false, not_false_eq_true, and_self, and_true, true_and, ↓reduceIte, decide_true, decide_false, Nat.reduceEqDiff, Nat.reduceLT, Nat.reduceLeDiff, Int.reduceEq, s_tractorAt_y _ D L n hk, s_tractorAt_y _ D L n hl, nb75, b_X11_late_44, b_X11_late_69, b_X11_late_89, ne, p_isYard, y2, y3]
            · rw [dn_X12_late, b_X12_late_0]
              simp only [z_cd, i10, i11, dnn, rdU, eW, eU, tzC_w, w_shp, w_ptr, Nat.beq_refl, nbz, nb133, nb75, nb55, nb67, n133a, n133b, n75a, n75b, aT, aR, oT, oR, oF, oG, kT, kF, bI, bL, bR, b0, Classical.not_not, not_true_eq_false, not_false_eq_true, and_self, and_true, true_and, ↓reduceIte, decide_true, decide_false, Nat.reduceEqDiff, Nat.reduceLT, Nat.reduceLeDiff, Int.reduceEq, q_isTractor, ct0, ct1, b_X12_late_57, ne, q_isYard, y2, y3]
        · refine ⟨-1, D, n, D, ?_, ?_, rfl, rfl, hR⟩
          · rw [dn_X11_late, b_X11_late_0]
            simp only [z_cd, i10, i11, dnn, rdU, eW, eU, tzC_w, w_shp, w_ptr, Nat.beq_refl, nbz, nb133, nb75, nb55, nb67, n133a, n133b, n75a, n75b, aT, aR, oT, oR, oF, oG, kT, kF, bI, bL, bR, b0, Classical.not_not, not_true_eq_false, not_false_eq_true, and_self, and_true, true_and, ↓reduceIte, decide_true, decide_false, Nat.reduceEqDiff, Nat.reduceLT, Nat.reduceLeDiff, Int.reduceEq, s_tractorAt_y _ D L n hk, s_tractorAt_y _ D L n hl, nb75, b_X11_late_44, b_X11_late_69, b_X11_late_89, ne, p_isYard, y2]
          · rw [dn_X12_late, b_X12_late_0]
            simp only [z_cd, i10, i11, dnn, rdU, eW, eU, tzC_w, w_shp, w_ptr, Nat.beq_refl, nbz, nb133, nb75, nb55, nb67, n133a, n133b, n75a, n75b, aT, aR, oT, oR, oF, oG, kT, kF, bI, bL, bR, b0, Classical.not_not, not_true_eq_false, not_false_eq_true, and_self, and_true, true_and, ↓reduceIte, decide_true, decide_false, Nat.reduceEqDiff, Nat.reduceLT, Nat.reduceLeDiff, Int.reduceEq, q_isTractor, ct0, ct1, b_X12_late_57, ne, q_isYard, y2]
    · refine ⟨-1, D, n, D, ?_, ?_, rfl, rfl, hR⟩
      · rw [dn_X11_late, b_X11_late_0]
        simp only [z_cd, i10, i11, dnn, rdU, eW, eU, tzC_w, w_shp, w_ptr, Nat.beq_refl, nbz, nb133, nb75, nb55, nb67, n133a, n133b, n75a, n75b, aT, aR, oT, oR, oF, oG, kT, kF, bI, bL, bR, b0, Classical.not_not, not_true_eq_false, not_false_eq_true, and_self, and_true, true_and, ↓reduceIte, decide_true, decide_false, Nat.reduceEqDiff, Nat.reduceLT, Nat.reduceLeDiff, Int.reduceEq, s_tractorAt_y _ D L n hk, s_tractorAt_n _ D L n (a := a1) (by omega), nb75, b_X11_late_44]
      · rw [dn_X12_late, b_X12_late_0]
        simp only [z_cd, i10, i11, dnn, rdU, eW, eU, tzC_w, w_shp, w_ptr, Nat.beq_refl, nbz, nb133, nb75, nb55, nb67, n133a, n133b, n75a, n75b, aT, aR, oT, oR, oF, oG, kT, kF, bI, bL, bR, b0, Classical.not_not, not_true_eq_false, not_false_eq_true, and_self, and_true, true_and, ↓reduceIte, decide_true, decide_false, Nat.reduceEqDiff, Nat.reduceLT, Nat.reduceLeDiff, Int.reduceEq, q_isTractor, ct0, ct1, b_X12_late_57]
  · by_cases ct1 : 0 ≤ a1 ∧ a1 ≤ 5
    · obtain ⟨l, e⟩ : ∃ l : Nat, a1 = l := ⟨a1.toNat, by omega⟩
      subst e
      have hl : l < 6 := by omega
      refine ⟨-1, D, n, D, ?_, ?_, rfl, rfl, hR⟩
      · rw [dn_X11_late, b_X11_late_0]
        simp only [z_cd, i10, i11, dnn, rdU, eW, eU, tzC_w, w_shp, w_ptr, Nat.beq_refl, nbz, nb133, nb75, nb55, nb67, n133a, n133b, n75a, n75b, aT, aR, oT, oR, oF, oG, kT, kF, bI, bL, bR, b0, Classical.not_not, not_true_eq_false, not_false_eq_true, and_self, and_true, true_and, ↓reduceIte, decide_true, decide_false, Nat.reduceEqDiff, Nat.reduceLT, Nat.reduceLeDiff, Int.reduceEq, s_tractorAt_n _ D L n (a := a0) (by omega), s_tractorAt_y _ D L n hl, b_X11_late_44]
      · rw [dn_X12_late, b_X12_late_0]
        simp only [z_cd, i10, i11, dnn, rdU, eW, eU, tzC_w, w_shp, w_ptr, Nat.beq_refl, nbz, nb133, nb75, nb55, nb67, n133a, n133b, n75a, n75b, aT, aR, oT, oR, oF, oG, kT, kF, bI, bL, bR, b0, Classical.not_not, not_true_eq_false, not_false_eq_true, and_self, and_true, true_and, ↓reduceIte, decide_true, decide_false, Nat.reduceEqDiff, Nat.reduceLT, Nat.reduceLeDiff, Int.reduceEq, q_isTractor, ct0, ct1, b_X12_late_57]
    · refine ⟨-1, D, n, D, ?_, ?_, rfl, rfl, hR⟩
      · rw [dn_X11_late, b_X11_late_0]
        simp only [z_cd, i10, i11, dnn, rdU, eW, eU, tzC_w, w_shp, w_ptr, Nat.beq_refl, nbz, nb133, nb75, nb55, nb67, n133a, n133b, n75a, n75b, aT, aR, oT, oR, oF, oG, kT, kF, bI, bL, bR, b0, Classical.not_not, not_true_eq_false, not_false_eq_true, and_self, and_true, true_and, ↓reduceIte, decide_true, decide_false, Nat.reduceEqDiff, Nat.reduceLT, Nat.reduceLeDiff, Int.reduceEq, s_tractorAt_n _ D L n (a := a0) (by omega), s_tractorAt_n _ D L n (a := a1) (by omega), b_X11_late_44]
      · rw [dn_X12_late, b_X12_late_0]
        simp only [z_cd, i10, i11, dnn, rdU, eW, eU, tzC_w, w_shp, w_ptr, Nat.beq_refl, nbz, nb133, nb75, nb55, nb67, n133a, n133b, n75a, n75b, aT, aR, oT, oR, oF, oG, kT, kF, bI, bL, bR, b0, Classical.not_not, not_true_eq_false, not_false_eq_true, and_self, and_true, true_and, ↓reduceIte, decide_true, decide_false, Nat.reduceEqDiff, Nat.reduceLT, Nat.reduceLeDiff, Int.reduceEq, q_isTractor, ct0, ct1, b_X12_late_57]
