/-! ===== swap ===== -/
def cSw (D : Nat → Int → Int) (k : Nat) : Prop := ¬ D 81 5 < D 106 k ∧ ¬ D 107 k = -9
set_option maxRecDepth 100000 in
set_option maxHeartbeats 400000 in
theorem p_canSwap_y (d : Nat) (D : Nat → Int → Int) (L n : Nat) {k : Nat} (hk : k < 6) (r : KR D n k) (e2 : D 2 13 = D 81 5) (h : cSw D k) : tqden tqP (d + 2) n_X11_canSwap [vR 2, vR (75 + k)] (tzW D L n) = some (some (vI 1), tzW D L n) := by
  have h1 := h.1
  have h2 := h.2
  have r2 : D (75 + k) 1 = D 106 k := r.2.1
  have r3 : D (75 + k) 2 = D 107 k := r.2.2.1
  rw [dn_X11_canSwap, b_X11_canSwap_0]
  simp only [z_cd, i10, i11, dnn, rdU, eW, eU, tzC_w, w_shp, w_ptr, Nat.beq_refl, nbz, nb133, nb75, nb55, nb67, n133a, n133b, n75a, n75b, aT, aR, oT, oR, oF, oG, kT, kF, bI, bL, bR, b0, Classical.not_not, not_true_eq_false, not_false_eq_true, and_self, and_true, true_and, ↓reduceIte, decide_true, decide_false, Nat.reduceEqDiff, Nat.reduceLT, Nat.reduceLeDiff, Int.reduceEq, w_tractor D L n hk, e2, p_onWay _ D L n k hk, r2, r3, h1, h2]
set_option maxRecDepth 100000 in
set_option maxHeartbeats 400000 in
theorem p_canSwap_n (d : Nat) (D : Nat → Int → Int) (L n : Nat) {k : Nat} (hk : k < 6) (r : KR D n k) (e2 : D 2 13 = D 81 5) (h : ¬ cSw D k) : tqden tqP (d + 2) n_X11_canSwap [vR 2, vR (75 + k)] (tzW D L n) = some (some (vI 0), tzW D L n) := by
  have r2 : D (75 + k) 1 = D 106 k := r.2.1
  have r3 : D (75 + k) 2 = D 107 k := r.2.2.1
  rw [dn_X11_canSwap, b_X11_canSwap_0]
  by_cases c : D 81 5 < D 106 k
  · simp only [z_cd, i10, i11, dnn, rdU, eW, eU, tzC_w, w_shp, w_ptr, Nat.beq_refl, nbz, nb133, nb75, nb55, nb67, n133a, n133b, n75a, n75b, aT, aR, oT, oR, oF, oG, kT, kF, bI, bL, bR, b0, Classical.not_not, not_true_eq_false, not_false_eq_true, and_self, and_true, true_and, ↓reduceIte, decide_true, decide_false, Nat.reduceEqDiff, Nat.reduceLT, Nat.reduceLeDiff, Int.reduceEq, w_tractor D L n hk, e2, p_onWay _ D L n k hk, r2, r3, c]
  · have c2 : D 107 k = -9 := Classical.byContradiction (fun z => h ⟨c, z⟩)
    simp only [z_cd, i10, i11, dnn, rdU, eW, eU, tzC_w, w_shp, w_ptr, Nat.beq_refl, nbz, nb133, nb75, nb55, nb67, n133a, n133b, n75a, n75b, aT, aR, oT, oR, oF, oG, kT, kF, bI, bL, bR, b0, Classical.not_not, not_true_eq_false, not_false_eq_true, and_self, and_true, true_and, ↓reduceIte, decide_true, decide_false, Nat.reduceEqDiff, Nat.reduceLT, Nat.reduceLeDiff, Int.reduceEq, w_tractor D L n hk, e2, p_onWay _ D L n k hk, r2, r3, c, c2]
set_option maxRecDepth 100000 in
set_option maxHeartbeats 400000 in
theorem q_may_y (d : Nat) (D : Nat → Int → Int) (L n : Nat) {k : Nat} (hk : k < 6) (r : KR D n k) (h : cSw D k) : tqden tqP (d + 2) n_X12_maySwap [vR 81, vI (k : Int)] (tzW D L n) = some (some (vI 1), tzW D L n) := by
  have h1 := h.1
  have h2 : ¬ D 107 k < 0 := by
    have a := r.2.2.2.2.2.2.2.2.2.1
    have b := h.2
    omega
  have hb : tqib (k : Int) 6 = true := tqib_y (by omega) (by omega)
  rw [dn_X12_maySwap, b_X12_maySwap_0]
  simp only [z_cd, i10, i11, dnn, rdU, eW, eU, tzC_w, w_shp, w_ptr, Nat.beq_refl, nbz, nb133, nb75, nb55, nb67, n133a, n133b, n75a, n75b, aT, aR, oT, oR, oF, oG, kT, kF, bI, bL, bR, b0, Classical.not_not, not_true_eq_false, not_false_eq_true, and_self, and_true, true_and, ↓reduceIte, decide_true, decide_false, Nat.reduceEqDiff, Nat.reduceLT, Nat.reduceLeDiff, Int.reduceEq, q_onWay _ D L n k hk, hb, h1, h2]
set_option maxRecDepth 100000 in
set_option maxHeartbeats 400000 in
theorem q_may_n (d : Nat) (D : Nat → Int → Int) (L n : Nat) {k : Nat} (hk : k < 6) (h : ¬ cSw D k) : tqden tqP (d + 2) n_X12_maySwap [vR 81, vI (k : Int)] (tzW D L n) = some (some (vI 0), tzW D L n) := by
  have hb : tqib (k : Int) 6 = true := tqib_y (by omega) (by omega)
  rw [dn_X12_maySwap, b_X12_maySwap_0]
  by_cases c : D 81 5 < D 106 k
  · simp only [z_cd, i10, i11, dnn, rdU, eW, eU, tzC_w, w_shp, w_ptr, Nat.beq_refl, nbz, nb133, nb75, nb55, nb67, n133a, n133b, n75a, n75b, aT, aR, oT, oR, oF, oG, kT, kF, bI, bL, bR, b0, Classical.not_not, not_true_eq_false, not_false_eq_true, and_self, and_true, true_and, ↓reduceIte, decide_true, decide_false, Nat.reduceEqDiff, Nat.reduceLT, Nat.reduceLeDiff, Int.reduceEq, q_onWay _ D L n k hk, hb, c]
  · have c2 : D 107 k = -9 := Classical.byContradiction (fun z => h ⟨c, z⟩)
    have c3 : D 107 k < 0 := by omega
    simp only [z_cd, i10, i11, dnn, rdU, eW, eU, tzC_w, w_shp, w_ptr, Nat.beq_refl, nbz, nb133, nb75, nb55, nb67, n133a, n133b, n75a, n75b, aT, aR, oT, oR, oF, oG, kT, kF, bI, bL, bR, b0, Classical.not_not, not_true_eq_false, not_false_eq_true, and_self, and_true, true_and, ↓reduceIte, decide_true, decide_false, Nat.reduceEqDiff, Nat.reduceLT, Nat.reduceLeDiff, Int.reduceEq, q_onWay _ D L n k hk, hb, c, c3]
theorem KR_fr2 {D D' : Nat → Int → Int} {n k : Nat} (s : Sm PK D D') (hk : k < 6) (h : KR D n k) : KR D' n k := KR_fr (fun j a b => s _ _ (by unfold PK; omega)) (fun b q1 q2 => s _ _ (by unfold PK; omega)) h
theorem cSw_fr {D D' : Nat → Int → Int} {k : Nat} (e1 : D' 81 5 = D 81 5) (e2 : D' 106 k = D 106 k) (e3 : D' 107 k = D 107 k) : cSw D' k = cSw D k := by unfold cSw; rw [e1, e2, e3]
theorem PSw_z : ∀ b j, PZ b j → PSw b j := by
  intro b j
  unfold PZ PL PW PN PC PT PD PK PB PQ PX PM PP PS PSw
  omega
theorem PSw_a : ∀ b j, PA b j → PSw b j := by
  intro b j
  unfold PA PSw
  omega
theorem PMt_z : ∀ b j, PZ b j → PMt b j := by
  intro b j
  unfold PZ PL PW PN PC PT PD PK PB PQ PX PM PP PS PMt
  omega
theorem PMt_a : ∀ b j, PA b j → PMt b j := by
  intro b j
  unfold PA PMt
  omega
theorem PSw_1 {D D' : Nat → Int → Int} (s : Sm PSw D D') : D' 1 = D 1 := Sm_1 (Sm_m (fun b j p => by unfold PSw; omega) s)
theorem PMt_1 {D D' : Nat → Int → Int} (s : Sm PMt D D') : D' 1 = D 1 := Sm_1 (Sm_m (fun b j p => by unfold PMt; omega) s)
theorem Sm_UU {P : Nat → Int → Prop} {D D' : Nat → Int → Int} (s : Sm P D D') (a : Nat) (j x : Int) : Sm P (tzU D a j x) (tzU D' a j x) := by
  intro b k p
  have e := s b k p
  unfold tzU
  rw [e]
theorem Sm_Rm {P : Nat → Int → Prop} {D D' : Nat → Int → Int} (s : Sm P D D') (p82 : ∀ j, P 82 j) (f : Int) : Sm P (tzRm D f) (tzRm D' f) := by
  intro b k p
  have e := s b k p
  have e2 := s 82 f (p82 f)
  unfold tzRm tzU
  rw [e, e2]
theorem swL_sm {D D' : Nat → Int → Int} (s : Sm PVq D D') (now ya yb hA hB : Int) : ∀ (j : Nat) (m : Int) (x : Int × Int × Int), swL D' now ya yb hA hB j m x = swL D now ya yb hA hB j m x
  | 0, _, _ => rfl
  | j + 1, m, x => by
    have q : swN D' now ya yb hA hB m x = swN D now ya yb hA hB m x := by
      unfold swN
      rw [er_sm s, er_sm s, swF_sm s, swF_sm s]
    rw [swL_S, swL_S, q]
    exact swL_sm s now ya yb hA hB j _ _
set_option maxRecDepth 100000 in
set_option maxHeartbeats 400000 in
theorem ag_swap {L : Nat} (a0 a1 a2 a3 : Int) : AgI Rel L n_X11_swap n_X12_swap [vI a0, vI a1, vI a2, vI a3] := by
  intro D n hR
  obtain ⟨hA, hL, hW, hN, ⟨c1, c2, c3⟩, hT, hD, hK, hB, hQ, hX, hM, hP, hS⟩ := id hR
  have w := WY_of hW
  have hd := hd_of hW
  by_cases ct0 : 0 ≤ a0 ∧ a0 ≤ 5
  · obtain ⟨k, e⟩ : ∃ k : Nat, a0 = k := ⟨a0.toNat, by omega⟩
    subst e
    have hk : k < 6 := by omega
    have hbk : tqib (k : Int) 6 = true := tqib_y (by omega) (by omega)
    have rk := hK k hk
    by_cases ct1 : 0 ≤ a1 ∧ a1 ≤ 5
    · obtain ⟨l, e⟩ : ∃ l : Nat, a1 = l := ⟨a1.toNat, by omega⟩
      subst e
      have hl : l < 6 := by omega
      have hbl : tqib (l : Int) 6 = true := tqib_y (by omega) (by omega)
      have rl := hK l hl
      by_cases ne : (k : Int) = (l : Int)
      · have ne' : ((k : Int) = (l : Int)) = True := eq_true ne
        refine ⟨-1, D, n, D, ?_, ?_, rfl, rfl, hR⟩
        · rw [dn_X11_swap, b_X11_swap_0]
          simp only [z_cd, i10, i11, dnn, rdU, eW, eU, tzC_w, w_shp, w_ptr, Nat.beq_refl, nbz, nb133, nb75, nb55, nb67, n133a, n133b, n75a, n75b, aT, aR, oT, oR, oF, oG, kT, kF, bI, bL, bR, b0, Classical.not_not, not_true_eq_false, not_false_eq_true, and_self, and_true, true_and, ↓reduceIte, decide_true, decide_false, Nat.reduceEqDiff, Nat.reduceLT, Nat.reduceLeDiff, Int.reduceEq, s_tractorAt_y _ D L n hk, s_tractorAt_y _ D L n hl, nb75, b_X11_swap_44, ne']
        · rw [dn_X12_swap, b_X12_swap_0]
          simp only [z_cd, i10, i11, dnn, rdU, eW, eU, tzC_w, w_shp, w_ptr, Nat.beq_refl, nbz, nb133, nb75, nb55, nb67, n133a, n133b, n75a, n75b, aT, aR, oT, oR, oF, oG, kT, kF, bI, bL, bR, b0, Classical.not_not, not_true_eq_false, not_false_eq_true, and_self, and_true, true_and, ↓reduceIte, decide_true, decide_false, Nat.reduceEqDiff, Nat.reduceLT, Nat.reduceLeDiff, Int.reduceEq, q_isTractor, ct0, ct1, ne']
      · by_cases y3 : 0 ≤ a2 ∧ a2 ≤ 7
        · by_cases y4 : 0 ≤ a3 ∧ a3 ≤ 7
          · have e2 : D 2 13 = D 81 5 := hN.1
            by_cases s1 : cSw D k
            · by_cases s2 : cSw D l
              · obtain ⟨g1, g2, g3, g4, g5, g6, g7, g8, g9, g10, g11, g12⟩ := id rk
                obtain ⟨k1, k2, k3, k4, k5, k6, k7, k8, k9, k10, k11, k12⟩ := id rl
                obtain ⟨E, v, u1, u2, u3⟩ := p_meet 1394 L n D (now := D 81 5) (ya := D 105 k) (yb := D 105 l) (hA := a2) (hB := a3) w hd ⟨g6, g7⟩ ⟨k6, k7⟩ hN.2 y3 y4
                have hR1 := Rel_sm u2 PMt_z PMt_a hR
                obtain ⟨X, hX'⟩ : ∃ X, X = swL D (D 81 5) (D 105 k) (D 105 l) a2 a3 8 0 (-9, 0, 0) := ⟨_, rfl⟩
                rw [← hX'] at u3
                rcases u3 with ⟨q1, q2, q3, q4⟩ | ⟨q1, q2, q3, q4⟩
                · have sv : Sm PVq D (tzRx E 1) := Sm_Rx 1 (PMt_v u2)
                  have b105k : (tzRx E 1) 105 k = D 105 k := (u2 105 k (by unfold PMt; omega))
                  have b105l : (tzRx E 1) 105 l = D 105 l := (u2 105 l (by unfold PMt; omega))
                  have b5 : (tzRx E 1) 81 5 = D 81 5 := (u2 81 5 (by unfold PMt; omega))
                  have b106k : (tzRx E 1) 106 k = D 106 k := (u2 106 k (by unfold PMt; omega))
                  have b106l : (tzRx E 1) 106 l = D 106 l := (u2 106 l (by unfold PMt; omega))
                  have b107k : (tzRx E 1) 107 k = D 107 k := (u2 107 k (by unfold PMt; omega))
                  have b107l : (tzRx E 1) 107 l = D 107 l := (u2 107 l (by unfold PMt; omega))
                  have z1 : cSw (tzRx E 1) k := by rw [cSw_fr b5 b106k b107k]; exact s1
                  have z2 : cSw (tzRx E 1) l := by rw [cSw_fr b5 b106l b107l]; exact s2
                  have sK : Sm PK E (tzRx E 1) := by unfold tzRx; (repeat (refine Sm_U (by unfold PK; omega) ?_)); exact Sm_r _ _
                  have rkB := KR_fr2 sK hk (hR1.2.2.2.2.2.2.2.1 k hk)
                  have rlB := KR_fr2 sK hl (hR1.2.2.2.2.2.2.2.1 l hl)
                  obtain ⟨E2, v1, v2, v3⟩ := q_best 1394 L n (tzRx E 1) (a := k) (b := l) (hA := a2) (hB := a3) hk hl (Wy_sm sv w) (Hd_sm sv hd) (by rw [b105k]; exact ⟨g6, g7⟩) (by rw [b105l]; exact ⟨k6, k7⟩) (by rw [b5]; exact hN.2) y3 y4
                  rw [b105k, b105l, b5, swL_sm sv, ← hX'] at v1 v3

                  have no : ¬ 0 ≤ X.1 := by omega
                  refine ⟨-3, tzRx E 1, n, tzRm E2 1, ?_, ?_, ?_, ?_, Rel_sm (Sm_Rm v2 (fun j => by unfold PSw; omega) 1) PSw_z PSw_a (Rel_ref hR1 (by omega) (by omega))⟩
                  · rw [dn_X11_swap, b_X11_swap_0]
                    simp only [z_cd, i10, i11, dnn, rdU, eW, eU, tzC_w, w_shp, w_ptr, Nat.beq_refl, nbz, nb133, nb75, nb55, nb67, n133a, n133b, n75a, n75b, aT, aR, oT, oR, oF, oG, kT, kF, bI, bL, bR, b0, Classical.not_not, not_true_eq_false, not_false_eq_true, and_self, and_true, true_and, ↓reduceIte, decide_true, decide_false, Nat.reduceEqDiff, Nat.reduceLT, Nat.reduceLeDiff, Int.reduceEq, s_tractorAt_y _ D L n hk, s_tractorAt_y _ D L n hl, nb75, b_X11_swap_44, ne, p_isYard, y3, y4, p_canSwap_y _ D L n hk rk e2 s1, p_canSwap_y _ D L n hl rl e2 s2, w_tractor D L n hk, w_tractor D L n hl, e2, g1, k1, u1, q2, s_refuse _ E L n (f := 1) (by decide) (by decide)]
                  · rw [dn_X12_swap, b_X12_swap_0]
                    simp only [z_cd, i10, i11, dnn, rdU, eW, eU, tzC_w, w_shp, w_ptr, Nat.beq_refl, nbz, nb133, nb75, nb55, nb67, n133a, n133b, n75a, n75b, aT, aR, oT, oR, oF, oG, kT, kF, bI, bL, bR, b0, Classical.not_not, not_true_eq_false, not_false_eq_true, and_self, and_true, true_and, ↓reduceIte, decide_true, decide_false, Nat.reduceEqDiff, Nat.reduceLT, Nat.reduceLeDiff, Int.reduceEq, q_isTractor, ct0, ct1, ne, q_isYard, y3, y4, q_may_y _ (tzRx E 1) L n hk rkB z1, q_may_y _ (tzRx E 1) L n hl rlB z2, v1, no, s_meets _ E2 L n (f := 1) (by decide) (by decide)]
                  · exact (Sm_1 (by unfold tzRx; (repeat (refine Sm_U (by omega) ?_)); exact Sm_r _ _)).trans (PMt_1 u2)
                  · exact (Sm_1 (by unfold tzRm; (repeat (refine Sm_U (by omega) ?_)); exact Sm_r _ _)).trans ((PSw_1 v2).trans ((Sm_1 (by unfold tzRx; (repeat (refine Sm_U (by omega) ?_)); exact Sm_r _ _)).trans (PMt_1 u2)))
                · have sv : Sm PVq D (tzU E 53 2 X.2.1) := Sm_U (by unfold PVq; omega) (PMt_v u2)
                  have b105k : (tzU E 53 2 X.2.1) 105 k = D 105 k := (u2 105 k (by unfold PMt; omega))
                  have b105l : (tzU E 53 2 X.2.1) 105 l = D 105 l := (u2 105 l (by unfold PMt; omega))
                  have b5 : (tzU E 53 2 X.2.1) 81 5 = D 81 5 := (u2 81 5 (by unfold PMt; omega))
                  have b106k : (tzU E 53 2 X.2.1) 106 k = D 106 k := (u2 106 k (by unfold PMt; omega))
                  have b106l : (tzU E 53 2 X.2.1) 106 l = D 106 l := (u2 106 l (by unfold PMt; omega))
                  have b107k : (tzU E 53 2 X.2.1) 107 k = D 107 k := (u2 107 k (by unfold PMt; omega))
                  have b107l : (tzU E 53 2 X.2.1) 107 l = D 107 l := (u2 107 l (by unfold PMt; omega))
                  have z1 : cSw (tzU E 53 2 X.2.1) k := by rw [cSw_fr b5 b106k b107k]; exact s1
                  have z2 : cSw (tzU E 53 2 X.2.1) l := by rw [cSw_fr b5 b106l b107l]; exact s2
                  have sK : Sm PK E (tzU E 53 2 X.2.1) := by (repeat (refine Sm_U (by unfold PK; omega) ?_)); exact Sm_r _ _
                  have rkB := KR_fr2 sK hk (hR1.2.2.2.2.2.2.2.1 k hk)
                  have rlB := KR_fr2 sK hl (hR1.2.2.2.2.2.2.2.1 l hl)
                  obtain ⟨E2, v1, v2, v3⟩ := q_best 1394 L n (tzU E 53 2 X.2.1) (a := k) (b := l) (hA := a2) (hB := a3) hk hl (Wy_sm sv w) (Hd_sm sv hd) (by rw [b105k]; exact ⟨g6, g7⟩) (by rw [b105l]; exact ⟨k6, k7⟩) (by rw [b5]; exact hN.2) y3 y4
                  rw [b105k, b105l, b5, swL_sm sv, ← hX'] at v1 v3

                  have nn : ¬ X.1 = -9 := by omega
                  have v4 := v3 q1
                  refine ⟨X.1, tzU E 53 2 X.2.1, n, tzU E2 81 2 X.2.1, ?_, ?_, (Sm_1 (by (repeat (refine Sm_U (by omega) ?_)); exact Sm_r _ _)).trans (PMt_1 u2), (Sm_1 (by (repeat (refine Sm_U (by omega) ?_)); exact Sm_r _ _)).trans ((PSw_1 v2).trans ((Sm_1 (by (repeat (refine Sm_U (by omega) ?_)); exact Sm_r _ _)).trans (PMt_1 u2))), Rel_sm (Sm_UU v2 81 2 X.2.1) PSw_z PSw_a (Rel_ask hR1 X.2.1)⟩
                  · rw [dn_X11_swap, b_X11_swap_0]
                    simp only [z_cd, i10, i11, dnn, rdU, eW, eU, tzC_w, w_shp, w_ptr, Nat.beq_refl, nbz, nb133, nb75, nb55, nb67, n133a, n133b, n75a, n75b, aT, aR, oT, oR, oF, oG, kT, kF, bI, bL, bR, b0, Classical.not_not, not_true_eq_false, not_false_eq_true, and_self, and_true, true_and, ↓reduceIte, decide_true, decide_false, Nat.reduceEqDiff, Nat.reduceLT, Nat.reduceLeDiff, Int.reduceEq, s_tractorAt_y _ D L n hk, s_tractorAt_y _ D L n hl, nb75, b_X11_swap_44, ne, p_isYard, y3, y4, p_canSwap_y _ D L n hk rk e2 s1, p_canSwap_y _ D L n hl rl e2 s2, w_tractor D L n hk, w_tractor D L n hl, e2, g1, k1, u1, q2, q3, nn]
                  · rw [dn_X12_swap, b_X12_swap_0]
                    simp only [z_cd, i10, i11, dnn, rdU, eW, eU, tzC_w, w_shp, w_ptr, Nat.beq_refl, nbz, nb133, nb75, nb55, nb67, n133a, n133b, n75a, n75b, aT, aR, oT, oR, oF, oG, kT, kF, bI, bL, bR, b0, Classical.not_not, not_true_eq_false, not_false_eq_true, and_self, and_true, true_and, ↓reduceIte, decide_true, decide_false, Nat.reduceEqDiff, Nat.reduceLT, Nat.reduceLeDiff, Int.reduceEq, q_isTractor, ct0, ct1, ne, q_isYard, y3, y4, q_may_y _ (tzU E 53 2 X.2.1) L n hk rkB z1, q_may_y _ (tzU E 53 2 X.2.1) L n hl rlB z2, v1, q1, v4, q_ask]
              · refine ⟨-4, D, n, D, ?_, ?_, rfl, rfl, hR⟩
                · rw [dn_X11_swap, b_X11_swap_0]
                  simp only [z_cd, i10, i11, dnn, rdU, eW, eU, tzC_w, w_shp, w_ptr, Nat.beq_refl, nbz, nb133, nb75, nb55, nb67, n133a, n133b, n75a, n75b, aT, aR, oT, oR, oF, oG, kT, kF, bI, bL, bR, b0, Classical.not_not, not_true_eq_false, not_false_eq_true, and_self, and_true, true_and, ↓reduceIte, decide_true, decide_false, Nat.reduceEqDiff, Nat.reduceLT, Nat.reduceLeDiff, Int.reduceEq, s_tractorAt_y _ D L n hk, s_tractorAt_y _ D L n hl, nb75, b_X11_swap_44, ne, p_isYard, y3, y4, p_canSwap_y _ D L n hk rk e2 s1, p_canSwap_n _ D L n hl rl e2 s2]
                · rw [dn_X12_swap, b_X12_swap_0]
                  simp only [z_cd, i10, i11, dnn, rdU, eW, eU, tzC_w, w_shp, w_ptr, Nat.beq_refl, nbz, nb133, nb75, nb55, nb67, n133a, n133b, n75a, n75b, aT, aR, oT, oR, oF, oG, kT, kF, bI, bL, bR, b0, Classical.not_not, not_true_eq_false, not_false_eq_true, and_self, and_true, true_and, ↓reduceIte, decide_true, decide_false, Nat.reduceEqDiff, Nat.reduceLT, Nat.reduceLeDiff, Int.reduceEq, q_isTractor, ct0, ct1, ne, q_isYard, y3, y4, q_may_y _ D L n hk rk s1, q_may_n _ D L n hl s2]
            · refine ⟨-4, D, n, D, ?_, ?_, rfl, rfl, hR⟩
              · rw [dn_X11_swap, b_X11_swap_0]
                simp only [z_cd, i10, i11, dnn, rdU, eW, eU, tzC_w, w_shp, w_ptr, Nat.beq_refl, nbz, nb133, nb75, nb55, nb67, n133a, n133b, n75a, n75b, aT, aR, oT, oR, oF, oG, kT, kF, bI, bL, bR, b0, Classical.not_not, not_true_eq_false, not_false_eq_true, and_self, and_true, true_and, ↓reduceIte, decide_true, decide_false, Nat.reduceEqDiff, Nat.reduceLT, Nat.reduceLeDiff, Int.reduceEq, s_tractorAt_y _ D L n hk, s_tractorAt_y _ D L n hl, nb75, b_X11_swap_44, ne, p_isYard, y3, y4, p_canSwap_n _ D L n hk rk e2 s1]
              · rw [dn_X12_swap, b_X12_swap_0]
                simp only [z_cd, i10, i11, dnn, rdU, eW, eU, tzC_w, w_shp, w_ptr, Nat.beq_refl, nbz, nb133, nb75, nb55, nb67, n133a, n133b, n75a, n75b, aT, aR, oT, oR, oF, oG, kT, kF, bI, bL, bR, b0, Classical.not_not, not_true_eq_false, not_false_eq_true, and_self, and_true, true_and, ↓reduceIte, decide_true, decide_false, Nat.reduceEqDiff, Nat.reduceLT, Nat.reduceLeDiff, Int.reduceEq, q_isTractor, ct0, ct1, ne, q_isYard, y3, y4, q_may_n _ D L n hk s1]
          · refine ⟨-1, D, n, D, ?_, ?_, rfl, rfl, hR⟩
            · rw [dn_X11_swap, b_X11_swap_0]
              simp only [z_cd, i10, i11, dnn, rdU, eW, eU, tzC_w, w_shp, w_ptr, Nat.beq_refl, nbz, nb133, nb75, nb55, nb67, n133a, n133b, n75a, n75b, aT, aR, oT, oR, oF, oG, kT, kF, bI, bL, bR, b0, Classical.not_not, not_true_eq_false, not_false_eq_true, and_self, and_true, true_and, ↓reduceIte, decide_true, decide_false, Nat.reduceEqDiff, Nat.reduceLT, Nat.reduceLeDiff, Int.reduceEq, s_tractorAt_y _ D L n hk, s_tractorAt_y _ D L n hl, nb75, b_X11_swap_44, ne, p_isYard, y3, y4]
            · rw [dn_X12_swap, b_X12_swap_0]
              simp only [z_cd, i10, i11, dnn, rdU, eW, eU, tzC_w, w_shp, w_ptr, Nat.beq_refl, nbz, nb133, nb75, nb55, nb67, n133a, n133b, n75a, n75b, aT, aR, oT, oR, oF, oG, kT, kF, bI, bL, bR, b0, Classical.not_not, not_true_eq_false, not_false_eq_true, and_self, and_true, true_and, ↓reduceIte, decide_true, decide_false, Nat.reduceEqDiff, Nat.reduceLT, Nat.reduceLeDiff, Int.reduceEq, q_isTractor, ct0, ct1, ne, q_isYard, y3, y4]
        · refine ⟨-1, D, n, D, ?_, ?_, rfl, rfl, hR⟩
          · rw [dn_X11_swap, b_X11_swap_0]
            simp only [z_cd, i10, i11, dnn, rdU, eW, eU, tzC_w, w_shp, w_ptr, Nat.beq_refl, nbz, nb133, nb75, nb55, nb67, n133a, n133b, n75a, n75b, aT, aR, oT, oR, oF, oG, kT, kF, bI, bL, bR, b0, Classical.not_not, not_true_eq_false, not_false_eq_true, and_self, and_true, true_and, ↓reduceIte, decide_true, decide_false, Nat.reduceEqDiff, Nat.reduceLT, Nat.reduceLeDiff, Int.reduceEq, s_tractorAt_y _ D L n hk, s_tractorAt_y _ D L n hl, nb75, b_X11_swap_44, ne, p_isYard, y3]
          · rw [dn_X12_swap, b_X12_swap_0]
            simp only [z_cd, i10, i11, dnn, rdU, eW, eU, tzC_w, w_shp, w_ptr, Nat.beq_refl, nbz, nb133, nb75, nb55, nb67, n133a, n133b, n75a, n75b, aT, aR, oT, oR, oF, oG, kT, kF, bI, bL, bR, b0, Classical.not_not, not_true_eq_false, not_false_eq_true, and_self, and_true, true_and, ↓reduceIte, decide_true, decide_false, Nat.reduceEqDiff, Nat.reduceLT, Nat.reduceLeDiff, Int.reduceEq, q_isTractor, ct0, ct1, ne, q_isYard, y3]
    · refine ⟨-1, D, n, D, ?_, ?_, rfl, rfl, hR⟩
      · rw [dn_X11_swap, b_X11_swap_0]
        simp only [z_cd, i10, i11, dnn, rdU, eW, eU, tzC_w, w_shp, w_ptr, Nat.beq_refl, nbz, nb133, nb75, nb55, nb67, n133a, n133b, n75a, n75b, aT, aR, oT, oR, oF, oG, kT, kF, bI, bL, bR, b0, Classical.not_not, not_true_eq_false, not_false_eq_true, and_self, and_true, true_and, ↓reduceIte, decide_true, decide_false, Nat.reduceEqDiff, Nat.reduceLT, Nat.reduceLeDiff, Int.reduceEq, s_tractorAt_y _ D L n hk, s_tractorAt_n _ D L n (a := a1) (by omega), nb75, b_X11_swap_44]
      · rw [dn_X12_swap, b_X12_swap_0]
        simp only [z_cd, i10, i11, dnn, rdU, eW, eU, tzC_w, w_shp, w_ptr, Nat.beq_refl, nbz, nb133, nb75, nb55, nb67, n133a, n133b, n75a, n75b, aT, aR, oT, oR, oF, oG, kT, kF, bI, bL, bR, b0, Classical.not_not, not_true_eq_false, not_false_eq_true, and_self, and_true, true_and, ↓reduceIte, decide_true, decide_false, Nat.reduceEqDiff, Nat.reduceLT, Nat.reduceLeDiff, Int.reduceEq, q_isTractor, ct0, ct1]
  · by_cases ct1 : 0 ≤ a1 ∧ a1 ≤ 5
    · obtain ⟨l, e⟩ : ∃ l : Nat, a1 = l := ⟨a1.toNat, by omega⟩
      subst e
      have hl : l < 6 := by omega
      refine ⟨-1, D, n, D, ?_, ?_, rfl, rfl, hR⟩
      · rw [dn_X11_swap, b_X11_swap_0]
        simp only [z_cd, i10, i11, dnn, rdU, eW, eU, tzC_w, w_shp, w_ptr, Nat.beq_refl, nbz, nb133, nb75, nb55, nb67, n133a, n133b, n75a, n75b, aT, aR, oT, oR, oF, oG, kT, kF, bI, bL, bR, b0, Classical.not_not, not_true_eq_false, not_false_eq_true, and_self, and_true, true_and, ↓reduceIte, decide_true, decide_false, Nat.reduceEqDiff, Nat.reduceLT, Nat.reduceLeDiff, Int.reduceEq, s_tractorAt_n _ D L n (a := a0) (by omega), s_tractorAt_y _ D L n hl, b_X11_swap_44]
      · rw [dn_X12_swap, b_X12_swap_0]
        simp only [z_cd, i10, i11, dnn, rdU, eW, eU, tzC_w, w_shp, w_ptr, Nat.beq_refl, nbz, nb133, nb75, nb55, nb67, n133a, n133b, n75a, n75b, aT, aR, oT, oR, oF, oG, kT, kF, bI, bL, bR, b0, Classical.not_not, not_true_eq_false, not_false_eq_true, and_self, and_true, true_and, ↓reduceIte, decide_true, decide_false, Nat.reduceEqDiff, Nat.reduceLT, Nat.reduceLeDiff, Int.reduceEq, q_isTractor, ct0, ct1]
    · refine ⟨-1, D, n, D, ?_, ?_, rfl, rfl, hR⟩
      · rw [dn_X11_swap, b_X11_swap_0]
        simp only [z_cd, i10, i11, dnn, rdU, eW, eU, tzC_w, w_shp, w_ptr, Nat.beq_refl, nbz, nb133, nb75, nb55, nb67, n133a, n133b, n75a, n75b, aT, aR, oT, oR, oF, oG, kT, kF, bI, bL, bR, b0, Classical.not_not, not_true_eq_false, not_false_eq_true, and_self, and_true, true_and, ↓reduceIte, decide_true, decide_false, Nat.reduceEqDiff, Nat.reduceLT, Nat.reduceLeDiff, Int.reduceEq, s_tractorAt_n _ D L n (a := a0) (by omega), s_tractorAt_n _ D L n (a := a1) (by omega), b_X11_swap_44]
      · rw [dn_X12_swap, b_X12_swap_0]
        simp only [z_cd, i10, i11, dnn, rdU, eW, eU, tzC_w, w_shp, w_ptr, Nat.beq_refl, nbz, nb133, nb75, nb55, nb67, n133a, n133b, n75a, n75b, aT, aR, oT, oR, oF, oG, kT, kF, bI, bL, bR, b0, Classical.not_not, not_true_eq_false, not_false_eq_true, and_self, and_true, true_and, ↓reduceIte, decide_true, decide_false, Nat.reduceEqDiff, Nat.reduceLT, Nat.reduceLeDiff, Int.reduceEq, q_isTractor, ct0, ct1]
