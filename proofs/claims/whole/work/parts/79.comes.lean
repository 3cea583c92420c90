/-! ===== what only the working rows differ in ===== -/
def PVq (b : Nat) (_ : Int) : Prop := (8 ≤ b ∧ b ≤ 11) ∨ (88 ≤ b ∧ b ≤ 91)
theorem Sm_off {P : Nat → Int → Prop} {A : Nat} {D D' : Nat → Int → Int} (h : Ofq A D D') (p : ∀ j, ¬ P A j) : Sm P D D' := fun b j q => h b j (fun e => p j (e ▸ q))
theorem Rel_off {A : Nat} {D D' : Nat → Int → Int} {n : Nat} (o : oka A) (h : Ofq A D D') (r : Rel D n) : Rel D' n := by
  refine Rel_fr (Sm_off h ?_) (RA_fr (Sm_off h ?_) r.1) r
  · intro j
    unfold PZ PL PW PN PC PT PD PK PB PQ PX PM PP PS
    unfold oka at o
    omega
  · intro j
    unfold PA
    unfold oka at o
    omega
theorem Ofq_1 {A : Nat} {D D' : Nat → Int → Int} (o : oka A) (h : Ofq A D D') : D' 1 = D 1 := by funext j; exact h 1 j (by unfold oka at o; omega)
theorem Ofq_Rm {A : Nat} {D D' : Nat → Int → Int} (o : oka A) (h : Ofq A D D') (f : Int) : Ofq A (tzRm D f) (tzRm D' f) := by
  intro b j q
  have e := h 82 f (by unfold oka at o; omega)
  have e2 := h b j q
  unfold tzRm tzU
  rw [e, e2]
theorem Wy_sm {D D' : Nat → Int → Int} (s : Sm PVq D D') (w : WY D) : WY D' := WY_fr (fun b j q => s b j q) w
theorem Hd_sm {D D' : Nat → Int → Int} (s : Sm PVq D D') (w : ∀ y : Int, 0 ≤ y → y < 8 → D 88 (9 * y) = 0) : ∀ y : Int, 0 ≤ y → y < 8 → D' 88 (9 * y) = 0 := fun y y0 y1 => (s 88 _ (by unfold PVq; omega)).trans (w y y0 y1)
theorem er_sm {D D' : Nat → Int → Int} (s : Sm PVq D D') (bt a t y : Int) : erq D' bt a t y = erq D bt a t y := er_fr (fun b j h1 h2 => s b j (by unfold PVq; omega)) bt a t y
theorem Sm_v {A : Nat} {D D' : Nat → Int → Int} (o : oka A) (h : Ofq A D D') : Sm PVq D D' := Sm_off h (fun j => by unfold PVq; unfold oka at o; omega)
theorem Sm_Rx {D D' : Nat → Int → Int} (f : Int) (s : Sm PVq D D') : Sm PVq D (tzRx D' f) := by unfold tzRx; exact Sm_U (by unfold PVq; omega) (Sm_U (by unfold PVq; omega) s)
theorem o12 : oka 12 := by unfold oka; omega
set_option maxRecDepth 100000 in
set_option maxHeartbeats 400000 in
theorem p_arrival (d L n : Nat) (D : Nat → Int → Int) {a s b : Int} (a0 : 0 ≤ a) (a1 : a < 8) (s0 : 0 ≤ s) (s1 : s ≤ 10000000) (e0 : 0 ≤ b) (e1 : b < 8) (w : WY D) (hd : ∀ y : Int, 0 ≤ y → y < 8 → D 88 (9 * y) = 0) :
    ∃ D', tqden tqP (d + 4) n_X10_arrival [vR 7, vI a, vI s, vI b] (tzW D L n) = some (some (vI (erq D 0 a s b)), tzW D' L n) ∧ Ofq 12 D D' := by
  obtain ⟨D', h1, h2, h3⟩ := p_reach d L n 12 D (fun _ => rfl) o12 (bt := 0) (Or.inl rfl) a0 a1 s0 s1 w hd
  refine ⟨D', ?_, h2⟩
  have hy : 0 ≤ b ∧ b ≤ 7 := ⟨e0, by omega⟩
  have hb2 : tqib b 8 = true := tqib_y (by omega) (by omega)
  rw [← h3 b e0 e1, dn_X10_arrival, b_X10_arrival_0]
  simp only [z_cd, i10, i11, dnn, rdU, eW, eU, tzC_w, w_shp, w_ptr, Nat.beq_refl, nbz, nb133, nb75, nb55, nb67, n133a, n133b, n75a, n75b, aT, aR, oT, oR, oF, oG, kT, kF, bI, bL, bR, b0, Classical.not_not, not_true_eq_false, not_false_eq_true, and_self, and_true, true_and, ↓reduceIte, decide_true, decide_false, Nat.reduceEqDiff, Nat.reduceLT, Nat.reduceLeDiff, Int.reduceEq, h1, p_isYard, hy, hb2]
set_option maxRecDepth 100000 in
set_option maxHeartbeats 400000 in
theorem p_lToll (d L n : Nat) (D : Nat → Int → Int) {a b : Int} (a0 : 0 ≤ a) (a1 : a < 8) (e0 : 0 ≤ b) (e1 : b < 8) (w : WY D) (hd : ∀ y : Int, 0 ≤ y → y < 8 → D 88 (9 * y) = 0) :
    ∃ D', tqden tqP (d + 4) n_X10_leastToll [vR 7, vI a, vI b] (tzW D L n) = some (some (vI (erq D 1 a 0 b)), tzW D' L n) ∧ Ofq 12 D D' := by
  obtain ⟨D', h1, h2, h3⟩ := p_reach d L n 12 D (fun _ => rfl) o12 (bt := 1) (Or.inr rfl) a0 a1 (s := 0) (by omega) (by omega) w hd
  refine ⟨D', ?_, h2⟩
  have hy : 0 ≤ b ∧ b ≤ 7 := ⟨e0, by omega⟩
  have hb2 : tqib b 8 = true := tqib_y (by omega) (by omega)
  rw [← h3 b e0 e1, dn_X10_leastToll, b_X10_leastToll_0]
  simp only [z_cd, i10, i11, dnn, rdU, eW, eU, tzC_w, w_shp, w_ptr, Nat.beq_refl, nbz, nb133, nb75, nb55, nb67, n133a, n133b, n75a, n75b, aT, aR, oT, oR, oF, oG, kT, kF, bI, bL, bR, b0, Classical.not_not, not_true_eq_false, not_false_eq_true, and_self, and_true, true_and, ↓reduceIte, decide_true, decide_false, Nat.reduceEqDiff, Nat.reduceLT, Nat.reduceLeDiff, Int.reduceEq, h1, p_isYard, hy, hb2]
set_option maxRecDepth 100000 in
set_option maxHeartbeats 400000 in
theorem p_orN_y (d : Nat) (D : Nat → Int → Int) (L n : Nat) : tqden tqP (d + 2) n_X11_orNothing [vR 2, vI 2147483647] (tzW D L n) = some (some (vI (-3)), tzW (tzRx D 1) L n) := by
  rw [dn_X11_orNothing, b_X11_orNothing_0]
  simp only [z_cd, i10, i11, dnn, rdU, eW, eU, tzC_w, w_shp, w_ptr, Nat.beq_refl, nbz, nb133, nb75, nb55, nb67, n133a, n133b, n75a, n75b, aT, aR, oT, oR, oF, oG, kT, kF, bI, bL, bR, b0, Classical.not_not, not_true_eq_false, not_false_eq_true, and_self, and_true, true_and, ↓reduceIte, decide_true, decide_false, Nat.reduceEqDiff, Nat.reduceLT, Nat.reduceLeDiff, Int.reduceEq, s_refuse _ D L n (f := 1) (by decide) (by decide)]
set_option maxRecDepth 100000 in
set_option maxHeartbeats 400000 in
theorem p_orN_n (d : Nat) (x : Int) (m : tqM) (h : ¬ x = 2147483647) : tqden tqP (d + 2) n_X11_orNothing [vR 2, vI x] m = some (some (vI x), m) := by
  rw [dn_X11_orNothing, b_X11_orNothing_0]
  simp only [z_cd, i10, i11, dnn, rdU, eW, eU, tzC_w, w_shp, w_ptr, Nat.beq_refl, nbz, nb133, nb75, nb55, nb67, n133a, n133b, n75a, n75b, aT, aR, oT, oR, oF, oG, kT, kF, bI, bL, bR, b0, Classical.not_not, not_true_eq_false, not_false_eq_true, and_self, and_true, true_and, ↓reduceIte, decide_true, decide_false, Nat.reduceEqDiff, Nat.reduceLT, Nat.reduceLeDiff, Int.reduceEq, h]
theorem nv_n {x : Int} (h : ¬ x = 2147483647) : nv x = x := if_neg h
theorem nv_y : nv 2147483647 = 100000000 := if_pos rfl
theorem hd_of {D : Nat → Int → Int} (h : RW D) : ∀ y : Int, 0 ≤ y → y < 8 → D 88 (9 * y) = 0 := fun y y0 y1 => h.2.2.1 y y0 y1
set_option maxRecDepth 100000 in
set_option maxHeartbeats 400000 in
theorem ag_comes {L : Nat} (a0 a1 a2 : Int) : AgI Rel L n_X11_comes n_X12_comes [vI a0, vI a1, vI a2] := by
  intro D n hR
  obtain ⟨hA, hL, hW, hN, ⟨c1, c2, c3⟩, hT, hD, hK, hB, hQ, hX, hM, hP, hS⟩ := id hR
  have w := WY_of hW
  have hd := hd_of hW
  by_cases y1 : 0 ≤ a0 ∧ a0 ≤ 7
  · by_cases y2 : 0 ≤ a1 ∧ a1 ≤ 99999
    · by_cases y3 : 0 ≤ a2 ∧ a2 ≤ 7
      · obtain ⟨D1, u1, u2⟩ := p_arrival 1394 L n D (a := a0) (s := a1) (b := a2) (by omega) (by omega) (by omega) (by omega) (by omega) (by omega) w hd
        have sv := Sm_v o12 u2
        have g := er_ok w hd (bt := 0) (Or.inl rfl) (a := a0) (s := a1) (y := a2) (by omega) (by omega) (by omega) (by omega) (by omega) (by omega)
        have gb := er_b w (by omega) (by omega) g
        by_cases hv : erq D 0 a0 a1 a2 = 2147483647
        · have sx := Sm_Rx 1 sv
          obtain ⟨D2, v1, v2⟩ := q_comesTo 1396 L n (tzRx D1 1) (a := a0) (s := a1) (b := a2) (by omega) (by omega) (by omega) (by omega) (by omega) (by omega) (Wy_sm sx w) (Hd_sm sx hd)
          rw [er_sm sx, hv, nv_y] at v1
          rw [hv] at u1
          refine ⟨-3, tzRx D1 1, n, tzRm D2 1, ?_, ?_, ?_, ?_, Rel_off o92 (Ofq_Rm o92 v2 1) (Rel_ref (Rel_off o12 u2 hR) (by omega) (by omega))⟩
          · rw [dn_X11_comes, b_X11_comes_0]
            simp only [z_cd, i10, i11, dnn, rdU, eW, eU, tzC_w, w_shp, w_ptr, Nat.beq_refl, nbz, nb133, nb75, nb55, nb67, n133a, n133b, n75a, n75b, aT, aR, oT, oR, oF, oG, kT, kF, bI, bL, bR, b0, Classical.not_not, not_true_eq_false, not_false_eq_true, and_self, and_true, true_and, ↓reduceIte, decide_true, decide_false, Nat.reduceEqDiff, Nat.reduceLT, Nat.reduceLeDiff, Int.reduceEq, p_isYard, y1, y3, p_isWithin, y2, u1, p_orN_y]
          · rw [dn_X12_comes, b_X12_comes_0]
            simp only [z_cd, i10, i11, dnn, rdU, eW, eU, tzC_w, w_shp, w_ptr, Nat.beq_refl, nbz, nb133, nb75, nb55, nb67, n133a, n133b, n75a, n75b, aT, aR, oT, oR, oF, oG, kT, kF, bI, bL, bR, b0, Classical.not_not, not_true_eq_false, not_false_eq_true, and_self, and_true, true_and, ↓reduceIte, decide_true, decide_false, Nat.reduceEqDiff, Nat.reduceLT, Nat.reduceLeDiff, Int.reduceEq, q_isYard, y1, y3, p_in, y2, v1, s_meets _ D2 L n (f := 1) (by decide) (by decide), Int.reduceLE]
          · exact (Sm_1 (by unfold tzRx; (repeat (refine Sm_U (by omega) ?_)); exact Sm_r _ _)).trans (Ofq_1 o12 u2)
          · exact (Sm_1 (by unfold tzRm; (repeat (refine Sm_U (by omega) ?_)); exact Sm_r _ _)).trans ((Ofq_1 o92 v2).trans ((Sm_1 (by unfold tzRx; (repeat (refine Sm_U (by omega) ?_)); exact Sm_r _ _)).trans (Ofq_1 o12 u2)))
        · have lt : ¬ 100000000 ≤ erq D 0 a0 a1 a2 := by omega
          obtain ⟨D2, v1, v2⟩ := q_comesTo 1396 L n D1 (a := a0) (s := a1) (b := a2) (by omega) (by omega) (by omega) (by omega) (by omega) (by omega) (Wy_sm sv w) (Hd_sm sv hd)
          rw [er_sm sv, nv_n hv] at v1
          refine ⟨erq D 0 a0 a1 a2, D1, n, D2, ?_, ?_, Ofq_1 o12 u2, (Ofq_1 o92 v2).trans (Ofq_1 o12 u2), Rel_off o92 v2 (Rel_off o12 u2 hR)⟩
          · rw [dn_X11_comes, b_X11_comes_0]
            simp only [z_cd, i10, i11, dnn, rdU, eW, eU, tzC_w, w_shp, w_ptr, Nat.beq_refl, nbz, nb133, nb75, nb55, nb67, n133a, n133b, n75a, n75b, aT, aR, oT, oR, oF, oG, kT, kF, bI, bL, bR, b0, Classical.not_not, not_true_eq_false, not_false_eq_true, and_self, and_true, true_and, ↓reduceIte, decide_true, decide_false, Nat.reduceEqDiff, Nat.reduceLT, Nat.reduceLeDiff, Int.reduceEq, p_isYard, y1, y3, p_isWithin, y2, u1, p_orN_n _ _ _ hv]
          · rw [dn_X12_comes, b_X12_comes_0]
            simp only [z_cd, i10, i11, dnn, rdU, eW, eU, tzC_w, w_shp, w_ptr, Nat.beq_refl, nbz, nb133, nb75, nb55, nb67, n133a, n133b, n75a, n75b, aT, aR, oT, oR, oF, oG, kT, kF, bI, bL, bR, b0, Classical.not_not, not_true_eq_false, not_false_eq_true, and_self, and_true, true_and, ↓reduceIte, decide_true, decide_false, Nat.reduceEqDiff, Nat.reduceLT, Nat.reduceLeDiff, Int.reduceEq, q_isYard, y1, y3, p_in, y2, v1, lt]
      · refine ⟨-1, D, n, D, ?_, ?_, rfl, rfl, hR⟩
        · rw [dn_X11_comes, b_X11_comes_0]
          simp only [z_cd, i10, i11, dnn, rdU, eW, eU, tzC_w, w_shp, w_ptr, Nat.beq_refl, nbz, nb133, nb75, nb55, nb67, n133a, n133b, n75a, n75b, aT, aR, oT, oR, oF, oG, kT, kF, bI, bL, bR, b0, Classical.not_not, not_true_eq_false, not_false_eq_true, and_self, and_true, true_and, ↓reduceIte, decide_true, decide_false, Nat.reduceEqDiff, Nat.reduceLT, Nat.reduceLeDiff, Int.reduceEq, p_isYard, p_isWithin, ite_self, y1, y2, y3]
        · rw [dn_X12_comes, b_X12_comes_0]
          simp only [z_cd, i10, i11, dnn, rdU, eW, eU, tzC_w, w_shp, w_ptr, Nat.beq_refl, nbz, nb133, nb75, nb55, nb67, n133a, n133b, n75a, n75b, aT, aR, oT, oR, oF, oG, kT, kF, bI, bL, bR, b0, Classical.not_not, not_true_eq_false, not_false_eq_true, and_self, and_true, true_and, ↓reduceIte, decide_true, decide_false, Nat.reduceEqDiff, Nat.reduceLT, Nat.reduceLeDiff, Int.reduceEq, q_isYard, p_in, ite_self, y1, y2, y3]
    · refine ⟨-1, D, n, D, ?_, ?_, rfl, rfl, hR⟩
      · rw [dn_X11_comes, b_X11_comes_0]
        simp only [z_cd, i10, i11, dnn, rdU, eW, eU, tzC_w, w_shp, w_ptr, Nat.beq_refl, nbz, nb133, nb75, nb55, nb67, n133a, n133b, n75a, n75b, aT, aR, oT, oR, oF, oG, kT, kF, bI, bL, bR, b0, Classical.not_not, not_true_eq_false, not_false_eq_true, and_self, and_true, true_and, ↓reduceIte, decide_true, decide_false, Nat.reduceEqDiff, Nat.reduceLT, Nat.reduceLeDiff, Int.reduceEq, p_isYard, p_isWithin, ite_self, y1, y2]
      · rw [dn_X12_comes, b_X12_comes_0]
        simp only [z_cd, i10, i11, dnn, rdU, eW, eU, tzC_w, w_shp, w_ptr, Nat.beq_refl, nbz, nb133, nb75, nb55, nb67, n133a, n133b, n75a, n75b, aT, aR, oT, oR, oF, oG, kT, kF, bI, bL, bR, b0, Classical.not_not, not_true_eq_false, not_false_eq_true, and_self, and_true, true_and, ↓reduceIte, decide_true, decide_false, Nat.reduceEqDiff, Nat.reduceLT, Nat.reduceLeDiff, Int.reduceEq, q_isYard, p_in, ite_self, y1, y2]
  · refine ⟨-1, D, n, D, ?_, ?_, rfl, rfl, hR⟩
    · rw [dn_X11_comes, b_X11_comes_0]
      simp only [z_cd, i10, i11, dnn, rdU, eW, eU, tzC_w, w_shp, w_ptr, Nat.beq_refl, nbz, nb133, nb75, nb55, nb67, n133a, n133b, n75a, n75b, aT, aR, oT, oR, oF, oG, kT, kF, bI, bL, bR, b0, Classical.not_not, not_true_eq_false, not_false_eq_true, and_self, and_true, true_and, ↓reduceIte, decide_true, decide_false, Nat.reduceEqDiff, Nat.reduceLT, Nat.reduceLeDiff, Int.reduceEq, p_isYard, p_isWithin, ite_self, y1]
    · rw [dn_X12_comes, b_X12_comes_0]
      simp only [z_cd, i10, i11, dnn, rdU, eW, eU, tzC_w, w_shp, w_ptr, Nat.beq_refl, nbz, nb133, nb75, nb55, nb67, n133a, n133b, n75a, n75b, aT, aR, oT, oR, oF, oG, kT, kF, bI, bL, bR, b0, Classical.not_not, not_true_eq_false, not_false_eq_true, and_self, and_true, true_and, ↓reduceIte, decide_true, decide_false, Nat.reduceEqDiff, Nat.reduceLT, Nat.reduceLeDiff, Int.reduceEq, q_isYard, p_in, ite_self, y1]
set_option maxRecDepth 100000 in
set_option maxHeartbeats 400000 in
theorem ag_toll {L : Nat} (a0 a1 : Int) : AgI Rel L n_X11_toll n_X12_toll [vI a0, vI a1] := by
  intro D n hR
  obtain ⟨hA, hL, hW, hN, ⟨c1, c2, c3⟩, hT, hD, hK, hB, hQ, hX, hM, hP, hS⟩ := id hR
  have w := WY_of hW
  have hd := hd_of hW
  by_cases y1 : 0 ≤ a0 ∧ a0 ≤ 7
  · by_cases y2 : 0 ≤ a1 ∧ a1 ≤ 7
    · obtain ⟨D1, u1, u2⟩ := p_lToll 1394 L n D (a := a0) (b := a1) (by omega) (by omega) (by omega) (by omega) w hd
      have sv := Sm_v o12 u2
      by_cases hv : erq D 1 a0 0 a1 = 2147483647
      · have sx := Sm_Rx 1 sv
        obtain ⟨D2, v1, v2⟩ := q_toll 1397 L n (tzRx D1 1) (a := a0) (b := a1) (by omega) (by omega) (by omega) (by omega) (Wy_sm sx w) (Hd_sm sx hd)
        rw [er_sm sx, if_pos hv] at v1
        rw [hv] at u1
        refine ⟨-3, tzRx D1 1, n, tzRm D2 1, ?_, ?_, ?_, ?_, Rel_off o92 (Ofq_Rm o92 v2 1) (Rel_ref (Rel_off o12 u2 hR) (by omega) (by omega))⟩
        · rw [dn_X11_toll, b_X11_toll_0]
          simp only [z_cd, i10, i11, dnn, rdU, eW, eU, tzC_w, w_shp, w_ptr, Nat.beq_refl, nbz, nb133, nb75, nb55, nb67, n133a, n133b, n75a, n75b, aT, aR, oT, oR, oF, oG, kT, kF, bI, bL, bR, b0, Classical.not_not, not_true_eq_false, not_false_eq_true, and_self, and_true, true_and, ↓reduceIte, decide_true, decide_false, Nat.reduceEqDiff, Nat.reduceLT, Nat.reduceLeDiff, Int.reduceEq, p_isYard, y1, y2, u1, p_orN_y]
        · rw [dn_X12_toll, b_X12_toll_0]
          simp only [z_cd, i10, i11, dnn, rdU, eW, eU, tzC_w, w_shp, w_ptr, Nat.beq_refl, nbz, nb133, nb75, nb55, nb67, n133a, n133b, n75a, n75b, aT, aR, oT, oR, oF, oG, kT, kF, bI, bL, bR, b0, Classical.not_not, not_true_eq_false, not_false_eq_true, and_self, and_true, true_and, ↓reduceIte, decide_true, decide_false, Nat.reduceEqDiff, Nat.reduceLT, Nat.reduceLeDiff, Int.reduceEq, q_isYard, y1, y2, v1]
        · exact (Sm_1 (by unfold tzRx; (repeat (refine Sm_U (by omega) ?_)); exact Sm_r _ _)).trans (Ofq_1 o12 u2)
        · exact (Sm_1 (by unfold tzRm; (repeat (refine Sm_U (by omega) ?_)); exact Sm_r _ _)).trans ((Ofq_1 o92 v2).trans ((Sm_1 (by unfold tzRx; (repeat (refine Sm_U (by omega) ?_)); exact Sm_r _ _)).trans (Ofq_1 o12 u2)))
      · obtain ⟨D2, v1, v2⟩ := q_toll 1397 L n D1 (a := a0) (b := a1) (by omega) (by omega) (by omega) (by omega) (Wy_sm sv w) (Hd_sm sv hd)
        rw [er_sm sv, if_neg hv] at v1
        refine ⟨erq D 1 a0 0 a1, D1, n, D2, ?_, ?_, Ofq_1 o12 u2, (Ofq_1 o92 v2).trans (Ofq_1 o12 u2), Rel_off o92 v2 (Rel_off o12 u2 hR)⟩
        · rw [dn_X11_toll, b_X11_toll_0]
          simp only [z_cd, i10, i11, dnn, rdU, eW, eU, tzC_w, w_shp, w_ptr, Nat.beq_refl, nbz, nb133, nb75, nb55, nb67, n133a, n133b, n75a, n75b, aT, aR, oT, oR, oF, oG, kT, kF, bI, bL, bR, b0, Classical.not_not, not_true_eq_false, not_false_eq_true, and_self, and_true, true_and, ↓reduceIte, decide_true, decide_false, Nat.reduceEqDiff, Nat.reduceLT, Nat.reduceLeDiff, Int.reduceEq, p_isYard, y1, y2, u1, p_orN_n _ _ _ hv]
        · rw [dn_X12_toll, b_X12_toll_0]
          simp only [z_cd, i10, i11, dnn, rdU, eW, eU, tzC_w, w_shp, w_ptr, Nat.beq_refl, nbz, nb133, nb75, nb55, nb67, n133a, n133b, n75a, n75b, aT, aR, oT, oR, oF, oG, kT, kF, bI, bL, bR, b0, Classical.not_not, not_true_eq_false, not_false_eq_true, and_self, and_true, true_and, ↓reduceIte, decide_true, decide_false, Nat.reduceEqDiff, Nat.reduceLT, Nat.reduceLeDiff, Int.reduceEq, q_isYard, y1, y2, v1]
    · refine ⟨-1, D, n, D, ?_, ?_, rfl, rfl, hR⟩
      · rw [dn_X11_toll, b_X11_toll_0]
        simp only [z_cd, i10, i11, dnn, rdU, eW, eU, tzC_w, w_shp, w_ptr, Nat.beq_refl, nbz, nb133, nb75, nb55, nb67, n133a, n133b, n75a, n75b, aT, aR, oT, oR, oF, oG, kT, kF, bI, bL, bR, b0, Classical.not_not, not_true_eq_false, not_false_eq_true, and_self, and_true, true_and, ↓reduceIte, decide_true, decide_false, Nat.reduceEqDiff, Nat.reduceLT, Nat.reduceLeDiff, Int.reduceEq, p_isYard, p_isWithin, ite_self, y1, y2]
      · rw [dn_X12_toll, b_X12_toll_0]
        simp only [z_cd, i10, i11, dnn, rdU, eW, eU, tzC_w, w_shp, w_ptr, Nat.beq_refl, nbz, nb133, nb75, nb55, nb67, n133a, n133b, n75a, n75b, aT, aR, oT, oR, oF, oG, kT, kF, bI, bL, bR, b0, Classical.not_not, not_true_eq_false, not_false_eq_true, and_self, and_true, true_and, ↓reduceIte, decide_true, decide_false, Nat.reduceEqDiff, Nat.reduceLT, Nat.reduceLeDiff, Int.reduceEq, q_isYard, p_in, ite_self, y1, y2]
  · refine ⟨-1, D, n, D, ?_, ?_, rfl, rfl, hR⟩
    · rw [dn_X11_toll, b_X11_toll_0]
      simp only [z_cd, i10, i11, dnn, rdU, eW, eU, tzC_w, w_shp, w_ptr, Nat.beq_refl, nbz, nb133, nb75, nb55, nb67, n133a, n133b, n75a, n75b, aT, aR, oT, oR, oF, oG, kT, kF, bI, bL, bR, b0, Classical.not_not, not_true_eq_false, not_false_eq_true, and_self, and_true, true_and, ↓reduceIte, decide_true, decide_false, Nat.reduceEqDiff, Nat.reduceLT, Nat.reduceLeDiff, Int.reduceEq, p_isYard, p_isWithin, ite_self, y1]
    · rw [dn_X12_toll, b_X12_toll_0]
      simp only [z_cd, i10, i11, dnn, rdU, eW, eU, tzC_w, w_shp, w_ptr, Nat.beq_refl, nbz, nb133, nb75, nb55, nb67, n133a, n133b, n75a, n75b, aT, aR, oT, oR, oF, oG, kT, kF, bI, bL, bR, b0, Classical.not_not, not_true_eq_false, not_false_eq_true, and_self, and_true, true_and, ↓reduceIte, decide_true, decide_false, Nat.reduceEqDiff, Nat.reduceLT, Nat.reduceLeDiff, Int.reduceEq, q_isYard, p_in, ite_self, y1]
