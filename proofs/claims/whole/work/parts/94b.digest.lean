/-! ===== digest: the book, the terms, rows and texts ===== -/
def sBq (D : Nat → Int → Int) (i h : Int) : Int := mxq (mxq (mxq (mxq h (D 110 i)) (D 111 i)) (D 112 i)) (D 113 i)
set_option maxRecDepth 100000 in
set_option maxHeartbeats 1000000 in
theorem p_dB (d : Nat) (D : Nat → Int → Int) (L n : Nat) {N : Int} (b : BE D N) : ∀ (j : Nat) (i h : Int), 0 ≤ i → i + j = N → tqrun tqP (d + 2) tqc_X1_mixInto 5 [vR 13, vU, vU, vL h, vU, vI i] [] (tzW D L n) = some (some (vL (itq (sBq D) j i h)), tzW D L n)
  | 0, i, h, i0, ij => by
    have c : N ≤ i := by omega
    rw [b_X1_mixInto_5]
    simp only [z_cd, i10, i11, dnn, rdU, eW, eU, tzC_w, w_shp, w_ptr, Nat.beq_refl, nbz, nb133, nb75, nb55, nb67, n133a, n133b, n75a, n75b, aT, aR, oT, oR, oF, oG, kT, kF, bI, bL, bR, b0, Classical.not_not, not_true_eq_false, not_false_eq_true, and_self, and_true, true_and, ↓reduceIte, decide_true, decide_false, Nat.reduceEqDiff, Nat.reduceLT, Nat.reduceLeDiff, Int.reduceEq, b.1, c]
    rfl
  | j + 1, i, h, i0, ij => by
    have c : ¬ N ≤ i := by omega
    have hb := ib60 i0 (show i < N by omega) b.2.2.2.1
    obtain ⟨g1, g2, g3, g4, _⟩ := b.2.2.2.2 i i0 (by omega)
    have ih := p_dB d D L n b j (i + 1) (sBq D i h) (by omega) (by omega)
    have es : sBq D i h = mxq (mxq (mxq (mxq h (D 110 i)) (D 111 i)) (D 112 i)) (D 113 i) := rfl
    have e1 := w32_e i0 (show i < N by omega) b.2.2.2.1
    rw [itq_S, ← ih, es, b_X1_mixInto_5]
    simp only [z_cd, i10, i11, dnn, rdU, eW, eU, tzC_w, w_shp, w_ptr, Nat.beq_refl, nbz, nb133, nb75, nb55, nb67, n133a, n133b, n75a, n75b, aT, aR, oT, oR, oF, oG, kT, kF, bI, bL, bR, b0, Classical.not_not, not_true_eq_false, not_false_eq_true, and_self, and_true, true_and, ↓reduceIte, decide_true, decide_false, Nat.reduceEqDiff, Nat.reduceLT, Nat.reduceLeDiff, Int.reduceEq, b.1, c, hb, g1, g2, g3, g4, p_mix, e1]
set_option maxRecDepth 100000 in
set_option maxHeartbeats 1000000 in
theorem q_d174 (d : Nat) (D : Nat → Int → Int) (L n : Nat) {N : Int} (hN : D 81 34 = N) (N6 : N ≤ 60) : ∀ (j : Nat) (i h : Int), 0 ≤ i → i + j = N → tqrun tqP (d + 2) tqc_X12_digest 174 [vR 81, vI i, vU] [] (tzW (tzU D 81 72 h) L n) = tqrun tqP (d + 2) tqc_X12_digest 230 [vR 81, vI 0, vU] [] (tzW (tzU D 81 72 (itq (sBq D) j i h)) L n)
  | 0, i, h, i0, ij => by
    have c : N ≤ i := by omega
    rw [b_X12_digest_174]
    simp only [z_cd, i10, i11, dnn, rdU, eW, eU, tzC_w, w_shp, w_ptr, Nat.beq_refl, nbz, nb133, nb75, nb55, nb67, n133a, n133b, n75a, n75b, aT, aR, oT, oR, oF, oG, kT, kF, bI, bL, bR, b0, Classical.not_not, not_true_eq_false, not_false_eq_true, and_self, and_true, true_and, ↓reduceIte, decide_true, decide_false, Nat.reduceEqDiff, Nat.reduceLT, Nat.reduceLeDiff, Int.reduceEq, hN, c]
    rfl
  | j + 1, i, h, i0, ij => by
    have c : ¬ N ≤ i := by omega
    have hb := ib60 i0 (show i < N by omega) N6
    have ih := q_d174 d D L n hN N6 j (i + 1) (sBq D i h) (by omega) (by omega)
    have es : sBq D i h = mxq (mxq (mxq (mxq h (D 110 i)) (D 111 i)) (D 112 i)) (D 113 i) := rfl
    have e1 := w32_e i0 (show i < N by omega) N6
    rw [itq_S, ← ih, es, b_X12_digest_174]
    simp only [z_cd, i10, i11, dnn, rdU, eW, eU, tzC_w, w_shp, w_ptr, Nat.beq_refl, nbz, nb133, nb75, nb55, nb67, n133a, n133b, n75a, n75b, aT, aR, oT, oR, oF, oG, kT, kF, bI, bL, bR, b0, Classical.not_not, not_true_eq_false, not_false_eq_true, and_self, and_true, true_and, ↓reduceIte, decide_true, decide_false, Nat.reduceEqDiff, Nat.reduceLT, Nat.reduceLeDiff, Int.reduceEq, hN, c, hb, q_mix, e1]
def sMq (D : Nat → Int → Int) (i h : Int) : Int := mxq (mxq h (D 115 i)) (D 116 i)
set_option maxRecDepth 100000 in
set_option maxHeartbeats 1000000 in
theorem p_dM (d : Nat) (D : Nat → Int → Int) (L n : Nat) {N : Int} (b : ME D N) : ∀ (j : Nat) (i h : Int), 0 ≤ i → i + j = N → tqrun tqP (d + 2) tqc_X7_mixInto 5 [vR 18, vU, vU, vL h, vU, vI i] [] (tzW D L n) = some (some (vL (itq (sMq D) j i h)), tzW D L n)
  | 0, i, h, i0, ij => by
    have c : N ≤ i := by omega
    rw [b_X7_mixInto_5]
    simp only [z_cd, i10, i11, dnn, rdU, eW, eU, tzC_w, w_shp, w_ptr, Nat.beq_refl, nbz, nb133, nb75, nb55, nb67, n133a, n133b, n75a, n75b, aT, aR, oT, oR, oF, oG, kT, kF, bI, bL, bR, b0, Classical.not_not, not_true_eq_false, not_false_eq_true, and_self, and_true, true_and, ↓reduceIte, decide_true, decide_false, Nat.reduceEqDiff, Nat.reduceLT, Nat.reduceLeDiff, Int.reduceEq, b.1, c]
    rfl
  | j + 1, i, h, i0, ij => by
    have c : ¬ N ≤ i := by omega
    have hb := ib20 i0 (show i < N by omega) b.2.2.2.1
    obtain ⟨g1, g2, _⟩ := b.2.2.2.2 i i0 (by omega)
    have ih := p_dM d D L n b j (i + 1) (sMq D i h) (by omega) (by omega)
    have es : sMq D i h = mxq (mxq h (D 115 i)) (D 116 i) := rfl
    have e1 := w32_20 i0 (show i < N by omega) b.2.2.2.1
    rw [itq_S, ← ih, es, b_X7_mixInto_5]
    simp only [z_cd, i10, i11, dnn, rdU, eW, eU, tzC_w, w_shp, w_ptr, Nat.beq_refl, nbz, nb133, nb75, nb55, nb67, n133a, n133b, n75a, n75b, aT, aR, oT, oR, oF, oG, kT, kF, bI, bL, bR, b0, Classical.not_not, not_true_eq_false, not_false_eq_true, and_self, and_true, true_and, ↓reduceIte, decide_true, decide_false, Nat.reduceEqDiff, Nat.reduceLT, Nat.reduceLeDiff, Int.reduceEq, b.1, c, hb, g1, g2, p_mix, e1]
set_option maxRecDepth 100000 in
set_option maxHeartbeats 1000000 in
theorem q_d230 (d : Nat) (D : Nat → Int → Int) (L n : Nat) {N : Int} (hN : D 81 40 = N) (N6 : N ≤ 20) : ∀ (j : Nat) (i h : Int), 0 ≤ i → i + j = N → tqrun tqP (d + 2) tqc_X12_digest 230 [vR 81, vI i, vU] [] (tzW (tzU D 81 72 h) L n) = tqrun tqP (d + 2) tqc_X12_digest 282 [vR 81, vI 0, vU] [] (tzW (tzU D 81 72 (mxq (mxq (itq (sMq D) j i h) (D 81 46)) (D 81 47))) L n)
  | 0, i, h, i0, ij => by
    have c : N ≤ i := by omega
    rw [b_X12_digest_230]
    simp only [z_cd, i10, i11, dnn, rdU, eW, eU, tzC_w, w_shp, w_ptr, Nat.beq_refl, nbz, nb133, nb75, nb55, nb67, n133a, n133b, n75a, n75b, aT, aR, oT, oR, oF, oG, kT, kF, bI, bL, bR, b0, Classical.not_not, not_true_eq_false, not_false_eq_true, and_self, and_true, true_and, ↓reduceIte, decide_true, decide_false, Nat.reduceEqDiff, Nat.reduceLT, Nat.reduceLeDiff, Int.reduceEq, hN, c, q_mix]
    rfl
  | j + 1, i, h, i0, ij => by
    have c : ¬ N ≤ i := by omega
    have hb := ib20 i0 (show i < N by omega) N6
    have ih := q_d230 d D L n hN N6 j (i + 1) (sMq D i h) (by omega) (by omega)
    have es : sMq D i h = mxq (mxq h (D 115 i)) (D 116 i) := rfl
    have e1 := w32_20 i0 (show i < N by omega) N6
    rw [itq_S, ← ih, es, b_X12_digest_230]
    simp only [z_cd, i10, i11, dnn, rdU, eW, eU, tzC_w, w_shp, w_ptr, Nat.beq_refl, nbz, nb133, nb75, nb55, nb67, n133a, n133b, n75a, n75b, aT, aR, oT, oR, oF, oG, kT, kF, bI, bL, bR, b0, Classical.not_not, not_true_eq_false, not_false_eq_true, and_self, and_true, true_and, ↓reduceIte, decide_true, decide_false, Nat.reduceEqDiff, Nat.reduceLT, Nat.reduceLeDiff, Int.reduceEq, hN, c, hb, q_mix, e1]

def sLr (D : Nat → Int → Int) (r h : Int) : Int := itq (fun i y => mxq y (D 84 (40 * r + i))) (D 83 r).toNat 0 (mxq h (if 0 ≤ D 83 r then D 83 r else -1))
set_option maxRecDepth 100000 in
set_option maxHeartbeats 1000000 in
theorem p_l28r (d : Nat) (D : Nat → Int → Int) (L n : Nat) {r : Nat} (hr : r < 6) {N : Int} (hN : D (55 + 2 * r) 1 = N) (N4 : N ≤ 40) (ev : ∀ i : Int, 0 ≤ i → i < 40 → D (56 + 2 * r) i = D 84 (40 * r + i)) : ∀ (j : Nat) (i h : Int), 0 ≤ i → (i + j = N ∨ (j = 0 ∧ N ≤ i)) → tqrun tqP (d + 2) tqc_X11_mixLines 28 [vU, vU, vR 3, vL h, vU, vI (r : Int), vI i] [] (tzW D L n) = tqrun tqP (d + 2) tqc_X11_mixLines 5 [vU, vU, vR 3, vL (itq (fun i y => mxq y (D 84 (40 * r + i))) j i h), vU, vI ((r : Int) + 1), vU] [] (tzW D L n)
  | 0, i, h, i0, ij => by
    have c : N ≤ i := by omega
    have hb : tqib (r : Int) 6 = true := tqib_y (by omega) (by omega)
    have e1 : w32 ((r : Int) + 1) = (r : Int) + 1 := w32_i (by omega) (by omega)
    rw [b_X11_mixLines_28]
    simp only [z_cd, i10, i11, dnn, rdU, eW, eU, tzC_w, w_shp, w_ptr, Nat.beq_refl, nbz, nb133, nb75, nb55, nb67, n133a, n133b, n75a, n75b, aT, aR, oT, oR, oF, oG, kT, kF, bI, bL, bR, b0, Classical.not_not, not_true_eq_false, not_false_eq_true, and_self, and_true, true_and, ↓reduceIte, decide_true, decide_false, Nat.reduceEqDiff, Nat.reduceLT, Nat.reduceLeDiff, Int.reduceEq, bl3, bl4, hb, (w_lin D L n hr).1, (w_lin D L n hr).2, hN, c, e1]
    rfl
  | j + 1, i, h, i0, ij => by
    have c : ¬ N ≤ i := by omega
    have hb : tqib (r : Int) 6 = true := tqib_y (by omega) (by omega)
    have hb2 : tqib i 40 = true := tqib_y (by omega) (by omega)
    obtain ⟨q1, q2, q3⟩ := w_row D L n hr
    have e0 := ev i i0 (by omega)
    have ih := p_l28r d D L n hr hN N4 ev j (i + 1) (mxq h (D 84 (40 * r + i))) (by omega) (by omega)
    have e1 := w1z i0 (by omega)
    rw [itq_S, ← ih, b_X11_mixLines_28]
    simp only [z_cd, i10, i11, dnn, rdU, eW, eU, tzC_w, w_shp, w_ptr, Nat.beq_refl, nbz, nb133, nb75, nb55, nb67, n133a, n133b, n75a, n75b, aT, aR, oT, oR, oF, oG, kT, kF, bI, bL, bR, b0, Classical.not_not, not_true_eq_false, not_false_eq_true, and_self, and_true, true_and, ↓reduceIte, decide_true, decide_false, Nat.reduceEqDiff, Nat.reduceLT, Nat.reduceLeDiff, Int.reduceEq, bl3, bl4, hb, (w_lin D L n hr).1, (w_lin D L n hr).2, hN, c, q2, q3, hb2, e0, p_mix, e1]
set_option maxRecDepth 100000 in
set_option maxHeartbeats 1000000 in
theorem p_l5r (d : Nat) (D : Nat → Int → Int) (L n : Nat) (hs : ∀ k : Nat, k < 6 → (D (55 + 2 * k) 1 = D 83 k ∧ 0 ≤ D 83 k ∧ D 83 k ≤ 40) ∨ (D (55 + 2 * k) 1 = -1 ∧ D 83 k < 0)) (ev : ∀ (k : Nat) (j : Int), k < 6 → 0 ≤ j → j < 40 → D (56 + 2 * k) j = D 84 (40 * k + j)) : ∀ (j r : Nat) (h : Int), r + j = 6 → tqrun tqP (d + 2) tqc_X11_mixLines 5 [vU, vU, vR 3, vL h, vU, vI (r : Int), vU] [] (tzW D L n) = some (some (vL (itq (sLr D) j r h)), tzW D L n)
  | 0, r, h, rj => by
    have c : ((6 : Nat) : Int) ≤ (r : Int) := by omega
    rw [b_X11_mixLines_5]
    simp only [z_cd, i10, i11, dnn, rdU, eW, eU, tzC_w, w_shp, w_ptr, Nat.beq_refl, nbz, nb133, nb75, nb55, nb67, n133a, n133b, n75a, n75b, aT, aR, oT, oR, oF, oG, kT, kF, bI, bL, bR, b0, Classical.not_not, not_true_eq_false, not_false_eq_true, and_self, and_true, true_and, ↓reduceIte, decide_true, decide_false, Nat.reduceEqDiff, Nat.reduceLT, Nat.reduceLeDiff, Int.reduceEq, bl1, bl2, c]
    rfl
  | j + 1, r, h, rj => by
    have c : ¬ ((6 : Nat) : Int) ≤ (r : Int) := by omega
    have hr : r < 6 := by omega
    have hb : tqib (r : Int) 6 = true := tqib_y (by omega) (by omega)
    have ih := p_l5r d D L n hs ev j (r + 1) (sLr D r h) (by omega)
    rw [show ((r + 1 : Nat) : Int) = (r : Int) + 1 by omega] at ih
    rw [itq_S, ← ih]
    unfold sLr
    rcases hs r hr with ⟨g1, g2, g3⟩ | ⟨g1, g2⟩
    · rw [if_pos g2]
      have r1 := p_l28r d D L n hr g1 g3 (fun i a b => ev r i hr a b) (D 83 r).toNat 0 (mxq h (D 83 r)) (by omega) (by omega)
      rw [← r1, b_X11_mixLines_5]
      simp only [z_cd, i10, i11, dnn, rdU, eW, eU, tzC_w, w_shp, w_ptr, Nat.beq_refl, nbz, nb133, nb75, nb55, nb67, n133a, n133b, n75a, n75b, aT, aR, oT, oR, oF, oG, kT, kF, bI, bL, bR, b0, Classical.not_not, not_true_eq_false, not_false_eq_true, and_self, and_true, true_and, ↓reduceIte, decide_true, decide_false, Nat.reduceEqDiff, Nat.reduceLT, Nat.reduceLeDiff, Int.reduceEq, bl1, bl2, bl3, bl4, c, hb, (w_lin D L n hr).1, (w_lin D L n hr).2, g1, p_mix]
    · rw [if_neg (by omega)]
      have r1 := p_l28r d D L n hr g1 (by omega) (fun i a b => ev r i hr a b) 0 0 (mxq h (-1)) (by omega) (by omega)
      rw [show (D 83 r).toNat = 0 by omega, ← r1, b_X11_mixLines_5]
      simp only [z_cd, i10, i11, dnn, rdU, eW, eU, tzC_w, w_shp, w_ptr, Nat.beq_refl, nbz, nb133, nb75, nb55, nb67, n133a, n133b, n75a, n75b, aT, aR, oT, oR, oF, oG, kT, kF, bI, bL, bR, b0, Classical.not_not, not_true_eq_false, not_false_eq_true, and_self, and_true, true_and, ↓reduceIte, decide_true, decide_false, Nat.reduceEqDiff, Nat.reduceLT, Nat.reduceLeDiff, Int.reduceEq, bl1, bl2, bl3, bl4, c, hb, (w_lin D L n hr).1, (w_lin D L n hr).2, g1, p_mix]
set_option maxRecDepth 100000 in
set_option maxHeartbeats 1000000 in
theorem q_lvr (d : Nat) (D : Nat → Int → Int) (L n : Nat) {r : Nat} (hr : r < 6) {N : Int} (hN : D 83 r = N) (N4 : N ≤ 40) : ∀ (j : Nat) (i h : Int), 0 ≤ i → (i + j = N ∨ (j = 0 ∧ N ≤ i)) → tqrun tqP (d + 2) tqc_X12_digest 313 [vR 81, vI (r : Int), vI i] [] (tzW (tzU D 81 72 h) L n) = tqrun tqP (d + 2) tqc_X12_digest 282 [vR 81, vI ((r : Int) + 1), vU] [] (tzW (tzU D 81 72 (itq (fun i y => mxq y (D 84 (40 * r + i))) j i h)) L n)
  | 0, i, h, i0, ij => by
    have c : N ≤ i := by omega
    have hb : tqib (r : Int) 6 = true := tqib_y (by omega) (by omega)
    have e1 : w32 ((r : Int) + 1) = (r : Int) + 1 := w32_i (by omega) (by omega)
    rw [b_X12_digest_313]
    simp only [z_cd, i10, i11, dnn, rdU, eW, eU, tzC_w, w_shp, w_ptr, Nat.beq_refl, nbz, nb133, nb75, nb55, nb67, n133a, n133b, n75a, n75b, aT, aR, oT, oR, oF, oG, kT, kF, bI, bL, bR, b0, Classical.not_not, not_true_eq_false, not_false_eq_true, and_self, and_true, true_and, ↓reduceIte, decide_true, decide_false, Nat.reduceEqDiff, Nat.reduceLT, Nat.reduceLeDiff, Int.reduceEq, hb, hN, c, e1]
    rfl
  | j + 1, i, h, i0, ij => by
    have c : ¬ N ≤ i := by omega
    have hb : tqib (r : Int) 6 = true := tqib_y (by omega) (by omega)
    have hb2 : tqib (40 * (r : Int) + i) 240 = true := tqib_y (by omega) (by omega)
    have ih := q_lvr d D L n hr hN N4 j (i + 1) (mxq h (D 84 (40 * r + i))) (by omega) (by omega)
    have e0 := w40r (r := r) (show r < 6 by omega) i0 (by omega)
    have e1 := w1z i0 (by clear e0; omega)
    rw [itq_S, ← ih, b_X12_digest_313]
    simp only [z_cd, i10, i11, dnn, rdU, eW, eU, tzC_w, w_shp, w_ptr, Nat.beq_refl, nbz, nb133, nb75, nb55, nb67, n133a, n133b, n75a, n75b, aT, aR, oT, oR, oF, oG, kT, kF, bI, bL, bR, b0, Classical.not_not, not_true_eq_false, not_false_eq_true, and_self, and_true, true_and, ↓reduceIte, decide_true, decide_false, Nat.reduceEqDiff, Nat.reduceLT, Nat.reduceLeDiff, Int.reduceEq, hb, hN, c, e0, hb2, q_mix, e1]
set_option maxRecDepth 100000 in
set_option maxHeartbeats 1000000 in
theorem q_lr (d : Nat) (D : Nat → Int → Int) (L n : Nat) (hs : ∀ k : Nat, k < 6 → (D (55 + 2 * k) 1 = D 83 k ∧ 0 ≤ D 83 k ∧ D 83 k ≤ 40) ∨ (D (55 + 2 * k) 1 = -1 ∧ D 83 k < 0)) : ∀ (j r : Nat) (h : Int), r + j = 6 → tqrun tqP (d + 2) tqc_X12_digest 282 [vR 81, vI (r : Int), vU] [] (tzW (tzU D 81 72 h) L n) = tqrun tqP (d + 2) tqc_X12_digest 352 [vR 81, vI 0, vU] [] (tzW (tzU D 81 72 (itq (sLr D) j r h)) L n)
  | 0, r, h, rj => by
    have c : (6 : Int) ≤ (r : Int) := by omega
    rw [b_X12_digest_282]
    simp only [z_cd, i10, i11, dnn, rdU, eW, eU, tzC_w, w_shp, w_ptr, Nat.beq_refl, nbz, nb133, nb75, nb55, nb67, n133a, n133b, n75a, n75b, aT, aR, oT, oR, oF, oG, kT, kF, bI, bL, bR, b0, Classical.not_not, not_true_eq_false, not_false_eq_true, and_self, and_true, true_and, ↓reduceIte, decide_true, decide_false, Nat.reduceEqDiff, Nat.reduceLT, Nat.reduceLeDiff, Int.reduceEq, c]
    rfl
  | j + 1, r, h, rj => by
    have c : ¬ (6 : Int) ≤ (r : Int) := by omega
    have hr : r < 6 := by omega
    have hb : tqib (r : Int) 6 = true := tqib_y (by omega) (by omega)
    have ih := q_lr d D L n hs j (r + 1) (sLr D r h) (by omega)
    rw [show ((r + 1 : Nat) : Int) = (r : Int) + 1 by omega] at ih
    rw [itq_S, ← ih]
    clear ih
    unfold sLr
    rcases hs r hr with ⟨_, g2, g3⟩ | ⟨_, g2⟩
    · rw [if_pos g2]
      have r1 := q_lvr d D L n hr rfl g3 (D 83 r).toNat 0 (mxq h (D 83 r)) (by omega) (by omega)
      rw [← r1, b_X12_digest_282]
      simp only [z_cd, i10, i11, dnn, rdU, eW, eU, tzC_w, w_shp, w_ptr, Nat.beq_refl, nbz, nb133, nb75, nb55, nb67, n133a, n133b, n75a, n75b, aT, aR, oT, oR, oF, oG, kT, kF, bI, bL, bR, b0, Classical.not_not, not_true_eq_false, not_false_eq_true, and_self, and_true, true_and, ↓reduceIte, decide_true, decide_false, Nat.reduceEqDiff, Nat.reduceLT, Nat.reduceLeDiff, Int.reduceEq, c, hb, g2, q_mix]
    · have g4 : ¬ 0 ≤ D 83 r := by omega
      rw [if_neg g4]
      have r1 := q_lvr d D L n hr rfl (by omega) 0 0 (mxq h (-1)) (by omega) (by omega)
      rw [show (D 83 r).toNat = 0 by omega, ← r1, b_X12_digest_282]
      simp only [z_cd, i10, i11, dnn, rdU, eW, eU, tzC_w, w_shp, w_ptr, Nat.beq_refl, nbz, nb133, nb75, nb55, nb67, n133a, n133b, n75a, n75b, aT, aR, oT, oR, oF, oG, kT, kF, bI, bL, bR, b0, Classical.not_not, not_true_eq_false, not_false_eq_true, and_self, and_true, true_and, ↓reduceIte, decide_true, decide_false, Nat.reduceEqDiff, Nat.reduceLT, Nat.reduceLeDiff, Int.reduceEq, c, hb, g4, q_mix]

def sLt (D : Nat → Int → Int) (r h : Int) : Int := itq (fun i y => mxq y (D 87 (40 * r + i))) (D 86 r).toNat 0 (mxq h (if 0 ≤ D 86 r then D 86 r else -1))
set_option maxRecDepth 100000 in
set_option maxHeartbeats 1000000 in
theorem p_l28t (d : Nat) (D : Nat → Int → Int) (L n : Nat) {r : Nat} (hr : r < 4) {N : Int} (hN : D (67 + 2 * r) 1 = N) (N4 : N ≤ 40) (ev : ∀ i : Int, 0 ≤ i → i < 40 → D (68 + 2 * r) i = D 87 (40 * r + i)) : ∀ (j : Nat) (i h : Int), 0 ≤ i → (i + j = N ∨ (j = 0 ∧ N ≤ i)) → tqrun tqP (d + 2) tqc_X11_mixLines 28 [vU, vU, vR 4, vL h, vU, vI (r : Int), vI i] [] (tzW D L n) = tqrun tqP (d + 2) tqc_X11_mixLines 5 [vU, vU, vR 4, vL (itq (fun i y => mxq y (D 87 (40 * r + i))) j i h), vU, vI ((r : Int) + 1), vU] [] (tzW D L n)
  | 0, i, h, i0, ij => by
    have c : N ≤ i := by omega
    have hb : tqib (r : Int) 4 = true := tqib_y (by omega) (by omega)
    have e1 : w32 ((r : Int) + 1) = (r : Int) + 1 := w32_i (by omega) (by omega)
    rw [b_X11_mixLines_28]
    simp only [z_cd, i10, i11, dnn, rdU, eW, eU, tzC_w, w_shp, w_ptr, Nat.beq_refl, nbz, nb133, nb75, nb55, nb67, n133a, n133b, n75a, n75b, aT, aR, oT, oR, oF, oG, kT, kF, bI, bL, bR, b0, Classical.not_not, not_true_eq_false, not_false_eq_true, and_self, and_true, true_and, ↓reduceIte, decide_true, decide_false, Nat.reduceEqDiff, Nat.reduceLT, Nat.reduceLeDiff, Int.reduceEq, bl3, bl4, hb, (w_txt D L n hr).1, (w_txt D L n hr).2, hN, c, e1]
    rfl
  | j + 1, i, h, i0, ij => by
    have c : ¬ N ≤ i := by omega
    have hb : tqib (r : Int) 4 = true := tqib_y (by omega) (by omega)
    have hb2 : tqib i 40 = true := tqib_y (by omega) (by omega)
    obtain ⟨q1, q2, q3⟩ := text_sh D L n hr
    have e0 := ev i i0 (by omega)
    have ih := p_l28t d D L n hr hN N4 ev j (i + 1) (mxq h (D 87 (40 * r + i))) (by omega) (by omega)
    have e1 := w1z i0 (by omega)
    rw [itq_S, ← ih, b_X11_mixLines_28]
    simp only [z_cd, i10, i11, dnn, rdU, eW, eU, tzC_w, w_shp, w_ptr, Nat.beq_refl, nbz, nb133, nb75, nb55, nb67, n133a, n133b, n75a, n75b, aT, aR, oT, oR, oF, oG, kT, kF, bI, bL, bR, b0, Classical.not_not, not_true_eq_false, not_false_eq_true, and_self, and_true, true_and, ↓reduceIte, decide_true, decide_false, Nat.reduceEqDiff, Nat.reduceLT, Nat.reduceLeDiff, Int.reduceEq, bl3, bl4, hb, (w_txt D L n hr).1, (w_txt D L n hr).2, hN, c, q2, q3, hb2, e0, p_mix, e1]
set_option maxRecDepth 100000 in
set_option maxHeartbeats 1000000 in
theorem p_l5t (d : Nat) (D : Nat → Int → Int) (L n : Nat) (hs : ∀ k : Nat, k < 4 → (D (67 + 2 * k) 1 = D 86 k ∧ 0 ≤ D 86 k ∧ D 86 k ≤ 40) ∨ (D (67 + 2 * k) 1 = -1 ∧ D 86 k < 0)) (ev : ∀ (k : Nat) (j : Int), k < 4 → 0 ≤ j → j < 40 → D (68 + 2 * k) j = D 87 (40 * k + j)) : ∀ (j r : Nat) (h : Int), r + j = 4 → tqrun tqP (d + 2) tqc_X11_mixLines 5 [vU, vU, vR 4, vL h, vU, vI (r : Int), vU] [] (tzW D L n) = some (some (vL (itq (sLt D) j r h)), tzW D L n)
  | 0, r, h, rj => by
    have c : ((4 : Nat) : Int) ≤ (r : Int) := by omega
    rw [b_X11_mixLines_5]
    simp only [z_cd, i10, i11, dnn, rdU, eW, eU, tzC_w, w_shp, w_ptr, Nat.beq_refl, nbz, nb133, nb75, nb55, nb67, n133a, n133b, n75a, n75b, aT, aR, oT, oR, oF, oG, kT, kF, bI, bL, bR, b0, Classical.not_not, not_true_eq_false, not_false_eq_true, and_self, and_true, true_and, ↓reduceIte, decide_true, decide_false, Nat.reduceEqDiff, Nat.reduceLT, Nat.reduceLeDiff, Int.reduceEq, bl1, bl2, c]
    rfl
  | j + 1, r, h, rj => by
    have c : ¬ ((4 : Nat) : Int) ≤ (r : Int) := by omega
    have hr : r < 4 := by omega
    have hb : tqib (r : Int) 4 = true := tqib_y (by omega) (by omega)
    have ih := p_l5t d D L n hs ev j (r + 1) (sLt D r h) (by omega)
    rw [show ((r + 1 : Nat) : Int) = (r : Int) + 1 by omega] at ih
    rw [itq_S, ← ih]
    unfold sLt
    rcases hs r hr with ⟨g1, g2, g3⟩ | ⟨g1, g2⟩
    · rw [if_pos g2]
      have r1 := p_l28t d D L n hr g1 g3 (fun i a b => ev r i hr a b) (D 86 r).toNat 0 (mxq h (D 86 r)) (by omega) (by omega)
      rw [← r1, b_X11_mixLines_5]
      simp only [z_cd, i10, i11, dnn, rdU, eW, eU, tzC_w, w_shp, w_ptr, Nat.beq_refl, nbz, nb133, nb75, nb55, nb67, n133a, n133b, n75a, n75b, aT, aR, oT, oR, oF, oG, kT, kF, bI, bL, bR, b0, Classical.not_not, not_true_eq_false, not_false_eq_true, and_self, and_true, true_and, ↓reduceIte, decide_true, decide_false, Nat.reduceEqDiff, Nat.reduceLT, Nat.reduceLeDiff, Int.reduceEq, bl1, bl2, bl3, bl4, c, hb, (w_txt D L n hr).1, (w_txt D L n hr).2, g1, p_mix]
    · rw [if_neg (by omega)]
      have r1 := p_l28t d D L n hr g1 (by omega) (fun i a b => ev r i hr a b) 0 0 (mxq h (-1)) (by omega) (by omega)
      rw [show (D 86 r).toNat = 0 by omega, ← r1, b_X11_mixLines_5]
      simp only [z_cd, i10, i11, dnn, rdU, eW, eU, tzC_w, w_shp, w_ptr, Nat.beq_refl, nbz, nb133, nb75, nb55, nb67, n133a, n133b, n75a, n75b, aT, aR, oT, oR, oF, oG, kT, kF, bI, bL, bR, b0, Classical.not_not, not_true_eq_false, not_false_eq_true, and_self, and_true, true_and, ↓reduceIte, decide_true, decide_false, Nat.reduceEqDiff, Nat.reduceLT, Nat.reduceLeDiff, Int.reduceEq, bl1, bl2, bl3, bl4, c, hb, (w_txt D L n hr).1, (w_txt D L n hr).2, g1, p_mix]
set_option maxRecDepth 100000 in
set_option maxHeartbeats 1000000 in
theorem q_lvt (d : Nat) (D : Nat → Int → Int) (L n : Nat) {r : Nat} (hr : r < 4) {N : Int} (hN : D 86 r = N) (N4 : N ≤ 40) : ∀ (j : Nat) (i h : Int), 0 ≤ i → (i + j = N ∨ (j = 0 ∧ N ≤ i)) → tqrun tqP (d + 2) tqc_X12_digest 382 [vR 81, vI (r : Int), vI i] [] (tzW (tzU D 81 72 h) L n) = tqrun tqP (d + 2) tqc_X12_digest 352 [vR 81, vI ((r : Int) + 1), vU] [] (tzW (tzU D 81 72 (itq (fun i y => mxq y (D 87 (40 * r + i))) j i h)) L n)
  | 0, i, h, i0, ij => by
    have c : N ≤ i := by omega
    have hb : tqib (r : Int) 4 = true := tqib_y (by omega) (by omega)
    have e1 : w32 ((r : Int) + 1) = (r : Int) + 1 := w32_i (by omega) (by omega)
    rw [b_X12_digest_382]
    simp only [z_cd, i10, i11, dnn, rdU, eW, eU, tzC_w, w_shp, w_ptr, Nat.beq_refl, nbz, nb133, nb75, nb55, nb67, n133a, n133b, n75a, n75b, aT, aR, oT, oR, oF, oG, kT, kF, bI, bL, bR, b0, Classical.not_not, not_true_eq_false, not_false_eq_true, and_self, and_true, true_and, ↓reduceIte, decide_true, decide_false, Nat.reduceEqDiff, Nat.reduceLT, Nat.reduceLeDiff, Int.reduceEq, hb, hN, c, e1]
    rfl
  | j + 1, i, h, i0, ij => by
    have c : ¬ N ≤ i := by omega
    have hb : tqib (r : Int) 4 = true := tqib_y (by omega) (by omega)
    have hb2 : tqib (40 * (r : Int) + i) 160 = true := tqib_y (by omega) (by omega)
    have ih := q_lvt d D L n hr hN N4 j (i + 1) (mxq h (D 87 (40 * r + i))) (by omega) (by omega)
    have e0 := w40r (r := r) (show r < 6 by omega) i0 (by omega)
    have e1 := w1z i0 (by clear e0; omega)
    rw [itq_S, ← ih, b_X12_digest_382]
    simp only [z_cd, i10, i11, dnn, rdU, eW, eU, tzC_w, w_shp, w_ptr, Nat.beq_refl, nbz, nb133, nb75, nb55, nb67, n133a, n133b, n75a, n75b, aT, aR, oT, oR, oF, oG, kT, kF, bI, bL, bR, b0, Classical.not_not, not_true_eq_false, not_false_eq_true, and_self, and_true, true_and, ↓reduceIte, decide_true, decide_false, Nat.reduceEqDiff, Nat.reduceLT, Nat.reduceLeDiff, Int.reduceEq, hb, hN, c, e0, hb2, q_mix, e1]
set_option maxRecDepth 100000 in
set_option maxHeartbeats 1000000 in
theorem q_lt (d : Nat) (D : Nat → Int → Int) (L n : Nat) (hs : ∀ k : Nat, k < 4 → (D (67 + 2 * k) 1 = D 86 k ∧ 0 ≤ D 86 k ∧ D 86 k ≤ 40) ∨ (D (67 + 2 * k) 1 = -1 ∧ D 86 k < 0)) : ∀ (j r : Nat) (h : Int), r + j = 4 → tqrun tqP (d + 2) tqc_X12_digest 352 [vR 81, vI (r : Int), vU] [] (tzW (tzU D 81 72 h) L n) = some (some (vL (itq (sLt D) j r h)), tzW (tzU D 81 72 (itq (sLt D) j r h)) L n)
  | 0, r, h, rj => by
    have c : (4 : Int) ≤ (r : Int) := by omega
    rw [b_X12_digest_352]
    simp only [z_cd, i10, i11, dnn, rdU, eW, eU, tzC_w, w_shp, w_ptr, Nat.beq_refl, nbz, nb133, nb75, nb55, nb67, n133a, n133b, n75a, n75b, aT, aR, oT, oR, oF, oG, kT, kF, bI, bL, bR, b0, Classical.not_not, not_true_eq_false, not_false_eq_true, and_self, and_true, true_and, ↓reduceIte, decide_true, decide_false, Nat.reduceEqDiff, Nat.reduceLT, Nat.reduceLeDiff, Int.reduceEq, c]
    rfl
  | j + 1, r, h, rj => by
    have c : ¬ (4 : Int) ≤ (r : Int) := by omega
    have hr : r < 4 := by omega
    have hb : tqib (r : Int) 4 = true := tqib_y (by omega) (by omega)
    have ih := q_lt d D L n hs j (r + 1) (sLt D r h) (by omega)
    rw [show ((r + 1 : Nat) : Int) = (r : Int) + 1 by omega] at ih
    rw [itq_S, ← ih]
    clear ih
    unfold sLt
    rcases hs r hr with ⟨_, g2, g3⟩ | ⟨_, g2⟩
    · rw [if_pos g2]
      have r1 := q_lvt d D L n hr rfl g3 (D 86 r).toNat 0 (mxq h (D 86 r)) (by omega) (by omega)
      rw [← r1, b_X12_digest_352]
      simp only [z_cd, i10, i11, dnn, rdU, eW, eU, tzC_w, w_shp, w_ptr, Nat.beq_refl, nbz, nb133, nb75, nb55, nb67, n133a, n133b, n75a, n75b, aT, aR, oT, oR, oF, oG, kT, kF, bI, bL, bR, b0, Classical.not_not, not_true_eq_false, not_false_eq_true, and_self, and_true, true_and, ↓reduceIte, decide_true, decide_false, Nat.reduceEqDiff, Nat.reduceLT, Nat.reduceLeDiff, Int.reduceEq, c, hb, g2, q_mix]
    · have g4 : ¬ 0 ≤ D 86 r := by omega
      rw [if_neg g4]
      have r1 := q_lvt d D L n hr rfl (by omega) 0 0 (mxq h (-1)) (by omega) (by omega)
      rw [show (D 86 r).toNat = 0 by omega, ← r1, b_X12_digest_352]
      simp only [z_cd, i10, i11, dnn, rdU, eW, eU, tzC_w, w_shp, w_ptr, Nat.beq_refl, nbz, nb133, nb75, nb55, nb67, n133a, n133b, n75a, n75b, aT, aR, oT, oR, oF, oG, kT, kF, bI, bL, bR, b0, Classical.not_not, not_true_eq_false, not_false_eq_true, and_self, and_true, true_and, ↓reduceIte, decide_true, decide_false, Nat.reduceEqDiff, Nat.reduceLT, Nat.reduceLeDiff, Int.reduceEq, c, hb, g4, q_mix]

noncomputable def dgq (D : Nat → Int → Int) (n N M : Nat) : Int := itq (sLt D) 4 ((0 : Nat) : Int) (itq (sLr D) 6 ((0 : Nat) : Int) (mxq (mxq (itq (sMq D) M 0 (itq (sBq D) N 0 (itq (fun t y => itq (fun w y => mxq y (kM D t.toNat w)) 5 0 y) 6 ((0 : Nat) : Int) (itq (fun t y => itq (fun w y => mxq y (tM D t.toNat w)) 8 0 y) n ((0 : Nat) : Int) (itq (swq D) 64 0 (itq (fun w y => mxq y (cv D n w)) 8 0 17)))))) (D 81 46)) (D 81 47)))
set_option maxRecDepth 100000 in
set_option maxHeartbeats 1000000 in
theorem ag_digest {L : Nat} : AgL Rel L n_X11_digest n_X12_digest [] := by
  intro D n hR
  obtain ⟨hA, hL, hW, hN, ⟨c1, c2, c3⟩, hT, hD, hK, hB, hQ, hX, hM, hP, hS⟩ := id hR
  have w := WY_of hW
  obtain ⟨N, hNN⟩ : ∃ N : Nat, D 81 34 = N := ⟨(D 81 34).toNat, by have := hB.2.1; omega⟩
  obtain ⟨M, hMM⟩ : ∃ M : Nat, D 81 40 = M := ⟨(D 81 40).toNat, by have := hM.2.1; omega⟩
  have be := BE_of hB
  have me := ME_of hM
  rw [hNN] at be
  rw [hMM] at me
  have z0 : ((0 : Nat) : Int) = 0 := rfl
  have z8 : (7 : Int) < 8 := by decide
  have z6 : (6 : Int) ≤ 6 := by decide
  refine ⟨dgq D n N M, D, n, tzU D 81 72 (dgq D n N M), ?_, ?_, rfl, Sm_1 (by (repeat (refine Sm_U (by omega) ?_)); exact Sm_r _ _), ?_⟩
  · have s1 := p_d6 1395 D L n hR 8 0 17 (by omega) (by omega)
    have s2 : ∀ h : Int, tqden tqP 1398 n_X10_mixInto [vR 7, vL h] (tzW D L n) = some (some (vL (itq (swq D) 64 0 h)), tzW D L n) := fun h => by
      have q := p_w5 1396 D L n w 8 0 h (by omega) (by omega)
      rw [dn_X10_mixInto, b_X10_mixInto_0]
      exact q
    have s3 : ∀ h : Int, tqden tqP 1398 n_X1_mixInto [vR 13, vL h] (tzW D L n) = some (some (vL (itq (sBq D) N 0 h)), tzW D L n) := fun h => by
      have q := p_dB 1396 D L n be N 0 h (by omega) (by omega)
      rw [dn_X1_mixInto, b_X1_mixInto_0]
      exact q
    have s4 : ∀ h : Int, tqden tqP 1398 n_X7_mixInto [vR 18, vL h] (tzW D L n) = some (some (vL (itq (sMq D) M 0 h)), tzW D L n) := fun h => by
      have q := p_dM 1396 D L n me M 0 h (by omega) (by omega)
      rw [dn_X7_mixInto, b_X7_mixInto_0]
      exact q
    have s5 : ∀ h : Int, tqden tqP 1398 n_X11_mixLines [vL h, vR 3] (tzW D L n) = some (some (vL (itq (sLr D) 6 ((0 : Nat) : Int) h)), tzW D L n) := fun h => by
      have q := p_l5r 1396 D L n hL.1 hL.2.1 6 0 h (by omega)
      rw [dn_X11_mixLines, b_X11_mixLines_0]
      exact q
    have s6 : ∀ h : Int, tqden tqP 1398 n_X11_mixLines [vL h, vR 4] (tzW D L n) = some (some (vL (itq (sLt D) 4 ((0 : Nat) : Int) h)), tzW D L n) := fun h => by
      have q := p_l5t 1396 D L n hL.2.2.1 hL.2.2.2.1 4 0 h (by omega)
      rw [dn_X11_mixLines, b_X11_mixLines_0]
      exact q
    have s7 : ∀ h : Int, tqrun tqP 1399 tqc_X11_digest 40 [vR 2, vL h, vU, vI 0, vU] [] (tzW D L n) = tqrun tqP 1399 tqc_X11_digest 89 [vR 2, vL (itq (fun t y => itq (fun w y => mxq y (tM D t.toNat w)) 8 0 y) n ((0 : Nat) : Int) h), vU, vI 0, vU] [] (tzW D L n) := fun h => p_d40 1397 D L n c1 c3 (fun t a ht => tS_M (hT.1 t ht) (hD.1 t ht) a) n 0 h (by omega)
    have s8 : ∀ h : Int, tqrun tqP 1399 tqc_X11_digest 89 [vR 2, vL h, vU, vI 0, vU] [] (tzW D L n) = tqrun tqP 1399 tqc_X11_digest 89 [vR 2, vL (itq (fun t y => itq (fun w y => mxq y (kM D t.toNat w)) 5 0 y) 6 ((0 : Nat) : Int) h), vU, vI 6, vU] [] (tzW D L n) := fun h => p_d89 1397 D L n (fun t a ht => kS_M (hK t ht) a) 6 0 h (by omega)
    have s9 : ∀ h : Int, tqrun tqP 1399 tqc_X11_digest 6 [vR 2, vL h, vU, vI 8, vU] [] (tzW D L n) = tqrun tqP 1399 tqc_X11_digest 40 [vR 2, vL (itq (swq D) 64 0 h), vU, vI 0, vU] [] (tzW D L n) := fun h => by
      rw [b_X11_digest_6]
      simp only [z_cd, i10, i11, dnn, rdU, eW, eU, tzC_w, w_shp, w_ptr, Nat.beq_refl, nbz, nb133, nb75, nb55, nb67, n133a, n133b, n75a, n75b, aT, aR, oT, oR, oF, oG, kT, kF, bI, bL, bR, b0, Classical.not_not, not_true_eq_false, not_false_eq_true, and_self, and_true, true_and, ↓reduceIte, decide_true, decide_false, Nat.reduceEqDiff, Nat.reduceLT, Nat.reduceLeDiff, Int.reduceEq, z8, s2]
    have e14 : D 2 14 = D 81 46 := hP.1
    have e15 : D 2 15 = D 81 47 := hP.2.1
    refine (dn_X11_digest 1399 2 _).trans ((b_X11_digest_0 1398 2 _).trans (s1.trans ((s9 _).trans ((s7 _).trans ((s8 _).trans ?_)))))
    rw [b_X11_digest_89]
    simp only [z_cd, i10, i11, dnn, rdU, eW, eU, tzC_w, w_shp, w_ptr, Nat.beq_refl, nbz, nb133, nb75, nb55, nb67, n133a, n133b, n75a, n75b, aT, aR, oT, oR, oF, oG, kT, kF, bI, bL, bR, b0, Classical.not_not, not_true_eq_false, not_false_eq_true, and_self, and_true, true_and, ↓reduceIte, decide_true, decide_false, Nat.reduceEqDiff, Nat.reduceLT, Nat.reduceLeDiff, Int.reduceEq, z6, s3, s4, p_mix, e14, e15, s5, s6]
    rfl
  · have q1 := q_d9 1397 D L n c2 c3 8 0 17 (by omega) (by omega)
    have q2 := q_d32 1397 D L n 64 0 (itq (fun w y => mxq y (cv D n w)) 8 0 17) (by omega) (by omega)
    have q3 := fun h => q_d97 1397 D L n c2 c3 n 0 h (by omega)
    have q4 := fun h => q_d137 1397 D L n 6 0 h (by omega)
    have q5 := fun h => q_d174 1397 D L n hNN (by have := be.2.2.2.1; omega) N 0 h (by omega) (by omega)
    have q6 := fun h => q_d230 1397 D L n hMM (by have := me.2.2.2.1; omega) M 0 h (by omega) (by omega)
    have q7 := fun h => q_lr 1397 D L n hL.1 6 0 h (by omega)
    have q8 := fun h => q_lt 1397 D L n hL.2.2.1 4 0 h (by omega)
    have st : tqden tqP 1399 n_X12_digest [vR 81] (tzW D L n) = tqrun tqP (1397 + 2) tqc_X12_digest 9 [vR 81, vI 0, vU] [] (tzW (tzU D 81 72 17) L n) := by
      rw [dn_X12_digest, b_X12_digest_0]
      simp only [z_cd, i10, i11, dnn, rdU, eW, eU, tzC_w, w_shp, w_ptr, Nat.beq_refl, nbz, nb133, nb75, nb55, nb67, n133a, n133b, n75a, n75b, aT, aR, oT, oR, oF, oG, kT, kF, bI, bL, bR, b0, Classical.not_not, not_true_eq_false, not_false_eq_true, and_self, and_true, true_and, ↓reduceIte, decide_true, decide_false, Nat.reduceEqDiff, Nat.reduceLT, Nat.reduceLeDiff, Int.reduceEq]
    exact st.trans (q1.trans (q2.trans ((q3 _).trans ((q4 _).trans ((q5 _).trans ((q6 _).trans ((q7 _).trans (q8 _))))))))
  · refine ⟨?_, ?_, ?_, ?_, ?_, ?_, ?_, ?_, ?_, ?_, ?_, ?_, ?_, ?_⟩
    · exact RA_fr (by ((repeat (refine Sm_U (by unfold PA; omega) ?_)); exact Sm_r _ _)) hA
    · exact RL_fr (by ((repeat (refine Sm_U (by unfold PL; omega) ?_)); exact Sm_r _ _)) hL
    · exact RW_fr (by ((repeat (refine Sm_U (by unfold PW; omega) ?_)); exact Sm_r _ _)) hW
    · exact RN_fr (by ((repeat (refine Sm_U (by unfold PN; omega) ?_)); exact Sm_r _ _)) hN
    · exact RC_fr (by ((repeat (refine Sm_U (by unfold PC; omega) ?_)); exact Sm_r _ _)) ⟨c1, c2, c3⟩
    · exact RT_fr (by ((repeat (refine Sm_U (by unfold PT; omega) ?_)); exact Sm_r _ _)) hT
    · exact RD_fr (by ((repeat (refine Sm_U (by unfold PD; omega) ?_)); exact Sm_r _ _)) hD
    · exact RK_fr (by ((repeat (refine Sm_U (by unfold PK; omega) ?_)); exact Sm_r _ _)) hK
    · exact RB_fr (by ((repeat (refine Sm_U (by unfold PB; omega) ?_)); exact Sm_r _ _)) hB
    · exact RQ_fr (by ((repeat (refine Sm_U (by unfold PQ; omega) ?_)); exact Sm_r _ _)) hQ
    · exact RX_fr (by ((repeat (refine Sm_U (by unfold PX; omega) ?_)); exact Sm_r _ _)) hX
    · exact RM_fr (by ((repeat (refine Sm_U (by unfold PM; omega) ?_)); exact Sm_r _ _)) hM
    · exact RP_fr (by ((repeat (refine Sm_U (by unfold PP; omega) ?_)); exact Sm_r _ _)) hP
    · exact RS_fr (by ((repeat (refine Sm_U (by unfold PS; omega) ?_)); exact Sm_r _ _)) hS
