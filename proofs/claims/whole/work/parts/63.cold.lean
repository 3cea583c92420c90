def cA (f : Int → Int) (g : Int) : Nat → Int → Int → Int
  | 0, a, _ => a
  | j + 1, a, i => cA f g j (if f i = -999 then a else if f i ≤ g then a else w32 (a + 1)) (i + 1)
def cB (f : Int → Int) (g : Int) : Nat → Int → Int → Int
  | 0, a, _ => a
  | j + 1, a, i => cB f g j (if f i = -999 then w32 (a + 1) else if f i ≤ g then a else w32 (a + 1)) (i + 1)
def cW (f : Int → Int) (g : Int) : Nat → Int → Int → Int → Int
  | 0, w, _, _ => w
  | j + 1, w, r, i => if f i = -999 then cW f g j (jmax w (w32 (r + 1))) (w32 (r + 1)) (i + 1) else if f i ≤ g then cW f g j (jmax w 0) 0 (i + 1) else cW f g j (jmax w (w32 (r + 1))) (w32 (r + 1)) (i + 1)
theorem cA_S (f : Int → Int) (g : Int) (j : Nat) (a i : Int) : cA f g (j + 1) a i = cA f g j (if f i = -999 then a else if f i ≤ g then a else w32 (a + 1)) (i + 1) := rfl
theorem cB_S (f : Int → Int) (g : Int) (j : Nat) (a i : Int) : cB f g (j + 1) a i = cB f g j (if f i = -999 then w32 (a + 1) else if f i ≤ g then a else w32 (a + 1)) (i + 1) := rfl
theorem cW_S (f : Int → Int) (g : Int) (j : Nat) (w r i : Int) : cW f g (j + 1) w r i = if f i = -999 then cW f g j (jmax w (w32 (r + 1))) (w32 (r + 1)) (i + 1) else if f i ≤ g then cW f g j (jmax w 0) 0 (i + 1) else cW f g j (jmax w (w32 (r + 1))) (w32 (r + 1)) (i + 1) := rfl
theorem jx_y {x y : Int} (h : y ≤ x) : jmax x y = x := by unfold jmax; split <;> omega
theorem jx_n {x y : Int} (h : ¬ y ≤ x) : jmax x y = y := by unfold jmax; split <;> omega
set_option maxRecDepth 100000 in
set_option maxHeartbeats 400000 in
theorem p_wa (d : Nat) (D : Nat → Int → Int) (L n : Nat) (f : Int → Int) (g : Int) {k : Nat} (hk : k < 6) {N : Int} (h4 : N ≤ 40) (hz : D (55 + 2 * k) 1 = N) (he : ∀ i : Int, 0 ≤ i → i < 40 → D (56 + 2 * k) i = f i) : ∀ (j : Nat) (a i : Int), 0 ≤ i → i + j = N → tqrun tqP (d + 1) tqc_X2_warmOnes 5 [vR (55 + 2 * k), vI g, vI 0, vI a, vI i] [] (tzW D L n) = some (some (vI (cA f g j a i)), tzW D L n)
  | 0, a, i, h0, h1 => by
    have c : N ≤ i := by omega
    rw [b_X2_warmOnes_5]
    simp only [z_cd, i10, i11, dnn, rdU, eW, eU, tzC_w, w_shp, w_ptr, Nat.beq_refl, nbz, nb133, nb75, nb55, nb67, n133a, n133b, n75a, n75b, aT, aR, oT, oR, oF, oG, kT, kF, bI, bL, bR, b0, Classical.not_not, not_true_eq_false, not_false_eq_true, and_self, and_true, true_and, ↓reduceIte, decide_true, decide_false, Nat.reduceEqDiff, Nat.reduceLT, Nat.reduceLeDiff, Int.reduceEq, w_row D L n hk, hz, c]
    rfl
  | j + 1, a, i, h0, h1 => by
    have c : ¬ N ≤ i := by omega
    have i1 : i < N := by omega
    have i40 : i < 40 := by omega
    have hbi := ib40 h0 i1 h4
    have ei := he i h0 i40
    have ih := fun a => p_wa d D L n f g hk h4 hz he j a (i + 1) (by omega) (by omega)
    have w1 := w32_f h0 i1 h4
    rw [b_X2_warmOnes_5, cA_S]
    by_cases q : f i = -999
    · simp only [z_cd, i10, i11, dnn, rdU, eW, eU, tzC_w, w_shp, w_ptr, Nat.beq_refl, nbz, nb133, nb75, nb55, nb67, n133a, n133b, n75a, n75b, aT, aR, oT, oR, oF, oG, kT, kF, bI, bL, bR, b0, Classical.not_not, not_true_eq_false, not_false_eq_true, and_self, and_true, true_and, ↓reduceIte, decide_true, decide_false, Nat.reduceEqDiff, Nat.reduceLT, Nat.reduceLeDiff, Int.reduceEq, w_row D L n hk, hz, c, hbi, ei, q, w1, ih]
    · by_cases q2 : f i ≤ g
      · simp only [z_cd, i10, i11, dnn, rdU, eW, eU, tzC_w, w_shp, w_ptr, Nat.beq_refl, nbz, nb133, nb75, nb55, nb67, n133a, n133b, n75a, n75b, aT, aR, oT, oR, oF, oG, kT, kF, bI, bL, bR, b0, Classical.not_not, not_true_eq_false, not_false_eq_true, and_self, and_true, true_and, ↓reduceIte, decide_true, decide_false, Nat.reduceEqDiff, Nat.reduceLT, Nat.reduceLeDiff, Int.reduceEq, w_row D L n hk, hz, c, hbi, ei, q, q2, w1, ih]
      · simp only [z_cd, i10, i11, dnn, rdU, eW, eU, tzC_w, w_shp, w_ptr, Nat.beq_refl, nbz, nb133, nb75, nb55, nb67, n133a, n133b, n75a, n75b, aT, aR, oT, oR, oF, oG, kT, kF, bI, bL, bR, b0, Classical.not_not, not_true_eq_false, not_false_eq_true, and_self, and_true, true_and, ↓reduceIte, decide_true, decide_false, Nat.reduceEqDiff, Nat.reduceLT, Nat.reduceLeDiff, Int.reduceEq, w_row D L n hk, hz, c, hbi, ei, q, q2, w1, ih]
set_option maxRecDepth 100000 in
set_option maxHeartbeats 400000 in
theorem p_wb (d : Nat) (D : Nat → Int → Int) (L n : Nat) (f : Int → Int) (g : Int) {k : Nat} (hk : k < 6) {N : Int} (h4 : N ≤ 40) (hz : D (55 + 2 * k) 1 = N) (he : ∀ i : Int, 0 ≤ i → i < 40 → D (56 + 2 * k) i = f i) : ∀ (j : Nat) (a i : Int), 0 ≤ i → i + j = N → tqrun tqP (d + 1) tqc_X2_warmOnes 5 [vR (55 + 2 * k), vI g, vI 1, vI a, vI i] [] (tzW D L n) = some (some (vI (cB f g j a i)), tzW D L n)
  | 0, a, i, h0, h1 => by
    have c : N ≤ i := by omega
    rw [b_X2_warmOnes_5]
    simp only [z_cd, i10, i11, dnn, rdU, eW, eU, tzC_w, w_shp, w_ptr, Nat.beq_refl, nbz, nb133, nb75, nb55, nb67, n133a, n133b, n75a, n75b, aT, aR, oT, oR, oF, oG, kT, kF, bI, bL, bR, b0, Classical.not_not, not_true_eq_false, not_false_eq_true, and_self, and_true, true_and, ↓reduceIte, decide_true, decide_false, Nat.reduceEqDiff, Nat.reduceLT, Nat.reduceLeDiff, Int.reduceEq, w_row D L n hk, hz, c]
    rfl
  | j + 1, a, i, h0, h1 => by
    have c : ¬ N ≤ i := by omega
    have i1 : i < N := by omega
    have i40 : i < 40 := by omega
    have hbi := ib40 h0 i1 h4
    have ei := he i h0 i40
    have ih := fun a => p_wb d D L n f g hk h4 hz he j a (i + 1) (by omega) (by omega)
    have w1 := w32_f h0 i1 h4
    rw [b_X2_warmOnes_5, cB_S]
    by_cases q : f i = -999
    · simp only [z_cd, i10, i11, dnn, rdU, eW, eU, tzC_w, w_shp, w_ptr, Nat.beq_refl, nbz, nb133, nb75, nb55, nb67, n133a, n133b, n75a, n75b, aT, aR, oT, oR, oF, oG, kT, kF, bI, bL, bR, b0, Classical.not_not, not_true_eq_false, not_false_eq_true, and_self, and_true, true_and, ↓reduceIte, decide_true, decide_false, Nat.reduceEqDiff, Nat.reduceLT, Nat.reduceLeDiff, Int.reduceEq, w_row D L n hk, hz, c, hbi, ei, q, w1, ih]
    · by_cases q2 : f i ≤ g
      · simp only [z_cd, i10, i11, dnn, rdU, eW, eU, tzC_w, w_shp, w_ptr, Nat.beq_refl, nbz, nb133, nb75, nb55, nb67, n133a, n133b, n75a, n75b, aT, aR, oT, oR, oF, oG, kT, kF, bI, bL, bR, b0, Classical.not_not, not_true_eq_false, not_false_eq_true, and_self, and_true, true_and, ↓reduceIte, decide_true, decide_false, Nat.reduceEqDiff, Nat.reduceLT, Nat.reduceLeDiff, Int.reduceEq, w_row D L n hk, hz, c, hbi, ei, q, q2, w1, ih]
      · simp only [z_cd, i10, i11, dnn, rdU, eW, eU, tzC_w, w_shp, w_ptr, Nat.beq_refl, nbz, nb133, nb75, nb55, nb67, n133a, n133b, n75a, n75b, aT, aR, oT, oR, oF, oG, kT, kF, bI, bL, bR, b0, Classical.not_not, not_true_eq_false, not_false_eq_true, and_self, and_true, true_and, ↓reduceIte, decide_true, decide_false, Nat.reduceEqDiff, Nat.reduceLT, Nat.reduceLeDiff, Int.reduceEq, w_row D L n hk, hz, c, hbi, ei, q, q2, w1, ih]
set_option maxRecDepth 100000 in
set_option maxHeartbeats 400000 in
theorem p_wl (d : Nat) (D : Nat → Int → Int) (L n : Nat) (f : Int → Int) (g : Int) {k : Nat} (hk : k < 6) {N : Int} (h4 : N ≤ 40) (hz : D (55 + 2 * k) 1 = N) (he : ∀ i : Int, 0 ≤ i → i < 40 → D (56 + 2 * k) i = f i) : ∀ (j : Nat) (w r i : Int), 0 ≤ i → i + j = N → tqrun tqP (d + 1) tqc_X2_longestWarm 7 [vR (55 + 2 * k), vI g, vI w, vI r, vI i] [] (tzW D L n) = some (some (vI (cW f g j w r i)), tzW D L n)
  | 0, w, r, i, h0, h1 => by
    have c : N ≤ i := by omega
    rw [b_X2_longestWarm_7]
    simp only [z_cd, i10, i11, dnn, rdU, eW, eU, tzC_w, w_shp, w_ptr, Nat.beq_refl, nbz, nb133, nb75, nb55, nb67, n133a, n133b, n75a, n75b, aT, aR, oT, oR, oF, oG, kT, kF, bI, bL, bR, b0, Classical.not_not, not_true_eq_false, not_false_eq_true, and_self, and_true, true_and, ↓reduceIte, decide_true, decide_false, Nat.reduceEqDiff, Nat.reduceLT, Nat.reduceLeDiff, Int.reduceEq, w_row D L n hk, hz, c]
    rfl
  | j + 1, w, r, i, h0, h1 => by
    have c : ¬ N ≤ i := by omega
    have i1 : i < N := by omega
    have i40 : i < 40 := by omega
    have hbi := ib40 h0 i1 h4
    have ei := he i h0 i40
    have ih := fun w r => p_wl d D L n f g hk h4 hz he j w r (i + 1) (by omega) (by omega)
    have w1 := w32_f h0 i1 h4
    rw [b_X2_longestWarm_7, cW_S]
    by_cases q : f i = -999
    · simp only [z_cd, i10, i11, dnn, rdU, eW, eU, tzC_w, w_shp, w_ptr, Nat.beq_refl, nbz, nb133, nb75, nb55, nb67, n133a, n133b, n75a, n75b, aT, aR, oT, oR, oF, oG, kT, kF, bI, bL, bR, b0, Classical.not_not, not_true_eq_false, not_false_eq_true, and_self, and_true, true_and, ↓reduceIte, decide_true, decide_false, Nat.reduceEqDiff, Nat.reduceLT, Nat.reduceLeDiff, Int.reduceEq, w_row D L n hk, hz, c, hbi, ei, q, w1, ih]
    · by_cases q2 : f i ≤ g
      · simp only [z_cd, i10, i11, dnn, rdU, eW, eU, tzC_w, w_shp, w_ptr, Nat.beq_refl, nbz, nb133, nb75, nb55, nb67, n133a, n133b, n75a, n75b, aT, aR, oT, oR, oF, oG, kT, kF, bI, bL, bR, b0, Classical.not_not, not_true_eq_false, not_false_eq_true, and_self, and_true, true_and, ↓reduceIte, decide_true, decide_false, Nat.reduceEqDiff, Nat.reduceLT, Nat.reduceLeDiff, Int.reduceEq, w_row D L n hk, hz, c, hbi, ei, q, q2, w1, ih]
      · simp only [z_cd, i10, i11, dnn, rdU, eW, eU, tzC_w, w_shp, w_ptr, Nat.beq_refl, nbz, nb133, nb75, nb55, nb67, n133a, n133b, n75a, n75b, aT, aR, oT, oR, oF, oG, kT, kF, bI, bL, bR, b0, Classical.not_not, not_true_eq_false, not_false_eq_true, and_self, and_true, true_and, ↓reduceIte, decide_true, decide_false, Nat.reduceEqDiff, Nat.reduceLT, Nat.reduceLeDiff, Int.reduceEq, w_row D L n hk, hz, c, hbi, ei, q, q2, w1, ih]
set_option maxRecDepth 100000 in
set_option maxHeartbeats 400000 in
theorem q_cold (d : Nat) (D : Nat → Int → Int) (L n : Nat) (f : Int → Int) (g wh : Int) {k t : Nat} (hk : k < 6) {N : Int} (h4 : N ≤ 40) (hz : D 83 k = N) (hb : tqib (k : Int) 6 = true) (hbt : tqib (t : Int) 12 = true) (hg : D 103 t = g) (he : ∀ i : Int, 0 ≤ i → i < 40 → D 84 (40 * k + i) = f i) : ∀ (j : Nat) (a b r w i : Int), 0 ≤ i → i + j = N → in32 a → in32 b → tqrun tqP (d + 1) tqc_X12_cold 80 [vR 81, vI (t : Int), vI (k : Int), vI wh, vI a, vI b, vI r, vI w, vI i, vU, vU, vU] [] (tzW D L n) = some (some (vI (w32 (10 * (if wh = 0 then cA f g j a i else if wh = 1 then cB f g j b i else cW f g j w r i)))), tzW D L n)
  | 0, a, b, r, w, i, h0, h1, ha, hbb => by
    have c : N ≤ i := by omega
    rw [b_X12_cold_80]
    unfold cA cB cW
    by_cases x0 : wh = 0
    · simp only [z_cd, i10, i11, dnn, rdU, eW, eU, tzC_w, w_shp, w_ptr, Nat.beq_refl, nbz, nb133, nb75, nb55, nb67, n133a, n133b, n75a, n75b, aT, aR, oT, oR, oF, oG, kT, kF, bI, bL, bR, b0, Classical.not_not, not_true_eq_false, not_false_eq_true, and_self, and_true, true_and, ↓reduceIte, decide_true, decide_false, Nat.reduceEqDiff, Nat.reduceLT, Nat.reduceLeDiff, Int.reduceEq, hb, hz, c, x0]
    · by_cases x1 : wh = 1
      · simp only [z_cd, i10, i11, dnn, rdU, eW, eU, tzC_w, w_shp, w_ptr, Nat.beq_refl, nbz, nb133, nb75, nb55, nb67, n133a, n133b, n75a, n75b, aT, aR, oT, oR, oF, oG, kT, kF, bI, bL, bR, b0, Classical.not_not, not_true_eq_false, not_false_eq_true, and_self, and_true, true_and, ↓reduceIte, decide_true, decide_false, Nat.reduceEqDiff, Nat.reduceLT, Nat.reduceLeDiff, Int.reduceEq, hb, hz, c, x0, x1]
      · simp only [z_cd, i10, i11, dnn, rdU, eW, eU, tzC_w, w_shp, w_ptr, Nat.beq_refl, nbz, nb133, nb75, nb55, nb67, n133a, n133b, n75a, n75b, aT, aR, oT, oR, oF, oG, kT, kF, bI, bL, bR, b0, Classical.not_not, not_true_eq_false, not_false_eq_true, and_self, and_true, true_and, ↓reduceIte, decide_true, decide_false, Nat.reduceEqDiff, Nat.reduceLT, Nat.reduceLeDiff, Int.reduceEq, hb, hz, c, x0, x1]
  | j + 1, a, b, r, w, i, h0, h1, ha, hbb => by
    have c : ¬ N ≤ i := by omega
    have i1 : i < N := by omega
    have i40 : i < 40 := by omega
    have hb2 := ib240 hk h0 i1 h4
    have ei := he i h0 i40
    have ih := fun a b r w x y => q_cold d D L n f g wh hk h4 hz hb hbt hg he j a b r w (i + 1) (by omega) (by omega) x y
    have w1 := w32_f h0 i1 h4
    have w2 := w32_40 hk
    have w3 := w32_40k hk h0 i40
    have w4 := w32_z ha
    have w5 := w32_z hbb
    rw [b_X12_cold_80, cA_S, cB_S, cW_S]
    by_cases q : f i = -999
    · rw [if_pos q, if_pos q, if_pos q]
      have ih := ih a (w32 (b + 1)) (w32 (r + 1)) (jmax w (w32 (r + 1))) ha (in32_w _)
      rw [← ih]
      by_cases j1 : w32 (r + 1) ≤ w
      · rw [jx_y j1]
        simp only [z_cd, i10, i11, dnn, rdU, eW, eU, tzC_w, w_shp, w_ptr, Nat.beq_refl, nbz, nb133, nb75, nb55, nb67, n133a, n133b, n75a, n75b, aT, aR, oT, oR, oF, oG, kT, kF, bI, bL, bR, b0, Classical.not_not, not_true_eq_false, not_false_eq_true, and_self, and_true, true_and, ↓reduceIte, decide_true, decide_false, Nat.reduceEqDiff, Nat.reduceLT, Nat.reduceLeDiff, Int.reduceEq, hb, hbt, hz, c, hb2, ei, hg, w1, w2, w3, w4, w5, b_X12_cold_141, b_X12_cold_155, b_X12_cold_175, q, j1, Int.reduceLT, Int.reduceLE, Int.reduceNeg]
      · rw [jx_n j1]
        simp only [z_cd, i10, i11, dnn, rdU, eW, eU, tzC_w, w_shp, w_ptr, Nat.beq_refl, nbz, nb133, nb75, nb55, nb67, n133a, n133b, n75a, n75b, aT, aR, oT, oR, oF, oG, kT, kF, bI, bL, bR, b0, Classical.not_not, not_true_eq_false, not_false_eq_true, and_self, and_true, true_and, ↓reduceIte, decide_true, decide_false, Nat.reduceEqDiff, Nat.reduceLT, Nat.reduceLeDiff, Int.reduceEq, hb, hbt, hz, c, hb2, ei, hg, w1, w2, w3, w4, w5, b_X12_cold_141, b_X12_cold_155, b_X12_cold_175, q, j1, Int.reduceLT, Int.reduceLE, Int.reduceNeg]
    · rw [if_neg q, if_neg q, if_neg q]
      by_cases q2 : f i ≤ g
      · rw [if_pos q2, if_pos q2, if_pos q2]
        have ih := ih a b 0 (jmax w 0) ha hbb
        rw [← ih]
        by_cases j1 : 0 ≤ w
        · rw [jx_y j1]
          simp only [z_cd, i10, i11, dnn, rdU, eW, eU, tzC_w, w_shp, w_ptr, Nat.beq_refl, nbz, nb133, nb75, nb55, nb67, n133a, n133b, n75a, n75b, aT, aR, oT, oR, oF, oG, kT, kF, bI, bL, bR, b0, Classical.not_not, not_true_eq_false, not_false_eq_true, and_self, and_true, true_and, ↓reduceIte, decide_true, decide_false, Nat.reduceEqDiff, Nat.reduceLT, Nat.reduceLeDiff, Int.reduceEq, hb, hbt, hz, c, hb2, ei, hg, w1, w2, w3, w4, w5, b_X12_cold_141, b_X12_cold_155, b_X12_cold_175, q, q2, j1, Int.reduceLT, Int.reduceLE, Int.reduceNeg]
        · rw [jx_n j1]
          simp only [z_cd, i10, i11, dnn, rdU, eW, eU, tzC_w, w_shp, w_ptr, Nat.beq_refl, nbz, nb133, nb75, nb55, nb67, n133a, n133b, n75a, n75b, aT, aR, oT, oR, oF, oG, kT, kF, bI, bL, bR, b0, Classical.not_not, not_true_eq_false, not_false_eq_true, and_self, and_true, true_and, ↓reduceIte, decide_true, decide_false, Nat.reduceEqDiff, Nat.reduceLT, Nat.reduceLeDiff, Int.reduceEq, hb, hbt, hz, c, hb2, ei, hg, w1, w2, w3, w4, w5, b_X12_cold_141, b_X12_cold_155, b_X12_cold_175, q, q2, j1, Int.reduceLT, Int.reduceLE, Int.reduceNeg]
      · rw [if_neg q2, if_neg q2, if_neg q2]
        have ih := ih (w32 (a + 1)) (w32 (b + 1)) (w32 (r + 1)) (jmax w (w32 (r + 1))) (in32_w _) (in32_w _)
        rw [← ih]
        by_cases j1 : w32 (r + 1) ≤ w
        · rw [jx_y j1]
          simp only [z_cd, i10, i11, dnn, rdU, eW, eU, tzC_w, w_shp, w_ptr, Nat.beq_refl, nbz, nb133, nb75, nb55, nb67, n133a, n133b, n75a, n75b, aT, aR, oT, oR, oF, oG, kT, kF, bI, bL, bR, b0, Classical.not_not, not_true_eq_false, not_false_eq_true, and_self, and_true, true_and, ↓reduceIte, decide_true, decide_false, Nat.reduceEqDiff, Nat.reduceLT, Nat.reduceLeDiff, Int.reduceEq, hb, hbt, hz, c, hb2, ei, hg, w1, w2, w3, w4, w5, b_X12_cold_141, b_X12_cold_155, b_X12_cold_175, q, q2, j1, Int.reduceLT, Int.reduceLE, Int.reduceNeg]
        · rw [jx_n j1]
          simp only [z_cd, i10, i11, dnn, rdU, eW, eU, tzC_w, w_shp, w_ptr, Nat.beq_refl, nbz, nb133, nb75, nb55, nb67, n133a, n133b, n75a, n75b, aT, aR, oT, oR, oF, oG, kT, kF, bI, bL, bR, b0, Classical.not_not, not_true_eq_false, not_false_eq_true, and_self, and_true, true_and, ↓reduceIte, decide_true, decide_false, Nat.reduceEqDiff, Nat.reduceLT, Nat.reduceLeDiff, Int.reduceEq, hb, hbt, hz, c, hb2, ei, hg, w1, w2, w3, w4, w5, b_X12_cold_141, b_X12_cold_155, b_X12_cold_175, q, q2, j1, Int.reduceLT, Int.reduceLE, Int.reduceNeg]
