/-- how many of the next j have a property -/
def ctr (p : Int → Bool) : Nat → Int → Int → Int
  | 0, a, _ => a
  | j + 1, a, i => ctr p j (if p i = true then w32 (a + 1) else a) (i + 1)
theorem ctr_S (p : Int → Bool) (j : Nat) (a i : Int) : ctr p (j + 1) a i = ctr p j (if p i = true then w32 (a + 1) else a) (i + 1) := rfl
theorem w_lin (D : Nat → Int → Int) (L n : Nat) {k : Nat} (h : k < 6) : (tzW D L n).2.1 3 (k : Int) = 55 + 2 * k ∧ (tzW D L n).2.2.1 (55 + 2 * k) = (12, 2) := by
  have : k = 0 ∨ k = 1 ∨ k = 2 ∨ k = 3 ∨ k = 4 ∨ k = 5 := by omega
  rcases this with rfl | rfl | rfl | rfl | rfl | rfl <;> exact ⟨rfl, rfl⟩
theorem w_txt (D : Nat → Int → Int) (L n : Nat) {k : Nat} (h : k < 4) : (tzW D L n).2.1 4 (k : Int) = 67 + 2 * k ∧ (tzW D L n).2.2.1 (67 + 2 * k) = (12, 2) := by
  have : k = 0 ∨ k = 1 ∨ k = 2 ∨ k = 3 := by omega
  rcases this with rfl | rfl | rfl | rfl <;> exact ⟨rfl, rfl⟩
theorem w32_s (k : Nat) (h : k ≤ 1000) : w32 ((k : Int) + 1) = ((k + 1 : Nat) : Int) := (w32_id (x := (k : Int) + 1) ⟨by omega, by omega⟩).trans (by omega)
theorem w32_c (k : Nat) (h : k ≤ 1000) : w32 ((k + 1 : Nat) : Int) = ((k + 1 : Nat) : Int) := w32_id ⟨by omega, by omega⟩
theorem kz (k : Nat) : ((k : Int) + 1) = ((k + 1 : Nat) : Int) := by omega
theorem bl1 : Nat.ble 1 4 = true := rfl
theorem bl2 : Nat.ble 4 8 = true := rfl
theorem bl3 : Nat.ble 4 4 = true := rfl
theorem bl4 : Nat.ble 4 7 = true := rfl
theorem t8 : ∀ i : Nat, i < 64 → (w32 ((i : Int).tmod 8) ≤ w32 ((i : Int).tdiv 8) ↔ ¬ (i / 8 < i % 8)) := by decide +kernel
set_option maxRecDepth 100000 in
set_option maxHeartbeats 400000 in
theorem p_lost (d : Nat) (D : Nat → Int → Int) (L n : Nat) (p : Int → Bool) (c1 : D 2 12 = n) (h12 : n ≤ 12) (hp : ∀ t : Nat, t < n → p t = decide (¬ D (133 + t) 5 = 0)) : ∀ (j k : Nat) (a : Int), k + j = n → tqrun tqP (d + 1) tqc_X11_lostOnes 4 [vR 2, vI a, vI (k : Int)] [] (tzW D L n) = some (some (vI (ctr p j a k)), tzW D L n)
  | 0, k, a, h => by
    have c : (n : Int) ≤ k := by omega
    rw [b_X11_lostOnes_4]
    simp only [z_cd, i10, i11, dnn, rdU, eW, eU, tzC_w, w_shp, w_ptr, Nat.beq_refl, nbz, nb133, nb75, nb55, nb67, n133a, n133b, n75a, n75b, aT, aR, oT, oR, oF, oG, kT, kF, bI, bL, bR, b0, Classical.not_not, not_true_eq_false, not_false_eq_true, and_self, and_true, true_and, ↓reduceIte, decide_true, decide_false, Nat.reduceEqDiff, Nat.reduceLT, Nat.reduceLeDiff, Int.reduceEq, Bool.false_eq_true, c1, c]
    rfl
  | j + 1, k, a, h => by
    have c : ¬ (n : Int) ≤ k := by omega
    have hk : k < n := by omega
    have hb : tqib (k : Int) 12 = true := tqib_y (by omega) (by omega)
    have e := hp k hk
    have ih := fun a => p_lost d D L n p c1 h12 hp j (k + 1) a (by omega)
    have w1 := w32_c k (by omega)
    rw [b_X11_lostOnes_4, ctr_S, kz]
    by_cases q : D (133 + k) 5 = 0
    · rw [e]
      simp only [z_cd, i10, i11, dnn, rdU, eW, eU, tzC_w, w_shp, w_ptr, Nat.beq_refl, nbz, nb133, nb75, nb55, nb67, n133a, n133b, n75a, n75b, aT, aR, oT, oR, oF, oG, kT, kF, bI, bL, bR, b0, Classical.not_not, not_true_eq_false, not_false_eq_true, and_self, and_true, true_and, ↓reduceIte, decide_true, decide_false, Nat.reduceEqDiff, Nat.reduceLT, Nat.reduceLeDiff, Int.reduceEq, Bool.false_eq_true, c1, c, hb, w_trp D L n hk, w_trailer D L n hk, ble46, ble67, q, w1, ih]
    · rw [e]
      simp only [z_cd, i10, i11, dnn, rdU, eW, eU, tzC_w, w_shp, w_ptr, Nat.beq_refl, nbz, nb133, nb75, nb55, nb67, n133a, n133b, n75a, n75b, aT, aR, oT, oR, oF, oG, kT, kF, bI, bL, bR, b0, Classical.not_not, not_true_eq_false, not_false_eq_true, and_self, and_true, true_and, ↓reduceIte, decide_true, decide_false, Nat.reduceEqDiff, Nat.reduceLT, Nat.reduceLeDiff, Int.reduceEq, Bool.false_eq_true, c1, c, hb, w_trp D L n hk, w_trailer D L n hk, ble46, ble67, q, w1, ih]
set_option maxRecDepth 100000 in
set_option maxHeartbeats 400000 in
theorem p_rows (d : Nat) (D : Nat → Int → Int) (L n : Nat) (p : Int → Bool) (hp : ∀ k : Nat, k < 6 → p k = decide (0 ≤ D (55 + 2 * k) 1)) : ∀ (j k : Nat) (a : Int), k + j = 6 → tqrun tqP (d + 2) tqc_X11_linesThere 4 [vR 3, vI a, vI (k : Int)] [] (tzW D L n) = some (some (vI (ctr p j a k)), tzW D L n)
  | 0, k, a, h => by
    have c : ((6 : Nat) : Int) ≤ k := by omega
    rw [b_X11_linesThere_4]
    simp only [z_cd, i10, i11, dnn, rdU, eW, eU, tzC_w, w_shp, w_ptr, Nat.beq_refl, nbz, nb133, nb75, nb55, nb67, n133a, n133b, n75a, n75b, aT, aR, oT, oR, oF, oG, kT, kF, bI, bL, bR, b0, Classical.not_not, not_true_eq_false, not_false_eq_true, and_self, and_true, true_and, ↓reduceIte, decide_true, decide_false, Nat.reduceEqDiff, Nat.reduceLT, Nat.reduceLeDiff, Int.reduceEq, Bool.false_eq_true, bl1, bl2, c]
    rfl
  | j + 1, k, a, h => by
    have c : ¬ ((6 : Nat) : Int) ≤ k := by omega
    have hk : k < 6 := by omega
    have hb : tqib (k : Int) 6 = true := tqib_y (by omega) (by omega)
    have e := hp k hk
    have ih := fun a => p_rows d D L n p hp j (k + 1) a (by omega)
    have w1 := w32_c k (by omega)
    rw [b_X11_linesThere_4, ctr_S, kz, e]
    by_cases q : 0 ≤ D (55 + 2 * k) 1
    · simp only [z_cd, i10, i11, dnn, rdU, eW, eU, tzC_w, w_shp, w_ptr, Nat.beq_refl, nbz, nb133, nb75, nb55, nb67, n133a, n133b, n75a, n75b, aT, aR, oT, oR, oF, oG, kT, kF, bI, bL, bR, b0, Classical.not_not, not_true_eq_false, not_false_eq_true, and_self, and_true, true_and, ↓reduceIte, decide_true, decide_false, Nat.reduceEqDiff, Nat.reduceLT, Nat.reduceLeDiff, Int.reduceEq, Bool.false_eq_true, bl1, bl2, bl3, bl4, c, hb, w_lin D L n hk, s_isMissing _ D L n (w_lin D L n hk).2, q, w1, ih, Int.reduceLT, Int.reduceLE, Int.reduceNeg]
    · simp only [z_cd, i10, i11, dnn, rdU, eW, eU, tzC_w, w_shp, w_ptr, Nat.beq_refl, nbz, nb133, nb75, nb55, nb67, n133a, n133b, n75a, n75b, aT, aR, oT, oR, oF, oG, kT, kF, bI, bL, bR, b0, Classical.not_not, not_true_eq_false, not_false_eq_true, and_self, and_true, true_and, ↓reduceIte, decide_true, decide_false, Nat.reduceEqDiff, Nat.reduceLT, Nat.reduceLeDiff, Int.reduceEq, Bool.false_eq_true, bl1, bl2, bl3, bl4, c, hb, w_lin D L n hk, s_isMissing _ D L n (w_lin D L n hk).2, q, w1, ih, Int.reduceLT, Int.reduceLE, Int.reduceNeg]
set_option maxRecDepth 100000 in
set_option maxHeartbeats 400000 in
theorem p_txts (d : Nat) (D : Nat → Int → Int) (L n : Nat) (p : Int → Bool) (hp : ∀ k : Nat, k < 4 → p k = decide (0 ≤ D (67 + 2 * k) 1)) : ∀ (j k : Nat) (a : Int), k + j = 4 → tqrun tqP (d + 2) tqc_X11_linesThere 4 [vR 4, vI a, vI (k : Int)] [] (tzW D L n) = some (some (vI (ctr p j a k)), tzW D L n)
  | 0, k, a, h => by
    have c : ((4 : Nat) : Int) ≤ k := by omega
    rw [b_X11_linesThere_4]
    simp only [z_cd, i10, i11, dnn, rdU, eW, eU, tzC_w, w_shp, w_ptr, Nat.beq_refl, nbz, nb133, nb75, nb55, nb67, n133a, n133b, n75a, n75b, aT, aR, oT, oR, oF, oG, kT, kF, bI, bL, bR, b0, Classical.not_not, not_true_eq_false, not_false_eq_true, and_self, and_true, true_and, ↓reduceIte, decide_true, decide_false, Nat.reduceEqDiff, Nat.reduceLT, Nat.reduceLeDiff, Int.reduceEq, Bool.false_eq_true, bl1, bl2, c]
    rfl
  | j + 1, k, a, h => by
    have c : ¬ ((4 : Nat) : Int) ≤ k := by omega
    have hk : k < 4 := by omega
    have hb : tqib (k : Int) 4 = true := tqib_y (by omega) (by omega)
    have e := hp k hk
    have ih := fun a => p_txts d D L n p hp j (k + 1) a (by omega)
    have w1 := w32_c k (by omega)
    rw [b_X11_linesThere_4, ctr_S, kz, e]
    by_cases q : 0 ≤ D (67 + 2 * k) 1
    · simp only [z_cd, i10, i11, dnn, rdU, eW, eU, tzC_w, w_shp, w_ptr, Nat.beq_refl, nbz, nb133, nb75, nb55, nb67, n133a, n133b, n75a, n75b, aT, aR, oT, oR, oF, oG, kT, kF, bI, bL, bR, b0, Classical.not_not, not_true_eq_false, not_false_eq_true, and_self, and_true, true_and, ↓reduceIte, decide_true, decide_false, Nat.reduceEqDiff, Nat.reduceLT, Nat.reduceLeDiff, Int.reduceEq, Bool.false_eq_true, bl1, bl2, bl3, bl4, c, hb, w_txt D L n hk, s_isMissing _ D L n (w_txt D L n hk).2, q, w1, ih, Int.reduceLT, Int.reduceLE, Int.reduceNeg]
    · simp only [z_cd, i10, i11, dnn, rdU, eW, eU, tzC_w, w_shp, w_ptr, Nat.beq_refl, nbz, nb133, nb75, nb55, nb67, n133a, n133b, n75a, n75b, aT, aR, oT, oR, oF, oG, kT, kF, bI, bL, bR, b0, Classical.not_not, not_true_eq_false, not_false_eq_true, and_self, and_true, true_and, ↓reduceIte, decide_true, decide_false, Nat.reduceEqDiff, Nat.reduceLT, Nat.reduceLeDiff, Int.reduceEq, Bool.false_eq_true, bl1, bl2, bl3, bl4, c, hb, w_txt D L n hk, s_isMissing _ D L n (w_txt D L n hk).2, q, w1, ih, Int.reduceLT, Int.reduceLE, Int.reduceNeg]
set_option maxRecDepth 100000 in
set_option maxHeartbeats 400000 in
theorem q_lost (d : Nat) (D : Nat → Int → Int) (L n : Nat) (p : Int → Bool) (c2 : D 81 16 = n) (h12 : n ≤ 12) (hp : ∀ k : Nat, k < n → p k = decide (¬ D 96 (k : Int) = 0)) : ∀ (j k : Nat) (a : Int), k + j = n → in32 a → tqrun tqP (d + 1) tqc_X12_counts 56 [vR 81, vU, vI a, vI (k : Int)] [] (tzW D L n) = some (some (vI (ctr p j a k)), tzW D L n)
  | 0, k, a, h, _ => by
    have c : (n : Int) ≤ k := by omega
    rw [b_X12_counts_56]
    simp only [z_cd, i10, i11, dnn, rdU, eW, eU, tzC_w, w_shp, w_ptr, Nat.beq_refl, nbz, nb133, nb75, nb55, nb67, n133a, n133b, n75a, n75b, aT, aR, oT, oR, oF, oG, kT, kF, bI, bL, bR, b0, Classical.not_not, not_true_eq_false, not_false_eq_true, and_self, and_true, true_and, ↓reduceIte, decide_true, decide_false, Nat.reduceEqDiff, Nat.reduceLT, Nat.reduceLeDiff, Int.reduceEq, Bool.false_eq_true, c2, c]
    rfl
  | j + 1, k, a, h, ha => by
    have c : ¬ (n : Int) ≤ k := by omega
    have hk : k < n := by omega
    have hb : tqib (k : Int) 12 = true := tqib_y (by omega) (by omega)
    have e := hp k hk
    have ih := fun a => q_lost d D L n p c2 h12 hp j (k + 1) a (by omega)
    have ih1 := ih a ha
    have ih2 := ih (w32 (a + 1)) (in32_w _)
    by_cases q : D 96 (k : Int) = 0
    · have q2 : ¬ (¬ D 96 (k : Int) = 0) := by omega
      have w1 := w32_c k (by omega)
      have w2 := w32_z ha
      rw [b_X12_counts_56, ctr_S, kz, e]
      simp only [z_cd, i10, i11, dnn, rdU, eW, eU, tzC_w, w_shp, w_ptr, Nat.beq_refl, nbz, nb133, nb75, nb55, nb67, n133a, n133b, n75a, n75b, aT, aR, oT, oR, oF, oG, kT, kF, bI, bL, bR, b0, Classical.not_not, not_true_eq_false, not_false_eq_true, and_self, and_true, true_and, ↓reduceIte, decide_true, decide_false, Nat.reduceEqDiff, Nat.reduceLT, Nat.reduceLeDiff, Int.reduceEq, Bool.false_eq_true, c2, c, hb, q, q2, w1, w2, ih1]
    · have q2 : ¬ D 96 (k : Int) = 0 := by omega
      have w1 := w32_c k (by omega)
      have w2 := w32_z ha
      rw [b_X12_counts_56, ctr_S, kz, e]
      simp only [z_cd, i10, i11, dnn, rdU, eW, eU, tzC_w, w_shp, w_ptr, Nat.beq_refl, nbz, nb133, nb75, nb55, nb67, n133a, n133b, n75a, n75b, aT, aR, oT, oR, oF, oG, kT, kF, bI, bL, bR, b0, Classical.not_not, not_true_eq_false, not_false_eq_true, and_self, and_true, true_and, ↓reduceIte, decide_true, decide_false, Nat.reduceEqDiff, Nat.reduceLT, Nat.reduceLeDiff, Int.reduceEq, Bool.false_eq_true, c2, c, hb, q, q2, w1, w2, ih2]
set_option maxRecDepth 100000 in
set_option maxHeartbeats 400000 in
theorem q_rows (d : Nat) (D : Nat → Int → Int) (L n : Nat) (p : Int → Bool) (hp : ∀ k : Nat, k < 6 → p k = decide (0 ≤ D 83 (k : Int))) : ∀ (j k : Nat) (a : Int), k + j = 6 → in32 a → tqrun tqP (d + 1) tqc_X12_counts 145 [vR 81, vU, vI a, vI (k : Int)] [] (tzW D L n) = some (some (vI (ctr p j a k)), tzW D L n)
  | 0, k, a, h, _ => by
    have c : (6 : Int) ≤ k := by omega
    rw [b_X12_counts_145]
    simp only [z_cd, i10, i11, dnn, rdU, eW, eU, tzC_w, w_shp, w_ptr, Nat.beq_refl, nbz, nb133, nb75, nb55, nb67, n133a, n133b, n75a, n75b, aT, aR, oT, oR, oF, oG, kT, kF, bI, bL, bR, b0, Classical.not_not, not_true_eq_false, not_false_eq_true, and_self, and_true, true_and, ↓reduceIte, decide_true, decide_false, Nat.reduceEqDiff, Nat.reduceLT, Nat.reduceLeDiff, Int.reduceEq, Bool.false_eq_true, c]
    rfl
  | j + 1, k, a, h, ha => by
    have c : ¬ (6 : Int) ≤ k := by omega
    have hk : k < 6 := by omega
    have hb : tqib (k : Int) 6 = true := tqib_y (by omega) (by omega)
    have e := hp k hk
    have ih := fun a => q_rows d D L n p hp j (k + 1) a (by omega)
    have ih1 := ih a ha
    have ih2 := ih (w32 (a + 1)) (in32_w _)
    by_cases q : D 83 (k : Int) < 0
    · have q2 : ¬ (0 ≤ D 83 (k : Int)) := by omega
      have w1 := w32_c k (by omega)
      have w2 := w32_z ha
      rw [b_X12_counts_145, ctr_S, kz, e]
      simp only [z_cd, i10, i11, dnn, rdU, eW, eU, tzC_w, w_shp, w_ptr, Nat.beq_refl, nbz, nb133, nb75, nb55, nb67, n133a, n133b, n75a, n75b, aT, aR, oT, oR, oF, oG, kT, kF, bI, bL, bR, b0, Classical.not_not, not_true_eq_false, not_false_eq_true, and_self, and_true, true_and, ↓reduceIte, decide_true, decide_false, Nat.reduceEqDiff, Nat.reduceLT, Nat.reduceLeDiff, Int.reduceEq, Bool.false_eq_true, c, hb, q, q2, w1, w2, ih1]
    · have q2 : 0 ≤ D 83 (k : Int) := by omega
      have w1 := w32_c k (by omega)
      have w2 := w32_z ha
      rw [b_X12_counts_145, ctr_S, kz, e]
      simp only [z_cd, i10, i11, dnn, rdU, eW, eU, tzC_w, w_shp, w_ptr, Nat.beq_refl, nbz, nb133, nb75, nb55, nb67, n133a, n133b, n75a, n75b, aT, aR, oT, oR, oF, oG, kT, kF, bI, bL, bR, b0, Classical.not_not, not_true_eq_false, not_false_eq_true, and_self, and_true, true_and, ↓reduceIte, decide_true, decide_false, Nat.reduceEqDiff, Nat.reduceLT, Nat.reduceLeDiff, Int.reduceEq, Bool.false_eq_true, c, hb, q, q2, w1, w2, ih2]
set_option maxRecDepth 100000 in
set_option maxHeartbeats 400000 in
theorem q_txts (d : Nat) (D : Nat → Int → Int) (L n : Nat) (p : Int → Bool) (hp : ∀ k : Nat, k < 4 → p k = decide (0 ≤ D 86 (k : Int))) : ∀ (j k : Nat) (a : Int), k + j = 4 → in32 a → tqrun tqP (d + 1) tqc_X12_counts 178 [vR 81, vU, vI a, vI (k : Int)] [] (tzW D L n) = some (some (vI (ctr p j a k)), tzW D L n)
  | 0, k, a, h, _ => by
    have c : (4 : Int) ≤ k := by omega
    rw [b_X12_counts_178]
    simp only [z_cd, i10, i11, dnn, rdU, eW, eU, tzC_w, w_shp, w_ptr, Nat.beq_refl, nbz, nb133, nb75, nb55, nb67, n133a, n133b, n75a, n75b, aT, aR, oT, oR, oF, oG, kT, kF, bI, bL, bR, b0, Classical.not_not, not_true_eq_false, not_false_eq_true, and_self, and_true, true_and, ↓reduceIte, decide_true, decide_false, Nat.reduceEqDiff, Nat.reduceLT, Nat.reduceLeDiff, Int.reduceEq, Bool.false_eq_true, c]
    rfl
  | j + 1, k, a, h, ha => by
    have c : ¬ (4 : Int) ≤ k := by omega
    have hk : k < 4 := by omega
    have hb : tqib (k : Int) 4 = true := tqib_y (by omega) (by omega)
    have e := hp k hk
    have ih := fun a => q_txts d D L n p hp j (k + 1) a (by omega)
    have ih1 := ih a ha
    have ih2 := ih (w32 (a + 1)) (in32_w _)
    by_cases q : D 86 (k : Int) < 0
    · have q2 : ¬ (0 ≤ D 86 (k : Int)) := by omega
      have w1 := w32_c k (by omega)
      have w2 := w32_z ha
      rw [b_X12_counts_178, ctr_S, kz, e]
      simp only [z_cd, i10, i11, dnn, rdU, eW, eU, tzC_w, w_shp, w_ptr, Nat.beq_refl, nbz, nb133, nb75, nb55, nb67, n133a, n133b, n75a, n75b, aT, aR, oT, oR, oF, oG, kT, kF, bI, bL, bR, b0, Classical.not_not, not_true_eq_false, not_false_eq_true, and_self, and_true, true_and, ↓reduceIte, decide_true, decide_false, Nat.reduceEqDiff, Nat.reduceLT, Nat.reduceLeDiff, Int.reduceEq, Bool.false_eq_true, c, hb, q, q2, w1, w2, ih1]
    · have q2 : 0 ≤ D 86 (k : Int) := by omega
      have w1 := w32_c k (by omega)
      have w2 := w32_z ha
      rw [b_X12_counts_178, ctr_S, kz, e]
      simp only [z_cd, i10, i11, dnn, rdU, eW, eU, tzC_w, w_shp, w_ptr, Nat.beq_refl, nbz, nb133, nb75, nb55, nb67, n133a, n133b, n75a, n75b, aT, aR, oT, oR, oF, oG, kT, kF, bI, bL, bR, b0, Classical.not_not, not_true_eq_false, not_false_eq_true, and_self, and_true, true_and, ↓reduceIte, decide_true, decide_false, Nat.reduceEqDiff, Nat.reduceLT, Nat.reduceLeDiff, Int.reduceEq, Bool.false_eq_true, c, hb, q, q2, w1, w2, ih2]
set_option maxRecDepth 100000 in
set_option maxHeartbeats 400000 in
theorem q_wcn (d : Nat) (D : Nat → Int → Int) (L n : Nat) : ∀ (j k : Nat), k + j = 64 → tqrun tqP (d + 1) tqc_X12_counts 91 [vR 81, vU, vI (wcn (D 88) k), vI (k : Int)] [] (tzW D L n) = some (some (vI (wcn (D 88) 64)), tzW D L n)
  | 0, k, h => by
    have c : (64 : Int) ≤ k := by omega
    have e : k = 64 := by omega
    rw [b_X12_counts_91]
    simp only [z_cd, i10, i11, dnn, rdU, eW, eU, tzC_w, w_shp, w_ptr, Nat.beq_refl, nbz, nb133, nb75, nb55, nb67, n133a, n133b, n75a, n75b, aT, aR, oT, oR, oF, oG, kT, kF, bI, bL, bR, b0, Classical.not_not, not_true_eq_false, not_false_eq_true, and_self, and_true, true_and, ↓reduceIte, decide_true, decide_false, Nat.reduceEqDiff, Nat.reduceLT, Nat.reduceLeDiff, Int.reduceEq, Bool.false_eq_true, c]
    rw [e]
  | j + 1, k, h => by
    have c : ¬ (64 : Int) ≤ k := by omega
    have hk : k < 64 := by omega
    have hb : tqib (k : Int) 64 = true := tqib_y (by omega) (by omega)
    have bd := wcn_bd (D 88) k
    have ih := q_wcn d D L n j (k + 1) (by omega)
    have g1 : -2147483648 ≤ wcn (D 88) k + 1 := by omega
    have g2 : wcn (D 88) k + 1 ≤ 2147483647 := by omega
    have i0 : in32 (wcn (D 88) k) := ⟨by omega, by omega⟩
    rw [wcn_S] at ih
    unfold wc1 at ih
    by_cases q : k / 8 < k % 8
    · have q1 : ¬ (w32 ((k : Int).tmod 8) ≤ w32 ((k : Int).tdiv 8)) := fun u => ((t8 k hk).1 u) q
      by_cases z : D 88 (k : Int) ≤ 0
      · have z2 : ¬ 0 < D 88 (k : Int) := by omega
        rw [if_neg (fun u => z2 u.2), Int.add_zero] at ih
        have w1 := w32_s k (by omega)
        have w2 := w32_z i0
        rw [b_X12_counts_91]
        simp only [z_cd, i10, i11, dnn, rdU, eW, eU, tzC_w, w_shp, w_ptr, Nat.beq_refl, nbz, nb133, nb75, nb55, nb67, n133a, n133b, n75a, n75b, aT, aR, oT, oR, oF, oG, kT, kF, bI, bL, bR, b0, Classical.not_not, not_true_eq_false, not_false_eq_true, and_self, and_true, true_and, ↓reduceIte, decide_true, decide_false, Nat.reduceEqDiff, Nat.reduceLT, Nat.reduceLeDiff, Int.reduceEq, Bool.false_eq_true, c, hb, q1, z, w1, w2, ih]
      · have z2 : 0 < D 88 (k : Int) := by omega
        rw [if_pos ⟨q, z2⟩] at ih
        have w1 := w32_s k (by omega)
        have w2 := w32_i g1 g2
        rw [b_X12_counts_91]
        simp only [z_cd, i10, i11, dnn, rdU, eW, eU, tzC_w, w_shp, w_ptr, Nat.beq_refl, nbz, nb133, nb75, nb55, nb67, n133a, n133b, n75a, n75b, aT, aR, oT, oR, oF, oG, kT, kF, bI, bL, bR, b0, Classical.not_not, not_true_eq_false, not_false_eq_true, and_self, and_true, true_and, ↓reduceIte, decide_true, decide_false, Nat.reduceEqDiff, Nat.reduceLT, Nat.reduceLeDiff, Int.reduceEq, Bool.false_eq_true, c, hb, q1, z, w1, w2, ih]
    · have q1 : w32 ((k : Int).tmod 8) ≤ w32 ((k : Int).tdiv 8) := (t8 k hk).2 q
      rw [if_neg (fun u => q u.1), Int.add_zero] at ih
      have w1 := w32_s k (by omega)
      have w2 := w32_z i0
      rw [b_X12_counts_91]
      simp only [z_cd, i10, i11, dnn, rdU, eW, eU, tzC_w, w_shp, w_ptr, Nat.beq_refl, nbz, nb133, nb75, nb55, nb67, n133a, n133b, n75a, n75b, aT, aR, oT, oR, oF, oG, kT, kF, bI, bL, bR, b0, Classical.not_not, not_true_eq_false, not_false_eq_true, and_self, and_true, true_and, ↓reduceIte, decide_true, decide_false, Nat.reduceEqDiff, Nat.reduceLT, Nat.reduceLeDiff, Int.reduceEq, Bool.false_eq_true, c, hb, q1, w1, w2, ih]
