theorem rdC (D : Nat → Int → Int) (a : Nat) (i : Int) (b : Nat) (j l : Int) (c : Nat) (x : Int) : tzC D a i b j l c x = if c = b then (if j ≤ x ∧ x < j + l then D a (i + (x - j)) else D c x) else D c x := Eq.trans rfl rfl
theorem tzC_0 (D : Nat → Int → Int) (a : Nat) (i : Int) (b : Nat) (j : Int) : tzC D a i b j 0 = D := by
  funext c x
  rw [rdC]
  by_cases q : c = b
  · rw [if_pos q, if_neg (by omega)]
  · rw [if_neg q]
theorem tzC_U (D : Nat → Int → Int) (a : Nat) (i : Int) (b : Nat) (j : Int) {k x v : Int} (k0 : 0 ≤ k) (hx : x = j + k) (hv : v = D a (i + k)) : tzU (tzC D a i b j k) b x v = tzC D a i b j (k + 1) := by
  funext c y
  rw [rdU, rdC, rdC]
  by_cases q : c = b
  · rw [if_pos q, if_pos q, if_pos q]
    by_cases e : y = x
    · rw [if_pos e, if_pos (by omega), hv]
      have : i + (y - j) = i + k := by omega
      rw [this]
    · rw [if_neg e]
      by_cases f : j ≤ y ∧ y < j + k
      · rw [if_pos f, if_pos (by omega)]
      · rw [if_neg f, if_neg (by omega)]
  · rw [if_neg q, if_neg q, if_neg q]
theorem w40_3 {r : Nat} {i k : Int} (h : r < 6) (i0 : 0 ≤ i) (i1 : i ≤ 40) (k0 : 0 ≤ k) (k1 : k ≤ 40) : w32 (w32 (w32 (40 * (r : Int)) + i) + k) = 40 * r + i + k := by
  have e1 : w32 (40 * (r : Int)) = 40 * r := w32_id ⟨by omega, by omega⟩
  rw [e1]
  clear e1
  have e2 : w32 (40 * (r : Int) + i) = 40 * r + i := w32_id ⟨by omega, by omega⟩
  rw [e2]
  clear e2
  exact w32_id ⟨by omega, by omega⟩
set_option maxRecDepth 100000 in
set_option maxHeartbeats 400000 in
theorem p_hasSpan (d : Nat) (D : Nat → Int → Int) (L n a : Nat) (hsh : (tzW D L n).2.2.1 a = (12, 2)) (i l : Int) (s0 : 0 ≤ D a 1) (s1 : D a 1 ≤ 40) (l0 : 0 ≤ l) : tqden tqP (d + 1) n_X2_hasSpan [vR a, vI i, vI l] (tzW D L n) = some (some (vI (if 0 ≤ i ∧ i + l ≤ D a 1 then 1 else 0)), tzW D L n) := by
  rw [dn_X2_hasSpan, b_X2_hasSpan_0]
  have nl : ¬ l < 0 := by omega
  by_cases c1 : i < 0
  · have q : ¬ (0 ≤ i ∧ i + l ≤ D a 1) := by omega
    simp only [z_cd, i10, i11, dnn, rdU, eW, eU, tzC_w, w_shp, w_ptr, Nat.beq_refl, nbz, nb133, nb75, nb55, nb67, n133a, n133b, n75a, n75b, aT, aR, oT, oR, oF, oG, kT, kF, bI, bL, bR, b0, Classical.not_not, not_true_eq_false, not_false_eq_true, and_self, and_true, true_and, ↓reduceIte, decide_true, decide_false, Nat.reduceEqDiff, Nat.reduceLT, Nat.reduceLeDiff, Int.reduceEq, c1, q]
  · by_cases c2 : D a 1 < i
    · have q : ¬ (0 ≤ i ∧ i + l ≤ D a 1) := by omega
      simp only [z_cd, i10, i11, dnn, rdU, eW, eU, tzC_w, w_shp, w_ptr, Nat.beq_refl, nbz, nb133, nb75, nb55, nb67, n133a, n133b, n75a, n75b, aT, aR, oT, oR, oF, oG, kT, kF, bI, bL, bR, b0, Classical.not_not, not_true_eq_false, not_false_eq_true, and_self, and_true, true_and, ↓reduceIte, decide_true, decide_false, Nat.reduceEqDiff, Nat.reduceLT, Nat.reduceLeDiff, Int.reduceEq, hsh, c1, c2, q]
    · have g1 : -2147483648 ≤ D a 1 - i := by omega
      have g2 : D a 1 - i ≤ 2147483647 := by omega
      by_cases c3 : D a 1 - i < l
      · have q : ¬ (0 ≤ i ∧ i + l ≤ D a 1) := by omega
        have w1 := w32_i g1 g2
        simp only [z_cd, i10, i11, dnn, rdU, eW, eU, tzC_w, w_shp, w_ptr, Nat.beq_refl, nbz, nb133, nb75, nb55, nb67, n133a, n133b, n75a, n75b, aT, aR, oT, oR, oF, oG, kT, kF, bI, bL, bR, b0, Classical.not_not, not_true_eq_false, not_false_eq_true, and_self, and_true, true_and, ↓reduceIte, decide_true, decide_false, Nat.reduceEqDiff, Nat.reduceLT, Nat.reduceLeDiff, Int.reduceEq, hsh, c1, c2, nl, w1, c3, q]
      · have q : 0 ≤ i ∧ i + l ≤ D a 1 := by omega
        have w1 := w32_i g1 g2
        simp only [z_cd, i10, i11, dnn, rdU, eW, eU, tzC_w, w_shp, w_ptr, Nat.beq_refl, nbz, nb133, nb75, nb55, nb67, n133a, n133b, n75a, n75b, aT, aR, oT, oR, oF, oG, kT, kF, bI, bL, bR, b0, Classical.not_not, not_true_eq_false, not_false_eq_true, and_self, and_true, true_and, ↓reduceIte, decide_true, decide_false, Nat.reduceEqDiff, Nat.reduceLT, Nat.reduceLeDiff, Int.reduceEq, hsh, c1, c2, nl, w1, c3, q]
set_option maxRecDepth 100000 in
set_option maxHeartbeats 400000 in
theorem q_c1 (d : Nat) (D : Nat → Int → Int) (L n : Nat) {r : Nat} (hr : r < 6) (i t j : Int) (N : Nat) (i0 : 0 ≤ i) (i1 : i + N ≤ 40) : ∀ (u k : Nat), k + u = N → tqrun tqP (d + 1) tqc_X12_copy 104 [vR 81, vI (r : Int), vI i, vI t, vI j, vI (N : Int), vI (k : Int)] [] (tzW (tzC D 84 (40 * r + i) 85 0 k) L n) = tqrun tqP (d + 1) tqc_X12_copy 141 [vR 81, vU, vU, vI t, vI j, vI (N : Int), vI 0] [] (tzW (tzC D 84 (40 * r + i) 85 0 N) L n)
  | 0, k, h => by
    have c : (N : Int) ≤ k := by omega
    have e : k = N := by omega
    rw [b_X12_copy_104]
    simp only [z_cd, i10, i11, dnn, rdU, eW, eU, tzC_w, w_shp, w_ptr, Nat.beq_refl, nbz, nb133, nb75, nb55, nb67, n133a, n133b, n75a, n75b, aT, aR, oT, oR, oF, oG, kT, kF, bI, bL, bR, b0, Classical.not_not, not_true_eq_false, not_false_eq_true, and_self, and_true, true_and, ↓reduceIte, decide_true, decide_false, Nat.reduceEqDiff, Nat.reduceLT, Nat.reduceLeDiff, Int.reduceEq, c]
    rw [e]
  | u + 1, k, h => by
    have c : ¬ (N : Int) ≤ k := by omega
    have hb1 : tqib (40 * (r : Int) + i + k) 240 = true := tqib_y (by omega) (by omega)
    have hb2 : tqib (k : Int) 40 = true := tqib_y (by omega) (by omega)
    have ih := q_c1 d D L n hr i t j N i0 i1 u (k + 1) (by omega)
    have z := tzC_U D 84 (40 * r + i) 85 0 (k := (k : Int)) (x := (k : Int)) (v := D 84 (40 * r + i + k)) (by omega) (by omega) rfl
    have w1 := w40_3 hr i0 (show i ≤ 40 by omega) (show (0 : Int) ≤ (k : Int) by omega) (show (k : Int) ≤ 40 by omega)
    have w2 := w32_s k (by clear w1; omega)
    rw [kz] at z
    rw [← ih, b_X12_copy_104]
    simp only [z_cd, i10, i11, dnn, rdU, eW, eU, tzC_w, w_shp, w_ptr, Nat.beq_refl, nbz, nb133, nb75, nb55, nb67, n133a, n133b, n75a, n75b, aT, aR, oT, oR, oF, oG, kT, kF, bI, bL, bR, b0, Classical.not_not, not_true_eq_false, not_false_eq_true, and_self, and_true, true_and, ↓reduceIte, decide_true, decide_false, Nat.reduceEqDiff, Nat.reduceLT, Nat.reduceLeDiff, Int.reduceEq, rdC, c, hb1, hb2, w1, w2, z]
set_option maxRecDepth 100000 in
set_option maxHeartbeats 400000 in
theorem q_c2 (d : Nat) (D : Nat → Int → Int) (L n : Nat) {t : Nat} (ht : t < 6) (j : Int) (N : Nat) (j0 : 0 ≤ j) (j1 : j + N ≤ 40) : ∀ (u k : Nat), k + u = N → tqrun tqP (d + 1) tqc_X12_copy 141 [vR 81, vU, vU, vI (t : Int), vI j, vI (N : Int), vI (k : Int)] [] (tzW (tzC D 85 0 84 (40 * t + j) k) L n) = some (some (vI 1), tzW (tzC D 85 0 84 (40 * t + j) N) L n)
  | 0, k, h => by
    have c : (N : Int) ≤ k := by omega
    have e : k = N := by omega
    rw [b_X12_copy_141]
    simp only [z_cd, i10, i11, dnn, rdU, eW, eU, tzC_w, w_shp, w_ptr, Nat.beq_refl, nbz, nb133, nb75, nb55, nb67, n133a, n133b, n75a, n75b, aT, aR, oT, oR, oF, oG, kT, kF, bI, bL, bR, b0, Classical.not_not, not_true_eq_false, not_false_eq_true, and_self, and_true, true_and, ↓reduceIte, decide_true, decide_false, Nat.reduceEqDiff, Nat.reduceLT, Nat.reduceLeDiff, Int.reduceEq, c]
    rw [e]
  | u + 1, k, h => by
    have c : ¬ (N : Int) ≤ k := by omega
    have hb1 : tqib (40 * (t : Int) + j + k) 240 = true := tqib_y (by omega) (by omega)
    have hb2 : tqib (k : Int) 40 = true := tqib_y (by omega) (by omega)
    have ih := q_c2 d D L n ht j N j0 j1 u (k + 1) (by omega)
    have z := tzC_U D 85 0 84 (40 * t + j) (k := (k : Int)) (x := 40 * t + j + k) (v := D 85 k) (by omega) rfl (by rw [Int.zero_add])
    have w1 := w40_3 ht j0 (show j ≤ 40 by omega) (show (0 : Int) ≤ (k : Int) by omega) (show (k : Int) ≤ 40 by omega)
    have w2 := w32_s k (by clear w1; omega)
    rw [kz] at z
    rw [← ih, b_X12_copy_141]
    simp only [z_cd, i10, i11, dnn, rdU, eW, eU, tzC_w, w_shp, w_ptr, Nat.beq_refl, nbz, nb133, nb75, nb55, nb67, n133a, n133b, n75a, n75b, aT, aR, oT, oR, oF, oG, kT, kF, bI, bL, bR, b0, Classical.not_not, not_true_eq_false, not_false_eq_true, and_self, and_true, true_and, ↓reduceIte, decide_true, decide_false, Nat.reduceEqDiff, Nat.reduceLT, Nat.reduceLeDiff, Int.reduceEq, rdC, c, hb1, hb2, w1, w2, z]
