theorem mulb {x a : Int} (h0 : 0 ≤ x) (h1 : x ≤ 120000) (g0 : 0 ≤ a) (g1 : a ≤ 200) : 0 ≤ x * a ∧ x * a ≤ 24000000 :=
  ⟨Int.mul_nonneg h0 g0, Int.le_trans (Int.mul_le_mul h1 g1 g0 (by omega)) (by omega)⟩
set_option maxRecDepth 100000 in
set_option maxHeartbeats 400000 in
theorem q_liesOn0 (d : Nat) (D : Nat → Int → Int) (L n t l : Nat) (ht : t < 12) (h : LB D t l) (a : Int) : tqden tqP (d + 2) n_X12_liesOn [vR 81, vI (t : Int), vI a, vI 0] (tzW D L n) = some (some (vL (sm D t l)), tzW D L n) := by
  rw [dn_X12_liesOn, b_X12_liesOn_0]
  simp only [z_cd, i10, i11, dnn, rdU, eW, eU, tzC_w, w_shp, w_ptr, Nat.beq_refl, nbz, nb133, nb75, nb55, nb67, n133a, n133b, n75a, n75b, aT, aR, oT, oR, oF, oG, kT, kF, bI, bL, bR, b0, Classical.not_not, not_true_eq_false, not_false_eq_true, and_self, and_true, true_and, ↓reduceIte, decide_true, decide_false, Nat.reduceEqDiff, Nat.reduceLT, Nat.reduceLeDiff, Int.reduceEq, q_sumOf1 _ D L n t l ht h]
set_option maxRecDepth 100000 in
set_option maxHeartbeats 400000 in
theorem q_liesOn1 (d : Nat) (D : Nat → Int → Int) (L n t l : Nat) (ht : t < 12) (h : LB D t l) (a : Int) (a0 : 0 ≤ a) (a1 : a ≤ 200) : tqden tqP (d + 2) n_X12_liesOn [vR 81, vI (t : Int), vI a, vI 1] (tzW D L n) = some (some (vL (sw D t l * a - sm D t l)), tzW D L n) := by
  have q := LB_b h l (Nat.le_refl _)
  have q2 := mulb q.1 q.2.1 a0 a1
  have w1 : w64 (sw D t l * a) = sw D t l * a := w64_s (by omega) (by omega)
  have w2 : w64 (sw D t l * a - sm D t l) = sw D t l * a - sm D t l := w64_s (by (try clear w1); omega) (by (try clear w1); omega)
  rw [dn_X12_liesOn, b_X12_liesOn_0]
  simp only [z_cd, i10, i11, dnn, rdU, eW, eU, tzC_w, w_shp, w_ptr, Nat.beq_refl, nbz, nb133, nb75, nb55, nb67, n133a, n133b, n75a, n75b, aT, aR, oT, oR, oF, oG, kT, kF, bI, bL, bR, b0, Classical.not_not, not_true_eq_false, not_false_eq_true, and_self, and_true, true_and, ↓reduceIte, decide_true, decide_false, Nat.reduceEqDiff, Nat.reduceLT, Nat.reduceLeDiff, Int.reduceEq, q_sumOf1 _ D L n t l ht h, q_sumOf0 _ D L n t l ht h, w1, w2, Int.reduceEq, decide_false]
/-- lawful with the axle at a -/
def lwP (W M A K a : Int) : Prop := M ≤ A * a ∧ 0 ≤ W * a - M ∧ W * a - M ≤ K * a
theorem lwP_dec (W M A K a : Int) : lwP W M A K a ↔ (M ≤ A * a ∧ 0 ≤ W * a - M ∧ W * a - M ≤ K * a) := Iff.rfl
set_option maxRecDepth 100000 in
set_option maxHeartbeats 400000 in
theorem q_isLawful (d : Nat) (D : Nat → Int → Int) (L n t l : Nat) (ht : t < 12) (h : LB D t l) (hP : 0 ≤ D 81 46 ∧ D 81 46 ≤ 100000 ∧ 0 ≤ D 81 47 ∧ D 81 47 ≤ 100000) (a : Int) (a0 : 0 ≤ a) (a1 : a ≤ 200) : tqden tqP (d + 3) n_X12_isLawful [vR 81, vI (t : Int), vI a] (tzW D L n) = some (some (vI (if sm D t l ≤ D 81 46 * a ∧ 0 ≤ sw D t l * a - sm D t l ∧ sw D t l * a - sm D t l ≤ D 81 47 * a then 1 else 0)), tzW D L n) := by
  have q := LB_b h l (Nat.le_refl _)
  have p1 := mulb hP.1 (by omega) a0 a1
  have p2 := mulb hP.2.2.1 (by omega) a0 a1
  have w1 : w64 (D 81 46 * a) = D 81 46 * a := w64_s (by omega) (by omega)
  have w2 : w64 (D 81 47 * a) = D 81 47 * a := w64_s (by (try clear w1); omega) (by (try clear w1); omega)
  rw [dn_X12_isLawful, b_X12_isLawful_0]
  simp only [z_cd, i10, i11, dnn, rdU, eW, eU, tzC_w, w_shp, w_ptr, Nat.beq_refl, nbz, nb133, nb75, nb55, nb67, n133a, n133b, n75a, n75b, aT, aR, oT, oR, oF, oG, kT, kF, bI, bL, bR, b0, Classical.not_not, not_true_eq_false, not_false_eq_true, and_self, and_true, true_and, ↓reduceIte, decide_true, decide_false, Nat.reduceEqDiff, Nat.reduceLT, Nat.reduceLeDiff, Int.reduceEq, q_liesOn1 _ D L n t l ht h a a0 a1, q_liesOn0 _ D L n t l ht h a, w1, w2, jc_gt, jc_lt]
  by_cases k1 : D 81 46 * a < sm D t l
  · rw [if_pos k1, if_neg (by (try clear w1 w2); omega)]
  · rw [if_neg k1]
    by_cases k2 : sw D t l * a - sm D t l < 0
    · rw [if_pos k2, if_neg (by (try clear w1 w2); omega)]
    · rw [if_neg k2]
      by_cases k3 : D 81 47 * a < sw D t l * a - sm D t l
      · rw [if_pos k3, if_neg (by (try clear w1 w2); omega)]
      · rw [if_neg k3, if_pos (by (try clear w1 w2); omega)]
set_option maxRecDepth 100000 in
set_option maxHeartbeats 400000 in
theorem p_isLawfulAt (d : Nat) (D : Nat → Int → Int) (L n t : Nat) (ht : t < n) (A K : Int) (hA : 0 ≤ A ∧ A ≤ 100000) (hK : 0 ≤ K ∧ K ≤ 100000) (hW : 0 ≤ D (133 + t) 11 ∧ D (133 + t) 11 ≤ 120000) (hM : 0 ≤ D (133 + t) 12 ∧ D (133 + t) 12 ≤ 15600000) (a : Int) : tqden tqP (d + 1) n_X9_isLawfulAt [vR (133 + t), vI a, vI A, vI K] (tzW D L n) = some (some (vI (if (60 ≤ a ∧ a ≤ 120) ∧ D (133 + t) 12 ≤ A * a ∧ 0 ≤ D (133 + t) 11 * a - D (133 + t) 12 ∧ D (133 + t) 11 * a - D (133 + t) 12 ≤ K * a then 1 else 0)), tzW D L n) := by
  rw [dn_X9_isLawfulAt, b_X9_isLawfulAt_0]
  by_cases c1 : a < 60
  · simp only [z_cd, c1, ↓reduceIte]
    rw [if_neg (by omega)]
  · by_cases c2 : a ≤ 120
    · have p1 := mulb hA.1 (by omega) (a := a) (by omega) (by omega)
      have p2 := mulb hK.1 (by omega) (a := a) (by omega) (by omega)
      have p3 := mulb hW.1 hW.2 (a := a) (by omega) (by omega)
      have w1 : w32 (A * a) = A * a := w32_id ⟨by omega, by omega⟩
      have w2 : w32 (K * a) = K * a := w32_id ⟨by (try clear w1); omega, by (try clear w1); omega⟩
      have w3 : w32 (D (133 + t) 11 * a) = D (133 + t) 11 * a := w32_id ⟨by (try clear w1 w2); omega, by (try clear w1 w2); omega⟩
      have w4 : w32 (D (133 + t) 11 * a - D (133 + t) 12) = D (133 + t) 11 * a - D (133 + t) 12 := w32_id ⟨by (try clear w1 w2 w3); omega, by (try clear w1 w2 w3); omega⟩
      simp only [z_cd, i10, i11, dnn, rdU, eW, eU, tzC_w, w_shp, w_ptr, Nat.beq_refl, nbz, nb133, nb75, nb55, nb67, n133a, n133b, n75a, n75b, aT, aR, oT, oR, oF, oG, kT, kF, bI, bL, bR, b0, Classical.not_not, not_true_eq_false, not_false_eq_true, and_self, and_true, true_and, ↓reduceIte, decide_true, decide_false, Nat.reduceEqDiff, Nat.reduceLT, Nat.reduceLeDiff, Int.reduceEq, c1, c2, w_trailer D L n ht, w1, w2, w3, w4]
      by_cases k1 : A * a < D (133 + t) 12
      · rw [if_pos k1, if_neg (by (try clear w1 w2 w3 w4); omega)]
      · rw [if_neg k1]
        by_cases k2 : K * a < D (133 + t) 11 * a - D (133 + t) 12
        · rw [if_pos k2, if_neg (by (try clear w1 w2 w3 w4); omega)]
        · rw [if_neg k2]
          by_cases k3 : D (133 + t) 11 * a - D (133 + t) 12 < 0
          · rw [if_pos k3, if_neg (by (try clear w1 w2 w3 w4); omega)]
          · rw [if_neg k3, if_pos (by (try clear w1 w2 w3 w4); omega)]
    · simp only [z_cd, c1, c2, ↓reduceIte, and_false, false_and]
