theorem jc_gt (x y : Int) : (0 < jcmp x y) = (y < x) := by
  unfold jcmp; apply propext; by_cases h : x < y
  · rw [if_pos h]; omega
  · rw [if_neg h]; by_cases g : x = y
    · rw [if_pos g]; omega
    · rw [if_neg g]; omega
theorem jc_lt (x y : Int) : (jcmp x y < 0) = (x < y) := by
  unfold jcmp; apply propext; by_cases h : x < y
  · rw [if_pos h]; omega
  · rw [if_neg h]; by_cases g : x = y
    · rw [if_pos g]; omega
    · rw [if_neg g]; omega
theorem jc_le (x y : Int) : (jcmp x y ≤ 0) = (x ≤ y) := by
  unfold jcmp; apply propext; by_cases h : x < y
  · rw [if_pos h]; omega
  · rw [if_neg h]; by_cases g : x = y
    · rw [if_pos g]; omega
    · rw [if_neg g]; omega
theorem jc_ge (x y : Int) : (0 ≤ jcmp x y) = (y ≤ x) := by
  unfold jcmp; apply propext; by_cases h : x < y
  · rw [if_pos h]; omega
  · rw [if_neg h]; by_cases g : x = y
    · rw [if_pos g]; omega
    · rw [if_neg g]; omega
theorem jc_eq (x y : Int) : (jcmp x y = 0) = (x = y) := by
  unfold jcmp; apply propext; by_cases h : x < y
  · rw [if_pos h]; omega
  · rw [if_neg h]; by_cases g : x = y
    · rw [if_pos g]; omega
    · rw [if_neg g]; omega
theorem tqbL_mk2 (x : Int) (m : tqM) (f : Int → tqM → Option tqRes) : tqbL (some (some (vL x), m)) f = f x m := rfl
/-- what is known of the loads of trailer t: how many, and their bounds -/
def LB (D : Nat → Int → Int) (t l : Nat) : Prop := D 99 t = l ∧ l ≤ 6 ∧ ∀ k : Nat, k < l → 1 ≤ D 100 (6 * t + k) ∧ D 100 (6 * t + k) ≤ 20000 ∧ 0 ≤ D 101 (6 * t + k) ∧ D 101 (6 * t + k) ≤ 130
theorem LB_of {D : Nat → Int → Int} {t : Nat} (h : LD D t) : LB D t (D 99 t).toNat := by
  obtain ⟨g1, g2, g3, g4, g5, g6⟩ := h
  exact ⟨by omega, by omega, fun k hk => g6 k (by omega)⟩
theorem LB_b {D : Nat → Int → Int} {t l : Nat} (h : LB D t l) (k : Nat) (hk : k ≤ l) : 0 ≤ sw D t k ∧ sw D t k ≤ 120000 ∧ 0 ≤ sm D t k ∧ sm D t k ≤ 15600000 := by
  have b1 := sw_bd (D := D) (t := t) k (fun i q => ⟨(h.2.2 i (by omega)).1, (h.2.2 i (by omega)).2.1⟩)
  have b2 := sm_bd (D := D) (t := t) k (fun i q => h.2.2 i (by omega))
  have := h.2.1
  omega
set_option maxRecDepth 100000 in
set_option maxHeartbeats 2000000 in
theorem q_sumOf_w (d : Nat) (D : Nat → Int → Int) (L n t l : Nat) (ht : t < 12) (h : LB D t l) : ∀ j k : Nat, j + k = l → tqrun tqP (d + 1) tqc_X12_sumOf 5 [vR 81, vI (t : Int), vI 0, vL (sw D t k), vU, vI (k : Int)] [] (tzW D L n) = some (some (vL (sw D t l)), tzW D L n)
  | 0, k, e => by
    have hb : tqib (t : Int) 12 = true := tqib_y (by omega) (by omega)
    have c : (l : Int) ≤ k := by omega
    have e2 : k = l := by omega
    rw [b_X12_sumOf_5]
    simp only [z_cd, i10, i11, dnn, rdU, eW, eU, tzC_w, w_shp, w_ptr, Nat.beq_refl, nbz, nb133, nb75, nb55, nb67, n133a, n133b, n75a, n75b, Bool.true_and, Bool.and_true, Bool.true_or, Bool.or_true, Bool.false_or, Bool.or_false, cond_true, cond_false, tqbI_mk, tqbR_mk, tqb0_mk, Classical.not_not, not_true_eq_false, not_false_eq_true, and_self, and_true, true_and, ↓reduceIte, decide_true, decide_false, Nat.reduceEqDiff, Nat.reduceLT, Nat.reduceLeDiff, Int.reduceEq, hb, h.1, c]
    rw [e2]
  | j + 1, k, e => by
    have hb : tqib (t : Int) 12 = true := tqib_y (by omega) (by omega)
    have c : ¬ (l : Int) ≤ k := by omega
    have hl := h.2.1
    obtain ⟨q1, q2, q3, q4⟩ := h.2.2 k (by omega)
    have q5 := mul_bd q1 q2 q3 q4
    have q6 := LB_b h k (by omega)
    have w5 : w32 (6 * (t : Int)) = 6 * t := w32_id ⟨by omega, by omega⟩
    have w6 : w32 (6 * (t : Int) + k) = 6 * t + k := w32_id ⟨by omega, by omega⟩
    have hb7 : tqib (6 * (t : Int) + k) 72 = true := tqib_y (by omega) (by omega)
    have w7 : w64 (D 100 (6 * t + k) * D 101 (6 * t + k)) = D 100 (6 * t + k) * D 101 (6 * t + k) := w64_id ⟨by omega, by omega⟩
    have w8 : w64 (sw D t k + D 100 (6 * t + k)) = sw D t (k + 1) := by
      show w64 (sw D t k + D 100 (6 * t + k)) = sw D t k + D 100 (6 * t + k)
      exact w64_id ⟨by omega, by omega⟩
    have w9 : w32 ((k : Int) + 1) = ((k + 1 : Nat) : Int) := w32_id ⟨by omega, by omega⟩
    rw [b_X12_sumOf_5]
    simp only [z_cd, i10, i11, dnn, rdU, eW, eU, tzC_w, w_shp, w_ptr, Nat.beq_refl, nbz, nb133, nb75, nb55, nb67, n133a, n133b, n75a, n75b, Bool.true_and, Bool.and_true, Bool.true_or, Bool.or_true, Bool.false_or, Bool.or_false, cond_true, cond_false, tqbI_mk, tqbR_mk, tqb0_mk, Classical.not_not, not_true_eq_false, not_false_eq_true, and_self, and_true, true_and, ↓reduceIte, decide_true, decide_false, Nat.reduceEqDiff, Nat.reduceLT, Nat.reduceLeDiff, Int.reduceEq, hb, h.1, c, w5, w6, hb7, w7, w8, w9, Int.reduceEq, decide_false]
    exact q_sumOf_w d D L n t l ht h j (k + 1) (by omega)
set_option maxRecDepth 100000 in
set_option maxHeartbeats 2000000 in
theorem q_sumOf0 (d : Nat) (D : Nat → Int → Int) (L n t l : Nat) (ht : t < 12) (h : LB D t l) : tqden tqP (d + 1) n_X12_sumOf [vR 81, vI (t : Int), vI 0] (tzW D L n) = some (some (vL (sw D t l)), tzW D L n) := by
  rw [dn_X12_sumOf, b_X12_sumOf_0]
  exact q_sumOf_w d D L n t l ht h l 0 (by omega)
set_option maxRecDepth 100000 in
set_option maxHeartbeats 2000000 in
theorem q_sumOf_m (d : Nat) (D : Nat → Int → Int) (L n t l : Nat) (ht : t < 12) (h : LB D t l) : ∀ j k : Nat, j + k = l → tqrun tqP (d + 1) tqc_X12_sumOf 5 [vR 81, vI (t : Int), vI 1, vL (sm D t k), vU, vI (k : Int)] [] (tzW D L n) = some (some (vL (sm D t l)), tzW D L n)
  | 0, k, e => by
    have hb : tqib (t : Int) 12 = true := tqib_y (by omega) (by omega)
    have c : (l : Int) ≤ k := by omega
    have e2 : k = l := by omega
    rw [b_X12_sumOf_5]
    simp only [z_cd, i10, i11, dnn, rdU, eW, eU, tzC_w, w_shp, w_ptr, Nat.beq_refl, nbz, nb133, nb75, nb55, nb67, n133a, n133b, n75a, n75b, Bool.true_and, Bool.and_true, Bool.true_or, Bool.or_true, Bool.false_or, Bool.or_false, cond_true, cond_false, tqbI_mk, tqbR_mk, tqb0_mk, Classical.not_not, not_true_eq_false, not_false_eq_true, and_self, and_true, true_and, ↓reduceIte, decide_true, decide_false, Nat.reduceEqDiff, Nat.reduceLT, Nat.reduceLeDiff, Int.reduceEq, hb, h.1, c]
    rw [e2]
  | j + 1, k, e => by
    have hb : tqib (t : Int) 12 = true := tqib_y (by omega) (by omega)
    have c : ¬ (l : Int) ≤ k := by omega
    have hl := h.2.1
    obtain ⟨q1, q2, q3, q4⟩ := h.2.2 k (by omega)
    have q5 := mul_bd q1 q2 q3 q4
    have q6 := LB_b h k (by omega)
    have w5 : w32 (6 * (t : Int)) = 6 * t := w32_id ⟨by omega, by omega⟩
    have w6 : w32 (6 * (t : Int) + k) = 6 * t + k := w32_id ⟨by omega, by omega⟩
    have hb7 : tqib (6 * (t : Int) + k) 72 = true := tqib_y (by omega) (by omega)
    have w7 : w64 (D 100 (6 * t + k) * D 101 (6 * t + k)) = D 100 (6 * t + k) * D 101 (6 * t + k) := w64_id ⟨by omega, by omega⟩
    have w8 : w64 (sm D t k + D 100 (6 * t + k) * D 101 (6 * t + k)) = sm D t (k + 1) := by
      show w64 (sm D t k + D 100 (6 * t + k) * D 101 (6 * t + k)) = sm D t k + D 100 (6 * t + k) * D 101 (6 * t + k)
      exact w64_id ⟨by omega, by omega⟩
    have w9 : w32 ((k : Int) + 1) = ((k + 1 : Nat) : Int) := w32_id ⟨by omega, by omega⟩
    rw [b_X12_sumOf_5]
    simp only [z_cd, i10, i11, dnn, rdU, eW, eU, tzC_w, w_shp, w_ptr, Nat.beq_refl, nbz, nb133, nb75, nb55, nb67, n133a, n133b, n75a, n75b, Bool.true_and, Bool.and_true, Bool.true_or, Bool.or_true, Bool.false_or, Bool.or_false, cond_true, cond_false, tqbI_mk, tqbR_mk, tqb0_mk, Classical.not_not, not_true_eq_false, not_false_eq_true, and_self, and_true, true_and, ↓reduceIte, decide_true, decide_false, Nat.reduceEqDiff, Nat.reduceLT, Nat.reduceLeDiff, Int.reduceEq, hb, h.1, c, w5, w6, hb7, w7, w8, w9, Int.reduceEq, decide_false]
    exact q_sumOf_m d D L n t l ht h j (k + 1) (by omega)
set_option maxRecDepth 100000 in
set_option maxHeartbeats 2000000 in
theorem q_sumOf1 (d : Nat) (D : Nat → Int → Int) (L n t l : Nat) (ht : t < 12) (h : LB D t l) : tqden tqP (d + 1) n_X12_sumOf [vR 81, vI (t : Int), vI 1] (tzW D L n) = some (some (vL (sm D t l)), tzW D L n) := by
  rw [dn_X12_sumOf, b_X12_sumOf_0]
  exact q_sumOf_m d D L n t l ht h l 0 (by omega)
theorem mulb {x a : Int} (h0 : 0 ≤ x) (h1 : x ≤ 120000) (g0 : 0 ≤ a) (g1 : a ≤ 200) : 0 ≤ x * a ∧ x * a ≤ 24000000 :=
  ⟨Int.mul_nonneg h0 g0, Int.le_trans (Int.mul_le_mul h1 g1 g0 (by omega)) (by omega)⟩
set_option maxRecDepth 100000 in
set_option maxHeartbeats 2000000 in
theorem q_liesOn0 (d : Nat) (D : Nat → Int → Int) (L n t l : Nat) (ht : t < 12) (h : LB D t l) (a : Int) : tqden tqP (d + 2) n_X12_liesOn [vR 81, vI (t : Int), vI a, vI 0] (tzW D L n) = some (some (vL (sm D t l)), tzW D L n) := by
  rw [dn_X12_liesOn, b_X12_liesOn_0]
  simp only [z_cd, i10, i11, dnn, rdU, eW, eU, tzC_w, w_shp, w_ptr, Nat.beq_refl, nbz, nb133, nb75, nb55, nb67, n133a, n133b, n75a, n75b, Bool.true_and, Bool.and_true, Bool.true_or, Bool.or_true, Bool.false_or, Bool.or_false, cond_true, cond_false, tqbI_mk, tqbR_mk, tqb0_mk, Classical.not_not, not_true_eq_false, not_false_eq_true, and_self, and_true, true_and, ↓reduceIte, decide_true, decide_false, Nat.reduceEqDiff, Nat.reduceLT, Nat.reduceLeDiff, Int.reduceEq, q_sumOf1 _ D L n t l ht h, tqbL_mk]
set_option maxRecDepth 100000 in
set_option maxHeartbeats 2000000 in
theorem q_liesOn1 (d : Nat) (D : Nat → Int → Int) (L n t l : Nat) (ht : t < 12) (h : LB D t l) (a : Int) (a0 : 0 ≤ a) (a1 : a ≤ 200) : tqden tqP (d + 2) n_X12_liesOn [vR 81, vI (t : Int), vI a, vI 1] (tzW D L n) = some (some (vL (sw D t l * a - sm D t l)), tzW D L n) := by
  have q := LB_b h l (Nat.le_refl _)
  have q2 := mulb q.1 q.2.1 a0 a1
  have w1 : w64 (sw D t l * a) = sw D t l * a := w64_id ⟨by omega, by omega⟩
  have w2 : w64 (sw D t l * a - sm D t l) = sw D t l * a - sm D t l := w64_id ⟨by omega, by omega⟩
  rw [dn_X12_liesOn, b_X12_liesOn_0]
  simp only [z_cd, i10, i11, dnn, rdU, eW, eU, tzC_w, w_shp, w_ptr, Nat.beq_refl, nbz, nb133, nb75, nb55, nb67, n133a, n133b, n75a, n75b, Bool.true_and, Bool.and_true, Bool.true_or, Bool.or_true, Bool.false_or, Bool.or_false, cond_true, cond_false, tqbI_mk, tqbR_mk, tqb0_mk, Classical.not_not, not_true_eq_false, not_false_eq_true, and_self, and_true, true_and, ↓reduceIte, decide_true, decide_false, Nat.reduceEqDiff, Nat.reduceLT, Nat.reduceLeDiff, Int.reduceEq, q_sumOf1 _ D L n t l ht h, q_sumOf0 _ D L n t l ht h, tqbL_mk, w1, w2, Int.reduceEq, decide_false]
/-- lawful with the axle at a -/
def lwP (W M A K a : Int) : Prop := M ≤ A * a ∧ 0 ≤ W * a - M ∧ W * a - M ≤ K * a
theorem lwP_dec (W M A K a : Int) : lwP W M A K a ↔ (M ≤ A * a ∧ 0 ≤ W * a - M ∧ W * a - M ≤ K * a) := Iff.rfl
set_option maxRecDepth 100000 in
set_option maxHeartbeats 2000000 in
theorem q_isLawful (d : Nat) (D : Nat → Int → Int) (L n t l : Nat) (ht : t < 12) (h : LB D t l) (hP : 0 ≤ D 81 46 ∧ D 81 46 ≤ 100000 ∧ 0 ≤ D 81 47 ∧ D 81 47 ≤ 100000) (a : Int) (a0 : 0 ≤ a) (a1 : a ≤ 200) : tqden tqP (d + 3) n_X12_isLawful [vR 81, vI (t : Int), vI a] (tzW D L n) = some (some (vI (if sm D t l ≤ D 81 46 * a ∧ 0 ≤ sw D t l * a - sm D t l ∧ sw D t l * a - sm D t l ≤ D 81 47 * a then 1 else 0)), tzW D L n) := by
  have q := LB_b h l (Nat.le_refl _)
  have p1 := mulb hP.1 (by omega) a0 a1
  have p2 := mulb hP.2.2.1 (by omega) a0 a1
  have w1 : w64 (D 81 46 * a) = D 81 46 * a := w64_id ⟨by omega, by omega⟩
  have w2 : w64 (D 81 47 * a) = D 81 47 * a := w64_id ⟨by omega, by omega⟩
  rw [dn_X12_isLawful, b_X12_isLawful_0]
  simp only [z_cd, i10, i11, dnn, rdU, eW, eU, tzC_w, w_shp, w_ptr, Nat.beq_refl, nbz, nb133, nb75, nb55, nb67, n133a, n133b, n75a, n75b, Bool.true_and, Bool.and_true, Bool.true_or, Bool.or_true, Bool.false_or, Bool.or_false, cond_true, cond_false, tqbI_mk, tqbR_mk, tqb0_mk, Classical.not_not, not_true_eq_false, not_false_eq_true, and_self, and_true, true_and, ↓reduceIte, decide_true, decide_false, Nat.reduceEqDiff, Nat.reduceLT, Nat.reduceLeDiff, Int.reduceEq, q_liesOn1 _ D L n t l ht h a a0 a1, q_liesOn0 _ D L n t l ht h a, tqbL_mk, w1, w2, jc_gt, jc_lt]
  by_cases k1 : D 81 46 * a < sm D t l
  · rw [if_pos k1, if_neg (by omega)]
  · rw [if_neg k1]
    by_cases k2 : sw D t l * a - sm D t l < 0
    · rw [if_pos k2, if_neg (by omega)]
    · rw [if_neg k2]
      by_cases k3 : D 81 47 * a < sw D t l * a - sm D t l
      · rw [if_pos k3, if_neg (by omega)]
      · rw [if_neg k3, if_pos (by omega)]
set_option maxRecDepth 100000 in
set_option maxHeartbeats 2000000 in
theorem p_isLawfulAt (d : Nat) (D : Nat → Int → Int) (L n t : Nat) (ht : t < n) (A K : Int) (hA : 0 ≤ A ∧ A ≤ 100000) (hK : 0 ≤ K ∧ K ≤ 100000) (hW : 0 ≤ D (133 + t) 11 ∧ D (133 + t) 11 ≤ 120000) (hM : 0 ≤ D (133 + t) 12 ∧ D (133 + t) 12 ≤ 15600000) (a : Int) : tqden tqP (d + 1) n_X9_isLawfulAt [vR (133 + t), vI a, vI A, vI K] (tzW D L n) = some (some (vI (if (60 ≤ a ∧ a ≤ 120) ∧ D (133 + t) 12 ≤ A * a ∧ 0 ≤ D (133 + t) 11 * a - D (133 + t) 12 ∧ D (133 + t) 11 * a - D (133 + t) 12 ≤ K * a then 1 else 0)), tzW D L n) := by
  rw [dn_X9_isLawfulAt, b_X9_isLawfulAt_0]
  by_cases c1 : a < 60
  · simp only [z_cd, c1, ↓reduceIte]
    rw [if_neg (by omega)]
  · by_cases c2 : a ≤ 120
    · have p1 := mulb hA.1 (by omega) (a := a) (by omega) (by omega)
      have p2 := mulb hK.1 (by omega) (a := a) (by omega) (by omega)
      have p3 := mulb hW.1 hW.2 (a := a) (by omega) (by omega)
      have w1 : w32 (A * a) = A * a := w32_id ⟨by omega, by omega⟩
      have w2 : w32 (K * a) = K * a := w32_id ⟨by omega, by omega⟩
      have w3 : w32 (D (133 + t) 11 * a) = D (133 + t) 11 * a := w32_id ⟨by omega, by omega⟩
      have w4 : w32 (D (133 + t) 11 * a - D (133 + t) 12) = D (133 + t) 11 * a - D (133 + t) 12 := w32_id ⟨by omega, by omega⟩
      simp only [z_cd, i10, i11, dnn, rdU, eW, eU, tzC_w, w_shp, w_ptr, Nat.beq_refl, nbz, nb133, nb75, nb55, nb67, n133a, n133b, n75a, n75b, Bool.true_and, Bool.and_true, Bool.true_or, Bool.or_true, Bool.false_or, Bool.or_false, cond_true, cond_false, tqbI_mk, tqbR_mk, tqb0_mk, Classical.not_not, not_true_eq_false, not_false_eq_true, and_self, and_true, true_and, ↓reduceIte, decide_true, decide_false, Nat.reduceEqDiff, Nat.reduceLT, Nat.reduceLeDiff, Int.reduceEq, c1, c2, w_trailer D L n ht, w1, w2, w3, w4]
      by_cases k1 : A * a < D (133 + t) 12
      · rw [if_pos k1, if_neg (by omega)]
      · rw [if_neg k1]
        by_cases k2 : K * a < D (133 + t) 11 * a - D (133 + t) 12
        · rw [if_pos k2, if_neg (by omega)]
        · rw [if_neg k2]
          by_cases k3 : D (133 + t) 11 * a - D (133 + t) 12 < 0
          · rw [if_pos k3, if_neg (by omega)]
          · rw [if_neg k3, if_pos (by omega)]
    · simp only [z_cd, c1, c2, ↓reduceIte]
      rw [if_neg (by omega)]
set_option maxRecDepth 100000 in
set_option maxHeartbeats 2000000 in
theorem ag_lawful {L : Nat} (a0 : Int) : AgI Rel L n_X11_lawful n_X12_lawful [vI a0] := by
  intro D n hR
  obtain ⟨hA, hL, hW, hN, ⟨c1, c2, c3⟩, hT, hD, hK, hB, hQ, hX, hM, hP, hS⟩ := id hR
  by_cases ct : 0 ≤ a0 ∧ a0 < n
  · obtain ⟨t, e⟩ : ∃ t : Nat, a0 = t := ⟨a0.toNat, by omega⟩
    subst e
    have ht : t < n := by omega
    have ht12 : t < 12 := by omega
    have hb : tqib (t : Int) 12 = true := tqib_y (by omega) (by omega)
    have r := hT.1 t ht
    have r2 := r
    have g := hD.1 t ht
    have lb := LB_of g
    have lq := LB_b lb _ (Nat.le_refl _)
    obtain ⟨l, hl⟩ : ∃ l : Nat, l = (D 99 t).toNat := ⟨_, rfl⟩
    rw [← hl] at lb lq
    have eW : D (133 + t) 11 = sw D t l := by rw [hl]; exact g.2.2.2.1
    have eM : D (133 + t) 12 = sm D t l := by rw [hl]; exact g.2.2.2.2.1
    have e9 : D (133 + t) 9 = D 98 t := r.2.2.2.2.2.2.2.2.1
    have a9 : 60 ≤ D 98 t ∧ D 98 t ≤ 120 := by have := r.2.2.2.2.2.2.2.2.2.2.2.2.2.2.2.2.2; omega
    obtain ⟨p1, p2, p3⟩ := hP
    have iL : ∀ (d : Nat) (a : Int), tqden tqP (d + 1) n_X9_isLawfulAt [vR (133 + t), vI a, vI (D 81 46), vI (D 81 47)] (tzW D L n) = some (some (vI (if (60 ≤ a ∧ a ≤ 120) ∧ sm D t l ≤ D 81 46 * a ∧ 0 ≤ sw D t l * a - sm D t l ∧ sw D t l * a - sm D t l ≤ D 81 47 * a then 1 else 0)), tzW D L n) := by
      intro d a
      rw [← eW, ← eM]
      exact p_isLawfulAt d D L n t ht (D 81 46) (D 81 47) (by omega) (by omega) (by omega) (by omega) a
    refine ⟨if sm D t l ≤ D 81 46 * D 98 t ∧ 0 ≤ sw D t l * D 98 t - sm D t l ∧ sw D t l * D 98 t - sm D t l ≤ D 81 47 * D 98 t then 1 else 0, D, n, D, ?_, ?_, rfl, rfl, hR⟩
    · rw [dn_X11_lawful, b_X11_lawful_0]
      simp only [z_cd, i10, i11, dnn, rdU, eW, eU, tzC_w, w_shp, w_ptr, Nat.beq_refl, nbz, nb133, nb75, nb55, nb67, n133a, n133b, n75a, n75b, Bool.true_and, Bool.and_true, Bool.true_or, Bool.or_true, Bool.false_or, Bool.or_false, cond_true, cond_false, tqbI_mk, tqbR_mk, tqb0_mk, Classical.not_not, not_true_eq_false, not_false_eq_true, and_self, and_true, true_and, ↓reduceIte, decide_true, decide_false, Nat.reduceEqDiff, Nat.reduceLT, Nat.reduceLeDiff, Int.reduceEq, p_trailerAt_y _ D L n t c1 c3 ht, w_trailer D L n ht, e9, p1, p2, iL, a9]
      split <;> rfl
    · rw [dn_X12_lawful, b_X12_lawful_0]
      simp only [z_cd, i10, i11, dnn, rdU, eW, eU, tzC_w, w_shp, w_ptr, Nat.beq_refl, nbz, nb133, nb75, nb55, nb67, n133a, n133b, n75a, n75b, Bool.true_and, Bool.and_true, Bool.true_or, Bool.or_true, Bool.false_or, Bool.or_false, cond_true, cond_false, tqbI_mk, tqbR_mk, tqb0_mk, Classical.not_not, not_true_eq_false, not_false_eq_true, and_self, and_true, true_and, ↓reduceIte, decide_true, decide_false, Nat.reduceEqDiff, Nat.reduceLT, Nat.reduceLeDiff, Int.reduceEq, q_isTrailer _ D L n t c2 c3, ct, hb, q_isLawful _ D L n t l ht12 lb p3 (D 98 t) (by omega) (by omega)]
      split <;> rfl
  · refine ⟨-1, D, n, D, ?_, ?_, rfl, rfl, hR⟩
    · rw [dn_X11_lawful, b_X11_lawful_0]
      simp only [z_cd, i10, i11, dnn, rdU, eW, eU, tzC_w, w_shp, w_ptr, Nat.beq_refl, nbz, nb133, nb75, nb55, nb67, n133a, n133b, n75a, n75b, Bool.true_and, Bool.and_true, Bool.true_or, Bool.or_true, Bool.false_or, Bool.or_false, cond_true, cond_false, tqbI_mk, tqbR_mk, tqb0_mk, Classical.not_not, not_true_eq_false, not_false_eq_true, and_self, and_true, true_and, ↓reduceIte, decide_true, decide_false, Nat.reduceEqDiff, Nat.reduceLT, Nat.reduceLeDiff, Int.reduceEq, p_trailerAt_n _ D L n a0 c1 ct, p_isWithin, p_isYard]
    · rw [dn_X12_lawful, b_X12_lawful_0]
      simp only [z_cd, i10, i11, dnn, rdU, eW, eU, tzC_w, w_shp, w_ptr, Nat.beq_refl, nbz, nb133, nb75, nb55, nb67, n133a, n133b, n75a, n75b, Bool.true_and, Bool.and_true, Bool.true_or, Bool.or_true, Bool.false_or, Bool.or_false, cond_true, cond_false, tqbI_mk, tqbR_mk, tqb0_mk, Classical.not_not, not_true_eq_false, not_false_eq_true, and_self, and_true, true_and, ↓reduceIte, decide_true, decide_false, Nat.reduceEqDiff, Nat.reduceLT, Nat.reduceLeDiff, Int.reduceEq, q_isTrailer _ D L n a0 c2 c3, ct, p_in, q_isYard]
/-- the least shift: looked for from k on, j steps more -/
def shR (p : Int → Prop) [h : DecidablePred p] (x : Int) : Nat → Int → Int
  | 0, _ => -9
  | j + 1, k => if p (x - k) then x - k else if p (x + k) then x + k else shR p x j (k + 1)
set_option maxRecDepth 100000 in
set_option maxHeartbeats 2000000 in
theorem ag_shift {L : Nat} (a0 : Int) : AgI Rel L n_X11_shift n_X12_shift [vI a0] := by
  intro D n hR
  obtain ⟨hA, hL, hW, hN, ⟨c1, c2, c3⟩, hT, hD, hK, hB, hQ, hX, hM, hP, hS⟩ := id hR
  by_cases ct : 0 ≤ a0 ∧ a0 < n
  · obtain ⟨t, e⟩ : ∃ t : Nat, a0 = t := ⟨a0.toNat, by omega⟩
    subst e
    have ht : t < n := by omega
    have ht12 : t < 12 := by omega
    have hb : tqib (t : Int) 12 = true := tqib_y (by omega) (by omega)
    have r := hT.1 t ht
    have r2 := r
    have g := hD.1 t ht
    have lb := LB_of g
    have lq := LB_b lb _ (Nat.le_refl _)
    obtain ⟨l, hl⟩ : ∃ l : Nat, l = (D 99 t).toNat := ⟨_, rfl⟩
    rw [← hl] at lb lq
    have eW : D (133 + t) 11 = sw D t l := by rw [hl]; exact g.2.2.2.1
    have eM : D (133 + t) 12 = sm D t l := by rw [hl]; exact g.2.2.2.2.1
    have e9 : D (133 + t) 9 = D 98 t := r.2.2.2.2.2.2.2.2.1
    have a9 : 60 ≤ D 98 t ∧ D 98 t ≤ 120 := by have := r.2.2.2.2.2.2.2.2.2.2.2.2.2.2.2.2.2; omega
    obtain ⟨p1, p2, p3⟩ := hP
    have iL : ∀ (d : Nat) (a : Int), tqden tqP (d + 1) n_X9_isLawfulAt [vR (133 + t), vI a, vI (D 81 46), vI (D 81 47)] (tzW D L n) = some (some (vI (if (60 ≤ a ∧ a ≤ 120) ∧ sm D t l ≤ D 81 46 * a ∧ 0 ≤ sw D t l * a - sm D t l ∧ sw D t l * a - sm D t l ≤ D 81 47 * a then 1 else 0)), tzW D L n) := by
      intro d a
      rw [← eW, ← eM]
      exact p_isLawfulAt d D L n t ht (D 81 46) (D 81 47) (by omega) (by omega) (by omega) (by omega) a
    have lpC : ∀ (j k : Nat), j + k = 61 → tqrun tqP (1398 + 1) tqc_X11_shift 14 [vR 2, vU, vR (133 + t), vI (k : Int)] [] (tzW D L n) = some (some (vI (shR (fun a => (60 ≤ a ∧ a ≤ 120) ∧ sm D t l ≤ D 81 46 * a ∧ 0 ≤ sw D t l * a - sm D t l ∧ sw D t l * a - sm D t l ≤ D 81 47 * a) (D 98 t) j k)), tzW D L n) := by
      intro j
      induction j with
      | zero =>
        intro k hk
        have c : (60 : Int) < k := by omega
        rw [b_X11_shift_14]
        simp only [z_cd, c, ↓reduceIte]
        rfl
      | succ j ih =>
        intro k hk
        have c : ¬ (60 : Int) < k := by omega
        have w1 : w32 (D 98 t - k) = D 98 t - k := w32_id ⟨by omega, by omega⟩
        have w2 : w32 (D 98 t + k) = D 98 t + k := w32_id ⟨by omega, by omega⟩
        have w3 : w32 ((k : Int) + 1) = ((k + 1 : Nat) : Int) := w32_id ⟨by omega, by omega⟩
        rw [b_X11_shift_14]
        simp only [z_cd, i10, i11, dnn, rdU, eW, eU, tzC_w, w_shp, w_ptr, Nat.beq_refl, nbz, nb133, nb75, nb55, nb67, n133a, n133b, n75a, n75b, Bool.true_and, Bool.and_true, Bool.true_or, Bool.or_true, Bool.false_or, Bool.or_false, cond_true, cond_false, tqbI_mk, tqbR_mk, tqb0_mk, Classical.not_not, not_true_eq_false, not_false_eq_true, and_self, and_true, true_and, ↓reduceIte, decide_true, decide_false, Nat.reduceEqDiff, Nat.reduceLT, Nat.reduceLeDiff, Int.reduceEq, c, w_trailer D L n ht, e9, p1, p2, iL, w1, w2, w3, ih (k + 1) (by omega)]
        unfold shR
        split
        · rw [if_neg (by assumption)]
          split
          · rw [if_neg (by assumption)]; rfl
          · rw [if_pos (Classical.not_not.mp (by assumption))]
        · rw [if_pos (Classical.not_not.mp (by assumption))]
    have lpM : ∀ (j k : Nat), j + k = 61 → tqrun tqP (1398 + 1) tqc_X12_shift 12 [vR 81, vI (t : Int), vI (k : Int)] [] (tzW D L n) = some (some (vI (shR (fun a => (60 ≤ a ∧ a ≤ 120) ∧ sm D t l ≤ D 81 46 * a ∧ 0 ≤ sw D t l * a - sm D t l ∧ sw D t l * a - sm D t l ≤ D 81 47 * a) (D 98 t) j k)), tzW D L n) := by
      intro j
      induction j with
      | zero =>
        intro k hk
        have c : (60 : Int) < k := by omega
        rw [b_X12_shift_12]
        simp only [z_cd, c, ↓reduceIte]
        rfl
      | succ j ih =>
        intro k hk
        have c : ¬ (60 : Int) < k := by omega
        have w1 : w32 (D 98 t - k) = D 98 t - k := w32_id ⟨by omega, by omega⟩
        have w2 : w32 (D 98 t + k) = D 98 t + k := w32_id ⟨by omega, by omega⟩
        have w3 : w32 ((k : Int) + 1) = ((k + 1 : Nat) : Int) := w32_id ⟨by omega, by omega⟩
        have h57 : tqrun tqP (1398 + 1) tqc_X12_shift 57 [vR 81, vI (t : Int), vI (k : Int)] [] (tzW D L n) = some (some (vI (if (60 ≤ D 98 t + k ∧ D 98 t + k ≤ 120) ∧ sm D t l ≤ D 81 46 * (D 98 t + k) ∧ 0 ≤ sw D t l * (D 98 t + k) - sm D t l ∧ sw D t l * (D 98 t + k) - sm D t l ≤ D 81 47 * (D 98 t + k) then D 98 t + k else shR (fun a => (60 ≤ a ∧ a ≤ 120) ∧ sm D t l ≤ D 81 46 * a ∧ 0 ≤ sw D t l * a - sm D t l ∧ sw D t l * a - sm D t l ≤ D 81 47 * a) (D 98 t) j ((k + 1 : Nat) : Int))), tzW D L n) := by
          rw [b_X12_shift_57]
          by_cases ca : 60 ≤ D 98 t + k ∧ D 98 t + k ≤ 120
          · simp only [z_cd, i10, i11, dnn, rdU, eW, eU, tzC_w, w_shp, w_ptr, Nat.beq_refl, nbz, nb133, nb75, nb55, nb67, n133a, n133b, n75a, n75b, Bool.true_and, Bool.and_true, Bool.true_or, Bool.or_true, Bool.false_or, Bool.or_false, cond_true, cond_false, tqbI_mk, tqbR_mk, tqb0_mk, Classical.not_not, not_true_eq_false, not_false_eq_true, and_self, and_true, true_and, ↓reduceIte, decide_true, decide_false, Nat.reduceEqDiff, Nat.reduceLT, Nat.reduceLeDiff, Int.reduceEq, hb, q_isAxle, ca, w2, w3, q_isLawful _ D L n t l ht12 lb p3 (D 98 t + k) (by omega) (by omega), ih (k + 1) (by omega)]
            split
            · rw [if_neg (by assumption)]
            · rw [if_pos (Classical.not_not.mp (by assumption))]
          · simp only [z_cd, i10, i11, dnn, rdU, eW, eU, tzC_w, w_shp, w_ptr, Nat.beq_refl, nbz, nb133, nb75, nb55, nb67, n133a, n133b, n75a, n75b, Bool.true_and, Bool.and_true, Bool.true_or, Bool.or_true, Bool.false_or, Bool.or_false, cond_true, cond_false, tqbI_mk, tqbR_mk, tqb0_mk, Classical.not_not, not_true_eq_false, not_false_eq_true, and_self, and_true, true_and, ↓reduceIte, decide_true, decide_false, Nat.reduceEqDiff, Nat.reduceLT, Nat.reduceLeDiff, Int.reduceEq, hb, q_isAxle, ca, w2, w3, ih (k + 1) (by omega), false_and]
        rw [b_X12_shift_12]
        unfold shR
        by_cases ca : 60 ≤ D 98 t - k ∧ D 98 t - k ≤ 120
        · simp only [z_cd, i10, i11, dnn, rdU, eW, eU, tzC_w, w_shp, w_ptr, Nat.beq_refl, nbz, nb133, nb75, nb55, nb67, n133a, n133b, n75a, n75b, Bool.true_and, Bool.and_true, Bool.true_or, Bool.or_true, Bool.false_or, Bool.or_false, cond_true, cond_false, tqbI_mk, tqbR_mk, tqb0_mk, Classical.not_not, not_true_eq_false, not_false_eq_true, and_self, and_true, true_and, ↓reduceIte, decide_true, decide_false, Nat.reduceEqDiff, Nat.reduceLT, Nat.reduceLeDiff, Int.reduceEq, c, hb, q_isAxle, ca, w1, q_isLawful _ D L n t l ht12 lb p3 (D 98 t - k) (by omega) (by omega), h57]
          split
          · rw [if_neg (by assumption)]; rfl
          · rw [if_pos (Classical.not_not.mp (by assumption))]
        · simp only [z_cd, i10, i11, dnn, rdU, eW, eU, tzC_w, w_shp, w_ptr, Nat.beq_refl, nbz, nb133, nb75, nb55, nb67, n133a, n133b, n75a, n75b, Bool.true_and, Bool.and_true, Bool.true_or, Bool.or_true, Bool.false_or, Bool.or_false, cond_true, cond_false, tqbI_mk, tqbR_mk, tqb0_mk, Classical.not_not, not_true_eq_false, not_false_eq_true, and_self, and_true, true_and, ↓reduceIte, decide_true, decide_false, Nat.reduceEqDiff, Nat.reduceLT, Nat.reduceLeDiff, Int.reduceEq, c, hb, q_isAxle, ca, w1, h57, false_and]
          rfl
    refine ⟨shR (fun a => (60 ≤ a ∧ a ≤ 120) ∧ sm D t l ≤ D 81 46 * a ∧ 0 ≤ sw D t l * a - sm D t l ∧ sw D t l * a - sm D t l ≤ D 81 47 * a) (D 98 t) 61 ((0 : Nat) : Int), D, n, D, ?_, ?_, rfl, rfl, hR⟩
    · rw [dn_X11_shift, b_X11_shift_0]
      simp only [z_cd, i10, i11, dnn, rdU, eW, eU, tzC_w, w_shp, w_ptr, Nat.beq_refl, nbz, nb133, nb75, nb55, nb67, n133a, n133b, n75a, n75b, Bool.true_and, Bool.and_true, Bool.true_or, Bool.or_true, Bool.false_or, Bool.or_false, cond_true, cond_false, tqbI_mk, tqbR_mk, tqb0_mk, Classical.not_not, not_true_eq_false, not_false_eq_true, and_self, and_true, true_and, ↓reduceIte, decide_true, decide_false, Nat.reduceEqDiff, Nat.reduceLT, Nat.reduceLeDiff, Int.reduceEq, p_trailerAt_y _ D L n t c1 c3 ht]
      exact lpC 61 0 rfl
    · rw [dn_X12_shift, b_X12_shift_0]
      simp only [z_cd, i10, i11, dnn, rdU, eW, eU, tzC_w, w_shp, w_ptr, Nat.beq_refl, nbz, nb133, nb75, nb55, nb67, n133a, n133b, n75a, n75b, Bool.true_and, Bool.and_true, Bool.true_or, Bool.or_true, Bool.false_or, Bool.or_false, cond_true, cond_false, tqbI_mk, tqbR_mk, tqb0_mk, Classical.not_not, not_true_eq_false, not_false_eq_true, and_self, and_true, true_and, ↓reduceIte, decide_true, decide_false, Nat.reduceEqDiff, Nat.reduceLT, Nat.reduceLeDiff, Int.reduceEq, q_isTrailer _ D L n t c2 c3, ct]
      exact lpM 61 0 rfl
  · refine ⟨-1, D, n, D, ?_, ?_, rfl, rfl, hR⟩
    · rw [dn_X11_shift, b_X11_shift_0]
      simp only [z_cd, i10, i11, dnn, rdU, eW, eU, tzC_w, w_shp, w_ptr, Nat.beq_refl, nbz, nb133, nb75, nb55, nb67, n133a, n133b, n75a, n75b, Bool.true_and, Bool.and_true, Bool.true_or, Bool.or_true, Bool.false_or, Bool.or_false, cond_true, cond_false, tqbI_mk, tqbR_mk, tqb0_mk, Classical.not_not, not_true_eq_false, not_false_eq_true, and_self, and_true, true_and, ↓reduceIte, decide_true, decide_false, Nat.reduceEqDiff, Nat.reduceLT, Nat.reduceLeDiff, Int.reduceEq, p_trailerAt_n _ D L n a0 c1 ct, p_isWithin, p_isYard]
    · rw [dn_X12_shift, b_X12_shift_0]
      simp only [z_cd, i10, i11, dnn, rdU, eW, eU, tzC_w, w_shp, w_ptr, Nat.beq_refl, nbz, nb133, nb75, nb55, nb67, n133a, n133b, n75a, n75b, Bool.true_and, Bool.and_true, Bool.true_or, Bool.or_true, Bool.false_or, Bool.or_false, cond_true, cond_false, tqbI_mk, tqbR_mk, tqb0_mk, Classical.not_not, not_true_eq_false, not_false_eq_true, and_self, and_true, true_and, ↓reduceIte, decide_true, decide_false, Nat.reduceEqDiff, Nat.reduceLT, Nat.reduceLeDiff, Int.reduceEq, q_isTrailer _ D L n a0 c2 c3, ct, p_in, q_isYard]
