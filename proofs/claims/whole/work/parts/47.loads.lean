theorem w64_s {x : Int} (h1 : -1000000000000 ≤ x) (h2 : x ≤ 1000000000000) : w64 x = x := w64_id (by unfold in64; omega)
theorem w32_k {k : Nat} (h : k ≤ 100000) : w32 ((k : Int) + 1) = ((k + 1 : Nat) : Int) := (w32_id (x := (k : Int) + 1) ⟨by omega, by omega⟩).trans (by omega)
theorem w32_6 {t : Nat} (h : t < 12) : w32 (6 * (t : Int)) = 6 * t := w32_id ⟨by omega, by omega⟩
theorem w32_6k {t k : Nat} (h : t < 12) (h2 : k < 6) : w32 (6 * (t : Int) + k) = 6 * t + k := w32_id ⟨by omega, by omega⟩
theorem sw_S (D : Nat → Int → Int) (t k : Nat) : sw D t k + D 100 (6 * t + k) = sw D t (k + 1) := rfl
theorem sm_S (D : Nat → Int → Int) (t k : Nat) : sm D t k + D 100 (6 * t + k) * D 101 (6 * t + k) = sm D t (k + 1) := rfl
theorem jc_gt (x y : Int) : (0 < jcmp x y) = (y < x) := by
  unfold jcmp; apply propext; by_cases h : x < y
  · rw [if_pos h]; omega
  · rw [if_neg h]; by_cases g : x = y
    · rw [if_pos g]; omega
    · rw [if_neg g]; omega
theorem jc_lt (x y : Int) : (jcmp x y < 0) = (x < y) := by
  unfold jcmp; apply propext; by_cases h : x < y
  · rw [if_pos h]; omega
  · rw [if_neg h]; by_cases g : x = y
    · rw [if_pos g]; omega
    · rw [if_neg g]; omega
theorem jc_le (x y : Int) : (jcmp x y ≤ 0) = (x ≤ y) := by
  unfold jcmp; apply propext; by_cases h : x < y
  · rw [if_pos h]; omega
  · rw [if_neg h]; by_cases g : x = y
    · rw [if_pos g]; omega
    · rw [if_neg g]; omega
theorem jc_ge (x y : Int) : (0 ≤ jcmp x y) = (y ≤ x) := by
  unfold jcmp; apply propext; by_cases h : x < y
  · rw [if_pos h]; omega
  · rw [if_neg h]; by_cases g : x = y
    · rw [if_pos g]; omega
    · rw [if_neg g]; omega
theorem jc_eq (x y : Int) : (jcmp x y = 0) = (x = y) := by
  unfold jcmp; apply propext; by_cases h : x < y
  · rw [if_pos h]; omega
  · rw [if_neg h]; by_cases g : x = y
    · rw [if_pos g]; omega
    · rw [if_neg g]; omega
theorem tqbL_mk2 (x : Int) (m : tqM) (f : Int → tqM → Option tqRes) : tqbL (some (some (vL x), m)) f = f x m := rfl
/-- what is known of the loads of trailer t: how many, and their bounds -/
def LB (D : Nat → Int → Int) (t l : Nat) : Prop := D 99 t = l ∧ l ≤ 6 ∧ ∀ k : Nat, k < l → 1 ≤ D 100 (6 * t + k) ∧ D 100 (6 * t + k) ≤ 20000 ∧ 0 ≤ D 101 (6 * t + k) ∧ D 101 (6 * t + k) ≤ 130
theorem LB_of {D : Nat → Int → Int} {t : Nat} (h : LD D t) : LB D t (D 99 t).toNat := by
  obtain ⟨g1, g2, g3, g4, g5, g6⟩ := h
  exact ⟨by omega, by omega, fun k hk => g6 k (by omega)⟩
theorem LB_b {D : Nat → Int → Int} {t l : Nat} (h : LB D t l) (k : Nat) (hk : k ≤ l) : 0 ≤ sw D t k ∧ sw D t k ≤ 120000 ∧ 0 ≤ sm D t k ∧ sm D t k ≤ 15600000 := by
  have b1 := sw_bd (D := D) (t := t) k (fun i q => ⟨(h.2.2 i (by omega)).1, (h.2.2 i (by omega)).2.1⟩)
  have b2 := sm_bd (D := D) (t := t) k (fun i q => h.2.2 i (by omega))
  have := h.2.1
  omega
set_option maxRecDepth 100000 in
set_option maxHeartbeats 400000 in
theorem q_sumOf_w (d : Nat) (D : Nat → Int → Int) (L n t l : Nat) (ht : t < 12) (h : LB D t l) (j : Nat) : ∀ (k : Nat) (x i : Int), x = sw D t k → i = (k : Int) → j + k = l → tqrun tqP (d + 1) tqc_X12_sumOf 5 [vR 81, vI (t : Int), vI 0, vL x, vU, vI i] [] (tzW D L n) = some (some (vL (sw D t l)), tzW D L n) := by
  have h0 := h
  obtain ⟨hl, h6, hq⟩ := h
  have hb : tqib (t : Int) 12 = true := tqib_y (by omega) (by omega)
  induction j with
  | zero =>
    intro k x i hx hi e
    subst hi
    have c : (l : Int) ≤ k := by omega
    have e2 : k = l := by omega
    rw [b_X12_sumOf_5]
    simp only [z_cd, i10, i11, dnn, rdU, eW, eU, tzC_w, w_shp, w_ptr, Nat.beq_refl, nbz, nb133, nb75, nb55, nb67, n133a, n133b, n75a, n75b, aT, aR, oT, oR, oF, oG, kT, kF, bI, bL, bR, b0, Classical.not_not, not_true_eq_false, not_false_eq_true, and_self, and_true, true_and, ↓reduceIte, decide_true, decide_false, Nat.reduceEqDiff, Nat.reduceLT, Nat.reduceLeDiff, Int.reduceEq, hb, hl, c]
    rw [hx, e2]
  | succ j ih =>
    intro k x i hx hi e
    subst hi
    have c : ¬ (l : Int) ≤ k := by omega
    obtain ⟨q1, q2, q3, q4⟩ := hq k (by omega)
    have q5 := mul_bd q1 q2 q3 q4
    have q6 := LB_b h0 k (by omega)
    have hb7 : tqib (6 * (t : Int) + k) 72 = true := tqib_y (by omega) (by omega)
    have e3 : j + (k + 1) = l := by omega
    have k6 : k < 6 := by omega
    have g1 : -1000000000000 ≤ D 100 (6 * t + k) * D 101 (6 * t + k) := by omega
    have g2 : D 100 (6 * t + k) * D 101 (6 * t + k) ≤ 1000000000000 := by omega
    have g3 : -1000000000000 ≤ sw D t k + D 100 (6 * t + k) := by omega
    have g4 : sw D t k + D 100 (6 * t + k) ≤ 1000000000000 := by omega
    have w5 := w32_6 ht
    have w6 := w32_6k ht k6
    have w7 := w64_s g1 g2
    have w8 : w64 (x + D 100 (6 * t + k)) = sw D t (k + 1) := by
      rw [hx]
      exact (w64_s g3 g4).trans (sw_S D t k)
    have w9 := w32_k (k := k) (by clear w5 w6 w7 w8; omega)
    rw [b_X12_sumOf_5]
    simp only [z_cd, i10, i11, dnn, rdU, eW, eU, tzC_w, w_shp, w_ptr, Nat.beq_refl, nbz, nb133, nb75, nb55, nb67, n133a, n133b, n75a, n75b, aT, aR, oT, oR, oF, oG, kT, kF, bI, bL, bR, b0, Classical.not_not, not_true_eq_false, not_false_eq_true, and_self, and_true, true_and, ↓reduceIte, decide_true, decide_false, Nat.reduceEqDiff, Nat.reduceLT, Nat.reduceLeDiff, Int.reduceEq, hb, hl, c, w5, w6, hb7, w7, w8, w9]
    exact ih (k + 1) (sw D t (k + 1)) ((k + 1 : Nat) : Int) rfl rfl e3
set_option maxRecDepth 100000 in
set_option maxHeartbeats 400000 in
theorem q_sumOf0 (d : Nat) (D : Nat → Int → Int) (L n t l : Nat) (ht : t < 12) (h : LB D t l) : tqden tqP (d + 1) n_X12_sumOf [vR 81, vI (t : Int), vI 0] (tzW D L n) = some (some (vL (sw D t l)), tzW D L n) := by
  rw [dn_X12_sumOf, b_X12_sumOf_0]
  exact q_sumOf_w d D L n t l ht h l 0 0 0 rfl rfl (by omega)
set_option maxRecDepth 100000 in
set_option maxHeartbeats 400000 in
theorem q_sumOf_m (d : Nat) (D : Nat → Int → Int) (L n t l : Nat) (ht : t < 12) (h : LB D t l) (j : Nat) : ∀ (k : Nat) (x i : Int), x = sm D t k → i = (k : Int) → j + k = l → tqrun tqP (d + 1) tqc_X12_sumOf 5 [vR 81, vI (t : Int), vI 1, vL x, vU, vI i] [] (tzW D L n) = some (some (vL (sm D t l)), tzW D L n) := by
  have h0 := h
  obtain ⟨hl, h6, hq⟩ := h
  have hb : tqib (t : Int) 12 = true := tqib_y (by omega) (by omega)
  induction j with
  | zero =>
    intro k x i hx hi e
    subst hi
    have c : (l : Int) ≤ k := by omega
    have e2 : k = l := by omega
    rw [b_X12_sumOf_5]
    simp only [z_cd, i10, i11, dnn, rdU, eW, eU, tzC_w, w_shp, w_ptr, Nat.beq_refl, nbz, nb133, nb75, nb55, nb67, n133a, n133b, n75a, n75b, aT, aR, oT, oR, oF, oG, kT, kF, bI, bL, bR, b0, Classical.not_not, not_true_eq_false, not_false_eq_true, and_self, and_true, true_and, ↓reduceIte, decide_true, decide_false, Nat.reduceEqDiff, Nat.reduceLT, Nat.reduceLeDiff, Int.reduceEq, hb, hl, c]
    rw [hx, e2]
  | succ j ih =>
    intro k x i hx hi e
    subst hi
    have c : ¬ (l : Int) ≤ k := by omega
    obtain ⟨q1, q2, q3, q4⟩ := hq k (by omega)
    have q5 := mul_bd q1 q2 q3 q4
    have q6 := LB_b h0 k (by omega)
    have hb7 : tqib (6 * (t : Int) + k) 72 = true := tqib_y (by omega) (by omega)
    have e3 : j + (k + 1) = l := by omega
    have k6 : k < 6 := by omega
    have g1 : -1000000000000 ≤ D 100 (6 * t + k) * D 101 (6 * t + k) := by omega
    have g2 : D 100 (6 * t + k) * D 101 (6 * t + k) ≤ 1000000000000 := by omega
    have g3 : -1000000000000 ≤ sm D t k + D 100 (6 * t + k) * D 101 (6 * t + k) := by omega
    have g4 : sm D t k + D 100 (6 * t + k) * D 101 (6 * t + k) ≤ 1000000000000 := by omega
    have w5 := w32_6 ht
    have w6 := w32_6k ht k6
    have w7 := w64_s g1 g2
    have w8 : w64 (x + D 100 (6 * t + k) * D 101 (6 * t + k)) = sm D t (k + 1) := by
      rw [hx]
      exact (w64_s g3 g4).trans (sm_S D t k)
    have w9 := w32_k (k := k) (by clear w5 w6 w7 w8; omega)
    rw [b_X12_sumOf_5]
    simp only [z_cd, i10, i11, dnn, rdU, eW, eU, tzC_w, w_shp, w_ptr, Nat.beq_refl, nbz, nb133, nb75, nb55, nb67, n133a, n133b, n75a, n75b, aT, aR, oT, oR, oF, oG, kT, kF, bI, bL, bR, b0, Classical.not_not, not_true_eq_false, not_false_eq_true, and_self, and_true, true_and, ↓reduceIte, decide_true, decide_false, Nat.reduceEqDiff, Nat.reduceLT, Nat.reduceLeDiff, Int.reduceEq, hb, hl, c, w5, w6, hb7, w7, w8, w9]
    exact ih (k + 1) (sm D t (k + 1)) ((k + 1 : Nat) : Int) rfl rfl e3
set_option maxRecDepth 100000 in
set_option maxHeartbeats 400000 in
theorem q_sumOf1 (d : Nat) (D : Nat → Int → Int) (L n t l : Nat) (ht : t < 12) (h : LB D t l) : tqden tqP (d + 1) n_X12_sumOf [vR 81, vI (t : Int), vI 1] (tzW D L n) = some (some (vL (sm D t l)), tzW D L n) := by
  rw [dn_X12_sumOf, b_X12_sumOf_0]
  exact q_sumOf_m d D L n t l ht h l 0 0 0 rfl rfl (by omega)
