theorem w8_a {a b : Int} (h : 0 ≤ a ∧ a ≤ 7) (g : 0 ≤ b ∧ b ≤ 7) : w32 (w32 (a * 8) + b) = 8 * a + b := by
  have e : w32 (a * 8) = 8 * a := (w32_id (x := a * 8) ⟨by omega, by omega⟩).trans (by omega)
  rw [e]
  clear e
  exact w32_id ⟨by omega, by omega⟩
theorem w8_b {a b : Int} (h : 0 ≤ a ∧ a ≤ 7) (g : 0 ≤ b ∧ b ≤ 7) : w32 (w32 (8 * a) + b) = 8 * a + b := by
  have e : w32 (8 * a) = 8 * a := w32_id ⟨by omega, by omega⟩
  rw [e]
  clear e
  exact w32_id ⟨by omega, by omega⟩
theorem ib8 {a b : Int} (h : 0 ≤ a ∧ a ≤ 7) (g : 0 ≤ b ∧ b ≤ 7) : tqib (8 * a + b) 64 = true := tqib_y (by omega) (by omega)
set_option maxRecDepth 100000 in
set_option maxHeartbeats 400000 in
theorem p_joins (d : Nat) (D : Nat → Int → Int) (L n : Nat) (a b : Int) (h : 0 ≤ a ∧ a ≤ 7) (g : 0 ≤ b ∧ b ≤ 7) : tqden tqP (d + 2) n_X10_joins [vR 7, vI a, vI b] (tzW D L n) = some (some (vI (if D 8 (8 * a + b) ≤ 0 then 0 else 1)), tzW D L n) := by
  have hb := ib8 h g
  have w1 := w8_a h g
  rw [dn_X10_joins, b_X10_joins_0]
  by_cases c : D 8 (8 * a + b) ≤ 0
  · simp only [z_cd, i10, i11, dnn, rdU, eW, eU, tzC_w, w_shp, w_ptr, Nat.beq_refl, nbz, nb133, nb75, nb55, nb67, n133a, n133b, n75a, n75b, aT, aR, oT, oR, oF, oG, kT, kF, bI, bL, bR, b0, Classical.not_not, not_true_eq_false, not_false_eq_true, and_self, and_true, true_and, ↓reduceIte, decide_true, decide_false, Nat.reduceEqDiff, Nat.reduceLT, Nat.reduceLeDiff, Int.reduceEq, p_isYard, h, g, hb, w1, c]
  · simp only [z_cd, i10, i11, dnn, rdU, eW, eU, tzC_w, w_shp, w_ptr, Nat.beq_refl, nbz, nb133, nb75, nb55, nb67, n133a, n133b, n75a, n75b, aT, aR, oT, oR, oF, oG, kT, kF, bI, bL, bR, b0, Classical.not_not, not_true_eq_false, not_false_eq_true, and_self, and_true, true_and, ↓reduceIte, decide_true, decide_false, Nat.reduceEqDiff, Nat.reduceLT, Nat.reduceLeDiff, Int.reduceEq, p_isYard, h, g, hb, w1, c]
set_option maxRecDepth 100000 in
set_option maxHeartbeats 400000 in
theorem p_makeFerry (d : Nat) (D : Nat → Int → Int) (L n : Nat) (a b e f : Int) (h : 0 ≤ a ∧ a ≤ 7) (g : 0 ≤ b ∧ b ≤ 7) : tqden tqP (d + 2) n_X10_makeFerry [vR 7, vI a, vI b, vI e, vI f] (tzW D L n) = some (none, tzW (tzU (tzU (tzU (tzU D 10 (8 * a + b) e) 10 (8 * b + a) e) 11 (8 * a + b) f) 11 (8 * b + a) f) L n) := by
  have hb := ib8 h g
  have hb2 := ib8 g h
  have w1 := w8_a h g
  have w2 := w8_a g h
  rw [dn_X10_makeFerry, b_X10_makeFerry_0]
  simp only [z_cd, i10, i11, dnn, rdU, eW, eU, tzC_w, w_shp, w_ptr, Nat.beq_refl, nbz, nb133, nb75, nb55, nb67, n133a, n133b, n75a, n75b, aT, aR, oT, oR, oF, oG, kT, kF, bI, bL, bR, b0, Classical.not_not, not_true_eq_false, not_false_eq_true, and_self, and_true, true_and, ↓reduceIte, decide_true, decide_false, Nat.reduceEqDiff, Nat.reduceLT, Nat.reduceLeDiff, Int.reduceEq, p_isYard, h, g, hb, hb2, w1, w2]
set_option maxRecDepth 100000 in
set_option maxHeartbeats 400000 in
theorem p_join (d : Nat) (D : Nat → Int → Int) (L n : Nat) (a b m c z : Int) (h : 0 ≤ a ∧ a ≤ 7) (g : 0 ≤ b ∧ b ≤ 7) (hz : z = if D 8 (8 * a + b) ≤ 0 then D 7 5 + 1 else D 7 5) (z0 : -1000 ≤ D 7 5) (z1 : D 7 5 ≤ 1000) : tqden tqP (d + 3) n_X10_join [vR 7, vI a, vI b, vI m, vI c] (tzW D L n) = some (none, tzW (tzU (tzU (tzU (tzU (tzU (tzU (tzU (tzU (tzU D 7 5 z) 8 (8 * a + b) m) 8 (8 * b + a) m) 9 (8 * a + b) c) 9 (8 * b + a) c) 10 (8 * a + b) 0) 10 (8 * b + a) 0) 11 (8 * a + b) 0) 11 (8 * b + a) 0) L n) := by
  have hb := ib8 h g
  have hb2 := ib8 g h
  have g1 : -2147483648 ≤ D 7 5 + 1 := by omega
  have g2 : D 7 5 + 1 ≤ 2147483647 := by omega
  have w1 := w8_a h g
  have w2 := w8_a g h
  have w3 := w32_i g1 g2
  rw [dn_X10_join, b_X10_join_0]
  by_cases k : D 8 (8 * a + b) ≤ 0
  · rw [if_pos k] at hz
    subst hz
    simp only [z_cd, i10, i11, dnn, rdU, eW, eU, tzC_w, w_shp, w_ptr, Nat.beq_refl, nbz, nb133, nb75, nb55, nb67, n133a, n133b, n75a, n75b, aT, aR, oT, oR, oF, oG, kT, kF, bI, bL, bR, b0, Classical.not_not, not_true_eq_false, not_false_eq_true, and_self, and_true, true_and, ↓reduceIte, decide_true, decide_false, Nat.reduceEqDiff, Nat.reduceLT, Nat.reduceLeDiff, Int.reduceEq, p_isYard, h, g, hb, hb2, w1, w2, w3, p_joins _ D L n a b h g, k, b_X10_join_34, p_makeFerry _ _ L n a b 0 0 h g]
  · rw [if_neg k] at hz
    subst hz
    have e : tzU D 7 5 (D 7 5) = D := by
      funext x y
      rw [rdU]
      by_cases q1 : x = 7
      · by_cases q2 : y = 5
        · rw [if_pos q1, if_pos q2, q1, q2]
        · rw [if_pos q1, if_neg q2]
      · rw [if_neg q1]
    rw [e]
    simp only [z_cd, i10, i11, dnn, rdU, eW, eU, tzC_w, w_shp, w_ptr, Nat.beq_refl, nbz, nb133, nb75, nb55, nb67, n133a, n133b, n75a, n75b, aT, aR, oT, oR, oF, oG, kT, kF, bI, bL, bR, b0, Classical.not_not, not_true_eq_false, not_false_eq_true, and_self, and_true, true_and, ↓reduceIte, decide_true, decide_false, Nat.reduceEqDiff, Nat.reduceLT, Nat.reduceLeDiff, Int.reduceEq, p_isYard, h, g, hb, hb2, w1, w2, w3, p_joins _ D L n a b h g, k, b_X10_join_34, p_makeFerry _ _ L n a b 0 0 h g]
set_option maxRecDepth 100000 in
set_option maxHeartbeats 400000 in
theorem q_setWay (d : Nat) (D : Nat → Int → Int) (L n : Nat) (a b m c e f : Int) (h : 0 ≤ a ∧ a ≤ 7) (g : 0 ≤ b ∧ b ≤ 7) : tqden tqP (d + 1) n_X12_setWay [vR 81, vI a, vI b, vI m, vI c, vI e, vI f] (tzW D L n) = some (none, tzW (tzU (tzU (tzU (tzU D 88 (8 * a + b) m) 89 (8 * a + b) c) 90 (8 * a + b) e) 91 (8 * a + b) f) L n) := by
  have hb := ib8 h g
  have w1 := w8_b h g
  rw [dn_X12_setWay, b_X12_setWay_0]
  simp only [z_cd, i10, i11, dnn, rdU, eW, eU, tzC_w, w_shp, w_ptr, Nat.beq_refl, nbz, nb133, nb75, nb55, nb67, n133a, n133b, n75a, n75b, aT, aR, oT, oR, oF, oG, kT, kF, bI, bL, bR, b0, Classical.not_not, not_true_eq_false, not_false_eq_true, and_self, and_true, true_and, ↓reduceIte, decide_true, decide_false, Nat.reduceEqDiff, Nat.reduceLT, Nat.reduceLeDiff, Int.reduceEq, hb, w1]
def wc1 (f : Int → Int) (k : Nat) : Int := if k / 8 < k % 8 ∧ 0 < f (k : Int) then 1 else 0
theorem wcn_S (f : Int → Int) (k : Nat) : wcn f (k + 1) = wcn f k + wc1 f k := rfl
theorem wcn_up {f g : Int → Int} {s : Nat} (h : ∀ j : Nat, j < 64 → j ≠ s → wc1 g j = wc1 f j) : ∀ K : Nat, K ≤ 64 → wcn g K = wcn f K + (if s < K then wc1 g s - wc1 f s else 0)
  | 0, _ => rfl
  | K + 1, hK => by
    rw [wcn_S, wcn_S, wcn_up h K (by omega)]
    by_cases c : K = s
    · subst c; rw [if_neg (by omega), if_pos (by omega)]; omega
    · rw [h K (by omega) c]
      by_cases d : s < K
      · rw [if_pos d, if_pos (by omega)]; omega
      · rw [if_neg d, if_neg (by omega)]; omega
theorem wcn_bd (f : Int → Int) : ∀ K : Nat, 0 ≤ wcn f K ∧ wcn f K ≤ K
  | 0 => ⟨by unfold wcn; omega, by unfold wcn; omega⟩
  | K + 1 => by
    have q := wcn_bd f K
    rw [wcn_S]
    have : 0 ≤ wc1 f K ∧ wc1 f K ≤ 1 := by unfold wc1; split <;> omega
    omega
theorem RW_set {D D' : Nat → Int → Int} {a b m c e f : Int} (h : RW D) (ha : 0 ≤ a ∧ a ≤ 7) (hb : 0 ≤ b ∧ b ≤ 7) (ab : a ≠ b) (hm : 1 ≤ m ∧ m ≤ 600) (hc : 0 ≤ c ∧ c ≤ 999) (he : 0 ≤ e ∧ e ≤ 1440) (hf : 0 ≤ f ∧ (f < e ∨ e = 0 ∧ f = 0))
    (s : ∀ (q : Nat) (j : Int), (8 ≤ q ∧ q ≤ 11) ∨ (88 ≤ q ∧ q ≤ 91) → j ≠ 8 * a + b → j ≠ 8 * b + a → D' q j = D q j)
    (v : ∀ j : Int, j = 8 * a + b ∨ j = 8 * b + a → D' 8 j = m ∧ D' 88 j = m ∧ D' 9 j = c ∧ D' 89 j = c ∧ D' 10 j = e ∧ D' 90 j = e ∧ D' 11 j = f ∧ D' 91 j = f)
    (v7 : D' 7 5 = if D 88 (8 * a + b) ≤ 0 then D 7 5 + 1 else D 7 5) : RW D' := by
  obtain ⟨h1, h2, h3, h4⟩ := h
  refine ⟨?_, ?_, ?_, ?_⟩
  · intro j j0 j1
    by_cases q : j = 8 * a + b ∨ j = 8 * b + a
    · obtain ⟨x1, x2, x3, x4, x5, x6, x7, x8⟩ := v j q
      rw [x1, x2, x3, x4, x5, x6, x7, x8]
      omega
    · rw [s 8 j (by omega) (by omega) (by omega), s 9 j (by omega) (by omega) (by omega), s 10 j (by omega) (by omega) (by omega), s 11 j (by omega) (by omega) (by omega), s 88 j (by omega) (by omega) (by omega), s 89 j (by omega) (by omega) (by omega), s 90 j (by omega) (by omega) (by omega), s 91 j (by omega) (by omega) (by omega)]
      exact h1 j j0 j1
  · intro x y x0 x1 y0 y1
    by_cases q : 8 * x + y = 8 * a + b ∨ 8 * x + y = 8 * b + a
    · obtain ⟨_, u2, _, u4, _, u6, _, u8⟩ := v _ q
      obtain ⟨_, v2, _, v4, _, v6, _, v8⟩ := v (8 * y + x) (by omega)
      rw [u2, u4, u6, u8, v2, v4, v6, v8]
      exact ⟨rfl, rfl, rfl, rfl⟩
    · rw [s 88 (8 * x + y) (by omega) (by omega) (by omega), s 89 (8 * x + y) (by omega) (by omega) (by omega), s 90 (8 * x + y) (by omega) (by omega) (by omega), s 91 (8 * x + y) (by omega) (by omega) (by omega), s 88 (8 * y + x) (by omega) (by omega) (by omega), s 89 (8 * y + x) (by omega) (by omega) (by omega), s 90 (8 * y + x) (by omega) (by omega) (by omega), s 91 (8 * y + x) (by omega) (by omega) (by omega)]
      exact h2 x y x0 x1 y0 y1
  · intro x x0 x1
    rw [s 88 (9 * x) (by omega) (by omega) (by omega)]
    exact h3 x x0 x1
  · have y1 := (h2 a b ha.1 (by omega) hb.1 (by omega)).1
    obtain ⟨z, hz, hz2⟩ : ∃ z : Nat, ((z : Int) = 8 * a + b ∨ (z : Int) = 8 * b + a) ∧ z / 8 < z % 8 := by
      by_cases c : a < b
      · exact ⟨(8 * a + b).toNat, by omega, by omega⟩
      · exact ⟨(8 * b + a).toNat, by omega, by omega⟩
    have k := wcn_up (f := D 88) (g := D' 88) (s := z) (fun j jl jz => by
      unfold wc1
      by_cases q : (j : Int) = 8 * a + b ∨ (j : Int) = 8 * b + a
      · have nj : ¬ (j / 8 < j % 8) := by
          rcases q with q | q
          · rcases hz with u | u
            · omega
            · have q1 : j / 8 = a.toNat := by omega
              have q2 : j % 8 = b.toNat := by omega
              have q3 : z / 8 = b.toNat := by omega
              have q4 : z % 8 = a.toNat := by omega
              omega
          · rcases hz with u | u
            · have q1 : j / 8 = b.toNat := by omega
              have q2 : j % 8 = a.toNat := by omega
              have q3 : z / 8 = a.toNat := by omega
              have q4 : z % 8 = b.toNat := by omega
              omega
            · omega
        rw [if_neg (fun u => nj u.1), if_neg (fun u => nj u.1)]
      · rw [s 88 j (by omega) (by omega) (by omega)]) 64 (by omega)
    have zl : z < 64 := by omega
    have d1 : D' 88 z = m := (v z hz).2.1
    have d2 : D 88 z = D 88 (8 * a + b) := by
      rcases hz with q | q
      · rw [q]
      · rw [q]; exact y1.symm
    have k1 : wc1 (D' 88) z = 1 := by unfold wc1; rw [d1, if_pos ⟨hz2, by omega⟩]
    rw [k, if_pos zl, k1, v7, h4]
    unfold wc1
    rw [d2]
    by_cases q : D 88 (8 * a + b) ≤ 0
    · rw [if_pos q, if_neg (by omega)]; omega
    · rw [if_neg q, if_pos ⟨hz2, by omega⟩]; omega
