/-- the terms of the class and those of the reference -/
def ME (D : Nat → Int → Int) (N : Int) : Prop := D 18 4 = N ∧ D 81 40 = N ∧ 0 ≤ N ∧ N ≤ 20 ∧ ∀ k : Int, 0 ≤ k → k < N → D 19 k = D 115 k ∧ D 20 k = D 116 k ∧ ∀ th : Int, 0 ≤ th → th < 18 → (D 21 (18 * k + th) = D 117 (18 * k + th) ∧ 0 ≤ D 117 (18 * k + th)) ∨ (D 21 (18 * k + th) = -1 ∧ D 117 (18 * k + th) = -9)
theorem ME_of {D : Nat → Int → Int} (h : RM D) : ME D (D 81 40) := by
  obtain ⟨h1, h2, h3, h4, h5⟩ := h
  refine ⟨h1, rfl, h2, h3, fun k k0 k1 => ?_⟩
  obtain ⟨x, hx⟩ : ∃ x : Nat, k = x := ⟨k.toNat, by omega⟩
  subst hx
  obtain ⟨g1, g2, _⟩ := h4 x k1
  refine ⟨g1, g2, fun th t0 t1 => ?_⟩
  obtain ⟨y, hy⟩ : ∃ y : Nat, th = y := ⟨th.toNat, by omega⟩
  subst hy
  rcases h5 x y k1 (by omega) with q | q
  · exact Or.inl ⟨q.1, q.2.1⟩
  · exact Or.inr q
def foB (D : Nat → Int → Int) (th day kn b i : Int) : Int := if (D 115 i ≤ kn ∧ D 116 i ≤ day ∧ 0 ≤ D 117 (18 * i + th)) ∧ (b < 0 ∨ D 116 b ≤ D 116 i) then i else b
def fo (D : Nat → Int → Int) (th day kn : Int) : Nat → Int → Int → Int
  | 0, b, _ => b
  | j + 1, b, i => fo D th day kn j (foB D th day kn b i) (i + 1)
theorem fo_S (D : Nat → Int → Int) (th day kn : Int) (j : Nat) (b i : Int) : fo D th day kn (j + 1) b i = fo D th day kn j (foB D th day kn b i) (i + 1) := rfl
def at1 (th : Int) : Int := if 8 ≤ th then (if 16 ≤ th then (if th = 16 then 600 else 480) else 0) else 120
def foV (D : Nat → Int → Int) (th b : Int) : Int := if b < 0 then at1 th else D 117 (18 * b + th)
theorem w18_a {b th : Int} (h : 0 ≤ b ∧ b ≤ 19) (g : 0 ≤ th ∧ th < 18) : w32 (w32 (b * 18) + th) = 18 * b + th := by
  have e : w32 (b * 18) = 18 * b := (w32_id (x := b * 18) ⟨by omega, by omega⟩).trans (by omega)
  rw [e]
  clear e
  exact w32_id ⟨by omega, by omega⟩
theorem w18_b {b th : Int} (h : 0 ≤ b ∧ b ≤ 19) (g : 0 ≤ th ∧ th < 18) : w32 (w32 (18 * b) + th) = 18 * b + th := by
  have e : w32 (18 * b) = 18 * b := w32_id ⟨by omega, by omega⟩
  rw [e]
  clear e
  exact w32_id ⟨by omega, by omega⟩
theorem ib18 {b th : Int} (h : 0 ≤ b ∧ b ≤ 19) (g : 0 ≤ th ∧ th < 18) : tqib (18 * b + th) 360 = true := tqib_y (by omega) (by omega)
theorem ib20 {e N : Int} (h0 : 0 ≤ e) (h1 : e < N) (h2 : N ≤ 20) : tqib e 20 = true := tqib_y (by omega) (by omega)
theorem w32_20 {e N : Int} (h0 : 0 ≤ e) (h1 : e < N) (h2 : N ≤ 20) : w32 (e + 1) = e + 1 := w32_id ⟨by omega, by omega⟩
set_option maxRecDepth 100000 in
set_option maxHeartbeats 400000 in
theorem p_atFirst (d : Nat) (th : Int) (m : tqM) : tqden tqP (d + 1) n_X7_atFirst [vI th] m = some (some (vI (at1 th)), m) := by
  rw [dn_X7_atFirst, b_X7_atFirst_0]
  unfold at1
  by_cases k1 : 8 ≤ th
  · by_cases k2 : 16 ≤ th
    · by_cases k3 : th = 16
      · simp only [z_cd, i10, i11, dnn, rdU, eW, eU, tzC_w, w_shp, w_ptr, Nat.beq_refl, nbz, nb133, nb75, nb55, nb67, n133a, n133b, n75a, n75b, aT, aR, oT, oR, oF, oG, kT, kF, bI, bL, bR, b0, Classical.not_not, not_true_eq_false, not_false_eq_true, and_self, and_true, true_and, ↓reduceIte, decide_true, decide_false, Nat.reduceEqDiff, Nat.reduceLT, Nat.reduceLeDiff, Int.reduceEq, k1, k2, k3, Int.reduceLT, Int.reduceLE, Int.reduceNeg]
      · simp only [z_cd, i10, i11, dnn, rdU, eW, eU, tzC_w, w_shp, w_ptr, Nat.beq_refl, nbz, nb133, nb75, nb55, nb67, n133a, n133b, n75a, n75b, aT, aR, oT, oR, oF, oG, kT, kF, bI, bL, bR, b0, Classical.not_not, not_true_eq_false, not_false_eq_true, and_self, and_true, true_and, ↓reduceIte, decide_true, decide_false, Nat.reduceEqDiff, Nat.reduceLT, Nat.reduceLeDiff, Int.reduceEq, k1, k2, k3]
    · simp only [z_cd, i10, i11, dnn, rdU, eW, eU, tzC_w, w_shp, w_ptr, Nat.beq_refl, nbz, nb133, nb75, nb55, nb67, n133a, n133b, n75a, n75b, aT, aR, oT, oR, oF, oG, kT, kF, bI, bL, bR, b0, Classical.not_not, not_true_eq_false, not_false_eq_true, and_self, and_true, true_and, ↓reduceIte, decide_true, decide_false, Nat.reduceEqDiff, Nat.reduceLT, Nat.reduceLeDiff, Int.reduceEq, k1, k2]
  · simp only [z_cd, i10, i11, dnn, rdU, eW, eU, tzC_w, w_shp, w_ptr, Nat.beq_refl, nbz, nb133, nb75, nb55, nb67, n133a, n133b, n75a, n75b, aT, aR, oT, oR, oF, oG, kT, kF, bI, bL, bR, b0, Classical.not_not, not_true_eq_false, not_false_eq_true, and_self, and_true, true_and, ↓reduceIte, decide_true, decide_false, Nat.reduceEqDiff, Nat.reduceLT, Nat.reduceLeDiff, Int.reduceEq, k1]
set_option maxRecDepth 100000 in
set_option maxHeartbeats 400000 in
theorem q_iF (d : Nat) (D : Nat → Int → Int) (L n : Nat) (w th day kn : Int) {N : Int} (hN : D 81 40 = N) (h6 : N ≤ 20) (ht : 0 ≤ th ∧ th < 18) (hw : (w = 0 ∧ th < 8) ∨ (w = 1 ∧ 8 ≤ th ∧ th < 16) ∨ (w = 2 ∧ th = 16) ∨ (w = 3 ∧ th = 17)) : ∀ (j : Nat) (b i : Int), 0 ≤ i → i + j = N → (b = -9 ∨ (0 ≤ b ∧ b < i)) → tqrun tqP (d + 1) tqc_X12_inForce 33 [vR 81, vI w, vU, vI day, vI kn, vI th, vI b, vI i, vU] [] (tzW D L n) = some (some (vI (foV D th (fo D th day kn j b i))), tzW D L n)
  | 0, b, i, h0, h1, hb => by
    have c : N ≤ i := by omega
    rw [b_X12_inForce_33]
    show _ = some (some (vI (foV D th b)), tzW D L n)
    unfold foV
    rcases hb with hb | hb
    · subst hb
      unfold at1
      rcases hw with q | q | q | q
      · have q1 : ¬ 8 ≤ th := by omega
        simp only [z_cd, i10, i11, dnn, rdU, eW, eU, tzC_w, w_shp, w_ptr, Nat.beq_refl, nbz, nb133, nb75, nb55, nb67, n133a, n133b, n75a, n75b, aT, aR, oT, oR, oF, oG, kT, kF, bI, bL, bR, b0, Classical.not_not, not_true_eq_false, not_false_eq_true, and_self, and_true, true_and, ↓reduceIte, decide_true, decide_false, Nat.reduceEqDiff, Nat.reduceLT, Nat.reduceLeDiff, Int.reduceEq, hN, c, q.1, q1, Int.reduceLT, Int.reduceLE, Int.reduceNeg]
      · have q2 : ¬ 16 ≤ th := by omega
        simp only [z_cd, i10, i11, dnn, rdU, eW, eU, tzC_w, w_shp, w_ptr, Nat.beq_refl, nbz, nb133, nb75, nb55, nb67, n133a, n133b, n75a, n75b, aT, aR, oT, oR, oF, oG, kT, kF, bI, bL, bR, b0, Classical.not_not, not_true_eq_false, not_false_eq_true, and_self, and_true, true_and, ↓reduceIte, decide_true, decide_false, Nat.reduceEqDiff, Nat.reduceLT, Nat.reduceLeDiff, Int.reduceEq, hN, c, q.1, q.2.1, q2, Int.reduceLT, Int.reduceLE, Int.reduceNeg]
      · simp only [z_cd, i10, i11, dnn, rdU, eW, eU, tzC_w, w_shp, w_ptr, Nat.beq_refl, nbz, nb133, nb75, nb55, nb67, n133a, n133b, n75a, n75b, aT, aR, oT, oR, oF, oG, kT, kF, bI, bL, bR, b0, Classical.not_not, not_true_eq_false, not_false_eq_true, and_self, and_true, true_and, ↓reduceIte, decide_true, decide_false, Nat.reduceEqDiff, Nat.reduceLT, Nat.reduceLeDiff, Int.reduceEq, hN, c, q.1, q.2, Int.reduceLT, Int.reduceLE, Int.reduceNeg]
      · simp only [z_cd, i10, i11, dnn, rdU, eW, eU, tzC_w, w_shp, w_ptr, Nat.beq_refl, nbz, nb133, nb75, nb55, nb67, n133a, n133b, n75a, n75b, aT, aR, oT, oR, oF, oG, kT, kF, bI, bL, bR, b0, Classical.not_not, not_true_eq_false, not_false_eq_true, and_self, and_true, true_and, ↓reduceIte, decide_true, decide_false, Nat.reduceEqDiff, Nat.reduceLT, Nat.reduceLeDiff, Int.reduceEq, hN, c, q.1, q.2, Int.reduceLT, Int.reduceLE, Int.reduceNeg]
    · have bn : ¬ b < 0 := by omega
      have b19 : 0 ≤ b ∧ b ≤ 19 := by omega
      have hb18 := ib18 b19 ht
      have w1 := w18_b b19 ht
      simp only [z_cd, i10, i11, dnn, rdU, eW, eU, tzC_w, w_shp, w_ptr, Nat.beq_refl, nbz, nb133, nb75, nb55, nb67, n133a, n133b, n75a, n75b, aT, aR, oT, oR, oF, oG, kT, kF, bI, bL, bR, b0, Classical.not_not, not_true_eq_false, not_false_eq_true, and_self, and_true, true_and, ↓reduceIte, decide_true, decide_false, Nat.reduceEqDiff, Nat.reduceLT, Nat.reduceLeDiff, Int.reduceEq, hN, c, bn, hb18, w1]
  | j + 1, b, i, h0, h1, hb => by
    have c : ¬ N ≤ i := by omega
    have i1 : i < N := by omega
    have i19 : 0 ≤ i ∧ i ≤ 19 := by omega
    have hbi := ib20 h0 i1 h6
    have hb18 := ib18 i19 ht
    have ih := fun b hb => q_iF d D L n w th day kn hN h6 ht hw j b (i + 1) (by omega) (by omega) hb
    have ihb := ih b (by omega)
    have w1 := w32_20 h0 i1 h6
    have w2 := w18_b i19 ht
    rw [b_X12_inForce_33, fo_S]
    by_cases k1 : kn < D 115 i
    · have e : foB D th day kn b i = b := by unfold foB; rw [if_neg (by (try clear w1 w2); omega)]
      rw [e]
      simp only [z_cd, i10, i11, dnn, rdU, eW, eU, tzC_w, w_shp, w_ptr, Nat.beq_refl, nbz, nb133, nb75, nb55, nb67, n133a, n133b, n75a, n75b, aT, aR, oT, oR, oF, oG, kT, kF, bI, bL, bR, b0, Classical.not_not, not_true_eq_false, not_false_eq_true, and_self, and_true, true_and, ↓reduceIte, decide_true, decide_false, Nat.reduceEqDiff, Nat.reduceLT, Nat.reduceLeDiff, Int.reduceEq, hN, c, hbi, hb18, w1, w2, b_X12_inForce_86, k1, ihb, or_false, false_or, or_true, true_or, or_self, and_false, false_and, Int.reduceLT, Int.reduceLE, Int.reduceNeg]
    · by_cases k2 : day < D 116 i
      · have e : foB D th day kn b i = b := by unfold foB; rw [if_neg (by (try clear w1 w2); omega)]
        rw [e]
        simp only [z_cd, i10, i11, dnn, rdU, eW, eU, tzC_w, w_shp, w_ptr, Nat.beq_refl, nbz, nb133, nb75, nb55, nb67, n133a, n133b, n75a, n75b, aT, aR, oT, oR, oF, oG, kT, kF, bI, bL, bR, b0, Classical.not_not, not_true_eq_false, not_false_eq_true, and_self, and_true, true_and, ↓reduceIte, decide_true, decide_false, Nat.reduceEqDiff, Nat.reduceLT, Nat.reduceLeDiff, Int.reduceEq, hN, c, hbi, hb18, w1, w2, b_X12_inForce_86, k1, k2, ihb, or_false, false_or, or_true, true_or, or_self, and_false, false_and, Int.reduceLT, Int.reduceLE, Int.reduceNeg]
      · by_cases k3 : D 117 (18 * i + th) < 0
        · have e : foB D th day kn b i = b := by unfold foB; rw [if_neg (by (try clear w1 w2); omega)]
          rw [e]
          skip
          simp only [z_cd, i10, i11, dnn, rdU, eW, eU, tzC_w, w_shp, w_ptr, Nat.beq_refl, nbz, nb133, nb75, nb55, nb67, n133a, n133b, n75a, n75b, aT, aR, oT, oR, oF, oG, kT, kF, bI, bL, bR, b0, Classical.not_not, not_true_eq_false, not_false_eq_true, and_self, and_true, true_and, ↓reduceIte, decide_true, decide_false, Nat.reduceEqDiff, Nat.reduceLT, Nat.reduceLeDiff, Int.reduceEq, hN, c, hbi, hb18, w1, w2, b_X12_inForce_86, k1, k2, k3, ihb, or_false, false_or, or_true, true_or, or_self, and_false, false_and, Int.reduceLT, Int.reduceLE, Int.reduceNeg]
        · skip
          rcases hb with hb | hb
          · have e : foB D th day kn b i = i := by unfold foB; rw [if_pos (by (try clear w1 w2); omega)]
            rw [e]
            have bn : b < 0 := by (try clear w1 w2); omega
            have ihi := ih i (Or.inr (by (try clear w1 w2); omega))
            simp only [z_cd, i10, i11, dnn, rdU, eW, eU, tzC_w, w_shp, w_ptr, Nat.beq_refl, nbz, nb133, nb75, nb55, nb67, n133a, n133b, n75a, n75b, aT, aR, oT, oR, oF, oG, kT, kF, bI, bL, bR, b0, Classical.not_not, not_true_eq_false, not_false_eq_true, and_self, and_true, true_and, ↓reduceIte, decide_true, decide_false, Nat.reduceEqDiff, Nat.reduceLT, Nat.reduceLeDiff, Int.reduceEq, hN, c, hbi, hb18, w1, w2, b_X12_inForce_86, k1, k2, k3, bn, ihi, or_false, false_or, or_true, true_or, or_self, and_false, false_and, Int.reduceLT, Int.reduceLE, Int.reduceNeg]
          · have hbb := ib20 hb.1 (show b < N by (try clear w1 w2); omega) h6
            have bp : ¬ b < 0 := by (try clear w1 w2); omega
            by_cases k4 : D 116 i < D 116 b
            · have e : foB D th day kn b i = b := by unfold foB; rw [if_neg (by (try clear w1 w2); omega)]
              rw [e]
              simp only [z_cd, i10, i11, dnn, rdU, eW, eU, tzC_w, w_shp, w_ptr, Nat.beq_refl, nbz, nb133, nb75, nb55, nb67, n133a, n133b, n75a, n75b, aT, aR, oT, oR, oF, oG, kT, kF, bI, bL, bR, b0, Classical.not_not, not_true_eq_false, not_false_eq_true, and_self, and_true, true_and, ↓reduceIte, decide_true, decide_false, Nat.reduceEqDiff, Nat.reduceLT, Nat.reduceLeDiff, Int.reduceEq, hN, c, hbi, hb18, w1, w2, b_X12_inForce_86, k1, k2, k3, bp, k4, hbb, ihb, or_false, false_or, or_true, true_or, or_self, and_false, false_and, Int.reduceLT, Int.reduceLE, Int.reduceNeg]
            · have e : foB D th day kn b i = i := by unfold foB; rw [if_pos (by (try clear w1 w2); omega)]
              rw [e]
              have ihi := ih i (Or.inr (by (try clear w1 w2); omega))
              simp only [z_cd, i10, i11, dnn, rdU, eW, eU, tzC_w, w_shp, w_ptr, Nat.beq_refl, nbz, nb133, nb75, nb55, nb67, n133a, n133b, n75a, n75b, aT, aR, oT, oR, oF, oG, kT, kF, bI, bL, bR, b0, Classical.not_not, not_true_eq_false, not_false_eq_true, and_self, and_true, true_and, ↓reduceIte, decide_true, decide_false, Nat.reduceEqDiff, Nat.reduceLT, Nat.reduceLeDiff, Int.reduceEq, hN, c, hbi, hb18, w1, w2, b_X12_inForce_86, k1, k2, k3, bp, k4, hbb, ihi, or_false, false_or, or_true, true_or, or_self, and_false, false_and, Int.reduceLT, Int.reduceLE, Int.reduceNeg]
set_option maxRecDepth 100000 in
set_option maxHeartbeats 400000 in
theorem p_iF (d : Nat) (D : Nat → Int → Int) (L n : Nat) (th day kn : Int) {N : Int} (h : ME D N) (ht : 0 ≤ th ∧ th < 18) : ∀ (j : Nat) (b cb i : Int), 0 ≤ i → i + j = N → ((cb = -1 ∧ b = -9) ∨ (cb = b ∧ 0 ≤ b ∧ b < i ∧ 0 ≤ D 117 (18 * b + th))) → tqrun tqP (d + 2) tqc_X7_inForce 18 [vR 18, vI th, vI day, vI kn, vI cb, vI i, vU] [] (tzW D L n) = some (some (vI (foV D th (fo D th day kn j b i))), tzW D L n)
  | 0, b, cb, i, h0, h1, hb => by
    have c : N ≤ i := by omega
    rw [b_X7_inForce_18]
    show _ = some (some (vI (foV D th b)), tzW D L n)
    unfold foV
    rcases hb with hb | hb
    · simp only [z_cd, i10, i11, dnn, rdU, eW, eU, tzC_w, w_shp, w_ptr, Nat.beq_refl, nbz, nb133, nb75, nb55, nb67, n133a, n133b, n75a, n75b, aT, aR, oT, oR, oF, oG, kT, kF, bI, bL, bR, b0, Classical.not_not, not_true_eq_false, not_false_eq_true, and_self, and_true, true_and, ↓reduceIte, decide_true, decide_false, Nat.reduceEqDiff, Nat.reduceLT, Nat.reduceLeDiff, Int.reduceEq, h.1, c, hb.1, hb.2, p_atFirst, Int.reduceLT, Int.reduceLE, Int.reduceNeg]
    · have bn : ¬ b < 0 := by omega
      have bm : ¬ b = -1 := by omega
      have b20 : b < N := by have := h.2.2.1; omega
      have b19 : 0 ≤ b ∧ b ≤ 19 := by have := h.2.2.2.1; omega
      have hb18 := ib18 b19 ht
      have g : D 21 (18 * b + th) = D 117 (18 * b + th) := by
        rcases (h.2.2.2.2 b hb.2.1 b20).2.2 th ht.1 ht.2 with q | q
        · exact q.1
        · omega
      have w1 := w18_a b19 ht
      simp only [z_cd, i10, i11, dnn, rdU, eW, eU, tzC_w, w_shp, w_ptr, Nat.beq_refl, nbz, nb133, nb75, nb55, nb67, n133a, n133b, n75a, n75b, aT, aR, oT, oR, oF, oG, kT, kF, bI, bL, bR, b0, Classical.not_not, not_true_eq_false, not_false_eq_true, and_self, and_true, true_and, ↓reduceIte, decide_true, decide_false, Nat.reduceEqDiff, Nat.reduceLT, Nat.reduceLeDiff, Int.reduceEq, h.1, c, hb.1, bn, bm, hb18, w1, g]
  | j + 1, b, cb, i, h0, h1, hb => by
    have c : ¬ N ≤ i := by omega
    have i1 : i < N := by omega
    have i19 : 0 ≤ i ∧ i ≤ 19 := by have := h.2.2.2.1; omega
    have hbi := ib20 h0 i1 h.2.2.2.1
    have hb18 := ib18 i19 ht
    obtain ⟨g1, g2, g3⟩ := h.2.2.2.2 i h0 i1
    have g3 := g3 th ht.1 ht.2
    have ih := fun b cb hb => p_iF d D L n th day kn h ht j b cb (i + 1) (by omega) (by omega) hb
    have ihb := ih b cb (by omega)
    have w1 := w32_20 h0 i1 h.2.2.2.1
    have w2 := w18_a i19 ht
    rw [b_X7_inForce_18, fo_S]
    by_cases k1 : kn < D 115 i
    · have e : foB D th day kn b i = b := by unfold foB; rw [if_neg (by (try clear w1 w2); omega)]
      rw [e]
      simp only [z_cd, i10, i11, dnn, rdU, eW, eU, tzC_w, w_shp, w_ptr, Nat.beq_refl, nbz, nb133, nb75, nb55, nb67, n133a, n133b, n75a, n75b, aT, aR, oT, oR, oF, oG, kT, kF, bI, bL, bR, b0, Classical.not_not, not_true_eq_false, not_false_eq_true, and_self, and_true, true_and, ↓reduceIte, decide_true, decide_false, Nat.reduceEqDiff, Nat.reduceLT, Nat.reduceLeDiff, Int.reduceEq, h.1, c, hbi, hb18, g1, g2, w1, w2, b_X7_inForce_70, k1, ihb, or_false, false_or, or_true, true_or, or_self, and_false, false_and, Int.reduceLT, Int.reduceLE, Int.reduceNeg]
    · by_cases k2 : day < D 116 i
      · have e : foB D th day kn b i = b := by unfold foB; rw [if_neg (by (try clear w1 w2); omega)]
        rw [e]
        simp only [z_cd, i10, i11, dnn, rdU, eW, eU, tzC_w, w_shp, w_ptr, Nat.beq_refl, nbz, nb133, nb75, nb55, nb67, n133a, n133b, n75a, n75b, aT, aR, oT, oR, oF, oG, kT, kF, bI, bL, bR, b0, Classical.not_not, not_true_eq_false, not_false_eq_true, and_self, and_true, true_and, ↓reduceIte, decide_true, decide_false, Nat.reduceEqDiff, Nat.reduceLT, Nat.reduceLeDiff, Int.reduceEq, h.1, c, hbi, hb18, g1, g2, w1, w2, b_X7_inForce_70, k1, k2, ihb, or_false, false_or, or_true, true_or, or_self, and_false, false_and, Int.reduceLT, Int.reduceLE, Int.reduceNeg]
      · by_cases k3 : D 117 (18 * i + th) < 0
        · have e : foB D th day kn b i = b := by unfold foB; rw [if_neg (by (try clear w1 w2); omega)]
          rw [e]
          have k3c : D 21 (18 * i + th) = -1 := by (try clear w1 w2); omega
          simp only [z_cd, i10, i11, dnn, rdU, eW, eU, tzC_w, w_shp, w_ptr, Nat.beq_refl, nbz, nb133, nb75, nb55, nb67, n133a, n133b, n75a, n75b, aT, aR, oT, oR, oF, oG, kT, kF, bI, bL, bR, b0, Classical.not_not, not_true_eq_false, not_false_eq_true, and_self, and_true, true_and, ↓reduceIte, decide_true, decide_false, Nat.reduceEqDiff, Nat.reduceLT, Nat.reduceLeDiff, Int.reduceEq, h.1, c, hbi, hb18, g1, g2, w1, w2, b_X7_inForce_70, k1, k2, k3c, ihb, or_false, false_or, or_true, true_or, or_self, and_false, false_and, Int.reduceLT, Int.reduceLE, Int.reduceNeg]
        · have k3c : ¬ D 21 (18 * i + th) = -1 := by (try clear w1 w2); omega
          rcases hb with hb | hb
          · have e : foB D th day kn b i = i := by unfold foB; rw [if_pos (by (try clear w1 w2); omega)]
            rw [e]
            have ihi := ih i i (Or.inr (by (try clear w1 w2); omega))
            simp only [z_cd, i10, i11, dnn, rdU, eW, eU, tzC_w, w_shp, w_ptr, Nat.beq_refl, nbz, nb133, nb75, nb55, nb67, n133a, n133b, n75a, n75b, aT, aR, oT, oR, oF, oG, kT, kF, bI, bL, bR, b0, Classical.not_not, not_true_eq_false, not_false_eq_true, and_self, and_true, true_and, ↓reduceIte, decide_true, decide_false, Nat.reduceEqDiff, Nat.reduceLT, Nat.reduceLeDiff, Int.reduceEq, h.1, c, hbi, hb18, g1, g2, w1, w2, b_X7_inForce_70, k1, k2, k3c, hb.1, ihi, or_false, false_or, or_true, true_or, or_self, and_false, false_and, Int.reduceLT, Int.reduceLE, Int.reduceNeg]
          · have hbb := ib20 hb.2.1 (show b < N by (try clear w1 w2); omega) h.2.2.2.1
            have bp : ¬ cb = -1 := by (try clear w1 w2); omega
            have ce : cb = b := hb.1
            have gb := (h.2.2.2.2 b hb.2.1 (by (try clear w1 w2); omega)).2.1
            subst ce
            by_cases k4 : D 116 i < D 116 cb
            · have e : foB D th day kn cb i = cb := by unfold foB; rw [if_neg (by (try clear w1 w2); omega)]
              rw [e]
              simp only [z_cd, i10, i11, dnn, rdU, eW, eU, tzC_w, w_shp, w_ptr, Nat.beq_refl, nbz, nb133, nb75, nb55, nb67, n133a, n133b, n75a, n75b, aT, aR, oT, oR, oF, oG, kT, kF, bI, bL, bR, b0, Classical.not_not, not_true_eq_false, not_false_eq_true, and_self, and_true, true_and, ↓reduceIte, decide_true, decide_false, Nat.reduceEqDiff, Nat.reduceLT, Nat.reduceLeDiff, Int.reduceEq, h.1, c, hbi, hb18, g1, g2, w1, w2, b_X7_inForce_70, k1, k2, k3c, bp, gb, k4, hbb, ihb, or_false, false_or, or_true, true_or, or_self, and_false, false_and, Int.reduceLT, Int.reduceLE, Int.reduceNeg]
            · have e : foB D th day kn cb i = i := by unfold foB; rw [if_pos (by (try clear w1 w2); omega)]
              rw [e]
              have ihi := ih i i (Or.inr (by (try clear w1 w2); omega))
              simp only [z_cd, i10, i11, dnn, rdU, eW, eU, tzC_w, w_shp, w_ptr, Nat.beq_refl, nbz, nb133, nb75, nb55, nb67, n133a, n133b, n75a, n75b, aT, aR, oT, oR, oF, oG, kT, kF, bI, bL, bR, b0, Classical.not_not, not_true_eq_false, not_false_eq_true, and_self, and_true, true_and, ↓reduceIte, decide_true, decide_false, Nat.reduceEqDiff, Nat.reduceLT, Nat.reduceLeDiff, Int.reduceEq, h.1, c, hbi, hb18, g1, g2, w1, w2, b_X7_inForce_70, k1, k2, k3c, bp, gb, k4, hbb, ihi, or_false, false_or, or_true, true_or, or_self, and_false, false_and, Int.reduceLT, Int.reduceLE, Int.reduceNeg]
