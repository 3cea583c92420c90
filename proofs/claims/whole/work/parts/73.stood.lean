/-- till when one stands: the first later entry 1 or 2, or now -/
def sT (D : Nat → Int → Int) (t now : Int) : Nat → Int → Int
  | 0, _ => now
  | j + 1, i => if D 110 i = t ∧ (D 111 i = 1 ∨ D 111 i = 2) then D 112 i else sT D t now j (i + 1)
theorem sT_S (D : Nat → Int → Int) (t now : Int) (j : Nat) (i : Int) : sT D t now (j + 1) i = if D 110 i = t ∧ (D 111 i = 1 ∨ D 111 i = 2) then D 112 i else sT D t now j (i + 1) := rfl
set_option maxRecDepth 100000 in
set_option maxHeartbeats 400000 in
theorem p_sT (d : Nat) (D : Nat → Int → Int) (L n : Nat) (t now : Int) {N : Int} (h : BE D N) : ∀ (j : Nat) (i : Int), 0 ≤ i → i + j = N → tqrun tqP (d + 2) tqc_X1_stoodTill 26 [vR 13, vU, vI now, vI t, vI i] [] (tzW D L n) = some (some (vI (sT D t now j i)), tzW D L n)
  | 0, i, h0, h1 => by
    have c : N ≤ i := by omega
    rw [b_X1_stoodTill_26]
    simp only [z_cd, i10, i11, dnn, rdU, eW, eU, tzC_w, w_shp, w_ptr, Nat.beq_refl, nbz, nb133, nb75, nb55, nb67, n133a, n133b, n75a, n75b, aT, aR, oT, oR, oF, oG, kT, kF, bI, bL, bR, b0, Classical.not_not, not_true_eq_false, not_false_eq_true, and_self, and_true, true_and, ↓reduceIte, decide_true, decide_false, Nat.reduceEqDiff, Nat.reduceLT, Nat.reduceLeDiff, Int.reduceEq, h.1, c]
    rfl
  | j + 1, i, h0, h1 => by
    have c : ¬ N ≤ i := by omega
    have i1 : i < N := by omega
    have hb := ib60 h0 i1 h.2.2.2.1
    have g3 := (h.2.2.2.2 i h0 i1).2.2.1
    have ih := p_sT d D L n t now h j (i + 1) (by omega) (by omega)
    have io := p_isOf1 d D L n h i t 1 h0 i1
    have ip := p_isOf1 d D L n h i t 2 h0 i1
    have w1 := w32_e h0 i1 h.2.2.2.1
    rw [b_X1_stoodTill_26, sT_S]
    by_cases q1 : D 110 i = t
    · by_cases q3 : D 111 i = 1
      · simp only [z_cd, i10, i11, dnn, rdU, eW, eU, tzC_w, w_shp, w_ptr, Nat.beq_refl, nbz, nb133, nb75, nb55, nb67, n133a, n133b, n75a, n75b, aT, aR, oT, oR, oF, oG, kT, kF, bI, bL, bR, b0, Classical.not_not, not_true_eq_false, not_false_eq_true, and_self, and_true, true_and, ↓reduceIte, decide_true, decide_false, Nat.reduceEqDiff, Nat.reduceLT, Nat.reduceLeDiff, Int.reduceEq, h.1, c, hb, g3, io, ip, w1, ih, q1, q3, or_false, false_or, or_true, true_or, or_self, and_false, false_and, Int.reduceLT, Int.reduceLE, Int.reduceNeg]
      · by_cases q4 : D 111 i = 2
        · simp only [z_cd, i10, i11, dnn, rdU, eW, eU, tzC_w, w_shp, w_ptr, Nat.beq_refl, nbz, nb133, nb75, nb55, nb67, n133a, n133b, n75a, n75b, aT, aR, oT, oR, oF, oG, kT, kF, bI, bL, bR, b0, Classical.not_not, not_true_eq_false, not_false_eq_true, and_self, and_true, true_and, ↓reduceIte, decide_true, decide_false, Nat.reduceEqDiff, Nat.reduceLT, Nat.reduceLeDiff, Int.reduceEq, h.1, c, hb, g3, io, ip, w1, ih, q1, q3, q4, or_false, false_or, or_true, true_or, or_self, and_false, false_and, Int.reduceLT, Int.reduceLE, Int.reduceNeg]
        · simp only [z_cd, i10, i11, dnn, rdU, eW, eU, tzC_w, w_shp, w_ptr, Nat.beq_refl, nbz, nb133, nb75, nb55, nb67, n133a, n133b, n75a, n75b, aT, aR, oT, oR, oF, oG, kT, kF, bI, bL, bR, b0, Classical.not_not, not_true_eq_false, not_false_eq_true, and_self, and_true, true_and, ↓reduceIte, decide_true, decide_false, Nat.reduceEqDiff, Nat.reduceLT, Nat.reduceLeDiff, Int.reduceEq, h.1, c, hb, g3, io, ip, w1, ih, q1, q3, q4, or_false, false_or, or_true, true_or, or_self, and_false, false_and, Int.reduceLT, Int.reduceLE, Int.reduceNeg]
    · simp only [z_cd, i10, i11, dnn, rdU, eW, eU, tzC_w, w_shp, w_ptr, Nat.beq_refl, nbz, nb133, nb75, nb55, nb67, n133a, n133b, n75a, n75b, aT, aR, oT, oR, oF, oG, kT, kF, bI, bL, bR, b0, Classical.not_not, not_true_eq_false, not_false_eq_true, and_self, and_true, true_and, ↓reduceIte, decide_true, decide_false, Nat.reduceEqDiff, Nat.reduceLT, Nat.reduceLeDiff, Int.reduceEq, h.1, c, hb, g3, io, ip, w1, ih, q1, or_false, false_or, or_true, true_or, or_self, and_false, false_and, Int.reduceLT, Int.reduceLE, Int.reduceNeg]
set_option maxRecDepth 100000 in
set_option maxHeartbeats 400000 in
theorem p_stood (d : Nat) (D : Nat → Int → Int) (L n : Nat) (t now : Int) {N : Int} (h : BE D N) (e : Int) (j : Nat) (e0 : 0 ≤ e) (ej : e + 1 + j = N) (et : D 110 e = t) : tqden tqP (d + 2) n_X1_stoodTill [vR 13, vI e, vI now] (tzW D L n) = some (some (vI (sT D t now j (e + 1))), tzW D L n) := by
  have e1 : e < N := by omega
  have q0 : ¬ e < 0 := by omega
  have hb := ib60 e0 e1 h.2.2.2.1
  have g1 := (h.2.2.2.2 e e0 e1).1
  have r := p_sT d D L n t now h j (e + 1) (by omega) (by omega)
  have w1 := w32_e e0 e1 h.2.2.2.1
  rw [dn_X1_stoodTill, b_X1_stoodTill_0]
  simp only [z_cd, i10, i11, dnn, rdU, eW, eU, tzC_w, w_shp, w_ptr, Nat.beq_refl, nbz, nb133, nb75, nb55, nb67, n133a, n133b, n75a, n75b, aT, aR, oT, oR, oF, oG, kT, kF, bI, bL, bR, b0, Classical.not_not, not_true_eq_false, not_false_eq_true, and_self, and_true, true_and, ↓reduceIte, decide_true, decide_false, Nat.reduceEqDiff, Nat.reduceLT, Nat.reduceLeDiff, Int.reduceEq, h.1, q0, e1, hb, g1, et, w1, r]
set_option maxRecDepth 100000 in
theorem b157 (d : Nat) (v0 : Nat) (v1 v2 v3 v5 : Int) (x6 x7 x8 x9 : tqV) (m : tqM) : tqrun tqP (d + 1) tqc_X11_detention 157 [vR v0, vI v1, vI v2, vL v3, vU, vI v5, x6, x7, x8, x9] [] m = tqrun tqP (d + 1) tqc_X11_detention 17 [vR v0, vI v1, vI v2, vL v3, vU, vI (w32 (v5 + 1)), vU, vU, vU, vU] [] m := (tqrun_go tqP d tqc_X11_detention (fun p => Nat.beq p 17 || Nat.beq p 157) 2 157 _ _ m).trans rfl
set_option maxRecDepth 100000 in
theorem b200 (d : Nat) (v0 : Nat) (v1 v2 v3 : Int) (x4 x5 x6 : tqV) (m : tqM) : tqrun tqP (d + 1) tqc_X12_detention 200 [vR v0, vI v1, vI v2, vI v3, x4, x5, x6] [] m = tqrun tqP (d + 1) tqc_X12_detention 19 [vR v0, vI v1, vI v2, vI (w32 (v3 + 1)), vU, vU, vU] [] m := (tqrun_go tqP d tqc_X12_detention (fun p => Nat.beq p 19 || Nat.beq p 60 || Nat.beq p 99 || Nat.beq p 109 || Nat.beq p 111 || Nat.beq p 200) 2 200 _ _ m).trans rfl
