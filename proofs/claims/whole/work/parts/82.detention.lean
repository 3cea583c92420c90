/-! ===== detention ===== -/
noncomputable def dOq (D : Nat → Int → Int) (t now : Int) (j : Nat) (i : Int) : Int := w32 (w32 (sT D t now j (i + 1) - D 112 i) - iFq D (D 113 i) (w32 ((D 112 i).tdiv 1440)))
noncomputable def dVq (D : Nat → Int → Int) (t now : Int) (j : Nat) (i ow : Int) : Int := w64 (ow + w64 (w32 ((w32 (dOq D t now j i + 59)).tdiv 60) * iFq D (8 + D 113 i) (w32 ((D 112 i).tdiv 1440))))
noncomputable def dTq (D : Nat → Int → Int) (t now : Int) : Nat → Int → Int → Int → Int × Int
  | 0, _, tm, ow => (tm, ow)
  | j + 1, i, tm, ow => if D 110 i = t ∧ D 111 i = 0 then (if dOq D t now j i ≤ 0 then dTq D t now j (i + 1) tm ow else dTq D t now j (i + 1) (w32 (tm + 1)) (dVq D t now j i ow)) else dTq D t now j (i + 1) tm ow
theorem dTq_S (D : Nat → Int → Int) (t now : Int) (j : Nat) (i tm ow : Int) : dTq D t now (j + 1) i tm ow = if D 110 i = t ∧ D 111 i = 0 then (if dOq D t now j i ≤ 0 then dTq D t now j (i + 1) tm ow else dTq D t now j (i + 1) (w32 (tm + 1)) (dVq D t now j i ow)) else dTq D t now j (i + 1) tm ow := rfl
theorem sT_fr {D D' : Nat → Int → Int} (e : ∀ (b : Nat) (j : Int), 110 ≤ b → b ≤ 113 → D' b j = D b j) (t now : Int) : ∀ (j : Nat) (i : Int), sT D' t now j i = sT D t now j i
  | 0, _ => rfl
  | j + 1, i => by rw [sT_S, sT_S, e 110 i (by omega) (by omega), e 111 i (by omega) (by omega), e 112 i (by omega) (by omega), sT_fr e t now j (i + 1)]
def PDT (b : Nat) (j : Int) : Prop := (110 ≤ b ∧ b ≤ 113) ∨ PM b j
theorem dOq_fr {D D' : Nat → Int → Int} (s : Sm PDT D D') (t now : Int) (j : Nat) (i : Int) : dOq D' t now j i = dOq D t now j i := by
  have e : ∀ (b : Nat) (j : Int), 110 ≤ b → b ≤ 113 → D' b j = D b j := fun b j h1 h2 => s b j (Or.inl ⟨h1, h2⟩)
  unfold dOq
  rw [sT_fr e, e 112 _ (by omega) (by omega), e 113 _ (by omega) (by omega), iFq_fr (Sm_m (fun b j p => Or.inr p) s)]
theorem dVq_fr {D D' : Nat → Int → Int} (s : Sm PDT D D') (t now : Int) (j : Nat) (i ow : Int) : dVq D' t now j i ow = dVq D t now j i ow := by
  have e : ∀ (b : Nat) (j : Int), 110 ≤ b → b ≤ 113 → D' b j = D b j := fun b j h1 h2 => s b j (Or.inl ⟨h1, h2⟩)
  unfold dVq
  rw [dOq_fr s, e 112 _ (by omega) (by omega), e 113 _ (by omega) (by omega), iFq_fr (Sm_m (fun b j p => Or.inr p) s)]
theorem dTq_fr {D D' : Nat → Int → Int} (s : Sm PDT D D') (t now : Int) : ∀ (j : Nat) (i tm ow : Int), dTq D' t now j i tm ow = dTq D t now j i tm ow
  | 0, _, _, _ => rfl
  | j + 1, i, tm, ow => by
    have e : ∀ (b : Nat) (j : Int), 110 ≤ b → b ≤ 113 → D' b j = D b j := fun b j h1 h2 => s b j (Or.inl ⟨h1, h2⟩)
    rw [dTq_S, dTq_S, e 110 _ (by omega) (by omega), e 111 _ (by omega) (by omega), dOq_fr s, dVq_fr s, dTq_fr s t now j, dTq_fr s t now j]
set_option maxRecDepth 100000 in
set_option maxHeartbeats 400000 in
theorem p_dT (d : Nat) (D : Nat → Int → Int) (L n : Nat) (t : Int) {N : Int} (h : BE D N) (hM : RM D) : ∀ (j : Nat) (i tm ow : Int), 0 ≤ i → i + j = N → tqrun tqP (d + 3) tqc_X11_detention 17 [vR 2, vI t, vI tm, vL ow, vU, vI i, vU, vU, vU, vU] [] (tzW D L n) = some (some (vI (dTq D t (D 2 13) j i tm ow).1), tzW (tzU D 53 3 (dTq D t (D 2 13) j i tm ow).2) L n)
  | 0, i, tm, ow, i0, ij => by
    have c : N ≤ i := by omega
    rw [b_X11_detention_17]
    simp only [z_cd, i10, i11, dnn, rdU, eW, eU, tzC_w, w_shp, w_ptr, Nat.beq_refl, nbz, nb133, nb75, nb55, nb67, n133a, n133b, n75a, n75b, aT, aR, oT, oR, oF, oG, kT, kF, bI, bL, bR, b0, Classical.not_not, not_true_eq_false, not_false_eq_true, and_self, and_true, true_and, ↓reduceIte, decide_true, decide_false, Nat.reduceEqDiff, Nat.reduceLT, Nat.reduceLeDiff, Int.reduceEq, h.1, c]
    rfl
  | j + 1, i, tm, ow, i0, ij => by
    have c : ¬ N ≤ i := by omega
    have i1 : i < N := by omega
    have hb := ib60 i0 i1 h.2.2.2.1
    obtain ⟨g1, g2, g3, g4, g5, g6, g7, g8⟩ := h.2.2.2.2 i i0 i1
    have ih1 := p_dT d D L n t h hM j (i + 1) tm ow (by omega) (by omega)
    have ih2 := p_dT d D L n t h hM j (i + 1) (w32 (tm + 1)) (dVq D t (D 2 13) j i ow) (by omega) (by omega)
    have io := p_isOf1 (d + 1) D L n h i t 0 i0 i1
    rw [dTq_S]
    by_cases q : D 110 i = t ∧ D 111 i = 0
    · rw [if_pos q] at io ⊢
      have g9 := g7 q.2
      have st := p_stood d D L n t (D 2 13) h i j i0 (by omega) q.1
      have f1 := p_iFq d D L n (D 113 i) (w32 ((D 112 i).tdiv 1440)) hM (by omega) (by omega)
      have f2 := p_iFq d D L n (8 + D 113 i) (w32 ((D 112 i).tdiv 1440)) hM (by omega) (by omega)
      have w0 : w32 (0 + D 113 i) = D 113 i := by rw [Int.zero_add]; exact w32_i (by omega) (by omega)
      have w8 : w32 (8 + D 113 i) = 8 + D 113 i := w32_i (by omega) (by omega)
      have w1 := w32_e i0 i1 h.2.2.2.1
      have fo' : w32 (w32 (sT D t (D 2 13) j (i + 1) - D 112 i) - iFq D (D 113 i) (w32 ((D 112 i).tdiv 1440))) = dOq D t (D 2 13) j i := rfl
      have fv' : w64 (ow + w64 (w32 ((w32 (dOq D t (D 2 13) j i + 59)).tdiv 60) * iFq D (8 + D 113 i) (w32 ((D 112 i).tdiv 1440)))) = dVq D t (D 2 13) j i ow := rfl
      by_cases q2 : dOq D t (D 2 13) j i ≤ 0
      · rw [if_pos q2, ← ih1, b_X11_detention_17]
        simp only [z_cd, i10, i11, dnn, rdU, eW, eU, tzC_w, w_shp, w_ptr, Nat.beq_refl, nbz, nb133, nb75, nb55, nb67, n133a, n133b, n75a, n75b, aT, aR, oT, oR, oF, oG, kT, kF, bI, bL, bR, b0, Classical.not_not, not_true_eq_false, not_false_eq_true, and_self, and_true, true_and, ↓reduceIte, decide_true, decide_false, Nat.reduceEqDiff, Nat.reduceLT, Nat.reduceLeDiff, Int.reduceEq, h.1, c, io, g3, g4, hb, p_dayOf, st, f1, f2, w0, w8, w1, fo', q2, b157]
      · rw [if_neg q2, ← ih2, b_X11_detention_17]
        simp only [z_cd, i10, i11, dnn, rdU, eW, eU, tzC_w, w_shp, w_ptr, Nat.beq_refl, nbz, nb133, nb75, nb55, nb67, n133a, n133b, n75a, n75b, aT, aR, oT, oR, oF, oG, kT, kF, bI, bL, bR, b0, Classical.not_not, not_true_eq_false, not_false_eq_true, and_self, and_true, true_and, ↓reduceIte, decide_true, decide_false, Nat.reduceEqDiff, Nat.reduceLT, Nat.reduceLeDiff, Int.reduceEq, h.1, c, io, g3, g4, hb, p_dayOf, st, f1, f2, w0, w8, w1, fo', q2, fv', b157]
    · rw [if_neg q] at io ⊢
      have w1 := w32_e i0 i1 h.2.2.2.1
      rw [← ih1, b_X11_detention_17]
      simp only [z_cd, i10, i11, dnn, rdU, eW, eU, tzC_w, w_shp, w_ptr, Nat.beq_refl, nbz, nb133, nb75, nb55, nb67, n133a, n133b, n75a, n75b, aT, aR, oT, oR, oF, oG, kT, kF, bI, bL, bR, b0, Classical.not_not, not_true_eq_false, not_false_eq_true, and_self, and_true, true_and, ↓reduceIte, decide_true, decide_false, Nat.reduceEqDiff, Nat.reduceLT, Nat.reduceLeDiff, Int.reduceEq, h.1, c, io, w1, b157]
set_option maxRecDepth 100000 in
set_option maxHeartbeats 400000 in
theorem q_d60 (d : Nat) (D : Nat → Int → Int) (L n : Nat) (t now tm ow i : Int) (i0 : 0 ≤ i) {N : Int} (hN : N ≤ 60) : ∀ (q r : Nat) (e : Int), e = i + q → e + 1 + r = N → tqrun tqP (d + 1) tqc_X12_detention 60 [vR 81, vI t, vI tm, vI i, vI (sT D t now r (e + 1)), vI e, vU] [] (tzW (tzU D 81 45 ow) L n) = tqrun tqP (d + 1) tqc_X12_detention 60 [vR 81, vI t, vI tm, vI i, vI (sT D t now (r + q) (i + 1)), vI i, vU] [] (tzW (tzU D 81 45 ow) L n)
  | 0, r, e, he, hr => by
    have : e = i := by omega
    rw [this]
    rfl
  | q + 1, r, e, he, hr => by
    have ih := q_d60 d D L n t now tm ow i i0 hN q (r + 1) (e - 1) (by omega) (by omega)
    have c : ¬ e ≤ i := by omega
    have hb : tqib e 60 = true := tqib_y (by omega) (by omega)
    rw [Int.sub_add_cancel, show r + 1 + q = r + (q + 1) by omega, sT_S] at ih
    rw [← ih, b_X12_detention_60]
    clear ih
    have w1 : w32 (e + -1) = e - 1 := (w32_i (x := e + -1) (by omega) (by omega)).trans (by omega)
    by_cases q1 : D 110 e = t
    · by_cases q2 : D 111 e = 1
      · simp only [z_cd, i10, i11, dnn, rdU, eW, eU, tzC_w, w_shp, w_ptr, Nat.beq_refl, nbz, nb133, nb75, nb55, nb67, n133a, n133b, n75a, n75b, aT, aR, oT, oR, oF, oG, kT, kF, bI, bL, bR, b0, Classical.not_not, not_true_eq_false, not_false_eq_true, and_self, and_true, true_and, ↓reduceIte, decide_true, decide_false, Nat.reduceEqDiff, Nat.reduceLT, Nat.reduceLeDiff, Int.reduceEq, c, hb, q1, q2, w1, b_X12_detention_99, b_X12_detention_109, b_X12_detention_111, or_false, false_or, or_true, true_or, or_self, and_false, false_and, Int.reduceLT, Int.reduceLE, Int.reduceNeg]
      · by_cases q3 : D 111 e = 2
        · simp only [z_cd, i10, i11, dnn, rdU, eW, eU, tzC_w, w_shp, w_ptr, Nat.beq_refl, nbz, nb133, nb75, nb55, nb67, n133a, n133b, n75a, n75b, aT, aR, oT, oR, oF, oG, kT, kF, bI, bL, bR, b0, Classical.not_not, not_true_eq_false, not_false_eq_true, and_self, and_true, true_and, ↓reduceIte, decide_true, decide_false, Nat.reduceEqDiff, Nat.reduceLT, Nat.reduceLeDiff, Int.reduceEq, c, hb, q1, q2, q3, w1, b_X12_detention_99, b_X12_detention_109, b_X12_detention_111, or_false, false_or, or_true, true_or, or_self, and_false, false_and, Int.reduceLT, Int.reduceLE, Int.reduceNeg]
        · simp only [z_cd, i10, i11, dnn, rdU, eW, eU, tzC_w, w_shp, w_ptr, Nat.beq_refl, nbz, nb133, nb75, nb55, nb67, n133a, n133b, n75a, n75b, aT, aR, oT, oR, oF, oG, kT, kF, bI, bL, bR, b0, Classical.not_not, not_true_eq_false, not_false_eq_true, and_self, and_true, true_and, ↓reduceIte, decide_true, decide_false, Nat.reduceEqDiff, Nat.reduceLT, Nat.reduceLeDiff, Int.reduceEq, c, hb, q1, q2, q3, w1, b_X12_detention_99, b_X12_detention_109, b_X12_detention_111, or_false, false_or, or_true, true_or, or_self, and_false, false_and, Int.reduceLT, Int.reduceLE, Int.reduceNeg]
    · simp only [z_cd, i10, i11, dnn, rdU, eW, eU, tzC_w, w_shp, w_ptr, Nat.beq_refl, nbz, nb133, nb75, nb55, nb67, n133a, n133b, n75a, n75b, aT, aR, oT, oR, oF, oG, kT, kF, bI, bL, bR, b0, Classical.not_not, not_true_eq_false, not_false_eq_true, and_self, and_true, true_and, ↓reduceIte, decide_true, decide_false, Nat.reduceEqDiff, Nat.reduceLT, Nat.reduceLeDiff, Int.reduceEq, c, hb, q1, w1, b_X12_detention_99, b_X12_detention_109, b_X12_detention_111, or_false, false_or, or_true, true_or, or_self, and_false, false_and, Int.reduceLT, Int.reduceLE, Int.reduceNeg]
set_option maxRecDepth 100000 in
set_option maxHeartbeats 400000 in
theorem q_dT (d : Nat) (D : Nat → Int → Int) (L n : Nat) (t : Int) {N : Int} (h : BE D N) (hM : RM D) : ∀ (j : Nat) (i tm ow : Int), 0 ≤ i → i + j = N → tqrun tqP (d + 2) tqc_X12_detention 19 [vR 81, vI t, vI tm, vI i, vU, vU, vU] [] (tzW (tzU D 81 45 ow) L n) = some (some (vI (dTq D t (D 81 5) j i tm ow).1), tzW (tzU D 81 45 (dTq D t (D 81 5) j i tm ow).2) L n)
  | 0, i, tm, ow, i0, ij => by
    have c : N ≤ i := by omega
    rw [b_X12_detention_19]
    simp only [z_cd, i10, i11, dnn, rdU, eW, eU, tzC_w, w_shp, w_ptr, Nat.beq_refl, nbz, nb133, nb75, nb55, nb67, n133a, n133b, n75a, n75b, aT, aR, oT, oR, oF, oG, kT, kF, bI, bL, bR, b0, Classical.not_not, not_true_eq_false, not_false_eq_true, and_self, and_true, true_and, ↓reduceIte, decide_true, decide_false, Nat.reduceEqDiff, Nat.reduceLT, Nat.reduceLeDiff, Int.reduceEq, h.2.1, c]
    rfl
  | j + 1, i, tm, ow, i0, ij => by
    have c : ¬ N ≤ i := by omega
    have i1 : i < N := by omega
    have hb := ib60 i0 i1 h.2.2.2.1
    obtain ⟨g1, g2, g3, g4, g5, g6, g7, g8⟩ := h.2.2.2.2 i i0 i1
    have ih1 := q_dT d D L n t h hM j (i + 1) tm ow (by omega) (by omega)
    have ih2 := q_dT d D L n t h hM j (i + 1) (w32 (tm + 1)) (dVq D t (D 81 5) j i ow) (by omega) (by omega)
    rw [dTq_S]
    by_cases q1 : D 110 i = t
    · by_cases q2 : D 111 i = 0
      · rw [if_pos ⟨q1, q2⟩]
        have g9 := g7 q2
        have sM : Sm PM D (tzU D 81 45 ow) := Sm_U (by unfold PM; omega) (Sm_r _ _)
        have f1 := q_iFq d (tzU D 81 45 ow) L n 0 (D 113 i) (D 113 i) (w32 ((D 112 i).tdiv 1440)) (RM_fr sM hM) (by omega)
        have f2 := q_iFq d (tzU D 81 45 ow) L n 1 (D 113 i) (8 + D 113 i) (w32 ((D 112 i).tdiv 1440)) (RM_fr sM hM) (by omega)
        rw [iFq_fr sM] at f1 f2
        have lp := q_d60 (d + 1) D L n t (D 81 5) tm ow i i0 h.2.2.2.1 j 0 (N - 1) (by omega) (by omega)
        rw [Nat.zero_add] at lp
        have s0 : sT D t (D 81 5) 0 (N - 1 + 1) = D 81 5 := rfl
        rw [s0] at lp
        have wN : w32 (N - 1) = N - 1 := w32_i (by omega) (by have := h.2.2.2.1; omega)
        have w1 := w32_e i0 i1 h.2.2.2.1
        have ii : i ≤ i := Int.le_refl i
        have fo' : w32 (w32 (sT D t (D 81 5) j (i + 1) - D 112 i) - iFq D (D 113 i) (w32 ((D 112 i).tdiv 1440))) = dOq D t (D 81 5) j i := rfl
        have fv' : w64 (ow + w64 (w32 ((w32 (dOq D t (D 81 5) j i + 59)).tdiv 60) * iFq D (8 + D 113 i) (w32 ((D 112 i).tdiv 1440)))) = dVq D t (D 81 5) j i ow := rfl
        rw [b_X12_detention_19]
        simp only [z_cd, i10, i11, dnn, rdU, eW, eU, tzC_w, w_shp, w_ptr, Nat.beq_refl, nbz, nb133, nb75, nb55, nb67, n133a, n133b, n75a, n75b, aT, aR, oT, oR, oF, oG, kT, kF, bI, bL, bR, b0, Classical.not_not, not_true_eq_false, not_false_eq_true, and_self, and_true, true_and, ↓reduceIte, decide_true, decide_false, Nat.reduceEqDiff, Nat.reduceLT, Nat.reduceLeDiff, Int.reduceEq, h.2.1, c, hb, q1, q2, wN]
        rw [lp, b_X12_detention_60]
        by_cases q3 : dOq D t (D 81 5) j i ≤ 0
        · rw [if_pos q3, ← ih1]
          simp only [z_cd, i10, i11, dnn, rdU, eW, eU, tzC_w, w_shp, w_ptr, Nat.beq_refl, nbz, nb133, nb75, nb55, nb67, n133a, n133b, n75a, n75b, aT, aR, oT, oR, oF, oG, kT, kF, bI, bL, bR, b0, Classical.not_not, not_true_eq_false, not_false_eq_true, and_self, and_true, true_and, ↓reduceIte, decide_true, decide_false, Nat.reduceEqDiff, Nat.reduceLT, Nat.reduceLeDiff, Int.reduceEq, hb, ii, q_day, f1, f2, fo', q3, b200, w1]
        · rw [if_neg q3, ← ih2]
          simp only [z_cd, i10, i11, dnn, rdU, eW, eU, tzC_w, w_shp, w_ptr, Nat.beq_refl, nbz, nb133, nb75, nb55, nb67, n133a, n133b, n75a, n75b, aT, aR, oT, oR, oF, oG, kT, kF, bI, bL, bR, b0, Classical.not_not, not_true_eq_false, not_false_eq_true, and_self, and_true, true_and, ↓reduceIte, decide_true, decide_false, Nat.reduceEqDiff, Nat.reduceLT, Nat.reduceLeDiff, Int.reduceEq, hb, ii, q_day, f1, f2, fo', q3, fv', tzUU, b200, w1]
      · rw [if_neg (fun x => q2 x.2), ← ih1, b_X12_detention_19]
        have w1 := w32_e i0 i1 h.2.2.2.1
        simp only [z_cd, i10, i11, dnn, rdU, eW, eU, tzC_w, w_shp, w_ptr, Nat.beq_refl, nbz, nb133, nb75, nb55, nb67, n133a, n133b, n75a, n75b, aT, aR, oT, oR, oF, oG, kT, kF, bI, bL, bR, b0, Classical.not_not, not_true_eq_false, not_false_eq_true, and_self, and_true, true_and, ↓reduceIte, decide_true, decide_false, Nat.reduceEqDiff, Nat.reduceLT, Nat.reduceLeDiff, Int.reduceEq, h.2.1, c, hb, q1, q2, b200, w1]
    · rw [if_neg (fun x => q1 x.1), ← ih1, b_X12_detention_19]
      have w1 := w32_e i0 i1 h.2.2.2.1
      simp only [z_cd, i10, i11, dnn, rdU, eW, eU, tzC_w, w_shp, w_ptr, Nat.beq_refl, nbz, nb133, nb75, nb55, nb67, n133a, n133b, n75a, n75b, aT, aR, oT, oR, oF, oG, kT, kF, bI, bL, bR, b0, Classical.not_not, not_true_eq_false, not_false_eq_true, and_self, and_true, true_and, ↓reduceIte, decide_true, decide_false, Nat.reduceEqDiff, Nat.reduceLT, Nat.reduceLeDiff, Int.reduceEq, h.2.1, c, hb, q1, b200, w1]
set_option maxRecDepth 100000 in
set_option maxHeartbeats 400000 in
theorem ag_detention {L : Nat} (a0 : Int) : AgI Rel L n_X11_detention n_X12_detention [vI a0] := by
  intro D n hR
  obtain ⟨hA, hL, hW, hN, ⟨c1, c2, c3⟩, hT, hD, hK, hB, hQ, hX, hM, hP, hS⟩ := id hR
  by_cases ct : 0 ≤ a0 ∧ a0 < n
  · obtain ⟨t, e⟩ : ∃ t : Nat, a0 = t := ⟨a0.toNat, by omega⟩
    subst e
    have ht : t < n := by omega
    have ht12 : t < 12 := by omega
    have hb : tqib (t : Int) 12 = true := tqib_y (by omega) (by omega)
    have r := hT.1 t ht
    have r2 := r
    have be := BE_of hB
    obtain ⟨N, hNN⟩ : ∃ N : Nat, D 81 34 = N := ⟨(D 81 34).toNat, by have := hB.2.1; omega⟩
    rw [hNN] at be
    have pd := p_dT 1396 D L n t be hM N 0 0 0 (by omega) (by omega)
    have e2 : D 2 13 = D 81 5 := hN.1
    rw [e2] at pd
    have be2 : BE (tzU D 53 3 (dTq D t (D 81 5) N 0 0 0).2) N := be
    have hM2 : RM (tzU D 53 3 (dTq D t (D 81 5) N 0 0 0).2) := RM_fr (Sm_U (by unfold PM; omega) (Sm_r _ _)) hM
    have qd := q_dT 1397 (tzU D 53 3 (dTq D t (D 81 5) N 0 0 0).2) L n t be2 hM2 N 0 0 0 (by omega) (by omega)
    rw [dTq_fr (Sm_U (by unfold PDT PM; omega) (Sm_r _ _))] at qd
    refine ⟨(dTq D t (D 81 5) N 0 0 0).1, tzU D 53 3 (dTq D t (D 81 5) N 0 0 0).2, n, tzU (tzU D 53 3 (dTq D t (D 81 5) N 0 0 0).2) 81 45 (dTq D t (D 81 5) N 0 0 0).2, ?_, ?_, Sm_1 (by (repeat (refine Sm_U (by omega) ?_)); exact Sm_r _ _), Sm_1 (by (repeat (refine Sm_U (by omega) ?_)); exact Sm_r _ _), ?_⟩
    · rw [dn_X11_detention, b_X11_detention_0]
      simp only [z_cd, i10, i11, dnn, rdU, eW, eU, tzC_w, w_shp, w_ptr, Nat.beq_refl, nbz, nb133, nb75, nb55, nb67, n133a, n133b, n75a, n75b, aT, aR, oT, oR, oF, oG, kT, kF, bI, bL, bR, b0, Classical.not_not, not_true_eq_false, not_false_eq_true, and_self, and_true, true_and, ↓reduceIte, decide_true, decide_false, Nat.reduceEqDiff, Nat.reduceLT, Nat.reduceLeDiff, Int.reduceEq, p_trailerAt_y _ D L n t c1 c3 ht]
      exact pd
    · rw [dn_X12_detention, b_X12_detention_0]
      simp only [z_cd, i10, i11, dnn, rdU, eW, eU, tzC_w, w_shp, w_ptr, Nat.beq_refl, nbz, nb133, nb75, nb55, nb67, n133a, n133b, n75a, n75b, aT, aR, oT, oR, oF, oG, kT, kF, bI, bL, bR, b0, Classical.not_not, not_true_eq_false, not_false_eq_true, and_self, and_true, true_and, ↓reduceIte, decide_true, decide_false, Nat.reduceEqDiff, Nat.reduceLT, Nat.reduceLeDiff, Int.reduceEq, q_isTrailer _ (tzU D 53 3 (dTq D t (D 81 5) N 0 0 0).2) L n t c2 c3, ct]
      exact qd
    · refine ⟨?_, ?_, ?_, ?_, ?_, ?_, ?_, ?_, ?_, ?_, ?_, ?_, ?_, ?_⟩
      · obtain ⟨h1, h2, h3, h4, h5, h6⟩ := hA
        unfold RA
        simp only [rdU, n133a, n133b, n75a, n75b, ↓reduceIte, Nat.reduceEqDiff, Nat.reduceLT, Nat.reduceLeDiff, Int.reduceEq, not_true_eq_false, not_false_eq_true, true_and, and_true, and_self, true_or, or_true, or_false, false_or, ite_self]
        exact ⟨h1, h2, h3, h5, h6⟩
      · exact RL_fr (by ((repeat (refine Sm_U (by unfold PL; omega) ?_)); exact Sm_r _ _)) hL
      · exact RW_fr (by ((repeat (refine Sm_U (by unfold PW; omega) ?_)); exact Sm_r _ _)) hW
      · exact RN_fr (by ((repeat (refine Sm_U (by unfold PN; omega) ?_)); exact Sm_r _ _)) hN
      · exact RC_fr (by ((repeat (refine Sm_U (by unfold PC; omega) ?_)); exact Sm_r _ _)) ⟨c1, c2, c3⟩
      · exact RT_fr (by ((repeat (refine Sm_U (by unfold PT; omega) ?_)); exact Sm_r _ _)) hT
      · exact RD_fr (by ((repeat (refine Sm_U (by unfold PD; omega) ?_)); exact Sm_r _ _)) hD
      · exact RK_fr (by ((repeat (refine Sm_U (by unfold PK; omega) ?_)); exact Sm_r _ _)) hK
      · exact RB_fr (by ((repeat (refine Sm_U (by unfold PB; omega) ?_)); exact Sm_r _ _)) hB
      · exact RQ_fr (by ((repeat (refine Sm_U (by unfold PQ; omega) ?_)); exact Sm_r _ _)) hQ
      · exact RX_fr (by ((repeat (refine Sm_U (by unfold PX; omega) ?_)); exact Sm_r _ _)) hX
      · exact RM_fr (by ((repeat (refine Sm_U (by unfold PM; omega) ?_)); exact Sm_r _ _)) hM
      · exact RP_fr (by ((repeat (refine Sm_U (by unfold PP; omega) ?_)); exact Sm_r _ _)) hP
      · exact RS_fr (by ((repeat (refine Sm_U (by unfold PS; omega) ?_)); exact Sm_r _ _)) hS
  · refine ⟨-1, D, n, D, ?_, ?_, rfl, rfl, hR⟩
    · rw [dn_X11_detention, b_X11_detention_0]
      simp only [z_cd, i10, i11, dnn, rdU, eW, eU, tzC_w, w_shp, w_ptr, Nat.beq_refl, nbz, nb133, nb75, nb55, nb67, n133a, n133b, n75a, n75b, aT, aR, oT, oR, oF, oG, kT, kF, bI, bL, bR, b0, Classical.not_not, not_true_eq_false, not_false_eq_true, and_self, and_true, true_and, ↓reduceIte, decide_true, decide_false, Nat.reduceEqDiff, Nat.reduceLT, Nat.reduceLeDiff, Int.reduceEq, p_trailerAt_n _ D L n a0 c1 ct, p_isWithin, p_isYard]
    · rw [dn_X12_detention, b_X12_detention_0]
      simp only [z_cd, i10, i11, dnn, rdU, eW, eU, tzC_w, w_shp, w_ptr, Nat.beq_refl, nbz, nb133, nb75, nb55, nb67, n133a, n133b, n75a, n75b, aT, aR, oT, oR, oF, oG, kT, kF, bI, bL, bR, b0, Classical.not_not, not_true_eq_false, not_false_eq_true, and_self, and_true, true_and, ↓reduceIte, decide_true, decide_false, Nat.reduceEqDiff, Nat.reduceLT, Nat.reduceLeDiff, Int.reduceEq, q_isTrailer _ D L n a0 c2 c3, ct, p_in, q_isYard]
