/-- where one is at a minute, told entry by entry -/
def nx (D : Nat → Int → Int) (t mi p i : Int) : Int := if D 110 i = t ∧ D 112 i ≤ mi ∧ D 111 i < 3 then (if D 111 i = 0 then D 113 i else if D 111 i = 1 then w32 (10 + D 113 i) else 20) else p
def wE (D : Nat → Int → Int) (t mi : Int) : Nat → Int → Int → Int
  | 0, p, _ => p
  | j + 1, p, i => wE D t mi j (nx D t mi p i) (i + 1)
theorem wE_S (D : Nat → Int → Int) (t mi : Int) (j : Nat) (p i : Int) : wE D t mi (j + 1) p i = wE D t mi j (nx D t mi p i) (i + 1) := rfl
theorem wE_stop (D : Nat → Int → Int) (t mi : Int) : ∀ (j : Nat) (p i : Int), (∀ x, i ≤ x → x < i + j → mi < D 112 x) → wE D t mi j p i = p
  | 0, _, _, _ => rfl
  | j + 1, p, i, h => by
    have q := h i (by omega) (by omega)
    have e : nx D t mi p i = p := by unfold nx; rw [if_neg (by omega)]
    rw [wE_S, e]
    exact wE_stop D t mi j p (i + 1) (fun x a b => h x (by omega) (by omega))
set_option maxRecDepth 100000 in
set_option maxHeartbeats 400000 in
theorem q_wh (d : Nat) (D : Nat → Int → Int) (L n : Nat) (t mi : Int) {N : Int} (hN : D 81 34 = N) (h6 : N ≤ 60) (hs : ∀ i, 0 ≤ i → i < N → 0 ≤ D 111 i) : ∀ (j : Nat) (p i : Int), 0 ≤ i → i + j = N → tqrun tqP (d + 1) tqc_X12_where 28 [vR 81, vI t, vI mi, vI p, vI i] [] (tzW D L n) = some (some (vI (wE D t mi j p i)), tzW D L n)
  | 0, p, i, h0, h1 => by
    have c : N ≤ i := by omega
    rw [b_X12_where_28]
    simp only [z_cd, i10, i11, dnn, rdU, eW, eU, tzC_w, w_shp, w_ptr, Nat.beq_refl, nbz, nb133, nb75, nb55, nb67, n133a, n133b, n75a, n75b, aT, aR, oT, oR, oF, oG, kT, kF, bI, bL, bR, b0, Classical.not_not, not_true_eq_false, not_false_eq_true, and_self, and_true, true_and, ↓reduceIte, decide_true, decide_false, Nat.reduceEqDiff, Nat.reduceLT, Nat.reduceLeDiff, Int.reduceEq, hN, c]
    rfl
  | j + 1, p, i, h0, h1 => by
    have c : ¬ N ≤ i := by omega
    have i1 : i < N := by omega
    have s9 := hs i h0 i1
    have hb := ib60 h0 i1 h6
    have ih := fun p => q_wh d D L n t mi hN h6 hs j p (i + 1) (by omega) (by omega)
    have w1 := w32_e h0 i1 h6
    rw [b_X12_where_28, wE_S]
    by_cases k1 : D 110 i = t
    · by_cases k2 : D 112 i ≤ mi
      · have k2n : ¬ mi < D 112 i := by clear w1; omega
        by_cases s0 : D 111 i = 0
        · have k3 : D 111 i < 3 := by clear w1; omega
          have k3n : ¬ 3 ≤ D 111 i := by clear w1; omega
          have e : nx D t mi p i = D 113 i := by unfold nx; rw [if_pos ⟨k1, k2, k3⟩, if_pos s0]
          rw [e]
          simp only [z_cd, i10, i11, dnn, rdU, eW, eU, tzC_w, w_shp, w_ptr, Nat.beq_refl, nbz, nb133, nb75, nb55, nb67, n133a, n133b, n75a, n75b, aT, aR, oT, oR, oF, oG, kT, kF, bI, bL, bR, b0, Classical.not_not, not_true_eq_false, not_false_eq_true, and_self, and_true, true_and, ↓reduceIte, decide_true, decide_false, Nat.reduceEqDiff, Nat.reduceLT, Nat.reduceLeDiff, Int.reduceEq, hN, c, hb, w1, ih, k1, k2n, k3n, s0, or_false, false_or, or_true, true_or, or_self, and_false, false_and, Int.reduceLT, Int.reduceLE, Int.reduceNeg]
        · by_cases s1 : D 111 i = 1
          · have k3 : D 111 i < 3 := by clear w1; omega
            have k3n : ¬ 3 ≤ D 111 i := by clear w1; omega
            have e : nx D t mi p i = w32 (10 + D 113 i) := by unfold nx; rw [if_pos ⟨k1, k2, k3⟩, if_neg s0, if_pos s1]
            rw [e]
            simp only [z_cd, i10, i11, dnn, rdU, eW, eU, tzC_w, w_shp, w_ptr, Nat.beq_refl, nbz, nb133, nb75, nb55, nb67, n133a, n133b, n75a, n75b, aT, aR, oT, oR, oF, oG, kT, kF, bI, bL, bR, b0, Classical.not_not, not_true_eq_false, not_false_eq_true, and_self, and_true, true_and, ↓reduceIte, decide_true, decide_false, Nat.reduceEqDiff, Nat.reduceLT, Nat.reduceLeDiff, Int.reduceEq, hN, c, hb, w1, ih, k1, k2n, k3n, s0, s1, or_false, false_or, or_true, true_or, or_self, and_false, false_and, Int.reduceLT, Int.reduceLE, Int.reduceNeg]
          · by_cases s2 : D 111 i = 2
            · have k3 : D 111 i < 3 := by clear w1; omega
              have k3n : ¬ 3 ≤ D 111 i := by clear w1; omega
              have e : nx D t mi p i = 20 := by unfold nx; rw [if_pos ⟨k1, k2, k3⟩, if_neg s0, if_neg s1]
              rw [e]
              simp only [z_cd, i10, i11, dnn, rdU, eW, eU, tzC_w, w_shp, w_ptr, Nat.beq_refl, nbz, nb133, nb75, nb55, nb67, n133a, n133b, n75a, n75b, aT, aR, oT, oR, oF, oG, kT, kF, bI, bL, bR, b0, Classical.not_not, not_true_eq_false, not_false_eq_true, and_self, and_true, true_and, ↓reduceIte, decide_true, decide_false, Nat.reduceEqDiff, Nat.reduceLT, Nat.reduceLeDiff, Int.reduceEq, hN, c, hb, w1, ih, k1, k2n, k3n, s0, s1, s2, or_false, false_or, or_true, true_or, or_self, and_false, false_and, Int.reduceLT, Int.reduceLE, Int.reduceNeg]
            · have k3 : ¬ D 111 i < 3 := by clear w1; omega
              have k3n : 3 ≤ D 111 i := by clear w1; omega
              have e : nx D t mi p i = p := by unfold nx; rw [if_neg (fun q => k3 q.2.2)]
              rw [e]
              simp only [z_cd, i10, i11, dnn, rdU, eW, eU, tzC_w, w_shp, w_ptr, Nat.beq_refl, nbz, nb133, nb75, nb55, nb67, n133a, n133b, n75a, n75b, aT, aR, oT, oR, oF, oG, kT, kF, bI, bL, bR, b0, Classical.not_not, not_true_eq_false, not_false_eq_true, and_self, and_true, true_and, ↓reduceIte, decide_true, decide_false, Nat.reduceEqDiff, Nat.reduceLT, Nat.reduceLeDiff, Int.reduceEq, hN, c, hb, w1, ih, k1, k2n, k3n, s0, s1, s2, or_false, false_or, or_true, true_or, or_self, and_false, false_and, Int.reduceLT, Int.reduceLE, Int.reduceNeg]
      · have k2n : mi < D 112 i := by clear w1; omega
        have e : nx D t mi p i = p := by unfold nx; rw [if_neg (fun q => k2 q.2.1)]
        rw [e]
        simp only [z_cd, i10, i11, dnn, rdU, eW, eU, tzC_w, w_shp, w_ptr, Nat.beq_refl, nbz, nb133, nb75, nb55, nb67, n133a, n133b, n75a, n75b, aT, aR, oT, oR, oF, oG, kT, kF, bI, bL, bR, b0, Classical.not_not, not_true_eq_false, not_false_eq_true, and_self, and_true, true_and, ↓reduceIte, decide_true, decide_false, Nat.reduceEqDiff, Nat.reduceLT, Nat.reduceLeDiff, Int.reduceEq, hN, c, hb, w1, ih, k1, k2n]
    · have e : nx D t mi p i = p := by unfold nx; rw [if_neg (fun q => k1 q.1)]
      rw [e]
      simp only [z_cd, i10, i11, dnn, rdU, eW, eU, tzC_w, w_shp, w_ptr, Nat.beq_refl, nbz, nb133, nb75, nb55, nb67, n133a, n133b, n75a, n75b, aT, aR, oT, oR, oF, oG, kT, kF, bI, bL, bR, b0, Classical.not_not, not_true_eq_false, not_false_eq_true, and_self, and_true, true_and, ↓reduceIte, decide_true, decide_false, Nat.reduceEqDiff, Nat.reduceLT, Nat.reduceLeDiff, Int.reduceEq, hN, c, hb, w1, ih, k1]
set_option maxRecDepth 100000 in
set_option maxHeartbeats 400000 in
theorem p_wh (d : Nat) (D : Nat → Int → Int) (L n : Nat) (t mi : Int) {N : Int} (h : BE D N) (so : ∀ e f : Int, 0 ≤ e → e ≤ f → f < N → D 112 e ≤ D 112 f) : ∀ (j : Nat) (p i : Int), 0 ≤ i → i + j = N → tqrun tqP (d + 2) tqc_X1_placeAt 6 [vR 13, vI t, vI mi, vI p, vI i] [] (tzW D L n) = some (some (vI (wE D t mi j p i)), tzW D L n)
  | 0, p, i, h0, h1 => by
    have c : N ≤ i := by omega
    rw [b_X1_placeAt_6]
    simp only [z_cd, i10, i11, dnn, rdU, eW, eU, tzC_w, w_shp, w_ptr, Nat.beq_refl, nbz, nb133, nb75, nb55, nb67, n133a, n133b, n75a, n75b, aT, aR, oT, oR, oF, oG, kT, kF, bI, bL, bR, b0, Classical.not_not, not_true_eq_false, not_false_eq_true, and_self, and_true, true_and, ↓reduceIte, decide_true, decide_false, Nat.reduceEqDiff, Nat.reduceLT, Nat.reduceLeDiff, Int.reduceEq, h.1, c]
    rfl
  | j + 1, p, i, h0, h1 => by
    have c : ¬ N ≤ i := by omega
    have i1 : i < N := by omega
    have s9 := (h.2.2.2.2 i h0 i1).2.2.2.2.1
    have g3 := (h.2.2.2.2 i h0 i1).2.2.1
    have g4 := (h.2.2.2.2 i h0 i1).2.2.2.1
    have hb := ib60 h0 i1 h.2.2.2.1
    have ih := fun p => p_wh d D L n t mi h so j p (i + 1) (by omega) (by omega)
    have w1 := w32_e h0 i1 h.2.2.2.1
    rw [b_X1_placeAt_6, wE_S]
    by_cases k1 : D 110 i = t
    · by_cases k2 : D 112 i ≤ mi
      · have k2n : ¬ mi < D 112 i := by clear w1; omega
        by_cases s0 : D 111 i = 0
        · have k3 : D 111 i < 3 := by clear w1; omega
          have k3n : ¬ 3 ≤ D 111 i := by clear w1; omega
          have e : nx D t mi p i = D 113 i := by unfold nx; rw [if_pos ⟨k1, k2, k3⟩, if_pos s0]
          rw [e]
          simp only [z_cd, i10, i11, dnn, rdU, eW, eU, tzC_w, w_shp, w_ptr, Nat.beq_refl, nbz, nb133, nb75, nb55, nb67, n133a, n133b, n75a, n75b, aT, aR, oT, oR, oF, oG, kT, kF, bI, bL, bR, b0, Classical.not_not, not_true_eq_false, not_false_eq_true, and_self, and_true, true_and, ↓reduceIte, decide_true, decide_false, Nat.reduceEqDiff, Nat.reduceLT, Nat.reduceLeDiff, Int.reduceEq, h.1, c, hb, w1, ih, g3, g4, p_isOf1 _ D L n h i t 0 h0 i1, p_isOf1 _ D L n h i t 1 h0 i1, p_isOf1 _ D L n h i t 2 h0 i1, k1, k2n, k3n, s0, or_false, false_or, or_true, true_or, or_self, and_false, false_and, Int.reduceLT, Int.reduceLE, Int.reduceNeg]
        · by_cases s1 : D 111 i = 1
          · have k3 : D 111 i < 3 := by clear w1; omega
            have k3n : ¬ 3 ≤ D 111 i := by clear w1; omega
            have e : nx D t mi p i = w32 (10 + D 113 i) := by unfold nx; rw [if_pos ⟨k1, k2, k3⟩, if_neg s0, if_pos s1]
            rw [e]
            simp only [z_cd, i10, i11, dnn, rdU, eW, eU, tzC_w, w_shp, w_ptr, Nat.beq_refl, nbz, nb133, nb75, nb55, nb67, n133a, n133b, n75a, n75b, aT, aR, oT, oR, oF, oG, kT, kF, bI, bL, bR, b0, Classical.not_not, not_true_eq_false, not_false_eq_true, and_self, and_true, true_and, ↓reduceIte, decide_true, decide_false, Nat.reduceEqDiff, Nat.reduceLT, Nat.reduceLeDiff, Int.reduceEq, h.1, c, hb, w1, ih, g3, g4, p_isOf1 _ D L n h i t 0 h0 i1, p_isOf1 _ D L n h i t 1 h0 i1, p_isOf1 _ D L n h i t 2 h0 i1, k1, k2n, k3n, s0, s1, or_false, false_or, or_true, true_or, or_self, and_false, false_and, Int.reduceLT, Int.reduceLE, Int.reduceNeg]
          · by_cases s2 : D 111 i = 2
            · have k3 : D 111 i < 3 := by clear w1; omega
              have k3n : ¬ 3 ≤ D 111 i := by clear w1; omega
              have e : nx D t mi p i = 20 := by unfold nx; rw [if_pos ⟨k1, k2, k3⟩, if_neg s0, if_neg s1]
              rw [e]
              simp only [z_cd, i10, i11, dnn, rdU, eW, eU, tzC_w, w_shp, w_ptr, Nat.beq_refl, nbz, nb133, nb75, nb55, nb67, n133a, n133b, n75a, n75b, aT, aR, oT, oR, oF, oG, kT, kF, bI, bL, bR, b0, Classical.not_not, not_true_eq_false, not_false_eq_true, and_self, and_true, true_and, ↓reduceIte, decide_true, decide_false, Nat.reduceEqDiff, Nat.reduceLT, Nat.reduceLeDiff, Int.reduceEq, h.1, c, hb, w1, ih, g3, g4, p_isOf1 _ D L n h i t 0 h0 i1, p_isOf1 _ D L n h i t 1 h0 i1, p_isOf1 _ D L n h i t 2 h0 i1, k1, k2n, k3n, s0, s1, s2, or_false, false_or, or_true, true_or, or_self, and_false, false_and, Int.reduceLT, Int.reduceLE, Int.reduceNeg]
            · have k3 : ¬ D 111 i < 3 := by clear w1; omega
              have k3n : 3 ≤ D 111 i := by clear w1; omega
              have e : nx D t mi p i = p := by unfold nx; rw [if_neg (fun q => k3 q.2.2)]
              rw [e]
              simp only [z_cd, i10, i11, dnn, rdU, eW, eU, tzC_w, w_shp, w_ptr, Nat.beq_refl, nbz, nb133, nb75, nb55, nb67, n133a, n133b, n75a, n75b, aT, aR, oT, oR, oF, oG, kT, kF, bI, bL, bR, b0, Classical.not_not, not_true_eq_false, not_false_eq_true, and_self, and_true, true_and, ↓reduceIte, decide_true, decide_false, Nat.reduceEqDiff, Nat.reduceLT, Nat.reduceLeDiff, Int.reduceEq, h.1, c, hb, w1, ih, g3, g4, p_isOf1 _ D L n h i t 0 h0 i1, p_isOf1 _ D L n h i t 1 h0 i1, p_isOf1 _ D L n h i t 2 h0 i1, k1, k2n, k3n, s0, s1, s2, or_false, false_or, or_true, true_or, or_self, and_false, false_and, Int.reduceLT, Int.reduceLE, Int.reduceNeg]
      · have k2n : mi < D 112 i := by clear w1; omega
        have q := wE_stop D t mi (j + 1) p i (fun x a b => by clear w1; have := so i x h0 a (by omega); omega)
        rw [wE_S] at q
        rw [q]
        simp only [z_cd, i10, i11, dnn, rdU, eW, eU, tzC_w, w_shp, w_ptr, Nat.beq_refl, nbz, nb133, nb75, nb55, nb67, n133a, n133b, n75a, n75b, aT, aR, oT, oR, oF, oG, kT, kF, bI, bL, bR, b0, Classical.not_not, not_true_eq_false, not_false_eq_true, and_self, and_true, true_and, ↓reduceIte, decide_true, decide_false, Nat.reduceEqDiff, Nat.reduceLT, Nat.reduceLeDiff, Int.reduceEq, h.1, c, hb, w1, ih, g3, g4, p_isOf1 _ D L n h i t 0 h0 i1, p_isOf1 _ D L n h i t 1 h0 i1, p_isOf1 _ D L n h i t 2 h0 i1, k2n]
    · have e : nx D t mi p i = p := by unfold nx; rw [if_neg (fun q => k1 q.1)]
      by_cases k2 : mi < D 112 i
      · have q := wE_stop D t mi (j + 1) p i (fun x a b => by clear w1; have := so i x h0 a (by omega); omega)
        rw [wE_S] at q
        rw [q]
        simp only [z_cd, i10, i11, dnn, rdU, eW, eU, tzC_w, w_shp, w_ptr, Nat.beq_refl, nbz, nb133, nb75, nb55, nb67, n133a, n133b, n75a, n75b, aT, aR, oT, oR, oF, oG, kT, kF, bI, bL, bR, b0, Classical.not_not, not_true_eq_false, not_false_eq_true, and_self, and_true, true_and, ↓reduceIte, decide_true, decide_false, Nat.reduceEqDiff, Nat.reduceLT, Nat.reduceLeDiff, Int.reduceEq, h.1, c, hb, w1, ih, g3, g4, p_isOf1 _ D L n h i t 0 h0 i1, p_isOf1 _ D L n h i t 1 h0 i1, p_isOf1 _ D L n h i t 2 h0 i1, k2]
      · rw [e]
        simp only [z_cd, i10, i11, dnn, rdU, eW, eU, tzC_w, w_shp, w_ptr, Nat.beq_refl, nbz, nb133, nb75, nb55, nb67, n133a, n133b, n75a, n75b, aT, aR, oT, oR, oF, oG, kT, kF, bI, bL, bR, b0, Classical.not_not, not_true_eq_false, not_false_eq_true, and_self, and_true, true_and, ↓reduceIte, decide_true, decide_false, Nat.reduceEqDiff, Nat.reduceLT, Nat.reduceLeDiff, Int.reduceEq, h.1, c, hb, w1, ih, g3, g4, p_isOf1 _ D L n h i t 0 h0 i1, p_isOf1 _ D L n h i t 1 h0 i1, p_isOf1 _ D L n h i t 2 h0 i1, k1, k2, or_false, false_or, or_true, true_or, or_self, and_false, false_and, Int.reduceLT, Int.reduceLE, Int.reduceNeg]
set_option maxRecDepth 100000 in
set_option maxHeartbeats 400000 in
theorem ag_where {L : Nat} (a0 a1 : Int) : AgI Rel L n_X11_where n_X12_where [vI a0, vI a1] := by
  intro D n hR
  obtain ⟨hA, hL, hW, hN, ⟨c1, c2, c3⟩, hT, hD, hK, hB, hQ, hX, hM, hP, hS⟩ := id hR
  by_cases ct : 0 ≤ a0 ∧ a0 < n
  · obtain ⟨t, e⟩ : ∃ t : Nat, a0 = t := ⟨a0.toNat, by omega⟩
    subst e
    have ht : t < n := by omega
    have ht12 : t < 12 := by omega
    have hb : tqib (t : Int) 12 = true := tqib_y (by omega) (by omega)
    have r := hT.1 t ht
    have r2 := r
    have be := BE_of hB
    obtain ⟨N, hNN⟩ : ∃ N : Nat, D 81 34 = N := ⟨(D 81 34).toNat, by have := hB.2.1; omega⟩
    rw [hNN] at be
    have en : D 2 13 = D 81 5 := hN.1
    have so : ∀ e f : Int, 0 ≤ e → e ≤ f → f < N → D 112 e ≤ D 112 f := by
      intro e f e0 ef fN
      obtain ⟨x, hx⟩ : ∃ x : Nat, e = x := ⟨e.toNat, by omega⟩
      obtain ⟨y, hy⟩ : ∃ y : Nat, f = y := ⟨f.toNat, by omega⟩
      subst hx hy
      exact hQ.2 x y (by omega) (by omega)
    have qP : ∀ d, tqden tqP (d + 2) n_X1_placeAt [vR 13, vI (t : Int), vI a1] (tzW D L n) = some (some (vI (wE D t a1 N (-9) 0)), tzW D L n) := fun d => by
      rw [dn_X1_placeAt, b_X1_placeAt_0]
      exact p_wh d D L n t a1 be so N (-9) 0 (by omega) (by omega)
    by_cases cw : 0 ≤ a1 ∧ a1 ≤ D 81 5
    · refine ⟨wE D t a1 N (-9) 0, D, n, D, ?_, ?_, rfl, rfl, hR⟩
      · rw [dn_X11_where, b_X11_where_0]
        simp only [z_cd, i10, i11, dnn, rdU, eW, eU, tzC_w, w_shp, w_ptr, Nat.beq_refl, nbz, nb133, nb75, nb55, nb67, n133a, n133b, n75a, n75b, aT, aR, oT, oR, oF, oG, kT, kF, bI, bL, bR, b0, Classical.not_not, not_true_eq_false, not_false_eq_true, and_self, and_true, true_and, ↓reduceIte, decide_true, decide_false, Nat.reduceEqDiff, Nat.reduceLT, Nat.reduceLeDiff, Int.reduceEq, p_trailerAt_y _ D L n t c1 c3 ht, p_isWithin, en, cw, qP]
      · rw [dn_X12_where, b_X12_where_0]
        simp only [z_cd, i10, i11, dnn, rdU, eW, eU, tzC_w, w_shp, w_ptr, Nat.beq_refl, nbz, nb133, nb75, nb55, nb67, n133a, n133b, n75a, n75b, aT, aR, oT, oR, oF, oG, kT, kF, bI, bL, bR, b0, Classical.not_not, not_true_eq_false, not_false_eq_true, and_self, and_true, true_and, ↓reduceIte, decide_true, decide_false, Nat.reduceEqDiff, Nat.reduceLT, Nat.reduceLeDiff, Int.reduceEq, q_isTrailer _ D L n t c2 c3, ct, p_in, cw]
        exact q_wh 1398 D L n t a1 hNN be.2.2.2.1 (fun i i0 i1 => (be.2.2.2.2 i i0 i1).2.2.2.2.1) N (-9) 0 (by omega) (by omega)
    · refine ⟨-1, D, n, D, ?_, ?_, rfl, rfl, hR⟩
      · rw [dn_X11_where, b_X11_where_0]
        simp only [z_cd, i10, i11, dnn, rdU, eW, eU, tzC_w, w_shp, w_ptr, Nat.beq_refl, nbz, nb133, nb75, nb55, nb67, n133a, n133b, n75a, n75b, aT, aR, oT, oR, oF, oG, kT, kF, bI, bL, bR, b0, Classical.not_not, not_true_eq_false, not_false_eq_true, and_self, and_true, true_and, ↓reduceIte, decide_true, decide_false, Nat.reduceEqDiff, Nat.reduceLT, Nat.reduceLeDiff, Int.reduceEq, p_trailerAt_y _ D L n t c1 c3 ht, p_isWithin, en, cw]
      · rw [dn_X12_where, b_X12_where_0]
        simp only [z_cd, i10, i11, dnn, rdU, eW, eU, tzC_w, w_shp, w_ptr, Nat.beq_refl, nbz, nb133, nb75, nb55, nb67, n133a, n133b, n75a, n75b, aT, aR, oT, oR, oF, oG, kT, kF, bI, bL, bR, b0, Classical.not_not, not_true_eq_false, not_false_eq_true, and_self, and_true, true_and, ↓reduceIte, decide_true, decide_false, Nat.reduceEqDiff, Nat.reduceLT, Nat.reduceLeDiff, Int.reduceEq, q_isTrailer _ D L n t c2 c3, ct, p_in, cw]
  · refine ⟨-1, D, n, D, ?_, ?_, rfl, rfl, hR⟩
    · rw [dn_X11_where, b_X11_where_0]
      simp only [z_cd, i10, i11, dnn, rdU, eW, eU, tzC_w, w_shp, w_ptr, Nat.beq_refl, nbz, nb133, nb75, nb55, nb67, n133a, n133b, n75a, n75b, aT, aR, oT, oR, oF, oG, kT, kF, bI, bL, bR, b0, Classical.not_not, not_true_eq_false, not_false_eq_true, and_self, and_true, true_and, ↓reduceIte, decide_true, decide_false, Nat.reduceEqDiff, Nat.reduceLT, Nat.reduceLeDiff, Int.reduceEq, p_trailerAt_n _ D L n a0 c1 ct, p_isWithin, p_isYard]
    · rw [dn_X12_where, b_X12_where_0]
      simp only [z_cd, i10, i11, dnn, rdU, eW, eU, tzC_w, w_shp, w_ptr, Nat.beq_refl, nbz, nb133, nb75, nb55, nb67, n133a, n133b, n75a, n75b, aT, aR, oT, oR, oF, oG, kT, kF, bI, bL, bR, b0, Classical.not_not, not_true_eq_false, not_false_eq_true, and_self, and_true, true_and, ↓reduceIte, decide_true, decide_false, Nat.reduceEqDiff, Nat.reduceLT, Nat.reduceLeDiff, Int.reduceEq, q_isTrailer _ D L n a0 c2 c3, ct, p_in, q_isYard]
