/-! ===== hands ===== -/
def hdB (D : Nat → Int → Int) (t sn i S : Int) : Int := if D 110 i = t ∧ D 111 i < 2 then (if i < sn then jshl 1 (D 113 i + 8 * D 111 i) else jor S (jshl 1 (D 113 i + 8 * D 111 i))) else S
def hdS (D : Nat → Int → Int) (t sn : Int) : Nat → Int → Int → Int
  | 0, _, S => S
  | j + 1, i, S => hdS D t sn j (i + 1) (hdB D t sn i S)
theorem hdS_S (D : Nat → Int → Int) (t sn : Int) (j : Nat) (i S : Int) : hdS D t sn (j + 1) i S = hdS D t sn j (i + 1) (hdB D t sn i S) := rfl
theorem hdS_fr {D D' : Nat → Int → Int} (e : ∀ (b : Nat) (j : Int), 110 ≤ b → b ≤ 113 → D' b j = D b j) (t sn : Int) : ∀ (j : Nat) (i S : Int), hdS D' t sn j i S = hdS D t sn j i S
  | 0, _, _ => rfl
  | j + 1, i, S => by
    have q : hdB D' t sn i S = hdB D t sn i S := by
      unfold hdB
      rw [e 110 i (by omega) (by omega), e 111 i (by omega) (by omega), e 113 i (by omega) (by omega)]
    rw [hdS_S, hdS_S, q]
    exact hdS_fr e t sn j _ _
theorem hbit {D : Nat → Int → Int} {N i : Int} (h : BE D N) (i0 : 0 ≤ i) (i1 : i < N) (s : D 111 i < 2) : 0 ≤ D 113 i + 8 * D 111 i ∧ D 113 i + 8 * D 111 i < 14 := by
  obtain ⟨g1, g2, g3, g4, g5, g6, g7, g8⟩ := h.2.2.2.2 i i0 i1
  by_cases c : D 111 i = 0
  · have := g7 c; omega
  · have := g8 (by omega); omega
theorem hdB_r {D : Nat → Int → Int} {N t sn i S : Int} (h : BE D N) (i0 : 0 ≤ i) (i1 : i < N) (S0 : 0 ≤ S) (S1 : S < 16384) : 0 ≤ hdB D t sn i S ∧ hdB D t sn i S < 16384 := by
  unfold hdB
  by_cases c : D 110 i = t ∧ D 111 i < 2
  · rw [if_pos c]
    have b := hbit h i0 i1 c.2
    have b2 := jshl14 b.1 b.2
    by_cases e : i < sn
    · rw [if_pos e]; omega
    · rw [if_neg e]; exact jor14 S0 S1 (by omega) b2.2
  · rw [if_neg c]; exact ⟨S0, S1⟩
theorem hdS_r {D : Nat → Int → Int} {N t sn : Int} (h : BE D N) : ∀ (j : Nat) (i S : Int), 0 ≤ i → i + j ≤ N → 0 ≤ S → S < 16384 → 0 ≤ hdS D t sn j i S ∧ hdS D t sn j i S < 16384
  | 0, _, S, _, _, S0, S1 => ⟨S0, S1⟩
  | j + 1, i, S, i0, ij, S0, S1 => by
    rw [hdS_S]
    have q := hdB_r (t := t) (sn := sn) h i0 (by omega) S0 S1
    exact hdS_r h j (i + 1) _ (by omega) (by omega) q.1 q.2
set_option maxRecDepth 100000 in
set_option maxHeartbeats 400000 in
theorem p_hd (d : Nat) (D : Nat → Int → Int) (L n : Nat) (t sn : Int) {N B : Int} (h : BE D N) (hB : B ≤ N) : ∀ (j : Nat) (i S : Int), 0 ≤ i → i + j = B → tqrun tqP (d + 2) tqc_X1_holdersBetween 6 [vR 13, vI t, vI sn, vI B, vI S, vI i, vU] [] (tzW D L n) = some (some (vI (hdS D t sn j i S)), tzW D L n)
  | 0, i, S, i0, ij => by
    have c2 : B ≤ i := by omega
    rw [b_X1_holdersBetween_6]
    by_cases c : N ≤ i
    · simp only [z_cd, i10, i11, dnn, rdU, eW, eU, tzC_w, w_shp, w_ptr, Nat.beq_refl, nbz, nb133, nb75, nb55, nb67, n133a, n133b, n75a, n75b, aT, aR, oT, oR, oF, oG, kT, kF, bI, bL, bR, b0, Classical.not_not, not_true_eq_false, not_false_eq_true, and_self, and_true, true_and, ↓reduceIte, decide_true, decide_false, Nat.reduceEqDiff, Nat.reduceLT, Nat.reduceLeDiff, Int.reduceEq, Bool.false_eq_true, h.1, c]
      rfl
    · simp only [z_cd, i10, i11, dnn, rdU, eW, eU, tzC_w, w_shp, w_ptr, Nat.beq_refl, nbz, nb133, nb75, nb55, nb67, n133a, n133b, n75a, n75b, aT, aR, oT, oR, oF, oG, kT, kF, bI, bL, bR, b0, Classical.not_not, not_true_eq_false, not_false_eq_true, and_self, and_true, true_and, ↓reduceIte, decide_true, decide_false, Nat.reduceEqDiff, Nat.reduceLT, Nat.reduceLeDiff, Int.reduceEq, Bool.false_eq_true, h.1, c, c2]
      rfl
  | j + 1, i, S, i0, ij => by
    have c : ¬ N ≤ i := by omega
    have c2 : ¬ B ≤ i := by omega
    have i1 : i < N := by omega
    have hb := ib60 i0 i1 h.2.2.2.1
    obtain ⟨g1, g2, g3, g4, g5, g6, g7, g8⟩ := h.2.2.2.2 i i0 i1
    have ih := p_hd d D L n t sn h hB j (i + 1) (hdB D t sn i S) (by omega) (by omega)
    have io := p_isOf1 d D L n h i t 0 i0 i1
    have ip := p_isOf1 d D L n h i t 1 i0 i1
    rw [hdS_S, ← ih]
    clear ih
    unfold hdB
    by_cases q1 : D 110 i = t
    · by_cases q2 : D 111 i = 0
      · have b := hbit h i0 i1 (by omega)
        have b2 := jshl14 b.1 b.2
        have e0 : D 113 i + 8 * D 111 i = D 113 i := by omega
        rw [e0] at b2
        have nz : ¬ jshl 1 (D 113 i) = 0 := by omega
        have l2 : (0 : Int) < 2 := by decide
        have w1 := w32_e i0 i1 h.2.2.2.1
        rw [if_pos ⟨q1, by omega⟩, e0, b_X1_holdersBetween_6]
        by_cases q4 : i < sn
        · have q5 : ¬ sn ≤ i := by omega
          simp only [z_cd, i10, i11, dnn, rdU, eW, eU, tzC_w, w_shp, w_ptr, Nat.beq_refl, nbz, nb133, nb75, nb55, nb67, n133a, n133b, n75a, n75b, aT, aR, oT, oR, oF, oG, kT, kF, bI, bL, bR, b0, Classical.not_not, not_true_eq_false, not_false_eq_true, and_self, and_true, true_and, ↓reduceIte, decide_true, decide_false, Nat.reduceEqDiff, Nat.reduceLT, Nat.reduceLeDiff, Int.reduceEq, Bool.false_eq_true, h.1, c, c2, io, ip, q1, q2, g4, hb, b_X1_holdersBetween_74, nz, q4, q5, w1, or_false, false_or, or_true, true_or, or_self, and_false, false_and, Int.reduceLT, Int.reduceLE, Int.reduceNeg]
        · have q5 : sn ≤ i := by omega
          simp only [z_cd, i10, i11, dnn, rdU, eW, eU, tzC_w, w_shp, w_ptr, Nat.beq_refl, nbz, nb133, nb75, nb55, nb67, n133a, n133b, n75a, n75b, aT, aR, oT, oR, oF, oG, kT, kF, bI, bL, bR, b0, Classical.not_not, not_true_eq_false, not_false_eq_true, and_self, and_true, true_and, ↓reduceIte, decide_true, decide_false, Nat.reduceEqDiff, Nat.reduceLT, Nat.reduceLeDiff, Int.reduceEq, Bool.false_eq_true, h.1, c, c2, io, ip, q1, q2, g4, hb, b_X1_holdersBetween_74, nz, q4, q5, w1, or_false, false_or, or_true, true_or, or_self, and_false, false_and, Int.reduceLT, Int.reduceLE, Int.reduceNeg]
      · by_cases q3 : D 111 i = 1
        · have b := hbit h i0 i1 (by omega)
          have b2 := jshl14 b.1 b.2
          have e0 : D 113 i + 8 * D 111 i = 8 + D 113 i := by omega
          rw [e0] at b2
          have nz : ¬ jshl 1 (8 + D 113 i) = 0 := by omega
          have b3 := g8 q3
          have w8 : w32 (8 + D 113 i) = 8 + D 113 i := w32_i (by omega) (by omega)
          have w1 := w32_e i0 i1 h.2.2.2.1
          rw [if_pos ⟨q1, by clear w8 w1; omega⟩, e0, b_X1_holdersBetween_6]
          by_cases q4 : i < sn
          · have q5 : ¬ sn ≤ i := by clear w8 w1; omega
            simp only [z_cd, i10, i11, dnn, rdU, eW, eU, tzC_w, w_shp, w_ptr, Nat.beq_refl, nbz, nb133, nb75, nb55, nb67, n133a, n133b, n75a, n75b, aT, aR, oT, oR, oF, oG, kT, kF, bI, bL, bR, b0, Classical.not_not, not_true_eq_false, not_false_eq_true, and_self, and_true, true_and, ↓reduceIte, decide_true, decide_false, Nat.reduceEqDiff, Nat.reduceLT, Nat.reduceLeDiff, Int.reduceEq, Bool.false_eq_true, h.1, c, c2, io, ip, q1, q2, q3, g4, hb, b_X1_holdersBetween_74, w8, nz, q4, q5, w1, or_false, false_or, or_true, true_or, or_self, and_false, false_and, Int.reduceLT, Int.reduceLE, Int.reduceNeg]
          · have q5 : sn ≤ i := by clear w8 w1; omega
            simp only [z_cd, i10, i11, dnn, rdU, eW, eU, tzC_w, w_shp, w_ptr, Nat.beq_refl, nbz, nb133, nb75, nb55, nb67, n133a, n133b, n75a, n75b, aT, aR, oT, oR, oF, oG, kT, kF, bI, bL, bR, b0, Classical.not_not, not_true_eq_false, not_false_eq_true, and_self, and_true, true_and, ↓reduceIte, decide_true, decide_false, Nat.reduceEqDiff, Nat.reduceLT, Nat.reduceLeDiff, Int.reduceEq, Bool.false_eq_true, h.1, c, c2, io, ip, q1, q2, q3, g4, hb, b_X1_holdersBetween_74, w8, nz, q4, q5, w1, or_false, false_or, or_true, true_or, or_self, and_false, false_and, Int.reduceLT, Int.reduceLE, Int.reduceNeg]
        · rw [if_neg (fun x => by omega), b_X1_holdersBetween_6]
          have w1 := w32_e i0 i1 h.2.2.2.1
          simp only [z_cd, i10, i11, dnn, rdU, eW, eU, tzC_w, w_shp, w_ptr, Nat.beq_refl, nbz, nb133, nb75, nb55, nb67, n133a, n133b, n75a, n75b, aT, aR, oT, oR, oF, oG, kT, kF, bI, bL, bR, b0, Classical.not_not, not_true_eq_false, not_false_eq_true, and_self, and_true, true_and, ↓reduceIte, decide_true, decide_false, Nat.reduceEqDiff, Nat.reduceLT, Nat.reduceLeDiff, Int.reduceEq, Bool.false_eq_true, h.1, c, c2, io, ip, q1, q2, q3, b_X1_holdersBetween_74, w1, or_false, false_or, or_true, true_or, or_self, and_false, false_and, Int.reduceLT, Int.reduceLE, Int.reduceNeg]
    · rw [if_neg (fun x => q1 x.1), b_X1_holdersBetween_6]
      have w1 := w32_e i0 i1 h.2.2.2.1
      simp only [z_cd, i10, i11, dnn, rdU, eW, eU, tzC_w, w_shp, w_ptr, Nat.beq_refl, nbz, nb133, nb75, nb55, nb67, n133a, n133b, n75a, n75b, aT, aR, oT, oR, oF, oG, kT, kF, bI, bL, bR, b0, Classical.not_not, not_true_eq_false, not_false_eq_true, and_self, and_true, true_and, ↓reduceIte, decide_true, decide_false, Nat.reduceEqDiff, Nat.reduceLT, Nat.reduceLeDiff, Int.reduceEq, Bool.false_eq_true, h.1, c, c2, io, ip, q1, b_X1_holdersBetween_74, w1, or_false, false_or, or_true, true_or, or_self, and_false, false_and, Int.reduceLT, Int.reduceLE, Int.reduceNeg]
set_option maxRecDepth 100000 in
set_option maxHeartbeats 400000 in
theorem q_hd (d : Nat) (D : Nat → Int → Int) (L n : Nat) (t : Int) {N B sn : Int} (h : BE D N) (hB : B ≤ N) (h9 : D 81 49 = B) (h8 : D 81 48 = sn) : ∀ (j : Nat) (i S : Int), 0 ≤ i → i + j = B → tqrun tqP (d + 2) tqc_X12_hands 25 [vR 81, vI t, vI S, vI i, vU] [] (tzW D L n) = some (some (vI (btl (hdS D t sn j i S) 14 0 0)), tzW (tzU D 81 2 (hdS D t sn j i S)) L n)
  | 0, i, S, i0, ij => by
    have c2 : B ≤ i := by omega
    rw [b_X12_hands_25]
    simp only [z_cd, i10, i11, dnn, rdU, eW, eU, tzC_w, w_shp, w_ptr, Nat.beq_refl, nbz, nb133, nb75, nb55, nb67, n133a, n133b, n75a, n75b, aT, aR, oT, oR, oF, oG, kT, kF, bI, bL, bR, b0, Classical.not_not, not_true_eq_false, not_false_eq_true, and_self, and_true, true_and, ↓reduceIte, decide_true, decide_false, Nat.reduceEqDiff, Nat.reduceLT, Nat.reduceLeDiff, Int.reduceEq, Bool.false_eq_true, h9, c2, q_bits, q_ask]
    rfl
  | j + 1, i, S, i0, ij => by
    have c2 : ¬ B ≤ i := by omega
    have i1 : i < N := by omega
    have hb := ib60 i0 i1 h.2.2.2.1
    obtain ⟨g1, g2, g3, g4, g5, g6, g7, g8⟩ := h.2.2.2.2 i i0 i1
    have ih := q_hd d D L n t h hB h9 h8 j (i + 1) (hdB D t sn i S) (by omega) (by omega)
    rw [hdS_S, ← ih]
    clear ih
    unfold hdB
    by_cases q1 : D 110 i = t
    · by_cases q2 : D 111 i < 2
      · have b := hbit h i0 i1 q2
        have q3 : ¬ 2 ≤ D 111 i := by omega
        have w8 : w32 (8 * D 111 i) = 8 * D 111 i := w32_i (by omega) (by omega)
        have w9 : w32 (D 113 i + 8 * D 111 i) = D 113 i + 8 * D 111 i := w32_i (by clear w8; omega) (by clear w8; omega)
        have w1 := w32_e i0 i1 h.2.2.2.1
        rw [if_pos ⟨q1, q2⟩, b_X12_hands_25]
        by_cases q4 : i < sn
        · have q5 : ¬ sn ≤ i := by clear w8 w9 w1; omega
          simp only [z_cd, i10, i11, dnn, rdU, eW, eU, tzC_w, w_shp, w_ptr, Nat.beq_refl, nbz, nb133, nb75, nb55, nb67, n133a, n133b, n75a, n75b, aT, aR, oT, oR, oF, oG, kT, kF, bI, bL, bR, b0, Classical.not_not, not_true_eq_false, not_false_eq_true, and_self, and_true, true_and, ↓reduceIte, decide_true, decide_false, Nat.reduceEqDiff, Nat.reduceLT, Nat.reduceLeDiff, Int.reduceEq, Bool.false_eq_true, h9, h8, c2, q1, q3, hb, w8, w9, q4, q5, w1]
        · have q5 : sn ≤ i := by clear w8 w9 w1; omega
          simp only [z_cd, i10, i11, dnn, rdU, eW, eU, tzC_w, w_shp, w_ptr, Nat.beq_refl, nbz, nb133, nb75, nb55, nb67, n133a, n133b, n75a, n75b, aT, aR, oT, oR, oF, oG, kT, kF, bI, bL, bR, b0, Classical.not_not, not_true_eq_false, not_false_eq_true, and_self, and_true, true_and, ↓reduceIte, decide_true, decide_false, Nat.reduceEqDiff, Nat.reduceLT, Nat.reduceLeDiff, Int.reduceEq, Bool.false_eq_true, h9, h8, c2, q1, q3, hb, w8, w9, q4, q5, w1]
      · have q3 : 2 ≤ D 111 i := by omega
        rw [if_neg (fun x => q2 x.2), b_X12_hands_25]
        have w1 := w32_e i0 i1 h.2.2.2.1
        simp only [z_cd, i10, i11, dnn, rdU, eW, eU, tzC_w, w_shp, w_ptr, Nat.beq_refl, nbz, nb133, nb75, nb55, nb67, n133a, n133b, n75a, n75b, aT, aR, oT, oR, oF, oG, kT, kF, bI, bL, bR, b0, Classical.not_not, not_true_eq_false, not_false_eq_true, and_self, and_true, true_and, ↓reduceIte, decide_true, decide_false, Nat.reduceEqDiff, Nat.reduceLT, Nat.reduceLeDiff, Int.reduceEq, Bool.false_eq_true, h9, h8, c2, q1, q3, hb, w1]
    · rw [if_neg (fun x => q1 x.1), b_X12_hands_25]
      have w1 := w32_e i0 i1 h.2.2.2.1
      simp only [z_cd, i10, i11, dnn, rdU, eW, eU, tzC_w, w_shp, w_ptr, Nat.beq_refl, nbz, nb133, nb75, nb55, nb67, n133a, n133b, n75a, n75b, aT, aR, oT, oR, oF, oG, kT, kF, bI, bL, bR, b0, Classical.not_not, not_true_eq_false, not_false_eq_true, and_self, and_true, true_and, ↓reduceIte, decide_true, decide_false, Nat.reduceEqDiff, Nat.reduceLT, Nat.reduceLeDiff, Int.reduceEq, Bool.false_eq_true, h9, h8, c2, q1, hb, w1]
set_option maxRecDepth 100000 in
set_option maxHeartbeats 400000 in
theorem ag_hands {L : Nat} (a0 : Int) : AgI Rel L n_X11_hands n_X12_hands [vI a0] := by
  intro D n hR
  obtain ⟨hA, hL, hW, hN, ⟨c1, c2, c3⟩, hT, hD, hK, hB, hQ, hX, hM, hP, hS⟩ := id hR
  by_cases ct : 0 ≤ a0 ∧ a0 < n
  · obtain ⟨t, e⟩ : ∃ t : Nat, a0 = t := ⟨a0.toNat, by omega⟩
    subst e
    have ht : t < n := by omega
    have ht12 : t < 12 := by omega
    have hb : tqib (t : Int) 12 = true := tqib_y (by omega) (by omega)
    have r := hT.1 t ht
    have r2 := r
    have be := BE_of hB
    obtain ⟨N, hNN⟩ : ∃ N : Nat, D 81 34 = N := ⟨(D 81 34).toNat, by have := hB.2.1; omega⟩
    rw [hNN] at be
    have h6 : N ≤ 60 := by have := be.2.2.2.1; omega
    have fb : ∀ d, tqden tqP (d + 2) n_X1_foundBroken [vR 13, vI (t : Int)] (tzW D L n) = some (some (vI (lst (pB D t) N)), tzW D L n) := fun d => by
      have q := p_fB d D L n t be N (by omega)
      have w1 := w32_d2 N (by omega)
      rw [dn_X1_foundBroken, b_X1_foundBroken_0]
      simp only [z_cd, i10, i11, dnn, rdU, eW, eU, tzC_w, w_shp, w_ptr, Nat.beq_refl, nbz, nb133, nb75, nb55, nb67, n133a, n133b, n75a, n75b, aT, aR, oT, oR, oF, oG, kT, kF, bI, bL, bR, b0, Classical.not_not, not_true_eq_false, not_false_eq_true, and_self, and_true, true_and, ↓reduceIte, decide_true, decide_false, Nat.reduceEqDiff, Nat.reduceLT, Nat.reduceLeDiff, Int.reduceEq, Bool.false_eq_true, be.1, w1]
      exact q
    have sh : ∀ (d k : Nat), k ≤ N → tqden tqP (d + 2) n_X1_seenWholeAhead [vR 13, vI (t : Int), vI (k : Int)] (tzW D L n) = some (some (vI (lst (pW D t) k)), tzW D L n) := fun d k hk => by
      have q := p_sW d D L n t be k (by omega)
      have w1 := w32_d2 k (by omega)
      rw [dn_X1_seenWholeAhead, b_X1_seenWholeAhead_0, w1]
      exact q
    have sn : ∀ d, tqden tqP (d + 2) n_X1_seenWholeAhead [vR 13, vI (t : Int), vI (-9)] (tzW D L n) = some (some (vI (-9)), tzW D L n) := fun d => by
      have w1 : w32 (-9 - 1) = -10 := by decide +kernel
      rw [dn_X1_seenWholeAhead, b_X1_seenWholeAhead_0, w1, b_X1_seenWholeAhead_4]
      simp only [z_cd, i10, i11, dnn, rdU, eW, eU, tzC_w, w_shp, w_ptr, Nat.beq_refl, nbz, nb133, nb75, nb55, nb67, n133a, n133b, n75a, n75b, aT, aR, oT, oR, oF, oG, kT, kF, bI, bL, bR, b0, Classical.not_not, not_true_eq_false, not_false_eq_true, and_self, and_true, true_and, ↓reduceIte, decide_true, decide_false, Nat.reduceEqDiff, Nat.reduceLT, Nat.reduceLeDiff, Int.reduceEq, Bool.false_eq_true, Int.reduceLT, Int.reduceLE, Int.reduceNeg]
    rcases lst_in (pB D t) N with hl | ⟨l0, l1, l2⟩
    · refine ⟨-4, D, n, tzU (tzU D 81 48 (-9)) 81 49 (-9), ?_, ?_, rfl, Sm_1 (by (repeat (refine Sm_U (by omega) ?_)); exact Sm_r _ _), ?_⟩
      · rw [dn_X11_hands, b_X11_hands_0]
        simp only [z_cd, i10, i11, dnn, rdU, eW, eU, tzC_w, w_shp, w_ptr, Nat.beq_refl, nbz, nb133, nb75, nb55, nb67, n133a, n133b, n75a, n75b, aT, aR, oT, oR, oF, oG, kT, kF, bI, bL, bR, b0, Classical.not_not, not_true_eq_false, not_false_eq_true, and_self, and_true, true_and, ↓reduceIte, decide_true, decide_false, Nat.reduceEqDiff, Nat.reduceLT, Nat.reduceLeDiff, Int.reduceEq, Bool.false_eq_true, p_trailerAt_y _ D L n t c1 c3 ht, fb, hl, sn]
      · rw [dn_X12_hands, b_X12_hands_0]
        simp only [z_cd, i10, i11, dnn, rdU, eW, eU, tzC_w, w_shp, w_ptr, Nat.beq_refl, nbz, nb133, nb75, nb55, nb67, n133a, n133b, n75a, n75b, aT, aR, oT, oR, oF, oG, kT, kF, bI, bL, bR, b0, Classical.not_not, not_true_eq_false, not_false_eq_true, and_self, and_true, true_and, ↓reduceIte, decide_true, decide_false, Nat.reduceEqDiff, Nat.reduceLT, Nat.reduceLeDiff, Int.reduceEq, Bool.false_eq_true, q_isTrailer _ D L n t c2 c3, ct, q_find_n _ D L n t hNN h6 hl]
      · refine ⟨?_, ?_, ?_, ?_, ?_, ?_, ?_, ?_, ?_, ?_, ?_, ?_, ?_, ?_⟩
        · exact RA_fr (by ((repeat (refine Sm_U (by unfold PA; omega) ?_)); exact Sm_r _ _)) hA
        · exact RL_fr (by ((repeat (refine Sm_U (by unfold PL; omega) ?_)); exact Sm_r _ _)) hL
        · exact RW_fr (by ((repeat (refine Sm_U (by unfold PW; omega) ?_)); exact Sm_r _ _)) hW
        · exact RN_fr (by ((repeat (refine Sm_U (by unfold PN; omega) ?_)); exact Sm_r _ _)) hN
        · exact RC_fr (by ((repeat (refine Sm_U (by unfold PC; omega) ?_)); exact Sm_r _ _)) ⟨c1, c2, c3⟩
        · exact RT_fr (by ((repeat (refine Sm_U (by unfold PT; omega) ?_)); exact Sm_r _ _)) hT
        · exact RD_fr (by ((repeat (refine Sm_U (by unfold PD; omega) ?_)); exact Sm_r _ _)) hD
        · exact RK_fr (by ((repeat (refine Sm_U (by unfold PK; omega) ?_)); exact Sm_r _ _)) hK
        · exact RB_fr (by ((repeat (refine Sm_U (by unfold PB; omega) ?_)); exact Sm_r _ _)) hB
        · exact RQ_fr (by ((repeat (refine Sm_U (by unfold PQ; omega) ?_)); exact Sm_r _ _)) hQ
        · exact RX_fr (by ((repeat (refine Sm_U (by unfold PX; omega) ?_)); exact Sm_r _ _)) hX
        · exact RM_fr (by ((repeat (refine Sm_U (by unfold PM; omega) ?_)); exact Sm_r _ _)) hM
        · exact RP_fr (by ((repeat (refine Sm_U (by unfold PP; omega) ?_)); exact Sm_r _ _)) hP
        · exact RS_fr (by ((repeat (refine Sm_U (by unfold PS; omega) ?_)); exact Sm_r _ _)) hS
    · obtain ⟨k, hk⟩ : ∃ k : Nat, lst (pB D t) N = k := ⟨(lst (pB D t) N).toNat, by omega⟩
      rw [hk] at l0 l1 l2
      rw [pB_i] at l2
      have k60 : k ≤ 60 := by omega
      have kN : k ≤ N := by omega
      have hs := sE_lst (by have u := hX.2 k (by omega) l2.2; rw [l2.1] at u; exact u)
      rcases lst_in (pW D t) k with u | ⟨u0, u1, u2⟩
      · exact absurd u hs
      obtain ⟨s, hs2⟩ : ∃ s : Nat, lst (pW D t) k = s := ⟨(lst (pW D t) k).toNat, by omega⟩
      rw [hs2] at u0 u1 hs
      have sN : s < N := by omega
      have ns : ¬ (s : Int) = -9 := by omega
      have nk : ¬ (k : Int) = -9 := by omega
      have hbs : tqib (s : Int) 60 = true := tqib_y (by omega) (by omega)
      have hbk : tqib (k : Int) 60 = true := tqib_y (by omega) (by omega)
      have g1 := (be.2.2.2.2 s (by omega) (by omega)).2.2.1
      have g2 := (be.2.2.2.2 k (by omega) (by omega)).2.2.1
      have hp := p_hd 1396 D L n t s be (B := k) (by omega) k 0 0 (by omega) (by omega)
      have hp2 : tqden tqP (1396 + 2) n_X1_holdersBetween [vR 13, vI (t : Int), vI (s : Int), vI (k : Int)] (tzW D L n) = some (some (vI (hdS D t s k 0 0)), tzW D L n) := by
        rw [dn_X1_holdersBetween, b_X1_holdersBetween_0]; exact hp
      have rg := hdS_r (t := t) (sn := s) be k 0 0 (by omega) (by omega) (by omega) (by omega)
      have bc := bc14 rg.1 rg.2
      have hq := q_hd 1397 (tzU (tzU (tzU (tzU D 53 2 (hdS D t s k 0 0)) 81 48 (-9)) 81 49 k) 81 48 s) L n t (N := N) (B := k) (sn := s) be (by omega) (by simp only [rdU, n133a, n133b, n75a, n75b, ↓reduceIte, Nat.reduceEqDiff, Nat.reduceLT, Nat.reduceLeDiff, Int.reduceEq, not_true_eq_false, not_false_eq_true, true_and, and_true, and_self, true_or, or_true, or_false, false_or, ite_self]) (by simp only [rdU, n133a, n133b, n75a, n75b, ↓reduceIte, Nat.reduceEqDiff, Nat.reduceLT, Nat.reduceLeDiff, Int.reduceEq, not_true_eq_false, not_false_eq_true, true_and, and_true, and_self, true_or, or_true, or_false, false_or, ite_self]) k 0 0 (by omega) (by omega)
      have hz : hdS (tzU (tzU (tzU (tzU D 53 2 (hdS D t s k 0 0)) 81 48 (-9)) 81 49 k) 81 48 s) t s k 0 0 = hdS D t s k 0 0 := hdS_fr (D := D) (fun b j h1 h2 => by
        have z1 : ¬ b = 81 := by omega
        have z2 : ¬ b = 53 := by omega
        simp only [rdU, n133a, n133b, n75a, n75b, ↓reduceIte, Nat.reduceEqDiff, Nat.reduceLT, Nat.reduceLeDiff, Int.reduceEq, not_true_eq_false, not_false_eq_true, true_and, and_true, and_self, true_or, or_true, or_false, false_or, ite_self, z1, z2]) _ _ _ _ _
      rw [hz] at hq
      rw [← bc] at hq
      refine ⟨bcq (hdS D t s k 0 0), tzU D 53 2 (hdS D t s k 0 0), n, tzU (tzU (tzU (tzU (tzU D 53 2 (hdS D t s k 0 0)) 81 48 (-9)) 81 49 k) 81 48 s) 81 2 (hdS D t s k 0 0), ?_, ?_, Sm_1 (by (repeat (refine Sm_U (by omega) ?_)); exact Sm_r _ _), Sm_1 (by (repeat (refine Sm_U (by omega) ?_)); exact Sm_r _ _), ?_⟩
      · rw [dn_X11_hands, b_X11_hands_0]
        simp only [z_cd, i10, i11, dnn, rdU, eW, eU, tzC_w, w_shp, w_ptr, Nat.beq_refl, nbz, nb133, nb75, nb55, nb67, n133a, n133b, n75a, n75b, aT, aR, oT, oR, oF, oG, kT, kF, bI, bL, bR, b0, Classical.not_not, not_true_eq_false, not_false_eq_true, and_self, and_true, true_and, ↓reduceIte, decide_true, decide_false, Nat.reduceEqDiff, Nat.reduceLT, Nat.reduceLeDiff, Int.reduceEq, Bool.false_eq_true, p_trailerAt_y _ D L n t c1 c3 ht, fb, hk, sh _ k kN, hs2, nk, ns, hp2, p_bitCount]
      · have f := q_find_y 1397 (tzU D 53 2 (hdS D t s k 0 0)) L n t hNN h6 (show lst (pB (tzU D 53 2 (hdS D t s k 0 0)) t) N = k from hk) k60
        rw [show lst (pW (tzU D 53 2 (hdS D t s k 0 0)) t) k = s from hs2] at f
        rw [dn_X12_hands, b_X12_hands_0]
        simp only [z_cd, i10, i11, dnn, rdU, eW, eU, tzC_w, w_shp, w_ptr, Nat.beq_refl, nbz, nb133, nb75, nb55, nb67, n133a, n133b, n75a, n75b, aT, aR, oT, oR, oF, oG, kT, kF, bI, bL, bR, b0, Classical.not_not, not_true_eq_false, not_false_eq_true, and_self, and_true, true_and, ↓reduceIte, decide_true, decide_false, Nat.reduceEqDiff, Nat.reduceLT, Nat.reduceLeDiff, Int.reduceEq, Bool.false_eq_true, q_isTrailer _ (tzU D 53 2 (hdS D t s k 0 0)) L n t c2 c3, ct, f]
        exact hq
      · refine ⟨?_, ?_, ?_, ?_, ?_, ?_, ?_, ?_, ?_, ?_, ?_, ?_, ?_, ?_⟩
        · refine RA_ask hA (by (repeat (refine Sm_U (by unfold PA; omega) ?_)); exact Sm_r _ _) ?_
          simp only [rdU, n133a, n133b, n75a, n75b, ↓reduceIte, Nat.reduceEqDiff, Nat.reduceLT, Nat.reduceLeDiff, Int.reduceEq, not_true_eq_false, not_false_eq_true, true_and, and_true, and_self, true_or, or_true, or_false, false_or, ite_self]
        · exact RL_fr (by ((repeat (refine Sm_U (by unfold PL; omega) ?_)); exact Sm_r _ _)) hL
        · exact RW_fr (by ((repeat (refine Sm_U (by unfold PW; omega) ?_)); exact Sm_r _ _)) hW
        · exact RN_fr (by ((repeat (refine Sm_U (by unfold PN; omega) ?_)); exact Sm_r _ _)) hN
        · exact RC_fr (by ((repeat (refine Sm_U (by unfold PC; omega) ?_)); exact Sm_r _ _)) ⟨c1, c2, c3⟩
        · exact RT_fr (by ((repeat (refine Sm_U (by unfold PT; omega) ?_)); exact Sm_r _ _)) hT
        · exact RD_fr (by ((repeat (refine Sm_U (by unfold PD; omega) ?_)); exact Sm_r _ _)) hD
        · exact RK_fr (by ((repeat (refine Sm_U (by unfold PK; omega) ?_)); exact Sm_r _ _)) hK
        · exact RB_fr (by ((repeat (refine Sm_U (by unfold PB; omega) ?_)); exact Sm_r _ _)) hB
        · exact RQ_fr (by ((repeat (refine Sm_U (by unfold PQ; omega) ?_)); exact Sm_r _ _)) hQ
        · exact RX_fr (by ((repeat (refine Sm_U (by unfold PX; omega) ?_)); exact Sm_r _ _)) hX
        · exact RM_fr (by ((repeat (refine Sm_U (by unfold PM; omega) ?_)); exact Sm_r _ _)) hM
        · exact RP_fr (by ((repeat (refine Sm_U (by unfold PP; omega) ?_)); exact Sm_r _ _)) hP
        · exact RS_fr (by ((repeat (refine Sm_U (by unfold PS; omega) ?_)); exact Sm_r _ _)) hS
  · refine ⟨-1, D, n, D, ?_, ?_, rfl, rfl, hR⟩
    · rw [dn_X11_hands, b_X11_hands_0]
      simp only [z_cd, i10, i11, dnn, rdU, eW, eU, tzC_w, w_shp, w_ptr, Nat.beq_refl, nbz, nb133, nb75, nb55, nb67, n133a, n133b, n75a, n75b, aT, aR, oT, oR, oF, oG, kT, kF, bI, bL, bR, b0, Classical.not_not, not_true_eq_false, not_false_eq_true, and_self, and_true, true_and, ↓reduceIte, decide_true, decide_false, Nat.reduceEqDiff, Nat.reduceLT, Nat.reduceLeDiff, Int.reduceEq, Bool.false_eq_true, p_trailerAt_n _ D L n a0 c1 ct, p_isWithin, p_isYard]
    · rw [dn_X12_hands, b_X12_hands_0]
      simp only [z_cd, i10, i11, dnn, rdU, eW, eU, tzC_w, w_shp, w_ptr, Nat.beq_refl, nbz, nb133, nb75, nb55, nb67, n133a, n133b, n75a, n75b, aT, aR, oT, oR, oF, oG, kT, kF, bI, bL, bR, b0, Classical.not_not, not_true_eq_false, not_false_eq_true, and_self, and_true, true_and, ↓reduceIte, decide_true, decide_false, Nat.reduceEqDiff, Nat.reduceLT, Nat.reduceLeDiff, Int.reduceEq, Bool.false_eq_true, q_isTrailer _ D L n a0 c2 c3, ct, p_in, q_isYard]
