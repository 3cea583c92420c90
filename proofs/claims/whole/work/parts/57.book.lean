/-- the book of the class and that of the reference, entry by entry -/
def BE (D : Nat → Int → Int) (N : Int) : Prop := D 13 4 = N ∧ D 81 34 = N ∧ 0 ≤ N ∧ N ≤ 60 ∧ ∀ e : Int, 0 ≤ e → e < N → D 14 e = D 110 e ∧ D 15 e = D 111 e ∧ D 16 e = D 112 e ∧ D 17 e = D 113 e ∧ 0 ≤ D 111 e ∧ D 111 e ≤ 5 ∧ (D 111 e = 0 → 0 ≤ D 113 e ∧ D 113 e ≤ 7) ∧ (D 111 e = 1 → 0 ≤ D 113 e ∧ D 113 e ≤ 5)
theorem BE_of {D : Nat → Int → Int} {n : Nat} (h : RB D n) : BE D (D 81 34) := by
  obtain ⟨h1, h2, h3, h4⟩ := h
  refine ⟨h1, rfl, h2, h3, fun e e0 e1 => ?_⟩
  obtain ⟨k, hk⟩ : ∃ k : Nat, e = k := ⟨e.toNat, by omega⟩
  subst hk
  obtain ⟨g1, g2, g3, g4, g5, g6, g7, g8, g9, g10, g11⟩ := h4 k e1
  exact ⟨g1, g2, g3, g4, g7, g8, g10, g11⟩
theorem ib60 {e N : Int} (h0 : 0 ≤ e) (h1 : e < N) (h2 : N ≤ 60) : tqib e 60 = true := tqib_y (by omega) (by omega)
theorem w32_e {e N : Int} (h0 : 0 ≤ e) (h1 : e < N) (h2 : N ≤ 60) : w32 (e + 1) = e + 1 := w32_id ⟨by omega, by omega⟩
set_option maxRecDepth 100000 in
set_option maxHeartbeats 400000 in
theorem p_isOf1 (d : Nat) (D : Nat → Int → Int) (L n : Nat) {N : Int} (h : BE D N) (e t s : Int) (e0 : 0 ≤ e) (e1 : e < N) : tqden tqP (d + 1) n_X1_isOf [vR 13, vI e, vI t, vI s] (tzW D L n) = some (some (vI (if D 110 e = t ∧ D 111 e = s then 1 else 0)), tzW D L n) := by
  obtain ⟨h1, h2, h3, h4, h5⟩ := h
  obtain ⟨g1, g2, g3, g4, _⟩ := h5 e e0 e1
  have q1 : ¬ e < 0 := by omega
  have q2 : ¬ N ≤ e := by omega
  have hb := ib60 e0 e1 h4
  rw [dn_X1_isOf, b_X1_isOf_0]
  by_cases k1 : D 110 e = t
  · by_cases k2 : D 111 e = s
    · simp only [z_cd, i10, i11, dnn, rdU, eW, eU, tzC_w, w_shp, w_ptr, Nat.beq_refl, nbz, nb133, nb75, nb55, nb67, n133a, n133b, n75a, n75b, aT, aR, oT, oR, oF, oG, kT, kF, bI, bL, bR, b0, Classical.not_not, not_true_eq_false, not_false_eq_true, and_self, and_true, true_and, ↓reduceIte, decide_true, decide_false, Nat.reduceEqDiff, Nat.reduceLT, Nat.reduceLeDiff, Int.reduceEq, q1, h1, q2, hb, g1, g2, k1, k2]
    · simp only [z_cd, i10, i11, dnn, rdU, eW, eU, tzC_w, w_shp, w_ptr, Nat.beq_refl, nbz, nb133, nb75, nb55, nb67, n133a, n133b, n75a, n75b, aT, aR, oT, oR, oF, oG, kT, kF, bI, bL, bR, b0, Classical.not_not, not_true_eq_false, not_false_eq_true, and_self, and_true, true_and, ↓reduceIte, decide_true, decide_false, Nat.reduceEqDiff, Nat.reduceLT, Nat.reduceLeDiff, Int.reduceEq, q1, h1, q2, hb, g1, g2, k1, k2, and_false]
  · simp only [z_cd, i10, i11, dnn, rdU, eW, eU, tzC_w, w_shp, w_ptr, Nat.beq_refl, nbz, nb133, nb75, nb55, nb67, n133a, n133b, n75a, n75b, aT, aR, oT, oR, oF, oG, kT, kF, bI, bL, bR, b0, Classical.not_not, not_true_eq_false, not_false_eq_true, and_self, and_true, true_and, ↓reduceIte, decide_true, decide_false, Nat.reduceEqDiff, Nat.reduceLT, Nat.reduceLeDiff, Int.reduceEq, q1, h1, q2, hb, g1, g2, k1, false_and]
def nE (D : Nat → Int → Int) (t : Int) : Nat → Int → Int
  | 0, _ => -9
  | j + 1, i => if D 110 i = t then i else nE D t j (i + 1)
theorem nE_S (D : Nat → Int → Int) (t : Int) (j : Nat) (i : Int) : nE D t (j + 1) i = if D 110 i = t then i else nE D t j (i + 1) := rfl
theorem nE_first (D : Nat → Int → Int) (t : Int) : ∀ (j : Nat) (i e : Int), i ≤ e → e < i + j → D 110 e = t → (∀ x, i ≤ x → x < e → D 110 x ≠ t) → nE D t j i = e
  | 0, i, e, h1, h2, _, _ => absurd h2 (by omega)
  | j + 1, i, e, h1, h2, h3, h4 => by
    rw [nE_S]
    by_cases c : i = e
    · rw [c, if_pos h3]
    · rw [if_neg (h4 i (by omega) (by omega))]
      exact nE_first D t j (i + 1) e (by omega) (by omega) h3 (fun x q1 q2 => h4 x (by omega) q2)
theorem nE_in (D : Nat → Int → Int) (t : Int) : ∀ (j : Nat) (i : Int), 0 ≤ i → nE D t j i = -9 ∨ (i ≤ nE D t j i ∧ nE D t j i < i + j)
  | 0, i, _ => Or.inl rfl
  | j + 1, i, h => by
    rw [nE_S]
    by_cases c : D 110 i = t
    · rw [if_pos c]; right; omega
    · rw [if_neg c]
      rcases nE_in D t j (i + 1) (by omega) with q | q
      · exact Or.inl q
      · right; omega
theorem fE_spec {D : Nat → Int → Int} {t : Int} : ∀ {k e : Nat}, fE D t k = some e → e < k ∧ D 110 e = t ∧ ∀ x : Nat, x < e → D 110 x ≠ t := by
  intro k
  induction k with
  | zero => intro e h; exact absurd h (by unfold fE; simp)
  | succ k ih =>
    intro e h
    unfold fE at h
    cases q : fE D t k with
    | some e2 =>
      rw [q] at h
      have : e2 = e := by simpa using h
      subst this
      have r := ih q
      exact ⟨by omega, r.2.1, r.2.2⟩
    | none =>
      rw [q] at h
      by_cases c : D 110 k = t
      · simp only [c, if_true] at h
        have e1 : k = e := by simpa using h
        subst e1
        refine ⟨by omega, c, ?_⟩
        have fn : ∀ (j : Nat), fE D t j = none → ∀ x : Nat, x < j → D 110 x ≠ t := by
          intro j
          induction j with
          | zero => intro _ x hx; omega
          | succ j ihj =>
            intro hj x hx
            unfold fE at hj
            cases q2 : fE D t j with
            | some z => rw [q2] at hj; simp at hj
            | none =>
              rw [q2] at hj
              by_cases c2 : D 110 j = t
              · simp [c2] at hj
              · by_cases c3 : x = j
                · rw [c3]; exact c2
                · exact ihj q2 x (by omega)
        exact fn k q
      · simp [c] at h
set_option maxRecDepth 100000 in
set_option maxHeartbeats 400000 in
theorem q_eF (d : Nat) (D : Nat → Int → Int) (L n : Nat) (t : Int) {N : Int} (hN : D 81 34 = N) (h6 : N ≤ 60) : ∀ (j : Nat) (i : Int), 0 ≤ i → i + j = N → tqrun tqP (d + 1) tqc_X12_entryFrom 2 [vR 81, vI t, vU, vI i] [] (tzW D L n) = some (some (vI (nE D t j i)), tzW D L n)
  | 0, i, h0, h1 => by
    have c : N ≤ i := by omega
    rw [b_X12_entryFrom_2]
    simp only [z_cd, i10, i11, dnn, rdU, eW, eU, tzC_w, w_shp, w_ptr, Nat.beq_refl, nbz, nb133, nb75, nb55, nb67, n133a, n133b, n75a, n75b, aT, aR, oT, oR, oF, oG, kT, kF, bI, bL, bR, b0, Classical.not_not, not_true_eq_false, not_false_eq_true, and_self, and_true, true_and, ↓reduceIte, decide_true, decide_false, Nat.reduceEqDiff, Nat.reduceLT, Nat.reduceLeDiff, Int.reduceEq, hN, c]
    rfl
  | j + 1, i, h0, h1 => by
    have c : ¬ N ≤ i := by omega
    have i1 : i < N := by omega
    have hb := ib60 h0 i1 h6
    have ih := q_eF d D L n t hN h6 j (i + 1) (by omega) (by omega)
    have w1 := w32_e h0 i1 h6
    rw [b_X12_entryFrom_2, nE_S]
    by_cases k : D 110 i = t
    · simp only [z_cd, i10, i11, dnn, rdU, eW, eU, tzC_w, w_shp, w_ptr, Nat.beq_refl, nbz, nb133, nb75, nb55, nb67, n133a, n133b, n75a, n75b, aT, aR, oT, oR, oF, oG, kT, kF, bI, bL, bR, b0, Classical.not_not, not_true_eq_false, not_false_eq_true, and_self, and_true, true_and, ↓reduceIte, decide_true, decide_false, Nat.reduceEqDiff, Nat.reduceLT, Nat.reduceLeDiff, Int.reduceEq, hN, c, hb, k]
    · simp only [z_cd, i10, i11, dnn, rdU, eW, eU, tzC_w, w_shp, w_ptr, Nat.beq_refl, nbz, nb133, nb75, nb55, nb67, n133a, n133b, n75a, n75b, aT, aR, oT, oR, oF, oG, kT, kF, bI, bL, bR, b0, Classical.not_not, not_true_eq_false, not_false_eq_true, and_self, and_true, true_and, ↓reduceIte, decide_true, decide_false, Nat.reduceEqDiff, Nat.reduceLT, Nat.reduceLeDiff, Int.reduceEq, hN, c, hb, k, w1, ih]
set_option maxRecDepth 100000 in
set_option maxHeartbeats 400000 in
theorem q_entryFrom (d : Nat) (D : Nat → Int → Int) (L n : Nat) (t : Int) {N : Int} (hN : D 81 34 = N) (h6 : N ≤ 60) (j : Nat) (i : Int) (h0 : 0 ≤ i) (h1 : i + j = N) : tqden tqP (d + 1) n_X12_entryFrom [vR 81, vI t, vI i] (tzW D L n) = some (some (vI (nE D t j i)), tzW D L n) := by
  rw [dn_X12_entryFrom, b_X12_entryFrom_0]
  exact q_eF d D L n t hN h6 j i h0 h1
theorem p_dayOf (d : Nat) (x : Int) (m : tqM) : tqden tqP (d + 1) n_X11_dayOf [vI x] m = some (some (vI (w32 (x.tdiv 1440))), m) := by rw [dn_X11_dayOf, b_X11_dayOf_0]
theorem q_day (d : Nat) (x : Int) (m : tqM) : tqden tqP (d + 1) n_X12_day [vI x] m = some (some (vI (w32 (x.tdiv 1440))), m) := by rw [dn_X12_day, b_X12_day_0]
set_option maxRecDepth 100000 in
set_option maxHeartbeats 400000 in
theorem ag_mark {L : Nat} (a0 a1 : Int) : AgI Rel L n_X11_mark n_X12_mark [vI a0, vI a1] := by
  intro D n hR
  obtain ⟨hA, hL, hW, hN, ⟨c1, c2, c3⟩, hT, hD, hK, hB, hQ, hX, hM, hP, hS⟩ := id hR
  by_cases ct : 0 ≤ a0 ∧ a0 < n
  · obtain ⟨t, e⟩ : ∃ t : Nat, a0 = t := ⟨a0.toNat, by omega⟩
    subst e
    have ht : t < n := by omega
    have ht12 : t < 12 := by omega
    have hb : tqib (t : Int) 12 = true := tqib_y (by omega) (by omega)
    have r := hT.1 t ht
    have r2 := r
    have e0 : D (133 + t) 0 = D 93 t := r.1
    have e7 : D (133 + t) 7 = D 103 t := r.2.2.2.2.2.2.1
    have e8 : D (133 + t) 8 = D 104 t := r.2.2.2.2.2.2.2.1
    have y0 : tzRx D 3 93 t = D 93 t := rfl
    have en : D 2 13 = D 81 5 := hN.1
    obtain ⟨e, x1, x2⟩ := (hX.1 t ht).2.2.2.1
    have x2s := x2.symm
    obtain ⟨f1, f2, f3⟩ := fE_spec x1
    obtain ⟨N, hNN⟩ : ∃ N : Nat, D 81 34 = N := ⟨(D 81 34).toNat, by have := hB.2.1; omega⟩
    have hN6 : (N : Int) ≤ 60 := by have := hB.2.2.1; omega
    have ef := nE_first D t N 0 e (by omega) (by omega) f2 (fun x q1 q2 => by
      obtain ⟨k, hk⟩ : ∃ k : Nat, x = k := ⟨x.toNat, by omega⟩
      rw [hk]; exact f3 k (by omega))
    have hbe : tqib (e : Int) 60 = true := tqib_y (by omega) (by omega)
    have qe : ∀ d, tqden tqP (d + 1) n_X12_entryFrom [vR 81, vI (t : Int), vI 0] (tzW D L n) = some (some (vI (e : Int)), tzW D L n) := fun d => by rw [← ef]; exact q_entryFrom d D L n t hNN hN6 N 0 (by omega) (by omega)
    by_cases cw : 1 ≤ a1 ∧ a1 ≤ 3
    · have k3 : a1 = 1 ∨ a1 = 2 ∨ a1 = 3 := by omega
      rcases k3 with k | k | k
      · subst k
        by_cases k1 : D 93 t = 1
        · refine ⟨D 103 t, D, n, D, ?_, ?_, rfl, rfl, hR⟩
          · rw [dn_X11_mark, b_X11_mark_0]
            simp only [z_cd, i10, i11, dnn, rdU, eW, eU, tzC_w, w_shp, w_ptr, Nat.beq_refl, nbz, nb133, nb75, nb55, nb67, n133a, n133b, n75a, n75b, aT, aR, oT, oR, oF, oG, kT, kF, bI, bL, bR, b0, Classical.not_not, not_true_eq_false, not_false_eq_true, and_self, and_true, true_and, ↓reduceIte, decide_true, decide_false, Nat.reduceEqDiff, Nat.reduceLT, Nat.reduceLeDiff, Int.reduceEq, p_trailerAt_y _ D L n t c1 c3 ht, p_isWithin, w_trailer D L n ht, p_isOf _ D L n t ht, e0, e7, e8, k1, or_false, false_or, or_true, true_or, or_self, and_false, false_and, Int.reduceLT, Int.reduceLE, Int.reduceNeg]
          · rw [dn_X12_mark, b_X12_mark_0]
            simp only [z_cd, i10, i11, dnn, rdU, eW, eU, tzC_w, w_shp, w_ptr, Nat.beq_refl, nbz, nb133, nb75, nb55, nb67, n133a, n133b, n75a, n75b, aT, aR, oT, oR, oF, oG, kT, kF, bI, bL, bR, b0, Classical.not_not, not_true_eq_false, not_false_eq_true, and_self, and_true, true_and, ↓reduceIte, decide_true, decide_false, Nat.reduceEqDiff, Nat.reduceLT, Nat.reduceLeDiff, Int.reduceEq, q_isTrailer _ D L n t c2 c3, ct, p_in, hb, b_X12_mark_48, q_isCold _ D L n t ht12, k1, or_false, false_or, or_true, true_or, or_self, and_false, false_and, Int.reduceLT, Int.reduceLE, Int.reduceNeg]
        · by_cases k3 : D 93 t = 3
          · refine ⟨D 103 t, D, n, D, ?_, ?_, rfl, rfl, hR⟩
            · rw [dn_X11_mark, b_X11_mark_0]
              simp only [z_cd, i10, i11, dnn, rdU, eW, eU, tzC_w, w_shp, w_ptr, Nat.beq_refl, nbz, nb133, nb75, nb55, nb67, n133a, n133b, n75a, n75b, aT, aR, oT, oR, oF, oG, kT, kF, bI, bL, bR, b0, Classical.not_not, not_true_eq_false, not_false_eq_true, and_self, and_true, true_and, ↓reduceIte, decide_true, decide_false, Nat.reduceEqDiff, Nat.reduceLT, Nat.reduceLeDiff, Int.reduceEq, p_trailerAt_y _ D L n t c1 c3 ht, p_isWithin, w_trailer D L n ht, p_isOf _ D L n t ht, e0, e7, e8, k1, k3, or_false, false_or, or_true, true_or, or_self, and_false, false_and, Int.reduceLT, Int.reduceLE, Int.reduceNeg]
            · rw [dn_X12_mark, b_X12_mark_0]
              simp only [z_cd, i10, i11, dnn, rdU, eW, eU, tzC_w, w_shp, w_ptr, Nat.beq_refl, nbz, nb133, nb75, nb55, nb67, n133a, n133b, n75a, n75b, aT, aR, oT, oR, oF, oG, kT, kF, bI, bL, bR, b0, Classical.not_not, not_true_eq_false, not_false_eq_true, and_self, and_true, true_and, ↓reduceIte, decide_true, decide_false, Nat.reduceEqDiff, Nat.reduceLT, Nat.reduceLeDiff, Int.reduceEq, q_isTrailer _ D L n t c2 c3, ct, p_in, hb, b_X12_mark_48, q_isCold _ D L n t ht12, k1, k3, or_false, false_or, or_true, true_or, or_self, and_false, false_and, Int.reduceLT, Int.reduceLE, Int.reduceNeg]
          · refine ⟨-3, tzRx D 3, n, tzRm (tzRx D 3) 3, ?_, ?_, Sm_1 (by unfold tzRx; (repeat (refine Sm_U (by omega) ?_)); exact Sm_r _ _), Sm_1 (by unfold tzRm tzRx; (repeat (refine Sm_U (by omega) ?_)); exact Sm_r _ _), Rel_ref hR (by omega) (by omega)⟩
            · rw [dn_X11_mark, b_X11_mark_0]
              simp only [z_cd, i10, i11, dnn, rdU, eW, eU, tzC_w, w_shp, w_ptr, Nat.beq_refl, nbz, nb133, nb75, nb55, nb67, n133a, n133b, n75a, n75b, aT, aR, oT, oR, oF, oG, kT, kF, bI, bL, bR, b0, Classical.not_not, not_true_eq_false, not_false_eq_true, and_self, and_true, true_and, ↓reduceIte, decide_true, decide_false, Nat.reduceEqDiff, Nat.reduceLT, Nat.reduceLeDiff, Int.reduceEq, p_trailerAt_y _ D L n t c1 c3 ht, p_isWithin, w_trailer D L n ht, p_isOf _ D L n t ht, e0, k1, k3, or_false, false_or, or_true, true_or, or_self, and_false, false_and, Int.reduceLT, Int.reduceLE, Int.reduceNeg, s_refuse _ D L n (f := 3) (by decide) (by decide)]
            · rw [dn_X12_mark, b_X12_mark_0]
              simp only [z_cd, i10, i11, dnn, rdU, eW, eU, tzC_w, w_shp, w_ptr, Nat.beq_refl, nbz, nb133, nb75, nb55, nb67, n133a, n133b, n75a, n75b, aT, aR, oT, oR, oF, oG, kT, kF, bI, bL, bR, b0, Classical.not_not, not_true_eq_false, not_false_eq_true, and_self, and_true, true_and, ↓reduceIte, decide_true, decide_false, Nat.reduceEqDiff, Nat.reduceLT, Nat.reduceLeDiff, Int.reduceEq, q_isTrailer _ (tzRx D 3) L n t c2 c3, ct, p_in, hb, y0, q_isCold _ (tzRx D 3) L n t ht12, k1, k3, or_false, false_or, or_true, true_or, or_self, and_false, false_and, Int.reduceLT, Int.reduceLE, Int.reduceNeg, s_meets _ (tzRx D 3) L n (f := 3) (by decide) (by decide)]
      · subst k
        by_cases k1 : D 93 t = 2
        · refine ⟨w32 (w32 ((D 81 5).tdiv 1440) - w32 ((D 112 e).tdiv 1440)), D, n, D, ?_, ?_, rfl, rfl, hR⟩
          · rw [dn_X11_mark, b_X11_mark_0]
            simp only [z_cd, i10, i11, dnn, rdU, eW, eU, tzC_w, w_shp, w_ptr, Nat.beq_refl, nbz, nb133, nb75, nb55, nb67, n133a, n133b, n75a, n75b, aT, aR, oT, oR, oF, oG, kT, kF, bI, bL, bR, b0, Classical.not_not, not_true_eq_false, not_false_eq_true, and_self, and_true, true_and, ↓reduceIte, decide_true, decide_false, Nat.reduceEqDiff, Nat.reduceLT, Nat.reduceLeDiff, Int.reduceEq, p_trailerAt_y _ D L n t c1 c3 ht, p_isWithin, w_trailer D L n ht, p_isOf _ D L n t ht, e0, e7, k1, en, x2s, p_dayOf, or_false, false_or, or_true, true_or, or_self, and_false, false_and, Int.reduceLT, Int.reduceLE, Int.reduceNeg]
          · rw [dn_X12_mark, b_X12_mark_0]
            simp only [z_cd, i10, i11, dnn, rdU, eW, eU, tzC_w, w_shp, w_ptr, Nat.beq_refl, nbz, nb133, nb75, nb55, nb67, n133a, n133b, n75a, n75b, aT, aR, oT, oR, oF, oG, kT, kF, bI, bL, bR, b0, Classical.not_not, not_true_eq_false, not_false_eq_true, and_self, and_true, true_and, ↓reduceIte, decide_true, decide_false, Nat.reduceEqDiff, Nat.reduceLT, Nat.reduceLeDiff, Int.reduceEq, q_isTrailer _ D L n t c2 c3, ct, p_in, hb, b_X12_mark_48, q_isCold _ D L n t ht12, k1, q_day, qe, hbe, or_false, false_or, or_true, true_or, or_self, and_false, false_and, Int.reduceLT, Int.reduceLE, Int.reduceNeg]
        · refine ⟨-3, tzRx D 3, n, tzRm (tzRx D 3) 3, ?_, ?_, Sm_1 (by unfold tzRx; (repeat (refine Sm_U (by omega) ?_)); exact Sm_r _ _), Sm_1 (by unfold tzRm tzRx; (repeat (refine Sm_U (by omega) ?_)); exact Sm_r _ _), Rel_ref hR (by omega) (by omega)⟩
          · rw [dn_X11_mark, b_X11_mark_0]
            simp only [z_cd, i10, i11, dnn, rdU, eW, eU, tzC_w, w_shp, w_ptr, Nat.beq_refl, nbz, nb133, nb75, nb55, nb67, n133a, n133b, n75a, n75b, aT, aR, oT, oR, oF, oG, kT, kF, bI, bL, bR, b0, Classical.not_not, not_true_eq_false, not_false_eq_true, and_self, and_true, true_and, ↓reduceIte, decide_true, decide_false, Nat.reduceEqDiff, Nat.reduceLT, Nat.reduceLeDiff, Int.reduceEq, p_trailerAt_y _ D L n t c1 c3 ht, p_isWithin, w_trailer D L n ht, p_isOf _ D L n t ht, e0, k1, or_false, false_or, or_true, true_or, or_self, and_false, false_and, Int.reduceLT, Int.reduceLE, Int.reduceNeg, s_refuse _ D L n (f := 3) (by decide) (by decide)]
          · rw [dn_X12_mark, b_X12_mark_0]
            simp only [z_cd, i10, i11, dnn, rdU, eW, eU, tzC_w, w_shp, w_ptr, Nat.beq_refl, nbz, nb133, nb75, nb55, nb67, n133a, n133b, n75a, n75b, aT, aR, oT, oR, oF, oG, kT, kF, bI, bL, bR, b0, Classical.not_not, not_true_eq_false, not_false_eq_true, and_self, and_true, true_and, ↓reduceIte, decide_true, decide_false, Nat.reduceEqDiff, Nat.reduceLT, Nat.reduceLeDiff, Int.reduceEq, q_isTrailer _ (tzRx D 3) L n t c2 c3, ct, p_in, hb, y0, q_isCold _ (tzRx D 3) L n t ht12, k1, or_false, false_or, or_true, true_or, or_self, and_false, false_and, Int.reduceLT, Int.reduceLE, Int.reduceNeg, s_meets _ (tzRx D 3) L n (f := 3) (by decide) (by decide)]
      · subst k
        by_cases k1 : D 93 t = 3
        · refine ⟨D 104 t, D, n, D, ?_, ?_, rfl, rfl, hR⟩
          · rw [dn_X11_mark, b_X11_mark_0]
            simp only [z_cd, i10, i11, dnn, rdU, eW, eU, tzC_w, w_shp, w_ptr, Nat.beq_refl, nbz, nb133, nb75, nb55, nb67, n133a, n133b, n75a, n75b, aT, aR, oT, oR, oF, oG, kT, kF, bI, bL, bR, b0, Classical.not_not, not_true_eq_false, not_false_eq_true, and_self, and_true, true_and, ↓reduceIte, decide_true, decide_false, Nat.reduceEqDiff, Nat.reduceLT, Nat.reduceLeDiff, Int.reduceEq, p_trailerAt_y _ D L n t c1 c3 ht, p_isWithin, w_trailer D L n ht, p_isOf _ D L n t ht, e0, e7, e8, k1, or_false, false_or, or_true, true_or, or_self, and_false, false_and, Int.reduceLT, Int.reduceLE, Int.reduceNeg]
          · rw [dn_X12_mark, b_X12_mark_0]
            simp only [z_cd, i10, i11, dnn, rdU, eW, eU, tzC_w, w_shp, w_ptr, Nat.beq_refl, nbz, nb133, nb75, nb55, nb67, n133a, n133b, n75a, n75b, aT, aR, oT, oR, oF, oG, kT, kF, bI, bL, bR, b0, Classical.not_not, not_true_eq_false, not_false_eq_true, and_self, and_true, true_and, ↓reduceIte, decide_true, decide_false, Nat.reduceEqDiff, Nat.reduceLT, Nat.reduceLeDiff, Int.reduceEq, q_isTrailer _ D L n t c2 c3, ct, p_in, hb, b_X12_mark_48, q_isCold _ D L n t ht12, k1, or_false, false_or, or_true, true_or, or_self, and_false, false_and, Int.reduceLT, Int.reduceLE, Int.reduceNeg]
        · refine ⟨-3, tzRx D 3, n, tzRm (tzRx D 3) 3, ?_, ?_, Sm_1 (by unfold tzRx; (repeat (refine Sm_U (by omega) ?_)); exact Sm_r _ _), Sm_1 (by unfold tzRm tzRx; (repeat (refine Sm_U (by omega) ?_)); exact Sm_r _ _), Rel_ref hR (by omega) (by omega)⟩
          · rw [dn_X11_mark, b_X11_mark_0]
            simp only [z_cd, i10, i11, dnn, rdU, eW, eU, tzC_w, w_shp, w_ptr, Nat.beq_refl, nbz, nb133, nb75, nb55, nb67, n133a, n133b, n75a, n75b, aT, aR, oT, oR, oF, oG, kT, kF, bI, bL, bR, b0, Classical.not_not, not_true_eq_false, not_false_eq_true, and_self, and_true, true_and, ↓reduceIte, decide_true, decide_false, Nat.reduceEqDiff, Nat.reduceLT, Nat.reduceLeDiff, Int.reduceEq, p_trailerAt_y _ D L n t c1 c3 ht, p_isWithin, w_trailer D L n ht, p_isOf _ D L n t ht, e0, k1, or_false, false_or, or_true, true_or, or_self, and_false, false_and, Int.reduceLT, Int.reduceLE, Int.reduceNeg, s_refuse _ D L n (f := 3) (by decide) (by decide)]
          · rw [dn_X12_mark, b_X12_mark_0]
            simp only [z_cd, i10, i11, dnn, rdU, eW, eU, tzC_w, w_shp, w_ptr, Nat.beq_refl, nbz, nb133, nb75, nb55, nb67, n133a, n133b, n75a, n75b, aT, aR, oT, oR, oF, oG, kT, kF, bI, bL, bR, b0, Classical.not_not, not_true_eq_false, not_false_eq_true, and_self, and_true, true_and, ↓reduceIte, decide_true, decide_false, Nat.reduceEqDiff, Nat.reduceLT, Nat.reduceLeDiff, Int.reduceEq, q_isTrailer _ (tzRx D 3) L n t c2 c3, ct, p_in, hb, y0, q_isCold _ (tzRx D 3) L n t ht12, k1, or_false, false_or, or_true, true_or, or_self, and_false, false_and, Int.reduceLT, Int.reduceLE, Int.reduceNeg, s_meets _ (tzRx D 3) L n (f := 3) (by decide) (by decide)]
    · refine ⟨-1, D, n, D, ?_, ?_, rfl, rfl, hR⟩
      · rw [dn_X11_mark, b_X11_mark_0]
        simp only [z_cd, i10, i11, dnn, rdU, eW, eU, tzC_w, w_shp, w_ptr, Nat.beq_refl, nbz, nb133, nb75, nb55, nb67, n133a, n133b, n75a, n75b, aT, aR, oT, oR, oF, oG, kT, kF, bI, bL, bR, b0, Classical.not_not, not_true_eq_false, not_false_eq_true, and_self, and_true, true_and, ↓reduceIte, decide_true, decide_false, Nat.reduceEqDiff, Nat.reduceLT, Nat.reduceLeDiff, Int.reduceEq, p_trailerAt_y _ D L n t c1 c3 ht, p_isWithin, cw]
      · rw [dn_X12_mark, b_X12_mark_0]
        simp only [z_cd, i10, i11, dnn, rdU, eW, eU, tzC_w, w_shp, w_ptr, Nat.beq_refl, nbz, nb133, nb75, nb55, nb67, n133a, n133b, n75a, n75b, aT, aR, oT, oR, oF, oG, kT, kF, bI, bL, bR, b0, Classical.not_not, not_true_eq_false, not_false_eq_true, and_self, and_true, true_and, ↓reduceIte, decide_true, decide_false, Nat.reduceEqDiff, Nat.reduceLT, Nat.reduceLeDiff, Int.reduceEq, q_isTrailer _ D L n t c2 c3, ct, p_in, cw]
  · refine ⟨-1, D, n, D, ?_, ?_, rfl, rfl, hR⟩
    · rw [dn_X11_mark, b_X11_mark_0]
      simp only [z_cd, i10, i11, dnn, rdU, eW, eU, tzC_w, w_shp, w_ptr, Nat.beq_refl, nbz, nb133, nb75, nb55, nb67, n133a, n133b, n75a, n75b, aT, aR, oT, oR, oF, oG, kT, kF, bI, bL, bR, b0, Classical.not_not, not_true_eq_false, not_false_eq_true, and_self, and_true, true_and, ↓reduceIte, decide_true, decide_false, Nat.reduceEqDiff, Nat.reduceLT, Nat.reduceLeDiff, Int.reduceEq, p_trailerAt_n _ D L n a0 c1 ct, p_isWithin, p_isYard]
    · rw [dn_X12_mark, b_X12_mark_0]
      simp only [z_cd, i10, i11, dnn, rdU, eW, eU, tzC_w, w_shp, w_ptr, Nat.beq_refl, nbz, nb133, nb75, nb55, nb67, n133a, n133b, n75a, n75b, aT, aR, oT, oR, oF, oG, kT, kF, bI, bL, bR, b0, Classical.not_not, not_true_eq_false, not_false_eq_true, and_self, and_true, true_and, ↓reduceIte, decide_true, decide_false, Nat.reduceEqDiff, Nat.reduceLT, Nat.reduceLeDiff, Int.reduceEq, q_isTrailer _ D L n a0 c2 c3, ct, p_in, q_isYard]
