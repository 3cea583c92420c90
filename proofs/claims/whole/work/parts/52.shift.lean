/-- lawful with the axle at a, as the document's tests -/
def lwB (D : Nat → Int → Int) (t l : Nat) (a : Int) : Bool := decide ((60 ≤ a ∧ a ≤ 120) ∧ sm D t l ≤ D 81 46 * a ∧ 0 ≤ sw D t l * a - sm D t l ∧ sw D t l * a - sm D t l ≤ D 81 47 * a)
theorem lwB_i (D : Nat → Int → Int) (t l : Nat) (a : Int) : (lwB D t l a = true) = ((60 ≤ a ∧ a ≤ 120) ∧ sm D t l ≤ D 81 46 * a ∧ 0 ≤ sw D t l * a - sm D t l ∧ sw D t l * a - sm D t l ≤ D 81 47 * a) := propext decide_eq_true_iff
/-- the least shift: looked for from k on, j steps more -/
def shB (p : Int → Bool) (x : Int) : Nat → Int → Int
  | 0, _ => -9
  | j + 1, k => if p (x - k) = true then x - k else if p (x + k) = true then x + k else shB p x j (k + 1)
theorem shB_S (p : Int → Bool) (x : Int) (j : Nat) (k : Int) : shB p x (j + 1) k = if p (x - k) = true then x - k else if p (x + k) = true then x + k else shB p x j (k + 1) := rfl
set_option maxRecDepth 100000 in
set_option maxHeartbeats 400000 in
theorem ag_lawful {L : Nat} (a0 : Int) : AgI Rel L n_X11_lawful n_X12_lawful [vI a0] := by
  intro D n hR
  obtain ⟨hA, hL, hW, hN, ⟨c1, c2, c3⟩, hT, hD, hK, hB, hQ, hX, hM, hP, hS⟩ := id hR
  by_cases ct : 0 ≤ a0 ∧ a0 < n
  · obtain ⟨t, e⟩ : ∃ t : Nat, a0 = t := ⟨a0.toNat, by omega⟩
    subst e
    have ht : t < n := by omega
    have ht12 : t < 12 := by omega
    have hb : tqib (t : Int) 12 = true := tqib_y (by omega) (by omega)
    have r := hT.1 t ht
    have r2 := r
    have g := hD.1 t ht
    have lb := LB_of g
    have lq := LB_b lb _ (Nat.le_refl _)
    obtain ⟨l, hl⟩ : ∃ l : Nat, l = (D 99 t).toNat := ⟨_, rfl⟩
    rw [← hl] at lb lq
    have eWt : D (133 + t) 11 = sw D t l := by rw [hl]; exact g.2.2.2.1
    have eMt : D (133 + t) 12 = sm D t l := by rw [hl]; exact g.2.2.2.2.1
    have e9 : D (133 + t) 9 = D 98 t := r.2.2.2.2.2.2.2.2.1
    have a9 : 60 ≤ D 98 t ∧ D 98 t ≤ 120 := by unfold TR at r2; omega
    obtain ⟨p1, p2, p3⟩ := hP
    have iL : ∀ (d : Nat) (a : Int), tqden tqP (d + 1) n_X9_isLawfulAt [vR (133 + t), vI a, vI (D 81 46), vI (D 81 47)] (tzW D L n) = some (some (vI (if lwB D t l a = true then 1 else 0)), tzW D L n) := by
      intro d a
      simp only [lwB_i]
      rw [← eWt, ← eMt]
      exact p_isLawfulAt d D L n t ht (D 81 46) (D 81 47) (by omega) (by omega) (by omega) (by omega) a
    have iM : ∀ (d : Nat) (a : Int), (60 ≤ a ∧ a ≤ 120) → tqden tqP (d + 3) n_X12_isLawful [vR 81, vI (t : Int), vI a] (tzW D L n) = some (some (vI (if lwB D t l a = true then 1 else 0)), tzW D L n) := by
      intro d a ca
      simp only [lwB_i, ca, and_self, true_and]
      exact q_isLawful d D L n t l ht12 lb p3 a (by omega) (by omega)
    by_cases q : lwB D t l (D 98 t) = true
    · refine ⟨1, D, n, D, ?_, ?_, rfl, rfl, hR⟩
      · rw [dn_X11_lawful, b_X11_lawful_0]
        simp only [z_cd, i10, i11, dnn, rdU, eW, eU, tzC_w, w_shp, w_ptr, Nat.beq_refl, nbz, nb133, nb75, nb55, nb67, n133a, n133b, n75a, n75b, aT, aR, oT, oR, oF, oG, kT, kF, bI, bL, bR, b0, Classical.not_not, not_true_eq_false, not_false_eq_true, and_self, and_true, true_and, ↓reduceIte, decide_true, decide_false, Nat.reduceEqDiff, Nat.reduceLT, Nat.reduceLeDiff, Int.reduceEq, Bool.false_eq_true, p_trailerAt_y _ D L n t c1 c3 ht, w_trailer D L n ht, e9, p1, p2, iL, q]
      · rw [dn_X12_lawful, b_X12_lawful_0]
        simp only [z_cd, i10, i11, dnn, rdU, eW, eU, tzC_w, w_shp, w_ptr, Nat.beq_refl, nbz, nb133, nb75, nb55, nb67, n133a, n133b, n75a, n75b, aT, aR, oT, oR, oF, oG, kT, kF, bI, bL, bR, b0, Classical.not_not, not_true_eq_false, not_false_eq_true, and_self, and_true, true_and, ↓reduceIte, decide_true, decide_false, Nat.reduceEqDiff, Nat.reduceLT, Nat.reduceLeDiff, Int.reduceEq, Bool.false_eq_true, q_isTrailer _ D L n t c2 c3, ct, hb, iM, a9, q]
    · refine ⟨0, D, n, D, ?_, ?_, rfl, rfl, hR⟩
      · rw [dn_X11_lawful, b_X11_lawful_0]
        simp only [z_cd, i10, i11, dnn, rdU, eW, eU, tzC_w, w_shp, w_ptr, Nat.beq_refl, nbz, nb133, nb75, nb55, nb67, n133a, n133b, n75a, n75b, aT, aR, oT, oR, oF, oG, kT, kF, bI, bL, bR, b0, Classical.not_not, not_true_eq_false, not_false_eq_true, and_self, and_true, true_and, ↓reduceIte, decide_true, decide_false, Nat.reduceEqDiff, Nat.reduceLT, Nat.reduceLeDiff, Int.reduceEq, Bool.false_eq_true, p_trailerAt_y _ D L n t c1 c3 ht, w_trailer D L n ht, e9, p1, p2, iL, q]
      · rw [dn_X12_lawful, b_X12_lawful_0]
        simp only [z_cd, i10, i11, dnn, rdU, eW, eU, tzC_w, w_shp, w_ptr, Nat.beq_refl, nbz, nb133, nb75, nb55, nb67, n133a, n133b, n75a, n75b, aT, aR, oT, oR, oF, oG, kT, kF, bI, bL, bR, b0, Classical.not_not, not_true_eq_false, not_false_eq_true, and_self, and_true, true_and, ↓reduceIte, decide_true, decide_false, Nat.reduceEqDiff, Nat.reduceLT, Nat.reduceLeDiff, Int.reduceEq, Bool.false_eq_true, q_isTrailer _ D L n t c2 c3, ct, hb, iM, a9, q]
  · refine ⟨-1, D, n, D, ?_, ?_, rfl, rfl, hR⟩
    · rw [dn_X11_lawful, b_X11_lawful_0]
      simp only [z_cd, i10, i11, dnn, rdU, eW, eU, tzC_w, w_shp, w_ptr, Nat.beq_refl, nbz, nb133, nb75, nb55, nb67, n133a, n133b, n75a, n75b, aT, aR, oT, oR, oF, oG, kT, kF, bI, bL, bR, b0, Classical.not_not, not_true_eq_false, not_false_eq_true, and_self, and_true, true_and, ↓reduceIte, decide_true, decide_false, Nat.reduceEqDiff, Nat.reduceLT, Nat.reduceLeDiff, Int.reduceEq, Bool.false_eq_true, p_trailerAt_n _ D L n a0 c1 ct, p_isWithin, p_isYard]
    · rw [dn_X12_lawful, b_X12_lawful_0]
      simp only [z_cd, i10, i11, dnn, rdU, eW, eU, tzC_w, w_shp, w_ptr, Nat.beq_refl, nbz, nb133, nb75, nb55, nb67, n133a, n133b, n75a, n75b, aT, aR, oT, oR, oF, oG, kT, kF, bI, bL, bR, b0, Classical.not_not, not_true_eq_false, not_false_eq_true, and_self, and_true, true_and, ↓reduceIte, decide_true, decide_false, Nat.reduceEqDiff, Nat.reduceLT, Nat.reduceLeDiff, Int.reduceEq, Bool.false_eq_true, q_isTrailer _ D L n a0 c2 c3, ct, p_in, q_isYard]
theorem w32_i {x : Int} (h1 : -2147483648 ≤ x) (h2 : x ≤ 2147483647) : w32 x = x := w32_id ⟨h1, by omega⟩
set_option maxRecDepth 100000 in
set_option maxHeartbeats 400000 in
theorem ag_shift {L : Nat} (a0 : Int) : AgI Rel L n_X11_shift n_X12_shift [vI a0] := by
  intro D n hR
  obtain ⟨hA, hL, hW, hN, ⟨c1, c2, c3⟩, hT, hD, hK, hB, hQ, hX, hM, hP, hS⟩ := id hR
  by_cases ct : 0 ≤ a0 ∧ a0 < n
  · obtain ⟨t, e⟩ : ∃ t : Nat, a0 = t := ⟨a0.toNat, by omega⟩
    subst e
    have ht : t < n := by omega
    have ht12 : t < 12 := by omega
    have hb : tqib (t : Int) 12 = true := tqib_y (by omega) (by omega)
    have r := hT.1 t ht
    have r2 := r
    have g := hD.1 t ht
    have lb := LB_of g
    have lq := LB_b lb _ (Nat.le_refl _)
    obtain ⟨l, hl⟩ : ∃ l : Nat, l = (D 99 t).toNat := ⟨_, rfl⟩
    rw [← hl] at lb lq
    have eWt : D (133 + t) 11 = sw D t l := by rw [hl]; exact g.2.2.2.1
    have eMt : D (133 + t) 12 = sm D t l := by rw [hl]; exact g.2.2.2.2.1
    have e9 : D (133 + t) 9 = D 98 t := r.2.2.2.2.2.2.2.2.1
    have a9 : 60 ≤ D 98 t ∧ D 98 t ≤ 120 := by unfold TR at r2; omega
    obtain ⟨p1, p2, p3⟩ := hP
    have iL : ∀ (d : Nat) (a : Int), tqden tqP (d + 1) n_X9_isLawfulAt [vR (133 + t), vI a, vI (D 81 46), vI (D 81 47)] (tzW D L n) = some (some (vI (if lwB D t l a = true then 1 else 0)), tzW D L n) := by
      intro d a
      simp only [lwB_i]
      rw [← eWt, ← eMt]
      exact p_isLawfulAt d D L n t ht (D 81 46) (D 81 47) (by omega) (by omega) (by omega) (by omega) a
    have iM : ∀ (d : Nat) (a : Int), (60 ≤ a ∧ a ≤ 120) → tqden tqP (d + 3) n_X12_isLawful [vR 81, vI (t : Int), vI a] (tzW D L n) = some (some (vI (if lwB D t l a = true then 1 else 0)), tzW D L n) := by
      intro d a ca
      simp only [lwB_i, ca, and_self, true_and]
      exact q_isLawful d D L n t l ht12 lb p3 a (by omega) (by omega)
    have nl : ∀ a : Int, ¬ (60 ≤ a ∧ a ≤ 120) → ¬ lwB D t l a = true := by
      intro a na q
      rw [lwB_i] at q
      exact na q.1
    have lpC : ∀ (j : Nat) (i : Int), 0 ≤ i → i + j = 61 → tqrun tqP (1398 + 1) tqc_X11_shift 14 [vR 2, vU, vR (133 + t), vI i] [] (tzW D L n) = some (some (vI (shB (lwB D t l) (D 98 t) j i)), tzW D L n) := by
      intro j
      induction j with
      | zero =>
        intro i h0 hi
        have c : (60 : Int) < i := by omega
        rw [b_X11_shift_14]
        simp only [z_cd, c, ↓reduceIte]
        rfl
      | succ j ih =>
        intro i h0 hi
        have c : ¬ (60 : Int) < i := by omega
        have b1 : -2147483648 ≤ D 98 t - i := by omega
        have b2 : D 98 t - i ≤ 2147483647 := by omega
        have b3 : -2147483648 ≤ D 98 t + i := by omega
        have b4 : D 98 t + i ≤ 2147483647 := by omega
        have b5 : -2147483648 ≤ i + 1 := by omega
        have b6 : i + 1 ≤ 2147483647 := by omega
        have ih2 := ih (i + 1) (by omega) (by omega)
        have w1 := w32_i b1 b2
        have w2 := w32_i b3 b4
        have w3 := w32_i b5 b6
        rw [b_X11_shift_14, shB_S]
        by_cases q1 : lwB D t l (D 98 t - i) = true
        · simp only [z_cd, i10, i11, dnn, rdU, eW, eU, tzC_w, w_shp, w_ptr, Nat.beq_refl, nbz, nb133, nb75, nb55, nb67, n133a, n133b, n75a, n75b, aT, aR, oT, oR, oF, oG, kT, kF, bI, bL, bR, b0, Classical.not_not, not_true_eq_false, not_false_eq_true, and_self, and_true, true_and, ↓reduceIte, decide_true, decide_false, Nat.reduceEqDiff, Nat.reduceLT, Nat.reduceLeDiff, Int.reduceEq, Bool.false_eq_true, c, w_trailer D L n ht, e9, p1, p2, iL, w1, w2, w3, q1]
        · by_cases q2 : lwB D t l (D 98 t + i) = true
          · simp only [z_cd, i10, i11, dnn, rdU, eW, eU, tzC_w, w_shp, w_ptr, Nat.beq_refl, nbz, nb133, nb75, nb55, nb67, n133a, n133b, n75a, n75b, aT, aR, oT, oR, oF, oG, kT, kF, bI, bL, bR, b0, Classical.not_not, not_true_eq_false, not_false_eq_true, and_self, and_true, true_and, ↓reduceIte, decide_true, decide_false, Nat.reduceEqDiff, Nat.reduceLT, Nat.reduceLeDiff, Int.reduceEq, Bool.false_eq_true, c, w_trailer D L n ht, e9, p1, p2, iL, w1, w2, w3, q1, q2]
          · simp only [z_cd, i10, i11, dnn, rdU, eW, eU, tzC_w, w_shp, w_ptr, Nat.beq_refl, nbz, nb133, nb75, nb55, nb67, n133a, n133b, n75a, n75b, aT, aR, oT, oR, oF, oG, kT, kF, bI, bL, bR, b0, Classical.not_not, not_true_eq_false, not_false_eq_true, and_self, and_true, true_and, ↓reduceIte, decide_true, decide_false, Nat.reduceEqDiff, Nat.reduceLT, Nat.reduceLeDiff, Int.reduceEq, Bool.false_eq_true, c, w_trailer D L n ht, e9, p1, p2, iL, w1, w2, w3, q1, q2, ih2]
    have lpM : ∀ (j : Nat) (i : Int), 0 ≤ i → i + j = 61 → tqrun tqP (1398 + 1) tqc_X12_shift 12 [vR 81, vI (t : Int), vI i] [] (tzW D L n) = some (some (vI (shB (lwB D t l) (D 98 t) j i)), tzW D L n) := by
      intro j
      induction j with
      | zero =>
        intro i h0 hi
        have c : (60 : Int) < i := by omega
        rw [b_X12_shift_12]
        simp only [z_cd, c, ↓reduceIte]
        rfl
      | succ j ih =>
        intro i h0 hi
        have c : ¬ (60 : Int) < i := by omega
        have b1 : -2147483648 ≤ D 98 t - i := by omega
        have b2 : D 98 t - i ≤ 2147483647 := by omega
        have b3 : -2147483648 ≤ D 98 t + i := by omega
        have b4 : D 98 t + i ≤ 2147483647 := by omega
        have b5 : -2147483648 ≤ i + 1 := by omega
        have b6 : i + 1 ≤ 2147483647 := by omega
        have ih2 := ih (i + 1) (by omega) (by omega)
        have w1 := w32_i b1 b2
        have w2 := w32_i b3 b4
        have w3 := w32_i b5 b6
        have h57 : tqrun tqP (1398 + 1) tqc_X12_shift 57 [vR 81, vI (t : Int), vI i] [] (tzW D L n) = some (some (vI (if lwB D t l (D 98 t + i) = true then D 98 t + i else shB (lwB D t l) (D 98 t) j (i + 1))), tzW D L n) := by
          rw [b_X12_shift_57]
          by_cases ca : 60 ≤ D 98 t + i ∧ D 98 t + i ≤ 120
          · by_cases q2 : lwB D t l (D 98 t + i) = true
            · simp only [z_cd, i10, i11, dnn, rdU, eW, eU, tzC_w, w_shp, w_ptr, Nat.beq_refl, nbz, nb133, nb75, nb55, nb67, n133a, n133b, n75a, n75b, aT, aR, oT, oR, oF, oG, kT, kF, bI, bL, bR, b0, Classical.not_not, not_true_eq_false, not_false_eq_true, and_self, and_true, true_and, ↓reduceIte, decide_true, decide_false, Nat.reduceEqDiff, Nat.reduceLT, Nat.reduceLeDiff, Int.reduceEq, Bool.false_eq_true, hb, q_isAxle, ca, w2, w3, iM, q2]
            · simp only [z_cd, i10, i11, dnn, rdU, eW, eU, tzC_w, w_shp, w_ptr, Nat.beq_refl, nbz, nb133, nb75, nb55, nb67, n133a, n133b, n75a, n75b, aT, aR, oT, oR, oF, oG, kT, kF, bI, bL, bR, b0, Classical.not_not, not_true_eq_false, not_false_eq_true, and_self, and_true, true_and, ↓reduceIte, decide_true, decide_false, Nat.reduceEqDiff, Nat.reduceLT, Nat.reduceLeDiff, Int.reduceEq, Bool.false_eq_true, hb, q_isAxle, ca, w2, w3, iM, q2, ih2]
          · have q2 := nl _ ca
            simp only [z_cd, i10, i11, dnn, rdU, eW, eU, tzC_w, w_shp, w_ptr, Nat.beq_refl, nbz, nb133, nb75, nb55, nb67, n133a, n133b, n75a, n75b, aT, aR, oT, oR, oF, oG, kT, kF, bI, bL, bR, b0, Classical.not_not, not_true_eq_false, not_false_eq_true, and_self, and_true, true_and, ↓reduceIte, decide_true, decide_false, Nat.reduceEqDiff, Nat.reduceLT, Nat.reduceLeDiff, Int.reduceEq, Bool.false_eq_true, hb, q_isAxle, ca, w2, w3, q2, ih2]
        rw [b_X12_shift_12, shB_S]
        by_cases ca : 60 ≤ D 98 t - i ∧ D 98 t - i ≤ 120
        · by_cases q1 : lwB D t l (D 98 t - i) = true
          · simp only [z_cd, i10, i11, dnn, rdU, eW, eU, tzC_w, w_shp, w_ptr, Nat.beq_refl, nbz, nb133, nb75, nb55, nb67, n133a, n133b, n75a, n75b, aT, aR, oT, oR, oF, oG, kT, kF, bI, bL, bR, b0, Classical.not_not, not_true_eq_false, not_false_eq_true, and_self, and_true, true_and, ↓reduceIte, decide_true, decide_false, Nat.reduceEqDiff, Nat.reduceLT, Nat.reduceLeDiff, Int.reduceEq, Bool.false_eq_true, c, hb, q_isAxle, ca, w1, iM, q1]
          · simp only [z_cd, i10, i11, dnn, rdU, eW, eU, tzC_w, w_shp, w_ptr, Nat.beq_refl, nbz, nb133, nb75, nb55, nb67, n133a, n133b, n75a, n75b, aT, aR, oT, oR, oF, oG, kT, kF, bI, bL, bR, b0, Classical.not_not, not_true_eq_false, not_false_eq_true, and_self, and_true, true_and, ↓reduceIte, decide_true, decide_false, Nat.reduceEqDiff, Nat.reduceLT, Nat.reduceLeDiff, Int.reduceEq, Bool.false_eq_true, c, hb, q_isAxle, ca, w1, iM, q1, h57]
        · have q1 := nl _ ca
          simp only [z_cd, i10, i11, dnn, rdU, eW, eU, tzC_w, w_shp, w_ptr, Nat.beq_refl, nbz, nb133, nb75, nb55, nb67, n133a, n133b, n75a, n75b, aT, aR, oT, oR, oF, oG, kT, kF, bI, bL, bR, b0, Classical.not_not, not_true_eq_false, not_false_eq_true, and_self, and_true, true_and, ↓reduceIte, decide_true, decide_false, Nat.reduceEqDiff, Nat.reduceLT, Nat.reduceLeDiff, Int.reduceEq, Bool.false_eq_true, c, hb, q_isAxle, ca, w1, q1, h57]
    refine ⟨shB (lwB D t l) (D 98 t) 61 0, D, n, D, ?_, ?_, rfl, rfl, hR⟩
    · rw [dn_X11_shift, b_X11_shift_0]
      simp only [z_cd, i10, i11, dnn, rdU, eW, eU, tzC_w, w_shp, w_ptr, Nat.beq_refl, nbz, nb133, nb75, nb55, nb67, n133a, n133b, n75a, n75b, aT, aR, oT, oR, oF, oG, kT, kF, bI, bL, bR, b0, Classical.not_not, not_true_eq_false, not_false_eq_true, and_self, and_true, true_and, ↓reduceIte, decide_true, decide_false, Nat.reduceEqDiff, Nat.reduceLT, Nat.reduceLeDiff, Int.reduceEq, Bool.false_eq_true, p_trailerAt_y _ D L n t c1 c3 ht]
      exact lpC 61 0 (by omega) (by omega)
    · rw [dn_X12_shift, b_X12_shift_0]
      simp only [z_cd, i10, i11, dnn, rdU, eW, eU, tzC_w, w_shp, w_ptr, Nat.beq_refl, nbz, nb133, nb75, nb55, nb67, n133a, n133b, n75a, n75b, aT, aR, oT, oR, oF, oG, kT, kF, bI, bL, bR, b0, Classical.not_not, not_true_eq_false, not_false_eq_true, and_self, and_true, true_and, ↓reduceIte, decide_true, decide_false, Nat.reduceEqDiff, Nat.reduceLT, Nat.reduceLeDiff, Int.reduceEq, Bool.false_eq_true, q_isTrailer _ D L n t c2 c3, ct]
      exact lpM 61 0 (by omega) (by omega)
  · refine ⟨-1, D, n, D, ?_, ?_, rfl, rfl, hR⟩
    · rw [dn_X11_shift, b_X11_shift_0]
      simp only [z_cd, i10, i11, dnn, rdU, eW, eU, tzC_w, w_shp, w_ptr, Nat.beq_refl, nbz, nb133, nb75, nb55, nb67, n133a, n133b, n75a, n75b, aT, aR, oT, oR, oF, oG, kT, kF, bI, bL, bR, b0, Classical.not_not, not_true_eq_false, not_false_eq_true, and_self, and_true, true_and, ↓reduceIte, decide_true, decide_false, Nat.reduceEqDiff, Nat.reduceLT, Nat.reduceLeDiff, Int.reduceEq, Bool.false_eq_true, p_trailerAt_n _ D L n a0 c1 ct, p_isWithin, p_isYard]
    · rw [dn_X12_shift, b_X12_shift_0]
      simp only [z_cd, i10, i11, dnn, rdU, eW, eU, tzC_w, w_shp, w_ptr, Nat.beq_refl, nbz, nb133, nb75, nb55, nb67, n133a, n133b, n75a, n75b, aT, aR, oT, oR, oF, oG, kT, kF, bI, bL, bR, b0, Classical.not_not, not_true_eq_false, not_false_eq_true, and_self, and_true, true_and, ↓reduceIte, decide_true, decide_false, Nat.reduceEqDiff, Nat.reduceLT, Nat.reduceLeDiff, Int.reduceEq, Bool.false_eq_true, q_isTrailer _ D L n a0 c2 c3, ct, p_in, q_isYard]
