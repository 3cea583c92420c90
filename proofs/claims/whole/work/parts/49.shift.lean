set_option maxRecDepth 100000 in
set_option maxHeartbeats 400000 in
theorem ag_lawful {L : Nat} (a0 : Int) : AgI Rel L n_X11_lawful n_X12_lawful [vI a0] := by
  intro D n hR
  obtain ⟨hA, hL, hW, hN, ⟨c1, c2, c3⟩, hT, hD, hK, hB, hQ, hX, hM, hP, hS⟩ := id hR
  by_cases ct : 0 ≤ a0 ∧ a0 < n
  · obtain ⟨t, e⟩ : ∃ t : Nat, a0 = t := ⟨a0.toNat, by omega⟩
    subst e
    have ht : t < n := by omega
    have ht12 : t < 12 := by omega
    have hb : tqib (t : Int) 12 = true := tqib_y (by omega) (by omega)
    have r := hT.1 t ht
    have r2 := r
    have g := hD.1 t ht
    have lb := LB_of g
    have lq := LB_b lb _ (Nat.le_refl _)
    obtain ⟨l, hl⟩ : ∃ l : Nat, l = (D 99 t).toNat := ⟨_, rfl⟩
    rw [← hl] at lb lq
    have eWt : D (133 + t) 11 = sw D t l := by rw [hl]; exact g.2.2.2.1
    have eMt : D (133 + t) 12 = sm D t l := by rw [hl]; exact g.2.2.2.2.1
    have e9 : D (133 + t) 9 = D 98 t := r.2.2.2.2.2.2.2.2.1
    have a9 : 60 ≤ D 98 t ∧ D 98 t ≤ 120 := by have := r.2.2.2.2.2.2.2.2.2.2.2.2.2.2.2.2.2; omega
    obtain ⟨p1, p2, p3⟩ := hP
    have iL : ∀ (d : Nat) (a : Int), tqden tqP (d + 1) n_X9_isLawfulAt [vR (133 + t), vI a, vI (D 81 46), vI (D 81 47)] (tzW D L n) = some (some (vI (if (60 ≤ a ∧ a ≤ 120) ∧ sm D t l ≤ D 81 46 * a ∧ 0 ≤ sw D t l * a - sm D t l ∧ sw D t l * a - sm D t l ≤ D 81 47 * a then 1 else 0)), tzW D L n) := by
      intro d a
      rw [← eWt, ← eMt]
      exact p_isLawfulAt d D L n t ht (D 81 46) (D 81 47) (by omega) (by omega) (by omega) (by omega) a
    refine ⟨if sm D t l ≤ D 81 46 * D 98 t ∧ 0 ≤ sw D t l * D 98 t - sm D t l ∧ sw D t l * D 98 t - sm D t l ≤ D 81 47 * D 98 t then 1 else 0, D, n, D, ?_, ?_, rfl, rfl, hR⟩
    · rw [dn_X11_lawful, b_X11_lawful_0]
      simp only [z_cd, i10, i11, dnn, rdU, eW, eU, tzC_w, w_shp, w_ptr, Nat.beq_refl, nbz, nb133, nb75, nb55, nb67, n133a, n133b, n75a, n75b, aT, aR, oT, oR, oF, oG, kT, kF, bI, bL, bR, b0, Classical.not_not, not_true_eq_false, not_false_eq_true, and_self, and_true, true_and, ↓reduceIte, decide_true, decide_false, Nat.reduceEqDiff, Nat.reduceLT, Nat.reduceLeDiff, Int.reduceEq, p_trailerAt_y _ D L n t c1 c3 ht, w_trailer D L n ht, e9, p1, p2, iL, a9]
      split <;> rfl
    · rw [dn_X12_lawful, b_X12_lawful_0]
      simp only [z_cd, i10, i11, dnn, rdU, eW, eU, tzC_w, w_shp, w_ptr, Nat.beq_refl, nbz, nb133, nb75, nb55, nb67, n133a, n133b, n75a, n75b, aT, aR, oT, oR, oF, oG, kT, kF, bI, bL, bR, b0, Classical.not_not, not_true_eq_false, not_false_eq_true, and_self, and_true, true_and, ↓reduceIte, decide_true, decide_false, Nat.reduceEqDiff, Nat.reduceLT, Nat.reduceLeDiff, Int.reduceEq, q_isTrailer _ D L n t c2 c3, ct, hb, q_isLawful _ D L n t l ht12 lb p3 (D 98 t) (by omega) (by omega)]
      split <;> rfl
  · refine ⟨-1, D, n, D, ?_, ?_, rfl, rfl, hR⟩
    · rw [dn_X11_lawful, b_X11_lawful_0]
      simp only [z_cd, i10, i11, dnn, rdU, eW, eU, tzC_w, w_shp, w_ptr, Nat.beq_refl, nbz, nb133, nb75, nb55, nb67, n133a, n133b, n75a, n75b, aT, aR, oT, oR, oF, oG, kT, kF, bI, bL, bR, b0, Classical.not_not, not_true_eq_false, not_false_eq_true, and_self, and_true, true_and, ↓reduceIte, decide_true, decide_false, Nat.reduceEqDiff, Nat.reduceLT, Nat.reduceLeDiff, Int.reduceEq, p_trailerAt_n _ D L n a0 c1 ct, p_isWithin, p_isYard]
    · rw [dn_X12_lawful, b_X12_lawful_0]
      simp only [z_cd, i10, i11, dnn, rdU, eW, eU, tzC_w, w_shp, w_ptr, Nat.beq_refl, nbz, nb133, nb75, nb55, nb67, n133a, n133b, n75a, n75b, aT, aR, oT, oR, oF, oG, kT, kF, bI, bL, bR, b0, Classical.not_not, not_true_eq_false, not_false_eq_true, and_self, and_true, true_and, ↓reduceIte, decide_true, decide_false, Nat.reduceEqDiff, Nat.reduceLT, Nat.reduceLeDiff, Int.reduceEq, q_isTrailer _ D L n a0 c2 c3, ct, p_in, q_isYard]
/-- the least shift: looked for from k on, j steps more -/
def shR (p : Int → Prop) [h : DecidablePred p] (x : Int) : Nat → Int → Int
  | 0, _ => -9
  | j + 1, k => if p (x - k) then x - k else if p (x + k) then x + k else shR p x j (k + 1)
set_option maxRecDepth 100000 in
set_option maxHeartbeats 400000 in
theorem ag_shift {L : Nat} (a0 : Int) : AgI Rel L n_X11_shift n_X12_shift [vI a0] := by
  intro D n hR
  obtain ⟨hA, hL, hW, hN, ⟨c1, c2, c3⟩, hT, hD, hK, hB, hQ, hX, hM, hP, hS⟩ := id hR
  by_cases ct : 0 ≤ a0 ∧ a0 < n
  · obtain ⟨t, e⟩ : ∃ t : Nat, a0 = t := ⟨a0.toNat, by omega⟩
    subst e
    have ht : t < n := by omega
    have ht12 : t < 12 := by omega
    have hb : tqib (t : Int) 12 = true := tqib_y (by omega) (by omega)
    have r := hT.1 t ht
    have r2 := r
    have g := hD.1 t ht
    have lb := LB_of g
    have lq := LB_b lb _ (Nat.le_refl _)
    obtain ⟨l, hl⟩ : ∃ l : Nat, l = (D 99 t).toNat := ⟨_, rfl⟩
    rw [← hl] at lb lq
    have eWt : D (133 + t) 11 = sw D t l := by rw [hl]; exact g.2.2.2.1
    have eMt : D (133 + t) 12 = sm D t l := by rw [hl]; exact g.2.2.2.2.1
    have e9 : D (133 + t) 9 = D 98 t := r.2.2.2.2.2.2.2.2.1
    have a9 : 60 ≤ D 98 t ∧ D 98 t ≤ 120 := by have := r.2.2.2.2.2.2.2.2.2.2.2.2.2.2.2.2.2; omega
    obtain ⟨p1, p2, p3⟩ := hP
    have iL : ∀ (d : Nat) (a : Int), tqden tqP (d + 1) n_X9_isLawfulAt [vR (133 + t), vI a, vI (D 81 46), vI (D 81 47)] (tzW D L n) = some (some (vI (if (60 ≤ a ∧ a ≤ 120) ∧ sm D t l ≤ D 81 46 * a ∧ 0 ≤ sw D t l * a - sm D t l ∧ sw D t l * a - sm D t l ≤ D 81 47 * a then 1 else 0)), tzW D L n) := by
      intro d a
      rw [← eWt, ← eMt]
      exact p_isLawfulAt d D L n t ht (D 81 46) (D 81 47) (by omega) (by omega) (by omega) (by omega) a
    have lpC : ∀ (j k : Nat), j + k = 61 → tqrun tqP (1398 + 1) tqc_X11_shift 14 [vR 2, vU, vR (133 + t), vI (k : Int)] [] (tzW D L n) = some (some (vI (shR (fun a => (60 ≤ a ∧ a ≤ 120) ∧ sm D t l ≤ D 81 46 * a ∧ 0 ≤ sw D t l * a - sm D t l ∧ sw D t l * a - sm D t l ≤ D 81 47 * a) (D 98 t) j k)), tzW D L n) := by
      intro j
      induction j with
      | zero =>
        intro k hk
        have c : (60 : Int) < k := by omega
        rw [b_X11_shift_14]
        simp only [z_cd, c, ↓reduceIte]
        rfl
      | succ j ih =>
        intro k hk
        have c : ¬ (60 : Int) < k := by omega
        have w1 : w32 (D 98 t - k) = D 98 t - k := w32_id ⟨by omega, by omega⟩
        have w2 : w32 (D 98 t + k) = D 98 t + k := w32_id ⟨by (try clear w1); omega, by (try clear w1); omega⟩
        have w3 : w32 ((k : Int) + 1) = ((k + 1 : Nat) : Int) := w32_k (by (try clear w1 w2); omega)
        rw [b_X11_shift_14]
        simp only [z_cd, i10, i11, dnn, rdU, eW, eU, tzC_w, w_shp, w_ptr, Nat.beq_refl, nbz, nb133, nb75, nb55, nb67, n133a, n133b, n75a, n75b, aT, aR, oT, oR, oF, oG, kT, kF, bI, bL, bR, b0, Classical.not_not, not_true_eq_false, not_false_eq_true, and_self, and_true, true_and, ↓reduceIte, decide_true, decide_false, Nat.reduceEqDiff, Nat.reduceLT, Nat.reduceLeDiff, Int.reduceEq, c, w_trailer D L n ht, e9, p1, p2, iL, w1, w2, w3, ih (k + 1) (by (try clear w1 w2 w3); omega)]
        unfold shR
        split
        · rw [if_neg (by assumption)]
          split
          · rw [if_neg (by assumption)]; rfl
          · rw [if_pos (Classical.not_not.mp (by assumption))]
        · rw [if_pos (Classical.not_not.mp (by assumption))]
    have lpM : ∀ (j k : Nat), j + k = 61 → tqrun tqP (1398 + 1) tqc_X12_shift 12 [vR 81, vI (t : Int), vI (k : Int)] [] (tzW D L n) = some (some (vI (shR (fun a => (60 ≤ a ∧ a ≤ 120) ∧ sm D t l ≤ D 81 46 * a ∧ 0 ≤ sw D t l * a - sm D t l ∧ sw D t l * a - sm D t l ≤ D 81 47 * a) (D 98 t) j k)), tzW D L n) := by
      intro j
      induction j with
      | zero =>
        intro k hk
        have c : (60 : Int) < k := by omega
        rw [b_X12_shift_12]
        simp only [z_cd, c, ↓reduceIte]
        rfl
      | succ j ih =>
        intro k hk
        have c : ¬ (60 : Int) < k := by omega
        have w1 : w32 (D 98 t - k) = D 98 t - k := w32_id ⟨by omega, by omega⟩
        have w2 : w32 (D 98 t + k) = D 98 t + k := w32_id ⟨by (try clear w1); omega, by (try clear w1); omega⟩
        have w3 : w32 ((k : Int) + 1) = ((k + 1 : Nat) : Int) := w32_k (by (try clear w1 w2); omega)
        have h57 : tqrun tqP (1398 + 1) tqc_X12_shift 57 [vR 81, vI (t : Int), vI (k : Int)] [] (tzW D L n) = some (some (vI (if (60 ≤ D 98 t + k ∧ D 98 t + k ≤ 120) ∧ sm D t l ≤ D 81 46 * (D 98 t + k) ∧ 0 ≤ sw D t l * (D 98 t + k) - sm D t l ∧ sw D t l * (D 98 t + k) - sm D t l ≤ D 81 47 * (D 98 t + k) then D 98 t + k else shR (fun a => (60 ≤ a ∧ a ≤ 120) ∧ sm D t l ≤ D 81 46 * a ∧ 0 ≤ sw D t l * a - sm D t l ∧ sw D t l * a - sm D t l ≤ D 81 47 * a) (D 98 t) j ((k + 1 : Nat) : Int))), tzW D L n) := by
          rw [b_X12_shift_57]
          by_cases ca : 60 ≤ D 98 t + k ∧ D 98 t + k ≤ 120
          · simp only [z_cd, i10, i11, dnn, rdU, eW, eU, tzC_w, w_shp, w_ptr, Nat.beq_refl, nbz, nb133, nb75, nb55, nb67, n133a, n133b, n75a, n75b, aT, aR, oT, oR, oF, oG, kT, kF, bI, bL, bR, b0, Classical.not_not, not_true_eq_false, not_false_eq_true, and_self, and_true, true_and, ↓reduceIte, decide_true, decide_false, Nat.reduceEqDiff, Nat.reduceLT, Nat.reduceLeDiff, Int.reduceEq, hb, q_isAxle, ca, w2, w3, q_isLawful _ D L n t l ht12 lb p3 (D 98 t + k) (by (try clear w1 w2 w3); omega) (by (try clear w1 w2 w3); omega), ih (k + 1) (by (try clear w1 w2 w3); omega)]
            split
            · rw [if_neg (by assumption)]
            · rw [if_pos (Classical.not_not.mp (by assumption))]
          · simp only [z_cd, i10, i11, dnn, rdU, eW, eU, tzC_w, w_shp, w_ptr, Nat.beq_refl, nbz, nb133, nb75, nb55, nb67, n133a, n133b, n75a, n75b, aT, aR, oT, oR, oF, oG, kT, kF, bI, bL, bR, b0, Classical.not_not, not_true_eq_false, not_false_eq_true, and_self, and_true, true_and, ↓reduceIte, decide_true, decide_false, Nat.reduceEqDiff, Nat.reduceLT, Nat.reduceLeDiff, Int.reduceEq, hb, q_isAxle, ca, w2, w3, ih (k + 1) (by (try clear w1 w2 w3); omega), false_and]
        rw [b_X12_shift_12]
        unfold shR
        by_cases ca : 60 ≤ D 98 t - k ∧ D 98 t - k ≤ 120
        · simp only [z_cd, i10, i11, dnn, rdU, eW, eU, tzC_w, w_shp, w_ptr, Nat.beq_refl, nbz, nb133, nb75, nb55, nb67, n133a, n133b, n75a, n75b, aT, aR, oT, oR, oF, oG, kT, kF, bI, bL, bR, b0, Classical.not_not, not_true_eq_false, not_false_eq_true, and_self, and_true, true_and, ↓reduceIte, decide_true, decide_false, Nat.reduceEqDiff, Nat.reduceLT, Nat.reduceLeDiff, Int.reduceEq, c, hb, q_isAxle, ca, w1, q_isLawful _ D L n t l ht12 lb p3 (D 98 t - k) (by (try clear w1 w2 w3); omega) (by (try clear w1 w2 w3); omega), h57]
          split
          · rw [if_neg (by assumption)]; rfl
          · rw [if_pos (Classical.not_not.mp (by assumption))]
        · simp only [z_cd, i10, i11, dnn, rdU, eW, eU, tzC_w, w_shp, w_ptr, Nat.beq_refl, nbz, nb133, nb75, nb55, nb67, n133a, n133b, n75a, n75b, aT, aR, oT, oR, oF, oG, kT, kF, bI, bL, bR, b0, Classical.not_not, not_true_eq_false, not_false_eq_true, and_self, and_true, true_and, ↓reduceIte, decide_true, decide_false, Nat.reduceEqDiff, Nat.reduceLT, Nat.reduceLeDiff, Int.reduceEq, c, hb, q_isAxle, ca, w1, h57, false_and]
          rfl
    refine ⟨shR (fun a => (60 ≤ a ∧ a ≤ 120) ∧ sm D t l ≤ D 81 46 * a ∧ 0 ≤ sw D t l * a - sm D t l ∧ sw D t l * a - sm D t l ≤ D 81 47 * a) (D 98 t) 61 ((0 : Nat) : Int), D, n, D, ?_, ?_, rfl, rfl, hR⟩
    · rw [dn_X11_shift, b_X11_shift_0]
      simp only [z_cd, i10, i11, dnn, rdU, eW, eU, tzC_w, w_shp, w_ptr, Nat.beq_refl, nbz, nb133, nb75, nb55, nb67, n133a, n133b, n75a, n75b, aT, aR, oT, oR, oF, oG, kT, kF, bI, bL, bR, b0, Classical.not_not, not_true_eq_false, not_false_eq_true, and_self, and_true, true_and, ↓reduceIte, decide_true, decide_false, Nat.reduceEqDiff, Nat.reduceLT, Nat.reduceLeDiff, Int.reduceEq, p_trailerAt_y _ D L n t c1 c3 ht]
      exact lpC 61 0 rfl
    · rw [dn_X12_shift, b_X12_shift_0]
      simp only [z_cd, i10, i11, dnn, rdU, eW, eU, tzC_w, w_shp, w_ptr, Nat.beq_refl, nbz, nb133, nb75, nb55, nb67, n133a, n133b, n75a, n75b, aT, aR, oT, oR, oF, oG, kT, kF, bI, bL, bR, b0, Classical.not_not, not_true_eq_false, not_false_eq_true, and_self, and_true, true_and, ↓reduceIte, decide_true, decide_false, Nat.reduceEqDiff, Nat.reduceLT, Nat.reduceLeDiff, Int.reduceEq, q_isTrailer _ D L n t c2 c3, ct]
      exact lpM 61 0 rfl
  · refine ⟨-1, D, n, D, ?_, ?_, rfl, rfl, hR⟩
    · rw [dn_X11_shift, b_X11_shift_0]
      simp only [z_cd, i10, i11, dnn, rdU, eW, eU, tzC_w, w_shp, w_ptr, Nat.beq_refl, nbz, nb133, nb75, nb55, nb67, n133a, n133b, n75a, n75b, aT, aR, oT, oR, oF, oG, kT, kF, bI, bL, bR, b0, Classical.not_not, not_true_eq_false, not_false_eq_true, and_self, and_true, true_and, ↓reduceIte, decide_true, decide_false, Nat.reduceEqDiff, Nat.reduceLT, Nat.reduceLeDiff, Int.reduceEq, p_trailerAt_n _ D L n a0 c1 ct, p_isWithin, p_isYard]
    · rw [dn_X12_shift, b_X12_shift_0]
      simp only [z_cd, i10, i11, dnn, rdU, eW, eU, tzC_w, w_shp, w_ptr, Nat.beq_refl, nbz, nb133, nb75, nb55, nb67, n133a, n133b, n75a, n75b, aT, aR, oT, oR, oF, oG, kT, kF, bI, bL, bR, b0, Classical.not_not, not_true_eq_false, not_false_eq_true, and_self, and_true, true_and, ↓reduceIte, decide_true, decide_false, Nat.reduceEqDiff, Nat.reduceLT, Nat.reduceLeDiff, Int.reduceEq, q_isTrailer _ D L n a0 c2 c3, ct, p_in, q_isYard]
