/-! ===== where a lost one can be ===== -/
def hKq (D : Nat → Int → Int) (t : Int) : Nat → Int
  | 0 => 0
  | k + 1 => if D 110 k = t ∧ (D 111 k = 0 ∨ D 111 k = 1) then D 112 k else hKq D t k
theorem hKq_S (D : Nat → Int → Int) (t : Int) (k : Nat) : hKq D t (k + 1) = if D 110 k = t ∧ (D 111 k = 0 ∨ D 111 k = 1) then D 112 k else hKq D t k := rfl
theorem yK_S (D : Nat → Int → Int) (t : Int) (k : Nat) : yK D t (k + 1) = if D 110 k = t ∧ D 111 k = 0 then D 113 k else yK D t k := rfl
theorem yM_S (D : Nat → Int → Int) (t : Int) (k : Nat) : yM D t (k + 1) = if D 110 k = t ∧ D 111 k < 2 then D 114 k else yM D t k := rfl
set_option maxRecDepth 100000 in
set_option maxHeartbeats 400000 in
theorem p_lY (d : Nat) (D : Nat → Int → Int) (L n : Nat) (t : Int) {N : Int} (h : BE D N) : ∀ (k : Nat), (k : Int) ≤ N → tqrun tqP (d + 2) tqc_X1_latestYard 7 [vR 13, vI t, vI ((k : Int) - 1)] [] (tzW D L n) = some (some (vI (yK D t k)), tzW D L n)
  | 0, _ => by
    have c : (((0 : Nat) : Int) - 1) < 0 := by omega
    rw [b_X1_latestYard_7]
    simp only [z_cd, i10, i11, dnn, rdU, eW, eU, tzC_w, w_shp, w_ptr, Nat.beq_refl, nbz, nb133, nb75, nb55, nb67, n133a, n133b, n75a, n75b, aT, aR, oT, oR, oF, oG, kT, kF, bI, bL, bR, b0, Classical.not_not, not_true_eq_false, not_false_eq_true, and_self, and_true, true_and, ↓reduceIte, decide_true, decide_false, Nat.reduceEqDiff, Nat.reduceLT, Nat.reduceLeDiff, Int.reduceEq, c]
    rfl
  | k + 1, hk => by
    have c : ¬ ((k : Int) < 0) := by omega
    have ih := p_lY d D L n t h k (by omega)
    have h6 := h.2.2.2.1
    have hb := ib60 (e := (k : Int)) (by omega) (by omega) h6
    have g4 := (h.2.2.2.2 (k : Int) (by omega) (by omega)).2.2.2.1
    have io := p_isOf1 d D L n h k t 0 (by omega) (by omega)
    have w1 := w32_d k (by omega)
    rw [kd, b_X1_latestYard_7, yK_S]
    by_cases q : D 110 (k : Int) = t ∧ D 111 (k : Int) = 0
    · rw [if_pos q] at io ⊢
      simp only [z_cd, i10, i11, dnn, rdU, eW, eU, tzC_w, w_shp, w_ptr, Nat.beq_refl, nbz, nb133, nb75, nb55, nb67, n133a, n133b, n75a, n75b, aT, aR, oT, oR, oF, oG, kT, kF, bI, bL, bR, b0, Classical.not_not, not_true_eq_false, not_false_eq_true, and_self, and_true, true_and, ↓reduceIte, decide_true, decide_false, Nat.reduceEqDiff, Nat.reduceLT, Nat.reduceLeDiff, Int.reduceEq, c, io, hb, g4]
    · rw [if_neg q] at io ⊢
      simp only [z_cd, i10, i11, dnn, rdU, eW, eU, tzC_w, w_shp, w_ptr, Nat.beq_refl, nbz, nb133, nb75, nb55, nb67, n133a, n133b, n75a, n75b, aT, aR, oT, oR, oF, oG, kT, kF, bI, bL, bR, b0, Classical.not_not, not_true_eq_false, not_false_eq_true, and_self, and_true, true_and, ↓reduceIte, decide_true, decide_false, Nat.reduceEqDiff, Nat.reduceLT, Nat.reduceLeDiff, Int.reduceEq, c, io, w1, ih]
set_option maxRecDepth 100000 in
set_option maxHeartbeats 400000 in
theorem p_lH (d : Nat) (D : Nat → Int → Int) (L n : Nat) (t : Int) {N : Int} (h : BE D N) : ∀ (k : Nat), (k : Int) ≤ N → tqrun tqP (d + 2) tqc_X1_latestHeld 7 [vR 13, vI t, vI ((k : Int) - 1)] [] (tzW D L n) = some (some (vI (hKq D t k)), tzW D L n)
  | 0, _ => by
    have c : (((0 : Nat) : Int) - 1) < 0 := by omega
    rw [b_X1_latestHeld_7]
    simp only [z_cd, i10, i11, dnn, rdU, eW, eU, tzC_w, w_shp, w_ptr, Nat.beq_refl, nbz, nb133, nb75, nb55, nb67, n133a, n133b, n75a, n75b, aT, aR, oT, oR, oF, oG, kT, kF, bI, bL, bR, b0, Classical.not_not, not_true_eq_false, not_false_eq_true, and_self, and_true, true_and, ↓reduceIte, decide_true, decide_false, Nat.reduceEqDiff, Nat.reduceLT, Nat.reduceLeDiff, Int.reduceEq, c]
    rfl
  | k + 1, hk => by
    have c : ¬ ((k : Int) < 0) := by omega
    have ih := p_lH d D L n t h k (by omega)
    have h6 := h.2.2.2.1
    have hb := ib60 (e := (k : Int)) (by omega) (by omega) h6
    have g3 := (h.2.2.2.2 (k : Int) (by omega) (by omega)).2.2.1
    have io := p_isOf1 d D L n h k t 0 (by omega) (by omega)
    have ip := p_isOf1 d D L n h k t 1 (by omega) (by omega)
    have w1 := w32_d k (by omega)
    rw [kd, b_X1_latestHeld_7, hKq_S]
    by_cases q1 : D 110 (k : Int) = t
    · by_cases q2 : D 111 (k : Int) = 0
      · simp only [z_cd, i10, i11, dnn, rdU, eW, eU, tzC_w, w_shp, w_ptr, Nat.beq_refl, nbz, nb133, nb75, nb55, nb67, n133a, n133b, n75a, n75b, aT, aR, oT, oR, oF, oG, kT, kF, bI, bL, bR, b0, Classical.not_not, not_true_eq_false, not_false_eq_true, and_self, and_true, true_and, ↓reduceIte, decide_true, decide_false, Nat.reduceEqDiff, Nat.reduceLT, Nat.reduceLeDiff, Int.reduceEq, c, io, ip, q1, q2, hb, g3, or_false, false_or, or_true, true_or, or_self, and_false, false_and, Int.reduceLT, Int.reduceLE, Int.reduceNeg]
      · by_cases q3 : D 111 (k : Int) = 1
        · simp only [z_cd, i10, i11, dnn, rdU, eW, eU, tzC_w, w_shp, w_ptr, Nat.beq_refl, nbz, nb133, nb75, nb55, nb67, n133a, n133b, n75a, n75b, aT, aR, oT, oR, oF, oG, kT, kF, bI, bL, bR, b0, Classical.not_not, not_true_eq_false, not_false_eq_true, and_self, and_true, true_and, ↓reduceIte, decide_true, decide_false, Nat.reduceEqDiff, Nat.reduceLT, Nat.reduceLeDiff, Int.reduceEq, c, io, ip, q1, q2, q3, hb, g3, or_false, false_or, or_true, true_or, or_self, and_false, false_and, Int.reduceLT, Int.reduceLE, Int.reduceNeg]
        · simp only [z_cd, i10, i11, dnn, rdU, eW, eU, tzC_w, w_shp, w_ptr, Nat.beq_refl, nbz, nb133, nb75, nb55, nb67, n133a, n133b, n75a, n75b, aT, aR, oT, oR, oF, oG, kT, kF, bI, bL, bR, b0, Classical.not_not, not_true_eq_false, not_false_eq_true, and_self, and_true, true_and, ↓reduceIte, decide_true, decide_false, Nat.reduceEqDiff, Nat.reduceLT, Nat.reduceLeDiff, Int.reduceEq, c, io, ip, q1, q2, q3, w1, ih, or_false, false_or, or_true, true_or, or_self, and_false, false_and, Int.reduceLT, Int.reduceLE, Int.reduceNeg]
    · simp only [z_cd, i10, i11, dnn, rdU, eW, eU, tzC_w, w_shp, w_ptr, Nat.beq_refl, nbz, nb133, nb75, nb55, nb67, n133a, n133b, n75a, n75b, aT, aR, oT, oR, oF, oG, kT, kF, bI, bL, bR, b0, Classical.not_not, not_true_eq_false, not_false_eq_true, and_self, and_true, true_and, ↓reduceIte, decide_true, decide_false, Nat.reduceEqDiff, Nat.reduceLT, Nat.reduceLeDiff, Int.reduceEq, c, io, ip, q1, w1, ih, or_false, false_or, or_true, true_or, or_self, and_false, false_and, Int.reduceLT, Int.reduceLE, Int.reduceNeg]
/-- the yards come to by now from yard a at minute s -/
noncomputable def ysS (D : Nat → Int → Int) (a s now : Int) : Nat → Int → Int → Int
  | 0, _, S => S
  | j + 1, y, S => ysS D a s now j (y + 1) (if erq D 0 a s y ≤ now then jor S (jshl 1 y) else S)
theorem ysS_S (D : Nat → Int → Int) (a s now : Int) (j : Nat) (y S : Int) : ysS D a s now (j + 1) y S = ysS D a s now j (y + 1) (if erq D 0 a s y ≤ now then jor S (jshl 1 y) else S) := rfl
theorem ysS_sm {D D' : Nat → Int → Int} (v : Sm PVq D D') (a s now : Int) : ∀ (j : Nat) (y S : Int), ysS D' a s now j y S = ysS D a s now j y S
  | 0, _, _ => rfl
  | j + 1, y, S => by
    rw [ysS_S, ysS_S, er_sm v]
    exact ysS_sm v a s now j _ _
theorem ysS_r {D : Nat → Int → Int} {a s now : Int} : ∀ (j : Nat) (y S : Int), 0 ≤ y → y + j = 8 → 0 ≤ S → S < 256 → 0 ≤ ysS D a s now j y S ∧ ysS D a s now j y S < 256
  | 0, _, S, _, _, S0, S1 => ⟨S0, S1⟩
  | j + 1, y, S, y0, yj, S0, S1 => by
    rw [ysS_S]
    have q : 0 ≤ (if erq D 0 a s y ≤ now then jor S (jshl 1 y) else S) ∧ (if erq D 0 a s y ≤ now then jor S (jshl 1 y) else S) < 256 := by
      by_cases c : erq D 0 a s y ≤ now
      · rw [if_pos c]
        have k := hb_r S0 S1 y0 (by omega)
        exact ⟨k.1, k.2.1⟩
      · rw [if_neg c]; exact ⟨S0, S1⟩
    exact ysS_r j (y + 1) _ (by omega) (by omega) q.1 q.2
set_option maxRecDepth 100000 in
set_option maxHeartbeats 400000 in
theorem p_ir17 (d : Nat) (D E : Nat → Int → Int) (L n : Nat) (a s now : Int) (hv : ∀ y : Int, 0 ≤ y → y < 8 → E 12 y = erq D 0 a s y) : ∀ (j : Nat) (y S : Int), 0 ≤ y → y + j = 8 → tqrun tqP (d + 1) tqc_X10_inReach 17 [vR 7, vU, vU, vI now, vI S, vI y] [] (tzW E L n) = some (some (vI (ysS D a s now j y S)), tzW E L n)
  | 0, y, S, y0, yj => by
    have c : 8 ≤ y := by omega
    rw [b_X10_inReach_17]
    simp only [z_cd, i10, i11, dnn, rdU, eW, eU, tzC_w, w_shp, w_ptr, Nat.beq_refl, nbz, nb133, nb75, nb55, nb67, n133a, n133b, n75a, n75b, aT, aR, oT, oR, oF, oG, kT, kF, bI, bL, bR, b0, Classical.not_not, not_true_eq_false, not_false_eq_true, and_self, and_true, true_and, ↓reduceIte, decide_true, decide_false, Nat.reduceEqDiff, Nat.reduceLT, Nat.reduceLeDiff, Int.reduceEq, c]
    rfl
  | j + 1, y, S, y0, yj => by
    have c : ¬ 8 ≤ y := by omega
    have hb : tqib y 8 = true := tqib_y (by omega) (by omega)
    have ev := hv y y0 (by omega)
    have ih := p_ir17 d D E L n a s now hv j (y + 1) (if erq D 0 a s y ≤ now then jor S (jshl 1 y) else S) (by omega) (by omega)
    rw [ysS_S, ← ih, b_X10_inReach_17]
    clear ih
    by_cases q : erq D 0 a s y ≤ now
    · have q2 : ¬ now < erq D 0 a s y := by omega
      have e1 := w1z y0 (by omega)
      rw [if_pos q]
      simp only [z_cd, i10, i11, dnn, rdU, eW, eU, tzC_w, w_shp, w_ptr, Nat.beq_refl, nbz, nb133, nb75, nb55, nb67, n133a, n133b, n75a, n75b, aT, aR, oT, oR, oF, oG, kT, kF, bI, bL, bR, b0, Classical.not_not, not_true_eq_false, not_false_eq_true, and_self, and_true, true_and, ↓reduceIte, decide_true, decide_false, Nat.reduceEqDiff, Nat.reduceLT, Nat.reduceLeDiff, Int.reduceEq, c, hb, ev, q2, e1]
    · have q2 : now < erq D 0 a s y := by omega
      have e1 := w1z y0 (by omega)
      rw [if_neg q]
      simp only [z_cd, i10, i11, dnn, rdU, eW, eU, tzC_w, w_shp, w_ptr, Nat.beq_refl, nbz, nb133, nb75, nb55, nb67, n133a, n133b, n75a, n75b, aT, aR, oT, oR, oF, oG, kT, kF, bI, bL, bR, b0, Classical.not_not, not_true_eq_false, not_false_eq_true, and_self, and_true, true_and, ↓reduceIte, decide_true, decide_false, Nat.reduceEqDiff, Nat.reduceLT, Nat.reduceLeDiff, Int.reduceEq, c, hb, ev, q2, e1]
theorem jor0 {S : Int} (S0 : 0 ≤ S) (S1 : S < 256) : jor S 0 = S := by
  obtain ⟨p, rfl⟩ : ∃ p : Nat, S = p := ⟨S.toNat, by omega⟩
  have h := jor_n (a := p) (b := 0) (by omega) (by omega) (by rw [Nat.or_zero]; omega)
  rw [Nat.or_zero] at h
  exact h
set_option maxRecDepth 100000 in
set_option maxHeartbeats 400000 in
theorem q_y50 (d L n : Nat) (D : Nat → Int → Int) {a s now : Int} {f : Nat} (hf : f < 60) (a0 : 0 ≤ a) (a1 : a < 8) (s0 : 0 ≤ s) (s1 : s ≤ 99999) (w : WY D) (hd : ∀ y : Int, 0 ≤ y → y < 8 → D 88 (9 * y) = 0) (ha : D 114 f = a) (hs : D 112 f = s) (hn : D 81 5 = now) (n1 : now ≤ 99999) : ∀ (j : Nat) (y S : Int) (E : Nat → Int → Int), 0 ≤ y → y + j = 8 → 0 ≤ S → S < 256 → Ofq 92 D E →
    ∃ E', tqrun tqP (d + 3) tqc_X12_yardsOf 50 [vR 81, vU, vI (f : Int), vI S, vI y] [] (tzW E L n) = some (some (vI (ysS D a s now j y S)), tzW E' L n) ∧ Ofq 92 D E'
  | 0, y, S, E, y0, yj, S0, S1, of => by
    refine ⟨E, ?_, of⟩
    have c : 8 ≤ y := by omega
    rw [b_X12_yardsOf_50]
    simp only [z_cd, i10, i11, dnn, rdU, eW, eU, tzC_w, w_shp, w_ptr, Nat.beq_refl, nbz, nb133, nb75, nb55, nb67, n133a, n133b, n75a, n75b, aT, aR, oT, oR, oF, oG, kT, kF, bI, bL, bR, b0, Classical.not_not, not_true_eq_false, not_false_eq_true, and_self, and_true, true_and, ↓reduceIte, decide_true, decide_false, Nat.reduceEqDiff, Nat.reduceLT, Nat.reduceLeDiff, Int.reduceEq, c]
    rfl
  | j + 1, y, S, E, y0, yj, S0, S1, of => by
    have c : ¬ 8 ≤ y := by omega
    have hb : tqib (f : Int) 60 = true := tqib_y (by omega) (by omega)
    have sv := Sm_v o92 of
    have ea : E 114 f = a := (of 114 f (by omega)).trans ha
    have es : E 112 f = s := (of 112 f (by omega)).trans hs
    obtain ⟨G, g1, g2⟩ := q_comesTo (d) L n E (a := a) (s := s) (b := y) a0 a1 s0 (by omega) y0 (by omega) (Wy_sm sv w) (Hd_sm sv hd)
    rw [er_sm sv] at g1
    have oG := Ofq_t of g2
    have en : G 81 5 = now := (oG 81 5 (by omega)).trans hn
    have t := nv_c (er_b w y0 (by omega) (er_ok w hd (bt := 0) (Or.inl rfl) (a := a) (s := s) (y := y) a0 a1 s0 (by omega) y0 (by omega))) (by omega)
    rw [ysS_S]
    by_cases q : erq D 0 a s y ≤ now
    · have q2 : ¬ now < nv (erq D 0 a s y) := by omega
      rw [if_pos q]
      have k := hb_r S0 S1 y0 (by omega)
      obtain ⟨E', r1, r2⟩ := q_y50 d L n D hf a0 a1 s0 s1 w hd ha hs hn n1 j (y + 1) (jor S (jshl 1 y)) G (by omega) (by omega) k.1 k.2.1 oG
      refine ⟨E', ?_, r2⟩
      have e1 := w1z y0 (by omega)
      rw [← r1, b_X12_yardsOf_50]
      simp only [z_cd, i10, i11, dnn, rdU, eW, eU, tzC_w, w_shp, w_ptr, Nat.beq_refl, nbz, nb133, nb75, nb55, nb67, n133a, n133b, n75a, n75b, aT, aR, oT, oR, oF, oG, kT, kF, bI, bL, bR, b0, Classical.not_not, not_true_eq_false, not_false_eq_true, and_self, and_true, true_and, ↓reduceIte, decide_true, decide_false, Nat.reduceEqDiff, Nat.reduceLT, Nat.reduceLeDiff, Int.reduceEq, c, hb, ea, es, g1, en, q2, e1]
    · have q2 : now < nv (erq D 0 a s y) := by omega
      rw [if_neg q]
      obtain ⟨E', r1, r2⟩ := q_y50 d L n D hf a0 a1 s0 s1 w hd ha hs hn n1 j (y + 1) S G (by omega) (by omega) S0 S1 oG
      refine ⟨E', ?_, r2⟩
      have e0 := jor0 S0 S1
      have e1 := w1z y0 (by omega)
      rw [← r1, b_X12_yardsOf_50]
      simp only [z_cd, i10, i11, dnn, rdU, eW, eU, tzC_w, w_shp, w_ptr, Nat.beq_refl, nbz, nb133, nb75, nb55, nb67, n133a, n133b, n75a, n75b, aT, aR, oT, oR, oF, oG, kT, kF, bI, bL, bR, b0, Classical.not_not, not_true_eq_false, not_false_eq_true, and_self, and_true, true_and, ↓reduceIte, decide_true, decide_false, Nat.reduceEqDiff, Nat.reduceLT, Nat.reduceLeDiff, Int.reduceEq, c, hb, ea, es, g1, en, q2, e0, e1]
def pH (D : Nat → Int → Int) (t : Int) (i : Int) : Bool := decide (D 110 i = t ∧ D 111 i < 2)
theorem lstH_S (D : Nat → Int → Int) (t : Int) (k : Nat) : lst (pH D t) (k + 1) = if D 110 k = t ∧ D 111 k < 2 then (k : Int) else lst (pH D t) k := by
  rw [lst_S]
  have : (pH D t (k : Int) = true) = (D 110 k = t ∧ D 111 k < 2) := propext decide_eq_true_iff
  simp only [this]
set_option maxRecDepth 100000 in
set_option maxHeartbeats 400000 in
theorem q_y5 (d : Nat) (D : Nat → Int → Int) (L n : Nat) (t : Int) {N : Nat} (hN : D 81 34 = N) (h6 : N ≤ 60) : ∀ (j k : Nat), k + j = N → tqrun tqP (d + 1) tqc_X12_yardsOf 5 [vR 81, vI t, vI (lst (pH D t) k), vI (k : Int), vU] [] (tzW D L n) = tqrun tqP (d + 1) tqc_X12_yardsOf 50 [vR 81, vU, vI (lst (pH D t) N), vI 0, vI 0] [] (tzW D L n)
  | 0, k, h => by
    have c : (N : Int) ≤ k := by omega
    have e : k = N := by omega
    rw [b_X12_yardsOf_5]
    simp only [z_cd, i10, i11, dnn, rdU, eW, eU, tzC_w, w_shp, w_ptr, Nat.beq_refl, nbz, nb133, nb75, nb55, nb67, n133a, n133b, n75a, n75b, aT, aR, oT, oR, oF, oG, kT, kF, bI, bL, bR, b0, Classical.not_not, not_true_eq_false, not_false_eq_true, and_self, and_true, true_and, ↓reduceIte, decide_true, decide_false, Nat.reduceEqDiff, Nat.reduceLT, Nat.reduceLeDiff, Int.reduceEq, hN, c]
    rw [e]
  | j + 1, k, h => by
    have c : ¬ (N : Int) ≤ k := by omega
    have hb : tqib (k : Int) 60 = true := tqib_y (by omega) (by omega)
    have ih := q_y5 d D L n t hN h6 j (k + 1) (by omega)
    rw [lstH_S] at ih
    rw [← ih, b_X12_yardsOf_5]
    clear ih
    by_cases q1 : D 110 (k : Int) = t
    · by_cases q2 : D 111 (k : Int) < 2
      · have q3 : ¬ 2 ≤ D 111 (k : Int) := by omega
        have w1 := w32_s k (by omega)
        rw [if_pos ⟨q1, q2⟩]
        simp only [z_cd, i10, i11, dnn, rdU, eW, eU, tzC_w, w_shp, w_ptr, Nat.beq_refl, nbz, nb133, nb75, nb55, nb67, n133a, n133b, n75a, n75b, aT, aR, oT, oR, oF, oG, kT, kF, bI, bL, bR, b0, Classical.not_not, not_true_eq_false, not_false_eq_true, and_self, and_true, true_and, ↓reduceIte, decide_true, decide_false, Nat.reduceEqDiff, Nat.reduceLT, Nat.reduceLeDiff, Int.reduceEq, hN, c, hb, q1, q3, w1]
      · have q3 : 2 ≤ D 111 (k : Int) := by omega
        have w1 := w32_s k (by omega)
        rw [if_neg (fun x => q2 x.2)]
        simp only [z_cd, i10, i11, dnn, rdU, eW, eU, tzC_w, w_shp, w_ptr, Nat.beq_refl, nbz, nb133, nb75, nb55, nb67, n133a, n133b, n75a, n75b, aT, aR, oT, oR, oF, oG, kT, kF, bI, bL, bR, b0, Classical.not_not, not_true_eq_false, not_false_eq_true, and_self, and_true, true_and, ↓reduceIte, decide_true, decide_false, Nat.reduceEqDiff, Nat.reduceLT, Nat.reduceLeDiff, Int.reduceEq, hN, c, hb, q1, q3, w1]
    · have w1 := w32_s k (by omega)
      rw [if_neg (fun x => q1 x.1)]
      simp only [z_cd, i10, i11, dnn, rdU, eW, eU, tzC_w, w_shp, w_ptr, Nat.beq_refl, nbz, nb133, nb75, nb55, nb67, n133a, n133b, n75a, n75b, aT, aR, oT, oR, oF, oG, kT, kF, bI, bL, bR, b0, Classical.not_not, not_true_eq_false, not_false_eq_true, and_self, and_true, true_and, ↓reduceIte, decide_true, decide_false, Nat.reduceEqDiff, Nat.reduceLT, Nat.reduceLeDiff, Int.reduceEq, hN, c, hb, q1, w1]
theorem lst_yM {D : Nat → Int → Int} {t N : Int} (h : BE D N) : ∀ k : Nat, (k : Int) ≤ N → (lst (pH D t) k = -9 ∧ yM D t k = -9) ∨ (∃ f : Nat, f < k ∧ lst (pH D t) k = f ∧ D 114 f = yM D t k ∧ D 112 f = hKq D t k)
  | 0, _ => Or.inl ⟨rfl, rfl⟩
  | k + 1, hk => by
    obtain ⟨g1, g2, g3, g4, g5, g6, g7, g8⟩ := h.2.2.2.2 (k : Int) (by omega) (by omega)
    rw [lstH_S, yM_S, hKq_S]
    by_cases c : D 110 (k : Int) = t ∧ D 111 (k : Int) < 2
    · rw [if_pos c, if_pos c, if_pos ⟨c.1, by omega⟩]
      exact Or.inr ⟨k, by omega, rfl, rfl, rfl⟩
    · rw [if_neg c, if_neg c, if_neg (fun x => c ⟨x.1, by omega⟩)]
      rcases lst_yM h k (by omega) with q | ⟨f, q1, q2⟩
      · exact Or.inl q
      · exact Or.inr ⟨f, by omega, q2⟩
theorem yK_in {D : Nat → Int → Int} {t N : Int} (h : BE D N) : ∀ k : Nat, (k : Int) ≤ N → yK D t k = -9 ∨ (0 ≤ yK D t k ∧ yK D t k ≤ 7)
  | 0, _ => Or.inl rfl
  | k + 1, hk => by
    obtain ⟨g1, g2, g3, g4, g5, g6, g7, g8⟩ := h.2.2.2.2 (k : Int) (by omega) (by omega)
    rw [yK_S]
    by_cases c : D 110 (k : Int) = t ∧ D 111 (k : Int) = 0
    · rw [if_pos c]; exact Or.inr (g7 c.2)
    · rw [if_neg c]; exact yK_in h k (by omega)
noncomputable def ySet (D : Nat → Int → Int) (t : Int) : Int := ysS D (yK D t (D 81 34).toNat) (hKq D t (D 81 34).toNat) (D 81 5) 8 0 0
/-- from where and when a lost one is looked for -/
theorem lost_at {D : Nat → Int → Int} {n : Nat} (hR : Rel D n) {t : Nat} (ht : t < n) : ∃ f : Nat, f < 60 ∧ lst (pH D t) (D 81 34).toNat = f ∧ D 114 f = yK D t (D 81 34).toNat ∧ D 112 f = hKq D t (D 81 34).toNat ∧ 0 ≤ yK D t (D 81 34).toNat ∧ yK D t (D 81 34).toNat < 8 ∧ 0 ≤ hKq D t (D 81 34).toNat ∧ hKq D t (D 81 34).toNat ≤ 99999 := by
  obtain ⟨hA, hL, hW, hN, hC, hT, hD, hK, hB, hQ, hX, hM, hP, hS⟩ := id hR
  have be := BE_of hB
  have n0 := hB.2.1
  have n6 := hB.2.2.1
  obtain ⟨x1, x2, x3, x4, x5⟩ := hX.1 t ht
  have yi := yK_in (t := t) be (D 81 34).toNat (by omega)
  rcases lst_yM (t := t) be (D 81 34).toNat (by omega) with q | ⟨f, q1, q2, q3, q4⟩
  · omega
  · have f1 : (f : Int) < D 81 34 := by omega
    have e := hB.2.2.2 f f1
    have q := hQ.1 f f1
    obtain ⟨_, _, _, _, _, _, _, _, e9, _, _⟩ := e
    have nn := hN.2.2
    rw [← x2] at q3
    exact ⟨f, by omega, q2, q3, q4, x3, by omega, by omega, by omega⟩
set_option maxRecDepth 100000 in
set_option maxHeartbeats 400000 in
theorem p_yIR (d L n : Nat) (D : Nat → Int → Int) (hR : Rel D n) {t : Nat} (ht : t < n) : ∃ D', tqden tqP (d + 5) n_X11_yardsInReach [vR 2, vI (t : Int)] (tzW D L n) = some (some (vI (ySet D t)), tzW D' L n) ∧ Ofq 12 D D' := by
  obtain ⟨hA, hL, hW, hN, hC, hT, hD, hK, hB, hQ, hX, hM, hP, hS⟩ := id hR
  obtain ⟨f, l1, l2, l3, l4, l5, l6, l7, l8⟩ := lost_at hR ht
  have be := BE_of hB
  obtain ⟨N, hNN⟩ : ∃ N : Nat, D 81 34 = N := ⟨(D 81 34).toNat, by have := hB.2.1; omega⟩
  have eN : (D 81 34).toNat = N := by omega
  rw [hNN] at be
  unfold ySet
  rw [eN] at l5 l6 l7 l8 ⊢
  have h6 : N ≤ 60 := by have := be.2.2.2.1; omega
  have e2 : D 2 13 = D 81 5 := hN.1
  obtain ⟨D', g1, g2, g3⟩ := p_reach d L n 12 D (fun _ => rfl) o12 (bt := 0) (Or.inl rfl) (a := yK D t N) (s := hKq D t N) l5 l6 l7 (by omega) (WY_of hW) (hd_of hW)
  refine ⟨D', ?_, g2⟩
  have lp := p_ir17 (d + 3) D D' L n (yK D t N) (hKq D t N) (D 81 5) g3 8 0 0 (by omega) (by omega)
  have py : tqden tqP (d + 4) n_X1_latestYard [vR 13, vI (t : Int)] (tzW D L n) = some (some (vI (yK D t N)), tzW D L n) := by
    have q := p_lY (d + 2) D L n t be N (by omega)
    have w1 := w32_d2 N (by omega)
    rw [dn_X1_latestYard, b_X1_latestYard_0]
    simp only [z_cd, i10, i11, dnn, rdU, eW, eU, tzC_w, w_shp, w_ptr, Nat.beq_refl, nbz, nb133, nb75, nb55, nb67, n133a, n133b, n75a, n75b, aT, aR, oT, oR, oF, oG, kT, kF, bI, bL, bR, b0, Classical.not_not, not_true_eq_false, not_false_eq_true, and_self, and_true, true_and, ↓reduceIte, decide_true, decide_false, Nat.reduceEqDiff, Nat.reduceLT, Nat.reduceLeDiff, Int.reduceEq, be.1, w1]
    exact q
  have ph : tqden tqP (d + 4) n_X1_latestHeld [vR 13, vI (t : Int)] (tzW D L n) = some (some (vI (hKq D t N)), tzW D L n) := by
    have q := p_lH (d + 2) D L n t be N (by omega)
    have w1 := w32_d2 N (by omega)
    rw [dn_X1_latestHeld, b_X1_latestHeld_0]
    simp only [z_cd, i10, i11, dnn, rdU, eW, eU, tzC_w, w_shp, w_ptr, Nat.beq_refl, nbz, nb133, nb75, nb55, nb67, n133a, n133b, n75a, n75b, aT, aR, oT, oR, oF, oG, kT, kF, bI, bL, bR, b0, Classical.not_not, not_true_eq_false, not_false_eq_true, and_self, and_true, true_and, ↓reduceIte, decide_true, decide_false, Nat.reduceEqDiff, Nat.reduceLT, Nat.reduceLeDiff, Int.reduceEq, be.1, w1]
    exact q
  have pr : tqden tqP (d + 4) n_X10_inReach [vR 7, vI (yK D t N), vI (hKq D t N), vI (D 81 5)] (tzW D L n) = some (some (vI (ysS D (yK D t N) (hKq D t N) (D 81 5) 8 0 0)), tzW D' L n) := by
    rw [dn_X10_inReach, b_X10_inReach_0]
    simp only [z_cd, i10, i11, dnn, rdU, eW, eU, tzC_w, w_shp, w_ptr, Nat.beq_refl, nbz, nb133, nb75, nb55, nb67, n133a, n133b, n75a, n75b, aT, aR, oT, oR, oF, oG, kT, kF, bI, bL, bR, b0, Classical.not_not, not_true_eq_false, not_false_eq_true, and_self, and_true, true_and, ↓reduceIte, decide_true, decide_false, Nat.reduceEqDiff, Nat.reduceLT, Nat.reduceLeDiff, Int.reduceEq, g1]
    exact lp
  rw [dn_X11_yardsInReach, b_X11_yardsInReach_0]
  simp only [z_cd, i10, i11, dnn, rdU, eW, eU, tzC_w, w_shp, w_ptr, Nat.beq_refl, nbz, nb133, nb75, nb55, nb67, n133a, n133b, n75a, n75b, aT, aR, oT, oR, oF, oG, kT, kF, bI, bL, bR, b0, Classical.not_not, not_true_eq_false, not_false_eq_true, and_self, and_true, true_and, ↓reduceIte, decide_true, decide_false, Nat.reduceEqDiff, Nat.reduceLT, Nat.reduceLeDiff, Int.reduceEq, py, ph, e2, pr]
set_option maxRecDepth 100000 in
set_option maxHeartbeats 400000 in
theorem q_yOf (d L n : Nat) (D : Nat → Int → Int) (hR : Rel D n) {t : Nat} (ht : t < n) {E : Nat → Int → Int} (of : Ofq 12 D E) : ∃ E', tqden tqP (d + 3) n_X12_yardsOf [vR 81, vI (t : Int)] (tzW E L n) = some (some (vI (ySet D t)), tzW E' L n) ∧ Ofq 92 E E' := by
  have hRE := Rel_off o12 of hR
  obtain ⟨hA, hL, hW, hN, hC, hT, hD, hK, hB, hQ, hX, hM, hP, hS⟩ := id hRE
  obtain ⟨f, l1, l2, l3, l4, l5, l6, l7, l8⟩ := lost_at hRE ht
  obtain ⟨N, hNN⟩ : ∃ N : Nat, E 81 34 = N := ⟨(E 81 34).toNat, by have := hB.2.1; omega⟩
  have eN : (E 81 34).toNat = N := by omega
  have h6 : N ≤ 60 := by have := hB.2.2.1; omega
  have es : ySet D t = ySet E t := by
    unfold ySet
    have v0 : E 81 34 = D 81 34 := of 81 34 (by omega)
    have v1 : yK E t (E 81 34).toNat = yK D t (D 81 34).toNat := by rw [v0]; exact yK_fr _ (fun i _ => ⟨of 110 i (by omega), of 111 i (by omega), of 113 i (by omega)⟩)
    have v2 : hKq E t (E 81 34).toNat = hKq D t (D 81 34).toNat := by
      rw [v0]
      have key : ∀ k : Nat, hKq E t k = hKq D t k := by
        intro k
        induction k with
        | zero => rfl
        | succ k ih => rw [hKq_S, hKq_S, ih, of 110 k (by omega), of 111 k (by omega), of 112 k (by omega)]
      exact key _
    rw [v1, v2, ysS_sm (Sm_v o12 of), of 81 5 (by omega)]
  rw [es]
  unfold ySet
  rw [eN] at l2 l3 l4 l5 l6 l7 l8 ⊢
  obtain ⟨E', r1, r2⟩ := q_y50 d L n E l1 l5 l6 l7 l8 (WY_of hW) (hd_of hW) l3 l4 rfl hN.2.2 8 0 0 E (by omega) (by omega) (by omega) (by omega) (Ofq_r 92 E)
  refine ⟨E', ?_, r2⟩
  have q := q_y5 (d + 2) E L n t hNN h6 N 0 (by omega)
  rw [l2] at q
  have z : ((0 : Nat) : Int) = 0 := rfl
  have z2 : lst (pH E t) 0 = -9 := rfl
  rw [z, z2] at q
  rw [← r1, ← q, dn_X12_yardsOf, b_X12_yardsOf_0]
set_option maxRecDepth 100000 in
set_option maxHeartbeats 400000 in
theorem ag_canBe {L : Nat} (a0 : Int) : AgI Rel L n_X11_canBe n_X12_canBe [vI a0] := by
  intro D n hR
  obtain ⟨hA, hL, hW, hN, ⟨c1, c2, c3⟩, hT, hD, hK, hB, hQ, hX, hM, hP, hS⟩ := id hR
  by_cases ct : 0 ≤ a0 ∧ a0 < n
  · obtain ⟨t, e⟩ : ∃ t : Nat, a0 = t := ⟨a0.toNat, by omega⟩
    subst e
    have ht : t < n := by omega
    have ht12 : t < 12 := by omega
    have hb : tqib (t : Int) 12 = true := tqib_y (by omega) (by omega)
    have r := hT.1 t ht
    have r2 := r
    have e5 : D (133 + t) 5 = D 96 t := r.2.2.2.2.1
    by_cases cl : D 96 t = 0
    · refine ⟨-4, D, n, D, ?_, ?_, rfl, rfl, hR⟩
      · rw [dn_X11_canBe, b_X11_canBe_0]
        simp only [z_cd, i10, i11, dnn, rdU, eW, eU, tzC_w, w_shp, w_ptr, Nat.beq_refl, nbz, nb133, nb75, nb55, nb67, n133a, n133b, n75a, n75b, aT, aR, oT, oR, oF, oG, kT, kF, bI, bL, bR, b0, Classical.not_not, not_true_eq_false, not_false_eq_true, and_self, and_true, true_and, ↓reduceIte, decide_true, decide_false, Nat.reduceEqDiff, Nat.reduceLT, Nat.reduceLeDiff, Int.reduceEq, p_trailerAt_y _ D L n t c1 c3 ht, w_trailer D L n ht, e5, cl]
      · rw [dn_X12_canBe, b_X12_canBe_0]
        simp only [z_cd, i10, i11, dnn, rdU, eW, eU, tzC_w, w_shp, w_ptr, Nat.beq_refl, nbz, nb133, nb75, nb55, nb67, n133a, n133b, n75a, n75b, aT, aR, oT, oR, oF, oG, kT, kF, bI, bL, bR, b0, Classical.not_not, not_true_eq_false, not_false_eq_true, and_self, and_true, true_and, ↓reduceIte, decide_true, decide_false, Nat.reduceEqDiff, Nat.reduceLT, Nat.reduceLeDiff, Int.reduceEq, q_isTrailer _ D L n t c2 c3, ct, hb, cl]
    · obtain ⟨D1, u1, u2⟩ := p_yIR 1393 L n D hR ht
      obtain ⟨D2, v1, v2⟩ := q_yOf 1395 L n D hR ht u2
      have d2 : D1 81 16 = n := (u2 81 16 (by omega)).trans c2
      have d5 : ¬ D1 96 t = 0 := by rw [u2 96 t (by omega)]; exact cl
      refine ⟨ySet D t, D1, n, D2, ?_, ?_, Ofq_1 o12 u2, (Ofq_1 o92 v2).trans (Ofq_1 o12 u2), Rel_off o92 v2 (Rel_off o12 u2 hR)⟩
      · rw [dn_X11_canBe, b_X11_canBe_0]
        simp only [z_cd, i10, i11, dnn, rdU, eW, eU, tzC_w, w_shp, w_ptr, Nat.beq_refl, nbz, nb133, nb75, nb55, nb67, n133a, n133b, n75a, n75b, aT, aR, oT, oR, oF, oG, kT, kF, bI, bL, bR, b0, Classical.not_not, not_true_eq_false, not_false_eq_true, and_self, and_true, true_and, ↓reduceIte, decide_true, decide_false, Nat.reduceEqDiff, Nat.reduceLT, Nat.reduceLeDiff, Int.reduceEq, p_trailerAt_y _ D L n t c1 c3 ht, w_trailer D L n ht, e5, cl, u1]
      · rw [dn_X12_canBe, b_X12_canBe_0]
        simp only [z_cd, i10, i11, dnn, rdU, eW, eU, tzC_w, w_shp, w_ptr, Nat.beq_refl, nbz, nb133, nb75, nb55, nb67, n133a, n133b, n75a, n75b, aT, aR, oT, oR, oF, oG, kT, kF, bI, bL, bR, b0, Classical.not_not, not_true_eq_false, not_false_eq_true, and_self, and_true, true_and, ↓reduceIte, decide_true, decide_false, Nat.reduceEqDiff, Nat.reduceLT, Nat.reduceLeDiff, Int.reduceEq, q_isTrailer _ D1 L n t d2 c3, ct, hb, d5, v1]
  · refine ⟨-1, D, n, D, ?_, ?_, rfl, rfl, hR⟩
    · rw [dn_X11_canBe, b_X11_canBe_0]
      simp only [z_cd, i10, i11, dnn, rdU, eW, eU, tzC_w, w_shp, w_ptr, Nat.beq_refl, nbz, nb133, nb75, nb55, nb67, n133a, n133b, n75a, n75b, aT, aR, oT, oR, oF, oG, kT, kF, bI, bL, bR, b0, Classical.not_not, not_true_eq_false, not_false_eq_true, and_self, and_true, true_and, ↓reduceIte, decide_true, decide_false, Nat.reduceEqDiff, Nat.reduceLT, Nat.reduceLeDiff, Int.reduceEq, p_trailerAt_n _ D L n a0 c1 ct, p_isWithin, p_isYard]
    · rw [dn_X12_canBe, b_X12_canBe_0]
      simp only [z_cd, i10, i11, dnn, rdU, eW, eU, tzC_w, w_shp, w_ptr, Nat.beq_refl, nbz, nb133, nb75, nb55, nb67, n133a, n133b, n75a, n75b, aT, aR, oT, oR, oF, oG, kT, kF, bI, bL, bR, b0, Classical.not_not, not_true_eq_false, not_false_eq_true, and_self, and_true, true_and, ↓reduceIte, decide_true, decide_false, Nat.reduceEqDiff, Nat.reduceLT, Nat.reduceLeDiff, Int.reduceEq, q_isTrailer _ D L n a0 c2 c3, ct, p_in, q_isYard]
