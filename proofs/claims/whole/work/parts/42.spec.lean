theorem rdU (D : Nat → Int → Int) (a : Nat) (j x : Int) (b : Nat) (k : Int) : tzU D a j x b k = if b = a then (if k = j then x else D b k) else D b k := Eq.trans rfl rfl
theorem n133a (t c : Nat) (h : c < 133) : (133 + t = c) = False := by simp only [eq_iff_iff, iff_false]; omega
theorem n133b (t c : Nat) (h : c < 133) : (c = 133 + t) = False := by simp only [eq_iff_iff, iff_false]; omega
theorem n75a (t c : Nat) (h : c < 75) : (75 + t = c) = False := by simp only [eq_iff_iff, iff_false]; omega
theorem n75b (t c : Nat) (h : c < 75) : (c = 75 + t) = False := by simp only [eq_iff_iff, iff_false]; omega
theorem n75c {k : Nat} (hk : k < 6) (c : Nat) (h : 80 < c) : (75 + k = c) = False := by simp only [eq_iff_iff, iff_false]; omega
theorem n75d {k : Nat} (hk : k < 6) (c : Nat) (h : 80 < c) : (c = 75 + k) = False := by simp only [eq_iff_iff, iff_false]; omega
theorem n75e {k : Nat} (hk : k < 6) (t : Nat) : (75 + k = 133 + t) = False := by simp only [eq_iff_iff, iff_false]; omega
theorem n75f {k : Nat} (hk : k < 6) (t : Nat) : (133 + t = 75 + k) = False := by simp only [eq_iff_iff, iff_false]; omega
def tS (D : Nat → Int → Int) (t : Nat) (a : Int) : Int := if a = 0 then D (133 + t) 0 else if a = 1 then D (133 + t) 3 else if a = 2 then D (133 + t) 4 else if a = 3 then (if D (133 + t) 5 = 0 then 0 else 1) else if a = 4 then D (133 + t) 1 else if a = 5 then D (133 + t) 9 else if a = 6 then D (133 + t) 10 else (if D (133 + t) 6 = 0 then 0 else 1)
def tM (D : Nat → Int → Int) (t : Nat) (a : Int) : Int := if a = 0 then D 93 t else if a = 1 then D 94 t else if a = 2 then D 95 t else if a = 3 then (if D 96 t = 0 then 0 else 1) else if a = 4 then D 97 t else if a = 5 then D 98 t else if a = 6 then D 99 t else (if D 102 t = 0 then 0 else 1)
def kS (D : Nat → Int → Int) (t : Nat) (a : Int) : Int := if a = 0 then D (75 + t) 0 else if a = 1 then D (75 + t) 1 else if a = 2 then D (75 + t) 2 else if a = 3 then D (75 + t) 3 else D (75 + t) 4
def kM (D : Nat → Int → Int) (t : Nat) (a : Int) : Int := if a = 0 then D 105 t else if a = 1 then D 106 t else if a = 2 then D 107 t else if a = 3 then D 108 t else D 109 t
theorem tS_M {D : Nat → Int → Int} {t : Nat} (h : TR D t) (g : LD D t) (a : Int) : tS D t a = tM D t a := by
  obtain ⟨h0, h1, h3, h4, h5, h6, h7, h8, h9, _⟩ := h
  unfold tS tM
  rw [h0, h1, h3, h4, h5, h6, h9, g.1]
theorem kS_M {D : Nat → Int → Int} {n k : Nat} (h : KR D n k) (a : Int) : kS D k a = kM D k a := by
  obtain ⟨h0, h1, h2, h3, h4, _⟩ := h
  unfold kS kM
  rw [h0, h1, h2, h3, h4]
set_option maxRecDepth 100000 in
theorem p_says (d : Nat) (D : Nat → Int → Int) (L n t : Nat) (ht : t < n) (a : Int) : tqden tqP (d + 1) n_X9_says [vR (133 + t), vI a] (tzW D L n) = some (some (vI (tS D t a)), tzW D L n) := by
  rw [dn_X9_says, b_X9_says_0]
  unfold tS
  simp only [z_cd, i10, i11, dnn, rdU, eW, eU, tzC_w, w_shp, w_ptr, Nat.beq_refl, nbz, nb133, nb75, nb55, nb67, n133a, n133b, n75a, n75b, aT, aR, oT, oR, oF, oG, kT, kF, bI, bL, bR, b0, Classical.not_not, not_true_eq_false, not_false_eq_true, and_self, and_true, true_and, ↓reduceIte, decide_true, decide_false, Nat.reduceEqDiff, Int.reduceEq, w_trailer D L n ht]
  repeat' split
  all_goals rfl
set_option maxRecDepth 100000 in
theorem q_tells (d : Nat) (D : Nat → Int → Int) (L n t : Nat) (ht : t < 12) (a : Int) : tqden tqP (d + 1) n_X12_trailerTells [vR 81, vI (t : Int), vI a] (tzW D L n) = some (some (vI (tM D t a)), tzW D L n) := by
  have hb : tqib (t : Int) 12 = true := tqib_y (by omega) (by omega)
  rw [dn_X12_trailerTells, b_X12_trailerTells_0]
  unfold tM
  simp only [z_cd, i10, i11, dnn, rdU, eW, eU, tzC_w, w_shp, w_ptr, Nat.beq_refl, nbz, nb133, nb75, nb55, nb67, n133a, n133b, n75a, n75b, aT, aR, oT, oR, oF, oG, kT, kF, bI, bL, bR, b0, Classical.not_not, not_true_eq_false, not_false_eq_true, and_self, and_true, true_and, ↓reduceIte, decide_true, decide_false, Nat.reduceEqDiff, Int.reduceEq, hb]
  repeat' split
  all_goals rfl
set_option maxRecDepth 100000 in
theorem p_ksays (d : Nat) (D : Nat → Int → Int) (L n k : Nat) (hk : k < 6) (a : Int) : tqden tqP (d + 1) n_X8_says [vR (75 + k), vI a] (tzW D L n) = some (some (vI (kS D k a)), tzW D L n) := by
  rw [dn_X8_says, b_X8_says_0]
  unfold kS
  simp only [z_cd, i10, i11, dnn, rdU, eW, eU, tzC_w, w_shp, w_ptr, Nat.beq_refl, nbz, nb133, nb75, nb55, nb67, n133a, n133b, n75a, n75b, aT, aR, oT, oR, oF, oG, kT, kF, bI, bL, bR, b0, Classical.not_not, not_true_eq_false, not_false_eq_true, and_self, and_true, true_and, ↓reduceIte, decide_true, decide_false, Nat.reduceEqDiff, Int.reduceEq, w_tractor D L n hk]
  repeat' split
  all_goals rfl
set_option maxRecDepth 100000 in
theorem q_ktells (d : Nat) (D : Nat → Int → Int) (L n k : Nat) (hk : k < 6) (a : Int) : tqden tqP (d + 1) n_X12_tractorTells [vR 81, vI (k : Int), vI a] (tzW D L n) = some (some (vI (kM D k a)), tzW D L n) := by
  have hb : tqib (k : Int) 6 = true := tqib_y (by omega) (by omega)
  rw [dn_X12_tractorTells, b_X12_tractorTells_0]
  unfold kM
  simp only [z_cd, i10, i11, dnn, rdU, eW, eU, tzC_w, w_shp, w_ptr, Nat.beq_refl, nbz, nb133, nb75, nb55, nb67, n133a, n133b, n75a, n75b, aT, aR, oT, oR, oF, oG, kT, kF, bI, bL, bR, b0, Classical.not_not, not_true_eq_false, not_false_eq_true, and_self, and_true, true_and, ↓reduceIte, decide_true, decide_false, Nat.reduceEqDiff, Int.reduceEq, hb]
  repeat' split
  all_goals rfl
set_option maxRecDepth 100000 in
theorem p_onWay (d : Nat) (D : Nat → Int → Int) (L n k : Nat) (hk : k < 6) (x : Int) : tqden tqP (d + 1) n_X8_isOnTheWay [vR (75 + k), vI x] (tzW D L n) = some (some (vI (if x < D (75 + k) 1 then 1 else 0)), tzW D L n) := by
  rw [dn_X8_isOnTheWay, b_X8_isOnTheWay_0]
  simp only [z_cd, i10, i11, dnn, rdU, eW, eU, tzC_w, w_shp, w_ptr, Nat.beq_refl, nbz, nb133, nb75, nb55, nb67, n133a, n133b, n75a, n75b, aT, aR, oT, oR, oF, oG, kT, kF, bI, bL, bR, b0, Classical.not_not, not_true_eq_false, not_false_eq_true, and_self, and_true, true_and, ↓reduceIte, decide_true, decide_false, Nat.reduceEqDiff, Int.reduceEq, w_tractor D L n hk]
  by_cases c : x < D (75 + k) 1
  · rw [if_neg (by omega), if_pos c]
  · rw [if_pos (by omega), if_neg c]
set_option maxRecDepth 100000 in
theorem q_onWay (d : Nat) (D : Nat → Int → Int) (L n k : Nat) (hk : k < 6) : tqden tqP (d + 1) n_X12_isOnWay [vR 81, vI (k : Int)] (tzW D L n) = some (some (vI (if D 81 5 < D 106 k then 1 else 0)), tzW D L n) := by
  have hb : tqib (k : Int) 6 = true := tqib_y (by omega) (by omega)
  rw [dn_X12_isOnWay, b_X12_isOnWay_0]
  simp only [z_cd, i10, i11, dnn, rdU, eW, eU, tzC_w, w_shp, w_ptr, Nat.beq_refl, nbz, nb133, nb75, nb55, nb67, n133a, n133b, n75a, n75b, aT, aR, oT, oR, oF, oG, kT, kF, bI, bL, bR, b0, Classical.not_not, not_true_eq_false, not_false_eq_true, and_self, and_true, true_and, ↓reduceIte, decide_true, decide_false, Nat.reduceEqDiff, Int.reduceEq, hb]
  by_cases c : D 81 5 < D 106 k
  · rw [if_neg (by omega), if_pos c]
  · rw [if_pos (by omega), if_neg c]
set_option maxRecDepth 100000 in
theorem p_isFull (d : Nat) (D : Nat → Int → Int) (L n : Nat) : tqden tqP (d + 1) n_X1_isFull [vR 13] (tzW D L n) = some (some (vI (if 60 ≤ D 13 4 then 1 else 0)), tzW D L n) := by
  rw [dn_X1_isFull, b_X1_isFull_0]
  simp only [z_cd, i10, i11, dnn, rdU, eW, eU, tzC_w, w_shp, w_ptr, Nat.beq_refl, nbz, nb133, nb75, nb55, nb67, n133a, n133b, n75a, n75b, aT, aR, oT, oR, oF, oG, kT, kF, bI, bL, bR, b0, Classical.not_not, not_true_eq_false, not_false_eq_true, and_self, and_true, true_and, ↓reduceIte, decide_true, decide_false, Nat.reduceEqDiff, Int.reduceEq]
  by_cases c : 60 ≤ D 13 4
  · rw [if_neg (by omega), if_pos c]
  · rw [if_pos (by omega), if_neg c]
def EN (D : Nat → Int → Int) (t s m h : Int) : Nat → Int → Int := tzU (tzU (tzU (tzU (tzU D 14 (D 13 4) t) 15 (D 13 4) s) 16 (D 13 4) m) 17 (D 13 4) h) 13 4 (D 13 4 + 1)
def EM (D : Nat → Int → Int) (t s b y : Int) : Nat → Int → Int := tzU (tzU (tzU (tzU (tzU (tzU D 110 (D 81 34) t) 111 (D 81 34) s) 112 (D 81 34) (D 81 5)) 113 (D 81 34) b) 114 (D 81 34) y) 81 34 (D 81 34 + 1)
set_option maxRecDepth 100000 in
theorem p_enter (d : Nat) (D : Nat → Int → Int) (L n : Nat) (t s m h : Int) (h0 : 0 ≤ D 13 4) (h1 : D 13 4 < 60) : tqden tqP (d + 2) n_X1_enter [vR 13, vI t, vI s, vI m, vI h] (tzW D L n) = some (none, tzW (EN D t s m h) L n) := by
  have hb : tqib (D 13 4) 60 = true := tqib_y (by omega) (by omega)
  have hc : ¬ 60 ≤ D 13 4 := by omega
  have hw : w32 (D 13 4 + 1) = D 13 4 + 1 := w32_id ⟨by omega, by omega⟩
  rw [dn_X1_enter, b_X1_enter_0]
  unfold EN
  simp only [z_cd, i10, i11, dnn, rdU, eW, eU, tzC_w, w_shp, w_ptr, Nat.beq_refl, nbz, nb133, nb75, nb55, nb67, n133a, n133b, n75a, n75b, aT, aR, oT, oR, oF, oG, kT, kF, bI, bL, bR, b0, Classical.not_not, not_true_eq_false, not_false_eq_true, and_self, and_true, true_and, ↓reduceIte, decide_true, decide_false, Nat.reduceEqDiff, Int.reduceEq, p_isFull, hb, hc, hw]
set_option maxRecDepth 100000 in
theorem q_enter (d : Nat) (D : Nat → Int → Int) (L n : Nat) (t s b y : Int) (h0 : 0 ≤ D 81 34) (h1 : D 81 34 < 60) : tqden tqP (d + 1) n_X12_enter [vR 81, vI t, vI s, vI b, vI y] (tzW D L n) = some (none, tzW (EM D t s b y) L n) := by
  have hb : tqib (D 81 34) 60 = true := tqib_y (by omega) (by omega)
  have hw : w32 (D 81 34 + 1) = D 81 34 + 1 := w32_id ⟨by omega, by omega⟩
  rw [dn_X12_enter, b_X12_enter_0]
  unfold EM
  simp only [z_cd, i10, i11, dnn, rdU, eW, eU, tzC_w, w_shp, w_ptr, Nat.beq_refl, nbz, nb133, nb75, nb55, nb67, n133a, n133b, n75a, n75b, aT, aR, oT, oR, oF, oG, kT, kF, bI, bL, bR, b0, Classical.not_not, not_true_eq_false, not_false_eq_true, and_self, and_true, true_and, ↓reduceIte, decide_true, decide_false, Nat.reduceEqDiff, Int.reduceEq, hb, hw]
set_option maxRecDepth 100000 in
theorem p_isOf (d : Nat) (D : Nat → Int → Int) (L n t : Nat) (ht : t < n) (a : Int) : tqden tqP (d + 1) n_X9_isOf [vR (133 + t), vI a] (tzW D L n) = some (some (vI (if D (133 + t) 0 = a ∨ (D (133 + t) 0 = 3 ∧ a = 1) then 1 else 0)), tzW D L n) := by
  rw [dn_X9_isOf, b_X9_isOf_0]
  simp only [z_cd, i10, i11, dnn, rdU, eW, eU, tzC_w, w_shp, w_ptr, Nat.beq_refl, nbz, nb133, nb75, nb55, nb67, n133a, n133b, n75a, n75b, aT, aR, oT, oR, oF, oG, kT, kF, bI, bL, bR, b0, Classical.not_not, not_true_eq_false, not_false_eq_true, and_self, and_true, true_and, ↓reduceIte, decide_true, decide_false, Nat.reduceEqDiff, Int.reduceEq, w_trailer D L n ht]
  by_cases c1 : D (133 + t) 0 = a
  · simp only [c1, true_or, ↓reduceIte]
  · by_cases c2 : D (133 + t) 0 = 3
    · by_cases c3 : a = 1
      · simp only [c1, c2, c3, true_and, or_true, ↓reduceIte, not_true_eq_false]
        split <;> rfl
      · have e3 : ¬ (3 : Int) = a := by omega
        simp only [c2, c3, e3, and_false, or_self, ↓reduceIte, not_true_eq_false, not_false_eq_true]
    · simp only [c1, c2, false_and, or_self, ↓reduceIte, not_false_eq_true]
set_option maxRecDepth 100000 in
theorem q_isCold (d : Nat) (D : Nat → Int → Int) (L n t : Nat) (ht : t < 12) : tqden tqP (d + 1) n_X12_isCold [vR 81, vI (t : Int)] (tzW D L n) = some (some (vI (if D 93 t = 1 ∨ D 93 t = 3 then 1 else 0)), tzW D L n) := by
  have hb : tqib (t : Int) 12 = true := tqib_y (by omega) (by omega)
  rw [dn_X12_isCold, b_X12_isCold_0]
  simp only [z_cd, i10, i11, dnn, rdU, eW, eU, tzC_w, w_shp, w_ptr, Nat.beq_refl, nbz, nb133, nb75, nb55, nb67, n133a, n133b, n75a, n75b, aT, aR, oT, oR, oF, oG, kT, kF, bI, bL, bR, b0, Classical.not_not, not_true_eq_false, not_false_eq_true, and_self, and_true, true_and, ↓reduceIte, decide_true, decide_false, Nat.reduceEqDiff, Int.reduceEq, hb]
  by_cases c1 : D 93 t = 1
  · simp only [c1, true_or, ↓reduceIte]
  · by_cases c2 : D 93 t = 3
    · simp only [c1, c2, or_true, ↓reduceIte, not_true_eq_false]
      split <;> rfl
    · simp only [c1, c2, or_self, ↓reduceIte, not_false_eq_true]
