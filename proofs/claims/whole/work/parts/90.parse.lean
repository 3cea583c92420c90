/-! ===== texts read as terms: the class's signs one by one, the reference's items ===== -/
def Dr (x y : Int) : Prop := (x = y ∧ 0 ≤ y ∧ y ≤ 9999) ∨ (x = -1 ∧ y = -9)
def CTx (D : Nat → Int → Int) (t : Nat) (N : Int) (T : Int → Int) : Prop := D (67 + 2 * t) 1 = N ∧ ∀ i : Int, 0 ≤ i → i < N → D (68 + 2 * t) i = T i
def RTx (E : Nat → Int → Int) (t : Nat) (N : Int) (T : Int → Int) : Prop := ∀ i : Int, 0 ≤ i → i < N → E 87 (40 * t + i) = T i
theorem CTx_o {D D' : Nat → Int → Int} {t : Nat} {N : Int} {T : Int → Int} (o : Ofq 22 D D') (h : CTx D t N T) : CTx D' t N T := ⟨(o _ _ (by omega)).trans h.1, fun i i0 i1 => (o _ _ (by omega)).trans (h.2 i i0 i1)⟩
theorem RTx_o {D D' : Nat → Int → Int} {t : Nat} {N : Int} {T : Int → Int} (o : Ofq 118 D D') (h : RTx D t N T) : RTx D' t N T := fun i i0 i1 => (o _ _ (by omega)).trans (h i i0 i1)
/-- what both come to -/
def Ouq (L n : Nat) (D E : Nat → Int → Int) (c m : Option tqRes) : Prop := ∃ r D' E', c = some (some (vI r), tzW D' L n) ∧ m = some (some (vI r), tzW E' L n) ∧ Ofq 22 D D' ∧ Ofq 118 E E' ∧ ∀ k : Int, 0 ≤ k → k < 18 → Dr (D' 22 k) (E' 118 k)
theorem Ouq_m {L n : Nat} {D E D1 E1 : Nat → Int → Int} {c m : Option tqRes} (o1 : Ofq 22 D D1) (o2 : Ofq 118 E E1) (h : Ouq L n D1 E1 c m) : Ouq L n D E c m := by
  obtain ⟨r, D', E', h1, h2, h3, h4, h5⟩ := h
  exact ⟨r, D', E', h1, h2, Ofq_t o1 h3, Ofq_t o2 h4, h5⟩
def A40 (L n d t : Nat) (N : Int) (T : Int → Int) (j : Nat) : Prop := ∀ (i th dg : Int) (D E : Nat → Int → Int), 0 ≤ i → i + j = N → CTx D t N T → RTx E t N T → (∀ k : Int, 0 ≤ k → k < 18 → Dr (D 22 k) (E 118 k)) → (th = -1 ∨ 4 ≤ dg ∨ i = N ∨ T i < 48 ∨ 57 < T i) →
  Ouq L n D E (tqrun tqP (d + 3) tqc_X7_read 21 [vR 18, vR (67 + 2 * t), vI th, vI 0, vI 0, vI dg, vI i, vU, vU] [] (tzW D L n)) (tqrun tqP (d + 3) tqc_X12_reads 40 [vR 81, vU, vI (40 * (t : Int)), vI N, vI i, vU, vU, vU, vU] [] (tzW E L n))
def A203 (L n d t : Nat) (N : Int) (T : Int → Int) (j : Nat) : Prop := ∀ (i ab dg v : Int) (D E : Nat → Int → Int), 0 ≤ i → i + j = N → CTx D t N T → RTx E t N T → 0 ≤ ab → ab < 18 → (∀ k : Int, 0 ≤ k → k < 18 → k ≠ ab → Dr (D 22 k) (E 118 k)) → 0 ≤ dg → dg ≤ 4 → 0 ≤ v → v ≤ 9999 → (dg ≤ 3 → v ≤ 999) → (dg ≤ 2 → v ≤ 99) → (dg ≤ 1 → v ≤ 9) → (dg = 0 → v = 0 ∧ Dr (D 22 ab) (E 118 ab)) → (¬ dg = 0 → D 22 ab = v) →
  Ouq L n D E (tqrun tqP (d + 3) tqc_X7_read 21 [vR 18, vR (67 + 2 * t), vI ab, vI 0, vI (if dg = 0 then 1 else 0), vI dg, vI i, vU, vU] [] (tzW D L n)) (tqrun tqP (d + 3) tqc_X12_reads 203 [vR 81, vU, vI (40 * (t : Int)), vI N, vI i, vU, vI ab, vI dg, vI v] [] (tzW E L n))
def A140 (L n d t : Nat) (N : Int) (T : Int → Int) (j : Nat) : Prop := ∀ (i b5 bs : Int) (D E : Nat → Int → Int), 0 ≤ i → i + j = N → CTx D t N T → RTx E t N T → (bs = 0 ∨ bs = 8) → (∀ k : Int, 0 ≤ k → k < 18 → Dr (D 22 k) (E 118 k)) →
  Ouq L n D E (tqrun tqP (d + 3) tqc_X7_read 21 [vR 18, vR (67 + 2 * t), vI bs, vI 1, vI 1, vI 0, vI i, vU, vU] [] (tzW D L n)) (tqrun tqP (d + 3) tqc_X12_reads 140 [vR 81, vU, vI (40 * (t : Int)), vI N, vI i, vI b5, vU, vU, vU] [vI bs] (tzW E L n))
set_option maxRecDepth 100000 in
set_option maxHeartbeats 400000 in
theorem p_thing (d : Nat) (v : Int) (m : tqM) : tqden tqP (d + 1) n_X7_thingOf [vI v] m = some (some (vI (if v = 68 then 8 else if v = 70 then 0 else if v = 72 then 16 else if v = 82 then 17 else -1)), m) := by
  rw [dn_X7_thingOf, b_X7_thingOf_0]
  by_cases c1 : v = 68
  · rw [if_pos c1, if_pos c1]
  · rw [if_neg c1, if_neg c1]
    by_cases c2 : v = 70
    · rw [if_pos c2, if_pos c2]
    · rw [if_neg c2, if_neg c2]
      by_cases c3 : v = 72
      · rw [if_pos c3, if_pos c3]
      · rw [if_neg c3, if_neg c3]
        by_cases c4 : v = 82
        · rw [if_pos c4, if_pos c4]
        · rw [if_neg c4, if_neg c4]
theorem w40i {t : Nat} {i : Int} (ht : t < 4) (i0 : 0 ≤ i) (i1 : i < 40) : w32 (40 * (t : Int) + i) = 40 * t + i := w32_i (by omega) (by omega)
theorem w_i1 {i : Int} (i0 : 0 ≤ i) (i1 : i < 40) : w32 (w32 (i + 1) - 1) = i := by
  rw [w32_i (x := i + 1) (by omega) (by omega), w32_i (by omega) (by omega)]; omega
set_option maxRecDepth 100000 in
set_option maxHeartbeats 400000 in
theorem a40 (L n d t : Nat) (ht : t < 4) (N : Int) (hN : N ≤ 40) (T : Int → Int) (hT : ∀ i : Int, 0 ≤ i → i < N → -128 ≤ T i ∧ T i ≤ 127) (j : Nat) (h40 : ∀ j', j = j' + 1 → A40 L n d t N T j') (h203 : ∀ j', j = j' + 1 → A203 L n d t N T j') (h140 : ∀ j', j = j' + 1 → A140 L n d t N T j') : A40 L n d t N T j := by
  intro i th dg D E i0 ij hC hE hr cd
  obtain ⟨q1, q2, q3⟩ := text_sh D L n ht
  have hc1 := hC.1
  match j, h40, h203, h140, ij with
  | 0, _, _, _, ij =>
    have c : N ≤ i := by omega
    refine ⟨-9, D, E, ?_, ?_, Ofq_r _ _, Ofq_r _ _, hr⟩
    · rw [b_X7_read_21]
      simp only [z_cd, i10, i11, dnn, rdU, eW, eU, tzC_w, w_shp, w_ptr, Nat.beq_refl, nbz, nb133, nb75, nb55, nb67, n133a, n133b, n75a, n75b, aT, aR, oT, oR, oF, oG, kT, kF, bI, bL, bR, b0, Classical.not_not, not_true_eq_false, not_false_eq_true, and_self, and_true, true_and, ↓reduceIte, decide_true, decide_false, Nat.reduceEqDiff, Nat.reduceLT, Nat.reduceLeDiff, Int.reduceEq, q1, hc1, c]
    · rw [b_X12_reads_40]
      simp only [z_cd, i10, i11, dnn, rdU, eW, eU, tzC_w, w_shp, w_ptr, Nat.beq_refl, nbz, nb133, nb75, nb55, nb67, n133a, n133b, n75a, n75b, aT, aR, oT, oR, oF, oG, kT, kF, bI, bL, bR, b0, Classical.not_not, not_true_eq_false, not_false_eq_true, and_self, and_true, true_and, ↓reduceIte, decide_true, decide_false, Nat.reduceEqDiff, Nat.reduceLT, Nat.reduceLeDiff, Int.reduceEq, c]
  | j' + 1, h40, h203, h140, ij =>
    have c : ¬ N ≤ i := by omega
    have cT := hC.2 i i0 (by omega)
    have eT := hE i i0 (by omega)
    have hb1 : tqib i 40 = true := tqib_y (by omega) (by omega)
    have hb2 : tqib (40 * (t : Int) + i) 160 = true := tqib_y (by omega) (by omega)
    have b40 := h40 j' rfl
    have b203 := h203 j' rfl
    have b140 := h140 j' rfl
    have tr := hT i i0 (by omega)
    by_cases cd2 : T i < 48 ∨ 57 < T i
    · have cls : tqrun tqP (d + 3) tqc_X7_read 21 [vR 18, vR (67 + 2 * t), vI th, vI 0, vI 0, vI dg, vI i, vU, vU] [] (tzW D L n) = tqrun tqP (d + 3) tqc_X7_read 133 [vR 18, vR (67 + 2 * t), vI th, vI 0, vI 0, vI dg, vI i, vI (T i), vI 0] [] (tzW D L n) := by
        rw [b_X7_read_21]
        by_cases x : T i < 48
        · simp only [z_cd, i10, i11, dnn, rdU, eW, eU, tzC_w, w_shp, w_ptr, Nat.beq_refl, nbz, nb133, nb75, nb55, nb67, n133a, n133b, n75a, n75b, aT, aR, oT, oR, oF, oG, kT, kF, bI, bL, bR, b0, Classical.not_not, not_true_eq_false, not_false_eq_true, and_self, and_true, true_and, ↓reduceIte, decide_true, decide_false, Nat.reduceEqDiff, Nat.reduceLT, Nat.reduceLeDiff, Int.reduceEq, q1, q2, q3, hc1, c, cT, hb1, x, b_X7_read_58]
        · have y : 57 < T i := by omega
          simp only [z_cd, i10, i11, dnn, rdU, eW, eU, tzC_w, w_shp, w_ptr, Nat.beq_refl, nbz, nb133, nb75, nb55, nb67, n133a, n133b, n75a, n75b, aT, aR, oT, oR, oF, oG, kT, kF, bI, bL, bR, b0, Classical.not_not, not_true_eq_false, not_false_eq_true, and_self, and_true, true_and, ↓reduceIte, decide_true, decide_false, Nat.reduceEqDiff, Nat.reduceLT, Nat.reduceLeDiff, Int.reduceEq, q1, q2, q3, hc1, c, cT, hb1, x, y, b_X7_read_58]
      rw [cls]
      by_cases k32 : T i = 32
      · have e1 := w1z i0 (by omega)
        have e2 := w40i ht i0 (by clear e1; omega)
        have R := b40 (i + 1) (-1) 0 D E (by clear e1 e2; omega) (by clear e1 e2; omega) hC hE hr (Or.inl rfl)
        rw [k32] at eT
        rw [k32, b_X7_read_133, b_X12_reads_40]
        simp only [z_cd, i10, i11, dnn, rdU, eW, eU, tzC_w, w_shp, w_ptr, Nat.beq_refl, nbz, nb133, nb75, nb55, nb67, n133a, n133b, n75a, n75b, aT, aR, oT, oR, oF, oG, kT, kF, bI, bL, bR, b0, Classical.not_not, not_true_eq_false, not_false_eq_true, and_self, and_true, true_and, ↓reduceIte, decide_true, decide_false, Nat.reduceEqDiff, Nat.reduceLT, Nat.reduceLeDiff, Int.reduceEq, p_thing, b_X7_read_176, e1, e2, c, hb2, eT, Int.reduceNeg]
        exact R
      · by_cases k70 : T i = 70
        · have e1 := w1z i0 (by omega)
          have e2 := w40i ht i0 (by clear e1; omega)
          have R := b140 (i + 1) 70 0 D E (by clear e1 e2; omega) (by clear e1 e2; omega) hC hE (Or.inl rfl) hr
          rw [k70] at eT
          rw [k70, b_X7_read_133, b_X12_reads_40]
          simp only [z_cd, i10, i11, dnn, rdU, eW, eU, tzC_w, w_shp, w_ptr, Nat.beq_refl, nbz, nb133, nb75, nb55, nb67, n133a, n133b, n75a, n75b, aT, aR, oT, oR, oF, oG, kT, kF, bI, bL, bR, b0, Classical.not_not, not_true_eq_false, not_false_eq_true, and_self, and_true, true_and, ↓reduceIte, decide_true, decide_false, Nat.reduceEqDiff, Nat.reduceLT, Nat.reduceLeDiff, Int.reduceEq, p_thing, b_X7_read_176, e1, e2, c, hb2, eT, b_X12_reads_103, Int.reduceNeg]
          exact R
        · by_cases k68 : T i = 68
          · have e1 := w1z i0 (by omega)
            have e2 := w40i ht i0 (by clear e1; omega)
            have R := b140 (i + 1) 68 8 D E (by clear e1 e2; omega) (by clear e1 e2; omega) hC hE (Or.inr rfl) hr
            rw [k68] at eT
            rw [k68, b_X7_read_133, b_X12_reads_40]
            simp only [z_cd, i10, i11, dnn, rdU, eW, eU, tzC_w, w_shp, w_ptr, Nat.beq_refl, nbz, nb133, nb75, nb55, nb67, n133a, n133b, n75a, n75b, aT, aR, oT, oR, oF, oG, kT, kF, bI, bL, bR, b0, Classical.not_not, not_true_eq_false, not_false_eq_true, and_self, and_true, true_and, ↓reduceIte, decide_true, decide_false, Nat.reduceEqDiff, Nat.reduceLT, Nat.reduceLeDiff, Int.reduceEq, p_thing, b_X7_read_176, e1, e2, c, hb2, eT, b_X12_reads_103, Int.reduceNeg]
            exact R
          · by_cases k72 : T i = 72
            · have e1 := w1z i0 (by omega)
              have e2 := w40i ht i0 (by clear e1; omega)
              have R := b203 (i + 1) 16 0 0 D E (by clear e1 e2; omega) (by clear e1 e2; omega) hC hE (by decide) (by decide) (fun k k0 k1 _ => hr k k0 k1) (by decide) (by decide) (by decide) (by decide) (fun _ => by decide) (fun _ => by decide) (fun _ => by decide) (fun _ => ⟨rfl, hr 16 (by decide) (by decide)⟩) (fun x => absurd rfl x)
              rw [if_pos rfl] at R
              rw [k72] at eT
              rw [k72, b_X7_read_133, b_X12_reads_40]
              simp only [z_cd, i10, i11, dnn, rdU, eW, eU, tzC_w, w_shp, w_ptr, Nat.beq_refl, nbz, nb133, nb75, nb55, nb67, n133a, n133b, n75a, n75b, aT, aR, oT, oR, oF, oG, kT, kF, bI, bL, bR, b0, Classical.not_not, not_true_eq_false, not_false_eq_true, and_self, and_true, true_and, ↓reduceIte, decide_true, decide_false, Nat.reduceEqDiff, Nat.reduceLT, Nat.reduceLeDiff, Int.reduceEq, p_thing, b_X7_read_176, e1, e2, c, hb2, eT, b_X12_reads_103, b_X12_reads_140, Int.reduceNeg, Int.reduceLE]
              exact R
            · by_cases k82 : T i = 82
              · have e1 := w1z i0 (by omega)
                have e2 := w40i ht i0 (by clear e1; omega)
                have R := b203 (i + 1) 17 0 0 D E (by clear e1 e2; omega) (by clear e1 e2; omega) hC hE (by decide) (by decide) (fun k k0 k1 _ => hr k k0 k1) (by decide) (by decide) (by decide) (by decide) (fun _ => by decide) (fun _ => by decide) (fun _ => by decide) (fun _ => ⟨rfl, hr 17 (by decide) (by decide)⟩) (fun x => absurd rfl x)
                rw [if_pos rfl] at R
                rw [k82] at eT
                rw [k82, b_X7_read_133, b_X12_reads_40]
                simp only [z_cd, i10, i11, dnn, rdU, eW, eU, tzC_w, w_shp, w_ptr, Nat.beq_refl, nbz, nb133, nb75, nb55, nb67, n133a, n133b, n75a, n75b, aT, aR, oT, oR, oF, oG, kT, kF, bI, bL, bR, b0, Classical.not_not, not_true_eq_false, not_false_eq_true, and_self, and_true, true_and, ↓reduceIte, decide_true, decide_false, Nat.reduceEqDiff, Nat.reduceLT, Nat.reduceLeDiff, Int.reduceEq, p_thing, b_X7_read_176, e1, e2, c, hb2, eT, b_X12_reads_103, b_X12_reads_140, Int.reduceNeg, Int.reduceLE]
                exact R
              · have e2 := w40i ht i0 (by omega)
                have e3 := w_i1 i0 (by clear e2; omega)
                refine ⟨i, D, E, ?_, ?_, Ofq_r _ _, Ofq_r _ _, hr⟩
                · rw [b_X7_read_133]
                  simp only [z_cd, i10, i11, dnn, rdU, eW, eU, tzC_w, w_shp, w_ptr, Nat.beq_refl, nbz, nb133, nb75, nb55, nb67, n133a, n133b, n75a, n75b, aT, aR, oT, oR, oF, oG, kT, kF, bI, bL, bR, b0, Classical.not_not, not_true_eq_false, not_false_eq_true, and_self, and_true, true_and, ↓reduceIte, decide_true, decide_false, Nat.reduceEqDiff, Nat.reduceLT, Nat.reduceLeDiff, Int.reduceEq, p_thing, k32, k70, k68, k72, k82]
                · rw [b_X12_reads_40]
                  simp only [z_cd, i10, i11, dnn, rdU, eW, eU, tzC_w, w_shp, w_ptr, Nat.beq_refl, nbz, nb133, nb75, nb55, nb67, n133a, n133b, n75a, n75b, aT, aR, oT, oR, oF, oG, kT, kF, bI, bL, bR, b0, Classical.not_not, not_true_eq_false, not_false_eq_true, and_self, and_true, true_and, ↓reduceIte, decide_true, decide_false, Nat.reduceEqDiff, Nat.reduceLT, Nat.reduceLeDiff, Int.reduceEq, e2, c, hb2, eT, k32, k70, k68, k72, k82, e3]
    · have x : ¬ T i < 48 := by omega
      have y : ¬ 57 < T i := by omega
      have k32 : ¬ T i = 32 := by omega
      have k70 : ¬ T i = 70 := by omega
      have k68 : ¬ T i = 68 := by omega
      have k72 : ¬ T i = 72 := by omega
      have k82 : ¬ T i = 82 := by omega
      have e2 := w40i ht i0 (by omega)
      have e3 := w_i1 i0 (by clear e2; omega)
      refine ⟨i, D, E, ?_, ?_, Ofq_r _ _, Ofq_r _ _, hr⟩
      · rw [b_X7_read_21]
        by_cases z : th = -1
        · simp only [z_cd, i10, i11, dnn, rdU, eW, eU, tzC_w, w_shp, w_ptr, Nat.beq_refl, nbz, nb133, nb75, nb55, nb67, n133a, n133b, n75a, n75b, aT, aR, oT, oR, oF, oG, kT, kF, bI, bL, bR, b0, Classical.not_not, not_true_eq_false, not_false_eq_true, and_self, and_true, true_and, ↓reduceIte, decide_true, decide_false, Nat.reduceEqDiff, Nat.reduceLT, Nat.reduceLeDiff, Int.reduceEq, q1, q2, q3, hc1, c, cT, hb1, x, y, b_X7_read_58, z, b_X7_read_133, p_thing, k32, k70, k68, k72, k82]
        · have z2 : 4 ≤ dg := by clear e2 e3; omega
          simp only [z_cd, i10, i11, dnn, rdU, eW, eU, tzC_w, w_shp, w_ptr, Nat.beq_refl, nbz, nb133, nb75, nb55, nb67, n133a, n133b, n75a, n75b, aT, aR, oT, oR, oF, oG, kT, kF, bI, bL, bR, b0, Classical.not_not, not_true_eq_false, not_false_eq_true, and_self, and_true, true_and, ↓reduceIte, decide_true, decide_false, Nat.reduceEqDiff, Nat.reduceLT, Nat.reduceLeDiff, Int.reduceEq, q1, q2, q3, hc1, c, cT, hb1, x, y, b_X7_read_58, z, z2, b_X7_read_133, p_thing, k32, k70, k68, k72, k82]
      · rw [b_X12_reads_40]
        simp only [z_cd, i10, i11, dnn, rdU, eW, eU, tzC_w, w_shp, w_ptr, Nat.beq_refl, nbz, nb133, nb75, nb55, nb67, n133a, n133b, n75a, n75b, aT, aR, oT, oR, oF, oG, kT, kF, bI, bL, bR, b0, Classical.not_not, not_true_eq_false, not_false_eq_true, and_self, and_true, true_and, ↓reduceIte, decide_true, decide_false, Nat.reduceEqDiff, Nat.reduceLT, Nat.reduceLeDiff, Int.reduceEq, e2, c, hb2, eT, k32, k70, k68, k72, k82, e3]
set_option maxRecDepth 100000 in
set_option maxHeartbeats 400000 in
theorem p_addDigit (d : Nat) (D : Nat → Int → Int) (L n : Nat) (th dg x : Int) (t0 : 0 ≤ th) (t1 : th < 18) : tqden tqP (d + 1) n_X7_addDigit [vR 18, vI th, vI dg, vI x] (tzW D L n) = some (none, tzW (tzU D 22 th (if dg = 0 then x else w32 (w32 (10 * D 22 th) + x))) L n) := by
  have c1 : ¬ th < 0 := by omega
  have c2 : ¬ 18 ≤ th := by omega
  have hb : tqib th 18 = true := tqib_y (by omega) (by omega)
  rw [dn_X7_addDigit, b_X7_addDigit_0]
  by_cases z : dg = 0
  · simp only [z_cd, i10, i11, dnn, rdU, eW, eU, tzC_w, w_shp, w_ptr, Nat.beq_refl, nbz, nb133, nb75, nb55, nb67, n133a, n133b, n75a, n75b, aT, aR, oT, oR, oF, oG, kT, kF, bI, bL, bR, b0, Classical.not_not, not_true_eq_false, not_false_eq_true, and_self, and_true, true_and, ↓reduceIte, decide_true, decide_false, Nat.reduceEqDiff, Nat.reduceLT, Nat.reduceLeDiff, Int.reduceEq, c1, c2, hb, z]
  · simp only [z_cd, i10, i11, dnn, rdU, eW, eU, tzC_w, w_shp, w_ptr, Nat.beq_refl, nbz, nb133, nb75, nb55, nb67, n133a, n133b, n75a, n75b, aT, aR, oT, oR, oF, oG, kT, kF, bI, bL, bR, b0, Classical.not_not, not_true_eq_false, not_false_eq_true, and_self, and_true, true_and, ↓reduceIte, decide_true, decide_false, Nat.reduceEqDiff, Nat.reduceLT, Nat.reduceLeDiff, Int.reduceEq, c1, c2, hb, z]
set_option maxRecDepth 100000 in
set_option maxHeartbeats 400000 in
theorem a203 (L n d t : Nat) (ht : t < 4) (N : Int) (hN : N ≤ 40) (T : Int → Int) (hT : ∀ i : Int, 0 ≤ i → i < N → -128 ≤ T i ∧ T i ≤ 127) (j : Nat) (h40 : A40 L n d t N T j) (h203 : ∀ j', j = j' + 1 → A203 L n d t N T j') : A203 L n d t N T j := by
  intro i ab dg v D E i0 ij hC hE ab0 ab1 hr dg0 dg4 v0 v1 v3 v2 vv z0 z1
  obtain ⟨q1, q2, q3⟩ := text_sh D L n ht
  have hc1 := hC.1
  have hba : tqib ab 18 = true := tqib_y (by omega) (by omega)
  have oE : Ofq 118 E (tzU E 118 ab v) := Ofq_U E 118 ab v
  have rel : ¬ dg = 0 → ∀ k : Int, 0 ≤ k → k < 18 → Dr (D 22 k) (tzU E 118 ab v 118 k) := fun z k k0 k1 => by
    by_cases e : k = ab
    · rw [e, tzU_s, z1 z]; exact Or.inl ⟨rfl, v0, v1⟩
    · rw [tzU_k _ _ _ _ e]; exact hr k k0 k1 e
  have rel0 : dg = 0 → ∀ k : Int, 0 ≤ k → k < 18 → Dr (D 22 k) (E 118 k) := fun z k k0 k1 => by
    by_cases e : k = ab
    · rw [e]; exact (z0 z).2
    · exact hr k k0 k1 e
  have go40 : ¬ dg = 0 → (4 ≤ dg ∨ i = N ∨ T i < 48 ∨ 57 < T i) → Ouq L n D E (tqrun tqP (d + 3) tqc_X7_read 21 [vR 18, vR (67 + 2 * t), vI ab, vI 0, vI 0, vI dg, vI i, vU, vU] [] (tzW D L n)) (tqrun tqP (d + 3) tqc_X12_reads 40 [vR 81, vU, vI (40 * (t : Int)), vI N, vI i, vU, vU, vU, vU] [] (tzW (tzU E 118 ab v) L n)) := fun z cd =>
    Ouq_m (Ofq_r 22 D) oE (h40 i ab dg D (tzU E 118 ab v) i0 ij hC (RTx_o oE hE) (rel z) (Or.inr cd))
  by_cases c : N ≤ i
  · by_cases z : dg = 0
    · rw [if_pos z]
      refine ⟨i, D, E, ?_, ?_, Ofq_r _ _, Ofq_r _ _, rel0 z⟩
      · have e : N = i := by omega
        rw [b_X7_read_21]
        simp only [z_cd, i10, i11, dnn, rdU, eW, eU, tzC_w, w_shp, w_ptr, Nat.beq_refl, nbz, nb133, nb75, nb55, nb67, n133a, n133b, n75a, n75b, aT, aR, oT, oR, oF, oG, kT, kF, bI, bL, bR, b0, Classical.not_not, not_true_eq_false, not_false_eq_true, and_self, and_true, true_and, ↓reduceIte, decide_true, decide_false, Nat.reduceEqDiff, Nat.reduceLT, Nat.reduceLeDiff, Int.reduceEq, q1, hc1, c]
        rw [e]
      · rw [b_X12_reads_203]
        simp only [z_cd, i10, i11, dnn, rdU, eW, eU, tzC_w, w_shp, w_ptr, Nat.beq_refl, nbz, nb133, nb75, nb55, nb67, n133a, n133b, n75a, n75b, aT, aR, oT, oR, oF, oG, kT, kF, bI, bL, bR, b0, Classical.not_not, not_true_eq_false, not_false_eq_true, and_self, and_true, true_and, ↓reduceIte, decide_true, decide_false, Nat.reduceEqDiff, Nat.reduceLT, Nat.reduceLeDiff, Int.reduceEq, c, z]
    · rw [if_neg z]
      have R := go40 z (Or.inr (Or.inl (by omega)))
      rw [b_X12_reads_203]
      simp only [z_cd, i10, i11, dnn, rdU, eW, eU, tzC_w, w_shp, w_ptr, Nat.beq_refl, nbz, nb133, nb75, nb55, nb67, n133a, n133b, n75a, n75b, aT, aR, oT, oR, oF, oG, kT, kF, bI, bL, bR, b0, Classical.not_not, not_true_eq_false, not_false_eq_true, and_self, and_true, true_and, ↓reduceIte, decide_true, decide_false, Nat.reduceEqDiff, Nat.reduceLT, Nat.reduceLeDiff, Int.reduceEq, c, z, hba]
      exact R
  · have cT := hC.2 i i0 (by omega)
    have eT := hE i i0 (by omega)
    have tr := hT i i0 (by omega)
    have hb1 : tqib i 40 = true := tqib_y (by omega) (by omega)
    have hb2 : tqib (40 * (t : Int) + i) 160 = true := tqib_y (by omega) (by omega)
    by_cases f : 4 ≤ dg
    · have z : ¬ dg = 0 := by omega
      rw [if_neg z]
      have R := go40 z (Or.inl f)
      rw [b_X12_reads_203]
      simp only [z_cd, i10, i11, dnn, rdU, eW, eU, tzC_w, w_shp, w_ptr, Nat.beq_refl, nbz, nb133, nb75, nb55, nb67, n133a, n133b, n75a, n75b, aT, aR, oT, oR, oF, oG, kT, kF, bI, bL, bR, b0, Classical.not_not, not_true_eq_false, not_false_eq_true, and_self, and_true, true_and, ↓reduceIte, decide_true, decide_false, Nat.reduceEqDiff, Nat.reduceLT, Nat.reduceLeDiff, Int.reduceEq, c, f, z, hba]
      exact R
    · by_cases dgt : 48 ≤ T i ∧ T i ≤ 57
      · obtain ⟨j', hj⟩ : ∃ j' : Nat, j = j' + 1 := ⟨j - 1, by omega⟩
        have b203 := h203 j' hj
        have x : ¬ T i < 48 := by omega
        have y : ¬ 57 < T i := by omega
        have na : ¬ ab = -1 := by omega
        have vd : 0 ≤ 10 * v + (T i - 48) ∧ 10 * v + (T i - 48) ≤ 9999 ∧ (dg + 1 ≤ 3 → 10 * v + (T i - 48) ≤ 999) ∧ (dg + 1 ≤ 2 → 10 * v + (T i - 48) ≤ 99) ∧ (dg + 1 ≤ 1 → 10 * v + (T i - 48) ≤ 9) := by
          refine ⟨by omega, by omega, fun h => by omega, fun h => by omega, fun h => by have := (z0 (by omega)).1; omega⟩
        have wx : w32 (T i - 48) = T i - 48 := w32_i (by omega) (by omega)
        have val : (if dg = 0 then T i - 48 else w32 (w32 (10 * D 22 ab) + (T i - 48))) = 10 * v + (T i - 48) := by
          clear wx
          by_cases z : dg = 0
          · rw [if_pos z, (z0 z).1]; omega
          · rw [if_neg z, z1 z, w32_i (x := 10 * v) (by omega) (by omega), w32_i (by omega) (by omega)]
        have oD : Ofq 22 D (tzU D 22 ab (10 * v + (T i - 48))) := Ofq_U _ _ _ _
        have R := b203 (i + 1) ab (dg + 1) (10 * v + (T i - 48)) (tzU D 22 ab (10 * v + (T i - 48))) E (by clear wx val; omega) (by clear wx val; omega) (CTx_o oD hC) hE ab0 ab1 (fun k k0 k1 ne => by rw [tzU_k _ _ _ _ ne]; exact hr k k0 k1 ne) (by clear wx val; omega) (by clear wx val; omega) vd.1 vd.2.1 vd.2.2.1 vd.2.2.2.1 vd.2.2.2.2 (fun h => by clear wx val; omega) (fun _ => tzU_s _ _ _ _)
        rw [if_neg (show ¬ dg + 1 = 0 by clear wx val; omega)] at R
        have pa := p_addDigit (d + 1) D L n ab dg (T i - 48) ab0 ab1
        rw [val] at pa
        have e1 := w1z i0 (by clear wx val; omega)
        have e2 := w40i ht i0 (by clear wx val e1; omega)
        have e4 : w32 (dg + 1) = dg + 1 := w32_i (by clear wx val e1 e2; omega) (by clear wx val e1 e2; omega)
        have e5 : w32 (w32 (w32 (10 * v) + T i) - 48) = 10 * v + (T i - 48) := by
          clear wx val e1 e2 e4
          rw [w32_i (x := 10 * v) (by omega) (by omega), w32_i (x := 10 * v + T i) (by omega) (by omega), w32_i (by omega) (by omega)]; omega
        refine Ouq_m oD (Ofq_r _ _) ?_
        have cls : tqrun tqP (d + 3) tqc_X7_read 21 [vR 18, vR (67 + 2 * t), vI ab, vI 0, vI (if dg = 0 then 1 else 0), vI dg, vI i, vU, vU] [] (tzW D L n) = tqrun tqP (d + 3) tqc_X7_read 21 [vR 18, vR (67 + 2 * t), vI ab, vI 0, vI 0, vI (dg + 1), vI (i + 1), vU, vU] [] (tzW (tzU D 22 ab (10 * v + (T i - 48))) L n) := by
          rw [b_X7_read_21]
          simp only [z_cd, i10, i11, dnn, rdU, eW, eU, tzC_w, w_shp, w_ptr, Nat.beq_refl, nbz, nb133, nb75, nb55, nb67, n133a, n133b, n75a, n75b, aT, aR, oT, oR, oF, oG, kT, kF, bI, bL, bR, b0, Classical.not_not, not_true_eq_false, not_false_eq_true, and_self, and_true, true_and, ↓reduceIte, decide_true, decide_false, Nat.reduceEqDiff, Nat.reduceLT, Nat.reduceLeDiff, Int.reduceEq, q1, q2, q3, hc1, c, cT, hb1, x, y, b_X7_read_58, na, f, wx, pa, e1, e4]
        have ref : tqrun tqP (d + 3) tqc_X12_reads 203 [vR 81, vU, vI (40 * (t : Int)), vI N, vI i, vU, vI ab, vI dg, vI v] [] (tzW E L n) = tqrun tqP (d + 3) tqc_X12_reads 203 [vR 81, vU, vI (40 * (t : Int)), vI N, vI (i + 1), vU, vI ab, vI (dg + 1), vI (10 * v + (T i - 48))] [] (tzW E L n) := by
          rw [b_X12_reads_203]
          simp only [z_cd, i10, i11, dnn, rdU, eW, eU, tzC_w, w_shp, w_ptr, Nat.beq_refl, nbz, nb133, nb75, nb55, nb67, n133a, n133b, n75a, n75b, aT, aR, oT, oR, oF, oG, kT, kF, bI, bL, bR, b0, Classical.not_not, not_true_eq_false, not_false_eq_true, and_self, and_true, true_and, ↓reduceIte, decide_true, decide_false, Nat.reduceEqDiff, Nat.reduceLT, Nat.reduceLeDiff, Int.reduceEq, c, f, e2, hb2, eT, q_isDigit, dgt, e1, e4, e5]
        rw [cls, ref]
        exact R
      · have e2 := w40i ht i0 (by omega)
        by_cases z : dg = 0
        · rw [if_pos z]
          refine ⟨i, D, E, ?_, ?_, Ofq_r _ _, Ofq_r _ _, rel0 z⟩
          · rw [b_X7_read_21]
            by_cases x : T i < 48
            · simp only [z_cd, i10, i11, dnn, rdU, eW, eU, tzC_w, w_shp, w_ptr, Nat.beq_refl, nbz, nb133, nb75, nb55, nb67, n133a, n133b, n75a, n75b, aT, aR, oT, oR, oF, oG, kT, kF, bI, bL, bR, b0, Classical.not_not, not_true_eq_false, not_false_eq_true, and_self, and_true, true_and, ↓reduceIte, decide_true, decide_false, Nat.reduceEqDiff, Nat.reduceLT, Nat.reduceLeDiff, Int.reduceEq, q1, q2, q3, hc1, c, cT, hb1, x, b_X7_read_58, b_X7_read_133]
            · have y : 57 < T i := by clear e2; omega
              simp only [z_cd, i10, i11, dnn, rdU, eW, eU, tzC_w, w_shp, w_ptr, Nat.beq_refl, nbz, nb133, nb75, nb55, nb67, n133a, n133b, n75a, n75b, aT, aR, oT, oR, oF, oG, kT, kF, bI, bL, bR, b0, Classical.not_not, not_true_eq_false, not_false_eq_true, and_self, and_true, true_and, ↓reduceIte, decide_true, decide_false, Nat.reduceEqDiff, Nat.reduceLT, Nat.reduceLeDiff, Int.reduceEq, q1, q2, q3, hc1, c, cT, hb1, x, y, b_X7_read_58, b_X7_read_133]
          · rw [b_X12_reads_203]
            simp only [z_cd, i10, i11, dnn, rdU, eW, eU, tzC_w, w_shp, w_ptr, Nat.beq_refl, nbz, nb133, nb75, nb55, nb67, n133a, n133b, n75a, n75b, aT, aR, oT, oR, oF, oG, kT, kF, bI, bL, bR, b0, Classical.not_not, not_true_eq_false, not_false_eq_true, and_self, and_true, true_and, ↓reduceIte, decide_true, decide_false, Nat.reduceEqDiff, Nat.reduceLT, Nat.reduceLeDiff, Int.reduceEq, c, f, e2, hb2, eT, q_isDigit, dgt, z, ite_self]
        · rw [if_neg z]
          have R := go40 z (Or.inr (Or.inr (by clear e2; omega)))
          rw [b_X12_reads_203]
          simp only [z_cd, i10, i11, dnn, rdU, eW, eU, tzC_w, w_shp, w_ptr, Nat.beq_refl, nbz, nb133, nb75, nb55, nb67, n133a, n133b, n75a, n75b, aT, aR, oT, oR, oF, oG, kT, kF, bI, bL, bR, b0, Classical.not_not, not_true_eq_false, not_false_eq_true, and_self, and_true, true_and, ↓reduceIte, decide_true, decide_false, Nat.reduceEqDiff, Nat.reduceLT, Nat.reduceLeDiff, Int.reduceEq, c, f, e2, hb2, eT, q_isDigit, dgt, z, hba]
          exact R
set_option maxRecDepth 100000 in
set_option maxHeartbeats 400000 in
theorem a140 (L n d t : Nat) (ht : t < 4) (N : Int) (hN : N ≤ 40) (T : Int → Int) (hT : ∀ i : Int, 0 ≤ i → i < N → -128 ≤ T i ∧ T i ≤ 127) (j : Nat) (h203 : ∀ j', j = j' + 1 → A203 L n d t N T j') : A140 L n d t N T j := by
  intro i b5 bs D E i0 ij hC hE hbs hr
  obtain ⟨q1, q2, q3⟩ := text_sh D L n ht
  have hc1 := hC.1
  have c16 : ¬ 16 ≤ bs := by omega
  by_cases c : N ≤ i
  · have e : i = N := by omega
    refine ⟨i, D, E, ?_, ?_, Ofq_r _ _, Ofq_r _ _, hr⟩
    · rw [b_X7_read_21]
      simp only [z_cd, i10, i11, dnn, rdU, eW, eU, tzC_w, w_shp, w_ptr, Nat.beq_refl, nbz, nb133, nb75, nb55, nb67, n133a, n133b, n75a, n75b, aT, aR, oT, oR, oF, oG, kT, kF, bI, bL, bR, b0, Classical.not_not, not_true_eq_false, not_false_eq_true, and_self, and_true, true_and, ↓reduceIte, decide_true, decide_false, Nat.reduceEqDiff, Nat.reduceLT, Nat.reduceLeDiff, Int.reduceEq, q1, hc1, c]
      rw [e]
    · rw [b_X12_reads_140]
      have e' : (i = N) = True := eq_true e
      simp only [z_cd, i10, i11, dnn, rdU, eW, eU, tzC_w, w_shp, w_ptr, Nat.beq_refl, nbz, nb133, nb75, nb55, nb67, n133a, n133b, n75a, n75b, aT, aR, oT, oR, oF, oG, kT, kF, bI, bL, bR, b0, Classical.not_not, not_true_eq_false, not_false_eq_true, and_self, and_true, true_and, ↓reduceIte, decide_true, decide_false, Nat.reduceEqDiff, Nat.reduceLT, Nat.reduceLeDiff, Int.reduceEq, c16, e']
  · have cT := hC.2 i i0 (by omega)
    have eT := hE i i0 (by omega)
    have tr := hT i i0 (by omega)
    have hb1 : tqib i 40 = true := tqib_y (by omega) (by omega)
    have hb2 : tqib (40 * (t : Int) + i) 160 = true := tqib_y (by omega) (by omega)
    have ne : ¬ i = N := by omega
    by_cases g : 48 ≤ T i ∧ T i ≤ 55
    · obtain ⟨j', hj⟩ : ∃ j' : Nat, j = j' + 1 := ⟨j - 1, by omega⟩
      have x : ¬ T i < 48 := by omega
      have y : ¬ 57 < T i := by omega
      have gy : 0 ≤ T i - 48 ∧ T i - 48 ≤ 7 := by omega
      have R := h203 j' hj (i + 1) (bs + (T i - 48)) 0 0 D E (by omega) (by omega) hC hE (by omega) (by omega) (fun k k0 k1 _ => hr k k0 k1) (by omega) (by omega) (by omega) (by omega) (fun _ => by decide) (fun _ => by decide) (fun _ => by decide) (fun _ => ⟨rfl, hr _ (by omega) (by omega)⟩) (fun h => absurd rfl h)
      rw [if_pos rfl] at R
      have wx : w32 (T i - 48) = T i - 48 := w32_i (by omega) (by omega)
      have wb : w32 (bs + (T i - 48)) = bs + (T i - 48) := w32_i (by clear wx; omega) (by clear wx; omega)
      have e1 := w1z i0 (by clear wx wb; omega)
      have e2 := w40i ht i0 (by clear wx wb e1; omega)
      rw [b_X7_read_21, b_X12_reads_140]
      simp only [z_cd, i10, i11, dnn, rdU, eW, eU, tzC_w, w_shp, w_ptr, Nat.beq_refl, nbz, nb133, nb75, nb55, nb67, n133a, n133b, n75a, n75b, aT, aR, oT, oR, oF, oG, kT, kF, bI, bL, bR, b0, Classical.not_not, not_true_eq_false, not_false_eq_true, and_self, and_true, true_and, ↓reduceIte, decide_true, decide_false, Nat.reduceEqDiff, Nat.reduceLT, Nat.reduceLeDiff, Int.reduceEq, q1, q2, q3, hc1, c, cT, hb1, x, y, b_X7_read_58, wx, p_isYard, gy, wb, e1, c16, ne, e2, hb2, eT, p_in, g]
      exact R
    · have e2 := w40i ht i0 (by omega)
      refine ⟨i, D, E, ?_, ?_, Ofq_r _ _, Ofq_r _ _, hr⟩
      · rw [b_X7_read_21]
        by_cases x : T i < 48
        · simp only [z_cd, i10, i11, dnn, rdU, eW, eU, tzC_w, w_shp, w_ptr, Nat.beq_refl, nbz, nb133, nb75, nb55, nb67, n133a, n133b, n75a, n75b, aT, aR, oT, oR, oF, oG, kT, kF, bI, bL, bR, b0, Classical.not_not, not_true_eq_false, not_false_eq_true, and_self, and_true, true_and, ↓reduceIte, decide_true, decide_false, Nat.reduceEqDiff, Nat.reduceLT, Nat.reduceLeDiff, Int.reduceEq, q1, q2, q3, hc1, c, cT, hb1, x, b_X7_read_58]
        · by_cases y : 57 < T i
          · simp only [z_cd, i10, i11, dnn, rdU, eW, eU, tzC_w, w_shp, w_ptr, Nat.beq_refl, nbz, nb133, nb75, nb55, nb67, n133a, n133b, n75a, n75b, aT, aR, oT, oR, oF, oG, kT, kF, bI, bL, bR, b0, Classical.not_not, not_true_eq_false, not_false_eq_true, and_self, and_true, true_and, ↓reduceIte, decide_true, decide_false, Nat.reduceEqDiff, Nat.reduceLT, Nat.reduceLeDiff, Int.reduceEq, q1, q2, q3, hc1, c, cT, hb1, x, y, b_X7_read_58]
          · have gy : ¬ (0 ≤ T i - 48 ∧ T i - 48 ≤ 7) := by clear e2; omega
            have wx : w32 (T i - 48) = T i - 48 := w32_i (by clear e2; omega) (by clear e2; omega)
            simp only [z_cd, i10, i11, dnn, rdU, eW, eU, tzC_w, w_shp, w_ptr, Nat.beq_refl, nbz, nb133, nb75, nb55, nb67, n133a, n133b, n75a, n75b, aT, aR, oT, oR, oF, oG, kT, kF, bI, bL, bR, b0, Classical.not_not, not_true_eq_false, not_false_eq_true, and_self, and_true, true_and, ↓reduceIte, decide_true, decide_false, Nat.reduceEqDiff, Nat.reduceLT, Nat.reduceLeDiff, Int.reduceEq, q1, q2, q3, hc1, c, cT, hb1, x, y, b_X7_read_58, wx, p_isYard, gy]
      · rw [b_X12_reads_140]
        simp only [z_cd, i10, i11, dnn, rdU, eW, eU, tzC_w, w_shp, w_ptr, Nat.beq_refl, nbz, nb133, nb75, nb55, nb67, n133a, n133b, n75a, n75b, aT, aR, oT, oR, oF, oG, kT, kF, bI, bL, bR, b0, Classical.not_not, not_true_eq_false, not_false_eq_true, and_self, and_true, true_and, ↓reduceIte, decide_true, decide_false, Nat.reduceEqDiff, Nat.reduceLT, Nat.reduceLeDiff, Int.reduceEq, c16, ne, e2, hb2, eT, p_in, g]
theorem a_all (L n d t : Nat) (ht : t < 4) (N : Int) (hN : N ≤ 40) (T : Int → Int) (hT : ∀ i : Int, 0 ≤ i → i < N → -128 ≤ T i ∧ T i ≤ 127) : ∀ j : Nat, A40 L n d t N T j ∧ A203 L n d t N T j ∧ A140 L n d t N T j
  | 0 => by
    have x := a40 L n d t ht N hN T hT 0 (fun j' h => by omega) (fun j' h => by omega) (fun j' h => by omega)
    exact ⟨x, a203 L n d t ht N hN T hT 0 x (fun j' h => by omega), a140 L n d t ht N hN T hT 0 (fun j' h => by omega)⟩
  | j + 1 => by
    obtain ⟨y1, y2, y3⟩ := a_all L n d t ht N hN T hT j
    have k1 : ∀ j', j + 1 = j' + 1 → A40 L n d t N T j' := fun j' h => (Nat.succ.inj h) ▸ y1
    have k2 : ∀ j', j + 1 = j' + 1 → A203 L n d t N T j' := fun j' h => (Nat.succ.inj h) ▸ y2
    have k3 : ∀ j', j + 1 = j' + 1 → A140 L n d t N T j' := fun j' h => (Nat.succ.inj h) ▸ y3
    have x := a40 L n d t ht N hN T hT (j + 1) k1 k2 k3
    exact ⟨x, a203 L n d t ht N hN T hT (j + 1) x k2, a140 L n d t ht N hN T hT (j + 1) k2⟩
