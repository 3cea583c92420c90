/-! ===== the reference's toll: eight rounds ===== -/
/-- after a round from T to T': below, sound, and below each step -/
def TSq (D D' : Nat → Int → Int) (a : Int) (Q : Int → Prop) : Prop := Ofq 92 D D' ∧ Snd D' 1 a 0 ∧ (∀ w : Int, 0 ≤ w → w < 8 → D' 92 w ≤ D 92 w) ∧ ∀ y z : Int, 0 ≤ y → y < 8 → 0 ≤ z → z < 8 → Q (8 * y + z) → 0 < D 88 (8 * y + z) → D' 92 z ≤ nxq D 1 (8 * y + z) (D 92 y)
theorem td8 {k : Int} (k0 : 0 ≤ k) (k1 : k < 64) : w32 (k.tdiv 8) = k / 8 ∧ w32 (k.tmod 8) = k % 8 := by
  rw [Int.tdiv_eq_ediv_of_nonneg k0, Int.tmod_eq_emod_of_nonneg k0]
  exact ⟨w32_i (by omega) (by omega), w32_i (by omega) (by omega)⟩
set_option maxRecDepth 100000 in
set_option maxHeartbeats 400000 in
theorem q_t58 (d L n : Nat) (b r : Int) {a : Int} : ∀ (j : Nat) (k : Int) (D : Nat → Int → Int), 0 ≤ k → k + j = 64 → WY D → Snd D 1 a 0 →
    ∃ D', tqrun tqP (d + 2) tqc_X12_toll 58 [vR 81, vU, vI b, vI r, vI k, vU] [] (tzW D L n) = tqrun tqP (d + 2) tqc_X12_toll 49 [vR 81, vU, vI b, vI (w32 (r + 1)), vU, vU] [] (tzW D' L n) ∧ TSq D D' a (fun q => k ≤ q)
  | 0, k, D, k0, kj, w, h => by
    refine ⟨D, ?_, Ofq_r 92 D, h, fun _ _ _ => Int.le_refl _, fun y z y0 y1 z0 z1 q _ => by have q : k ≤ 8 * y + z := q; omega⟩
    have c : 64 ≤ k := by omega
    rw [b_X12_toll_58]
    simp only [z_cd, i10, i11, dnn, rdU, eW, eU, tzC_w, w_shp, w_ptr, Nat.beq_refl, nbz, nb133, nb75, nb55, nb67, n133a, n133b, n75a, n75b, aT, aR, oT, oR, oF, oG, kT, kF, bI, bL, bR, b0, Classical.not_not, not_true_eq_false, not_false_eq_true, and_self, and_true, true_and, ↓reduceIte, decide_true, decide_false, Nat.reduceEqDiff, Nat.reduceLT, Nat.reduceLeDiff, Int.reduceEq, c]
  | j + 1, k, D, k0, kj, w, h => by
    have c : ¬ 64 ≤ k := by omega
    have g := w k k0 (by omega)
    have hb1 : tqib k 64 = true := tqib_y (by omega) (by omega)
    have hb2 : tqib (k / 8) 8 = true := tqib_y (by omega) (by omega)
    have hb3 : tqib (k % 8) 8 = true := tqib_y (by omega) (by omega)
    have gy := Snd_g w (by omega) h (y := k / 8) (by omega) (by omega)
    have gz := Snd_g w (by omega) h (y := k % 8) (by omega) (by omega)
    have ek : 8 * (k / 8) + k % 8 = k := by omega
    have self : tzU D 92 (k % 8) (D 92 (k % 8)) = D := tzUi D 92 (k % 8) _ rfl
    by_cases q1 : D 88 k ≤ 0
    · obtain ⟨D', r1, r2, r3, r4, r5⟩ := q_t58 d L n b r j (k + 1) D (by omega) (by omega) w h
      refine ⟨D', ?_, r2, r3, r4, fun y z y0 y1 z0 z1 q m => ?_⟩
      · have q2 : D 92 (k % 8) ≤ 100000000 := gz.2
        obtain ⟨e1, e3⟩ := td8 k0 (show k < 64 by omega)
        have e2 := w1z k0 (by omega)
        rw [← r1, b_X12_toll_58]
        simp only [z_cd, i10, i11, dnn, rdU, eW, eU, tzC_w, w_shp, w_ptr, Nat.beq_refl, nbz, nb133, nb75, nb55, nb67, n133a, n133b, n75a, n75b, aT, aR, oT, oR, oF, oG, kT, kF, bI, bL, bR, b0, Classical.not_not, not_true_eq_false, not_false_eq_true, and_self, and_true, true_and, ↓reduceIte, decide_true, decide_false, Nat.reduceEqDiff, Nat.reduceLT, Nat.reduceLeDiff, Int.reduceEq, c, hb1, q1]
        rw [b_X12_toll_98]
        simp only [z_cd, i10, i11, dnn, rdU, eW, eU, tzC_w, w_shp, w_ptr, Nat.beq_refl, nbz, nb133, nb75, nb55, nb67, n133a, n133b, n75a, n75b, aT, aR, oT, oR, oF, oG, kT, kF, bI, bL, bR, b0, Classical.not_not, not_true_eq_false, not_false_eq_true, and_self, and_true, true_and, ↓reduceIte, decide_true, decide_false, Nat.reduceEqDiff, Nat.reduceLT, Nat.reduceLeDiff, Int.reduceEq, e1, e3, e2, hb3, q2, self]
      · by_cases e : 8 * y + z = k
        · rw [e] at m; omega
        · exact r5 y z y0 y1 z0 z1 (show k + 1 ≤ 8 * y + z by have q : k ≤ 8 * y + z := q; omega) m
    · have ex : nxq D 1 k (D 92 (k / 8)) = D 92 (k / 8) + D 89 k := nx_t D k _ (by decide)
      by_cases q2 : D 92 (k % 8) ≤ D 92 (k / 8) + D 89 k
      · obtain ⟨D', r1, r2, r3, r4, r5⟩ := q_t58 d L n b r j (k + 1) D (by omega) (by omega) w h
        refine ⟨D', ?_, r2, r3, r4, fun y z y0 y1 z0 z1 q m => ?_⟩
        · have e4 : w32 (D 92 (k / 8) + D 89 k) = D 92 (k / 8) + D 89 k := w32_i (by omega) (by omega)
          obtain ⟨e1, e3⟩ := td8 k0 (show k < 64 by omega)
          have e2 := w1z k0 (by omega)
          rw [← r1, b_X12_toll_58]
          simp only [z_cd, i10, i11, dnn, rdU, eW, eU, tzC_w, w_shp, w_ptr, Nat.beq_refl, nbz, nb133, nb75, nb55, nb67, n133a, n133b, n75a, n75b, aT, aR, oT, oR, oF, oG, kT, kF, bI, bL, bR, b0, Classical.not_not, not_true_eq_false, not_false_eq_true, and_self, and_true, true_and, ↓reduceIte, decide_true, decide_false, Nat.reduceEqDiff, Nat.reduceLT, Nat.reduceLeDiff, Int.reduceEq, c, hb1, hb2, q1, e1, e4]
          rw [b_X12_toll_98]
          simp only [z_cd, i10, i11, dnn, rdU, eW, eU, tzC_w, w_shp, w_ptr, Nat.beq_refl, nbz, nb133, nb75, nb55, nb67, n133a, n133b, n75a, n75b, aT, aR, oT, oR, oF, oG, kT, kF, bI, bL, bR, b0, Classical.not_not, not_true_eq_false, not_false_eq_true, and_self, and_true, true_and, ↓reduceIte, decide_true, decide_false, Nat.reduceEqDiff, Nat.reduceLT, Nat.reduceLeDiff, Int.reduceEq, e3, e2, hb3, q2, self]
        · by_cases e : 8 * y + z = k
          · have ey : k / 8 = y := by omega
            have ez : k % 8 = z := by omega
            rw [e, nx_t D k _ (by decide)]
            rw [ey, ez] at q2
            have := r4 z z0 z1
            omega
          · exact r5 y z y0 y1 z0 z1 (show k + 1 ≤ 8 * y + z by have q : k ≤ 8 * y + z := q; omega) m
      · have sn := Snd_U h (y := k / 8) (z := k % 8) (by omega) (by omega) (by rw [ek]; omega) (by omega) (by rw [ek, ex]; omega) (by omega) (by omega)
        rw [ek, ex] at sn
        have of := Ofq_U D 92 (k % 8) (D 92 (k / 8) + D 89 k)
        have le : ∀ x : Int, tzU D 92 (k % 8) (D 92 (k / 8) + D 89 k) 92 x ≤ D 92 x := fun x => by
          by_cases e : x = k % 8
          · rw [e, tzU_s]; omega
          · rw [tzU_k _ _ _ _ e]; exact Int.le_refl _
        obtain ⟨D', r1, r2, r3, r4, r5⟩ := q_t58 d L n b r j (k + 1) (tzU D 92 (k % 8) (D 92 (k / 8) + D 89 k)) (by omega) (by omega) (Ofq_y of o92 w) sn
        refine ⟨D', ?_, Ofq_t of r2, r3, fun x x0 x1 => ?_, fun y z y0 y1 z0 z1 q m => ?_⟩
        · have e4 : w32 (D 92 (k / 8) + D 89 k) = D 92 (k / 8) + D 89 k := w32_i (by omega) (by omega)
          obtain ⟨e1, e3⟩ := td8 k0 (show k < 64 by omega)
          have e2 := w1z k0 (by omega)
          rw [← r1, b_X12_toll_58]
          simp only [z_cd, i10, i11, dnn, rdU, eW, eU, tzC_w, w_shp, w_ptr, Nat.beq_refl, nbz, nb133, nb75, nb55, nb67, n133a, n133b, n75a, n75b, aT, aR, oT, oR, oF, oG, kT, kF, bI, bL, bR, b0, Classical.not_not, not_true_eq_false, not_false_eq_true, and_self, and_true, true_and, ↓reduceIte, decide_true, decide_false, Nat.reduceEqDiff, Nat.reduceLT, Nat.reduceLeDiff, Int.reduceEq, c, hb1, hb2, q1, e1, e4]
          rw [b_X12_toll_98]
          simp only [z_cd, i10, i11, dnn, rdU, eW, eU, tzC_w, w_shp, w_ptr, Nat.beq_refl, nbz, nb133, nb75, nb55, nb67, n133a, n133b, n75a, n75b, aT, aR, oT, oR, oF, oG, kT, kF, bI, bL, bR, b0, Classical.not_not, not_true_eq_false, not_false_eq_true, and_self, and_true, true_and, ↓reduceIte, decide_true, decide_false, Nat.reduceEqDiff, Nat.reduceLT, Nat.reduceLeDiff, Int.reduceEq, e3, e2, hb3, q2]
        · have := r4 x x0 x1
          have := le x
          omega
        · by_cases e : 8 * y + z = k
          · have ey : k / 8 = y := by omega
            have ez : k % 8 = z := by omega
            rw [e, nx_t D k _ (by decide)]
            have t := r4 z z0 z1
            rw [ez, ey, tzU_s] at t
            exact t
          · have t := r5 y z y0 y1 z0 z1 (show k + 1 ≤ 8 * y + z by have q : k ≤ 8 * y + z := q; omega) (by rw [Ofq_w of o92 88 _ (by omega) (by omega)]; exact m)
            rw [nx_fr (Ofq_w of o92)] at t
            have t2 := nx_mono (D := D) 1 (8 * y + z) (le y)
            omega
set_option maxRecDepth 100000 in
set_option maxHeartbeats 400000 in
theorem q_t49 (d L n : Nat) {a b : Int} (b0 : 0 ≤ b) (b1 : b < 8) : ∀ (j r : Nat) (D : Nat → Int → Int), r + j = 8 → WY D → Snd D 1 a 0 → (∀ y v : Int, 0 ≤ y → y < 8 → Wk D 1 a 0 r y v → D 92 y ≤ v) →
    ∃ D', tqrun tqP (d + 2) tqc_X12_toll 49 [vR 81, vU, vI b, vI (r : Int), vU, vU] [] (tzW D L n) = (if 100000000 ≤ D' 92 b then some (some (vI (-3)), tzW (tzRm D' 1) L n) else some (some (vI (D' 92 b)), tzW D' L n)) ∧ Ofq 92 D D' ∧ Snd D' 1 a 0 ∧ ∀ v : Int, Wk D 1 a 0 8 b v → D' 92 b ≤ v
  | 0, r, D, hr, w, h, g => by
    have e : r = 8 := by omega
    refine ⟨D, ?_, Ofq_r 92 D, h, fun v q => g b v b0 b1 (by rw [e]; exact q)⟩
    have c : (8 : Int) ≤ (r : Int) := by omega
    have hb2 : tqib b 8 = true := tqib_y (by omega) (by omega)
    rw [b_X12_toll_49]
    by_cases q : 100000000 ≤ D 92 b
    · simp only [z_cd, i10, i11, dnn, rdU, eW, eU, tzC_w, w_shp, w_ptr, Nat.beq_refl, nbz, nb133, nb75, nb55, nb67, n133a, n133b, n75a, n75b, aT, aR, oT, oR, oF, oG, kT, kF, bI, bL, bR, b0, Classical.not_not, not_true_eq_false, not_false_eq_true, and_self, and_true, true_and, ↓reduceIte, decide_true, decide_false, Nat.reduceEqDiff, Nat.reduceLT, Nat.reduceLeDiff, Int.reduceEq, c, hb2, q, s_meets _ D L n (f := 1) (by decide) (by decide)]
    · simp only [z_cd, i10, i11, dnn, rdU, eW, eU, tzC_w, w_shp, w_ptr, Nat.beq_refl, nbz, nb133, nb75, nb55, nb67, n133a, n133b, n75a, n75b, aT, aR, oT, oR, oF, oG, kT, kF, bI, bL, bR, b0, Classical.not_not, not_true_eq_false, not_false_eq_true, and_self, and_true, true_and, ↓reduceIte, decide_true, decide_false, Nat.reduceEqDiff, Nat.reduceLT, Nat.reduceLeDiff, Int.reduceEq, c, hb2, q]
  | j + 1, r, D, hr, w, h, g => by
    have c : ¬ (8 : Int) ≤ (r : Int) := by omega
    obtain ⟨D1, r1, r2, r3, r4, r5⟩ := q_t58 d L n b (r : Int) 64 0 D (by omega) (by omega) w h
    have ew := Ofq_w r2 o92
    have ew' := Ofq_w (fun b j q => (r2 b j q).symm) o92
    obtain ⟨D2, u1, u2, u3, u4⟩ := q_t49 d L n b0 b1 j (r + 1) D1 (by omega) (Ofq_y r2 o92 w) r3 (fun y v y0 y1 q => by
      have q := Wk_fr ew' _ _ _ q
      rcases q with q | ⟨x, u, x0, x1, q, m, e⟩
      · have t1 := g y v y0 y1 q
        have t2 := r4 y y0 y1
        omega
      · have t1 := g x u x0 x1 q
        have t2 := r5 x y x0 x1 y0 y1 (show (0 : Int) ≤ 8 * x + y by omega) m
        have t3 := nx_mono (D := D) 1 (8 * x + y) t1
        omega)
    refine ⟨D2, ?_, Ofq_t r2 u2, u3, fun v q => u4 v (Wk_fr ew _ _ _ q)⟩
    have e := w32_s r (by omega)
    rw [e] at r1
    rw [← u1, ← r1, b_X12_toll_49]
    simp only [z_cd, i10, i11, dnn, rdU, eW, eU, tzC_w, w_shp, w_ptr, Nat.beq_refl, nbz, nb133, nb75, nb55, nb67, n133a, n133b, n75a, n75b, aT, aR, oT, oR, oF, oG, kT, kF, bI, bL, bR, b0, Classical.not_not, not_true_eq_false, not_false_eq_true, and_self, and_true, true_and, ↓reduceIte, decide_true, decide_false, Nat.reduceEqDiff, Nat.reduceLT, Nat.reduceLeDiff, Int.reduceEq, c]
set_option maxRecDepth 100000 in
set_option maxHeartbeats 400000 in
theorem q_t18 (d L n : Nat) (a b : Int) : ∀ (j : Nat) (y : Int) (D : Nat → Int → Int), 0 ≤ y → y + j = 8 →
    ∃ D', tqrun tqP (d + 2) tqc_X12_toll 18 [vR 81, vI a, vI b, vI y, vU, vU] [] (tzW D L n) = tqrun tqP (d + 2) tqc_X12_toll 49 [vR 81, vU, vI b, vI 0, vU, vU] [] (tzW D' L n) ∧ Ofq 92 D D' ∧ ∀ w : Int, D' 92 w = if y ≤ w ∧ w < 8 then (if w = a then 0 else 100000000) else D 92 w
  | 0, y, D, y0, yj => by
    refine ⟨D, ?_, Ofq_r 92 D, fun w => ?_⟩
    · have c : 8 ≤ y := by omega
      rw [b_X12_toll_18]
      simp only [z_cd, i10, i11, dnn, rdU, eW, eU, tzC_w, w_shp, w_ptr, Nat.beq_refl, nbz, nb133, nb75, nb55, nb67, n133a, n133b, n75a, n75b, aT, aR, oT, oR, oF, oG, kT, kF, bI, bL, bR, b0, Classical.not_not, not_true_eq_false, not_false_eq_true, and_self, and_true, true_and, ↓reduceIte, decide_true, decide_false, Nat.reduceEqDiff, Nat.reduceLT, Nat.reduceLeDiff, Int.reduceEq, c]
    · rw [if_neg (by omega)]
  | j + 1, y, D, y0, yj => by
    have c : ¬ 8 ≤ y := by omega
    have hb2 : tqib y 8 = true := tqib_y (by omega) (by omega)
    obtain ⟨D', r1, r2, r3⟩ := q_t18 d L n a b j (y + 1) (tzU D 92 y (if y = a then 0 else 100000000)) (by omega) (by omega)
    refine ⟨D', ?_, Ofq_t (Ofq_U _ _ _ _) r2, fun w => ?_⟩
    · have e2 := w1z y0 (by omega)
      by_cases q : y = a
      · have q' : (y = a) = True := eq_true q
        rw [if_pos q] at r1
        rw [← r1, b_X12_toll_18]
        simp only [z_cd, i10, i11, dnn, rdU, eW, eU, tzC_w, w_shp, w_ptr, Nat.beq_refl, nbz, nb133, nb75, nb55, nb67, n133a, n133b, n75a, n75b, aT, aR, oT, oR, oF, oG, kT, kF, bI, bL, bR, b0, Classical.not_not, not_true_eq_false, not_false_eq_true, and_self, and_true, true_and, ↓reduceIte, decide_true, decide_false, Nat.reduceEqDiff, Nat.reduceLT, Nat.reduceLeDiff, Int.reduceEq, c, hb2, e2, q']
      · rw [if_neg q] at r1
        rw [← r1, b_X12_toll_18]
        simp only [z_cd, i10, i11, dnn, rdU, eW, eU, tzC_w, w_shp, w_ptr, Nat.beq_refl, nbz, nb133, nb75, nb55, nb67, n133a, n133b, n75a, n75b, aT, aR, oT, oR, oF, oG, kT, kF, bI, bL, bR, b0, Classical.not_not, not_true_eq_false, not_false_eq_true, and_self, and_true, true_and, ↓reduceIte, decide_true, decide_false, Nat.reduceEqDiff, Nat.reduceLT, Nat.reduceLeDiff, Int.reduceEq, c, hb2, e2, q]
    · rw [r3]
      by_cases e : w = y
      · rw [if_neg (show ¬ (y + 1 ≤ w ∧ w < 8) by omega), if_pos (show y ≤ w ∧ w < 8 by omega), e, tzU_s]
      · rw [tzU_k _ _ _ _ e]
        by_cases q : y + 1 ≤ w ∧ w < 8
        · rw [if_pos q, if_pos (show y ≤ w ∧ w < 8 by omega)]
        · rw [if_neg q, if_neg (show ¬ (y ≤ w ∧ w < 8) by omega)]
set_option maxRecDepth 100000 in
set_option maxHeartbeats 400000 in
theorem q_toll (d L n : Nat) (D : Nat → Int → Int) {a b : Int} (a0 : 0 ≤ a) (a1 : a < 8) (b0 : 0 ≤ b) (b1 : b < 8) (w : WY D) (hd : ∀ y : Int, 0 ≤ y → y < 8 → D 88 (9 * y) = 0) :
    ∃ D', tqrun tqP (d + 2) tqc_X12_toll 18 [vR 81, vI a, vI b, vI 0, vU, vU] [] (tzW D L n) = (if erq D 1 a 0 b = 2147483647 then some (some (vI (-3)), tzW (tzRm D' 1) L n) else some (some (vI (erq D 1 a 0 b)), tzW D' L n)) ∧ Ofq 92 D D' := by
  obtain ⟨D1, r1, r2, r3⟩ := q_t18 d L n a b 8 0 D (by omega) (by omega)
  have sn : Snd D1 1 a 0 := by
    intro y y0 y1
    rw [r3 y, if_pos ⟨y0, y1⟩]
    by_cases e : y = a
    · rw [if_pos e]; exact Or.inr ⟨by omega, 0, e, rfl⟩
    · rw [if_neg e]; exact Or.inl rfl
  have w1 := Ofq_y r2 o92 w
  obtain ⟨D2, u1, u2, u3, u4⟩ := q_t49 d L n b0 b1 8 0 D1 (by omega) w1 sn (fun y v y0 y1 q => by
    rw [r3 y, if_pos ⟨y0, y1⟩, if_pos q.1, q.2]; exact Int.le_refl _)
  have of := Ofq_t r2 u2
  have g := er_ok w hd (bt := 1) (Or.inr rfl) a0 a1 (s := 0) (by omega) (by omega) b0 b1
  have gb := er_b w b0 b1 g
  have e2 := Ofq_w (fun b j q => (of b j q).symm) o92
  have e3 := Ofq_w (fun b j q => (u2 b j q).symm) o92
  have fin := th_er b0 b1 u3 (fun v q => u4 v (Wk_fr e3 _ _ _ q)) (by omega) (IsL_fr e2 g)
  refine ⟨D2, ?_, of⟩
  have zz : ((0 : Nat) : Int) = 0 := rfl
  rw [zz] at u1
  rw [r1, u1, fin]
  unfold nv
  by_cases q : erq D 1 a 0 b = 2147483647
  · rw [if_pos q, if_pos (by omega), if_pos q]
  · rw [if_neg q, if_neg (by omega), if_neg q]
