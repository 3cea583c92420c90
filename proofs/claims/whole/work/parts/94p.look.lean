/-! ===== look: the reference's loop over the yards ===== -/
def Of2 (B D : Nat → Int → Int) : Prop := ∀ (b : Nat) (j : Int), b ≠ 92 → b ≠ 123 → D b j = B b j
set_option maxRecDepth 100000 in
set_option maxHeartbeats 1000000 in
theorem q_129 (d L n : Nat) (B : Nat → Int → Int) (wy : WY B) (hd : ∀ y : Int, 0 ≤ y → y < 8 → B 88 (9 * y) = 0) {T : Int} (T0 : 0 ≤ T) (T1 : T ≤ 9000000) (hT : B 81 5 = T) {yd : Int} (y0 : 0 ≤ yd) (y1 : yd < 8) (r Z gd : Int) {k : Nat} (hk : k < 8) {m ld w : Int} (m0 : 0 ≤ m) (m1 : m ≤ k) (hl : ld = 0 ∨ ld = 1) (D : Nat → Int → Int) (of : Of2 B D) (s0 : Int) :
    ∃ D' m' ld', tqrun tqP (d + 3) tqc_X12_look 129 [vR 81, vU, vI yd, vI r, vI Z, vI gd, vI m, vI ld, vI (k : Int), vI w, vU, vU, vU, vU] [vI s0] (tzW D L n) = tqrun tqP (d + 3) tqc_X12_look 87 [vR 81, vU, vI yd, vI r, vI Z, vI s0, vI m', vI ld', vI ((k + 1 : Nat) : Int), vU, vU, vU, vU, vU] [] (tzW D' L n) ∧ Of2 B D' ∧ (ld' = 0 ∨ ld' = 1) ∧ (¬ (0 < w ∧ hbq Z (k : Int)) → m' = m ∧ ld' = ld ∧ ∀ i : Int, D' 123 i = D 123 i) ∧ (0 < w ∧ hbq Z (k : Int) → m' = m + 1 ∧ (∀ i : Int, D' 123 i = if m < 6 ∧ i = m then (k : Int) else D 123 i) ∧ (ld' = 1 ↔ (ld = 1 ∧ erq B 0 yd T (k : Int) < 2147483647))) := by
  have k0 : 0 ≤ (k : Int) := by omega
  have k1 : (k : Int) < 8 := by omega
  have ek := er_b wy k0 k1 (er_ok wy hd (bt := 0) (Or.inl rfl) y0 y1 T0 (show T ≤ 10000000 by omega) k0 k1)
  have e1 := w32_s k (by omega)
  have em : w32 (m + 1) = m + 1 := w1z m0 (by clear e1; omega)
  by_cases c1 : w ≤ 0
  · refine ⟨D, m, ld, ?_, of, hl, fun _ => ⟨rfl, rfl, fun _ => rfl⟩, fun t => absurd t.1 (by clear e1 em; omega)⟩
    rw [b_X12_look_129]
    simp only [z_cd, i10, i11, dnn, rdU, eW, eU, tzC_w, w_shp, w_ptr, Nat.beq_refl, nbz, nb133, nb75, nb55, nb67, n133a, n133b, n75a, n75b, aT, aR, oT, oR, oF, oG, kT, kF, bI, bL, bR, b0, Classical.not_not, not_true_eq_false, not_false_eq_true, and_self, and_true, true_and, ↓reduceIte, decide_true, decide_false, Nat.reduceEqDiff, Nat.reduceLT, Nat.reduceLeDiff, Int.reduceEq, c1, e1]
  · by_cases c2 : hbq Z (k : Int)
    · have c2' : jand (jshr Z (k : Int)) 1 = 1 := c2
      have P : 0 < w ∧ hbq Z (k : Int) := ⟨by clear e1 em; omega, c2⟩
      by_cases c3 : 6 ≤ m
      · have f3 : ∀ i : Int, D 123 i = if m < 6 ∧ i = m then (k : Int) else D 123 i := fun i => (if_neg (fun t => by clear e1 em; omega)).symm
        rcases hl with hl | hl
        · refine ⟨D, m + 1, 0, ?_, of, Or.inl rfl, fun t => absurd P t, fun _ => ⟨rfl, f3, ⟨fun t => by clear e1 em; omega, fun t => by clear e1 em; omega⟩⟩⟩
          rw [b_X12_look_129]
          simp only [z_cd, i10, i11, dnn, rdU, eW, eU, tzC_w, w_shp, w_ptr, Nat.beq_refl, nbz, nb133, nb75, nb55, nb67, n133a, n133b, n75a, n75b, aT, aR, oT, oR, oF, oG, kT, kF, bI, bL, bR, b0, Classical.not_not, not_true_eq_false, not_false_eq_true, and_self, and_true, true_and, ↓reduceIte, decide_true, decide_false, Nat.reduceEqDiff, Nat.reduceLT, Nat.reduceLeDiff, Int.reduceEq, c1, c2', c3, hl, em, e1]
        · have l0 : ¬ ld = 0 := by clear e1 em; omega
          obtain ⟨D1, v1, v2⟩ := q_comesTo d L n D (a := yd) (s := T) (b := (k : Int)) y0 y1 T0 (by clear e1 em; omega) k0 k1 (WY_fr (fun b j h => of b j (by clear e1 em; omega) (by clear e1 em; omega)) wy) (fun y a b => (of 88 _ (by clear e1 em; omega) (by clear e1 em; omega)).trans (hd y a b))
          have eE : erq D 0 yd T (k : Int) = erq B 0 yd T (k : Int) := er_fr (fun b j b0 b1 => of b j (by clear e1 em; omega) (by clear e1 em; omega)) 0 yd T (k : Int)
          have d5 : D 81 5 = T := (of 81 5 (by clear e1 em; omega) (by clear e1 em; omega)).trans hT
          rw [eE] at v1
          have of1 : Of2 B D1 := fun b j p q => (v2 b j p).trans (of b j p q)
          have g1 : ∀ i : Int, D1 123 i = if m < 6 ∧ i = m then (k : Int) else D 123 i := fun i => (v2 123 i (by clear e1 em; omega)).trans (f3 i)
          by_cases c4 : erq B 0 yd T (k : Int) = 2147483647
          · have en : nv (erq B 0 yd T (k : Int)) = 100000000 := if_pos c4
            rw [en] at v1
            have c5 : (100000000 : Int) ≤ 100000000 := by decide
            refine ⟨D1, m + 1, 0, ?_, of1, Or.inl rfl, fun t => absurd P t, fun _ => ⟨rfl, g1, ⟨fun t => by clear e1 em; omega, fun t => by clear e1 em; omega⟩⟩⟩
            rw [b_X12_look_129]
            simp only [z_cd, i10, i11, dnn, rdU, eW, eU, tzC_w, w_shp, w_ptr, Nat.beq_refl, nbz, nb133, nb75, nb55, nb67, n133a, n133b, n75a, n75b, aT, aR, oT, oR, oF, oG, kT, kF, bI, bL, bR, b0, Classical.not_not, not_true_eq_false, not_false_eq_true, and_self, and_true, true_and, ↓reduceIte, decide_true, decide_false, Nat.reduceEqDiff, Nat.reduceLT, Nat.reduceLeDiff, Int.reduceEq, c1, c2', c3, l0, d5, v1, c5, em, e1]
          · have en : nv (erq B 0 yd T (k : Int)) = erq B 0 yd T (k : Int) := if_neg c4
            rw [en] at v1
            have c5 : ¬ (100000000 : Int) ≤ erq B 0 yd T (k : Int) := by clear e1 em; omega
            refine ⟨D1, m + 1, 1, ?_, of1, Or.inr rfl, fun t => absurd P t, fun _ => ⟨rfl, g1, ⟨fun t => ⟨hl, by clear e1 em; omega⟩, fun t => rfl⟩⟩⟩
            rw [b_X12_look_129]
            simp only [z_cd, i10, i11, dnn, rdU, eW, eU, tzC_w, w_shp, w_ptr, Nat.beq_refl, nbz, nb133, nb75, nb55, nb67, n133a, n133b, n75a, n75b, aT, aR, oT, oR, oF, oG, kT, kF, bI, bL, bR, b0, Classical.not_not, not_true_eq_false, not_false_eq_true, and_self, and_true, true_and, ↓reduceIte, decide_true, decide_false, Nat.reduceEqDiff, Nat.reduceLT, Nat.reduceLeDiff, Int.reduceEq, c1, c2', c3, l0, d5, v1, c5, em, e1]
      · have hb : tqib m 6 = true := tqib_y m0 (by clear e1 em; omega)
        have oU : Of2 B (tzU D 123 m (k : Int)) := fun b j p q => (tzU_o _ _ _ _ q).trans (of b j p q)
        have f3 : ∀ i : Int, tzU D 123 m (k : Int) 123 i = if m < 6 ∧ i = m then (k : Int) else D 123 i := fun i => by
          by_cases q : i = m
          · rw [if_pos ⟨by clear e1 em; omega, q⟩, q, tzU_s]
          · rw [if_neg (fun t => q t.2), tzU_k _ _ _ _ q]
        rcases hl with hl | hl
        · refine ⟨tzU D 123 m (k : Int), m + 1, 0, ?_, oU, Or.inl rfl, fun t => absurd P t, fun _ => ⟨rfl, f3, ⟨fun t => by clear e1 em; omega, fun t => by clear e1 em; omega⟩⟩⟩
          rw [b_X12_look_129]
          simp only [z_cd, i10, i11, dnn, rdU, eW, eU, tzC_w, w_shp, w_ptr, Nat.beq_refl, nbz, nb133, nb75, nb55, nb67, n133a, n133b, n75a, n75b, aT, aR, oT, oR, oF, oG, kT, kF, bI, bL, bR, b0, Classical.not_not, not_true_eq_false, not_false_eq_true, and_self, and_true, true_and, ↓reduceIte, decide_true, decide_false, Nat.reduceEqDiff, Nat.reduceLT, Nat.reduceLeDiff, Int.reduceEq, c1, c2', c3, hb, hl, em, e1]
        · have l0 : ¬ ld = 0 := by clear e1 em; omega
          obtain ⟨X, hX⟩ : ∃ X, X = tzU D 123 m (k : Int) := ⟨_, rfl⟩
          rw [← hX] at oU f3
          obtain ⟨D1, v1, v2⟩ := q_comesTo d L n X (a := yd) (s := T) (b := (k : Int)) y0 y1 T0 (by clear e1 em; omega) k0 k1 (WY_fr (fun b j h => oU b j (by clear e1 em; omega) (by clear e1 em; omega)) wy) (fun y a b => (oU 88 _ (by clear e1 em; omega) (by clear e1 em; omega)).trans (hd y a b))
          have eE : erq X 0 yd T (k : Int) = erq B 0 yd T (k : Int) := er_fr (fun b j b0 b1 => oU b j (by clear e1 em; omega) (by clear e1 em; omega)) 0 yd T (k : Int)
          have d5 : D 81 5 = T := (of 81 5 (by clear e1 em; omega) (by clear e1 em; omega)).trans hT
          rw [eE] at v1
          have of1 : Of2 B D1 := fun b j p q => (v2 b j p).trans (oU b j p q)
          have g1 : ∀ i : Int, D1 123 i = if m < 6 ∧ i = m then (k : Int) else D 123 i := fun i => (v2 123 i (by clear e1 em; omega)).trans (f3 i)
          rw [hX] at v1
          by_cases c4 : erq B 0 yd T (k : Int) = 2147483647
          · have en : nv (erq B 0 yd T (k : Int)) = 100000000 := if_pos c4
            rw [en] at v1
            have c5 : (100000000 : Int) ≤ 100000000 := by decide
            refine ⟨D1, m + 1, 0, ?_, of1, Or.inl rfl, fun t => absurd P t, fun _ => ⟨rfl, g1, ⟨fun t => by clear e1 em; omega, fun t => by clear e1 em; omega⟩⟩⟩
            rw [b_X12_look_129]
            simp only [z_cd, i10, i11, dnn, rdU, eW, eU, tzC_w, w_shp, w_ptr, Nat.beq_refl, nbz, nb133, nb75, nb55, nb67, n133a, n133b, n75a, n75b, aT, aR, oT, oR, oF, oG, kT, kF, bI, bL, bR, b0, Classical.not_not, not_true_eq_false, not_false_eq_true, and_self, and_true, true_and, ↓reduceIte, decide_true, decide_false, Nat.reduceEqDiff, Nat.reduceLT, Nat.reduceLeDiff, Int.reduceEq, c1, c2', c3, hb, l0, d5, v1, c5, em, e1]
          · have en : nv (erq B 0 yd T (k : Int)) = erq B 0 yd T (k : Int) := if_neg c4
            rw [en] at v1
            have c5 : ¬ (100000000 : Int) ≤ erq B 0 yd T (k : Int) := by clear e1 em; omega
            refine ⟨D1, m + 1, 1, ?_, of1, Or.inr rfl, fun t => absurd P t, fun _ => ⟨rfl, g1, ⟨fun t => ⟨hl, by clear e1 em; omega⟩, fun t => rfl⟩⟩⟩
            rw [b_X12_look_129]
            simp only [z_cd, i10, i11, dnn, rdU, eW, eU, tzC_w, w_shp, w_ptr, Nat.beq_refl, nbz, nb133, nb75, nb55, nb67, n133a, n133b, n75a, n75b, aT, aR, oT, oR, oF, oG, kT, kF, bI, bL, bR, b0, Classical.not_not, not_true_eq_false, not_false_eq_true, and_self, and_true, true_and, ↓reduceIte, decide_true, decide_false, Nat.reduceEqDiff, Nat.reduceLT, Nat.reduceLeDiff, Int.reduceEq, c1, c2', c3, hb, l0, d5, v1, c5, em, e1]
    · have c2' : ¬ jand (jshr Z (k : Int)) 1 = 1 := c2
      refine ⟨D, m, ld, ?_, of, hl, fun _ => ⟨rfl, rfl, fun _ => rfl⟩, fun t => absurd t.2 c2⟩
      rw [b_X12_look_129]
      simp only [z_cd, i10, i11, dnn, rdU, eW, eU, tzC_w, w_shp, w_ptr, Nat.beq_refl, nbz, nb133, nb75, nb55, nb67, n133a, n133b, n75a, n75b, aT, aR, oT, oR, oF, oG, kT, kF, bI, bL, bR, b0, Classical.not_not, not_true_eq_false, not_false_eq_true, and_self, and_true, true_and, ↓reduceIte, decide_true, decide_false, Nat.reduceEqDiff, Nat.reduceLT, Nat.reduceLeDiff, Int.reduceEq, c1, c2', e1]
/-- what the loop has found of the yards below k -/
def GIq (W : Int → Int) (Z : Int) (ok : Int → Prop) (D : Nat → Int → Int) (k : Nat) (gd m ld : Int) : Prop :=
  (gd = 0 ∨ gd = 1) ∧ (ld = 0 ∨ ld = 1) ∧ (gd = 1 ↔ ∀ z : Int, 0 ≤ z → z < k → 0 ≤ W z ∧ W z ≤ 100) ∧ (m = scq W Z k ∧ 0 ≤ m ∧ m ≤ k) ∧ (ld = 1 ↔ ∀ z : Int, 0 ≤ z → z < k → 0 < W z ∧ hbq Z z → ok z) ∧
  (∀ i : Int, 0 ≤ i → i < m → i < 6 → 0 ≤ D 123 i ∧ D 123 i < k ∧ 0 < W (D 123 i) ∧ hbq Z (D 123 i)) ∧ (∀ i j : Int, 0 ≤ i → i < j → j < m → j < 6 → D 123 i < D 123 j) ∧ (m ≤ 6 → ∀ z : Int, 0 ≤ z → z < k → 0 < W z ∧ hbq Z z → ∃ i : Int, 0 ≤ i ∧ i < m ∧ D 123 i = z)
theorem GI_n {W : Int → Int} {Z : Int} {ok : Int → Prop} {D D' : Nat → Int → Int} {k : Nat} {gd m ld g' : Int} (h : GIq W Z ok D k gd m ld) (hg : (g' = 0 ∨ g' = 1) ∧ (g' = 1 ↔ (gd = 1 ∧ (0 ≤ W k ∧ W k ≤ 100)))) (P : ¬ (0 < W (k : Int) ∧ hbq Z (k : Int))) (e : ∀ i : Int, D' 123 i = D 123 i) : GIq W Z ok D' (k + 1) g' m ld := by
  obtain ⟨h1, h2, h3, ⟨h4, h4a, h4b⟩, h5, h6, h7, h8⟩ := h
  have sp : ∀ z : Int, 0 ≤ z → z < ((k + 1 : Nat) : Int) → z = k ∨ z < k := fun z _ _ => by omega
  refine ⟨hg.1, h2, ?_, ⟨?_, h4a, by omega⟩, ?_, ?_, ?_, ?_⟩
  · rw [hg.2, h3]
    refine ⟨fun t z z0 z1 => ?_, fun t => ⟨fun z z0 z1 => t z z0 (by omega), t k (by omega) (by omega)⟩⟩
    rcases sp z z0 z1 with q | q
    · rw [q]; exact t.2
    · exact t.1 z z0 q
  · show m = scq W Z k + (if 0 < W (k : Int) ∧ hbq Z (k : Int) then 1 else 0)
    rw [if_neg P]; omega
  · rw [h5]
    refine ⟨fun t z z0 z1 p => ?_, fun t z z0 z1 p => t z z0 (by omega) p⟩
    rcases sp z z0 z1 with q | q
    · rw [q] at p; exact absurd p P
    · exact t z z0 q p
  · intro i i0 i1 i2
    rw [e i]
    obtain ⟨a, b, c⟩ := h6 i i0 i1 i2
    exact ⟨a, by omega, c⟩
  · intro i j a b c c2
    rw [e i, e j]; exact h7 i j a b c c2
  · intro m6 z z0 z1 p
    rcases sp z z0 z1 with q | q
    · rw [q] at p; exact absurd p P
    · obtain ⟨i, i0, i1, ei⟩ := h8 m6 z z0 q p
      exact ⟨i, i0, i1, (e i).trans ei⟩
theorem GI_y {W : Int → Int} {Z : Int} {ok : Int → Prop} {D D' : Nat → Int → Int} {k : Nat} {gd m ld g' l' : Int} (h : GIq W Z ok D k gd m ld) (hg : (g' = 0 ∨ g' = 1) ∧ (g' = 1 ↔ (gd = 1 ∧ (0 ≤ W k ∧ W k ≤ 100)))) (P : 0 < W (k : Int) ∧ hbq Z (k : Int)) (hl : l' = 0 ∨ l' = 1) (hl2 : l' = 1 ↔ (ld = 1 ∧ ok (k : Int))) (e : ∀ i : Int, D' 123 i = if m < 6 ∧ i = m then (k : Int) else D 123 i) : GIq W Z ok D' (k + 1) g' (m + 1) l' := by
  obtain ⟨h1, h2, h3, ⟨h4, h4a, h4b⟩, h5, h6, h7, h8⟩ := h
  have sp : ∀ z : Int, 0 ≤ z → z < ((k + 1 : Nat) : Int) → z = k ∨ z < k := fun z _ _ => by omega
  have en : ∀ i : Int, i ≠ m → D' 123 i = D 123 i := fun i q => (e i).trans (if_neg (fun t => q t.2))
  have ey : m < 6 → D' 123 m = k := fun q => (e m).trans (if_pos ⟨q, rfl⟩)
  refine ⟨hg.1, hl, ?_, ⟨?_, by omega, by omega⟩, ?_, ?_, ?_, ?_⟩
  · rw [hg.2, h3]
    refine ⟨fun t z z0 z1 => ?_, fun t => ⟨fun z z0 z1 => t z z0 (by omega), t k (by omega) (by omega)⟩⟩
    rcases sp z z0 z1 with q | q
    · rw [q]; exact t.2
    · exact t.1 z z0 q
  · show m + 1 = scq W Z k + (if 0 < W (k : Int) ∧ hbq Z (k : Int) then 1 else 0)
    rw [if_pos P]; omega
  · rw [hl2, h5]
    refine ⟨fun t z z0 z1 p => ?_, fun t => ⟨fun z z0 z1 p => t z z0 (by omega) p, t k (by omega) (by omega) P⟩⟩
    rcases sp z z0 z1 with q | q
    · rw [q]; exact t.2
    · exact t.1 z z0 q p
  · intro i i0 i1 i2
    by_cases q : i = m
    · rw [q, ey (by omega)]; exact ⟨by omega, by omega, P⟩
    · rw [en i q]
      obtain ⟨a, b, c⟩ := h6 i i0 (by omega) i2
      exact ⟨a, by omega, c⟩
  · intro i j a b c c2
    rw [en i (by omega)]
    by_cases q : j = m
    · rw [q, ey (by omega)]
      exact (h6 i a (by omega) (by omega)).2.1
    · rw [en j q]; exact h7 i j a b (by omega) c2
  · intro m6 z z0 z1 p
    rcases sp z z0 z1 with q | q
    · exact ⟨m, h4a, by omega, (ey (by omega)).trans q.symm⟩
    · obtain ⟨i, i0, i1, ei⟩ := h8 (by omega) z z0 q p
      exact ⟨i, i0, by omega, (en i (by omega)).trans ei⟩
set_option maxRecDepth 100000 in
set_option maxHeartbeats 1000000 in
theorem q_87s (d L n : Nat) (B : Nat → Int → Int) (wy : WY B) (hd : ∀ y : Int, 0 ≤ y → y < 8 → B 88 (9 * y) = 0) {T : Int} (T0 : 0 ≤ T) (T1 : T ≤ 9000000) (hT : B 81 5 = T) {yd : Int} (y0 : 0 ≤ yd) (y1 : yd < 8) {r : Nat} (hr : r < 6) (W : Int → Int) (hW : ∀ y : Int, 0 ≤ y → y < 8 → B 84 (40 * r + y) = W y) (Z : Int) {k : Nat} (hk : k < 8) {gd m ld : Int} (D : Nat → Int → Int) (of : Of2 B D) (h : GIq W Z (fun z => erq B 0 yd T z < 2147483647) D k gd m ld) :
    ∃ D' g' m' l', tqrun tqP (d + 3) tqc_X12_look 87 [vR 81, vU, vI yd, vI (r : Int), vI Z, vI gd, vI m, vI ld, vI (k : Int), vU, vU, vU, vU, vU] [] (tzW D L n) = tqrun tqP (d + 3) tqc_X12_look 87 [vR 81, vU, vI yd, vI (r : Int), vI Z, vI g', vI m', vI l', vI ((k + 1 : Nat) : Int), vU, vU, vU, vU, vU] [] (tzW D' L n) ∧ Of2 B D' ∧ GIq W Z (fun z => erq B 0 yd T z < 2147483647) D' (k + 1) g' m' l' := by
  obtain ⟨h1, h2, h3, ⟨h4, h4a, h4b⟩, h5, h6, h7, h8⟩ := id h
  have c : ¬ (8 : Int) ≤ (k : Int) := by omega
  have hb : tqib (40 * (r : Int) + k) 240 = true := tqib_y (by omega) (by omega)
  have dw : D 84 (40 * (r : Int) + k) = W k := (of 84 _ (by omega) (by omega)).trans (hW k (by omega) (by omega))
  have w1 := w40r hr (show (0 : Int) ≤ (k : Int) by omega) (by omega)
  have go : ∀ s0 : Int, (s0 = 0 ∨ s0 = 1) ∧ (s0 = 1 ↔ (gd = 1 ∧ (0 ≤ W k ∧ W k ≤ 100))) → tqrun tqP (d + 3) tqc_X12_look 87 [vR 81, vU, vI yd, vI (r : Int), vI Z, vI gd, vI m, vI ld, vI (k : Int), vU, vU, vU, vU, vU] [] (tzW D L n) = tqrun tqP (d + 3) tqc_X12_look 129 [vR 81, vU, vI yd, vI (r : Int), vI Z, vI gd, vI m, vI ld, vI (k : Int), vI (W k), vU, vU, vU, vU] [vI s0] (tzW D L n) → ∃ D' g' m' l', tqrun tqP (d + 3) tqc_X12_look 87 [vR 81, vU, vI yd, vI (r : Int), vI Z, vI gd, vI m, vI ld, vI (k : Int), vU, vU, vU, vU, vU] [] (tzW D L n) = tqrun tqP (d + 3) tqc_X12_look 87 [vR 81, vU, vI yd, vI (r : Int), vI Z, vI g', vI m', vI l', vI ((k + 1 : Nat) : Int), vU, vU, vU, vU, vU] [] (tzW D' L n) ∧ Of2 B D' ∧ GIq W Z (fun z => erq B 0 yd T z < 2147483647) D' (k + 1) g' m' l' := by
    intro s0 hs st
    obtain ⟨D', m', l', r1, r2, r3, r4, r5⟩ := q_129 d L n B wy hd T0 T1 hT y0 y1 (r : Int) Z gd hk (w := W k) h4a h4b h2 D of s0
    by_cases P : 0 < W (k : Int) ∧ hbq Z (k : Int)
    · obtain ⟨a, b, c⟩ := r5 P
      rw [a] at r1
      exact ⟨D', s0, m + 1, l', st.trans r1, r2, GI_y h hs P r3 c b⟩
    · obtain ⟨a, b, c⟩ := r4 P
      rw [a, b] at r1
      exact ⟨D', s0, m, ld, st.trans r1, r2, GI_n h hs P c⟩
  rcases h1 with g | g
  · refine go 0 ⟨Or.inl rfl, ⟨fun t => by clear w1; omega, fun t => by clear w1; omega⟩⟩ ?_
    rw [b_X12_look_87]
    simp only [z_cd, i10, i11, dnn, rdU, eW, eU, tzC_w, w_shp, w_ptr, Nat.beq_refl, nbz, nb133, nb75, nb55, nb67, n133a, n133b, n75a, n75b, aT, aR, oT, oR, oF, oG, kT, kF, bI, bL, bR, b0, Classical.not_not, not_true_eq_false, not_false_eq_true, and_self, and_true, true_and, ↓reduceIte, decide_true, decide_false, Nat.reduceEqDiff, Nat.reduceLT, Nat.reduceLeDiff, Int.reduceEq, c, w1, hb, dw, g]
  · have g0 : ¬ gd = 0 := by clear w1; omega
    by_cases q : 0 ≤ W k ∧ W k ≤ 100
    · refine go 1 ⟨Or.inr rfl, ⟨fun _ => ⟨g, q⟩, fun _ => rfl⟩⟩ ?_
      rw [b_X12_look_87]
      simp only [z_cd, i10, i11, dnn, rdU, eW, eU, tzC_w, w_shp, w_ptr, Nat.beq_refl, nbz, nb133, nb75, nb55, nb67, n133a, n133b, n75a, n75b, aT, aR, oT, oR, oF, oG, kT, kF, bI, bL, bR, b0, Classical.not_not, not_true_eq_false, not_false_eq_true, and_self, and_true, true_and, ↓reduceIte, decide_true, decide_false, Nat.reduceEqDiff, Nat.reduceLT, Nat.reduceLeDiff, Int.reduceEq, c, w1, hb, dw, g0, p_in, q]
    · refine go 0 ⟨Or.inl rfl, ⟨fun t => by clear w1; omega, fun t => absurd t.2 q⟩⟩ ?_
      rw [b_X12_look_87]
      simp only [z_cd, i10, i11, dnn, rdU, eW, eU, tzC_w, w_shp, w_ptr, Nat.beq_refl, nbz, nb133, nb75, nb55, nb67, n133a, n133b, n75a, n75b, aT, aR, oT, oR, oF, oG, kT, kF, bI, bL, bR, b0, Classical.not_not, not_true_eq_false, not_false_eq_true, and_self, and_true, true_and, ↓reduceIte, decide_true, decide_false, Nat.reduceEqDiff, Nat.reduceLT, Nat.reduceLeDiff, Int.reduceEq, c, w1, hb, dw, g0, p_in, q]
theorem q_87 (d L n : Nat) (B : Nat → Int → Int) (wy : WY B) (hd : ∀ y : Int, 0 ≤ y → y < 8 → B 88 (9 * y) = 0) {T : Int} (T0 : 0 ≤ T) (T1 : T ≤ 9000000) (hT : B 81 5 = T) {yd : Int} (y0 : 0 ≤ yd) (y1 : yd < 8) {r : Nat} (hr : r < 6) (W : Int → Int) (hW : ∀ y : Int, 0 ≤ y → y < 8 → B 84 (40 * r + y) = W y) (Z : Int) : ∀ (j k : Nat) (gd m ld : Int) (D : Nat → Int → Int), k + j = 8 → Of2 B D → GIq W Z (fun z => erq B 0 yd T z < 2147483647) D k gd m ld →
    ∃ D' g' m' l', tqrun tqP (d + 3) tqc_X12_look 87 [vR 81, vU, vI yd, vI (r : Int), vI Z, vI gd, vI m, vI ld, vI (k : Int), vU, vU, vU, vU, vU] [] (tzW D L n) = tqrun tqP (d + 3) tqc_X12_look 87 [vR 81, vU, vI yd, vI (r : Int), vI Z, vI g', vI m', vI l', vI 8, vU, vU, vU, vU, vU] [] (tzW D' L n) ∧ Of2 B D' ∧ GIq W Z (fun z => erq B 0 yd T z < 2147483647) D' 8 g' m' l'
  | 0, k, gd, m, ld, D, kj, of, h => by
    have e : k = 8 := by omega
    subst e
    exact ⟨D, gd, m, ld, rfl, of, h⟩
  | j + 1, k, gd, m, ld, D, kj, of, h => by
    obtain ⟨D1, g1, m1, l1, r1, r2, r3⟩ := q_87s d L n B wy hd T0 T1 hT y0 y1 hr W hW Z (k := k) (by omega) D of h
    obtain ⟨D2, g2, m2, l2, s1, s2, s3⟩ := q_87 d L n B wy hd T0 T1 hT y0 y1 hr W hW Z j (k + 1) g1 m1 l1 D1 (by omega) r2 r3
    exact ⟨D2, g2, m2, l2, r1.trans s1, s2, s3⟩
