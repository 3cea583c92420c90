/-! ===== look: the reference's next order ===== -/
def noi (o : Int → Int) : Nat → Int → Int
  | 0, i => i
  | f + 1, i => if i < 0 then i else if o i ≤ o (i + 1) then i else noi o f (i - 1)
def noj (o : Int → Int) (x : Int) : Nat → Int → Int
  | 0, j => j
  | f + 1, j => if x ≤ o j then j else noj o x f (j - 1)
def swo (o : Int → Int) (a b : Int) : Int → Int := fun k => if k = b then o a else if k = a then o b else o k
def norv (o : Int → Int) : Nat → Int → Int → Int → Int
  | 0, _, _ => o
  | f + 1, a, b => if b ≤ a then o else norv (swo o a b) f (a + 1) (b - 1)
def nxo (o : Int → Int) (N : Int) : Int → Int := norv (swo o (noi o 6 (N - 2)) (noj o (o (noi o 6 (N - 2))) 7 (N - 1))) 6 (noi o 6 (N - 2) + 1) (N - 1)
def lf6 (l : List Int) : Int → Int := fun k => l.getD k.toNat 0
def chk6 (N : Nat) : List (List Int) → Bool
  | [] => true
  | l :: r => (match r with
    | [] => decide (noi (lf6 l) 6 ((N : Int) - 2) < 0)
    | l' :: _ => decide (¬ noi (lf6 l) 6 ((N : Int) - 2) < 0) && decide ((List.range N).map (fun k : Nat => nxo (lf6 l) (N : Int) ((k : Nat) : Int)) = l')) && chk6 N r
set_option maxRecDepth 100000 in
theorem nx_dec : ∀ N : Fin 7, chk6 N.val (ordq N.val (2 ^ N.val - 1)) = true ∧ (ordq N.val (2 ^ N.val - 1)).head? = some ((List.range N.val).map (fun k : Nat => ((k : Nat) : Int))) := by decide +kernel
theorem swo_U (D : Nat → Int → Int) (a b k : Int) : tzU (tzU D 124 a (D 124 b)) 124 b (D 124 a) 124 k = swo (D 124) a b k := by
  unfold swo
  by_cases e : k = b
  · rw [if_pos e, e, tzU_s]
  · rw [if_neg e, tzU_k _ _ _ _ e]
    by_cases e2 : k = a
    · rw [if_pos e2, e2, tzU_s]
    · rw [if_neg e2, tzU_k _ _ _ _ e2]
theorem w_1m {x : Int} (x0 : -5 ≤ x) (x1 : x ≤ 1000) : w32 (x + (-1)) = x - 1 := (w32_i (x := x + (-1)) (by omega) (by omega)).trans (by omega)
set_option maxRecDepth 100000 in
set_option maxHeartbeats 1000000 in
theorem q_no4 (d L n : Nat) (D : Nat → Int → Int) {N : Int} (N1 : N ≤ 6) : ∀ (f : Nat) (i : Int), i < f → i + 2 ≤ N →
    (noi (D 124) f i < 0 → tqrun tqP (d + 1) tqc_X12_nextOrder 4 [vR 81, vI N, vI i, vU, vU, vU, vU, vU] [] (tzW D L n) = some (some (vI 0), tzW D L n)) ∧ (¬ noi (D 124) f i < 0 → noi (D 124) f i ≤ i ∧ tqrun tqP (d + 1) tqc_X12_nextOrder 4 [vR 81, vI N, vI i, vU, vU, vU, vU, vU] [] (tzW D L n) = tqrun tqP (d + 1) tqc_X12_nextOrder 41 [vR 81, vI N, vI (noi (D 124) f i), vI (w32 (N - 1)), vU, vU, vU, vU] [] (tzW D L n))
  | 0, i, fi, iN => by
    have c : i < 0 := by omega
    have c2 : ¬ 0 ≤ i := by omega
    refine ⟨fun _ => ?_, fun t => absurd c t⟩
    rw [b_X12_nextOrder_4]
    simp only [z_cd, i10, i11, dnn, rdU, eW, eU, tzC_w, w_shp, w_ptr, Nat.beq_refl, nbz, nb133, nb75, nb55, nb67, n133a, n133b, n75a, n75b, aT, aR, oT, oR, oF, oG, kT, kF, bI, bL, bR, b0, Classical.not_not, not_true_eq_false, not_false_eq_true, and_self, and_true, true_and, ↓reduceIte, decide_true, decide_false, Nat.reduceEqDiff, Nat.reduceLT, Nat.reduceLeDiff, Int.reduceEq, c, c2]
  | f + 1, i, fi, iN => by
    by_cases c : i < 0
    · have e : noi (D 124) (f + 1) i = i := if_pos c
      have c2 : ¬ 0 ≤ i := by omega
      rw [e]
      refine ⟨fun _ => ?_, fun t => absurd c t⟩
      rw [b_X12_nextOrder_4]
      simp only [z_cd, i10, i11, dnn, rdU, eW, eU, tzC_w, w_shp, w_ptr, Nat.beq_refl, nbz, nb133, nb75, nb55, nb67, n133a, n133b, n75a, n75b, aT, aR, oT, oR, oF, oG, kT, kF, bI, bL, bR, b0, Classical.not_not, not_true_eq_false, not_false_eq_true, and_self, and_true, true_and, ↓reduceIte, decide_true, decide_false, Nat.reduceEqDiff, Nat.reduceLT, Nat.reduceLeDiff, Int.reduceEq, c, c2]
    · have c2 : 0 ≤ i := by omega
      have h1 : tqib i 6 = true := tqib_y (by omega) (by omega)
      have h2 : tqib (i + 1) 6 = true := tqib_y (by omega) (by omega)
      by_cases q : D 124 i ≤ D 124 (i + 1)
      · have e : noi (D 124) (f + 1) i = i := (if_neg c).trans (if_pos q)
        rw [e]
        refine ⟨fun t => absurd t c, fun _ => ⟨Int.le_refl _, ?_⟩⟩
        have e1 := w1z c2 (by omega)
        rw [b_X12_nextOrder_4]
        simp only [z_cd, i10, i11, dnn, rdU, eW, eU, tzC_w, w_shp, w_ptr, Nat.beq_refl, nbz, nb133, nb75, nb55, nb67, n133a, n133b, n75a, n75b, aT, aR, oT, oR, oF, oG, kT, kF, bI, bL, bR, b0, Classical.not_not, not_true_eq_false, not_false_eq_true, and_self, and_true, true_and, ↓reduceIte, decide_true, decide_false, Nat.reduceEqDiff, Nat.reduceLT, Nat.reduceLeDiff, Int.reduceEq, c, c2, e1, h1, h2, q]
      · have e : noi (D 124) (f + 1) i = noi (D 124) f (i - 1) := (if_neg c).trans (if_neg q)
        rw [e]
        have r := q_no4 d L n D N1 f (i - 1) (by omega) (by omega)
        have e1 := w1z c2 (by omega)
        have e2 := w_1m (x := i) (by clear e1; omega) (by clear e1; omega)
        have st : tqrun tqP (d + 1) tqc_X12_nextOrder 4 [vR 81, vI N, vI i, vU, vU, vU, vU, vU] [] (tzW D L n) = tqrun tqP (d + 1) tqc_X12_nextOrder 4 [vR 81, vI N, vI (i - 1), vU, vU, vU, vU, vU] [] (tzW D L n) := by
          rw [b_X12_nextOrder_4]
          simp only [z_cd, i10, i11, dnn, rdU, eW, eU, tzC_w, w_shp, w_ptr, Nat.beq_refl, nbz, nb133, nb75, nb55, nb67, n133a, n133b, n75a, n75b, aT, aR, oT, oR, oF, oG, kT, kF, bI, bL, bR, b0, Classical.not_not, not_true_eq_false, not_false_eq_true, and_self, and_true, true_and, ↓reduceIte, decide_true, decide_false, Nat.reduceEqDiff, Nat.reduceLT, Nat.reduceLeDiff, Int.reduceEq, c, c2, e1, e2, h1, h2, q]
        exact ⟨fun t => st.trans (r.1 t), fun t => ⟨by have := (r.2 t).1; clear e1 e2; omega, st.trans (r.2 t).2⟩⟩
set_option maxRecDepth 100000 in
set_option maxHeartbeats 1000000 in
theorem q_no41 (d L n : Nat) (D : Nat → Int → Int) {N i : Int} (N1 : N ≤ 6) (i0 : 0 ≤ i) (iN : i + 2 ≤ N) : ∀ (f : Nat) (j : Int), j - i < f → i ≤ j → j < N →
    (i ≤ noj (D 124) (D 124 i) f j ∧ noj (D 124) (D 124 i) f j < N) ∧ tqrun tqP (d + 1) tqc_X12_nextOrder 41 [vR 81, vI N, vI i, vI j, vU, vU, vU, vU] [] (tzW D L n) = tqrun tqP (d + 1) tqc_X12_nextOrder 100 [vR 81, vU, vU, vU, vU, vI (i + 1), vI (N - 1), vU] [] (tzW (tzU (tzU D 124 i (D 124 (noj (D 124) (D 124 i) f j))) 124 (noj (D 124) (D 124 i) f j) (D 124 i)) L n)
  | 0, j, jf, ij, jN => by omega
  | f + 1, j, jf, ij, jN => by
    have h1 : tqib i 6 = true := tqib_y (by omega) (by omega)
    have h2 : tqib j 6 = true := tqib_y (by omega) (by omega)
    by_cases q : D 124 i ≤ D 124 j
    · have e : noj (D 124) (D 124 i) (f + 1) j = j := if_pos q
      rw [e]
      refine ⟨⟨ij, jN⟩, ?_⟩
      have e1 := w1z i0 (by omega)
      have e2 : w32 (N - 1) = N - 1 := w32_i (by clear e1; omega) (by clear e1; omega)
      rw [b_X12_nextOrder_41]
      simp only [z_cd, i10, i11, dnn, rdU, eW, eU, tzC_w, w_shp, w_ptr, Nat.beq_refl, nbz, nb133, nb75, nb55, nb67, n133a, n133b, n75a, n75b, aT, aR, oT, oR, oF, oG, kT, kF, bI, bL, bR, b0, Classical.not_not, not_true_eq_false, not_false_eq_true, and_self, and_true, true_and, ↓reduceIte, decide_true, decide_false, Nat.reduceEqDiff, Nat.reduceLT, Nat.reduceLeDiff, Int.reduceEq, h1, h2, q, e1, e2]
    · have e : noj (D 124) (D 124 i) (f + 1) j = noj (D 124) (D 124 i) f (j - 1) := if_neg q
      rw [e]
      have ne : j ≠ i := fun t => q (by rw [t]; exact Int.le_refl _)
      have r := q_no41 d L n D N1 i0 iN f (j - 1) (by omega) (by omega) (by omega)
      refine ⟨r.1, ?_⟩
      have e2 := w_1m (x := j) (by omega) (by omega)
      rw [← r.2, b_X12_nextOrder_41]
      simp only [z_cd, i10, i11, dnn, rdU, eW, eU, tzC_w, w_shp, w_ptr, Nat.beq_refl, nbz, nb133, nb75, nb55, nb67, n133a, n133b, n75a, n75b, aT, aR, oT, oR, oF, oG, kT, kF, bI, bL, bR, b0, Classical.not_not, not_true_eq_false, not_false_eq_true, and_self, and_true, true_and, ↓reduceIte, decide_true, decide_false, Nat.reduceEqDiff, Nat.reduceLT, Nat.reduceLeDiff, Int.reduceEq, h1, h2, q, e2]
set_option maxRecDepth 100000 in
set_option maxHeartbeats 1000000 in
theorem q_no100 (d L n : Nat) : ∀ (f : Nat) (a b : Int) (D : Nat → Int → Int), b - a ≤ f → 0 ≤ a → a ≤ 6 → -1 ≤ b → b < 6 →
    ∃ D', tqrun tqP (d + 1) tqc_X12_nextOrder 100 [vR 81, vU, vU, vU, vU, vI a, vI b, vU] [] (tzW D L n) = some (some (vI 1), tzW D' L n) ∧ Ofq 124 D D' ∧ ∀ k : Int, D' 124 k = norv (D 124) f a b k
  | 0, a, b, D, f0, a0, a1, b0', b1 => by
    have c : b ≤ a := by omega
    refine ⟨D, ?_, Ofq_r _ _, fun k => rfl⟩
    rw [b_X12_nextOrder_100]
    simp only [z_cd, i10, i11, dnn, rdU, eW, eU, tzC_w, w_shp, w_ptr, Nat.beq_refl, nbz, nb133, nb75, nb55, nb67, n133a, n133b, n75a, n75b, aT, aR, oT, oR, oF, oG, kT, kF, bI, bL, bR, b0, Classical.not_not, not_true_eq_false, not_false_eq_true, and_self, and_true, true_and, ↓reduceIte, decide_true, decide_false, Nat.reduceEqDiff, Nat.reduceLT, Nat.reduceLeDiff, Int.reduceEq, c]
  | f + 1, a, b, D, f0, a0, a1, b0', b1 => by
    by_cases c : b ≤ a
    · refine ⟨D, ?_, Ofq_r _ _, fun k => ?_⟩
      · rw [b_X12_nextOrder_100]
        simp only [z_cd, i10, i11, dnn, rdU, eW, eU, tzC_w, w_shp, w_ptr, Nat.beq_refl, nbz, nb133, nb75, nb55, nb67, n133a, n133b, n75a, n75b, aT, aR, oT, oR, oF, oG, kT, kF, bI, bL, bR, b0, Classical.not_not, not_true_eq_false, not_false_eq_true, and_self, and_true, true_and, ↓reduceIte, decide_true, decide_false, Nat.reduceEqDiff, Nat.reduceLT, Nat.reduceLeDiff, Int.reduceEq, c]
      · have e : norv (D 124) (f + 1) a b = D 124 := if_pos c
        rw [e]
    · have h1 : tqib a 6 = true := tqib_y (by omega) (by omega)
      have h2 : tqib b 6 = true := tqib_y (by omega) (by omega)
      obtain ⟨D', r1, r2, r3⟩ := q_no100 d L n f (a + 1) (b - 1) (tzU (tzU D 124 a (D 124 b)) 124 b (D 124 a)) (by omega) (by omega) (by omega) (by omega) (by omega)
      refine ⟨D', ?_, fun x k q => (r2 x k q).trans (by rw [tzU_o _ _ _ _ q, tzU_o _ _ _ _ q]), fun k => ?_⟩
      · have e1 := w1z a0 (by omega)
        have e2 := w_1m (x := b) (by clear e1; omega) (by clear e1; omega)
        rw [← r1, b_X12_nextOrder_100]
        simp only [z_cd, i10, i11, dnn, rdU, eW, eU, tzC_w, w_shp, w_ptr, Nat.beq_refl, nbz, nb133, nb75, nb55, nb67, n133a, n133b, n75a, n75b, aT, aR, oT, oR, oF, oG, kT, kF, bI, bL, bR, b0, Classical.not_not, not_true_eq_false, not_false_eq_true, and_self, and_true, true_and, ↓reduceIte, decide_true, decide_false, Nat.reduceEqDiff, Nat.reduceLT, Nat.reduceLeDiff, Int.reduceEq, c, h1, h2, e1, e2]
      · have e : norv (D 124) (f + 1) a b = norv (swo (D 124) a b) f (a + 1) (b - 1) := if_neg c
        have e3 : (tzU (tzU D 124 a (D 124 b)) 124 b (D 124 a)) 124 = swo (D 124) a b := by
          funext z
          exact swo_U D a b z
        rw [r3 k, e, e3]
set_option maxRecDepth 100000 in
set_option maxHeartbeats 1000000 in
theorem q_next (d L n : Nat) (D : Nat → Int → Int) {N : Int} (N0 : 0 ≤ N) (N1 : N ≤ 6) : (noi (D 124) 6 (N - 2) < 0 → tqden tqP (d + 1) n_X12_nextOrder [vR 81, vI N] (tzW D L n) = some (some (vI 0), tzW D L n)) ∧ (¬ noi (D 124) 6 (N - 2) < 0 → ∃ D', tqden tqP (d + 1) n_X12_nextOrder [vR 81, vI N] (tzW D L n) = some (some (vI 1), tzW D' L n) ∧ Ofq 124 D D' ∧ ∀ k : Int, D' 124 k = nxo (D 124) N k) := by
  have e2 : w32 (N - 2) = N - 2 := w32_i (by omega) (by omega)
  have e1 : w32 (N - 1) = N - 1 := w32_i (by clear e2; omega) (by clear e2; omega)
  obtain ⟨r1, r2⟩ := q_no4 d L n D N1 6 (N - 2) (by clear e1 e2; omega) (by clear e1 e2; omega)
  rw [dn_X12_nextOrder, b_X12_nextOrder_0, e2]
  refine ⟨r1, fun t => ?_⟩
  obtain ⟨s1, s2⟩ := r2 t
  obtain ⟨⟨u1, u2⟩, u3⟩ := q_no41 d L n D N1 (i := noi (D 124) 6 (N - 2)) (by clear e1 e2; omega) (by clear e1 e2; omega) 7 (N - 1) (by clear e1 e2; omega) (by clear e1 e2; omega) (by clear e1 e2; omega)
  rw [e1] at s2
  obtain ⟨D', v1, v2, v3⟩ := q_no100 d L n 6 (noi (D 124) 6 (N - 2) + 1) (N - 1) (tzU (tzU D 124 (noi (D 124) 6 (N - 2)) (D 124 (noj (D 124) (D 124 (noi (D 124) 6 (N - 2))) 7 (N - 1)))) 124 (noj (D 124) (D 124 (noi (D 124) 6 (N - 2))) 7 (N - 1)) (D 124 (noi (D 124) 6 (N - 2)))) (by clear e1 e2; omega) (by clear e1 e2; omega) (by clear e1 e2; omega) (by clear e1 e2; omega) (by clear e1 e2; omega)
  refine ⟨D', s2.trans (u3.trans v1), fun x k q => (v2 x k q).trans (by rw [tzU_o _ _ _ _ q, tzU_o _ _ _ _ q]), fun k => ?_⟩
  rw [v3 k]
  unfold nxo
  have e3 : (tzU (tzU D 124 (noi (D 124) 6 (N - 2)) (D 124 (noj (D 124) (D 124 (noi (D 124) 6 (N - 2))) 7 (N - 1)))) 124 (noj (D 124) (D 124 (noi (D 124) 6 (N - 2))) 7 (N - 1)) (D 124 (noi (D 124) 6 (N - 2)))) 124 = swo (D 124) (noi (D 124) 6 (N - 2)) (noj (D 124) (D 124 (noi (D 124) 6 (N - 2))) 7 (N - 1)) := by
    funext z
    exact swo_U D _ _ z
  rw [e3]
