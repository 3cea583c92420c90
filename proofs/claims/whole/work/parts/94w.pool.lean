/-! ===== pool: the class shares ===== -/
def Pst (E : Int → Prop) (C s t : Int → Int) (isB : Int → Bool) (D : Nat → Int → Int) : Prop := (∀ k : Int, 0 ≤ k → k < 64 → (D 45 k = 2147483647 ∧ ¬ E k) ∨ (D 45 k = C k ∧ E k ∧ C k ≠ 2147483647)) ∧ Flo E C s t (D 46) (D 42) (D 43) (D 41 8) ∧ (∃ l Dl, Dl ≤ 1000000000000 ∧ Laq 0 E C t (D 46) (D 42) (D 43) l Dl) ∧ ∀ y : Int, 0 ≤ y → y < 8 → D 44 y = if isB y = true then 1 else 0
theorem zs_0 {f : Int → Int} (h : ∀ i : Int, 0 ≤ i → i < 8 → 0 ≤ f i) (z : zs8 f ≤ 0) : ∀ i : Int, 0 ≤ i → i < 8 → f i = 0 := fun i i0 i1 => by
  have q := zs_one h i0 i1
  have r := h i i0 i1
  omega
theorem Of8_t {D D' D'' : Nat → Int → Int} (h : Of8q D D') (g : Of8q D' D'') : Of8q D D'' := fun b j p1 p2 p3 p4 p5 p6 => (g b j p1 p2 p3 p4 p5 p6).trans (h b j p1 p2 p3 p4 p5 p6)
set_option maxRecDepth 100000 in
set_option maxHeartbeats 1000000 in
theorem p_117 (d L n : Nat) {isB : Int → Bool} {E : Int → Prop} {C s t : Int → Int} (N : Neq 0 isB E C) (hs : ∀ a : Int, 0 ≤ a → a < 8 → s a ≤ 30 ∧ (0 < s a → isB a = false)) (ht : ∀ b : Int, 0 ≤ b → b < 8 → t b ≤ 30 ∧ (0 < t b → isB b = true)) : ∀ (j : Nat) (st : Nat) (D : Nat → Int → Int), st + j = 240 → zs8 (D 43) ≤ j → Pst E C s t isB D →
    ∃ D', tqrun tqP (d + 3) tqc_X3_share 117 [vR 41, vU, vU, vU, vU, vI (st : Int), vU] [] (tzW D L n) = some (none, tzW D' L n) ∧ Of8q D D' ∧ Flo E C s t (D' 46) (D' 42) (D' 43) (D' 41 8) ∧ ∃ l, Laq 0 E C t (D' 46) (D' 42) (D' 43) l 1000000000000
  | 0, st, D, sj, z, ps => by
    have c : (240 : Int) ≤ (st : Int) := by omega
    obtain ⟨p1, p2, ⟨l, Dl, dB, la⟩, p4⟩ := ps
    refine ⟨D, ?_, fun _ _ _ _ _ _ _ _ => rfl, p2, l, la_end0 la dB (zs_0 (fun b q r => (p2.2.2.1 b q r).2) (by omega))⟩
    rw [b_X3_share_117]
    simp only [z_cd, i10, i11, dnn, rdU, eW, eU, tzC_w, w_shp, w_ptr, Nat.beq_refl, nbz, nb133, nb75, nb55, nb67, n133a, n133b, n75a, n75b, aT, aR, oT, oR, oF, oG, kT, kF, bI, bL, bR, b0, Classical.not_not, not_true_eq_false, not_false_eq_true, and_self, and_true, true_and, ↓reduceIte, decide_true, decide_false, Nat.reduceEqDiff, Nat.reduceLT, Nat.reduceLeDiff, Int.reduceEq, c]
  | j + 1, st, D, sj, z, ps => by
    have c : ¬ (240 : Int) ≤ (st : Int) := by omega
    obtain ⟨p1, p2, ⟨l, Dl, dB, la⟩, p4⟩ := ps
    obtain ⟨D1, f1, f2, f3, f4⟩ := p_find8 d L n N la D ⟨p1, rfl⟩ (fun _ _ _ => rfl)
    have e42 := Of47_f f2 42 (by decide) (by decide)
    have e43 := Of47_f f2 43 (by decide) (by decide)
    have e44 := Of47_f f2 44 (by decide) (by decide)
    have e45 := Of47_f f2 45 (by decide) (by decide)
    have e46 := Of47_f f2 46 (by decide) (by decide)
    have e41 := Of47_f f2 41 (by decide) (by decide)
    obtain ⟨to, n1, n2⟩ := p_nearL (d + 1) L n D1
    rw [← e46] at f3 f4
    rw [← e42] at f3
    rw [← e42, ← e43, ← e46] at la
    rw [← e42, ← e43, ← e46, ← e41] at p2
    rw [← e44] at p4
    rcases n2 with ⟨n2, n3⟩ | ⟨n2, n3, n4, n5⟩
    · obtain ⟨l', la'⟩ := la_end (M := 8) (by decide) (Or.inl rfl) la dB f3 f4 n3
      refine ⟨D1, ?_, fun b i q1 q2 q3 q4 q5 q6 => f2 b i q4 q5, p2, l', la'⟩
      rw [b_X3_share_117]
      simp only [z_cd, i10, i11, dnn, rdU, eW, eU, tzC_w, w_shp, w_ptr, Nat.beq_refl, nbz, nb133, nb75, nb55, nb67, n133a, n133b, n75a, n75b, aT, aR, oT, oR, oF, oG, kT, kF, bI, bL, bR, b0, Classical.not_not, not_true_eq_false, not_false_eq_true, and_self, and_true, true_and, ↓reduceIte, decide_true, decide_false, Nat.reduceEqDiff, Nat.reduceLT, Nat.reduceLeDiff, Int.reduceEq, c, f1, n1, n2]
    · have to1 : to < 8 := by omega
      have to9 : ¬ to = -9 := by omega
      rw [Int.sub_zero] at n3
      obtain ⟨D2, many, g1, g2, g3, ⟨l', Dn, g4, g5⟩, g6, g7⟩ := p_bring (d + 1) L n N hs ht D1 p4 p2 la f3 f4 n2.1 to1 n3 n4 n5
      obtain ⟨D3, k1, k2, k3, k4⟩ := p_117 d L n N hs ht j (st + 1) D2 (by omega) (by rw [g7, e43]; omega) ⟨fun k q r => by rw [g2 45 k (by decide) (by decide) (by decide) (by decide) (by decide) (fun h => absurd h.1 (by decide)), e45]; exact p1 k q r, g3, ⟨l', Dn, g4, g5⟩, fun y q r => by rw [g2 44 y (by decide) (by decide) (by decide) (by decide) (by decide) (fun h => absurd h.1 (by decide))]; exact p4 y q r⟩
      refine ⟨D3, ?_, Of8_t (fun b i q1 q2 q3 q4 q5 q6 => (g2 b i q1 q2 q3 q4 q5 q6).trans (f2 b i q4 q5)) k2, k3, k4⟩
      have e1 := w32_s st (by omega)
      rw [← k1, b_X3_share_117]
      simp only [z_cd, i10, i11, dnn, rdU, eW, eU, tzC_w, w_shp, w_ptr, Nat.beq_refl, nbz, nb133, nb75, nb55, nb67, n133a, n133b, n75a, n75b, aT, aR, oT, oR, oF, oG, kT, kF, bI, bL, bR, b0, Classical.not_not, not_true_eq_false, not_false_eq_true, and_self, and_true, true_and, ↓reduceIte, decide_true, decide_false, Nat.reduceEqDiff, Nat.reduceLT, Nat.reduceLeDiff, Int.reduceEq, c, f1, n1, to9, g1, e1]
def Of45 (B D : Nat → Int → Int) : Prop := ∀ (b : Nat) (j : Int), b ≠ 45 → b ≠ 49 → D b j = B b j
set_option maxRecDepth 100000 in
set_option maxHeartbeats 1000000 in
theorem p_m40 (d L n : Nat) {fr now : Int} (f0 : 0 ≤ fr) (f1 : fr < 8) (w0 : 0 ≤ now) (w1 : now ≤ 100000) : ∀ (j : Nat) (z : Int) (D : Nat → Int → Int), 0 ≤ z → z + j = 8 → (∀ y : Int, 0 ≤ y → y < 8 → D 49 y = 2147483647 ∨ (now ≤ D 49 y ∧ D 49 y ≤ now + 16320)) →
    ∃ D', tqrun tqP (d + 1) tqc_X3_measure 40 [vR 41, vR 7, vI now, vI fr, vI z] [] (tzW D L n) = tqrun tqP (d + 1) tqc_X3_measure 11 [vR 41, vR 7, vI now, vI (fr + 1), vU] [] (tzW D' L n) ∧ Ofq 45 D D' ∧ ∀ k : Int, D' 45 k = if 8 * fr + z ≤ k ∧ k < 8 * fr + 8 ∧ D 44 (k - 8 * fr) ≠ 0 ∧ D 49 (k - 8 * fr) ≠ 2147483647 then D 49 (k - 8 * fr) - now else D 45 k
  | 0, z, D, z0, zj, h => by
    have c : 8 ≤ z := by omega
    refine ⟨D, ?_, Ofq_r _ _, fun k => (if_neg (by omega)).symm⟩
    have e1 := w1z f0 (by omega)
    rw [b_X3_measure_40]
    simp only [z_cd, i10, i11, dnn, rdU, eW, eU, tzC_w, w_shp, w_ptr, Nat.beq_refl, nbz, nb133, nb75, nb55, nb67, n133a, n133b, n75a, n75b, aT, aR, oT, oR, oF, oG, kT, kF, bI, bL, bR, b0, Classical.not_not, not_true_eq_false, not_false_eq_true, and_self, and_true, true_and, ↓reduceIte, decide_true, decide_false, Nat.reduceEqDiff, Nat.reduceLT, Nat.reduceLeDiff, Int.reduceEq, c, e1]
  | j + 1, z, D, z0, zj, h => by
    have c : ¬ 8 ≤ z := by omega
    have hz : tqib z 8 = true := tqib_y z0 (by omega)
    by_cases q : D 44 z ≠ 0 ∧ D 49 z ≠ 2147483647
    · have q1 : ¬ D 44 z = 0 := q.1
      have q2 : ¬ D 49 z = 2147483647 := q.2
      have hk : tqib (8 * fr + z) 64 = true := tqib_y (by omega) (by omega)
      have hv := h z z0 (by omega)
      obtain ⟨D', r1, r2, r3⟩ := p_m40 d L n f0 f1 w0 w1 j (z + 1) (tzU D 45 (8 * fr + z) (D 49 z - now)) (by omega) (by omega) (fun y y0 y1 => by rw [tzU_o _ _ _ _ (by decide)]; exact h y y0 y1)
      refine ⟨D', ?_, Ofq_t (Ofq_U _ _ _ _) r2, fun k => ?_⟩
      · have e2 : w32 (D 49 z - now) = D 49 z - now := w32_i (by omega) (by omega)
        have e1 := w1z z0 (by clear e2; omega)
        have e3 := w8y f0 f1 z0 (show z < 8 by clear e1 e2; omega)
        rw [← r1, b_X3_measure_40]
        simp only [z_cd, i10, i11, dnn, rdU, eW, eU, tzC_w, w_shp, w_ptr, Nat.beq_refl, nbz, nb133, nb75, nb55, nb67, n133a, n133b, n75a, n75b, aT, aR, oT, oR, oF, oG, kT, kF, bI, bL, bR, b0, Classical.not_not, not_true_eq_false, not_false_eq_true, and_self, and_true, true_and, ↓reduceIte, decide_true, decide_false, Nat.reduceEqDiff, Nat.reduceLT, Nat.reduceLeDiff, Int.reduceEq, c, hz, q1, q2, hk, e1, e2, e3]
      · rw [r3 k, tzU_o _ _ _ _ (show (44 : Nat) ≠ 45 by decide), tzU_o _ _ _ _ (show (49 : Nat) ≠ 45 by decide)]
        by_cases e : k = 8 * fr + z
        · have ez : k - 8 * fr = z := by omega
          rw [ez, if_neg (show ¬ (8 * fr + (z + 1) ≤ k ∧ k < 8 * fr + 8 ∧ D 44 z ≠ 0 ∧ D 49 z ≠ 2147483647) by omega), if_pos (show 8 * fr + z ≤ k ∧ k < 8 * fr + 8 ∧ D 44 z ≠ 0 ∧ D 49 z ≠ 2147483647 from ⟨by omega, by omega, q1, q2⟩), e, tzU_s]
        · rw [tzU_k _ _ _ _ e]
          by_cases p : 8 * fr + (z + 1) ≤ k ∧ k < 8 * fr + 8 ∧ D 44 (k - 8 * fr) ≠ 0 ∧ D 49 (k - 8 * fr) ≠ 2147483647
          · rw [if_pos p, if_pos (show 8 * fr + z ≤ k ∧ k < 8 * fr + 8 ∧ D 44 (k - 8 * fr) ≠ 0 ∧ D 49 (k - 8 * fr) ≠ 2147483647 from ⟨by omega, p.2⟩)]
          · rw [if_neg p, if_neg (show ¬ (8 * fr + z ≤ k ∧ k < 8 * fr + 8 ∧ D 44 (k - 8 * fr) ≠ 0 ∧ D 49 (k - 8 * fr) ≠ 2147483647) from fun t => p ⟨by omega, t.2⟩)]
    · obtain ⟨D', r1, r2, r3⟩ := p_m40 d L n f0 f1 w0 w1 j (z + 1) D (by omega) (by omega) h
      refine ⟨D', ?_, r2, fun k => ?_⟩
      · have e1 := w1z z0 (by omega)
        rw [← r1, b_X3_measure_40]
        by_cases q1 : D 44 z = 0
        · simp only [z_cd, i10, i11, dnn, rdU, eW, eU, tzC_w, w_shp, w_ptr, Nat.beq_refl, nbz, nb133, nb75, nb55, nb67, n133a, n133b, n75a, n75b, aT, aR, oT, oR, oF, oG, kT, kF, bI, bL, bR, b0, Classical.not_not, not_true_eq_false, not_false_eq_true, and_self, and_true, true_and, ↓reduceIte, decide_true, decide_false, Nat.reduceEqDiff, Nat.reduceLT, Nat.reduceLeDiff, Int.reduceEq, c, hz, q1, e1]
        · have q2 : D 49 z = 2147483647 := Classical.byContradiction fun t => q ⟨q1, t⟩
          simp only [z_cd, i10, i11, dnn, rdU, eW, eU, tzC_w, w_shp, w_ptr, Nat.beq_refl, nbz, nb133, nb75, nb55, nb67, n133a, n133b, n75a, n75b, aT, aR, oT, oR, oF, oG, kT, kF, bI, bL, bR, b0, Classical.not_not, not_true_eq_false, not_false_eq_true, and_self, and_true, true_and, ↓reduceIte, decide_true, decide_false, Nat.reduceEqDiff, Nat.reduceLT, Nat.reduceLeDiff, Int.reduceEq, c, hz, q1, q2, e1]
      · rw [r3 k]
        by_cases p : 8 * fr + (z + 1) ≤ k ∧ k < 8 * fr + 8 ∧ D 44 (k - 8 * fr) ≠ 0 ∧ D 49 (k - 8 * fr) ≠ 2147483647
        · rw [if_pos p, if_pos (show 8 * fr + z ≤ k ∧ k < 8 * fr + 8 ∧ D 44 (k - 8 * fr) ≠ 0 ∧ D 49 (k - 8 * fr) ≠ 2147483647 from ⟨by omega, p.2⟩)]
        · rw [if_neg p, if_neg (show ¬ (8 * fr + z ≤ k ∧ k < 8 * fr + 8 ∧ D 44 (k - 8 * fr) ≠ 0 ∧ D 49 (k - 8 * fr) ≠ 2147483647) from fun t => by
            by_cases e : k = 8 * fr + z
            · rw [e, show 8 * fr + z - 8 * fr = z by omega] at t
              exact q t.2.2
            · exact p ⟨by omega, t.2⟩)]
set_option maxRecDepth 100000 in
set_option maxHeartbeats 1000000 in
theorem p_m11 (d L n : Nat) (B : Nat → Int → Int) (wy : WY B) (hd : ∀ y : Int, 0 ≤ y → y < 8 → B 88 (9 * y) = 0) {now : Int} (w0 : 0 ≤ now) (w1 : now ≤ 100000) : ∀ (j : Nat) (fr : Int) (D : Nat → Int → Int), 0 ≤ fr → fr + j = 8 → Of45 B D →
    ∃ D', tqrun tqP (d + 4) tqc_X3_measure 11 [vR 41, vR 7, vI now, vI fr, vU] [] (tzW D L n) = some (none, tzW D' L n) ∧ Of45 B D' ∧ ∀ k : Int, 0 ≤ k → k < 64 → D' 45 k = if fr ≤ k / 8 ∧ 0 < B 42 (k / 8) ∧ B 44 (k % 8) ≠ 0 ∧ erq B 0 (k / 8) now (k % 8) ≠ 2147483647 then erq B 0 (k / 8) now (k % 8) - now else D 45 k
  | 0, fr, D, z0, zj, of => by
    have c : 8 ≤ fr := by omega
    refine ⟨D, ?_, of, fun k k0 k1 => (if_neg (by omega)).symm⟩
    rw [b_X3_measure_11]
    simp only [z_cd, i10, i11, dnn, rdU, eW, eU, tzC_w, w_shp, w_ptr, Nat.beq_refl, nbz, nb133, nb75, nb55, nb67, n133a, n133b, n75a, n75b, aT, aR, oT, oR, oF, oG, kT, kF, bI, bL, bR, b0, Classical.not_not, not_true_eq_false, not_false_eq_true, and_self, and_true, true_and, ↓reduceIte, decide_true, decide_false, Nat.reduceEqDiff, Nat.reduceLT, Nat.reduceLeDiff, Int.reduceEq, c]
  | j + 1, fr, D, z0, zj, of => by
    have c : ¬ 8 ≤ fr := by omega
    have hz : tqib fr 8 = true := tqib_y z0 (by omega)
    have e42 : D 42 fr = B 42 fr := of 42 fr (by decide) (by decide)
    by_cases q : B 42 fr ≤ 0
    · obtain ⟨D', r1, r2, r3⟩ := p_m11 d L n B wy hd w0 w1 j (fr + 1) D (by omega) (by omega) of
      refine ⟨D', ?_, r2, fun k k0 k1 => ?_⟩
      · have e1 := w1z z0 (by omega)
        rw [← r1, b_X3_measure_11]
        simp only [z_cd, i10, i11, dnn, rdU, eW, eU, tzC_w, w_shp, w_ptr, Nat.beq_refl, nbz, nb133, nb75, nb55, nb67, n133a, n133b, n75a, n75b, aT, aR, oT, oR, oF, oG, kT, kF, bI, bL, bR, b0, Classical.not_not, not_true_eq_false, not_false_eq_true, and_self, and_true, true_and, ↓reduceIte, decide_true, decide_false, Nat.reduceEqDiff, Nat.reduceLT, Nat.reduceLeDiff, Int.reduceEq, c, hz, e42, q, e1]
      · rw [r3 k k0 k1]
        by_cases p : fr + 1 ≤ k / 8 ∧ 0 < B 42 (k / 8) ∧ B 44 (k % 8) ≠ 0 ∧ erq B 0 (k / 8) now (k % 8) ≠ 2147483647
        · rw [if_pos p, if_pos (show fr ≤ k / 8 ∧ 0 < B 42 (k / 8) ∧ B 44 (k % 8) ≠ 0 ∧ erq B 0 (k / 8) now (k % 8) ≠ 2147483647 from ⟨by omega, p.2⟩)]
        · rw [if_neg p, if_neg (show ¬ (fr ≤ k / 8 ∧ 0 < B 42 (k / 8) ∧ B 44 (k % 8) ≠ 0 ∧ erq B 0 (k / 8) now (k % 8) ≠ 2147483647) from fun t => by
            by_cases e : k / 8 = fr
            · have u := t.2.1
              rw [e] at u
              omega
            · exact p ⟨by omega, t.2⟩)]
    · have fw : ∀ (b : Nat) (i : Int), 88 ≤ b → b ≤ 91 → D b i = B b i := fun b i p r => of b i (by omega) (by omega)
      have wyD : WY D := WY_fr (fun b i h => of b i (by omega) (by omega)) wy
      have hdD : ∀ y : Int, 0 ≤ y → y < 8 → D 88 (9 * y) = 0 := fun y a b => (of 88 _ (by decide) (by decide)).trans (hd y a b)
      obtain ⟨D1, v1, v2, v3⟩ := p_reach d L n 49 D (fun _ => rfl) (by unfold oka; omega) (bt := 0) (Or.inl rfl) (a := fr) (s := now) z0 (by omega) w0 (show now ≤ 10000000 by omega) wyD hdD
      have v4 : ∀ y : Int, 0 ≤ y → y < 8 → D1 49 y = erq B 0 fr now y := fun y a b => (v3 y a b).trans (er_fr fw 0 fr now y)
      have eb : ∀ y : Int, 0 ≤ y → y < 8 → D1 49 y = 2147483647 ∨ (now ≤ D1 49 y ∧ D1 49 y ≤ now + 16320) := fun y a b => by
        rw [v4 y a b]
        exact er_b wy a b (er_ok wy hd (bt := 0) (Or.inl rfl) z0 (by omega) w0 (show now ≤ 10000000 by omega) a b)
      obtain ⟨D2, g1, g2, g3⟩ := p_m40 (d + 3) L n z0 (show fr < 8 by omega) w0 w1 8 0 D1 (by omega) (by omega) eb
      have of2 : Of45 B D2 := fun b i p r => (g2 b i p).trans ((v2 b i r).trans (of b i p r))
      obtain ⟨D', r1, r2, r3⟩ := p_m11 d L n B wy hd w0 w1 j (fr + 1) D2 (by omega) (by omega) of2
      refine ⟨D', ?_, r2, fun k k0 k1 => ?_⟩
      · rw [← r1, b_X3_measure_11]
        simp only [z_cd, i10, i11, dnn, rdU, eW, eU, tzC_w, w_shp, w_ptr, Nat.beq_refl, nbz, nb133, nb75, nb55, nb67, n133a, n133b, n75a, n75b, aT, aR, oT, oR, oF, oG, kT, kF, bI, bL, bR, b0, Classical.not_not, not_true_eq_false, not_false_eq_true, and_self, and_true, true_and, ↓reduceIte, decide_true, decide_false, Nat.reduceEqDiff, Nat.reduceLT, Nat.reduceLeDiff, Int.reduceEq, c, hz, e42, q, v1, g1]
      · have ek : D1 44 (k - 8 * fr) = B 44 (k - 8 * fr) := (v2 44 _ (by decide)).trans (of 44 _ (by decide) (by decide))
        rw [r3 k k0 k1, g3 k, v2 45 k (by decide), ek]
        by_cases e : k / 8 = fr
        · have em : k - 8 * fr = k % 8 := by omega
          have e9 := v4 (k % 8) (by omega) (by omega)
          have b42 : 0 < B 42 fr := by omega
          rw [em, e9, e, if_neg (show ¬ (fr + 1 ≤ fr ∧ 0 < B 42 fr ∧ B 44 (k % 8) ≠ 0 ∧ erq B 0 fr now (k % 8) ≠ 2147483647) from fun t => by have := t.1; omega)]
          by_cases p : B 44 (k % 8) ≠ 0 ∧ erq B 0 fr now (k % 8) ≠ 2147483647
          · rw [if_pos (show 8 * fr + 0 ≤ k ∧ k < 8 * fr + 8 ∧ B 44 (k % 8) ≠ 0 ∧ erq B 0 fr now (k % 8) ≠ 2147483647 from ⟨by omega, by omega, p⟩), if_pos (show fr ≤ fr ∧ 0 < B 42 fr ∧ B 44 (k % 8) ≠ 0 ∧ erq B 0 fr now (k % 8) ≠ 2147483647 from ⟨Int.le_refl _, b42, p⟩)]
          · rw [if_neg (show ¬ (8 * fr + 0 ≤ k ∧ k < 8 * fr + 8 ∧ B 44 (k % 8) ≠ 0 ∧ erq B 0 fr now (k % 8) ≠ 2147483647) from fun t => p t.2.2), if_neg (show ¬ (fr ≤ fr ∧ 0 < B 42 fr ∧ B 44 (k % 8) ≠ 0 ∧ erq B 0 fr now (k % 8) ≠ 2147483647) from fun t => p t.2.2)]
        · rw [if_neg (show ¬ (8 * fr + 0 ≤ k ∧ k < 8 * fr + 8 ∧ B 44 (k - 8 * fr) ≠ 0 ∧ D1 49 (k - 8 * fr) ≠ 2147483647) from fun t => by have := t.1; have := t.2.1; omega)]
          by_cases p : fr + 1 ≤ k / 8 ∧ 0 < B 42 (k / 8) ∧ B 44 (k % 8) ≠ 0 ∧ erq B 0 (k / 8) now (k % 8) ≠ 2147483647
          · rw [if_pos p, if_pos (show fr ≤ k / 8 ∧ 0 < B 42 (k / 8) ∧ B 44 (k % 8) ≠ 0 ∧ erq B 0 (k / 8) now (k % 8) ≠ 2147483647 from ⟨by omega, p.2⟩)]
          · rw [if_neg p, if_neg (show ¬ (fr ≤ k / 8 ∧ 0 < B 42 (k / 8) ∧ B 44 (k % 8) ≠ 0 ∧ erq B 0 (k / 8) now (k % 8) ≠ 2147483647) from fun t => p ⟨by omega, t.2⟩)]
def spq (a b : Int) : Int := if b < a then a - b else 0
theorem sp_x {a b : Int} (a0 : 0 ≤ a) (a1 : a ≤ 30) (c0 : 0 ≤ b) (c1 : b ≤ 30) : jmax (w32 (a - b)) 0 = spq a b := by
  rw [w32_i (x := a - b) (by omega) (by omega)]
  unfold jmax spq
  by_cases c : b < a
  · rw [if_neg (show ¬ a - b < 0 by omega), if_pos c]
  · rw [if_neg c]
    by_cases e : a - b < 0
    · rw [if_pos e]
    · rw [if_neg e]; omega
theorem sp_c (a b : Int) : (b < a ∧ spq a b = a - b) ∨ (a ≤ b ∧ spq a b = 0) := by
  unfold spq
  by_cases c : b < a
  · exact Or.inl ⟨c, if_pos c⟩
  · exact Or.inr ⟨by omega, if_neg c⟩
def Of3q (D D' : Nat → Int → Int) : Prop := ∀ (b : Nat) (j : Int), b ≠ 42 → b ≠ 43 → b ≠ 44 → D' b j = D b j
set_option maxRecDepth 100000 in
set_option maxHeartbeats 1000000 in
theorem p_sh8 (d L n : Nat) {ka kb : Nat} (hka : ka < 6) (hkb : kb < 6) (S T : Int → Int) (rS : ∀ i : Int, 0 ≤ i → i < 8 → 0 ≤ S i ∧ S i ≤ 30) (rT : ∀ i : Int, 0 ≤ i → i < 8 → 0 ≤ T i ∧ T i ≤ 30) (now : Int) : ∀ (j : Nat) (y : Int) (D : Nat → Int → Int), 0 ≤ y → y + j = 8 → (∀ i : Int, 0 ≤ i → i < 8 → D (56 + 2 * ka) i = S i) → (∀ i : Int, 0 ≤ i → i < 8 → D (56 + 2 * kb) i = T i) → (∀ z : Int, 0 ≤ z → z < y → D 42 z = spq (S z) (T z) ∧ D 43 z = spq (T z) (S z) ∧ D 44 z = if 0 < spq (T z) (S z) then 1 else 0) →
    ∃ D', tqrun tqP (d + 1) tqc_X3_share 8 [vR 41, vR 7, vI now, vR (56 + 2 * ka), vR (56 + 2 * kb), vI y, vU] [] (tzW D L n) = tqrun tqP (d + 1) tqc_X3_share 100 [vR 41, vR 7, vI now, vR (56 + 2 * ka), vR (56 + 2 * kb), vI 8, vU] [] (tzW D' L n) ∧ Of3q D D' ∧ ∀ z : Int, 0 ≤ z → z < 8 → D' 42 z = spq (S z) (T z) ∧ D' 43 z = spq (T z) (S z) ∧ D' 44 z = if 0 < spq (T z) (S z) then 1 else 0
  | 0, y, D, y0, yj, hS, hT, h => by
    have e : y = 8 := by omega
    rw [e] at h ⊢
    have c : (8 : Int) ≤ 8 := by decide
    refine ⟨D, ?_, fun _ _ _ _ _ => rfl, h⟩
    rw [b_X3_share_8]
    simp only [z_cd, i10, i11, dnn, rdU, eW, eU, tzC_w, w_shp, w_ptr, Nat.beq_refl, nbz, nb133, nb75, nb55, nb67, n133a, n133b, n75a, n75b, aT, aR, oT, oR, oF, oG, kT, kF, bI, bL, bR, b0, Classical.not_not, not_true_eq_false, not_false_eq_true, and_self, and_true, true_and, ↓reduceIte, decide_true, decide_false, Nat.reduceEqDiff, Nat.reduceLT, Nat.reduceLeDiff, Int.reduceEq, c]
  | j + 1, y, D, y0, yj, hS, hT, h => by
    have c : ¬ 8 ≤ y := by omega
    have c40 : ¬ ((40 : Nat) : Int) ≤ y := by omega
    have hy : tqib y 8 = true := tqib_y y0 (by omega)
    have hy4 : tqib y 40 = true := tqib_y y0 (by omega)
    obtain ⟨a1, a2, a3⟩ := w_row D L n hka
    obtain ⟨b1, b2, b3⟩ := w_row D L n hkb
    have eS := hS y y0 (by omega)
    have eT := hT y y0 (by omega)
    have r1 := rS y y0 (by omega)
    have r2 := rT y y0 (by omega)
    obtain ⟨v, hv⟩ : ∃ v : Int, v = if 0 < spq (T y) (S y) then 1 else 0 := ⟨_, rfl⟩
    obtain ⟨X, hX⟩ : ∃ X, X = tzU (tzU (tzU D 42 y (spq (S y) (T y))) 43 y (spq (T y) (S y))) 44 y v := ⟨_, rfl⟩
    have Xo : ∀ (b : Nat) (i : Int), b ≠ 42 → b ≠ 43 → b ≠ 44 → X b i = D b i := fun b i p q w => by rw [hX, tzU_o _ _ _ _ w, tzU_o _ _ _ _ q, tzU_o _ _ _ _ p]
    obtain ⟨D', g1, g2, g3⟩ := p_sh8 d L n hka hkb S T rS rT now j (y + 1) X (by omega) (by omega) (fun i i0 i1 => (Xo _ i (by omega) (by omega) (by omega)).trans (hS i i0 i1)) (fun i i0 i1 => (Xo _ i (by omega) (by omega) (by omega)).trans (hT i i0 i1)) (fun z z0 z1 => by
      by_cases e : z = y
      · rw [e]
        refine ⟨?_, ?_, ?_⟩
        · rw [hX, tzU_o _ _ _ _ (by decide), tzU_o _ _ _ _ (by decide), tzU_s]
        · rw [hX, tzU_o _ _ _ _ (by decide), tzU_s]
        · rw [hX, tzU_s]; exact hv
      · have q := h z z0 (by omega)
        refine ⟨?_, ?_, ?_⟩
        · rw [hX, tzU_o _ _ _ _ (by decide), tzU_o _ _ _ _ (by decide), tzU_k _ _ _ _ e]; exact q.1
        · rw [hX, tzU_o _ _ _ _ (by decide), tzU_k _ _ _ _ e, tzU_o _ _ _ _ (by decide)]; exact q.2.1
        · rw [hX, tzU_k _ _ _ _ e, tzU_o _ _ _ _ (by decide), tzU_o _ _ _ _ (by decide)]; exact q.2.2)
    refine ⟨D', ?_, fun b i p q w => (g2 b i p q w).trans (Xo b i p q w), g3⟩
    have s1 := sp_x r1.1 r1.2 r2.1 r2.2
    have s2 := sp_x r2.1 r2.2 r1.1 r1.2
    have nA : ∀ b : Nat, b < 50 → 56 + 2 * ka ≠ b := fun b hb => by omega
    have nB : ∀ b : Nat, b < 50 → 56 + 2 * kb ≠ b := fun b hb => by omega
    have y1 : ∀ x : Int, tzU D 42 y x (56 + 2 * kb) y = T y := fun x => by rw [tzU_o _ _ _ _ (nB 42 (by decide))]; exact eT
    have y2 : ∀ x : Int, tzU D 42 y x (56 + 2 * ka) y = S y := fun x => by rw [tzU_o _ _ _ _ (nA 42 (by decide))]; exact eS
    have y3 : ∀ x z : Int, tzU (tzU D 42 y x) 43 y z 43 y = z := fun x z => tzU_s _ _ _ _
    have e1 := w1z y0 (by omega)
    have g1' := g1
    rw [hX] at g1'
    rw [← g1', b_X3_share_8]
    by_cases q : 0 < spq (T y) (S y)
    · rw [if_pos q] at hv
      have q2 : ¬ spq (T y) (S y) ≤ 0 := by clear s1 s2 e1; omega
      simp only [z_cd, i10, i11, dnn, eW, eU, w_shp, w_ptr, Nat.beq_refl, aT, aR, oT, oR, oF, oG, kT, kF, ble11, ble18, not_true_eq_false, not_false_eq_true, and_self, and_true, true_and, ↓reduceIte, decide_true, decide_false, Nat.reduceEqDiff, Nat.reduceLT, Nat.reduceLeDiff, Int.reduceEq, a3, b3, c, c40, hy, hy4, eS, eT, y1, y2, y3, s1, s2, e1, hv, q2]
    · rw [if_neg q] at hv
      have q2 : spq (T y) (S y) ≤ 0 := by clear s1 s2 e1; omega
      simp only [z_cd, i10, i11, dnn, eW, eU, w_shp, w_ptr, Nat.beq_refl, aT, aR, oT, oR, oF, oG, kT, kF, ble11, ble18, not_true_eq_false, not_false_eq_true, and_self, and_true, true_and, ↓reduceIte, decide_true, decide_false, Nat.reduceEqDiff, Nat.reduceLT, Nat.reduceLeDiff, Int.reduceEq, a3, b3, c, c40, hy, hy4, eS, eT, y1, y2, y3, s1, s2, e1, hv, q2]
