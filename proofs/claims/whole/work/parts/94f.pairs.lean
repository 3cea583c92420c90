/-! ===== pairs: one code of the reference ===== -/
theorem wth_r {c rnd : Int} (c0 : 0 ≤ c) (c1 : c < 216) : 0 ≤ wth c rnd ∧ wth c rnd < 6 := by
  unfold wth
  by_cases h : rnd = 0
  · rw [if_pos h]; omega
  · rw [if_neg h]
    by_cases h2 : rnd = 1
    · rw [if_pos h2]; omega
    · rw [if_neg h2]; omega
theorem wth_w {c : Int} (c0 : 0 ≤ c) (c1 : c < 216) : w32 (c.tdiv 36) = wth c 0 ∧ w32 ((w32 (c.tdiv 6)).tmod 6) = wth c 1 ∧ w32 (c.tmod 6) = wth c 2 := by
  have e1 : wth c 0 = c / 36 := rfl
  have e2 : wth c 1 = c / 6 % 6 := rfl
  have e3 : wth c 2 = c % 6 := rfl
  rw [e1, e2, e3, Int.tdiv_eq_ediv_of_nonneg c0, Int.tdiv_eq_ediv_of_nonneg c0, Int.tmod_eq_emod_of_nonneg c0, w32_i (x := c / 6) (by omega) (by omega), Int.tmod_eq_emod_of_nonneg (show 0 ≤ c / 6 by omega)]
  exact ⟨w32_i (by omega) (by omega), w32_i (by omega) (by omega), w32_i (by omega) (by omega)⟩
set_option maxRecDepth 100000 in
set_option maxHeartbeats 1000000 in
theorem q_34n (d L n : Nat) (D : Nat → Int → Int) (r c S e : Int) (c0 : 0 ≤ c) (c1 : c < 216) (z : ¬ S = 0) {rnd : Int} (hr : rnd = 0 ∨ rnd = 1 ∨ rnd = 2) : tqrun tqP (d + 1) tqc_X12_partWays 34 [vR 81, vU, vI r, vI c, vI S, vI e, vI rnd, vU, vU, vU] [] (tzW D L n) = tqrun tqP (d + 1) tqc_X12_partWays 90 [vR 81, vU, vI r, vI c, vI S, vI e, vI rnd, vI (wth c rnd), vI 0, vU] [] (tzW D L n) := by
  obtain ⟨w1, w2, w3⟩ := wth_w c0 c1
  rcases hr with rfl | rfl | rfl
  · rw [b_X12_partWays_34]
    simp only [z_cd, i10, i11, dnn, rdU, eW, eU, tzC_w, w_shp, w_ptr, Nat.beq_refl, nbz, nb133, nb75, nb55, nb67, n133a, n133b, n75a, n75b, aT, aR, oT, oR, oF, oG, kT, kF, bI, bL, bR, b0, Classical.not_not, not_true_eq_false, not_false_eq_true, and_self, and_true, true_and, ↓reduceIte, decide_true, decide_false, Nat.reduceEqDiff, Nat.reduceLT, Nat.reduceLeDiff, Int.reduceEq, z, w1, Int.reduceLE]
  · rw [b_X12_partWays_34]
    simp only [z_cd, i10, i11, dnn, rdU, eW, eU, tzC_w, w_shp, w_ptr, Nat.beq_refl, nbz, nb133, nb75, nb55, nb67, n133a, n133b, n75a, n75b, aT, aR, oT, oR, oF, oG, kT, kF, bI, bL, bR, b0, Classical.not_not, not_true_eq_false, not_false_eq_true, and_self, and_true, true_and, ↓reduceIte, decide_true, decide_false, Nat.reduceEqDiff, Nat.reduceLT, Nat.reduceLeDiff, Int.reduceEq, z, w2, Int.reduceLE]
  · rw [b_X12_partWays_34]
    simp only [z_cd, i10, i11, dnn, rdU, eW, eU, tzC_w, w_shp, w_ptr, Nat.beq_refl, nbz, nb133, nb75, nb55, nb67, n133a, n133b, n75a, n75b, aT, aR, oT, oR, oF, oG, kT, kF, bI, bL, bR, b0, Classical.not_not, not_true_eq_false, not_false_eq_true, and_self, and_true, true_and, ↓reduceIte, decide_true, decide_false, Nat.reduceEqDiff, Nat.reduceLT, Nat.reduceLeDiff, Int.reduceEq, z, w3, Int.reduceLE]
set_option maxRecDepth 100000 in
set_option maxHeartbeats 1000000 in
theorem q_34z (d L n : Nat) (D : Nat → Int → Int) (r c e : Int) (c0 : 0 ≤ c) (c1 : c < 216) {rnd : Int} (hr : rnd = 0 ∨ rnd = 1 ∨ rnd = 2) : tqrun tqP (d + 1) tqc_X12_partWays 34 [vR 81, vU, vI r, vI c, vI 0, vI e, vI rnd, vU, vU, vU] [] (tzW D L n) = if wth c rnd ≤ 0 then tqrun tqP (d + 1) tqc_X12_partWays 34 [vR 81, vU, vI r, vI c, vI 0, vI e, vI (rnd + 1), vU, vU, vU] [] (tzW D L n) else some (some (vI 100000000), tzW D L n) := by
  obtain ⟨w1, w2, w3⟩ := wth_w c0 c1
  have e0 : w32 (0 + 1) = 0 + 1 := by decide +kernel
  have e1 : w32 (1 + 1) = 1 + 1 := by decide +kernel
  have e2 : w32 (2 + 1) = 2 + 1 := by decide +kernel
  rcases hr with rfl | rfl | rfl
  · rw [b_X12_partWays_34]
    simp only [z_cd, i10, i11, dnn, rdU, eW, eU, tzC_w, w_shp, w_ptr, Nat.beq_refl, nbz, nb133, nb75, nb55, nb67, n133a, n133b, n75a, n75b, aT, aR, oT, oR, oF, oG, kT, kF, bI, bL, bR, b0, Classical.not_not, not_true_eq_false, not_false_eq_true, and_self, and_true, true_and, ↓reduceIte, decide_true, decide_false, Nat.reduceEqDiff, Nat.reduceLT, Nat.reduceLeDiff, Int.reduceEq, w1, Int.reduceLE, e0]
  · rw [b_X12_partWays_34]
    simp only [z_cd, i10, i11, dnn, rdU, eW, eU, tzC_w, w_shp, w_ptr, Nat.beq_refl, nbz, nb133, nb75, nb55, nb67, n133a, n133b, n75a, n75b, aT, aR, oT, oR, oF, oG, kT, kF, bI, bL, bR, b0, Classical.not_not, not_true_eq_false, not_false_eq_true, and_self, and_true, true_and, ↓reduceIte, decide_true, decide_false, Nat.reduceEqDiff, Nat.reduceLT, Nat.reduceLeDiff, Int.reduceEq, w2, Int.reduceLE, e1]
  · rw [b_X12_partWays_34]
    simp only [z_cd, i10, i11, dnn, rdU, eW, eU, tzC_w, w_shp, w_ptr, Nat.beq_refl, nbz, nb133, nb75, nb55, nb67, n133a, n133b, n75a, n75b, aT, aR, oT, oR, oF, oG, kT, kF, bI, bL, bR, b0, Classical.not_not, not_true_eq_false, not_false_eq_true, and_self, and_true, true_and, ↓reduceIte, decide_true, decide_false, Nat.reduceEqDiff, Nat.reduceLT, Nat.reduceLeDiff, Int.reduceEq, w3, Int.reduceLE, e2]
set_option maxRecDepth 100000 in
set_option maxHeartbeats 1000000 in
theorem q_90 (d L n : Nat) (D : Nat → Int → Int) (r c e rnd w : Int) {S : Int} (S0 : 0 ≤ S) (S1 : S < 64) (z : ¬ S = 0) : ∀ (j : Nat) (k : Int), 0 ≤ k → k + j = lo6 S → tqrun tqP (d + 1) tqc_X12_partWays 90 [vR 81, vU, vI r, vI c, vI S, vI e, vI rnd, vI w, vI k, vU] [] (tzW D L n) = tqrun tqP (d + 1) tqc_X12_partWays 90 [vR 81, vU, vI r, vI c, vI S, vI e, vI rnd, vI w, vI (lo6 S), vU] [] (tzW D L n)
  | 0, k, k0, kj => by rw [show k = lo6 S by omega]
  | j + 1, k, k0, kj => by
    have la := lo_p S0 S1
    have q := (b01 S0 S1 k0 (show k < 6 by omega)).mpr ((la.2 z).2 k k0 (by omega))
    have e1 := w1z k0 (by omega)
    rw [← q_90 d L n D r c e rnd w S0 S1 z j (k + 1) (by clear e1; omega) (by clear e1; omega), b_X12_partWays_90]
    simp only [z_cd, i10, i11, dnn, rdU, eW, eU, tzC_w, w_shp, w_ptr, Nat.beq_refl, nbz, nb133, nb75, nb55, nb67, n133a, n133b, n75a, n75b, aT, aR, oT, oR, oF, oG, kT, kF, bI, bL, bR, b0, Classical.not_not, not_true_eq_false, not_false_eq_true, and_self, and_true, true_and, ↓reduceIte, decide_true, decide_false, Nat.reduceEqDiff, Nat.reduceLT, Nat.reduceLeDiff, Int.reduceEq, q, e1]
set_option maxRecDepth 100000 in
set_option maxHeartbeats 1000000 in
theorem q_pw (d L n : Nat) (B : Nat → Int → Int) (hR : RKN B n) {r : Nat} (hr : r < 6) {H : Int → Int} (hH : ∀ k : Int, 0 ≤ k → k < 6 → 0 ≤ H k ∧ H k ≤ 7) (eh : ∀ k : Int, 0 ≤ k → k < 6 → B 84 (40 * r + k) = H k) (S' : Int) {c : Int} (c0 : 0 ≤ c) (c1 : c < 216) : ∀ (j : Nat) (S e : Int) (g : Int → Int) (D : Nat → Int → Int), j ≤ 3 → 0 ≤ S → S < 64 → (∀ k : Int, 0 ≤ k → k < 6 → hbq S k → hbq S' k) → Sm PPw B D → (∀ k : Int, 0 ≤ k → k < 6 → D 120 k = g k) →
    ∃ x D', tqrun tqP (d + 6) tqc_X12_partWays 34 [vR 81, vU, vI (r : Int), vI c, vI S, vI e, vI (3 - (j : Int)), vU, vU, vU] [] (tzW D L n) = some (some (vI x), tzW D' L n) ∧ Sm PPw B D' ∧ ((pwr c j S = none ∧ x = 100000000) ∨ ∃ M, pwr c j S = some M ∧ x = vlq (fun a b => nv (Epq B H S' a b)) e M ∧ ∀ k : Int, 0 ≤ k → k < 6 → D' 120 k = asq g M k)
  | 0, S, e, g, D, hj, S0, S1, sub, s, hg => by
    refine ⟨e, D, ?_, s, Or.inr ⟨[], rfl, rfl, hg⟩⟩
    have c3 : (3 : Int) ≤ 3 - ((0 : Nat) : Int) := by omega
    rw [b_X12_partWays_34]
    simp only [z_cd, i10, i11, dnn, rdU, eW, eU, tzC_w, w_shp, w_ptr, Nat.beq_refl, nbz, nb133, nb75, nb55, nb67, n133a, n133b, n75a, n75b, aT, aR, oT, oR, oF, oG, kT, kF, bI, bL, bR, b0, Classical.not_not, not_true_eq_false, not_false_eq_true, and_self, and_true, true_and, ↓reduceIte, decide_true, decide_false, Nat.reduceEqDiff, Nat.reduceLT, Nat.reduceLeDiff, Int.reduceEq, c3]
  | j + 1, S, e, g, D, hj, S0, S1, sub, s, hg => by
    have hrnd : (3 - ((j + 1 : Nat) : Int)) = 0 ∨ (3 - ((j + 1 : Nat) : Int)) = 1 ∨ (3 - ((j + 1 : Nat) : Int)) = 2 := by omega
    have er : (3 - ((j + 1 : Nat) : Int)) = 2 - (j : Int) := by omega
    have er2 : 2 - (j : Int) + 1 = 3 - (j : Int) := by omega
    rw [er] at hrnd ⊢
    have wr := wth_r (rnd := 2 - (j : Int)) c0 c1
    have pe : pwr c (j + 1) S = (if S = 0 then (if wth c (2 - j) ≤ 0 then pwr c j 0 else none) else if wth c (2 - j) = lo6 S ∨ ¬ hbq S (wth c (2 - j)) then none else match pwr c j (mnq S (lo6 S) (wth c (2 - j))) with
      | none => none
      | some M => some ((lo6 S, wth c (2 - j)) :: M)) := rfl
    rw [pe]
    by_cases z : S = 0
    · subst z
      rw [if_pos rfl, q_34z (d + 5) L n D (r : Int) c e c0 c1 hrnd, er2]
      by_cases t : wth c (2 - j) ≤ 0
      · rw [if_pos t, if_pos t]
        exact q_pw d L n B hR hr hH eh S' c0 c1 j 0 e g D (by omega) S0 S1 sub s hg
      · rw [if_neg t, if_neg t]
        exact ⟨100000000, D, rfl, s, Or.inl ⟨rfl, rfl⟩⟩
    · rw [if_neg z, q_34n (d + 5) L n D (r : Int) c S e c0 c1 z hrnd]
      have la := lo_p S0 S1
      rw [q_90 (d + 5) L n D (r : Int) c e (2 - (j : Int)) (wth c (2 - j)) S0 S1 z (lo6 S).toNat 0 (by omega) (by omega)]
      have bl := (la.2 z).1
      have bl2 : ¬ jand (jshr S (lo6 S)) 1 = 0 := fun q => ((b01 S0 S1 la.1.1 (by omega)).mp q) bl
      by_cases t1 : wth c (2 - j) = lo6 S
      · rw [if_pos (Or.inl t1)]
        refine ⟨100000000, D, ?_, s, Or.inl ⟨rfl, rfl⟩⟩
        have t1' : (wth c (2 - (j : Int)) = lo6 S) = True := eq_true t1
        rw [b_X12_partWays_90]
        simp only [z_cd, i10, i11, dnn, rdU, eW, eU, tzC_w, w_shp, w_ptr, Nat.beq_refl, nbz, nb133, nb75, nb55, nb67, n133a, n133b, n75a, n75b, aT, aR, oT, oR, oF, oG, kT, kF, bI, bL, bR, b0, Classical.not_not, not_true_eq_false, not_false_eq_true, and_self, and_true, true_and, ↓reduceIte, decide_true, decide_false, Nat.reduceEqDiff, Nat.reduceLT, Nat.reduceLeDiff, Int.reduceEq, bl2, t1']
      · by_cases t2 : hbq S (wth c (2 - j))
        · rw [if_neg (fun q => by rcases q with q | q; exact t1 q; exact q t2)]
          have t3 : ¬ jand (jshr S (wth c (2 - (j : Int)))) 1 = 0 := fun q => ((b01 S0 S1 wr.1 wr.2).mp q) t2
          obtain ⟨W, hW'⟩ : ∃ W, W = wth c (2 - (j : Int)) := ⟨_, rfl⟩
          rw [← hW'] at wr t1 t2 t3 ⊢
          have hb1 : tqib (lo6 S) 6 = true := tqib_y (by omega) (by omega)
          have hb2 : tqib W 6 = true := tqib_y (by omega) (by omega)
          have s1 : Sm PPw B (tzU (tzU D 120 (lo6 S) W) 120 W (lo6 S)) := Sm_U (by unfold PPw; omega) (Sm_U (by unfold PPw; omega) s)
          obtain ⟨D1, u1, u2⟩ := q_pEnd d L n B hR hr hH eh (a := lo6 S) (b := W) la.1.1 (by omega) wr.1 wr.2 _ s1
          have eE : enq B H (lo6 S) W = Epq B H S' (lo6 S) W := (if_pos (show (hbq S' (lo6 S) ∧ hbq S' W) ∧ (0 ≤ lo6 S ∧ lo6 S < 6 ∧ 0 ≤ W ∧ W < 6) from ⟨⟨sub _ la.1.1 (by omega) bl, sub _ wr.1 wr.2 t2⟩, by omega⟩)).symm
          rw [eE] at u1
          have mr := mn_r S0 S1 la.1.1 (show lo6 S < 6 by omega) wr.1 wr.2
          obtain ⟨x, D', r1, r2, r3⟩ := q_pw d L n B hR hr hH eh S' c0 c1 j (mnq S (lo6 S) W) (jmax e (nv (Epq B H S' (lo6 S) W))) (updq g (lo6 S) W) D1 (by omega) mr.1.1 mr.1.2 (fun k k0 k1 h => sub k k0 k1 ((mn_h S0 S1 la.1.1 (by omega) wr.1 wr.2 k0 k1).mp h).1.1) (Sm_t s1 (PPw_s u2)) (fun k k0 k1 => by
            rw [u2 120 k (by unfold PSw; omega)]
            unfold updq
            by_cases kb : k = W
            · rw [if_pos kb, kb, tzU_s]
            · rw [if_neg kb, tzU_k _ _ _ _ kb]
              by_cases ka : k = lo6 S
              · rw [if_pos ka, ka, tzU_s]
              · rw [if_neg ka, tzU_k _ _ _ _ ka]
                exact hg k k0 k1)
          refine ⟨x, D', ?_, r2, ?_⟩
          · have e3 : w32 (2 - (j : Int) + 1) = 3 - (j : Int) := (w32_i (x := 2 - (j : Int) + 1) (by omega) (by omega)).trans (by omega)
            have em := mr.2
            have t4 : ¬ W = lo6 S := t1
            rw [← r1, b_X12_partWays_90]
            by_cases q : nv (Epq B H S' (lo6 S) W) ≤ e
            · have ej : jmax e (nv (Epq B H S' (lo6 S) W)) = e := by clear e3; have := jmax_c e (nv (Epq B H S' (lo6 S) W)); omega
              rw [ej]
              simp only [z_cd, i10, i11, dnn, rdU, eW, eU, tzC_w, w_shp, w_ptr, Nat.beq_refl, nbz, nb133, nb75, nb55, nb67, n133a, n133b, n75a, n75b, aT, aR, oT, oR, oF, oG, kT, kF, bI, bL, bR, b0, Classical.not_not, not_true_eq_false, not_false_eq_true, and_self, and_true, true_and, ↓reduceIte, decide_true, decide_false, Nat.reduceEqDiff, Nat.reduceLT, Nat.reduceLeDiff, Int.reduceEq, bl2, t4, t3, hb1, hb2, u1, q, em, e3]
            · have ej : jmax e (nv (Epq B H S' (lo6 S) W)) = nv (Epq B H S' (lo6 S) W) := by clear e3; have := jmax_c e (nv (Epq B H S' (lo6 S) W)); omega
              rw [ej]
              simp only [z_cd, i10, i11, dnn, rdU, eW, eU, tzC_w, w_shp, w_ptr, Nat.beq_refl, nbz, nb133, nb75, nb55, nb67, n133a, n133b, n75a, n75b, aT, aR, oT, oR, oF, oG, kT, kF, bI, bL, bR, b0, Classical.not_not, not_true_eq_false, not_false_eq_true, and_self, and_true, true_and, ↓reduceIte, decide_true, decide_false, Nat.reduceEqDiff, Nat.reduceLT, Nat.reduceLeDiff, Int.reduceEq, bl2, t4, t3, hb1, hb2, u1, q, em, e3]
          · rcases r3 with ⟨r3, r4⟩ | ⟨M, r3, r4, r5⟩
            · rw [r3]
              exact Or.inl ⟨rfl, r4⟩
            · rw [r3]
              exact Or.inr ⟨(lo6 S, W) :: M, rfl, r4, r5⟩
        · rw [if_pos (Or.inr t2)]
          refine ⟨100000000, D, ?_, s, Or.inl ⟨rfl, rfl⟩⟩
          have t3 : jand (jshr S (wth c (2 - (j : Int)))) 1 = 0 := (b01 S0 S1 wr.1 wr.2).mpr t2
          rw [b_X12_partWays_90]
          simp only [z_cd, i10, i11, dnn, rdU, eW, eU, tzC_w, w_shp, w_ptr, Nat.beq_refl, nbz, nb133, nb75, nb55, nb67, n133a, n133b, n75a, n75b, aT, aR, oT, oR, oF, oG, kT, kF, bI, bL, bR, b0, Classical.not_not, not_true_eq_false, not_false_eq_true, and_self, and_true, true_and, ↓reduceIte, decide_true, decide_false, Nat.reduceEqDiff, Nat.reduceLT, Nat.reduceLeDiff, Int.reduceEq, bl2, t1, t3]
set_option maxRecDepth 100000 in
set_option maxHeartbeats 1000000 in
theorem q_pw9 (d L n : Nat) (r c S : Int) : ∀ (j : Nat) (k : Int) (D : Nat → Int → Int), 0 ≤ k → k + j = 6 → ∃ D', tqrun tqP (d + 1) tqc_X12_partWays 9 [vR 81, vU, vI r, vI c, vI S, vI 0, vI k, vU, vU, vU] [] (tzW D L n) = tqrun tqP (d + 1) tqc_X12_partWays 34 [vR 81, vU, vI r, vI c, vI S, vI 0, vI 0, vU, vU, vU] [] (tzW D' L n) ∧ Ofq 120 D D' ∧ ∀ i : Int, D' 120 i = if k ≤ i ∧ i < 6 then -9 else D 120 i
  | 0, k, D, k0, kj => by
    refine ⟨D, ?_, Ofq_r _ _, fun i => by rw [if_neg (show ¬ (k ≤ i ∧ i < 6) by omega)]⟩
    have c6 : 6 ≤ k := by omega
    rw [b_X12_partWays_9]
    simp only [z_cd, i10, i11, dnn, rdU, eW, eU, tzC_w, w_shp, w_ptr, Nat.beq_refl, nbz, nb133, nb75, nb55, nb67, n133a, n133b, n75a, n75b, aT, aR, oT, oR, oF, oG, kT, kF, bI, bL, bR, b0, Classical.not_not, not_true_eq_false, not_false_eq_true, and_self, and_true, true_and, ↓reduceIte, decide_true, decide_false, Nat.reduceEqDiff, Nat.reduceLT, Nat.reduceLeDiff, Int.reduceEq, c6]
  | j + 1, k, D, k0, kj => by
    have c6 : ¬ 6 ≤ k := by omega
    have hb : tqib k 6 = true := tqib_y (by omega) (by omega)
    obtain ⟨D', r1, r2, r3⟩ := q_pw9 d L n r c S j (k + 1) (tzU D 120 k (-9)) (by omega) (by omega)
    refine ⟨D', ?_, Ofq_t (Ofq_U _ _ _ _) r2, fun i => ?_⟩
    · have e1 := w1z k0 (by omega)
      rw [← r1, b_X12_partWays_9]
      simp only [z_cd, i10, i11, dnn, rdU, eW, eU, tzC_w, w_shp, w_ptr, Nat.beq_refl, nbz, nb133, nb75, nb55, nb67, n133a, n133b, n75a, n75b, aT, aR, oT, oR, oF, oG, kT, kF, bI, bL, bR, b0, Classical.not_not, not_true_eq_false, not_false_eq_true, and_self, and_true, true_and, ↓reduceIte, decide_true, decide_false, Nat.reduceEqDiff, Nat.reduceLT, Nat.reduceLeDiff, Int.reduceEq, c6, hb, e1]
    · rw [r3]
      by_cases e : i = k
      · rw [if_neg (show ¬ (k + 1 ≤ i ∧ i < 6) by omega), if_pos (show k ≤ i ∧ i < 6 by omega), e, tzU_s]
      · rw [tzU_k _ _ _ _ e]
        by_cases q : k + 1 ≤ i ∧ i < 6
        · rw [if_pos q, if_pos (show k ≤ i ∧ i < 6 by omega)]
        · rw [if_neg q, if_neg (show ¬ (k ≤ i ∧ i < 6) by omega)]
set_option maxRecDepth 100000 in
set_option maxHeartbeats 1000000 in
theorem q_partWays (d L n : Nat) (B : Nat → Int → Int) (hR : RKN B n) {r : Nat} (hr : r < 6) {H : Int → Int} (hH : ∀ k : Int, 0 ≤ k → k < 6 → 0 ≤ H k ∧ H k ≤ 7) (eh : ∀ k : Int, 0 ≤ k → k < 6 → B 84 (40 * r + k) = H k) {S : Int} (S0 : 0 ≤ S) (S1 : S < 64) {c : Int} (c0 : 0 ≤ c) (c1 : c < 216) (D : Nat → Int → Int) (s : Sm PPw B D) :
    ∃ x D', tqden tqP (d + 6) n_X12_partWays [vR 81, vI S, vI (r : Int), vI c] (tzW D L n) = some (some (vI x), tzW D' L n) ∧ Sm PPw B D' ∧ ((pwr c 3 S = none ∧ x = 100000000) ∨ ∃ M, pwr c 3 S = some M ∧ x = nv (vlq (Epq B H S) 0 M) ∧ ∀ k : Int, 0 ≤ k → k < 6 → D' 120 k = asq (fun _ => -9) M k) := by
  obtain ⟨D1, r1, r2, r3⟩ := q_pw9 (d + 5) L n (r : Int) c S 6 0 D (by omega) (by omega)
  obtain ⟨x, D', u1, u2, u3⟩ := q_pw d L n B hR hr hH eh S c0 c1 3 S 0 (fun _ => -9) D1 (by omega) S0 S1 (fun k _ _ h => h) (Sm_t s (Sm_off r2 (fun j => by unfold PPw; omega))) (fun k k0 k1 => by rw [r3, if_pos (show 0 ≤ k ∧ k < 6 by omega)])
  refine ⟨x, D', ?_, u2, ?_⟩
  · have z : (3 - ((3 : Nat) : Int)) = 0 := by decide
    rw [z] at u1
    rw [← u1, ← r1, dn_X12_partWays, b_X12_partWays_0]
  · rcases u3 with u3 | ⟨M, q1, q2, q3⟩
    · exact Or.inl u3
    · refine Or.inr ⟨M, q1, ?_, q3⟩
      have v := (vlq_nv (E := Epq B H S) (fun a b => Epq_V hR hH S a b) M 0 (Or.inl (by omega))).1
      have n0 : nv 0 = 0 := by decide
      rw [n0] at v
      rw [q2, v]
