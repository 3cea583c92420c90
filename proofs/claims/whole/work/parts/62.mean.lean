theorem w32_z {a : Int} (h : in32 a) : w32 (a + 0) = a := (congrArg w32 (Int.add_zero a)).trans (w32_id h)
theorem w64_z {a : Int} (h : in64 a) : w64 (a + 0) = a := (congrArg w64 (Int.add_zero a)).trans (w64_id h)
theorem ib40 {e N : Int} (h0 : 0 ≤ e) (h1 : e < N) (h2 : N ≤ 40) : tqib e 40 = true := tqib_y (by omega) (by omega)
theorem w32_f {e N : Int} (h0 : 0 ≤ e) (h1 : e < N) (h2 : N ≤ 40) : w32 (e + 1) = e + 1 := w32_id ⟨by omega, by omega⟩
theorem ib240 {k : Nat} {e N : Int} (hk : k < 6) (h0 : 0 ≤ e) (h1 : e < N) (h2 : N ≤ 40) : tqib (40 * (k : Int) + e) 240 = true := tqib_y (by omega) (by omega)
/-- how many are told, and their sum -/
def mN (f : Int → Int) : Nat → Int → Int → Int
  | 0, a, _ => a
  | j + 1, a, i => mN f j (if f i = -999 then a else w32 (a + 1)) (i + 1)
def mS (f : Int → Int) : Nat → Int → Int → Int
  | 0, s, _ => s
  | j + 1, s, i => mS f j (if f i = -999 then s else w64 (s + f i)) (i + 1)
theorem mN_S (f : Int → Int) (j : Nat) (a i : Int) : mN f (j + 1) a i = mN f j (if f i = -999 then a else w32 (a + 1)) (i + 1) := rfl
theorem mS_S (f : Int → Int) (j : Nat) (a i : Int) : mS f (j + 1) a i = mS f j (if f i = -999 then a else w64 (a + f i)) (i + 1) := rfl
def mV (f : Int → Int) (j : Nat) (a s i : Int) : Int := w32 (w64 ((mS f j s i).tdiv (mN f j a i)))
set_option maxRecDepth 100000 in
set_option maxHeartbeats 400000 in
theorem p_mean (d : Nat) (D : Nat → Int → Int) (L n : Nat) (f : Int → Int) {k : Nat} (hk : k < 6) {N : Int} (h4 : N ≤ 40) (hz : D (55 + 2 * k) 1 = N) (he : ∀ i : Int, 0 ≤ i → i < 40 → D (56 + 2 * k) i = f i) : ∀ (j : Nat) (a s i : Int), 0 ≤ i → i + j = N → in32 a → in64 s → tqrun tqP (d + 2) tqc_X11_mean 36 [vR 2, vU, vR (55 + 2 * k), vI a, vL s, vU, vI i] [] (tzW D L n) = (if mN f j a i = 0 then some (some (vI (-3)), tzW (tzRx D 4) L n) else some (some (vI 1), tzW (tzU D 53 2 (mV f j a s i)) L n))
  | 0, a, s, i, h0, h1, ha, hs => by
    have c : N ≤ i := by omega
    rw [b_X11_mean_36]
    unfold mV mN mS
    by_cases z : a = 0
    · simp only [z_cd, i10, i11, dnn, rdU, eW, eU, tzC_w, w_shp, w_ptr, Nat.beq_refl, nbz, nb133, nb75, nb55, nb67, n133a, n133b, n75a, n75b, aT, aR, oT, oR, oF, oG, kT, kF, bI, bL, bR, b0, Classical.not_not, not_true_eq_false, not_false_eq_true, and_self, and_true, true_and, ↓reduceIte, decide_true, decide_false, Nat.reduceEqDiff, Nat.reduceLT, Nat.reduceLeDiff, Int.reduceEq, w_row D L n hk, hz, c, z, s_refuse _ D L n (f := 4) (by decide) (by decide), s_meets _ D L n (f := 4) (by decide) (by decide)]
    · simp only [z_cd, i10, i11, dnn, rdU, eW, eU, tzC_w, w_shp, w_ptr, Nat.beq_refl, nbz, nb133, nb75, nb55, nb67, n133a, n133b, n75a, n75b, aT, aR, oT, oR, oF, oG, kT, kF, bI, bL, bR, b0, Classical.not_not, not_true_eq_false, not_false_eq_true, and_self, and_true, true_and, ↓reduceIte, decide_true, decide_false, Nat.reduceEqDiff, Nat.reduceLT, Nat.reduceLeDiff, Int.reduceEq, w_row D L n hk, hz, c, z, s_tells, q_ask]
  | j + 1, a, s, i, h0, h1, ha, hs => by
    have c : ¬ N ≤ i := by omega
    have i1 : i < N := by omega
    have i40 : i < 40 := by omega
    have hbi := ib40 h0 i1 h4
    have hb2 := ib240 hk h0 i1 h4
    have ei := he i h0 i40
    have ih := fun a s (x : in32 a) (y : in64 s) => p_mean d D L n f hk h4 hz he j a s (i + 1) (by omega) (by omega) x y
    have ih1 := ih a s ha hs
    have ih2 := ih (w32 (a + 1)) (w64 (s + f i)) (in32_w _) (in64_w _)
    have w1 := w32_f h0 i1 h4
    have w2 := w32_40 hk
    have w3 := w32_40k hk h0 i40
    have w4 := w32_z ha
    have w5 := w64_z hs
    rw [b_X11_mean_36]
    unfold mV
    rw [mN_S, mS_S]
    unfold mV at ih1 ih2
    by_cases g : f i = -999
    · rw [if_pos g, if_pos g, ← ih1]
      simp only [z_cd, i10, i11, dnn, rdU, eW, eU, tzC_w, w_shp, w_ptr, Nat.beq_refl, nbz, nb133, nb75, nb55, nb67, n133a, n133b, n75a, n75b, aT, aR, oT, oR, oF, oG, kT, kF, bI, bL, bR, b0, Classical.not_not, not_true_eq_false, not_false_eq_true, and_self, and_true, true_and, ↓reduceIte, decide_true, decide_false, Nat.reduceEqDiff, Nat.reduceLT, Nat.reduceLeDiff, Int.reduceEq, w_row D L n hk, hz, c, hbi, hb2, ei, g, w1, w2, w3, w4, w5]
    · rw [if_neg g, if_neg g, ← ih2]
      simp only [z_cd, i10, i11, dnn, rdU, eW, eU, tzC_w, w_shp, w_ptr, Nat.beq_refl, nbz, nb133, nb75, nb55, nb67, n133a, n133b, n75a, n75b, aT, aR, oT, oR, oF, oG, kT, kF, bI, bL, bR, b0, Classical.not_not, not_true_eq_false, not_false_eq_true, and_self, and_true, true_and, ↓reduceIte, decide_true, decide_false, Nat.reduceEqDiff, Nat.reduceLT, Nat.reduceLeDiff, Int.reduceEq, w_row D L n hk, hz, c, hbi, hb2, ei, g, w1, w2, w3, w4, w5]
set_option maxRecDepth 100000 in
set_option maxHeartbeats 400000 in
theorem q_mean (d : Nat) (D : Nat → Int → Int) (L n : Nat) (f : Int → Int) {k : Nat} (hk : k < 6) {N : Int} (h4 : N ≤ 40) (hz : D 83 k = N) (hb : tqib (k : Int) 6 = true) (he : ∀ i : Int, 0 ≤ i → i < 40 → D 84 (40 * k + i) = f i) : ∀ (j : Nat) (a s i : Int), 0 ≤ i → i + j = N → in32 a → in64 s → tqrun tqP (d + 2) tqc_X12_mean 20 [vR 81, vI (k : Int), vU, vI a, vL s, vU, vI i, vU] [] (tzW D L n) = (if mN f j a i = 0 then some (some (vI (-3)), tzW (tzRm D 4) L n) else some (some (vI 1), tzW (tzU D 81 2 (mV f j a s i)) L n))
  | 0, a, s, i, h0, h1, ha, hs => by
    have c : N ≤ i := by omega
    rw [b_X12_mean_20]
    unfold mV mN mS
    by_cases z : a = 0
    · simp only [z_cd, i10, i11, dnn, rdU, eW, eU, tzC_w, w_shp, w_ptr, Nat.beq_refl, nbz, nb133, nb75, nb55, nb67, n133a, n133b, n75a, n75b, aT, aR, oT, oR, oF, oG, kT, kF, bI, bL, bR, b0, Classical.not_not, not_true_eq_false, not_false_eq_true, and_self, and_true, true_and, ↓reduceIte, decide_true, decide_false, Nat.reduceEqDiff, Nat.reduceLT, Nat.reduceLeDiff, Int.reduceEq, hb, hz, c, z, s_refuse _ D L n (f := 4) (by decide) (by decide), s_meets _ D L n (f := 4) (by decide) (by decide)]
    · simp only [z_cd, i10, i11, dnn, rdU, eW, eU, tzC_w, w_shp, w_ptr, Nat.beq_refl, nbz, nb133, nb75, nb55, nb67, n133a, n133b, n75a, n75b, aT, aR, oT, oR, oF, oG, kT, kF, bI, bL, bR, b0, Classical.not_not, not_true_eq_false, not_false_eq_true, and_self, and_true, true_and, ↓reduceIte, decide_true, decide_false, Nat.reduceEqDiff, Nat.reduceLT, Nat.reduceLeDiff, Int.reduceEq, hb, hz, c, z, s_tells, q_ask]
  | j + 1, a, s, i, h0, h1, ha, hs => by
    have c : ¬ N ≤ i := by omega
    have i1 : i < N := by omega
    have i40 : i < 40 := by omega
    have hbi := ib40 h0 i1 h4
    have hb2 := ib240 hk h0 i1 h4
    have ei := he i h0 i40
    have ih := fun a s (x : in32 a) (y : in64 s) => q_mean d D L n f hk h4 hz hb he j a s (i + 1) (by omega) (by omega) x y
    have ih1 := ih a s ha hs
    have ih2 := ih (w32 (a + 1)) (w64 (s + f i)) (in32_w _) (in64_w _)
    have w1 := w32_f h0 i1 h4
    have w2 := w32_40 hk
    have w3 := w32_40k hk h0 i40
    have w4 := w32_z ha
    have w5 := w64_z hs
    rw [b_X12_mean_20]
    unfold mV
    rw [mN_S, mS_S]
    unfold mV at ih1 ih2
    by_cases g : f i = -999
    · rw [if_pos g, if_pos g, ← ih1]
      simp only [z_cd, i10, i11, dnn, rdU, eW, eU, tzC_w, w_shp, w_ptr, Nat.beq_refl, nbz, nb133, nb75, nb55, nb67, n133a, n133b, n75a, n75b, aT, aR, oT, oR, oF, oG, kT, kF, bI, bL, bR, b0, Classical.not_not, not_true_eq_false, not_false_eq_true, and_self, and_true, true_and, ↓reduceIte, decide_true, decide_false, Nat.reduceEqDiff, Nat.reduceLT, Nat.reduceLeDiff, Int.reduceEq, hb, hz, c, hbi, hb2, ei, g, w1, w2, w3, w4, w5, b_X12_mean_59]
    · rw [if_neg g, if_neg g, ← ih2]
      simp only [z_cd, i10, i11, dnn, rdU, eW, eU, tzC_w, w_shp, w_ptr, Nat.beq_refl, nbz, nb133, nb75, nb55, nb67, n133a, n133b, n75a, n75b, aT, aR, oT, oR, oF, oG, kT, kF, bI, bL, bR, b0, Classical.not_not, not_true_eq_false, not_false_eq_true, and_self, and_true, true_and, ↓reduceIte, decide_true, decide_false, Nat.reduceEqDiff, Nat.reduceLT, Nat.reduceLeDiff, Int.reduceEq, hb, hz, c, hbi, hb2, ei, g, w1, w2, w3, w4, w5, b_X12_mean_59]
set_option maxRecDepth 100000 in
set_option maxHeartbeats 400000 in
theorem ag_mean {L : Nat} (a0 : Int) : AgI Rel L n_X11_mean n_X12_mean [vI a0] := by
  intro D n hR
  obtain ⟨hA, hL, hW, hN, ⟨c1, c2, c3⟩, hT, hD, hK, hB, hQ, hX, hM, hP, hS⟩ := id hR
  by_cases ct : 0 ≤ a0 ∧ a0 ≤ 5
  · obtain ⟨k, e⟩ : ∃ k : Nat, a0 = k := ⟨a0.toNat, by omega⟩
    subst e
    have hk : k < 6 := by omega
    have hb : tqib (k : Int) 6 = true := tqib_y (by omega) (by omega)
    rcases hL.1 k hk with ⟨e1, z0, z40⟩ | ⟨e1, z0⟩
    · obtain ⟨N, hN2⟩ : ∃ N : Nat, D 83 k = N := ⟨(D 83 k).toNat, by omega⟩
      obtain ⟨f, hf⟩ : ∃ f : Int → Int, f = fun i => D 84 (40 * k + i) := ⟨_, rfl⟩
      have n40 : (N : Int) ≤ 40 := by omega
      have i0 : in32 0 := ⟨by omega, by omega⟩
      have i1 : in64 0 := ⟨by omega, by omega⟩
      have P := p_mean 1397 D L n f hk n40 (e1.trans hN2) (fun i a b => by rw [hf]; exact hL.2.1 k i hk a b) N 0 0 0 (by omega) (by omega) i0 i1
      by_cases z : mN f N 0 0 = 0
      · rw [if_pos z] at P
        have y0 : 0 ≤ tzRx D 4 83 k := z0
        have Q := q_mean 1397 (tzRx D 4) L n f hk n40 hN2 hb (fun i a b => by rw [hf]; rfl) N 0 0 0 (by omega) (by omega) i0 i1
        rw [if_pos z] at Q
        refine ⟨-3, tzRx D 4, n, tzRm (tzRx D 4) 4, ?_, ?_, Sm_1 (by unfold tzRx; (repeat (refine Sm_U (by omega) ?_)); exact Sm_r _ _), Sm_1 (by unfold tzRm tzRx; (repeat (refine Sm_U (by omega) ?_)); exact Sm_r _ _), Rel_ref hR (by omega) (by omega)⟩
        · rw [dn_X11_mean, b_X11_mean_0]
          simp only [z_cd, i10, i11, dnn, rdU, eW, eU, tzC_w, w_shp, w_ptr, Nat.beq_refl, nbz, nb133, nb75, nb55, nb67, n133a, n133b, n75a, n75b, aT, aR, oT, oR, oF, oG, kT, kF, bI, bL, bR, b0, Classical.not_not, not_true_eq_false, not_false_eq_true, and_self, and_true, true_and, ↓reduceIte, decide_true, decide_false, Nat.reduceEqDiff, Nat.reduceLT, Nat.reduceLeDiff, Int.reduceEq, s_lineAt_rows_y _ D L n hk, w_row D L n hk, s_isMissing _ D L n (w_row D L n hk).1, e1, z0]
          exact P
        · rw [dn_X12_mean, b_X12_mean_0]
          simp only [z_cd, i10, i11, dnn, rdU, eW, eU, tzC_w, w_shp, w_ptr, Nat.beq_refl, nbz, nb133, nb75, nb55, nb67, n133a, n133b, n75a, n75b, aT, aR, oT, oR, oF, oG, kT, kF, bI, bL, bR, b0, Classical.not_not, not_true_eq_false, not_false_eq_true, and_self, and_true, true_and, ↓reduceIte, decide_true, decide_false, Nat.reduceEqDiff, Nat.reduceLT, Nat.reduceLeDiff, Int.reduceEq, s_askedRow_y _ (tzRx D 4) L n ct.1 ct.2 y0, Int.reduceLT, Int.reduceLE, Int.reduceNeg]
          exact Q
      · rw [if_neg z] at P
        obtain ⟨V, hV⟩ : ∃ V, V = mV f N 0 0 0 := ⟨_, rfl⟩
        rw [← hV] at P
        have y0 : 0 ≤ tzU D 53 2 V 83 k := z0
        have Q := q_mean 1397 (tzU D 53 2 V) L n f hk n40 hN2 hb (fun i a b => by rw [hf]; rfl) N 0 0 0 (by omega) (by omega) i0 i1
        rw [if_neg z, ← hV] at Q
        refine ⟨1, tzU D 53 2 V, n, tzU (tzU D 53 2 V) 81 2 V, ?_, ?_, Sm_1 (by (repeat (refine Sm_U (by omega) ?_)); exact Sm_r _ _), Sm_1 (by (repeat (refine Sm_U (by omega) ?_)); exact Sm_r _ _), Rel_ask hR _⟩
        · rw [dn_X11_mean, b_X11_mean_0]
          simp only [z_cd, i10, i11, dnn, rdU, eW, eU, tzC_w, w_shp, w_ptr, Nat.beq_refl, nbz, nb133, nb75, nb55, nb67, n133a, n133b, n75a, n75b, aT, aR, oT, oR, oF, oG, kT, kF, bI, bL, bR, b0, Classical.not_not, not_true_eq_false, not_false_eq_true, and_self, and_true, true_and, ↓reduceIte, decide_true, decide_false, Nat.reduceEqDiff, Nat.reduceLT, Nat.reduceLeDiff, Int.reduceEq, s_lineAt_rows_y _ D L n hk, w_row D L n hk, s_isMissing _ D L n (w_row D L n hk).1, e1, z0]
          exact P
        · rw [dn_X12_mean, b_X12_mean_0]
          simp only [z_cd, i10, i11, dnn, rdU, eW, eU, tzC_w, w_shp, w_ptr, Nat.beq_refl, nbz, nb133, nb75, nb55, nb67, n133a, n133b, n75a, n75b, aT, aR, oT, oR, oF, oG, kT, kF, bI, bL, bR, b0, Classical.not_not, not_true_eq_false, not_false_eq_true, and_self, and_true, true_and, ↓reduceIte, decide_true, decide_false, Nat.reduceEqDiff, Nat.reduceLT, Nat.reduceLeDiff, Int.reduceEq, s_askedRow_y _ (tzU D 53 2 V) L n ct.1 ct.2 y0, Int.reduceLT, Int.reduceLE, Int.reduceNeg]
          exact Q
    · refine ⟨-3, tzRx D 1, n, tzRm (tzRx D 1) 1, ?_, ?_, Sm_1 (by unfold tzRx; (repeat (refine Sm_U (by omega) ?_)); exact Sm_r _ _), Sm_1 (by unfold tzRm tzRx; (repeat (refine Sm_U (by omega) ?_)); exact Sm_r _ _), Rel_ref hR (by omega) (by omega)⟩
      · rw [dn_X11_mean, b_X11_mean_0]
        simp only [z_cd, i10, i11, dnn, rdU, eW, eU, tzC_w, w_shp, w_ptr, Nat.beq_refl, nbz, nb133, nb75, nb55, nb67, n133a, n133b, n75a, n75b, aT, aR, oT, oR, oF, oG, kT, kF, bI, bL, bR, b0, Classical.not_not, not_true_eq_false, not_false_eq_true, and_self, and_true, true_and, ↓reduceIte, decide_true, decide_false, Nat.reduceEqDiff, Nat.reduceLT, Nat.reduceLeDiff, Int.reduceEq, s_lineAt_rows_y _ D L n hk, w_row D L n hk, s_isMissing _ D L n (w_row D L n hk).1, e1, Int.reduceLT, Int.reduceLE, Int.reduceNeg, s_refuse _ D L n (f := 1) (by decide) (by decide)]
      · have y0 : tzRx D 1 83 k < 0 := z0
        rw [dn_X12_mean, b_X12_mean_0]
        simp only [z_cd, i10, i11, dnn, rdU, eW, eU, tzC_w, w_shp, w_ptr, Nat.beq_refl, nbz, nb133, nb75, nb55, nb67, n133a, n133b, n75a, n75b, aT, aR, oT, oR, oF, oG, kT, kF, bI, bL, bR, b0, Classical.not_not, not_true_eq_false, not_false_eq_true, and_self, and_true, true_and, ↓reduceIte, decide_true, decide_false, Nat.reduceEqDiff, Nat.reduceLT, Nat.reduceLeDiff, Int.reduceEq, s_askedRow_n _ (tzRx D 1) L n ct.1 ct.2 y0, Int.reduceLT, Int.reduceLE, Int.reduceNeg, s_meets _ (tzRx D 1) L n (f := 1) (by decide) (by decide)]
  · refine ⟨-1, D, n, D, ?_, ?_, rfl, rfl, hR⟩
    · rw [dn_X11_mean, b_X11_mean_0]
      simp only [z_cd, i10, i11, dnn, rdU, eW, eU, tzC_w, w_shp, w_ptr, Nat.beq_refl, nbz, nb133, nb75, nb55, nb67, n133a, n133b, n75a, n75b, aT, aR, oT, oR, oF, oG, kT, kF, bI, bL, bR, b0, Classical.not_not, not_true_eq_false, not_false_eq_true, and_self, and_true, true_and, ↓reduceIte, decide_true, decide_false, Nat.reduceEqDiff, Nat.reduceLT, Nat.reduceLeDiff, Int.reduceEq, s_lineAt_rows_n _ D L n (a := a0) (by omega)]
    · rw [dn_X12_mean, b_X12_mean_0]
      simp only [z_cd, i10, i11, dnn, rdU, eW, eU, tzC_w, w_shp, w_ptr, Nat.beq_refl, nbz, nb133, nb75, nb55, nb67, n133a, n133b, n75a, n75b, aT, aR, oT, oR, oF, oG, kT, kF, bI, bL, bR, b0, Classical.not_not, not_true_eq_false, not_false_eq_true, and_self, and_true, true_and, ↓reduceIte, decide_true, decide_false, Nat.reduceEqDiff, Nat.reduceLT, Nat.reduceLeDiff, Int.reduceEq, s_askedRow_b _ (tzW D L n) (a := a0) (by omega), Int.reduceLT, Int.reduceLE, Int.reduceNeg]
