/-! ===== look: the reference's loops over an order ===== -/
set_option maxRecDepth 100000 in
set_option maxHeartbeats 1000000 in
theorem q_l235 (d L n : Nat) {N : Int} (N1 : N ≤ 6) (yd r : Int) : ∀ (j : Nat) (k : Int) (D : Nat → Int → Int), 0 ≤ k → k + j = N → (∀ z : Int, 0 ≤ z → z < k → D 124 z = z) →
    ∃ D', tqrun tqP (d + 1) tqc_X12_look 235 [vR 81, vU, vI yd, vI r, vU, vU, vI N, vU, vI k, vU, vU, vU, vU, vU] [] (tzW D L n) = tqrun tqP (d + 1) tqc_X12_look 266 [vR 81, vU, vI yd, vI r, vU, vU, vI N, vU, vI 1, vU, vU, vU, vU, vU] [] (tzW (tzU D' 81 62 (-9)) L n) ∧ Ofq 124 D D' ∧ ∀ z : Int, 0 ≤ z → z < N → D' 124 z = z
  | 0, k, D, k0, kj, h => by
    have c : N ≤ k := by omega
    refine ⟨D, ?_, Ofq_r _ _, fun z z0 z1 => h z z0 (by omega)⟩
    rw [b_X12_look_235]
    simp only [z_cd, i10, i11, dnn, rdU, eW, eU, tzC_w, w_shp, w_ptr, Nat.beq_refl, nbz, nb133, nb75, nb55, nb67, n133a, n133b, n75a, n75b, aT, aR, oT, oR, oF, oG, kT, kF, bI, bL, bR, b0, Classical.not_not, not_true_eq_false, not_false_eq_true, and_self, and_true, true_and, ↓reduceIte, decide_true, decide_false, Nat.reduceEqDiff, Nat.reduceLT, Nat.reduceLeDiff, Int.reduceEq, c]
  | j + 1, k, D, k0, kj, h => by
    have c : ¬ N ≤ k := by omega
    have hk : tqib k 6 = true := tqib_y (by omega) (by omega)
    obtain ⟨D', r1, r2, r3⟩ := q_l235 d L n N1 yd r j (k + 1) (tzU D 124 k k) (by omega) (by omega) (fun z z0 z1 => by
      by_cases e : z = k
      · rw [e, tzU_s]
      · rw [tzU_k _ _ _ _ e]; exact h z z0 (by omega))
    refine ⟨D', ?_, fun b z q => (r2 b z q).trans (tzU_o _ _ _ _ q), r3⟩
    have e1 := w1z k0 (by omega)
    rw [← r1, b_X12_look_235]
    simp only [z_cd, i10, i11, dnn, rdU, eW, eU, tzC_w, w_shp, w_ptr, Nat.beq_refl, nbz, nb133, nb75, nb55, nb67, n133a, n133b, n75a, n75b, aT, aR, oT, oR, oF, oG, kT, kF, bI, bL, bR, b0, Classical.not_not, not_true_eq_false, not_false_eq_true, and_self, and_true, true_and, ↓reduceIte, decide_true, decide_false, Nat.reduceEqDiff, Nat.reduceLT, Nat.reduceLeDiff, Int.reduceEq, c, hk, e1]
set_option maxRecDepth 100000 in
set_option maxHeartbeats 1000000 in
theorem q_l379 (d L n : Nat) {N : Int} (N1 : N ≤ 6) (yd r : Int) : ∀ (j : Nat) (k : Int) (D : Nat → Int → Int), 0 ≤ k → k + j = N → (∀ z : Int, 0 ≤ z → z < N → 0 ≤ D 124 z ∧ D 124 z < N) → (∀ z : Int, 0 ≤ z → z < k → D 122 z = D 123 (D 124 z)) →
    ∃ D', tqrun tqP (d + 1) tqc_X12_look 379 [vR 81, vU, vI yd, vI r, vU, vU, vI N, vU, vU, vU, vU, vU, vI k, vU] [] (tzW D L n) = tqrun tqP (d + 1) tqc_X12_look 379 [vR 81, vU, vI yd, vI r, vU, vU, vI N, vU, vU, vU, vU, vU, vI N, vU] [] (tzW D' L n) ∧ Ofq 122 D D' ∧ ∀ z : Int, 0 ≤ z → z < N → D' 122 z = D 123 (D 124 z)
  | 0, k, D, k0, kj, hb, h => by
    refine ⟨D, by rw [show k = N by omega], Ofq_r _ _, fun z z0 z1 => h z z0 (by omega)⟩
  | j + 1, k, D, k0, kj, hb, h => by
    have c : ¬ N ≤ k := by omega
    have hk : tqib k 6 = true := tqib_y (by omega) (by omega)
    have g := hb k k0 (by omega)
    have hk2 : tqib (D 124 k) 6 = true := tqib_y g.1 (by omega)
    have oD : ∀ (b : Nat) (z : Int), b ≠ 122 → tzU D 122 k (D 123 (D 124 k)) b z = D b z := fun b z q => tzU_o _ _ _ _ q
    obtain ⟨D', r1, r2, r3⟩ := q_l379 d L n N1 yd r j (k + 1) (tzU D 122 k (D 123 (D 124 k))) (by omega) (by omega) (fun z z0 z1 => by rw [oD 124 z (by decide)]; exact hb z z0 z1) (fun z z0 z1 => by
      rw [oD 124 z (by decide), oD 123 _ (by decide)]
      by_cases e : z = k
      · rw [e, tzU_s]
      · rw [tzU_k _ _ _ _ e]; exact h z z0 (by omega))
    refine ⟨D', ?_, fun b z q => (r2 b z q).trans (oD b z q), fun z z0 z1 => by rw [r3 z z0 z1, oD 124 z (by decide), oD 123 _ (by decide)]⟩
    have e1 := w1z k0 (by omega)
    rw [← r1, b_X12_look_379]
    simp only [z_cd, i10, i11, dnn, rdU, eW, eU, tzC_w, w_shp, w_ptr, Nat.beq_refl, nbz, nb133, nb75, nb55, nb67, n133a, n133b, n75a, n75b, aT, aR, oT, oR, oF, oG, kT, kF, bI, bL, bR, b0, Classical.not_not, not_true_eq_false, not_false_eq_true, and_self, and_true, true_and, ↓reduceIte, decide_true, decide_false, Nat.reduceEqDiff, Nat.reduceLT, Nat.reduceLeDiff, Int.reduceEq, c, hk, hk2, e1]
def msq (D : Nat → Int → Int) : Nat → Int → List Int
  | 0, _ => []
  | j + 1, k => D 123 (D 124 k) :: msq D j (k + 1)
theorem msq_c {D D' : Nat → Int → Int} (h : ∀ z : Int, D' 123 z = D 123 z) (g : ∀ z : Int, D' 124 z = D 124 z) : ∀ (j : Nat) (k : Int), msq D' j k = msq D j k
  | 0, _ => rfl
  | j + 1, k => by
    show D' 123 (D' 124 k) :: msq D' j (k + 1) = D 123 (D 124 k) :: msq D j (k + 1)
    rw [h, g, msq_c h g j (k + 1)]
set_option maxRecDepth 100000 in
set_option maxHeartbeats 1000000 in
theorem q_l286 (d L n : Nat) (B : Nat → Int → Int) {T N : Int} {r : Nat} (hr : r < 6) (wo : WO B) (T0 : 0 ≤ T) (T1 : T ≤ 9000000) (hT : B 81 5 = T) (W : Int → Int) (hW : ∀ y : Int, 0 ≤ y → y < 8 → B 84 (40 * r + y) = W y ∧ 0 ≤ W y ∧ W y ≤ 100) (N1 : N ≤ 6) (hb : ∀ z : Int, 0 ≤ z → z < N → 0 ≤ B 124 z ∧ B 124 z < N) (yd : Int) : ∀ (j f : Nat) (S a t s k : Int) (D : Nat → Int → Int), 0 ≤ k → k + j = N → f ≤ 6 → PGo B T f S a t → msq B j k ∈ ordq f S → Ofq 92 B D → 0 ≤ s → s + 12000000 * f ≤ 72000000 →
    ∃ D' a' t', tqrun tqP (d + 3) tqc_X12_look 286 [vR 81, vU, vI yd, vI (r : Int), vU, vU, vI N, vU, vU, vI s, vI a, vI t, vI k, vU] [] (tzW D L n) = tqrun tqP (d + 3) tqc_X12_look 286 [vR 81, vU, vI yd, vI (r : Int), vU, vU, vI N, vU, vU, vI (vlo (erq B 0) W T a t s (msq B j k)), vI a', vI t', vI N, vU] [] (tzW D' L n) ∧ Ofq 92 B D'
  | 0, f, S, a, t, s, k, D, k0, kj, f6, pg, m, of, s0, s1 => by
    exact ⟨D, a, t, by rw [show k = N by omega]; rfl, of⟩
  | j + 1, 0, S, a, t, s, k, D, k0, kj, f6, pg, m, of, s0, s1 => by
    by_cases z : S = 0
    · have e : ordq 0 S = [[]] := if_pos z
      rw [e] at m
      exact absurd (List.mem_singleton.mp m) (by intro q; cases q)
    · have e : ordq 0 S = [] := if_neg z
      rw [e] at m
      exact absurd m (List.not_mem_nil)
  | j + 1, f + 1, S, a, t, s, k, D, k0, kj, f6, pg, m, of, s0, s1 => by
    by_cases z : S = 0
    · have e : ordq (f + 1) S = [[]] := if_pos z
      rw [e] at m
      exact absurd (List.mem_singleton.mp m) (by intro q; cases q)
    · have e : ordq (f + 1) S = ordb (ordq f) S 8 0 := if_neg z
      rw [e] at m
      obtain ⟨y, M', y0, y1, hy, m', eM⟩ := ordb_m (ordq f) S 8 0 m
      have eM1 : B 123 (B 124 k) :: msq B j (k + 1) = y :: M' := eM
      injection eM1 with ey eL
      rw [← eL] at m'
      have y2 : y < 8 := by omega
      have c : ¬ N ≤ k := by omega
      have g := hb k k0 (by omega)
      have hk : tqib k 6 = true := tqib_y (by omega) (by omega)
      have hk2 : tqib (B 124 k) 6 = true := tqib_y g.1 (by omega)
      have ps := PG_stp wo T0 T1 f S a t y pg y0 y2 hy
      have pb := PG_b wo T0 T1 f6 pg y0 y2 hy
      obtain ⟨⟨S0, S1⟩, ⟨a0, a1⟩, t0, t1⟩ := pg.1
      have w8 := hW y y0 y2
      have mk := mulk w8.2.1 w8.2.2 pb.2.1 pb.2.2
      have lt := pg.2 y y0 y2 hy
      have wyD : WY D := WY_fr (fun b j h => of b j (by omega)) wo.1
      have hdD : ∀ y : Int, 0 ≤ y → y < 8 → D 88 (9 * y) = 0 := fun y y0 y1 => (of 88 _ (by omega)).trans (wo.2.1 y y0 y1)
      obtain ⟨D1, v1, v2⟩ := q_comesTo d L n D (a := a) (s := t) (b := y) a0 a1 (by omega) (by omega) y0 y2 wyD hdD
      have eE : erq D 0 a t y = erq B 0 a t y := er_fr (fun b j b0 b1 => of b j (by omega)) 0 a t y
      have en : nv (erq D 0 a t y) = erq B 0 a t y := by
        rw [eE]; exact if_neg (by omega)
      rw [en] at v1
      have of1 : Ofq 92 B D1 := Ofq_t of v2
      obtain ⟨D', a', t', r1, r2⟩ := q_l286 d L n B hr wo T0 T1 hT W hW N1 hb yd j f (rmk S y) y (erq B 0 a t y) (s + W y * (erq B 0 a t y - T)) (k + 1) D1 (by omega) (by omega) (by omega) ps m' of1 (by omega) (by omega)
      refine ⟨D', a', t', ?_, r2⟩
      have d124 : D 124 k = B 124 k := of 124 k (by omega)
      have d123 : D 123 (B 124 k) = y := (of 123 _ (by omega)).trans ey
      have d84 : D1 84 (40 * r + y) = W y := (of1 84 _ (by omega)).trans w8.1
      have d5 : D1 81 5 = T := (of1 81 5 (by omega)).trans hT
      have h240 : tqib (40 * (r : Int) + y) 240 = true := tqib_y (by omega) (by omega)
      have e40 := w40r hr y0 (show y < 40 by omega)
      have w1 : w32 (erq B 0 a t y - T) = erq B 0 a t y - T := w32_i (by clear e40; omega) (by clear e40; omega)
      have w2 : w32 (W y * (erq B 0 a t y - T)) = W y * (erq B 0 a t y - T) := w32_i (by clear e40 w1; omega) (by clear e40 w1; omega)
      have w3 : w32 (s + W y * (erq B 0 a t y - T)) = s + W y * (erq B 0 a t y - T) := w32_i (by clear e40 w1 w2; omega) (by clear e40 w1 w2; omega)
      have e1 := w1z k0 (show k < 1000 by clear e40 w1 w2 w3; omega)
      have ev : vlo (erq B 0) W T a t s (msq B (j + 1) k) = vlo (erq B 0) W T y (erq B 0 a t y) (s + W y * (erq B 0 a t y - T)) (msq B j (k + 1)) := by
        show vlo (erq B 0) W T a t s (B 123 (B 124 k) :: msq B j (k + 1)) = _
        rw [ey]; rfl
      rw [ev, ← r1, b_X12_look_286]
      simp only [z_cd, i10, i11, dnn, rdU, eW, eU, tzC_w, w_shp, w_ptr, Nat.beq_refl, nbz, nb133, nb75, nb55, nb67, n133a, n133b, n75a, n75b, aT, aR, oT, oR, oF, oG, kT, kF, bI, bL, bR, b0, Classical.not_not, not_true_eq_false, not_false_eq_true, and_self, and_true, true_and, ↓reduceIte, decide_true, decide_false, Nat.reduceEqDiff, Nat.reduceLT, Nat.reduceLeDiff, Int.reduceEq, c, hk, hk2, d124, d123, v1, h240, e40, d84, d5, w1, w2, w3, e1]
