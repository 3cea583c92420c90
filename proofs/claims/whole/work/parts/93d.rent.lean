/-! ===== rent ===== -/
set_option maxRecDepth 100000 in
set_option maxHeartbeats 1000000 in
theorem p_all2 (d L n : Nat) (E : Nat → Int → Int) {k : Nat} (hk : k < 6) {N : Int} (hN : N ≤ 40) (eN : E (55 + 2 * k) 1 = N) (lo hi : Int) (S : Int → Int) (eS : ∀ i : Int, 0 ≤ i → i < N → E (56 + 2 * k) i = S i) : ∀ (j : Nat) (i : Int), 0 ≤ i → i + j = N → ∃ r, tqrun tqP (d + 1) tqc_X2_allWithin 2 [vR (55 + 2 * k), vI lo, vI hi, vI i] [] (tzW E L n) = some (some (vI r), tzW E L n) ∧ ((r = 1 ∧ ∀ x : Int, i ≤ x → x < N → lo ≤ S x ∧ S x ≤ hi) ∨ (r = 0 ∧ ¬ ∀ x : Int, i ≤ x → x < N → lo ≤ S x ∧ S x ≤ hi))
  | 0, i, i0, ij => by
    obtain ⟨q1, q2, q3⟩ := w_row E L n hk
    have c : N ≤ i := by omega
    refine ⟨1, ?_, Or.inl ⟨rfl, fun x a b => by omega⟩⟩
    rw [b_X2_allWithin_2]
    simp only [z_cd, i10, i11, dnn, rdU, eW, eU, tzC_w, w_shp, w_ptr, Nat.beq_refl, nbz, nb133, nb75, nb55, nb67, n133a, n133b, n75a, n75b, aT, aR, oT, oR, oF, oG, kT, kF, bI, bL, bR, b0, Classical.not_not, not_true_eq_false, not_false_eq_true, and_self, and_true, true_and, ↓reduceIte, decide_true, decide_false, Nat.reduceEqDiff, Nat.reduceLT, Nat.reduceLeDiff, Int.reduceEq, q1, eN, c]
  | j + 1, i, i0, ij => by
    obtain ⟨q1, q2, q3⟩ := w_row E L n hk
    have c : ¬ N ≤ i := by omega
    have hb : tqib i 40 = true := tqib_y (by omega) (by omega)
    have es := eS i i0 (by omega)
    by_cases c1 : S i < lo
    · refine ⟨0, ?_, Or.inr ⟨rfl, fun h => by have := h i (by omega) (by omega); omega⟩⟩
      rw [b_X2_allWithin_2]
      simp only [z_cd, i10, i11, dnn, rdU, eW, eU, tzC_w, w_shp, w_ptr, Nat.beq_refl, nbz, nb133, nb75, nb55, nb67, n133a, n133b, n75a, n75b, aT, aR, oT, oR, oF, oG, kT, kF, bI, bL, bR, b0, Classical.not_not, not_true_eq_false, not_false_eq_true, and_self, and_true, true_and, ↓reduceIte, decide_true, decide_false, Nat.reduceEqDiff, Nat.reduceLT, Nat.reduceLeDiff, Int.reduceEq, q1, q2, q3, eN, c, hb, es, c1]
    · by_cases c2 : S i ≤ hi
      · obtain ⟨r, r1, r2⟩ := p_all2 d L n E hk hN eN lo hi S eS j (i + 1) (by omega) (by omega)
        refine ⟨r, ?_, ?_⟩
        · have e1 := w1z i0 (by omega)
          rw [← r1, b_X2_allWithin_2]
          simp only [z_cd, i10, i11, dnn, rdU, eW, eU, tzC_w, w_shp, w_ptr, Nat.beq_refl, nbz, nb133, nb75, nb55, nb67, n133a, n133b, n75a, n75b, aT, aR, oT, oR, oF, oG, kT, kF, bI, bL, bR, b0, Classical.not_not, not_true_eq_false, not_false_eq_true, and_self, and_true, true_and, ↓reduceIte, decide_true, decide_false, Nat.reduceEqDiff, Nat.reduceLT, Nat.reduceLeDiff, Int.reduceEq, q1, q2, q3, eN, c, hb, es, c1, c2, e1]
        · rcases r2 with ⟨r2, r3⟩ | ⟨r2, r3⟩
          · refine Or.inl ⟨r2, fun x a b => ?_⟩
            by_cases e : x = i
            · rw [e]; omega
            · exact r3 x (by omega) b
          · exact Or.inr ⟨r2, fun h => r3 (fun x a b => h x (by omega) b)⟩
      · refine ⟨0, ?_, Or.inr ⟨rfl, fun h => by have := h i (by omega) (by omega); omega⟩⟩
        rw [b_X2_allWithin_2]
        simp only [z_cd, i10, i11, dnn, rdU, eW, eU, tzC_w, w_shp, w_ptr, Nat.beq_refl, nbz, nb133, nb75, nb55, nb67, n133a, n133b, n75a, n75b, aT, aR, oT, oR, oF, oG, kT, kF, bI, bL, bR, b0, Classical.not_not, not_true_eq_false, not_false_eq_true, and_self, and_true, true_and, ↓reduceIte, decide_true, decide_false, Nat.reduceEqDiff, Nat.reduceLT, Nat.reduceLeDiff, Int.reduceEq, q1, q2, q3, eN, c, hb, es, c1, c2]
set_option maxRecDepth 100000 in
set_option maxHeartbeats 1000000 in
theorem p_all (d L n : Nat) (E : Nat → Int → Int) {k : Nat} (hk : k < 6) {N : Int} (N0 : 0 ≤ N) (hN : N ≤ 40) (eN : E (55 + 2 * k) 1 = N) (lo hi : Int) (S : Int → Int) (eS : ∀ i : Int, 0 ≤ i → i < N → E (56 + 2 * k) i = S i) : ∃ r, tqden tqP (d + 1) n_X2_allWithin [vR (55 + 2 * k), vI lo, vI hi] (tzW E L n) = some (some (vI r), tzW E L n) ∧ ((r = 1 ∧ ∀ x : Int, 0 ≤ x → x < N → lo ≤ S x ∧ S x ≤ hi) ∨ (r = 0 ∧ ¬ ∀ x : Int, 0 ≤ x → x < N → lo ≤ S x ∧ S x ≤ hi)) := by
  obtain ⟨r, r1, r2⟩ := p_all2 d L n E hk hN eN lo hi S eS N.toNat 0 (by omega) (by omega)
  refine ⟨r, ?_, r2⟩
  rw [dn_X2_allWithin, b_X2_allWithin_0]
  exact r1
set_option maxRecDepth 100000 in
set_option maxHeartbeats 1000000 in
theorem q_91 (d L n : Nat) (E : Nat → Int → Int) {r : Nat} (hr : r < 6) (own p f l : Int) {N : Int} (hN : N ≤ 40) (S : Int → Int) (eS : ∀ i : Int, 0 ≤ i → i < N → E 84 (40 * r + i) = S i) : ∀ (j : Nat) (i : Int), 0 ≤ i → i + j = N →
    ((∀ x : Int, i ≤ x → x < N → 0 ≤ S x ∧ S x ≤ 9) → tqrun tqP (d + 2) tqc_X12_rent 91 [vR 81, vI (r : Int), vI own, vI p, vI f, vI l, vI N, vI i, vU, vU, vU, vU, vU, vU] [] (tzW E L n) = tqrun tqP (d + 2) tqc_X12_rent 134 [vR 81, vI (r : Int), vI own, vI p, vI f, vI l, vI N, vI 0, vU, vU, vU, vU, vU, vU] [] (tzW E L n)) ∧ ((¬ ∀ x : Int, i ≤ x → x < N → 0 ≤ S x ∧ S x ≤ 9) → tqrun tqP (d + 2) tqc_X12_rent 91 [vR 81, vI (r : Int), vI own, vI p, vI f, vI l, vI N, vI i, vU, vU, vU, vU, vU, vU] [] (tzW E L n) = some (some (vI (-3)), tzW (tzRm E 3) L n))
  | 0, i, i0, ij => by
    have c : N ≤ i := by omega
    refine ⟨fun _ => ?_, fun h => absurd (fun x a b => by omega) h⟩
    rw [b_X12_rent_91]
    simp only [z_cd, i10, i11, dnn, rdU, eW, eU, tzC_w, w_shp, w_ptr, Nat.beq_refl, nbz, nb133, nb75, nb55, nb67, n133a, n133b, n75a, n75b, aT, aR, oT, oR, oF, oG, kT, kF, bI, bL, bR, b0, Classical.not_not, not_true_eq_false, not_false_eq_true, and_self, and_true, true_and, ↓reduceIte, decide_true, decide_false, Nat.reduceEqDiff, Nat.reduceLT, Nat.reduceLeDiff, Int.reduceEq, c]
  | j + 1, i, i0, ij => by
    have c : ¬ N ≤ i := by omega
    have hb : tqib (40 * (r : Int) + i) 240 = true := tqib_y (by omega) (by omega)
    have es := eS i i0 (by omega)
    obtain ⟨k1, k2⟩ := q_91 d L n E hr own p f l hN S eS j (i + 1) (by omega) (by omega)
    by_cases g : 0 ≤ S i ∧ S i ≤ 9
    · have st : tqrun tqP (d + 2) tqc_X12_rent 91 [vR 81, vI (r : Int), vI own, vI p, vI f, vI l, vI N, vI i, vU, vU, vU, vU, vU, vU] [] (tzW E L n) = tqrun tqP (d + 2) tqc_X12_rent 91 [vR 81, vI (r : Int), vI own, vI p, vI f, vI l, vI N, vI (i + 1), vU, vU, vU, vU, vU, vU] [] (tzW E L n) := by
        have e1 := w40r hr i0 (by omega)
        have e2 := w1z i0 (by clear e1; omega)
        rw [b_X12_rent_91]
        simp only [z_cd, i10, i11, dnn, rdU, eW, eU, tzC_w, w_shp, w_ptr, Nat.beq_refl, nbz, nb133, nb75, nb55, nb67, n133a, n133b, n75a, n75b, aT, aR, oT, oR, oF, oG, kT, kF, bI, bL, bR, b0, Classical.not_not, not_true_eq_false, not_false_eq_true, and_self, and_true, true_and, ↓reduceIte, decide_true, decide_false, Nat.reduceEqDiff, Nat.reduceLT, Nat.reduceLeDiff, Int.reduceEq, c, e1, hb, es, p_in, g, e2]
      rw [st]
      refine ⟨fun h => k1 (fun x a b => h x (by omega) b), fun h => k2 (fun h2 => h (fun x a b => ?_))⟩
      by_cases e : x = i
      · rw [e]; exact g
      · exact h2 x (by omega) b
    · refine ⟨fun h => absurd (h i (by omega) (by omega)) g, fun _ => ?_⟩
      have e1 := w40r hr i0 (by omega)
      rw [b_X12_rent_91]
      simp only [z_cd, i10, i11, dnn, rdU, eW, eU, tzC_w, w_shp, w_ptr, Nat.beq_refl, nbz, nb133, nb75, nb55, nb67, n133a, n133b, n75a, n75b, aT, aR, oT, oR, oF, oG, kT, kF, bI, bL, bR, b0, Classical.not_not, not_true_eq_false, not_false_eq_true, and_self, and_true, true_and, ↓reduceIte, decide_true, decide_false, Nat.reduceEqDiff, Nat.reduceLT, Nat.reduceLeDiff, Int.reduceEq, c, e1, hb, es, p_in, g, s_meets _ E L n (f := 3) (by decide) (by decide)]
set_option maxRecDepth 100000 in
set_option maxHeartbeats 1000000 in
theorem q_134 (d L n : Nat) {r : Nat} (own p f l : Int) {N : Nat} (hN : N ≤ 40) (hN0 : 0 < N) : ∀ (j : Nat) (had : Int) (E : Nat → Int → Int), 0 ≤ had → had + j = 10 → ∃ E', tqrun tqP (d + 2) tqc_X12_rent 134 [vR 81, vI (r : Int), vI own, vI p, vI f, vI l, vI (N : Int), vI had, vU, vU, vU, vU, vU, vU] [] (tzW E L n) = tqrun tqP (d + 2) tqc_X12_rent 167 [vR 81, vI (r : Int), vI own, vI p, vI f, vI l, vI (N : Int), vI ((N : Int) - 1), vU, vU, vU, vU, vU, vU] [] (tzW E' L n) ∧ Ofq 132 E E' ∧ ∀ i : Int, E' 132 i = if 10 * (N : Int) + had ≤ i ∧ i < 10 * (N : Int) + 10 then 0 else E 132 i
  | 0, had, E, h0, hj => by
    have c : 10 ≤ had := by omega
    refine ⟨E, ?_, Ofq_r _ _, fun i => by rw [if_neg (show ¬ (10 * (N : Int) + had ≤ i ∧ i < 10 * (N : Int) + 10) by omega)]⟩
    have e := w32_d2 N (by omega)
    rw [b_X12_rent_134]
    simp only [z_cd, i10, i11, dnn, rdU, eW, eU, tzC_w, w_shp, w_ptr, Nat.beq_refl, nbz, nb133, nb75, nb55, nb67, n133a, n133b, n75a, n75b, aT, aR, oT, oR, oF, oG, kT, kF, bI, bL, bR, b0, Classical.not_not, not_true_eq_false, not_false_eq_true, and_self, and_true, true_and, ↓reduceIte, decide_true, decide_false, Nat.reduceEqDiff, Nat.reduceLT, Nat.reduceLeDiff, Int.reduceEq, c, e]
  | j + 1, had, E, h0, hj => by
    have c : ¬ 10 ≤ had := by omega
    have hb : tqib (10 * (N : Int) + had) 410 = true := tqib_y (by omega) (by omega)
    obtain ⟨E', r1, r2, r3⟩ := q_134 d L n (r := r) own p f l hN hN0 j (had + 1) (tzU E 132 (10 * (N : Int) + had) 0) (by omega) (by omega)
    refine ⟨E', ?_, Ofq_t (Ofq_U _ _ _ _) r2, fun i => ?_⟩
    · have e1 := wd10 (dy := (N : Int)) (b := had) (by omega) (by omega) h0 (by omega)
      have e2 := w1z h0 (by clear e1; omega)
      rw [← r1, b_X12_rent_134]
      simp only [z_cd, i10, i11, dnn, rdU, eW, eU, tzC_w, w_shp, w_ptr, Nat.beq_refl, nbz, nb133, nb75, nb55, nb67, n133a, n133b, n75a, n75b, aT, aR, oT, oR, oF, oG, kT, kF, bI, bL, bR, b0, Classical.not_not, not_true_eq_false, not_false_eq_true, and_self, and_true, true_and, ↓reduceIte, decide_true, decide_false, Nat.reduceEqDiff, Nat.reduceLT, Nat.reduceLeDiff, Int.reduceEq, c, e1, hb, e2]
    · rw [r3]
      by_cases e : i = 10 * (N : Int) + had
      · rw [if_neg (show ¬ (10 * (N : Int) + (had + 1) ≤ i ∧ i < 10 * (N : Int) + 10) by omega), if_pos (show 10 * (N : Int) + had ≤ i ∧ i < 10 * (N : Int) + 10 by omega), e, tzU_s]
      · rw [tzU_k _ _ _ _ e]
        by_cases q : 10 * (N : Int) + (had + 1) ≤ i ∧ i < 10 * (N : Int) + 10
        · rw [if_pos q, if_pos (show 10 * (N : Int) + had ≤ i ∧ i < 10 * (N : Int) + 10 by omega)]
        · rw [if_neg q, if_neg (show ¬ (10 * (N : Int) + had ≤ i ∧ i < 10 * (N : Int) + 10) by omega)]
set_option maxRecDepth 100000 in
set_option maxHeartbeats 1000000 in
theorem q_rent (d L n : Nat) {r : Nat} (hr : r < 6) {own p f l : Int} (ok : okq own p f l) {N : Nat} (hN0 : 0 < N) (hN : N ≤ 40) (S : Int → Int) (hS : ∀ i : Int, 0 ≤ i → i < N → 0 ≤ S i ∧ S i ≤ 9) (E : Nat → Int → Int) (ea : ∀ i : Int, 0 ≤ i → i < N → E 84 (40 * r + i) = S i) :
    ∃ E', tqrun tqP (d + 2) tqc_X12_rent 91 [vR 81, vI (r : Int), vI own, vI p, vI f, vI l, vI (N : Int), vI 0, vU, vU, vU, vU, vU, vU] [] (tzW E L n) = some (some (vI (Wq (Cdq own p f l N S) N 0)), tzW E' L n) ∧ (∀ (b : Nat) (j : Int), b ≠ 131 → b ≠ 132 → ¬ (b = 81 ∧ j = 69) → E' b j = E b j) ∧ E' 81 69 = N ∧ ∀ i : Int, 0 ≤ i → i < N → E' 131 i = plq (Cdq own p f l N S) N 0 0 i := by
  have a1 := (q_91 d L n E hr own p f l (N := (N : Int)) (by omega) S ea N 0 (by omega) (by omega)).1 (fun x a b => hS x a b)
  obtain ⟨F, f1, f2, f3⟩ := q_134 d L n (r := r) own p f l hN hN0 10 0 E (by omega) (by omega)
  have tF : Tabq F 132 (Cdq own p f l N S) N N := fun d' b h1 h0 h2 y0 y1 => by
    rw [show ((N : Int) - d').toNat = 0 by omega, f3, if_pos (show 10 * (N : Int) + 0 ≤ 10 * d' + b ∧ 10 * d' + b < 10 * (N : Int) + 10 by omega)]
    rfl
  obtain ⟨G, g1, g2, g3⟩ := q_167 d L n hr ok hN S hS N F (by omega) (fun i a b => (f2 84 _ (by omega)).trans (ea i a b)) tF
  have v0 : G 132 0 = Wq (Cdq own p f l N S) N 0 := by
    have q := g3 0 0 (by omega) (by omega) (by omega) (by omega) (by omega)
    rw [show ((N : Int) - 0).toNat = N by omega, show (10 * (0 : Int) + 0) = 0 by omega] at q
    exact q
  obtain ⟨H, h1, h2, h4, h3⟩ := q_310 d L n hr ok hN S hS (G 132 0) N 0 0 (tzU G 81 69 N) (by omega) (by omega) (by omega) (by omega) rfl (fun i a b => (g2 84 _ (by omega)).trans ((f2 84 _ (by omega)).trans (ea i a b))) (fun d' b q1 q0 q2 z0 z1 => g3 d' b q1 q0 q2 z0 z1)
  have wv : w32 (G 132 0) = Wq (Cdq own p f l N S) N 0 := by
    have q := Wq_b (okC_of ok hS) hN N 0 (by omega) (by omega) (by omega)
    rw [v0]
    exact w32_i (by omega) (by omega)
  rw [wv] at h1
  refine ⟨H, ?_, fun b j q1 q2 q3 => ?_, ?_, h3⟩
  · rw [a1, f1, g1, h1]
  · clear wv
    rw [h2 b j q1]
    by_cases e : b = 81
    · rw [tzU_k _ _ _ _ (fun h => q3 ⟨e, h⟩), g2 b j q2, f2 b j q2]
    · rw [tzU_o _ _ _ _ e, g2 b j q2, f2 b j q2]
  · rw [h2 81 69 (by decide), tzU_s]
def PRt (b : Nat) (j : Int) : Prop := ¬ (50 ≤ b ∧ b ≤ 52) ∧ ¬ (b = 131) ∧ ¬ (b = 132) ∧ ¬ (b = 81 ∧ j = 69)
set_option maxRecDepth 100000 in
set_option maxHeartbeats 1000000 in
theorem p_prices (d L n : Nat) (D : Nat → Int → Int) (a b c e : Int) : tqden tqP (d + 1) n_X4_setPrices [vR 50, vI a, vI b, vI c, vI e] (tzW D L n) = some (none, tzW (tzU (tzU (tzU (tzU D 50 3 a) 50 4 b) 50 5 c) 50 6 e) L n) := by
  rw [dn_X4_setPrices, b_X4_setPrices_0]
  simp only [z_cd, i10, i11, dnn, rdU, eW, eU, tzC_w, w_shp, w_ptr, Nat.beq_refl, nbz, nb133, nb75, nb55, nb67, n133a, n133b, n75a, n75b, aT, aR, oT, oR, oF, oG, kT, kF, bI, bL, bR, b0, Classical.not_not, not_true_eq_false, not_false_eq_true, and_self, and_true, true_and, ↓reduceIte, decide_true, decide_false, Nat.reduceEqDiff, Nat.reduceLT, Nat.reduceLeDiff, Int.reduceEq]
set_option maxRecDepth 100000 in
set_option maxHeartbeats 400000 in
theorem ag_rent {L : Nat} (a0 a1 a2 a3 a4 : Int) : AgI Rel L n_X11_rent n_X12_rent [vI a0, vI a1, vI a2, vI a3, vI a4] := by
  intro D n hR
  obtain ⟨hA, hL, hW, hN, ⟨c1, c2, c3⟩, hT, hD, hK, hB, hQ, hX, hM, hP, hS⟩ := id hR
  by_cases ct : 0 ≤ a0 ∧ a0 ≤ 5
  · obtain ⟨k, e⟩ : ∃ k : Nat, a0 = k := ⟨a0.toNat, by omega⟩
    subst e
    have hk : k < 6 := by omega
    have hb6 : tqib (k : Int) 6 = true := tqib_y (by omega) (by omega)
    obtain ⟨q1, q2, q3⟩ := w_row D L n hk
    by_cases y1 : 0 ≤ a1 ∧ a1 ≤ 9
    · by_cases y2 : 0 ≤ a2 ∧ a2 ≤ 1000
      · by_cases y3 : 0 ≤ a3 ∧ a3 ≤ 1000
        · by_cases y4 : 0 ≤ a4 ∧ a4 ≤ 1000
          · rcases hL.1 k hk with ⟨e1, e2, e3⟩ | ⟨e1, e2⟩
            · have m0 : 0 ≤ D (55 + 2 * k) 1 := by omega
              by_cases z : D 83 k = 0
              · have z1 : D (55 + 2 * k) 1 = 0 := by omega
                have z2 : tzRx D 5 83 k = 0 := z
                have z3 : (0 : Int) ≤ 0 := by decide
                refine ⟨-3, tzRx D 5, n, tzRm (tzRx D 5) 5, ?_, ?_, Sm_1 (by unfold tzRx; (repeat (refine Sm_U (by omega) ?_)); exact Sm_r _ _), Sm_1 (by unfold tzRm tzRx; (repeat (refine Sm_U (by omega) ?_)); exact Sm_r _ _), Rel_ref hR (by omega) (by omega)⟩
                · rw [dn_X11_rent, b_X11_rent_0]
                  simp only [z_cd, i10, i11, dnn, rdU, eW, eU, tzC_w, w_shp, w_ptr, Nat.beq_refl, nbz, nb133, nb75, nb55, nb67, n133a, n133b, n75a, n75b, aT, aR, oT, oR, oF, oG, kT, kF, bI, bL, bR, b0, Classical.not_not, not_true_eq_false, not_false_eq_true, and_self, and_true, true_and, ↓reduceIte, decide_true, decide_false, Nat.reduceEqDiff, Nat.reduceLT, Nat.reduceLeDiff, Int.reduceEq, s_lineAt_rows_y _ D L n hk, nb55, b_X11_rent_62, p_isWithin, y1, y2, y3, y4, q1, s_isMissing _ D L n q1, z1, z3, s_refuse _ D L n (f := 5) (by decide) (by decide)]
                · rw [dn_X12_rent, b_X12_rent_0]
                  simp only [z_cd, i10, i11, dnn, rdU, eW, eU, tzC_w, w_shp, w_ptr, Nat.beq_refl, nbz, nb133, nb75, nb55, nb67, n133a, n133b, n75a, n75b, aT, aR, oT, oR, oF, oG, kT, kF, bI, bL, bR, b0, Classical.not_not, not_true_eq_false, not_false_eq_true, and_self, and_true, true_and, ↓reduceIte, decide_true, decide_false, Nat.reduceEqDiff, Nat.reduceLT, Nat.reduceLeDiff, Int.reduceEq, q_isRow, ct, p_in, y1, y2, y3, y4, hb6, z2, z3, s_meets _ (tzRx D 5) L n (f := 5) (by decide) (by decide)]
              · have z1 : ¬ D (55 + 2 * k) 1 = 0 := by omega
                obtain ⟨r, u1, u2⟩ := p_all 1397 L n D hk (N := D 83 k) e2 e3 e1 0 9 (fun i => D 84 (40 * k + i)) (fun i i0 i1 => hL.2.1 k i hk i0 (by omega))
                rcases u2 with ⟨u2, u3⟩ | ⟨u2, u3⟩
                · rw [u2] at u1
                  obtain ⟨N, hNN⟩ : ∃ N : Nat, D 83 k = N := ⟨(D 83 k).toNat, by omega⟩
                  rw [hNN] at u3
                  have ok : okq a1 a2 a3 a4 := ⟨y1, y2, y3, y4⟩
                  obtain ⟨P0, hP0⟩ : ∃ P0, P0 = tzU (tzU (tzU (tzU D 50 3 a1) 50 4 a2) 50 5 a3) 50 6 a4 := ⟨_, rfl⟩
                  have sP : ∀ (b : Nat) (j : Int), b ≠ 50 → P0 b j = D b j := fun b j h => by rw [hP0, tzU_o _ _ _ _ h, tzU_o _ _ _ _ h, tzU_o _ _ _ _ h, tzU_o _ _ _ _ h]
                  have prP : Pri P0 a1 a2 a3 a4 := by
                    rw [hP0]
                    refine ⟨?_, ?_, ?_, ?_⟩ <;> simp only [rdU, n133a, n133b, n75a, n75b, ↓reduceIte, Nat.reduceEqDiff, Nat.reduceLT, Nat.reduceLeDiff, Int.reduceEq, not_true_eq_false, not_false_eq_true, true_and, and_true, and_self, true_or, or_true, or_false, false_or, ite_self]
                  obtain ⟨X, x1, x2, x3, x4⟩ := p_plan 1395 L n (56 + 2 * k) ok (fun E => (w_row E L n hk).2.2) (by omega) (N := N) (by omega) (by omega) (fun i => D 84 (40 * k + i)) u3 P0 prP (fun i i0 i1 => by rw [sP _ _ (by omega)]; exact hL.2.1 k i hk i0 (by omega))
                  have sX : ∀ (b : Nat) (j : Int), ¬ (50 ≤ b ∧ b ≤ 52) → X b j = D b j := fun b j h => (x2 b j (by unfold PRe; omega)).trans (sP b j (by omega))
                  obtain ⟨Y, v1, v2, v3, v4⟩ := q_rent 1397 L n hk ok (N := N) (by omega) (by omega) (fun i => D 84 (40 * k + i)) u3 X (fun i i0 i1 => sX 84 _ (by omega))
                  have k83 : X 83 k = N := (sX 83 k (by omega)).trans hNN
                  have kz : ¬ (N : Int) = 0 := by omega
                  have k0 : 0 ≤ (N : Int) := by omega
                  have nP : P0 (55 + 2 * k) 1 = N := (sP _ _ (by omega)).trans (e1.trans hNN)
                  have sY : Sm PRt D Y := fun b j p => by
                    unfold PRt at p
                    rw [v2 b j (by omega) (by omega) (by omega)]
                    exact sX b j (by omega)
                  have hSY : RS Y := by
                    obtain ⟨s1, ⟨s2, s3, s4, s5⟩, s6, s7, s8, s9⟩ := hS
                    refine ⟨fun j a b => ?_, ⟨?_, ?_, ?_, fun j a b => ?_⟩, ?_, ?_, ?_, fun j a b => ?_⟩
                    · rw [sY 29 j (by unfold PRt; omega), sY 119 j (by unfold PRt; omega)]; exact s1 j a b
                    · rw [sY 30 4 (by unfold PRt; omega), sY 81 58 (by unfold PRt; omega)]; exact s2
                    · rw [sY 81 58 (by unfold PRt; omega)]; exact s3
                    · rw [sY 81 58 (by unfold PRt; omega)]; exact s4
                    · rw [sY 81 58 (by unfold PRt; omega)] at b
                      rw [sY 40 j (by unfold PRt; omega), sY 122 j (by unfold PRt; omega)]; exact s5 j a b
                    · rw [v3, v2 50 2 (by omega) (by omega) (by omega)]; exact x3
                    · rw [v3]; omega
                    · rw [v3]; omega
                    · rw [v3] at b
                      rw [v4 j a b, v2 52 j (by omega) (by omega) (by omega)]; exact x4 j a b
                  have pp := p_prices 1397 L n D a1 a2 a3 a4
                  rw [← hP0] at pp
                  have w0 := w_row P0 L n hk
                  refine ⟨Wq (Cdq a1 a2 a3 a4 N (fun i => D 84 (40 * k + i))) N 0, X, n, Y, ?_, ?_, ?_, ?_, ?_⟩
                  · rw [dn_X11_rent, b_X11_rent_0]
                    simp only [z_cd, i10, i11, dnn, rdU, eW, eU, tzC_w, w_shp, w_ptr, Nat.beq_refl, nbz, nb133, nb75, nb55, nb67, n133a, n133b, n75a, n75b, aT, aR, oT, oR, oF, oG, kT, kF, bI, bL, bR, b0, Classical.not_not, not_true_eq_false, not_false_eq_true, and_self, and_true, true_and, ↓reduceIte, decide_true, decide_false, Nat.reduceEqDiff, Nat.reduceLT, Nat.reduceLeDiff, Int.reduceEq, s_lineAt_rows_y _ D L n hk, nb55, b_X11_rent_62, p_isWithin, y1, y2, y3, y4, q1, s_isMissing _ D L n q1, m0, z1, u1, pp, w0, nP, x1]
                  · rw [dn_X12_rent, b_X12_rent_0]
                    simp only [z_cd, i10, i11, dnn, rdU, eW, eU, tzC_w, w_shp, w_ptr, Nat.beq_refl, nbz, nb133, nb75, nb55, nb67, n133a, n133b, n75a, n75b, aT, aR, oT, oR, oF, oG, kT, kF, bI, bL, bR, b0, Classical.not_not, not_true_eq_false, not_false_eq_true, and_self, and_true, true_and, ↓reduceIte, decide_true, decide_false, Nat.reduceEqDiff, Nat.reduceLT, Nat.reduceLeDiff, Int.reduceEq, q_isRow, ct, p_in, y1, y2, y3, y4, hb6, k83, k0, kz]
                    exact v1
                  · funext j; exact sX 1 j (by omega)
                  · exact Sm_1 (Sm_m (fun b j p => by unfold PRt; omega) sY)
                  · refine ⟨?_, ?_, ?_, ?_, ?_, ?_, ?_, ?_, ?_, ?_, ?_, ?_, ?_, ?_⟩
                    · exact RA_fr (Sm_m (fun b j p => by unfold PA at p; unfold PRt; omega) sY) hA
                    · exact RL_fr (Sm_m (fun b j p => by unfold PL at p; unfold PRt; omega) sY) hL
                    · exact RW_fr (Sm_m (fun b j p => by unfold PW at p; unfold PRt; omega) sY) hW
                    · exact RN_fr (Sm_m (fun b j p => by unfold PN at p; unfold PRt; omega) sY) hN
                    · exact RC_fr (Sm_m (fun b j p => by unfold PC at p; unfold PRt; omega) sY) ⟨c1, c2, c3⟩
                    · exact RT_fr (Sm_m (fun b j p => by unfold PT at p; unfold PRt; omega) sY) hT
                    · exact RD_fr (Sm_m (fun b j p => by unfold PD at p; unfold PRt; omega) sY) hD
                    · exact RK_fr (Sm_m (fun b j p => by unfold PK at p; unfold PRt; omega) sY) hK
                    · exact RB_fr (Sm_m (fun b j p => by unfold PB at p; unfold PRt; omega) sY) hB
                    · exact RQ_fr (Sm_m (fun b j p => by unfold PQ at p; unfold PRt; omega) sY) hQ
                    · exact RX_fr (Sm_m (fun b j p => by unfold PX at p; unfold PRt; omega) sY) hX
                    · exact RM_fr (Sm_m (fun b j p => by unfold PM at p; unfold PRt; omega) sY) hM
                    · exact RP_fr (Sm_m (fun b j p => by unfold PP at p; unfold PRt; omega) sY) hP
                    · exact hSY
                · rw [u2] at u1
                  have z2 : ¬ tzRx D 3 83 k = 0 := z
                  have z3 : 0 ≤ tzRx D 3 83 k := e2
                  have rf := (q_91 1397 L n (tzRx D 3) hk a1 a2 a3 a4 (N := D 83 k) e3 (fun i => D 84 (40 * k + i)) (fun i _ _ => rfl) (D 83 k).toNat 0 (by omega) (by omega)).2 u3
                  refine ⟨-3, tzRx D 3, n, tzRm (tzRx D 3) 3, ?_, ?_, Sm_1 (by unfold tzRx; (repeat (refine Sm_U (by omega) ?_)); exact Sm_r _ _), Sm_1 (by unfold tzRm tzRx; (repeat (refine Sm_U (by omega) ?_)); exact Sm_r _ _), Rel_ref hR (by omega) (by omega)⟩
                  · rw [dn_X11_rent, b_X11_rent_0]
                    simp only [z_cd, i10, i11, dnn, rdU, eW, eU, tzC_w, w_shp, w_ptr, Nat.beq_refl, nbz, nb133, nb75, nb55, nb67, n133a, n133b, n75a, n75b, aT, aR, oT, oR, oF, oG, kT, kF, bI, bL, bR, b0, Classical.not_not, not_true_eq_false, not_false_eq_true, and_self, and_true, true_and, ↓reduceIte, decide_true, decide_false, Nat.reduceEqDiff, Nat.reduceLT, Nat.reduceLeDiff, Int.reduceEq, s_lineAt_rows_y _ D L n hk, nb55, b_X11_rent_62, p_isWithin, y1, y2, y3, y4, q1, s_isMissing _ D L n q1, m0, z1, u1, s_refuse _ D L n (f := 3) (by decide) (by decide)]
                  · rw [dn_X12_rent, b_X12_rent_0]
                    simp only [z_cd, i10, i11, dnn, rdU, eW, eU, tzC_w, w_shp, w_ptr, Nat.beq_refl, nbz, nb133, nb75, nb55, nb67, n133a, n133b, n75a, n75b, aT, aR, oT, oR, oF, oG, kT, kF, bI, bL, bR, b0, Classical.not_not, not_true_eq_false, not_false_eq_true, and_self, and_true, true_and, ↓reduceIte, decide_true, decide_false, Nat.reduceEqDiff, Nat.reduceLT, Nat.reduceLeDiff, Int.reduceEq, q_isRow, ct, p_in, y1, y2, y3, y4, hb6, z2, z3]
                    exact rf
            · have m0 : ¬ 0 ≤ D (55 + 2 * k) 1 := by omega
              have z2 : ¬ 0 ≤ tzRx D 1 83 k := by show ¬ 0 ≤ D 83 k; omega
              refine ⟨-3, tzRx D 1, n, tzRm (tzRx D 1) 1, ?_, ?_, Sm_1 (by unfold tzRx; (repeat (refine Sm_U (by omega) ?_)); exact Sm_r _ _), Sm_1 (by unfold tzRm tzRx; (repeat (refine Sm_U (by omega) ?_)); exact Sm_r _ _), Rel_ref hR (by omega) (by omega)⟩
              · rw [dn_X11_rent, b_X11_rent_0]
                simp only [z_cd, i10, i11, dnn, rdU, eW, eU, tzC_w, w_shp, w_ptr, Nat.beq_refl, nbz, nb133, nb75, nb55, nb67, n133a, n133b, n75a, n75b, aT, aR, oT, oR, oF, oG, kT, kF, bI, bL, bR, b0, Classical.not_not, not_true_eq_false, not_false_eq_true, and_self, and_true, true_and, ↓reduceIte, decide_true, decide_false, Nat.reduceEqDiff, Nat.reduceLT, Nat.reduceLeDiff, Int.reduceEq, s_lineAt_rows_y _ D L n hk, nb55, b_X11_rent_62, p_isWithin, y1, y2, y3, y4, q1, s_isMissing _ D L n q1, m0, s_refuse _ D L n (f := 1) (by decide) (by decide)]
              · rw [dn_X12_rent, b_X12_rent_0]
                simp only [z_cd, i10, i11, dnn, rdU, eW, eU, tzC_w, w_shp, w_ptr, Nat.beq_refl, nbz, nb133, nb75, nb55, nb67, n133a, n133b, n75a, n75b, aT, aR, oT, oR, oF, oG, kT, kF, bI, bL, bR, b0, Classical.not_not, not_true_eq_false, not_false_eq_true, and_self, and_true, true_and, ↓reduceIte, decide_true, decide_false, Nat.reduceEqDiff, Nat.reduceLT, Nat.reduceLeDiff, Int.reduceEq, q_isRow, ct, p_in, y1, y2, y3, y4, hb6, z2, s_meets _ (tzRx D 1) L n (f := 1) (by decide) (by decide)]
          · refine ⟨-1, D, n, D, ?_, ?_, rfl, rfl, hR⟩
            · rw [dn_X11_rent, b_X11_rent_0]
              simp only [z_cd, i10, i11, dnn, rdU, eW, eU, tzC_w, w_shp, w_ptr, Nat.beq_refl, nbz, nb133, nb75, nb55, nb67, n133a, n133b, n75a, n75b, aT, aR, oT, oR, oF, oG, kT, kF, bI, bL, bR, b0, Classical.not_not, not_true_eq_false, not_false_eq_true, and_self, and_true, true_and, ↓reduceIte, decide_true, decide_false, Nat.reduceEqDiff, Nat.reduceLT, Nat.reduceLeDiff, Int.reduceEq, s_lineAt_rows_y _ D L n hk, nb55, b_X11_rent_62, p_isWithin, y1, y2, y3, y4]
            · rw [dn_X12_rent, b_X12_rent_0]
              simp only [z_cd, i10, i11, dnn, rdU, eW, eU, tzC_w, w_shp, w_ptr, Nat.beq_refl, nbz, nb133, nb75, nb55, nb67, n133a, n133b, n75a, n75b, aT, aR, oT, oR, oF, oG, kT, kF, bI, bL, bR, b0, Classical.not_not, not_true_eq_false, not_false_eq_true, and_self, and_true, true_and, ↓reduceIte, decide_true, decide_false, Nat.reduceEqDiff, Nat.reduceLT, Nat.reduceLeDiff, Int.reduceEq, q_isRow, ct, p_in, y1, y2, y3, y4]
        · refine ⟨-1, D, n, D, ?_, ?_, rfl, rfl, hR⟩
          · rw [dn_X11_rent, b_X11_rent_0]
            simp only [z_cd, i10, i11, dnn, rdU, eW, eU, tzC_w, w_shp, w_ptr, Nat.beq_refl, nbz, nb133, nb75, nb55, nb67, n133a, n133b, n75a, n75b, aT, aR, oT, oR, oF, oG, kT, kF, bI, bL, bR, b0, Classical.not_not, not_true_eq_false, not_false_eq_true, and_self, and_true, true_and, ↓reduceIte, decide_true, decide_false, Nat.reduceEqDiff, Nat.reduceLT, Nat.reduceLeDiff, Int.reduceEq, s_lineAt_rows_y _ D L n hk, nb55, b_X11_rent_62, p_isWithin, y1, y2, y3]
          · rw [dn_X12_rent, b_X12_rent_0]
            simp only [z_cd, i10, i11, dnn, rdU, eW, eU, tzC_w, w_shp, w_ptr, Nat.beq_refl, nbz, nb133, nb75, nb55, nb67, n133a, n133b, n75a, n75b, aT, aR, oT, oR, oF, oG, kT, kF, bI, bL, bR, b0, Classical.not_not, not_true_eq_false, not_false_eq_true, and_self, and_true, true_and, ↓reduceIte, decide_true, decide_false, Nat.reduceEqDiff, Nat.reduceLT, Nat.reduceLeDiff, Int.reduceEq, q_isRow, ct, p_in, y1, y2, y3]
      · refine ⟨-1, D, n, D, ?_, ?_, rfl, rfl, hR⟩
        · rw [dn_X11_rent, b_X11_rent_0]
          simp only [z_cd, i10, i11, dnn, rdU, eW, eU, tzC_w, w_shp, w_ptr, Nat.beq_refl, nbz, nb133, nb75, nb55, nb67, n133a, n133b, n75a, n75b, aT, aR, oT, oR, oF, oG, kT, kF, bI, bL, bR, b0, Classical.not_not, not_true_eq_false, not_false_eq_true, and_self, and_true, true_and, ↓reduceIte, decide_true, decide_false, Nat.reduceEqDiff, Nat.reduceLT, Nat.reduceLeDiff, Int.reduceEq, s_lineAt_rows_y _ D L n hk, nb55, b_X11_rent_62, p_isWithin, y1, y2]
        · rw [dn_X12_rent, b_X12_rent_0]
          simp only [z_cd, i10, i11, dnn, rdU, eW, eU, tzC_w, w_shp, w_ptr, Nat.beq_refl, nbz, nb133, nb75, nb55, nb67, n133a, n133b, n75a, n75b, aT, aR, oT, oR, oF, oG, kT, kF, bI, bL, bR, b0, Classical.not_not, not_true_eq_false, not_false_eq_true, and_self, and_true, true_and, ↓reduceIte, decide_true, decide_false, Nat.reduceEqDiff, Nat.reduceLT, Nat.reduceLeDiff, Int.reduceEq, q_isRow, ct, p_in, y1, y2]
    · refine ⟨-1, D, n, D, ?_, ?_, rfl, rfl, hR⟩
      · rw [dn_X11_rent, b_X11_rent_0]
        simp only [z_cd, i10, i11, dnn, rdU, eW, eU, tzC_w, w_shp, w_ptr, Nat.beq_refl, nbz, nb133, nb75, nb55, nb67, n133a, n133b, n75a, n75b, aT, aR, oT, oR, oF, oG, kT, kF, bI, bL, bR, b0, Classical.not_not, not_true_eq_false, not_false_eq_true, and_self, and_true, true_and, ↓reduceIte, decide_true, decide_false, Nat.reduceEqDiff, Nat.reduceLT, Nat.reduceLeDiff, Int.reduceEq, s_lineAt_rows_y _ D L n hk, nb55, b_X11_rent_62, p_isWithin, y1]
      · rw [dn_X12_rent, b_X12_rent_0]
        simp only [z_cd, i10, i11, dnn, rdU, eW, eU, tzC_w, w_shp, w_ptr, Nat.beq_refl, nbz, nb133, nb75, nb55, nb67, n133a, n133b, n75a, n75b, aT, aR, oT, oR, oF, oG, kT, kF, bI, bL, bR, b0, Classical.not_not, not_true_eq_false, not_false_eq_true, and_self, and_true, true_and, ↓reduceIte, decide_true, decide_false, Nat.reduceEqDiff, Nat.reduceLT, Nat.reduceLeDiff, Int.reduceEq, q_isRow, ct, p_in, y1]
  · refine ⟨-1, D, n, D, ?_, ?_, rfl, rfl, hR⟩
    · rw [dn_X11_rent, b_X11_rent_0]
      simp only [z_cd, i10, i11, dnn, rdU, eW, eU, tzC_w, w_shp, w_ptr, Nat.beq_refl, nbz, nb133, nb75, nb55, nb67, n133a, n133b, n75a, n75b, aT, aR, oT, oR, oF, oG, kT, kF, bI, bL, bR, b0, Classical.not_not, not_true_eq_false, not_false_eq_true, and_self, and_true, true_and, ↓reduceIte, decide_true, decide_false, Nat.reduceEqDiff, Nat.reduceLT, Nat.reduceLeDiff, Int.reduceEq, s_lineAt_rows_n _ D L n (a := a0) (by omega)]
    · rw [dn_X12_rent, b_X12_rent_0]
      simp only [z_cd, i10, i11, dnn, rdU, eW, eU, tzC_w, w_shp, w_ptr, Nat.beq_refl, nbz, nb133, nb75, nb55, nb67, n133a, n133b, n75a, n75b, aT, aR, oT, oR, oF, oG, kT, kF, bI, bL, bR, b0, Classical.not_not, not_true_eq_false, not_false_eq_true, and_self, and_true, true_and, ↓reduceIte, decide_true, decide_false, Nat.reduceEqDiff, Nat.reduceLT, Nat.reduceLeDiff, Int.reduceEq, q_isRow, ct]

