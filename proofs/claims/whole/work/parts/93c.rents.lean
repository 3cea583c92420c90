/-! ===== rents: the reference ===== -/
theorem jm_if (x y : Int) : jmax (x - y) 0 = if x ≤ y then 0 else x - y := by
  have := jmax_c (x - y) 0
  by_cases c : x ≤ y
  · rw [if_pos c]; omega
  · rw [if_neg c]; omega
theorem jm_if2 (nd own x : Int) : jmax (nd - own - x) 0 = if nd ≤ own + x then 0 else nd - own - x := by
  have := jmax_c (nd - own - x) 0
  by_cases c : nd ≤ own + x
  · rw [if_pos c]; omega
  · rw [if_neg c]; omega
set_option maxRecDepth 100000 in
set_option maxHeartbeats 1000000 in
theorem q_cost (d : Nat) (m : tqM) {own p f l x b nd : Int} (ok : okq own p f l) (x0 : 0 ≤ x) (x1 : x ≤ 9) (y0 : 0 ≤ b) (y1 : b ≤ 9) (n0 : 0 ≤ nd) (n1 : nd ≤ 9) : tqden tqP (d + 1) n_X12_costOf [vI x, vI b, vI nd, vI own, vI p, vI f, vI l] m = some (some (vL (cstq own p f l x b nd)), m) := by
  obtain ⟨k1, k2, k3⟩ := cstq_b ok x0 x1 y0 n1 (b := b)
  have o1 := ok.1
  unfold cstq
  rw [jm_if] at k2 ⊢
  rw [jm_if2] at k3 ⊢
  have e0 : w32 (own + x) = own + x := w32_i (by omega) (by omega)
  have e1 : w32 (x - b) = x - b := w32_i (by clear e0; omega) (by clear e0; omega)
  have e2 : w32 (w32 (nd - own) - x) = nd - own - x := by rw [w32_i (x := nd - own) (by clear e0 e1; omega) (by clear e0 e1; omega), w32_i (by clear e0 e1; omega) (by clear e0 e1; omega)]
  have e3 : w64 (p * x) = p * x := w64_s (by clear e0 e1 e2; omega) (by clear e0 e1 e2; omega)
  have e4 : ∀ u v : Int, 0 ≤ u → u ≤ 9000 → 0 ≤ v → v ≤ 9000 → w64 (w64 (p * x + w64 u) + w64 v) = p * x + u + v := fun u v u0 u1 v0 v1 => by
    clear e0 e1 e2 e3
    rw [w64_s (x := u) (by omega) (by omega), w64_s (x := v) (by omega) (by omega), w64_s (x := p * x + u) (by omega) (by omega), w64_s (by omega) (by omega)]
  rw [dn_X12_costOf, b_X12_costOf_0]
  by_cases c1 : x ≤ b
  · rw [if_pos c1] at k2 ⊢
    by_cases c2 : nd ≤ own + x
    · rw [if_pos c2] at k3 ⊢
      have e5 := e4 _ _ k2.1 k2.2 k3.1 k3.2
      simp only [z_cd, i10, i11, dnn, rdU, eW, eU, tzC_w, w_shp, w_ptr, Nat.beq_refl, nbz, nb133, nb75, nb55, nb67, n133a, n133b, n75a, n75b, aT, aR, oT, oR, oF, oG, kT, kF, bI, bL, bR, b0, Classical.not_not, not_true_eq_false, not_false_eq_true, and_self, and_true, true_and, ↓reduceIte, decide_true, decide_false, Nat.reduceEqDiff, Nat.reduceLT, Nat.reduceLeDiff, Int.reduceEq, e0, c1, c2, b_X12_costOf_30, e3, e5]
    · rw [if_neg c2] at k3 ⊢
      have e5 := e4 _ _ k2.1 k2.2 k3.1 k3.2
      simp only [z_cd, i10, i11, dnn, rdU, eW, eU, tzC_w, w_shp, w_ptr, Nat.beq_refl, nbz, nb133, nb75, nb55, nb67, n133a, n133b, n75a, n75b, aT, aR, oT, oR, oF, oG, kT, kF, bI, bL, bR, b0, Classical.not_not, not_true_eq_false, not_false_eq_true, and_self, and_true, true_and, ↓reduceIte, decide_true, decide_false, Nat.reduceEqDiff, Nat.reduceLT, Nat.reduceLeDiff, Int.reduceEq, e0, c1, c2, e2, b_X12_costOf_30, e3, e5]
  · rw [if_neg c1] at k2 ⊢
    by_cases c2 : nd ≤ own + x
    · rw [if_pos c2] at k3 ⊢
      have e5 := e4 _ _ k2.1 k2.2 k3.1 k3.2
      simp only [z_cd, i10, i11, dnn, rdU, eW, eU, tzC_w, w_shp, w_ptr, Nat.beq_refl, nbz, nb133, nb75, nb55, nb67, n133a, n133b, n75a, n75b, aT, aR, oT, oR, oF, oG, kT, kF, bI, bL, bR, b0, Classical.not_not, not_true_eq_false, not_false_eq_true, and_self, and_true, true_and, ↓reduceIte, decide_true, decide_false, Nat.reduceEqDiff, Nat.reduceLT, Nat.reduceLeDiff, Int.reduceEq, e0, e1, c1, c2, b_X12_costOf_30, e3, e5]
    · rw [if_neg c2] at k3 ⊢
      have e5 := e4 _ _ k2.1 k2.2 k3.1 k3.2
      simp only [z_cd, i10, i11, dnn, rdU, eW, eU, tzC_w, w_shp, w_ptr, Nat.beq_refl, nbz, nb133, nb75, nb55, nb67, n133a, n133b, n75a, n75b, aT, aR, oT, oR, oF, oG, kT, kF, bI, bL, bR, b0, Classical.not_not, not_true_eq_false, not_false_eq_true, and_self, and_true, true_and, ↓reduceIte, decide_true, decide_false, Nat.reduceEqDiff, Nat.reduceLT, Nat.reduceLeDiff, Int.reduceEq, e0, e1, c1, c2, e2, b_X12_costOf_30, e3, e5]
theorem wd10 {dy b : Int} (d0 : 0 ≤ dy) (d1 : dy ≤ 40) (y0 : 0 ≤ b) (y1 : b ≤ 9) : w32 (w32 (10 * dy) + b) = 10 * dy + b := by
  rw [w32_i (x := 10 * dy) (by omega) (by omega), w32_i (by omega) (by omega)]
theorem w10b {dy b : Int} (d0 : 0 ≤ dy) (d1 : dy ≤ 40) (y0 : 0 ≤ b) (y1 : b ≤ 9) : w32 (w32 (w32 (10 * dy) + 10) + b) = 10 * (dy + 1) + b := by
  rw [w32_i (x := 10 * dy) (by omega) (by omega), w32_i (x := 10 * dy + 10) (by omega) (by omega), w32_i (by omega) (by omega)]; omega
theorem w40r {r : Nat} {i : Int} (hr : r < 6) (i0 : 0 ≤ i) (i1 : i < 40) : w32 (w32 (40 * (r : Int)) + i) = 40 * r + i := by
  rw [w32_40 hr, w32_40k hr i0 i1]
theorem jc0 (x : Int) : (jcmp x 0 < 0) = (x < 0) := by
  unfold jcmp
  by_cases c : x < 0
  · rw [if_pos c]; simp [c]
  · rw [if_neg c]
    by_cases e : x = 0
    · rw [if_pos e]; simp [c]
    · rw [if_neg e]; simp [c]
theorem jc1 (x y : Int) : (0 ≤ jcmp x y) = (y ≤ x) := by
  unfold jcmp
  by_cases c : x < y
  · rw [if_pos c]; simp; omega
  · rw [if_neg c]
    by_cases e : x = y
    · rw [if_pos e]; simp; omega
    · rw [if_neg e]; simp; omega
theorem jcq2 (x y : Int) : (jcmp x y = 0) = (x = y) := by
  unfold jcmp
  by_cases c : x < y
  · rw [if_pos c]; simp; omega
  · rw [if_neg c]
    by_cases e : x = y
    · rw [if_pos e]; simp [e]
    · rw [if_neg e]; simp [e]
def bsq (g : Int → Int) (k : Nat) : Int := if k = 0 then -1 else (fbq g k).2
set_option maxRecDepth 100000 in
set_option maxHeartbeats 1000000 in
theorem q_190 (d L n : Nat) {r : Nat} (hr : r < 6) {own p f l : Int} (ok : okq own p f l) {N dy had nd : Int} (d0 : 0 ≤ dy) (d1 : dy < 40) (h0 : 0 ≤ had) (h1 : had ≤ 9) (n0 : 0 ≤ nd) (n1 : nd ≤ 9) (E : Nat → Int → Int) (ea : E 84 (40 * r + dy) = nd) (wf : Int → Int) (hwf : ∀ x : Int, 0 ≤ x → x ≤ 9 → 0 ≤ wf x ∧ wf x ≤ 2000000) (ew : ∀ x : Int, 0 ≤ x → x ≤ 9 → E 132 (10 * (dy + 1) + x) = wf x) : ∀ (j k : Nat), k + j = 10 → tqrun tqP (d + 2) tqc_X12_rent 190 [vR 81, vI (r : Int), vI own, vI p, vI f, vI l, vI N, vI dy, vI had, vL (bsq (fun x => cstq own p f l x had nd + wf x) k), vU, vI (k : Int), vU, vU] [] (tzW E L n) = tqrun tqP (d + 2) tqc_X12_rent 175 [vR 81, vI (r : Int), vI own, vI p, vI f, vI l, vI N, vI dy, vI (had + 1), vU, vU, vU, vU, vU] [] (tzW (tzU E 132 (10 * dy + had) (fbq (fun x => cstq own p f l x had nd + wf x) 10).2) L n)
  | 0, k, h => by
    have e : k = 10 := by omega
    subst e
    have c : (10 : Int) ≤ ((10 : Nat) : Int) := by decide
    have hb : tqib (10 * dy + had) 410 = true := tqib_y (by omega) (by omega)
    have eb : bsq (fun x => cstq own p f l x had nd + wf x) 10 = (fbq (fun x => cstq own p f l x had nd + wf x) 10).2 := if_neg (by decide)
    have e1 := wd10 d0 (by omega) h0 h1
    have e2 := w1z h0 (by clear e1; omega)
    rw [eb, b_X12_rent_190]
    simp only [z_cd, i10, i11, dnn, rdU, eW, eU, tzC_w, w_shp, w_ptr, Nat.beq_refl, nbz, nb133, nb75, nb55, nb67, n133a, n133b, n75a, n75b, aT, aR, oT, oR, oF, oG, kT, kF, bI, bL, bR, b0, Classical.not_not, not_true_eq_false, not_false_eq_true, and_self, and_true, true_and, ↓reduceIte, decide_true, decide_false, Nat.reduceEqDiff, Nat.reduceLT, Nat.reduceLeDiff, Int.reduceEq, c, e1, hb, e2]
  | j + 1, k, h => by
    have c : ¬ (10 : Int) ≤ (k : Int) := by omega
    have hb : tqib (40 * (r : Int) + dy) 240 = true := tqib_y (by omega) (by omega)
    have hb2 : tqib (10 * (dy + 1) + (k : Int)) 410 = true := tqib_y (by omega) (by omega)
    have ih := q_190 d L n hr ok (N := N) d0 d1 h0 h1 n0 n1 E ea wf hwf ew j (k + 1) (by omega)
    have qc := q_cost d (tzW E L n) ok (x := (k : Int)) (b := had) (nd := nd) (by omega) (by omega) h0 h1 n0 n1
    have wk := ew k (by omega) (by omega)
    have wb := hwf k (by omega) (by omega)
    have cb := cstq_r ok (x := (k : Int)) (b := had) (nd := nd) (by omega) (by omega) h0 n1
    have eb : bsq (fun x => cstq own p f l x had nd + wf x) (k + 1) = if bsq (fun x => cstq own p f l x had nd + wf x) k < 0 ∨ cstq own p f l (k : Int) had nd + wf k < bsq (fun x => cstq own p f l x had nd + wf x) k then cstq own p f l (k : Int) had nd + wf k else bsq (fun x => cstq own p f l x had nd + wf x) k := by
      unfold bsq
      rw [if_neg (show ¬ k + 1 = 0 by omega), fbq_S]
      by_cases z : k = 0
      · subst z
        rw [if_pos rfl, if_pos (Or.inl (by decide)), if_pos (show cstq own p f l ((0 : Nat) : Int) had nd + wf ((0 : Nat) : Int) < (fbq (fun x => cstq own p f l x had nd + wf x) 0).2 from (show cstq own p f l ((0 : Nat) : Int) had nd + wf ((0 : Nat) : Int) < (2147483647 : Int) by omega))]
      · rw [if_neg z]
        have pp := fbq_p (g := fun x => cstq own p f l x had nd + wf x) (fun x a1 a2 => by
          have q1 := cstq_r ok (x := x) (b := had) (nd := nd) a1 (by omega) h0 n1
          have q2 := hwf x a1 (by omega)
          show cstq own p f l x had nd + wf x < 2147483647
          omega) k (by omega) (by omega)
        have ge : 0 ≤ (fbq (fun x => cstq own p f l x had nd + wf x) k).2 := by
          rw [pp.2.2.1]
          have q1 := cstq_r ok (x := (fbq (fun x => cstq own p f l x had nd + wf x) k).1) (b := had) (nd := nd) pp.1 (by omega) h0 n1
          have q2 := hwf (fbq (fun x => cstq own p f l x had nd + wf x) k).1 pp.1 (by omega)
          show 0 ≤ cstq own p f l _ had nd + wf _
          omega
        by_cases y : cstq own p f l (k : Int) had nd + wf k < (fbq (fun x => cstq own p f l x had nd + wf x) k).2
        · rw [if_pos y, if_pos (Or.inr y)]
        · rw [if_neg y, if_neg (fun t => by rcases t with t | t <;> omega)]
    rw [eb] at ih
    rw [← ih, b_X12_rent_190]
    clear ih eb
    obtain ⟨B, hB⟩ : ∃ B, B = bsq (fun x => cstq own p f l x had nd + wf x) k := ⟨_, rfl⟩
    rw [← hB]
    obtain ⟨G, hG⟩ : ∃ G, G = cstq own p f l (k : Int) had nd + wf k := ⟨_, rfl⟩
    have eG : w64 (cstq own p f l (k : Int) had nd + wf k) = G := by rw [hG]; exact w64_s (by omega) (by omega)
    rw [← hG]
    have e1 := w40r hr d0 d1
    have e2 := w10b d0 (by clear e1 eG; omega) (show (0 : Int) ≤ (k : Int) by clear e1 eG; omega) (by clear e1 eG; omega)
    have e3 := w32_s k (by clear e1 e2 eG; omega)
    by_cases z : B < 0
    · rw [if_pos (Or.inl z)]
      simp only [z_cd, i10, i11, dnn, rdU, eW, eU, tzC_w, w_shp, w_ptr, Nat.beq_refl, nbz, nb133, nb75, nb55, nb67, n133a, n133b, n75a, n75b, aT, aR, oT, oR, oF, oG, kT, kF, bI, bL, bR, b0, Classical.not_not, not_true_eq_false, not_false_eq_true, and_self, and_true, true_and, ↓reduceIte, decide_true, decide_false, Nat.reduceEqDiff, Nat.reduceLT, Nat.reduceLeDiff, Int.reduceEq, c, e1, hb, ea, qc, e2, hb2, wk, eG, jc0, z, e3]
    · by_cases y : B ≤ G
      · rw [if_neg (fun t => by clear e1 e2 e3 eG; rcases t with t | t <;> omega)]
        simp only [z_cd, i10, i11, dnn, rdU, eW, eU, tzC_w, w_shp, w_ptr, Nat.beq_refl, nbz, nb133, nb75, nb55, nb67, n133a, n133b, n75a, n75b, aT, aR, oT, oR, oF, oG, kT, kF, bI, bL, bR, b0, Classical.not_not, not_true_eq_false, not_false_eq_true, and_self, and_true, true_and, ↓reduceIte, decide_true, decide_false, Nat.reduceEqDiff, Nat.reduceLT, Nat.reduceLeDiff, Int.reduceEq, c, e1, hb, ea, qc, e2, hb2, wk, eG, jc0, jc1, z, y, e3]
      · rw [if_pos (Or.inr (by clear e1 e2 e3 eG; omega))]
        simp only [z_cd, i10, i11, dnn, rdU, eW, eU, tzC_w, w_shp, w_ptr, Nat.beq_refl, nbz, nb133, nb75, nb55, nb67, n133a, n133b, n75a, n75b, aT, aR, oT, oR, oF, oG, kT, kF, bI, bL, bR, b0, Classical.not_not, not_true_eq_false, not_false_eq_true, and_self, and_true, true_and, ↓reduceIte, decide_true, decide_false, Nat.reduceEqDiff, Nat.reduceLT, Nat.reduceLeDiff, Int.reduceEq, c, e1, hb, ea, qc, e2, hb2, wk, eG, jc0, jc1, z, y, e3]
set_option maxRecDepth 100000 in
set_option maxHeartbeats 1000000 in
theorem q_175 (d L n : Nat) {r : Nat} (hr : r < 6) {own p f l : Int} (ok : okq own p f l) {N dy nd : Int} (d0 : 0 ≤ dy) (d1 : dy < 40) (n0 : 0 ≤ nd) (n1 : nd ≤ 9) (wf : Int → Int) (hwf : ∀ x : Int, 0 ≤ x → x ≤ 9 → 0 ≤ wf x ∧ wf x ≤ 2000000) : ∀ (j : Nat) (had : Int) (E : Nat → Int → Int), 0 ≤ had → had + j = 10 → E 84 (40 * r + dy) = nd → (∀ x : Int, 0 ≤ x → x ≤ 9 → E 132 (10 * (dy + 1) + x) = wf x) →
    ∃ E', tqrun tqP (d + 2) tqc_X12_rent 175 [vR 81, vI (r : Int), vI own, vI p, vI f, vI l, vI N, vI dy, vI had, vU, vU, vU, vU, vU] [] (tzW E L n) = tqrun tqP (d + 2) tqc_X12_rent 167 [vR 81, vI (r : Int), vI own, vI p, vI f, vI l, vI N, vI (dy - 1), vU, vU, vU, vU, vU, vU] [] (tzW E' L n) ∧ Ofq 132 E E' ∧ ∀ i : Int, E' 132 i = if 10 * dy + had ≤ i ∧ i < 10 * dy + 10 then (fbq (fun x => cstq own p f l x (i - 10 * dy) nd + wf x) 10).2 else E 132 i
  | 0, had, E, h0, hj, ea, ew => by
    have c : 10 ≤ had := by omega
    refine ⟨E, ?_, Ofq_r _ _, fun i => by rw [if_neg (show ¬ (10 * dy + had ≤ i ∧ i < 10 * dy + 10) by omega)]⟩
    have e : w32 (dy + -1) = dy - 1 := (w32_i (x := dy + -1) (by omega) (by omega)).trans (by omega)
    rw [b_X12_rent_175]
    simp only [z_cd, i10, i11, dnn, rdU, eW, eU, tzC_w, w_shp, w_ptr, Nat.beq_refl, nbz, nb133, nb75, nb55, nb67, n133a, n133b, n75a, n75b, aT, aR, oT, oR, oF, oG, kT, kF, bI, bL, bR, b0, Classical.not_not, not_true_eq_false, not_false_eq_true, and_self, and_true, true_and, ↓reduceIte, decide_true, decide_false, Nat.reduceEqDiff, Nat.reduceLT, Nat.reduceLeDiff, Int.reduceEq, c, e]
  | j + 1, had, E, h0, hj, ea, ew => by
    have c : ¬ 10 ≤ had := by omega
    have q := q_190 d L n hr ok (N := N) (dy := dy) (had := had) (nd := nd) d0 d1 h0 (by omega) n0 n1 E ea wf hwf ew 10 0 (by omega)
    have b0' : bsq (fun x => cstq own p f l x had nd + wf x) 0 = -1 := rfl
    have z0 : ((0 : Nat) : Int) = 0 := rfl
    rw [b0', z0] at q
    obtain ⟨R, hR⟩ : ∃ R, R = fbq (fun x => cstq own p f l x had nd + wf x) 10 := ⟨_, rfl⟩
    rw [← hR] at q
    obtain ⟨E', r1, r2, r3⟩ := q_175 d L n hr ok (N := N) d0 d1 n0 n1 wf hwf j (had + 1) (tzU E 132 (10 * dy + had) R.2) (by omega) (by omega) ea (fun x a1 a2 => by rw [tzU_k _ _ _ _ (by omega)]; exact ew x a1 a2)
    refine ⟨E', ?_, Ofq_t (Ofq_U _ _ _ _) r2, fun i => ?_⟩
    · rw [← r1, ← q, b_X12_rent_175]
      simp only [z_cd, i10, i11, dnn, rdU, eW, eU, tzC_w, w_shp, w_ptr, Nat.beq_refl, nbz, nb133, nb75, nb55, nb67, n133a, n133b, n75a, n75b, aT, aR, oT, oR, oF, oG, kT, kF, bI, bL, bR, b0, Classical.not_not, not_true_eq_false, not_false_eq_true, and_self, and_true, true_and, ↓reduceIte, decide_true, decide_false, Nat.reduceEqDiff, Nat.reduceLT, Nat.reduceLeDiff, Int.reduceEq, c]
    · rw [r3]
      by_cases e : i = 10 * dy + had
      · rw [if_neg (show ¬ (10 * dy + (had + 1) ≤ i ∧ i < 10 * dy + 10) by omega), if_pos (show 10 * dy + had ≤ i ∧ i < 10 * dy + 10 by omega), e, tzU_s, hR, show 10 * dy + had - 10 * dy = had by omega]
      · rw [tzU_k _ _ _ _ e]
        by_cases q : 10 * dy + (had + 1) ≤ i ∧ i < 10 * dy + 10
        · rw [if_pos q, if_pos (show 10 * dy + had ≤ i ∧ i < 10 * dy + 10 by omega)]
        · rw [if_neg q, if_neg (show ¬ (10 * dy + had ≤ i ∧ i < 10 * dy + 10) by omega)]
set_option maxRecDepth 100000 in
set_option maxHeartbeats 1000000 in
theorem q_167 (d L n : Nat) {r : Nat} (hr : r < 6) {own p f l : Int} (ok : okq own p f l) {N : Nat} (hN : N ≤ 40) (S : Int → Int) (hS : ∀ i : Int, 0 ≤ i → i < N → 0 ≤ S i ∧ S i ≤ 9) : ∀ (m : Nat) (E : Nat → Int → Int), m ≤ N → (∀ i : Int, 0 ≤ i → i < N → E 84 (40 * r + i) = S i) → Tabq E 132 (Cdq own p f l N S) N m →
    ∃ E', tqrun tqP (d + 2) tqc_X12_rent 167 [vR 81, vI (r : Int), vI own, vI p, vI f, vI l, vI (N : Int), vI ((m : Int) - 1), vU, vU, vU, vU, vU, vU] [] (tzW E L n) = tqrun tqP (d + 2) tqc_X12_rent 310 [vR 81, vI (r : Int), vI own, vI p, vI f, vI l, vI (N : Int), vI 0, vI 0, vU, vU, vU, vU, vU] [] (tzW (tzU E' 81 69 N) L n) ∧ Ofq 132 E E' ∧ Tabq E' 132 (Cdq own p f l N S) N 0
  | 0, E, hm, ea, ht => by
    refine ⟨E, ?_, Ofq_r _ _, ht⟩
    have c : (((0 : Nat) : Int) - 1) < 0 := by omega
    rw [b_X12_rent_167]
    simp only [z_cd, i10, i11, dnn, rdU, eW, eU, tzC_w, w_shp, w_ptr, Nat.beq_refl, nbz, nb133, nb75, nb55, nb67, n133a, n133b, n75a, n75b, aT, aR, oT, oR, oF, oG, kT, kF, bI, bL, bR, b0, Classical.not_not, not_true_eq_false, not_false_eq_true, and_self, and_true, true_and, ↓reduceIte, decide_true, decide_false, Nat.reduceEqDiff, Nat.reduceLT, Nat.reduceLeDiff, Int.reduceEq, c]
  | m + 1, E, hm, ea, ht => by
    have okc := okC_of ok hS
    have em : (((m + 1 : Nat) : Int) - 1) = (m : Int) := by omega
    have c : ¬ ((m : Int) < 0) := by omega
    have eC : ∀ b x : Int, Cdq own p f l N S (N - 1 - m) b x = cstq own p f l x b (S m) := fun b x => by
      unfold Cdq
      rw [show ((N : Int) - 1 - ((N - 1 - m : Nat) : Int)) = (m : Int) by omega]
    obtain ⟨E1, r1, r2, r3⟩ := q_175 d L n hr ok (N := (N : Int)) (dy := (m : Int)) (nd := S m) (by omega) (by omega) (hS m (by omega) (by omega)).1 (hS m (by omega) (by omega)).2 (fun x => Wq (Cdq own p f l N S) (N - 1 - m) x) (fun x a1 a2 => by have := Wq_b okc hN (N - 1 - m) x (by omega) a1 a2; omega) 10 0 E (by omega) (by omega) (ea m (by omega) (by omega)) (fun x a1 a2 => by
      have q := ht ((m : Int) + 1) x (by omega) (by omega) (by omega) a1 a2
      rw [show ((N : Int) - ((m : Int) + 1)).toNat = N - 1 - m by omega] at q
      exact q)
    have t1 : Tabq E1 132 (Cdq own p f l N S) N m := fun d' b h1 h0 h2 y0 y1 => by
      rw [r3]
      by_cases e : d' = m
      · rw [if_pos (show 10 * (m : Int) + 0 ≤ 10 * d' + b ∧ 10 * d' + b < 10 * (m : Int) + 10 by omega)]
        rw [show ((N : Int) - d').toNat = (N - 1 - m) + 1 by omega, Wq_S, show 10 * d' + b - 10 * (m : Int) = b by omega]
        exact congrArg Prod.snd (fbq_c 10 (fun x _ _ => by rw [eC b x]))
      · rw [if_neg (show ¬ (10 * (m : Int) + 0 ≤ 10 * d' + b ∧ 10 * d' + b < 10 * (m : Int) + 10) by omega)]
        exact ht d' b (by omega) h0 h2 y0 y1
    obtain ⟨E', u1, u2, u3⟩ := q_167 d L n hr ok hN S hS m E1 (by omega) (fun i a1 a2 => (r2 84 _ (by omega)).trans (ea i a1 a2)) t1
    refine ⟨E', ?_, Ofq_t r2 u2, u3⟩
    rw [em, ← u1, ← r1, b_X12_rent_167]
    simp only [z_cd, i10, i11, dnn, rdU, eW, eU, tzC_w, w_shp, w_ptr, Nat.beq_refl, nbz, nb133, nb75, nb55, nb67, n133a, n133b, n75a, n75b, aT, aR, oT, oR, oF, oG, kT, kF, bI, bL, bR, b0, Classical.not_not, not_true_eq_false, not_false_eq_true, and_self, and_true, true_and, ↓reduceIte, decide_true, decide_false, Nat.reduceEqDiff, Nat.reduceLT, Nat.reduceLeDiff, Int.reduceEq, c]
set_option maxRecDepth 100000 in
set_option maxHeartbeats 1000000 in
theorem q_320 (d L n : Nat) {r : Nat} (hr : r < 6) {own p f l : Int} (ok : okq own p f l) {N dy had nd : Int} (d0 : 0 ≤ dy) (d1 : dy < 40) (h0 : 0 ≤ had) (h1 : had ≤ 9) (n0 : 0 ≤ nd) (n1 : nd ≤ 9) (E : Nat → Int → Int) (ea : E 84 (40 * r + dy) = nd) (wf : Int → Int) (hwf : ∀ x : Int, 0 ≤ x → x ≤ 9 → 0 ≤ wf x ∧ wf x ≤ 2000000) (ew : ∀ x : Int, 0 ≤ x → x ≤ 9 → E 132 (10 * (dy + 1) + x) = wf x) {x : Int} (x0 : 0 ≤ x) (x1 : x ≤ 9) (em : E 132 (10 * dy + had) = cstq own p f l x had nd + wf x) (lt : ∀ y : Int, 0 ≤ y → y < x → cstq own p f l x had nd + wf x < cstq own p f l y had nd + wf y) : ∀ (j : Nat) (k : Int), 0 ≤ k → k + j = x → tqrun tqP (d + 2) tqc_X12_rent 320 [vR 81, vI (r : Int), vI own, vI p, vI f, vI l, vI N, vI had, vI dy, vI k, vU, vU, vU, vU] [] (tzW E L n) = tqrun tqP (d + 2) tqc_X12_rent 310 [vR 81, vI (r : Int), vI own, vI p, vI f, vI l, vI N, vI x, vI (dy + 1), vU, vU, vU, vU, vU] [] (tzW (tzU E 131 dy x) L n)
  | 0, k, k0, kj => by
    have e : k = x := by omega
    subst e
    have hb : tqib (40 * (r : Int) + dy) 240 = true := tqib_y (by omega) (by omega)
    have hb2 : tqib (10 * (dy + 1) + k) 410 = true := tqib_y (by omega) (by omega)
    have hb3 : tqib (10 * dy + had) 410 = true := tqib_y (by omega) (by omega)
    have hb4 : tqib dy 40 = true := tqib_y (by omega) (by omega)
    have qc := q_cost d (tzW E L n) ok (x := k) (b := had) (nd := nd) x0 x1 h0 h1 n0 n1
    have wk := ew k x0 x1
    have wb := hwf k x0 x1
    have cb := cstq_r ok (x := k) (b := had) (nd := nd) x0 x1 h0 n1
    have eG : w64 (cstq own p f l k had nd + wf k) = cstq own p f l k had nd + wf k := w64_s (by omega) (by omega)
    have e1 := w40r hr d0 d1
    have e2 := w10b d0 (by clear e1 eG; omega) x0 x1
    have e3 := wd10 d0 (by clear e1 e2 eG; omega) h0 h1
    have e4 := w1z d0 (by clear e1 e2 e3 eG; omega)
    rw [b_X12_rent_320]
    simp only [z_cd, i10, i11, dnn, rdU, eW, eU, tzC_w, w_shp, w_ptr, Nat.beq_refl, nbz, nb133, nb75, nb55, nb67, n133a, n133b, n75a, n75b, aT, aR, oT, oR, oF, oG, kT, kF, bI, bL, bR, b0, Classical.not_not, not_true_eq_false, not_false_eq_true, and_self, and_true, true_and, ↓reduceIte, decide_true, decide_false, Nat.reduceEqDiff, Nat.reduceLT, Nat.reduceLeDiff, Int.reduceEq, e1, hb, ea, qc, e2, hb2, wk, eG, e3, hb3, em, jcq2, hb4, e4]
  | j + 1, k, k0, kj => by
    have ih := q_320 d L n hr ok (N := N) d0 d1 h0 h1 n0 n1 E ea wf hwf ew x0 x1 em lt j (k + 1) (by omega) (by omega)
    have hb : tqib (40 * (r : Int) + dy) 240 = true := tqib_y (by omega) (by omega)
    have hb2 : tqib (10 * (dy + 1) + k) 410 = true := tqib_y (by omega) (by omega)
    have hb3 : tqib (10 * dy + had) 410 = true := tqib_y (by omega) (by omega)
    have qc := q_cost d (tzW E L n) ok (x := k) (b := had) (nd := nd) k0 (by omega) h0 h1 n0 n1
    have wk := ew k k0 (by omega)
    have wb := hwf k k0 (by omega)
    have cb := cstq_r ok (x := k) (b := had) (nd := nd) k0 (by omega) h0 n1
    have lk := lt k k0 (by omega)
    have ne : ¬ (cstq own p f l k had nd + wf k = cstq own p f l x had nd + wf x) := by omega
    have eG : w64 (cstq own p f l k had nd + wf k) = cstq own p f l k had nd + wf k := w64_s (by omega) (by omega)
    have e1 := w40r hr d0 d1
    have e2 := w10b d0 (by clear e1 eG; omega) k0 (show k ≤ 9 by clear e1 eG; omega)
    have e3 := wd10 d0 (by clear e1 e2 eG; omega) h0 h1
    have e4 := w1z k0 (by clear e1 e2 e3 eG; omega)
    rw [← ih, b_X12_rent_320]
    simp only [z_cd, i10, i11, dnn, rdU, eW, eU, tzC_w, w_shp, w_ptr, Nat.beq_refl, nbz, nb133, nb75, nb55, nb67, n133a, n133b, n75a, n75b, aT, aR, oT, oR, oF, oG, kT, kF, bI, bL, bR, b0, Classical.not_not, not_true_eq_false, not_false_eq_true, and_self, and_true, true_and, ↓reduceIte, decide_true, decide_false, Nat.reduceEqDiff, Nat.reduceLT, Nat.reduceLeDiff, Int.reduceEq, e1, hb, ea, qc, e2, hb2, wk, eG, e3, hb3, em, jcq2, ne, e4]
set_option maxRecDepth 100000 in
set_option maxHeartbeats 1000000 in
theorem q_310 (d L n : Nat) {r : Nat} (hr : r < 6) {own p f l : Int} (ok : okq own p f l) {N : Nat} (hN : N ≤ 40) (S : Int → Int) (hS : ∀ i : Int, 0 ≤ i → i < N → 0 ≤ S i ∧ S i ≤ 9) (v : Int) : ∀ (j : Nat) (dy bef : Int) (E : Nat → Int → Int), 0 ≤ dy → dy + j = N → 0 ≤ bef → bef ≤ 9 → E 132 0 = v → (∀ i : Int, 0 ≤ i → i < N → E 84 (40 * r + i) = S i) → Tabq E 132 (Cdq own p f l N S) N 0 →
    ∃ E', tqrun tqP (d + 2) tqc_X12_rent 310 [vR 81, vI (r : Int), vI own, vI p, vI f, vI l, vI (N : Int), vI bef, vI dy, vU, vU, vU, vU, vU] [] (tzW E L n) = some (some (vI (w32 v)), tzW E' L n) ∧ Ofq 131 E E' ∧ (∀ i : Int, i < dy → E' 131 i = E 131 i) ∧ ∀ i : Int, dy ≤ i → i < N → E' 131 i = plq (Cdq own p f l N S) j dy bef i
  | 0, dy, bef, E, d0, dj, y0, y1, ev, ea, ht => by
    refine ⟨E, ?_, Ofq_r _ _, fun _ _ => rfl, fun i a1 a2 => by omega⟩
    have c : (N : Int) ≤ dy := by omega
    have hb : tqib (0 : Int) 410 = true := tqib_y (by omega) (by omega)
    rw [b_X12_rent_310]
    simp only [z_cd, i10, i11, dnn, rdU, eW, eU, tzC_w, w_shp, w_ptr, Nat.beq_refl, nbz, nb133, nb75, nb55, nb67, n133a, n133b, n75a, n75b, aT, aR, oT, oR, oF, oG, kT, kF, bI, bL, bR, b0, Classical.not_not, not_true_eq_false, not_false_eq_true, and_self, and_true, true_and, ↓reduceIte, decide_true, decide_false, Nat.reduceEqDiff, Nat.reduceLT, Nat.reduceLeDiff, Int.reduceEq, c, hb, ev]
  | j + 1, dy, bef, E, d0, dj, y0, y1, ev, ea, ht => by
    have okc := okC_of ok hS
    have c : ¬ (N : Int) ≤ dy := by omega
    have hE := ea dy d0 (by omega)
    have hs := hS dy d0 (by omega)
    have hw : ∀ x : Int, 0 ≤ x → x ≤ 9 → E 132 (10 * (dy + 1) + x) = Wq (Cdq own p f l N S) j x := fun x a1 a2 => by
      have q := ht (dy + 1) x (by omega) (by omega) (by omega) a1 a2
      rw [show ((N : Int) - (dy + 1)).toNat = j by omega] at q
      exact q
    have eC : ∀ x : Int, Cdq own p f l N S j bef x = cstq own p f l x bef (S dy) := fun x => by
      unfold Cdq
      rw [show ((N : Int) - 1 - (j : Int)) = dy by omega]
    have pp := fbq_p (g := fun x => Cdq own p f l N S j bef x + Wq (Cdq own p f l N S) j x) (fun x a1 a2 => (gq_lt okc hN (by omega) y0 y1 x a1 a2).2) 10 (by omega) (by omega)
    have hm := ht dy bef (by omega) d0 (by omega) y0 y1
    rw [show ((N : Int) - dy).toNat = j + 1 by omega, Wq_S] at hm
    obtain ⟨R, hR⟩ : ∃ R, R = fbq (fun x => Cdq own p f l N S j bef x + Wq (Cdq own p f l N S) j x) 10 := ⟨_, rfl⟩
    rw [← hR] at pp hm
    obtain ⟨p1, p2, p3, p4⟩ := pp
    have q := q_320 d L n hr ok (N := (N : Int)) (dy := dy) (had := bef) (nd := S dy) d0 (by omega) y0 y1 hs.1 hs.2 E hE (fun x => Wq (Cdq own p f l N S) j x) (fun x a1 a2 => by have := Wq_b okc hN j x (by omega) a1 a2; omega) hw (x := R.1) p1 (by omega) (by rw [hm, p3]; show Cdq own p f l N S j bef R.1 + _ = _; rw [eC]) (fun y a1 a2 => by
      have t := (p4 y a1 (by omega)).2 a2
      rw [p3] at t
      have t2 : Cdq own p f l N S j bef R.1 + Wq (Cdq own p f l N S) j R.1 < Cdq own p f l N S j bef y + Wq (Cdq own p f l N S) j y := t
      rw [eC, eC] at t2
      exact t2) R.1.toNat 0 (by omega) (by omega)
    obtain ⟨E', r1, r2, r4, r3⟩ := q_310 d L n hr ok hN S hS v j (dy + 1) R.1 (tzU E 131 dy R.1) (by omega) (by omega) p1 (by omega) ev ea (fun d' b h1 h0 h2 z0 z1 => ht d' b h1 h0 h2 z0 z1)
    refine ⟨E', ?_, Ofq_t (Ofq_U _ _ _ _) r2, fun i a1 => ?_, fun i a1 a2 => ?_⟩
    · rw [← r1, ← q, b_X12_rent_310]
      simp only [z_cd, i10, i11, dnn, rdU, eW, eU, tzC_w, w_shp, w_ptr, Nat.beq_refl, nbz, nb133, nb75, nb55, nb67, n133a, n133b, n75a, n75b, aT, aR, oT, oR, oF, oG, kT, kF, bI, bL, bR, b0, Classical.not_not, not_true_eq_false, not_false_eq_true, and_self, and_true, true_and, ↓reduceIte, decide_true, decide_false, Nat.reduceEqDiff, Nat.reduceLT, Nat.reduceLeDiff, Int.reduceEq, c]
    · rw [r4 i (by omega), tzU_k _ _ _ _ (by omega)]
    · rw [plq_S, ← hR]
      by_cases e : i = dy
      · rw [if_pos e, e]
        rw [r4 dy (by omega), tzU_s]
      · rw [if_neg e]
        exact r3 i (by omega) a2
