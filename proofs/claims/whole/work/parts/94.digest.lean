/-! ===== digest ===== -/
def mxq (h v : Int) : Int := w64 (w64 (31 * h) + v)
def itq (s : Int → Int → Int) : Nat → Int → Int → Int
  | 0, _, h => h
  | j + 1, i, h => itq s j (i + 1) (s i h)
theorem itq_S (s : Int → Int → Int) (j : Nat) (i h : Int) : itq s (j + 1) i h = itq s j (i + 1) (s i h) := rfl
theorem itq_c {s s' : Int → Int → Int} : ∀ (j : Nat) (i h : Int), (∀ x y : Int, i ≤ x → x < i + j → s' x y = s x y) → itq s' j i h = itq s j i h
  | 0, _, _, _ => rfl
  | j + 1, i, h, q => by
    rw [itq_S, itq_S, q i h (by omega) (by omega)]
    exact itq_c j (i + 1) _ (fun x y a b => q x y (by omega) (by omega))
theorem itq_skip {s : Int → Int → Int} : ∀ (j : Nat) (i h : Int), (∀ x y : Int, i ≤ x → x < i + j → s x y = y) → itq s j i h = h
  | 0, _, _, _ => rfl
  | j + 1, i, h, q => by
    rw [itq_S, q i h (by omega) (by omega)]
    exact itq_skip j (i + 1) h (fun x y a b => q x y (by omega) (by omega))
theorem itq_add (s : Int → Int → Int) : ∀ (j k : Nat) (i h : Int), itq s (j + k) i h = itq s k (i + j) (itq s j i h)
  | 0, k, i, h => by
    show itq s (0 + k) i h = itq s k (i + ((0 : Nat) : Int)) h
    rw [Nat.zero_add, show i + ((0 : Nat) : Int) = i by omega]
  | j + 1, k, i, h => by
    rw [show j + 1 + k = (j + k) + 1 by omega, itq_S, itq_S, itq_add s j k (i + 1) (s i h), show i + 1 + (j : Int) = i + ((j + 1 : Nat) : Int) by omega]
theorem p_mix (d : Nat) (h v : Int) (m : tqM) : tqden tqP (d + 1) n_X11_mix [vL h, vL v] m = some (some (vL (mxq h v)), m) := by
  rw [dn_X11_mix, b_X11_mix_0]
  rfl
set_option maxRecDepth 100000 in
set_option maxHeartbeats 1000000 in
theorem q_mix (d : Nat) (D : Nat → Int → Int) (L n : Nat) (h v : Int) : tqden tqP (d + 1) n_X12_mix [vR 81, vI v] (tzW (tzU D 81 72 h) L n) = some (none, tzW (tzU D 81 72 (mxq h v)) L n) := by
  rw [dn_X12_mix, b_X12_mix_0]
  simp only [z_cd, i10, i11, dnn, rdU, eW, eU, tzC_w, w_shp, w_ptr, Nat.beq_refl, nbz, nb133, nb75, nb55, nb67, n133a, n133b, n75a, n75b, aT, aR, oT, oR, oF, oG, kT, kF, bI, bL, bR, b0, Classical.not_not, not_true_eq_false, not_false_eq_true, and_self, and_true, true_and, ↓reduceIte, decide_true, decide_false, Nat.reduceEqDiff, Nat.reduceLT, Nat.reduceLeDiff, Int.reduceEq, tzUU]
  rfl
/-! counts -/
set_option maxRecDepth 100000 in
set_option maxHeartbeats 1000000 in
theorem p_d6 (d : Nat) (D : Nat → Int → Int) (L n : Nat) (hR : Rel D n) : ∀ (j : Nat) (i h : Int), 0 ≤ i → i + j = 8 → tqrun tqP (d + 4) tqc_X11_digest 6 [vR 2, vL h, vU, vI i, vU] [] (tzW D L n) = tqrun tqP (d + 4) tqc_X11_digest 6 [vR 2, vL (itq (fun w y => mxq y (cv D n w)) j i h), vU, vI 8, vU] [] (tzW D L n)
  | 0, i, h, i0, ij => by rw [show i = 8 by omega]; rfl
  | j + 1, i, h, i0, ij => by
    have c : ¬ 7 < i := by omega
    have pc := p_count d D L n hR i (by omega)
    have e1 := w1z i0 (by omega)
    rw [itq_S, ← p_d6 d D L n hR j (i + 1) _ (by clear e1; omega) (by clear e1; omega), b_X11_digest_6]
    simp only [z_cd, i10, i11, dnn, rdU, eW, eU, tzC_w, w_shp, w_ptr, Nat.beq_refl, nbz, nb133, nb75, nb55, nb67, n133a, n133b, n75a, n75b, aT, aR, oT, oR, oF, oG, kT, kF, bI, bL, bR, b0, Classical.not_not, not_true_eq_false, not_false_eq_true, and_self, and_true, true_and, ↓reduceIte, decide_true, decide_false, Nat.reduceEqDiff, Nat.reduceLT, Nat.reduceLeDiff, Int.reduceEq, c, pc, p_mix, e1]
set_option maxRecDepth 100000 in
set_option maxHeartbeats 1000000 in
theorem q_d9 (d : Nat) (D : Nat → Int → Int) (L n : Nat) (c2 : D 81 16 = n) (c3 : n ≤ 12) : ∀ (j : Nat) (i h : Int), 0 ≤ i → i + j = 8 → tqrun tqP (d + 2) tqc_X12_digest 9 [vR 81, vI i, vU] [] (tzW (tzU D 81 72 h) L n) = tqrun tqP (d + 2) tqc_X12_digest 32 [vR 81, vI 0, vU] [] (tzW (tzU D 81 72 (itq (fun w y => mxq y (cv D n w)) j i h)) L n)
  | 0, i, h, i0, ij => by
    have c : 7 < i := by omega
    rw [b_X12_digest_9]
    simp only [z_cd, i10, i11, dnn, rdU, eW, eU, tzC_w, w_shp, w_ptr, Nat.beq_refl, nbz, nb133, nb75, nb55, nb67, n133a, n133b, n75a, n75b, aT, aR, oT, oR, oF, oG, kT, kF, bI, bL, bR, b0, Classical.not_not, not_true_eq_false, not_false_eq_true, and_self, and_true, true_and, ↓reduceIte, decide_true, decide_false, Nat.reduceEqDiff, Nat.reduceLT, Nat.reduceLeDiff, Int.reduceEq, c]
    rfl
  | j + 1, i, h, i0, ij => by
    have c : ¬ 7 < i := by omega
    have qc : tqden tqP (d + 1) n_X12_counts [vR 81, vI i] (tzW (tzU D 81 72 h) L n) = some (some (vI (cv D n i)), tzW (tzU D 81 72 h) L n) := q_counts d (tzU D 81 72 h) L n c2 c3 i (by omega)
    have e1 := w1z i0 (by omega)
    rw [itq_S, ← q_d9 d D L n c2 c3 j (i + 1) _ (by clear e1; omega) (by clear e1; omega), b_X12_digest_9]
    simp only [z_cd, i10, i11, dnn, rdU, eW, eU, tzC_w, w_shp, w_ptr, Nat.beq_refl, nbz, nb133, nb75, nb55, nb67, n133a, n133b, n75a, n75b, aT, aR, oT, oR, oF, oG, kT, kF, bI, bL, bR, b0, Classical.not_not, not_true_eq_false, not_false_eq_true, and_self, and_true, true_and, ↓reduceIte, decide_true, decide_false, Nat.reduceEqDiff, Nat.reduceLT, Nat.reduceLeDiff, Int.reduceEq, c, qc, q_mix, e1]
/-! ways -/
def swq (D : Nat → Int → Int) (k h : Int) : Int := if k / 8 < k % 8 then mxq (mxq (mxq (mxq h (D 88 k)) (D 89 k)) (D 90 k)) (D 91 k) else h
set_option maxRecDepth 100000 in
set_option maxHeartbeats 1000000 in
theorem p_w18 (d : Nat) (D : Nat → Int → Int) (L n : Nat) (w : WY D) {a : Int} (a0 : 0 ≤ a) (a1 : a < 8) : ∀ (j : Nat) (b h : Int), a < b → b + j = 8 → tqrun tqP (d + 2) tqc_X10_mixInto 18 [vR 7, vU, vU, vL h, vU, vI a, vI b, vU] [] (tzW D L n) = tqrun tqP (d + 2) tqc_X10_mixInto 5 [vR 7, vU, vU, vL (itq (swq D) j (8 * a + b) h), vU, vI (a + 1), vU, vU] [] (tzW D L n)
  | 0, b, h, ab, bj => by
    have c : 8 ≤ b := by omega
    have e1 := w1z a0 (by omega)
    rw [b_X10_mixInto_18]
    simp only [z_cd, i10, i11, dnn, rdU, eW, eU, tzC_w, w_shp, w_ptr, Nat.beq_refl, nbz, nb133, nb75, nb55, nb67, n133a, n133b, n75a, n75b, aT, aR, oT, oR, oF, oG, kT, kF, bI, bL, bR, b0, Classical.not_not, not_true_eq_false, not_false_eq_true, and_self, and_true, true_and, ↓reduceIte, decide_true, decide_false, Nat.reduceEqDiff, Nat.reduceLT, Nat.reduceLeDiff, Int.reduceEq, c, e1]
    rfl
  | j + 1, b, h, ab, bj => by
    have c : ¬ 8 ≤ b := by omega
    have hb : tqib (8 * a + b) 64 = true := tqib_y (by omega) (by omega)
    obtain ⟨g1, g2, g3, g4, _⟩ := w (8 * a + b) (by omega) (by omega)
    have es : swq D (8 * a + b) h = mxq (mxq (mxq (mxq h (D 88 (8 * a + b))) (D 89 (8 * a + b))) (D 90 (8 * a + b))) (D 91 (8 * a + b)) := if_pos (by omega)
    have e0 := w8y a0 a1 (show 0 ≤ b by omega) (by omega)
    have e1 := w1z (show 0 ≤ b by clear e0; omega) (by clear e0; omega)
    rw [itq_S, es, show 8 * a + b + 1 = 8 * a + (b + 1) by clear e0 e1; omega, ← p_w18 d D L n w a0 a1 j (b + 1) _ (by clear e0 e1; omega) (by clear e0 e1; omega), b_X10_mixInto_18]
    simp only [z_cd, i10, i11, dnn, rdU, eW, eU, tzC_w, w_shp, w_ptr, Nat.beq_refl, nbz, nb133, nb75, nb55, nb67, n133a, n133b, n75a, n75b, aT, aR, oT, oR, oF, oG, kT, kF, bI, bL, bR, b0, Classical.not_not, not_true_eq_false, not_false_eq_true, and_self, and_true, true_and, ↓reduceIte, decide_true, decide_false, Nat.reduceEqDiff, Nat.reduceLT, Nat.reduceLeDiff, Int.reduceEq, c, e0, hb, g1, g2, g3, g4, p_mix, e1]
set_option maxRecDepth 100000 in
set_option maxHeartbeats 1000000 in
theorem p_w5 (d : Nat) (D : Nat → Int → Int) (L n : Nat) (w : WY D) : ∀ (j : Nat) (a h : Int), 0 ≤ a → a + j = 8 → tqrun tqP (d + 2) tqc_X10_mixInto 5 [vR 7, vU, vU, vL h, vU, vI a, vU, vU] [] (tzW D L n) = some (some (vL (itq (swq D) (8 * j) (8 * a) h)), tzW D L n)
  | 0, a, h, a0, aj => by
    have c : 8 ≤ a := by omega
    rw [b_X10_mixInto_5]
    simp only [z_cd, i10, i11, dnn, rdU, eW, eU, tzC_w, w_shp, w_ptr, Nat.beq_refl, nbz, nb133, nb75, nb55, nb67, n133a, n133b, n75a, n75b, aT, aR, oT, oR, oF, oG, kT, kF, bI, bL, bR, b0, Classical.not_not, not_true_eq_false, not_false_eq_true, and_self, and_true, true_and, ↓reduceIte, decide_true, decide_false, Nat.reduceEqDiff, Nat.reduceLT, Nat.reduceLeDiff, Int.reduceEq, c]
    rfl
  | j + 1, a, h, a0, aj => by
    have c : ¬ 8 ≤ a := by omega
    have ih := p_w5 d D L n w j (a + 1) (itq (swq D) j (8 * a + (a + 1)) h) (by omega) (by omega)
    have r := p_w18 d D L n w a0 (by omega) j (a + 1) h (by omega) (by omega)
    have sp : itq (swq D) (8 * (j + 1)) (8 * a) h = itq (swq D) (8 * j) (8 * (a + 1)) (itq (swq D) j (8 * a + (a + 1)) h) := by
      have k1 : itq (swq D) (8 - j) (8 * a) h = h := itq_skip _ _ _ (fun x y q1 q2 => by
        unfold swq
        rw [if_neg (by omega)])
      rw [show 8 * (j + 1) = ((8 - j) + j) + 8 * j by omega, itq_add, itq_add, k1, show 8 * a + ((8 - j : Nat) : Int) = 8 * a + (a + 1) by omega, show 8 * a + (((8 - j) + j : Nat) : Int) = 8 * (a + 1) by omega]
    have e1 := w1z a0 (by omega)
    rw [sp, ← ih, ← r, b_X10_mixInto_5]
    simp only [z_cd, i10, i11, dnn, rdU, eW, eU, tzC_w, w_shp, w_ptr, Nat.beq_refl, nbz, nb133, nb75, nb55, nb67, n133a, n133b, n75a, n75b, aT, aR, oT, oR, oF, oG, kT, kF, bI, bL, bR, b0, Classical.not_not, not_true_eq_false, not_false_eq_true, and_self, and_true, true_and, ↓reduceIte, decide_true, decide_false, Nat.reduceEqDiff, Nat.reduceLT, Nat.reduceLeDiff, Int.reduceEq, c, e1]
set_option maxRecDepth 100000 in
set_option maxHeartbeats 1000000 in
theorem q_d32 (d : Nat) (D : Nat → Int → Int) (L n : Nat) : ∀ (j : Nat) (i h : Int), 0 ≤ i → i + j = 64 → tqrun tqP (d + 2) tqc_X12_digest 32 [vR 81, vI i, vU] [] (tzW (tzU D 81 72 h) L n) = tqrun tqP (d + 2) tqc_X12_digest 97 [vR 81, vI 0, vU] [] (tzW (tzU D 81 72 (itq (swq D) j i h)) L n)
  | 0, i, h, i0, ij => by
    have c : 64 ≤ i := by omega
    rw [b_X12_digest_32]
    simp only [z_cd, i10, i11, dnn, rdU, eW, eU, tzC_w, w_shp, w_ptr, Nat.beq_refl, nbz, nb133, nb75, nb55, nb67, n133a, n133b, n75a, n75b, aT, aR, oT, oR, oF, oG, kT, kF, bI, bL, bR, b0, Classical.not_not, not_true_eq_false, not_false_eq_true, and_self, and_true, true_and, ↓reduceIte, decide_true, decide_false, Nat.reduceEqDiff, Nat.reduceLT, Nat.reduceLeDiff, Int.reduceEq, c]
    rfl
  | j + 1, i, h, i0, ij => by
    have c : ¬ 64 ≤ i := by omega
    have hb : tqib i 64 = true := tqib_y (by omega) (by omega)
    obtain ⟨t1, t2⟩ := td8 i0 (show i < 64 by omega)
    by_cases q : i / 8 < i % 8
    · have q2 : ¬ i % 8 ≤ i / 8 := by clear t1 t2; omega
      have es : swq D i h = mxq (mxq (mxq (mxq h (D 88 i)) (D 89 i)) (D 90 i)) (D 91 i) := if_pos q
      have e1 := w1z i0 (by clear t1 t2; omega)
      rw [itq_S, es, ← q_d32 d D L n j (i + 1) _ (by clear t1 t2 e1; omega) (by clear t1 t2 e1; omega), b_X12_digest_32]
      simp only [z_cd, i10, i11, dnn, rdU, eW, eU, tzC_w, w_shp, w_ptr, Nat.beq_refl, nbz, nb133, nb75, nb55, nb67, n133a, n133b, n75a, n75b, aT, aR, oT, oR, oF, oG, kT, kF, bI, bL, bR, b0, Classical.not_not, not_true_eq_false, not_false_eq_true, and_self, and_true, true_and, ↓reduceIte, decide_true, decide_false, Nat.reduceEqDiff, Nat.reduceLT, Nat.reduceLeDiff, Int.reduceEq, c, t1, t2, q2, hb, q_mix, e1]
    · have q2 : i % 8 ≤ i / 8 := by clear t1 t2; omega
      have es : swq D i h = h := if_neg q
      have e1 := w1z i0 (by clear t1 t2; omega)
      rw [itq_S, es, ← q_d32 d D L n j (i + 1) _ (by clear t1 t2 e1; omega) (by clear t1 t2 e1; omega), b_X12_digest_32]
      simp only [z_cd, i10, i11, dnn, rdU, eW, eU, tzC_w, w_shp, w_ptr, Nat.beq_refl, nbz, nb133, nb75, nb55, nb67, n133a, n133b, n75a, n75b, aT, aR, oT, oR, oF, oG, kT, kF, bI, bL, bR, b0, Classical.not_not, not_true_eq_false, not_false_eq_true, and_self, and_true, true_and, ↓reduceIte, decide_true, decide_false, Nat.reduceEqDiff, Nat.reduceLT, Nat.reduceLeDiff, Int.reduceEq, c, t1, t2, q2, e1]
/-! trailers, tractors -/
set_option maxRecDepth 100000 in
set_option maxHeartbeats 1000000 in
theorem p_d51 (d : Nat) (D : Nat → Int → Int) (L n t : Nat) (ht : t < n) (hn : n ≤ 12) (e : ∀ a : Int, tS D t a = tM D t a) : ∀ (j : Nat) (i h : Int), 0 ≤ i → i + j = 8 → tqrun tqP (d + 2) tqc_X11_digest 51 [vR 2, vL h, vU, vI (t : Int), vI i] [] (tzW D L n) = tqrun tqP (d + 2) tqc_X11_digest 40 [vR 2, vL (itq (fun w y => mxq y (tM D t w)) j i h), vU, vI ((t : Int) + 1), vU] [] (tzW D L n)
  | 0, i, h, i0, ij => by
    have c : 7 < i := by omega
    have e1 : w32 ((t : Int) + 1) = (t : Int) + 1 := w32_i (by omega) (by omega)
    rw [b_X11_digest_51]
    simp only [z_cd, i10, i11, dnn, rdU, eW, eU, tzC_w, w_shp, w_ptr, Nat.beq_refl, nbz, nb133, nb75, nb55, nb67, n133a, n133b, n75a, n75b, aT, aR, oT, oR, oF, oG, kT, kF, bI, bL, bR, b0, Classical.not_not, not_true_eq_false, not_false_eq_true, and_self, and_true, true_and, ↓reduceIte, decide_true, decide_false, Nat.reduceEqDiff, Nat.reduceLT, Nat.reduceLeDiff, Int.reduceEq, c, e1]
    rfl
  | j + 1, i, h, i0, ij => by
    have c : ¬ 7 < i := by omega
    have hb : tqib (t : Int) 12 = true := tqib_y (by omega) (by omega)
    have ps := p_says d D L n t ht i
    rw [e i] at ps
    have e1 := w1z i0 (by omega)
    rw [itq_S, ← p_d51 d D L n t ht hn e j (i + 1) _ (by clear e1; omega) (by clear e1; omega), b_X11_digest_51]
    simp only [z_cd, i10, i11, dnn, rdU, eW, eU, tzC_w, w_shp, w_ptr, Nat.beq_refl, nbz, nb133, nb75, nb55, nb67, n133a, n133b, n75a, n75b, aT, aR, oT, oR, oF, oG, kT, kF, bI, bL, bR, b0, Classical.not_not, not_true_eq_false, not_false_eq_true, and_self, and_true, true_and, ↓reduceIte, decide_true, decide_false, Nat.reduceEqDiff, Nat.reduceLT, Nat.reduceLeDiff, Int.reduceEq, c, ble46, ble67, hb, w_trp D L n ht, w_trailer D L n ht, ps, p_mix, e1]
set_option maxRecDepth 100000 in
set_option maxHeartbeats 1000000 in
theorem p_d40 (d : Nat) (D : Nat → Int → Int) (L n : Nat) (c1 : D 2 12 = n) (hn : n ≤ 12) (e : ∀ (t : Nat) (a : Int), t < n → tS D t a = tM D t a) : ∀ (j t : Nat) (h : Int), t + j = n → tqrun tqP (d + 2) tqc_X11_digest 40 [vR 2, vL h, vU, vI (t : Int), vU] [] (tzW D L n) = tqrun tqP (d + 2) tqc_X11_digest 89 [vR 2, vL (itq (fun t y => itq (fun w y => mxq y (tM D t.toNat w)) 8 0 y) j t h), vU, vI 0, vU] [] (tzW D L n)
  | 0, t, h, tj => by
    have c : (n : Int) ≤ t := by omega
    rw [b_X11_digest_40]
    simp only [z_cd, i10, i11, dnn, rdU, eW, eU, tzC_w, w_shp, w_ptr, Nat.beq_refl, nbz, nb133, nb75, nb55, nb67, n133a, n133b, n75a, n75b, aT, aR, oT, oR, oF, oG, kT, kF, bI, bL, bR, b0, Classical.not_not, not_true_eq_false, not_false_eq_true, and_self, and_true, true_and, ↓reduceIte, decide_true, decide_false, Nat.reduceEqDiff, Nat.reduceLT, Nat.reduceLeDiff, Int.reduceEq, c1, c]
    rfl
  | j + 1, t, h, tj => by
    have c : ¬ (n : Int) ≤ t := by omega
    have r := p_d51 d D L n t (by omega) hn (fun a => e t a (by omega)) 8 0 h (by omega) (by omega)
    have ih := p_d40 d D L n c1 hn e j (t + 1) (itq (fun w y => mxq y (tM D t w)) 8 0 h) (by omega)
    rw [show ((t + 1 : Nat) : Int) = (t : Int) + 1 by omega] at ih
    rw [itq_S]
    show _ = tqrun tqP (d + 2) tqc_X11_digest 89 [vR 2, vL (itq _ j ((t : Int) + 1) (itq (fun w y => mxq y (tM D (t : Int).toNat w)) 8 0 h)), vU, vI 0, vU] [] (tzW D L n)
    rw [show (t : Int).toNat = t by omega, ← ih, ← r, b_X11_digest_40]
    simp only [z_cd, i10, i11, dnn, rdU, eW, eU, tzC_w, w_shp, w_ptr, Nat.beq_refl, nbz, nb133, nb75, nb55, nb67, n133a, n133b, n75a, n75b, aT, aR, oT, oR, oF, oG, kT, kF, bI, bL, bR, b0, Classical.not_not, not_true_eq_false, not_false_eq_true, and_self, and_true, true_and, ↓reduceIte, decide_true, decide_false, Nat.reduceEqDiff, Nat.reduceLT, Nat.reduceLeDiff, Int.reduceEq, c1, c]
set_option maxRecDepth 100000 in
set_option maxHeartbeats 1000000 in
theorem q_d107 (d : Nat) (D : Nat → Int → Int) (L n t : Nat) (ht : t < 12) : ∀ (j : Nat) (i h : Int), 0 ≤ i → i + j = 8 → tqrun tqP (d + 2) tqc_X12_digest 107 [vR 81, vI (t : Int), vI i] [] (tzW (tzU D 81 72 h) L n) = tqrun tqP (d + 2) tqc_X12_digest 97 [vR 81, vI ((t : Int) + 1), vU] [] (tzW (tzU D 81 72 (itq (fun w y => mxq y (tM D t w)) j i h)) L n)
  | 0, i, h, i0, ij => by
    have c : 7 < i := by omega
    have e1 : w32 ((t : Int) + 1) = (t : Int) + 1 := w32_i (by omega) (by omega)
    rw [b_X12_digest_107]
    simp only [z_cd, i10, i11, dnn, rdU, eW, eU, tzC_w, w_shp, w_ptr, Nat.beq_refl, nbz, nb133, nb75, nb55, nb67, n133a, n133b, n75a, n75b, aT, aR, oT, oR, oF, oG, kT, kF, bI, bL, bR, b0, Classical.not_not, not_true_eq_false, not_false_eq_true, and_self, and_true, true_and, ↓reduceIte, decide_true, decide_false, Nat.reduceEqDiff, Nat.reduceLT, Nat.reduceLeDiff, Int.reduceEq, c, e1]
    rfl
  | j + 1, i, h, i0, ij => by
    have c : ¬ 7 < i := by omega
    have ps : tqden tqP (d + 1) n_X12_trailerTells [vR 81, vI (t : Int), vI i] (tzW (tzU D 81 72 h) L n) = some (some (vI (tM D t i)), tzW (tzU D 81 72 h) L n) := q_tells d (tzU D 81 72 h) L n t ht i
    have e1 := w1z i0 (by omega)
    rw [itq_S, ← q_d107 d D L n t ht j (i + 1) _ (by clear e1; omega) (by clear e1; omega), b_X12_digest_107]
    simp only [z_cd, i10, i11, dnn, rdU, eW, eU, tzC_w, w_shp, w_ptr, Nat.beq_refl, nbz, nb133, nb75, nb55, nb67, n133a, n133b, n75a, n75b, aT, aR, oT, oR, oF, oG, kT, kF, bI, bL, bR, b0, Classical.not_not, not_true_eq_false, not_false_eq_true, and_self, and_true, true_and, ↓reduceIte, decide_true, decide_false, Nat.reduceEqDiff, Nat.reduceLT, Nat.reduceLeDiff, Int.reduceEq, c, ps, q_mix, e1]
set_option maxRecDepth 100000 in
set_option maxHeartbeats 1000000 in
theorem q_d97 (d : Nat) (D : Nat → Int → Int) (L n : Nat) (c2 : D 81 16 = n) (hn : n ≤ 12) : ∀ (j t : Nat) (h : Int), t + j = n → tqrun tqP (d + 2) tqc_X12_digest 97 [vR 81, vI (t : Int), vU] [] (tzW (tzU D 81 72 h) L n) = tqrun tqP (d + 2) tqc_X12_digest 137 [vR 81, vI 0, vU] [] (tzW (tzU D 81 72 (itq (fun t y => itq (fun w y => mxq y (tM D t.toNat w)) 8 0 y) j t h)) L n)
  | 0, t, h, tj => by
    have c : (n : Int) ≤ t := by omega
    rw [b_X12_digest_97]
    simp only [z_cd, i10, i11, dnn, rdU, eW, eU, tzC_w, w_shp, w_ptr, Nat.beq_refl, nbz, nb133, nb75, nb55, nb67, n133a, n133b, n75a, n75b, aT, aR, oT, oR, oF, oG, kT, kF, bI, bL, bR, b0, Classical.not_not, not_true_eq_false, not_false_eq_true, and_self, and_true, true_and, ↓reduceIte, decide_true, decide_false, Nat.reduceEqDiff, Nat.reduceLT, Nat.reduceLeDiff, Int.reduceEq, c2, c]
    rfl
  | j + 1, t, h, tj => by
    have c : ¬ (n : Int) ≤ t := by omega
    have r := q_d107 d D L n t (by omega) 8 0 h (by omega) (by omega)
    have ih := q_d97 d D L n c2 hn j (t + 1) (itq (fun w y => mxq y (tM D t w)) 8 0 h) (by omega)
    rw [show ((t + 1 : Nat) : Int) = (t : Int) + 1 by omega] at ih
    rw [itq_S]
    show _ = tqrun tqP (d + 2) tqc_X12_digest 137 [vR 81, vI 0, vU] [] (tzW (tzU D 81 72 (itq _ j ((t : Int) + 1) (itq (fun w y => mxq y (tM D (t : Int).toNat w)) 8 0 h))) L n)
    rw [show (t : Int).toNat = t by omega, ← ih, ← r, b_X12_digest_97]
    simp only [z_cd, i10, i11, dnn, rdU, eW, eU, tzC_w, w_shp, w_ptr, Nat.beq_refl, nbz, nb133, nb75, nb55, nb67, n133a, n133b, n75a, n75b, aT, aR, oT, oR, oF, oG, kT, kF, bI, bL, bR, b0, Classical.not_not, not_true_eq_false, not_false_eq_true, and_self, and_true, true_and, ↓reduceIte, decide_true, decide_false, Nat.reduceEqDiff, Nat.reduceLT, Nat.reduceLeDiff, Int.reduceEq, c2, c]
theorem w_trk (D : Nat → Int → Int) (L n : Nat) {k : Nat} (h : k < 6) : (tzW D L n).2.1 5 (k : Int) = 75 + k := by
  have : k = 0 ∨ k = 1 ∨ k = 2 ∨ k = 3 ∨ k = 4 ∨ k = 5 := by omega
  rcases this with rfl | rfl | rfl | rfl | rfl | rfl <;> exact rfl
theorem ble45 : Nat.ble 4 5 = true := rfl
theorem ble57 : Nat.ble 5 7 = true := rfl
set_option maxRecDepth 100000 in
set_option maxHeartbeats 1000000 in
theorem p_d98 (d : Nat) (D : Nat → Int → Int) (L n t : Nat) (ht : t < 6) (e : ∀ a : Int, kS D t a = kM D t a) : ∀ (j : Nat) (i h : Int), 0 ≤ i → i + j = 5 → tqrun tqP (d + 2) tqc_X11_digest 98 [vR 2, vL h, vU, vI (t : Int), vI i] [] (tzW D L n) = tqrun tqP (d + 2) tqc_X11_digest 89 [vR 2, vL (itq (fun w y => mxq y (kM D t w)) j i h), vU, vI ((t : Int) + 1), vU] [] (tzW D L n)
  | 0, i, h, i0, ij => by
    have c : 4 < i := by omega
    have e1 : w32 ((t : Int) + 1) = (t : Int) + 1 := w32_i (by omega) (by omega)
    rw [b_X11_digest_98]
    simp only [z_cd, i10, i11, dnn, rdU, eW, eU, tzC_w, w_shp, w_ptr, Nat.beq_refl, nbz, nb133, nb75, nb55, nb67, n133a, n133b, n75a, n75b, aT, aR, oT, oR, oF, oG, kT, kF, bI, bL, bR, b0, Classical.not_not, not_true_eq_false, not_false_eq_true, and_self, and_true, true_and, ↓reduceIte, decide_true, decide_false, Nat.reduceEqDiff, Nat.reduceLT, Nat.reduceLeDiff, Int.reduceEq, c, e1]
    rfl
  | j + 1, i, h, i0, ij => by
    have c : ¬ 4 < i := by omega
    have hb : tqib (t : Int) 6 = true := tqib_y (by omega) (by omega)
    have ps := p_ksays d D L n t ht i
    rw [e i] at ps
    have e1 := w1z i0 (by omega)
    rw [itq_S, ← p_d98 d D L n t ht e j (i + 1) _ (by clear e1; omega) (by clear e1; omega), b_X11_digest_98]
    simp only [z_cd, i10, i11, dnn, rdU, eW, eU, tzC_w, w_shp, w_ptr, Nat.beq_refl, nbz, nb133, nb75, nb55, nb67, n133a, n133b, n75a, n75b, aT, aR, oT, oR, oF, oG, kT, kF, bI, bL, bR, b0, Classical.not_not, not_true_eq_false, not_false_eq_true, and_self, and_true, true_and, ↓reduceIte, decide_true, decide_false, Nat.reduceEqDiff, Nat.reduceLT, Nat.reduceLeDiff, Int.reduceEq, c, ble45, ble57, hb, w_trk D L n ht, w_tractor D L n ht, ps, p_mix, e1]
set_option maxRecDepth 100000 in
set_option maxHeartbeats 1000000 in
theorem p_d89 (d : Nat) (D : Nat → Int → Int) (L n : Nat) (e : ∀ (t : Nat) (a : Int), t < 6 → kS D t a = kM D t a) : ∀ (j t : Nat) (h : Int), t + j = 6 → tqrun tqP (d + 2) tqc_X11_digest 89 [vR 2, vL h, vU, vI (t : Int), vU] [] (tzW D L n) = tqrun tqP (d + 2) tqc_X11_digest 89 [vR 2, vL (itq (fun t y => itq (fun w y => mxq y (kM D t.toNat w)) 5 0 y) j t h), vU, vI 6, vU] [] (tzW D L n)
  | 0, t, h, tj => by
    rw [show (t : Int) = 6 by omega]
    rfl
  | j + 1, t, h, tj => by
    have c : ¬ (6 : Int) ≤ t := by omega
    have r := p_d98 d D L n t (by omega) (fun a => e t a (by omega)) 5 0 h (by omega) (by omega)
    have ih := p_d89 d D L n e j (t + 1) (itq (fun w y => mxq y (kM D t w)) 5 0 h) (by omega)
    rw [show ((t + 1 : Nat) : Int) = (t : Int) + 1 by omega] at ih
    rw [itq_S]
    show _ = tqrun tqP (d + 2) tqc_X11_digest 89 [vR 2, vL (itq _ j ((t : Int) + 1) (itq (fun w y => mxq y (kM D (t : Int).toNat w)) 5 0 h)), vU, vI 6, vU] [] (tzW D L n)
    rw [show (t : Int).toNat = t by omega, ← ih, ← r, b_X11_digest_89]
    simp only [z_cd, i10, i11, dnn, rdU, eW, eU, tzC_w, w_shp, w_ptr, Nat.beq_refl, nbz, nb133, nb75, nb55, nb67, n133a, n133b, n75a, n75b, aT, aR, oT, oR, oF, oG, kT, kF, bI, bL, bR, b0, Classical.not_not, not_true_eq_false, not_false_eq_true, and_self, and_true, true_and, ↓reduceIte, decide_true, decide_false, Nat.reduceEqDiff, Nat.reduceLT, Nat.reduceLeDiff, Int.reduceEq, c]
set_option maxRecDepth 100000 in
set_option maxHeartbeats 1000000 in
theorem q_d145 (d : Nat) (D : Nat → Int → Int) (L n t : Nat) (ht : t < 6) : ∀ (j : Nat) (i h : Int), 0 ≤ i → i + j = 5 → tqrun tqP (d + 2) tqc_X12_digest 145 [vR 81, vI (t : Int), vI i] [] (tzW (tzU D 81 72 h) L n) = tqrun tqP (d + 2) tqc_X12_digest 137 [vR 81, vI ((t : Int) + 1), vU] [] (tzW (tzU D 81 72 (itq (fun w y => mxq y (kM D t w)) j i h)) L n)
  | 0, i, h, i0, ij => by
    have c : 4 < i := by omega
    have e1 : w32 ((t : Int) + 1) = (t : Int) + 1 := w32_i (by omega) (by omega)
    rw [b_X12_digest_145]
    simp only [z_cd, i10, i11, dnn, rdU, eW, eU, tzC_w, w_shp, w_ptr, Nat.beq_refl, nbz, nb133, nb75, nb55, nb67, n133a, n133b, n75a, n75b, aT, aR, oT, oR, oF, oG, kT, kF, bI, bL, bR, b0, Classical.not_not, not_true_eq_false, not_false_eq_true, and_self, and_true, true_and, ↓reduceIte, decide_true, decide_false, Nat.reduceEqDiff, Nat.reduceLT, Nat.reduceLeDiff, Int.reduceEq, c, e1]
    rfl
  | j + 1, i, h, i0, ij => by
    have c : ¬ 4 < i := by omega
    have ps : tqden tqP (d + 1) n_X12_tractorTells [vR 81, vI (t : Int), vI i] (tzW (tzU D 81 72 h) L n) = some (some (vI (kM D t i)), tzW (tzU D 81 72 h) L n) := q_ktells d (tzU D 81 72 h) L n t ht i
    have e1 := w1z i0 (by omega)
    rw [itq_S, ← q_d145 d D L n t ht j (i + 1) _ (by clear e1; omega) (by clear e1; omega), b_X12_digest_145]
    simp only [z_cd, i10, i11, dnn, rdU, eW, eU, tzC_w, w_shp, w_ptr, Nat.beq_refl, nbz, nb133, nb75, nb55, nb67, n133a, n133b, n75a, n75b, aT, aR, oT, oR, oF, oG, kT, kF, bI, bL, bR, b0, Classical.not_not, not_true_eq_false, not_false_eq_true, and_self, and_true, true_and, ↓reduceIte, decide_true, decide_false, Nat.reduceEqDiff, Nat.reduceLT, Nat.reduceLeDiff, Int.reduceEq, c, ps, q_mix, e1]
set_option maxRecDepth 100000 in
set_option maxHeartbeats 1000000 in
theorem q_d137 (d : Nat) (D : Nat → Int → Int) (L n : Nat) : ∀ (j t : Nat) (h : Int), t + j = 6 → tqrun tqP (d + 2) tqc_X12_digest 137 [vR 81, vI (t : Int), vU] [] (tzW (tzU D 81 72 h) L n) = tqrun tqP (d + 2) tqc_X12_digest 174 [vR 81, vI 0, vU] [] (tzW (tzU D 81 72 (itq (fun t y => itq (fun w y => mxq y (kM D t.toNat w)) 5 0 y) j t h)) L n)
  | 0, t, h, tj => by
    have c : (6 : Int) ≤ t := by omega
    rw [b_X12_digest_137]
    simp only [z_cd, i10, i11, dnn, rdU, eW, eU, tzC_w, w_shp, w_ptr, Nat.beq_refl, nbz, nb133, nb75, nb55, nb67, n133a, n133b, n75a, n75b, aT, aR, oT, oR, oF, oG, kT, kF, bI, bL, bR, b0, Classical.not_not, not_true_eq_false, not_false_eq_true, and_self, and_true, true_and, ↓reduceIte, decide_true, decide_false, Nat.reduceEqDiff, Nat.reduceLT, Nat.reduceLeDiff, Int.reduceEq, c]
    rfl
  | j + 1, t, h, tj => by
    have c : ¬ (6 : Int) ≤ t := by omega
    have r := q_d145 d D L n t (by omega) 5 0 h (by omega) (by omega)
    have ih := q_d137 d D L n j (t + 1) (itq (fun w y => mxq y (kM D t w)) 5 0 h) (by omega)
    rw [show ((t + 1 : Nat) : Int) = (t : Int) + 1 by omega] at ih
    rw [itq_S]
    show _ = tqrun tqP (d + 2) tqc_X12_digest 174 [vR 81, vI 0, vU] [] (tzW (tzU D 81 72 (itq _ j ((t : Int) + 1) (itq (fun w y => mxq y (kM D (t : Int).toNat w)) 5 0 h))) L n)
    rw [show (t : Int).toNat = t by omega, ← ih, ← r, b_X12_digest_137]
    simp only [z_cd, i10, i11, dnn, rdU, eW, eU, tzC_w, w_shp, w_ptr, Nat.beq_refl, nbz, nb133, nb75, nb55, nb67, n133a, n133b, n75a, n75b, aT, aR, oT, oR, oF, oG, kT, kF, bI, bL, bR, b0, Classical.not_not, not_true_eq_false, not_false_eq_true, and_self, and_true, true_and, ↓reduceIte, decide_true, decide_false, Nat.reduceEqDiff, Nat.reduceLT, Nat.reduceLeDiff, Int.reduceEq, c]
