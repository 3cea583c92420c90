/-! ===== look: the class ===== -/
theorem sm_nn {S : Int} {h : Int → Int} (l : ∀ k : Int, 0 ≤ k → k < 8 → hbq S k → 0 ≤ h k) : 0 ≤ smk S h := by
  have b : ∀ k : Int, 0 ≤ k → k < 8 → 0 ≤ bgq S h k := fun k k0 k1 => by
    unfold bgq
    by_cases q : hbq S k
    · rw [if_pos q]; exact l k k0 k1 q
    · rw [if_neg q]; exact Int.le_refl _
  have a0 := b 0 (by omega) (by omega)
  have a1 := b 1 (by omega) (by omega)
  have a2 := b 2 (by omega) (by omega)
  have a3 := b 3 (by omega) (by omega)
  have a4 := b 4 (by omega) (by omega)
  have a5 := b 5 (by omega) (by omega)
  have a6 := b 6 (by omega) (by omega)
  have a7 := b 7 (by omega) (by omega)
  unfold smk
  omega
theorem mulk {w x : Int} (w0 : 0 ≤ w) (w1 : w ≤ 100) (x0 : 0 ≤ x) (x1 : x ≤ 120000) : 0 ≤ w * x ∧ w * x ≤ 12000000 := by
  refine ⟨Int.mul_nonneg w0 x0, ?_⟩
  have a : w * x ≤ 100 * x := Int.mul_le_mul_of_nonneg_right w1 x0
  omega
def tlk (S : Int) (h : Int → Int) : Nat → Int → Int
  | 0, _ => 0
  | j + 1, y => bgq S h y + tlk S h j (y + 1)
theorem tlk_8 (S : Int) (h : Int → Int) : tlk S h 8 0 = smk S h := by
  show bgq S h 0 + (bgq S h (0 + 1) + (bgq S h (0 + 1 + 1) + (bgq S h (0 + 1 + 1 + 1) + (bgq S h (0 + 1 + 1 + 1 + 1) + (bgq S h (0 + 1 + 1 + 1 + 1 + 1) + (bgq S h (0 + 1 + 1 + 1 + 1 + 1 + 1) + (bgq S h (0 + 1 + 1 + 1 + 1 + 1 + 1 + 1) + 0))))))) = smk S h
  simp only [Int.reduceAdd]
  unfold smk
  omega
set_option maxRecDepth 100000 in
set_option maxHeartbeats 1000000 in
theorem p_str5 (d L n A : Nat) (D : Nat → Int → Int) (hs : (tzW D L n).2.2.1 A = (1, 8)) (S : Int) (wt tm : Int → Int) (T : Int) (hT : D 30 6 = T) (h38 : ∀ k : Int, 0 ≤ k → k < 8 → D 38 k = wt k) (hA : ∀ k : Int, 0 ≤ k → k < 8 → D A k = tm k) (hb : ∀ k : Int, 0 ≤ k → k < 8 → hbq S k → (0 ≤ wt k ∧ wt k ≤ 100) ∧ (0 ≤ tm k - T ∧ tm k - T ≤ 120000)) : ∀ (j : Nat) (y s : Int), 0 ≤ y → y + j = 8 → 0 ≤ s → s ≤ 12000000 * y →
    tqrun tqP (d + 2) tqc_X5_straight 5 [vR 30, vR A, vI S, vI s, vI y] [] (tzW D L n) = some (some (vI (s + tlk S (fun k => wt k * (tm k - T)) j y)), tzW D L n)
  | 0, y, s, y0, yj, s0, s1 => by
    have c : 8 ≤ y := by omega
    rw [show s + tlk S (fun k => wt k * (tm k - T)) 0 y = s from Int.add_zero s, b_X5_straight_5]
    simp only [z_cd, i10, i11, dnn, rdU, eW, eU, tzC_w, w_shp, w_ptr, Nat.beq_refl, nbz, nb133, nb75, nb55, nb67, n133a, n133b, n75a, n75b, aT, aR, oT, oR, oF, oG, kT, kF, bI, bL, bR, b0, Classical.not_not, not_true_eq_false, not_false_eq_true, and_self, and_true, true_and, ↓reduceIte, decide_true, decide_false, Nat.reduceEqDiff, Nat.reduceLT, Nat.reduceLeDiff, Int.reduceEq, c]
  | j + 1, y, s, y0, yj, s0, s1 => by
    have c : ¬ 8 ≤ y := by omega
    have c2 : ¬ ((8 : Nat) : Int) ≤ y := by omega
    have hy : tqib y 8 = true := tqib_y (by omega) (by omega)
    have a38 := h38 y y0 (by omega)
    have aA := hA y y0 (by omega)
    have e1 := w1z y0 (by omega)
    by_cases q : hbq S y
    · have h := hb y y0 (by clear e1; omega) q
      have m := mulk h.1.1 h.1.2 h.2.1 h.2.2
      have eb : bgq S (fun k => wt k * (tm k - T)) y = wt y * (tm y - T) := if_pos q
      have w1 : w32 (tm y - T) = tm y - T := w32_i (by clear e1; omega) (by clear e1; omega)
      have w2 : w32 (wt y * (tm y - T)) = wt y * (tm y - T) := w32_i (by clear e1 w1; omega) (by clear e1 w1; omega)
      have w3 : w32 (s + wt y * (tm y - T)) = s + wt y * (tm y - T) := w32_i (by clear e1 w1 w2; omega) (by clear e1 w1 w2; omega)
      have r := p_str5 d L n A D hs S wt tm T hT h38 hA hb j (y + 1) (s + wt y * (tm y - T)) (by clear e1 w1 w2 w3; omega) (by clear e1 w1 w2 w3; omega) (by clear e1 w1 w2 w3; omega) (by clear e1 w1 w2 w3; omega)
      rw [show s + tlk S (fun k => wt k * (tm k - T)) (j + 1) y = s + wt y * (tm y - T) + tlk S (fun k => wt k * (tm k - T)) j (y + 1) by
        show s + (bgq S (fun k => wt k * (tm k - T)) y + tlk S (fun k => wt k * (tm k - T)) j (y + 1)) = _
        rw [eb, Int.add_assoc]]
      rw [← r, b_X5_straight_5]
      simp only [z_cd, i10, i11, dnn, rdU, eW, eU, tzC_w, w_shp, w_ptr, Nat.beq_refl, nbz, nb133, nb75, nb55, nb67, n133a, n133b, n75a, n75b, aT, aR, oT, oR, oF, oG, kT, kF, bI, bL, bR, b0, Classical.not_not, not_true_eq_false, not_false_eq_true, and_self, and_true, true_and, ↓reduceIte, decide_true, decide_false, Nat.reduceEqDiff, Nat.reduceLT, Nat.reduceLeDiff, Int.reduceEq, c, c2, hs, ble11, ble18, p_hasBit_y _ _ q, hy, a38, aA, hT, w1, w2, w3, e1]
    · have eb : bgq S (fun k => wt k * (tm k - T)) y = 0 := if_neg q
      have r := p_str5 d L n A D hs S wt tm T hT h38 hA hb j (y + 1) s (by clear e1; omega) (by clear e1; omega) s0 (by clear e1; omega)
      rw [show s + tlk S (fun k => wt k * (tm k - T)) (j + 1) y = s + tlk S (fun k => wt k * (tm k - T)) j (y + 1) by
        show s + (bgq S (fun k => wt k * (tm k - T)) y + tlk S (fun k => wt k * (tm k - T)) j (y + 1)) = _
        rw [eb, Int.zero_add]]
      rw [← r, b_X5_straight_5]
      simp only [z_cd, i10, i11, dnn, rdU, eW, eU, tzC_w, w_shp, w_ptr, Nat.beq_refl, nbz, nb133, nb75, nb55, nb67, n133a, n133b, n75a, n75b, aT, aR, oT, oR, oF, oG, kT, kF, bI, bL, bR, b0, Classical.not_not, not_true_eq_false, not_false_eq_true, and_self, and_true, true_and, ↓reduceIte, decide_true, decide_false, Nat.reduceEqDiff, Nat.reduceLT, Nat.reduceLeDiff, Int.reduceEq, c, c2, hs, ble11, ble18, p_hasBit_n _ _ q, e1]
/-- where a search stands: a yard, a minute, what is left, all of it reached -/
def PGo (D : Nat → Int → Int) (T : Int) (f : Nat) (S a t : Int) : Prop := ((0 ≤ S ∧ S < 256) ∧ (0 ≤ a ∧ a < 8) ∧ T ≤ t ∧ t + 16320 * f ≤ T + 97920) ∧ ∀ k : Int, 0 ≤ k → k < 8 → hbq S k → erq D 0 a t k < 2147483647
def WO (D : Nat → Int → Int) : Prop := WY D ∧ (∀ y : Int, 0 ≤ y → y < 8 → D 88 (9 * y) = 0) ∧ ∀ x y : Int, 0 ≤ x → x < 8 → 0 ≤ y → y < 8 → D 88 (8 * x + y) = D 88 (8 * y + x)
theorem PG_stp {D : Nat → Int → Int} (w : WO D) {T : Int} (T0 : 0 ≤ T) (T1 : T ≤ 9000000) (f : Nat) (S a t y : Int) (p : PGo D T (f + 1) S a t) (y0 : 0 ≤ y) (y1 : y < 8) (hy : hbq S y) : PGo D T f (rmk S y) y (erq D 0 a t y) := by
  obtain ⟨⟨⟨S0, S1⟩, ⟨a0, a1⟩, t0, t1⟩, r⟩ := p
  obtain ⟨wy, hd, sy⟩ := w
  have L := er_ok wy hd (bt := 0) (Or.inl rfl) a0 a1 (show 0 ≤ t by omega) (show t ≤ 10000000 by omega) y0 y1
  have lt := r y y0 y1 hy
  have b := er_b wy y0 y1 L
  refine ⟨⟨rm_r S0 S1 y0 y1, ⟨y0, y1⟩, by omega, by omega⟩, fun k k0 k1 q => ?_⟩
  have q1 := (rm_h S0 S1 y0 y1 k0 k1).mp q
  exact IsL_all sy wy y0 y1 k0 k1 L lt (er_ok wy hd (bt := 0) (Or.inl rfl) a0 a1 (show 0 ≤ t by omega) (show t ≤ 10000000 by omega) k0 k1) (r k k0 k1 q1.1) (er_ok wy hd (bt := 0) (Or.inl rfl) y0 y1 (by omega) (by omega) k0 k1) Wk_any
theorem PG_tri {D : Nat → Int → Int} (w : WO D) {T : Int} (T0 : 0 ≤ T) (T1 : T ≤ 9000000) (f : Nat) (S a t y z : Int) (p : PGo D T (f + 1) S a t) (y0 : 0 ≤ y) (y1 : y < 8) (z0 : 0 ≤ z) (z1 : z < 8) (hy : hbq S y) (hz : hbq S z) : erq D 0 a t z ≤ erq D 0 y (erq D 0 a t y) z := by
  obtain ⟨⟨⟨S0, S1⟩, ⟨a0, a1⟩, t0, t1⟩, r⟩ := p
  obtain ⟨wy, hd, sy⟩ := w
  have L := er_ok wy hd (bt := 0) (Or.inl rfl) a0 a1 (show 0 ≤ t by omega) (show t ≤ 10000000 by omega) y0 y1
  have lt := r y y0 y1 hy
  have b := er_b wy y0 y1 L
  exact IsL_tri L lt (er_ok wy hd (bt := 0) (Or.inl rfl) y0 y1 (by omega) (by omega) z0 z1) (er_ok wy hd (bt := 0) (Or.inl rfl) a0 a1 (show 0 ≤ t by omega) (show t ≤ 10000000 by omega) z0 z1) (r z z0 z1 hz)
theorem PG_b {D : Nat → Int → Int} (w : WO D) {T : Int} (T0 : 0 ≤ T) (T1 : T ≤ 9000000) {f : Nat} (hf : f ≤ 6) {S a t k : Int} (p : PGo D T f S a t) (k0 : 0 ≤ k) (k1 : k < 8) (q : hbq S k) : t ≤ erq D 0 a t k ∧ 0 ≤ erq D 0 a t k - T ∧ erq D 0 a t k - T ≤ 120000 := by
  obtain ⟨⟨⟨S0, S1⟩, ⟨a0, a1⟩, t0, t1⟩, r⟩ := p
  obtain ⟨wy, hd, sy⟩ := w
  have L := er_ok wy hd (bt := 0) (Or.inl rfl) a0 a1 (show 0 ≤ t by omega) (show t ≤ 10000000 by omega) k0 k1
  have lt := r k k0 k1 q
  have b := er_b wy k0 k1 L
  omega
theorem flo_le (E : Int → Int → Int → Int) (wt : Int → Int) (T a t s : Int) (g : Int → Int) (p : Int) : ∀ (x : List (List Int)) (u : Int × (Int → Int)), (flo E wt T a t s g p x u).1 ≤ u.1
  | [], u => Int.le_refl _
  | M :: x, u => by
    have h := flo_le E wt T a t s g p x (stoq u (vlo E wt T a t s M, aso g p M))
    have k : (stoq u (vlo E wt T a t s M, aso g p M)).1 ≤ u.1 := by
      unfold stoq
      by_cases q : (vlo E wt T a t s M, aso g p M).1 < u.1
      · rw [if_pos q]; omega
      · rw [if_neg q]; omega
    exact Int.le_trans h k
set_option maxRecDepth 100000 in
theorem un_dec : ∀ S : Fin 256, ∀ y : Fin 8, hbq ((S.val : Nat) : Int) ((y.val : Nat) : Int) → un (rmk ((S.val : Nat) : Int) ((y.val : Nat) : Int)) = un ((S.val : Nat) : Int) + 1 := by decide +kernel
theorem un_rm {S y : Int} (S0 : 0 ≤ S) (S1 : S < 256) (y0 : 0 ≤ y) (y1 : y < 8) (h : hbq S y) : un (rmk S y) = un S + 1 := by
  obtain ⟨p, rfl⟩ : ∃ p : Nat, S = p := ⟨S.toNat, by omega⟩
  obtain ⟨q, rfl⟩ : ∃ q : Nat, y = q := ⟨y.toNat, by omega⟩
  exact un_dec ⟨p, by omega⟩ ⟨q, by omega⟩ h
theorem un_z : un 0 = 8 := by decide +kernel
def PLo (p : Nat) (b : Nat) (j : Int) : Prop := ¬ (32 + p ≤ b ∧ b ≤ 37) ∧ b ≠ 40 ∧ ¬ (b = 30 ∧ j = 5) ∧ ¬ (b = 39 ∧ (p : Int) ≤ j)
def StL (N : Nat) (D : Nat → Int → Int) (s : Int × (Int → Int)) : Prop := D 30 5 = s.1 ∧ ∀ k : Int, 0 ≤ k → k < N → D 40 k = s.2 k
def GOo (d L n f : Nat) (B : Nat → Int → Int) (T : Int) (N : Nat) : Prop := ∀ (p : Nat) (S a t s : Int) (g : Int → Int) (D : Nat → Int → Int) (u : Int × (Int → Int)), p + f = 6 → PGo B T f S a t → p + 8 = N + un S → 0 ≤ s → s ≤ 12000000 * p → s < u.1 → u.1 ≤ 2147483647 → Sm (PLo 0) B D → StL N D u → (∀ k : Int, 0 ≤ k → k < p → D 39 k = g k) →
  ∃ D', tqden tqP (d + 3 * f + 4) n_X5_goOn [vR 30, vR 7, vI S, vI a, vI t, vI (p : Int), vI s] (tzW D L n) = some (none, tzW D' L n) ∧ Sm (PLo p) D D' ∧ StL N D' (flo (erq B 0) (B 38) T a t s g (p : Int) (ordq f S) u)
theorem w_31 (L n : Nat) {p : Nat} (hp : p < 6) : (∀ D, (tzW D L n).2.1 31 (p : Int) = 32 + p) ∧ (∀ D, (tzW D L n).2.2.1 (32 + p) = (1, 8)) := by
  have c : p = 0 ∨ p = 1 ∨ p = 2 ∨ p = 3 ∨ p = 4 ∨ p = 5 := by omega
  rcases c with rfl | rfl | rfl | rfl | rfl | rfl <;> exact ⟨fun _ => rfl, fun _ => rfl⟩
theorem ble47 : Nat.ble 4 7 = true := rfl
theorem ble77 : Nat.ble 7 7 = true := rfl
set_option maxRecDepth 100000 in
set_option maxHeartbeats 1000000 in
theorem go_leaf (d L n f : Nat) (B : Nat → Int → Int) (T : Int) (N p : Nat) (a t s : Int) (g : Int → Int) (D : Nat → Int → Int) (u : Int × (Int → Int)) (hp : p ≤ 6) (hN : p + 8 = N + un 0) (hu : s < u.1) (hg : ∀ k : Int, 0 ≤ k → k < p → D 39 k = g k) (e : ordq f 0 = [[]]) :
  ∃ D', tqden tqP (d + 1) n_X5_goOn [vR 30, vR 7, vI 0, vI a, vI t, vI (p : Int), vI s] (tzW D L n) = some (none, tzW D' L n) ∧ Sm (PLo p) D D' ∧ StL N D' (flo (erq B 0) (B 38) T a t s g (p : Int) (ordq f 0) u) := by
  rw [un_z] at hN
  refine ⟨tzC (tzU D 30 5 s) 39 0 40 0 6, ?_, ?_, ?_⟩
  · have c1 : (0 : Int) ≤ 0 := by decide
    have c2 : (0 : Int) ≤ 6 := by decide
    have c3 : (0 : Int) + 6 ≤ ((6 : Nat) : Int) := by decide
    rw [dn_X5_goOn, b_X5_goOn_0]
    simp only [z_cd, i10, i11, dnn, rdU, eW, eU, tzC_w, w_shp, w_ptr, Nat.beq_refl, nbz, nb133, nb75, nb55, nb67, n133a, n133b, n75a, n75b, aT, aR, oT, oR, oF, oG, kT, kF, bI, bL, bR, b0, Classical.not_not, not_true_eq_false, not_false_eq_true, and_self, and_true, true_and, ↓reduceIte, decide_true, decide_false, Nat.reduceEqDiff, Nat.reduceLT, Nat.reduceLeDiff, Int.reduceEq, c1, c2, c3]
  · exact Sm_C (fun k _ _ => by unfold PLo; omega) (Sm_U (by unfold PLo; omega) (Sm_r _ _))
  · rw [e]
    show StL N _ (stoq u (s, g))
    have e2 : stoq u (s, g) = (s, g) := if_pos hu
    rw [e2]
    refine ⟨?_, fun k k0 k1 => ?_⟩
    · show tzC (tzU D 30 5 s) 39 0 40 0 6 30 5 = s
      unfold tzC
      rw [if_neg (by decide), tzU_s]
    · show tzC (tzU D 30 5 s) 39 0 40 0 6 40 k = g k
      unfold tzC
      rw [if_pos rfl, if_pos (by omega), tzU_o _ _ _ _ (by decide), show (0 : Int) + (k - 0) = k by omega]
      exact hg k k0 (by omega)
set_option maxRecDepth 100000 in
set_option maxHeartbeats 1000000 in
theorem go_74 (d L n f : Nat) (B : Nat → Int → Int) (T : Int) (N : Nat) (ih : GOo d L n f B T N) (wo : WO B) (T0 : 0 ≤ T) (T1 : T ≤ 9000000) (hT : B 30 6 = T) (hw : ∀ k : Int, 0 ≤ k → k < 8 → 0 ≤ B 38 k ∧ B 38 k ≤ 100) {p : Nat} (pf : p + (f + 1) = 6) {S a t s : Int} (pg : PGo B T (f + 1) S a t) (hN : p + 8 = N + un S) (s0 : 0 ≤ s) (s1 : s ≤ 12000000 * p) (g : Int → Int) : ∀ (j : Nat) (y : Int) (D : Nat → Int → Int) (u : Int × (Int → Int)), 0 ≤ y → y + j = 8 → u.1 ≤ 2147483647 → Sm (PLo 0) B D → StL N D u → (∀ k : Int, 0 ≤ k → k < p → D 39 k = g k) → (∀ k : Int, 0 ≤ k → k < 8 → D (32 + p) k = erq B 0 a t k) →
  ∃ D', tqrun tqP (d + 3 * f + 5) tqc_X5_goOn 74 [vR 30, vR 7, vI S, vU, vU, vI (p : Int), vI s, vR (32 + p), vI y, vU] [] (tzW D L n) = some (none, tzW D' L n) ∧ Sm (PLo p) D D' ∧ StL N D' (flo (erq B 0) (B 38) T a t s g (p : Int) (ordb (ordq f) S j y) u)
  | 0, y, D, u, y0, yj, u1, sb, st, hg, hA => by
    have c : 8 ≤ y := by omega
    refine ⟨D, ?_, Sm_r _ _, st⟩
    rw [b_X5_goOn_74]
    simp only [z_cd, i10, i11, dnn, rdU, eW, eU, tzC_w, w_shp, w_ptr, Nat.beq_refl, nbz, nb133, nb75, nb55, nb67, n133a, n133b, n75a, n75b, aT, aR, oT, oR, oF, oG, kT, kF, bI, bL, bR, b0, Classical.not_not, not_true_eq_false, not_false_eq_true, and_self, and_true, true_and, ↓reduceIte, decide_true, decide_false, Nat.reduceEqDiff, Nat.reduceLT, Nat.reduceLeDiff, Int.reduceEq, c]
  | j + 1, y, D, u, y0, yj, u1, sb, st, hg, hA => by
    have c : ¬ 8 ≤ y := by omega
    have y1 : y < 8 := by omega
    have hy8 : tqib y 8 = true := tqib_y (by omega) (by omega)
    have hp6 : tqib (p : Int) 6 = true := tqib_y (by omega) (by omega)
    obtain ⟨x1, x2⟩ := w_31 L n (show p < 6 by omega)
    obtain ⟨⟨S0, S1⟩, _⟩ := pg.1
    have e1 := w1z y0 (by omega)
    show ∃ D', _ ∧ _ ∧ StL N D' (flo (erq B 0) (B 38) T a t s g (p : Int) ((if hbq S y then (ordq f (rmk S y)).map (fun M => y :: M) else []) ++ ordb (ordq f) S j (y + 1)) u)
    rw [flo_app]
    by_cases q : hbq S y
    · rw [if_pos q, flo_map]
      have pb := PG_b wo T0 T1 (show f + 1 ≤ 6 by clear e1; omega) pg y0 y1 q
      have wy := hw y y0 y1
      have m := mulk wy.1 wy.2 pb.2.1 pb.2.2
      have ps := PG_stp wo T0 T1 f S a t y pg y0 y1 q
      have w1 : w32 (erq B 0 a t y - T) = erq B 0 a t y - T := w32_i (by clear e1; omega) (by clear e1; omega)
      have w2 : w32 (B 38 y * (erq B 0 a t y - T)) = B 38 y * (erq B 0 a t y - T) := w32_i (by clear e1 w1; omega) (by clear e1 w1; omega)
      have w3 : w32 (s + B 38 y * (erq B 0 a t y - T)) = s + B 38 y * (erq B 0 a t y - T) := w32_i (by clear e1 w1 w2; omega) (by clear e1 w1 w2; omega)
      have oD : ∀ (b : Nat) (k : Int), b ≠ 39 → tzU D 39 (p : Int) y b k = D b k := fun b k h => tzU_o _ _ _ _ h
      have h38 : tzU D 39 (p : Int) y 38 y = B 38 y := (oD 38 y (by decide)).trans (sb 38 y (by unfold PLo; clear e1 w1 w2 w3; omega))
      have h306 : tzU D 39 (p : Int) y 30 6 = T := ((oD 30 6 (by decide)).trans (sb 30 6 (by unfold PLo; clear e1 w1 w2 w3; omega))).trans hT
      have h305 : tzU D 39 (p : Int) y 30 5 = u.1 := (oD 30 5 (by decide)).trans st.1
      have hAA : tzU D 39 (p : Int) y (32 + p) y = erq B 0 a t y := (oD (32 + p) y (by clear e1 w1 w2 w3; omega)).trans (hA y y0 y1)
      have ne39 : ¬ 32 + p = 39 := by clear e1 w1 w2 w3; omega
      have g38 : D 38 y = B 38 y := sb 38 y (by unfold PLo; clear e1 w1 w2 w3; omega)
      have g306 : D 30 6 = T := (sb 30 6 (by unfold PLo; clear e1 w1 w2 w3; omega)).trans hT
      have g305 : D 30 5 = u.1 := st.1
      have gAA : D (32 + p) y = erq B 0 a t y := hA y y0 y1
      have hg1 : ∀ k : Int, 0 ≤ k → k < p → tzU D 39 (p : Int) y 39 k = g k := fun k k0 k1 => (tzU_k _ _ _ _ (by clear e1 w1 w2 w3; omega)).trans (hg k k0 k1)
      have sU : Sm (PLo p) D (tzU D 39 (p : Int) y) := Sm_U (by unfold PLo; clear e1 w1 w2 w3; omega) (Sm_r _ _)
      have sb1 : Sm (PLo 0) B (tzU D 39 (p : Int) y) := Sm_U (by unfold PLo; clear e1 w1 w2 w3; omega) sb
      have st1 : StL N (tzU D 39 (p : Int) y) u := ⟨h305, fun k k0 k1 => (oD 40 k (by decide)).trans (st.2 k k0 k1)⟩
      by_cases lt : u.1 ≤ s + B 38 y * (erq B 0 a t y - T)
      · rw [flo_no _ _ _ _ _ _ _ _ _ u (fun M hM => by
          have h := vlo_st (erq B 0) (B 38) T (fun k k0 k1 => (hw k k0 k1).1) (PGo B T) (fun f S a t y z p y0 y1 z0 z1 hy hz => PG_tri wo T0 T1 f S a t y z p y0 y1 z0 z1 hy hz) (fun f S a t y p y0 y1 hy => PG_stp wo T0 T1 f S a t y p y0 y1 hy) f (rmk S y) y (erq B 0 a t y) (s + B 38 y * (erq B 0 a t y - T)) M ps.1.1.1 ps.1.1.2 ps hM
          have h2 : 0 ≤ smk (rmk S y) (fun k => B 38 k * (erq B 0 y (erq B 0 a t y) k - T)) := sm_nn (fun k k0 k1 q2 => Int.mul_nonneg (hw k k0 k1).1 (PG_b wo T0 T1 (show f ≤ 6 by clear e1 w1 w2 w3; omega) ps k0 k1 q2).2.1)
          clear e1 w1 w2 w3
          omega)]
        obtain ⟨D', r1, r2, r3⟩ := go_74 d L n f B T N ih wo T0 T1 hT hw pf pg hN s0 s1 g j (y + 1) (tzU D 39 (p : Int) y) u (by clear e1 w1 w2 w3; omega) (by clear e1 w1 w2 w3; omega) u1 sb1 st1 hg1 (fun k k0 k1 => (oD (32 + p) k (by clear e1 w1 w2 w3; omega)).trans (hA k k0 k1))
        refine ⟨D', ?_, Sm_t sU r2, r3⟩
        rw [← r1, b_X5_goOn_74]
        simp only [z_cd, i10, i11, dnn, rdU, eW, eU, tzC_w, w_shp, w_ptr, Nat.beq_refl, nbz, nb133, nb75, nb55, nb67, n133a, n133b, n75a, n75b, aT, aR, oT, oR, oF, oG, kT, kF, bI, bL, bR, b0, Classical.not_not, not_true_eq_false, not_false_eq_true, and_self, and_true, true_and, ↓reduceIte, decide_true, decide_false, Nat.reduceEqDiff, Nat.reduceLT, Nat.reduceLeDiff, Int.reduceEq, c, p_hasBit_y _ _ q, hp6, hy8, x2, ne39, g38, g306, g305, gAA, w1, w2, w3, lt, e1]
      · obtain ⟨D1, v1, v2, v3⟩ := ih (p + 1) (rmk S y) y (erq B 0 a t y) (s + B 38 y * (erq B 0 a t y - T)) (fun k => if k = (p : Int) then y else g k) (tzU D 39 (p : Int) y) u (by clear e1 w1 w2 w3; omega) ps (by
            have := un_rm S0 S1 y0 y1 q
            clear e1 w1 w2 w3; omega) (by clear e1 w1 w2 w3; omega) (by clear e1 w1 w2 w3; omega) (by clear e1 w1 w2 w3; omega) u1 sb1 st1 (fun k k0 k1 => by
            by_cases kp : k = (p : Int)
            · rw [if_pos kp, kp, tzU_s]
            · rw [if_neg kp]
              exact hg1 k k0 (by clear e1 w1 w2 w3; omega))
        have ep : ((p + 1 : Nat) : Int) = (p : Int) + 1 := by clear e1 w1 w2 w3; omega
        rw [ep] at v1 v3
        have sv : Sm (PLo p) (tzU D 39 (p : Int) y) D1 := Sm_m (P := PLo p) (Q := PLo (p + 1)) (fun b k h => by unfold PLo at h; unfold PLo; clear e1 w1 w2 w3; omega) v2
        have sv0 : Sm (PLo 0) (tzU D 39 (p : Int) y) D1 := Sm_m (P := PLo 0) (Q := PLo (p + 1)) (fun b k h => by unfold PLo at h; unfold PLo; clear e1 w1 w2 w3; omega) v2
        obtain ⟨D', r1, r2, r3⟩ := go_74 d L n f B T N ih wo T0 T1 hT hw pf pg hN s0 s1 g j (y + 1) D1 _ (by clear e1 w1 w2 w3; omega) (by clear e1 w1 w2 w3; omega) (Int.le_trans (flo_le _ _ _ _ _ _ _ _ _ _) u1) (Sm_t sb1 sv0) v3 (fun k k0 k1 => (v2 39 k (by unfold PLo; clear e1 w1 w2 w3; omega)).trans (hg1 k k0 k1)) (fun k k0 k1 => ((v2 (32 + p) k (by unfold PLo; clear e1 w1 w2 w3; omega)).trans (oD (32 + p) k (by clear e1 w1 w2 w3; omega))).trans (hA k k0 k1))
        refine ⟨D', ?_, Sm_t sU (Sm_t sv r2), r3⟩
        have wp : w32 ((p : Int) + 1) = (p : Int) + 1 := w32_i (by clear e1 w1 w2 w3; omega) (by clear e1 w1 w2 w3; omega)
        have em : rmk S y = jand S (jxor (jshl 1 y) (-1)) := rfl
        rw [em] at v1
        rw [← r1, b_X5_goOn_74]
        simp only [z_cd, i10, i11, dnn, rdU, eW, eU, tzC_w, w_shp, w_ptr, Nat.beq_refl, nbz, nb133, nb75, nb55, nb67, n133a, n133b, n75a, n75b, aT, aR, oT, oR, oF, oG, kT, kF, bI, bL, bR, b0, Classical.not_not, not_true_eq_false, not_false_eq_true, and_self, and_true, true_and, ↓reduceIte, decide_true, decide_false, Nat.reduceEqDiff, Nat.reduceLT, Nat.reduceLeDiff, Int.reduceEq, c, p_hasBit_y _ _ q, hp6, hy8, x2, ne39, g38, g306, g305, gAA, w1, w2, w3, lt, wp, v1, e1]
    · rw [if_neg q]
      obtain ⟨D', r1, r2, r3⟩ := go_74 d L n f B T N ih wo T0 T1 hT hw pf pg hN s0 s1 g j (y + 1) D u (by clear e1; omega) (by clear e1; omega) u1 sb st hg hA
      refine ⟨D', ?_, r2, r3⟩
      rw [← r1, b_X5_goOn_74]
      simp only [z_cd, i10, i11, dnn, rdU, eW, eU, tzC_w, w_shp, w_ptr, Nat.beq_refl, nbz, nb133, nb75, nb55, nb67, n133a, n133b, n75a, n75b, aT, aR, oT, oR, oF, oG, kT, kF, bI, bL, bR, b0, Classical.not_not, not_true_eq_false, not_false_eq_true, and_self, and_true, true_and, ↓reduceIte, decide_true, decide_false, Nat.reduceEqDiff, Nat.reduceLT, Nat.reduceLeDiff, Int.reduceEq, c, p_hasBit_n _ _ q, e1]
set_option maxRecDepth 100000 in
set_option maxHeartbeats 1000000 in
theorem go_all (L n : Nat) (B : Nat → Int → Int) (T : Int) (N : Nat) (wo : WO B) (T0 : 0 ≤ T) (T1 : T ≤ 9000000) (hT : B 30 6 = T) (hw : ∀ k : Int, 0 ≤ k → k < 8 → 0 ≤ B 38 k ∧ B 38 k ≤ 100) : ∀ (f d : Nat), f ≤ 6 → GOo d L n f B T N
  | 0, d, _ => by
    intro p S a t s g D u pf pg hN s0 s1 su u1 sb st hg
    by_cases z : S = 0
    · subst z
      exact go_leaf (d + 3) L n 0 B T N p a t s g D u (by omega) hN su hg rfl
    · refine ⟨D, ?_, Sm_r _ _, ?_⟩
      · have c : ¬ (p : Int) < 6 := by omega
        rw [dn_X5_goOn, b_X5_goOn_0]
        simp only [z_cd, i10, i11, dnn, rdU, eW, eU, tzC_w, w_shp, w_ptr, Nat.beq_refl, nbz, nb133, nb75, nb55, nb67, n133a, n133b, n75a, n75b, aT, aR, oT, oR, oF, oG, kT, kF, bI, bL, bR, b0, Classical.not_not, not_true_eq_false, not_false_eq_true, and_self, and_true, true_and, ↓reduceIte, decide_true, decide_false, Nat.reduceEqDiff, Nat.reduceLT, Nat.reduceLeDiff, Int.reduceEq, z, c]
      · have e : ordq 0 S = [] := if_neg z
        rw [e]
        exact st
  | f + 1, d, hf => by
    intro p S a t s g D u pf pg hN s0 s1 su u1 sb st hg
    by_cases z : S = 0
    · subst z
      have e : ordq (f + 1) 0 = [[]] := if_pos rfl
      exact go_leaf (d + 3 * (f + 1) + 3) L n (f + 1) B T N p a t s g D u (by omega) hN su hg e
    · have e : ordq (f + 1) S = ordb (ordq f) S 8 0 := if_neg z
      rw [e]
      obtain ⟨x1, x2⟩ := w_31 L n (show p < 6 by omega)
      obtain ⟨⟨S0, S1⟩, ⟨a0, a1⟩, t0, t1⟩ := pg.1
      have c : (p : Int) < 6 := by omega
      have hp6 : tqib (p : Int) 6 = true := tqib_y (by omega) (by omega)
      have wyD : WY D := WY_fr (fun b j h => sb b j (by unfold PLo; omega)) wo.1
      have hdD : ∀ y : Int, 0 ≤ y → y < 8 → D 88 (9 * y) = 0 := fun y y0 y1 => (sb 88 _ (by unfold PLo; omega)).trans (wo.2.1 y y0 y1)
      obtain ⟨D1, v1, v2, v3⟩ := p_reach (d + 3 * f + 3) L n (32 + p) D x2 (by unfold oka; omega) (bt := 0) (Or.inl rfl) a0 a1 (show 0 ≤ t by omega) (show t ≤ 10000000 by omega) wyD hdD
      have eE : ∀ k : Int, erq D 0 a t k = erq B 0 a t k := fun k => er_fr (fun b j b0 b1 => sb b j (by unfold PLo; omega)) 0 a t k
      have hA : ∀ k : Int, 0 ≤ k → k < 8 → D1 (32 + p) k = erq B 0 a t k := fun k k0 k1 => (v3 k k0 k1).trans (eE k)
      have sv : Sm (PLo p) D D1 := fun b j h => v2 b j (by unfold PLo at h; omega)
      have sv0 : Sm (PLo 0) D D1 := fun b j h => v2 b j (by unfold PLo at h; omega)
      have sb1 : Sm (PLo 0) B D1 := Sm_t sb sv0
      have st1 : StL N D1 u := ⟨(v2 30 5 (by omega)).trans st.1, fun k k0 k1 => (v2 40 k (by omega)).trans (st.2 k k0 k1)⟩
      have hg1 : ∀ k : Int, 0 ≤ k → k < p → D1 39 k = g k := fun k k0 k1 => (v2 39 k (by omega)).trans (hg k k0 k1)
      have g305 : D1 30 5 = u.1 := st1.1
      have sr := p_str5 (d + 3 * f + 4) L n (32 + p) D1 (x2 D1) S (B 38) (erq B 0 a t) T ((sb1 30 6 (by unfold PLo; omega)).trans hT) (fun k k0 k1 => sb1 38 k (by unfold PLo; omega)) hA (fun k k0 k1 q => ⟨hw k k0 k1, (PG_b wo T0 T1 hf pg k0 k1 q).2⟩) 8 0 0 (by omega) (by omega) (by omega) (by omega)
      rw [tlk_8, Int.zero_add] at sr
      have hb : ∀ k : Int, 0 ≤ k → k < 8 → 0 ≤ bgq S (fun k => B 38 k * (erq B 0 a t k - T)) k ∧ bgq S (fun k => B 38 k * (erq B 0 a t k - T)) k ≤ 12000000 := fun k k0 k1 => by
        unfold bgq
        by_cases q : hbq S k
        · rw [if_pos q]
          have h := PG_b wo T0 T1 hf pg k0 k1 q
          exact mulk (hw k k0 k1).1 (hw k k0 k1).2 h.2.1 h.2.2
        · rw [if_neg q]; omega
      have sm : 0 ≤ smk S (fun k => B 38 k * (erq B 0 a t k - T)) ∧ smk S (fun k => B 38 k * (erq B 0 a t k - T)) ≤ 96000000 := by
        have h0 := hb 0 (by omega) (by omega)
        have h1 := hb 1 (by omega) (by omega)
        have h2 := hb 2 (by omega) (by omega)
        have h3 := hb 3 (by omega) (by omega)
        have h4 := hb 4 (by omega) (by omega)
        have h5 := hb 5 (by omega) (by omega)
        have h6 := hb 6 (by omega) (by omega)
        have h7 := hb 7 (by omega) (by omega)
        unfold smk
        omega
      have ws : w32 (s + smk S (fun k => B 38 k * (erq B 0 a t k - T))) = s + smk S (fun k => B 38 k * (erq B 0 a t k - T)) := w32_i (by omega) (by omega)
      by_cases lt : s + smk S (fun k => B 38 k * (erq B 0 a t k - T)) < u.1
      · obtain ⟨D', r1, r2, r3⟩ := go_74 (d + 2) L n f B T N (go_all L n B T N wo T0 T1 hT hw f (d + 2) (by clear ws; omega)) wo T0 T1 hT hw pf pg hN s0 s1 g 8 0 D1 u (by clear ws; omega) (by clear ws; omega) u1 sb1 st1 hg1 hA
        refine ⟨D', ?_, Sm_t sv r2, r3⟩
        rw [show d + 2 + 3 * f + 5 = (d + 3 * f + 6) + 1 by clear ws; omega] at r1
        rw [dn_X5_goOn, show d + 3 * (f + 1) + 4 = (d + 3 * f + 6) + 1 by clear ws; omega, b_X5_goOn_0, ← r1]
        simp only [z_cd, i10, i11, dnn, rdU, eW, eU, tzC_w, w_shp, w_ptr, Nat.beq_refl, nbz, nb133, nb75, nb55, nb67, n133a, n133b, n75a, n75b, aT, aR, oT, oR, oF, oG, kT, kF, bI, bL, bR, b0, Classical.not_not, not_true_eq_false, not_false_eq_true, and_self, and_true, true_and, ↓reduceIte, decide_true, decide_false, Nat.reduceEqDiff, Nat.reduceLT, Nat.reduceLeDiff, Int.reduceEq, z, c, x1, hp6, ble47, ble77, v1, dn_X5_straight, b_X5_straight_0, sr, g305, ws, lt]
      · rw [flo_no _ _ _ _ _ _ _ _ _ u (fun M hM => by
          have h := vlo_st (erq B 0) (B 38) T (fun k k0 k1 => (hw k k0 k1).1) (PGo B T) (fun f S a t y z p y0 y1 z0 z1 hy hz => PG_tri wo T0 T1 f S a t y z p y0 y1 z0 z1 hy hz) (fun f S a t y p y0 y1 hy => PG_stp wo T0 T1 f S a t y p y0 y1 hy) (f + 1) S a t s M S0 S1 pg (e ▸ hM)
          clear ws
          omega)]
        refine ⟨D1, ?_, sv, st1⟩
        rw [dn_X5_goOn, show d + 3 * (f + 1) + 4 = (d + 3 * f + 6) + 1 by clear ws; omega, b_X5_goOn_0]
        simp only [z_cd, i10, i11, dnn, rdU, eW, eU, tzC_w, w_shp, w_ptr, Nat.beq_refl, nbz, nb133, nb75, nb55, nb67, n133a, n133b, n75a, n75b, aT, aR, oT, oR, oF, oG, kT, kF, bI, bL, bR, b0, Classical.not_not, not_true_eq_false, not_false_eq_true, and_self, and_true, true_and, ↓reduceIte, decide_true, decide_false, Nat.reduceEqDiff, Nat.reduceLT, Nat.reduceLeDiff, Int.reduceEq, z, c, x1, hp6, ble47, ble77, v1, dn_X5_straight, b_X5_straight_0, sr, g305, ws, lt]
