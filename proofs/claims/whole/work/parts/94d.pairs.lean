/-! ===== pairs: the class's ends and the search over them ===== -/
noncomputable def enq (D : Nat → Int → Int) (H : Int → Int) (a b : Int) : Int := if (swL D (D 81 5) (D 105 a) (D 105 b) (H a) (H b) 8 0 (-9, 0, 0)).1 < 0 then 2147483647 else (swL D (D 81 5) (D 105 a) (D 105 b) (H a) (H b) 8 0 (-9, 0, 0)).2.1
noncomputable def Epq (D : Nat → Int → Int) (H : Int → Int) (S a b : Int) : Int := if (hbq S a ∧ hbq S b) ∧ (0 ≤ a ∧ a < 6 ∧ 0 ≤ b ∧ b < 6) then enq D H a b else 2147483647
def PPu (b : Nat) (j : Int) : Prop := ¬ (24 ≤ b ∧ b ≤ 27) ∧ ¬ (b = 23 ∧ (j = 6 ∨ j = 7))
theorem PPu_v {D D' : Nat → Int → Int} (s : Sm PPu D D') : Sm PVq D D' := Sm_m (fun b j p => by unfold PVq at p; unfold PPu; omega) s
theorem ble54 : Nat.ble 1 5 = true := rfl
theorem ble58 : Nat.ble 5 8 = true := rfl
set_option maxRecDepth 100000 in
set_option maxHeartbeats 1000000 in
theorem p_37p (d L n A : Nat) (B : Nat → Int → Int) (hR : Rel B n) (hA : ∀ E : Nat → Int → Int, (tzW E L n).2.2.1 A = (1, 40)) (nA : 28 < A) (H : Int → Int) (hH : ∀ k : Int, 0 ≤ k → k < 6 → 0 ≤ H k ∧ H k ≤ 7) {S : Int} (S0 : 0 ≤ S) (S1 : S < 64) {a : Nat} (a6 : a < 6) : ∀ (j b : Nat) (D : Nat → Int → Int), b + j = a → Sm PPu B D → (∀ k : Int, 0 ≤ k → k < 6 → B A k = H k) →
    ∃ D', tqrun tqP (d + 5) tqc_X6_pairUp 37 [vR 23, vR 7, vI (B 81 5), vR 5, vR A, vI S, vI (a : Int), vI (b : Int)] [] (tzW D L n) = tqrun tqP (d + 5) tqc_X6_pairUp 12 [vR 23, vR 7, vI (B 81 5), vR 5, vR A, vI S, vI ((a + 1 : Nat) : Int), vU] [] (tzW D' L n) ∧ Sm PPu B D' ∧ ∀ x y : Int, 0 ≤ x → x < y → y < 6 → D' 27 (6 * x + y) = if y = a ∧ (b : Int) ≤ x ∧ (hbq S x ∧ hbq S a) then enq B H x a else D 27 (6 * x + y)
  | 0, b, D, bj, s, eh => by
    have c : (a : Int) ≤ (b : Int) := by omega
    refine ⟨D, ?_, s, fun x y x0 xy y1 => by rw [if_neg (by omega)]⟩
    have e1 := w32_s a (by omega)
    rw [b_X6_pairUp_37]
    simp only [z_cd, i10, i11, dnn, rdU, eW, eU, tzC_w, w_shp, w_ptr, Nat.beq_refl, nbz, nb133, nb75, nb55, nb67, n133a, n133b, n75a, n75b, aT, aR, oT, oR, oF, oG, kT, kF, bI, bL, bR, b0, Classical.not_not, not_true_eq_false, not_false_eq_true, and_self, and_true, true_and, ↓reduceIte, decide_true, decide_false, Nat.reduceEqDiff, Nat.reduceLT, Nat.reduceLeDiff, Int.reduceEq, c, e1]
  | j + 1, b, D, bj, s, eh => by
    have c : ¬ (a : Int) ≤ (b : Int) := by omega
    obtain ⟨hA', hL, hW, hN, ⟨c1, c2, c3⟩, hT, hD, hK, hB, hQ, hX, hM, hP, hS⟩ := id hR
    have kb := hK b (by omega)
    have ka := hK a a6
    by_cases q1 : hbq S (a : Int)
    · by_cases q2 : hbq S (b : Int)
      · have hb6 : tqib (b : Int) 6 = true := tqib_y (by omega) (by omega)
        have ha6 : tqib (a : Int) 6 = true := tqib_y (by omega) (by omega)
        have hb4 : tqib (b : Int) 40 = true := tqib_y (by omega) (by omega)
        have ha4 : tqib (a : Int) 40 = true := tqib_y (by omega) (by omega)
        have hi : tqib (6 * (b : Int) + a) 36 = true := tqib_y (by omega) (by omega)
        have sv := PPu_v s
        have yb : D (75 + b) 0 = B 105 b := (s (75 + b) 0 (by unfold PPu; omega)).trans kb.1
        have ya : D (75 + a) 0 = B 105 a := (s (75 + a) 0 (by unfold PPu; omega)).trans ka.1
        have Hb : D A b = H b := (s A b (by unfold PPu; omega)).trans (eh b (by omega) (by omega))
        have Ha : D A a = H a := (s A a (by unfold PPu; omega)).trans (eh a (by omega) (by omega))
        obtain ⟨E1, v, u1, u2, u3⟩ := p_meet d L n D (now := B 81 5) (ya := B 105 b) (yb := B 105 a) (hA := H b) (hB := H a) (Wy_sm sv (WY_of hW)) (Hd_sm sv (hd_of hW)) ⟨kb.2.2.2.2.2.1, kb.2.2.2.2.2.2.1⟩ ⟨ka.2.2.2.2.2.1, ka.2.2.2.2.2.2.1⟩ hN.2 (hH b (by omega) (by omega)) (hH a (by omega) (by omega))
        rw [swL_sm sv] at u3
        have e7 : E1 23 7 = enq B H b a := by
          unfold enq
          rcases u3 with ⟨w1, w2, w3, w4⟩ | ⟨w1, w2, w3, w4⟩
          · rw [if_pos (by omega)]; exact w3
          · rw [if_neg (by omega)]; exact w3
        have s2 : Sm PPu B (tzU E1 27 (6 * (b : Int) + a) (enq B H b a)) := Sm_U (by unfold PPu; omega) (Sm_t s (Sm_m (fun x y p => by unfold PPu at p; unfold PMt; omega) u2))
        obtain ⟨D', r1, r2, r3⟩ := p_37p d L n A B hR hA nA H hH S0 S1 a6 j (b + 1) (tzU E1 27 (6 * (b : Int) + a) (enq B H b a)) (by omega) s2 eh
        refine ⟨D', ?_, r2, fun x y x0 xy y1 => ?_⟩
        · have e1 := w32_s b (by omega)
          have e2 : w32 (w32 ((b : Int) * 6) + (a : Int)) = 6 * (b : Int) + a := by
            clear e1
            rw [w32_i (x := (b : Int) * 6) (by omega) (by omega), w32_i (by omega) (by omega)]; omega
          rw [← r1, b_X6_pairUp_37]
          simp only [z_cd, i10, i11, dnn, rdU, eW, eU, tzC_w, w_shp, w_ptr, Nat.beq_refl, nbz, nb133, nb75, nb55, nb67, n133a, n133b, n75a, n75b, aT, aR, oT, oR, oF, oG, kT, kF, bI, bL, bR, b0, Classical.not_not, not_true_eq_false, not_false_eq_true, and_self, and_true, true_and, ↓reduceIte, decide_true, decide_false, Nat.reduceEqDiff, Nat.reduceLT, Nat.reduceLeDiff, Int.reduceEq, c, p_hasBit_y _ _ q1, p_hasBit_y _ _ q2, ble45, ble57, hb6, ha6, w_trk D L n (show b < 6 by clear e1 e2; omega), w_trk D L n a6, w_tractor D L n (show b < 6 by clear e1 e2; omega), w_tractor D L n a6, hA, hb4, ha4, yb, ya, Hb, Ha, u1, e2, hi, e7, e1]
        · rw [r3 x y x0 xy y1]
          by_cases e : y = a ∧ x = b
          · rw [if_neg (by omega), if_pos ⟨e.1, by omega, by rw [e.2]; exact ⟨q2, q1⟩⟩, e.1, e.2, tzU_s]
          · rw [tzU_k _ _ _ _ (by omega), u2 27 _ (by unfold PMt; omega)]
            by_cases t : y = a ∧ ((b + 1 : Nat) : Int) ≤ x ∧ (hbq S x ∧ hbq S a)
            · rw [if_pos t, if_pos ⟨t.1, by omega, t.2.2⟩]
            · rw [if_neg t, if_neg (fun u => t ⟨u.1, by have := u.1; have := u.2.1; omega, u.2.2⟩)]
      · obtain ⟨D', r1, r2, r3⟩ := p_37p d L n A B hR hA nA H hH S0 S1 a6 j (b + 1) D (by omega) s eh
        refine ⟨D', ?_, r2, fun x y x0 xy y1 => ?_⟩
        · have e1 := w32_s b (by omega)
          rw [← r1, b_X6_pairUp_37]
          simp only [z_cd, i10, i11, dnn, rdU, eW, eU, tzC_w, w_shp, w_ptr, Nat.beq_refl, nbz, nb133, nb75, nb55, nb67, n133a, n133b, n75a, n75b, aT, aR, oT, oR, oF, oG, kT, kF, bI, bL, bR, b0, Classical.not_not, not_true_eq_false, not_false_eq_true, and_self, and_true, true_and, ↓reduceIte, decide_true, decide_false, Nat.reduceEqDiff, Nat.reduceLT, Nat.reduceLeDiff, Int.reduceEq, c, p_hasBit_y _ _ q1, p_hasBit_n _ _ q2, e1]
        · rw [r3 x y x0 xy y1]
          by_cases t : y = a ∧ ((b + 1 : Nat) : Int) ≤ x ∧ (hbq S x ∧ hbq S a)
          · rw [if_pos t, if_pos ⟨t.1, by omega, t.2.2⟩]
          · rw [if_neg t, if_neg (fun u => t ⟨u.1, by
              have : x ≠ b := fun e => q2 (e ▸ u.2.2.1)
              have := u.2.1
              omega, u.2.2⟩)]
    · obtain ⟨D', r1, r2, r3⟩ := p_37p d L n A B hR hA nA H hH S0 S1 a6 j (b + 1) D (by omega) s eh
      refine ⟨D', ?_, r2, fun x y x0 xy y1 => ?_⟩
      · have e1 := w32_s b (by omega)
        rw [← r1, b_X6_pairUp_37]
        simp only [z_cd, i10, i11, dnn, rdU, eW, eU, tzC_w, w_shp, w_ptr, Nat.beq_refl, nbz, nb133, nb75, nb55, nb67, n133a, n133b, n75a, n75b, aT, aR, oT, oR, oF, oG, kT, kF, bI, bL, bR, b0, Classical.not_not, not_true_eq_false, not_false_eq_true, and_self, and_true, true_and, ↓reduceIte, decide_true, decide_false, Nat.reduceEqDiff, Nat.reduceLT, Nat.reduceLeDiff, Int.reduceEq, c, p_hasBit_n _ _ q1, e1]
      · rw [r3 x y x0 xy y1, if_neg (fun t => q1 t.2.2.2), if_neg (fun t => q1 t.2.2.2)]
set_option maxRecDepth 100000 in
set_option maxHeartbeats 1000000 in
theorem p_12p (d L n A : Nat) (B : Nat → Int → Int) (hR : Rel B n) (hA : ∀ E : Nat → Int → Int, (tzW E L n).2.2.1 A = (1, 40)) (nA : 28 < A) (H : Int → Int) (hH : ∀ k : Int, 0 ≤ k → k < 6 → 0 ≤ H k ∧ H k ≤ 7) {S : Int} (S0 : 0 ≤ S) (S1 : S < 64) (eh : ∀ k : Int, 0 ≤ k → k < 6 → B A k = H k) : ∀ (j a : Nat) (D : Nat → Int → Int), a + j = 6 → Sm PPu B D → (∀ x y : Int, 0 ≤ x → x < y → y < 6 → D 27 (6 * x + y) = if y < a then Epq B H S x y else 2147483647) →
    ∃ D', tqrun tqP (d + 5) tqc_X6_pairUp 12 [vR 23, vR 7, vI (B 81 5), vR 5, vR A, vI S, vI (a : Int), vU] [] (tzW D L n) = tqrun tqP (d + 5) tqc_X6_pairUp 12 [vR 23, vR 7, vI (B 81 5), vR 5, vR A, vI S, vI 6, vU] [] (tzW D' L n) ∧ Sm PPu B D' ∧ EOk D' (Epq B H S)
  | 0, a, D, aj, s, ht => by
    have e : a = 6 := by omega
    subst e
    exact ⟨D, rfl, s, fun x y x0 xy y1 => by rw [ht x y x0 xy y1, if_pos (by omega)]⟩
  | j + 1, a, D, aj, s, ht => by
    obtain ⟨D1, r1, r2, r3⟩ := p_37p d L n A B hR hA nA H hH S0 S1 (a := a) (by omega) a 0 D (by omega) s eh
    obtain ⟨D', u1, u2, u3⟩ := p_12p d L n A B hR hA nA H hH S0 S1 eh j (a + 1) D1 (by omega) r2 (fun x y x0 xy y1 => by
      rw [r3 x y x0 xy y1]
      by_cases e : y = a
      · rw [if_pos (show y < ((a + 1 : Nat) : Int) by omega)]
        unfold Epq
        by_cases h : hbq S x ∧ hbq S y
        · rw [if_pos (show (hbq S x ∧ hbq S y) ∧ (0 ≤ x ∧ x < 6 ∧ 0 ≤ y ∧ y < 6) from ⟨h, by omega⟩), if_pos ⟨e, by omega, by rw [← e]; exact h⟩, e]
        · rw [if_neg (show ¬ ((hbq S x ∧ hbq S y) ∧ (0 ≤ x ∧ x < 6 ∧ 0 ≤ y ∧ y < 6)) from fun t => h t.1), if_neg (show ¬ (y = a ∧ ((0 : Nat) : Int) ≤ x ∧ (hbq S x ∧ hbq S a)) from fun t => h (by rw [e]; exact t.2.2)), ht x y x0 xy y1, if_neg (show ¬ y < (a : Int) by omega)]
      · rw [if_neg (fun t => e t.1), ht x y x0 xy y1]
        by_cases l : y < (a : Int)
        · rw [if_pos l, if_pos (by omega)]
        · rw [if_neg l, if_neg (by omega)])
    refine ⟨D', ?_, u2, u3⟩
    have c1 : ¬ ((6 : Nat) : Int) ≤ (a : Int) := by omega
    have c2 : ¬ (6 : Int) ≤ (a : Int) := by omega
    have c3 : ¬ ((40 : Nat) : Int) ≤ (a : Int) := by omega
    have z0 : ((0 : Nat) : Int) = 0 := rfl
    rw [z0] at r1
    rw [← u1, ← r1, b_X6_pairUp_12]
    simp only [z_cd, i10, i11, dnn, rdU, eW, eU, tzC_w, w_shp, w_ptr, Nat.beq_refl, nbz, nb133, nb75, nb55, nb67, n133a, n133b, n75a, n75b, aT, aR, oT, oR, oF, oG, kT, kF, bI, bL, bR, b0, Classical.not_not, not_true_eq_false, not_false_eq_true, and_self, and_true, true_and, ↓reduceIte, decide_true, decide_false, Nat.reduceEqDiff, Nat.reduceLT, Nat.reduceLeDiff, Int.reduceEq, ble54, ble58, c1, c2, hA, ble11, ble18, c3]
def PPx (b : Nat) (j : Int) : Prop := ¬ (24 ≤ b ∧ b ≤ 29) ∧ ¬ (b = 23 ∧ (6 ≤ j ∧ j ≤ 8))
set_option maxRecDepth 100000 in
set_option maxHeartbeats 1000000 in
theorem p_pairUp (d L n A : Nat) (B : Nat → Int → Int) (hR : Rel B n) (hA : ∀ E : Nat → Int → Int, (tzW E L n).2.2.1 A = (1, 40)) (nA : 29 < A) (H : Int → Int) (hH : ∀ k : Int, 0 ≤ k → k < 6 → 0 ≤ H k ∧ H k ≤ 7) {S : Int} (S0 : 0 ≤ S) (S1 : S < 64) (eh : ∀ k : Int, 0 ≤ k → k < 6 → B A k = H k) :
    ∃ D', tqden tqP (d + 13) n_X6_pairUp [vR 23, vR 7, vI (B 81 5), vR 5, vR A, vI S] (tzW B L n) = some (some (vI (flq (Epq B H S) 0 (fun _ => -9) (pmq 3 S) (2147483647, B 29)).1), tzW D' L n) ∧ Sm PPx B D' ∧ ∀ k : Int, 0 ≤ k → k < 6 → D' 29 k = (flq (Epq B H S) 0 (fun _ => -9) (pmq 3 S) (2147483647, B 29)).2 k := by
  have f1 := s_fill (d + 11) B L n 27 36 2147483647 (by decide) (fun _ => rfl)
  have s0 : Sm PPu B (tzF B 27 0 ((36 : Nat) : Int) 2147483647) := Sm_F (fun k _ _ => by unfold PPu; omega) (Sm_r _ _)
  obtain ⟨D1, r1, r2, r3⟩ := p_12p (d + 8) L n A B hR hA (by omega) H hH S0 S1 eh 6 0 (tzF B 27 0 ((36 : Nat) : Int) 2147483647) (by omega) s0 (fun x y x0 xy y1 => by
    rw [if_neg (by omega)]
    exact tzF_i (by omega) (by omega))
  have f2 := s_fill (d + 11) D1 L n 28 6 (-9) (by decide) (fun _ => rfl)
  obtain ⟨D2, h2⟩ : ∃ D2, D2 = tzU (tzF D1 28 0 ((6 : Nat) : Int) (-9)) 23 8 2147483647 := ⟨_, rfl⟩
  have rd : ∀ (b : Nat) (j : Int), b ≠ 28 → ¬ (b = 23 ∧ j = 8) → D2 b j = D1 b j := fun b j p q => by
    rw [h2]
    by_cases e : b = 23
    · rw [tzU_k _ _ _ _ (fun h => q ⟨e, h⟩)]
      unfold tzF
      rw [if_neg p]
    · rw [tzU_o _ _ _ _ e]
      unfold tzF
      rw [if_neg p]
  obtain ⟨D3, u1, u2, u3, u4⟩ := po_all d L n (Epq B H S) 3 (by omega) S 0 (fun _ => -9) D2 (2147483647, B 29) S0 S1 (fun x y x0 xy y1 => (rd 27 _ (by decide) (by omega)).trans (r3 x y x0 xy y1)) ⟨by rw [h2, tzU_s], fun k k0 k1 => (rd 29 k (by decide) (by omega)).trans (r2 29 k (by unfold PPu; omega))⟩ (show (0 : Int) < 2147483647 by decide) (fun k k0 k1 _ => by
    rw [h2, tzU_o _ _ _ _ (by decide)]
    exact tzF_i k0 (by omega))
  refine ⟨D3, ?_, ?_, u3.2⟩
  · have c1 : ((6 : Nat) : Int) ≤ (6 : Int) := by decide
    have z0 : ((0 : Nat) : Int) = 0 := rfl
    have z3 : (3 - ((3 : Nat) : Int)) = 0 := by decide
    have w8 := u3.1
    rw [z0] at r1
    rw [z3, h2] at u1
    rw [dn_X6_pairUp, b_X6_pairUp_0]
    simp only [z_cd, i10, i11, dnn, rdU, eW, eU, tzC_w, w_shp, w_ptr, Nat.beq_refl, nbz, nb133, nb75, nb55, nb67, n133a, n133b, n75a, n75b, aT, aR, oT, oR, oF, oG, kT, kF, bI, bL, bR, b0, Classical.not_not, not_true_eq_false, not_false_eq_true, and_self, and_true, true_and, ↓reduceIte, decide_true, decide_false, Nat.reduceEqDiff, Nat.reduceLT, Nat.reduceLeDiff, Int.reduceEq, f1]
    rw [show d + 12 + 1 = d + 8 + 5 by omega, r1, b_X6_pairUp_12]
    simp only [z_cd, i10, i11, dnn, rdU, eW, eU, tzC_w, w_shp, w_ptr, Nat.beq_refl, nbz, nb133, nb75, nb55, nb67, n133a, n133b, n75a, n75b, aT, aR, oT, oR, oF, oG, kT, kF, bI, bL, bR, b0, Classical.not_not, not_true_eq_false, not_false_eq_true, and_self, and_true, true_and, ↓reduceIte, decide_true, decide_false, Nat.reduceEqDiff, Nat.reduceLT, Nat.reduceLeDiff, Int.reduceEq, ble54, ble58, c1, f2]
    rw [show d + 8 + 4 = d + 3 * 3 + 3 by omega, u1]
    simp only [z_cd, i10, i11, dnn, rdU, eW, eU, tzC_w, w_shp, w_ptr, Nat.beq_refl, nbz, nb133, nb75, nb55, nb67, n133a, n133b, n75a, n75b, aT, aR, oT, oR, oF, oG, kT, kF, bI, bL, bR, b0, Classical.not_not, not_true_eq_false, not_false_eq_true, and_self, and_true, true_and, ↓reduceIte, decide_true, decide_false, Nat.reduceEqDiff, Nat.reduceLT, Nat.reduceLeDiff, Int.reduceEq, w8]
  · intro b j p
    unfold PPx at p
    rw [u2 b j (by unfold PPo; omega), rd b j (by omega) (by omega)]
    exact r2 b j (by unfold PPu; omega)
