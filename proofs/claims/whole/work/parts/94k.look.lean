/-! ===== look: the class's order and the places above nought ===== -/
set_option maxRecDepth 100000 in
set_option maxHeartbeats 1000000 in
theorem p_pan4 (d L n : Nat) (D : Nat → Int → Int) {k : Nat} (hk : k < 6) (h8 : D (55 + 2 * k) 1 = 8) : ∀ (j : Nat) (y M : Int), 0 ≤ y → y + j = 8 → 0 ≤ M → M < 256 → (∀ z : Int, 0 ≤ z → z < 8 → (hbq M z ↔ (z < y ∧ 0 < D (56 + 2 * k) z))) →
    ∃ R, tqrun tqP (d + 1) tqc_X2_placesAboveNought 4 [vR (55 + 2 * k), vI M, vI y] [] (tzW D L n) = some (some (vI R), tzW D L n) ∧ (0 ≤ R ∧ R < 256) ∧ ∀ z : Int, 0 ≤ z → z < 8 → (hbq R z ↔ 0 < D (56 + 2 * k) z)
  | 0, y, M, y0, yj, M0, M1, h => by
    have c : 8 ≤ y := by omega
    obtain ⟨q1, q2, q3⟩ := w_row D L n hk
    refine ⟨M, ?_, ⟨M0, M1⟩, fun z z0 z1 => (h z z0 z1).trans ⟨fun t => t.2, fun t => ⟨by omega, t⟩⟩⟩
    rw [b_X2_placesAboveNought_4]
    simp only [z_cd, i10, i11, dnn, rdU, eW, eU, tzC_w, w_shp, w_ptr, Nat.beq_refl, nbz, nb133, nb75, nb55, nb67, n133a, n133b, n75a, n75b, aT, aR, oT, oR, oF, oG, kT, kF, bI, bL, bR, b0, Classical.not_not, not_true_eq_false, not_false_eq_true, and_self, and_true, true_and, ↓reduceIte, decide_true, decide_false, Nat.reduceEqDiff, Nat.reduceLT, Nat.reduceLeDiff, Int.reduceEq, q1, h8, c]
  | j + 1, y, M, y0, yj, M0, M1, h => by
    have c : ¬ 8 ≤ y := by omega
    have y1 : y < 8 := by omega
    have hy : tqib y 40 = true := tqib_y (by omega) (by omega)
    obtain ⟨q1, q2, q3⟩ := w_row D L n hk
    have e1 := w1z y0 (by omega)
    by_cases q : D (56 + 2 * k) y ≤ 0
    · obtain ⟨R, r1, r2, r3⟩ := p_pan4 d L n D hk h8 j (y + 1) M (by clear e1; omega) (by clear e1; omega) M0 M1 (fun z z0 z1 => (h z z0 z1).trans ⟨fun t => ⟨by clear e1; omega, t.2⟩, fun t => ⟨by
          by_cases e : z = y
          · rw [e] at t; clear e1; omega
          · clear e1; omega, t.2⟩⟩)
      refine ⟨R, ?_, r2, r3⟩
      rw [← r1, b_X2_placesAboveNought_4]
      simp only [z_cd, i10, i11, dnn, rdU, eW, eU, tzC_w, w_shp, w_ptr, Nat.beq_refl, nbz, nb133, nb75, nb55, nb67, n133a, n133b, n75a, n75b, aT, aR, oT, oR, oF, oG, kT, kF, bI, bL, bR, b0, Classical.not_not, not_true_eq_false, not_false_eq_true, and_self, and_true, true_and, ↓reduceIte, decide_true, decide_false, Nat.reduceEqDiff, Nat.reduceLT, Nat.reduceLeDiff, Int.reduceEq, q1, q2, q3, h8, c, hy, q, e1]
    · have br := hb_r M0 M1 y0 y1
      obtain ⟨R, r1, r2, r3⟩ := p_pan4 d L n D hk h8 j (y + 1) (jor M (jshl 1 y)) (by clear e1; omega) (by clear e1; omega) br.1 br.2.1 (fun z z0 z1 => (hb_s M0 M1 y0 y1 z0 z1).trans ⟨fun t => by
          rcases t with t | t
          · rw [t]; exact ⟨by clear e1; omega, by clear e1; omega⟩
          · have := (h z z0 z1).mp t
            exact ⟨by clear e1; omega, this.2⟩, fun t => by
          by_cases e : z = y
          · exact Or.inl e
          · exact Or.inr ((h z z0 z1).mpr ⟨by clear e1; omega, t.2⟩)⟩)
      refine ⟨R, ?_, r2, r3⟩
      rw [← r1, b_X2_placesAboveNought_4]
      simp only [z_cd, i10, i11, dnn, rdU, eW, eU, tzC_w, w_shp, w_ptr, Nat.beq_refl, nbz, nb133, nb75, nb55, nb67, n133a, n133b, n75a, n75b, aT, aR, oT, oR, oF, oG, kT, kF, bI, bL, bR, b0, Classical.not_not, not_true_eq_false, not_false_eq_true, and_self, and_true, true_and, ↓reduceIte, decide_true, decide_false, Nat.reduceEqDiff, Nat.reduceLT, Nat.reduceLeDiff, Int.reduceEq, q1, q2, q3, h8, c, hy, q, e1]
theorem p_pan (d L n : Nat) (D : Nat → Int → Int) {k : Nat} (hk : k < 6) (h8 : D (55 + 2 * k) 1 = 8) : ∃ R, tqden tqP (d + 1) n_X2_placesAboveNought [vR (55 + 2 * k)] (tzW D L n) = some (some (vI R), tzW D L n) ∧ (0 ≤ R ∧ R < 256) ∧ ∀ z : Int, 0 ≤ z → z < 8 → (hbq R z ↔ 0 < D (56 + 2 * k) z) := by
  obtain ⟨R, r1, r2, r3⟩ := p_pan4 d L n D hk h8 8 0 0 (by omega) (by omega) (by omega) (by omega) (fun z z0 z1 => ⟨fun t => absurd t (hb_0 z0 z1), fun t => by omega⟩)
  refine ⟨R, ?_, r2, r3⟩
  rw [dn_X2_placesAboveNought, b_X2_placesAboveNought_0, r1]
theorem tib06 : tqib 0 6 = true := rfl
set_option maxRecDepth 100000 in
set_option maxHeartbeats 1000000 in
theorem p_o16 (d L n A : Nat) (hs : ∀ D, (tzW D L n).2.2.1 A = (1, 40)) (a38 : A ≠ 38) (now yd S : Int) : ∀ (j : Nat) (y : Int) (D : Nat → Int → Int), 0 ≤ y → y + j = 8 → (∀ z : Int, 0 ≤ z → z < y → D 38 z = D A z) →
    ∃ D', Ofq 38 D D' ∧ (((∃ z : Int, y ≤ z ∧ z < 8 ∧ hbq S z ∧ D 32 z = 2147483647) ∧ tqrun tqP (d + 2) tqc_X5_order 16 [vR 30, vR 7, vI now, vI yd, vI S, vR A, vI y] [] (tzW D L n) = some (some (vI 0), tzW D' L n)) ∨ ((∀ z : Int, y ≤ z → z < 8 → hbq S z → D 32 z ≠ 2147483647) ∧ tqrun tqP (d + 2) tqc_X5_order 16 [vR 30, vR 7, vI now, vI yd, vI S, vR A, vI y] [] (tzW D L n) = tqrun tqP (d + 2) tqc_X5_order 75 [vR 30, vR 7, vI now, vI yd, vI S, vR A, vI 8] [] (tzW D' L n) ∧ ∀ z : Int, 0 ≤ z → z < 8 → D' 38 z = D A z))
  | 0, y, D, y0, yj, h => by
    have c : 8 ≤ y := by omega
    have ey : y = 8 := by omega
    refine ⟨D, Ofq_r _ _, Or.inr ⟨fun z a b => by omega, ?_, fun z z0 z1 => h z z0 (by omega)⟩⟩
    rw [b_X5_order_16]
    simp only [z_cd, i10, i11, dnn, rdU, eW, eU, tzC_w, w_shp, w_ptr, Nat.beq_refl, nbz, nb133, nb75, nb55, nb67, n133a, n133b, n75a, n75b, aT, aR, oT, oR, oF, oG, kT, kF, bI, bL, bR, b0, Classical.not_not, not_true_eq_false, not_false_eq_true, and_self, and_true, true_and, ↓reduceIte, decide_true, decide_false, Nat.reduceEqDiff, Nat.reduceLT, Nat.reduceLeDiff, Int.reduceEq, c]
    rw [ey]
  | j + 1, y, D, y0, yj, h => by
    have c : ¬ 8 ≤ y := by omega
    have c2 : ¬ ((40 : Nat) : Int) ≤ y := by omega
    have hy : tqib y 8 = true := tqib_y (by omega) (by omega)
    have hy4 : tqib y 40 = true := tqib_y (by omega) (by omega)
    have e1 := w1z y0 (by omega)
    by_cases bad : hbq S y ∧ D 32 y = 2147483647
    · refine ⟨D, Ofq_r _ _, Or.inl ⟨⟨y, by clear e1; omega, by clear e1; omega, bad.1, bad.2⟩, ?_⟩⟩
      have b2 := bad.2
      rw [b_X5_order_16]
      simp only [z_cd, i10, i11, dnn, rdU, eW, eU, tzC_w, w_shp, w_ptr, Nat.beq_refl, nbz, nb133, nb75, nb55, nb67, n133a, n133b, n75a, n75b, aT, aR, oT, oR, oF, oG, kT, kF, bI, bL, bR, b0, Classical.not_not, not_true_eq_false, not_false_eq_true, and_self, and_true, true_and, ↓reduceIte, decide_true, decide_false, Nat.reduceEqDiff, Nat.reduceLT, Nat.reduceLeDiff, Int.reduceEq, c, c2, hs, ble11, ble18, ble47, ble77, tib06, p_hasBit_y _ _ bad.1, hy, hy4, b2]
    · have oD : ∀ (b : Nat) (k : Int), b ≠ 38 → tzU D 38 y (D A y) b k = D b k := fun b k q => tzU_o _ _ _ _ q
      obtain ⟨D', r1, r2⟩ := p_o16 d L n A hs a38 now yd S j (y + 1) (tzU D 38 y (D A y)) (by clear e1; omega) (by clear e1; omega) (fun z z0 z1 => by
        rw [oD A z a38]
        by_cases e : z = y
        · rw [e, tzU_s]
        · rw [tzU_k _ _ _ _ e]; exact h z z0 (by clear e1; omega))
      have step : tqrun tqP (d + 2) tqc_X5_order 16 [vR 30, vR 7, vI now, vI yd, vI S, vR A, vI y] [] (tzW D L n) = tqrun tqP (d + 2) tqc_X5_order 16 [vR 30, vR 7, vI now, vI yd, vI S, vR A, vI (y + 1)] [] (tzW (tzU D 38 y (D A y)) L n) := by
        rw [b_X5_order_16]
        by_cases q : hbq S y
        · have b2 : ¬ D 32 y = 2147483647 := fun t => bad ⟨q, t⟩
          simp only [z_cd, i10, i11, dnn, rdU, eW, eU, tzC_w, w_shp, w_ptr, Nat.beq_refl, nbz, nb133, nb75, nb55, nb67, n133a, n133b, n75a, n75b, aT, aR, oT, oR, oF, oG, kT, kF, bI, bL, bR, b0, Classical.not_not, not_true_eq_false, not_false_eq_true, and_self, and_true, true_and, ↓reduceIte, decide_true, decide_false, Nat.reduceEqDiff, Nat.reduceLT, Nat.reduceLeDiff, Int.reduceEq, c, c2, hs, ble11, ble18, ble47, ble77, tib06, p_hasBit_y _ _ q, hy, hy4, b2, e1]
        · simp only [z_cd, i10, i11, dnn, rdU, eW, eU, tzC_w, w_shp, w_ptr, Nat.beq_refl, nbz, nb133, nb75, nb55, nb67, n133a, n133b, n75a, n75b, aT, aR, oT, oR, oF, oG, kT, kF, bI, bL, bR, b0, Classical.not_not, not_true_eq_false, not_false_eq_true, and_self, and_true, true_and, ↓reduceIte, decide_true, decide_false, Nat.reduceEqDiff, Nat.reduceLT, Nat.reduceLeDiff, Int.reduceEq, c, c2, hs, ble11, ble18, ble47, ble77, p_hasBit_n _ _ q, hy, hy4, e1]
      refine ⟨D', fun b k q => (r1 b k q).trans (oD b k q), ?_⟩
      rcases r2 with ⟨⟨z, z0, z1, z2, z3⟩, r3⟩ | ⟨r3, r4, r5⟩
      · rw [oD 32 z (by decide)] at z3
        exact Or.inl ⟨⟨z, by clear e1; omega, z1, z2, z3⟩, step.trans r3⟩
      · refine Or.inr ⟨fun z z0 z1 z2 => ?_, step.trans r4, fun z z0 z1 => (r5 z z0 z1).trans (oD A z a38)⟩
        by_cases e : z = y
        · rw [e] at z2 ⊢; exact fun t => bad ⟨z2, t⟩
        · have := r3 z (by clear e1; omega) z1 z2
          rw [oD 32 z (by decide)] at this
          exact this
def PLx (b : Nat) (j : Int) : Prop := ¬ (32 ≤ b ∧ b ≤ 40) ∧ ¬ (b = 30 ∧ (4 ≤ j ∧ j ≤ 6))
set_option maxRecDepth 100000 in
set_option maxHeartbeats 1000000 in
theorem p_order (d L n A : Nat) (D : Nat → Int → Int) (hs : ∀ D, (tzW D L n).2.2.1 A = (1, 40)) (hA : 41 ≤ A) (wo : WO D) {now yd S : Int} (n0 : 0 ≤ now) (n1 : now ≤ 9000000) (y0 : 0 ≤ yd) (y1 : yd < 8) (S0 : 0 ≤ S) (S1 : S < 256) (hw : ∀ k : Int, 0 ≤ k → k < 8 → 0 ≤ D A k ∧ D A k ≤ 100) :
    ∃ D', Sm PLx D D' ∧ (((∃ z : Int, 0 ≤ z ∧ z < 8 ∧ hbq S z ∧ erq D 0 yd now z = 2147483647) ∧ (∀ j : Int, j ≠ 5 → j ≠ 6 → D' 30 j = D 30 j) ∧ (∀ j : Int, D' 40 j = D 40 j) ∧ tqden tqP (d + 24) n_X5_order [vR 30, vR 7, vI now, vI yd, vI S, vR A] (tzW D L n) = some (some (vI 0), tzW D' L n)) ∨
      ((∀ z : Int, 0 ≤ z → z < 8 → hbq S z → erq D 0 yd now z < 2147483647) ∧ tqden tqP (d + 24) n_X5_order [vR 30, vR 7, vI now, vI yd, vI S, vR A] (tzW D L n) = some (some (vI 1), tzW D' L n) ∧ D' 30 4 = bcq S ∧ ∃ W : Int → Int, (∀ k : Int, 0 ≤ k → k < 8 → W k = D A k) ∧ StL (8 - un S) D' (flo (erq D 0) W now yd now 0 (fun _ => 0) 0 (ordq 6 S) (2147483647, D 40)))) := by
  obtain ⟨wy, hd, sy⟩ := id wo
  obtain ⟨D1, v1, v2, v3⟩ := p_reach (d + 20) L n 32 D (fun _ => rfl) (by unfold oka; omega) (bt := 0) (Or.inl rfl) y0 y1 n0 (show now ≤ 10000000 by omega) wy hd
  obtain ⟨D2, o1, o2⟩ := p_o16 (d + 22) L n A hs (by omega) now yd S 8 0 D1 (by omega) (by omega) (fun z z0 z1 => by omega)
  have s2 : ∀ (b : Nat) (j : Int), b ≠ 32 → b ≠ 38 → D2 b j = D b j := fun b j p q => (o1 b j q).trans (v2 b j p)
  have st0 : tqden tqP (d + 24) n_X5_order [vR 30, vR 7, vI now, vI yd, vI S, vR A] (tzW D L n) = tqrun tqP (d + 22 + 2) tqc_X5_order 16 [vR 30, vR 7, vI now, vI yd, vI S, vR A, vI 0] [] (tzW D1 L n) := by
    rw [dn_X5_order, b_X5_order_0]
    simp only [z_cd, i10, i11, dnn, rdU, eW, eU, tzC_w, w_shp, w_ptr, Nat.beq_refl, nbz, nb133, nb75, nb55, nb67, n133a, n133b, n75a, n75b, aT, aR, oT, oR, oF, oG, kT, kF, bI, bL, bR, b0, Classical.not_not, not_true_eq_false, not_false_eq_true, and_self, and_true, true_and, ↓reduceIte, decide_true, decide_false, Nat.reduceEqDiff, Nat.reduceLT, Nat.reduceLeDiff, Int.reduceEq, ble47, ble77, show tqib 0 6 = true from rfl, v1]
  rcases o2 with ⟨⟨z, z0, z1, z2, z3⟩, o3⟩ | ⟨o3, o4, o5⟩
  · rw [v3 z z0 z1] at z3
    exact ⟨D2, fun b j p => s2 b j (by unfold PLx at p; omega) (by unfold PLx at p; omega), Or.inl ⟨⟨z, z0, z1, z2, z3⟩, fun j _ _ => s2 30 j (by omega) (by omega), fun j => s2 40 j (by omega) (by omega), st0.trans o3⟩⟩
  · obtain ⟨B, hB⟩ : ∃ B, B = tzU (tzU (tzU D2 30 6 now) 30 4 (bcq S)) 30 5 2147483647 := ⟨_, rfl⟩
    have sB : ∀ (b : Nat) (j : Int), b ≠ 30 → B b j = D2 b j := fun b j p => by rw [hB, tzU_o _ _ _ _ p, tzU_o _ _ _ _ p, tzU_o _ _ _ _ p]
    have sW : ∀ (b : Nat) (j : Int), 88 ≤ b → b ≤ 91 → B b j = D b j := fun b j p q => (sB b j (by omega)).trans (s2 b j (by omega) (by omega))
    have eE : erq B 0 = erq D 0 := by
      funext a t y
      exact er_fr sW 0 a t y
    have woB : WO B := ⟨WY_fr (fun b j h => (sB b j (by omega)).trans (s2 b j (by omega) (by omega))) wy, fun y y0 y1 => (sW 88 _ (by omega) (by omega)).trans (hd y y0 y1), fun x y x0 x1 y0 y1 => by rw [sW 88 _ (by omega) (by omega), sW 88 _ (by omega) (by omega)]; exact sy x y x0 x1 y0 y1⟩
    have rc : ∀ z : Int, 0 ≤ z → z < 8 → hbq S z → erq D 0 yd now z < 2147483647 := fun z z0 z1 z2 => by
      have h := o3 z z0 z1 z2
      rw [v3 z z0 z1] at h
      have b := er_b wy z0 z1 (er_ok wy hd (bt := 0) (Or.inl rfl) y0 y1 n0 (show now ≤ 10000000 by omega) z0 z1)
      omega
    have B6 : B 30 6 = now := by rw [hB, tzU_k _ _ _ _ (by decide), tzU_k _ _ _ _ (by decide), tzU_s]
    have B4 : B 30 4 = bcq S := by rw [hB, tzU_k _ _ _ _ (by decide), tzU_s]
    have B5 : B 30 5 = 2147483647 := by rw [hB, tzU_s]
    have B38 : ∀ k : Int, 0 ≤ k → k < 8 → B 38 k = D A k := fun k k0 k1 => ((sB 38 k (by omega)).trans (o5 k k0 k1)).trans (v2 A k (by omega))
    have uS : un S ≤ 8 := by
      unfold un
      repeat' split
      all_goals omega
    obtain ⟨D', g1, g2, g3⟩ := go_all L n B now (8 - un S) woB n0 n1 B6 (fun k k0 k1 => by rw [B38 k k0 k1]; exact hw k k0 k1) 6 (d + 1) (by omega) 0 S yd now 0 (fun _ => 0) B (2147483647, D 40) (by omega) ⟨⟨⟨S0, S1⟩, ⟨y0, y1⟩, by omega, by omega⟩, fun k k0 k1 q => by rw [eE]; exact rc k k0 k1 q⟩ (by omega) (by omega) (by omega) (show (0 : Int) < 2147483647 by decide) (show (2147483647 : Int) ≤ 2147483647 by decide) (Sm_r _ _) ⟨B5, fun k k0 k1 => (sB 40 k (by omega)).trans (s2 40 k (by omega) (by omega))⟩ (fun k k0 k1 => by omega)
    refine ⟨D', fun b j p => (g2 b j (by unfold PLx at p; unfold PLo; omega)).trans ?_, Or.inr ⟨rc, (st0.trans o4).trans ?_, (g2 30 4 (by unfold PLo; omega)).trans B4, B 38, B38, ?_⟩⟩
    · unfold PLx at p
      by_cases e : b = 30
      · rw [e, hB, tzU_k _ _ _ _ (by omega), tzU_k _ _ _ _ (by omega), tzU_k _ _ _ _ (by omega)]
        exact s2 30 j (by omega) (by omega)
      · exact (sB b j e).trans (s2 b j (by omega) (by omega))
    · rw [hB] at g1
      rw [b_X5_order_75]
      simp only [z_cd, i10, i11, dnn, rdU, eW, eU, tzC_w, w_shp, w_ptr, Nat.beq_refl, nbz, nb133, nb75, nb55, nb67, n133a, n133b, n75a, n75b, aT, aR, oT, oR, oF, oG, kT, kF, bI, bL, bR, b0, Classical.not_not, not_true_eq_false, not_false_eq_true, and_self, and_true, true_and, ↓reduceIte, decide_true, decide_false, Nat.reduceEqDiff, Nat.reduceLT, Nat.reduceLeDiff, Int.reduceEq, p_bitCount]
      have z0 : ((0 : Nat) : Int) = 0 := rfl
      rw [z0] at g1
      simp only [z_cd, i10, i11, dnn, rdU, eW, eU, tzC_w, w_shp, w_ptr, Nat.beq_refl, nbz, nb133, nb75, nb55, nb67, n133a, n133b, n75a, n75b, aT, aR, oT, oR, oF, oG, kT, kF, bI, bL, bR, b0, Classical.not_not, not_true_eq_false, not_false_eq_true, and_self, and_true, true_and, ↓reduceIte, decide_true, decide_false, Nat.reduceEqDiff, Nat.reduceLT, Nat.reduceLeDiff, Int.reduceEq, g1]
    · rw [eE] at g3
      exact g3
