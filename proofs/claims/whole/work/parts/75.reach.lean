/-! ===== Ways.reach: Dijkstra over the ways ===== -/
def Ofq (A : Nat) (D D' : Nat → Int → Int) : Prop := ∀ (b : Nat) (j : Int), b ≠ A → D' b j = D b j
theorem Ofq_r (A : Nat) (D : Nat → Int → Int) : Ofq A D D := fun _ _ _ => rfl
theorem Ofq_t {A : Nat} {D D' D'' : Nat → Int → Int} (h : Ofq A D D') (g : Ofq A D' D'') : Ofq A D D'' := fun b j q => (g b j q).trans (h b j q)
theorem Ofq_U (D : Nat → Int → Int) (A : Nat) (j x : Int) : Ofq A D (tzU D A j x) := fun b k q => tzU_o _ _ _ _ q
theorem Ofq_F (D : Nat → Int → Int) (A : Nat) (i j x : Int) : Ofq A D (tzF D A i j x) := fun b k q => by unfold tzF; rw [if_neg q]
/-- an array of eight that no way is kept in -/
def oka (A : Nat) : Prop := A = 12 ∨ (24 ≤ A ∧ A ≤ 26) ∨ (32 ≤ A ∧ A ≤ 37) ∨ A = 49 ∨ A = 92
theorem Ofq_w {A : Nat} {D D' : Nat → Int → Int} (h : Ofq A D D') (o : oka A) : ∀ (b : Nat) (j : Int), 88 ≤ b → b ≤ 91 → D' b j = D b j := fun b j b0 b1 => h b j (by unfold oka at o; omega)
theorem Ofq_y {A : Nat} {D D' : Nat → Int → Int} (h : Ofq A D D') (o : oka A) (w : WY D) : WY D' := WY_fr (fun b j q => h b j (by unfold oka at o; omega)) w
theorem p_hasBit_y (d : Nat) {S y : Int} (m : tqM) (h : hbq S y) : tqden tqP (d + 1) n_X11_hasBit [vI S, vI y] m = some (some (vI 1), m) := by rw [p_hasBit, if_pos h]
theorem p_hasBit_n (d : Nat) {S y : Int} (m : tqM) (h : ¬ hbq S y) : tqden tqP (d + 1) n_X11_hasBit [vI S, vI y] m = some (some (vI 0), m) := by rw [p_hasBit, if_neg h]
theorem ble11 : Nat.ble 1 1 = true := rfl
theorem ble18 : Nat.ble 1 8 = true := rfl
theorem c88 : ((8 : Nat) : Int) = 8 := rfl
set_option maxRecDepth 100000 in
set_option maxHeartbeats 400000 in
theorem p_next (d : Nat) (D : Nat → Int → Int) (L n : Nat) (h : WY D) {k u bt : Int} (k0 : 0 ≤ k) (k1 : k < 64) (u0 : 0 ≤ u) (u1 : u ≤ 200000000) (hbt : bt = 0 ∨ bt = 1) : tqden tqP (d + 1) n_X10_next [vR 7, vI k, vI u, vI bt] (tzW D L n) = some (some (vI (nxq D bt k u)), tzW D L n) := by
  obtain ⟨g1, g2, g3, g4, g5, g6, g7, g8, g9, g10, g11, g12⟩ := h k k0 k1
  have hb : tqib k 64 = true := tqib_y (by omega) (by omega)
  rcases hbt with rfl | rfl
  · by_cases c : D 90 k ≤ 0
    · rw [nx_p D k u c, dn_X10_next, b_X10_next_0]
      have e1 : w32 (w32 (u + 0) + D 88 k) = u + D 88 k := by rw [Int.add_zero, w32_i (x := u) (by omega) (by omega), w32_i (by omega) (by omega)]
      simp only [z_cd, i10, i11, dnn, rdU, eW, eU, tzC_w, w_shp, w_ptr, Nat.beq_refl, nbz, nb133, nb75, nb55, nb67, n133a, n133b, n75a, n75b, aT, aR, oT, oR, oF, oG, kT, kF, bI, bL, bR, b0, Classical.not_not, not_true_eq_false, not_false_eq_true, and_self, and_true, true_and, ↓reduceIte, decide_true, decide_false, Nat.reduceEqDiff, Nat.reduceLT, Nat.reduceLeDiff, Int.reduceEq, g1, g2, g3, g4, hb, c, e1]
    · have c2 : 0 < D 90 k := by omega
      have m1 := Int.emod_nonneg (D 91 k - u) (b := D 90 k) (by omega)
      have m2 := Int.emod_lt_of_pos (D 91 k - u) (b := D 90 k) (by omega)
      rw [nx_f D k u c, dn_X10_next, b_X10_next_0]
      have e0 : w32 (D 91 k - u) = D 91 k - u := w32_i (by omega) (by omega)
      have e2 : w32 (u + (D 91 k - u) % D 90 k) = u + (D 91 k - u) % D 90 k := w32_i (by omega) (by omega)
      have e3 : w32 (u + (D 91 k - u) % D 90 k + D 88 k) = u + (D 91 k - u) % D 90 k + D 88 k := w32_i (by omega) (by omega)
      simp only [z_cd, i10, i11, dnn, rdU, eW, eU, tzC_w, w_shp, w_ptr, Nat.beq_refl, nbz, nb133, nb75, nb55, nb67, n133a, n133b, n75a, n75b, aT, aR, oT, oR, oF, oG, kT, kF, bI, bL, bR, b0, Classical.not_not, not_true_eq_false, not_false_eq_true, and_self, and_true, true_and, ↓reduceIte, decide_true, decide_false, Nat.reduceEqDiff, Nat.reduceLT, Nat.reduceLeDiff, Int.reduceEq, g1, g2, g3, g4, hb, c, c2, e0, e2, e3]
  · rw [nx_t D k u (by decide), dn_X10_next, b_X10_next_0]
    have e1 : w32 (u + D 89 k) = u + D 89 k := w32_i (by omega) (by omega)
    simp only [z_cd, i10, i11, dnn, rdU, eW, eU, tzC_w, w_shp, w_ptr, Nat.beq_refl, nbz, nb133, nb75, nb55, nb67, n133a, n133b, n75a, n75b, aT, aR, oT, oR, oF, oG, kT, kF, bI, bL, bR, b0, Classical.not_not, not_true_eq_false, not_false_eq_true, and_self, and_true, true_and, ↓reduceIte, decide_true, decide_false, Nat.reduceEqDiff, Nat.reduceLT, Nat.reduceLeDiff, Int.reduceEq, g1, g2, g3, g4, hb, e1]
theorem w8y {y z : Int} (y0 : 0 ≤ y) (y1 : y < 8) (z0 : 0 ≤ z) (z1 : z < 8) : w32 (w32 (y * 8) + z) = 8 * y + z := by
  rw [w32_i (x := y * 8) (by omega) (by omega), w32_i (by omega) (by omega)]; omega
theorem w8y2 {y z : Int} (y0 : 0 ≤ y) (y1 : y < 8) (z0 : 0 ≤ z) (z1 : z < 8) : w32 (w32 (8 * y) + z) = 8 * y + z := by
  rw [w32_i (x := 8 * y) (by omega) (by omega), w32_i (by omega) (by omega)]
theorem w1z {z : Int} (z0 : 0 ≤ z) (z1 : z < 1000) : w32 (z + 1) = z + 1 := w32_i (by omega) (by omega)
set_option maxRecDepth 100000 in
set_option maxHeartbeats 400000 in
theorem p_r70 (d L n A : Nat) (hs : ∀ D, (tzW D L n).2.2.1 A = (1, 8)) (o : oka A) {bt : Int} (hbt : bt = 0 ∨ bt = 1) {y : Int} (y0 : 0 ≤ y) (y1 : y < 8) (S r : Int) : ∀ (j : Nat) (z : Int) (D : Nat → Int → Int), 0 ≤ z → z + j = 8 → WY D → 0 ≤ D A y → D A y ≤ 100000000 → D 88 (9 * y) = 0 →
    ∃ D', tqrun tqP (d + 2) tqc_X10_reach 70 [vR 7, vU, vU, vI bt, vR A, vI S, vI r, vI y, vI z] [] (tzW D L n) = tqrun tqP (d + 2) tqc_X10_reach 34 [vR 7, vU, vU, vI bt, vR A, vI S, vI (w32 (r + 1)), vU, vU] [] (tzW D' L n) ∧ Ofq A D D' ∧ ∀ w : Int, 0 ≤ w → w < 8 → D' A w = if z ≤ w ∧ 0 < D 88 (8 * y + w) then jmin (D A w) (nxq D bt (8 * y + w) (D A y)) else D A w
  | 0, z, D, z0, zj, h, u0, u1, hd => by
    refine ⟨D, ?_, Ofq_r A D, fun w w0 w1 => ?_⟩
    · have c : 8 ≤ z := by omega
      rw [b_X10_reach_70]
      simp only [z_cd, i10, i11, dnn, rdU, eW, eU, tzC_w, w_shp, w_ptr, Nat.beq_refl, nbz, nb133, nb75, nb55, nb67, n133a, n133b, n75a, n75b, aT, aR, oT, oR, oF, oG, kT, kF, bI, bL, bR, b0, Classical.not_not, not_true_eq_false, not_false_eq_true, and_self, and_true, true_and, ↓reduceIte, decide_true, decide_false, Nat.reduceEqDiff, Nat.reduceLT, Nat.reduceLeDiff, Int.reduceEq, c]
    · rw [if_neg (by omega)]
  | j + 1, z, D, z0, zj, h, u0, u1, hd => by
    have z1 : z < 8 := by omega
    have c : ¬ 8 ≤ z := by omega
    have g := (h (8 * y + z) (by omega) (by omega)).1
    have hb1 : tqib (8 * y + z) 64 = true := tqib_y (by omega) (by omega)
    have hb2 : tqib z 8 = true := tqib_y (by omega) (by omega)
    have hb3 : tqib y 8 = true := tqib_y (by omega) (by omega)
    by_cases q : D 88 (8 * y + z) ≤ 0
    · obtain ⟨D', r1, r2, r3⟩ := p_r70 d L n A hs o hbt y0 y1 S r j (z + 1) D (by omega) (by omega) h u0 u1 hd
      refine ⟨D', ?_, r2, fun w w0 w1 => ?_⟩
      · rw [← r1, b_X10_reach_70]
        have e1 := w8y y0 y1 z0 z1
        have e2 := w1z z0 (by omega)
        simp only [z_cd, i10, i11, dnn, rdU, eW, eU, tzC_w, w_shp, w_ptr, Nat.beq_refl, nbz, nb133, nb75, nb55, nb67, n133a, n133b, n75a, n75b, aT, aR, oT, oR, oF, oG, kT, kF, bI, bL, bR, b0, Classical.not_not, not_true_eq_false, not_false_eq_true, and_self, and_true, true_and, ↓reduceIte, decide_true, decide_false, Nat.reduceEqDiff, Nat.reduceLT, Nat.reduceLeDiff, Int.reduceEq, c, e1, hb1, g, q, e2]
      · rw [r3 w w0 w1]
        by_cases e : w = z
        · rw [if_neg (by omega), if_neg (by rw [e]; omega)]
        · by_cases e2 : z + 1 ≤ w ∧ 0 < D 88 (8 * y + w)
          · rw [if_pos e2, if_pos ⟨by omega, e2.2⟩]
          · rw [if_neg e2, if_neg (fun h => e2 ⟨by omega, h.2⟩)]
    · have zy : z ≠ y := by
        intro e
        rw [e, show 8 * y + y = 9 * y by omega] at q
        omega
      obtain ⟨D', r1, r2, r3⟩ := p_r70 d L n A hs o hbt y0 y1 S r j (z + 1) (tzU D A z (jmin (D A z) (nxq D bt (8 * y + z) (D A y)))) (by omega) (by omega) (Ofq_y (Ofq_U D A z _) o h) (by rw [tzU_k _ _ _ _ (fun e => zy e.symm)]; exact u0) (by rw [tzU_k _ _ _ _ (fun e => zy e.symm)]; exact u1) (by rw [Ofq_w (Ofq_U D A z _) o 88 _ (by omega) (by omega)]; exact hd)
      refine ⟨D', ?_, Ofq_t (Ofq_U D A z _) r2, fun w w0 w1 => ?_⟩
      · have pn := p_next d D L n h (k := 8 * y + z) (u := D A y) (bt := bt) (by omega) (by omega) u0 (by omega) hbt
        rw [← r1, b_X10_reach_70]
        have e1 := w8y y0 y1 z0 z1
        have e2 := w1z z0 (by omega)
        simp only [z_cd, i10, i11, dnn, rdU, eW, eU, tzC_w, w_shp, w_ptr, Nat.beq_refl, nbz, nb133, nb75, nb55, nb67, n133a, n133b, n75a, n75b, aT, aR, oT, oR, oF, oG, kT, kF, bI, bL, bR, b0, Classical.not_not, not_true_eq_false, not_false_eq_true, and_self, and_true, true_and, ↓reduceIte, decide_true, decide_false, Nat.reduceEqDiff, Nat.reduceLT, Nat.reduceLeDiff, Int.reduceEq, c, e1, hb1, hb2, hb3, g, q, e2, hs, pn]
      · rw [r3 w w0 w1, Ofq_w (Ofq_U D A z _) o 88 _ (by omega) (by omega), nx_fr (Ofq_w (Ofq_U D A z _) o), tzU_k (j := z) (k := y) _ _ _ _ (fun e => zy e.symm)]
        by_cases e : w = z
        · subst e
          rw [if_neg (by omega), if_pos ⟨by omega, by omega⟩]
          exact tzU_s _ _ _ _
        · rw [tzU_k (j := z) (k := w) _ _ _ _ e]
          by_cases e2 : z + 1 ≤ w ∧ 0 < D 88 (8 * y + w)
          · rw [if_pos e2, if_pos ⟨by omega, e2.2⟩]
          · rw [if_neg e2, if_neg (fun h => e2 ⟨by omega, h.2⟩)]
/-- the nearest that is not settled -/
def NRq (f : Int → Int) (S b : Int) : Prop := (b = -9 ∧ ∀ y : Int, 0 ≤ y → y < 8 → ¬ hbq S y → 2147483647 ≤ f y) ∨ (0 ≤ b ∧ b < 8 ∧ ¬ hbq S b ∧ f b < 2147483647 ∧ ∀ y : Int, 0 ≤ y → y < 8 → ¬ hbq S y → f b ≤ f y)
set_option maxRecDepth 100000 in
set_option maxHeartbeats 400000 in
theorem p_near (d L n A : Nat) (D : Nat → Int → Int) (hs : ∀ D, (tzW D L n).2.2.1 A = (1, 8)) (S : Int) : ∀ (j : Nat) (i b l : Int), 0 ≤ i → i + j = 8 →
    ((b = -9 ∧ l = 2147483647 ∧ ∀ y : Int, 0 ≤ y → y < i → ¬ hbq S y → 2147483647 ≤ D A y) ∨ (0 ≤ b ∧ b < 8 ∧ l = D A b ∧ ¬ hbq S b ∧ D A b < 2147483647 ∧ ∀ y : Int, 0 ≤ y → y < i → ¬ hbq S y → D A b ≤ D A y)) →
    ∃ b', tqrun tqP (d + 2) tqc_X10_nearest 9 [vR A, vI S, vI b, vI l, vI i] [] (tzW D L n) = some (some (vI b'), tzW D L n) ∧ NRq (D A) S b'
  | 0, i, b, l, i0, ij, h => by
    have c : 8 ≤ i := by omega
    refine ⟨b, ?_, ?_⟩
    · rw [b_X10_nearest_9]
      simp only [z_cd, i10, i11, dnn, rdU, eW, eU, tzC_w, w_shp, w_ptr, Nat.beq_refl, nbz, nb133, nb75, nb55, nb67, n133a, n133b, n75a, n75b, aT, aR, oT, oR, oF, oG, kT, kF, bI, bL, bR, b0, Classical.not_not, not_true_eq_false, not_false_eq_true, and_self, and_true, true_and, ↓reduceIte, decide_true, decide_false, Nat.reduceEqDiff, Nat.reduceLT, Nat.reduceLeDiff, Int.reduceEq, c]
    · rcases h with ⟨h1, h2, h3⟩ | ⟨h1, h2, h3, h4, h5, h6⟩
      · exact Or.inl ⟨h1, fun y a1 a2 a3 => h3 y a1 (by omega) a3⟩
      · exact Or.inr ⟨h1, h2, h4, h5, fun y a1 a2 a3 => h6 y a1 (by omega) a3⟩
  | j + 1, i, b, l, i0, ij, h => by
    have c : ¬ 8 ≤ i := by omega
    have hb2 : tqib i 8 = true := tqib_y (by omega) (by omega)
    have e2 := w1z i0 (by omega)
    by_cases q : hbq S i
    · obtain ⟨b', r1, r2⟩ := p_near d L n A D hs S j (i + 1) b l (by omega) (by omega) (by
        rcases h with ⟨h1, h2, h3⟩ | ⟨h1, h2, h3, h4, h5, h6⟩
        · exact Or.inl ⟨h1, h2, fun y a1 a2 a3 => h3 y a1 (by have : y ≠ i := fun e => a3 (e ▸ q); omega) a3⟩
        · exact Or.inr ⟨h1, h2, h3, h4, h5, fun y a1 a2 a3 => h6 y a1 (by have : y ≠ i := fun e => a3 (e ▸ q); omega) a3⟩)
      refine ⟨b', ?_, r2⟩
      rw [← r1, b_X10_nearest_9]
      simp only [z_cd, i10, i11, dnn, rdU, eW, eU, tzC_w, w_shp, w_ptr, Nat.beq_refl, nbz, nb133, nb75, nb55, nb67, n133a, n133b, n75a, n75b, aT, aR, oT, oR, oF, oG, kT, kF, bI, bL, bR, b0, Classical.not_not, not_true_eq_false, not_false_eq_true, and_self, and_true, true_and, ↓reduceIte, decide_true, decide_false, Nat.reduceEqDiff, Nat.reduceLT, Nat.reduceLeDiff, Int.reduceEq, c, hs, ble11, ble18, c88, p_hasBit_y _ _ q, e2]
    · by_cases t : l ≤ D A i
      · obtain ⟨b', r1, r2⟩ := p_near d L n A D hs S j (i + 1) b l (by omega) (by omega) (by
          rcases h with ⟨h1, h2, h3⟩ | ⟨h1, h2, h3, h4, h5, h6⟩
          · exact Or.inl ⟨h1, h2, fun y a1 a2 a3 => by
              by_cases e : y = i
              · rw [e]; omega
              · exact h3 y a1 (by omega) a3⟩
          · exact Or.inr ⟨h1, h2, h3, h4, h5, fun y a1 a2 a3 => by
              by_cases e : y = i
              · rw [e]; omega
              · exact h6 y a1 (by omega) a3⟩)
        refine ⟨b', ?_, r2⟩
        rw [← r1, b_X10_nearest_9]
        simp only [z_cd, i10, i11, dnn, rdU, eW, eU, tzC_w, w_shp, w_ptr, Nat.beq_refl, nbz, nb133, nb75, nb55, nb67, n133a, n133b, n75a, n75b, aT, aR, oT, oR, oF, oG, kT, kF, bI, bL, bR, b0, Classical.not_not, not_true_eq_false, not_false_eq_true, and_self, and_true, true_and, ↓reduceIte, decide_true, decide_false, Nat.reduceEqDiff, Nat.reduceLT, Nat.reduceLeDiff, Int.reduceEq, c, hs, ble11, ble18, c88, p_hasBit_n _ _ q, hb2, t, e2]
      · obtain ⟨b', r1, r2⟩ := p_near d L n A D hs S j (i + 1) i (D A i) (by omega) (by omega) (by
          refine Or.inr ⟨i0, by omega, rfl, q, ?_, fun y a1 a2 a3 => ?_⟩
          · rcases h with ⟨h1, h2, h3⟩ | ⟨h1, h2, h3, h4, h5, h6⟩ <;> omega
          · by_cases e : y = i
            · rw [e]; omega
            · rcases h with ⟨h1, h2, h3⟩ | ⟨h1, h2, h3, h4, h5, h6⟩
              · have := h3 y a1 (by omega) a3; omega
              · have := h6 y a1 (by omega) a3; omega)
        refine ⟨b', ?_, r2⟩
        rw [← r1, b_X10_nearest_9]
        simp only [z_cd, i10, i11, dnn, rdU, eW, eU, tzC_w, w_shp, w_ptr, Nat.beq_refl, nbz, nb133, nb75, nb55, nb67, n133a, n133b, n75a, n75b, aT, aR, oT, oR, oF, oG, kT, kF, bI, bL, bR, b0, Classical.not_not, not_true_eq_false, not_false_eq_true, and_self, and_true, true_and, ↓reduceIte, decide_true, decide_false, Nat.reduceEqDiff, Nat.reduceLT, Nat.reduceLeDiff, Int.reduceEq, c, hs, ble11, ble18, c88, p_hasBit_n _ _ q, hb2, t, e2]
