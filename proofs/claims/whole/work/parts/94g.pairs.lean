/-! ===== pairs ===== -/
def PPf (b : Nat) (j : Int) : Prop := b ≠ 92 ∧ b ≠ 120 ∧ b ≠ 121 ∧ ¬ (b = 81 ∧ 50 ≤ j ∧ j ≤ 54)
theorem flq_le (E : Int → Int → Int) (w : Int) (g : Int → Int) : ∀ (x : List (List (Int × Int))) (s : Int × (Int → Int)), (flq E w g x s).1 ≤ s.1 ∧ ((flq E w g x s).1 = s.1 → flq E w g x s = s)
  | [], s => ⟨Int.le_refl _, fun _ => rfl⟩
  | M :: x, s => by
    have h := flq_le E w g x (stq s (vlq E w M, asq g M))
    show (flq E w g x (stq s (vlq E w M, asq g M))).1 ≤ s.1 ∧ _
    by_cases c : vlq E w M < s.1
    · have e : stq s (vlq E w M, asq g M) = (vlq E w M, asq g M) := if_pos c
      rw [e] at h
      have h1 : (flq E w g x (vlq E w M, asq g M)).1 ≤ vlq E w M := h.1
      refine ⟨by rw [e]; omega, fun q => ?_⟩
      have q' : (flq E w g x (stq s (vlq E w M, asq g M))).1 = s.1 := q
      rw [e] at q'
      omega
    · have e : stq s (vlq E w M, asq g M) = s := if_neg c
      rw [e] at h
      rw [e]
      refine ⟨h.1, fun q => ?_⟩
      have q' : (flq E w g x (stq s (vlq E w M, asq g M))).1 = s.1 := q
      show flq E w g x (stq s (vlq E w M, asq g M)) = s
      rw [e] at q' ⊢
      exact h.2 q'
set_option maxRecDepth 100000 in
set_option maxHeartbeats 1000000 in
theorem q_212 (d L n : Nat) (S r v c : Int) : ∀ (j : Nat) (k : Int) (D : Nat → Int → Int), 0 ≤ k → k + j = 6 → ∃ D', tqrun tqP (d + 1) tqc_X12_pairs 212 [vR 81, vI S, vI r, vU, vU, vU, vI v, vI c, vU, vI k] [] (tzW D L n) = tqrun tqP (d + 1) tqc_X12_pairs 180 [vR 81, vI S, vI r, vU, vU, vU, vI v, vI (w32 (c + 1)), vU, vU] [] (tzW D' L n) ∧ Ofq 121 D D' ∧ ∀ i : Int, D' 121 i = if k ≤ i ∧ i < 6 then D 120 i else D 121 i
  | 0, k, D, k0, kj => by
    refine ⟨D, ?_, Ofq_r _ _, fun i => by rw [if_neg (show ¬ (k ≤ i ∧ i < 6) by omega)]⟩
    have c6 : 6 ≤ k := by omega
    rw [b_X12_pairs_212]
    simp only [z_cd, i10, i11, dnn, rdU, eW, eU, tzC_w, w_shp, w_ptr, Nat.beq_refl, nbz, nb133, nb75, nb55, nb67, n133a, n133b, n75a, n75b, aT, aR, oT, oR, oF, oG, kT, kF, bI, bL, bR, b0, Classical.not_not, not_true_eq_false, not_false_eq_true, and_self, and_true, true_and, ↓reduceIte, decide_true, decide_false, Nat.reduceEqDiff, Nat.reduceLT, Nat.reduceLeDiff, Int.reduceEq, c6]
  | j + 1, k, D, k0, kj => by
    have c6 : ¬ 6 ≤ k := by omega
    have hb : tqib k 6 = true := tqib_y (by omega) (by omega)
    obtain ⟨D', r1, r2, r3⟩ := q_212 d L n S r v c j (k + 1) (tzU D 121 k (D 120 k)) (by omega) (by omega)
    refine ⟨D', ?_, Ofq_t (Ofq_U _ _ _ _) r2, fun i => ?_⟩
    · have e1 := w1z k0 (by omega)
      rw [← r1, b_X12_pairs_212]
      simp only [z_cd, i10, i11, dnn, rdU, eW, eU, tzC_w, w_shp, w_ptr, Nat.beq_refl, nbz, nb133, nb75, nb55, nb67, n133a, n133b, n75a, n75b, aT, aR, oT, oR, oF, oG, kT, kF, bI, bL, bR, b0, Classical.not_not, not_true_eq_false, not_false_eq_true, and_self, and_true, true_and, ↓reduceIte, decide_true, decide_false, Nat.reduceEqDiff, Nat.reduceLT, Nat.reduceLeDiff, Int.reduceEq, c6, hb, e1]
    · rw [r3, tzU_o _ _ _ _ (show (120 : Nat) ≠ 121 by decide)]
      by_cases e : i = k
      · rw [if_neg (show ¬ (k + 1 ≤ i ∧ i < 6) by omega), if_pos (show k ≤ i ∧ i < 6 by omega), e, tzU_s]
      · rw [tzU_k _ _ _ _ e]
        by_cases q : k + 1 ≤ i ∧ i < 6
        · rw [if_pos q, if_pos (show k ≤ i ∧ i < 6 by omega)]
        · rw [if_neg q, if_neg (show ¬ (k ≤ i ∧ i < 6) by omega)]
set_option maxRecDepth 100000 in
set_option maxHeartbeats 1000000 in
theorem q_261 (d L n : Nat) (v : Int) : ∀ (j : Nat) (k : Int) (D : Nat → Int → Int), 0 ≤ k → k + j = 6 → ∃ D', tqrun tqP (d + 1) tqc_X12_pairs 261 [vR 81, vU, vU, vU, vU, vU, vI v, vI k, vU, vU] [] (tzW D L n) = some (some (vI v), tzW D' L n) ∧ Ofq 119 D D' ∧ ∀ i : Int, D' 119 i = if k ≤ i ∧ i < 6 then D 121 i else D 119 i
  | 0, k, D, k0, kj => by
    refine ⟨D, ?_, Ofq_r _ _, fun i => by rw [if_neg (show ¬ (k ≤ i ∧ i < 6) by omega)]⟩
    have c6 : 6 ≤ k := by omega
    rw [b_X12_pairs_261]
    simp only [z_cd, i10, i11, dnn, rdU, eW, eU, tzC_w, w_shp, w_ptr, Nat.beq_refl, nbz, nb133, nb75, nb55, nb67, n133a, n133b, n75a, n75b, aT, aR, oT, oR, oF, oG, kT, kF, bI, bL, bR, b0, Classical.not_not, not_true_eq_false, not_false_eq_true, and_self, and_true, true_and, ↓reduceIte, decide_true, decide_false, Nat.reduceEqDiff, Nat.reduceLT, Nat.reduceLeDiff, Int.reduceEq, c6]
  | j + 1, k, D, k0, kj => by
    have c6 : ¬ 6 ≤ k := by omega
    have hb : tqib k 6 = true := tqib_y (by omega) (by omega)
    obtain ⟨D', r1, r2, r3⟩ := q_261 d L n v j (k + 1) (tzU D 119 k (D 121 k)) (by omega) (by omega)
    refine ⟨D', ?_, Ofq_t (Ofq_U _ _ _ _) r2, fun i => ?_⟩
    · have e1 := w1z k0 (by omega)
      rw [← r1, b_X12_pairs_261]
      simp only [z_cd, i10, i11, dnn, rdU, eW, eU, tzC_w, w_shp, w_ptr, Nat.beq_refl, nbz, nb133, nb75, nb55, nb67, n133a, n133b, n75a, n75b, aT, aR, oT, oR, oF, oG, kT, kF, bI, bL, bR, b0, Classical.not_not, not_true_eq_false, not_false_eq_true, and_self, and_true, true_and, ↓reduceIte, decide_true, decide_false, Nat.reduceEqDiff, Nat.reduceLT, Nat.reduceLeDiff, Int.reduceEq, c6, hb, e1]
    · rw [r3, tzU_o _ _ _ _ (show (121 : Nat) ≠ 119 by decide)]
      by_cases e : i = k
      · rw [if_neg (show ¬ (k + 1 ≤ i ∧ i < 6) by omega), if_pos (show k ≤ i ∧ i < 6 by omega), e, tzU_s]
      · rw [tzU_k _ _ _ _ e]
        by_cases q : k + 1 ≤ i ∧ i < 6
        · rw [if_pos q, if_pos (show k ≤ i ∧ i < 6 by omega)]
        · rw [if_neg q, if_neg (show ¬ (k ≤ i ∧ i < 6) by omega)]
set_option maxRecDepth 100000 in
set_option maxHeartbeats 1000000 in
theorem q_180 (d L n : Nat) (B : Nat → Int → Int) (hR : RKN B n) {r : Nat} (hr : r < 6) {H : Int → Int} (hH : ∀ k : Int, 0 ≤ k → k < 6 → 0 ≤ H k ∧ H k ≤ 7) (eh : ∀ k : Int, 0 ≤ k → k < 6 → B 84 (40 * r + k) = H k) {S : Int} (S0 : 0 ≤ S) (S1 : S < 64) : ∀ (j : Nat) (c : Int) (s : Int × (Int → Int)) (C D : Nat → Int → Int), 0 ≤ c → c + j = 216 → Sm PPf B D → Vq s.1 → (s.1 = 2147483647 ∨ ∀ k : Int, 0 ≤ k → k < 6 → D 121 k = s.2 k) →
    ∃ D', tqrun tqP (d + 7) tqc_X12_pairs 180 [vR 81, vI S, vI (r : Int), vU, vU, vU, vI (nv s.1), vI c, vU, vU] [] (tzW D L n) = tqrun tqP (d + 7) tqc_X12_pairs 180 [vR 81, vI S, vI (r : Int), vU, vU, vU, vI (nv (flq (Epq B H S) 0 (fun _ => -9) (cdl S j c) s).1), vI 216, vU, vU] [] (tzW D' L n) ∧ Sm PPf B D' ∧ Vq (flq (Epq B H S) 0 (fun _ => -9) (cdl S j c) s).1 ∧ ((flq (Epq B H S) 0 (fun _ => -9) (cdl S j c) s).1 = 2147483647 ∨ ∀ k : Int, 0 ≤ k → k < 6 → D' 121 k = (flq (Epq B H S) 0 (fun _ => -9) (cdl S j c) s).2 k)
  | 0, c, s, C, D, c0, cj, sm, vs, ks => by
    rw [show c = 216 by omega]
    exact ⟨D, rfl, sm, vs, ks⟩
  | j + 1, c, s, C, D, c0, cj, sm, vs, ks => by
    have cc : ¬ 216 ≤ c := by omega
    have smw : Sm PPw (fun b j => if b = 121 then D b j else B b j) D := fun b j p => by
      by_cases e : b = 121
      · show D b j = if b = 121 then D b j else B b j
        rw [if_pos e]
      · show D b j = if b = 121 then D b j else B b j
        rw [if_neg e]
        exact sm b j (by unfold PPw at p; unfold PPf; omega)
    have hR2 : RKN (fun b j => if b = 121 then D b j else B b j) n := by
      obtain ⟨hW, hN, hK⟩ := id hR
      exact ⟨RW_fr (fun b j p => if_neg (by unfold PW at p; omega)) hW, RN_fr (fun b j p => if_neg (by unfold PN at p; omega)) hN, RK_fr (fun b j p => if_neg (by unfold PK at p; omega)) hK⟩
    obtain ⟨x, D1, u1, u2, u3⟩ := q_partWays d L n (fun b j => if b = 121 then D b j else B b j) hR2 hr hH eh S0 S1 c0 (by omega) D smw
    have eE : Epq (fun b j => if b = 121 then D b j else B b j) H S = Epq B H S := by
      funext a b
      unfold Epq enq
      rw [swL_sm (D := B) (fun x y p => if_neg (by unfold PVq at p; omega))]
      rfl
    rw [eE] at u3
    have k121 : ∀ k : Int, D1 121 k = D 121 k := fun k => (u2 121 k (by unfold PPw; omega)).trans (if_pos rfl)
    have sm1 : Sm PPf B D1 := fun b j p => by
      unfold PPf at p
      exact (u2 b j (by unfold PPw; omega)).trans (if_neg (by omega))
    have stay : ∃ D', tqrun tqP (d + 7) tqc_X12_pairs 180 [vR 81, vI S, vI (r : Int), vU, vU, vU, vI (nv s.1), vI (c + 1), vU, vU] [] (tzW D1 L n) = tqrun tqP (d + 7) tqc_X12_pairs 180 [vR 81, vI S, vI (r : Int), vU, vU, vU, vI (nv (flq (Epq B H S) 0 (fun _ => -9) (cdl S j (c + 1)) s).1), vI 216, vU, vU] [] (tzW D' L n) ∧ Sm PPf B D' ∧ Vq (flq (Epq B H S) 0 (fun _ => -9) (cdl S j (c + 1)) s).1 ∧ ((flq (Epq B H S) 0 (fun _ => -9) (cdl S j (c + 1)) s).1 = 2147483647 ∨ ∀ k : Int, 0 ≤ k → k < 6 → D' 121 k = (flq (Epq B H S) 0 (fun _ => -9) (cdl S j (c + 1)) s).2 k) :=
      q_180 d L n B hR hr hH eh S0 S1 j (c + 1) s C D1 (by omega) (by omega) sm1 vs (by
        rcases ks with q | q
        · exact Or.inl q
        · exact Or.inr (fun k k0 k1 => (k121 k).trans (q k k0 k1)))
    have nvs := nv_v vs
    rcases u3 with ⟨q1, q2⟩ | ⟨M, q1, q2, q3⟩
    · have cd : cdl S (j + 1) c = [] ++ cdl S j (c + 1) := by
        show (match pwr c 3 S with | none => [] | some M => [M]) ++ cdl S j (c + 1) = _
        simp only [q1]
      have ef : flq (Epq B H S) 0 (fun _ => -9) [] s = s := rfl
      rw [cd, flq_app, ef]
      obtain ⟨D', r1, r2, r3, r4⟩ := stay
      refine ⟨D', ?_, r2, r3, r4⟩
      have le : nv s.1 ≤ x := by omega
      have e1 := w1z c0 (by omega)
      refine Eq.trans ?_ r1
      rw [b_X12_pairs_180]
      simp only [z_cd, i10, i11, dnn, rdU, eW, eU, tzC_w, w_shp, w_ptr, Nat.beq_refl, nbz, nb133, nb75, nb55, nb67, n133a, n133b, n75a, n75b, aT, aR, oT, oR, oF, oG, kT, kF, bI, bL, bR, b0, Classical.not_not, not_true_eq_false, not_false_eq_true, and_self, and_true, true_and, ↓reduceIte, decide_true, decide_false, Nat.reduceEqDiff, Nat.reduceLT, Nat.reduceLeDiff, Int.reduceEq, cc, u1, le, e1]
    · have cd : cdl S (j + 1) c = [M] ++ cdl S j (c + 1) := by
        show (match pwr c 3 S with | none => [] | some M => [M]) ++ cdl S j (c + 1) = _
        simp only [q1]
      have ef : flq (Epq B H S) 0 (fun _ => -9) [M] s = stq s (vlq (Epq B H S) 0 M, asq (fun _ => -9) M) := rfl
      rw [cd, flq_app, ef]
      have vM := (vlq_nv (E := Epq B H S) (fun a b => Epq_V hR hH S a b) M 0 (Or.inl (by omega))).2
      have lt := nv_lt vM vs
      by_cases l : vlq (Epq B H S) 0 M < s.1
      · have es : stq s (vlq (Epq B H S) 0 M, asq (fun _ => -9) M) = (vlq (Epq B H S) 0 M, asq (fun _ => -9) M) := if_pos l
        rw [es]
        obtain ⟨D2, h1, h2, h3⟩ := q_212 (d + 6) L n S (r : Int) x c 6 0 D1 (by omega) (by omega)
        obtain ⟨D', r1, r2, r3, r4⟩ := q_180 d L n B hR hr hH eh S0 S1 j (c + 1) (vlq (Epq B H S) 0 M, asq (fun _ => -9) M) C D2 (by omega) (by omega) (fun b j p => by
          unfold PPf at p
          exact (h2 b j (by omega)).trans (sm1 b j p)) vM (Or.inr (fun k k0 k1 => by rw [h3, if_pos (show 0 ≤ k ∧ k < 6 by omega)]; exact q3 k k0 k1))
        refine ⟨D', ?_, r2, r3, r4⟩
        have le : ¬ nv s.1 ≤ x := by rw [q2]; omega
        have e1 := w1z c0 (by omega)
        rw [e1, q2] at h1
        refine Eq.trans ?_ r1
        rw [b_X12_pairs_180]
        simp only [z_cd, i10, i11, dnn, rdU, eW, eU, tzC_w, w_shp, w_ptr, Nat.beq_refl, nbz, nb133, nb75, nb55, nb67, n133a, n133b, n75a, n75b, aT, aR, oT, oR, oF, oG, kT, kF, bI, bL, bR, b0, Classical.not_not, not_true_eq_false, not_false_eq_true, and_self, and_true, true_and, ↓reduceIte, decide_true, decide_false, Nat.reduceEqDiff, Nat.reduceLT, Nat.reduceLeDiff, Int.reduceEq, cc, u1, le]
        rw [q2]
        exact h1
      · have es : stq s (vlq (Epq B H S) 0 M, asq (fun _ => -9) M) = s := if_neg l
        rw [es]
        obtain ⟨D', r1, r2, r3, r4⟩ := stay
        refine ⟨D', ?_, r2, r3, r4⟩
        have le : nv s.1 ≤ x := by rw [q2]; omega
        have e1 := w1z c0 (by omega)
        refine Eq.trans ?_ r1
        rw [b_X12_pairs_180]
        simp only [z_cd, i10, i11, dnn, rdU, eW, eU, tzC_w, w_shp, w_ptr, Nat.beq_refl, nbz, nb133, nb75, nb55, nb67, n133a, n133b, n75a, n75b, aT, aR, oT, oR, oF, oG, kT, kF, bI, bL, bR, b0, Classical.not_not, not_true_eq_false, not_false_eq_true, and_self, and_true, true_and, ↓reduceIte, decide_true, decide_false, Nat.reduceEqDiff, Nat.reduceLT, Nat.reduceLeDiff, Int.reduceEq, cc, u1, le, e1]
set_option maxRecDepth 100000 in
set_option maxHeartbeats 1000000 in
theorem p_85 (d L n : Nat) (D : Nat → Int → Int) (hK : RK D n) (e2 : D 2 13 = D 81 5) (S : Int) (A : Nat) : ∀ (j k : Nat), k + j = 6 → ((∀ x : Nat, k ≤ x → x < 6 → hbq S x → cSw D x) → tqrun tqP (d + 3) tqc_X11_pairs 85 [vR 2, vI S, vU, vR A, vU, vI (k : Int)] [] (tzW D L n) = tqrun tqP (d + 3) tqc_X11_pairs 85 [vR 2, vI S, vU, vR A, vU, vI 6] [] (tzW D L n)) ∧ ((¬ ∀ x : Nat, k ≤ x → x < 6 → hbq S x → cSw D x) → tqrun tqP (d + 3) tqc_X11_pairs 85 [vR 2, vI S, vU, vR A, vU, vI (k : Int)] [] (tzW D L n) = some (some (vI (-4)), tzW D L n))
  | 0, k, kj => by
    refine ⟨fun _ => by rw [show (k : Int) = 6 by omega], fun h => absurd (fun x a b => by omega) h⟩
  | j + 1, k, kj => by
    have c : ¬ (6 : Int) ≤ (k : Int) := by omega
    have hb : tqib (k : Int) 6 = true := tqib_y (by omega) (by omega)
    obtain ⟨h1, h2⟩ := p_85 d L n D hK e2 S A j (k + 1) (by omega)
    have e1 := w32_s k (by omega)
    by_cases q : hbq S (k : Int)
    · by_cases m : cSw D k
      · have st : tqrun tqP (d + 3) tqc_X11_pairs 85 [vR 2, vI S, vU, vR A, vU, vI (k : Int)] [] (tzW D L n) = tqrun tqP (d + 3) tqc_X11_pairs 85 [vR 2, vI S, vU, vR A, vU, vI ((k + 1 : Nat) : Int)] [] (tzW D L n) := by
          rw [b_X11_pairs_85]
          simp only [z_cd, i10, i11, dnn, rdU, eW, eU, tzC_w, w_shp, w_ptr, Nat.beq_refl, nbz, nb133, nb75, nb55, nb67, n133a, n133b, n75a, n75b, aT, aR, oT, oR, oF, oG, kT, kF, bI, bL, bR, b0, Classical.not_not, not_true_eq_false, not_false_eq_true, and_self, and_true, true_and, ↓reduceIte, decide_true, decide_false, Nat.reduceEqDiff, Nat.reduceLT, Nat.reduceLeDiff, Int.reduceEq, c, p_hasBit_y _ _ q, ble45, ble57, hb, w_trk D L n (show k < 6 by clear e1; omega), p_canSwap_y _ D L n (show k < 6 by clear e1; omega) (hK k (by clear e1; omega)) e2 m, e1]
        clear e1
        rw [st]
        refine ⟨fun h => h1 (fun x a b => h x (by omega) b), fun h => h2 (fun g => h (fun x a b t => ?_))⟩
        by_cases e : x = k
        · rw [e]; exact m
        · exact g x (by omega) b t
      · refine ⟨fun h => absurd (h k (by omega) (by omega) q) m, fun _ => ?_⟩
        rw [b_X11_pairs_85]
        simp only [z_cd, i10, i11, dnn, rdU, eW, eU, tzC_w, w_shp, w_ptr, Nat.beq_refl, nbz, nb133, nb75, nb55, nb67, n133a, n133b, n75a, n75b, aT, aR, oT, oR, oF, oG, kT, kF, bI, bL, bR, b0, Classical.not_not, not_true_eq_false, not_false_eq_true, and_self, and_true, true_and, ↓reduceIte, decide_true, decide_false, Nat.reduceEqDiff, Nat.reduceLT, Nat.reduceLeDiff, Int.reduceEq, c, p_hasBit_y _ _ q, ble45, ble57, hb, w_trk D L n (show k < 6 by clear e1; omega), p_canSwap_n _ D L n (show k < 6 by clear e1; omega) (hK k (by clear e1; omega)) e2 m]
    · have st : tqrun tqP (d + 3) tqc_X11_pairs 85 [vR 2, vI S, vU, vR A, vU, vI (k : Int)] [] (tzW D L n) = tqrun tqP (d + 3) tqc_X11_pairs 85 [vR 2, vI S, vU, vR A, vU, vI ((k + 1 : Nat) : Int)] [] (tzW D L n) := by
        rw [b_X11_pairs_85]
        simp only [z_cd, i10, i11, dnn, rdU, eW, eU, tzC_w, w_shp, w_ptr, Nat.beq_refl, nbz, nb133, nb75, nb55, nb67, n133a, n133b, n75a, n75b, aT, aR, oT, oR, oF, oG, kT, kF, bI, bL, bR, b0, Classical.not_not, not_true_eq_false, not_false_eq_true, and_self, and_true, true_and, ↓reduceIte, decide_true, decide_false, Nat.reduceEqDiff, Nat.reduceLT, Nat.reduceLeDiff, Int.reduceEq, c, p_hasBit_n _ _ q, e1]
      clear e1
      rw [st]
      refine ⟨fun h => h1 (fun x a b => h x (by omega) b), fun h => h2 (fun g => h (fun x a b t => ?_))⟩
      by_cases e : x = k
      · exact absurd (e ▸ t) q
      · exact g x (by omega) b t
