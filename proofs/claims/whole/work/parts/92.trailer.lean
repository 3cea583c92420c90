/-! ===== a new trailer ===== -/
def tzN (D : Nat → Int → Int) (a : Nat) : Nat → Int → Int := fun b k => if b = a then 0 else D b k
theorem rdN (D : Nat → Int → Int) (a b : Nat) (k : Int) : tzN D a b k = if b = a then 0 else D b k := Eq.trans rfl rfl
def tzV (D : Nat → Int → Int) (L n : Nat) : tqM := (D, (tqnew (tzW D L n) 19 13).2)
theorem e_new (D : Nat → Int → Int) (L n : Nat) : tqnew (tzW D L n) 19 13 = tzV (tzN D (133 + n)) L n := by
  have e : 132 + n + 1 = 133 + n := by omega
  unfold tzV tzN
  refine Prod.ext ?_ rfl
  funext b k
  show (if b = 132 + n + 1 then (0 : Int) else D b k) = if b = 133 + n then 0 else D b k
  rw [e]
theorem V_s (D : Nat → Int → Int) (L n b : Nat) (h : b ≠ 133 + n) : (tzV D L n).2.2.1 b = tzWS L n b := by
  show (if b = 132 + n + 1 then (19, 13) else tzWS L n b) = _
  rw [if_neg (by omega)]
theorem V_n (D : Nat → Int → Int) (L n : Nat) : (tzV D L n).2.2.1 (133 + n) = (19, 13) := by
  show (if 133 + n = 132 + n + 1 then (19, 13) else tzWS L n (133 + n)) = _
  rw [if_pos (by omega)]
theorem V_2 (D : Nat → Int → Int) (L n : Nat) : (tzV D L n).2.2.1 2 = (21, 16) := (V_s D L n 2 (by omega)).trans rfl
theorem V_6 (D : Nat → Int → Int) (L n : Nat) : (tzV D L n).2.2.1 6 = (6, 12) := (V_s D L n 6 (by omega)).trans rfl
theorem eV (D : Nat → Int → Int) (L n : Nat) : (tzV D L n).1 = D := Eq.trans rfl rfl
theorem eVU (D : Nat → Int → Int) (L n a : Nat) (j x : Int) : tqw (tzV D L n) a j x = tzV (tzU D a j x) L n := Eq.trans rfl rfl
theorem e_sz (D : Nat → Int → Int) (L n : Nat) : (tzW D L n).2.2.2.1 + 1 = 133 + n := by
  show 132 + n + 1 = 133 + n
  omega
theorem tzP_n {n : Nat} (hn : n < 12) (k : Int) : tzf 0 tzPw (133 + n) k = 0 := by
  have : n = 0 ∨ n = 1 ∨ n = 2 ∨ n = 3 ∨ n = 4 ∨ n = 5 ∨ n = 6 ∨ n = 7 ∨ n = 8 ∨ n = 9 ∨ n = 10 ∨ n = 11 := by omega
  rcases this with rfl | rfl | rfl | rfl | rfl | rfl | rfl | rfl | rfl | rfl | rfl | rfl <;> exact tzf_none 0 tzPw _ (by decide +kernel) k
theorem e_tp (D : Nat → Int → Int) (L n : Nat) (hn : n < 12) : tqp (tzV D L n) 6 (n : Int) (133 + n) = tzW D L (n + 1) := by
  unfold tqp
  refine Prod.ext rfl (Prod.ext ?_ (Prod.ext ?_ (Prod.ext ?_ ?_)))
  · funext b k
    show (if b = 6 then (if k = (n : Int) then 133 + n else (if b = 132 + n + 1 then 0 else tzWP n b k)) else (if b = 132 + n + 1 then 0 else tzWP n b k)) = tzWP (n + 1) b k
    unfold tzWP
    by_cases h6 : b = 6
    · rw [if_pos h6, if_pos h6, if_pos h6, if_neg (show ¬ b = 132 + n + 1 by omega)]
      by_cases hk : k = (n : Int)
      · rw [if_pos hk, if_pos (show 0 ≤ k ∧ k < ((n + 1 : Nat) : Int) by omega)]
        omega
      · rw [if_neg hk]
        by_cases hr : 0 ≤ k ∧ k < (n : Int)
        · rw [if_pos hr, if_pos (show 0 ≤ k ∧ k < ((n + 1 : Nat) : Int) by omega)]
        · rw [if_neg hr, if_neg (show ¬ (0 ≤ k ∧ k < ((n + 1 : Nat) : Int)) by omega)]
    · rw [if_neg h6, if_neg h6, if_neg h6]
      by_cases hb : b = 132 + n + 1
      · have e : b = 133 + n := by omega
        rw [if_pos hb, e, tzP_n hn k]
      · rw [if_neg hb]
  · funext b
    show (if b = 132 + n + 1 then (19, 13) else tzWS L n b) = tzWS L (n + 1) b
    unfold tzWS
    by_cases hb : b = 132 + n + 1
    · rw [if_pos hb, if_neg (by omega), if_neg (by omega), if_pos (by omega)]
    · rw [if_neg hb]
      by_cases h1 : b = 1
      · rw [if_pos h1, if_pos h1]
      · rw [if_neg h1, if_neg h1]
        by_cases h2 : b ≤ 132
        · rw [if_pos h2, if_pos h2]
        · rw [if_neg h2, if_neg h2]
          by_cases h3 : b ≤ 132 + n
          · rw [if_pos h3, if_pos (by omega)]
          · rw [if_neg h3, if_neg (by omega)]
  · show 132 + n + 1 = 132 + (n + 1)
    omega
  · show 4716 + 13 * n + 13 = 4716 + 13 * (n + 1)
    omega
set_option maxRecDepth 100000 in
set_option maxHeartbeats 400000 in
theorem p_init (d : Nat) (D : Nat → Int → Int) (L n : Nat) (k y w t : Int) : tqden tqP (d + 1) n_X9_init [vR (133 + n), vI k, vI y, vI w, vI t] (tzV D L n) = some (none, tzV (tzU (tzU (tzU (tzU (tzU (tzU (tzU (D) (133 + n) 4 (-9)) (133 + n) 9 100) (133 + n) 0 k) (133 + n) 3 y) (133 + n) 1 w) (133 + n) 2 t) (133 + n) 7 (if k = 3 then -18 else 5)) L n) := by
  rw [dn_X9_init, b_X9_init_0]
  by_cases c : k = 3
  · rw [if_pos c]
    simp only [z_cd, i10, i11, dnn, rdU, eW, eU, tzC_w, w_shp, w_ptr, Nat.beq_refl, nbz, nb133, nb75, nb55, nb67, n133a, n133b, n75a, n75b, aT, aR, oT, oR, oF, oG, kT, kF, bI, bL, bR, b0, Classical.not_not, not_true_eq_false, not_false_eq_true, and_self, and_true, true_and, ↓reduceIte, decide_true, decide_false, Nat.reduceEqDiff, Nat.reduceLT, Nat.reduceLeDiff, Int.reduceEq, eV, eVU, V_n, b_X9_init_10, b_X9_init_16, b_X9_init_21, b_X9_init_26, b_X9_init_31, b_X9_init_37, b_X9_init_52, c]
  · rw [if_neg c]
    simp only [z_cd, i10, i11, dnn, rdU, eW, eU, tzC_w, w_shp, w_ptr, Nat.beq_refl, nbz, nb133, nb75, nb55, nb67, n133a, n133b, n75a, n75b, aT, aR, oT, oR, oF, oG, kT, kF, bI, bL, bR, b0, Classical.not_not, not_true_eq_false, not_false_eq_true, and_self, and_true, true_and, ↓reduceIte, decide_true, decide_false, Nat.reduceEqDiff, Nat.reduceLT, Nat.reduceLeDiff, Int.reduceEq, eV, eVU, V_n, b_X9_init_10, b_X9_init_16, b_X9_init_21, b_X9_init_26, b_X9_init_31, b_X9_init_37, b_X9_init_52, c]
theorem fE_none {D : Nat → Int → Int} {t : Int} : ∀ k : Nat, (∀ i : Nat, i < k → ¬ D 110 i = t) → fE D t k = none
  | 0, _ => rfl
  | k + 1, h => by
    unfold fE
    rw [fE_none k (fun i q => h i (by omega))]
    show (if D 110 k = t then some k else none) = none
    rw [if_neg (h k (by omega))]
theorem RX_add {D Y : Nat → Int → Int} {n N : Nat} {yd : Int} (hX : RX D n) (hN : D 81 34 = N) (hB : ∀ e : Nat, e < N → 0 ≤ D 110 e ∧ D 110 e < n) (w : New D Y n 0 yd yd) (ho : ∀ u : Nat, u < n → Y (133 + u) 2 = D (133 + u) 2 ∧ Y (133 + u) 3 = D (133 + u) 3 ∧ Y (133 + u) 6 = D (133 + u) 6) (n2 : Y (133 + n) 2 = D 81 5) (n3 : Y (133 + n) 3 = yd) (n6 : Y (133 + n) 6 = 0) (yd0 : 0 ≤ yd) : RX Y (n + 1) := by
  obtain ⟨w1, w2, w3, w4, w5, w6, w7, w8, w9, w10, w11, w12, w13⟩ := w
  rw [hN] at w2 w4 w9 w10 w11 w12 w13
  have e0 : ∀ i : Nat, i < N → Y 110 i = D 110 i := fun i q => w4 i (by omega) 110 (by omega)
  have e1 : ∀ i : Nat, i < N → Y 111 i = D 111 i := fun i q => w4 i (by omega) 111 (by omega)
  have e2 : ∀ i : Nat, i < N → Y 112 i = D 112 i := fun i q => w4 i (by omega) 112 (by omega)
  have e3 : ∀ i : Nat, i < N → Y 113 i = D 113 i := fun i q => w4 i (by omega) 113 (by omega)
  have e4 : ∀ i : Nat, i < N → Y 114 i = D 114 i := fun i q => w4 i (by omega) 114 (by omega)
  have tn : (Y 81 34).toNat = N + 1 := by omega
  obtain ⟨h1, h2⟩ := hX
  have td : (D 81 34).toNat = N := by omega
  rw [td] at h1
  unfold RX
  rw [tn]
  refine ⟨fun t ht => ?_, fun k hk h5 => ?_⟩
  · by_cases e : t = n
    · subst e
      have a1 : yK Y (t : Int) (N + 1) = yd := by rw [yK_S, if_pos ⟨w9, w10⟩]; exact w12
      have a2 : yM Y (t : Int) (N + 1) = yd := by rw [yM_S, if_pos ⟨w9, by omega⟩]; exact w13
      have a3 : fE Y (t : Int) (N + 1) = some N := by
        unfold fE
        rw [fE_none N (fun i q => by rw [e0 i q]; have := hB i q; omega)]
        show (if Y 110 N = (t : Int) then some N else none) = some N
        rw [if_pos w9]
      rw [a1, a2, n3]
      exact ⟨fun _ => rfl, rfl, yd0, ⟨N, a3, by rw [n2]; exact w11⟩, fun h => by omega⟩
    · have tl : t < n := by omega
      obtain ⟨o2, o3, o6⟩ := ho t tl
      obtain ⟨g1, g2, g3, ⟨x, g4, g5⟩, g6⟩ := h1 t tl
      have ne : ¬ Y 110 N = (t : Int) := by rw [w9]; omega
      have a1 : yK Y t (N + 1) = yK D t N := by rw [yK_S, if_neg (fun q => ne q.1)]; exact yK_fr N (fun i q => ⟨e0 i q, e1 i q, e3 i q⟩)
      have a2 : yM Y t (N + 1) = yM D t N := by rw [yM_S, if_neg (fun q => ne q.1)]; exact yM_fr N (fun i q => ⟨e0 i q, e1 i q, e4 i q⟩)
      have a3 : fE Y t (N + 1) = some x := by
        unfold fE
        rw [fE_fr N (fun i q => e0 i q), g4]
      have xl := fE_lt g4
      rw [a1, a2, o2, o3, o6]
      refine ⟨g1, g2, g3, ⟨x, a3, by rw [e2 x xl]; exact g5⟩, fun h => ?_⟩
      have q := g6 h
      rw [← sE_fr N (fun i q => ⟨e0 i q, e1 i q⟩)] at q
      exact sE_mono q
  · by_cases c : k < N
    · rw [e1 k c] at h5
      have q := h2 k (by omega) h5
      rw [e0 k c, sE_fr k (fun i q => ⟨e0 i (by omega), e1 i (by omega)⟩)]
      exact q
    · have ek : k = N := by omega
      rw [ek, w10] at h5
      omega
set_option maxRecDepth 100000 in
set_option maxHeartbeats 4000000 in
theorem ag_trailer {L : Nat} (a0 a1 a2 : Int) : AgI Rel L n_X11_trailer n_X12_trailer [vI a0, vI a1, vI a2] := by
  intro D n hR
  obtain ⟨hA, hL, hW, hN, ⟨c1, c2, c3⟩, hT, hD, hK, hB, hQ, hX, hM, hP, hS⟩ := id hR
  by_cases y1 : 0 ≤ a0 ∧ a0 ≤ 3
  · by_cases y2 : 0 ≤ a1 ∧ a1 ≤ 7
    · by_cases y3 : 0 ≤ a2 ∧ a2 ≤ 100000
      · by_cases f1 : n = 12
        · have g1 : (12 : Int) ≤ (n : Int) := by omega
          have g2 : (n : Int) = 12 := by omega
          refine ⟨-2, D, n, D, ?_, ?_, rfl, rfl, hR⟩
          · rw [dn_X11_trailer, b_X11_trailer_0]
            simp only [z_cd, i10, i11, dnn, rdU, eW, eU, tzC_w, w_shp, w_ptr, Nat.beq_refl, nbz, nb133, nb75, nb55, nb67, n133a, n133b, n75a, n75b, aT, aR, oT, oR, oF, oG, kT, kF, bI, bL, bR, b0, Classical.not_not, not_true_eq_false, not_false_eq_true, and_self, and_true, true_and, ↓reduceIte, decide_true, decide_false, Nat.reduceEqDiff, Nat.reduceLT, Nat.reduceLeDiff, Int.reduceEq, p_isWithin, y1, y2, p_isYard, y3, c1, g1]
          · rw [dn_X12_trailer, b_X12_trailer_0]
            simp only [z_cd, i10, i11, dnn, rdU, eW, eU, tzC_w, w_shp, w_ptr, Nat.beq_refl, nbz, nb133, nb75, nb55, nb67, n133a, n133b, n75a, n75b, aT, aR, oT, oR, oF, oG, kT, kF, bI, bL, bR, b0, Classical.not_not, not_true_eq_false, not_false_eq_true, and_self, and_true, true_and, ↓reduceIte, decide_true, decide_false, Nat.reduceEqDiff, Nat.reduceLT, Nat.reduceLeDiff, Int.reduceEq, p_in, q_isYard, q_isWorth, y1, y2, y3, c2, g2]
        · have g1 : ¬ (12 : Int) ≤ (n : Int) := by omega
          have g2 : ¬ (n : Int) = 12 := by omega
          have hn12 : n < 12 := by omega
          obtain ⟨b1, b2, b3, b4⟩ := id hB
          by_cases f2 : D 81 34 = 60
          · have f3 : 60 ≤ D 13 4 := by omega
            refine ⟨-2, D, n, D, ?_, ?_, rfl, rfl, hR⟩
            · rw [dn_X11_trailer, b_X11_trailer_0]
              simp only [z_cd, i10, i11, dnn, rdU, eW, eU, tzC_w, w_shp, w_ptr, Nat.beq_refl, nbz, nb133, nb75, nb55, nb67, n133a, n133b, n75a, n75b, aT, aR, oT, oR, oF, oG, kT, kF, bI, bL, bR, b0, Classical.not_not, not_true_eq_false, not_false_eq_true, and_self, and_true, true_and, ↓reduceIte, decide_true, decide_false, Nat.reduceEqDiff, Nat.reduceLT, Nat.reduceLeDiff, Int.reduceEq, p_isWithin, y1, y2, p_isYard, y3, c1, g1, p_isFull, f3]
            · rw [dn_X12_trailer, b_X12_trailer_0]
              simp only [z_cd, i10, i11, dnn, rdU, eW, eU, tzC_w, w_shp, w_ptr, Nat.beq_refl, nbz, nb133, nb75, nb55, nb67, n133a, n133b, n75a, n75b, aT, aR, oT, oR, oF, oG, kT, kF, bI, bL, bR, b0, Classical.not_not, not_true_eq_false, not_false_eq_true, and_self, and_true, true_and, ↓reduceIte, decide_true, decide_false, Nat.reduceEqDiff, Nat.reduceLT, Nat.reduceLeDiff, Int.reduceEq, p_in, q_isYard, q_isWorth, y1, y2, y3, c2, g2, f2]
          · have f3 : ¬ 60 ≤ D 13 4 := by omega
            have hbn : tqib (n : Int) 12 = true := tqib_y (by omega) (by omega)
            obtain ⟨X, hX'⟩ : ∃ X, X = tzU (tzU (tzU (tzU (tzU (tzU (tzU (tzU (tzN D (133 + n)) (133 + n) 4 (-9)) (133 + n) 9 100) (133 + n) 0 a0) (133 + n) 3 a1) (133 + n) 1 a2) (133 + n) 2 (D 2 13)) (133 + n) 7 (if a0 = 3 then -18 else 5)) 2 12 (n + 1) := ⟨_, rfl⟩
            obtain ⟨C, hC'⟩ : ∃ C, C = EN X n 0 (D 2 13) a1 := ⟨_, rfl⟩
            obtain ⟨E, hE'⟩ : ∃ E, E = tzU (tzU (tzU (tzU (tzU (tzU (C) 93 n a0) 94 n a1) 95 n (-9)) 97 n a2) 98 n 100) 103 n (if a0 = 3 then -18 else 5) := ⟨_, rfl⟩
            obtain ⟨Y, hY'⟩ : ∃ Y, Y = tzU (EM E n 0 a1 a1) 81 16 (n + 1) := ⟨_, rfl⟩
            have sXq : ∀ (b : Nat) (j : Int), b ≠ 133 + n → ¬ (b = 2 ∧ j = 12) → X b j = D b j := fun b j p q => by
              rw [hX']
              by_cases e2 : b = 2
              · have ne : j ≠ 12 := fun h => q ⟨e2, h⟩
                rw [tzU_k _ _ _ _ ne]
                simp only [rdU, n133a, n133b, n75a, n75b, ↓reduceIte, Nat.reduceEqDiff, Nat.reduceLT, Nat.reduceLeDiff, Int.reduceEq, not_true_eq_false, not_false_eq_true, true_and, and_true, and_self, true_or, or_true, or_false, false_or, ite_self, p, rdN]
              · rw [tzU_o _ _ _ _ e2]
                simp only [rdU, n133a, n133b, n75a, n75b, ↓reduceIte, Nat.reduceEqDiff, Nat.reduceLT, Nat.reduceLeDiff, Int.reduceEq, not_true_eq_false, not_false_eq_true, true_and, and_true, and_self, true_or, or_true, or_false, false_or, ite_self, p, rdN]
            have x13 : X 13 4 = D 13 4 := sXq 13 4 (by omega) (by omega)
            have sCq : ∀ (b : Nat) (j : Int), b ≠ 133 + n → ¬ (b = 2 ∧ j = 12) → ¬ (b = 13 ∧ j = 4) → ¬ (14 ≤ b ∧ b ≤ 17) → C b j = D b j := fun b j p q r s => by
              rw [← sXq b j p q, hC']
              unfold EN
              by_cases e : b = 13
              · rw [tzU_k _ _ _ _ (fun h => r ⟨e, h⟩), tzU_o _ _ _ _ (by omega), tzU_o _ _ _ _ (by omega), tzU_o _ _ _ _ (by omega), tzU_o _ _ _ _ (by omega)]
              · rw [tzU_o _ _ _ _ e, tzU_o _ _ _ _ (by omega), tzU_o _ _ _ _ (by omega), tzU_o _ _ _ _ (by omega), tzU_o _ _ _ _ (by omega)]
            have sEq : ∀ (b : Nat) (j : Int), ¬ (93 ≤ b ∧ b ≤ 103 ∧ j = n) → E b j = C b j := fun b j p => by
              rw [hE']
              have u : ∀ (a : Nat) (x : Int) (F : Nat → Int → Int), 93 ≤ a → a ≤ 103 → tzU F a n x b j = F b j := fun a x F q1 q2 => by
                by_cases e : b = a
                · rw [tzU_k _ _ _ _ (fun h => p ⟨by omega, by omega, h⟩)]
                · rw [tzU_o _ _ _ _ e]
              rw [u 103 _ _ (by omega) (by omega), u 98 _ _ (by omega) (by omega), u 97 _ _ (by omega) (by omega), u 95 _ _ (by omega) (by omega), u 94 _ _ (by omega) (by omega), u 93 _ _ (by omega) (by omega)]
            have e34 : E 81 34 = D 81 34 := (sEq 81 34 (by omega)).trans (sCq 81 34 (by omega) (by omega) (by omega) (by omega))
            have e5 : E 81 5 = D 81 5 := (sEq 81 5 (by omega)).trans (sCq 81 5 (by omega) (by omega) (by omega) (by omega))
            have sYq : ∀ (b : Nat) (j : Int), ¬ (110 ≤ b ∧ b ≤ 114) → ¬ (b = 81 ∧ (j = 34 ∨ j = 16)) → Y b j = E b j := fun b j p q => by
              rw [hY']
              unfold EM
              by_cases e : b = 81
              · rw [tzU_k _ _ _ _ (fun h => q ⟨e, Or.inr h⟩), tzU_k _ _ _ _ (fun h => q ⟨e, Or.inl h⟩), tzU_o _ _ _ _ (by omega), tzU_o _ _ _ _ (by omega), tzU_o _ _ _ _ (by omega), tzU_o _ _ _ _ (by omega), tzU_o _ _ _ _ (by omega)]
              · rw [tzU_o _ _ _ _ e, tzU_o _ _ _ _ e, tzU_o _ _ _ _ (by omega), tzU_o _ _ _ _ (by omega), tzU_o _ _ _ _ (by omega), tzU_o _ _ _ _ (by omega), tzU_o _ _ _ _ (by omega)]
            have sY : ∀ (b : Nat) (j : Int), b ≠ 133 + n → ¬ (b = 2 ∧ j = 12) → ¬ (b = 13 ∧ j = 4) → ¬ (14 ≤ b ∧ b ≤ 17) → ¬ (93 ≤ b ∧ b ≤ 103 ∧ j = n) → ¬ (110 ≤ b ∧ b ≤ 114) → ¬ (b = 81 ∧ (j = 34 ∨ j = 16)) → Y b j = D b j := fun b j p1 p2 p3 p4 p5 p6 p7 => (sYq b j p6 p7).trans ((sEq b j p5).trans (sCq b j p1 p2 p3 p4))
            have yX : ∀ j : Int, Y (133 + n) j = X (133 + n) j := fun j => by
              rw [sYq _ j (by omega) (by omega), sEq _ j (by omega), hC']
              unfold EN
              rw [tzU_o _ _ _ _ (by omega), tzU_o _ _ _ _ (by omega), tzU_o _ _ _ _ (by omega), tzU_o _ _ _ _ (by omega), tzU_o _ _ _ _ (by omega)]
            have xv : X (133 + n) 0 = a0 ∧ X (133 + n) 1 = a2 ∧ X (133 + n) 2 = D 2 13 ∧ X (133 + n) 3 = a1 ∧ X (133 + n) 4 = -9 ∧ X (133 + n) 5 = 0 ∧ X (133 + n) 6 = 0 ∧ X (133 + n) 7 = (if a0 = 3 then -18 else 5) ∧ X (133 + n) 8 = 0 ∧ X (133 + n) 9 = 100 ∧ X (133 + n) 10 = 0 ∧ X (133 + n) 11 = 0 ∧ X (133 + n) 12 = 0 := by
              rw [hX']
              refine ⟨?_, ?_, ?_, ?_, ?_, ?_, ?_, ?_, ?_, ?_, ?_, ?_, ?_⟩ <;> simp only [rdU, n133a, n133b, n75a, n75b, ↓reduceIte, Nat.reduceEqDiff, Nat.reduceLT, Nat.reduceLeDiff, Int.reduceEq, not_true_eq_false, not_false_eq_true, true_and, and_true, and_self, true_or, or_true, or_false, false_or, ite_self, rdN]
            obtain ⟨x0, x1, x2, x3, x4, x5, x6, x7, x8, x9, x10, x11, x12⟩ := xv
            have ev : ∀ j : Int, Y 93 j = E 93 j ∧ Y 94 j = E 94 j ∧ Y 95 j = E 95 j ∧ Y 97 j = E 97 j ∧ Y 98 j = E 98 j ∧ Y 103 j = E 103 j := fun j => ⟨sYq _ _ (by omega) (by omega), sYq _ _ (by omega) (by omega), sYq _ _ (by omega) (by omega), sYq _ _ (by omega) (by omega), sYq _ _ (by omega) (by omega), sYq _ _ (by omega) (by omega)⟩
            have en : E 93 n = a0 ∧ E 94 n = a1 ∧ E 95 n = -9 ∧ E 97 n = a2 ∧ E 98 n = 100 ∧ E 103 n = (if a0 = 3 then -18 else 5) := by
              rw [hE']
              refine ⟨?_, ?_, ?_, ?_, ?_, ?_⟩ <;> simp only [rdU, n133a, n133b, n75a, n75b, ↓reduceIte, Nat.reduceEqDiff, Nat.reduceLT, Nat.reduceLeDiff, Int.reduceEq, not_true_eq_false, not_false_eq_true, true_and, and_true, and_self, true_or, or_true, or_false, false_or, ite_self]
            obtain ⟨v1, v2, v3, v4, v5, v6⟩ := ev n
            obtain ⟨u1, u2, u3, u4, u5, u6⟩ := en
            have z := hT.2 n (by omega) hn12
            have t96 : Y 96 n = 0 := by
              rw [sYq 96 n (by omega) (by omega), hE']
              simp only [rdU, n133a, n133b, n75a, n75b, ↓reduceIte, Nat.reduceEqDiff, Nat.reduceLT, Nat.reduceLeDiff, Int.reduceEq, not_true_eq_false, not_false_eq_true, true_and, and_true, and_self, true_or, or_true, or_false, false_or, ite_self]
              exact (sCq 96 n (by omega) (by omega) (by omega) (by omega)).trans z.1
            have t102 : Y 102 n = 0 := by
              rw [sYq 102 n (by omega) (by omega), hE']
              simp only [rdU, n133a, n133b, n75a, n75b, ↓reduceIte, Nat.reduceEqDiff, Nat.reduceLT, Nat.reduceLeDiff, Int.reduceEq, not_true_eq_false, not_false_eq_true, true_and, and_true, and_self, true_or, or_true, or_false, false_or, ite_self]
              exact (sCq 102 n (by omega) (by omega) (by omega) (by omega)).trans z.2.1
            have t104 : Y 104 n = 0 := (sY 104 n (by omega) (by omega) (by omega) (by omega) (by omega) (by omega) (by omega)).trans z.2.2
            have t99 : Y 99 n = 0 := by
              rw [sYq 99 n (by omega) (by omega), hE']
              simp only [rdU, n133a, n133b, n75a, n75b, ↓reduceIte, Nat.reduceEqDiff, Nat.reduceLT, Nat.reduceLeDiff, Int.reduceEq, not_true_eq_false, not_false_eq_true, true_and, and_true, and_self, true_or, or_true, or_false, false_or, ite_self]
              exact (sCq 99 n (by omega) (by omega) (by omega) (by omega)).trans (hD.2 n (by omega) hn12)
            have w : New D Y n 0 a1 a1 := EM_new (D := D) (D1 := X) (D2 := E) (D3 := Y) (t := n) (s := 0) (m := D 2 13) (h := a1) (y := a1) hB.1 x13 hN.1 (fun b j p => sXq b j (by omega) (by omega)) (fun b j p => by rw [← hC']; exact sEq b j (by omega)) (fun b j p => by
              rw [hY']
              by_cases e : b = 81
              · rw [tzU_k _ _ _ _ (by omega)]
              · rw [tzU_o _ _ _ _ e])
            have lim : -2147483648 ≤ (if a0 = 3 then -18 else 5) ∧ (if a0 = 3 then -18 else 5) < 2147483648 := by
              by_cases c : a0 = 3
              · rw [if_pos c]; omega
              · rw [if_neg c]; omega
            have hRY : Rel Y (n + 1) := by
              refine ⟨?_, ?_, ?_, ?_, ?_, ?_, ?_, ?_, ?_, ?_, ?_, ?_, ?_, ?_⟩
              · exact RA_fr (fun b j p => by unfold PA at p; exact sY b j (by omega) (by omega) (by omega) (by omega) (by omega) (by omega) (by omega)) hA
              · exact RL_fr (fun b j p => by unfold PL at p; exact sY b j (by omega) (by omega) (by omega) (by omega) (by omega) (by omega) (by omega)) hL
              · exact RW_fr (fun b j p => by unfold PW at p; exact sY b j (by omega) (by omega) (by omega) (by omega) (by omega) (by omega) (by omega)) hW
              · exact RN_fr (fun b j p => by unfold PN at p; exact sY b j (by omega) (by omega) (by omega) (by omega) (by omega) (by omega) (by omega)) hN
              · refine ⟨?_, ?_, by omega⟩
                · rw [sYq 2 12 (by omega) (by omega), sEq 2 12 (by omega), hC']
                  unfold EN
                  rw [tzU_o _ _ _ _ (by omega), tzU_o _ _ _ _ (by omega), tzU_o _ _ _ _ (by omega), tzU_o _ _ _ _ (by omega), tzU_o _ _ _ _ (by omega), hX', tzU_s]
                  omega
                · rw [hY', tzU_s]; omega
              · refine ⟨fun t ht => ?_, fun t q1 q2 => ?_⟩
                · by_cases e : t = n
                  · subst e
                    unfold TR
                    rw [yX, yX, yX, yX, yX, yX, yX, yX, yX, v1, v2, v3, v4, v5, v6, u1, u2, u3, u4, u5, u6, t96, t102, t104, x0, x1, x3, x4, x5, x6, x7, x8, x9]
                    unfold in32
                    omega
                  · exact TR_fr (fun j _ _ => sY _ _ (by omega) (by omega) (by omega) (by omega) (by omega) (by omega) (by omega)) (fun b q1 q2 q3 q4 q5 => sY _ _ (by omega) (by omega) (by omega) (by omega) (by omega) (by omega) (by omega)) (hT.1 t (by omega))
                · have k := hT.2 t (by omega) q2
                  rw [sY 96 t (by omega) (by omega) (by omega) (by omega) (by omega) (by omega) (by omega), sY 102 t (by omega) (by omega) (by omega) (by omega) (by omega) (by omega) (by omega), sY 104 t (by omega) (by omega) (by omega) (by omega) (by omega) (by omega) (by omega)]
                  exact k
              · refine ⟨fun t ht => ?_, fun t q1 q2 => ?_⟩
                · by_cases e : t = n
                  · subst e
                    unfold LD
                    rw [yX, yX, yX, t99, x10, x11, x12]
                    exact ⟨rfl, by omega, by omega, rfl, rfl, fun k hk => by omega⟩
                  · exact LD_fr (fun j _ _ => sY _ _ (by omega) (by omega) (by omega) (by omega) (by omega) (by omega) (by omega)) (sY _ _ (by omega) (by omega) (by omega) (by omega) (by omega) (by omega) (by omega)) (fun k hk => ⟨by
                      rw [sYq 100 _ (by omega) (by omega), hE']
                      simp only [rdU, n133a, n133b, n75a, n75b, ↓reduceIte, Nat.reduceEqDiff, Nat.reduceLT, Nat.reduceLeDiff, Int.reduceEq, not_true_eq_false, not_false_eq_true, true_and, and_true, and_self, true_or, or_true, or_false, false_or, ite_self]
                      exact sCq 100 _ (by omega) (by omega) (by omega) (by omega), by
                      rw [sYq 101 _ (by omega) (by omega), hE']
                      simp only [rdU, n133a, n133b, n75a, n75b, ↓reduceIte, Nat.reduceEqDiff, Nat.reduceLT, Nat.reduceLeDiff, Int.reduceEq, not_true_eq_false, not_false_eq_true, true_and, and_true, and_self, true_or, or_true, or_false, false_or, ite_self]
                      exact sCq 101 _ (by omega) (by omega) (by omega) (by omega)⟩) (hD.1 t (by omega))
                · rw [sY 99 t (by omega) (by omega) (by omega) (by omega) (by omega) (by omega) (by omega)]
                  exact hD.2 t (by omega) q2
              · intro k hk
                have q := KR_fr (D' := Y) (fun j _ _ => sY _ _ (by omega) (by omega) (by omega) (by omega) (by omega) (by omega) (by omega)) (fun b q1 q2 => sY _ _ (by omega) (by omega) (by omega) (by omega) (by omega) (by omega) (by omega)) (hK k hk)
                unfold KR at q ⊢
                omega
              · exact RB_new (n := n + 1) ⟨b1, b2, b3, fun e he => by
                  have q := b4 e he
                  unfold ER at q ⊢
                  omega⟩ hN (by omega) w (by omega) (by omega) (fun _ => y2) (fun h => by omega)
              · exact RQ_new hQ w
              · exact RX_add (N := (D 81 34).toNat) hX (by omega) (fun e he => by have q := b4 e (by omega); unfold ER at q; omega) w (fun u hu => ⟨sY _ _ (by omega) (by omega) (by omega) (by omega) (by omega) (by omega) (by omega), sY _ _ (by omega) (by omega) (by omega) (by omega) (by omega) (by omega) (by omega), sY _ _ (by omega) (by omega) (by omega) (by omega) (by omega) (by omega) (by omega)⟩) (by rw [yX, x2]; exact hN.1) (by rw [yX, x3]) (by rw [yX, x6]) y2.1
              · exact RM_fr (fun b j p => by unfold PM at p; exact sY b j (by omega) (by omega) (by omega) (by omega) (by omega) (by omega) (by omega)) hM
              · exact RP_fr (fun b j p => by unfold PP at p; exact sY b j (by omega) (by omega) (by omega) (by omega) (by omega) (by omega) (by omega)) hP
              · exact RS_fr (fun b j p => by unfold PS at p; exact sY b j (by omega) (by omega) (by omega) (by omega) (by omega) (by omega) (by omega)) hS
            have k16 : C 81 16 = n := (sCq 81 16 (by omega) (by omega) (by omega) (by omega)).trans c2
            have k34 : C 81 34 = D 81 34 := sCq 81 34 (by omega) (by omega) (by omega) (by omega)
            have pe := p_enter 1396 X L (n + 1) n 0 (D 2 13) a1 (by rw [x13]; omega) (by rw [x13]; omega)
            have qe := q_enter 1397 E L (n + 1) n 0 a1 a1 (by rw [e34]; omega) (by rw [e34]; omega)
            have m16 : EM E n 0 a1 a1 81 16 = n := by
              unfold EM
              rw [tzU_k _ _ _ _ (by omega), tzU_o _ _ _ _ (by omega), tzU_o _ _ _ _ (by omega), tzU_o _ _ _ _ (by omega), tzU_o _ _ _ _ (by omega), tzU_o _ _ _ _ (by omega), sEq 81 16 (by omega)]
              exact k16
            have d1C : C 1 = D 1 := by
              funext j
              exact sCq 1 j (by omega) (by omega) (by omega) (by omega)
            have d1Y : Y 1 = D 1 := by
              funext j
              exact sY 1 j (by omega) (by omega) (by omega) (by omega) (by omega) (by omega) (by omega)
            have w1 : w32 ((n : Int) + 1) = (n : Int) + 1 := w32_i (by omega) (by omega)
            have w2 : w32 ((n : Int) + 1 - 1) = (n : Int) := (w32_i (x := (n : Int) + 1 - 1) (by clear w1; omega) (by clear w1; omega)).trans (by clear w1; omega)
            refine ⟨n, C, n + 1, Y, ?_, ?_, d1C, d1Y, hRY⟩
            · rw [hX'] at pe
              rw [hC', hX']
              rw [dn_X11_trailer, b_X11_trailer_0]
              simp only [z_cd, i10, i11, dnn, rdU, eW, eU, tzC_w, w_shp, w_ptr, Nat.beq_refl, nbz, nb133, nb75, nb55, nb67, n133a, n133b, n75a, n75b, aT, aR, oT, oR, oF, oG, kT, kF, bI, bL, bR, b0, Classical.not_not, not_true_eq_false, not_false_eq_true, and_self, and_true, true_and, ↓reduceIte, decide_true, decide_false, Nat.reduceEqDiff, Nat.reduceLT, Nat.reduceLeDiff, Int.reduceEq, p_isWithin, y1, y2, p_isYard, y3, c1, g1, p_isFull, f3, e_new, e_sz, eV, eVU, V_2, V_6, V_n, rdN, p_init, hbn, e_tp _ L n hn12, w1, pe]
            · rw [hE'] at qe
              rw [hY']
              have fin : tqrun tqP (1398 + 1) tqc_X12_trailer 117 [vR 81, vI a0, vI a1, vI a2] [vI (if a0 = 3 then -18 else 5), vI (n : Int), vR 103] (tzW (tzU (tzU (tzU (tzU (tzU C 93 n a0) 94 n a1) 95 n (-9)) 97 n a2) 98 n 100) L (n + 1)) = some (some (vI (n : Int)), tzW (tzU (EM E n 0 a1 a1) 81 16 (n + 1)) L (n + 1)) := by
                rw [b_X12_trailer_117]
                rw [hE'] at m16 ⊢
                simp only [z_cd, i10, i11, dnn, rdU, eW, eU, tzC_w, w_shp, w_ptr, Nat.beq_refl, nbz, nb133, nb75, nb55, nb67, n133a, n133b, n75a, n75b, aT, aR, oT, oR, oF, oG, kT, kF, bI, bL, bR, b0, Classical.not_not, not_true_eq_false, not_false_eq_true, and_self, and_true, true_and, ↓reduceIte, decide_true, decide_false, Nat.reduceEqDiff, Nat.reduceLT, Nat.reduceLeDiff, Int.reduceEq, hbn, k16, qe, m16, w1, w2]
              rw [← fin]
              by_cases c : a0 = 3
              · have c' : (a0 = 3) = True := eq_true c
                rw [if_pos c]
                rw [dn_X12_trailer, b_X12_trailer_0]
                simp only [z_cd, i10, i11, dnn, rdU, eW, eU, tzC_w, w_shp, w_ptr, Nat.beq_refl, nbz, nb133, nb75, nb55, nb67, n133a, n133b, n75a, n75b, aT, aR, oT, oR, oF, oG, kT, kF, bI, bL, bR, b0, Classical.not_not, not_true_eq_false, not_false_eq_true, and_self, and_true, true_and, ↓reduceIte, decide_true, decide_false, Nat.reduceEqDiff, Nat.reduceLT, Nat.reduceLeDiff, Int.reduceEq, p_in, q_isYard, q_isWorth, y1, y2, y3, k16, g2, k34, f2, hbn, c']
              · rw [if_neg c]
                rw [dn_X12_trailer, b_X12_trailer_0]
                simp only [z_cd, i10, i11, dnn, rdU, eW, eU, tzC_w, w_shp, w_ptr, Nat.beq_refl, nbz, nb133, nb75, nb55, nb67, n133a, n133b, n75a, n75b, aT, aR, oT, oR, oF, oG, kT, kF, bI, bL, bR, b0, Classical.not_not, not_true_eq_false, not_false_eq_true, and_self, and_true, true_and, ↓reduceIte, decide_true, decide_false, Nat.reduceEqDiff, Nat.reduceLT, Nat.reduceLeDiff, Int.reduceEq, p_in, q_isYard, q_isWorth, y1, y2, y3, k16, g2, k34, f2, hbn, c]
      · refine ⟨-1, D, n, D, ?_, ?_, rfl, rfl, hR⟩
        · rw [dn_X11_trailer, b_X11_trailer_0]
          simp only [z_cd, i10, i11, dnn, rdU, eW, eU, tzC_w, w_shp, w_ptr, Nat.beq_refl, nbz, nb133, nb75, nb55, nb67, n133a, n133b, n75a, n75b, aT, aR, oT, oR, oF, oG, kT, kF, bI, bL, bR, b0, Classical.not_not, not_true_eq_false, not_false_eq_true, and_self, and_true, true_and, ↓reduceIte, decide_true, decide_false, Nat.reduceEqDiff, Nat.reduceLT, Nat.reduceLeDiff, Int.reduceEq, p_isWithin, y1, y2, p_isYard, y3]
        · rw [dn_X12_trailer, b_X12_trailer_0]
          simp only [z_cd, i10, i11, dnn, rdU, eW, eU, tzC_w, w_shp, w_ptr, Nat.beq_refl, nbz, nb133, nb75, nb55, nb67, n133a, n133b, n75a, n75b, aT, aR, oT, oR, oF, oG, kT, kF, bI, bL, bR, b0, Classical.not_not, not_true_eq_false, not_false_eq_true, and_self, and_true, true_and, ↓reduceIte, decide_true, decide_false, Nat.reduceEqDiff, Nat.reduceLT, Nat.reduceLeDiff, Int.reduceEq, p_in, q_isYard, q_isWorth, y1, y2, y3]
    · refine ⟨-1, D, n, D, ?_, ?_, rfl, rfl, hR⟩
      · rw [dn_X11_trailer, b_X11_trailer_0]
        simp only [z_cd, i10, i11, dnn, rdU, eW, eU, tzC_w, w_shp, w_ptr, Nat.beq_refl, nbz, nb133, nb75, nb55, nb67, n133a, n133b, n75a, n75b, aT, aR, oT, oR, oF, oG, kT, kF, bI, bL, bR, b0, Classical.not_not, not_true_eq_false, not_false_eq_true, and_self, and_true, true_and, ↓reduceIte, decide_true, decide_false, Nat.reduceEqDiff, Nat.reduceLT, Nat.reduceLeDiff, Int.reduceEq, p_isWithin, y1, y2, p_isYard]
      · rw [dn_X12_trailer, b_X12_trailer_0]
        simp only [z_cd, i10, i11, dnn, rdU, eW, eU, tzC_w, w_shp, w_ptr, Nat.beq_refl, nbz, nb133, nb75, nb55, nb67, n133a, n133b, n75a, n75b, aT, aR, oT, oR, oF, oG, kT, kF, bI, bL, bR, b0, Classical.not_not, not_true_eq_false, not_false_eq_true, and_self, and_true, true_and, ↓reduceIte, decide_true, decide_false, Nat.reduceEqDiff, Nat.reduceLT, Nat.reduceLeDiff, Int.reduceEq, p_in, q_isYard, q_isWorth, y1, y2]
  · refine ⟨-1, D, n, D, ?_, ?_, rfl, rfl, hR⟩
    · rw [dn_X11_trailer, b_X11_trailer_0]
      simp only [z_cd, i10, i11, dnn, rdU, eW, eU, tzC_w, w_shp, w_ptr, Nat.beq_refl, nbz, nb133, nb75, nb55, nb67, n133a, n133b, n75a, n75b, aT, aR, oT, oR, oF, oG, kT, kF, bI, bL, bR, b0, Classical.not_not, not_true_eq_false, not_false_eq_true, and_self, and_true, true_and, ↓reduceIte, decide_true, decide_false, Nat.reduceEqDiff, Nat.reduceLT, Nat.reduceLeDiff, Int.reduceEq, p_isWithin, y1]
    · rw [dn_X12_trailer, b_X12_trailer_0]
      simp only [z_cd, i10, i11, dnn, rdU, eW, eU, tzC_w, w_shp, w_ptr, Nat.beq_refl, nbz, nb133, nb75, nb55, nb67, n133a, n133b, n75a, n75b, aT, aR, oT, oR, oF, oG, kT, kF, bI, bL, bR, b0, Classical.not_not, not_true_eq_false, not_false_eq_true, and_self, and_true, true_and, ↓reduceIte, decide_true, decide_false, Nat.reduceEqDiff, Nat.reduceLT, Nat.reduceLeDiff, Int.reduceEq, p_in, y1]
