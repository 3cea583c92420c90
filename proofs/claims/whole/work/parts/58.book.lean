/-- the entry with a number among those of one trailer, from i on -/
def bE (D : Nat → Int → Int) (t : Int) : Nat → Int → Int → Int
  | 0, _, _ => -9
  | j + 1, l, i => if D 110 i = t then (if l = 0 then i else bE D t j (w32 (l + -1)) (i + 1)) else bE D t j l (i + 1)
theorem bE_S (D : Nat → Int → Int) (t : Int) (j : Nat) (l i : Int) : bE D t (j + 1) l i = if D 110 i = t then (if l = 0 then i else bE D t j (w32 (l + -1)) (i + 1)) else bE D t j l (i + 1) := rfl
theorem w32_m {l : Int} (h : in32 l) : (w32 (l + -1) = l - 1 ∧ -2147483648 < l) ∨ (w32 (l + -1) = 2147483647 ∧ l = -2147483648) := by
  unfold in32 at h
  by_cases c : l = -2147483648
  · right; rw [c]; exact ⟨by decide, rfl⟩
  · left; exact ⟨(w32_id (x := l + -1) ⟨by omega, by omega⟩).trans (by omega), by omega⟩
theorem bE_neg (D : Nat → Int → Int) (t : Int) : ∀ (j : Nat) (l i : Int), j ≤ 60 → in32 l → (l < 0 ∨ (j : Int) ≤ l) → bE D t j l i = -9
  | 0, _, _, _, _, _ => rfl
  | j + 1, l, i, hj, h, c => by
    rw [bE_S]
    have nl : ¬ l = 0 := by omega
    by_cases k : D 110 i = t
    · rw [if_pos k, if_neg nl]
      have q := w32_m h
      unfold in32 at h
      obtain ⟨z, hz⟩ : ∃ z, z = w32 (l + -1) := ⟨_, rfl⟩
      rw [← hz] at q ⊢
      clear hz
      exact bE_neg D t j z (i + 1) (by omega) (by unfold in32; omega) (by omega)
    · rw [if_neg k]
      exact bE_neg D t j l (i + 1) (by omega) h (by omega)
theorem bE_nE (D : Nat → Int → Int) (t : Int) : ∀ (j : Nat) (l i : Int), 0 ≤ i → 0 ≤ l → l ≤ 2147483647 → (nE D t j i = -9 → bE D t j l i = -9) ∧ (∀ k : Int, nE D t j i = k → 0 ≤ k → (l = 0 → bE D t j l i = k) ∧ (∀ u : Nat, k + 1 + u = i + j → 0 < l → bE D t j l i = bE D t u (l - 1) (k + 1)))
  | 0, l, i, hi, _, _ => by
    refine ⟨fun _ => rfl, fun k hk k0 => ?_⟩
    have : nE D t 0 i = -9 := rfl
    omega
  | j + 1, l, i, hi, h0, h1 => by
    have ih := bE_nE D t j l (i + 1) (by omega) h0 h1
    rw [nE_S, bE_S]
    by_cases c : D 110 i = t
    · rw [if_pos c, if_pos c]
      refine ⟨fun q => by omega, fun k hk k0 => ⟨fun l0 => by rw [if_pos l0]; exact hk, fun u hu lp => ?_⟩⟩
      have w : w32 (l + -1) = l - 1 := (w32_id (x := l + -1) ⟨by omega, by omega⟩).trans (by omega)
      rw [if_neg (by clear w; omega), w]
      clear w
      have uj : u = j := by omega
      rw [uj, ← hk]
    · rw [if_neg c, if_neg c]
      refine ⟨ih.1, fun k hk k0 => ⟨(ih.2 k hk k0).1, fun u hu lp => (ih.2 k hk k0).2 u (by omega) lp⟩⟩
theorem bE_in (D : Nat → Int → Int) (t : Int) : ∀ (j : Nat) (l i : Int), 0 ≤ i → bE D t j l i = -9 ∨ (i ≤ bE D t j l i ∧ bE D t j l i < i + j)
  | 0, _, i, _ => Or.inl rfl
  | j + 1, l, i, h => by
    rw [bE_S]
    by_cases c : D 110 i = t
    · rw [if_pos c]
      by_cases c2 : l = 0
      · rw [if_pos c2]; right; omega
      · rw [if_neg c2]
        rcases bE_in D t j (w32 (l + -1)) (i + 1) (by omega) with q | q
        · exact Or.inl q
        · obtain ⟨z, hz⟩ : ∃ z, z = bE D t j (w32 (l + -1)) (i + 1) := ⟨_, rfl⟩
          rw [← hz] at q ⊢
          clear hz
          right; omega
    · rw [if_neg c]
      rcases bE_in D t j l (i + 1) (by omega) with q | q
      · exact Or.inl q
      · right; omega
set_option maxRecDepth 100000 in
set_option maxHeartbeats 400000 in
theorem p_eO (d : Nat) (D : Nat → Int → Int) (L n : Nat) (t : Int) {N : Int} (h : BE D N) : ∀ (j : Nat) (l i : Int), 0 ≤ i → i + j = N → tqrun tqP (d + 1) tqc_X1_entryOf 5 [vR 13, vI t, vU, vI l, vI i] [] (tzW D L n) = some (some (vI (bE D t j l i)), tzW D L n)
  | 0, l, i, h0, h1 => by
    have c : N ≤ i := by omega
    rw [b_X1_entryOf_5]
    simp only [z_cd, i10, i11, dnn, rdU, eW, eU, tzC_w, w_shp, w_ptr, Nat.beq_refl, nbz, nb133, nb75, nb55, nb67, n133a, n133b, n75a, n75b, aT, aR, oT, oR, oF, oG, kT, kF, bI, bL, bR, b0, Classical.not_not, not_true_eq_false, not_false_eq_true, and_self, and_true, true_and, ↓reduceIte, decide_true, decide_false, Nat.reduceEqDiff, Nat.reduceLT, Nat.reduceLeDiff, Int.reduceEq, h.1, c]
    rfl
  | j + 1, l, i, h0, h1 => by
    have c : ¬ N ≤ i := by omega
    have i1 : i < N := by omega
    have hb := ib60 h0 i1 h.2.2.2.1
    have g1 := (h.2.2.2.2 i h0 i1).1
    have ih := fun l => p_eO d D L n t h j l (i + 1) (by omega) (by omega)
    have w1 := w32_e h0 i1 h.2.2.2.1
    rw [b_X1_entryOf_5, bE_S]
    by_cases k : D 110 i = t
    · by_cases l0 : l = 0
      · simp only [z_cd, i10, i11, dnn, rdU, eW, eU, tzC_w, w_shp, w_ptr, Nat.beq_refl, nbz, nb133, nb75, nb55, nb67, n133a, n133b, n75a, n75b, aT, aR, oT, oR, oF, oG, kT, kF, bI, bL, bR, b0, Classical.not_not, not_true_eq_false, not_false_eq_true, and_self, and_true, true_and, ↓reduceIte, decide_true, decide_false, Nat.reduceEqDiff, Nat.reduceLT, Nat.reduceLeDiff, Int.reduceEq, h.1, c, hb, g1, k, l0]
      · simp only [z_cd, i10, i11, dnn, rdU, eW, eU, tzC_w, w_shp, w_ptr, Nat.beq_refl, nbz, nb133, nb75, nb55, nb67, n133a, n133b, n75a, n75b, aT, aR, oT, oR, oF, oG, kT, kF, bI, bL, bR, b0, Classical.not_not, not_true_eq_false, not_false_eq_true, and_self, and_true, true_and, ↓reduceIte, decide_true, decide_false, Nat.reduceEqDiff, Nat.reduceLT, Nat.reduceLeDiff, Int.reduceEq, h.1, c, hb, g1, k, l0, w1, ih]
    · simp only [z_cd, i10, i11, dnn, rdU, eW, eU, tzC_w, w_shp, w_ptr, Nat.beq_refl, nbz, nb133, nb75, nb55, nb67, n133a, n133b, n75a, n75b, aT, aR, oT, oR, oF, oG, kT, kF, bI, bL, bR, b0, Classical.not_not, not_true_eq_false, not_false_eq_true, and_self, and_true, true_and, ↓reduceIte, decide_true, decide_false, Nat.reduceEqDiff, Nat.reduceLT, Nat.reduceLeDiff, Int.reduceEq, h.1, c, hb, g1, k, w1, ih]
def tE (D : Nat → Int → Int) (k w : Int) : Int := if k = -9 then -9 else if w = 0 then D 111 k else if w = 1 then D 112 k else D 113 k
set_option maxRecDepth 100000 in
set_option maxHeartbeats 400000 in
theorem p_bsays (d : Nat) (D : Nat → Int → Int) (L n : Nat) {N : Int} (h : BE D N) (k w : Int) (k0 : 0 ≤ k) (k1 : k < N) : tqden tqP (d + 1) n_X1_says [vR 13, vI k, vI w] (tzW D L n) = some (some (vI (tE D k w)), tzW D L n) := by
  have hb := ib60 k0 k1 h.2.2.2.1
  obtain ⟨g1, g2, g3, g4, _⟩ := h.2.2.2.2 k k0 k1
  have q1 : ¬ k < 0 := by omega
  have q2 : ¬ k = -9 := by omega
  rw [dn_X1_says, b_X1_says_0]
  unfold tE
  by_cases w0 : w = 0
  · simp only [z_cd, i10, i11, dnn, rdU, eW, eU, tzC_w, w_shp, w_ptr, Nat.beq_refl, nbz, nb133, nb75, nb55, nb67, n133a, n133b, n75a, n75b, aT, aR, oT, oR, oF, oG, kT, kF, bI, bL, bR, b0, Classical.not_not, not_true_eq_false, not_false_eq_true, and_self, and_true, true_and, ↓reduceIte, decide_true, decide_false, Nat.reduceEqDiff, Nat.reduceLT, Nat.reduceLeDiff, Int.reduceEq, h.1, q1, q2, k1, hb, g2, w0]
  · by_cases w1 : w = 1
    · simp only [z_cd, i10, i11, dnn, rdU, eW, eU, tzC_w, w_shp, w_ptr, Nat.beq_refl, nbz, nb133, nb75, nb55, nb67, n133a, n133b, n75a, n75b, aT, aR, oT, oR, oF, oG, kT, kF, bI, bL, bR, b0, Classical.not_not, not_true_eq_false, not_false_eq_true, and_self, and_true, true_and, ↓reduceIte, decide_true, decide_false, Nat.reduceEqDiff, Nat.reduceLT, Nat.reduceLeDiff, Int.reduceEq, h.1, q1, q2, k1, hb, g3, w0, w1]
    · simp only [z_cd, i10, i11, dnn, rdU, eW, eU, tzC_w, w_shp, w_ptr, Nat.beq_refl, nbz, nb133, nb75, nb55, nb67, n133a, n133b, n75a, n75b, aT, aR, oT, oR, oF, oG, kT, kF, bI, bL, bR, b0, Classical.not_not, not_true_eq_false, not_false_eq_true, and_self, and_true, true_and, ↓reduceIte, decide_true, decide_false, Nat.reduceEqDiff, Nat.reduceLT, Nat.reduceLeDiff, Int.reduceEq, h.1, q1, q2, k1, hb, g4, w0, w1]
set_option maxRecDepth 100000 in
set_option maxHeartbeats 400000 in
theorem q_tE (d : Nat) (D : Nat → Int → Int) (L n : Nat) (t i w k x : Int) (h : i ≤ x ∨ k < 0) (hk : k = -9 ∨ (0 ≤ k ∧ k < 60)) : tqrun tqP (d + 1) tqc_X12_book 39 [vR 81, vI t, vI i, vI w, vI k, vI x] [] (tzW D L n) = some (some (vI (tE D k w)), tzW D L n) := by
  rw [b_X12_book_39]
  unfold tE
  rcases hk with hk | hk
  · subst hk
    by_cases c : i ≤ x
    · simp only [z_cd, i10, i11, dnn, rdU, eW, eU, tzC_w, w_shp, w_ptr, Nat.beq_refl, nbz, nb133, nb75, nb55, nb67, n133a, n133b, n75a, n75b, aT, aR, oT, oR, oF, oG, kT, kF, bI, bL, bR, b0, Classical.not_not, not_true_eq_false, not_false_eq_true, and_self, and_true, true_and, ↓reduceIte, decide_true, decide_false, Nat.reduceEqDiff, Nat.reduceLT, Nat.reduceLeDiff, Int.reduceEq, c, Int.reduceLT, Int.reduceLE, Int.reduceNeg]
    · simp only [z_cd, i10, i11, dnn, rdU, eW, eU, tzC_w, w_shp, w_ptr, Nat.beq_refl, nbz, nb133, nb75, nb55, nb67, n133a, n133b, n75a, n75b, aT, aR, oT, oR, oF, oG, kT, kF, bI, bL, bR, b0, Classical.not_not, not_true_eq_false, not_false_eq_true, and_self, and_true, true_and, ↓reduceIte, decide_true, decide_false, Nat.reduceEqDiff, Nat.reduceLT, Nat.reduceLeDiff, Int.reduceEq, c, Int.reduceLT, Int.reduceLE, Int.reduceNeg]
  · have c : i ≤ x := by omega
    have q1 : ¬ k = -9 := by omega
    have hb : tqib k 60 = true := tqib_y (by omega) (by omega)
    by_cases w0 : w = 0
    · simp only [z_cd, i10, i11, dnn, rdU, eW, eU, tzC_w, w_shp, w_ptr, Nat.beq_refl, nbz, nb133, nb75, nb55, nb67, n133a, n133b, n75a, n75b, aT, aR, oT, oR, oF, oG, kT, kF, bI, bL, bR, b0, Classical.not_not, not_true_eq_false, not_false_eq_true, and_self, and_true, true_and, ↓reduceIte, decide_true, decide_false, Nat.reduceEqDiff, Nat.reduceLT, Nat.reduceLeDiff, Int.reduceEq, c, q1, hk.1, hb, w0]
    · by_cases w1 : w = 1
      · simp only [z_cd, i10, i11, dnn, rdU, eW, eU, tzC_w, w_shp, w_ptr, Nat.beq_refl, nbz, nb133, nb75, nb55, nb67, n133a, n133b, n75a, n75b, aT, aR, oT, oR, oF, oG, kT, kF, bI, bL, bR, b0, Classical.not_not, not_true_eq_false, not_false_eq_true, and_self, and_true, true_and, ↓reduceIte, decide_true, decide_false, Nat.reduceEqDiff, Nat.reduceLT, Nat.reduceLeDiff, Int.reduceEq, c, q1, hk.1, hb, w0, w1]
      · simp only [z_cd, i10, i11, dnn, rdU, eW, eU, tzC_w, w_shp, w_ptr, Nat.beq_refl, nbz, nb133, nb75, nb55, nb67, n133a, n133b, n75a, n75b, aT, aR, oT, oR, oF, oG, kT, kF, bI, bL, bR, b0, Classical.not_not, not_true_eq_false, not_false_eq_true, and_self, and_true, true_and, ↓reduceIte, decide_true, decide_false, Nat.reduceEqDiff, Nat.reduceLT, Nat.reduceLeDiff, Int.reduceEq, c, q1, hk.1, hb, w0, w1]
set_option maxRecDepth 100000 in
set_option maxHeartbeats 400000 in
theorem q_bk (d : Nat) (D : Nat → Int → Int) (L n : Nat) (t i w : Int) {N : Int} (hN : D 81 34 = N) (h6 : N ≤ 60) (hi : i ≤ 2147483647) : ∀ (j : Nat), ∀ (e x : Int), 0 ≤ e → e + j = N → 0 ≤ x → x ≤ i → tqrun tqP (d + 2) tqc_X12_book 39 [vR 81, vI t, vI i, vI w, vI (nE D t j e), vI x] [] (tzW D L n) = some (some (vI (tE D (bE D t j (i - x) e) w)), tzW D L n) := by
  intro j
  induction j using Nat.strongRecOn with
  | ind j ih =>
    intro e x e0 ej x0 xi
    have B := bE_nE D t j (i - x) e e0 (by omega) (by omega)
    rcases nE_in D t j e e0 with q | q
    · rw [B.1 q, q]
      exact q_tE (d + 1) D L n t i w (-9) x (Or.inr (by omega)) (Or.inl rfl)
    · obtain ⟨k, hk⟩ : ∃ k, nE D t j e = k := ⟨_, rfl⟩
      have B2 := B.2 k hk (by omega)
      rw [hk] at q ⊢
      by_cases c : x = i
      · rw [B2.1 (by omega)]
        exact q_tE (d + 1) D L n t i w k x (Or.inl (by omega)) (Or.inr (by omega))
      · obtain ⟨u, hu⟩ : ∃ u : Nat, k + 1 + u = e + j := ⟨(e + j - k - 1).toNat, by omega⟩
        rw [B2.2 u hu (by omega)]
        have I := ih u (by omega) (k + 1) (x + 1) (by omega) (by omega) (by omega) (by omega)
        have E := q_entryFrom d D L n t hN h6 u (k + 1) (by omega) (by omega)
        have d1 : ¬ i ≤ x := by omega
        have d2 : ¬ k < 0 := by omega
        have d3 : i - (x + 1) = i - x - 1 := by omega
        rw [d3] at I
        have g1 : -2147483648 ≤ k + 1 := by omega
        have g2 : k + 1 ≤ 2147483647 := by omega
        have g3 : -2147483648 ≤ x + 1 := by omega
        have g4 : x + 1 ≤ 2147483647 := by omega
        have w1 := w32_i g1 g2
        have w2 := w32_i g3 g4
        rw [b_X12_book_39]
        simp only [z_cd, i10, i11, dnn, rdU, eW, eU, tzC_w, w_shp, w_ptr, Nat.beq_refl, nbz, nb133, nb75, nb55, nb67, n133a, n133b, n75a, n75b, aT, aR, oT, oR, oF, oG, kT, kF, bI, bL, bR, b0, Classical.not_not, not_true_eq_false, not_false_eq_true, and_self, and_true, true_and, ↓reduceIte, decide_true, decide_false, Nat.reduceEqDiff, Nat.reduceLT, Nat.reduceLeDiff, Int.reduceEq, d1, d2, w1, w2, E, I]
set_option maxRecDepth 100000 in
set_option maxHeartbeats 400000 in
theorem ag_book {L : Nat} (a0 a1 a2 : Int) (h1 : in32 a1) : AgI Rel L n_X11_book n_X12_book [vI a0, vI a1, vI a2] := by
  intro D n hR
  obtain ⟨hA, hL, hW, hN, ⟨c1, c2, c3⟩, hT, hD, hK, hB, hQ, hX, hM, hP, hS⟩ := id hR
  by_cases ct : 0 ≤ a0 ∧ a0 < n
  · obtain ⟨t, e⟩ : ∃ t : Nat, a0 = t := ⟨a0.toNat, by omega⟩
    subst e
    have ht : t < n := by omega
    have ht12 : t < 12 := by omega
    have hb : tqib (t : Int) 12 = true := tqib_y (by omega) (by omega)
    have r := hT.1 t ht
    have r2 := r
    have be := BE_of hB
    obtain ⟨N, hNN⟩ : ∃ N : Nat, D 81 34 = N := ⟨(D 81 34).toNat, by have := hB.2.1; omega⟩
    rw [hNN] at be
    have h6 := be.2.2.2.1
    have hi : a1 ≤ 2147483647 := by unfold in32 at h1; omega
    have qO : ∀ d, tqden tqP (d + 1) n_X1_entryOf [vR 13, vI (t : Int), vI a1] (tzW D L n) = some (some (vI (bE D t N a1 0)), tzW D L n) := fun d => by
      rw [dn_X1_entryOf, b_X1_entryOf_0]
      exact p_eO d D L n t be N a1 0 (by omega) (by omega)
    by_cases cw : 0 ≤ a2 ∧ a2 ≤ 2
    · refine ⟨tE D (bE D t N a1 0) a2, D, n, D, ?_, ?_, rfl, rfl, hR⟩
      · have bi := bE_in D t N a1 0 (by omega)
        rw [dn_X11_book, b_X11_book_0]
        simp only [z_cd, i10, i11, dnn, rdU, eW, eU, tzC_w, w_shp, w_ptr, Nat.beq_refl, nbz, nb133, nb75, nb55, nb67, n133a, n133b, n75a, n75b, aT, aR, oT, oR, oF, oG, kT, kF, bI, bL, bR, b0, Classical.not_not, not_true_eq_false, not_false_eq_true, and_self, and_true, true_and, ↓reduceIte, decide_true, decide_false, Nat.reduceEqDiff, Nat.reduceLT, Nat.reduceLeDiff, Int.reduceEq, p_trailerAt_y _ D L n t c1 c3 ht, p_isWithin, cw, qO]
        obtain ⟨k, hk⟩ : ∃ k, bE D t N a1 0 = k := ⟨_, rfl⟩
        rw [hk] at bi ⊢
        by_cases k9 : k = -9
        · rw [if_neg (fun q => q k9)]
          unfold tE
          rw [if_pos k9]
        · rw [if_pos k9, p_bsays _ D L n be k a2 (by omega) (by omega)]
          simp only [z_cd, i10, i11, dnn, rdU, eW, eU, tzC_w, w_shp, w_ptr, Nat.beq_refl, nbz, nb133, nb75, nb55, nb67, n133a, n133b, n75a, n75b, aT, aR, oT, oR, oF, oG, kT, kF, bI, bL, bR, b0, Classical.not_not, not_true_eq_false, not_false_eq_true, and_self, and_true, true_and, ↓reduceIte, decide_true, decide_false, Nat.reduceEqDiff, Nat.reduceLT, Nat.reduceLeDiff, Int.reduceEq]
      · by_cases p : 0 ≤ a1
        · have B := q_bk 1397 D L n t a1 a2 hNN h6 hi N 0 0 (by omega) (by omega) (by omega) p
          have z : a1 - 0 = a1 := by omega
          rw [z] at B
          rw [dn_X12_book, b_X12_book_0]
          simp only [z_cd, i10, i11, dnn, rdU, eW, eU, tzC_w, w_shp, w_ptr, Nat.beq_refl, nbz, nb133, nb75, nb55, nb67, n133a, n133b, n75a, n75b, aT, aR, oT, oR, oF, oG, kT, kF, bI, bL, bR, b0, Classical.not_not, not_true_eq_false, not_false_eq_true, and_self, and_true, true_and, ↓reduceIte, decide_true, decide_false, Nat.reduceEqDiff, Nat.reduceLT, Nat.reduceLeDiff, Int.reduceEq, q_isTrailer _ D L n t c2 c3, ct, p_in, cw, p, q_entryFrom _ D L n t hNN h6 N 0 (by omega) (by omega)]
          exact B
        · have B := q_tE 1398 D L n t a1 a2 (-9) 0 (Or.inr (by omega)) (Or.inl rfl)
          rw [bE_neg D t N a1 0 (by omega) h1 (by omega)]
          rw [dn_X12_book, b_X12_book_0]
          simp only [z_cd, i10, i11, dnn, rdU, eW, eU, tzC_w, w_shp, w_ptr, Nat.beq_refl, nbz, nb133, nb75, nb55, nb67, n133a, n133b, n75a, n75b, aT, aR, oT, oR, oF, oG, kT, kF, bI, bL, bR, b0, Classical.not_not, not_true_eq_false, not_false_eq_true, and_self, and_true, true_and, ↓reduceIte, decide_true, decide_false, Nat.reduceEqDiff, Nat.reduceLT, Nat.reduceLeDiff, Int.reduceEq, q_isTrailer _ D L n t c2 c3, ct, p_in, cw, p]
          exact B
    · refine ⟨-1, D, n, D, ?_, ?_, rfl, rfl, hR⟩
      · rw [dn_X11_book, b_X11_book_0]
        simp only [z_cd, i10, i11, dnn, rdU, eW, eU, tzC_w, w_shp, w_ptr, Nat.beq_refl, nbz, nb133, nb75, nb55, nb67, n133a, n133b, n75a, n75b, aT, aR, oT, oR, oF, oG, kT, kF, bI, bL, bR, b0, Classical.not_not, not_true_eq_false, not_false_eq_true, and_self, and_true, true_and, ↓reduceIte, decide_true, decide_false, Nat.reduceEqDiff, Nat.reduceLT, Nat.reduceLeDiff, Int.reduceEq, p_trailerAt_y _ D L n t c1 c3 ht, p_isWithin, cw]
      · rw [dn_X12_book, b_X12_book_0]
        simp only [z_cd, i10, i11, dnn, rdU, eW, eU, tzC_w, w_shp, w_ptr, Nat.beq_refl, nbz, nb133, nb75, nb55, nb67, n133a, n133b, n75a, n75b, aT, aR, oT, oR, oF, oG, kT, kF, bI, bL, bR, b0, Classical.not_not, not_true_eq_false, not_false_eq_true, and_self, and_true, true_and, ↓reduceIte, decide_true, decide_false, Nat.reduceEqDiff, Nat.reduceLT, Nat.reduceLeDiff, Int.reduceEq, q_isTrailer _ D L n t c2 c3, ct, p_in, cw]
  · refine ⟨-1, D, n, D, ?_, ?_, rfl, rfl, hR⟩
    · rw [dn_X11_book, b_X11_book_0]
      simp only [z_cd, i10, i11, dnn, rdU, eW, eU, tzC_w, w_shp, w_ptr, Nat.beq_refl, nbz, nb133, nb75, nb55, nb67, n133a, n133b, n75a, n75b, aT, aR, oT, oR, oF, oG, kT, kF, bI, bL, bR, b0, Classical.not_not, not_true_eq_false, not_false_eq_true, and_self, and_true, true_and, ↓reduceIte, decide_true, decide_false, Nat.reduceEqDiff, Nat.reduceLT, Nat.reduceLeDiff, Int.reduceEq, p_trailerAt_n _ D L n a0 c1 ct, p_isWithin, p_isYard]
    · rw [dn_X12_book, b_X12_book_0]
      simp only [z_cd, i10, i11, dnn, rdU, eW, eU, tzC_w, w_shp, w_ptr, Nat.beq_refl, nbz, nb133, nb75, nb55, nb67, n133a, n133b, n75a, n75b, aT, aR, oT, oR, oF, oG, kT, kF, bI, bL, bR, b0, Classical.not_not, not_true_eq_false, not_false_eq_true, and_self, and_true, true_and, ↓reduceIte, decide_true, decide_false, Nat.reduceEqDiff, Nat.reduceLT, Nat.reduceLeDiff, Int.reduceEq, q_isTrailer _ D L n a0 c2 c3, ct, p_in, q_isYard]
