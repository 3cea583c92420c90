/-! ===== a new entry of the book ===== -/
def PE (b : Nat) (j : Int) : Prop := (14 ≤ b ∧ b ≤ 17) ∨ (110 ≤ b ∧ b ≤ 114) ∨ (b = 13 ∧ j = 4) ∨ (b = 81 ∧ j = 34)
/-- the memory D' has the entries of D and one more, of trailer t, sort s, holder h and yard y, at now -/
def New (D D' : Nat → Int → Int) (t s h y : Int) : Prop := D' 13 4 = D 13 4 + 1 ∧ D' 81 34 = D 81 34 + 1 ∧ D' 81 5 = D 81 5 ∧ (∀ e : Nat, (e : Int) < D 81 34 → ∀ b : Nat, ((14 ≤ b ∧ b ≤ 17) ∨ (110 ≤ b ∧ b ≤ 114)) → D' b e = D b e) ∧ D' 14 (D 81 34) = t ∧ D' 15 (D 81 34) = s ∧ D' 16 (D 81 34) = D 81 5 ∧ D' 17 (D 81 34) = h ∧ D' 110 (D 81 34) = t ∧ D' 111 (D 81 34) = s ∧ D' 112 (D 81 34) = D 81 5 ∧ D' 113 (D 81 34) = h ∧ D' 114 (D 81 34) = y
theorem RB_new {D D' : Nat → Int → Int} {n : Nat} {t s h y : Int} (hB : RB D n) (hN : RN D) (hf : D 81 34 < 60) (w : New D D' t s h y) (ht : 0 ≤ t ∧ t < n) (hs : 0 ≤ s ∧ s ≤ 5) (h0 : s = 0 → 0 ≤ h ∧ h ≤ 7) (h1 : s = 1 → 0 ≤ h ∧ h ≤ 5) : RB D' n := by
  obtain ⟨b1, b2, b3, b4⟩ := hB
  obtain ⟨w1, w2, w3, w4, w5, w6, w7, w8, w9, w10, w11, w12, w13⟩ := w
  unfold RB
  rw [w1, w2]
  refine ⟨by omega, by omega, by omega, fun e he => ?_⟩
  by_cases c : (e : Int) < D 81 34
  · have q := w4 e c
    unfold ER
    rw [q 14 (by omega), q 15 (by omega), q 16 (by omega), q 17 (by omega), q 110 (by omega), q 111 (by omega), q 112 (by omega), q 113 (by omega)]
    exact b4 e c
  · have ee : (e : Int) = D 81 34 := by omega
    unfold ER
    rw [ee, w5, w6, w7, w8, w9, w10, w11, w12]
    exact ⟨rfl, rfl, rfl, rfl, ht.1, ht.2, hs.1, hs.2, hN.2.1, h0, h1⟩
theorem RQ_new {D D' : Nat → Int → Int} {t s h y : Int} (hQ : RQ D) (w : New D D' t s h y) : RQ D' := by
  obtain ⟨q1, q2⟩ := hQ
  obtain ⟨w1, w2, w3, w4, w5, w6, w7, w8, w9, w10, w11, w12, w13⟩ := w
  have k1 : ∀ e : Nat, (e : Int) < D 81 34 → D' 112 e = D 112 e := fun e he => w4 e he 112 (by omega)
  have k2 : ∀ e : Nat, (e : Int) = D 81 34 → D' 112 e = D 81 5 := fun e he => by rw [he]; exact w11
  unfold RQ
  rw [w2, w3]
  refine ⟨fun e he => ?_, fun e f hef hf => ?_⟩
  · by_cases c : (e : Int) < D 81 34
    · rw [k1 e c]; exact q1 e c
    · rw [k2 e (by omega)]; omega
  · by_cases c : (f : Int) < D 81 34
    · rw [k1 e (by omega), k1 f c]; exact q2 e f hef c
    · rw [k2 f (by omega)]
      by_cases c2 : (e : Int) < D 81 34
      · rw [k1 e c2]; exact q1 e c2
      · rw [k2 e (by omega)]; omega
theorem fE_lt {D : Nat → Int → Int} {t : Int} : ∀ {k e : Nat}, fE D t k = some e → e < k
  | 0, e, h => by cases h
  | k + 1, e, h => by
    unfold fE at h
    split at h
    · rename_i e' he'
      have := fE_lt he'
      cases h; omega
    · split at h
      · cases h; omega
      · cases h
theorem sE_mono {D : Nat → Int → Int} {t : Int} {k : Nat} (h : sE D t k) : sE D t (k + 1) := Or.inr h
/-- the book and the trailers stay in step with a new entry of trailer t -/
theorem RX_new {D D' : Nat → Int → Int} {n t : Nat} {s h y : Int} (hX : RX D n) (h0 : 0 ≤ D 81 34) (w : New D D' t s h y) (ht : t < n) (hf : ∀ u : Nat, u < n → D' (133 + u) 2 = D (133 + u) 2) (ho : ∀ u : Nat, u < n → u ≠ t → D' (133 + u) 3 = D (133 + u) 3 ∧ D' (133 + u) 6 = D (133 + u) 6)
    (hs : (s = 0 ∧ 0 ≤ h ∧ y = h ∧ D' (133 + t) 3 = h ∧ D' (133 + t) 6 = D (133 + t) 6) ∨ (s = 1 ∧ D (133 + t) 3 ≠ -9 ∧ y = D (133 + t) 3 ∧ D' (133 + t) 3 = -9 ∧ D' (133 + t) 6 = D (133 + t) 6) ∨ (s = 2 ∧ D' (133 + t) 3 = -9 ∧ D' (133 + t) 6 = D (133 + t) 6) ∨ ((s = 3 ∨ s = 4) ∧ D' (133 + t) 3 = D (133 + t) 3) ∨ (s = 5 ∧ D (133 + t) 6 = 1 ∧ D' (133 + t) 3 = D (133 + t) 3 ∧ D' (133 + t) 6 = 0)) : RX D' n := by
  obtain ⟨x1, x2⟩ := hX
  obtain ⟨w1, w2, w3, w4, w5, w6, w7, w8, w9, w10, w11, w12, w13⟩ := w
  obtain ⟨N, hN⟩ : ∃ N : Nat, D 81 34 = N := ⟨(D 81 34).toNat, by omega⟩
  have hNt : (D 81 34).toNat = N := by omega
  rw [hN] at w2 w4 w9 w10 w11 w12 w13 x2
  rw [hNt] at x1
  have e0 : ∀ i : Nat, i < N → D' 110 i = D 110 i := fun i hi => w4 i (by omega) 110 (by omega)
  have e1 : ∀ i : Nat, i < N → D' 111 i = D 111 i := fun i hi => w4 i (by omega) 111 (by omega)
  have e2 : ∀ i : Nat, i < N → D' 112 i = D 112 i := fun i hi => w4 i (by omega) 112 (by omega)
  have e3 : ∀ i : Nat, i < N → D' 113 i = D 113 i := fun i hi => w4 i (by omega) 113 (by omega)
  have e4 : ∀ i : Nat, i < N → D' 114 i = D 114 i := fun i hi => w4 i (by omega) 114 (by omega)
  have yk : ∀ u : Int, yK D' u N = yK D u N := fun u => yK_fr N (fun i q => ⟨e0 i q, e1 i q, e3 i q⟩)
  have ym : ∀ u : Int, yM D' u N = yM D u N := fun u => yM_fr N (fun i q => ⟨e0 i q, e1 i q, e4 i q⟩)
  have fe : ∀ u : Int, fE D' u N = fE D u N := fun u => fE_fr N (fun i q => e0 i q)
  have se : ∀ (u : Int) (k : Nat), k ≤ N → sE D' u k = sE D u k := fun u k hk => sE_fr k (fun i q => ⟨e0 i (by omega), e1 i (by omega)⟩)
  have z : (D' 81 34).toNat = N + 1 := by omega
  unfold RX
  rw [z]
  refine ⟨fun u hu => ?_, fun k hk h5 => ?_⟩
  · obtain ⟨g1, g2, g3, ⟨x, g4, g5⟩, g6⟩ := x1 u hu
    have gf : ∃ e : Nat, fE D' u (N + 1) = some e ∧ D' 112 e = D' (133 + u) 2 := by
      refine ⟨x, ?_, ?_⟩
      · unfold fE; rw [fe, g4]
      · rw [hf u hu, e2 x (fE_lt g4)]; exact g5
    have k1 : yK D' u (N + 1) = if (t : Int) = u ∧ s = 0 then h else yK D u N := by
      show (if D' 110 N = u ∧ D' 111 N = 0 then D' 113 N else yK D' u N) = _
      rw [w9, w10, w12, yk]
    have k2 : yM D' u (N + 1) = if (t : Int) = u ∧ s < 2 then y else yM D u N := by
      show (if D' 110 N = u ∧ D' 111 N < 2 then D' 114 N else yM D' u N) = _
      rw [w9, w10, w13, ym]
    have k3 : sE D' u (N + 1) = (((t : Int) = u ∧ (s = 3 ∨ s = 4)) ∨ sE D u N) := by
      show ((D' 110 N = u ∧ (D' 111 N = 3 ∨ D' 111 N = 4)) ∨ sE D' u N) = _
      rw [w9, w10, se u N (Nat.le_refl _)]
    by_cases cu : u = t
    · subst cu
      rcases hs with ⟨s1, s2, s3, s4, s5⟩ | ⟨s1, s2, s3, s4, s5⟩ | ⟨s1, s4, s5⟩ | ⟨s1, s4⟩ | ⟨s1, s2, s4, s5⟩
      · rw [if_pos ⟨rfl, s1⟩] at k1
        rw [if_pos ⟨rfl, by omega⟩] at k2
        rw [k1, k2, k3, s4, s5]
        exact ⟨fun _ => rfl, s3.symm, s2, gf, fun q => Or.inr (g6 q)⟩
      · rw [if_neg (by omega)] at k1
        rw [if_pos ⟨rfl, by omega⟩] at k2
        rw [k1, k2, k3, s4, s5]
        exact ⟨fun q => absurd rfl q, by rw [s3]; exact g1 s2, g3, gf, fun q => Or.inr (g6 q)⟩
      · rw [if_neg (by omega)] at k1
        rw [if_neg (by omega)] at k2
        rw [k1, k2, k3, s4, s5]
        exact ⟨fun q => absurd rfl q, g2, g3, gf, fun q => Or.inr (g6 q)⟩
      · rw [if_neg (by omega)] at k1
        rw [if_neg (by omega)] at k2
        rw [k1, k2, k3, s4]
        exact ⟨g1, g2, g3, gf, fun _ => Or.inl ⟨rfl, s1⟩⟩
      · rw [if_neg (by omega)] at k1
        rw [if_neg (by omega)] at k2
        rw [k1, k2, k3, s4, s5]
        exact ⟨g1, g2, g3, gf, fun q => absurd q (by omega)⟩
    · rw [if_neg (by omega)] at k1
      rw [if_neg (by omega)] at k2
      rw [k1, k2, k3, (ho u hu cu).1, (ho u hu cu).2]
      exact ⟨g1, g2, g3, gf, fun q => Or.inr (g6 q)⟩
  · by_cases c : k < N
    · rw [e0 k c, se _ k (by omega)]
      rw [e1 k c] at h5
      exact x2 k (by omega) h5
    · have ck : k = N := by omega
      subst ck
      rw [w10] at h5
      rw [w9, se _ k (Nat.le_refl _)]
      rcases hs with ⟨s1, _⟩ | ⟨s1, _⟩ | ⟨s1, _⟩ | ⟨s1, _⟩ | ⟨s1, s2, _⟩
      · omega
      · omega
      · omega
      · omega
      · exact (x1 t ht).2.2.2.2 s2
theorem EM_new {D : Nat → Int → Int} {D1 : Nat → Int → Int} {t s m h y : Int} (hB : D 13 4 = D 81 34) (h13 : D1 13 4 = D 13 4) (hm : m = D 81 5) (s1 : Sm (fun b j => (14 ≤ b ∧ b ≤ 17) ∨ (110 ≤ b ∧ b ≤ 114) ∨ (b = 81 ∧ (j = 34 ∨ j = 5))) D D1) {D2 : Nat → Int → Int} (s2 : Sm (fun b j => (14 ≤ b ∧ b ≤ 17) ∨ (110 ≤ b ∧ b ≤ 114) ∨ (b = 81 ∧ (j = 34 ∨ j = 5)) ∨ (b = 13 ∧ j = 4)) (EN D1 t s m h) D2) {D3 : Nat → Int → Int} (s3 : Sm (fun b j => (14 ≤ b ∧ b ≤ 17) ∨ (110 ≤ b ∧ b ≤ 114) ∨ (b = 81 ∧ (j = 34 ∨ j = 5)) ∨ (b = 13 ∧ j = 4)) (EM D2 t s h y) D3) : New D D3 t s h y := by
  have a34 : D1 81 34 = D 81 34 := s1 81 34 (by omega)
  have a5 : D1 81 5 = D 81 5 := s1 81 5 (by omega)
  have b34 : D2 81 34 = D 81 34 := by rw [s2 81 34 (by omega)]; unfold EN; simp only [rdU, n133a, n133b, n75a, n75b, ↓reduceIte, Nat.reduceEqDiff, Nat.reduceLT, Nat.reduceLeDiff, Int.reduceEq, not_true_eq_false, not_false_eq_true, true_and, and_true, and_self, true_or, or_true, or_false, false_or, ite_self]; exact a34
  have b5 : D2 81 5 = D 81 5 := by rw [s2 81 5 (by omega)]; unfold EN; simp only [rdU, n133a, n133b, n75a, n75b, ↓reduceIte, Nat.reduceEqDiff, Nat.reduceLT, Nat.reduceLeDiff, Int.reduceEq, not_true_eq_false, not_false_eq_true, true_and, and_true, and_self, true_or, or_true, or_false, false_or, ite_self]; exact a5
  have k13 : D1 13 4 = D 81 34 := h13.trans hB
  unfold New
  refine ⟨?_, ?_, ?_, ?_, ?_, ?_, ?_, ?_, ?_, ?_, ?_, ?_, ?_⟩
  · rw [s3 13 4 (by omega)]; unfold EM; simp only [rdU, n133a, n133b, n75a, n75b, ↓reduceIte, Nat.reduceEqDiff, Nat.reduceLT, Nat.reduceLeDiff, Int.reduceEq, not_true_eq_false, not_false_eq_true, true_and, and_true, and_self, true_or, or_true, or_false, false_or, ite_self]; rw [s2 13 4 (by omega)]; unfold EN; simp only [rdU, n133a, n133b, n75a, n75b, ↓reduceIte, Nat.reduceEqDiff, Nat.reduceLT, Nat.reduceLeDiff, Int.reduceEq, not_true_eq_false, not_false_eq_true, true_and, and_true, and_self, true_or, or_true, or_false, false_or, ite_self]; rw [h13]
  · rw [s3 81 34 (by omega)]; unfold EM; simp only [rdU, n133a, n133b, n75a, n75b, ↓reduceIte, Nat.reduceEqDiff, Nat.reduceLT, Nat.reduceLeDiff, Int.reduceEq, not_true_eq_false, not_false_eq_true, true_and, and_true, and_self, true_or, or_true, or_false, false_or, ite_self]; rw [b34]
  · rw [s3 81 5 (by omega)]; unfold EM; simp only [rdU, n133a, n133b, n75a, n75b, ↓reduceIte, Nat.reduceEqDiff, Nat.reduceLT, Nat.reduceLeDiff, Int.reduceEq, not_true_eq_false, not_false_eq_true, true_and, and_true, and_self, true_or, or_true, or_false, false_or, ite_self]; exact b5
  · intro e he b hb
    have hne : ¬ ((e : Int) = D 81 34) := by omega
    rw [s3 b e (by omega)]
    unfold EM
    simp only [rdU, b34, hne, ↓reduceIte, ite_self]
    have nb : ¬ (b = 81) := by omega
    simp only [nb, ↓reduceIte]
    rw [s2 b e (by omega)]
    unfold EN
    have nb3 : ¬ (b = 13) := by omega
    simp only [rdU, k13, hne, nb3, ↓reduceIte, ite_self]
    exact s1 b e (by omega)
  · rw [s3 14 _ (by omega)]; unfold EM; simp only [rdU, n133a, n133b, n75a, n75b, ↓reduceIte, Nat.reduceEqDiff, Nat.reduceLT, Nat.reduceLeDiff, Int.reduceEq, not_true_eq_false, not_false_eq_true, true_and, and_true, and_self, true_or, or_true, or_false, false_or, ite_self]; rw [s2 14 _ (by omega)]; unfold EN; simp only [rdU, n133a, n133b, n75a, n75b, ↓reduceIte, Nat.reduceEqDiff, Nat.reduceLT, Nat.reduceLeDiff, Int.reduceEq, not_true_eq_false, not_false_eq_true, true_and, and_true, and_self, true_or, or_true, or_false, false_or, ite_self, k13]
  · rw [s3 15 _ (by omega)]; unfold EM; simp only [rdU, n133a, n133b, n75a, n75b, ↓reduceIte, Nat.reduceEqDiff, Nat.reduceLT, Nat.reduceLeDiff, Int.reduceEq, not_true_eq_false, not_false_eq_true, true_and, and_true, and_self, true_or, or_true, or_false, false_or, ite_self]; rw [s2 15 _ (by omega)]; unfold EN; simp only [rdU, n133a, n133b, n75a, n75b, ↓reduceIte, Nat.reduceEqDiff, Nat.reduceLT, Nat.reduceLeDiff, Int.reduceEq, not_true_eq_false, not_false_eq_true, true_and, and_true, and_self, true_or, or_true, or_false, false_or, ite_self, k13]
  · rw [s3 16 _ (by omega)]; unfold EM; simp only [rdU, n133a, n133b, n75a, n75b, ↓reduceIte, Nat.reduceEqDiff, Nat.reduceLT, Nat.reduceLeDiff, Int.reduceEq, not_true_eq_false, not_false_eq_true, true_and, and_true, and_self, true_or, or_true, or_false, false_or, ite_self]; rw [s2 16 _ (by omega)]; unfold EN; simp only [rdU, n133a, n133b, n75a, n75b, ↓reduceIte, Nat.reduceEqDiff, Nat.reduceLT, Nat.reduceLeDiff, Int.reduceEq, not_true_eq_false, not_false_eq_true, true_and, and_true, and_self, true_or, or_true, or_false, false_or, ite_self, k13]; exact hm
  · rw [s3 17 _ (by omega)]; unfold EM; simp only [rdU, n133a, n133b, n75a, n75b, ↓reduceIte, Nat.reduceEqDiff, Nat.reduceLT, Nat.reduceLeDiff, Int.reduceEq, not_true_eq_false, not_false_eq_true, true_and, and_true, and_self, true_or, or_true, or_false, false_or, ite_self]; rw [s2 17 _ (by omega)]; unfold EN; simp only [rdU, n133a, n133b, n75a, n75b, ↓reduceIte, Nat.reduceEqDiff, Nat.reduceLT, Nat.reduceLeDiff, Int.reduceEq, not_true_eq_false, not_false_eq_true, true_and, and_true, and_self, true_or, or_true, or_false, false_or, ite_self, k13]
  · rw [s3 110 _ (by omega)]; unfold EM; simp only [rdU, n133a, n133b, n75a, n75b, ↓reduceIte, Nat.reduceEqDiff, Nat.reduceLT, Nat.reduceLeDiff, Int.reduceEq, not_true_eq_false, not_false_eq_true, true_and, and_true, and_self, true_or, or_true, or_false, false_or, ite_self, b34]
  · rw [s3 111 _ (by omega)]; unfold EM; simp only [rdU, n133a, n133b, n75a, n75b, ↓reduceIte, Nat.reduceEqDiff, Nat.reduceLT, Nat.reduceLeDiff, Int.reduceEq, not_true_eq_false, not_false_eq_true, true_and, and_true, and_self, true_or, or_true, or_false, false_or, ite_self, b34]
  · rw [s3 112 _ (by omega)]; unfold EM; simp only [rdU, n133a, n133b, n75a, n75b, ↓reduceIte, Nat.reduceEqDiff, Nat.reduceLT, Nat.reduceLeDiff, Int.reduceEq, not_true_eq_false, not_false_eq_true, true_and, and_true, and_self, true_or, or_true, or_false, false_or, ite_self, b34]; exact b5
  · rw [s3 113 _ (by omega)]; unfold EM; simp only [rdU, n133a, n133b, n75a, n75b, ↓reduceIte, Nat.reduceEqDiff, Nat.reduceLT, Nat.reduceLeDiff, Int.reduceEq, not_true_eq_false, not_false_eq_true, true_and, and_true, and_self, true_or, or_true, or_false, false_or, ite_self, b34]
  · rw [s3 114 _ (by omega)]; unfold EM; simp only [rdU, n133a, n133b, n75a, n75b, ↓reduceIte, Nat.reduceEqDiff, Nat.reduceLT, Nat.reduceLeDiff, Int.reduceEq, not_true_eq_false, not_false_eq_true, true_and, and_true, and_self, true_or, or_true, or_false, false_or, ite_self, b34]
