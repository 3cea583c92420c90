/-! ===== fault, terms ===== -/
theorem Ofq_Fm {A : Nat} {D D' : Nat → Int → Int} (h : Ofq A D D') : Ofq A D D' := h
set_option maxRecDepth 100000 in
set_option maxHeartbeats 400000 in
theorem q_r15 (d L n : Nat) (b N : Int) : ∀ (j : Nat) (k : Int) (E : Nat → Int → Int), 0 ≤ k → k + j = 18 → ∃ E', tqrun tqP (d + 1) tqc_X12_reads 15 [vR 81, vU, vI b, vI N, vI k, vU, vU, vU, vU] [] (tzW E L n) = tqrun tqP (d + 1) tqc_X12_reads 40 [vR 81, vU, vI b, vI N, vI 0, vU, vU, vU, vU] [] (tzW E' L n) ∧ Ofq 118 E E' ∧ ∀ i : Int, E' 118 i = if k ≤ i ∧ i < 18 then -9 else E 118 i
  | 0, k, E, k0, kj => by
    refine ⟨E, ?_, Ofq_r _ _, fun i => ?_⟩
    · have c : 18 ≤ k := by omega
      rw [b_X12_reads_15]
      simp only [z_cd, i10, i11, dnn, rdU, eW, eU, tzC_w, w_shp, w_ptr, Nat.beq_refl, nbz, nb133, nb75, nb55, nb67, n133a, n133b, n75a, n75b, aT, aR, oT, oR, oF, oG, kT, kF, bI, bL, bR, b0, Classical.not_not, not_true_eq_false, not_false_eq_true, and_self, and_true, true_and, ↓reduceIte, decide_true, decide_false, Nat.reduceEqDiff, Nat.reduceLT, Nat.reduceLeDiff, Int.reduceEq, c]
    · rw [if_neg (show ¬ (k ≤ i ∧ i < 18) by omega)]
  | j + 1, k, E, k0, kj => by
    have c : ¬ 18 ≤ k := by omega
    have hb : tqib k 18 = true := tqib_y (by omega) (by omega)
    obtain ⟨E', r1, r2, r3⟩ := q_r15 d L n b N j (k + 1) (tzU E 118 k (-9)) (by omega) (by omega)
    refine ⟨E', ?_, Ofq_t (Ofq_U _ _ _ _) r2, fun i => ?_⟩
    · have e1 := w1z k0 (by omega)
      rw [← r1, b_X12_reads_15]
      simp only [z_cd, i10, i11, dnn, rdU, eW, eU, tzC_w, w_shp, w_ptr, Nat.beq_refl, nbz, nb133, nb75, nb55, nb67, n133a, n133b, n75a, n75b, aT, aR, oT, oR, oF, oG, kT, kF, bI, bL, bR, b0, Classical.not_not, not_true_eq_false, not_false_eq_true, and_self, and_true, true_and, ↓reduceIte, decide_true, decide_false, Nat.reduceEqDiff, Nat.reduceLT, Nat.reduceLeDiff, Int.reduceEq, c, hb, e1]
    · rw [r3]
      by_cases e : i = k
      · rw [if_neg (show ¬ (k + 1 ≤ i ∧ i < 18) by omega), if_pos (show k ≤ i ∧ i < 18 by omega), e, tzU_s]
      · rw [tzU_k _ _ _ _ e]
        by_cases q : k + 1 ≤ i ∧ i < 18
        · rw [if_pos q, if_pos (show k ≤ i ∧ i < 18 by omega)]
        · rw [if_neg q, if_neg (show ¬ (k ≤ i ∧ i < 18) by omega)]
set_option maxRecDepth 100000 in
set_option maxHeartbeats 400000 in
theorem pq_read (d L n t : Nat) (ht : t < 4) {N : Int} (N0 : 0 ≤ N) (hN : N ≤ 40) (T : Int → Int) (hT : ∀ i : Int, 0 ≤ i → i < N → -128 ≤ T i ∧ T i ≤ 127) (D E : Nat → Int → Int) (hC : CTx D t N T) (hE : RTx E t N T) (h86 : E 86 t = N) :
    Ouq L n D E (tqden tqP (d + 3) n_X7_read [vR 18, vR (67 + 2 * t)] (tzW D L n)) (tqden tqP (d + 3) n_X12_reads [vR 81, vI (t : Int)] (tzW E L n)) := by
  obtain ⟨E1, r1, r2, r3⟩ := q_r15 (d + 2) L n (40 * (t : Int)) N 18 0 E (by omega) (by omega)
  have oD : Ofq 22 D (tzF D 22 0 ((18 : Nat) : Int) (-1)) := Ofq_F _ _ _ _ _
  have hfi := s_fill (d + 1) D L n 22 18 (-1) (by decide) (fun _ => rfl)
  obtain ⟨J, hJ⟩ : ∃ J : Nat, N = J := ⟨N.toNat, by omega⟩
  have R := (a_all L n d t ht N hN T hT J).1 0 (-1) 0 (tzF D 22 0 ((18 : Nat) : Int) (-1)) E1 (by omega) (by omega) (CTx_o oD hC) (RTx_o r2 hE) (fun k k0 k1 => by
    rw [tzF_i k0 (by omega), r3 k, if_pos ⟨k0, k1⟩]; exact Or.inr ⟨rfl, rfl⟩) (Or.inl rfl)
  have hb : tqib (t : Int) 4 = true := tqib_y (by omega) (by omega)
  have w1 : w32 (40 * (t : Int)) = 40 * t := w32_40 (by omega)
  have cls : tqden tqP (d + 3) n_X7_read [vR 18, vR (67 + 2 * t)] (tzW D L n) = tqrun tqP (d + 3) tqc_X7_read 21 [vR 18, vR (67 + 2 * t), vI (-1), vI 0, vI 0, vI 0, vI 0, vU, vU] [] (tzW (tzF D 22 0 ((18 : Nat) : Int) (-1)) L n) := by
    rw [dn_X7_read, b_X7_read_0]
    simp only [z_cd, i10, i11, dnn, rdU, eW, eU, tzC_w, w_shp, w_ptr, Nat.beq_refl, nbz, nb133, nb75, nb55, nb67, n133a, n133b, n75a, n75b, aT, aR, oT, oR, oF, oG, kT, kF, bI, bL, bR, b0, Classical.not_not, not_true_eq_false, not_false_eq_true, and_self, and_true, true_and, ↓reduceIte, decide_true, decide_false, Nat.reduceEqDiff, Nat.reduceLT, Nat.reduceLeDiff, Int.reduceEq, hfi]
  have ref : tqden tqP (d + 3) n_X12_reads [vR 81, vI (t : Int)] (tzW E L n) = tqrun tqP (d + 3) tqc_X12_reads 40 [vR 81, vU, vI (40 * (t : Int)), vI N, vI 0, vU, vU, vU, vU] [] (tzW E1 L n) := by
    rw [← r1, dn_X12_reads, b_X12_reads_0]
    simp only [z_cd, i10, i11, dnn, rdU, eW, eU, tzC_w, w_shp, w_ptr, Nat.beq_refl, nbz, nb133, nb75, nb55, nb67, n133a, n133b, n75a, n75b, aT, aR, oT, oR, oF, oG, kT, kF, bI, bL, bR, b0, Classical.not_not, not_true_eq_false, not_false_eq_true, and_self, and_true, true_and, ↓reduceIte, decide_true, decide_false, Nat.reduceEqDiff, Nat.reduceLT, Nat.reduceLeDiff, Int.reduceEq, hb, h86, w1]
  rw [cls, ref]
  exact Ouq_m oD r2 R
theorem tzW_inj {D D' : Nat → Int → Int} {L n : Nat} (h : tzW D L n = tzW D' L n) : D = D' := congrArg Prod.fst h
/-- the class reads first, then the reference, on what the class left -/
theorem pq_two (d L n t : Nat) (ht : t < 4) {N : Int} (N0 : 0 ≤ N) (hN : N ≤ 40) (T : Int → Int) (hT : ∀ i : Int, 0 ≤ i → i < N → -128 ≤ T i ∧ T i ≤ 127) (D : Nat → Int → Int) (hC : CTx D t N T) (hE : RTx D t N T) (h86 : D 86 t = N) :
    ∃ r D', tqden tqP (d + 3) n_X7_read [vR 18, vR (67 + 2 * t)] (tzW D L n) = some (some (vI r), tzW D' L n) ∧ Ofq 22 D D' ∧ ∀ E : Nat → Int → Int, (∀ j, E 87 j = D 87 j) → E 86 t = D 86 t → ∃ E', tqden tqP (d + 3) n_X12_reads [vR 81, vI (t : Int)] (tzW E L n) = some (some (vI r), tzW E' L n) ∧ Ofq 118 E E' ∧ ∀ k : Int, 0 ≤ k → k < 18 → Dr (D' 22 k) (E' 118 k) := by
  obtain ⟨r, D', _, h1, _, h3, _, _⟩ := pq_read d L n t ht N0 hN T hT D D hC hE h86
  refine ⟨r, D', h1, h3, fun E e1 e2 => ?_⟩
  obtain ⟨r', D'', E', g1, g2, g3, g4, g5⟩ := pq_read d L n t ht N0 hN T hT D E hC (fun i i0 i1 => (e1 _).trans (hE i i0 i1)) (e2.trans h86)
  have q := Option.some.inj (h1.symm.trans g1)
  have q1 : r = r' := by
    have := congrArg Prod.fst q
    have := Option.some.inj this
    exact Sum.inl.inj this
  have q2 : D' = D'' := tzW_inj (congrArg Prod.snd q)
  rw [q1, q2]
  exact ⟨E', g2, g4, g5⟩
theorem RM_new {D Y : Nat → Int → Int} {N : Nat} {dy fr : Int} (h : RM D) (hN : D 81 40 = N) (lt : N < 20) (h1 : Y 18 4 = N + 1) (h2 : Y 81 40 = N + 1) (h3 : ∀ k : Nat, k ≠ N → Y 19 k = D 19 k ∧ Y 20 k = D 20 k ∧ Y 115 k = D 115 k ∧ Y 116 k = D 116 k) (h4 : Y 19 N = dy ∧ Y 20 N = fr ∧ Y 115 N = dy ∧ Y 116 N = fr) (hd : 0 ≤ dy ∧ dy ≤ 69) (hf : 0 ≤ fr ∧ fr ≤ 69) (h5 : ∀ j : Int, j < 18 * N → Y 21 j = D 21 j ∧ Y 117 j = D 117 j) (h6 : ∀ i : Int, 0 ≤ i → i < 18 → Dr (Y 21 (18 * N + i)) (Y 117 (18 * N + i))) : RM Y := by
  obtain ⟨m1, m2, m3, m4, m5⟩ := h
  refine ⟨by omega, by omega, by omega, fun k hk => ?_, fun k i hk hi => ?_⟩
  · by_cases e : k = N
    · subst e
      obtain ⟨a, b, c, d⟩ := h4
      rw [a, b, c, d]
      omega
    · obtain ⟨a, b, c, d⟩ := h3 k e
      rw [a, b, c, d]
      exact m4 k (by omega)
  · by_cases e : k = N
    · subst e
      exact h6 i (by omega) (by omega)
    · obtain ⟨a, b⟩ := h5 (18 * k + i) (by omega)
      rw [a, b]
      exact m5 k i (by omega) hi
set_option maxRecDepth 100000 in
set_option maxHeartbeats 400000 in
theorem q_t84 (d L n : Nat) {N : Int} (N0 : 0 ≤ N) (N1 : N < 20) : ∀ (j : Nat) (k : Int) (E : Nat → Int → Int), 0 ≤ k → k + j = 18 → E 81 40 = N → ∃ E', tqrun tqP (d + 1) tqc_X12_terms 84 [vR 81, vU, vU, vI k] [] (tzW E L n) = some (some (vI N), tzW (tzU E' 81 40 (N + 1)) L n) ∧ Ofq 117 E E' ∧ ∀ i : Int, E' 117 i = if 18 * N + k ≤ i ∧ i < 18 * N + 18 then E 118 (i - 18 * N) else E 117 i
  | 0, k, E, k0, kj, hN => by
    refine ⟨E, ?_, Ofq_r _ _, fun i => ?_⟩
    · have c : 18 ≤ k := by omega
      have e1 : w32 (N + 1) = N + 1 := w32_i (by omega) (by omega)
      have e2 : w32 (N + 1 - 1) = N := (w32_i (x := N + 1 - 1) (by clear e1; omega) (by clear e1; omega)).trans (by clear e1; omega)
      rw [b_X12_terms_84]
      simp only [z_cd, i10, i11, dnn, rdU, eW, eU, tzC_w, w_shp, w_ptr, Nat.beq_refl, nbz, nb133, nb75, nb55, nb67, n133a, n133b, n75a, n75b, aT, aR, oT, oR, oF, oG, kT, kF, bI, bL, bR, b0, Classical.not_not, not_true_eq_false, not_false_eq_true, and_self, and_true, true_and, ↓reduceIte, decide_true, decide_false, Nat.reduceEqDiff, Nat.reduceLT, Nat.reduceLeDiff, Int.reduceEq, c, hN, e1, e2]
    · rw [if_neg (show ¬ (18 * N + k ≤ i ∧ i < 18 * N + 18) by omega)]
  | j + 1, k, E, k0, kj, hN => by
    have c : ¬ 18 ≤ k := by omega
    have hb : tqib k 18 = true := tqib_y (by omega) (by omega)
    have hb2 : tqib (18 * N + k) 360 = true := tqib_y (by omega) (by omega)
    obtain ⟨E', r1, r2, r3⟩ := q_t84 d L n N0 N1 j (k + 1) (tzU E 117 (18 * N + k) (E 118 k)) (by omega) (by omega) hN
    refine ⟨E', ?_, Ofq_t (Ofq_U _ _ _ _) r2, fun i => ?_⟩
    · have e1 := w1z k0 (by omega)
      have e2 : w32 (w32 (18 * N) + k) = 18 * N + k := w18_b ⟨N0, by clear e1; omega⟩ ⟨k0, by clear e1; omega⟩
      rw [← r1, b_X12_terms_84]
      simp only [z_cd, i10, i11, dnn, rdU, eW, eU, tzC_w, w_shp, w_ptr, Nat.beq_refl, nbz, nb133, nb75, nb55, nb67, n133a, n133b, n75a, n75b, aT, aR, oT, oR, oF, oG, kT, kF, bI, bL, bR, b0, Classical.not_not, not_true_eq_false, not_false_eq_true, and_self, and_true, true_and, ↓reduceIte, decide_true, decide_false, Nat.reduceEqDiff, Nat.reduceLT, Nat.reduceLeDiff, Int.reduceEq, c, hb, hN, e2, hb2, e1]
    · rw [r3, tzU_o _ _ _ _ (show (118 : Nat) ≠ 117 by decide)]
      by_cases e : i = 18 * N + k
      · rw [if_neg (show ¬ (18 * N + (k + 1) ≤ i ∧ i < 18 * N + 18) by omega), if_pos (show 18 * N + k ≤ i ∧ i < 18 * N + 18 by omega), e, tzU_s, show 18 * N + k - 18 * N = k by omega]
      · rw [tzU_k _ _ _ _ e]
        by_cases q : 18 * N + (k + 1) ≤ i ∧ i < 18 * N + 18
        · rw [if_pos q, if_pos (show 18 * N + k ≤ i ∧ i < 18 * N + 18 by omega)]
        · rw [if_neg q, if_neg (show ¬ (18 * N + k ≤ i ∧ i < 18 * N + 18) by omega)]
def PTm (b : Nat) (j : Int) : Prop := ¬ (18 ≤ b ∧ b ≤ 22) ∧ ¬ (115 ≤ b ∧ b ≤ 118) ∧ ¬ (b = 81 ∧ j = 40)
theorem n67z (t : Nat) : Nat.beq (67 + 2 * t) 0 = false := by rw [Nat.add_comm]; rfl
set_option maxRecDepth 100000 in
set_option maxHeartbeats 400000 in
theorem p_full7 (d : Nat) (D : Nat → Int → Int) (L n : Nat) : tqden tqP (d + 1) n_X7_isFull [vR 18] (tzW D L n) = some (some (vI (if D 18 4 < 20 then 0 else 1)), tzW D L n) := by
  rw [dn_X7_isFull, b_X7_isFull_0]
  by_cases c : D 18 4 < 20
  · simp only [z_cd, i10, i11, dnn, rdU, eW, eU, tzC_w, w_shp, w_ptr, Nat.beq_refl, nbz, nb133, nb75, nb55, nb67, n133a, n133b, n75a, n75b, aT, aR, oT, oR, oF, oG, kT, kF, bI, bL, bR, b0, Classical.not_not, not_true_eq_false, not_false_eq_true, and_self, and_true, true_and, ↓reduceIte, decide_true, decide_false, Nat.reduceEqDiff, Nat.reduceLT, Nat.reduceLeDiff, Int.reduceEq, c]
  · simp only [z_cd, i10, i11, dnn, rdU, eW, eU, tzC_w, w_shp, w_ptr, Nat.beq_refl, nbz, nb133, nb75, nb55, nb67, n133a, n133b, n75a, n75b, aT, aR, oT, oR, oF, oG, kT, kF, bI, bL, bR, b0, Classical.not_not, not_true_eq_false, not_false_eq_true, and_self, and_true, true_and, ↓reduceIte, decide_true, decide_false, Nat.reduceEqDiff, Nat.reduceLT, Nat.reduceLeDiff, Int.reduceEq, c]
set_option maxRecDepth 100000 in
set_option maxHeartbeats 400000 in
theorem p_keep (d : Nat) (D : Nat → Int → Int) (L n : Nat) {N : Int} (hN : D 18 4 = N) (N0 : 0 ≤ N) (N1 : N < 20) (dy fr : Int) : tqden tqP (d + 2) n_X7_keep [vR 18, vI dy, vI fr] (tzW D L n) = some (some (vI N), tzW (tzU (tzC (tzU (tzU D 19 N dy) 20 N fr) 22 0 21 (18 * N) 18) 18 4 (N + 1)) L n) := by
  have hb : tqib N 20 = true := tqib_y (by omega) (by omega)
  have c1 : (0 : Int) ≤ 18 * N := by omega
  have c2 : 18 * N + 18 ≤ ((360 : Nat) : Int) := by omega
  have c3 : (0 : Int) + 18 ≤ ((18 : Nat) : Int) := by decide
  have c4 : (0 : Int) ≤ 18 := by decide
  have c5 : (0 : Int) ≤ 0 := by decide
  have rd : ∀ E : Nat → Int → Int, tzC E 22 0 21 (18 * N) 18 18 4 = E 18 4 := fun E => rfl
  have e1 : w32 (N + 1) = N + 1 := w32_i (by omega) (by omega)
  have e2 : w32 (N + 1 - 1) = N := (w32_i (x := N + 1 - 1) (by clear e1; omega) (by clear e1; omega)).trans (by clear e1; omega)
  have e3 : w32 (N * 18) = 18 * N := (w32_i (x := N * 18) (by clear e1 e2; omega) (by clear e1 e2; omega)).trans (by clear e1 e2; omega)
  rw [dn_X7_keep, b_X7_keep_0]
  simp only [z_cd, i10, i11, dnn, rdU, eW, eU, tzC_w, w_shp, w_ptr, Nat.beq_refl, nbz, nb133, nb75, nb55, nb67, n133a, n133b, n75a, n75b, aT, aR, oT, oR, oF, oG, kT, kF, bI, bL, bR, b0, Classical.not_not, not_true_eq_false, not_false_eq_true, and_self, and_true, true_and, ↓reduceIte, decide_true, decide_false, Nat.reduceEqDiff, Nat.reduceLT, Nat.reduceLeDiff, Int.reduceEq, p_full7, hN, N1, hb, e3, c1, c2, c3, c4, c5, rd, e1, e2]
set_option maxRecDepth 100000 in
set_option maxHeartbeats 400000 in
theorem ag_fault {L : Nat} (a0 : Int) : AgI Rel L n_X11_fault n_X12_fault [vI a0] := by
  intro D n hR
  obtain ⟨hA, hL, hW, hN, ⟨c1, c2, c3⟩, hT, hD, hK, hB, hQ, hX, hM, hP, hS⟩ := id hR
  by_cases ct : 0 ≤ a0 ∧ a0 ≤ 3
  · obtain ⟨t, e⟩ : ∃ t : Nat, a0 = t := ⟨a0.toNat, by omega⟩
    subst e
    have ht : t < 4 := by omega
    have hb4 : tqib (t : Int) 4 = true := tqib_y (by omega) (by omega)
    obtain ⟨q1, q2, q3⟩ := text_sh D L n ht
    rcases hL.2.2.1 t ht with ⟨e1, e2, e3⟩ | ⟨e1, e2⟩
    · have m0 : 0 ≤ D (67 + 2 * t) 1 := by omega
      have N1 : D 86 t ≤ 40 := e3
      have hC : CTx D t (D 86 t) (fun i => D 87 (40 * t + i)) := ⟨e1, fun i i0 i1 => hL.2.2.2.1 t i ht i0 (by omega)⟩
      have hE : RTx D t (D 86 t) (fun i => D 87 (40 * t + i)) := fun i _ _ => rfl
      obtain ⟨r, D1, u1, u2, u3⟩ := pq_two 1395 L n t ht e2 e3 (fun i => D 87 (40 * t + i)) (fun i i0 i1 => hL.2.2.2.2 (40 * t + i) (by omega) (by omega)) D hC hE rfl
      obtain ⟨D2, v1, v2, _⟩ := u3 D1 (fun j => u2 87 j (by omega)) (u2 86 t (by omega))
      have k86 : 0 ≤ D1 86 t := by rw [u2 86 t (by omega)]; exact e2
      have s1 : Sm PTm D D1 := Sm_off u2 (fun j => by unfold PTm; omega)
      have s2 : Sm PTm D D2 := Sm_t s1 (Sm_off v2 (fun j => by unfold PTm; omega))
      have s3 : Sm (fun b j => ¬ (b = 22) ∧ ¬ b = 118) D D2 := Sm_t (Sm_off u2 (fun j => by omega)) (Sm_off v2 (fun j => by omega))
      refine ⟨r, D1, n, D2, ?_, ?_, Sm_1 (Sm_m (fun b j p => by unfold PTm; omega) s1), Sm_1 (Sm_m (fun b j p => by unfold PTm; omega) s2), Rel_sm s3 (fun b j => by unfold PZ PL PW PN PC PT PD PK PB PQ PX PM PP PS; omega) (fun b j => by unfold PA; omega) hR⟩
      · rw [dn_X11_fault, b_X11_fault_0]
        simp only [z_cd, i10, i11, dnn, rdU, eW, eU, tzC_w, w_shp, w_ptr, Nat.beq_refl, nbz, nb133, nb75, nb55, nb67, n133a, n133b, n75a, n75b, aT, aR, oT, oR, oF, oG, kT, kF, bI, bL, bR, b0, Classical.not_not, not_true_eq_false, not_false_eq_true, and_self, and_true, true_and, ↓reduceIte, decide_true, decide_false, Nat.reduceEqDiff, Nat.reduceLT, Nat.reduceLeDiff, Int.reduceEq, s_lineAt_texts_y _ D L n ht, n67z, q1, s_isMissing _ D L n q1, m0, u1]
      · rw [dn_X12_fault, b_X12_fault_0]
        simp only [z_cd, i10, i11, dnn, rdU, eW, eU, tzC_w, w_shp, w_ptr, Nat.beq_refl, nbz, nb133, nb75, nb55, nb67, n133a, n133b, n75a, n75b, aT, aR, oT, oR, oF, oG, kT, kF, bI, bL, bR, b0, Classical.not_not, not_true_eq_false, not_false_eq_true, and_self, and_true, true_and, ↓reduceIte, decide_true, decide_false, Nat.reduceEqDiff, Nat.reduceLT, Nat.reduceLeDiff, Int.reduceEq, s_askedText_y _ D1 L n (a := (t : Int)) (by omega) (by omega) k86, v1, Int.reduceLE]
    · have m0 : ¬ 0 ≤ D (67 + 2 * t) 1 := by omega
      refine ⟨-3, tzRx D 1, n, tzRm (tzRx D 1) 1, ?_, ?_, Sm_1 (by unfold tzRx; (repeat (refine Sm_U (by omega) ?_)); exact Sm_r _ _), Sm_1 (by unfold tzRm tzRx; (repeat (refine Sm_U (by omega) ?_)); exact Sm_r _ _), Rel_ref hR (by omega) (by omega)⟩
      · rw [dn_X11_fault, b_X11_fault_0]
        simp only [z_cd, i10, i11, dnn, rdU, eW, eU, tzC_w, w_shp, w_ptr, Nat.beq_refl, nbz, nb133, nb75, nb55, nb67, n133a, n133b, n75a, n75b, aT, aR, oT, oR, oF, oG, kT, kF, bI, bL, bR, b0, Classical.not_not, not_true_eq_false, not_false_eq_true, and_self, and_true, true_and, ↓reduceIte, decide_true, decide_false, Nat.reduceEqDiff, Nat.reduceLT, Nat.reduceLeDiff, Int.reduceEq, s_lineAt_texts_y _ D L n ht, n67z, q1, s_isMissing _ D L n q1, m0, s_refuse _ D L n (f := 1) (by decide) (by decide)]
      · have k86 : tzRx D 1 86 t < 0 := e2
        rw [dn_X12_fault, b_X12_fault_0]
        simp only [z_cd, i10, i11, dnn, rdU, eW, eU, tzC_w, w_shp, w_ptr, Nat.beq_refl, nbz, nb133, nb75, nb55, nb67, n133a, n133b, n75a, n75b, aT, aR, oT, oR, oF, oG, kT, kF, bI, bL, bR, b0, Classical.not_not, not_true_eq_false, not_false_eq_true, and_self, and_true, true_and, ↓reduceIte, decide_true, decide_false, Nat.reduceEqDiff, Nat.reduceLT, Nat.reduceLeDiff, Int.reduceEq, s_askedText_n _ (tzRx D 1) L n (a := (t : Int)) (by omega) (by omega) k86, Int.reduceLE, Int.reduceNeg]
  · refine ⟨-1, D, n, D, ?_, ?_, rfl, rfl, hR⟩
    · rw [dn_X11_fault, b_X11_fault_0]
      simp only [z_cd, i10, i11, dnn, rdU, eW, eU, tzC_w, w_shp, w_ptr, Nat.beq_refl, nbz, nb133, nb75, nb55, nb67, n133a, n133b, n75a, n75b, aT, aR, oT, oR, oF, oG, kT, kF, bI, bL, bR, b0, Classical.not_not, not_true_eq_false, not_false_eq_true, and_self, and_true, true_and, ↓reduceIte, decide_true, decide_false, Nat.reduceEqDiff, Nat.reduceLT, Nat.reduceLeDiff, Int.reduceEq, s_lineAt_texts_n _ D L n (a := a0) (by omega)]
    · rw [dn_X12_fault, b_X12_fault_0]
      simp only [z_cd, i10, i11, dnn, rdU, eW, eU, tzC_w, w_shp, w_ptr, Nat.beq_refl, nbz, nb133, nb75, nb55, nb67, n133a, n133b, n75a, n75b, aT, aR, oT, oR, oF, oG, kT, kF, bI, bL, bR, b0, Classical.not_not, not_true_eq_false, not_false_eq_true, and_self, and_true, true_and, ↓reduceIte, decide_true, decide_false, Nat.reduceEqDiff, Nat.reduceLT, Nat.reduceLeDiff, Int.reduceEq, s_askedText_b _ (tzW D L n) (a := a0) (by omega), Int.reduceLE, Int.reduceNeg]
set_option maxRecDepth 100000 in
set_option maxHeartbeats 400000 in
theorem ag_terms {L : Nat} (a0 a1 : Int) : AgI Rel L n_X11_terms n_X12_terms [vI a0, vI a1] := by
  intro D n hR
  obtain ⟨hA, hL, hW, hN, ⟨c1, c2, c3⟩, hT, hD, hK, hB, hQ, hX, hM, hP, hS⟩ := id hR
  by_cases ct : 0 ≤ a0 ∧ a0 ≤ 3
  · obtain ⟨t, e⟩ : ∃ t : Nat, a0 = t := ⟨a0.toNat, by omega⟩
    subst e
    have ht : t < 4 := by omega
    have hb4 : tqib (t : Int) 4 = true := tqib_y (by omega) (by omega)
    obtain ⟨q1, q2, q3⟩ := text_sh D L n ht
    by_cases cw : 0 ≤ a1 ∧ a1 ≤ 69
    · obtain ⟨N, hNN⟩ : ∃ N : Nat, D 81 40 = N := ⟨(D 81 40).toNat, by have := hM.2.1; omega⟩
      have h18 : D 18 4 = N := hM.1.trans hNN
      have hN20 : N ≤ 20 := by have := hM.2.2.1; omega
      by_cases cf : N = 20
      · have f1 : ¬ (N : Int) < 20 := by omega
        have f2 : (N : Int) = 20 := by omega
        refine ⟨-2, D, n, D, ?_, ?_, rfl, rfl, hR⟩
        · rw [dn_X11_terms, b_X11_terms_0]
          simp only [z_cd, i10, i11, dnn, rdU, eW, eU, tzC_w, w_shp, w_ptr, Nat.beq_refl, nbz, nb133, nb75, nb55, nb67, n133a, n133b, n75a, n75b, aT, aR, oT, oR, oF, oG, kT, kF, bI, bL, bR, b0, Classical.not_not, not_true_eq_false, not_false_eq_true, and_self, and_true, true_and, ↓reduceIte, decide_true, decide_false, Nat.reduceEqDiff, Nat.reduceLT, Nat.reduceLeDiff, Int.reduceEq, s_lineAt_texts_y _ D L n ht, n67z, q1, p_isWithin, cw, p_full7, h18, f1]
        · rw [dn_X12_terms, b_X12_terms_0]
          simp only [z_cd, i10, i11, dnn, rdU, eW, eU, tzC_w, w_shp, w_ptr, Nat.beq_refl, nbz, nb133, nb75, nb55, nb67, n133a, n133b, n75a, n75b, aT, aR, oT, oR, oF, oG, kT, kF, bI, bL, bR, b0, Classical.not_not, not_true_eq_false, not_false_eq_true, and_self, and_true, true_and, ↓reduceIte, decide_true, decide_false, Nat.reduceEqDiff, Nat.reduceLT, Nat.reduceLeDiff, Int.reduceEq, q_isText, ct, q_isDay, cw, hNN, f2]
      · have f1 : (N : Int) < 20 := by omega
        have f2 : ¬ (N : Int) = 20 := by omega
        rcases hL.2.2.1 t ht with ⟨e1, e2, e3⟩ | ⟨e1, e2⟩
        · have m0 : 0 ≤ D (67 + 2 * t) 1 := by omega
          have N1 : D 86 t ≤ 40 := e3
          have hC : CTx D t (D 86 t) (fun i => D 87 (40 * t + i)) := ⟨e1, fun i i0 i1 => hL.2.2.2.1 t i ht i0 (by omega)⟩
          have hE : RTx D t (D 86 t) (fun i => D 87 (40 * t + i)) := fun i _ _ => rfl
          obtain ⟨r, D1, u1, u2, u3⟩ := pq_two 1395 L n t ht e2 e3 (fun i => D 87 (40 * t + i)) (fun i i0 i1 => hL.2.2.2.2 (40 * t + i) (by omega) (by omega)) D hC hE rfl
          by_cases cr : r = -9
          · obtain ⟨dy, hdy⟩ : ∃ dy, dy = w32 ((D 81 5).tdiv 1440) := ⟨_, rfl⟩
            have hdb : 0 ≤ dy ∧ dy ≤ 69 := by
              have n2 := hN.2
              rw [hdy, Int.tdiv_eq_ediv_of_nonneg n2.1, w32_i (by omega) (by omega)]
              omega
            have j18 : D1 18 4 = N := (u2 18 4 (by omega)).trans h18
            have kp := p_keep 1396 D1 L n j18 (by omega) f1 dy a1
            have n13 : D1 2 13 = D 81 5 := (u2 2 13 (by omega)).trans hN.1
            obtain ⟨D2, v1, v2, v3⟩ := u3 (tzU (tzC (tzU (tzU D1 19 N dy) 20 N a1) 22 0 21 (18 * N) 18) 18 4 (N + 1)) (fun j => u2 87 j (by omega)) (u2 86 t (by omega))
            have k40 : D2 81 40 = N := (v2 81 40 (by omega)).trans ((u2 81 40 (by omega)).trans hNN)
            have k5 : D2 81 5 = D 81 5 := (v2 81 5 (by omega)).trans (u2 81 5 (by omega))
            obtain ⟨E, x1, x2, x3⟩ := q_t84 1398 L n (N := (N : Int)) (by omega) f1 18 0 (tzU (tzU D2 115 N dy) 116 N a1) (by omega) (by omega) k40
            have y40 : (tzU (tzC (tzU (tzU D1 19 N dy) 20 N a1) 22 0 21 (18 * N) 18) 18 4 (N + 1)) 81 40 = N := (u2 81 40 (by omega)).trans hNN
            have y86 : 0 ≤ (tzU (tzC (tzU (tzU D1 19 N dy) 20 N a1) 22 0 21 (18 * N) 18) 18 4 (N + 1)) 86 t := by show 0 ≤ D1 86 t; rw [u2 86 t (by omega)]; exact e2
            have y40' : tzC (tzU (tzU D1 19 N dy) 20 N a1) 22 0 21 (18 * N) 18 81 40 = N := y40
            have y86' : 0 ≤ tzC (tzU (tzU D1 19 N dy) 20 N a1) 22 0 21 (18 * N) 18 86 t := y86
            have hbN : tqib (N : Int) 20 = true := tqib_y (by omega) (by omega)
            have sX : Sm PTm D (tzU (tzC (tzU (tzU D1 19 N dy) 20 N a1) 22 0 21 (18 * N) 18) 18 4 (N + 1)) := by
              refine Sm_U (by unfold PTm; omega) (Sm_C (fun k _ _ => by unfold PTm; omega) (Sm_U (by unfold PTm; omega) (Sm_U (by unfold PTm; omega) (Sm_off u2 (fun j => by unfold PTm; omega)))))
            have sE : Sm PTm D E := Sm_t (Sm_U (by unfold PTm; omega) (Sm_U (by unfold PTm; omega) (Sm_t sX (Sm_off v2 (fun j => by unfold PTm; omega))))) (Sm_off x2 (fun j => by unfold PTm; omega))
            have sY : Sm PTm D (tzU E 81 40 (N + 1)) := Sm_U (by unfold PTm; omega) sE
            have rE : ∀ (b : Nat) (j : Int), 18 ≤ b → b ≤ 21 → E b j = (tzU (tzC (tzU (tzU D1 19 N dy) 20 N a1) 22 0 21 (18 * N) 18) 18 4 (N + 1)) b j := fun b j b0' b1' => by
              rw [x2 b j (by omega), tzU_o _ _ _ _ (by omega), tzU_o _ _ _ _ (by omega), v2 b j (by omega)]
            have hMY : RM (tzU E 81 40 (N + 1)) := by
              refine RM_new (D := D) (N := N) (dy := dy) (fr := a1) hM hNN (by omega) ?_ (tzU_s _ _ _ _) ?_ ?_ hdb cw ?_ ?_
              · rw [tzU_o _ _ _ _ (by omega), rE 18 4 (by omega) (by omega), tzU_s]
              · intro k hk
                have kn : ¬ (k : Int) = (N : Int) := by omega
                refine ⟨?_, ?_, ?_, ?_⟩
                · rw [tzU_o _ _ _ _ (by omega), rE 19 k (by omega) (by omega)]
                  show tzU D1 19 N dy 19 k = D 19 k
                  rw [tzU_k _ _ _ _ kn]; exact u2 19 k (by omega)
                · rw [tzU_o _ _ _ _ (by omega), rE 20 k (by omega) (by omega)]
                  show tzU (tzU D1 19 N dy) 20 N a1 20 k = D 20 k
                  rw [tzU_k _ _ _ _ kn]; exact u2 20 k (by omega)
                · rw [tzU_o _ _ _ _ (by omega), x2 115 k (by omega)]
                  show tzU D2 115 N dy 115 k = D 115 k
                  rw [tzU_k _ _ _ _ kn, v2 115 k (by omega)]; exact u2 115 k (by omega)
                · rw [tzU_o _ _ _ _ (by omega), x2 116 k (by omega), tzU_k _ _ _ _ kn, tzU_o _ _ _ _ (by omega), v2 116 k (by omega)]
                  exact u2 116 k (by omega)
              · refine ⟨?_, ?_, ?_, ?_⟩
                · rw [tzU_o _ _ _ _ (by omega), rE 19 N (by omega) (by omega)]
                  show tzU D1 19 N dy 19 N = dy
                  exact tzU_s _ _ _ _
                · rw [tzU_o _ _ _ _ (by omega), rE 20 N (by omega) (by omega)]
                  show tzU (tzU D1 19 N dy) 20 N a1 20 N = a1
                  exact tzU_s _ _ _ _
                · rw [tzU_o _ _ _ _ (by omega), x2 115 N (by omega)]
                  show tzU D2 115 N dy 115 N = dy
                  exact tzU_s _ _ _ _
                · rw [tzU_o _ _ _ _ (by omega), x2 116 N (by omega)]
                  exact tzU_s _ _ _ _
              · intro j hj
                refine ⟨?_, ?_⟩
                · rw [tzU_o _ _ _ _ (by omega), rE 21 j (by omega) (by omega), tzU_o _ _ _ _ (by omega)]
                  unfold tzC
                  rw [if_pos rfl, if_neg (by omega), tzU_o _ _ _ _ (by omega), tzU_o _ _ _ _ (by omega)]
                  exact u2 21 j (by omega)
                · rw [tzU_o _ _ _ _ (by omega), x3 j, if_neg (by omega), tzU_o _ _ _ _ (by omega), tzU_o _ _ _ _ (by omega), v2 117 j (by omega)]
                  exact u2 117 j (by omega)
              · intro i i0 i1
                have a := v3 i i0 i1
                have b : tzU E 81 40 (N + 1) 21 (18 * N + i) = D1 22 i := by
                  rw [tzU_o _ _ _ _ (by omega), rE 21 _ (by omega) (by omega), tzU_o _ _ _ _ (by omega)]
                  unfold tzC
                  rw [if_pos rfl, if_pos (by omega), tzU_o _ _ _ _ (by omega), tzU_o _ _ _ _ (by omega), show (0 : Int) + (18 * N + i - 18 * N) = i by omega]
                have c : tzU E 81 40 (N + 1) 117 (18 * N + i) = D2 118 i := by
                  rw [tzU_o _ _ _ _ (by omega), x3, if_pos (by omega), tzU_o _ _ _ _ (by omega), tzU_o _ _ _ _ (by omega), show 18 * (N : Int) + i - 18 * N = i by omega]
                rw [b, c]
                exact a
            refine ⟨N, tzU (tzC (tzU (tzU D1 19 N dy) 20 N a1) 22 0 21 (18 * N) 18) 18 4 (N + 1), n, tzU E 81 40 (N + 1), ?_, ?_, Sm_1 (Sm_m (fun b j p => by unfold PTm; omega) sX), Sm_1 (Sm_m (fun b j p => by unfold PTm; omega) sY), ?_⟩
            · rw [cr] at u1
              rw [dn_X11_terms, b_X11_terms_0]
              simp only [z_cd, i10, i11, dnn, rdU, eW, eU, tzC_w, w_shp, w_ptr, Nat.beq_refl, nbz, nb133, nb75, nb55, nb67, n133a, n133b, n75a, n75b, aT, aR, oT, oR, oF, oG, kT, kF, bI, bL, bR, b0, Classical.not_not, not_true_eq_false, not_false_eq_true, and_self, and_true, true_and, ↓reduceIte, decide_true, decide_false, Nat.reduceEqDiff, Nat.reduceLT, Nat.reduceLeDiff, Int.reduceEq, s_lineAt_texts_y _ D L n ht, n67z, q1, p_isWithin, cw, p_full7, h18, f1, s_isMissing _ D L n q1, m0, u1, n13, p_dayOf, ← hdy, kp]
            · rw [cr] at v1
              rw [dn_X12_terms, b_X12_terms_0]
              simp only [z_cd, i10, i11, dnn, rdU, eW, eU, tzC_w, w_shp, w_ptr, Nat.beq_refl, nbz, nb133, nb75, nb55, nb67, n133a, n133b, n75a, n75b, aT, aR, oT, oR, oF, oG, kT, kF, bI, bL, bR, b0, Classical.not_not, not_true_eq_false, not_false_eq_true, and_self, and_true, true_and, ↓reduceIte, decide_true, decide_false, Nat.reduceEqDiff, Nat.reduceLT, Nat.reduceLeDiff, Int.reduceEq, q_isText, ct, q_isDay, cw, y40', f2, hb4, y86', v1, k5, q_day, ← hdy, k40, hbN]
              exact x1
            · refine ⟨?_, ?_, ?_, ?_, ?_, ?_, ?_, ?_, ?_, ?_, ?_, ?_, ?_, ?_⟩
              · exact RA_fr (Sm_m (fun b j p => by unfold PA at p; unfold PTm; omega) sY) hA
              · exact RL_fr (Sm_m (fun b j p => by unfold PL at p; unfold PTm; omega) sY) hL
              · exact RW_fr (Sm_m (fun b j p => by unfold PW at p; unfold PTm; omega) sY) hW
              · exact RN_fr (Sm_m (fun b j p => by unfold PN at p; unfold PTm; omega) sY) hN
              · exact RC_fr (Sm_m (fun b j p => by unfold PC at p; unfold PTm; omega) sY) ⟨c1, c2, c3⟩
              · exact RT_fr (Sm_m (fun b j p => by unfold PT at p; unfold PTm; omega) sY) hT
              · exact RD_fr (Sm_m (fun b j p => by unfold PD at p; unfold PTm; omega) sY) hD
              · exact RK_fr (Sm_m (fun b j p => by unfold PK at p; unfold PTm; omega) sY) hK
              · exact RB_fr (Sm_m (fun b j p => by unfold PB at p; unfold PTm; omega) sY) hB
              · exact RQ_fr (Sm_m (fun b j p => by unfold PQ at p; unfold PTm; omega) sY) hQ
              · exact RX_fr (Sm_m (fun b j p => by unfold PX at p; unfold PTm; omega) sY) hX
              · exact hMY
              · exact RP_fr (Sm_m (fun b j p => by unfold PP at p; unfold PTm; omega) sY) hP
              · exact RS_fr (Sm_m (fun b j p => by unfold PS at p; unfold PTm; omega) sY) hS
          · obtain ⟨D2, v1, v2, _⟩ := u3 D1 (fun j => u2 87 j (by omega)) (u2 86 t (by omega))
            have k86 : 0 ≤ D1 86 t := by rw [u2 86 t (by omega)]; exact e2
            have k40 : D1 81 40 = N := (u2 81 40 (by omega)).trans hNN
            have s1 : Sm PTm D D1 := Sm_off u2 (fun j => by unfold PTm; omega)
            have s2 : Sm PTm D D2 := Sm_t s1 (Sm_off v2 (fun j => by unfold PTm; omega))
            have s3 : Sm (fun b j => ¬ (b = 22) ∧ ¬ b = 118) D D2 := Sm_t (Sm_off u2 (fun j => by omega)) (Sm_off v2 (fun j => by omega))
            refine ⟨-4, D1, n, D2, ?_, ?_, Sm_1 (Sm_m (fun b j p => by unfold PTm; omega) s1), Sm_1 (Sm_m (fun b j p => by unfold PTm; omega) s2), Rel_sm s3 (fun b j => by unfold PZ PL PW PN PC PT PD PK PB PQ PX PM PP PS; omega) (fun b j => by unfold PA; omega) hR⟩
            · rw [dn_X11_terms, b_X11_terms_0]
              simp only [z_cd, i10, i11, dnn, rdU, eW, eU, tzC_w, w_shp, w_ptr, Nat.beq_refl, nbz, nb133, nb75, nb55, nb67, n133a, n133b, n75a, n75b, aT, aR, oT, oR, oF, oG, kT, kF, bI, bL, bR, b0, Classical.not_not, not_true_eq_false, not_false_eq_true, and_self, and_true, true_and, ↓reduceIte, decide_true, decide_false, Nat.reduceEqDiff, Nat.reduceLT, Nat.reduceLeDiff, Int.reduceEq, s_lineAt_texts_y _ D L n ht, n67z, q1, p_isWithin, cw, p_full7, h18, f1, s_isMissing _ D L n q1, m0, u1, cr]
            · rw [dn_X12_terms, b_X12_terms_0]
              simp only [z_cd, i10, i11, dnn, rdU, eW, eU, tzC_w, w_shp, w_ptr, Nat.beq_refl, nbz, nb133, nb75, nb55, nb67, n133a, n133b, n75a, n75b, aT, aR, oT, oR, oF, oG, kT, kF, bI, bL, bR, b0, Classical.not_not, not_true_eq_false, not_false_eq_true, and_self, and_true, true_and, ↓reduceIte, decide_true, decide_false, Nat.reduceEqDiff, Nat.reduceLT, Nat.reduceLeDiff, Int.reduceEq, q_isText, ct, q_isDay, cw, k40, f2, hb4, k86, v1, cr]
        · have m0 : ¬ 0 ≤ D (67 + 2 * t) 1 := by omega
          refine ⟨-3, tzRx D 1, n, tzRm (tzRx D 1) 1, ?_, ?_, Sm_1 (by unfold tzRx; (repeat (refine Sm_U (by omega) ?_)); exact Sm_r _ _), Sm_1 (by unfold tzRm tzRx; (repeat (refine Sm_U (by omega) ?_)); exact Sm_r _ _), Rel_ref hR (by omega) (by omega)⟩
          · rw [dn_X11_terms, b_X11_terms_0]
            simp only [z_cd, i10, i11, dnn, rdU, eW, eU, tzC_w, w_shp, w_ptr, Nat.beq_refl, nbz, nb133, nb75, nb55, nb67, n133a, n133b, n75a, n75b, aT, aR, oT, oR, oF, oG, kT, kF, bI, bL, bR, b0, Classical.not_not, not_true_eq_false, not_false_eq_true, and_self, and_true, true_and, ↓reduceIte, decide_true, decide_false, Nat.reduceEqDiff, Nat.reduceLT, Nat.reduceLeDiff, Int.reduceEq, s_lineAt_texts_y _ D L n ht, n67z, q1, p_isWithin, cw, p_full7, h18, f1, s_isMissing _ D L n q1, m0, s_refuse _ D L n (f := 1) (by decide) (by decide)]
          · have k86 : ¬ 0 ≤ tzRx D 1 86 t := by show ¬ 0 ≤ D 86 t; omega
            have k40 : tzRx D 1 81 40 = N := hNN
            rw [dn_X12_terms, b_X12_terms_0]
            simp only [z_cd, i10, i11, dnn, rdU, eW, eU, tzC_w, w_shp, w_ptr, Nat.beq_refl, nbz, nb133, nb75, nb55, nb67, n133a, n133b, n75a, n75b, aT, aR, oT, oR, oF, oG, kT, kF, bI, bL, bR, b0, Classical.not_not, not_true_eq_false, not_false_eq_true, and_self, and_true, true_and, ↓reduceIte, decide_true, decide_false, Nat.reduceEqDiff, Nat.reduceLT, Nat.reduceLeDiff, Int.reduceEq, q_isText, ct, q_isDay, cw, k40, f2, hb4, k86, s_meets _ (tzRx D 1) L n (f := 1) (by decide) (by decide)]
    · refine ⟨-1, D, n, D, ?_, ?_, rfl, rfl, hR⟩
      · rw [dn_X11_terms, b_X11_terms_0]
        simp only [z_cd, i10, i11, dnn, rdU, eW, eU, tzC_w, w_shp, w_ptr, Nat.beq_refl, nbz, nb133, nb75, nb55, nb67, n133a, n133b, n75a, n75b, aT, aR, oT, oR, oF, oG, kT, kF, bI, bL, bR, b0, Classical.not_not, not_true_eq_false, not_false_eq_true, and_self, and_true, true_and, ↓reduceIte, decide_true, decide_false, Nat.reduceEqDiff, Nat.reduceLT, Nat.reduceLeDiff, Int.reduceEq, s_lineAt_texts_y _ D L n ht, n67z, p_isWithin, cw]
      · rw [dn_X12_terms, b_X12_terms_0]
        simp only [z_cd, i10, i11, dnn, rdU, eW, eU, tzC_w, w_shp, w_ptr, Nat.beq_refl, nbz, nb133, nb75, nb55, nb67, n133a, n133b, n75a, n75b, aT, aR, oT, oR, oF, oG, kT, kF, bI, bL, bR, b0, Classical.not_not, not_true_eq_false, not_false_eq_true, and_self, and_true, true_and, ↓reduceIte, decide_true, decide_false, Nat.reduceEqDiff, Nat.reduceLT, Nat.reduceLeDiff, Int.reduceEq, q_isText, ct, q_isDay, cw]
  · refine ⟨-1, D, n, D, ?_, ?_, rfl, rfl, hR⟩
    · rw [dn_X11_terms, b_X11_terms_0]
      simp only [z_cd, i10, i11, dnn, rdU, eW, eU, tzC_w, w_shp, w_ptr, Nat.beq_refl, nbz, nb133, nb75, nb55, nb67, n133a, n133b, n75a, n75b, aT, aR, oT, oR, oF, oG, kT, kF, bI, bL, bR, b0, Classical.not_not, not_true_eq_false, not_false_eq_true, and_self, and_true, true_and, ↓reduceIte, decide_true, decide_false, Nat.reduceEqDiff, Nat.reduceLT, Nat.reduceLeDiff, Int.reduceEq, s_lineAt_texts_n _ D L n (a := a0) (by omega)]
    · rw [dn_X12_terms, b_X12_terms_0]
      simp only [z_cd, i10, i11, dnn, rdU, eW, eU, tzC_w, w_shp, w_ptr, Nat.beq_refl, nbz, nb133, nb75, nb55, nb67, n133a, n133b, n75a, n75b, aT, aR, oT, oR, oF, oG, kT, kF, bI, bL, bR, b0, Classical.not_not, not_true_eq_false, not_false_eq_true, and_self, and_true, true_and, ↓reduceIte, decide_true, decide_false, Nat.reduceEqDiff, Nat.reduceLT, Nat.reduceLeDiff, Int.reduceEq, q_isText, ct]

