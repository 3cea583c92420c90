/-! ===== pairs: the call ===== -/
set_option maxRecDepth 100000 in
set_option maxHeartbeats 2000000 in
theorem q_81s (d L n : Nat) (D : Nat → Int → Int) (hK : RK D n) {S : Int} (S0 : 0 ≤ S) (S1 : S < 64) {r : Nat} (hr : r < 6) {k : Nat} (k6 : k < 6) {gd my : Int} (hg : gd = 0 ∨ gd = 1) (hm : my = 0 ∨ my = 1) : ∃ g1 m1, tqrun tqP (d + 3) tqc_X12_pairs 81 [vR 81, vI S, vI (r : Int), vU, vI gd, vI my, vI (k : Int), vU, vU, vU] [] (tzW D L n) = tqrun tqP (d + 3) tqc_X12_pairs 81 [vR 81, vI S, vI (r : Int), vU, vI g1, vI m1, vI ((k + 1 : Nat) : Int), vU, vU, vU] [] (tzW D L n) ∧ (g1 = 0 ∨ g1 = 1) ∧ (m1 = 0 ∨ m1 = 1) ∧ (g1 = 1 ↔ (gd = 1 ∧ (0 ≤ D 84 (40 * r + k) ∧ D 84 (40 * r + k) ≤ 7))) ∧ (m1 = 1 ↔ (my = 1 ∧ (hbq S (k : Int) → cSw D k))) := by
  have c : ¬ (6 : Int) ≤ (k : Int) := by omega
  have hb : tqib (40 * (r : Int) + k) 240 = true := tqib_y (by omega) (by omega)
  have w1 := w40r hr (show (0 : Int) ≤ (k : Int) by omega) (by omega)
  have e1 := w32_s k (by clear w1; omega)
  have b1 := b01 S0 S1 (show (0 : Int) ≤ (k : Int) by clear w1 e1; omega) (by clear w1 e1; omega)
  have second : ∀ s0 : Int, ∃ m1, tqrun tqP (d + 3) tqc_X12_pairs 116 [vR 81, vI S, vI (r : Int), vU, vI gd, vI my, vI (k : Int), vU, vU, vU] [vI s0] (tzW D L n) = tqrun tqP (d + 3) tqc_X12_pairs 81 [vR 81, vI S, vI (r : Int), vU, vI s0, vI m1, vI ((k + 1 : Nat) : Int), vU, vU, vU] [] (tzW D L n) ∧ (m1 = 0 ∨ m1 = 1) ∧ (m1 = 1 ↔ (my = 1 ∧ (hbq S (k : Int) → cSw D k))) := by
    intro s0
    rcases hm with hm | hm
    · refine ⟨0, ?_, Or.inl rfl, ⟨fun t => by clear w1 e1; omega, fun t => by clear w1 e1; omega⟩⟩
      rw [b_X12_pairs_116]
      simp only [z_cd, i10, i11, dnn, rdU, eW, eU, tzC_w, w_shp, w_ptr, Nat.beq_refl, nbz, nb133, nb75, nb55, nb67, n133a, n133b, n75a, n75b, aT, aR, oT, oR, oF, oG, kT, kF, bI, bL, bR, b0, Classical.not_not, not_true_eq_false, not_false_eq_true, and_self, and_true, true_and, ↓reduceIte, decide_true, decide_false, Nat.reduceEqDiff, Nat.reduceLT, Nat.reduceLeDiff, Int.reduceEq, hm, e1]
    · have mz : ¬ my = 0 := by clear w1 e1; omega
      by_cases q : hbq S (k : Int)
      · have q2 : ¬ jand (jshr S (k : Int)) 1 = 0 := fun t => (b1.mp t) q
        by_cases m : cSw D k
        · refine ⟨1, ?_, Or.inr rfl, ⟨fun _ => ⟨hm, fun _ => m⟩, fun _ => rfl⟩⟩
          rw [b_X12_pairs_116]
          simp only [z_cd, i10, i11, dnn, rdU, eW, eU, tzC_w, w_shp, w_ptr, Nat.beq_refl, nbz, nb133, nb75, nb55, nb67, n133a, n133b, n75a, n75b, aT, aR, oT, oR, oF, oG, kT, kF, bI, bL, bR, b0, Classical.not_not, not_true_eq_false, not_false_eq_true, and_self, and_true, true_and, ↓reduceIte, decide_true, decide_false, Nat.reduceEqDiff, Nat.reduceLT, Nat.reduceLeDiff, Int.reduceEq, mz, q2, q_may_y _ D L n k6 (hK k k6) m, e1]
        · refine ⟨0, ?_, Or.inl rfl, ⟨fun t => by clear w1 e1; omega, fun t => absurd (t.2 q) m⟩⟩
          rw [b_X12_pairs_116]
          simp only [z_cd, i10, i11, dnn, rdU, eW, eU, tzC_w, w_shp, w_ptr, Nat.beq_refl, nbz, nb133, nb75, nb55, nb67, n133a, n133b, n75a, n75b, aT, aR, oT, oR, oF, oG, kT, kF, bI, bL, bR, b0, Classical.not_not, not_true_eq_false, not_false_eq_true, and_self, and_true, true_and, ↓reduceIte, decide_true, decide_false, Nat.reduceEqDiff, Nat.reduceLT, Nat.reduceLeDiff, Int.reduceEq, mz, q2, q_may_n _ D L n k6 m, e1]
      · have q2 : jand (jshr S (k : Int)) 1 = 0 := b1.mpr q
        refine ⟨1, ?_, Or.inr rfl, ⟨fun _ => ⟨hm, fun t => absurd t q⟩, fun _ => rfl⟩⟩
        rw [b_X12_pairs_116]
        simp only [z_cd, i10, i11, dnn, rdU, eW, eU, tzC_w, w_shp, w_ptr, Nat.beq_refl, nbz, nb133, nb75, nb55, nb67, n133a, n133b, n75a, n75b, aT, aR, oT, oR, oF, oG, kT, kF, bI, bL, bR, b0, Classical.not_not, not_true_eq_false, not_false_eq_true, and_self, and_true, true_and, ↓reduceIte, decide_true, decide_false, Nat.reduceEqDiff, Nat.reduceLT, Nat.reduceLeDiff, Int.reduceEq, mz, q2, e1]
  rcases hg with hg | hg
  · obtain ⟨m1, s1, s2, s3⟩ := second 0
    refine ⟨0, m1, ?_, Or.inl rfl, s2, ⟨fun t => by clear w1 e1; omega, fun t => by clear w1 e1; omega⟩, s3⟩
    rw [← s1, b_X12_pairs_81]
    simp only [z_cd, i10, i11, dnn, rdU, eW, eU, tzC_w, w_shp, w_ptr, Nat.beq_refl, nbz, nb133, nb75, nb55, nb67, n133a, n133b, n75a, n75b, aT, aR, oT, oR, oF, oG, kT, kF, bI, bL, bR, b0, Classical.not_not, not_true_eq_false, not_false_eq_true, and_self, and_true, true_and, ↓reduceIte, decide_true, decide_false, Nat.reduceEqDiff, Nat.reduceLT, Nat.reduceLeDiff, Int.reduceEq, c, hg]
  · have gz : ¬ gd = 0 := by clear w1 e1; omega
    by_cases y : 0 ≤ D 84 (40 * r + k) ∧ D 84 (40 * r + k) ≤ 7
    · obtain ⟨m1, s1, s2, s3⟩ := second 1
      refine ⟨1, m1, ?_, Or.inr rfl, s2, ⟨fun _ => ⟨hg, y⟩, fun _ => rfl⟩, s3⟩
      rw [← s1, b_X12_pairs_81]
      simp only [z_cd, i10, i11, dnn, rdU, eW, eU, tzC_w, w_shp, w_ptr, Nat.beq_refl, nbz, nb133, nb75, nb55, nb67, n133a, n133b, n75a, n75b, aT, aR, oT, oR, oF, oG, kT, kF, bI, bL, bR, b0, Classical.not_not, not_true_eq_false, not_false_eq_true, and_self, and_true, true_and, ↓reduceIte, decide_true, decide_false, Nat.reduceEqDiff, Nat.reduceLT, Nat.reduceLeDiff, Int.reduceEq, c, gz, w1, hb, q_isYard, y]
    · obtain ⟨m1, s1, s2, s3⟩ := second 0
      refine ⟨0, m1, ?_, Or.inl rfl, s2, ⟨fun t => by clear w1 e1; omega, fun t => absurd t.2 y⟩, s3⟩
      rw [← s1, b_X12_pairs_81]
      simp only [z_cd, i10, i11, dnn, rdU, eW, eU, tzC_w, w_shp, w_ptr, Nat.beq_refl, nbz, nb133, nb75, nb55, nb67, n133a, n133b, n75a, n75b, aT, aR, oT, oR, oF, oG, kT, kF, bI, bL, bR, b0, Classical.not_not, not_true_eq_false, not_false_eq_true, and_self, and_true, true_and, ↓reduceIte, decide_true, decide_false, Nat.reduceEqDiff, Nat.reduceLT, Nat.reduceLeDiff, Int.reduceEq, c, gz, w1, hb, q_isYard, y]
theorem q_81 (d L n : Nat) (D : Nat → Int → Int) (hK : RK D n) {S : Int} (S0 : 0 ≤ S) (S1 : S < 64) {r : Nat} (hr : r < 6) : ∀ (j k : Nat) (gd my : Int), k + j = 6 → (gd = 0 ∨ gd = 1) → (my = 0 ∨ my = 1) → ∃ g1 m1, tqrun tqP (d + 3) tqc_X12_pairs 81 [vR 81, vI S, vI (r : Int), vU, vI gd, vI my, vI (k : Int), vU, vU, vU] [] (tzW D L n) = tqrun tqP (d + 3) tqc_X12_pairs 81 [vR 81, vI S, vI (r : Int), vU, vI g1, vI m1, vI 6, vU, vU, vU] [] (tzW D L n) ∧ (g1 = 0 ∨ g1 = 1) ∧ (m1 = 0 ∨ m1 = 1) ∧ (g1 = 1 ↔ (gd = 1 ∧ ∀ x : Nat, k ≤ x → x < 6 → 0 ≤ D 84 (40 * r + x) ∧ D 84 (40 * r + x) ≤ 7)) ∧ (m1 = 1 ↔ (my = 1 ∧ ∀ x : Nat, k ≤ x → x < 6 → hbq S (x : Int) → cSw D x))
  | 0, k, gd, my, kj, hg, hm => by
    exact ⟨gd, my, by rw [show (k : Int) = 6 by omega], hg, hm, ⟨fun t => ⟨t, fun x a b => by omega⟩, fun t => t.1⟩, ⟨fun t => ⟨t, fun x a b => by omega⟩, fun t => t.1⟩⟩
  | j + 1, k, gd, my, kj, hg, hm => by
    obtain ⟨g1, m1, s1, s2, s3, s4, s5⟩ := q_81s d L n D hK S0 S1 hr (k := k) (by omega) hg hm
    obtain ⟨g2, m2, t1, t2, t3, t4, t5⟩ := q_81 d L n D hK S0 S1 hr j (k + 1) g1 m1 (by omega) s2 s3
    refine ⟨g2, m2, s1.trans t1, t2, t3, ?_, ?_⟩
    · rw [t4, s4]
      refine ⟨fun h => ⟨h.1.1, fun x a b => ?_⟩, fun h => ⟨⟨h.1, h.2 k (by omega) (by omega)⟩, fun x a b => h.2 x (by omega) b⟩⟩
      by_cases e : x = k
      · rw [e]; exact h.1.2
      · exact h.2 x (by omega) b
    · rw [t5, s5]
      refine ⟨fun h => ⟨h.1.1, fun x a b => ?_⟩, fun h => ⟨⟨h.1, h.2 k (by omega) (by omega)⟩, fun x a b => h.2 x (by omega) b⟩⟩
      by_cases e : x = k
      · rw [e]; exact h.1.2
      · exact h.2 x (by omega) b
set_option maxRecDepth 100000 in
theorem ev_dec : ∀ S : Fin 64, ¬ ((S.val : Nat) : Int) = 0 → (w32 ((bcq ((S.val : Nat) : Int)).tmod 2) = 0 ↔ (btl ((S.val : Nat) : Int) 14 0 0 = 2 ∨ btl ((S.val : Nat) : Int) 14 0 0 = 4 ∨ btl ((S.val : Nat) : Int) 14 0 0 = 6)) := by decide +kernel
theorem ev_0 : btl 0 14 0 0 = 0 := by decide +kernel
set_option maxRecDepth 100000 in
set_option maxHeartbeats 2000000 in
theorem q_31 (d L n : Nat) (D : Nat → Int → Int) (S r : Int) (m : tqM) (h : btl S 14 0 0 = 2 ∨ btl S 14 0 0 = 4 ∨ btl S 14 0 0 = 6) (i1 : 0 ≤ S ∧ S ≤ 63) : tqrun tqP (d + 3) tqc_X12_pairs 0 [vR 81, vI S, vI r, vU, vU, vU, vU, vU, vU, vU] [] m = tqrun tqP (d + 3) tqc_X12_pairs 31 [vR 81, vI S, vI r, vI (btl S 14 0 0), vU, vU, vU, vU, vU, vU] [] m := by
  rw [b_X12_pairs_0]
  rcases h with h | h | h
  · simp only [z_cd, i10, i11, dnn, rdU, eW, eU, tzC_w, w_shp, w_ptr, Nat.beq_refl, nbz, nb133, nb75, nb55, nb67, n133a, n133b, n75a, n75b, aT, aR, oT, oR, oF, oG, kT, kF, bI, bL, bR, b0, Classical.not_not, not_true_eq_false, not_false_eq_true, and_self, and_true, true_and, ↓reduceIte, decide_true, decide_false, Nat.reduceEqDiff, Nat.reduceLT, Nat.reduceLeDiff, Int.reduceEq, q_bits, p_in, i1, h]
  · simp only [z_cd, i10, i11, dnn, rdU, eW, eU, tzC_w, w_shp, w_ptr, Nat.beq_refl, nbz, nb133, nb75, nb55, nb67, n133a, n133b, n75a, n75b, aT, aR, oT, oR, oF, oG, kT, kF, bI, bL, bR, b0, Classical.not_not, not_true_eq_false, not_false_eq_true, and_self, and_true, true_and, ↓reduceIte, decide_true, decide_false, Nat.reduceEqDiff, Nat.reduceLT, Nat.reduceLeDiff, Int.reduceEq, q_bits, p_in, i1, h]
  · simp only [z_cd, i10, i11, dnn, rdU, eW, eU, tzC_w, w_shp, w_ptr, Nat.beq_refl, nbz, nb133, nb75, nb55, nb67, n133a, n133b, n75a, n75b, aT, aR, oT, oR, oF, oG, kT, kF, bI, bL, bR, b0, Classical.not_not, not_true_eq_false, not_false_eq_true, and_self, and_true, true_and, ↓reduceIte, decide_true, decide_false, Nat.reduceEqDiff, Nat.reduceLT, Nat.reduceLeDiff, Int.reduceEq, q_bits, p_in, i1, h]
set_option maxRecDepth 100000 in
set_option maxHeartbeats 2000000 in
theorem q_31n (d L n : Nat) (D : Nat → Int → Int) (S r : Int) (m : tqM) (h : ¬ (0 ≤ S ∧ S ≤ 63) ∨ ¬ (btl S 14 0 0 = 2 ∨ btl S 14 0 0 = 4 ∨ btl S 14 0 0 = 6)) : tqrun tqP (d + 3) tqc_X12_pairs 0 [vR 81, vI S, vI r, vU, vU, vU, vU, vU, vU, vU] [] m = some (some (vI (-1)), m) := by
  rw [b_X12_pairs_0]
  by_cases i1 : 0 ≤ S ∧ S ≤ 63
  · rcases h with h | h
    · exact absurd i1 h
    · have h1 : ¬ btl S 14 0 0 = 2 := fun q => h (Or.inl q)
      have h2 : ¬ btl S 14 0 0 = 4 := fun q => h (Or.inr (Or.inl q))
      have h3 : ¬ btl S 14 0 0 = 6 := fun q => h (Or.inr (Or.inr q))
      simp only [z_cd, i10, i11, dnn, rdU, eW, eU, tzC_w, w_shp, w_ptr, Nat.beq_refl, nbz, nb133, nb75, nb55, nb67, n133a, n133b, n75a, n75b, aT, aR, oT, oR, oF, oG, kT, kF, bI, bL, bR, b0, Classical.not_not, not_true_eq_false, not_false_eq_true, and_self, and_true, true_and, ↓reduceIte, decide_true, decide_false, Nat.reduceEqDiff, Nat.reduceLT, Nat.reduceLeDiff, Int.reduceEq, q_bits, p_in, i1, h1, h2, h3]
  · simp only [z_cd, i10, i11, dnn, rdU, eW, eU, tzC_w, w_shp, w_ptr, Nat.beq_refl, nbz, nb133, nb75, nb55, nb67, n133a, n133b, n75a, n75b, aT, aR, oT, oR, oF, oG, kT, kF, bI, bL, bR, b0, Classical.not_not, not_true_eq_false, not_false_eq_true, and_self, and_true, true_and, ↓reduceIte, decide_true, decide_false, Nat.reduceEqDiff, Nat.reduceLT, Nat.reduceLeDiff, Int.reduceEq, q_bits, p_in, i1]
def PPy (b : Nat) (j : Int) : Prop := ¬ (24 ≤ b ∧ b ≤ 29) ∧ ¬ (b = 23 ∧ (6 ≤ j ∧ j ≤ 8)) ∧ b ≠ 92 ∧ b ≠ 119 ∧ b ≠ 120 ∧ b ≠ 121 ∧ ¬ (b = 81 ∧ 50 ≤ j ∧ j ≤ 54)
theorem Sm_UU2 {D X : Nat → Int → Int} (h : ∀ (b : Nat) (j : Int), PPy b j → X b j = D b j) : Sm PPy (tzU D 53 1 1) (tzU X 53 1 1) := Sm_UU (fun b j p => h b j p) 53 1 1
theorem RelY {Z Y : Nat → Int → Int} {n : Nat} (hR : Rel Z n) (s : Sm PPy Z Y) (e : ∀ j : Int, 0 ≤ j → j ≤ 5 → Y 29 j = Y 119 j) : Rel Y n := by
  obtain ⟨hA, hL, hW, hN, ⟨c1, c2, c3⟩, hT, hD, hK, hB, hQ, hX, hM, hP, hS⟩ := id hR
  refine ⟨?_, ?_, ?_, ?_, ?_, ?_, ?_, ?_, ?_, ?_, ?_, ?_, ?_, ?_⟩
  · exact RA_fr (Sm_m (fun b j p => by unfold PA at p; unfold PPy; omega) s) hA
  · exact RL_fr (Sm_m (fun b j p => by unfold PL at p; unfold PPy; omega) s) hL
  · exact RW_fr (Sm_m (fun b j p => by unfold PW at p; unfold PPy; omega) s) hW
  · exact RN_fr (Sm_m (fun b j p => by unfold PN at p; unfold PPy; omega) s) hN
  · exact RC_fr (Sm_m (fun b j p => by unfold PC at p; unfold PPy; omega) s) ⟨c1, c2, c3⟩
  · exact RT_fr (Sm_m (fun b j p => by unfold PT at p; unfold PPy; omega) s) hT
  · exact RD_fr (Sm_m (fun b j p => by unfold PD at p; unfold PPy; omega) s) hD
  · exact RK_fr (Sm_m (fun b j p => by unfold PK at p; unfold PPy; omega) s) hK
  · exact RB_fr (Sm_m (fun b j p => by unfold PB at p; unfold PPy; omega) s) hB
  · exact RQ_fr (Sm_m (fun b j p => by unfold PQ at p; unfold PPy; omega) s) hQ
  · exact RX_fr (Sm_m (fun b j p => by unfold PX at p; unfold PPy; omega) s) hX
  · exact RM_fr (Sm_m (fun b j p => by unfold PM at p; unfold PPy; omega) s) hM
  · exact RP_fr (Sm_m (fun b j p => by unfold PP at p; unfold PPy; omega) s) hP
  · obtain ⟨s1, ⟨s2, s3, s4, s5⟩, s6, s7, s8, s9⟩ := hS
    have r : ∀ (b : Nat) (j : Int), PPy b j → Y b j = Z b j := s
    refine ⟨e, ⟨?_, ?_, ?_, fun j a b => ?_⟩, ?_, ?_, ?_, fun j a b => ?_⟩
    · rw [r 30 4 (by unfold PPy; omega), r 81 58 (by unfold PPy; omega)]; exact s2
    · rw [r 81 58 (by unfold PPy; omega)]; exact s3
    · rw [r 81 58 (by unfold PPy; omega)]; exact s4
    · rw [r 81 58 (by unfold PPy; omega)] at b
      rw [r 40 j (by unfold PPy; omega), r 122 j (by unfold PPy; omega)]; exact s5 j a b
    · rw [r 50 2 (by unfold PPy; omega), r 81 69 (by unfold PPy; omega)]; exact s6
    · rw [r 81 69 (by unfold PPy; omega)]; exact s7
    · rw [r 81 69 (by unfold PPy; omega)]; exact s8
    · rw [r 81 69 (by unfold PPy; omega)] at b
      rw [r 52 j (by unfold PPy; omega), r 131 j (by unfold PPy; omega)]; exact s9 j a b
set_option maxRecDepth 100000 in
set_option maxHeartbeats 4000000 in
theorem ag_pairs {L : Nat} (a0 a1 : Int) : AgI Rel L n_X11_pairs n_X12_pairs [vI a0, vI a1] := by
  intro D n hR
  obtain ⟨hA, hL, hW, hN, ⟨c1, c2, c3⟩, hT, hD, hK, hB, hQ, hX, hM, hP, hS⟩ := id hR
  by_cases ct : 0 ≤ a1 ∧ a1 ≤ 5
  · obtain ⟨k, e⟩ : ∃ k : Nat, a1 = k := ⟨a1.toNat, by omega⟩
    subst e
    have hk : k < 6 := by omega
    have hb6 : tqib (k : Int) 6 = true := tqib_y (by omega) (by omega)
    obtain ⟨q1, q2, q3⟩ := w_row D L n hk
    by_cases y1 : 1 ≤ a0 ∧ a0 ≤ 63
    · have evd : w32 ((bcq a0).tmod 2) = 0 ↔ (btl a0 14 0 0 = 2 ∨ btl a0 14 0 0 = 4 ∨ btl a0 14 0 0 = 6) := by
        obtain ⟨p, hp⟩ : ∃ p : Nat, a0 = p := ⟨a0.toNat, by omega⟩
        rw [hp]
        exact ev_dec ⟨p, by omega⟩ (show ¬ ((p : Nat) : Int) = 0 by omega)
      by_cases ev : btl a0 14 0 0 = 2 ∨ btl a0 14 0 0 = 4 ∨ btl a0 14 0 0 = 6
      · have y2 : w32 ((bcq a0).tmod 2) = 0 := evd.mpr ev
        have evl : cdl a0 216 0 = pmq 3 a0 := by
          obtain ⟨p, hp⟩ : ∃ p : Nat, a0 = p := ⟨a0.toNat, by clear y2 evd; omega⟩
          rw [hp] at ev ⊢
          exact cd_dec ⟨p, by clear y2 evd; omega⟩ ev
        have S0 : 0 ≤ a0 := by clear y2 evd; omega
        have S1 : a0 < 64 := by clear y2 evd; omega
        have c63 : 0 ≤ a0 ∧ a0 ≤ 63 := by clear y2 evd; omega
        clear evd
        rcases hL.1 k hk with ⟨e1, e2, e3⟩ | ⟨e1, e2⟩
        · have m0 : 0 ≤ D (55 + 2 * k) 1 := by clear y2; omega
          by_cases z : D 83 k = 6
          · have z1 : D (55 + 2 * k) 1 = 6 := by clear y2; omega
            obtain ⟨r, u1, u2⟩ := p_all 1397 L n D hk (N := D 83 k) e2 e3 e1 0 7 (fun i => D 84 (40 * k + i)) (fun i i0 i1 => hL.2.1 k i hk i0 (by clear y2; omega))
            have k83 : 0 ≤ D 83 k := e2
            rcases u2 with ⟨u2, u3⟩ | ⟨u2, u3⟩
            · rw [u2] at u1
              rw [z] at u3
              have mz : ∀ x : Nat, 0 ≤ x → x < 6 → 0 ≤ D 84 (40 * k + x) ∧ D 84 (40 * k + x) ≤ 7 := fun x _ b => u3 x (by clear y2; omega) (by clear y2; omega)
              have e13 : D 2 13 = D 81 5 := hN.1
              by_cases may : ∀ x : Nat, 0 ≤ x → x < 6 → hbq a0 (x : Int) → cSw D x
              · have pl := (p_85 1396 L n D hK e13 a0 (55 + 2 * k) 6 0 (by clear y2; omega)).1 may
                obtain ⟨X, x1, x2, x3⟩ := p_pairUp 1385 L n (56 + 2 * k) D hR (fun E => (w_row E L n hk).2.2) (by clear y2; omega) (fun i => D 84 (40 * k + i)) (fun x a b => u3 x a b) S0 S1 (fun i i0 i1 => hL.2.1 k i hk i0 (by clear y2; omega))
                have hRX0 : ∀ (b : Nat) (j : Int), ¬ (24 ≤ b ∧ b ≤ 29) → ¬ (b = 23 ∧ (6 ≤ j ∧ j ≤ 8)) → X b j = D b j := fun b j p q => x2 b j ⟨p, q⟩
                obtain ⟨R, hR'⟩ : ∃ R, R = flq (Epq D (fun i => D 84 (40 * k + i)) a0) 0 (fun _ => -9) (pmq 3 a0) (2147483647, D 29) := ⟨_, rfl⟩
                rw [← hR'] at x1 x3
                have refr : ∀ F : Nat → Int → Int, (∀ (b : Nat) (j : Int), ¬ (24 ≤ b ∧ b ≤ 29) → ¬ (b = 23 ∧ (6 ≤ j ∧ j ≤ 8)) → b ≠ 53 → b ≠ 54 → F b j = D b j) → ∃ G, tqden tqP 1399 n_X12_pairs [vR 81, vI a0, vI (k : Int)] (tzW F L n) = tqrun tqP (1392 + 7) tqc_X12_pairs 180 [vR 81, vI a0, vI (k : Int), vU, vU, vU, vI (nv R.1), vI 216, vU, vU] [] (tzW G L n) ∧ Sm PPf F G ∧ Vq R.1 ∧ (R.1 = 2147483647 ∨ ∀ i : Int, 0 ≤ i → i < 6 → G 121 i = R.2 i) := by
                  intro F hF
                  have hKF : RK F n := RK_fr (fun b j p => by unfold PK at p; exact hF b j (by clear y2; omega) (by clear y2; omega) (by clear y2; omega) (by clear y2; omega)) hK
                  have hRF : RKN F n := ⟨RW_fr (fun b j p => by unfold PW at p; exact hF b j (by clear y2; omega) (by clear y2; omega) (by clear y2; omega) (by clear y2; omega)) hW, RN_fr (fun b j p => by unfold PN at p; exact hF b j (by clear y2; omega) (by clear y2; omega) (by clear y2; omega) (by clear y2; omega)) hN, hKF⟩
                  have eE : Epq F (fun i => D 84 (40 * k + i)) a0 = Epq D (fun i => D 84 (40 * k + i)) a0 := by
                    funext a b
                    unfold Epq enq
                    rw [swL_sm (D := D) (fun x y p => by unfold PVq at p; exact hF x y (by clear y2; omega) (by clear y2; omega) (by clear y2; omega) (by clear y2; omega)), hF 105 a (by clear y2; omega) (by clear y2; omega) (by clear y2; omega) (by clear y2; omega), hF 105 b (by clear y2; omega) (by clear y2; omega) (by clear y2; omega) (by clear y2; omega), hF 81 5 (by clear y2; omega) (by clear y2; omega) (by clear y2; omega) (by clear y2; omega)]
                  obtain ⟨G, w1, w2, w3, w4⟩ := q_180 1392 L n F hRF hk (H := fun i => D 84 (40 * k + i)) (fun x a b => u3 x a b) (fun x a b => hF 84 _ (by clear y2; omega) (by clear y2; omega) (by clear y2; omega) (by clear y2; omega)) S0 S1 216 0 (2147483647, D 29) F F (by clear y2; omega) (by clear y2; omega) (Sm_r _ _) (Or.inr rfl) (Or.inl rfl)
                  rw [eE, evl, ← hR'] at w1 w3 w4
                  refine ⟨G, ?_, w2, w3, w4⟩
                  have f84 : ∀ x : Nat, F 84 (40 * k + x) = D 84 (40 * k + x) := fun x => hF 84 _ (by clear y2; omega) (by clear y2; omega) (by clear y2; omega) (by clear y2; omega)
                  have fcs : ∀ x : Nat, cSw F x = cSw D x := fun x => cSw_fr (hF 81 5 (by clear y2; omega) (by clear y2; omega) (by clear y2; omega) (by clear y2; omega)) (hF 106 x (by clear y2; omega) (by clear y2; omega) (by clear y2; omega) (by clear y2; omega)) (hF 107 x (by clear y2; omega) (by clear y2; omega) (by clear y2; omega) (by clear y2; omega))
                  obtain ⟨g1, m1, t1, t2, t3, t4, t5⟩ := q_81 1396 L n F hKF S0 S1 hk 6 0 1 1 (by clear y2; omega) (Or.inr rfl) (Or.inr rfl)
                  have gg : g1 = 1 := t4.mpr ⟨rfl, fun x a b => by rw [f84 x]; exact mz x a b⟩
                  have mm : m1 = 1 := t5.mpr ⟨rfl, fun x a b h => by rw [fcs x]; exact may x a b h⟩
                  rw [gg, mm] at t1
                  have k83F : F 83 k = 6 := (hF 83 k (by clear y2; omega) (by clear y2; omega) (by clear y2; omega) (by clear y2; omega)).trans z
                  have z06 : (0 : Int) ≤ 6 := by decide
                  have z66 : (6 : Int) ≤ 6 := by decide
                  have nvy : nv 2147483647 = 100000000 := nv_y
                  have w1' : tqrun tqP (1392 + 7) tqc_X12_pairs 180 [vR 81, vI a0, vI (k : Int), vU, vU, vU, vI (nv 2147483647), vI 0, vU, vU] [] (tzW F L n) = tqrun tqP (1392 + 7) tqc_X12_pairs 180 [vR 81, vI a0, vI (k : Int), vU, vU, vU, vI (nv R.1), vI 216, vU, vU] [] (tzW G L n) := w1
                  rw [nvy] at w1'
                  have z0 : ((0 : Nat) : Int) = 0 := rfl
                  rw [z0] at t1
                  rw [← w1', dn_X12_pairs, q_31 1396 L n D a0 (k : Int) _ ev c63, b_X12_pairs_31]
                  simp only [z_cd, i10, i11, dnn, rdU, eW, eU, tzC_w, w_shp, w_ptr, Nat.beq_refl, nbz, nb133, nb75, nb55, nb67, n133a, n133b, n75a, n75b, aT, aR, oT, oR, oF, oG, kT, kF, bI, bL, bR, b0, Classical.not_not, not_true_eq_false, not_false_eq_true, and_self, and_true, true_and, ↓reduceIte, decide_true, decide_false, Nat.reduceEqDiff, Nat.reduceLT, Nat.reduceLeDiff, Int.reduceEq, q_isRow, ct, hb6, k83F, z06]
                  refine t1.trans ?_
                  rw [b_X12_pairs_81]
                  simp only [z_cd, i10, i11, dnn, rdU, eW, eU, tzC_w, w_shp, w_ptr, Nat.beq_refl, nbz, nb133, nb75, nb55, nb67, n133a, n133b, n75a, n75b, aT, aR, oT, oR, oF, oG, kT, kF, bI, bL, bR, b0, Classical.not_not, not_true_eq_false, not_false_eq_true, and_self, and_true, true_and, ↓reduceIte, decide_true, decide_false, Nat.reduceEqDiff, Nat.reduceLT, Nat.reduceLeDiff, Int.reduceEq, z66]
                have f6 : (6 : Int) ≤ 6 := by decide
                have z0 : ((0 : Nat) : Int) = 0 := rfl
                rw [z0] at pl
                by_cases nev : R.1 = 2147483647
                · rw [nev] at x1
                  obtain ⟨G, w1, w2, w3, w4⟩ := refr (tzRx X 1) (fun b j p q r1 r2 => by
                    unfold tzRx
                    rw [tzU_o _ _ _ _ r2, tzU_o _ _ _ _ r1]
                    exact hRX0 b j p q)
                  rw [nev, nv_y] at w1
                  have Rs : R = (2147483647, D 29) := by
                    have h := (flq_le (Epq D (fun i => D 84 (40 * k + i)) a0) 0 (fun _ => -9) (pmq 3 a0) (2147483647, D 29)).2
                    rw [← hR'] at h
                    exact h nev
                  have sY : Sm PPy (tzRm (tzRx D 1) 1) (tzRm G 1) := by
                    have e54 : X 54 1 = D 54 1 := hRX0 54 1 (by clear y2; omega) (by clear y2; omega)
                    have sx : Sm PPy (tzRx D 1) (tzRx X 1) := by
                      show Sm PPy (tzU (tzU D 53 1 1) 54 1 (w32 (D 54 1 + 1))) (tzU (tzU X 53 1 1) 54 1 (w32 (X 54 1 + 1)))
                      rw [e54]
                      exact Sm_UU (Sm_UU2 (fun b j p => hRX0 b j p.1 p.2.1)) _ _ _
                    have s0 : Sm PPy (tzRx D 1) G := Sm_t sx (Sm_m (P := PPy) (Q := PPf) (fun b j p => by unfold PPy at p; unfold PPf; clear y2; omega) w2)
                    exact Sm_Rm s0 (fun j => by unfold PPy; clear y2; omega) 1
                  have y29 : ∀ j : Int, 0 ≤ j → j ≤ 5 → tzRm G 1 29 j = tzRm G 1 119 j := fun j j0 j1 => by
                    have a1 : tzRm G 1 29 j = X 29 j := by
                      show G 29 j = X 29 j
                      rw [w2 29 j (by unfold PPf; clear y2; omega)]
                      rfl
                    have a2 : tzRm G 1 119 j = D 119 j := by
                      show G 119 j = D 119 j
                      rw [w2 119 j (by unfold PPf; clear y2; omega)]
                      exact hRX0 119 j (by clear y2; omega) (by clear y2; omega)
                    have a3 := x3 j j0 (by clear y2; omega)
                    rw [Rs] at a3
                    rw [a1, a2, a3]
                    exact hS.1 j j0 j1
                  refine ⟨-3, tzRx X 1, n, tzRm G 1, ?_, ?_, ?_, ?_, RelY (Rel_ref hR (by clear y2; omega) (by clear y2; omega)) sY y29⟩
                  · rw [dn_X11_pairs, b_X11_pairs_0]
                    simp only [z_cd, i10, i11, dnn, rdU, eW, eU, tzC_w, w_shp, w_ptr, Nat.beq_refl, nbz, nb133, nb75, nb55, nb67, n133a, n133b, n75a, n75b, aT, aR, oT, oR, oF, oG, kT, kF, bI, bL, bR, b0, Classical.not_not, not_true_eq_false, not_false_eq_true, and_self, and_true, true_and, ↓reduceIte, decide_true, decide_false, Nat.reduceEqDiff, Nat.reduceLT, Nat.reduceLeDiff, Int.reduceEq, s_lineAt_rows_y _ D L n hk, nb55, p_bitCount, p_isWithin, y1, y2, q1, s_isMissing _ D L n q1, m0, z1, u1]
                    refine pl.trans ?_
                    rw [b_X11_pairs_85]
                    simp only [z_cd, i10, i11, dnn, rdU, eW, eU, tzC_w, w_shp, w_ptr, Nat.beq_refl, nbz, nb133, nb75, nb55, nb67, n133a, n133b, n75a, n75b, aT, aR, oT, oR, oF, oG, kT, kF, bI, bL, bR, b0, Classical.not_not, not_true_eq_false, not_false_eq_true, and_self, and_true, true_and, ↓reduceIte, decide_true, decide_false, Nat.reduceEqDiff, Nat.reduceLT, Nat.reduceLeDiff, Int.reduceEq, f6, q1, q2, e13, x1, p_orN_y]
                  · refine w1.trans ?_
                    have c216 : (216 : Int) ≤ 216 := by decide
                    rw [b_X12_pairs_180]
                    simp only [z_cd, i10, i11, dnn, rdU, eW, eU, tzC_w, w_shp, w_ptr, Nat.beq_refl, nbz, nb133, nb75, nb55, nb67, n133a, n133b, n75a, n75b, aT, aR, oT, oR, oF, oG, kT, kF, bI, bL, bR, b0, Classical.not_not, not_true_eq_false, not_false_eq_true, and_self, and_true, true_and, ↓reduceIte, decide_true, decide_false, Nat.reduceEqDiff, Nat.reduceLT, Nat.reduceLeDiff, Int.reduceEq, c216, s_meets _ G L n (f := 1) (by decide) (by decide)]
                  · funext j
                    exact hRX0 1 j (by clear y2; omega) (by clear y2; omega)
                  · funext j
                    show G 1 j = D 1 j
                    rw [w2 1 j (by unfold PPf; clear y2; omega)]
                    exact hRX0 1 j (by clear y2; omega) (by clear y2; omega)
                · obtain ⟨G, w1, w2, w3, w4⟩ := refr X (fun b j p q _ _ => hRX0 b j p q)
                  have nn := nv_v w3
                  have n1 : nv R.1 = R.1 := nv_n nev
                  rw [n1] at w1
                  have n8 : ¬ R.1 = 100000000 := by clear y2; omega
                  obtain ⟨Y, h1, h2, h3⟩ := q_261 1398 L n R.1 6 0 G (by clear y2; omega) (by clear y2; omega)
                  have sY : Sm PPy D Y := fun b j p => by
                    unfold PPy at p
                    rw [h2 b j (by clear y2; omega), w2 b j (by unfold PPf; clear y2; omega)]
                    exact hRX0 b j p.1 p.2.1
                  have y29 : ∀ j : Int, 0 ≤ j → j ≤ 5 → Y 29 j = Y 119 j := fun j j0 j1 => by
                    rw [h3 j, if_pos (show 0 ≤ j ∧ j < 6 by clear y2; omega), h2 29 j (by clear y2; omega), w2 29 j (by unfold PPf; clear y2; omega), x3 j j0 (by clear y2; omega)]
                    rcases w4 with q | q
                    · exact absurd q nev
                    · exact (q j j0 (by clear y2; omega)).symm
                  refine ⟨R.1, X, n, Y, ?_, ?_, ?_, ?_, RelY hR sY y29⟩
                  · rw [dn_X11_pairs, b_X11_pairs_0]
                    simp only [z_cd, i10, i11, dnn, rdU, eW, eU, tzC_w, w_shp, w_ptr, Nat.beq_refl, nbz, nb133, nb75, nb55, nb67, n133a, n133b, n75a, n75b, aT, aR, oT, oR, oF, oG, kT, kF, bI, bL, bR, b0, Classical.not_not, not_true_eq_false, not_false_eq_true, and_self, and_true, true_and, ↓reduceIte, decide_true, decide_false, Nat.reduceEqDiff, Nat.reduceLT, Nat.reduceLeDiff, Int.reduceEq, s_lineAt_rows_y _ D L n hk, nb55, p_bitCount, p_isWithin, y1, y2, q1, s_isMissing _ D L n q1, m0, z1, u1]
                    refine pl.trans ?_
                    rw [b_X11_pairs_85]
                    simp only [z_cd, i10, i11, dnn, rdU, eW, eU, tzC_w, w_shp, w_ptr, Nat.beq_refl, nbz, nb133, nb75, nb55, nb67, n133a, n133b, n75a, n75b, aT, aR, oT, oR, oF, oG, kT, kF, bI, bL, bR, b0, Classical.not_not, not_true_eq_false, not_false_eq_true, and_self, and_true, true_and, ↓reduceIte, decide_true, decide_false, Nat.reduceEqDiff, Nat.reduceLT, Nat.reduceLeDiff, Int.reduceEq, f6, q1, q2, e13, x1, p_orN_n _ _ _ nev]
                  · refine w1.trans ?_
                    have c216 : (216 : Int) ≤ 216 := by decide
                    rw [b_X12_pairs_180]
                    simp only [z_cd, i10, i11, dnn, rdU, eW, eU, tzC_w, w_shp, w_ptr, Nat.beq_refl, nbz, nb133, nb75, nb55, nb67, n133a, n133b, n75a, n75b, aT, aR, oT, oR, oF, oG, kT, kF, bI, bL, bR, b0, Classical.not_not, not_true_eq_false, not_false_eq_true, and_self, and_true, true_and, ↓reduceIte, decide_true, decide_false, Nat.reduceEqDiff, Nat.reduceLT, Nat.reduceLeDiff, Int.reduceEq, c216, n8]
                    exact h1
                  · funext j
                    exact hRX0 1 j (by clear y2; omega) (by clear y2; omega)
                  · funext j
                    exact sY 1 j (by unfold PPy; clear y2; omega)
              · have pl := (p_85 1396 L n D hK e13 a0 (55 + 2 * k) 6 0 (by clear y2; omega)).2 may
                obtain ⟨g1, m1, t1, t2, t3, t4, t5⟩ := q_81 1396 L n D hK S0 S1 hk 6 0 1 1 (by clear y2; omega) (Or.inr rfl) (Or.inr rfl)
                have gg : g1 = 1 := t4.mpr ⟨rfl, mz⟩
                have mm : m1 = 0 := by
                  rcases t3 with q | q
                  · exact q
                  · exact absurd (t5.mp q).2 may
                rw [gg, mm] at t1
                have z0 : ((0 : Nat) : Int) = 0 := rfl
                rw [z0] at t1 pl
                have z06 : (0 : Int) ≤ 6 := by decide
                have z66 : (6 : Int) ≤ 6 := by decide
                refine ⟨-4, D, n, D, ?_, ?_, rfl, rfl, hR⟩
                · rw [dn_X11_pairs, b_X11_pairs_0]
                  simp only [z_cd, i10, i11, dnn, rdU, eW, eU, tzC_w, w_shp, w_ptr, Nat.beq_refl, nbz, nb133, nb75, nb55, nb67, n133a, n133b, n75a, n75b, aT, aR, oT, oR, oF, oG, kT, kF, bI, bL, bR, b0, Classical.not_not, not_true_eq_false, not_false_eq_true, and_self, and_true, true_and, ↓reduceIte, decide_true, decide_false, Nat.reduceEqDiff, Nat.reduceLT, Nat.reduceLeDiff, Int.reduceEq, s_lineAt_rows_y _ D L n hk, nb55, p_bitCount, p_isWithin, y1, y2, q1, s_isMissing _ D L n q1, m0, z1, u1]
                  exact pl
                · rw [dn_X12_pairs, q_31 1396 L n D a0 (k : Int) _ ev c63, b_X12_pairs_31]
                  simp only [z_cd, i10, i11, dnn, rdU, eW, eU, tzC_w, w_shp, w_ptr, Nat.beq_refl, nbz, nb133, nb75, nb55, nb67, n133a, n133b, n75a, n75b, aT, aR, oT, oR, oF, oG, kT, kF, bI, bL, bR, b0, Classical.not_not, not_true_eq_false, not_false_eq_true, and_self, and_true, true_and, ↓reduceIte, decide_true, decide_false, Nat.reduceEqDiff, Nat.reduceLT, Nat.reduceLeDiff, Int.reduceEq, q_isRow, ct, hb6, z, z06]
                  refine t1.trans ?_
                  rw [b_X12_pairs_81]
                  simp only [z_cd, i10, i11, dnn, rdU, eW, eU, tzC_w, w_shp, w_ptr, Nat.beq_refl, nbz, nb133, nb75, nb55, nb67, n133a, n133b, n75a, n75b, aT, aR, oT, oR, oF, oG, kT, kF, bI, bL, bR, b0, Classical.not_not, not_true_eq_false, not_false_eq_true, and_self, and_true, true_and, ↓reduceIte, decide_true, decide_false, Nat.reduceEqDiff, Nat.reduceLT, Nat.reduceLeDiff, Int.reduceEq, z66]
            · rw [u2] at u1
              rw [z] at u3
              obtain ⟨g1, m1, t1, t2, t3, t4, t5⟩ := q_81 1396 L n (tzRx D 3) (RK_fr (by unfold tzRx; (repeat (refine Sm_U (by unfold PK; omega) ?_)); exact Sm_r _ _) hK) S0 S1 hk 6 0 1 1 (by clear y2; omega) (Or.inr rfl) (Or.inr rfl)
              have gg : g1 = 0 := by
                rcases t2 with q | q
                · exact q
                · refine absurd (fun x a b => ?_) u3
                  have h := (t4.mp q).2 x.toNat (by clear y2; omega) (by clear y2; omega)
                  rw [show ((x.toNat : Nat) : Int) = x by clear y2; omega] at h
                  exact h
              rw [gg] at t1
              have z0 : ((0 : Nat) : Int) = 0 := rfl
              rw [z0] at t1
              have z06 : (0 : Int) ≤ 6 := by decide
              have z66 : (6 : Int) ≤ 6 := by decide
              have zz : tzRx D 3 83 k = 6 := z
              refine ⟨-3, tzRx D 3, n, tzRm (tzRx D 3) 3, ?_, ?_, Sm_1 (by unfold tzRx; (repeat (refine Sm_U (by omega) ?_)); exact Sm_r _ _), Sm_1 (by unfold tzRm tzRx; (repeat (refine Sm_U (by omega) ?_)); exact Sm_r _ _), Rel_ref hR (by clear y2; omega) (by clear y2; omega)⟩
              · rw [dn_X11_pairs, b_X11_pairs_0]
                simp only [z_cd, i10, i11, dnn, rdU, eW, eU, tzC_w, w_shp, w_ptr, Nat.beq_refl, nbz, nb133, nb75, nb55, nb67, n133a, n133b, n75a, n75b, aT, aR, oT, oR, oF, oG, kT, kF, bI, bL, bR, b0, Classical.not_not, not_true_eq_false, not_false_eq_true, and_self, and_true, true_and, ↓reduceIte, decide_true, decide_false, Nat.reduceEqDiff, Nat.reduceLT, Nat.reduceLeDiff, Int.reduceEq, s_lineAt_rows_y _ D L n hk, nb55, p_bitCount, p_isWithin, y1, y2, q1, s_isMissing _ D L n q1, m0, z1, z06, u1, s_refuse _ D L n (f := 3) (by decide) (by decide)]
              · rw [dn_X12_pairs, q_31 1396 L n D a0 (k : Int) _ ev c63, b_X12_pairs_31]
                simp only [z_cd, i10, i11, dnn, rdU, eW, eU, tzC_w, w_shp, w_ptr, Nat.beq_refl, nbz, nb133, nb75, nb55, nb67, n133a, n133b, n75a, n75b, aT, aR, oT, oR, oF, oG, kT, kF, bI, bL, bR, b0, Classical.not_not, not_true_eq_false, not_false_eq_true, and_self, and_true, true_and, ↓reduceIte, decide_true, decide_false, Nat.reduceEqDiff, Nat.reduceLT, Nat.reduceLeDiff, Int.reduceEq, q_isRow, ct, hb6, zz, z06]
                refine t1.trans ?_
                rw [b_X12_pairs_81]
                simp only [z_cd, i10, i11, dnn, rdU, eW, eU, tzC_w, w_shp, w_ptr, Nat.beq_refl, nbz, nb133, nb75, nb55, nb67, n133a, n133b, n75a, n75b, aT, aR, oT, oR, oF, oG, kT, kF, bI, bL, bR, b0, Classical.not_not, not_true_eq_false, not_false_eq_true, and_self, and_true, true_and, ↓reduceIte, decide_true, decide_false, Nat.reduceEqDiff, Nat.reduceLT, Nat.reduceLeDiff, Int.reduceEq, z66, s_meets _ (tzRx D 3) L n (f := 3) (by decide) (by decide)]
          · have z1 : ¬ D (55 + 2 * k) 1 = 6 := by clear y2; omega
            have zz : ¬ tzRx D 5 83 k = 6 := z
            have z3 : 0 ≤ tzRx D 5 83 k := e2
            refine ⟨-3, tzRx D 5, n, tzRm (tzRx D 5) 5, ?_, ?_, Sm_1 (by unfold tzRx; (repeat (refine Sm_U (by omega) ?_)); exact Sm_r _ _), Sm_1 (by unfold tzRm tzRx; (repeat (refine Sm_U (by omega) ?_)); exact Sm_r _ _), Rel_ref hR (by clear y2; omega) (by clear y2; omega)⟩
            · rw [dn_X11_pairs, b_X11_pairs_0]
              simp only [z_cd, i10, i11, dnn, rdU, eW, eU, tzC_w, w_shp, w_ptr, Nat.beq_refl, nbz, nb133, nb75, nb55, nb67, n133a, n133b, n75a, n75b, aT, aR, oT, oR, oF, oG, kT, kF, bI, bL, bR, b0, Classical.not_not, not_true_eq_false, not_false_eq_true, and_self, and_true, true_and, ↓reduceIte, decide_true, decide_false, Nat.reduceEqDiff, Nat.reduceLT, Nat.reduceLeDiff, Int.reduceEq, s_lineAt_rows_y _ D L n hk, nb55, p_bitCount, p_isWithin, y1, y2, q1, s_isMissing _ D L n q1, m0, z1, s_refuse _ D L n (f := 5) (by decide) (by decide)]
            · rw [dn_X12_pairs, q_31 1396 L n D a0 (k : Int) _ ev c63, b_X12_pairs_31]
              simp only [z_cd, i10, i11, dnn, rdU, eW, eU, tzC_w, w_shp, w_ptr, Nat.beq_refl, nbz, nb133, nb75, nb55, nb67, n133a, n133b, n75a, n75b, aT, aR, oT, oR, oF, oG, kT, kF, bI, bL, bR, b0, Classical.not_not, not_true_eq_false, not_false_eq_true, and_self, and_true, true_and, ↓reduceIte, decide_true, decide_false, Nat.reduceEqDiff, Nat.reduceLT, Nat.reduceLeDiff, Int.reduceEq, q_isRow, ct, hb6, zz, z3, s_meets _ (tzRx D 5) L n (f := 5) (by decide) (by decide)]
        · have m0 : ¬ 0 ≤ D (55 + 2 * k) 1 := by clear y2; omega
          have z3 : ¬ 0 ≤ tzRx D 1 83 k := by show ¬ 0 ≤ D 83 k; clear y2; omega
          refine ⟨-3, tzRx D 1, n, tzRm (tzRx D 1) 1, ?_, ?_, Sm_1 (by unfold tzRx; (repeat (refine Sm_U (by omega) ?_)); exact Sm_r _ _), Sm_1 (by unfold tzRm tzRx; (repeat (refine Sm_U (by omega) ?_)); exact Sm_r _ _), Rel_ref hR (by clear y2; omega) (by clear y2; omega)⟩
          · rw [dn_X11_pairs, b_X11_pairs_0]
            simp only [z_cd, i10, i11, dnn, rdU, eW, eU, tzC_w, w_shp, w_ptr, Nat.beq_refl, nbz, nb133, nb75, nb55, nb67, n133a, n133b, n75a, n75b, aT, aR, oT, oR, oF, oG, kT, kF, bI, bL, bR, b0, Classical.not_not, not_true_eq_false, not_false_eq_true, and_self, and_true, true_and, ↓reduceIte, decide_true, decide_false, Nat.reduceEqDiff, Nat.reduceLT, Nat.reduceLeDiff, Int.reduceEq, s_lineAt_rows_y _ D L n hk, nb55, p_bitCount, p_isWithin, y1, y2, q1, s_isMissing _ D L n q1, m0, s_refuse _ D L n (f := 1) (by decide) (by decide)]
          · rw [dn_X12_pairs, q_31 1396 L n D a0 (k : Int) _ ev c63, b_X12_pairs_31]
            simp only [z_cd, i10, i11, dnn, rdU, eW, eU, tzC_w, w_shp, w_ptr, Nat.beq_refl, nbz, nb133, nb75, nb55, nb67, n133a, n133b, n75a, n75b, aT, aR, oT, oR, oF, oG, kT, kF, bI, bL, bR, b0, Classical.not_not, not_true_eq_false, not_false_eq_true, and_self, and_true, true_and, ↓reduceIte, decide_true, decide_false, Nat.reduceEqDiff, Nat.reduceLT, Nat.reduceLeDiff, Int.reduceEq, q_isRow, ct, hb6, z3, s_meets _ (tzRx D 1) L n (f := 1) (by decide) (by decide)]
      · have y2 : ¬ w32 ((bcq a0).tmod 2) = 0 := fun q => ev (evd.mp q)
        refine ⟨-1, D, n, D, ?_, ?_, rfl, rfl, hR⟩
        · rw [dn_X11_pairs, b_X11_pairs_0]
          simp only [z_cd, i10, i11, dnn, rdU, eW, eU, tzC_w, w_shp, w_ptr, Nat.beq_refl, nbz, nb133, nb75, nb55, nb67, n133a, n133b, n75a, n75b, aT, aR, oT, oR, oF, oG, kT, kF, bI, bL, bR, b0, Classical.not_not, not_true_eq_false, not_false_eq_true, and_self, and_true, true_and, ↓reduceIte, decide_true, decide_false, Nat.reduceEqDiff, Nat.reduceLT, Nat.reduceLeDiff, Int.reduceEq, s_lineAt_rows_y _ D L n hk, nb55, p_bitCount, p_isWithin, y1, y2]
        · rw [dn_X12_pairs]
          exact q_31n 1396 L n D a0 (k : Int) _ (Or.inr ev)
    · refine ⟨-1, D, n, D, ?_, ?_, rfl, rfl, hR⟩
      · rw [dn_X11_pairs, b_X11_pairs_0]
        simp only [z_cd, i10, i11, dnn, rdU, eW, eU, tzC_w, w_shp, w_ptr, Nat.beq_refl, nbz, nb133, nb75, nb55, nb67, n133a, n133b, n75a, n75b, aT, aR, oT, oR, oF, oG, kT, kF, bI, bL, bR, b0, Classical.not_not, not_true_eq_false, not_false_eq_true, and_self, and_true, true_and, ↓reduceIte, decide_true, decide_false, Nat.reduceEqDiff, Nat.reduceLT, Nat.reduceLeDiff, Int.reduceEq, s_lineAt_rows_y _ D L n hk, nb55, p_bitCount, p_isWithin, y1]
      · rw [dn_X12_pairs]
        refine q_31n 1396 L n D a0 (k : Int) _ ?_
        by_cases h : 0 ≤ a0 ∧ a0 ≤ 63
        · have e0 : a0 = 0 := by omega
          rw [e0, ev_0]
          exact Or.inr (by decide)
        · exact Or.inl h
  · refine ⟨-1, D, n, D, ?_, ?_, rfl, rfl, hR⟩
    · rw [dn_X11_pairs, b_X11_pairs_0]
      simp only [z_cd, i10, i11, dnn, rdU, eW, eU, tzC_w, w_shp, w_ptr, Nat.beq_refl, nbz, nb133, nb75, nb55, nb67, n133a, n133b, n75a, n75b, aT, aR, oT, oR, oF, oG, kT, kF, bI, bL, bR, b0, Classical.not_not, not_true_eq_false, not_false_eq_true, and_self, and_true, true_and, ↓reduceIte, decide_true, decide_false, Nat.reduceEqDiff, Nat.reduceLT, Nat.reduceLeDiff, Int.reduceEq, s_lineAt_rows_n _ D L n (a := a1) (by omega), p_bitCount]
    · by_cases h : (0 ≤ a0 ∧ a0 ≤ 63) ∧ (btl a0 14 0 0 = 2 ∨ btl a0 14 0 0 = 4 ∨ btl a0 14 0 0 = 6)
      · rw [dn_X12_pairs, q_31 1396 L n D a0 a1 _ h.2 h.1, b_X12_pairs_31]
        simp only [z_cd, i10, i11, dnn, rdU, eW, eU, tzC_w, w_shp, w_ptr, Nat.beq_refl, nbz, nb133, nb75, nb55, nb67, n133a, n133b, n75a, n75b, aT, aR, oT, oR, oF, oG, kT, kF, bI, bL, bR, b0, Classical.not_not, not_true_eq_false, not_false_eq_true, and_self, and_true, true_and, ↓reduceIte, decide_true, decide_false, Nat.reduceEqDiff, Nat.reduceLT, Nat.reduceLeDiff, Int.reduceEq, q_isRow, ct]
      · rw [dn_X12_pairs]
        refine q_31n 1396 L n D a0 a1 _ ?_
        by_cases h1 : 0 ≤ a0 ∧ a0 ≤ 63
        · exact Or.inr (fun t => h ⟨h1, t⟩)
        · exact Or.inl h1

