/-- Euclid's steps -/
def gE : Nat → Int → Int → Int
  | 0, x, _ => x
  | f + 1, x, y => if y = 0 then x else gE f y (x.tmod y)
theorem gE_S (f : Nat) (x y : Int) : gE (f + 1) x y = if y = 0 then x else gE f y (x.tmod y) := rfl
theorem gE_pos : ∀ (f : Nat) (x y : Int), 0 ≤ x → 0 ≤ y → (0 < x ∨ 0 < y) → y < f → 0 < gE f x y
  | 0, x, y, _, h2, _, h4 => absurd h4 (by omega)
  | f + 1, x, y, h1, h2, h3, h4 => by
    rw [gE_S]
    by_cases c : y = 0
    · rw [if_pos c]; omega
    · rw [if_neg c]
      have q1 := Int.tmod_nonneg y h1
      have q2 := Int.tmod_lt_of_pos x (b := y) (by omega)
      exact gE_pos f y (x.tmod y) h2 q1 (by omega) (by omega)
theorem ja {x : Int} (h1 : -1000000000000 ≤ x) (h2 : x ≤ 1000000000000) : jabs x = if x < 0 then -x else x := by
  unfold jabs
  by_cases c : 0 < x
  · rw [if_pos c, if_neg (by omega)]
  · rw [if_neg c, w64_s (by omega) (by omega)]
    by_cases e : x < 0
    · rw [if_pos e]
    · rw [if_neg e]; omega
set_option maxRecDepth 100000 in
set_option maxHeartbeats 400000 in
theorem p_cd (d : Nat) (m : tqM) : ∀ (f : Nat) (x y s : Int), 0 ≤ x → 0 ≤ y → y < f → y ≤ 1000 → 0 ≤ s → s + f ≤ 128 → tqrun tqP (d + 1) tqc_X0_commonDivisor 9 [vU, vU, vU, vU, vL x, vU, vL y, vU, vI s, vU, vU] [] m = some (some (vL (gE f x y)), m)
  | 0, x, y, s, _, h2, h3, _, _, _ => absurd h3 (by omega)
  | f + 1, x, y, s, h1, h2, h3, h4, h5, h6 => by
    have c : ¬ 128 ≤ s := by omega
    rw [b_X0_commonDivisor_9, gE_S]
    by_cases e : y = 0
    · simp only [z_cd, i10, i11, dnn, rdU, eW, eU, tzC_w, w_shp, w_ptr, Nat.beq_refl, nbz, nb133, nb75, nb55, nb67, n133a, n133b, n75a, n75b, aT, aR, oT, oR, oF, oG, kT, kF, bI, bL, bR, b0, Classical.not_not, not_true_eq_false, not_false_eq_true, and_self, and_true, true_and, ↓reduceIte, decide_true, decide_false, Nat.reduceEqDiff, Nat.reduceLT, Nat.reduceLeDiff, Int.reduceEq, c, jc_eq, e]
    · have q1 := Int.tmod_nonneg y h1
      have q2 := Int.tmod_lt_of_pos x (b := y) (by omega)
      have ih := p_cd d m f y (x.tmod y) (s + 1) h2 q1 (by omega) (by omega) (by omega) (by omega)
      have g1 : -1000000000000 ≤ x.tmod y := by omega
      have g2 : x.tmod y ≤ 1000000000000 := by omega
      have g3 : -2147483648 ≤ s + 1 := by omega
      have g4 : s + 1 ≤ 2147483647 := by omega
      have w1 := w64_s g1 g2
      have w2 := w32_i g3 g4
      simp only [z_cd, i10, i11, dnn, rdU, eW, eU, tzC_w, w_shp, w_ptr, Nat.beq_refl, nbz, nb133, nb75, nb55, nb67, n133a, n133b, n75a, n75b, aT, aR, oT, oR, oF, oG, kT, kF, bI, bL, bR, b0, Classical.not_not, not_true_eq_false, not_false_eq_true, and_self, and_true, true_and, ↓reduceIte, decide_true, decide_false, Nat.reduceEqDiff, Nat.reduceLT, Nat.reduceLeDiff, Int.reduceEq, c, jc_eq, e, w1, w2, ih]
set_option maxRecDepth 100000 in
set_option maxHeartbeats 400000 in
theorem q_sh (d : Nat) (D : Nat → Int → Int) (L n : Nat) (v1 v3 : Int) : ∀ (f : Nat) (x y : Int), 0 ≤ x → 0 ≤ y → (0 < x ∨ 0 < y) → y < f → y ≤ 1000 → tqrun tqP (d + 1) tqc_X12_share 17 [vR 81, vL v1, vU, vL v3, vU, vL x, vU, vL y, vU, vU, vU] [] (tzW D L n) = some (some (vI 1), tzW (tzU (tzU D 81 3 (w64 (v1.tdiv (gE f x y)))) 81 4 (w64 (v3.tdiv (gE f x y)))) L n)
  | 0, x, y, _, h2, _, h4, _ => absurd h4 (by omega)
  | f + 1, x, y, h1, h2, h3, h4, h5 => by
    rw [b_X12_share_17, gE_S]
    by_cases e : y = 0
    · have e2 : ¬ x = 0 := by omega
      simp only [z_cd, i10, i11, dnn, rdU, eW, eU, tzC_w, w_shp, w_ptr, Nat.beq_refl, nbz, nb133, nb75, nb55, nb67, n133a, n133b, n75a, n75b, aT, aR, oT, oR, oF, oG, kT, kF, bI, bL, bR, b0, Classical.not_not, not_true_eq_false, not_false_eq_true, and_self, and_true, true_and, ↓reduceIte, decide_true, decide_false, Nat.reduceEqDiff, Nat.reduceLT, Nat.reduceLeDiff, Int.reduceEq, jc_eq, e, e2]
    · have q1 := Int.tmod_nonneg y h1
      have q2 := Int.tmod_lt_of_pos x (b := y) (by omega)
      have ih := q_sh d D L n v1 v3 f y (x.tmod y) h2 q1 (by omega) (by omega) (by omega)
      have g1 : -1000000000000 ≤ x.tmod y := by omega
      have g2 : x.tmod y ≤ 1000000000000 := by omega
      have w1 := w64_s g1 g2
      simp only [z_cd, i10, i11, dnn, rdU, eW, eU, tzC_w, w_shp, w_ptr, Nat.beq_refl, nbz, nb133, nb75, nb55, nb67, n133a, n133b, n75a, n75b, aT, aR, oT, oR, oF, oG, kT, kF, bI, bL, bR, b0, Classical.not_not, not_true_eq_false, not_false_eq_true, and_self, and_true, true_and, ↓reduceIte, decide_true, decide_false, Nat.reduceEqDiff, Nat.reduceLT, Nat.reduceLeDiff, Int.reduceEq, jc_eq, e, w1, ih]
set_option maxRecDepth 100000 in
set_option maxHeartbeats 400000 in
theorem p_tell (d : Nat) (D : Nat → Int → Int) (L n : Nat) (v1 v3 : Int) (h1 : -1000000000000 ≤ v1) (h2 : v1 ≤ 1000000000000) (h3 : 1 ≤ v3) (h4 : v3 ≤ 120) : tqden tqP (d + 2) n_X0_tellFraction [vR 53, vL v1, vL v3] (tzW D L n) = some (none, tzW (tzU (tzU D 53 4 (w64 (v1.tdiv (gE 121 (if v1 < 0 then -v1 else v1) v3)))) 53 5 (w64 (v3.tdiv (gE 121 (if v1 < 0 then -v1 else v1) v3)))) L n) := by
  obtain ⟨A, hA⟩ : ∃ A, A = if v1 < 0 then -v1 else v1 := ⟨_, rfl⟩
  have a0 : 0 ≤ A := by rw [hA]; split <;> omega
  have j := ja h1 h2
  rw [← hA] at j ⊢
  have gp := gE_pos 121 A v3 a0 (by omega) (by omega) (by omega)
  have gn : ¬ gE 121 A v3 = 0 := by omega
  have cd := p_cd d (tzW D L n) 121 A v3 0 a0 (by omega) (by omega) (by omega) (by omega) (by omega)
  rw [dn_X0_tellFraction, b_X0_tellFraction_0, dn_X0_commonDivisor, b_X0_commonDivisor_0, j, cd]
  simp only [z_cd, i10, i11, dnn, rdU, eW, eU, tzC_w, w_shp, w_ptr, Nat.beq_refl, nbz, nb133, nb75, nb55, nb67, n133a, n133b, n75a, n75b, aT, aR, oT, oR, oF, oG, kT, kF, bI, bL, bR, b0, Classical.not_not, not_true_eq_false, not_false_eq_true, and_self, and_true, true_and, ↓reduceIte, decide_true, decide_false, Nat.reduceEqDiff, Nat.reduceLT, Nat.reduceLeDiff, Int.reduceEq, jc_gt, gp, gn]
set_option maxRecDepth 100000 in
set_option maxHeartbeats 400000 in
theorem q_share (d : Nat) (D : Nat → Int → Int) (L n : Nat) (v1 v3 : Int) (h1 : -1000000000000 ≤ v1) (h2 : v1 ≤ 1000000000000) (h3 : 1 ≤ v3) (h4 : v3 ≤ 120) : tqden tqP (d + 1) n_X12_share [vR 81, vL v1, vL v3] (tzW D L n) = some (some (vI 1), tzW (tzU (tzU D 81 3 (w64 (v1.tdiv (gE 121 (if v1 < 0 then -v1 else v1) v3)))) 81 4 (w64 (v3.tdiv (gE 121 (if v1 < 0 then -v1 else v1) v3)))) L n) := by
  rw [dn_X12_share, b_X12_share_0]
  by_cases c : v1 < 0
  · have c2 : ¬ 0 ≤ v1 := by omega
    have g1 : -1000000000000 ≤ -v1 := by omega
    have g2 : -v1 ≤ 1000000000000 := by omega
    have q := q_sh d D L n v1 v3 121 (-v1) v3 (by omega) (by omega) (by omega) (by omega) (by omega)
    have w1 := w64_s g1 g2
    simp only [z_cd, i10, i11, dnn, rdU, eW, eU, tzC_w, w_shp, w_ptr, Nat.beq_refl, nbz, nb133, nb75, nb55, nb67, n133a, n133b, n75a, n75b, aT, aR, oT, oR, oF, oG, kT, kF, bI, bL, bR, b0, Classical.not_not, not_true_eq_false, not_false_eq_true, and_self, and_true, true_and, ↓reduceIte, decide_true, decide_false, Nat.reduceEqDiff, Nat.reduceLT, Nat.reduceLeDiff, Int.reduceEq, jc_ge, c, c2, w1, q]
  · have c2 : 0 ≤ v1 := by omega
    have q := q_sh d D L n v1 v3 121 v1 v3 (by omega) (by omega) (by omega) (by omega) (by omega)
    simp only [z_cd, i10, i11, dnn, rdU, eW, eU, tzC_w, w_shp, w_ptr, Nat.beq_refl, nbz, nb133, nb75, nb55, nb67, n133a, n133b, n75a, n75b, aT, aR, oT, oR, oF, oG, kT, kF, bI, bL, bR, b0, Classical.not_not, not_true_eq_false, not_false_eq_true, and_self, and_true, true_and, ↓reduceIte, decide_true, decide_false, Nat.reduceEqDiff, Nat.reduceLT, Nat.reduceLeDiff, Int.reduceEq, jc_ge, c, c2, q]
set_option maxRecDepth 100000 in
set_option maxHeartbeats 400000 in
theorem ag_weight {L : Nat} (a0 a1 : Int) (hb1 : a1 = 0 ∨ a1 = 1) : AgI Rel L n_X11_weight n_X12_weight [vI a0, vI a1] := by
  intro D n hR
  obtain ⟨hA, hL, hW, hN, ⟨c1, c2, c3⟩, hT, hD, hK, hB, hQ, hX, hM, hP, hS⟩ := id hR
  by_cases ct : 0 ≤ a0 ∧ a0 < n
  · obtain ⟨t, e⟩ : ∃ t : Nat, a0 = t := ⟨a0.toNat, by omega⟩
    subst e
    have ht : t < n := by omega
    have ht12 : t < 12 := by omega
    have hb : tqib (t : Int) 12 = true := tqib_y (by omega) (by omega)
    have r := hT.1 t ht
    have r2 := r
    have g := hD.1 t ht
    have lb := LB_of g
    have lq := LB_b lb _ (Nat.le_refl _)
    obtain ⟨l, hl⟩ : ∃ l : Nat, l = (D 99 t).toNat := ⟨_, rfl⟩
    rw [← hl] at lb lq
    have eWt : D (133 + t) 11 = sw D t l := by rw [hl]; exact g.2.2.2.1
    have eMt : D (133 + t) 12 = sm D t l := by rw [hl]; exact g.2.2.2.2.1
    have e9 : D (133 + t) 9 = D 98 t := r.2.2.2.2.2.2.2.2.1
    have a9 : 60 ≤ D 98 t ∧ D 98 t ≤ 120 := by unfold TR at r2; omega
    have pr := mulb lq.1 lq.2.1 (a := D 98 t) (by omega) (by omega)
    rcases hb1 with hb1 | hb1
    · subst hb1
      obtain ⟨D1, eD1⟩ : ∃ D1, D1 = tzU (tzU D 53 4 (w64 (Int.tdiv (sm D t l) (gE 121 (if (sm D t l) < 0 then -(sm D t l) else (sm D t l)) (D 98 t))))) 53 5 (w64 ((D 98 t).tdiv (gE 121 (if (sm D t l) < 0 then -(sm D t l) else (sm D t l)) (D 98 t)))) := ⟨_, rfl⟩
      have hr : ∀ (b : Nat) (j : Int), 81 ≤ b → b ≤ 132 → D1 b j = D b j := by
        have sD1 : Sm (fun b _ => 81 ≤ b ∧ b ≤ 132) D D1 := by
          rw [eD1]
          (repeat (refine Sm_U (by omega) ?_)); exact Sm_r _ _
        exact fun b j q1 q2 => sD1 b j ⟨q1, q2⟩
      have swE : sw D1 t l = sw D t l := sw_fr l (fun i q => hr 100 _ (by omega) (by omega))
      have smE : sm D1 t l = sm D t l := sm_fr l (fun i q => ⟨hr 100 _ (by omega) (by omega), hr 101 _ (by omega) (by omega)⟩)
      have lb1 : LB D1 t l := by
        refine ⟨by rw [hr 99 _ (by omega) (by omega)]; exact lb.1, lb.2.1, fun k hk => ?_⟩
        rw [hr 100 _ (by omega) (by omega), hr 101 _ (by omega) (by omega)]
        exact lb.2.2 k hk
      have y2 : D1 81 16 = n := by rw [hr 81 _ (by omega) (by omega)]; exact c2
      refine ⟨1, D1, n, tzU (tzU (D1) 81 3 (w64 (Int.tdiv (sm D t l) (gE 121 (if (sm D t l) < 0 then -(sm D t l) else (sm D t l)) (D 98 t))))) 81 4 (w64 ((D 98 t).tdiv (gE 121 (if (sm D t l) < 0 then -(sm D t l) else (sm D t l)) (D 98 t)))), ?_, ?_, Sm_1 (by rw [eD1]; (repeat (refine Sm_U (by omega) ?_)); exact Sm_r _ _), Sm_1 (by rw [eD1]; (repeat (refine Sm_U (by omega) ?_)); exact Sm_r _ _), ?_⟩
      · rw [eD1]
        rw [dn_X11_weight, b_X11_weight_0]
        simp only [z_cd, i10, i11, dnn, rdU, eW, eU, tzC_w, w_shp, w_ptr, Nat.beq_refl, nbz, nb133, nb75, nb55, nb67, n133a, n133b, n75a, n75b, aT, aR, oT, oR, oF, oG, kT, kF, bI, bL, bR, b0, Classical.not_not, not_true_eq_false, not_false_eq_true, and_self, and_true, true_and, ↓reduceIte, decide_true, decide_false, Nat.reduceEqDiff, Nat.reduceLT, Nat.reduceLeDiff, Int.reduceEq, p_trailerAt_y _ D L n t c1 c3 ht, w_trailer D L n ht, e9, eWt, eMt, p_tell _ D L n (sm D t l) (D 98 t) (by omega) (by omega) (by omega) (by omega)]
      · rw [dn_X12_weight, b_X12_weight_0]
        simp only [z_cd, i10, i11, dnn, rdU, eW, eU, tzC_w, w_shp, w_ptr, Nat.beq_refl, nbz, nb133, nb75, nb55, nb67, n133a, n133b, n75a, n75b, aT, aR, oT, oR, oF, oG, kT, kF, bI, bL, bR, b0, Classical.not_not, not_true_eq_false, not_false_eq_true, and_self, and_true, true_and, ↓reduceIte, decide_true, decide_false, Nat.reduceEqDiff, Nat.reduceLT, Nat.reduceLeDiff, Int.reduceEq, q_isTrailer _ D1 L n t y2 c3, ct, hb, hr, q_liesOn0 _ D1 L n t l ht12 lb1, smE, q_share _ D1 L n (sm D t l) (D 98 t) (by omega) (by omega) (by omega) (by omega)]
      · subst eD1
        refine ⟨?_, ?_, ?_, ?_, ?_, ?_, ?_, ?_, ?_, ?_, ?_, ?_, ?_, ?_⟩
        · obtain ⟨x1, x2, x3, x4, x5, x6⟩ := hA
          refine ⟨?_, ?_, ?_, ?_, ?_, ?_⟩
          · simp only [rdU, n133a, n133b, n75a, n75b, ↓reduceIte, Nat.reduceEqDiff, Nat.reduceLT, Nat.reduceLeDiff, Int.reduceEq, not_true_eq_false, not_false_eq_true, true_and, and_true, and_self, true_or, or_true, or_false, false_or, ite_self]; exact x1
          · intro j p q
            simp only [rdU, n133a, n133b, n75a, n75b, ↓reduceIte, Nat.reduceEqDiff, Nat.reduceLT, Nat.reduceLeDiff, Int.reduceEq, not_true_eq_false, not_false_eq_true, true_and, and_true, and_self, true_or, or_true, or_false, false_or, ite_self]; exact x2 j p q
          · simp only [rdU, n133a, n133b, n75a, n75b, ↓reduceIte, Nat.reduceEqDiff, Nat.reduceLT, Nat.reduceLeDiff, Int.reduceEq, not_true_eq_false, not_false_eq_true, true_and, and_true, and_self, true_or, or_true, or_false, false_or, ite_self]; exact x3
          · simp only [rdU, n133a, n133b, n75a, n75b, ↓reduceIte, Nat.reduceEqDiff, Nat.reduceLT, Nat.reduceLeDiff, Int.reduceEq, not_true_eq_false, not_false_eq_true, true_and, and_true, and_self, true_or, or_true, or_false, false_or, ite_self]; exact x4
          · simp only [rdU, n133a, n133b, n75a, n75b, ↓reduceIte, Nat.reduceEqDiff, Nat.reduceLT, Nat.reduceLeDiff, Int.reduceEq, not_true_eq_false, not_false_eq_true, true_and, and_true, and_self, true_or, or_true, or_false, false_or, ite_self]
          · simp only [rdU, n133a, n133b, n75a, n75b, ↓reduceIte, Nat.reduceEqDiff, Nat.reduceLT, Nat.reduceLeDiff, Int.reduceEq, not_true_eq_false, not_false_eq_true, true_and, and_true, and_self, true_or, or_true, or_false, false_or, ite_self]
        · exact RL_fr (by ((repeat (refine Sm_U (by unfold PL; omega) ?_)); exact Sm_r _ _)) hL
        · exact RW_fr (by ((repeat (refine Sm_U (by unfold PW; omega) ?_)); exact Sm_r _ _)) hW
        · exact RN_fr (by ((repeat (refine Sm_U (by unfold PN; omega) ?_)); exact Sm_r _ _)) hN
        · exact RC_fr (by ((repeat (refine Sm_U (by unfold PC; omega) ?_)); exact Sm_r _ _)) ⟨c1, c2, c3⟩
        · exact RT_fr (by ((repeat (refine Sm_U (by unfold PT; omega) ?_)); exact Sm_r _ _)) hT
        · exact RD_fr (by ((repeat (refine Sm_U (by unfold PD; omega) ?_)); exact Sm_r _ _)) hD
        · exact RK_fr (by ((repeat (refine Sm_U (by unfold PK; omega) ?_)); exact Sm_r _ _)) hK
        · exact RB_fr (by ((repeat (refine Sm_U (by unfold PB; omega) ?_)); exact Sm_r _ _)) hB
        · exact RQ_fr (by ((repeat (refine Sm_U (by unfold PQ; omega) ?_)); exact Sm_r _ _)) hQ
        · exact RX_fr (by ((repeat (refine Sm_U (by unfold PX; omega) ?_)); exact Sm_r _ _)) hX
        · exact RM_fr (by ((repeat (refine Sm_U (by unfold PM; omega) ?_)); exact Sm_r _ _)) hM
        · exact RP_fr (by ((repeat (refine Sm_U (by unfold PP; omega) ?_)); exact Sm_r _ _)) hP
        · exact RS_fr (by ((repeat (refine Sm_U (by unfold PS; omega) ?_)); exact Sm_r _ _)) hS
    · subst hb1
      have g1 : -2147483648 ≤ sw D t l * D 98 t := by omega
      have g2 : sw D t l * D 98 t ≤ 2147483647 := by omega
      have g3 : -2147483648 ≤ sw D t l * D 98 t - sm D t l := by omega
      have g4 : sw D t l * D 98 t - sm D t l ≤ 2147483647 := by omega
      have pt := p_tell 1396 D L n (sw D t l * D 98 t - sm D t l) (D 98 t) (by omega) (by omega) (by omega) (by omega)
      obtain ⟨D1, eD1⟩ : ∃ D1, D1 = tzU (tzU D 53 4 (w64 (Int.tdiv (sw D t l * D 98 t - sm D t l) (gE 121 (if (sw D t l * D 98 t - sm D t l) < 0 then -(sw D t l * D 98 t - sm D t l) else (sw D t l * D 98 t - sm D t l)) (D 98 t))))) 53 5 (w64 ((D 98 t).tdiv (gE 121 (if (sw D t l * D 98 t - sm D t l) < 0 then -(sw D t l * D 98 t - sm D t l) else (sw D t l * D 98 t - sm D t l)) (D 98 t)))) := ⟨_, rfl⟩
      have hr : ∀ (b : Nat) (j : Int), 81 ≤ b → b ≤ 132 → D1 b j = D b j := by
        have sD1 : Sm (fun b _ => 81 ≤ b ∧ b ≤ 132) D D1 := by
          rw [eD1]
          (repeat (refine Sm_U (by omega) ?_)); exact Sm_r _ _
        exact fun b j q1 q2 => sD1 b j ⟨q1, q2⟩
      have swE : sw D1 t l = sw D t l := sw_fr l (fun i q => hr 100 _ (by omega) (by omega))
      have smE : sm D1 t l = sm D t l := sm_fr l (fun i q => ⟨hr 100 _ (by omega) (by omega), hr 101 _ (by omega) (by omega)⟩)
      have lb1 : LB D1 t l := by
        refine ⟨by rw [hr 99 _ (by omega) (by omega)]; exact lb.1, lb.2.1, fun k hk => ?_⟩
        rw [hr 100 _ (by omega) (by omega), hr 101 _ (by omega) (by omega)]
        exact lb.2.2 k hk
      have y2 : D1 81 16 = n := by rw [hr 81 _ (by omega) (by omega)]; exact c2
      refine ⟨1, D1, n, tzU (tzU (D1) 81 3 (w64 (Int.tdiv (sw D t l * D 98 t - sm D t l) (gE 121 (if (sw D t l * D 98 t - sm D t l) < 0 then -(sw D t l * D 98 t - sm D t l) else (sw D t l * D 98 t - sm D t l)) (D 98 t))))) 81 4 (w64 ((D 98 t).tdiv (gE 121 (if (sw D t l * D 98 t - sm D t l) < 0 then -(sw D t l * D 98 t - sm D t l) else (sw D t l * D 98 t - sm D t l)) (D 98 t)))), ?_, ?_, Sm_1 (by rw [eD1]; (repeat (refine Sm_U (by omega) ?_)); exact Sm_r _ _), Sm_1 (by rw [eD1]; (repeat (refine Sm_U (by omega) ?_)); exact Sm_r _ _), ?_⟩
      · rw [eD1]
        have w1 := w32_i g1 g2
        have w2 := w32_i g3 g4
        rw [dn_X11_weight, b_X11_weight_0]
        simp only [z_cd, i10, i11, dnn, rdU, eW, eU, tzC_w, w_shp, w_ptr, Nat.beq_refl, nbz, nb133, nb75, nb55, nb67, n133a, n133b, n75a, n75b, aT, aR, oT, oR, oF, oG, kT, kF, bI, bL, bR, b0, Classical.not_not, not_true_eq_false, not_false_eq_true, and_self, and_true, true_and, ↓reduceIte, decide_true, decide_false, Nat.reduceEqDiff, Nat.reduceLT, Nat.reduceLeDiff, Int.reduceEq, p_trailerAt_y _ D L n t c1 c3 ht, w_trailer D L n ht, e9, eWt, eMt, w1, w2, pt]
      · rw [dn_X12_weight, b_X12_weight_0]
        simp only [z_cd, i10, i11, dnn, rdU, eW, eU, tzC_w, w_shp, w_ptr, Nat.beq_refl, nbz, nb133, nb75, nb55, nb67, n133a, n133b, n75a, n75b, aT, aR, oT, oR, oF, oG, kT, kF, bI, bL, bR, b0, Classical.not_not, not_true_eq_false, not_false_eq_true, and_self, and_true, true_and, ↓reduceIte, decide_true, decide_false, Nat.reduceEqDiff, Nat.reduceLT, Nat.reduceLeDiff, Int.reduceEq, q_isTrailer _ D1 L n t y2 c3, ct, hb, hr, q_liesOn1 _ D1 L n t l ht12 lb1 (D 98 t) (by omega) (by omega), swE, smE, q_share _ D1 L n (sw D t l * D 98 t - sm D t l) (D 98 t) (by omega) (by omega) (by omega) (by omega)]
      · subst eD1
        refine ⟨?_, ?_, ?_, ?_, ?_, ?_, ?_, ?_, ?_, ?_, ?_, ?_, ?_, ?_⟩
        · obtain ⟨x1, x2, x3, x4, x5, x6⟩ := hA
          refine ⟨?_, ?_, ?_, ?_, ?_, ?_⟩
          · simp only [rdU, n133a, n133b, n75a, n75b, ↓reduceIte, Nat.reduceEqDiff, Nat.reduceLT, Nat.reduceLeDiff, Int.reduceEq, not_true_eq_false, not_false_eq_true, true_and, and_true, and_self, true_or, or_true, or_false, false_or, ite_self]; exact x1
          · intro j p q
            simp only [rdU, n133a, n133b, n75a, n75b, ↓reduceIte, Nat.reduceEqDiff, Nat.reduceLT, Nat.reduceLeDiff, Int.reduceEq, not_true_eq_false, not_false_eq_true, true_and, and_true, and_self, true_or, or_true, or_false, false_or, ite_self]; exact x2 j p q
          · simp only [rdU, n133a, n133b, n75a, n75b, ↓reduceIte, Nat.reduceEqDiff, Nat.reduceLT, Nat.reduceLeDiff, Int.reduceEq, not_true_eq_false, not_false_eq_true, true_and, and_true, and_self, true_or, or_true, or_false, false_or, ite_self]; exact x3
          · simp only [rdU, n133a, n133b, n75a, n75b, ↓reduceIte, Nat.reduceEqDiff, Nat.reduceLT, Nat.reduceLeDiff, Int.reduceEq, not_true_eq_false, not_false_eq_true, true_and, and_true, and_self, true_or, or_true, or_false, false_or, ite_self]; exact x4
          · simp only [rdU, n133a, n133b, n75a, n75b, ↓reduceIte, Nat.reduceEqDiff, Nat.reduceLT, Nat.reduceLeDiff, Int.reduceEq, not_true_eq_false, not_false_eq_true, true_and, and_true, and_self, true_or, or_true, or_false, false_or, ite_self]
          · simp only [rdU, n133a, n133b, n75a, n75b, ↓reduceIte, Nat.reduceEqDiff, Nat.reduceLT, Nat.reduceLeDiff, Int.reduceEq, not_true_eq_false, not_false_eq_true, true_and, and_true, and_self, true_or, or_true, or_false, false_or, ite_self]
        · exact RL_fr (by ((repeat (refine Sm_U (by unfold PL; omega) ?_)); exact Sm_r _ _)) hL
        · exact RW_fr (by ((repeat (refine Sm_U (by unfold PW; omega) ?_)); exact Sm_r _ _)) hW
        · exact RN_fr (by ((repeat (refine Sm_U (by unfold PN; omega) ?_)); exact Sm_r _ _)) hN
        · exact RC_fr (by ((repeat (refine Sm_U (by unfold PC; omega) ?_)); exact Sm_r _ _)) ⟨c1, c2, c3⟩
        · exact RT_fr (by ((repeat (refine Sm_U (by unfold PT; omega) ?_)); exact Sm_r _ _)) hT
        · exact RD_fr (by ((repeat (refine Sm_U (by unfold PD; omega) ?_)); exact Sm_r _ _)) hD
        · exact RK_fr (by ((repeat (refine Sm_U (by unfold PK; omega) ?_)); exact Sm_r _ _)) hK
        · exact RB_fr (by ((repeat (refine Sm_U (by unfold PB; omega) ?_)); exact Sm_r _ _)) hB
        · exact RQ_fr (by ((repeat (refine Sm_U (by unfold PQ; omega) ?_)); exact Sm_r _ _)) hQ
        · exact RX_fr (by ((repeat (refine Sm_U (by unfold PX; omega) ?_)); exact Sm_r _ _)) hX
        · exact RM_fr (by ((repeat (refine Sm_U (by unfold PM; omega) ?_)); exact Sm_r _ _)) hM
        · exact RP_fr (by ((repeat (refine Sm_U (by unfold PP; omega) ?_)); exact Sm_r _ _)) hP
        · exact RS_fr (by ((repeat (refine Sm_U (by unfold PS; omega) ?_)); exact Sm_r _ _)) hS
  · refine ⟨-1, D, n, D, ?_, ?_, rfl, rfl, hR⟩
    · rw [dn_X11_weight, b_X11_weight_0]
      simp only [z_cd, i10, i11, dnn, rdU, eW, eU, tzC_w, w_shp, w_ptr, Nat.beq_refl, nbz, nb133, nb75, nb55, nb67, n133a, n133b, n75a, n75b, aT, aR, oT, oR, oF, oG, kT, kF, bI, bL, bR, b0, Classical.not_not, not_true_eq_false, not_false_eq_true, and_self, and_true, true_and, ↓reduceIte, decide_true, decide_false, Nat.reduceEqDiff, Nat.reduceLT, Nat.reduceLeDiff, Int.reduceEq, p_trailerAt_n _ D L n a0 c1 ct, p_isWithin, p_isYard]
    · rw [dn_X12_weight, b_X12_weight_0]
      simp only [z_cd, i10, i11, dnn, rdU, eW, eU, tzC_w, w_shp, w_ptr, Nat.beq_refl, nbz, nb133, nb75, nb55, nb67, n133a, n133b, n75a, n75b, aT, aR, oT, oR, oF, oG, kT, kF, bI, bL, bR, b0, Classical.not_not, not_true_eq_false, not_false_eq_true, and_self, and_true, true_and, ↓reduceIte, decide_true, decide_false, Nat.reduceEqDiff, Nat.reduceLT, Nat.reduceLeDiff, Int.reduceEq, q_isTrailer _ D L n a0 c2 c3, ct, p_in, q_isYard]
