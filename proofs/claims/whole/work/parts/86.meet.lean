/-! ===== Swaps.meet against bestSwap ===== -/
set_option maxRecDepth 100000 in
theorem m197 (d : Nat) (v0 : Nat) (v1 : Nat) (v5 v6 v7 v8 : Int) (x9 x10 x11 : tqV) (m : tqM) : tqrun tqP (d + 1) tqc_X6_meet 197 [vR v0, vR v1, vU, vU, vU, vI v5, vI v6, vI v7, vI v8, x9, x10, x11] [] m = tqrun tqP (d + 1) tqc_X6_meet 42 [vR v0, vR v1, vU, vU, vU, vI v5, vI v6, vI v7, vI (w32 (v8 + 1)), vU, vU, vU] [] m := (tqrun_go tqP d tqc_X6_meet (fun p => Nat.beq p 42 || Nat.beq p 181 || Nat.beq p 197) 2 197 _ _ m).trans rfl
def PMt (b : Nat) (j : Int) : Prop := ¬ (24 ≤ b ∧ b ≤ 26) ∧ ¬ (b = 23 ∧ (j = 6 ∨ j = 7))
def CIq (x : Int × Int × Int) (E : Nat → Int → Int) (v7 : Int) : Prop := (x.1 = -9 ∧ E 23 6 = -9 ∧ E 23 7 = 2147483647 ∧ v7 = 2147483647) ∨ (0 ≤ x.1 ∧ E 23 6 = x.1 ∧ E 23 7 = x.2.1 ∧ v7 = x.2.2)
theorem jmax_NV {x y : Int} (hx : x ≤ 2147483647) (hy : y ≤ 2147483647) : jmax x y = 2147483647 ↔ x = 2147483647 ∨ y = 2147483647 := by
  rcases jmax_c x y with q | q <;> omega
theorem swF_0 (D : Nat → Int → Int) (now ya yb m y : Int) : swF D now ya yb 0 m y = erq D 0 m (jmax (erq D 0 ya now m) (erq D 0 yb now m) + 10) y := by
  unfold swF
  rw [Int.add_zero]
theorem o26 : oka 26 := by unfold oka; omega
theorem PMt_v {D D' : Nat → Int → Int} (s : Sm PMt D D') : Sm PVq D D' := Sm_m (fun b j p => by unfold PVq at p; unfold PMt; omega) s
set_option maxRecDepth 100000 in
set_option maxHeartbeats 400000 in
theorem p_m42 (d L n : Nat) (D : Nat → Int → Int) {now ya yb hA hB : Int} (w : WY D) (hd : ∀ y : Int, 0 ≤ y → y < 8 → D 88 (9 * y) = 0) (ya0 : 0 ≤ ya ∧ ya ≤ 7) (yb0 : 0 ≤ yb ∧ yb ≤ 7) (nw : 0 ≤ now ∧ now ≤ 99999) (yA : 0 ≤ hA ∧ hA ≤ 7) (yB : 0 ≤ hB ∧ hB ≤ 7) : ∀ (j : Nat) (m : Int) (E : Nat → Int → Int) (v7 : Int) (x : Int × Int × Int), 0 ≤ m → m + j = 8 → Sm PVq D E → (∀ y : Int, 0 ≤ y → y < 8 → E 24 y = erq D 0 ya now y ∧ E 25 y = erq D 0 yb now y) → CIq x E v7 →
    ∃ E' v', tqrun tqP (d + 4) tqc_X6_meet 42 [vR 23, vR 7, vU, vU, vU, vI hA, vI hB, vI v7, vI m, vU, vU, vU] [] (tzW E L n) = some (none, tzW E' L n) ∧ Sm PMt E E' ∧ CIq (swL D now ya yb hA hB j m x) E' v'
  | 0, m, E, v7, x, m0, mj, s, hT, ci => by
    refine ⟨E, v7, ?_, Sm_r _ _, ci⟩
    have c : 8 ≤ m := by omega
    rw [b_X6_meet_42]
    simp only [z_cd, i10, i11, dnn, rdU, eW, eU, tzC_w, w_shp, w_ptr, Nat.beq_refl, nbz, nb133, nb75, nb55, nb67, n133a, n133b, n75a, n75b, aT, aR, oT, oR, oF, oG, kT, kF, bI, bL, bR, b0, Classical.not_not, not_true_eq_false, not_false_eq_true, and_self, and_true, true_and, ↓reduceIte, decide_true, decide_false, Nat.reduceEqDiff, Nat.reduceLT, Nat.reduceLeDiff, Int.reduceEq, c]
  | j + 1, m, E, v7, x, m0, mj, s, hT, ci => by
    have c : ¬ 8 ≤ m := by omega
    have m1 : m < 8 := by omega
    obtain ⟨h24, h25⟩ := hT m m0 m1
    have hbm : tqib m 8 = true := tqib_y (by omega) (by omega)
    have hbA : tqib hA 8 = true := tqib_y (by omega) (by omega)
    have hbB : tqib hB 8 = true := tqib_y (by omega) (by omega)
    have T1 := er_b w m0 m1 (er_ok w hd (bt := 0) (Or.inl rfl) (a := ya) (s := now) (y := m) (by omega) (by omega) (by omega) (by omega) m0 m1)
    have T2 := er_b w m0 m1 (er_ok w hd (bt := 0) (Or.inl rfl) (a := yb) (s := now) (y := m) (by omega) (by omega) (by omega) (by omega) m0 m1)
    have e1 := w1z m0 (by omega)
    rw [swL_S]
    by_cases k1 : erq D 0 ya now m = 2147483647 ∨ erq D 0 yb now m = 2147483647
    · have jm : jmax (erq D 0 ya now m) (erq D 0 yb now m) = 2147483647 := (jmax_NV (by clear e1; omega) (by clear e1; omega)).mpr k1
      have sn : swN D now ya yb hA hB m x = x := by
        unfold swN
        rw [if_pos (by rcases k1 with q | q; exact Or.inl q; exact Or.inr (Or.inl q))]
      rw [sn]
      obtain ⟨E', v', r1, r2, r3⟩ := p_m42 d L n D w hd ya0 yb0 nw yA yB j (m + 1) E v7 x (by clear e1; omega) (by clear e1; omega) s hT ci
      refine ⟨E', v', ?_, r2, r3⟩
      rw [← r1, b_X6_meet_42]
      simp only [z_cd, i10, i11, dnn, rdU, eW, eU, tzC_w, w_shp, w_ptr, Nat.beq_refl, nbz, nb133, nb75, nb55, nb67, n133a, n133b, n75a, n75b, aT, aR, oT, oR, oF, oG, kT, kF, bI, bL, bR, b0, Classical.not_not, not_true_eq_false, not_false_eq_true, and_self, and_true, true_and, ↓reduceIte, decide_true, decide_false, Nat.reduceEqDiff, Nat.reduceLT, Nat.reduceLeDiff, Int.reduceEq, c, hbm, h24, h25, jm, m197, e1]
    · have jn : ¬ jmax (erq D 0 ya now m) (erq D 0 yb now m) = 2147483647 := fun q => k1 ((jmax_NV (by clear e1; omega) (by clear e1; omega)).mp q)
      have jc := jmax_c (erq D 0 ya now m) (erq D 0 yb now m)
      obtain ⟨J, hJ⟩ : ∃ J, J = jmax (erq D 0 ya now m) (erq D 0 yb now m) := ⟨_, rfl⟩
      have fA := swF_0 D now ya yb m hA
      have fB := swF_0 D now ya yb m hB
      rw [← hJ] at jn jc fA fB
      have J0 : 0 ≤ J ∧ J ≤ 200000 := by clear e1; omega
      obtain ⟨G, g1, g2, g3⟩ := p_reach d L n 26 E (fun _ => rfl) o26 (bt := 0) (Or.inl rfl) (a := m) (s := J + 10) m0 m1 (by clear e1; omega) (by clear e1; omega) (Wy_sm s w) (Hd_sm s hd)
      have gA := g3 hA yA.1 (by clear e1; omega)
      have gB := g3 hB yB.1 (by clear e1; omega)
      rw [er_sm s, ← fA] at gA
      rw [er_sm s, ← fB] at gB
      have TA := er_b w (y := hA) (by clear e1; omega) (by clear e1; omega) (er_ok w hd (bt := 0) (Or.inl rfl) (a := m) (s := J + 10) (y := hA) m0 m1 (by clear e1; omega) (by clear e1; omega) (by clear e1; omega) (by clear e1; omega))
      have TB := er_b w (y := hB) (by clear e1; omega) (by clear e1; omega) (er_ok w hd (bt := 0) (Or.inl rfl) (a := m) (s := J + 10) (y := hB) m0 m1 (by clear e1; omega) (by clear e1; omega) (by clear e1; omega) (by clear e1; omega))
      rw [← fA] at TA
      rw [← fB] at TB
      have G7 : G 23 7 = E 23 7 := g2 23 7 (by clear e1; omega)
      have G6 : G 23 6 = E 23 6 := g2 23 6 (by clear e1; omega)
      have sG : Sm PVq D G := Sm_t s (Sm_v o26 g2)
      have tG : Sm PMt E G := Sm_off g2 (fun j => by unfold PMt; omega)
      have hTG : ∀ y : Int, 0 ≤ y → y < 8 → G 24 y = erq D 0 ya now y ∧ G 25 y = erq D 0 yb now y := fun y y0 y1 => by
        rw [g2 24 y (by omega), g2 25 y (by omega)]; exact hT y y0 y1
      have ciG : CIq x G v7 := by unfold CIq; rw [G7, G6]; exact ci
      have sn0 : swN D now ya yb hA hB m x = if swF D now ya yb 0 m hA = 2147483647 ∨ swF D now ya yb 0 m hB = 2147483647 then x else if x.1 < 0 ∨ jmax (swF D now ya yb 0 m hA) (swF D now ya yb 0 m hB) < x.2.1 ∨ (jmax (swF D now ya yb 0 m hA) (swF D now ya yb 0 m hB) = x.2.1 ∧ swF D now ya yb 0 m hA + swF D now ya yb 0 m hB < x.2.2) then (m, jmax (swF D now ya yb 0 m hA) (swF D now ya yb 0 m hB), swF D now ya yb 0 m hA + swF D now ya yb 0 m hB) else x := by
        unfold swN
        by_cases q : swF D now ya yb 0 m hA = 2147483647 ∨ swF D now ya yb 0 m hB = 2147483647
        · rw [if_pos (Or.inr (Or.inr q)), if_pos q]
        · rw [if_neg (fun t => by rcases t with t | t | t; exact k1 (Or.inl t); exact k1 (Or.inr t); exact q t), if_neg q]
      rw [sn0]
      obtain ⟨F, hF⟩ : ∃ F, F = swF D now ya yb 0 m hA := ⟨_, rfl⟩
      obtain ⟨H, hH⟩ : ∃ H, H = swF D now ya yb 0 m hB := ⟨_, rfl⟩
      rw [← hF] at gA TA ⊢
      rw [← hH] at gB TB ⊢
      clear fA fB sn0
      by_cases k2 : F = 2147483647 ∨ H = 2147483647
      · have jm : jmax F H = 2147483647 := (jmax_NV (by clear e1; omega) (by clear e1; omega)).mpr k2
        rw [if_pos k2]
        obtain ⟨E', v', r1, r2, r3⟩ := p_m42 d L n D w hd ya0 yb0 nw yA yB j (m + 1) G v7 x (by clear e1; omega) (by clear e1; omega) sG hTG ciG
        refine ⟨E', v', ?_, Sm_t tG r2, r3⟩
        have wJ : w32 (J + 10) = J + 10 := w32_i (by clear e1; omega) (by clear e1; omega)
        rw [← r1, b_X6_meet_42]
        simp only [z_cd, i10, i11, dnn, rdU, eW, eU, tzC_w, w_shp, w_ptr, Nat.beq_refl, nbz, nb133, nb75, nb55, nb67, n133a, n133b, n75a, n75b, aT, aR, oT, oR, oF, oG, kT, kF, bI, bL, bR, b0, Classical.not_not, not_true_eq_false, not_false_eq_true, and_self, and_true, true_and, ↓reduceIte, decide_true, decide_false, Nat.reduceEqDiff, Nat.reduceLT, Nat.reduceLeDiff, Int.reduceEq, c, hbm, hbA, hbB, h24, h25, ← hJ, jn, p_isYard, yA, yB, wJ, g1, gA, gB, jm, m197, e1]
      · rw [if_neg k2]
        have jm : ¬ jmax F H = 2147483647 := fun q => k2 ((jmax_NV (by clear e1; omega) (by clear e1; omega)).mp q)
        have jc2 := jmax_c F H
        obtain ⟨M, hM⟩ : ∃ M, M = jmax F H := ⟨_, rfl⟩
        rw [← hM] at jm jc2 ⊢
        have cond : (if x.1 < 0 ∨ M < x.2.1 ∨ (M = x.2.1 ∧ F + H < x.2.2) then (m, M, F + H) else x) = if M < E 23 7 ∨ (M = E 23 7 ∧ F + H < v7) then (m, M, F + H) else x := by
          clear e1
          rcases ci with ⟨q1, q2, q3, q4⟩ | ⟨q1, q2, q3, q4⟩
          · rw [if_pos (Or.inl (by omega)), if_pos (Or.inl (by omega))]
          · rw [q3, q4]
            by_cases t : M < x.2.1 ∨ (M = x.2.1 ∧ F + H < x.2.2)
            · rw [if_pos (Or.inr t), if_pos t]
            · rw [if_neg (fun z => by rcases z with z | z; omega; exact t z), if_neg t]
        rw [cond]
        have upd : ∃ E' v', tqrun tqP (d + 4) tqc_X6_meet 42 [vR 23, vR 7, vU, vU, vU, vI hA, vI hB, vI (F + H), vI (m + 1), vU, vU, vU] [] (tzW (tzU (tzU G 23 6 m) 23 7 M) L n) = some (none, tzW E' L n) ∧ Sm PMt E E' ∧ CIq (swL D now ya yb hA hB j (m + 1) (m, M, F + H)) E' v' := by
          clear e1
          obtain ⟨E', v', r1, r2, r3⟩ := p_m42 d L n D w hd ya0 yb0 nw yA yB j (m + 1) (tzU (tzU G 23 6 m) 23 7 M) (F + H) (m, M, F + H) (by omega) (by omega) (Sm_U (by unfold PVq; omega) (Sm_U (by unfold PVq; omega) sG)) (fun y y0 y1 => by
            rw [tzU_o _ _ _ _ (by omega), tzU_o _ _ _ _ (by omega), tzU_o _ _ _ _ (by omega), tzU_o _ _ _ _ (by omega)]; exact hTG y y0 y1) (Or.inr ⟨m0, by rw [tzU_k _ _ _ _ (by omega), tzU_s], tzU_s _ _ _ _, rfl⟩)
          exact ⟨E', v', r1, Sm_t (Sm_U (by unfold PMt; omega) (Sm_U (by unfold PMt; omega) tG)) r2, r3⟩
        have stay : ∃ E' v', tqrun tqP (d + 4) tqc_X6_meet 42 [vR 23, vR 7, vU, vU, vU, vI hA, vI hB, vI v7, vI (m + 1), vU, vU, vU] [] (tzW G L n) = some (none, tzW E' L n) ∧ Sm PMt E E' ∧ CIq (swL D now ya yb hA hB j (m + 1) x) E' v' := by
          clear e1
          obtain ⟨E', v', r1, r2, r3⟩ := p_m42 d L n D w hd ya0 yb0 nw yA yB j (m + 1) G v7 x (by omega) (by omega) sG hTG ciG
          exact ⟨E', v', r1, Sm_t tG r2, r3⟩
        have wJ : w32 (J + 10) = J + 10 := w32_i (by clear e1; omega) (by clear e1; omega)
        have wS : w32 (F + H) = F + H := w32_i (by clear e1 wJ; omega) (by clear e1 wJ; omega)
        by_cases c1 : M < E 23 7
        · rw [if_pos (Or.inl c1)]
          obtain ⟨E', v', r1, r2, r3⟩ := upd
          refine ⟨E', v', ?_, r2, r3⟩
          rw [← r1, b_X6_meet_42]
          simp only [z_cd, i10, i11, dnn, rdU, eW, eU, tzC_w, w_shp, w_ptr, Nat.beq_refl, nbz, nb133, nb75, nb55, nb67, n133a, n133b, n75a, n75b, aT, aR, oT, oR, oF, oG, kT, kF, bI, bL, bR, b0, Classical.not_not, not_true_eq_false, not_false_eq_true, and_self, and_true, true_and, ↓reduceIte, decide_true, decide_false, Nat.reduceEqDiff, Nat.reduceLT, Nat.reduceLeDiff, Int.reduceEq, c, hbm, hbA, hbB, h24, h25, ← hJ, jn, p_isYard, yA, yB, wJ, g1, gA, gB, ← hM, jm, G7, c1, b_X6_meet_181, m197, wS, e1]
        · by_cases c2 : M = E 23 7
          · by_cases c3 : v7 ≤ F + H
            · rw [if_neg (fun z => by clear e1 wJ wS; rcases z with z | z; exact c1 z; exact absurd z.2 (by omega))]
              obtain ⟨E', v', r1, r2, r3⟩ := stay
              refine ⟨E', v', ?_, r2, r3⟩
              have c2' : (M = E 23 7) = True := eq_true c2
              rw [← r1, b_X6_meet_42]
              simp only [z_cd, i10, i11, dnn, rdU, eW, eU, tzC_w, w_shp, w_ptr, Nat.beq_refl, nbz, nb133, nb75, nb55, nb67, n133a, n133b, n75a, n75b, aT, aR, oT, oR, oF, oG, kT, kF, bI, bL, bR, b0, Classical.not_not, not_true_eq_false, not_false_eq_true, and_self, and_true, true_and, ↓reduceIte, decide_true, decide_false, Nat.reduceEqDiff, Nat.reduceLT, Nat.reduceLeDiff, Int.reduceEq, c, hbm, hbA, hbB, h24, h25, ← hJ, jn, p_isYard, yA, yB, wJ, g1, gA, gB, ← hM, jm, G7, c1, c2', c3, b_X6_meet_181, m197, wS, e1]
            · rw [if_pos (Or.inr ⟨c2, by clear e1 wJ wS; omega⟩)]
              obtain ⟨E', v', r1, r2, r3⟩ := upd
              refine ⟨E', v', ?_, r2, r3⟩
              have c2' : (M = E 23 7) = True := eq_true c2
              rw [← r1, b_X6_meet_42]
              simp only [z_cd, i10, i11, dnn, rdU, eW, eU, tzC_w, w_shp, w_ptr, Nat.beq_refl, nbz, nb133, nb75, nb55, nb67, n133a, n133b, n75a, n75b, aT, aR, oT, oR, oF, oG, kT, kF, bI, bL, bR, b0, Classical.not_not, not_true_eq_false, not_false_eq_true, and_self, and_true, true_and, ↓reduceIte, decide_true, decide_false, Nat.reduceEqDiff, Nat.reduceLT, Nat.reduceLeDiff, Int.reduceEq, c, hbm, hbA, hbB, h24, h25, ← hJ, jn, p_isYard, yA, yB, wJ, g1, gA, gB, ← hM, jm, G7, c1, c2', c3, b_X6_meet_181, m197, wS, e1]
          · rw [if_neg (fun z => by rcases z with z | z; exact c1 z; exact c2 z.1)]
            obtain ⟨E', v', r1, r2, r3⟩ := stay
            refine ⟨E', v', ?_, r2, r3⟩
            rw [← r1, b_X6_meet_42]
            simp only [z_cd, i10, i11, dnn, rdU, eW, eU, tzC_w, w_shp, w_ptr, Nat.beq_refl, nbz, nb133, nb75, nb55, nb67, n133a, n133b, n75a, n75b, aT, aR, oT, oR, oF, oG, kT, kF, bI, bL, bR, b0, Classical.not_not, not_true_eq_false, not_false_eq_true, and_self, and_true, true_and, ↓reduceIte, decide_true, decide_false, Nat.reduceEqDiff, Nat.reduceLT, Nat.reduceLeDiff, Int.reduceEq, c, hbm, hbA, hbB, h24, h25, ← hJ, jn, p_isYard, yA, yB, wJ, g1, gA, gB, ← hM, jm, G7, c1, c2, b_X6_meet_181, m197, wS, e1]
theorem o24 : oka 24 := by unfold oka; omega
theorem o25 : oka 25 := by unfold oka; omega
set_option maxRecDepth 100000 in
set_option maxHeartbeats 400000 in
theorem p_meet (d L n : Nat) (D : Nat → Int → Int) {now ya yb hA hB : Int} (w : WY D) (hd : ∀ y : Int, 0 ≤ y → y < 8 → D 88 (9 * y) = 0) (ya0 : 0 ≤ ya ∧ ya ≤ 7) (yb0 : 0 ≤ yb ∧ yb ≤ 7) (nw : 0 ≤ now ∧ now ≤ 99999) (yA : 0 ≤ hA ∧ hA ≤ 7) (yB : 0 ≤ hB ∧ hB ≤ 7) :
    ∃ E' v', tqden tqP (d + 4) n_X6_meet [vR 23, vR 7, vI now, vI ya, vI yb, vI hA, vI hB] (tzW D L n) = some (none, tzW E' L n) ∧ Sm PMt D E' ∧ CIq (swL D now ya yb hA hB 8 0 (-9, 0, 0)) E' v' := by
  have s0 : Sm PVq D (tzU (tzU D 23 6 (-9)) 23 7 2147483647) := Sm_U (by unfold PVq; omega) (Sm_U (by unfold PVq; omega) (Sm_r _ _))
  obtain ⟨A, a1, a2, a3⟩ := p_reach d L n 24 (tzU (tzU D 23 6 (-9)) 23 7 2147483647) (fun _ => rfl) o24 (bt := 0) (Or.inl rfl) (a := ya) (s := now) (by omega) (by omega) (by omega) (by omega) (Wy_sm s0 w) (Hd_sm s0 hd)
  have s1 : Sm PVq D A := Sm_t s0 (Sm_v o24 a2)
  obtain ⟨B, c1, c2, c3⟩ := p_reach d L n 25 A (fun _ => rfl) o25 (bt := 0) (Or.inl rfl) (a := yb) (s := now) (by omega) (by omega) (by omega) (by omega) (Wy_sm s1 w) (Hd_sm s1 hd)
  have s2 : Sm PVq D B := Sm_t s1 (Sm_v o25 c2)
  have tB : Sm PMt D B := Sm_t (Sm_t (Sm_U (by unfold PMt; omega) (Sm_U (by unfold PMt; omega) (Sm_r _ _))) (Sm_off a2 (fun j => by unfold PMt; omega))) (Sm_off c2 (fun j => by unfold PMt; omega))
  obtain ⟨E', v', r1, r2, r3⟩ := p_m42 d L n D w hd ya0 yb0 nw yA yB 8 0 B 2147483647 (-9, 0, 0) (by omega) (by omega) s2 (fun y y0 y1 => by
    rw [c2 24 y (by omega), a3 y y0 y1, c3 y y0 y1, er_sm s0, er_sm s1]
    exact ⟨rfl, rfl⟩) (Or.inl ⟨rfl, by rw [c2 23 6 (by omega), a2 23 6 (by omega), tzU_k _ _ _ _ (by omega), tzU_s], by rw [c2 23 7 (by omega), a2 23 7 (by omega), tzU_s], rfl⟩)
  refine ⟨E', v', ?_, Sm_t tB r2, r3⟩
  rw [← r1, dn_X6_meet, b_X6_meet_0]
  simp only [z_cd, i10, i11, dnn, rdU, eW, eU, tzC_w, w_shp, w_ptr, Nat.beq_refl, nbz, nb133, nb75, nb55, nb67, n133a, n133b, n75a, n75b, aT, aR, oT, oR, oF, oG, kT, kF, bI, bL, bR, b0, Classical.not_not, not_true_eq_false, not_false_eq_true, and_self, and_true, true_and, ↓reduceIte, decide_true, decide_false, Nat.reduceEqDiff, Nat.reduceLT, Nat.reduceLeDiff, Int.reduceEq, a1, c1]
set_option maxRecDepth 100000 in
set_option maxHeartbeats 400000 in
theorem q_b10 (d L n : Nat) (D : Nat → Int → Int) {a b : Nat} {hA hB : Int} (ha : a < 6) (hb : b < 6) (w : WY D) (hd : ∀ y : Int, 0 ≤ y → y < 8 → D 88 (9 * y) = 0) (ya : 0 ≤ D 105 a ∧ D 105 a ≤ 7) (yb : 0 ≤ D 105 b ∧ D 105 b ≤ 7) (nw : 0 ≤ D 81 5 ∧ D 81 5 ≤ 99999) (yA : 0 ≤ hA ∧ hA ≤ 7) (yB : 0 ≤ hB ∧ hB ≤ 7) : ∀ (j : Nat) (m : Int) (E : Nat → Int → Int) (v6 : Int) (x : Int × Int × Int), 0 ≤ m → m + j = 8 → Sm PSw D E → (x.1 = -9 ∨ (0 ≤ x.1 ∧ E 81 54 = x.2.1 ∧ v6 = x.2.2)) →
    ∃ E', tqrun tqP (d + 4) tqc_X12_bestSwap 10 [vR 81, vI (a : Int), vI (b : Int), vI hA, vI hB, vI x.1, vI v6, vI m] [] (tzW E L n) = some (some (vI (swL D (D 81 5) (D 105 a) (D 105 b) hA hB j m x).1), tzW E' L n) ∧ Sm PSw D E' ∧ (0 ≤ (swL D (D 81 5) (D 105 a) (D 105 b) hA hB j m x).1 → E' 81 54 = (swL D (D 81 5) (D 105 a) (D 105 b) hA hB j m x).2.1)
  | 0, m, E, v6, x, m0, mj, s, ci => by
    refine ⟨E, ?_, s, fun h => ?_⟩
    · have c : 8 ≤ m := by omega
      rw [b_X12_bestSwap_10]
      simp only [z_cd, i10, i11, dnn, rdU, eW, eU, tzC_w, w_shp, w_ptr, Nat.beq_refl, nbz, nb133, nb75, nb55, nb67, n133a, n133b, n75a, n75b, aT, aR, oT, oR, oF, oG, kT, kF, bI, bL, bR, b0, Classical.not_not, not_true_eq_false, not_false_eq_true, and_self, and_true, true_and, ↓reduceIte, decide_true, decide_false, Nat.reduceEqDiff, Nat.reduceLT, Nat.reduceLeDiff, Int.reduceEq, c]
      rfl
    · have h' : 0 ≤ x.1 := h
      show E 81 54 = x.2.1
      rcases ci with q | q
      · omega
      · exact q.2.1
  | j + 1, m, E, v6, x, m0, mj, s, ci => by
    have c : ¬ 8 ≤ m := by omega
    have sv := PSw_v s
    have f1 : E 105 a = D 105 a := s 105 a (by unfold PSw; omega)
    have f2 : E 105 b = D 105 b := s 105 b (by unfold PSw; omega)
    have f3 : E 81 5 = D 81 5 := s 81 5 (by unfold PSw; omega)
    obtain ⟨G, r, g1, g2, g3, g4⟩ := q_swapsAt d L n E (a := a) (b := b) (hA := hA) (hB := hB) (m := m) (lt := 0) ha hb (Wy_sm sv w) (Hd_sm sv hd) (by rw [f1]; exact ya) (by rw [f2]; exact yb) (by rw [f3]; exact nw) yA yB ⟨m0, by omega⟩ (by omega)
    simp only [f1, f2, f3, er_sm sv, swF_sm sv] at g4
    have e1 := w1z m0 (by omega)
    rw [swL_S]
    rcases g4 with ⟨g4, g5⟩ | ⟨g4, g5, g6, g7, g8, g9⟩
    · have sn : swN D (D 81 5) (D 105 a) (D 105 b) hA hB m x = x := by
        unfold swN
        rw [if_pos g5]
      rw [sn]
      obtain ⟨E', r1, r2, r3⟩ := q_b10 d L n D ha hb w hd ya yb nw yA yB j (m + 1) G v6 x (by clear e1; omega) (by clear e1; omega) (Sm_t s g2) (by rw [g3]; exact ci)
      refine ⟨E', ?_, r2, r3⟩
      rw [g4] at g1
      rw [← r1, b_X12_bestSwap_10]
      simp only [z_cd, i10, i11, dnn, rdU, eW, eU, tzC_w, w_shp, w_ptr, Nat.beq_refl, nbz, nb133, nb75, nb55, nb67, n133a, n133b, n75a, n75b, aT, aR, oT, oR, oF, oG, kT, kF, bI, bL, bR, b0, Classical.not_not, not_true_eq_false, not_false_eq_true, and_self, and_true, true_and, ↓reduceIte, decide_true, decide_false, Nat.reduceEqDiff, Nat.reduceLT, Nat.reduceLeDiff, Int.reduceEq, c, g1, e1]
    · have sn0 : swN D (D 81 5) (D 105 a) (D 105 b) hA hB m x = if x.1 < 0 ∨ jmax (swF D (D 81 5) (D 105 a) (D 105 b) 0 m hA) (swF D (D 81 5) (D 105 a) (D 105 b) 0 m hB) < x.2.1 ∨ (jmax (swF D (D 81 5) (D 105 a) (D 105 b) 0 m hA) (swF D (D 81 5) (D 105 a) (D 105 b) 0 m hB) = x.2.1 ∧ swF D (D 81 5) (D 105 a) (D 105 b) 0 m hA + swF D (D 81 5) (D 105 a) (D 105 b) 0 m hB < x.2.2) then (m, jmax (swF D (D 81 5) (D 105 a) (D 105 b) 0 m hA) (swF D (D 81 5) (D 105 a) (D 105 b) 0 m hB), swF D (D 81 5) (D 105 a) (D 105 b) 0 m hA + swF D (D 81 5) (D 105 a) (D 105 b) 0 m hB) else x := by
        unfold swN
        rw [if_neg g5]
      rw [sn0]
      obtain ⟨M, hM⟩ : ∃ M, M = jmax (swF D (D 81 5) (D 105 a) (D 105 b) 0 m hA) (swF D (D 81 5) (D 105 a) (D 105 b) 0 m hB) := ⟨_, rfl⟩
      obtain ⟨S, hS⟩ : ∃ S, S = swF D (D 81 5) (D 105 a) (D 105 b) 0 m hA + swF D (D 81 5) (D 105 a) (D 105 b) 0 m hB := ⟨_, rfl⟩
      rw [← hM] at g8 ⊢
      rw [← hS] at g9 ⊢
      rw [g4] at g1
      have upd : ∃ E', tqrun tqP (d + 4) tqc_X12_bestSwap 10 [vR 81, vI (a : Int), vI (b : Int), vI hA, vI hB, vI m, vI S, vI (m + 1)] [] (tzW (tzU G 81 54 M) L n) = some (some (vI (swL D (D 81 5) (D 105 a) (D 105 b) hA hB j (m + 1) (m, M, S)).1), tzW E' L n) ∧ Sm PSw D E' ∧ (0 ≤ (swL D (D 81 5) (D 105 a) (D 105 b) hA hB j (m + 1) (m, M, S)).1 → E' 81 54 = (swL D (D 81 5) (D 105 a) (D 105 b) hA hB j (m + 1) (m, M, S)).2.1) := by
        clear e1
        exact q_b10 d L n D ha hb w hd ya yb nw yA yB j (m + 1) (tzU G 81 54 M) S (m, M, S) (by omega) (by omega) (Sm_U (by unfold PSw; omega) (Sm_t s g2)) (Or.inr ⟨m0, tzU_s _ _ _ _, rfl⟩)
      have stay : ∃ E', tqrun tqP (d + 4) tqc_X12_bestSwap 10 [vR 81, vI (a : Int), vI (b : Int), vI hA, vI hB, vI x.1, vI v6, vI (m + 1)] [] (tzW G L n) = some (some (vI (swL D (D 81 5) (D 105 a) (D 105 b) hA hB j (m + 1) x).1), tzW E' L n) ∧ Sm PSw D E' ∧ (0 ≤ (swL D (D 81 5) (D 105 a) (D 105 b) hA hB j (m + 1) x).1 → E' 81 54 = (swL D (D 81 5) (D 105 a) (D 105 b) hA hB j (m + 1) x).2.1) := by
        clear e1
        exact q_b10 d L n D ha hb w hd ya yb nw yA yB j (m + 1) G v6 x (by omega) (by omega) (Sm_t s g2) (by rw [g3]; exact ci)
      by_cases k1 : x.1 < 0
      · rw [if_pos (Or.inl k1)]
        obtain ⟨E', r1, r2, r3⟩ := upd
        refine ⟨E', ?_, r2, r3⟩
        rw [← r1, b_X12_bestSwap_10]
        simp only [z_cd, i10, i11, dnn, rdU, eW, eU, tzC_w, w_shp, w_ptr, Nat.beq_refl, nbz, nb133, nb75, nb55, nb67, n133a, n133b, n75a, n75b, aT, aR, oT, oR, oF, oG, kT, kF, bI, bL, bR, b0, Classical.not_not, not_true_eq_false, not_false_eq_true, and_self, and_true, true_and, ↓reduceIte, decide_true, decide_false, Nat.reduceEqDiff, Nat.reduceLT, Nat.reduceLeDiff, Int.reduceEq, c, g1, k1, g8, g9, e1]
      · have ci2 : E 81 54 = x.2.1 ∧ v6 = x.2.2 := by
          rcases ci with q | q
          · clear e1; omega
          · exact q.2
        have g54 : G 81 54 = x.2.1 := g3.trans ci2.1
        by_cases k2 : M < x.2.1
        · rw [if_pos (Or.inr (Or.inl k2))]
          obtain ⟨E', r1, r2, r3⟩ := upd
          refine ⟨E', ?_, r2, r3⟩
          rw [← r1, b_X12_bestSwap_10]
          simp only [z_cd, i10, i11, dnn, rdU, eW, eU, tzC_w, w_shp, w_ptr, Nat.beq_refl, nbz, nb133, nb75, nb55, nb67, n133a, n133b, n75a, n75b, aT, aR, oT, oR, oF, oG, kT, kF, bI, bL, bR, b0, Classical.not_not, not_true_eq_false, not_false_eq_true, and_self, and_true, true_and, ↓reduceIte, decide_true, decide_false, Nat.reduceEqDiff, Nat.reduceLT, Nat.reduceLeDiff, Int.reduceEq, c, g1, k1, g8, g9, g54, k2, e1]
        · by_cases k3 : M = x.2.1
          · have k3' : (M = x.2.1) = True := eq_true k3
            by_cases k4 : v6 ≤ S
            · rw [if_neg (fun z => by clear e1; rcases z with z | z | z; exact k1 z; exact k2 z; exact absurd z.2 (by omega))]
              obtain ⟨E', r1, r2, r3⟩ := stay
              refine ⟨E', ?_, r2, r3⟩
              rw [← r1, b_X12_bestSwap_10]
              simp only [z_cd, i10, i11, dnn, rdU, eW, eU, tzC_w, w_shp, w_ptr, Nat.beq_refl, nbz, nb133, nb75, nb55, nb67, n133a, n133b, n75a, n75b, aT, aR, oT, oR, oF, oG, kT, kF, bI, bL, bR, b0, Classical.not_not, not_true_eq_false, not_false_eq_true, and_self, and_true, true_and, ↓reduceIte, decide_true, decide_false, Nat.reduceEqDiff, Nat.reduceLT, Nat.reduceLeDiff, Int.reduceEq, c, g1, k1, g8, g9, g54, k2, k3', k4, e1]
            · rw [if_pos (Or.inr (Or.inr ⟨k3, by clear e1; omega⟩))]
              obtain ⟨E', r1, r2, r3⟩ := upd
              refine ⟨E', ?_, r2, r3⟩
              rw [← r1, b_X12_bestSwap_10]
              simp only [z_cd, i10, i11, dnn, rdU, eW, eU, tzC_w, w_shp, w_ptr, Nat.beq_refl, nbz, nb133, nb75, nb55, nb67, n133a, n133b, n75a, n75b, aT, aR, oT, oR, oF, oG, kT, kF, bI, bL, bR, b0, Classical.not_not, not_true_eq_false, not_false_eq_true, and_self, and_true, true_and, ↓reduceIte, decide_true, decide_false, Nat.reduceEqDiff, Nat.reduceLT, Nat.reduceLeDiff, Int.reduceEq, c, g1, k1, g8, g9, g54, k2, k3', k4, e1]
          · rw [if_neg (fun z => by rcases z with z | z | z; exact k1 z; exact k2 z; exact k3 z.1)]
            obtain ⟨E', r1, r2, r3⟩ := stay
            refine ⟨E', ?_, r2, r3⟩
            rw [← r1, b_X12_bestSwap_10]
            simp only [z_cd, i10, i11, dnn, rdU, eW, eU, tzC_w, w_shp, w_ptr, Nat.beq_refl, nbz, nb133, nb75, nb55, nb67, n133a, n133b, n75a, n75b, aT, aR, oT, oR, oF, oG, kT, kF, bI, bL, bR, b0, Classical.not_not, not_true_eq_false, not_false_eq_true, and_self, and_true, true_and, ↓reduceIte, decide_true, decide_false, Nat.reduceEqDiff, Nat.reduceLT, Nat.reduceLeDiff, Int.reduceEq, c, g1, k1, g8, g9, g54, k2, k3, e1]
set_option maxRecDepth 100000 in
set_option maxHeartbeats 400000 in
theorem q_best (d L n : Nat) (D : Nat → Int → Int) {a b : Nat} {hA hB : Int} (ha : a < 6) (hb : b < 6) (w : WY D) (hd : ∀ y : Int, 0 ≤ y → y < 8 → D 88 (9 * y) = 0) (ya : 0 ≤ D 105 a ∧ D 105 a ≤ 7) (yb : 0 ≤ D 105 b ∧ D 105 b ≤ 7) (nw : 0 ≤ D 81 5 ∧ D 81 5 ≤ 99999) (yA : 0 ≤ hA ∧ hA ≤ 7) (yB : 0 ≤ hB ∧ hB ≤ 7) :
    ∃ E', tqden tqP (d + 4) n_X12_bestSwap [vR 81, vI (a : Int), vI (b : Int), vI hA, vI hB] (tzW D L n) = some (some (vI (swL D (D 81 5) (D 105 a) (D 105 b) hA hB 8 0 (-9, 0, 0)).1), tzW E' L n) ∧ Sm PSw D E' ∧ (0 ≤ (swL D (D 81 5) (D 105 a) (D 105 b) hA hB 8 0 (-9, 0, 0)).1 → E' 81 54 = (swL D (D 81 5) (D 105 a) (D 105 b) hA hB 8 0 (-9, 0, 0)).2.1) := by
  obtain ⟨E', r1, r2, r3⟩ := q_b10 d L n D ha hb w hd ya yb nw yA yB 8 0 D 0 (-9, 0, 0) (by omega) (by omega) (Sm_r _ _) (Or.inl rfl)
  refine ⟨E', ?_, r2, r3⟩
  rw [← r1, dn_X12_bestSwap, b_X12_bestSwap_0]
