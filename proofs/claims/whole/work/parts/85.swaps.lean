/-! ===== where two meet ===== -/
theorem Rel_sm {P : Nat → Int → Prop} {D D' : Nat → Int → Int} {n : Nat} (s : Sm P D D') (hp : ∀ b j, PZ b j → P b j) (ha : ∀ b j, PA b j → P b j) (r : Rel D n) : Rel D' n := Rel_fr (Sm_m hp s) (RA_fr (Sm_m ha s) r.1) r
noncomputable def swF (D : Nat → Int → Int) (now ya yb lt m y : Int) : Int := erq D 0 m (jmax (erq D 0 ya now m + lt) (erq D 0 yb now m) + 10) y
theorem swF_sm {D D' : Nat → Int → Int} (s : Sm PVq D D') (now ya yb lt m y : Int) : swF D' now ya yb lt m y = swF D now ya yb lt m y := by
  unfold swF
  rw [er_sm s, er_sm s, er_sm s]
noncomputable def swN (D : Nat → Int → Int) (now ya yb hA hB m : Int) (x : Int × Int × Int) : Int × Int × Int :=
  if erq D 0 ya now m = 2147483647 ∨ erq D 0 yb now m = 2147483647 ∨ swF D now ya yb 0 m hA = 2147483647 ∨ swF D now ya yb 0 m hB = 2147483647 then x
  else if x.1 < 0 ∨ jmax (swF D now ya yb 0 m hA) (swF D now ya yb 0 m hB) < x.2.1 ∨ (jmax (swF D now ya yb 0 m hA) (swF D now ya yb 0 m hB) = x.2.1 ∧ swF D now ya yb 0 m hA + swF D now ya yb 0 m hB < x.2.2) then (m, jmax (swF D now ya yb 0 m hA) (swF D now ya yb 0 m hB), swF D now ya yb 0 m hA + swF D now ya yb 0 m hB) else x
noncomputable def swL (D : Nat → Int → Int) (now ya yb hA hB : Int) : Nat → Int → Int × Int × Int → Int × Int × Int
  | 0, _, x => x
  | j + 1, m, x => swL D now ya yb hA hB j (m + 1) (swN D now ya yb hA hB m x)
theorem swL_S (D : Nat → Int → Int) (now ya yb hA hB : Int) (j : Nat) (m : Int) (x : Int × Int × Int) : swL D now ya yb hA hB (j + 1) m x = swL D now ya yb hA hB j (m + 1) (swN D now ya yb hA hB m x) := rfl
def PSw (b : Nat) (j : Int) : Prop := b ≠ 92 ∧ ¬ (b = 81 ∧ 50 ≤ j ∧ j ≤ 54)
theorem PSw_v {D D' : Nat → Int → Int} (s : Sm PSw D D') : Sm PVq D D' := Sm_m (fun b j p => by unfold PVq at p; unfold PSw; omega) s
theorem Sm_o92 {D D' : Nat → Int → Int} (h : Ofq 92 D D') : Sm PSw D D' := Sm_off h (fun j => by unfold PSw; omega)
theorem jmax_c (x y : Int) : (jmax x y = x ∧ y ≤ x) ∨ (jmax x y = y ∧ x < y) := by
  unfold jmax
  by_cases c : x < y
  · rw [if_pos c]; exact Or.inr ⟨rfl, c⟩
  · rw [if_neg c]; exact Or.inl ⟨rfl, by omega⟩
theorem nv_c {x s : Int} (h : x = 2147483647 ∨ (s ≤ x ∧ x ≤ s + 16320)) (s1 : s ≤ 1000000) : (x = 2147483647 ∧ nv x = 100000000) ∨ (x < 2000000 ∧ nv x = x ∧ s ≤ x) := by
  rcases h with h | h
  · exact Or.inl ⟨h, by rw [h]; exact nv_y⟩
  · exact Or.inr ⟨by omega, nv_n (by omega), h.1⟩
set_option maxRecDepth 100000 in
set_option maxHeartbeats 400000 in
theorem q_swapsAt (d L n : Nat) (D : Nat → Int → Int) {a b : Nat} {hA hB m lt : Int} (ha : a < 6) (hb : b < 6) (w : WY D) (hd : ∀ y : Int, 0 ≤ y → y < 8 → D 88 (9 * y) = 0) (ya : 0 ≤ D 105 a ∧ D 105 a ≤ 7) (yb : 0 ≤ D 105 b ∧ D 105 b ≤ 7) (nw : 0 ≤ D 81 5 ∧ D 81 5 ≤ 99999) (yA : 0 ≤ hA ∧ hA ≤ 7) (yB : 0 ≤ hB ∧ hB ≤ 7) (ym : 0 ≤ m ∧ m ≤ 7) (hl : 0 ≤ lt ∧ lt ≤ 2000) :
    ∃ D' r, tqden tqP (d + 3) n_X12_swapsAt [vR 81, vI (a : Int), vI (b : Int), vI hA, vI hB, vI m, vI lt] (tzW D L n) = some (some (vI r), tzW D' L n) ∧ Sm PSw D D' ∧ D' 81 54 = D 81 54 ∧
      ((r = 0 ∧ (erq D 0 (D 105 a) (D 81 5) m = 2147483647 ∨ erq D 0 (D 105 b) (D 81 5) m = 2147483647 ∨ swF D (D 81 5) (D 105 a) (D 105 b) lt m hA = 2147483647 ∨ swF D (D 81 5) (D 105 a) (D 105 b) lt m hB = 2147483647)) ∨
       (r = 1 ∧ ¬ (erq D 0 (D 105 a) (D 81 5) m = 2147483647 ∨ erq D 0 (D 105 b) (D 81 5) m = 2147483647 ∨ swF D (D 81 5) (D 105 a) (D 105 b) lt m hA = 2147483647 ∨ swF D (D 81 5) (D 105 a) (D 105 b) lt m hB = 2147483647) ∧ D' 81 52 = swF D (D 81 5) (D 105 a) (D 105 b) lt m hA ∧ D' 81 53 = swF D (D 81 5) (D 105 a) (D 105 b) lt m hB ∧ D' 81 50 = jmax (swF D (D 81 5) (D 105 a) (D 105 b) lt m hA) (swF D (D 81 5) (D 105 a) (D 105 b) lt m hB) ∧ D' 81 51 = swF D (D 81 5) (D 105 a) (D 105 b) lt m hA + swF D (D 81 5) (D 105 a) (D 105 b) lt m hB)) := by
  obtain ⟨D1, u1, u2⟩ := q_comesTo d L n D (a := D 105 a) (s := D 81 5) (b := m) (by omega) (by omega) (by omega) (by omega) (by omega) (by omega) w hd
  have s1 := Sm_v o92 u2
  have w1 := Wy_sm s1 w
  have hd1 := Hd_sm s1 hd
  obtain ⟨D2, v1, v2⟩ := q_comesTo d L n D1 (a := D 105 b) (s := D 81 5) (b := m) (by omega) (by omega) (by omega) (by omega) (by omega) (by omega) w1 hd1
  rw [er_sm s1] at v1
  have s2 := Sm_t s1 (Sm_v o92 v2)
  have f1 : D1 105 b = D 105 b := u2 105 b (by omega)
  have f2 : D1 81 5 = D 81 5 := u2 81 5 (by omega)
  have t1 := nv_c (er_b w (by omega) (by omega) (er_ok w hd (bt := 0) (Or.inl rfl) (a := D 105 a) (s := D 81 5) (y := m) (by omega) (by omega) (by omega) (by omega) (by omega) (by omega))) (by omega)
  have t2 := nv_c (er_b w (by omega) (by omega) (er_ok w hd (bt := 0) (Or.inl rfl) (a := D 105 b) (s := D 81 5) (y := m) (by omega) (by omega) (by omega) (by omega) (by omega) (by omega))) (by omega)
  have swA : swF D (D 81 5) (D 105 a) (D 105 b) lt m hA = erq D 0 m (jmax (erq D 0 (D 105 a) (D 81 5) m + lt) (erq D 0 (D 105 b) (D 81 5) m) + 10) hA := rfl
  have swB : swF D (D 81 5) (D 105 a) (D 105 b) lt m hB = erq D 0 m (jmax (erq D 0 (D 105 a) (D 81 5) m + lt) (erq D 0 (D 105 b) (D 81 5) m) + 10) hB := rfl
  obtain ⟨E1, hE1⟩ : ∃ E1, E1 = erq D 0 (D 105 a) (D 81 5) m := ⟨_, rfl⟩
  obtain ⟨E2, hE2⟩ : ∃ E2, E2 = erq D 0 (D 105 b) (D 81 5) m := ⟨_, rfl⟩
  rw [← hE1] at u1 t1 swA swB
  rw [← hE2] at v1 t2 swA swB
  rw [← hE1, ← hE2]
  have b1 : tqib (a : Int) 6 = true := tqib_y (by omega) (by omega)
  have b2 : tqib (b : Int) 6 = true := tqib_y (by omega) (by omega)
  have b2' : D2 81 54 = D 81 54 := (v2 81 54 (by omega)).trans (u2 81 54 (by omega))
  have p2 : Sm PSw D D2 := Sm_t (Sm_o92 u2) (Sm_o92 v2)
  rcases t1 with ⟨t1, z1⟩ | ⟨t1, z1, z1'⟩
  · refine ⟨D2, 0, ?_, p2, b2', Or.inl ⟨rfl, Or.inl t1⟩⟩
    rw [z1] at u1
    rw [dn_X12_swapsAt, b_X12_swapsAt_0]
    simp only [z_cd, i10, i11, dnn, rdU, eW, eU, tzC_w, w_shp, w_ptr, Nat.beq_refl, nbz, nb133, nb75, nb55, nb67, n133a, n133b, n75a, n75b, aT, aR, oT, oR, oF, oG, kT, kF, bI, bL, bR, b0, Classical.not_not, not_true_eq_false, not_false_eq_true, and_self, and_true, true_and, ↓reduceIte, decide_true, decide_false, Nat.reduceEqDiff, Nat.reduceLT, Nat.reduceLeDiff, Int.reduceEq, b1, b2, u1, f1, f2, v1]
  · rcases t2 with ⟨t2, z2⟩ | ⟨t2, z2, z2'⟩
    · refine ⟨D2, 0, ?_, p2, b2', Or.inl ⟨rfl, Or.inr (Or.inl t2)⟩⟩
      have ne : ¬ E1 = 100000000 := by omega
      rw [z1] at u1
      rw [z2] at v1
      rw [dn_X12_swapsAt, b_X12_swapsAt_0]
      simp only [z_cd, i10, i11, dnn, rdU, eW, eU, tzC_w, w_shp, w_ptr, Nat.beq_refl, nbz, nb133, nb75, nb55, nb67, n133a, n133b, n75a, n75b, aT, aR, oT, oR, oF, oG, kT, kF, bI, bL, bR, b0, Classical.not_not, not_true_eq_false, not_false_eq_true, and_self, and_true, true_and, ↓reduceIte, decide_true, decide_false, Nat.reduceEqDiff, Nat.reduceLT, Nat.reduceLeDiff, Int.reduceEq, b1, b2, u1, f1, f2, v1, ne]
    · have ne1 : ¬ E1 = 100000000 := by omega
      have ne2 : ¬ E2 = 100000000 := by omega
      have c := jmax_c (E1 + lt) E2
      obtain ⟨B, hB'⟩ : ∃ B, B = jmax (E1 + lt) E2 := ⟨_, rfl⟩
      rw [← hB'] at c swA swB
      have B0 : 0 ≤ B + 10 ∧ B + 10 ≤ 3000000 := by omega
      have w2 := Wy_sm s2 w
      have hd2 := Hd_sm s2 hd
      obtain ⟨D3, x1, x2⟩ := q_comesTo d L n D2 (a := m) (s := B + 10) (b := hA) (by omega) (by omega) (by omega) (by omega) (by omega) (by omega) w2 hd2
      rw [er_sm s2, ← swA] at x1
      have s3 : Sm PVq D (tzU D3 81 52 (nv (swF D (D 81 5) (D 105 a) (D 105 b) lt m hA))) := Sm_U (by unfold PVq; omega) (Sm_t s2 (Sm_v o92 x2))
      obtain ⟨D4, y1, y2⟩ := q_comesTo d L n (tzU D3 81 52 (nv (swF D (D 81 5) (D 105 a) (D 105 b) lt m hA))) (a := m) (s := B + 10) (b := hB) (by omega) (by omega) (by omega) (by omega) (by omega) (by omega) (Wy_sm s3 w) (Hd_sm s3 hd)
      rw [er_sm s3, ← swB] at y1
      have tA := er_b w (y := hA) (by omega) (by omega) (er_ok w hd (bt := 0) (Or.inl rfl) (a := m) (s := B + 10) (y := hA) (by omega) (by omega) (by omega) (by omega) (by omega) (by omega))
      have tB := er_b w (y := hB) (by omega) (by omega) (er_ok w hd (bt := 0) (Or.inl rfl) (a := m) (s := B + 10) (y := hB) (by omega) (by omega) (by omega) (by omega) (by omega) (by omega))
      rw [← swA] at tA
      rw [← swB] at tB
      obtain ⟨F, hF⟩ : ∃ F, F = swF D (D 81 5) (D 105 a) (D 105 b) lt m hA := ⟨_, rfl⟩
      obtain ⟨G, hG⟩ : ∃ G, G = swF D (D 81 5) (D 105 a) (D 105 b) lt m hB := ⟨_, rfl⟩
      rw [← hF] at x1 y1 y2 tA ⊢
      rw [← hG] at y1 tB ⊢
      have g52 : D4 81 52 = nv F := (y2 81 52 (by omega)).trans (tzU_s _ _ _ _)
      have g54 : D4 81 54 = D 81 54 := by rw [y2 81 54 (by omega), tzU_k _ _ _ _ (by omega), x2 81 54 (by omega)]; exact b2'
      have p3 : Sm PSw D D4 := Sm_t (Sm_U (by unfold PSw; omega) (Sm_t p2 (Sm_o92 x2))) (Sm_o92 y2)
      have wl : w32 (E1 + lt) = E1 + lt := w32_i (by omega) (by omega)
      have wb : w32 (B + 10) = B + 10 := w32_i (by omega) (by omega)
      have sel : (if E1 + lt ≤ E2 then E2 else E1 + lt) = B := by
        clear wl wb
        by_cases q : E1 + lt ≤ E2
        · rw [if_pos q]; omega
        · rw [if_neg q]; omega
      have vF : (F = 2147483647 ∧ nv F = 100000000) ∨ (F < 4000000 ∧ nv F = F ∧ 0 ≤ F) := by
        clear wl wb
        rcases tA with q | q
        · exact Or.inl ⟨q, by rw [q]; exact nv_y⟩
        · exact Or.inr ⟨by omega, nv_n (by omega), by omega⟩
      have vG : (G = 2147483647 ∧ nv G = 100000000) ∨ (G < 4000000 ∧ nv G = G ∧ 0 ≤ G) := by
        clear wl wb
        rcases tB with q | q
        · exact Or.inl ⟨q, by rw [q]; exact nv_y⟩
        · exact Or.inr ⟨by omega, nv_n (by omega), by omega⟩
      clear tA tB
      have run : tqden tqP (d + 3) n_X12_swapsAt [vR 81, vI (a : Int), vI (b : Int), vI hA, vI hB, vI m, vI lt] (tzW D L n) = tqrun tqP (d + 3) tqc_X12_swapsAt 73 [vR 81, vI (a : Int), vI (b : Int), vI hA, vI hB, vI m, vI lt, vI (E1 + lt), vI E2, vU] [vI B] (tzW D2 L n) := by
        rw [z1] at u1
        rw [z2] at v1
        rw [dn_X12_swapsAt, b_X12_swapsAt_0, ← sel]
        by_cases q : E1 + lt ≤ E2
        · simp only [z_cd, i10, i11, dnn, rdU, eW, eU, tzC_w, w_shp, w_ptr, Nat.beq_refl, nbz, nb133, nb75, nb55, nb67, n133a, n133b, n75a, n75b, aT, aR, oT, oR, oF, oG, kT, kF, bI, bL, bR, b0, Classical.not_not, not_true_eq_false, not_false_eq_true, and_self, and_true, true_and, ↓reduceIte, decide_true, decide_false, Nat.reduceEqDiff, Nat.reduceLT, Nat.reduceLeDiff, Int.reduceEq, b1, b2, u1, f1, f2, v1, ne1, ne2, wl, q]
        · simp only [z_cd, i10, i11, dnn, rdU, eW, eU, tzC_w, w_shp, w_ptr, Nat.beq_refl, nbz, nb133, nb75, nb55, nb67, n133a, n133b, n75a, n75b, aT, aR, oT, oR, oF, oG, kT, kF, bI, bL, bR, b0, Classical.not_not, not_true_eq_false, not_false_eq_true, and_self, and_true, true_and, ↓reduceIte, decide_true, decide_false, Nat.reduceEqDiff, Nat.reduceLT, Nat.reduceLeDiff, Int.reduceEq, b1, b2, u1, f1, f2, v1, ne1, ne2, wl, q]
      have mx : jmax (nv F) (nv G) = if nv F ≤ nv G then nv G else nv F := by
        have q := jmax_c (nv F) (nv G)
        clear wl wb
        by_cases p : nv F ≤ nv G
        · rw [if_pos p]; omega
        · rw [if_neg p]; omega
      have wS : w32 (nv F + nv G) = nv F + nv G := by
        refine w32_i ?_ ?_ <;> (clear wl wb mx; omega)
      by_cases bad : 100000000 ≤ jmax (nv F) (nv G)
      · refine ⟨tzU (tzU (tzU D4 81 53 (nv G)) 81 50 (jmax (nv F) (nv G))) 81 51 (nv F + nv G), 0, ?_, Sm_U (by unfold PSw; omega) (Sm_U (by unfold PSw; omega) (Sm_U (by unfold PSw; omega) p3)), ?_, Or.inl ⟨rfl, ?_⟩⟩
        · rw [run, b_X12_swapsAt_73]
          rw [mx] at bad ⊢
          by_cases p : nv F ≤ nv G
          · rw [if_pos p] at bad ⊢
            simp only [z_cd, i10, i11, dnn, rdU, eW, eU, tzC_w, w_shp, w_ptr, Nat.beq_refl, nbz, nb133, nb75, nb55, nb67, n133a, n133b, n75a, n75b, aT, aR, oT, oR, oF, oG, kT, kF, bI, bL, bR, b0, Classical.not_not, not_true_eq_false, not_false_eq_true, and_self, and_true, true_and, ↓reduceIte, decide_true, decide_false, Nat.reduceEqDiff, Nat.reduceLT, Nat.reduceLeDiff, Int.reduceEq, wb, x1, y1, g52, p, bad, wS]
          · rw [if_neg p] at bad ⊢
            simp only [z_cd, i10, i11, dnn, rdU, eW, eU, tzC_w, w_shp, w_ptr, Nat.beq_refl, nbz, nb133, nb75, nb55, nb67, n133a, n133b, n75a, n75b, aT, aR, oT, oR, oF, oG, kT, kF, bI, bL, bR, b0, Classical.not_not, not_true_eq_false, not_false_eq_true, and_self, and_true, true_and, ↓reduceIte, decide_true, decide_false, Nat.reduceEqDiff, Nat.reduceLT, Nat.reduceLeDiff, Int.reduceEq, wb, x1, y1, g52, p, bad, wS]
        · rw [tzU_k _ _ _ _ (by omega), tzU_k _ _ _ _ (by omega), tzU_k _ _ _ _ (by omega)]; exact g54
        · have q := jmax_c (nv F) (nv G)
          clear wl wb wS mx
          rcases vF with vF | vF
          · exact Or.inr (Or.inr (Or.inl vF.1))
          · rcases vG with vG | vG
            · exact Or.inr (Or.inr (Or.inr vG.1))
            · omega
      · have okF : F < 4000000 ∧ nv F = F := by
          have q := jmax_c (nv F) (nv G)
          clear wl wb wS mx
          omega
        have okG : G < 4000000 ∧ nv G = G := by
          have q := jmax_c (nv F) (nv G)
          clear wl wb wS mx
          omega
        refine ⟨tzU (tzU (tzU D4 81 53 (nv G)) 81 50 (jmax (nv F) (nv G))) 81 51 (nv F + nv G), 1, ?_, Sm_U (by unfold PSw; omega) (Sm_U (by unfold PSw; omega) (Sm_U (by unfold PSw; omega) p3)), ?_, Or.inr ⟨rfl, ?_, ?_, ?_, ?_, ?_⟩⟩
        · rw [run, b_X12_swapsAt_73]
          rw [mx] at bad ⊢
          by_cases p : nv F ≤ nv G
          · rw [if_pos p] at bad ⊢
            simp only [z_cd, i10, i11, dnn, rdU, eW, eU, tzC_w, w_shp, w_ptr, Nat.beq_refl, nbz, nb133, nb75, nb55, nb67, n133a, n133b, n75a, n75b, aT, aR, oT, oR, oF, oG, kT, kF, bI, bL, bR, b0, Classical.not_not, not_true_eq_false, not_false_eq_true, and_self, and_true, true_and, ↓reduceIte, decide_true, decide_false, Nat.reduceEqDiff, Nat.reduceLT, Nat.reduceLeDiff, Int.reduceEq, wb, x1, y1, g52, p, bad, wS]
          · rw [if_neg p] at bad ⊢
            simp only [z_cd, i10, i11, dnn, rdU, eW, eU, tzC_w, w_shp, w_ptr, Nat.beq_refl, nbz, nb133, nb75, nb55, nb67, n133a, n133b, n75a, n75b, aT, aR, oT, oR, oF, oG, kT, kF, bI, bL, bR, b0, Classical.not_not, not_true_eq_false, not_false_eq_true, and_self, and_true, true_and, ↓reduceIte, decide_true, decide_false, Nat.reduceEqDiff, Nat.reduceLT, Nat.reduceLeDiff, Int.reduceEq, wb, x1, y1, g52, p, bad, wS]
        · rw [tzU_k _ _ _ _ (by omega), tzU_k _ _ _ _ (by omega), tzU_k _ _ _ _ (by omega)]; exact g54
        · clear wl wb wS mx
          omega
        · rw [tzU_k _ _ _ _ (by omega), tzU_k _ _ _ _ (by omega), tzU_k _ _ _ _ (by omega), g52]; exact okF.2
        · rw [tzU_k _ _ _ _ (by omega), tzU_k _ _ _ _ (by omega), tzU_s]; exact okG.2
        · rw [tzU_k _ _ _ _ (by omega), tzU_s, okF.2, okG.2]
        · rw [tzU_s, okF.2, okG.2]
