/-! ===== the reference's comesTo ===== -/
theorem cdiv {x e : Int} (e0 : 0 < e) : (e - 1 - x) / e = - (x / e) := by
  have h1 := Int.emod_nonneg x (b := e) (by omega)
  have h2 := Int.emod_lt_of_pos x e0
  have h3 := Int.emod_def x e
  have e1 : e - 1 - x = (e - 1 - x % e) + (- (x / e)) * e := by
    have : (- (x / e)) * e = - (e * (x / e)) := by rw [Int.neg_mul, Int.mul_comm]
    rw [this]; omega
  rw [e1, Int.add_mul_ediv_right _ _ (by omega), Int.ediv_eq_zero_of_lt (by omega) (by omega)]
  omega
theorem nx_bey {D : Nat → Int → Int} {k u : Int} (h : WY D) (k0 : 0 ≤ k) (k1 : k < 64) (c : ¬ D 90 k ≤ 0) (f : D 91 k < u) : D 91 k + (D 90 k - 1 - (D 91 k - u)) / D 90 k * D 90 k = u + (D 91 k - u) % D 90 k := by
  rw [cdiv (by omega), Int.emod_def, Int.neg_mul, Int.mul_comm]
  omega
set_option maxRecDepth 100000 in
theorem bey73 (d : Nat) (v0 : Nat) (v1 v2 v3 : Int) (x4 : tqV) (m : tqM) : tqrun tqP (d + 1) tqc_X12_beyond 73 [vR v0, vI v1, vI v2, vI v3, x4] [] m = bif Nat.beq (m.2.2.1 v0).1 22 then (bif ((Nat.beq (m.2.2.1 (m.2.1 v0 11)).1 1 || Nat.beq (m.2.2.1 (m.2.1 v0 11)).1 8) && tqib v1 (m.2.2.1 (m.2.1 v0 11)).2) then (some (some (vI (w32 (v3 + (m.1 (m.2.1 v0 11) v1)))), m)) else none) else none := (tqrun_go tqP d tqc_X12_beyond (fun p => Nat.beq p 73) 7 73 _ _ m).trans rfl
set_option maxRecDepth 100000 in
set_option maxHeartbeats 400000 in
theorem q_beyond (d : Nat) (D : Nat → Int → Int) (L n : Nat) (h : WY D) {k u : Int} (k0 : 0 ≤ k) (k1 : k < 64) (u0 : 0 ≤ u) (u1 : u ≤ 200000000) : tqden tqP (d + 1) n_X12_beyond [vR 81, vI k, vI u] (tzW D L n) = some (some (vI (nxq D 0 k u)), tzW D L n) := by
  obtain ⟨g1, g2, g3, g4, g5, g6, g7, g8, g9, g10, g11, g12⟩ := h k k0 k1
  have hb : tqib k 64 = true := tqib_y (by omega) (by omega)
  by_cases c : D 90 k ≤ 0
  · have e1 : w32 (u + D 88 k) = u + D 88 k := w32_i (by omega) (by omega)
    rw [nx_p D k u c, dn_X12_beyond, b_X12_beyond_0]
    simp only [z_cd, i10, i11, dnn, rdU, eW, eU, tzC_w, w_shp, w_ptr, Nat.beq_refl, nbz, nb133, nb75, nb55, nb67, n133a, n133b, n75a, n75b, aT, aR, oT, oR, oF, oG, kT, kF, bI, bL, bR, b0, Classical.not_not, not_true_eq_false, not_false_eq_true, and_self, and_true, true_and, ↓reduceIte, decide_true, decide_false, Nat.reduceEqDiff, Nat.reduceLT, Nat.reduceLeDiff, Int.reduceEq, hb, c, bey73, e1]
  · have c2 : ¬ D 90 k = 0 := by omega
    have m1 := Int.emod_nonneg (D 91 k - u) (b := D 90 k) (by omega)
    have m2 := Int.emod_lt_of_pos (D 91 k - u) (b := D 90 k) (by omega)
    by_cases f : D 91 k < u
    · have key := nx_bey h k0 k1 c f
      have q0 : 0 ≤ D 90 k - 1 - (D 91 k - u) := by omega
      have q1 : 0 ≤ (D 90 k - 1 - (D 91 k - u)) / D 90 k := Int.ediv_nonneg q0 (by omega)
      have q2 : (D 90 k - 1 - (D 91 k - u)) / D 90 k ≤ D 90 k - 1 - (D 91 k - u) := Int.ediv_le_self _ q0
      have t0 : w32 (w32 (w32 (u - D 91 k) + D 90 k) - 1) = D 90 k - 1 - (D 91 k - u) := by
        rw [w32_i (x := u - D 91 k) (by omega) (by omega), w32_i (x := u - D 91 k + D 90 k) (by omega) (by omega), w32_i (by omega) (by omega)]
        omega
      have t1 : (D 90 k - 1 - (D 91 k - u)).tdiv (D 90 k) = (D 90 k - 1 - (D 91 k - u)) / D 90 k := Int.tdiv_eq_ediv_of_nonneg q0
      have t2 : w32 ((D 90 k - 1 - (D 91 k - u)) / D 90 k) = (D 90 k - 1 - (D 91 k - u)) / D 90 k := w32_i (by omega) (by omega)
      have t3 : w32 ((D 90 k - 1 - (D 91 k - u)) / D 90 k * D 90 k) = (D 90 k - 1 - (D 91 k - u)) / D 90 k * D 90 k := w32_i (by omega) (by omega)
      have t4 : w32 (D 91 k + (D 90 k - 1 - (D 91 k - u)) / D 90 k * D 90 k) = u + (D 91 k - u) % D 90 k := by rw [key]; exact w32_i (by omega) (by omega)
      have t5 : w32 (u + (D 91 k - u) % D 90 k + D 88 k) = u + (D 91 k - u) % D 90 k + D 88 k := w32_i (by omega) (by omega)
      rw [nx_f D k u c, dn_X12_beyond, b_X12_beyond_0]
      simp only [z_cd, i10, i11, dnn, rdU, eW, eU, tzC_w, w_shp, w_ptr, Nat.beq_refl, nbz, nb133, nb75, nb55, nb67, n133a, n133b, n75a, n75b, aT, aR, oT, oR, oF, oG, kT, kF, bI, bL, bR, b0, Classical.not_not, not_true_eq_false, not_false_eq_true, and_self, and_true, true_and, ↓reduceIte, decide_true, decide_false, Nat.reduceEqDiff, Nat.reduceLT, Nat.reduceLeDiff, Int.reduceEq, hb, c, c2, f, t0, t1, t2, t3, t4, bey73, t5]
    · have key : u + (D 91 k - u) % D 90 k = D 91 k := by rw [Int.emod_eq_of_lt (by omega) (by omega)]; omega
      have t5 : w32 (D 91 k + D 88 k) = D 91 k + D 88 k := w32_i (by omega) (by omega)
      rw [nx_f D k u c, key, dn_X12_beyond, b_X12_beyond_0]
      simp only [z_cd, i10, i11, dnn, rdU, eW, eU, tzC_w, w_shp, w_ptr, Nat.beq_refl, nbz, nb133, nb75, nb55, nb67, n133a, n133b, n75a, n75b, aT, aR, oT, oR, oF, oG, kT, kF, bI, bL, bR, b0, Classical.not_not, not_true_eq_false, not_false_eq_true, and_self, and_true, true_and, ↓reduceIte, decide_true, decide_false, Nat.reduceEqDiff, Nat.reduceLT, Nat.reduceLeDiff, Int.reduceEq, hb, c, c2, f, bey73, t5]
/-- each minute kept is one of a walk -/
def Snd (D : Nat → Int → Int) (bt a s : Int) : Prop := ∀ y : Int, 0 ≤ y → y < 8 → D 92 y = 100000000 ∨ (D 92 y < 100000000 ∧ ∃ k : Nat, Wk D bt a s k y (D 92 y))
def sm8 (D : Nat → Int → Int) : Int := D 92 0 + D 92 1 + D 92 2 + D 92 3 + D 92 4 + D 92 5 + D 92 6 + D 92 7
theorem Snd_g {D : Nat → Int → Int} {bt a s : Int} (w : WY D) (s0 : 0 ≤ s) (h : Snd D bt a s) {y : Int} (y0 : 0 ≤ y) (y1 : y < 8) : 0 ≤ D 92 y ∧ D 92 y ≤ 100000000 := by
  rcases h y y0 y1 with q | ⟨q, k, q2⟩
  · omega
  · have := Wk_ge w k y _ y0 y1 q2; omega
theorem sm8_g {D : Nat → Int → Int} {bt a s : Int} (w : WY D) (s0 : 0 ≤ s) (h : Snd D bt a s) : 0 ≤ sm8 D := by
  have g : ∀ y : Int, 0 ≤ y → y < 8 → 0 ≤ D 92 y := fun y y0 y1 => (Snd_g w s0 h y0 y1).1
  have g0 := g 0 (by omega) (by omega)
  have g1 := g 1 (by omega) (by omega)
  have g2 := g 2 (by omega) (by omega)
  have g3 := g 3 (by omega) (by omega)
  have g4 := g 4 (by omega) (by omega)
  have g5 := g 5 (by omega) (by omega)
  have g6 := g 6 (by omega) (by omega)
  have g7 := g 7 (by omega) (by omega)
  unfold sm8
  omega
theorem sm8_U (D : Nat → Int → Int) {z v : Int} (z0 : 0 ≤ z) (z1 : z < 8) : sm8 (tzU D 92 z v) = sm8 D - D 92 z + v := by
  have : z = 0 ∨ z = 1 ∨ z = 2 ∨ z = 3 ∨ z = 4 ∨ z = 5 ∨ z = 6 ∨ z = 7 := by omega
  unfold sm8
  rcases this with rfl | rfl | rfl | rfl | rfl | rfl | rfl | rfl <;> simp only [rdU, n133a, n133b, n75a, n75b, ↓reduceIte, Nat.reduceEqDiff, Nat.reduceLT, Nat.reduceLeDiff, Int.reduceEq, not_true_eq_false, not_false_eq_true, true_and, and_true, and_self, true_or, or_true, or_false, false_or, ite_self] <;> omega
theorem o92 : oka 92 := by unfold oka; omega
theorem Snd_U {D : Nat → Int → Int} {bt a s : Int} (h : Snd D bt a s) {y z : Int} (y0 : 0 ≤ y) (y1 : y < 8) (m : 0 < D 88 (8 * y + z)) (q : D 92 y < 100000000) (l : nxq D bt (8 * y + z) (D 92 y) < D 92 z) (z0 : 0 ≤ z) (z1 : z < 8) : Snd (tzU D 92 z (nxq D bt (8 * y + z) (D 92 y))) bt a s := by
  have ew := Ofq_w (Ofq_U D 92 z (nxq D bt (8 * y + z) (D 92 y))) o92
  intro x x0 x1
  by_cases e : x = z
  · rw [e, tzU_s]
    refine Or.inr ⟨?_, ?_⟩
    · rcases h z z0 z1 with t | t <;> omega
    · rcases h y y0 y1 with t | ⟨t, k, t2⟩
      · omega
      · exact ⟨k + 1, Wk_fr ew _ _ _ (Wk_go y0 y1 t2 m)⟩
  · rw [tzU_k _ _ _ _ e]
    rcases h x x0 x1 with t | ⟨t, k, t2⟩
    · exact Or.inl t
    · exact Or.inr ⟨t, k, Wk_fr ew _ _ _ t2⟩
/-- nothing comes earlier over spot k -/
def Cl (D : Nat → Int → Int) (y z : Int) : Prop := ¬ (0 < D 88 (8 * y + z) ∧ D 92 y < 100000000 ∧ nxq D 0 (8 * y + z) (D 92 y) < D 92 z)
def PSS (D : Nat → Int → Int) (l : Int) (D' : Nat → Int → Int) (l' a s : Int) (Q : Int → Int → Prop) : Prop := Ofq 92 D D' ∧ Snd D' 0 a s ∧ (∀ w : Int, 0 ≤ w → w < 8 → D' 92 w ≤ D 92 w) ∧ sm8 D' ≤ sm8 D ∧ ((l' = 0 ∧ l = 0 ∧ D' = D ∧ ∀ y z : Int, Q y z → Cl D y z) ∨ (l' = 1 ∧ (l = 1 ∨ sm8 D' < sm8 D)))
theorem PSS_t {D D' D'' : Nat → Int → Int} {l l' l'' a s : Int} {Q Q' : Int → Int → Prop} (h : PSS D l D' l' a s Q) (g : PSS D' l' D'' l'' a s Q') : PSS D l D'' l'' a s (fun y z => Q y z ∨ Q' y z) := by
  obtain ⟨h1, h2, h3, h4, h5⟩ := h
  obtain ⟨g1, g2, g3, g4, g5⟩ := g
  refine ⟨Ofq_t h1 g1, g2, fun w w0 w1 => ?_, by omega, ?_⟩
  · have := h3 w w0 w1
    have := g3 w w0 w1
    omega
  · rcases g5 with ⟨e1, e2, e3, e4⟩ | ⟨e1, e2⟩
    · rcases h5 with ⟨f1, f2, f3, f4⟩ | ⟨f1, f2⟩
      · refine Or.inl ⟨e1, f2, e3.trans f3, fun y z q => ?_⟩
        rcases q with q | q
        · exact f4 y z q
        · have := e4 y z q
          rw [f3] at this
          exact this
      · omega
    · refine Or.inr ⟨e1, ?_⟩
      rcases h5 with ⟨f1, f2, f3, f4⟩ | ⟨f1, f2⟩
      · rcases e2 with e2 | e2
        · omega
        · exact Or.inr (by omega)
      · rcases f2 with f2 | f2
        · exact Or.inl f2
        · exact Or.inr (by omega)
theorem PSS_m {D D' : Nat → Int → Int} {l l' a s : Int} {Q Q' : Int → Int → Prop} (m : ∀ y z, Q' y z → Q y z) (h : PSS D l D' l' a s Q) : PSS D l D' l' a s Q' := by
  obtain ⟨h1, h2, h3, h4, h5⟩ := h
  refine ⟨h1, h2, h3, h4, ?_⟩
  rcases h5 with ⟨f1, f2, f3, f4⟩ | f
  · exact Or.inl ⟨f1, f2, f3, fun y z q => f4 y z (m y z q)⟩
  · exact Or.inr f
theorem PSS_no {D : Nat → Int → Int} {l a s y z : Int} (hl : l = 0 ∨ l = 1) (h : Snd D 0 a s) (c : Cl D y z) : PSS D l D l a s (fun p q => p = y ∧ q = z) := by
  refine ⟨Ofq_r 92 D, h, fun _ _ _ => Int.le_refl _, Int.le_refl _, ?_⟩
  rcases hl with e | e
  · exact Or.inl ⟨e, e, rfl, fun p q t => by rw [t.1, t.2]; exact c⟩
  · exact Or.inr ⟨e, Or.inl e⟩
theorem PSS_ye {D : Nat → Int → Int} {l a s y z : Int} (h : Snd D 0 a s) (y0 : 0 ≤ y) (y1 : y < 8) (m : 0 < D 88 (8 * y + z)) (q : D 92 y < 100000000) (c : nxq D 0 (8 * y + z) (D 92 y) < D 92 z) (z0 : 0 ≤ z) (z1 : z < 8) : PSS D l (tzU D 92 z (nxq D 0 (8 * y + z) (D 92 y))) 1 a s (fun p q => p = y ∧ q = z) := by
  have e := sm8_U D (z := z) (v := nxq D 0 (8 * y + z) (D 92 y)) z0 z1
  refine ⟨Ofq_U D 92 z _, Snd_U h y0 y1 m q c z0 z1, fun w w0 w1 => ?_, by omega, Or.inr ⟨rfl, Or.inr (by omega)⟩⟩
  by_cases t : w = z
  · rw [t, tzU_s]; omega
  · rw [tzU_k _ _ _ _ t]; exact Int.le_refl _
set_option maxRecDepth 100000 in
set_option maxHeartbeats 400000 in
theorem q_c59 (d L n : Nat) (b : Int) {a s : Int} (s0 : 0 ≤ s) {y : Int} (y0 : 0 ≤ y) (y1 : y < 8) : ∀ (j : Nat) (z l : Int) (D : Nat → Int → Int), 0 ≤ z → z + j = 8 → WY D → Snd D 0 a s → (l = 0 ∨ l = 1) →
    ∃ D' l', tqrun tqP (d + 2) tqc_X12_comesTo 59 [vR 81, vU, vU, vI b, vI l, vI y, vI z, vU] [] (tzW D L n) = tqrun tqP (d + 2) tqc_X12_comesTo 49 [vR 81, vU, vU, vI b, vI l', vI (y + 1), vU, vU] [] (tzW D' L n) ∧ PSS D l D' l' a s (fun p q => p = y ∧ z ≤ q ∧ q < 8)
  | 0, z, l, D, z0, zj, w, h, hl => by
    refine ⟨D, l, ?_, Ofq_r 92 D, h, fun _ _ _ => Int.le_refl _, Int.le_refl _, ?_⟩
    · have c : 8 ≤ z := by omega
      have e2 := w1z y0 (by omega)
      rw [b_X12_comesTo_59]
      simp only [z_cd, i10, i11, dnn, rdU, eW, eU, tzC_w, w_shp, w_ptr, Nat.beq_refl, nbz, nb133, nb75, nb55, nb67, n133a, n133b, n75a, n75b, aT, aR, oT, oR, oF, oG, kT, kF, bI, bL, bR, b0, Classical.not_not, not_true_eq_false, not_false_eq_true, and_self, and_true, true_and, ↓reduceIte, decide_true, decide_false, Nat.reduceEqDiff, Nat.reduceLT, Nat.reduceLeDiff, Int.reduceEq, c, e2]
    · rcases hl with e | e
      · exact Or.inl ⟨e, e, rfl, fun p q t => by omega⟩
      · exact Or.inr ⟨e, Or.inl e⟩
  | j + 1, z, l, D, z0, zj, w, h, hl => by
    have z1 : z < 8 := by omega
    have c : ¬ 8 ≤ z := by omega
    have hb1 : tqib (8 * y + z) 64 = true := tqib_y (by omega) (by omega)
    have hb2 : tqib z 8 = true := tqib_y (by omega) (by omega)
    have hb3 : tqib y 8 = true := tqib_y (by omega) (by omega)
    have gy := Snd_g w s0 h y0 y1
    have bey := q_beyond d D L n w (k := 8 * y + z) (u := D 92 y) (by omega) (by omega) gy.1 (by omega)
    have no : Cl D y z → ∃ D' l', tqrun tqP (d + 2) tqc_X12_comesTo 59 [vR 81, vU, vU, vI b, vI l, vI y, vI (z + 1), vU] [] (tzW D L n) = tqrun tqP (d + 2) tqc_X12_comesTo 49 [vR 81, vU, vU, vI b, vI l', vI (y + 1), vU, vU] [] (tzW D' L n) ∧ PSS D l D' l' a s (fun p q => p = y ∧ z ≤ q ∧ q < 8) := by
      intro cl
      obtain ⟨D', l', r1, r2⟩ := q_c59 d L n b s0 y0 y1 j (z + 1) l D (by omega) (by omega) w h hl
      exact ⟨D', l', r1, PSS_m (fun p q t => by omega) (PSS_t (PSS_no hl h cl) r2)⟩
    by_cases q1 : D 88 (8 * y + z) ≤ 0
    · obtain ⟨D', l', r1, r2⟩ := no (fun t => by omega)
      refine ⟨D', l', ?_, r2⟩
      have e1 := w8y2 y0 y1 z0 z1
      have e2 := w1z z0 (by omega)
      rw [← r1, b_X12_comesTo_59]
      simp only [z_cd, i10, i11, dnn, rdU, eW, eU, tzC_w, w_shp, w_ptr, Nat.beq_refl, nbz, nb133, nb75, nb55, nb67, n133a, n133b, n75a, n75b, aT, aR, oT, oR, oF, oG, kT, kF, bI, bL, bR, b0, Classical.not_not, not_true_eq_false, not_false_eq_true, and_self, and_true, true_and, ↓reduceIte, decide_true, decide_false, Nat.reduceEqDiff, Nat.reduceLT, Nat.reduceLeDiff, Int.reduceEq, c, e1, e2, hb1, q1]
    · by_cases q2 : 100000000 ≤ D 92 y
      · obtain ⟨D', l', r1, r2⟩ := no (fun t => by omega)
        refine ⟨D', l', ?_, r2⟩
        have e1 := w8y2 y0 y1 z0 z1
        have e2 := w1z z0 (by omega)
        rw [← r1, b_X12_comesTo_59]
        simp only [z_cd, i10, i11, dnn, rdU, eW, eU, tzC_w, w_shp, w_ptr, Nat.beq_refl, nbz, nb133, nb75, nb55, nb67, n133a, n133b, n75a, n75b, aT, aR, oT, oR, oF, oG, kT, kF, bI, bL, bR, b0, Classical.not_not, not_true_eq_false, not_false_eq_true, and_self, and_true, true_and, ↓reduceIte, decide_true, decide_false, Nat.reduceEqDiff, Nat.reduceLT, Nat.reduceLeDiff, Int.reduceEq, c, e1, e2, hb1, hb3, q1, q2]
      · by_cases q3 : D 92 z ≤ nxq D 0 (8 * y + z) (D 92 y)
        · obtain ⟨D', l', r1, r2⟩ := no (fun t => by omega)
          refine ⟨D', l', ?_, r2⟩
          have e1 := w8y2 y0 y1 z0 z1
          have e2 := w1z z0 (by omega)
          rw [← r1, b_X12_comesTo_59]
          simp only [z_cd, i10, i11, dnn, rdU, eW, eU, tzC_w, w_shp, w_ptr, Nat.beq_refl, nbz, nb133, nb75, nb55, nb67, n133a, n133b, n75a, n75b, aT, aR, oT, oR, oF, oG, kT, kF, bI, bL, bR, b0, Classical.not_not, not_true_eq_false, not_false_eq_true, and_self, and_true, true_and, ↓reduceIte, decide_true, decide_false, Nat.reduceEqDiff, Nat.reduceLT, Nat.reduceLeDiff, Int.reduceEq, c, e1, e2, hb1, hb2, hb3, q1, q2, q3, bey]
        · have ye := PSS_ye (l := l) h y0 y1 (z := z) (by omega) (by omega) (by omega) z0 z1
          obtain ⟨D', l', r1, r2⟩ := q_c59 d L n b s0 y0 y1 j (z + 1) 1 (tzU D 92 z (nxq D 0 (8 * y + z) (D 92 y))) (by omega) (by omega) (Ofq_y (Ofq_U _ _ _ _) o92 w) ye.2.1 (Or.inr rfl)
          refine ⟨D', l', ?_, PSS_m (fun p q t => by omega) (PSS_t ye r2)⟩
          have e1 := w8y2 y0 y1 z0 z1
          have e2 := w1z z0 (by omega)
          rw [← r1, b_X12_comesTo_59]
          simp only [z_cd, i10, i11, dnn, rdU, eW, eU, tzC_w, w_shp, w_ptr, Nat.beq_refl, nbz, nb133, nb75, nb55, nb67, n133a, n133b, n75a, n75b, aT, aR, oT, oR, oF, oG, kT, kF, bI, bL, bR, b0, Classical.not_not, not_true_eq_false, not_false_eq_true, and_self, and_true, true_and, ↓reduceIte, decide_true, decide_false, Nat.reduceEqDiff, Nat.reduceLT, Nat.reduceLeDiff, Int.reduceEq, c, e1, e2, hb1, hb2, hb3, q1, q2, q3, bey]
set_option maxRecDepth 100000 in
set_option maxHeartbeats 400000 in
theorem q_c49 (d L n : Nat) (b : Int) {a s : Int} (s0 : 0 ≤ s) : ∀ (j : Nat) (y l : Int) (D : Nat → Int → Int), 0 ≤ y → y + j = 8 → WY D → Snd D 0 a s → (l = 0 ∨ l = 1) →
    ∃ D' l', tqrun tqP (d + 2) tqc_X12_comesTo 49 [vR 81, vU, vU, vI b, vI l, vI y, vU, vU] [] (tzW D L n) = tqrun tqP (d + 2) tqc_X12_comesTo 38 [vR 81, vU, vU, vI b, vI l', vU, vU, vU] [] (tzW D' L n) ∧ PSS D l D' l' a s (fun p q => y ≤ p ∧ p < 8 ∧ 0 ≤ q ∧ q < 8)
  | 0, y, l, D, y0, yj, w, h, hl => by
    refine ⟨D, l, ?_, Ofq_r 92 D, h, fun _ _ _ => Int.le_refl _, Int.le_refl _, ?_⟩
    · have c : 8 ≤ y := by omega
      rw [b_X12_comesTo_49]
      simp only [z_cd, i10, i11, dnn, rdU, eW, eU, tzC_w, w_shp, w_ptr, Nat.beq_refl, nbz, nb133, nb75, nb55, nb67, n133a, n133b, n75a, n75b, aT, aR, oT, oR, oF, oG, kT, kF, bI, bL, bR, b0, Classical.not_not, not_true_eq_false, not_false_eq_true, and_self, and_true, true_and, ↓reduceIte, decide_true, decide_false, Nat.reduceEqDiff, Nat.reduceLT, Nat.reduceLeDiff, Int.reduceEq, c]
    · rcases hl with e | e
      · exact Or.inl ⟨e, e, rfl, fun p q t => by omega⟩
      · exact Or.inr ⟨e, Or.inl e⟩
  | j + 1, y, l, D, y0, yj, w, h, hl => by
    have c : ¬ 8 ≤ y := by omega
    obtain ⟨D1, l1, r1, r2⟩ := q_c59 d L n b s0 y0 (by omega) 8 0 l D (by omega) (by omega) w h hl
    have hl1 : l1 = 0 ∨ l1 = 1 := by
      rcases r2.2.2.2.2 with t | t
      · exact Or.inl t.1
      · exact Or.inr t.1
    obtain ⟨D2, l2, u1, u2⟩ := q_c49 d L n b s0 j (y + 1) l1 D1 (by omega) (by omega) (Ofq_y r2.1 o92 w) r2.2.1 hl1
    refine ⟨D2, l2, ?_, PSS_m (fun p q t => by omega) (PSS_t r2 u2)⟩
    rw [← u1, ← r1, b_X12_comesTo_49]
    simp only [z_cd, i10, i11, dnn, rdU, eW, eU, tzC_w, w_shp, w_ptr, Nat.beq_refl, nbz, nb133, nb75, nb55, nb67, n133a, n133b, n75a, n75b, aT, aR, oT, oR, oF, oG, kT, kF, bI, bL, bR, b0, Classical.not_not, not_true_eq_false, not_false_eq_true, and_self, and_true, true_and, ↓reduceIte, decide_true, decide_false, Nat.reduceEqDiff, Nat.reduceLT, Nat.reduceLeDiff, Int.reduceEq, c]
set_option maxRecDepth 100000 in
set_option maxHeartbeats 400000 in
theorem q_c38 (d L n : Nat) {b a s : Int} (b0 : 0 ≤ b) (b1 : b < 8) (s0 : 0 ≤ s) : ∀ (N : Nat) (D : Nat → Int → Int), WY D → Snd D 0 a s → sm8 D ≤ N →
    ∃ D', tqrun tqP (d + 2) tqc_X12_comesTo 38 [vR 81, vU, vU, vI b, vI 1, vU, vU, vU] [] (tzW D L n) = some (some (vI (D' 92 b)), tzW D' L n) ∧ Ofq 92 D D' ∧ Snd D' 0 a s ∧ (∀ w : Int, 0 ≤ w → w < 8 → D' 92 w ≤ D 92 w) ∧ ∀ y z : Int, 0 ≤ y → y < 8 → 0 ≤ z → z < 8 → Cl D' y z := by
  intro N
  induction N with
  | zero =>
    intro D w h hN
    obtain ⟨D1, l1, r1, r2⟩ := q_c49 d L n b (a := a) s0 8 0 0 D (by omega) (by omega) w h (Or.inl rfl)
    rcases r2.2.2.2.2 with ⟨e1, e2, e3, e4⟩ | ⟨e1, e2⟩
    · refine ⟨D, ?_, Ofq_r 92 D, h, fun _ _ _ => Int.le_refl _, fun y z y0 y1 z0 z1 => e4 y z ⟨y0, y1, z0, z1⟩⟩
      have hb2 : tqib b 8 = true := tqib_y (by omega) (by omega)
      rw [e1, e3] at r1
      rw [b_X12_comesTo_38]
      simp only [z_cd, i10, i11, dnn, rdU, eW, eU, tzC_w, w_shp, w_ptr, Nat.beq_refl, nbz, nb133, nb75, nb55, nb67, n133a, n133b, n75a, n75b, aT, aR, oT, oR, oF, oG, kT, kF, bI, bL, bR, b0, Classical.not_not, not_true_eq_false, not_false_eq_true, and_self, and_true, true_and, ↓reduceIte, decide_true, decide_false, Nat.reduceEqDiff, Nat.reduceLT, Nat.reduceLeDiff, Int.reduceEq, r1]
      rw [b_X12_comesTo_38]
      simp only [z_cd, i10, i11, dnn, rdU, eW, eU, tzC_w, w_shp, w_ptr, Nat.beq_refl, nbz, nb133, nb75, nb55, nb67, n133a, n133b, n75a, n75b, aT, aR, oT, oR, oF, oG, kT, kF, bI, bL, bR, b0, Classical.not_not, not_true_eq_false, not_false_eq_true, and_self, and_true, true_and, ↓reduceIte, decide_true, decide_false, Nat.reduceEqDiff, Nat.reduceLT, Nat.reduceLeDiff, Int.reduceEq, hb2]
    · have := sm8_g (Ofq_y r2.1 o92 w) s0 r2.2.1
      rcases e2 with e2 | e2 <;> omega
  | succ N ih =>
    intro D w h hN
    obtain ⟨D1, l1, r1, r2⟩ := q_c49 d L n b (a := a) s0 8 0 0 D (by omega) (by omega) w h (Or.inl rfl)
    rcases r2.2.2.2.2 with ⟨e1, e2, e3, e4⟩ | ⟨e1, e2⟩
    · refine ⟨D, ?_, Ofq_r 92 D, h, fun _ _ _ => Int.le_refl _, fun y z y0 y1 z0 z1 => e4 y z ⟨y0, y1, z0, z1⟩⟩
      have hb2 : tqib b 8 = true := tqib_y (by omega) (by omega)
      rw [e1, e3] at r1
      rw [b_X12_comesTo_38]
      simp only [z_cd, i10, i11, dnn, rdU, eW, eU, tzC_w, w_shp, w_ptr, Nat.beq_refl, nbz, nb133, nb75, nb55, nb67, n133a, n133b, n75a, n75b, aT, aR, oT, oR, oF, oG, kT, kF, bI, bL, bR, b0, Classical.not_not, not_true_eq_false, not_false_eq_true, and_self, and_true, true_and, ↓reduceIte, decide_true, decide_false, Nat.reduceEqDiff, Nat.reduceLT, Nat.reduceLeDiff, Int.reduceEq, r1]
      rw [b_X12_comesTo_38]
      simp only [z_cd, i10, i11, dnn, rdU, eW, eU, tzC_w, w_shp, w_ptr, Nat.beq_refl, nbz, nb133, nb75, nb55, nb67, n133a, n133b, n75a, n75b, aT, aR, oT, oR, oF, oG, kT, kF, bI, bL, bR, b0, Classical.not_not, not_true_eq_false, not_false_eq_true, and_self, and_true, true_and, ↓reduceIte, decide_true, decide_false, Nat.reduceEqDiff, Nat.reduceLT, Nat.reduceLeDiff, Int.reduceEq, hb2]
    · have lt : sm8 D1 < sm8 D := by rcases e2 with e2 | e2; omega; exact e2
      obtain ⟨D2, u1, u2, u3, u4, u5⟩ := ih D1 (Ofq_y r2.1 o92 w) r2.2.1 (by omega)
      refine ⟨D2, ?_, Ofq_t r2.1 u2, u3, fun x x0 x1 => ?_, u5⟩
      · rw [e1] at r1
        rw [← u1, ← r1, b_X12_comesTo_38]
        simp only [z_cd, i10, i11, dnn, rdU, eW, eU, tzC_w, w_shp, w_ptr, Nat.beq_refl, nbz, nb133, nb75, nb55, nb67, n133a, n133b, n75a, n75b, aT, aR, oT, oR, oF, oG, kT, kF, bI, bL, bR, b0, Classical.not_not, not_true_eq_false, not_false_eq_true, and_self, and_true, true_and, ↓reduceIte, decide_true, decide_false, Nat.reduceEqDiff, Nat.reduceLT, Nat.reduceLeDiff, Int.reduceEq]
      · have t1 := r2.2.2.1 x x0 x1
        have t2 := u4 x x0 x1
        omega
set_option maxRecDepth 100000 in
set_option maxHeartbeats 400000 in
theorem q_c3 (d L n : Nat) (a s b : Int) : ∀ (j : Nat) (y : Int) (D : Nat → Int → Int), 0 ≤ y → y + j = 8 →
    ∃ D', tqrun tqP (d + 2) tqc_X12_comesTo 3 [vR 81, vI a, vI s, vI b, vI y, vU, vU, vU] [] (tzW D L n) = tqrun tqP (d + 2) tqc_X12_comesTo 38 [vR 81, vU, vU, vI b, vI 1, vU, vU, vU] [] (tzW D' L n) ∧ Ofq 92 D D' ∧ ∀ w : Int, D' 92 w = if y ≤ w ∧ w < 8 then (if w = a then s else 100000000) else D 92 w
  | 0, y, D, y0, yj => by
    refine ⟨D, ?_, Ofq_r 92 D, fun w => ?_⟩
    · have c : 8 ≤ y := by omega
      rw [b_X12_comesTo_3]
      simp only [z_cd, i10, i11, dnn, rdU, eW, eU, tzC_w, w_shp, w_ptr, Nat.beq_refl, nbz, nb133, nb75, nb55, nb67, n133a, n133b, n75a, n75b, aT, aR, oT, oR, oF, oG, kT, kF, bI, bL, bR, b0, Classical.not_not, not_true_eq_false, not_false_eq_true, and_self, and_true, true_and, ↓reduceIte, decide_true, decide_false, Nat.reduceEqDiff, Nat.reduceLT, Nat.reduceLeDiff, Int.reduceEq, c]
    · rw [if_neg (by omega)]
  | j + 1, y, D, y0, yj => by
    have c : ¬ 8 ≤ y := by omega
    have hb2 : tqib y 8 = true := tqib_y (by omega) (by omega)
    obtain ⟨D', r1, r2, r3⟩ := q_c3 d L n a s b j (y + 1) (tzU D 92 y (if y = a then s else 100000000)) (by omega) (by omega)
    refine ⟨D', ?_, Ofq_t (Ofq_U _ _ _ _) r2, fun w => ?_⟩
    · have e2 := w1z y0 (by omega)
      by_cases q : y = a
      · have q' : (y = a) = True := eq_true q
        rw [if_pos q] at r1
        rw [← r1, b_X12_comesTo_3]
        simp only [z_cd, i10, i11, dnn, rdU, eW, eU, tzC_w, w_shp, w_ptr, Nat.beq_refl, nbz, nb133, nb75, nb55, nb67, n133a, n133b, n75a, n75b, aT, aR, oT, oR, oF, oG, kT, kF, bI, bL, bR, b0, Classical.not_not, not_true_eq_false, not_false_eq_true, and_self, and_true, true_and, ↓reduceIte, decide_true, decide_false, Nat.reduceEqDiff, Nat.reduceLT, Nat.reduceLeDiff, Int.reduceEq, c, hb2, e2, q']
      · rw [if_neg q] at r1
        rw [← r1, b_X12_comesTo_3]
        simp only [z_cd, i10, i11, dnn, rdU, eW, eU, tzC_w, w_shp, w_ptr, Nat.beq_refl, nbz, nb133, nb75, nb55, nb67, n133a, n133b, n75a, n75b, aT, aR, oT, oR, oF, oG, kT, kF, bI, bL, bR, b0, Classical.not_not, not_true_eq_false, not_false_eq_true, and_self, and_true, true_and, ↓reduceIte, decide_true, decide_false, Nat.reduceEqDiff, Nat.reduceLT, Nat.reduceLeDiff, Int.reduceEq, c, hb2, e2, q]
    · rw [r3]
      by_cases e : w = y
      · rw [if_neg (show ¬ (y + 1 ≤ w ∧ w < 8) by omega), if_pos (show y ≤ w ∧ w < 8 by omega), e, tzU_s]
      · rw [tzU_k _ _ _ _ e]
        by_cases q : y + 1 ≤ w ∧ w < 8
        · rw [if_pos q, if_pos (show y ≤ w ∧ w < 8 by omega)]
        · rw [if_neg q, if_neg (show ¬ (y ≤ w ∧ w < 8) by omega)]
/-- the reference's never -/
def nv (x : Int) : Int := if x = 2147483647 then 100000000 else x
theorem th_er {D : Nat → Int → Int} {bt a s y v : Int} (y0 : 0 ≤ y) (y1 : y < 8) (h : Snd D bt a s) (low : ∀ w : Int, Wk D bt a s 8 y w → D 92 y ≤ w) (hv : v ≤ 90000000 ∨ v = 2147483647) (g : IsL D bt a s y v) : D 92 y = nv v := by
  unfold nv
  rcases g with ⟨g1, g2⟩ | ⟨g1, g2, g3⟩
  · rw [if_pos g1]
    rcases h y y0 y1 with q | ⟨_, k, q⟩
    · exact q
    · exact absurd q (g2 k _)
  · rw [if_neg (by omega)]
    have t := low v g2
    rcases h y y0 y1 with q | ⟨_, k, q⟩
    · omega
    · have := g3 k _ q; omega
theorem cl_lowb {D : Nat → Int → Int} {bt a s : Int} (w : WY D) (s1 : s ≤ 10000000) (f : Int → Int) (h0 : f a ≤ s)
    (hc : ∀ y z : Int, 0 ≤ y → y < 8 → 0 ≤ z → z < 8 → f y < 100000000 → 0 < D 88 (8 * y + z) → f z ≤ nxq D bt (8 * y + z) (f y)) :
    ∀ (k : Nat) (y v : Int), k ≤ 8 → 0 ≤ y → y < 8 → Wk D bt a s k y v → f y ≤ v
  | 0, y, v, _, _, _, h => by rw [h.1, h.2]; exact h0
  | k + 1, y, v, hk, y0, y1, h => by
    rcases h with h | ⟨x, u, x0, x1, h, m, e⟩
    · exact cl_lowb w s1 f h0 hc k y v (by omega) y0 y1 h
    · have h1 := cl_lowb w s1 f h0 hc k x u (by omega) x0 x1 h
      have h4 := Wk_le w k x u x0 x1 h
      have h2 := hc x y x0 x1 y0 y1 (by omega) m
      have h3 := nx_mono (D := D) bt (8 * x + y) h1
      omega
set_option maxRecDepth 100000 in
set_option maxHeartbeats 400000 in
theorem q_comesTo (d L n : Nat) (D : Nat → Int → Int) {a s b : Int} (a0 : 0 ≤ a) (a1 : a < 8) (s0 : 0 ≤ s) (s1 : s ≤ 10000000) (b0 : 0 ≤ b) (b1 : b < 8) (w : WY D) (hd : ∀ y : Int, 0 ≤ y → y < 8 → D 88 (9 * y) = 0) :
    ∃ D', tqden tqP (d + 2) n_X12_comesTo [vR 81, vI a, vI s, vI b] (tzW D L n) = some (some (vI (nv (erq D 0 a s b))), tzW D' L n) ∧ Ofq 92 D D' := by
  obtain ⟨D1, r1, r2, r3⟩ := q_c3 d L n a s b 8 0 D (by omega) (by omega)
  have sn : Snd D1 0 a s := by
    intro y y0 y1
    rw [r3 y, if_pos ⟨y0, y1⟩]
    by_cases e : y = a
    · rw [if_pos e]; exact Or.inr ⟨by omega, 0, e, rfl⟩
    · rw [if_neg e]; exact Or.inl rfl
  have w1 := Ofq_y r2 o92 w
  obtain ⟨D2, u1, u2, u3, u4, u5⟩ := q_c38 d L n b0 b1 (a := a) s0 (sm8 D1).toNat D1 w1 sn (by have := sm8_g w1 s0 sn; omega)
  have of := Ofq_t r2 u2
  refine ⟨D2, ?_, of⟩
  have low := cl_lowb (D := D2) (bt := 0) (a := a) (s := s) (Ofq_y of o92 w) s1 (D2 92) (by
    have t := u4 a a0 a1
    rw [r3 a, if_pos ⟨a0, a1⟩, if_pos rfl] at t
    exact t) (fun y z y0 y1 z0 z1 f m => by
    have cl := u5 y z y0 y1 z0 z1
    unfold Cl at cl
    by_cases q : D2 92 z ≤ nxq D2 0 (8 * y + z) (D2 92 y)
    · exact q
    · exact absurd ⟨m, f, by omega⟩ cl)
  have g := er_ok w hd (Or.inl rfl) a0 a1 s0 s1 b0 b1
  have gb := er_b w b0 b1 g
  have fin := th_er b0 b1 u3 (fun v q => low 8 b v (by omega) b0 b1 q) (by omega) (IsL_fr (Ofq_w (fun b j q => (of b j q).symm) o92) g)
  rw [dn_X12_comesTo, b_X12_comesTo_0, r1, u1, fin]
