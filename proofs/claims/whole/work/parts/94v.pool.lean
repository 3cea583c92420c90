/-! ===== pool: the class's nearest one, what is brought on a path, what lacks ===== -/
/-- the nearest of those that lack, of the first y -/
def Nrq (o NV : Int) (lk far : Int → Int) (y best : Int) : Prop := (best = -9 ∧ ∀ b : Int, 0 ≤ b → b < y → 0 < lk b → far (o + b) = NV) ∨ ((o ≤ best ∧ best < o + y) ∧ 0 < lk (best - o) ∧ far best ≠ NV ∧ ∀ b : Int, 0 ≤ b → b < y → 0 < lk b → far (o + b) ≠ NV → far best ≤ far (o + b))
theorem Nr_n {o NV : Int} {lk far : Int → Int} {y best : Int} (h : Nrq o NV lk far y best) (c : lk y ≤ 0 ∨ far (o + y) = NV) : Nrq o NV lk far (y + 1) best := by
  rcases h with ⟨h1, h2⟩ | ⟨h1, h2, h3, h4⟩
  · refine Or.inl ⟨h1, fun b p q r => ?_⟩
    by_cases e : b = y
    · rw [e] at r ⊢
      rcases c with c | c
      · omega
      · exact c
    · exact h2 b p (by omega) r
  · refine Or.inr ⟨⟨h1.1, by omega⟩, h2, h3, fun b p q r f => ?_⟩
    by_cases e : b = y
    · rw [e] at r f
      rcases c with c | c
      · omega
      · exact absurd c f
    · exact h4 b p (by omega) r f
theorem Nr_s {o NV : Int} {lk far : Int → Int} {y best : Int} (h : Nrq o NV lk far y best) (n9 : best ≠ -9) (c : far best ≤ far (o + y)) : Nrq o NV lk far (y + 1) best := by
  rcases h with ⟨h1, h2⟩ | ⟨h1, h2, h3, h4⟩
  · exact absurd h1 n9
  · refine Or.inr ⟨⟨h1.1, by omega⟩, h2, h3, fun b p q r f => ?_⟩
    by_cases e : b = y
    · rw [e]; exact c
    · exact h4 b p (by omega) r f
theorem Nr_y {o NV : Int} {lk far : Int → Int} {y best : Int} (y0 : 0 ≤ y) (o0 : 0 ≤ o) (h : Nrq o NV lk far y best) (a : 0 < lk y) (f : far (o + y) ≠ NV) (c : best = -9 ∨ far (o + y) ≤ far best) : Nrq o NV lk far (y + 1) (o + y) := by
  refine Or.inr ⟨⟨by omega, by omega⟩, by rw [show o + y - o = y by omega]; exact a, f, fun b p q r g => ?_⟩
  by_cases e : b = y
  · rw [e]; exact Int.le_refl _
  · rcases h with ⟨h1, h2⟩ | ⟨h1, h2, h3, h4⟩
    · exact absurd (h2 b p (by omega) r) g
    · have k := h4 b p (by omega) r g
      rcases c with c | c
      · omega
      · omega
set_option maxRecDepth 100000 in
set_option maxHeartbeats 1000000 in
theorem p_nr5 (d L n : Nat) (D : Nat → Int → Int) : ∀ (j : Nat) (y best : Int), 0 ≤ y → y + j = 8 → Nrq 0 2147483647 (D 43) (D 47) y best → ∃ r, tqrun tqP (d + 1) tqc_X3_nearestLacking 5 [vR 41, vI best, vI y] [] (tzW D L n) = some (some (vI r), tzW D L n) ∧ Nrq 0 2147483647 (D 43) (D 47) 8 r
  | 0, y, best, y0, yj, h => by
    have c : 8 ≤ y := by omega
    have e : y = 8 := by omega
    rw [e] at h
    refine ⟨best, ?_, h⟩
    rw [b_X3_nearestLacking_5]
    simp only [z_cd, i10, i11, dnn, rdU, eW, eU, tzC_w, w_shp, w_ptr, Nat.beq_refl, nbz, nb133, nb75, nb55, nb67, n133a, n133b, n75a, n75b, aT, aR, oT, oR, oF, oG, kT, kF, bI, bL, bR, b0, Classical.not_not, not_true_eq_false, not_false_eq_true, and_self, and_true, true_and, ↓reduceIte, decide_true, decide_false, Nat.reduceEqDiff, Nat.reduceLT, Nat.reduceLeDiff, Int.reduceEq, c]
  | j + 1, y, best, y0, yj, h => by
    have c : ¬ 8 ≤ y := by omega
    have hy : tqib y 8 = true := tqib_y y0 (by omega)
    have z0 : (0 : Int) + y = y := by omega
    by_cases c1 : D 43 y ≤ 0
    · obtain ⟨r, r1, r2⟩ := p_nr5 d L n D j (y + 1) best (by omega) (by omega) (Nr_n h (Or.inl c1))
      refine ⟨r, ?_, r2⟩
      have e1 := w1z y0 (by omega)
      rw [← r1, b_X3_nearestLacking_5]
      simp only [z_cd, i10, i11, dnn, rdU, eW, eU, tzC_w, w_shp, w_ptr, Nat.beq_refl, nbz, nb133, nb75, nb55, nb67, n133a, n133b, n75a, n75b, aT, aR, oT, oR, oF, oG, kT, kF, bI, bL, bR, b0, Classical.not_not, not_true_eq_false, not_false_eq_true, and_self, and_true, true_and, ↓reduceIte, decide_true, decide_false, Nat.reduceEqDiff, Nat.reduceLT, Nat.reduceLeDiff, Int.reduceEq, c, hy, c1, e1]
    · by_cases c2 : D 47 y = 2147483647
      · obtain ⟨r, r1, r2⟩ := p_nr5 d L n D j (y + 1) best (by omega) (by omega) (Nr_n h (Or.inr (by rw [z0]; exact c2)))
        refine ⟨r, ?_, r2⟩
        have e1 := w1z y0 (by omega)
        rw [← r1, b_X3_nearestLacking_5]
        simp only [z_cd, i10, i11, dnn, rdU, eW, eU, tzC_w, w_shp, w_ptr, Nat.beq_refl, nbz, nb133, nb75, nb55, nb67, n133a, n133b, n75a, n75b, aT, aR, oT, oR, oF, oG, kT, kF, bI, bL, bR, b0, Classical.not_not, not_true_eq_false, not_false_eq_true, and_self, and_true, true_and, ↓reduceIte, decide_true, decide_false, Nat.reduceEqDiff, Nat.reduceLT, Nat.reduceLeDiff, Int.reduceEq, c, hy, c1, c2, e1]
      · by_cases c3 : best = -9
        · have k := Nr_y y0 (Int.le_refl 0) h (by omega) (by rw [z0]; exact c2) (Or.inl c3)
          rw [z0] at k
          obtain ⟨r, r1, r2⟩ := p_nr5 d L n D j (y + 1) y (by omega) (by omega) k
          refine ⟨r, ?_, r2⟩
          have e1 := w1z y0 (by omega)
          rw [← r1, b_X3_nearestLacking_5]
          simp only [z_cd, i10, i11, dnn, rdU, eW, eU, tzC_w, w_shp, w_ptr, Nat.beq_refl, nbz, nb133, nb75, nb55, nb67, n133a, n133b, n75a, n75b, aT, aR, oT, oR, oF, oG, kT, kF, bI, bL, bR, b0, Classical.not_not, not_true_eq_false, not_false_eq_true, and_self, and_true, true_and, ↓reduceIte, decide_true, decide_false, Nat.reduceEqDiff, Nat.reduceLT, Nat.reduceLeDiff, Int.reduceEq, c, hy, c1, c2, c3, e1]
        · have hbest : tqib best 8 = true := by
            rcases h with ⟨h1, _⟩ | ⟨h1, _⟩
            · exact absurd h1 c3
            · exact tqib_y (by omega) (by omega)
          by_cases c4 : D 47 best ≤ D 47 y
          · obtain ⟨r, r1, r2⟩ := p_nr5 d L n D j (y + 1) best (by omega) (by omega) (Nr_s h c3 (by rw [z0]; exact c4))
            refine ⟨r, ?_, r2⟩
            have e1 := w1z y0 (by omega)
            rw [← r1, b_X3_nearestLacking_5]
            simp only [z_cd, i10, i11, dnn, rdU, eW, eU, tzC_w, w_shp, w_ptr, Nat.beq_refl, nbz, nb133, nb75, nb55, nb67, n133a, n133b, n75a, n75b, aT, aR, oT, oR, oF, oG, kT, kF, bI, bL, bR, b0, Classical.not_not, not_true_eq_false, not_false_eq_true, and_self, and_true, true_and, ↓reduceIte, decide_true, decide_false, Nat.reduceEqDiff, Nat.reduceLT, Nat.reduceLeDiff, Int.reduceEq, c, hy, c1, c2, c3, hbest, c4, e1]
          · have k := Nr_y y0 (Int.le_refl 0) h (by omega) (by rw [z0]; exact c2) (Or.inr (by rw [z0]; omega))
            rw [z0] at k
            obtain ⟨r, r1, r2⟩ := p_nr5 d L n D j (y + 1) y (by omega) (by omega) k
            refine ⟨r, ?_, r2⟩
            have e1 := w1z y0 (by omega)
            rw [← r1, b_X3_nearestLacking_5]
            simp only [z_cd, i10, i11, dnn, rdU, eW, eU, tzC_w, w_shp, w_ptr, Nat.beq_refl, nbz, nb133, nb75, nb55, nb67, n133a, n133b, n75a, n75b, aT, aR, oT, oR, oF, oG, kT, kF, bI, bL, bR, b0, Classical.not_not, not_true_eq_false, not_false_eq_true, and_self, and_true, true_and, ↓reduceIte, decide_true, decide_false, Nat.reduceEqDiff, Nat.reduceLT, Nat.reduceLeDiff, Int.reduceEq, c, hy, c1, c2, c3, hbest, c4, e1]
theorem p_nearL (d L n : Nat) (D : Nat → Int → Int) : ∃ r, tqden tqP (d + 1) n_X3_nearestLacking [vR 41] (tzW D L n) = some (some (vI r), tzW D L n) ∧ Nrq 0 2147483647 (D 43) (D 47) 8 r := by
  obtain ⟨r, r1, r2⟩ := p_nr5 d L n D 8 0 (-9) (by omega) (by omega) (Or.inl ⟨rfl, fun b p q => by omega⟩)
  refine ⟨r, ?_, r2⟩
  rw [dn_X3_nearestLacking, b_X3_nearestLacking_0]
  exact r1
def prq (f : Int → Int) : Nat → Int
  | 0 => 0
  | k + 1 => prq f k + f (k : Int)
theorem pr_8 (f : Int → Int) : prq f 8 = zs8 f := by
  show 0 + f 0 + f 1 + f 2 + f 3 + f 4 + f 5 + f 6 + f 7 = f 0 + f 1 + f 2 + f 3 + f 4 + f 5 + f 6 + f 7
  omega
theorem pr_b {f : Int → Int} (h : ∀ i : Int, 0 ≤ i → i < 8 → 0 ≤ f i ∧ f i ≤ 30) : ∀ k : Nat, k ≤ 8 → 0 ≤ prq f k ∧ prq f k ≤ 30 * k
  | 0, _ => ⟨Int.le_refl _, Int.le_refl _⟩
  | k + 1, hk => by
    have r := pr_b h k (by omega)
    have q := h (k : Int) (by omega) (by omega)
    show 0 ≤ prq f k + f (k : Int) ∧ prq f k + f (k : Int) ≤ 30 * ((k + 1 : Nat) : Int)
    omega
set_option maxRecDepth 100000 in
set_option maxHeartbeats 1000000 in
theorem p_lk4 (d L n : Nat) (D : Nat → Int → Int) (h : ∀ i : Int, 0 ≤ i → i < 8 → 0 ≤ D 43 i ∧ D 43 i ≤ 30) : ∀ (j k : Nat), k + j = 8 → tqrun tqP (d + 1) tqc_X3_lack 4 [vR 41, vI (prq (D 43) k), vI (k : Int)] [] (tzW D L n) = some (some (vI (zs8 (D 43))), tzW D L n)
  | 0, k, kj => by
    have e : k = 8 := by omega
    subst e
    have c : (8 : Int) ≤ ((8 : Nat) : Int) := by decide
    rw [b_X3_lack_4, pr_8]
    simp only [z_cd, i10, i11, dnn, rdU, eW, eU, tzC_w, w_shp, w_ptr, Nat.beq_refl, nbz, nb133, nb75, nb55, nb67, n133a, n133b, n75a, n75b, aT, aR, oT, oR, oF, oG, kT, kF, bI, bL, bR, b0, Classical.not_not, not_true_eq_false, not_false_eq_true, and_self, and_true, true_and, ↓reduceIte, decide_true, decide_false, Nat.reduceEqDiff, Nat.reduceLT, Nat.reduceLeDiff, Int.reduceEq, c]
  | j + 1, k, kj => by
    have c : ¬ (8 : Int) ≤ (k : Int) := by omega
    have hy : tqib (k : Int) 8 = true := tqib_y (by omega) (by omega)
    have r := p_lk4 d L n D h j (k + 1) (by omega)
    have b1 := pr_b h (k + 1) (by omega)
    have e2 : w32 (prq (D 43) k + D 43 (k : Int)) = prq (D 43) (k + 1) := w32_i (x := prq (D 43) (k + 1)) (by omega) (by omega)
    have e1 := w32_s k (by clear e2; omega)
    rw [← r, b_X3_lack_4]
    simp only [z_cd, i10, i11, dnn, rdU, eW, eU, tzC_w, w_shp, w_ptr, Nat.beq_refl, nbz, nb133, nb75, nb55, nb67, n133a, n133b, n75a, n75b, aT, aR, oT, oR, oF, oG, kT, kF, bI, bL, bR, b0, Classical.not_not, not_true_eq_false, not_false_eq_true, and_self, and_true, true_and, ↓reduceIte, decide_true, decide_false, Nat.reduceEqDiff, Nat.reduceLT, Nat.reduceLeDiff, Int.reduceEq, c, hy, e1, e2]
theorem p_lack (d L n : Nat) (D : Nat → Int → Int) (h : ∀ i : Int, 0 ≤ i → i < 8 → 0 ≤ D 43 i ∧ D 43 i ≤ 30) : tqden tqP (d + 1) n_X3_lack [vR 41] (tzW D L n) = some (some (vI (zs8 (D 43))), tzW D L n) := by
  rw [dn_X3_lack, b_X3_lack_0]
  exact p_lk4 d L n D h 8 0 (by omega)
theorem tzU_f (D : Nat → Int → Int) {a b : Nat} (j x : Int) (h : b ≠ a) : tzU D a j x b = D b := by
  funext k; exact tzU_o _ _ _ _ h
theorem jmin_c (x y : Int) : jmin x y ≤ x ∧ jmin x y ≤ y ∧ (jmin x y = x ∨ jmin x y = y) := by
  unfold jmin
  by_cases c : y < x
  · rw [if_pos c]; omega
  · rw [if_neg c]; omega
set_option maxRecDepth 100000 in
set_option maxHeartbeats 1000000 in
theorem p_b12 (d L n : Nat) {isB : Int → Bool} {E : Int → Prop} {C : Int → Int} {Rt : Int → Prop} {l : Int → Int} (N : Neq 0 isB E C) (D : Nat → Int → Int) (hL : ∀ y : Int, 0 ≤ y → y < 8 → D 44 y = if isB y = true then 1 else 0) (bf : Bfq 8 2147483647 (Arq 0 E C (D 46)) Rt l (D 47) (D 48)) (to : Int) : ∀ (j : Nat) (y v : Int) (st : Nat), Cnq (D 48) j y → 0 ≤ y → y < 8 → D 47 y ≠ 2147483647 → st + j ≤ 7 → 1 ≤ v →
    ∃ v' s', tqrun tqP (d + 1) tqc_X3_bring 12 [vR 41, vI to, vI v, vI y, vI (st : Int)] [] (tzW D L n) = tqrun tqP (d + 1) tqc_X3_bring 73 [vR 41, vI to, vI v', vI (rtq (D 48) j y), vI s'] [] (tzW D L n) ∧ 1 ≤ v' ∧ v' ≤ v ∧ boq 0 isB (D 46) (D 48) v' j y
  | 0, y, v, st, cn, y0, y1, f, sj, v1 => by
    have c : ¬ (8 : Int) ≤ (st : Int) := by omega
    have hy : tqib y 8 = true := tqib_y y0 (by omega)
    have e : D 48 y = -9 := cn
    refine ⟨v, st, ?_, v1, Int.le_refl _, trivial⟩
    rw [b_X3_bring_12]
    simp only [z_cd, i10, i11, dnn, rdU, eW, eU, tzC_w, w_shp, w_ptr, Nat.beq_refl, nbz, nb133, nb75, nb55, nb67, n133a, n133b, n75a, n75b, aT, aR, oT, oR, oF, oG, kT, kF, bI, bL, bR, b0, Classical.not_not, not_true_eq_false, not_false_eq_true, and_self, and_true, true_and, ↓reduceIte, decide_true, decide_false, Nat.reduceEqDiff, Nat.reduceLT, Nat.reduceLeDiff, Int.reduceEq, c, hy, e]
    rfl
  | j + 1, y, v, st, cn, y0, y1, f, sj, v1 => by
    have c : ¬ (8 : Int) ≤ (st : Int) := by omega
    have hy : tqib y 8 = true := tqib_y y0 (by omega)
    obtain ⟨n9, cn2⟩ := cn
    obtain ⟨⟨u0, u1⟩, fu, w, ar, _⟩ := bf.2.2.2.2.1 y y0 y1 f n9
    have l44 := hL y y0 y1
    have e1 := w32_s st (by omega)
    cases hb : isB y with
    | true =>
      rw [hb, if_pos rfl] at l44
      have l1 : ¬ D 44 y = 0 := by rw [l44]; decide
      obtain ⟨v', s', r1, r2, r3, r4⟩ := p_b12 d L n N D hL bf to j (D 48 y) v (st + 1) cn2 u0 u1 fu (by clear e1; omega) v1
      refine ⟨v', s', ?_, r2, r3, fun t => ?_, r4⟩
      · rw [b_X3_bring_12]
        simp only [z_cd, i10, i11, dnn, rdU, eW, eU, tzC_w, w_shp, w_ptr, Nat.beq_refl, nbz, nb133, nb75, nb55, nb67, n133a, n133b, n75a, n75b, aT, aR, oT, oR, oF, oG, kT, kF, bI, bL, bR, b0, Classical.not_not, not_true_eq_false, not_false_eq_true, and_self, and_true, true_and, ↓reduceIte, decide_true, decide_false, Nat.reduceEqDiff, Nat.reduceLT, Nat.reduceLeDiff, Int.reduceEq, c, hy, n9, l1, e1]
        exact r1
      · rw [hb] at t; exact absurd t (by decide)
    | false =>
      rw [hb, if_neg (by decide)] at l44
      have ub : D 48 y < 8 := u1
      have hk : tqib (8 * y + D 48 y) 64 = true := tqib_y (by clear e1; omega) (by clear e1; omega)
      have xk : 1 ≤ D 46 (8 * y + D 48 y) := by
        obtain ⟨a, b, ⟨⟨a0, a1⟩, z0, z1⟩, e, k⟩ := ar
        have nb := N.2 a b a0 a1 z0 z1 e
        rcases k with ⟨k1, k2, _⟩ | ⟨k1, k2, _, k4⟩
        · rw [← k2, hb] at nb
          exact absurd nb.2.1 (by decide)
        · rw [k1, k2, Int.zero_add]
          clear e1; omega
      have mn := jmin_c v (D 46 (8 * y + D 48 y))
      obtain ⟨v', s', r1, r2, r3, r4⟩ := p_b12 d L n N D hL bf to j (D 48 y) (jmin v (D 46 (8 * y + D 48 y))) (st + 1) cn2 u0 u1 fu (by clear e1; omega) (by clear e1; omega)
      refine ⟨v', s', ?_, r2, by clear e1; omega, fun t => ?_, r4⟩
      · have e2 := w8y y0 y1 u0 u1
        rw [b_X3_bring_12]
        simp only [z_cd, i10, i11, dnn, rdU, eW, eU, tzC_w, w_shp, w_ptr, Nat.beq_refl, nbz, nb133, nb75, nb55, nb67, n133a, n133b, n75a, n75b, aT, aR, oT, oR, oF, oG, kT, kF, bI, bL, bR, b0, Classical.not_not, not_true_eq_false, not_false_eq_true, and_self, and_true, true_and, ↓reduceIte, decide_true, decide_false, Nat.reduceEqDiff, Nat.reduceLT, Nat.reduceLeDiff, Int.reduceEq, c, hy, n9, l44, e1, e2, hk]
        exact r1
      · have ek : kq 0 isB y (D 48 y) = 8 * y + D 48 y := (if_neg (by rw [hb]; decide)).trans (by clear e1; omega)
        rw [ek]
        clear e1; omega
set_option maxRecDepth 100000 in
set_option maxHeartbeats 1000000 in
theorem p_b126 (d L n : Nat) {isB : Int → Bool} {E : Int → Prop} {C x0 V F : Int → Int} {Rt : Int → Prop} {l : Int → Int} (bf : Bfq 8 2147483647 (Arq 0 E C x0) Rt l F V) {many : Int} (m1 : 1 ≤ many) (m2 : many ≤ 30) : ∀ (j : Nat) (y : Int) (st : Nat) (D : Nat → Int → Int), (∀ y : Int, 0 ≤ y → y < 8 → D 44 y = if isB y = true then 1 else 0) → D 48 = V → Cnq V j y → 0 ≤ y → y < 8 → F y ≠ 2147483647 → st + j ≤ 7 → (∀ k : Int, 0 ≤ k → k < 64 → -(30 * ((st : Int) + 1)) ≤ D 46 k ∧ D 46 k ≤ 30 * ((st : Int) + 1)) →
    ∃ D', tqrun tqP (d + 1) tqc_X3_bring 126 [vR 41, vU, vI many, vI y, vI (st : Int)] [] (tzW D L n) = some (none, tzW D' L n) ∧ Ofq 46 D D' ∧ D' 46 = agq 0 isB many V j y (D 46)
  | 0, y, st, D, hL, hV, cn, y0, y1, f, sj, bd => by
    have c : ¬ (8 : Int) ≤ (st : Int) := by omega
    have hy : tqib y 8 = true := tqib_y y0 (by omega)
    have e : D 48 y = -9 := by rw [hV]; exact cn
    refine ⟨D, ?_, Ofq_r _ _, rfl⟩
    rw [b_X3_bring_126]
    simp only [z_cd, i10, i11, dnn, rdU, eW, eU, tzC_w, w_shp, w_ptr, Nat.beq_refl, nbz, nb133, nb75, nb55, nb67, n133a, n133b, n75a, n75b, aT, aR, oT, oR, oF, oG, kT, kF, bI, bL, bR, b0, Classical.not_not, not_true_eq_false, not_false_eq_true, and_self, and_true, true_and, ↓reduceIte, decide_true, decide_false, Nat.reduceEqDiff, Nat.reduceLT, Nat.reduceLeDiff, Int.reduceEq, c, hy, e]
  | j + 1, y, st, D, hL, hV, cn, y0, y1, f, sj, bd => by
    have c : ¬ (8 : Int) ≤ (st : Int) := by omega
    have hy : tqib y 8 = true := tqib_y y0 (by omega)
    obtain ⟨n9, cn2⟩ := cn
    obtain ⟨⟨u0, u1⟩, fu, _⟩ := bf.2.2.2.2.1 y y0 y1 f n9
    obtain ⟨u, hu⟩ : ∃ u, u = V y := ⟨_, rfl⟩
    have eu : D 48 y = u := by rw [hV, hu]
    rw [← hu] at u0 u1 fu cn2 n9
    have l44 := hL y y0 y1
    cases hb : isB y with
    | true =>
      rw [hb, if_pos rfl] at l44
      have l1 : ¬ D 44 y = 0 := by rw [l44]; decide
      have hk : tqib (8 * u + y) 64 = true := tqib_y (by omega) (by omega)
      have ek : kq 0 isB y u = 8 * u + y := (if_pos hb).trans (by omega)
      have bk := bd (8 * u + y) (by omega) (by omega)
      have ag : agq 0 isB many V (j + 1) y (D 46) = agq 0 isB many V j u (upq (D 46) (8 * u + y) (D 46 (8 * u + y) + many)) := by
        show agq 0 isB many V j (V y) (upq (D 46) (kq 0 isB y (V y)) (if isB y = true then D 46 (kq 0 isB y (V y)) + many else D 46 (kq 0 isB y (V y)) - many)) = _
        rw [← hu, ek, if_pos hb]
      obtain ⟨D', r1, r2, r3⟩ := p_b126 d L n bf m1 m2 j u (st + 1) (tzU D 46 (8 * u + y) (D 46 (8 * u + y) + many)) (fun z z0 z1 => by rw [tzU_o _ _ _ _ (by decide)]; exact hL z z0 z1) (by rw [tzU_f _ _ _ (by decide)]; exact hV) cn2 u0 u1 fu (by omega) (fun k k0 k1 => by
        have q := bd k k0 k1
        by_cases e : k = 8 * u + y
        · rw [e, tzU_s]; omega
        · rw [tzU_k _ _ _ _ e]; omega)
      rw [tzU_q] at r3
      refine ⟨D', ?_, Ofq_t (Ofq_U _ _ _ _) r2, by rw [r3, ag]⟩
      have e3 : w32 (D 46 (8 * u + y) + many) = D 46 (8 * u + y) + many := w32_i (by omega) (by omega)
      have e1 := w32_s st (by clear e3; omega)
      have e2 := w8y u0 u1 y0 y1
      have eu2 : tzU D 46 (8 * u + y) (D 46 (8 * u + y) + many) 48 y = u := by rw [tzU_o _ _ _ _ (by decide)]; exact eu
      rw [← r1, b_X3_bring_126]
      simp only [z_cd, i10, i11, dnn, rdU, eW, eU, tzC_w, w_shp, w_ptr, Nat.beq_refl, nbz, nb133, nb75, nb55, nb67, n133a, n133b, n75a, n75b, aT, aR, oT, oR, oF, oG, kT, kF, bI, bL, bR, b0, Classical.not_not, not_true_eq_false, not_false_eq_true, and_self, and_true, true_and, ↓reduceIte, decide_true, decide_false, Nat.reduceEqDiff, Nat.reduceLT, Nat.reduceLeDiff, Int.reduceEq, c, hy, eu, n9, l1, e1, e2, e3, hk]
    | false =>
      rw [hb, if_neg (by decide)] at l44
      have nb : ¬ isB y = true := by rw [hb]; decide
      have hk : tqib (8 * y + u) 64 = true := tqib_y (by omega) (by omega)
      have ek : kq 0 isB y u = 8 * y + u := (if_neg nb).trans (by omega)
      have bk := bd (8 * y + u) (by omega) (by omega)
      have ag : agq 0 isB many V (j + 1) y (D 46) = agq 0 isB many V j u (upq (D 46) (8 * y + u) (D 46 (8 * y + u) - many)) := by
        show agq 0 isB many V j (V y) (upq (D 46) (kq 0 isB y (V y)) (if isB y = true then D 46 (kq 0 isB y (V y)) + many else D 46 (kq 0 isB y (V y)) - many)) = _
        rw [← hu, ek, if_neg nb]
      obtain ⟨D', r1, r2, r3⟩ := p_b126 d L n bf m1 m2 j u (st + 1) (tzU D 46 (8 * y + u) (D 46 (8 * y + u) - many)) (fun z z0 z1 => by rw [tzU_o _ _ _ _ (by decide)]; exact hL z z0 z1) (by rw [tzU_f _ _ _ (by decide)]; exact hV) cn2 u0 u1 fu (by omega) (fun k k0 k1 => by
        have q := bd k k0 k1
        by_cases e : k = 8 * y + u
        · rw [e, tzU_s]; omega
        · rw [tzU_k _ _ _ _ e]; omega)
      rw [tzU_q] at r3
      refine ⟨D', ?_, Ofq_t (Ofq_U _ _ _ _) r2, by rw [r3, ag]⟩
      have e3 : w32 (D 46 (8 * y + u) - many) = D 46 (8 * y + u) - many := w32_i (by omega) (by omega)
      have e1 := w32_s st (by clear e3; omega)
      have e2 := w8y y0 y1 u0 u1
      rw [← r1, b_X3_bring_126]
      simp only [z_cd, i10, i11, dnn, rdU, eW, eU, tzC_w, w_shp, w_ptr, Nat.beq_refl, nbz, nb133, nb75, nb55, nb67, n133a, n133b, n75a, n75b, aT, aR, oT, oR, oF, oG, kT, kF, bI, bL, bR, b0, Classical.not_not, not_true_eq_false, not_false_eq_true, and_self, and_true, true_and, ↓reduceIte, decide_true, decide_false, Nat.reduceEqDiff, Nat.reduceLT, Nat.reduceLeDiff, Int.reduceEq, c, hy, eu, n9, l44, e1, e2, e3, hk]
def Of8q (D D' : Nat → Int → Int) : Prop := ∀ (b : Nat) (j : Int), b ≠ 42 → b ≠ 43 → b ≠ 46 → b ≠ 47 → b ≠ 48 → ¬ (b = 41 ∧ j = 8) → D' b j = D b j
set_option maxRecDepth 100000 in
set_option maxHeartbeats 1000000 in
theorem p_bring (d L n : Nat) {isB : Int → Bool} {E : Int → Prop} {C s t l : Int → Int} {Dl : Int} (N : Neq 0 isB E C) (hs : ∀ a : Int, 0 ≤ a → a < 8 → s a ≤ 30 ∧ (0 < s a → isB a = false)) (ht : ∀ b : Int, 0 ≤ b → b < 8 → t b ≤ 30 ∧ (0 < t b → isB b = true)) (D : Nat → Int → Int) (hL : ∀ y : Int, 0 ≤ y → y < 8 → D 44 y = if isB y = true then 1 else 0) (fl : Flo E C s t (D 46) (D 42) (D 43) (D 41 8)) (la : Laq 0 E C t (D 46) (D 42) (D 43) l Dl) (bf : Bfq 8 2147483647 (Arq 0 E C (D 46)) (Rtq (D 42)) l (D 47) (D 48)) (fx : Fxq 2147483647 (Arq 0 E C (D 46)) (D 47)) {to : Int} (t0 : 0 ≤ to) (t1 : to < 8) (lt : 0 < D 43 to) (ft : D 47 to ≠ 2147483647) (mn : ∀ c : Int, 0 ≤ c → c < 8 → 0 < D 43 c → D 47 (0 + c) ≠ 2147483647 → D 47 to ≤ D 47 (0 + c)) :
    ∃ D' many, tqden tqP (d + 1) n_X3_bring [vR 41, vI to] (tzW D L n) = some (none, tzW D' L n) ∧ Of8q D D' ∧ Flo E C s t (D' 46) (D' 42) (D' 43) (D' 41 8) ∧ (∃ l' Dn, Dn ≤ 1000000000000 ∧ Laq 0 E C t (D' 46) (D' 42) (D' 43) l' Dn) ∧ 1 ≤ many ∧ zs8 (D' 43) = zs8 (D 43) - many := by
  have hR : ∀ v : Int, Rtq (D 42) v → isB v = false := fun v r => by
    have q := (fl.2.1 v r.1.1 r.1.2)
    have k : 0 ≤ rwq (D 46) v := zs_n (fun b p q => (fl.1 v b r.1.1 r.1.2 p q).1)
    have r2 := r.2
    exact (hs v r.1.1 r.1.2).2 (by omega)
  have q3 := fl.2.2.1 to t0 t1
  have k3 : 0 ≤ clq (D 46) to := zs_n (fun a p q => (fl.1 a to p q t0 t1).1)
  have h3 := ht to t0 t1
  have hbb : isB (0 + to) = true := by rw [Int.zero_add]; exact h3.2 (by omega)
  obtain ⟨j, cn⟩ := bf.2.2.1 to t0 t1 ft
  have jb := cn_b bf t0 t1 ft cn
  obtain ⟨v, s', r1, r2, r3, r4⟩ := p_b12 d L n N D hL bf to j to (D 43 to) 0 cn t0 t1 ft (by omega) (by omega)
  have io := it_ok bf j j to t0 t1 ft cn (Nat.le_refl _)
  have er : ∀ (i : Nat) (z : Int), itzq (D 48) i z = rtq (D 48) i z := by
    intro i
    induction i with
    | zero => intro z; rfl
    | succ i ih => intro z; exact ih (D 48 z)
  obtain ⟨r, hr⟩ : ∃ r, r = rtq (D 48) j to := ⟨_, rfl⟩
  rw [er, ← hr] at io
  obtain ⟨⟨i0, i1⟩, fr, k, k1, k2⟩ := io
  have ke : k = 0 := by omega
  rw [ke] at k2
  obtain ⟨rr, _⟩ := bf.2.2.2.1 r i0 i1 fr k2
  have rs := rr.2
  have mq := jmin_c v (D 42 r)
  obtain ⟨many, hm⟩ : ∃ many, many = jmin v (D 42 r) := ⟨_, rfl⟩
  rw [← hm] at mq
  have m1 : 1 ≤ many := by omega
  have m30 : many ≤ 30 := by omega
  have bo : boq 0 isB (D 46) (D 48) many j (0 + to) := by rw [Int.zero_add]; exact bo_m mq.1 j to r4
  have cn' : Cnq (D 48) j (0 + to) := by rw [Int.zero_add]; exact cn
  have st := st_step N (M := 8) (by decide) hR fl la bf fx t0 t1 lt hbb (by rw [Int.zero_add]; exact ft) (fun c p q a f => by rw [Int.zero_add]; exact mn c p q a f) cn' m1 (by omega) bo (by rw [Int.zero_add, ← hr]; exact mq.2.1)
  rw [Int.zero_add, ← hr] at st
  obtain ⟨g1, g2, l', g3⟩ := st
  have fb := bf.2.1 to t0 t1 ft
  have fb2 := fn_b 2147483647 (D 47) 8
  have l0 := la.2.2.1 to t0 (by omega)
  have cb := cs_b N fl
  have tt := tt_t fl
  have tl := lk_t fl
  have t8 : zs8 t ≤ zs8 (fun _ => 30) := zs_le (fun b p q => (ht b p q).1)
  have t9 : zs8 (fun _ => 30) = 240 := rfl
  have pb : 0 ≤ many * D 47 to ∧ many * D 47 to ≤ 30 * 130560 := by
    refine ⟨Int.mul_nonneg (by omega) (by omega), ?_⟩
    exact Int.mul_le_mul m30 (by omega) (by omega) (by omega)
  obtain ⟨X, hX⟩ : ∃ X, X = tzU (tzU (tzU D 42 r (D 42 r - many)) 43 to (D 43 to - many)) 41 8 (D 41 8 + many * D 47 to) := ⟨_, rfl⟩
  have Xo : ∀ (b : Nat) (i : Int), b ≠ 42 → b ≠ 43 → ¬ (b = 41 ∧ i = 8) → X b i = D b i := fun b i p q w => by
    rw [hX]
    by_cases e : b = 41
    · rw [tzU_k _ _ _ _ (fun h => w ⟨e, h⟩), tzU_o _ _ _ _ q, tzU_o _ _ _ _ p]
    · rw [tzU_o _ _ _ _ e, tzU_o _ _ _ _ q, tzU_o _ _ _ _ p]
  have Xf : ∀ b : Nat, b ≠ 41 → b ≠ 42 → b ≠ 43 → X b = D b := fun b p q w => by
    funext i
    exact Xo b i q w (fun h => p h.1)
  have x42 : X 42 = upq (D 42) r (D 42 r - many) := by
    rw [hX, tzU_f _ _ _ (by decide), tzU_f _ _ _ (by decide), tzU_q]
  have x43 : X 43 = upq (D 43) to (D 43 to - many) := by
    rw [hX, tzU_f _ _ _ (by decide), tzU_q, tzU_f _ _ _ (by decide)]
  have x41 : X 41 8 = D 41 8 + many * D 47 to := by rw [hX, tzU_s]
  have rw1 := fun (a b : Int) (p0 : 0 ≤ a) (p1 : a < 8) (p2 : 0 ≤ b) (p3 : b < 8) => rw_one fl p0 p1 p2 p3
  obtain ⟨D', u1, u2, u3⟩ := p_b126 d L n (isB := isB) bf m1 m30 j to 0 X (fun y y0 y1 => by rw [Xf 44 (by decide) (by decide) (by decide)]; exact hL y y0 y1) (Xf 48 (by decide) (by decide) (by decide)) cn t0 t1 ft (by omega) (fun k k0 k1 => by
    rw [Xf 46 (by decide) (by decide) (by decide)]
    have ek : 8 * (k / 8) + k % 8 = k := by omega
    have p := rw_one fl (a := k / 8) (b := k % 8) (by omega) (by omega) (by omega) (by omega)
    have q := (fl.1 (k / 8) (k % 8) (by omega) (by omega) (by omega) (by omega)).1
    have w := (hs (k / 8) (by omega) (by omega)).1
    rw [ek] at p q
    omega)
  rw [Xf 46 (by decide) (by decide) (by decide)] at u3
  have d42 : D' 42 = X 42 := by funext i; exact u2 42 i (by decide)
  have d43 : D' 43 = X 43 := by funext i; exact u2 43 i (by decide)
  have d41 : D' 41 8 = D 41 8 + many * D 47 to := (u2 41 8 (by decide)).trans x41
  refine ⟨D', many, ?_, fun b i p1 p2 p3 p4 p5 p6 => ?_, ?_, ⟨l', D 47 to, ?_, ?_⟩, m1, ?_⟩
  · have h8 : tqib to 8 = true := tqib_y t0 (by omega)
    have h9 : tqib r 8 = true := tqib_y i0 (by omega)
    have bm := bf.1 to t0 t1
    have v1 : w32 (D 42 r - many) = D 42 r - many := by
      have := hs r i0 i1
      have := fl.2.1 r i0 i1
      have : 0 ≤ rwq (D 46) r := zs_n (fun b p q => (fl.1 r b i0 i1 p q).1)
      exact w32_i (by omega) (by omega)
    have v2 : w32 (D 43 to - many) = D 43 to - many := w32_i (by clear v1; omega) (by clear v1; omega)
    have v3 : w32 (many * D 47 to) = many * D 47 to := w32_i (by clear v1 v2; omega) (by clear v1 v2; omega)
    have v4 : w32 (D 41 8 + many * D 47 to) = D 41 8 + many * D 47 to := w32_i (by clear v1 v2 v3; omega) (by clear v1 v2 v3; omega)
    rw [← hr] at r1
    rw [dn_X3_bring, b_X3_bring_0]
    have r1' : tqrun tqP (d + 1) tqc_X3_bring 12 [vR 41, vI to, vI (D 43 to), vI to, vI 0] [] (tzW D L n) = tqrun tqP (d + 1) tqc_X3_bring 73 [vR 41, vI to, vI v, vI r, vI s'] [] (tzW D L n) := r1
    simp only [z_cd, i10, i11, dnn, rdU, eW, eU, tzC_w, w_shp, w_ptr, Nat.beq_refl, nbz, nb133, nb75, nb55, nb67, n133a, n133b, n75a, n75b, aT, aR, oT, oR, oF, oG, kT, kF, bI, bL, bR, b0, Classical.not_not, not_true_eq_false, not_false_eq_true, and_self, and_true, true_and, ↓reduceIte, decide_true, decide_false, Nat.reduceEqDiff, Nat.reduceLT, Nat.reduceLeDiff, Int.reduceEq, h8, r1']
    rw [b_X3_bring_73]
    have y1 : tzU D 42 r (D 42 r - many) 43 to = D 43 to := tzU_o _ _ _ _ (by decide)
    have y2 : tzU (tzU D 42 r (D 42 r - many)) 43 to (D 43 to - many) 41 8 = D 41 8 := by rw [tzU_o _ _ _ _ (by decide), tzU_o _ _ _ _ (by decide)]
    have y3 : tzU (tzU D 42 r (D 42 r - many)) 43 to (D 43 to - many) 47 to = D 47 to := by rw [tzU_o _ _ _ _ (by decide), tzU_o _ _ _ _ (by decide)]
    simp only [z_cd, eW, eU, w_shp, w_ptr, Nat.beq_refl, aT, aR, oT, oR, oF, oG, kT, kF, and_self, and_true, true_and, Nat.reduceEqDiff, h8, h9, ← hm, v1, y1, v2, y2, y3, v3, v4, ← hX]
    exact u1
  · rw [u2 b i p3, Xo b i p1 p2 p6]
  · rw [u3, d42, d43, x42, x43, d41]
    exact g1
  · have := bf.1 to t0 t1
    omega
  · rw [u3, d42, d43, x42, x43]
    exact g3
  · rw [d43, x43, zs_upd _ t0 t1]
    omega
