/-! ===== pool: both calls ===== -/
def Of92 (B D : Nat → Int → Int) : Prop := ∀ (b : Nat) (j : Int), b ≠ 92 → b ≠ 125 → b ≠ 128 → D b j = B b j
set_option maxRecDepth 100000 in
set_option maxHeartbeats 1000000 in
theorem q_201 (d L n : Nat) (B : Nat → Int → Int) (wy : WY B) (hd : ∀ y : Int, 0 ≤ y → y < 8 → B 88 (9 * y) = 0) {now : Int} (w0 : 0 ≤ now) (w1 : now ≤ 100000) (hT : B 81 5 = now) (lack : Int) : ∀ (j : Nat) (k : Int) (D : Nat → Int → Int), 0 ≤ k → k + j = 64 → Of92 B D → (∀ i : Int, 0 ≤ i → i < k → D 125 i = 0 ∧ D 128 i = if erq B 0 (i / 8) now (i % 8) = 2147483647 then 100000000 else erq B 0 (i / 8) now (i % 8) - now) →
    ∃ D', tqrun tqP (d + 3) tqc_X12_pool 201 [vR 81, vU, vU, vI lack, vI k, vU, vU, vU] [] (tzW D L n) = tqrun tqP (d + 3) tqc_X12_pool 201 [vR 81, vU, vU, vI lack, vI 64, vU, vU, vU] [] (tzW D' L n) ∧ Of92 B D' ∧ ∀ i : Int, 0 ≤ i → i < 64 → D' 125 i = 0 ∧ D' 128 i = if erq B 0 (i / 8) now (i % 8) = 2147483647 then 100000000 else erq B 0 (i / 8) now (i % 8) - now
  | 0, k, D, k0, kj, of, h => by
    have e : k = 64 := by omega
    rw [e] at h ⊢
    exact ⟨D, rfl, of, h⟩
  | j + 1, k, D, k0, kj, of, h => by
    have k1 : k < 64 := by omega
    have c : ¬ 64 ≤ k := by omega
    have hk : tqib k 64 = true := tqib_y k0 (by omega)
    obtain ⟨X, hX⟩ : ∃ X, X = tzU D 125 k 0 := ⟨_, rfl⟩
    have Xo : ∀ (b : Nat) (i : Int), b ≠ 125 → X b i = D b i := fun b i p => by rw [hX, tzU_o _ _ _ _ p]
    have Xb : ∀ (b : Nat) (i : Int), b ≠ 92 → b ≠ 125 → b ≠ 128 → X b i = B b i := fun b i p q r => (Xo b i q).trans (of b i p q r)
    have wyX : WY X := WY_fr (fun b i h => Xb b i (by omega) (by omega) (by omega)) wy
    have hdX : ∀ y : Int, 0 ≤ y → y < 8 → X 88 (9 * y) = 0 := fun y a b => (Xb 88 _ (by decide) (by decide) (by decide)).trans (hd y a b)
    obtain ⟨Y, v1, v2⟩ := q_comesTo d L n X (a := k / 8) (s := now) (b := k % 8) (by omega) (by omega) w0 (show now ≤ 10000000 by omega) (by omega) (by omega) wyX hdX
    have eE : erq X 0 (k / 8) now (k % 8) = erq B 0 (k / 8) now (k % 8) := er_fr (fun b i p q => Xb b i (by omega) (by omega) (by omega)) 0 (k / 8) now (k % 8)
    rw [eE] at v1
    obtain ⟨er, her⟩ : ∃ er, er = erq B 0 (k / 8) now (k % 8) := ⟨_, rfl⟩
    rw [← her] at v1
    have eb := er_b wy (show 0 ≤ k % 8 by omega) (show k % 8 < 8 by omega) (er_ok wy hd (bt := 0) (Or.inl rfl) (show 0 ≤ k / 8 by omega) (show k / 8 < 8 by omega) w0 (show now ≤ 10000000 by omega) (show 0 ≤ k % 8 by omega) (show k % 8 < 8 by omega))
    rw [← her] at eb
    obtain ⟨cst, hcst⟩ : ∃ cst : Int, cst = if er = 2147483647 then 100000000 else er - now := ⟨_, rfl⟩
    have ofZ : Of92 B (tzU Y 128 k cst) := fun b i p q r => by rw [tzU_o _ _ _ _ r, v2 b i p]; exact Xb b i p q r
    obtain ⟨D', r1, r2, r3⟩ := q_201 d L n B wy hd w0 w1 hT lack j (k + 1) (tzU Y 128 k cst) (by omega) (by omega) ofZ (fun i i0 i1 => by
      by_cases e : i = k
      · refine ⟨?_, ?_⟩
        · rw [tzU_o _ _ _ _ (by decide), v2 125 i (by decide), hX, e, tzU_s]
        · rw [e, tzU_s, hcst, her]
      · have q := h i i0 (by omega)
        refine ⟨?_, ?_⟩
        · rw [tzU_o _ _ _ _ (by decide), v2 125 i (by decide), hX, tzU_k _ _ _ _ e]; exact q.1
        · rw [tzU_k _ _ _ _ e, v2 128 i (by decide), Xo 128 i (by decide)]; exact q.2)
    refine ⟨D', ?_, r2, r3⟩
    have d5 : X 81 5 = now := (Xb 81 5 (by decide) (by decide) (by decide)).trans hT
    have y5 : Y 81 5 = now := (v2 81 5 (by decide)).trans d5
    have d5' : D 81 5 = now := (of 81 5 (by decide) (by decide) (by decide)).trans hT
    have v1' := v1
    rw [hX] at v1'
    obtain ⟨t1, t2⟩ := td8 k0 k1
    have e1 := w1z k0 (by clear t1 t2; omega)
    rw [← r1, b_X12_pool_201]
    by_cases q : er = 2147483647
    · have en : nv er = 100000000 := if_pos q
      have g : (100000000 : Int) ≤ 100000000 := by decide
      rw [if_pos q] at hcst
      rw [en] at v1'
      simp only [z_cd, i10, i11, dnn, rdU, eW, eU, tzC_w, w_shp, w_ptr, Nat.beq_refl, nbz, nb133, nb75, nb55, nb67, n133a, n133b, n75a, n75b, aT, aR, oT, oR, oF, oG, kT, kF, bI, bL, bR, b0, Classical.not_not, not_true_eq_false, not_false_eq_true, and_self, and_true, true_and, ↓reduceIte, decide_true, decide_false, Nat.reduceEqDiff, Nat.reduceLT, Nat.reduceLeDiff, Int.reduceEq, c, hk, t1, t2, d5', v1', g, e1, hcst]
    · have en : nv er = er := if_neg q
      have g : ¬ (100000000 : Int) ≤ er := by clear t1 t2 e1; omega
      have e2 : w32 (er - now) = er - now := w32_i (by clear t1 t2 e1; omega) (by clear t1 t2 e1; omega)
      rw [if_neg q] at hcst
      rw [en] at v1'
      simp only [z_cd, i10, i11, dnn, rdU, eW, eU, tzC_w, w_shp, w_ptr, Nat.beq_refl, nbz, nb133, nb75, nb55, nb67, n133a, n133b, n75a, n75b, aT, aR, oT, oR, oF, oG, kT, kF, bI, bL, bR, b0, Classical.not_not, not_true_eq_false, not_false_eq_true, and_self, and_true, true_and, ↓reduceIte, decide_true, decide_false, Nat.reduceEqDiff, Nat.reduceLT, Nat.reduceLeDiff, Int.reduceEq, c, hk, t1, t2, d5', y5, v1', g, e1, e2, hcst]
def Of67 (D D' : Nat → Int → Int) : Prop := ∀ (b : Nat) (j : Int), b ≠ 126 → b ≠ 127 → D' b j = D b j
def Inq (S T : Int → Int) (i : Int) : Prop := (0 ≤ S i ∧ S i ≤ 30) ∧ 0 ≤ T i ∧ T i ≤ 30
set_option maxRecDepth 100000 in
set_option maxHeartbeats 1000000 in
theorem q_73 (d L n : Nat) {r1 r2 : Nat} (h1 : r1 < 6) (h2 : r2 < 6) (S T : Int → Int) : ∀ (j k : Nat) (D : Nat → Int → Int), k + j = 8 → (∀ i : Int, 0 ≤ i → i < 8 → D 84 (40 * r1 + i) = S i ∧ D 84 (40 * r2 + i) = T i) → (∀ i : Int, 0 ≤ i → i < k → D 126 i = spq (S i) (T i) ∧ D 127 i = spq (T i) (S i)) → (∀ i : Int, 0 ≤ i → i < k → Inq S T i) →
    ∃ D', Of67 D D' ∧ (((∀ i : Int, 0 ≤ i → i < 8 → Inq S T i) ∧ tqrun tqP (d + 2) tqc_X12_pool 73 [vR 81, vI (r1 : Int), vI (r2 : Int), vI (prq (fun i => spq (T i) (S i)) k), vI (k : Int), vU, vU, vU] [] (tzW D L n) = tqrun tqP (d + 2) tqc_X12_pool 201 [vR 81, vU, vU, vI (zs8 (fun i => spq (T i) (S i))), vI 0, vU, vU, vU] [] (tzW D' L n) ∧ ∀ i : Int, 0 ≤ i → i < 8 → D' 126 i = spq (S i) (T i) ∧ D' 127 i = spq (T i) (S i)) ∨
      ((¬ ∀ i : Int, 0 ≤ i → i < 8 → Inq S T i) ∧ tqrun tqP (d + 2) tqc_X12_pool 73 [vR 81, vI (r1 : Int), vI (r2 : Int), vI (prq (fun i => spq (T i) (S i)) k), vI (k : Int), vU, vU, vU] [] (tzW D L n) = some (some (vI (-3)), tzW (tzRm D' 3) L n)))
  | 0, k, D, kj, hr, hp, hin => by
    have e : k = 8 := by omega
    subst e
    have c : (8 : Int) ≤ ((8 : Nat) : Int) := by decide
    refine ⟨D, fun _ _ _ _ => rfl, Or.inl ⟨fun i i0 i1 => hin i i0 i1, ?_, fun i i0 i1 => hp i i0 i1⟩⟩
    rw [b_X12_pool_73, pr_8]
    simp only [z_cd, i10, i11, dnn, rdU, eW, eU, tzC_w, w_shp, w_ptr, Nat.beq_refl, nbz, nb133, nb75, nb55, nb67, n133a, n133b, n75a, n75b, aT, aR, oT, oR, oF, oG, kT, kF, bI, bL, bR, b0, Classical.not_not, not_true_eq_false, not_false_eq_true, and_self, and_true, true_and, ↓reduceIte, decide_true, decide_false, Nat.reduceEqDiff, Nat.reduceLT, Nat.reduceLeDiff, Int.reduceEq, c]
  | j + 1, k, D, kj, hr, hp, hin => by
    have c : ¬ (8 : Int) ≤ (k : Int) := by omega
    obtain ⟨eS, eT⟩ := hr k (by omega) (by omega)
    have hb1 : tqib (40 * (r1 : Int) + k) 240 = true := tqib_y (by omega) (by omega)
    have hb2 : tqib (40 * (r2 : Int) + k) 240 = true := tqib_y (by omega) (by omega)
    by_cases g1 : 0 ≤ S k ∧ S k ≤ 30
    · by_cases g2 : 0 ≤ T k ∧ T k ≤ 30
      · have hk : tqib (k : Int) 8 = true := tqib_y (by omega) (by omega)
        have pc := sp_c (T k) (S k)
        have pc2 := sp_c (S k) (T k)
        obtain ⟨X, hX⟩ : ∃ X, X = tzU (tzU D 126 k (spq (S k) (T k))) 127 k (spq (T k) (S k)) := ⟨_, rfl⟩
        have Xo : Of67 D X := fun b i p q => by rw [hX, tzU_o _ _ _ _ q, tzU_o _ _ _ _ p]
        obtain ⟨D', o1, alt⟩ := q_73 d L n h1 h2 S T j (k + 1) X (by omega) (fun i i0 i1 => by rw [Xo 84 _ (by decide) (by decide), Xo 84 _ (by decide) (by decide)]; exact hr i i0 i1) (fun i i0 i1 => by
          by_cases e : i = k
          · rw [e]
            refine ⟨?_, ?_⟩
            · rw [hX, tzU_o _ _ _ _ (by decide), tzU_s]
            · rw [hX, tzU_s]
          · have q := hp i i0 (by omega)
            refine ⟨?_, ?_⟩
            · rw [hX, tzU_o _ _ _ _ (by decide), tzU_k _ _ _ _ e]; exact q.1
            · rw [hX, tzU_k _ _ _ _ e, tzU_o _ _ _ _ (by decide)]; exact q.2) (fun i i0 i1 => by
          by_cases e : i = k
          · rw [e]; exact ⟨g1, g2⟩
          · exact hin i i0 (by omega))
        have st : tqrun tqP (d + 2) tqc_X12_pool 73 [vR 81, vI (r1 : Int), vI (r2 : Int), vI (prq (fun i => spq (T i) (S i)) k), vI (k : Int), vU, vU, vU] [] (tzW D L n) = tqrun tqP (d + 2) tqc_X12_pool 73 [vR 81, vI (r1 : Int), vI (r2 : Int), vI (prq (fun i => spq (T i) (S i)) (k + 1)), vI ((k + 1 : Nat) : Int), vU, vU, vU] [] (tzW X L n) := by
          have pb : 0 ≤ prq (fun i => spq (T i) (S i)) (k + 1) ∧ prq (fun i => spq (T i) (S i)) (k + 1) ≤ 30 * ((k + 1 : Nat) : Int) := by
            have bb : ∀ m : Nat, m ≤ k + 1 → 0 ≤ prq (fun i => spq (T i) (S i)) m ∧ prq (fun i => spq (T i) (S i)) m ≤ 30 * m := by
              intro m
              induction m with
              | zero => intro _; exact ⟨Int.le_refl _, Int.le_refl _⟩
              | succ m ih =>
                intro hm
                have r := ih (by omega)
                have inm : Inq S T (m : Int) := by
                  by_cases e : m = k
                  · rw [e]; exact ⟨g1, g2⟩
                  · exact hin (m : Int) (by omega) (by omega)
                have q := sp_c (T (m : Int)) (S (m : Int))
                obtain ⟨i1, i2⟩ := inm
                show 0 ≤ prq (fun i => spq (T i) (S i)) m + spq (T (m : Int)) (S (m : Int)) ∧ prq (fun i => spq (T i) (S i)) m + spq (T (m : Int)) (S (m : Int)) ≤ 30 * ((m + 1 : Nat) : Int)
                omega
            exact bb (k + 1) (Nat.le_refl _)
          have e3 : w32 (prq (fun i => spq (T i) (S i)) k + spq (T (k : Int)) (S (k : Int))) = prq (fun i => spq (T i) (S i)) (k + 1) := w32_i (x := prq (fun i => spq (T i) (S i)) (k + 1)) (by omega) (by omega)
          have e1 := w32_s k (by clear e3; omega)
          have e4 := w40r h1 (show (0 : Int) ≤ (k : Int) by clear e3 e1; omega) (show (k : Int) < 40 by clear e3 e1; omega)
          have e5 := w40r h2 (show (0 : Int) ≤ (k : Int) by clear e3 e1 e4; omega) (show (k : Int) < 40 by clear e3 e1 e4; omega)
          have y1 : ∀ x z : Int, tzU (tzU D 126 (k : Int) x) 127 (k : Int) z 127 (k : Int) = z := fun x z => tzU_s _ _ _ _
          rw [hX]
          rcases pc with ⟨q1, q2⟩ | ⟨q1, q2⟩
          · have q3 : spq (S k) (T k) = 0 := by clear e1 e3 e4 e5; omega
            have q4 : S k ≤ T k := by clear e1 e3 e4 e5; omega
            have q5 : ¬ T k ≤ S k := by clear e1 e3 e4 e5; omega
            have e6 : w32 (T k - S k) = spq (T k) (S k) := (w32_i (by clear e1 e3 e4 e5; omega) (by clear e1 e3 e4 e5; omega)).trans q2.symm
            conv => lhs; rw [b_X12_pool_73]
            simp only [z_cd, i10, i11, dnn, rdU, eW, eU, tzC_w, w_shp, w_ptr, Nat.beq_refl, nbz, nb133, nb75, nb55, nb67, n133a, n133b, n75a, n75b, aT, aR, oT, oR, oF, oG, kT, kF, bI, bL, bR, b0, Classical.not_not, not_true_eq_false, not_false_eq_true, and_self, and_true, true_and, ↓reduceIte, decide_true, decide_false, Nat.reduceEqDiff, Nat.reduceLT, Nat.reduceLeDiff, Int.reduceEq, c, hb1, hb2, e4, e5, eS, eT, p_in, g1, g2, q4]
            rw [b_X12_pool_158]
            simp only [z_cd, i10, i11, dnn, rdU, eW, eU, tzC_w, w_shp, w_ptr, Nat.beq_refl, nbz, nb133, nb75, nb55, nb67, n133a, n133b, n75a, n75b, aT, aR, oT, oR, oF, oG, kT, kF, bI, bL, bR, b0, Classical.not_not, not_true_eq_false, not_false_eq_true, and_self, and_true, true_and, ↓reduceIte, decide_true, decide_false, Nat.reduceEqDiff, Nat.reduceLT, Nat.reduceLeDiff, Int.reduceEq, hk, q5, e6, y1, e1, e3, q3]
          · have q4 : T k ≤ S k := by clear e1 e3 e4 e5; omega
            rw [q2] at e3
            by_cases q6 : S k ≤ T k
            · have q3 : spq (S k) (T k) = 0 := by clear e1 e3 e4 e5; omega
              conv => lhs; rw [b_X12_pool_73]
              simp only [z_cd, i10, i11, dnn, rdU, eW, eU, tzC_w, w_shp, w_ptr, Nat.beq_refl, nbz, nb133, nb75, nb55, nb67, n133a, n133b, n75a, n75b, aT, aR, oT, oR, oF, oG, kT, kF, bI, bL, bR, b0, Classical.not_not, not_true_eq_false, not_false_eq_true, and_self, and_true, true_and, ↓reduceIte, decide_true, decide_false, Nat.reduceEqDiff, Nat.reduceLT, Nat.reduceLeDiff, Int.reduceEq, c, hb1, hb2, e4, e5, eS, eT, p_in, g1, g2, q6]
              rw [b_X12_pool_158]
              simp only [z_cd, i10, i11, dnn, rdU, eW, eU, tzC_w, w_shp, w_ptr, Nat.beq_refl, nbz, nb133, nb75, nb55, nb67, n133a, n133b, n75a, n75b, aT, aR, oT, oR, oF, oG, kT, kF, bI, bL, bR, b0, Classical.not_not, not_true_eq_false, not_false_eq_true, and_self, and_true, true_and, ↓reduceIte, decide_true, decide_false, Nat.reduceEqDiff, Nat.reduceLT, Nat.reduceLeDiff, Int.reduceEq, hk, q4, y1, e1, e3, q3, q2]
            · have e6 : w32 (S k - T k) = spq (S k) (T k) := (w32_i (by clear e1 e3 e4 e5; omega) (by clear e1 e3 e4 e5; omega)).trans (by clear e1 e3 e4 e5; omega)
              conv => lhs; rw [b_X12_pool_73]
              simp only [z_cd, i10, i11, dnn, rdU, eW, eU, tzC_w, w_shp, w_ptr, Nat.beq_refl, nbz, nb133, nb75, nb55, nb67, n133a, n133b, n75a, n75b, aT, aR, oT, oR, oF, oG, kT, kF, bI, bL, bR, b0, Classical.not_not, not_true_eq_false, not_false_eq_true, and_self, and_true, true_and, ↓reduceIte, decide_true, decide_false, Nat.reduceEqDiff, Nat.reduceLT, Nat.reduceLeDiff, Int.reduceEq, c, hb1, hb2, e4, e5, eS, eT, p_in, g1, g2, q6, e6]
              rw [b_X12_pool_158]
              simp only [z_cd, i10, i11, dnn, rdU, eW, eU, tzC_w, w_shp, w_ptr, Nat.beq_refl, nbz, nb133, nb75, nb55, nb67, n133a, n133b, n75a, n75b, aT, aR, oT, oR, oF, oG, kT, kF, bI, bL, bR, b0, Classical.not_not, not_true_eq_false, not_false_eq_true, and_self, and_true, true_and, ↓reduceIte, decide_true, decide_false, Nat.reduceEqDiff, Nat.reduceLT, Nat.reduceLeDiff, Int.reduceEq, hk, q4, y1, e1, e3, q2]
        refine ⟨D', fun b i p q => (o1 b i p q).trans (Xo b i p q), ?_⟩
        rcases alt with ⟨a1, a2, a3⟩ | ⟨a1, a2⟩
        · exact Or.inl ⟨a1, st.trans a2, a3⟩
        · exact Or.inr ⟨a1, st.trans a2⟩
      · refine ⟨D, fun _ _ _ _ => rfl, Or.inr ⟨fun t => g2 (t k (by omega) (by omega)).2, ?_⟩⟩
        have e4 := w40r h1 (show (0 : Int) ≤ (k : Int) by omega) (show (k : Int) < 40 by omega)
        have e5 := w40r h2 (show (0 : Int) ≤ (k : Int) by clear e4; omega) (show (k : Int) < 40 by clear e4; omega)
        rw [b_X12_pool_73]
        simp only [z_cd, i10, i11, dnn, rdU, eW, eU, tzC_w, w_shp, w_ptr, Nat.beq_refl, nbz, nb133, nb75, nb55, nb67, n133a, n133b, n75a, n75b, aT, aR, oT, oR, oF, oG, kT, kF, bI, bL, bR, b0, Classical.not_not, not_true_eq_false, not_false_eq_true, and_self, and_true, true_and, ↓reduceIte, decide_true, decide_false, Nat.reduceEqDiff, Nat.reduceLT, Nat.reduceLeDiff, Int.reduceEq, c, hb1, hb2, e4, e5, eS, eT, p_in, g1, g2, s_meets _ D L n (f := 3) (by decide) (by decide)]
    · refine ⟨D, fun _ _ _ _ => rfl, Or.inr ⟨fun t => g1 (t k (by omega) (by omega)).1, ?_⟩⟩
      have e4 := w40r h1 (show (0 : Int) ≤ (k : Int) by omega) (show (k : Int) < 40 by omega)
      have e5 := w40r h2 (show (0 : Int) ≤ (k : Int) by clear e4; omega) (show (k : Int) < 40 by clear e4; omega)
      rw [b_X12_pool_73]
      simp only [z_cd, i10, i11, dnn, rdU, eW, eU, tzC_w, w_shp, w_ptr, Nat.beq_refl, nbz, nb133, nb75, nb55, nb67, n133a, n133b, n75a, n75b, aT, aR, oT, oR, oF, oG, kT, kF, bI, bL, bR, b0, Classical.not_not, not_true_eq_false, not_false_eq_true, and_self, and_true, true_and, ↓reduceIte, decide_true, decide_false, Nat.reduceEqDiff, Nat.reduceLT, Nat.reduceLeDiff, Int.reduceEq, c, hb1, hb2, e4, e5, eS, eT, p_in, g1, s_meets _ D L n (f := 3) (by decide) (by decide)]
