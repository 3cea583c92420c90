/-! ===== pool: the reference's shortest paths ===== -/
def Of29 (D D' : Nat → Int → Int) : Prop := ∀ (b : Nat) (j : Int), b ≠ 129 → b ≠ 130 → D' b j = D b j
theorem Of29_t {D D' D'' : Nat → Int → Int} (h : Of29 D D') (g : Of29 D' D'') : Of29 D D'' := fun b j p q => (g b j p q).trans (h b j p q)
theorem Of29_f {D D' : Nat → Int → Int} (h : Of29 D D') (b : Nat) (p : b ≠ 129) (q : b ≠ 130) : D' b = D b := by
  funext j; exact h b j p q
theorem pr_u (f : Int → Int) {q v : Int} : ∀ m : Nat, prq (upq f q v) m = prq f m + (if 0 ≤ q ∧ q < m then v - f q else 0)
  | 0 => by
    rw [if_neg (show ¬ (0 ≤ q ∧ q < ((0 : Nat) : Int)) by omega)]
    rfl
  | m + 1 => by
    have r := pr_u f (q := q) (v := v) m
    show prq (upq f q v) m + upq f q v (m : Int) = prq f m + f (m : Int) + (if 0 ≤ q ∧ q < ((m + 1 : Nat) : Int) then v - f q else 0)
    rw [r]
    by_cases e : (m : Int) = q
    · have e1 : upq f q v (m : Int) = v := by rw [e]; exact upq_s _ _ _
      have e2 : f (m : Int) = f q := by rw [e]
      rw [e1, e2, if_neg (show ¬ (0 ≤ q ∧ q < (m : Int)) by omega), if_pos (show 0 ≤ q ∧ q < ((m + 1 : Nat) : Int) by omega)]
      omega
    · rw [upq_k _ _ e]
      by_cases c : 0 ≤ q ∧ q < (m : Int)
      · rw [if_pos c, if_pos (show 0 ≤ q ∧ q < ((m + 1 : Nat) : Int) by omega)]; omega
      · rw [if_neg c, if_neg (show ¬ (0 ≤ q ∧ q < ((m + 1 : Nat) : Int)) by omega)]; omega
theorem pr_n {f : Int → Int} : ∀ m : Nat, (∀ i : Int, 0 ≤ i → i < m → 0 ≤ f i) → 0 ≤ prq f m
  | 0, _ => Int.le_refl _
  | m + 1, h => by
    have r := pr_n m (fun i a b => h i a (by omega))
    have q := h (m : Int) (by omega) (by omega)
    show 0 ≤ prq f m + f (m : Int)
    omega
/-- one path shortened, or none -/
def Rlx (Ar : Int → Int → Int → Prop) (Rt : Int → Prop) (l : Int → Int) (D D' : Nat → Int → Int) (p q w : Int) (r : Int) : Prop := Of29 D D' ∧ Bfq 16 100000000 Ar Rt l (D' 129) (D' 130) ∧ Deq 16 100000000 (D 129) (D' 129) ∧ (D 129 p ≠ 100000000 → D' 129 q ≠ 100000000 ∧ D' 129 q ≤ D 129 p + w) ∧ ((r = 0 ∧ D' = D) ∨ (r = 1 ∧ prq (D' 129) 16 < prq (D 129) 16))
theorem rl_y {Ar : Int → Int → Int → Prop} {Rt : Int → Prop} {l : Int → Int} {D : Nat → Int → Int} (bf : Bfq 16 100000000 Ar Rt l (D 129) (D 130)) (ok : Okq 16 Ar l) {p q w : Int} (ar : Ar p q w) (c1 : D 129 p ≠ 100000000) (c2 : D 129 p + w < D 129 q) : Rlx Ar Rt l D (tzU (tzU D 129 q (D 129 p + w)) 130 q p) p q w 1 := by
  obtain ⟨⟨p0, p1⟩, ⟨q0, q1⟩, pq, w1, lw⟩ := ok p q w ar
  have e129 : tzU (tzU D 129 q (D 129 p + w)) 130 q p 129 = upq (D 129) q (D 129 p + w) := by
    rw [tzU_f _ _ _ (by decide), tzU_q]
  have e130 : tzU (tzU D 129 q (D 129 p + w)) 130 q p 130 = upq (D 130) q p := by
    rw [tzU_q, tzU_f _ _ _ (by decide)]
  have bq := bf.1 q q0 q1
  refine ⟨fun b j x y => by rw [tzU_o _ _ _ _ y, tzU_o _ _ _ _ x], ?_, ?_, fun f => ?_, Or.inr ⟨rfl, ?_⟩⟩
  · rw [e129, e130]
    exact bf_step bf ok (by decide) ar c1 c2
  · rw [e129]
    exact De_u c2 bf.1
  · rw [e129, upq_s]
    omega
  · rw [e129, pr_u, if_pos (show 0 ≤ q ∧ q < ((16 : Nat) : Int) from ⟨q0, q1⟩)]
    omega
theorem rl_n {Ar : Int → Int → Int → Prop} {Rt : Int → Prop} {l : Int → Int} {D : Nat → Int → Int} (bf : Bfq 16 100000000 Ar Rt l (D 129) (D 130)) (ok : Okq 16 Ar l) {p q w : Int} (ar : Ar p q w) (c : ¬ (D 129 p ≠ 100000000 ∧ D 129 p + w < D 129 q)) : Rlx Ar Rt l D D p q w 0 := by
  obtain ⟨⟨p0, p1⟩, ⟨q0, q1⟩, pq, w1, lw⟩ := ok p q w ar
  refine ⟨fun _ _ _ _ => rfl, bf, De_r _ _ _, fun f => ?_, Or.inl ⟨rfl, rfl⟩⟩
  have k : ¬ D 129 p + w < D 129 q := fun t => c ⟨f, t⟩
  have k2 := bf.2.1 p p0 p1 f
  have k3 := fn_b 100000000 (D 129) 16
  omega
def Cqr (fin : Int → Prop) (C x : Int → Int) (D : Nat → Int → Int) : Prop := (∀ k : Int, 0 ≤ k → k < 64 → (D 128 k = 100000000 ∧ ¬ fin k) ∨ (D 128 k = C k ∧ fin k ∧ 0 ≤ C k ∧ C k ≤ 16320)) ∧ D 125 = x
theorem Cqr_f {fin : Int → Prop} {C x : Int → Int} {D D' : Nat → Int → Int} (h : Cqr fin C x D) (o : Of29 D D') : Cqr fin C x D' := by
  refine ⟨fun k k0 k1 => ?_, ?_⟩
  · rw [o 128 k (by decide) (by decide)]; exact h.1 k k0 k1
  · rw [Of29_f o 125 (by decide) (by decide)]; exact h.2
theorem w8k {k : Int} (k0 : 0 ≤ k) (k1 : k < 64) : w32 (8 + k % 8) = 8 + k % 8 := w32_i (by omega) (by omega)
/-- the reference's nodes: what is reached has something to spare, or once had -/
def Spo (fin : Int → Prop) (s : Int → Int) (E : Int → Prop) : Prop := ∀ k : Int, 0 ≤ k → k < 64 → (E k ↔ (0 < s (k / 8) ∧ fin k))
theorem fa_s {fin E : Int → Prop} {s C x l sp : Int → Int} {far via : Int → Int} (so : Spo fin s E) (hsp : ∀ a : Int, Rtq sp a → 0 < s a) (bf : Bfq 16 100000000 (Arq 8 E C x) (Rtq sp) l far via) {a : Int} (a0 : 0 ≤ a) (a1 : a < 8) (f : far a ≠ 100000000) : 0 < s a := by
  by_cases c : via a = -9
  · exact hsp a (bf.2.2.2.1 a a0 (by omega) f c).1
  · obtain ⟨_, _, w, ar, _⟩ := bf.2.2.2.2.1 a a0 (by omega) f c
    obtain ⟨a', b', ⟨⟨p0, p1⟩, q0, q1⟩, e, k⟩ := ar
    rcases k with ⟨k1, k2, k3⟩ | ⟨k1, k2, k3, k4⟩
    · omega
    · have h := ((so (8 * a' + b') (by omega) (by omega)).mp e).1
      rw [show (8 * a' + b') / 8 = a' by omega, ← k2] at h
      exact h
set_option maxRecDepth 100000 in
set_option maxHeartbeats 1000000 in
theorem q_75f (d L n : Nat) {fin E : Int → Prop} {s C x l sp : Int → Int} (so : Spo fin s E) (hsp : ∀ a : Int, Rtq sp a → 0 < s a) (ok : Okq 16 (Arq 8 E C x) l) (l0 : ∀ v : Int, 0 ≤ v → v < 16 → 0 ≤ l v) (sh : Int) {k : Int} (k0 : 0 ≤ k) (k1 : k < 64) (D : Nat → Int → Int) (cq : Cqr fin C x D) (bf : Bfq 16 100000000 (Arq 8 E C x) (Rtq sp) l (D 129) (D 130)) :
    ∃ D' r, tqrun tqP (d + 1) tqc_X12_nextBrought 75 [vR 81, vI sh, vI k, vU, vU] [] (tzW D L n) = tqrun tqP (d + 1) tqc_X12_nextBrought 170 [vR 81, vI (if r = 0 then sh else 1), vI k, vI (k / 8), vI (8 + k % 8)] [] (tzW D' L n) ∧ ((E k → Rlx (Arq 8 E C x) (Rtq sp) l D D' (k / 8) (8 + k % 8) (C k) r) ∧ (¬ E k → r = 0 ∧ D' = D)) := by
  have c : ¬ 64 ≤ k := by omega
  have hb : tqib k 64 = true := tqib_y k0 (by omega)
  have ha : tqib (k / 8) 16 = true := tqib_y (by omega) (by omega)
  have hb2 : tqib (8 + k % 8) 16 = true := tqib_y (by omega) (by omega)
  have ek : 8 * (k / 8) + k % 8 = k := by omega
  obtain ⟨t1, t2⟩ := td8 k0 k1
  have t3 := w8k k0 k1
  have ba := bf.1 (k / 8) (by clear t1 t2 t3; omega) (by clear t1 t2 t3; omega)
  have so' := so k k0 k1
  rcases cq.1 k k0 k1 with ⟨e, nf⟩ | ⟨e, hf, c0, c1⟩
  · have g : (100000000 : Int) ≤ 100000000 := by decide
    refine ⟨D, 0, ?_, fun h => absurd (so'.mp h).2 nf, fun _ => ⟨rfl, rfl⟩⟩
    rw [b_X12_nextBrought_75]
    simp only [z_cd, i10, i11, dnn, rdU, eW, eU, tzC_w, w_shp, w_ptr, Nat.beq_refl, nbz, nb133, nb75, nb55, nb67, n133a, n133b, n75a, n75b, aT, aR, oT, oR, oF, oG, kT, kF, bI, bL, bR, b0, Classical.not_not, not_true_eq_false, not_false_eq_true, and_self, and_true, true_and, ↓reduceIte, decide_true, decide_false, Nat.reduceEqDiff, Nat.reduceLT, Nat.reduceLeDiff, Int.reduceEq, c, hb, e, g, t1, t2, t3]
  · have g : ¬ 100000000 ≤ C k := by clear t1 t2 t3; omega
    by_cases fa : D 129 (k / 8) = 100000000
    · have g2 : (100000000 : Int) ≤ 100000000 := by decide
      refine ⟨D, 0, ?_, fun h => ?_, fun _ => ⟨rfl, rfl⟩⟩
      · rw [b_X12_nextBrought_75]
        simp only [z_cd, i10, i11, dnn, rdU, eW, eU, tzC_w, w_shp, w_ptr, Nat.beq_refl, nbz, nb133, nb75, nb55, nb67, n133a, n133b, n75a, n75b, aT, aR, oT, oR, oF, oG, kT, kF, bI, bL, bR, b0, Classical.not_not, not_true_eq_false, not_false_eq_true, and_self, and_true, true_and, ↓reduceIte, decide_true, decide_false, Nat.reduceEqDiff, Nat.reduceLT, Nat.reduceLeDiff, Int.reduceEq, c, hb, e, g, t1, t2, t3, ha, fa, g2]
      · have ar : Arq 8 E C x (k / 8) (8 + k % 8) (C k) := ⟨k / 8, k % 8, by clear t1 t2 t3; omega, by rw [ek]; exact h, Or.inl ⟨rfl, rfl, by rw [ek]⟩⟩
        exact rl_n bf ok ar (fun t => t.1 fa)
    · have sa := fa_s so hsp bf (a := k / 8) (by clear t1 t2 t3; omega) (by clear t1 t2 t3; omega) fa
      have hE : E k := so'.mpr ⟨sa, hf⟩
      have ar : Arq 8 E C x (k / 8) (8 + k % 8) (C k) := ⟨k / 8, k % 8, by clear t1 t2 t3; omega, by rw [ek]; exact hE, Or.inl ⟨rfl, rfl, by rw [ek]⟩⟩
      have g2 : ¬ 100000000 ≤ D 129 (k / 8) := by clear t1 t2 t3; omega
      have k2 := bf.2.1 (k / 8) (by clear t1 t2 t3; omega) (by clear t1 t2 t3; omega) fa
      have k3 := fn_b 100000000 (D 129) 16
      have k4 := l0 (k / 8) (by clear t1 t2 t3; omega) (by clear t1 t2 t3; omega)
      have wv : w32 (D 129 (k / 8) + C k) = D 129 (k / 8) + C k := w32_i (by clear t1 t2 t3; omega) (by clear t1 t2 t3; omega)
      by_cases c2 : D 129 (k / 8) + C k < D 129 (8 + k % 8)
      · have c3 : ¬ D 129 (8 + k % 8) ≤ D 129 (k / 8) + C k := by clear t1 t2 t3 wv; omega
        refine ⟨_, 1, ?_, fun _ => rl_y bf ok ar fa c2, fun h => absurd hE h⟩
        rw [b_X12_nextBrought_75]
        simp only [z_cd, i10, i11, dnn, rdU, eW, eU, tzC_w, w_shp, w_ptr, Nat.beq_refl, nbz, nb133, nb75, nb55, nb67, n133a, n133b, n75a, n75b, aT, aR, oT, oR, oF, oG, kT, kF, bI, bL, bR, b0, Classical.not_not, not_true_eq_false, not_false_eq_true, and_self, and_true, true_and, ↓reduceIte, decide_true, decide_false, Nat.reduceEqDiff, Nat.reduceLT, Nat.reduceLeDiff, Int.reduceEq, c, hb, e, g, t1, t2, t3, ha, hb2, g2, wv, c3]
      · have c3 : D 129 (8 + k % 8) ≤ D 129 (k / 8) + C k := by clear t1 t2 t3 wv; omega
        refine ⟨D, 0, ?_, fun _ => rl_n bf ok ar (fun t => c2 t.2), fun _ => ⟨rfl, rfl⟩⟩
        rw [b_X12_nextBrought_75]
        simp only [z_cd, i10, i11, dnn, rdU, eW, eU, tzC_w, w_shp, w_ptr, Nat.beq_refl, nbz, nb133, nb75, nb55, nb67, n133a, n133b, n75a, n75b, aT, aR, oT, oR, oF, oG, kT, kF, bI, bL, bR, b0, Classical.not_not, not_true_eq_false, not_false_eq_true, and_self, and_true, true_and, ↓reduceIte, decide_true, decide_false, Nat.reduceEqDiff, Nat.reduceLT, Nat.reduceLeDiff, Int.reduceEq, c, hb, e, g, t1, t2, t3, ha, hb2, g2, wv, c3]
set_option maxRecDepth 100000 in
set_option maxHeartbeats 1000000 in
theorem q_170 (d L n : Nat) {fin E : Int → Prop} {C x l sp : Int → Int} (xE : ∀ k : Int, 0 ≤ k → k < 64 → 0 < x k → E k ∧ fin k) (ok : Okq 16 (Arq 8 E C x) l) (l0 : ∀ v : Int, 0 ≤ v → v < 16 → 0 ≤ l v) (sh : Int) {k : Int} (k0 : 0 ≤ k) (k1 : k < 64) (D : Nat → Int → Int) (cq : Cqr fin C x D) (bf : Bfq 16 100000000 (Arq 8 E C x) (Rtq sp) l (D 129) (D 130)) :
    ∃ D' r, tqrun tqP (d + 1) tqc_X12_nextBrought 170 [vR 81, vI sh, vI k, vI (k / 8), vI (8 + k % 8)] [] (tzW D L n) = tqrun tqP (d + 1) tqc_X12_nextBrought 75 [vR 81, vI (if r = 0 then sh else 1), vI (k + 1), vU, vU] [] (tzW D' L n) ∧ ((0 < x k → Rlx (Arq 8 E C x) (Rtq sp) l D D' (8 + k % 8) (k / 8) (-C k) r) ∧ (¬ 0 < x k → r = 0 ∧ D' = D)) := by
  have hb : tqib k 64 = true := tqib_y k0 (by omega)
  have ha : tqib (k / 8) 16 = true := tqib_y (by omega) (by omega)
  have hb2 : tqib (8 + k % 8) 16 = true := tqib_y (by omega) (by omega)
  have ek : 8 * (k / 8) + k % 8 = k := by omega
  have ex : D 125 k = x k := by rw [cq.2]
  have bb := bf.1 (8 + k % 8) (by omega) (by omega)
  by_cases xk : 0 < x k
  · have x1 : ¬ x k ≤ 0 := by omega
    obtain ⟨hE, hf⟩ := xE k k0 k1 xk
    have ar : Arq 8 E C x (8 + k % 8) (k / 8) (-C k) := ⟨k / 8, k % 8, by omega, by rw [ek]; exact hE, Or.inr ⟨rfl, rfl, by rw [ek], by rw [ek]; exact xk⟩⟩
    rcases cq.1 k k0 k1 with ⟨_, nf⟩ | ⟨e, _, c0, c1⟩
    · exact absurd hf nf
    · by_cases fb : D 129 (8 + k % 8) = 100000000
      · have g2 : (100000000 : Int) ≤ 100000000 := by decide
        refine ⟨D, 0, ?_, fun h => rl_n bf ok ar (fun t => t.1 fb), fun h => absurd xk h⟩
        have e1 := w1z k0 (by omega)
        rw [b_X12_nextBrought_170]
        simp only [z_cd, i10, i11, dnn, rdU, eW, eU, tzC_w, w_shp, w_ptr, Nat.beq_refl, nbz, nb133, nb75, nb55, nb67, n133a, n133b, n75a, n75b, aT, aR, oT, oR, oF, oG, kT, kF, bI, bL, bR, b0, Classical.not_not, not_true_eq_false, not_false_eq_true, and_self, and_true, true_and, ↓reduceIte, decide_true, decide_false, Nat.reduceEqDiff, Nat.reduceLT, Nat.reduceLeDiff, Int.reduceEq, hb, ex, x1, hb2, fb, g2, e1]
      · have g2 : ¬ 100000000 ≤ D 129 (8 + k % 8) := by omega
        have k2 := bf.2.1 (8 + k % 8) (by omega) (by omega) fb
        have k3 := fn_b 100000000 (D 129) 16
        have k4 := l0 (k / 8) (by omega) (by omega)
        have k5 := (ok _ _ _ ar).2.2.2.2
        by_cases c2 : D 129 (8 + k % 8) + -C k < D 129 (k / 8)
        · have wv : w32 (D 129 (8 + k % 8) - C k) = D 129 (8 + k % 8) + -C k := (w32_i (by omega) (by omega)).trans (by omega)
          have e1 := w1z k0 (by clear wv; omega)
          have c3 : ¬ D 129 (k / 8) ≤ D 129 (8 + k % 8) + -C k := by clear wv e1; omega
          refine ⟨_, 1, ?_, fun _ => rl_y bf ok ar fb c2, fun h => absurd xk h⟩
          rw [b_X12_nextBrought_170]
          simp only [z_cd, i10, i11, dnn, rdU, eW, eU, tzC_w, w_shp, w_ptr, Nat.beq_refl, nbz, nb133, nb75, nb55, nb67, n133a, n133b, n75a, n75b, aT, aR, oT, oR, oF, oG, kT, kF, bI, bL, bR, b0, Classical.not_not, not_true_eq_false, not_false_eq_true, and_self, and_true, true_and, ↓reduceIte, decide_true, decide_false, Nat.reduceEqDiff, Nat.reduceLT, Nat.reduceLeDiff, Int.reduceEq, hb, ex, x1, ha, hb2, e, g2, wv, c3, e1]
        · have wv : w32 (D 129 (8 + k % 8) - C k) = D 129 (8 + k % 8) + -C k := (w32_i (by omega) (by omega)).trans (by omega)
          have e1 := w1z k0 (by clear wv; omega)
          have c3 : D 129 (k / 8) ≤ D 129 (8 + k % 8) + -C k := by clear wv e1; omega
          refine ⟨D, 0, ?_, fun _ => rl_n bf ok ar (fun t => c2 t.2), fun h => absurd xk h⟩
          rw [b_X12_nextBrought_170]
          simp only [z_cd, i10, i11, dnn, rdU, eW, eU, tzC_w, w_shp, w_ptr, Nat.beq_refl, nbz, nb133, nb75, nb55, nb67, n133a, n133b, n75a, n75b, aT, aR, oT, oR, oF, oG, kT, kF, bI, bL, bR, b0, Classical.not_not, not_true_eq_false, not_false_eq_true, and_self, and_true, true_and, ↓reduceIte, decide_true, decide_false, Nat.reduceEqDiff, Nat.reduceLT, Nat.reduceLeDiff, Int.reduceEq, hb, ex, x1, ha, hb2, e, g2, wv, c3, e1]
  · have x1 : x k ≤ 0 := by omega
    refine ⟨D, 0, ?_, fun h => absurd h xk, fun _ => ⟨rfl, rfl⟩⟩
    have e1 := w1z k0 (by omega)
    rw [b_X12_nextBrought_170]
    simp only [z_cd, i10, i11, dnn, rdU, eW, eU, tzC_w, w_shp, w_ptr, Nat.beq_refl, nbz, nb133, nb75, nb55, nb67, n133a, n133b, n75a, n75b, aT, aR, oT, oR, oF, oG, kT, kF, bI, bL, bR, b0, Classical.not_not, not_true_eq_false, not_false_eq_true, and_self, and_true, true_and, ↓reduceIte, decide_true, decide_false, Nat.reduceEqDiff, Nat.reduceLT, Nat.reduceLeDiff, Int.reduceEq, hb, ex, x1, e1]
