/-! ===== pool: the reference's next one ===== -/
def Spr (E : Int → Prop) (C x far far' : Int → Int) (a b : Int) : Prop := E (8 * a + b) → (far a ≠ 100000000 → far' (8 + b) ≠ 100000000 ∧ far' (8 + b) ≤ far a + C (8 * a + b)) ∧ (0 < x (8 * a + b) → far (8 + b) ≠ 100000000 → far' a ≠ 100000000 ∧ far' a ≤ far (8 + b) - C (8 * a + b))
/-- one more turn of the loop: what it says of the flag and of the sum of all that is reached -/
def Trn (D D' : Nat → Int → Int) (s s' : Int) : Prop := (s' = 0 ∨ s' = 1) ∧ (s' = 0 → s = 0 ∧ D' = D) ∧ prq (D' 129) 16 ≤ prq (D 129) 16 ∧ (s' = 1 → s = 1 ∨ prq (D' 129) 16 < prq (D 129) 16)
theorem tr_r {D : Nat → Int → Int} {s : Int} (h : s = 0 ∨ s = 1) : Trn D D s s := ⟨h, fun t => ⟨t, rfl⟩, Int.le_refl _, fun t => Or.inl t⟩
theorem tr_t {D D' D'' : Nat → Int → Int} {s s' s'' : Int} (a : Trn D D' s s') (b : Trn D' D'' s' s'') : Trn D D'' s s'' := by
  obtain ⟨a1, a2, a3, a4⟩ := a
  obtain ⟨b1, b2, b3, b4⟩ := b
  refine ⟨b1, fun t => ?_, by omega, fun t => ?_⟩
  · obtain ⟨q1, q2⟩ := b2 t
    obtain ⟨p1, p2⟩ := a2 q1
    exact ⟨p1, q2.trans p2⟩
  · rcases b4 t with q | q
    · rcases a4 q with p | p
      · exact Or.inl p
      · exact Or.inr (by omega)
    · exact Or.inr (by omega)
theorem tr_x {Ar : Int → Int → Int → Prop} {Rt : Int → Prop} {l : Int → Int} {D D' : Nat → Int → Int} {p q w r s : Int} (h : Rlx Ar Rt l D D' p q w r) (hs : s = 0 ∨ s = 1) : Trn D D' s (if r = 0 then s else 1) := by
  rcases h.2.2.2.2 with ⟨r0, e⟩ | ⟨r1, lt⟩
  · rw [if_pos r0, e]
    exact tr_r hs
  · rw [if_neg (show ¬ r = 0 by omega)]
    exact ⟨Or.inr rfl, fun t => absurd t (by decide), by omega, fun _ => Or.inr lt⟩
theorem q_75s (d L n : Nat) {fin E : Int → Prop} {s C x l sp : Int → Int} (so : Spo fin s E) (hsp : ∀ a : Int, Rtq sp a → 0 < s a) (xE : ∀ k : Int, 0 ≤ k → k < 64 → 0 < x k → E k ∧ fin k) (ok : Okq 16 (Arq 8 E C x) l) (l0 : ∀ v : Int, 0 ≤ v → v < 16 → 0 ≤ l v) {sh : Int} (h1 : sh = 0 ∨ sh = 1) {k : Int} (k0 : 0 ≤ k) (k1 : k < 64) (D : Nat → Int → Int) (cq : Cqr fin C x D) (bf : Bfq 16 100000000 (Arq 8 E C x) (Rtq sp) l (D 129) (D 130)) :
    ∃ D' s', tqrun tqP (d + 1) tqc_X12_nextBrought 75 [vR 81, vI sh, vI k, vU, vU] [] (tzW D L n) = tqrun tqP (d + 1) tqc_X12_nextBrought 75 [vR 81, vI s', vI (k + 1), vU, vU] [] (tzW D' L n) ∧ Of29 D D' ∧ Bfq 16 100000000 (Arq 8 E C x) (Rtq sp) l (D' 129) (D' 130) ∧ Deq 16 100000000 (D 129) (D' 129) ∧ Spr E C x (D 129) (D' 129) (k / 8) (k % 8) ∧ Trn D D' sh s' := by
  have ek : 8 * (k / 8) + k % 8 = k := by omega
  obtain ⟨D1, r1, f1, f2, f3⟩ := q_75f d L n so hsp ok l0 sh k0 k1 D cq bf
  by_cases hE : E k
  · have a := f2 hE
    have t1 := tr_x a h1
    obtain ⟨a1, a2, a3, a4, _⟩ := a
    obtain ⟨s1, hs1⟩ : ∃ s1, s1 = if r1 = 0 then sh else 1 := ⟨_, rfl⟩
    rw [← hs1] at f1 t1
    obtain ⟨D2, r2, g1, g2, g3⟩ := q_170 d L n xE ok l0 s1 k0 k1 D1 (Cqr_f cq a1) a2
    by_cases xk : 0 < x k
    · have b := g2 xk
      have t2 := tr_x b t1.1
      obtain ⟨b1, b2, b3, b4, _⟩ := b
      refine ⟨D2, _, f1.trans g1, Of29_t a1 b1, b2, De_t a3 b3, fun _ => ⟨fun f => ?_, fun _ f => ?_⟩, tr_t t1 t2⟩
      · rw [ek]
        have y := a4 f
        have z := b3 (8 + k % 8) (by omega) (by omega) y.1
        exact ⟨z.1, by omega⟩
      · rw [ek]
        have y := a3 (8 + k % 8) (by omega) (by omega) f
        have z := b4 y.1
        exact ⟨z.1, by omega⟩
    · obtain ⟨e1, e2⟩ := g3 xk
      rw [e1, if_pos rfl, e2] at g1
      refine ⟨D1, s1, f1.trans g1, a1, a2, a3, fun _ => ⟨fun f => by rw [ek]; exact a4 f, fun y => ?_⟩, t1⟩
      rw [ek] at y
      exact absurd y xk
  · obtain ⟨e1, e2⟩ := f3 hE
    rw [e1, if_pos rfl, e2] at f1
    obtain ⟨D2, r2, g1, g2, g3⟩ := q_170 d L n xE ok l0 sh k0 k1 D cq bf
    obtain ⟨e3, e4⟩ := g3 (fun t => hE (xE k k0 k1 t).1)
    rw [e3, if_pos rfl, e4] at g1
    refine ⟨D, sh, f1.trans g1, fun _ _ _ _ => rfl, bf, De_r _ _ _, fun t => ?_, tr_r h1⟩
    rw [ek] at t
    exact absurd t hE
theorem q_75 (d L n : Nat) {fin E : Int → Prop} {s C x l sp : Int → Int} (so : Spo fin s E) (hsp : ∀ a : Int, Rtq sp a → 0 < s a) (xE : ∀ k : Int, 0 ≤ k → k < 64 → 0 < x k → E k ∧ fin k) (ok : Okq 16 (Arq 8 E C x) l) (l0 : ∀ v : Int, 0 ≤ v → v < 16 → 0 ≤ l v) (F : Nat → Int → Int) : ∀ (j : Nat) (k sh : Int) (D : Nat → Int → Int), (sh = 0 ∨ sh = 1) → 0 ≤ k → k + j = 64 → Cqr fin C x D → Bfq 16 100000000 (Arq 8 E C x) (Rtq sp) l (D 129) (D 130) → Deq 16 100000000 (F 129) (D 129) → (∀ a b : Int, 0 ≤ a → a < 8 → 0 ≤ b → b < 8 → 8 * a + b < k → Spr E C x (F 129) (D 129) a b) → Trn F D 0 sh →
    ∃ D' s', tqrun tqP (d + 1) tqc_X12_nextBrought 75 [vR 81, vI sh, vI k, vU, vU] [] (tzW D L n) = tqrun tqP (d + 1) tqc_X12_nextBrought 75 [vR 81, vI s', vI 64, vU, vU] [] (tzW D' L n) ∧ Of29 D D' ∧ Bfq 16 100000000 (Arq 8 E C x) (Rtq sp) l (D' 129) (D' 130) ∧ Deq 16 100000000 (F 129) (D' 129) ∧ (∀ a b : Int, 0 ≤ a → a < 8 → 0 ≤ b → b < 8 → Spr E C x (F 129) (D' 129) a b) ∧ Trn F D' 0 s'
  | 0, k, sh, D, h1, k0, kj, cq, bf, de, sp, hf => by
    have e : k = 64 := by omega
    rw [e]
    exact ⟨D, sh, rfl, fun _ _ _ _ => rfl, bf, de, fun a b a0 a1 v0 v1 => sp a b a0 a1 v0 v1 (by omega), hf⟩
  | j + 1, k, sh, D, h1, k0, kj, cq, bf, de, sp, hf => by
    obtain ⟨D1, s1, g1, g2, g3, g4, g5, g6⟩ := q_75s d L n so hsp xE ok l0 h1 k0 (by omega) D cq bf
    obtain ⟨D2, s2, j1, j2, j3, j4, j5, j6⟩ := q_75 d L n so hsp xE ok l0 F j (k + 1) s1 D1 g6.1 (by omega) (by omega) (Cqr_f cq g2) g3 (De_t de g4) (fun a b a0 a1 v0 v1 lt => by
      by_cases e : 8 * a + b = k
      · have ea : k / 8 = a := by omega
        have eb : k % 8 = b := by omega
        rw [ea, eb] at g5
        intro hE
        obtain ⟨q1, q2⟩ := g5 hE
        refine ⟨fun f => ?_, fun xp f => ?_⟩
        · have y := de a a0 (by omega) f
          have z := q1 y.1
          exact ⟨z.1, by omega⟩
        · have y := de (8 + b) (by omega) (by omega) f
          have z := q2 xp y.1
          exact ⟨z.1, by omega⟩
      · intro hE
        obtain ⟨q1, q2⟩ := sp a b a0 a1 v0 v1 (by omega) hE
        refine ⟨fun f => ?_, fun xp f => ?_⟩
        · have y := q1 f
          have z := g4 (8 + b) (by omega) (by omega) y.1
          exact ⟨z.1, by omega⟩
        · have y := q2 xp f
          have z := g4 a a0 (by omega) y.1
          exact ⟨z.1, by omega⟩) (tr_t hf g6)
    exact ⟨D2, s2, g1.trans j1, Of29_t g2 j2, j3, j4, j5, j6⟩
theorem sr_rn {E : Int → Prop} {C x far far' : Int → Int} (de : Deq 16 100000000 far far') (sp : ∀ a b : Int, 0 ≤ a → a < 8 → 0 ≤ b → b < 8 → Spr E C x far far' a b) : Rnq 16 100000000 (Arq 8 E C x) far far' := by
  refine ⟨de, fun p q w a f => ?_⟩
  obtain ⟨a, b, ⟨⟨a0, a1⟩, v0, v1⟩, e, c⟩ := a
  obtain ⟨s1, s2⟩ := sp a b a0 a1 v0 v1 e
  rcases c with ⟨c1, c2, c3⟩ | ⟨c1, c2, c3, c4⟩
  · rw [c1] at f ⊢
    rw [c2, c3]
    exact s1 f
  · rw [c1] at f ⊢
    rw [c2, c3]
    have r := s2 c4 f
    exact ⟨r.1, by omega⟩
set_option maxRecDepth 100000 in
set_option maxHeartbeats 1000000 in
theorem q_67 (d L n : Nat) {fin E : Int → Prop} {s C x l sp : Int → Int} (so : Spo fin s E) (hsp : ∀ a : Int, Rtq sp a → 0 < s a) (xE : ∀ k : Int, 0 ≤ k → k < 64 → 0 < x k → E k ∧ fin k) (ok : Okq 16 (Arq 8 E C x) l) (l0 : ∀ v : Int, 0 ≤ v → v < 16 → 0 ≤ l v) : ∀ (j : Nat) (D : Nat → Int → Int), prq (D 129) 16 < j → Cqr fin C x D → Bfq 16 100000000 (Arq 8 E C x) (Rtq sp) l (D 129) (D 130) →
    ∃ D', tqrun tqP (d + 1) tqc_X12_nextBrought 67 [vR 81, vI 1, vU, vU, vU] [] (tzW D L n) = tqrun tqP (d + 1) tqc_X12_nextBrought 259 [vR 81, vU, vI (-9), vI 8, vU] [] (tzW D' L n) ∧ Of29 D D' ∧ Bfq 16 100000000 (Arq 8 E C x) (Rtq sp) l (D' 129) (D' 130) ∧ Fxq 100000000 (Arq 8 E C x) (D' 129)
  | 0, D, lt, cq, bf => by
    have q := pr_n (f := D 129) 16 (fun i i0 i1 => by
      by_cases f : D 129 i = 100000000
      · omega
      · have := (bf.2.1 i i0 i1 f).1
        have := l0 i i0 i1
        omega)
    omega
  | j + 1, D, lt, cq, bf => by
    obtain ⟨D1, s1, g1, g2, g3, g4, g5, g6⟩ := q_75 d L n so hsp xE ok l0 D 64 0 0 D (Or.inl rfl) (by omega) (by omega) cq bf (De_r _ _ _) (fun a b a0 a1 v0 v1 lt => by omega) (tr_r (Or.inl rfl))
    have rn := sr_rn g4 g5
    obtain ⟨t1, t2, t3, t4⟩ := g6
    have n1 : ¬ (1 : Int) = 0 := by decide
    have c64 : (64 : Int) ≤ 64 := by decide
    rcases t1 with t1 | t1
    · refine ⟨D1, ?_, g2, g3, ?_⟩
      · rw [b_X12_nextBrought_67]
        simp only [z_cd, i10, i11, dnn, rdU, eW, eU, tzC_w, w_shp, w_ptr, Nat.beq_refl, nbz, nb133, nb75, nb55, nb67, n133a, n133b, n75a, n75b, aT, aR, oT, oR, oF, oG, kT, kF, bI, bL, bR, b0, Classical.not_not, not_true_eq_false, not_false_eq_true, and_self, and_true, true_and, ↓reduceIte, decide_true, decide_false, Nat.reduceEqDiff, Nat.reduceLT, Nat.reduceLeDiff, Int.reduceEq, n1, g1]
        rw [b_X12_nextBrought_75]
        simp only [z_cd, i10, i11, dnn, rdU, eW, eU, tzC_w, w_shp, w_ptr, Nat.beq_refl, nbz, nb133, nb75, nb55, nb67, n133a, n133b, n75a, n75b, aT, aR, oT, oR, oF, oG, kT, kF, bI, bL, bR, b0, Classical.not_not, not_true_eq_false, not_false_eq_true, and_self, and_true, true_and, ↓reduceIte, decide_true, decide_false, Nat.reduceEqDiff, Nat.reduceLT, Nat.reduceLeDiff, Int.reduceEq, c64, t1]
        rw [b_X12_nextBrought_67]
        simp only [z_cd, i10, i11, dnn, rdU, eW, eU, tzC_w, w_shp, w_ptr, Nat.beq_refl, nbz, nb133, nb75, nb55, nb67, n133a, n133b, n75a, n75b, aT, aR, oT, oR, oF, oG, kT, kF, bI, bL, bR, b0, Classical.not_not, not_true_eq_false, not_false_eq_true, and_self, and_true, true_and, ↓reduceIte, decide_true, decide_false, Nat.reduceEqDiff, Nat.reduceLT, Nat.reduceLeDiff, Int.reduceEq]
      · rw [(t2 t1).2] at rn ⊢
        exact rn.2
    · obtain ⟨D2, r1, r2, r3, r4⟩ := q_67 d L n so hsp xE ok l0 j D1 (by
        rcases t4 t1 with q | q
        · exact absurd q (by decide)
        · omega) (Cqr_f cq g2) g3
      refine ⟨D2, ?_, Of29_t g2 r2, r3, r4⟩
      rw [← r1]
      conv => lhs; rw [b_X12_nextBrought_67]
      simp only [z_cd, i10, i11, dnn, rdU, eW, eU, tzC_w, w_shp, w_ptr, Nat.beq_refl, nbz, nb133, nb75, nb55, nb67, n133a, n133b, n75a, n75b, aT, aR, oT, oR, oF, oG, kT, kF, bI, bL, bR, b0, Classical.not_not, not_true_eq_false, not_false_eq_true, and_self, and_true, true_and, ↓reduceIte, decide_true, decide_false, Nat.reduceEqDiff, Nat.reduceLT, Nat.reduceLeDiff, Int.reduceEq, n1, g1]
      rw [b_X12_nextBrought_75]
      simp only [z_cd, i10, i11, dnn, rdU, eW, eU, tzC_w, w_shp, w_ptr, Nat.beq_refl, nbz, nb133, nb75, nb55, nb67, n133a, n133b, n75a, n75b, aT, aR, oT, oR, oF, oG, kT, kF, bI, bL, bR, b0, Classical.not_not, not_true_eq_false, not_false_eq_true, and_self, and_true, true_and, ↓reduceIte, decide_true, decide_false, Nat.reduceEqDiff, Nat.reduceLT, Nat.reduceLeDiff, Int.reduceEq, c64, t1]
set_option maxRecDepth 100000 in
set_option maxHeartbeats 1000000 in
theorem q_n2 (d L n : Nat) : ∀ (j : Nat) (y : Int) (D : Nat → Int → Int), 0 ≤ y → y + j = 8 → (∀ z : Int, 0 ≤ z → z < y → D 129 z = (if 0 < D 126 z then 0 else 100000000) ∧ D 129 (8 + z) = 100000000 ∧ D 130 z = -9 ∧ D 130 (8 + z) = -9) →
    ∃ D', tqrun tqP (d + 1) tqc_X12_nextBrought 2 [vR 81, vI y, vU, vU, vU] [] (tzW D L n) = tqrun tqP (d + 1) tqc_X12_nextBrought 67 [vR 81, vI 1, vU, vU, vU] [] (tzW D' L n) ∧ Of29 D D' ∧ ∀ z : Int, 0 ≤ z → z < 8 → D' 129 z = (if 0 < D 126 z then 0 else 100000000) ∧ D' 129 (8 + z) = 100000000 ∧ D' 130 z = -9 ∧ D' 130 (8 + z) = -9
  | 0, y, D, y0, yj, h => by
    have c : 8 ≤ y := by omega
    have e : y = 8 := by omega
    rw [e] at h
    refine ⟨D, ?_, fun _ _ _ _ => rfl, h⟩
    rw [b_X12_nextBrought_2]
    simp only [z_cd, i10, i11, dnn, rdU, eW, eU, tzC_w, w_shp, w_ptr, Nat.beq_refl, nbz, nb133, nb75, nb55, nb67, n133a, n133b, n75a, n75b, aT, aR, oT, oR, oF, oG, kT, kF, bI, bL, bR, b0, Classical.not_not, not_true_eq_false, not_false_eq_true, and_self, and_true, true_and, ↓reduceIte, decide_true, decide_false, Nat.reduceEqDiff, Nat.reduceLT, Nat.reduceLeDiff, Int.reduceEq, c]
  | j + 1, y, D, y0, yj, h => by
    have c : ¬ 8 ≤ y := by omega
    have hy : tqib y 8 = true := tqib_y y0 (by omega)
    have hy2 : tqib y 16 = true := tqib_y y0 (by omega)
    have hy3 : tqib (8 + y) 16 = true := tqib_y (by omega) (by omega)
    obtain ⟨v, hv⟩ : ∃ v : Int, v = if 0 < D 126 y then 0 else 100000000 := ⟨_, rfl⟩
    obtain ⟨X, hX⟩ : ∃ X, X = tzU (tzU (tzU (tzU D 129 y v) 129 (8 + y) 100000000) 130 y (-9)) 130 (8 + y) (-9) := ⟨_, rfl⟩
    have Xo : Of29 D X := fun b i p q => by rw [hX, tzU_o _ _ _ _ q, tzU_o _ _ _ _ q, tzU_o _ _ _ _ p, tzU_o _ _ _ _ p]
    obtain ⟨D1, g1, g2, g3⟩ := q_n2 d L n j (y + 1) X (by omega) (by omega) (fun z z0 z1 => by
      rw [Xo 126 z (by decide) (by decide)]
      by_cases e : z = y
      · rw [e]
        refine ⟨?_, ?_, ?_, ?_⟩
        · rw [hX, tzU_o _ _ _ _ (by decide), tzU_o _ _ _ _ (by decide), tzU_k _ _ _ _ (show y ≠ 8 + y by omega), tzU_s]; exact hv
        · rw [hX, tzU_o _ _ _ _ (by decide), tzU_o _ _ _ _ (by decide), tzU_s]
        · rw [hX, tzU_k _ _ _ _ (show y ≠ 8 + y by omega), tzU_s]
        · rw [hX, tzU_s]
      · obtain ⟨q1, q2, q3, q4⟩ := h z z0 (by omega)
        refine ⟨?_, ?_, ?_, ?_⟩
        · rw [hX, tzU_o _ _ _ _ (by decide), tzU_o _ _ _ _ (by decide), tzU_k _ _ _ _ (show z ≠ 8 + y by omega), tzU_k _ _ _ _ e]; exact q1
        · rw [hX, tzU_o _ _ _ _ (by decide), tzU_o _ _ _ _ (by decide), tzU_k _ _ _ _ (show 8 + z ≠ 8 + y by omega), tzU_k _ _ _ _ (show 8 + z ≠ y by omega)]; exact q2
        · rw [hX, tzU_k _ _ _ _ (show z ≠ 8 + y by omega), tzU_k _ _ _ _ e, tzU_o _ _ _ _ (by decide), tzU_o _ _ _ _ (by decide)]; exact q3
        · rw [hX, tzU_k _ _ _ _ (show 8 + z ≠ 8 + y by omega), tzU_k _ _ _ _ (show 8 + z ≠ y by omega), tzU_o _ _ _ _ (by decide), tzU_o _ _ _ _ (by decide)]; exact q4)
    refine ⟨D1, ?_, Of29_t Xo g2, fun z z0 z1 => by
      have q := g3 z z0 z1
      rw [Xo 126 z (by decide) (by decide)] at q
      exact q⟩
    rw [hX] at g1
    have e2 : w32 (8 + y) = 8 + y := w32_i (by omega) (by omega)
    have e1 := w1z y0 (by clear e2; omega)
    by_cases q : D 126 y ≤ 0
    · rw [if_neg (show ¬ 0 < D 126 y by clear e1 e2; omega)] at hv
      rw [← g1, b_X12_nextBrought_2]
      simp only [z_cd, i10, i11, dnn, rdU, eW, eU, tzC_w, w_shp, w_ptr, Nat.beq_refl, nbz, nb133, nb75, nb55, nb67, n133a, n133b, n75a, n75b, aT, aR, oT, oR, oF, oG, kT, kF, bI, bL, bR, b0, Classical.not_not, not_true_eq_false, not_false_eq_true, and_self, and_true, true_and, ↓reduceIte, decide_true, decide_false, Nat.reduceEqDiff, Nat.reduceLT, Nat.reduceLeDiff, Int.reduceEq, c, hy, hy2, hy3, q, e1, e2, hv]
    · rw [if_pos (show 0 < D 126 y by clear e1 e2; omega)] at hv
      rw [← g1, b_X12_nextBrought_2]
      simp only [z_cd, i10, i11, dnn, rdU, eW, eU, tzC_w, w_shp, w_ptr, Nat.beq_refl, nbz, nb133, nb75, nb55, nb67, n133a, n133b, n75a, n75b, aT, aR, oT, oR, oF, oG, kT, kF, bI, bL, bR, b0, Classical.not_not, not_true_eq_false, not_false_eq_true, and_self, and_true, true_and, ↓reduceIte, decide_true, decide_false, Nat.reduceEqDiff, Nat.reduceLT, Nat.reduceLeDiff, Int.reduceEq, c, hy, hy2, hy3, q, e1, e2, hv]
set_option maxRecDepth 100000 in
set_option maxHeartbeats 1000000 in
theorem q_259 (d L n : Nat) (D : Nat → Int → Int) (le : ∀ v : Int, 0 ≤ v → v < 16 → D 129 v ≤ 100000000) : ∀ (j : Nat) (y best : Int), 0 ≤ y → y + j = 8 → Nrq 8 100000000 (D 127) (D 129) y best → ∃ r, tqrun tqP (d + 1) tqc_X12_nextBrought 259 [vR 81, vU, vI best, vI (8 + y), vU] [] (tzW D L n) = some (some (vI r), tzW D L n) ∧ Nrq 8 100000000 (D 127) (D 129) 8 r
  | 0, y, best, y0, yj, h => by
    have c : 16 ≤ 8 + y := by omega
    have e : y = 8 := by omega
    rw [e] at h
    refine ⟨best, ?_, h⟩
    rw [b_X12_nextBrought_259]
    simp only [z_cd, i10, i11, dnn, rdU, eW, eU, tzC_w, w_shp, w_ptr, Nat.beq_refl, nbz, nb133, nb75, nb55, nb67, n133a, n133b, n75a, n75b, aT, aR, oT, oR, oF, oG, kT, kF, bI, bL, bR, b0, Classical.not_not, not_true_eq_false, not_false_eq_true, and_self, and_true, true_and, ↓reduceIte, decide_true, decide_false, Nat.reduceEqDiff, Nat.reduceLT, Nat.reduceLeDiff, Int.reduceEq, c]
  | j + 1, y, best, y0, yj, h => by
    have c : ¬ 16 ≤ 8 + y := by omega
    have hy : tqib y 8 = true := tqib_y y0 (by omega)
    have hy2 : tqib (8 + y) 16 = true := tqib_y (by omega) (by omega)
    have ly := le (8 + y) (by omega) (by omega)
    have e2 : w32 (8 + y - 8) = y := (w32_i (by omega) (by omega)).trans (by omega)
    have e1 : w32 (8 + y + 1) = 8 + (y + 1) := (w32_i (by clear e2; omega) (by clear e2; omega)).trans (by clear e2; omega)
    by_cases c1 : D 127 y ≤ 0
    · obtain ⟨r, r1, r2⟩ := q_259 d L n D le j (y + 1) best (by clear e1 e2; omega) (by clear e1 e2; omega) (Nr_n h (Or.inl c1))
      refine ⟨r, ?_, r2⟩
      rw [← r1, b_X12_nextBrought_259]
      simp only [z_cd, i10, i11, dnn, rdU, eW, eU, tzC_w, w_shp, w_ptr, Nat.beq_refl, nbz, nb133, nb75, nb55, nb67, n133a, n133b, n75a, n75b, aT, aR, oT, oR, oF, oG, kT, kF, bI, bL, bR, b0, Classical.not_not, not_true_eq_false, not_false_eq_true, and_self, and_true, true_and, ↓reduceIte, decide_true, decide_false, Nat.reduceEqDiff, Nat.reduceLT, Nat.reduceLeDiff, Int.reduceEq, c, hy, c1, e1, e2]
    · by_cases c2 : D 129 (8 + y) = 100000000
      · obtain ⟨r, r1, r2⟩ := q_259 d L n D le j (y + 1) best (by clear e1 e2; omega) (by clear e1 e2; omega) (Nr_n h (Or.inr c2))
        refine ⟨r, ?_, r2⟩
        have g2 : (100000000 : Int) ≤ 100000000 := by decide
        rw [← r1, b_X12_nextBrought_259]
        simp only [z_cd, i10, i11, dnn, rdU, eW, eU, tzC_w, w_shp, w_ptr, Nat.beq_refl, nbz, nb133, nb75, nb55, nb67, n133a, n133b, n75a, n75b, aT, aR, oT, oR, oF, oG, kT, kF, bI, bL, bR, b0, Classical.not_not, not_true_eq_false, not_false_eq_true, and_self, and_true, true_and, ↓reduceIte, decide_true, decide_false, Nat.reduceEqDiff, Nat.reduceLT, Nat.reduceLeDiff, Int.reduceEq, c, hy, hy2, c1, c2, g2, e1, e2]
      · have g2 : ¬ 100000000 ≤ D 129 (8 + y) := by clear e1 e2; omega
        by_cases c3 : best = -9
        · have k := Nr_y y0 (show (0 : Int) ≤ 8 by decide) h (by clear e1 e2; omega) c2 (Or.inl c3)
          obtain ⟨r, r1, r2⟩ := q_259 d L n D le j (y + 1) (8 + y) (by clear e1 e2; omega) (by clear e1 e2; omega) k
          refine ⟨r, ?_, r2⟩
          have c4 : (-9 : Int) < 0 := by decide
          rw [← r1, b_X12_nextBrought_259]
          simp only [z_cd, i10, i11, dnn, rdU, eW, eU, tzC_w, w_shp, w_ptr, Nat.beq_refl, nbz, nb133, nb75, nb55, nb67, n133a, n133b, n75a, n75b, aT, aR, oT, oR, oF, oG, kT, kF, bI, bL, bR, b0, Classical.not_not, not_true_eq_false, not_false_eq_true, and_self, and_true, true_and, ↓reduceIte, decide_true, decide_false, Nat.reduceEqDiff, Nat.reduceLT, Nat.reduceLeDiff, Int.reduceEq, c, hy, hy2, c1, g2, c3, c4, e1, e2]
        · have h16 : 8 ≤ best ∧ best < 16 := by
            rcases h with ⟨h1, _⟩ | ⟨h1, _⟩
            · exact absurd h1 c3
            · clear e1 e2; omega
          have hbest : tqib best 16 = true := tqib_y (by clear e1 e2; omega) (by clear e1 e2; omega)
          have c5 : ¬ best < 0 := by clear e1 e2; omega
          by_cases c4 : D 129 best ≤ D 129 (8 + y)
          · obtain ⟨r, r1, r2⟩ := q_259 d L n D le j (y + 1) best (by clear e1 e2; omega) (by clear e1 e2; omega) (Nr_s h c3 c4)
            refine ⟨r, ?_, r2⟩
            rw [← r1, b_X12_nextBrought_259]
            simp only [z_cd, i10, i11, dnn, rdU, eW, eU, tzC_w, w_shp, w_ptr, Nat.beq_refl, nbz, nb133, nb75, nb55, nb67, n133a, n133b, n75a, n75b, aT, aR, oT, oR, oF, oG, kT, kF, bI, bL, bR, b0, Classical.not_not, not_true_eq_false, not_false_eq_true, and_self, and_true, true_and, ↓reduceIte, decide_true, decide_false, Nat.reduceEqDiff, Nat.reduceLT, Nat.reduceLeDiff, Int.reduceEq, c, hy, hy2, c1, g2, c5, hbest, c4, e1, e2]
          · have k := Nr_y y0 (show (0 : Int) ≤ 8 by decide) h (by clear e1 e2; omega) c2 (Or.inr (by clear e1 e2; omega))
            obtain ⟨r, r1, r2⟩ := q_259 d L n D le j (y + 1) (8 + y) (by clear e1 e2; omega) (by clear e1 e2; omega) k
            refine ⟨r, ?_, r2⟩
            rw [← r1, b_X12_nextBrought_259]
            simp only [z_cd, i10, i11, dnn, rdU, eW, eU, tzC_w, w_shp, w_ptr, Nat.beq_refl, nbz, nb133, nb75, nb55, nb67, n133a, n133b, n75a, n75b, aT, aR, oT, oR, oF, oG, kT, kF, bI, bL, bR, b0, Classical.not_not, not_true_eq_false, not_false_eq_true, and_self, and_true, true_and, ↓reduceIte, decide_true, decide_false, Nat.reduceEqDiff, Nat.reduceLT, Nat.reduceLeDiff, Int.reduceEq, c, hy, hy2, c1, g2, c5, hbest, c4, e1, e2]
theorem q_nb (d L n : Nat) {fin E : Int → Prop} {isB : Int → Bool} {s t C l : Int → Int} {Dl m : Int} (N : Neq 8 isB E C) (so : Spo fin s E) (D : Nat → Int → Int) (cq : ∀ k : Int, 0 ≤ k → k < 64 → (D 128 k = 100000000 ∧ ¬ fin k) ∨ (D 128 k = C k ∧ fin k ∧ 0 ≤ C k ∧ C k ≤ 16320)) (fl : Flo E C s t (D 125) (D 126) (D 127) m) (la : Laq 8 E C t (D 125) (D 126) (D 127) l Dl) :
    ∃ D' r, tqden tqP (d + 1) n_X12_nextBrought [vR 81] (tzW D L n) = some (some (vI r), tzW D' L n) ∧ Of29 D D' ∧ Bfq 16 100000000 (Arq 8 E C (D 125)) (Rtq (D 126)) l (D' 129) (D' 130) ∧ Fxq 100000000 (Arq 8 E C (D 125)) (D' 129) ∧ Nrq 8 100000000 (D 127) (D' 129) 8 r := by
  obtain ⟨D1, g1, g2, g3⟩ := q_n2 d L n 8 0 D (by omega) (by omega) (fun z z0 z1 => by omega)
  have ok : Okq 16 (Arq 8 E C (D 125)) l := ok_of N (M := 16) (by decide) la.1
  have l0 : ∀ v : Int, 0 ≤ v → v < 16 → 0 ≤ l v := fun v v0 v1 => la.2.2.1 v v0 (by omega)
  have hsp : ∀ a : Int, Rtq (D 126) a → 0 < s a := fun a r => by
    have q := fl.2.1 a r.1.1 r.1.2
    have k : 0 ≤ rwq (D 125) a := zs_n (fun b p q => (fl.1 a b r.1.1 r.1.2 p q).1)
    have r2 := r.2
    omega
  have xE : ∀ k : Int, 0 ≤ k → k < 64 → 0 < D 125 k → E k ∧ fin k := fun k k0 k1 c => by
    have ek : 8 * (k / 8) + k % 8 = k := by omega
    have r := (fl.1 (k / 8) (k % 8) (by omega) (by omega) (by omega) (by omega)).2
    rw [ek] at r
    exact ⟨r c, ((so k k0 k1).mp (r c)).2⟩
  obtain ⟨bf, bw⟩ := bf_init (M := 16) (NV := 100000000) (by decide) (Ar := Arq 8 E C (D 125)) (Rt := Rtq (D 126)) (l := l) (far := D1 129) (via := D1 130) (fun v v0 v1 r => la.2.1 v r.1.1 r.1.2 r.2) (fun v v0 v1 => by
    have v2 : v < 16 := v1
    by_cases c : v < 8
    · exact (g3 v v0 c).2.2.1
    · have q := (g3 (v - 8) (by omega) (by omega)).2.2.2
      rw [show 8 + (v - 8) = v by omega] at q
      exact q) (fun v v0 v1 => by
    have v2 : v < 16 := v1
    by_cases c : v < 8
    · have e := (g3 v v0 c).1
      by_cases c2 : 0 < D 126 v
      · rw [if_pos c2] at e
        exact Or.inl ⟨⟨⟨v0, c⟩, c2⟩, e⟩
      · rw [if_neg c2] at e
        exact Or.inr ⟨fun h => c2 h.2, e⟩
    · have q := (g3 (v - 8) (by omega) (by omega)).2.1
      rw [show 8 + (v - 8) = v by omega] at q
      exact Or.inr ⟨fun h => c h.1.2, q⟩)
  have cq1 : Cqr fin C (D 125) D1 := Cqr_f ⟨cq, rfl⟩ g2
  obtain ⟨D2, r1, r2, r3, r4⟩ := q_67 d L n so hsp xE ok l0 ((prq (D1 129) 16).toNat + 1) D1 (by omega) cq1 bf
  have of2 := Of29_t g2 r2
  obtain ⟨r, w1, w2⟩ := q_259 d L n D2 (fun v v0 v1 => r3.1 v v0 v1) 8 0 (-9) (by omega) (by omega) (Or.inl ⟨rfl, fun b p q => by omega⟩)
  rw [Of29_f of2 127 (by decide) (by decide)] at w2
  refine ⟨D2, r, ?_, of2, r3, r4, w2⟩
  rw [dn_X12_nextBrought, b_X12_nextBrought_0, g1, r1]
  exact w1
