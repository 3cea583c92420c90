/-! ===== pool: the reference brings ===== -/
def isBr (y : Int) : Bool := decide (8 ≤ y)
theorem isBr_y {y : Int} (h : 8 ≤ y) : isBr y = true := decide_eq_true h
theorem isBr_n {y : Int} (h : y < 8) : isBr y = false := decide_eq_false (by omega)
theorem w8m {u y K : Int} (u0 : 0 ≤ u) (u1 : u < 16) (y0 : 0 ≤ y) (y1 : y < 16) (e : 8 * u + y - 8 = K) : w32 (w32 (w32 (8 * u) + y) - 8) = K := by
  have e1 : w32 (8 * u) = 8 * u := w32_i (by omega) (by omega)
  have e2 : w32 (8 * u + y) = 8 * u + y := w32_i (by clear e1; omega) (by clear e1; omega)
  have e3 : w32 (8 * u + y - 8) = 8 * u + y - 8 := w32_i (by clear e1 e2; omega) (by clear e1 e2; omega)
  rw [e1, e2, e3, e]
theorem bo_1 {E : Int → Prop} {C x l far via : Int → Int} {Rt : Int → Prop} (bf : Bfq 16 100000000 (Arq 8 E C x) Rt l far via) : ∀ (j : Nat) (y : Int), 0 ≤ y → y < 16 → far y ≠ 100000000 → Cnq via j y → boq 8 isBr x via 1 j y
  | 0, _, _, _, _, _ => trivial
  | j + 1, y, y0, y1, f, cn => by
    obtain ⟨⟨u0, u1⟩, fu, w, ar, _⟩ := bf.2.2.2.2.1 y y0 y1 f cn.1
    refine ⟨fun h => ?_, bo_1 bf j (via y) u0 u1 fu cn.2⟩
    obtain ⟨a, b, ⟨⟨a0, a1⟩, z0, z1⟩, e, k⟩ := ar
    have nb : ¬ isBr y = true := by rw [h]; decide
    have y8 : y < 8 := by
      by_cases c : 8 ≤ y
      · exact absurd (isBr_y c) nb
      · omega
    rcases k with ⟨k1, k2, _⟩ | ⟨k1, k2, _, k4⟩
    · omega
    · have ek : kq 8 isBr y (via y) = 8 * a + b := (if_neg nb).trans (by omega)
      rw [ek]
      omega
set_option maxRecDepth 100000 in
set_option maxHeartbeats 1000000 in
theorem q_w315 (d L n : Nat) {E : Int → Prop} {C x0 V F l : Int → Int} {Rt : Int → Prop} (bf : Bfq 16 100000000 (Arq 8 E C x0) Rt l F V) (lack sum : Int) : ∀ (j : Nat) (y : Int) (st : Nat) (D : Nat → Int → Int), D 130 = V → Cnq V j y → 0 ≤ y → y < 16 → F y ≠ 100000000 → (∀ k : Int, 0 ≤ k → k < 64 → -(30 + (st : Int)) ≤ D 125 k ∧ D 125 k ≤ 30 + (st : Int)) → st + j ≤ 15 →
    ∃ D', tqrun tqP (d + 1) tqc_X12_pool 315 [vR 81, vU, vU, vI lack, vI sum, vU, vI y, vU] [] (tzW D L n) = tqrun tqP (d + 1) tqc_X12_pool 315 [vR 81, vU, vU, vI lack, vI sum, vU, vI (rtq V j y), vU] [] (tzW D' L n) ∧ Ofq 125 D D' ∧ D' 125 = agq 8 isBr 1 V j y (D 125)
  | 0, y, st, D, hV, cn, y0, y1, f, bd, sj => ⟨D, rfl, Ofq_r _ _, rfl⟩
  | j + 1, y, st, D, hV, cn, y0, y1, f, bd, sj => by
    have hy : tqib y 16 = true := tqib_y y0 (by omega)
    obtain ⟨⟨u0, u1⟩, fu, w, ar, _⟩ := bf.2.2.2.2.1 y y0 y1 f cn.1
    obtain ⟨u, hu⟩ : ∃ u, u = V y := ⟨_, rfl⟩
    have eu : D 130 y = u := by rw [hV, hu]
    have cn2 : Cnq V j u := by rw [hu]; exact cn.2
    rw [← hu] at u0 u1 fu ar
    have u16 : u < 16 := u1
    have un : ¬ u < 0 := by omega
    have sr : rtq V (j + 1) y = rtq V j u := by rw [hu]; rfl
    obtain ⟨a, b, ⟨⟨a0, a1⟩, z0, z1⟩, e, k⟩ := ar
    have hk : tqib (8 * a + b) 64 = true := tqib_y (by omega) (by omega)
    have bk := bd (8 * a + b) (by omega) (by omega)
    rcases k with ⟨k1, k2, _⟩ | ⟨k1, k2, _, k4⟩
    · have yb : isBr y = true := isBr_y (by omega)
      have y8 : ¬ y < 8 := by omega
      have ek : kq 8 isBr y u = 8 * a + b := (if_pos yb).trans (by omega)
      have ag : agq 8 isBr 1 V (j + 1) y (D 125) = agq 8 isBr 1 V j u (upq (D 125) (8 * a + b) (D 125 (8 * a + b) + 1)) := by
        show agq 8 isBr 1 V j (V y) (upq (D 125) (kq 8 isBr y (V y)) (if isBr y = true then D 125 (kq 8 isBr y (V y)) + 1 else D 125 (kq 8 isBr y (V y)) - 1)) = _
        rw [← hu, ek, if_pos yb]
      obtain ⟨D', r1, r2, r3⟩ := q_w315 d L n bf lack sum j u (st + 1) (tzU D 125 (8 * a + b) (D 125 (8 * a + b) + 1)) (by rw [tzU_f _ _ _ (by decide)]; exact hV) cn2 u0 u1 fu (fun i i0 i1 => by
        have q := bd i i0 i1
        by_cases g : i = 8 * a + b
        · rw [g, tzU_s]; omega
        · rw [tzU_k _ _ _ _ g]; omega) (by omega)
      rw [tzU_q] at r3
      refine ⟨D', ?_, Ofq_t (Ofq_U _ _ _ _) r2, by rw [r3, ag]⟩
      have e3 : w32 (D 125 (8 * a + b) + 1) = D 125 (8 * a + b) + 1 := w32_i (by omega) (by omega)
      have e2 : w32 (w32 (w32 (8 * u) + y) - 8) = 8 * a + b := w8m u0 u16 y0 y1 (by clear e3; omega)
      rw [sr, ← r1, b_X12_pool_315]
      simp only [z_cd, i10, i11, dnn, rdU, eW, eU, tzC_w, w_shp, w_ptr, Nat.beq_refl, nbz, nb133, nb75, nb55, nb67, n133a, n133b, n75a, n75b, aT, aR, oT, oR, oF, oG, kT, kF, bI, bL, bR, b0, Classical.not_not, not_true_eq_false, not_false_eq_true, and_self, and_true, true_and, ↓reduceIte, decide_true, decide_false, Nat.reduceEqDiff, Nat.reduceLT, Nat.reduceLeDiff, Int.reduceEq, hy, eu, un, y8, e2]
      rw [b_X12_pool_370]
      simp only [z_cd, i10, i11, dnn, rdU, eW, eU, tzC_w, w_shp, w_ptr, Nat.beq_refl, nbz, nb133, nb75, nb55, nb67, n133a, n133b, n75a, n75b, aT, aR, oT, oR, oF, oG, kT, kF, bI, bL, bR, b0, Classical.not_not, not_true_eq_false, not_false_eq_true, and_self, and_true, true_and, ↓reduceIte, decide_true, decide_false, Nat.reduceEqDiff, Nat.reduceLT, Nat.reduceLeDiff, Int.reduceEq, hk, y8, e3]
    · have yb : isBr y = false := isBr_n (by omega)
      have nb : ¬ isBr y = true := by rw [yb]; decide
      have y8 : y < 8 := by omega
      have ek : kq 8 isBr y u = 8 * a + b := (if_neg nb).trans (by omega)
      have ag : agq 8 isBr 1 V (j + 1) y (D 125) = agq 8 isBr 1 V j u (upq (D 125) (8 * a + b) (D 125 (8 * a + b) - 1)) := by
        show agq 8 isBr 1 V j (V y) (upq (D 125) (kq 8 isBr y (V y)) (if isBr y = true then D 125 (kq 8 isBr y (V y)) + 1 else D 125 (kq 8 isBr y (V y)) - 1)) = _
        rw [← hu, ek, if_neg nb]
      obtain ⟨D', r1, r2, r3⟩ := q_w315 d L n bf lack sum j u (st + 1) (tzU D 125 (8 * a + b) (D 125 (8 * a + b) - 1)) (by rw [tzU_f _ _ _ (by decide)]; exact hV) cn2 u0 u1 fu (fun i i0 i1 => by
        have q := bd i i0 i1
        by_cases g : i = 8 * a + b
        · rw [g, tzU_s]; omega
        · rw [tzU_k _ _ _ _ g]; omega) (by omega)
      rw [tzU_q] at r3
      refine ⟨D', ?_, Ofq_t (Ofq_U _ _ _ _) r2, by rw [r3, ag]⟩
      have e3 : w32 (D 125 (8 * a + b) + -1) = D 125 (8 * a + b) - 1 := (w32_i (by omega) (by omega)).trans (by omega)
      have e2 : w32 (w32 (w32 (8 * y) + u) - 8) = 8 * a + b := w8m y0 y1 u0 u16 (by clear e3; omega)
      rw [sr, ← r1, b_X12_pool_315]
      simp only [z_cd, i10, i11, dnn, rdU, eW, eU, tzC_w, w_shp, w_ptr, Nat.beq_refl, nbz, nb133, nb75, nb55, nb67, n133a, n133b, n75a, n75b, aT, aR, oT, oR, oF, oG, kT, kF, bI, bL, bR, b0, Classical.not_not, not_true_eq_false, not_false_eq_true, and_self, and_true, true_and, ↓reduceIte, decide_true, decide_false, Nat.reduceEqDiff, Nat.reduceLT, Nat.reduceLeDiff, Int.reduceEq, hy, eu, un, y8, e2]
      rw [b_X12_pool_370]
      simp only [z_cd, i10, i11, dnn, rdU, eW, eU, tzC_w, w_shp, w_ptr, Nat.beq_refl, nbz, nb133, nb75, nb55, nb67, n133a, n133b, n75a, n75b, aT, aR, oT, oR, oF, oG, kT, kF, bI, bL, bR, b0, Classical.not_not, not_true_eq_false, not_false_eq_true, and_self, and_true, true_and, ↓reduceIte, decide_true, decide_false, Nat.reduceEqDiff, Nat.reduceLT, Nat.reduceLeDiff, Int.reduceEq, hk, y8, e3]
def Of5q (D D' : Nat → Int → Int) : Prop := ∀ (b : Nat) (j : Int), ¬ (125 ≤ b ∧ b ≤ 127) → ¬ (129 ≤ b ∧ b ≤ 130) → D' b j = D b j
def Prt (fin E : Int → Prop) (C s t : Int → Int) (D : Nat → Int → Int) (m to : Int) : Prop := (∀ k : Int, 0 ≤ k → k < 64 → (D 128 k = 100000000 ∧ ¬ fin k) ∨ (D 128 k = C k ∧ fin k ∧ 0 ≤ C k ∧ C k ≤ 16320)) ∧ Flo E C s t (D 125) (D 126) (D 127) m ∧ ∃ l Dl, Dl ≤ 1000000000000 ∧ Laq 8 E C t (D 125) (D 126) (D 127) l Dl ∧ Bfq 16 100000000 (Arq 8 E C (D 125)) (Rtq (D 126)) l (D 129) (D 130) ∧ Fxq 100000000 (Arq 8 E C (D 125)) (D 129) ∧ Nrq 8 100000000 (D 127) (D 129) 8 to
set_option maxRecDepth 100000 in
set_option maxHeartbeats 1000000 in
theorem q_277 (d L n : Nat) {fin E : Int → Prop} {C s t : Int → Int} (N : Neq 8 isBr E C) (so : Spo fin s E) (hs : ∀ a : Int, 0 ≤ a → a < 8 → s a ≤ 30) (ht : ∀ b : Int, 0 ≤ b → b < 8 → t b ≤ 30) : ∀ (j : Nat) (D : Nat → Int → Int) (m to : Int), zs8 (D 127) ≤ j → Prt fin E C s t D m to →
    ∃ D' m', tqrun tqP (d + 2) tqc_X12_pool 277 [vR 81, vU, vU, vI (zs8 (D 127)), vI m, vI to, vU, vU] [] (tzW D L n) = some (some (vI (zs8 (D' 127))), tzW (tzU D' 81 2 m') L n) ∧ Of5q D D' ∧ Flo E C s t (D' 125) (D' 126) (D' 127) m' ∧ ∃ l, Laq 8 E C t (D' 125) (D' 126) (D' 127) l 1000000000000 := by
  intro j
  induction j with
  | zero =>
    intro D m to z ps
    obtain ⟨p1, p2, l, Dl, dB, la, bf, fx, nr⟩ := ps
    rcases nr with ⟨n2, n3⟩ | ⟨n2, n3, n4, n5⟩
    · obtain ⟨l', la'⟩ := la_end (M := 16) (by decide) (Or.inr rfl) la dB bf fx n3
      have c : (-9 : Int) < 0 := by decide
      refine ⟨D, m, ?_, fun _ _ _ _ => rfl, p2, l', la'⟩
      rw [b_X12_pool_277]
      simp only [z_cd, i10, i11, dnn, rdU, eW, eU, tzC_w, w_shp, w_ptr, Nat.beq_refl, nbz, nb133, nb75, nb55, nb67, n133a, n133b, n75a, n75b, aT, aR, oT, oR, oF, oG, kT, kF, bI, bL, bR, b0, Classical.not_not, not_true_eq_false, not_false_eq_true, and_self, and_true, true_and, ↓reduceIte, decide_true, decide_false, Nat.reduceEqDiff, Nat.reduceLT, Nat.reduceLeDiff, Int.reduceEq, n2, c, q_ask]
    · have q := zs_0 (fun b q r => (p2.2.2.1 b q r).2) (show zs8 (D 127) ≤ 0 by omega) (to - 8) (by omega) (by omega)
      omega
  | succ j ih =>
    intro D m to z ps
    obtain ⟨p1, p2, l, Dl, dB, la, bf, fx, nr⟩ := ps
    rcases nr with ⟨n2, n3⟩ | ⟨n2, n3, n4, n5⟩
    · obtain ⟨l', la'⟩ := la_end (M := 16) (by decide) (Or.inr rfl) la dB bf fx n3
      have c : (-9 : Int) < 0 := by decide
      refine ⟨D, m, ?_, fun _ _ _ _ => rfl, p2, l', la'⟩
      rw [b_X12_pool_277]
      simp only [z_cd, i10, i11, dnn, rdU, eW, eU, tzC_w, w_shp, w_ptr, Nat.beq_refl, nbz, nb133, nb75, nb55, nb67, n133a, n133b, n75a, n75b, aT, aR, oT, oR, oF, oG, kT, kF, bI, bL, bR, b0, Classical.not_not, not_true_eq_false, not_false_eq_true, and_self, and_true, true_and, ↓reduceIte, decide_true, decide_false, Nat.reduceEqDiff, Nat.reduceLT, Nat.reduceLeDiff, Int.reduceEq, n2, c, q_ask]
    · obtain ⟨b, hb⟩ : ∃ b, to = 8 + b := ⟨to - 8, by omega⟩
      rw [hb] at n2 n3 n4 n5
      rw [show 8 + b - 8 = b by omega] at n3
      have z0 : 0 ≤ b := by omega
      have z1 : b < 8 := by omega
      obtain ⟨i, cn⟩ := bf.2.2.1 (8 + b) (by omega) (by omega) n4
      have ib := cn_b bf (by omega) (by omega) n4 cn
      have hR : ∀ v : Int, Rtq (D 126) v → isBr v = false := fun v r => isBr_n r.1.2
      have er : ∀ (i : Nat) (z : Int), itzq (D 130) i z = rtq (D 130) i z := by
        intro i
        induction i with
        | zero => intro z; rfl
        | succ i ih => intro z; exact ih (D 130 z)
      have io := it_ok bf i i (8 + b) (by omega) (by omega) n4 cn (Nat.le_refl _)
      obtain ⟨r, hr⟩ : ∃ r, r = rtq (D 130) i (8 + b) := ⟨_, rfl⟩
      rw [er, ← hr] at io
      obtain ⟨⟨i0, i1⟩, fr, k, k1, k2⟩ := io
      have ke : k = 0 := by omega
      rw [ke] at k2
      obtain ⟨rr, _⟩ := bf.2.2.2.1 r i0 i1 fr k2
      have rs := rr.2
      have rb := rr.1
      have st := st_step N (M := 16) (by decide) hR p2 la bf fx z0 z1 n3 (isBr_y (by omega)) n4 n5 cn (many := 1) (by omega) (by omega) (bo_1 bf i (8 + b) (by omega) (by omega) n4 cn) (by rw [← hr]; omega)
      rw [← hr, Int.one_mul] at st
      obtain ⟨g1, g2, l', g3⟩ := st
      have fb := bf.2.1 (8 + b) (by omega) (by omega) n4
      have fle := bf.1 (8 + b) (by omega) (by omega)
      have fb2 := fn_b 100000000 (D 129) 16
      have l0 := la.2.2.1 (8 + b) (by omega) (by omega)
      have cb := cs_b N p2
      have tt := tt_t p2
      have tl := lk_t p2
      have t8 : zs8 t ≤ zs8 (fun _ => 30) := zs_le (fun b p q => ht b p q)
      have t9 : zs8 (fun _ => 30) = 240 := rfl
      obtain ⟨X, hX⟩ : ∃ X, X = tzU D 127 b (D 127 b - 1) := ⟨_, rfl⟩
      have Xo : Ofq 127 D X := by rw [hX]; exact Ofq_U _ _ _ _
      have X125 : X 125 = D 125 := by funext v; exact Xo 125 v (by decide)
      have X126 : X 126 = D 126 := by funext v; exact Xo 126 v (by decide)
      have X130 : X 130 = D 130 := by funext v; exact Xo 130 v (by decide)
      have X127 : X 127 = upq (D 127) b (D 127 b - 1) := by rw [hX, tzU_q]
      have lk' : zs8 (X 127) = zs8 (D 127) - 1 := by
        rw [X127, zs_upd _ z0 z1]; omega
      obtain ⟨Y, y1, y2, y3⟩ := q_w315 (d + 1) L n bf (zs8 (X 127)) (m + D 129 (8 + b)) i (8 + b) 0 X X130 cn (by omega) (by omega) n4 (fun k k0 k1 => by
        rw [X125]
        have ek : 8 * (k / 8) + k % 8 = k := by omega
        have p := rw_one p2 (a := k / 8) (b := k % 8) (by omega) (by omega) (by omega) (by omega)
        have q := (p2.1 (k / 8) (k % 8) (by omega) (by omega) (by omega) (by omega)).1
        have w := hs (k / 8) (by omega) (by omega)
        rw [ek] at p q
        omega) (by omega)
      rw [← hr] at y1
      rw [X125] at y3
      have Y126 : Y 126 = D 126 := by
        rw [← X126]; funext v; exact y2 126 v (by decide)
      have Y127 : Y 127 = upq (D 127) b (D 127 b - 1) := by
        rw [← X127]; funext v; exact y2 127 v (by decide)
      have Yr : Y 126 r = D 126 r := by rw [Y126]
      have Yc : Y 130 r = -9 := (y2 130 r (by decide)).trans ((Xo 130 r (by decide)).trans k2)
      obtain ⟨Z, hZ⟩ : ∃ Z, Z = tzU Y 126 r (D 126 r - 1) := ⟨_, rfl⟩
      have Z126 : Z 126 = upq (D 126) r (D 126 r - 1) := by rw [hZ, tzU_q, Y126]
      have Z127 : Z 127 = upq (D 127) b (D 127 b - 1) := by rw [hZ, tzU_f _ _ _ (by decide), Y127]
      have Z125 : Z 125 = agq 8 isBr 1 (D 130) i (8 + b) (D 125) := by rw [hZ, tzU_f _ _ _ (by decide), y3]
      have Zo : ∀ (c : Nat) (v : Int), ¬ (125 ≤ c ∧ c ≤ 127) → Z c v = D c v := fun c v h => by
        rw [hZ, tzU_o _ _ _ _ (show c ≠ 126 by omega), y2 c v (by omega), Xo c v (by omega)]
      have q1 : ∀ k : Int, 0 ≤ k → k < 64 → (Z 128 k = 100000000 ∧ ¬ fin k) ∨ (Z 128 k = C k ∧ fin k ∧ 0 ≤ C k ∧ C k ≤ 16320) := fun k k0 k1 => by
        rw [Zo 128 k (by omega)]; exact p1 k k0 k1
      rw [← Z125, ← Z126, ← Z127] at g1 g3
      obtain ⟨W, to', w1, w2, w3, w4, w5⟩ := q_nb d L n N so Z q1 g1 g3
      have W125 := Of29_f w2 125 (by decide) (by decide)
      have W126 := Of29_f w2 126 (by decide) (by decide)
      have W127 := Of29_f w2 127 (by decide) (by decide)
      have lkZ : zs8 (W 127) = zs8 (X 127) := by rw [W127, Z127, X127]
      obtain ⟨D', m', a1, a2, a3, a4⟩ := ih W (m + D 129 (8 + b)) to' (by rw [lkZ, lk']; omega) ⟨fun k k0 k1 => by rw [w2 128 k (by decide) (by decide)]; exact q1 k k0 k1, by rw [W125, W126, W127]; exact g1, l', D 129 (8 + b), by omega, by rw [W125, W126, W127]; exact g3, by rw [W125, W126]; exact w3, by rw [W125]; exact w4, by rw [W127]; exact w5⟩
      rw [lkZ] at a1
      refine ⟨D', m', ?_, fun c v h1 h2 => ?_, a3, a4⟩
      · have ne : ¬ 8 + b < 0 := by omega
        have h16 : tqib (8 + b) 16 = true := tqib_y (by omega) (by omega)
        have h8 : tqib b 8 = true := tqib_y z0 (by omega)
        have hr8 : tqib r 8 = true := tqib_y rb.1 (by omega)
        have hr16 : tqib r 16 = true := tqib_y rb.1 (by omega)
        have n9 : (-9 : Int) < 0 := by decide
        have sr := hs r rb.1 rb.2
        have sq := p2.2.1 r rb.1 rb.2
        have sk : 0 ≤ rwq (D 125) r := zs_n (fun c p q => (p2.1 r c rb.1 rb.2 p q).1)
        have tq := p2.2.2.1 b z0 z1
        have tk : 0 ≤ clq (D 125) b := zs_n (fun c p q => (p2.1 c b p q z0 z1).1)
        have tb := ht b z0 z1
        have e1 : w32 (8 + b - 8) = b := (w32_i (by omega) (by omega)).trans (by omega)
        have e2 : w32 (D 127 b - 1) = D 127 b - 1 := w32_i (by clear e1; omega) (by clear e1; omega)
        have e3 : w32 (zs8 (D 127) + -1) = zs8 (X 127) := (w32_i (by clear e1 e2; omega) (by clear e1 e2; omega)).trans (by clear e1 e2; omega)
        have e4 : w32 (m + D 129 (8 + b)) = m + D 129 (8 + b) := w32_i (by clear e1 e2 e3; omega) (by clear e1 e2 e3; omega)
        have e5 : w32 (D 126 r - 1) = D 126 r - 1 := w32_i (by clear e1 e2 e3 e4; omega) (by clear e1 e2 e3 e4; omega)
        rw [b_X12_pool_277]
        simp only [z_cd, i10, i11, dnn, rdU, eW, eU, tzC_w, w_shp, w_ptr, Nat.beq_refl, nbz, nb133, nb75, nb55, nb67, n133a, n133b, n75a, n75b, aT, aR, oT, oR, oF, oG, kT, kF, bI, bL, bR, b0, Classical.not_not, not_true_eq_false, not_false_eq_true, and_self, and_true, true_and, ↓reduceIte, decide_true, decide_false, Nat.reduceEqDiff, Nat.reduceLT, Nat.reduceLeDiff, Int.reduceEq, hb, ne, h16, e1, h8, e2, e3, e4]
        rw [← hX, y1, b_X12_pool_315]
        simp only [z_cd, i10, i11, dnn, rdU, eW, eU, tzC_w, w_shp, w_ptr, Nat.beq_refl, nbz, nb133, nb75, nb55, nb67, n133a, n133b, n75a, n75b, aT, aR, oT, oR, oF, oG, kT, kF, bI, bL, bR, b0, Classical.not_not, not_true_eq_false, not_false_eq_true, and_self, and_true, true_and, ↓reduceIte, decide_true, decide_false, Nat.reduceEqDiff, Nat.reduceLT, Nat.reduceLeDiff, Int.reduceEq, hr16, Yc, n9, hr8, Yr, e5]
        rw [← hZ, w1]
        simp only [bI]
        exact a1
      · rw [a2 c v h1 h2, w2 c v (by omega) (by omega), Zo c v h1]
