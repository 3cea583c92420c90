/-! ===== pool: the class's share, whole ===== -/
noncomputable def Cpq (D : Nat → Int → Int) (now : Int) (k : Int) : Int := erq D 0 (k / 8) now (k % 8) - now
abbrev Fpq (D : Nat → Int → Int) (now : Int) (k : Int) : Prop := erq D 0 (k / 8) now (k % 8) ≠ 2147483647
def sPq (S T : Int → Int) (a : Int) : Int := spq (S a) (T a)
def Epc (D : Nat → Int → Int) (now : Int) (S T : Int → Int) (k : Int) : Prop := 0 < sPq S T (k / 8) ∧ 0 < sPq T S (k % 8) ∧ Fpq D now k
def Epr (D : Nat → Int → Int) (now : Int) (S T : Int → Int) (k : Int) : Prop := 0 < sPq S T (k / 8) ∧ Fpq D now k
def isBc (S T : Int → Int) (y : Int) : Bool := decide (0 < sPq T S y)
theorem isBc_e (S T : Int → Int) (y : Int) : (if isBc S T y = true then (1 : Int) else 0) = if 0 < sPq T S y then 1 else 0 := by
  unfold isBc
  by_cases c : 0 < sPq T S y
  · rw [if_pos c, if_pos (decide_eq_true c)]
  · rw [if_neg c, if_neg (by rw [decide_eq_false c]; decide)]
theorem sP_b {S T : Int → Int} (rS : ∀ i : Int, 0 ≤ i → i < 8 → 0 ≤ S i ∧ S i ≤ 30) (rT : ∀ i : Int, 0 ≤ i → i < 8 → 0 ≤ T i ∧ T i ≤ 30) {a : Int} (a0 : 0 ≤ a) (a1 : a < 8) : (0 ≤ sPq S T a ∧ sPq S T a ≤ 30) ∧ (0 < sPq S T a → sPq T S a = 0) := by
  have p := rS a a0 a1
  have q := rT a a0 a1
  have h1 := sp_c (S a) (T a)
  have h2 := sp_c (T a) (S a)
  unfold sPq
  omega
theorem Cp_b {D : Nat → Int → Int} (wy : WY D) (hd : ∀ y : Int, 0 ≤ y → y < 8 → D 88 (9 * y) = 0) {now : Int} (w0 : 0 ≤ now) (w1 : now ≤ 100000) {k : Int} (k0 : 0 ≤ k) (k1 : k < 64) (f : Fpq D now k) : 0 ≤ Cpq D now k ∧ Cpq D now k ≤ 16320 := by
  have eb := er_b wy (show 0 ≤ k % 8 by omega) (show k % 8 < 8 by omega) (er_ok wy hd (bt := 0) (Or.inl rfl) (show 0 ≤ k / 8 by omega) (show k / 8 < 8 by omega) w0 (show now ≤ 10000000 by omega) (show 0 ≤ k % 8 by omega) (show k % 8 < 8 by omega))
  unfold Fpq at f
  unfold Cpq
  omega
theorem Np_c {D : Nat → Int → Int} (wy : WY D) (hd : ∀ y : Int, 0 ≤ y → y < 8 → D 88 (9 * y) = 0) {now : Int} (w0 : 0 ≤ now) (w1 : now ≤ 100000) {S T : Int → Int} (rS : ∀ i : Int, 0 ≤ i → i < 8 → 0 ≤ S i ∧ S i ≤ 30) (rT : ∀ i : Int, 0 ≤ i → i < 8 → 0 ≤ T i ∧ T i ≤ 30) : Neq 0 (isBc S T) (Epc D now S T) (Cpq D now) := by
  refine ⟨Or.inl rfl, fun a b a0 a1 v0 v1 e => ?_⟩
  obtain ⟨e1, e2, e3⟩ := e
  have cb := Cp_b wy hd w0 w1 (show 0 ≤ 8 * a + b by omega) (show 8 * a + b < 64 by omega) e3
  rw [show (8 * a + b) / 8 = a by omega] at e1
  rw [show (8 * a + b) % 8 = b by omega] at e2
  have q := (sP_b rS rT a0 a1).2 e1
  refine ⟨decide_eq_false (by omega), ?_, fun h => ?_, cb⟩
  · rw [Int.zero_add]; exact decide_eq_true e2
  · rw [Int.zero_add] at h
    rw [h] at q
    omega
theorem Np_r {D : Nat → Int → Int} (wy : WY D) (hd : ∀ y : Int, 0 ≤ y → y < 8 → D 88 (9 * y) = 0) {now : Int} (w0 : 0 ≤ now) (w1 : now ≤ 100000) (S T : Int → Int) : Neq 8 isBr (Epr D now S T) (Cpq D now) := by
  refine ⟨Or.inr rfl, fun a b a0 a1 v0 v1 e => ?_⟩
  have cb := Cp_b wy hd w0 w1 (show 0 ≤ 8 * a + b by omega) (show 8 * a + b < 64 by omega) e.2
  exact ⟨isBr_n a1, isBr_y (by omega), by omega, cb⟩
/-- nothing brought yet -/
theorem fl_0 {E : Int → Prop} {C s t x sp lk : Int → Int} {m : Int} (hx : ∀ a b : Int, 0 ≤ a → a < 8 → 0 ≤ b → b < 8 → x (8 * a + b) = 0) (h1 : ∀ a : Int, 0 ≤ a → a < 8 → sp a = s a ∧ 0 ≤ s a) (h2 : ∀ b : Int, 0 ≤ b → b < 8 → lk b = t b ∧ 0 ≤ t b) (hm : m = 0) : Flo E C s t x sp lk m := by
  have z : zs8 (fun _ => 0) = 0 := rfl
  refine ⟨fun a b a0 a1 v0 v1 => ⟨by rw [hx a b a0 a1 v0 v1]; omega, fun c => by rw [hx a b a0 a1 v0 v1] at c; omega⟩, fun a a0 a1 => ?_, fun b v0 v1 => ?_, ?_⟩
  · have e : rwq x a = 0 := (zs_c (g := fun _ => 0) (fun b v0 v1 => hx a b a0 a1 v0 v1)).trans z
    have q := h1 a a0 a1
    omega
  · have e : clq x b = 0 := (zs_c (g := fun _ => 0) (fun a a0 a1 => hx a b a0 a1 v0 v1)).trans z
    have q := h2 b v0 v1
    omega
  · have e : csq C x = 0 := (tt_c (y := fun _ => 0) (fun a b a0 a1 v0 v1 => by
      show C (8 * a + b) * x (8 * a + b) = 0
      rw [hx a b a0 a1 v0 v1, Int.mul_zero])).trans rfl
    rw [e, hm]
theorem la_0 {o : Int} {isB : Int → Bool} {E : Int → Prop} {C t x sp lk : Int → Int} (N : Neq o isB E C) (hx : ∀ a b : Int, 0 ≤ a → a < 8 → 0 ≤ b → b < 8 → x (8 * a + b) = 0) (hk : ∀ b : Int, 0 ≤ b → b < 8 → lk b = t b) : Laq o E C t x sp lk (fun _ => 0) 0 := by
  refine ⟨fun p q w a => ?_, fun _ _ _ _ => rfl, fun _ _ _ => Int.le_refl _, fun _ _ _ _ => Int.le_refl _, fun b v0 v1 c => Int.le_refl _, Int.le_refl _⟩
  obtain ⟨a, b, ⟨⟨a0, a1⟩, v0, v1⟩, e, c⟩ := a
  have n := (N.2 a b a0 a1 v0 v1 e).2.2.2
  rcases c with ⟨c1, c2, c3⟩ | ⟨c1, c2, c3, c4⟩
  · show (0 : Int) ≤ 0 + w
    omega
  · rw [hx a b a0 a1 v0 v1] at c4
    omega
def Ofp (D D' : Nat → Int → Int) : Prop := ∀ (b : Nat) (j : Int), ¬ (41 ≤ b ∧ b ≤ 49) → D' b j = D b j
theorem tzF_o (D : Nat → Int → Int) {a b : Nat} (lo hi x : Int) (h : b ≠ a) (k : Int) : tzF D a lo hi x b k = D b k := if_neg h
theorem tzF_s (D : Nat → Int → Int) (a : Nat) {lo hi : Int} (x : Int) {k : Int} (h : lo ≤ k ∧ k < hi) : tzF D a lo hi x a k = x := (if_pos rfl).trans (if_pos h)
set_option maxRecDepth 100000 in
set_option maxHeartbeats 1000000 in
theorem p_meas (d L n : Nat) (D : Nat → Int → Int) (wy : WY D) (hd : ∀ y : Int, 0 ≤ y → y < 8 → D 88 (9 * y) = 0) {now : Int} (w0 : 0 ≤ now) (w1 : now ≤ 100000) :
    ∃ D', tqden tqP (d + 4) n_X3_measure [vR 41, vR 7, vI now] (tzW D L n) = some (none, tzW D' L n) ∧ Of45 D D' ∧ ∀ k : Int, 0 ≤ k → k < 64 → D' 45 k = if 0 < D 42 (k / 8) ∧ D 44 (k % 8) ≠ 0 ∧ Fpq D now k then Cpq D now k else 2147483647 := by
  obtain ⟨X, hX⟩ : ∃ X, X = tzF D 45 0 ((64 : Nat) : Int) 2147483647 := ⟨_, rfl⟩
  have hf := s_fill (d + 2) D L n 45 64 2147483647 (by decide) (fun _ => rfl)
  rw [← hX] at hf
  have Xo : ∀ (b : Nat) (i : Int), b ≠ 45 → X b i = D b i := fun b i p => by rw [hX]; exact tzF_o _ _ _ _ p _
  obtain ⟨D', r1, r2, r3⟩ := p_m11 d L n X (WY_fr (fun b i h => Xo b i (by omega)) wy) (fun y a b => (Xo 88 _ (by decide)).trans (hd y a b)) w0 w1 8 0 X (by omega) (by omega) (fun _ _ _ _ => rfl)
  refine ⟨D', ?_, fun b i p q => (r2 b i p q).trans (Xo b i p), fun k k0 k1 => ?_⟩
  · rw [dn_X3_measure, b_X3_measure_0]
    simp only [z_cd, i10, i11, dnn, rdU, eW, eU, tzC_w, w_shp, w_ptr, Nat.beq_refl, nbz, nb133, nb75, nb55, nb67, n133a, n133b, n75a, n75b, aT, aR, oT, oR, oF, oG, kT, kF, bI, bL, bR, b0, Classical.not_not, not_true_eq_false, not_false_eq_true, and_self, and_true, true_and, ↓reduceIte, decide_true, decide_false, Nat.reduceEqDiff, Nat.reduceLT, Nat.reduceLeDiff, Int.reduceEq, hf]
    exact r1
  · have ee : erq X 0 (k / 8) now (k % 8) = erq D 0 (k / 8) now (k % 8) := er_fr (fun b i p q => Xo b i (by omega)) 0 (k / 8) now (k % 8)
    have e45 : X 45 k = 2147483647 := by rw [hX]; exact tzF_s _ _ _ ⟨k0, k1⟩
    rw [r3 k k0 k1, Xo 42 _ (by decide), Xo 44 _ (by decide), ee, e45]
    by_cases c : 0 < D 42 (k / 8) ∧ D 44 (k % 8) ≠ 0 ∧ Fpq D now k
    · rw [if_pos c, if_pos (show 0 ≤ k / 8 ∧ 0 < D 42 (k / 8) ∧ D 44 (k % 8) ≠ 0 ∧ erq D 0 (k / 8) now (k % 8) ≠ 2147483647 from ⟨by omega, c⟩)]
      rfl
    · rw [if_neg c, if_neg (show ¬ (0 ≤ k / 8 ∧ 0 < D 42 (k / 8) ∧ D 44 (k % 8) ≠ 0 ∧ erq D 0 (k / 8) now (k % 8) ≠ 2147483647) from fun t => c t.2)]
set_option maxRecDepth 100000 in
set_option maxHeartbeats 1000000 in
theorem p_share (d L n : Nat) {ka kb : Nat} (hka : ka < 6) (hkb : kb < 6) (S T : Int → Int) (rS : ∀ i : Int, 0 ≤ i → i < 8 → 0 ≤ S i ∧ S i ≤ 30) (rT : ∀ i : Int, 0 ≤ i → i < 8 → 0 ≤ T i ∧ T i ≤ 30) (D : Nat → Int → Int) (wy : WY D) (hd : ∀ y : Int, 0 ≤ y → y < 8 → D 88 (9 * y) = 0) {now : Int} (w0 : 0 ≤ now) (w1 : now ≤ 100000) (hS : ∀ i : Int, 0 ≤ i → i < 8 → D (56 + 2 * ka) i = S i) (hT : ∀ i : Int, 0 ≤ i → i < 8 → D (56 + 2 * kb) i = T i) :
    ∃ D', tqden tqP (d + 5) n_X3_share [vR 41, vR 7, vI now, vR (56 + 2 * ka), vR (56 + 2 * kb)] (tzW D L n) = some (none, tzW D' L n) ∧ Ofp D D' ∧ Flo (Epc D now S T) (Cpq D now) (sPq S T) (sPq T S) (D' 46) (D' 42) (D' 43) (D' 41 8) ∧ ∃ l, Laq 0 (Epc D now S T) (Cpq D now) (sPq T S) (D' 46) (D' 42) (D' 43) l 1000000000000 := by
  have N := Np_c wy hd w0 w1 rS rT
  obtain ⟨D1, f1, f2, f3⟩ := p_sh8 (d + 4) L n hka hkb S T rS rT now 8 0 (tzU D 41 8 0) (by omega) (by omega) (fun i i0 i1 => by rw [tzU_o _ _ _ _ (by omega)]; exact hS i i0 i1) (fun i i0 i1 => by rw [tzU_o _ _ _ _ (by omega)]; exact hT i i0 i1) (fun z z0 z1 => by omega)
  have o1 : ∀ (b : Nat) (i : Int), ¬ (41 ≤ b ∧ b ≤ 44) → D1 b i = D b i := fun b i p => (f2 b i (by omega) (by omega) (by omega)).trans (tzU_o _ _ _ _ (by omega))
  obtain ⟨X, hX⟩ : ∃ X, X = tzF D1 46 0 ((64 : Nat) : Int) 0 := ⟨_, rfl⟩
  have hf := s_fill (d + 3) D1 L n 46 64 0 (by decide) (fun _ => rfl)
  rw [← hX] at hf
  have Xo : ∀ (b : Nat) (i : Int), b ≠ 46 → X b i = D1 b i := fun b i p => by rw [hX]; exact tzF_o _ _ _ _ p _
  have Xd : ∀ (b : Nat) (i : Int), ¬ (41 ≤ b ∧ b ≤ 44) → b ≠ 46 → X b i = D b i := fun b i p q => (Xo b i q).trans (o1 b i p)
  obtain ⟨Y, g1, g2, g3⟩ := p_meas d L n X (WY_fr (fun b i h => Xd b i (by omega) (by omega)) wy) (fun y a b => (Xd 88 _ (by decide) (by decide)).trans (hd y a b)) w0 w1
  have ee : ∀ k : Int, erq X 0 (k / 8) now (k % 8) = erq D 0 (k / 8) now (k % 8) := fun k => er_fr (fun b i p q => Xd b i (by omega) (by omega)) 0 (k / 8) now (k % 8)
  have eF : ∀ k : Int, Fpq X now k ↔ Fpq D now k := fun k => by unfold Fpq; rw [ee k]
  have eC : ∀ k : Int, Cpq X now k = Cpq D now k := fun k => by unfold Cpq; rw [ee k]
  have y42 : ∀ z : Int, 0 ≤ z → z < 8 → Y 42 z = sPq S T z := fun z z0 z1 => ((g2 42 z (by decide) (by decide)).trans (Xo 42 z (by decide))).trans (f3 z z0 z1).1
  have y43 : ∀ z : Int, 0 ≤ z → z < 8 → Y 43 z = sPq T S z := fun z z0 z1 => ((g2 43 z (by decide) (by decide)).trans (Xo 43 z (by decide))).trans (f3 z z0 z1).2.1
  have y44 : ∀ z : Int, 0 ≤ z → z < 8 → Y 44 z = if 0 < sPq T S z then 1 else 0 := fun z z0 z1 => ((g2 44 z (by decide) (by decide)).trans (Xo 44 z (by decide))).trans (f3 z z0 z1).2.2
  have y46 : ∀ a b : Int, 0 ≤ a → a < 8 → 0 ≤ b → b < 8 → Y 46 (8 * a + b) = 0 := fun a b a0 a1 v0 v1 => (g2 46 _ (by decide) (by decide)).trans (by rw [hX]; exact tzF_s _ _ _ ⟨by omega, by omega⟩)
  have y41 : Y 41 8 = 0 := by
    rw [g2 41 8 (by decide) (by decide), Xo 41 8 (by decide), f2 41 8 (by decide) (by decide) (by decide), tzU_s]
  have bS := fun (a : Int) (a0 : 0 ≤ a) (a1 : a < 8) => sP_b rS rT a0 a1
  have bT := fun (a : Int) (a0 : 0 ≤ a) (a1 : a < 8) => sP_b rT rS a0 a1
  have lk : zs8 (Y 43) ≤ 240 := by
    have t8 : zs8 (Y 43) ≤ zs8 (fun _ => 30) := zs_le (fun b p q => by rw [y43 b p q]; exact (bT b p q).1.2)
    have t9 : zs8 (fun _ => 30) = 240 := rfl
    omega
  have ps : Pst (Epc D now S T) (Cpq D now) (sPq S T) (sPq T S) (isBc S T) Y := by
    refine ⟨fun k k0 k1 => ?_, fl_0 y46 (fun a a0 a1 => ⟨y42 a a0 a1, (bS a a0 a1).1.1⟩) (fun b v0 v1 => ⟨y43 b v0 v1, (bT b v0 v1).1.1⟩) y41, ⟨_, 0, by decide, la_0 N y46 y43⟩, fun y y0 y1 => by rw [y44 y y0 y1, isBc_e]⟩
    have x42 : X 42 (k / 8) = sPq S T (k / 8) := (Xo 42 _ (by decide)).trans (f3 (k / 8) (by omega) (by omega)).1
    have x44 : X 44 (k % 8) = if 0 < sPq T S (k % 8) then 1 else 0 := (Xo 44 _ (by decide)).trans (f3 (k % 8) (by omega) (by omega)).2.2
    rw [g3 k k0 k1, eC k]
    by_cases c : Epc D now S T k
    · have x44' : X 44 (k % 8) ≠ 0 := by rw [x44, if_pos c.2.1]; decide
      rw [if_pos (show 0 < X 42 (k / 8) ∧ X 44 (k % 8) ≠ 0 ∧ Fpq X now k from ⟨by rw [x42]; exact c.1, x44', (eF k).mpr c.2.2⟩)]
      have cb := Cp_b wy hd w0 w1 k0 k1 c.2.2
      exact Or.inr ⟨rfl, c, by omega⟩
    · rw [if_neg (show ¬ (0 < X 42 (k / 8) ∧ X 44 (k % 8) ≠ 0 ∧ Fpq X now k) from fun t => by
        refine c ⟨by rw [← x42]; exact t.1, ?_, (eF k).mp t.2.2⟩
        by_cases q : 0 < sPq T S (k % 8)
        · exact q
        · have u := t.2.1
          rw [x44, if_neg q] at u
          exact absurd rfl u)]
      exact Or.inl ⟨rfl, c⟩
  obtain ⟨D', r1, r2, r3, r4⟩ := p_117 (d + 2) L n N (fun a a0 a1 => ⟨(bS a a0 a1).1.2, fun h => decide_eq_false (by have := (bS a a0 a1).2 h; omega)⟩) (fun b v0 v1 => ⟨(bT b v0 v1).1.2, fun h => decide_eq_true h⟩) 240 0 Y (by omega) lk ps
  refine ⟨D', ?_, fun b i p => ?_, r3, r4⟩
  · rw [dn_X3_share, b_X3_share_0]
    simp only [z_cd, i10, i11, dnn, rdU, eW, eU, tzC_w, w_shp, w_ptr, Nat.beq_refl, nbz, nb133, nb75, nb55, nb67, n133a, n133b, n75a, n75b, aT, aR, oT, oR, oF, oG, kT, kF, bI, bL, bR, b0, Classical.not_not, not_true_eq_false, not_false_eq_true, and_self, and_true, true_and, ↓reduceIte, decide_true, decide_false, Nat.reduceEqDiff, Nat.reduceLT, Nat.reduceLeDiff, Int.reduceEq, f1]
    rw [b_X3_share_100]
    simp only [z_cd, i10, i11, dnn, rdU, eW, eU, tzC_w, w_shp, w_ptr, Nat.beq_refl, nbz, nb133, nb75, nb55, nb67, n133a, n133b, n75a, n75b, aT, aR, oT, oR, oF, oG, kT, kF, bI, bL, bR, b0, Classical.not_not, not_true_eq_false, not_false_eq_true, and_self, and_true, true_and, ↓reduceIte, decide_true, decide_false, Nat.reduceEqDiff, Nat.reduceLT, Nat.reduceLeDiff, Int.reduceEq, hf, g1]
    exact r1
  · rw [r2 b i (by omega) (by omega) (by omega) (by omega) (by omega) (by omega), g2 b i (by omega) (by omega)]
    exact Xd b i (by omega) (by omega)
