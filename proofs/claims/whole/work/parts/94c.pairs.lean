/-! ===== pairs: ways to part a set ===== -/
def lo6 (S : Int) : Int := if hbq S 0 then 0 else if hbq S 1 then 1 else if hbq S 2 then 2 else if hbq S 3 then 3 else if hbq S 4 then 4 else if hbq S 5 then 5 else 0
def mnq (S a b : Int) : Int := jand (jand S (jxor (jshl 1 a) (-1))) (jxor (jshl 1 b) (-1))
def updq (g : Int → Int) (a b : Int) : Int → Int := fun k => if k = b then a else if k = a then b else g k
/-- the ways to part, in the order of the class: first the least one's partner -/
def pmb (R : Int → List (List (Int × Int))) (S a : Int) : Nat → Int → List (List (Int × Int))
  | 0, _ => []
  | j + 1, b => (if hbq S b then (R (mnq S a b)).map (fun M => (a, b) :: M) else []) ++ pmb R S a j (b + 1)
def pmq : Nat → Int → List (List (Int × Int))
  | 0, S => if S = 0 then [[]] else []
  | f + 1, S => if S = 0 then [[]] else pmb (pmq f) S (lo6 S) (5 - lo6 S).toNat (lo6 S + 1)
def vlq (E : Int → Int → Int) : Int → List (Int × Int) → Int
  | w, [] => w
  | w, (a, b) :: M => vlq E (jmax w (E a b)) M
def asq : (Int → Int) → List (Int × Int) → Int → Int
  | g, [] => g
  | g, (a, b) :: M => asq (updq g a b) M
def stq (s : Int × (Int → Int)) (l : Int × (Int → Int)) : Int × (Int → Int) := if l.1 < s.1 then l else s
/-- one after the other, the first of the least stays -/
def flq (E : Int → Int → Int) (w : Int) (g : Int → Int) : List (List (Int × Int)) → Int × (Int → Int) → Int × (Int → Int)
  | [], s => s
  | M :: r, s => flq E w g r (stq s (vlq E w M, asq g M))
theorem flq_app (E : Int → Int → Int) (w : Int) (g : Int → Int) : ∀ (x y : List (List (Int × Int))) (s : Int × (Int → Int)), flq E w g (x ++ y) s = flq E w g y (flq E w g x s)
  | [], _, _ => rfl
  | M :: x, y, s => flq_app E w g x y _
theorem flq_map (E : Int → Int → Int) (w : Int) (g : Int → Int) (a b : Int) : ∀ (x : List (List (Int × Int))) (s : Int × (Int → Int)), flq E w g (x.map (fun M => (a, b) :: M)) s = flq E (jmax w (E a b)) (updq g a b) x s
  | [], _ => rfl
  | M :: x, s => flq_map E w g a b x _
theorem vlq_ge (E : Int → Int → Int) : ∀ (M : List (Int × Int)) (w : Int), w ≤ vlq E w M
  | [], w => Int.le_refl _
  | (a, b) :: M, w => by
    have h := vlq_ge E M (jmax w (E a b))
    have j := jmax_c w (E a b)
    show w ≤ vlq E (jmax w (E a b)) M
    omega
theorem flq_no (E : Int → Int → Int) {w : Int} (g : Int → Int) : ∀ (x : List (List (Int × Int))) (s : Int × (Int → Int)), s.1 ≤ w → flq E w g x s = s
  | [], _, _ => rfl
  | M :: x, s, h => by
    have v := vlq_ge E M w
    have e : stq s (vlq E w M, asq g M) = s := if_neg (show ¬ vlq E w M < s.1 by omega)
    show flq E w g x (stq s (vlq E w M, asq g M)) = s
    rw [e]
    exact flq_no E g x s h
set_option maxRecDepth 100000 in
theorem mn_dec : ∀ S : Fin 64, ∀ a b : Fin 6, (0 ≤ mnq ((S.val : Nat) : Int) ((a.val : Nat) : Int) ((b.val : Nat) : Int) ∧ mnq ((S.val : Nat) : Int) ((a.val : Nat) : Int) ((b.val : Nat) : Int) < 64) ∧ jand ((S.val : Nat) : Int) (jxor (jor (jshl 1 ((a.val : Nat) : Int)) (jshl 1 ((b.val : Nat) : Int))) (-1)) = mnq ((S.val : Nat) : Int) ((a.val : Nat) : Int) ((b.val : Nat) : Int) := by decide +kernel
set_option maxRecDepth 100000 in
theorem mn_dec2 : ∀ S : Fin 64, ∀ a b k : Fin 6, decide (hbq (mnq ((S.val : Nat) : Int) ((a.val : Nat) : Int) ((b.val : Nat) : Int)) ((k.val : Nat) : Int)) = (decide (hbq ((S.val : Nat) : Int) ((k.val : Nat) : Int)) && decide (k ≠ a) && decide (k ≠ b)) := by decide +kernel
set_option maxRecDepth 100000 in
theorem lo_dec : ∀ S : Fin 64, (0 ≤ lo6 ((S.val : Nat) : Int) ∧ lo6 ((S.val : Nat) : Int) ≤ 5) ∧ (¬ ((S.val : Nat) : Int) = 0 → hbq ((S.val : Nat) : Int) (lo6 ((S.val : Nat) : Int)) ∧ ∀ k : Fin 6, ((k.val : Nat) : Int) < lo6 ((S.val : Nat) : Int) → ¬ hbq ((S.val : Nat) : Int) ((k.val : Nat) : Int)) := by decide +kernel
theorem mn_r {S a b : Int} (S0 : 0 ≤ S) (S1 : S < 64) (a0 : 0 ≤ a) (a1 : a < 6) (h0 : 0 ≤ b) (h1 : b < 6) : (0 ≤ mnq S a b ∧ mnq S a b < 64) ∧ jand S (jxor (jor (jshl 1 a) (jshl 1 b)) (-1)) = mnq S a b := by
  obtain ⟨p, rfl⟩ : ∃ p : Nat, S = p := ⟨S.toNat, by omega⟩
  obtain ⟨q, rfl⟩ : ∃ q : Nat, a = q := ⟨a.toNat, by omega⟩
  obtain ⟨r, rfl⟩ : ∃ r : Nat, b = r := ⟨b.toNat, by omega⟩
  exact mn_dec ⟨p, by omega⟩ ⟨q, by omega⟩ ⟨r, by omega⟩
theorem mn_h {S a b k : Int} (S0 : 0 ≤ S) (S1 : S < 64) (a0 : 0 ≤ a) (a1 : a < 6) (h0 : 0 ≤ b) (h1 : b < 6) (k0 : 0 ≤ k) (k1 : k < 6) : hbq (mnq S a b) k ↔ (hbq S k ∧ k ≠ a) ∧ k ≠ b := by
  obtain ⟨p, rfl⟩ : ∃ p : Nat, S = p := ⟨S.toNat, by omega⟩
  obtain ⟨q, rfl⟩ : ∃ q : Nat, a = q := ⟨a.toNat, by omega⟩
  obtain ⟨r, rfl⟩ : ∃ r : Nat, b = r := ⟨b.toNat, by omega⟩
  obtain ⟨u, rfl⟩ : ∃ u : Nat, k = u := ⟨k.toNat, by omega⟩
  have h := mn_dec2 ⟨p, by omega⟩ ⟨q, by omega⟩ ⟨r, by omega⟩ ⟨u, by omega⟩
  have e1 : ((⟨u, by omega⟩ : Fin 6) ≠ ⟨q, by omega⟩) ↔ (((u : Nat) : Int) ≠ ((q : Nat) : Int)) := ⟨fun h e => h (Fin.ext (by show u = q; omega)), fun h e => h (by have := congrArg Fin.val e; simp only at this; omega)⟩
  have e2 : ((⟨u, by omega⟩ : Fin 6) ≠ ⟨r, by omega⟩) ↔ (((u : Nat) : Int) ≠ ((r : Nat) : Int)) := ⟨fun h e => h (Fin.ext (by show u = r; omega)), fun h e => h (by have := congrArg Fin.val e; simp only at this; omega)⟩
  rw [← e1, ← e2]
  have h2 := congrArg (fun x => x = true) h
  simp only [Bool.and_eq_true, decide_eq_true_eq] at h2
  exact iff_of_eq h2
theorem lo_p {S : Int} (S0 : 0 ≤ S) (S1 : S < 64) : (0 ≤ lo6 S ∧ lo6 S ≤ 5) ∧ (¬ S = 0 → hbq S (lo6 S) ∧ ∀ k : Int, 0 ≤ k → k < lo6 S → ¬ hbq S k) := by
  obtain ⟨p, rfl⟩ : ∃ p : Nat, S = p := ⟨S.toNat, by omega⟩
  have h := lo_dec ⟨p, by omega⟩
  refine ⟨h.1, fun z => ⟨(h.2 z).1, fun k k0 k1 => ?_⟩⟩
  obtain ⟨u, rfl⟩ : ∃ u : Nat, k = u := ⟨k.toNat, by omega⟩
  have b : lo6 ((p : Nat) : Int) ≤ 5 := h.1.2
  exact (h.2 z).2 ⟨u, by omega⟩ k1
/-! the class: leastOf, partOut -/
set_option maxRecDepth 100000 in
set_option maxHeartbeats 1000000 in
theorem p_lo2 (d : Nat) (S : Int) (m : tqM) : ∀ (j : Nat) (k : Int), 0 ≤ k → k + j = 6 → (∀ x : Int, 0 ≤ x → x < k → ¬ hbq S x) → ∃ r, tqrun tqP (d + 2) tqc_X6_leastOf 2 [vI S, vI k] [] m = some (some (vI r), m) ∧ ((0 ≤ r ∧ r < 6 ∧ hbq S r ∧ ∀ x : Int, 0 ≤ x → x < r → ¬ hbq S x) ∨ (r = 0 ∧ ∀ x : Int, 0 ≤ x → x < 6 → ¬ hbq S x))
  | 0, k, k0, kj, h => by
    have c : 6 ≤ k := by omega
    refine ⟨0, ?_, Or.inr ⟨rfl, fun x a b => h x a (by omega)⟩⟩
    rw [b_X6_leastOf_2]
    simp only [z_cd, i10, i11, dnn, rdU, eW, eU, tzC_w, w_shp, w_ptr, Nat.beq_refl, nbz, nb133, nb75, nb55, nb67, n133a, n133b, n75a, n75b, aT, aR, oT, oR, oF, oG, kT, kF, bI, bL, bR, b0, Classical.not_not, not_true_eq_false, not_false_eq_true, and_self, and_true, true_and, ↓reduceIte, decide_true, decide_false, Nat.reduceEqDiff, Nat.reduceLT, Nat.reduceLeDiff, Int.reduceEq, c]
  | j + 1, k, k0, kj, h => by
    have c : ¬ 6 ≤ k := by omega
    by_cases q : hbq S k
    · refine ⟨k, ?_, Or.inl ⟨k0, by omega, q, h⟩⟩
      rw [b_X6_leastOf_2]
      simp only [z_cd, i10, i11, dnn, rdU, eW, eU, tzC_w, w_shp, w_ptr, Nat.beq_refl, nbz, nb133, nb75, nb55, nb67, n133a, n133b, n75a, n75b, aT, aR, oT, oR, oF, oG, kT, kF, bI, bL, bR, b0, Classical.not_not, not_true_eq_false, not_false_eq_true, and_self, and_true, true_and, ↓reduceIte, decide_true, decide_false, Nat.reduceEqDiff, Nat.reduceLT, Nat.reduceLeDiff, Int.reduceEq, c, p_hasBit_y _ _ q]
    · obtain ⟨r, r1, r2⟩ := p_lo2 d S m j (k + 1) (by omega) (by omega) (fun x a b => by
        by_cases e : x = k
        · rw [e]; exact q
        · exact h x a (by omega))
      refine ⟨r, ?_, r2⟩
      have e1 := w1z k0 (by omega)
      rw [← r1, b_X6_leastOf_2]
      simp only [z_cd, i10, i11, dnn, rdU, eW, eU, tzC_w, w_shp, w_ptr, Nat.beq_refl, nbz, nb133, nb75, nb55, nb67, n133a, n133b, n75a, n75b, aT, aR, oT, oR, oF, oG, kT, kF, bI, bL, bR, b0, Classical.not_not, not_true_eq_false, not_false_eq_true, and_self, and_true, true_and, ↓reduceIte, decide_true, decide_false, Nat.reduceEqDiff, Nat.reduceLT, Nat.reduceLeDiff, Int.reduceEq, c, p_hasBit_n _ _ q, e1]
theorem p_least (d : Nat) {S : Int} (S0 : 0 ≤ S) (S1 : S < 64) (z : ¬ S = 0) (m : tqM) : tqden tqP (d + 2) n_X6_leastOf [vI S] m = some (some (vI (lo6 S)), m) := by
  obtain ⟨r, r1, r2⟩ := p_lo2 d S m 6 0 (by omega) (by omega) (fun x a b => by omega)
  have l := lo_p S0 S1
  have l2 := l.2 z
  have e : r = lo6 S := by
    rcases r2 with ⟨a, b, c, e⟩ | ⟨a, b⟩
    · by_cases q : r < lo6 S
      · exact absurd c (l2.2 r a q)
      · by_cases q2 : lo6 S < r
        · exact absurd l2.1 (e _ l.1.1 q2)
        · omega
    · exact absurd l2.1 (b _ l.1.1 (by omega))
  rw [dn_X6_leastOf, b_X6_leastOf_0, r1, e]
def PPo (b : Nat) (j : Int) : Prop := b ≠ 28 ∧ b ≠ 29 ∧ ¬ (b = 23 ∧ j = 8)
/-- what the class holds: the least end and the partners -/
def Stq (D : Nat → Int → Int) (s : Int × (Int → Int)) : Prop := D 23 8 = s.1 ∧ ∀ k : Int, 0 ≤ k → k < 6 → D 29 k = s.2 k
def EOk (D : Nat → Int → Int) (E : Int → Int → Int) : Prop := ∀ a b : Int, 0 ≤ a → a < b → b < 6 → D 27 (6 * a + b) = E a b
def PO (d L n f : Nat) (E : Int → Int → Int) : Prop := ∀ (S w : Int) (g : Int → Int) (D : Nat → Int → Int) (s : Int × (Int → Int)), 0 ≤ S → S < 64 → EOk D E → Stq D s → w < s.1 → (∀ k : Int, 0 ≤ k → k < 6 → ¬ hbq S k → D 28 k = g k) →
  ∃ D', tqden tqP (d + 3 * f + 3) n_X6_partOut [vR 23, vI S, vI w, vI (3 - (f : Int))] (tzW D L n) = some (none, tzW D' L n) ∧ Sm PPo D D' ∧ Stq D' (flq E w g (pmq f S) s) ∧ ∀ k : Int, 0 ≤ k → k < 6 → ¬ hbq S k → D' 28 k = g k
theorem hb_z {k : Int} (k0 : 0 ≤ k) (k1 : k < 6) : ¬ hbq 0 k := hb_0 k0 (by omega)
set_option maxRecDepth 100000 in
set_option maxHeartbeats 1000000 in
theorem po_leaf (d L n f : Nat) (E : Int → Int → Int) (dd : Int) (w : Int) (g : Int → Int) (D : Nat → Int → Int) (s : Int × (Int → Int)) (st : Stq D s) (hw : w < s.1) (hg : ∀ k : Int, 0 ≤ k → k < 6 → ¬ hbq 0 k → D 28 k = g k) (e : pmq f 0 = [[]]) :
  ∃ D', tqden tqP (d + 1) n_X6_partOut [vR 23, vI 0, vI w, vI dd] (tzW D L n) = some (none, tzW D' L n) ∧ Sm PPo D D' ∧ Stq D' (flq E w g (pmq f 0) s) ∧ ∀ k : Int, 0 ≤ k → k < 6 → ¬ hbq 0 k → D' 28 k = g k := by
  refine ⟨tzC (tzU D 23 8 w) 28 0 29 0 6, ?_, ?_, ?_, ?_⟩
  · have c1 : (0 : Int) ≤ 0 := by decide
    have c2 : (0 : Int) ≤ 6 := by decide
    have c3 : (0 : Int) + 6 ≤ ((6 : Nat) : Int) := by decide
    rw [dn_X6_partOut, b_X6_partOut_0]
    simp only [z_cd, i10, i11, dnn, rdU, eW, eU, tzC_w, w_shp, w_ptr, Nat.beq_refl, nbz, nb133, nb75, nb55, nb67, n133a, n133b, n75a, n75b, aT, aR, oT, oR, oF, oG, kT, kF, bI, bL, bR, b0, Classical.not_not, not_true_eq_false, not_false_eq_true, and_self, and_true, true_and, ↓reduceIte, decide_true, decide_false, Nat.reduceEqDiff, Nat.reduceLT, Nat.reduceLeDiff, Int.reduceEq, c1, c2, c3]
  · exact Sm_C (fun k _ _ => by unfold PPo; omega) (Sm_U (by unfold PPo; omega) (Sm_r _ _))
  · rw [e]
    show Stq _ (stq s (w, g))
    have e2 : stq s (w, g) = (w, g) := if_pos hw
    rw [e2]
    refine ⟨?_, fun k k0 k1 => ?_⟩
    · show tzC (tzU D 23 8 w) 28 0 29 0 6 23 8 = w
      unfold tzC
      rw [if_neg (by decide), tzU_s]
    · show tzC (tzU D 23 8 w) 28 0 29 0 6 29 k = g k
      unfold tzC
      rw [if_pos rfl, if_pos (by omega), tzU_o _ _ _ _ (by decide), show (0 : Int) + (k - 0) = k by omega]
      exact hg k k0 k1 (hb_z k0 k1)
  · intro k k0 k1 h
    show tzC (tzU D 23 8 w) 28 0 29 0 6 28 k = g k
    unfold tzC
    rw [if_neg (by decide), tzU_o _ _ _ _ (by decide)]
    exact hg k k0 k1 h
set_option maxRecDepth 100000 in
set_option maxHeartbeats 1000000 in
theorem po_43 (d L n f : Nat) (E : Int → Int → Int) (ih : PO d L n f E) (hf : f ≤ 2) {S : Int} (S0 : 0 ≤ S) (S1 : S < 64) (z : ¬ S = 0) (w : Int) (g : Int → Int) : ∀ (j : Nat) (b : Int) (D : Nat → Int → Int) (s : Int × (Int → Int)), lo6 S < b → b + j = 6 → EOk D E → Stq D s → (∀ k : Int, 0 ≤ k → k < 6 → ¬ hbq S k → D 28 k = g k) →
  ∃ D', tqrun tqP (d + 3 * f + 4) tqc_X6_partOut 43 [vR 23, vI S, vI w, vI (2 - (f : Int)), vI (lo6 S), vI b, vU] [] (tzW D L n) = some (none, tzW D' L n) ∧ Sm PPo D D' ∧ Stq D' (flq E w g (pmb (pmq f) S (lo6 S) j b) s) ∧ ∀ k : Int, 0 ≤ k → k < 6 → ¬ hbq S k → D' 28 k = g k
  | 0, b, D, s, ab, bj, eo, st, hg => by
    have c : 6 ≤ b := by omega
    refine ⟨D, ?_, Sm_r _ _, st, hg⟩
    rw [b_X6_partOut_43]
    simp only [z_cd, i10, i11, dnn, rdU, eW, eU, tzC_w, w_shp, w_ptr, Nat.beq_refl, nbz, nb133, nb75, nb55, nb67, n133a, n133b, n75a, n75b, aT, aR, oT, oR, oF, oG, kT, kF, bI, bL, bR, b0, Classical.not_not, not_true_eq_false, not_false_eq_true, and_self, and_true, true_and, ↓reduceIte, decide_true, decide_false, Nat.reduceEqDiff, Nat.reduceLT, Nat.reduceLeDiff, Int.reduceEq, c]
  | j + 1, b, D, s, ab, bj, eo, st, hg => by
    have c : ¬ 6 ≤ b := by omega
    have la := lo_p S0 S1
    have lb := la.2 z
    have hb1 : tqib (6 * lo6 S + b) 36 = true := tqib_y (by omega) (by omega)
    have hba : tqib (lo6 S) 6 = true := tqib_y (by omega) (by omega)
    have hbb : tqib b 6 = true := tqib_y (by omega) (by omega)
    have eE := eo (lo6 S) b la.1.1 ab (by omega)
    have wi : w32 (w32 (lo6 S * 6) + b) = 6 * lo6 S + b := by
      rw [w32_i (x := lo6 S * 6) (by omega) (by omega), w32_i (by omega) (by omega)]; omega
    have e1 := w1z (show 0 ≤ b by clear wi; omega) (by clear wi; omega)
    show ∃ D', _ ∧ _ ∧ Stq D' (flq E w g ((if hbq S b then (pmq f (mnq S (lo6 S) b)).map (fun M => (lo6 S, b) :: M) else []) ++ pmb (pmq f) S (lo6 S) j (b + 1)) s) ∧ _
    rw [flq_app]
    by_cases q : hbq S b
    · rw [if_pos q, flq_map]
      by_cases lt : s.1 ≤ jmax w (E (lo6 S) b)
      · rw [flq_no E _ _ s lt]
        obtain ⟨D', r1, r2, r3, r4⟩ := po_43 d L n f E ih hf S0 S1 z w g j (b + 1) D s (by clear wi e1; omega) (by clear wi e1; omega) eo st hg
        refine ⟨D', ?_, r2, r3, r4⟩
        have s8 := st.1
        rw [← r1, b_X6_partOut_43]
        simp only [z_cd, i10, i11, dnn, rdU, eW, eU, tzC_w, w_shp, w_ptr, Nat.beq_refl, nbz, nb133, nb75, nb55, nb67, n133a, n133b, n75a, n75b, aT, aR, oT, oR, oF, oG, kT, kF, bI, bL, bR, b0, Classical.not_not, not_true_eq_false, not_false_eq_true, and_self, and_true, true_and, ↓reduceIte, decide_true, decide_false, Nat.reduceEqDiff, Nat.reduceLT, Nat.reduceLeDiff, Int.reduceEq, c, wi, hb1, p_hasBit_y _ _ q, eE, s8, lt, e1]
      · have mr := mn_r S0 S1 la.1.1 (by clear wi e1; omega) (show 0 ≤ b by clear wi e1; omega) (by clear wi e1; omega)
        have oD : ∀ (x : Nat) (y : Int), x ≠ 28 → tzU (tzU D 28 (lo6 S) b) 28 b (lo6 S) x y = D x y := fun x y h => by rw [tzU_o _ _ _ _ h, tzU_o _ _ _ _ h]
        obtain ⟨D1, u1, u2, u3, u4⟩ := ih (mnq S (lo6 S) b) (jmax w (E (lo6 S) b)) (updq g (lo6 S) b) (tzU (tzU D 28 (lo6 S) b) 28 b (lo6 S)) s mr.1.1 mr.1.2 (fun x y x0 xy y1 => (oD 27 _ (by decide)).trans (eo x y x0 xy y1)) ⟨(oD 23 8 (by decide)).trans st.1, fun k k0 k1 => (oD 29 k (by decide)).trans (st.2 k k0 k1)⟩ (by clear wi e1; omega) (fun k k0 k1 h => by
          unfold updq
          by_cases kb : k = b
          · rw [if_pos kb, kb, tzU_s]
          · rw [if_neg kb, tzU_k _ _ _ _ kb]
            by_cases ka : k = lo6 S
            · rw [if_pos ka, ka, tzU_s]
            · rw [if_neg ka, tzU_k _ _ _ _ ka]
              refine hg k k0 k1 (fun hs => h ?_)
              rw [mn_h S0 S1 la.1.1 (by clear wi e1; omega) (by clear wi e1; omega) (by clear wi e1; omega) k0 k1]
              exact ⟨⟨hs, ka⟩, kb⟩)
        have sD : Sm PPo D D1 := Sm_t (Sm_U (by unfold PPo; omega) (Sm_U (by unfold PPo; omega) (Sm_r _ _))) u2
        obtain ⟨D', r1, r2, r3, r4⟩ := po_43 d L n f E ih hf S0 S1 z w g j (b + 1) D1 _ (by clear wi e1; omega) (by clear wi e1; omega) (fun x y x0 xy y1 => (sD 27 _ (by unfold PPo; omega)).trans (eo x y x0 xy y1)) u3 (fun k k0 k1 h => by
          have ka : k ≠ lo6 S := fun e => h (e ▸ lb.1)
          have kb : k ≠ b := fun e => h (e ▸ q)
          have := u4 k k0 k1 (fun t => h ((mn_h S0 S1 la.1.1 (by clear wi e1; omega) (by clear wi e1; omega) (by clear wi e1; omega) k0 k1).mp t).1.1)
          rw [this]
          unfold updq
          rw [if_neg kb, if_neg ka])
        refine ⟨D', ?_, Sm_t sD r2, r3, r4⟩
        have s8 := st.1
        have e3 : w32 (2 - (f : Int) + 1) = 3 - (f : Int) := (w32_i (x := 2 - (f : Int) + 1) (by clear wi e1; omega) (by clear wi e1; omega)).trans (by clear wi e1; omega)
        have em : mnq S (lo6 S) b = jand (jand S (jxor (jshl 1 (lo6 S)) (-1))) (jxor (jshl 1 b) (-1)) := rfl
        rw [em] at u1
        rw [← r1, b_X6_partOut_43]
        simp only [z_cd, i10, i11, dnn, rdU, eW, eU, tzC_w, w_shp, w_ptr, Nat.beq_refl, nbz, nb133, nb75, nb55, nb67, n133a, n133b, n75a, n75b, aT, aR, oT, oR, oF, oG, kT, kF, bI, bL, bR, b0, Classical.not_not, not_true_eq_false, not_false_eq_true, and_self, and_true, true_and, ↓reduceIte, decide_true, decide_false, Nat.reduceEqDiff, Nat.reduceLT, Nat.reduceLeDiff, Int.reduceEq, c, wi, hb1, p_hasBit_y _ _ q, eE, s8, lt, hba, hbb, e3, u1, e1]
    · rw [if_neg q]
      obtain ⟨D', r1, r2, r3, r4⟩ := po_43 d L n f E ih hf S0 S1 z w g j (b + 1) D s (by clear wi e1; omega) (by clear wi e1; omega) eo st hg
      refine ⟨D', ?_, r2, r3, r4⟩
      rw [← r1, b_X6_partOut_43]
      simp only [z_cd, i10, i11, dnn, rdU, eW, eU, tzC_w, w_shp, w_ptr, Nat.beq_refl, nbz, nb133, nb75, nb55, nb67, n133a, n133b, n75a, n75b, aT, aR, oT, oR, oF, oG, kT, kF, bI, bL, bR, b0, Classical.not_not, not_true_eq_false, not_false_eq_true, and_self, and_true, true_and, ↓reduceIte, decide_true, decide_false, Nat.reduceEqDiff, Nat.reduceLT, Nat.reduceLeDiff, Int.reduceEq, c, wi, hb1, p_hasBit_n _ _ q, e1]
set_option maxRecDepth 100000 in
set_option maxHeartbeats 1000000 in
theorem po_all (d L n : Nat) (E : Int → Int → Int) : ∀ f : Nat, f ≤ 3 → PO d L n f E
  | 0, _ => by
    intro S w g D s S0 S1 eo st hw hg
    by_cases z : S = 0
    · subst z
      exact po_leaf (d + 2) L n 0 E _ w g D s st hw hg rfl
    · refine ⟨D, ?_, Sm_r _ _, ?_, hg⟩
      · have c : ¬ (3 - ((0 : Nat) : Int)) < 3 := by omega
        rw [dn_X6_partOut, b_X6_partOut_0]
        simp only [z_cd, i10, i11, dnn, rdU, eW, eU, tzC_w, w_shp, w_ptr, Nat.beq_refl, nbz, nb133, nb75, nb55, nb67, n133a, n133b, n75a, n75b, aT, aR, oT, oR, oF, oG, kT, kF, bI, bL, bR, b0, Classical.not_not, not_true_eq_false, not_false_eq_true, and_self, and_true, true_and, ↓reduceIte, decide_true, decide_false, Nat.reduceEqDiff, Nat.reduceLT, Nat.reduceLeDiff, Int.reduceEq, z, c]
      · have e : pmq 0 S = [] := if_neg z
        rw [e]
        exact st
  | f + 1, hf => by
    intro S w g D s S0 S1 eo st hw hg
    have ih := po_all d L n E f (by omega)
    by_cases z : S = 0
    · subst z
      have e : pmq (f + 1) 0 = [[]] := if_pos rfl
      exact po_leaf (d + 3 * (f + 1) + 2) L n (f + 1) E _ w g D s st hw hg e
    · have la := lo_p S0 S1
      have e : pmq (f + 1) S = pmb (pmq f) S (lo6 S) (5 - lo6 S).toNat (lo6 S + 1) := if_neg z
      obtain ⟨D', r1, r2, r3, r4⟩ := po_43 (d + 2) L n f E (po_all (d + 2) L n E f (by omega)) (by omega) S0 S1 z w g (5 - lo6 S).toNat (lo6 S + 1) D s (by omega) (by omega) eo st hg
      rw [e]
      refine ⟨D', ?_, r2, r3, r4⟩
      have c : (3 - ((f + 1 : Nat) : Int)) < 3 := by omega
      have e2 : (3 - ((f + 1 : Nat) : Int)) = 2 - (f : Int) := by omega
      have pl := p_least (d + 3 * f + 3) S0 S1 z (tzW D L n)
      have e1 := w1z la.1.1 (show lo6 S < 1000 by omega)
      rw [dn_X6_partOut, show d + 3 * (f + 1) + 3 = (d + 3 * f + 5) + 1 by clear e1; omega, b_X6_partOut_0]
      rw [show d + 2 + 3 * f + 4 = d + 3 * f + 5 + 1 by clear e1; omega] at r1
      rw [← r1]
      simp only [z_cd, i10, i11, dnn, rdU, eW, eU, tzC_w, w_shp, w_ptr, Nat.beq_refl, nbz, nb133, nb75, nb55, nb67, n133a, n133b, n75a, n75b, aT, aR, oT, oR, oF, oG, kT, kF, bI, bL, bR, b0, Classical.not_not, not_true_eq_false, not_false_eq_true, and_self, and_true, true_and, ↓reduceIte, decide_true, decide_false, Nat.reduceEqDiff, Nat.reduceLT, Nat.reduceLeDiff, Int.reduceEq, z, c, pl, e1]
      rw [e2]
