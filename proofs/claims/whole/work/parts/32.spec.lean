set_option maxRecDepth 100000 in
/-- a refusal, as the class and as the reference write it down -/
def tzRx (D : Nat → Int → Int) (f : Int) : Nat → Int → Int := tzU (tzU D 53 1 f) 54 f (w32 (D 54 f + 1))
def tzRm (D : Nat → Int → Int) (f : Int) : Nat → Int → Int := tzU (tzU D 81 0 f) 82 f (w32 (D 82 f + 1))
/-- places lo to hi of an array all set -/
def tzF (D : Nat → Int → Int) (a : Nat) (lo hi x : Int) : Nat → Int → Int := fun b k => if b = a then (if lo ≤ k ∧ k < hi then x else D b k) else D b k
theorem tzF_e (D : Nat → Int → Int) (a : Nat) (lo x : Int) : tzF D a lo lo x = D := by
  funext b k
  unfold tzF
  by_cases e : b = a
  · rw [if_pos e, if_neg (by omega)]
  · rw [if_neg e]
theorem tzF_u (D : Nat → Int → Int) (a : Nat) (lo hi x : Int) (h : lo < hi) : tzF (tzU D a lo x) a (lo + 1) hi x = tzF D a lo hi x := by
  funext b k
  unfold tzF tzU
  by_cases e : b = a
  · rw [if_pos e, if_pos e, if_pos e]
    by_cases c : lo + 1 ≤ k ∧ k < hi
    · rw [if_pos c, if_pos (by omega)]
    · rw [if_neg c]
      by_cases c2 : k = lo
      · rw [if_pos c2, if_pos (by omega)]
      · rw [if_neg c2, if_neg (by omega)]
  · rw [if_neg e, if_neg e, if_neg e]
theorem s_refuse (d : Nat) (D : Nat → Int → Int) (L n : Nat) {f : Int} (h1 : 0 ≤ f) (h2 : f ≤ 5) : tqden tqP (d + 1) n_X11_refuse [vR 2, vI f] (tzW D L n) = some (some (vI (-3)), tzW (tzRx D f) L n) := by
  refine (dn_X11_refuse ..).trans ((b_X11_refuse_0 ..).trans ?_)
  have hb : tqib f 6 = true := tqib_y (n := 6) (by omega) (by omega)
  refine (tz_bp (by rfl)).trans ((tz_bp (by rfl)).trans ((tz_bp (by rfl)).trans ((tz_bp (by rfl)).trans ((tz_bp hb).trans ((tz_bp hb).trans ?_)))))
  show some (some (vI (-3)), tzW (tzU (tzU D 53 1 f) 54 f (w32 (tzU D 53 1 f 54 f + 1))) L n) = _
  rw [tzU_o (a := 53) (b := 54) D 1 f f (by decide)]
  rfl
theorem s_meets (d : Nat) (D : Nat → Int → Int) (L n : Nat) {f : Int} (h1 : 0 ≤ f) (h2 : f ≤ 5) : tqden tqP (d + 1) n_X12_meets [vR 81, vI f] (tzW D L n) = some (some (vI (-3)), tzW (tzRm D f) L n) := by
  refine (dn_X12_meets ..).trans ((b_X12_meets_0 ..).trans ?_)
  have hb : tqib f 6 = true := tqib_y (n := 6) (by omega) (by omega)
  refine (tz_bp (by rfl)).trans ((tz_bp (by rfl)).trans ((tz_bp hb).trans ((tz_bp hb).trans ?_)))
  show some (some (vI (-3)), tzW (tzU (tzU D 81 0 f) 82 f (w32 (tzU D 81 0 f 82 f + 1))) L n) = _
  rw [tzU_o (a := 81) (b := 82) D 0 f f (by decide)]
  rfl
theorem fill_5 (d : Nat) (L n a len : Nat) (x : Int) (hl : len ≤ 1000) (hs : ∀ D, (tzW D L n).2.2.1 a = (1, len)) : ∀ (f : Nat) (i : Int) (D : Nat → Int → Int), 0 ≤ i → i + f = len → tqrun tqP (d + 1) tqc_J7_fill_53178 5 [vR a, vI x, vI i, vI (len : Int)] [] (tzW D L n) = some (none, tzW (tzF D a i len x) L n)
  | 0, i, D, h0, h => by
    have e : i = (len : Int) := by omega
    refine (b_J7_fill_53178_5 ..).trans ((tz_bp (decide_eq_true (by omega))).trans ?_)
    rw [e, tzF_e]
  | f + 1, i, D, h0, h => by
    refine (b_J7_fill_53178_5 ..).trans ((tz_bn (decide_eq_false (by omega))).trans ?_)
    have hg : (Nat.beq ((tzW D L n).2.2.1 a).1 1 && tqib i ((tzW D L n).2.2.1 a).2) = true := by
      rw [hs]; exact tqib_y (n := len) h0 (by omega)
    refine (tz_bp hg).trans ?_
    rw [w32_id (x := i + 1) ⟨by omega, by omega⟩]
    refine (fill_5 d L n a len x hl hs f (i + 1) (tzU D a i x) (by omega) (by omega)).trans ?_
    rw [tzF_u _ _ _ _ _ (by omega)]
theorem s_fill (d : Nat) (D : Nat → Int → Int) (L n a len : Nat) (x : Int) (hl : len ≤ 1000) (hs : ∀ D, (tzW D L n).2.2.1 a = (1, len)) : tqden tqP (d + 1) n_J7_fill_53178 [vR a, vI x] (tzW D L n) = some (none, tzW (tzF D a 0 len x) L n) := by
  refine (dn_J7_fill_53178 ..).trans ((b_J7_fill_53178_0 ..).trans ?_)
  have hg : (Nat.ble 1 ((tzW D L n).2.2.1 a).1 && Nat.ble ((tzW D L n).2.2.1 a).1 8) = true := by rw [hs]; rfl
  refine (tz_bp hg).trans ?_
  rw [hs]
  exact fill_5 d L n a len x hl hs len 0 D (by omega) (by omega)
theorem s_X12_isText_y (d : Nat) {a : Int} (m : tqM) (h1 : 0 ≤ a) (h2 : a ≤ 3) : tqden tqP (d + 2) n_X12_isText [vI a] m = some (some (vI 1), m) :=
  (dn_X12_isText ..).trans ((b_X12_isText_0 ..).trans ((tz_bI (s_X12_in_y d m h1 h2)).trans (tz_bp (by rfl))))
theorem s_X12_isText_n (d : Nat) {a : Int} (m : tqM) (h : a < 0 ∨ 3 < a) : tqden tqP (d + 2) n_X12_isText [vI a] m = some (some (vI 0), m) :=
  (dn_X12_isText ..).trans ((b_X12_isText_0 ..).trans ((tz_bI (s_X12_in_n d m h)).trans (tz_bp (by rfl))))
set_option maxRecDepth 100000 in
theorem s_lineAt_rows_y (d : Nat) (D : Nat → Int → Int) (L n : Nat) {k : Nat} (h : k < 6) : tqden tqP (d + 1) n_X11_lineAt [vR 3, vI (k : Int)] (tzW D L n) = some (some (vR (55 + 2 * k)), tzW D L n) := by
  have : k = 0 ∨ k = 1 ∨ k = 2 ∨ k = 3 ∨ k = 4 ∨ k = 5 := by omega
  rcases this with rfl | rfl | rfl | rfl | rfl | rfl <;> exact (dn_X11_lineAt ..).trans ((b_X11_lineAt_0 ..).trans ((tz_bn (by rfl)).trans ((tz_bp (by rfl)).trans ((tz_bn (by rfl)).trans (tz_bp (by rfl))))))
theorem s_lineAt_rows_n (d : Nat) (D : Nat → Int → Int) (L n : Nat) {a : Int} (h : a < 0 ∨ 6 ≤ a) : tqden tqP (d + 1) n_X11_lineAt [vR 3, vI a] (tzW D L n) = some (some (vR 0), tzW D L n) := by
  refine (dn_X11_lineAt ..).trans ((b_X11_lineAt_0 ..).trans ?_)
  by_cases c : a < 0
  · exact tz_bp (decide_eq_true c)
  · have hd : decide (((6 : Nat) : Int) ≤ a) = true := decide_eq_true (by omega)
    exact (tz_bn (decide_eq_false c)).trans ((tz_bp (by rfl)).trans (tz_bp hd))
set_option maxRecDepth 100000 in
theorem s_lineAt_texts_y (d : Nat) (D : Nat → Int → Int) (L n : Nat) {k : Nat} (h : k < 4) : tqden tqP (d + 1) n_X11_lineAt [vR 4, vI (k : Int)] (tzW D L n) = some (some (vR (67 + 2 * k)), tzW D L n) := by
  have : k = 0 ∨ k = 1 ∨ k = 2 ∨ k = 3 := by omega
  rcases this with rfl | rfl | rfl | rfl <;> exact (dn_X11_lineAt ..).trans ((b_X11_lineAt_0 ..).trans ((tz_bn (by rfl)).trans ((tz_bp (by rfl)).trans ((tz_bn (by rfl)).trans (tz_bp (by rfl))))))
theorem s_lineAt_texts_n (d : Nat) (D : Nat → Int → Int) (L n : Nat) {a : Int} (h : a < 0 ∨ 4 ≤ a) : tqden tqP (d + 1) n_X11_lineAt [vR 4, vI a] (tzW D L n) = some (some (vR 0), tzW D L n) := by
  refine (dn_X11_lineAt ..).trans ((b_X11_lineAt_0 ..).trans ?_)
  by_cases c : a < 0
  · exact tz_bp (decide_eq_true c)
  · have hd : decide (((4 : Nat) : Int) ≤ a) = true := decide_eq_true (by omega)
    exact (tz_bn (decide_eq_false c)).trans ((tz_bp (by rfl)).trans (tz_bp hd))
