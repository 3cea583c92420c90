set_option maxRecDepth 100000 in
/-- one number written -/
def tzU (D : Nat → Int → Int) (a : Nat) (j x : Int) : Nat → Int → Int := fun b k => if b = a then (if k = j then x else D b k) else D b k
theorem tzU_w (D : Nat → Int → Int) (L n a : Nat) (j x : Int) : tqw (tzW D L n) a j x = tzW (tzU D a j x) L n := rfl
theorem tzU_1 (D : Nat → Int → Int) (a : Nat) (j x : Int) (h : a ≠ 1) : tzU D a j x 1 = D 1 := by funext k; exact if_neg (fun q => h q.symm)
theorem tzU_s (D : Nat → Int → Int) (a : Nat) (j x : Int) : tzU D a j x a j = x := by unfold tzU; rw [if_pos rfl, if_pos rfl]
theorem tzU_o (D : Nat → Int → Int) {a b : Nat} (j x k : Int) (h : b ≠ a) : tzU D a j x b k = D b k := if_neg h
theorem tzU_k (D : Nat → Int → Int) (a b : Nat) {j k : Int} (x : Int) (h : k ≠ j) : tzU D a j x b k = D b k := by
  unfold tzU
  by_cases e : b = a
  · rw [if_pos e, if_neg h]
  · rw [if_neg e]
theorem tz_bR {t : Option tqRes} {f : Nat → tqM → Option tqRes} {x : Nat} {m : tqM} (h : t = some (some (vR x), m)) : tqbR t f = f x m := by rw [h]; rfl
set_option maxRecDepth 100000 in
theorem s_X12_isWorth_y (d : Nat) {a : Int} (m : tqM) (h1 : 0 ≤ a) (h2 : a ≤ 100000) : tqden tqP (d + 2) n_X12_isWorth [vI a] m = some (some (vI 1), m) :=
  (dn_X12_isWorth ..).trans ((b_X12_isWorth_0 ..).trans ((tz_bI (s_X12_in_y d m h1 h2)).trans (tz_bp (by rfl))))
theorem s_X12_isWorth_n (d : Nat) {a : Int} (m : tqM) (h : a < 0 ∨ 100000 < a) : tqden tqP (d + 2) n_X12_isWorth [vI a] m = some (some (vI 0), m) :=
  (dn_X12_isWorth ..).trans ((b_X12_isWorth_0 ..).trans ((tz_bI (s_X12_in_n d m h)).trans (tz_bp (by rfl))))
set_option maxRecDepth 100000 in
theorem s_X12_isTractor_y (d : Nat) {a : Int} (m : tqM) (h1 : 0 ≤ a) (h2 : a ≤ 5) : tqden tqP (d + 2) n_X12_isTractor [vI a] m = some (some (vI 1), m) :=
  (dn_X12_isTractor ..).trans ((b_X12_isTractor_0 ..).trans ((tz_bI (s_X12_in_y d m h1 h2)).trans (tz_bp (by rfl))))
theorem s_X12_isTractor_n (d : Nat) {a : Int} (m : tqM) (h : a < 0 ∨ 5 < a) : tqden tqP (d + 2) n_X12_isTractor [vI a] m = some (some (vI 0), m) :=
  (dn_X12_isTractor ..).trans ((b_X12_isTractor_0 ..).trans ((tz_bI (s_X12_in_n d m h)).trans (tz_bp (by rfl))))
set_option maxRecDepth 100000 in
theorem s_X12_isRow_y (d : Nat) {a : Int} (m : tqM) (h1 : 0 ≤ a) (h2 : a ≤ 5) : tqden tqP (d + 2) n_X12_isRow [vI a] m = some (some (vI 1), m) :=
  (dn_X12_isRow ..).trans ((b_X12_isRow_0 ..).trans ((tz_bI (s_X12_in_y d m h1 h2)).trans (tz_bp (by rfl))))
theorem s_X12_isRow_n (d : Nat) {a : Int} (m : tqM) (h : a < 0 ∨ 5 < a) : tqden tqP (d + 2) n_X12_isRow [vI a] m = some (some (vI 0), m) :=
  (dn_X12_isRow ..).trans ((b_X12_isRow_0 ..).trans ((tz_bI (s_X12_in_n d m h)).trans (tz_bp (by rfl))))
set_option maxRecDepth 100000 in
theorem ag_law {Rel : (Nat → Int → Int) → Nat → Prop} {L : Nat} (h : ∀ D n, Rel D n → ∀ x y : Int, 0 ≤ x → x ≤ 100000 → 0 ≤ y → y ≤ 100000 → Rel (tzU (tzU (tzU (tzU D 2 14 x) 2 15 y) 81 46 x) 81 47 y) n) (a0 a1 : Int) : AgI Rel L n_X11_law n_X12_law [vI a0, vI a1] := by
  intro D n hR
  by_cases c : 0 ≤ a0 ∧ a0 ≤ 100000
  · by_cases e : 0 ≤ a1 ∧ a1 ≤ 100000
    · refine ⟨1, tzU (tzU D 2 14 a0) 2 15 a1, n, tzU (tzU (tzU (tzU D 2 14 a0) 2 15 a1) 81 46 a0) 81 47 a1, ?_, ?_, ?_, ?_, h D n hR a0 a1 c.1 c.2 e.1 e.2⟩
      · refine (dn_X11_law 1399 2 a0 a1 _).trans ((b_X11_law_0 1398 2 a0 a1 _).trans ?_)
        refine (tz_bI (s_X11_isWithin_y 1397 _ c.1 c.2)).trans ((tz_bn d10).trans ?_)
        refine (tz_bI (s_X11_isWithin_y 1397 _ e.1 e.2)).trans ((tz_bp (by rfl)).trans ?_)
        exact (tz_bp (by rfl)).trans (tz_bp (by rfl))
      · refine (dn_X12_law 1399 81 a0 a1 _).trans ((b_X12_law_0 1398 81 a0 a1 _).trans ?_)
        refine (tz_bI (s_X12_isWorth_y 1396 _ c.1 c.2)).trans ((tz_bn d10).trans ?_)
        refine (tz_bI (s_X12_isWorth_y 1396 _ e.1 e.2)).trans ((tz_bp (by rfl)).trans ?_)
        exact (tz_bp (by rfl)).trans (tz_bp (by rfl))
      · rw [tzU_1 _ _ _ _ (by decide), tzU_1 _ _ _ _ (by decide)]
      · rw [tzU_1 _ _ _ _ (by decide), tzU_1 _ _ _ _ (by decide), tzU_1 _ _ _ _ (by decide), tzU_1 _ _ _ _ (by decide)]
    · refine ⟨-1, D, n, D, ?_, ?_, rfl, rfl, hR⟩
      · refine (dn_X11_law 1399 2 a0 a1 _).trans ((b_X11_law_0 1398 2 a0 a1 _).trans ?_)
        refine (tz_bI (s_X11_isWithin_y 1397 _ c.1 c.2)).trans ((tz_bn d10).trans ?_)
        exact (tz_bI (s_X11_isWithin_n 1397 _ (by omega))).trans (tz_bn (by rfl))
      · refine (dn_X12_law 1399 81 a0 a1 _).trans ((b_X12_law_0 1398 81 a0 a1 _).trans ?_)
        refine (tz_bI (s_X12_isWorth_y 1396 _ c.1 c.2)).trans ((tz_bn d10).trans ?_)
        exact (tz_bI (s_X12_isWorth_n 1396 _ (by omega))).trans (tz_bn (by rfl))
  · refine ⟨-1, D, n, D, ?_, ?_, rfl, rfl, hR⟩
    · refine (dn_X11_law 1399 2 a0 a1 _).trans ((b_X11_law_0 1398 2 a0 a1 _).trans ?_)
      exact (tz_bI (s_X11_isWithin_n 1397 _ (by omega))).trans (tz_bp d00)
    · refine (dn_X12_law 1399 81 a0 a1 _).trans ((b_X12_law_0 1398 81 a0 a1 _).trans ?_)
      exact (tz_bI (s_X12_isWorth_n 1396 _ (by omega))).trans (tz_bp d00)
set_option maxRecDepth 100000 in
theorem ag_later {Rel : (Nat → Int → Int) → Nat → Prop} {L : Nat} (h : ∀ D n, Rel D n → D 2 13 = D 81 5 ∧ 0 ≤ D 81 5 ∧ D 81 5 ≤ 99999) (hk : ∀ D n, Rel D n → ∀ x : Int, 0 ≤ x → D 81 5 + x ≤ 99999 → Rel (tzU (tzU D 2 13 (D 81 5 + x)) 81 5 (D 81 5 + x)) n) (a0 : Int) : AgI Rel L n_X11_later n_X12_later [vI a0] := by
  intro D n hR
  obtain ⟨e1, e2, e3⟩ := h D n hR
  have ew : w32 (99999 - D 2 13) = 99999 - D 2 13 := w32_id ⟨by omega, by omega⟩
  have ew2 : w32 (99999 - D 81 5) = 99999 - D 81 5 := w32_id ⟨by omega, by omega⟩
  by_cases c0 : a0 < 0
  · refine ⟨-1, D, n, D, ?_, ?_, rfl, rfl, hR⟩
    · exact (dn_X11_later 1399 2 a0 _).trans ((b_X11_later_0 1398 2 a0 _).trans (tz_bp (decide_eq_true c0)))
    · exact (dn_X12_later 1399 81 a0 _).trans ((b_X12_later_0 1398 81 a0 _).trans (tz_bp (decide_eq_true c0)))
  by_cases c : D 81 5 + a0 ≤ 99999
  · have hx : w32 (D 2 13 + a0) = D 81 5 + a0 := by rw [e1]; exact w32_id ⟨by omega, by omega⟩
    have hy : w32 (D 81 5 + a0) = D 81 5 + a0 := w32_id ⟨by omega, by omega⟩
    refine ⟨D 81 5 + a0, tzU D 2 13 (D 81 5 + a0), n, tzU (tzU D 2 13 (D 81 5 + a0)) 81 5 (D 81 5 + a0), ?_, ?_, ?_, ?_, hk D n hR a0 (by omega) c⟩
    · refine (dn_X11_later 1399 2 a0 _).trans ((b_X11_later_0 1398 2 a0 _).trans ?_)
      refine (tz_bn (decide_eq_false c0)).trans ((tz_bp (by rfl)).trans ?_)
      have hd : decide (a0 ≤ w32 (99999 - D 2 13)) = true := decide_eq_true (by rw [ew]; omega)
      refine (tz_bp hd).trans ((tz_bp (by rfl)).trans ((tz_bp (by rfl)).trans ((tz_bp (by rfl)).trans ?_)))
      show some (some (vI (tzU D 2 13 (w32 (D 2 13 + a0)) 2 13)), tzW (tzU D 2 13 (w32 (D 2 13 + a0))) L n) = _
      rw [tzU_s, hx]
    · refine (dn_X12_later 1399 81 a0 _).trans ((b_X12_later_0 1398 81 a0 _).trans ?_)
      refine (tz_bn (decide_eq_false c0)).trans ((tz_bp (by rfl)).trans ?_)
      have hd : decide (a0 ≤ w32 (99999 - D 81 5)) = true := decide_eq_true (by rw [ew2]; omega)
      refine (tz_bp hd).trans ((tz_bp (by rfl)).trans ((tz_bp (by rfl)).trans ((tz_bp (by rfl)).trans ?_)))
      show some (some (vI (tzU (tzU D 2 13 (D 81 5 + a0)) 81 5 (w32 (D 81 5 + a0)) 81 5)), tzW (tzU (tzU D 2 13 (D 81 5 + a0)) 81 5 (w32 (D 81 5 + a0))) L n) = _
      rw [tzU_s, hy]
    · rw [tzU_1 _ _ _ _ (by decide)]
    · rw [tzU_1 _ _ _ _ (by decide), tzU_1 _ _ _ _ (by decide)]
  · refine ⟨-1, D, n, D, ?_, ?_, rfl, rfl, hR⟩
    · refine (dn_X11_later 1399 2 a0 _).trans ((b_X11_later_0 1398 2 a0 _).trans ?_)
      have hd : decide (a0 ≤ w32 (99999 - D 2 13)) = false := decide_eq_false (by rw [ew]; omega)
      exact (tz_bn (decide_eq_false c0)).trans ((tz_bp (by rfl)).trans (tz_bn hd))
    · refine (dn_X12_later 1399 81 a0 _).trans ((b_X12_later_0 1398 81 a0 _).trans ?_)
      have hd : decide (a0 ≤ w32 (99999 - D 81 5)) = false := decide_eq_false (by rw [ew2]; omega)
      exact (tz_bn (decide_eq_false c0)).trans ((tz_bp (by rfl)).trans (tz_bn hd))
set_option maxRecDepth 100000 in
theorem s_tractorAt_y (d : Nat) (D : Nat → Int → Int) (L n : Nat) {k : Nat} (h : k < 6) : tqden tqP (d + 1) n_X11_tractorAt [vR 2, vI (k : Int)] (tzW D L n) = some (some (vR (75 + k)), tzW D L n) := by
  have : k = 0 ∨ k = 1 ∨ k = 2 ∨ k = 3 ∨ k = 4 ∨ k = 5 := by omega
  rcases this with rfl | rfl | rfl | rfl | rfl | rfl <;> exact (dn_X11_tractorAt ..).trans ((b_X11_tractorAt_0 ..).trans ((tz_bn (by rfl)).trans ((tz_bn (by rfl)).trans ((tz_bp (by rfl)).trans (tz_bp (by rfl))))))
theorem s_tractorAt_n (d : Nat) (D : Nat → Int → Int) (L n : Nat) {a : Int} (h : a < 0 ∨ 5 < a) : tqden tqP (d + 1) n_X11_tractorAt [vR 2, vI a] (tzW D L n) = some (some (vR 0), tzW D L n) := by
  refine (dn_X11_tractorAt ..).trans ((b_X11_tractorAt_0 ..).trans ?_)
  by_cases c : a < 0
  · exact tz_bp (decide_eq_true c)
  · exact (tz_bn (decide_eq_false c)).trans (tz_bp (decide_eq_true (by omega)))
theorem nbk (k : Nat) : Nat.beq (75 + k) 0 = false := by rw [Nat.add_comm]; rfl
theorem ag_partner {Rel : (Nat → Int → Int) → Nat → Prop} {L : Nat} (h : ∀ D n, Rel D n → ∀ j : Int, 0 ≤ j → j ≤ 5 → D 29 j = D 119 j) (a0 : Int) : AgI Rel L n_X11_partner n_X12_partner [vI a0] := by
  intro D n hR
  by_cases c : 0 ≤ a0 ∧ a0 ≤ 5
  · obtain ⟨k, hk⟩ : ∃ k : Nat, a0 = (k : Int) := ⟨a0.toNat, by omega⟩
    refine ⟨D 29 a0, D, n, D, ?_, ?_, rfl, rfl, hR⟩
    · refine (dn_X11_partner 1399 2 a0 _).trans ((b_X11_partner_0 1398 2 a0 _).trans ((tz_bp (by rfl)).trans ?_))
      have ht : tqden tqP (1397 + 1) n_X11_tractorAt [vR 2, vI a0] (tzW D L n) = some (some (vR (75 + k)), tzW D L n) := by rw [hk]; exact s_tractorAt_y 1397 D L n (by omega)
      refine (tz_bR ht).trans ((tz_bn (nbk k)).trans ((tz_bp (by rfl)).trans ((tz_bp (by rfl)).trans ?_)))
      exact tz_bp (tqib_y (n := 6) (by omega) (by omega))
    · rw [h D n hR a0 c.1 c.2]
      refine (dn_X12_partner 1399 81 a0 _).trans ((b_X12_partner_0 1398 81 a0 _).trans ?_)
      refine (tz_bI (s_X12_isTractor_y 1396 _ c.1 c.2)).trans ((tz_bn d10).trans ((tz_bp (by rfl)).trans ?_))
      exact tz_bp (tqib_y (n := 6) (by omega) (by omega))
  · refine ⟨-1, D, n, D, ?_, ?_, rfl, rfl, hR⟩
    · refine (dn_X11_partner 1399 2 a0 _).trans ((b_X11_partner_0 1398 2 a0 _).trans ((tz_bp (by rfl)).trans ?_))
      exact (tz_bR (s_tractorAt_n 1397 D L n (by omega))).trans (tz_bp (by rfl))
    · refine (dn_X12_partner 1399 81 a0 _).trans ((b_X12_partner_0 1398 81 a0 _).trans ?_)
      exact (tz_bI (s_X12_isTractor_n 1396 _ (by omega))).trans (tz_bp d00)
