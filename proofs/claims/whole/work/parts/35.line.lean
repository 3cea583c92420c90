set_option maxRecDepth 100000 in
theorem s_askedRow_b (d : Nat) (m : tqM) {a : Int} (h : a < 0 ∨ 5 < a) : tqden tqP (d + 3) n_X12_askedRow [vR 81, vI a] m = some (some (vI (-1)), m) :=
  (dn_X12_askedRow ..).trans ((b_X12_askedRow_0 ..).trans ((tz_bI (s_X12_isRow_n d m h)).trans (tz_bn (by rfl))))
theorem s_askedRow_y (d : Nat) (D : Nat → Int → Int) (L n : Nat) {a : Int} (h0 : 0 ≤ a) (h1 : a ≤ 5) (h : 0 ≤ D 83 a) : tqden tqP (d + 3) n_X12_askedRow [vR 81, vI a] (tzW D L n) = some (some (vI 0), tzW D L n) := by
  refine (dn_X12_askedRow ..).trans ((b_X12_askedRow_0 ..).trans ((tz_bI (s_X12_isRow_y d _ h0 h1)).trans ((tz_bp (by rfl)).trans ((tz_bp (by rfl)).trans ?_))))
  have hb : tqib a 6 = true := tqib_y (n := 6) (by omega) (by omega)
  have hd : decide (0 ≤ D 83 a) = true := decide_eq_true h
  exact (tz_bp hb).trans (tz_bp hd)
theorem s_askedRow_n (d : Nat) (D : Nat → Int → Int) (L n : Nat) {a : Int} (h0 : 0 ≤ a) (h1 : a ≤ 5) (h : D 83 a < 0) : tqden tqP (d + 3) n_X12_askedRow [vR 81, vI a] (tzW D L n) = some (some (vI (-3)), tzW (tzRm D 1) L n) := by
  refine (dn_X12_askedRow ..).trans ((b_X12_askedRow_0 ..).trans ((tz_bI (s_X12_isRow_y d _ h0 h1)).trans ((tz_bp (by rfl)).trans ((tz_bp (by rfl)).trans ?_))))
  have hb : tqib a 6 = true := tqib_y (n := 6) (by omega) (by omega)
  have hd : decide (0 ≤ D 83 a) = false := decide_eq_false (by omega)
  refine (tz_bp hb).trans ((tz_bn hd).trans ((tz_bp (by rfl)).trans ?_))
  exact tz_bI (s_meets (d + 1) D L n (f := 1) (by decide) (by decide))
set_option maxRecDepth 100000 in
theorem s_askedText_b (d : Nat) (m : tqM) {a : Int} (h : a < 0 ∨ 3 < a) : tqden tqP (d + 3) n_X12_askedText [vR 81, vI a] m = some (some (vI (-1)), m) :=
  (dn_X12_askedText ..).trans ((b_X12_askedText_0 ..).trans ((tz_bI (s_X12_isText_n d m h)).trans (tz_bn (by rfl))))
theorem s_askedText_y (d : Nat) (D : Nat → Int → Int) (L n : Nat) {a : Int} (h0 : 0 ≤ a) (h1 : a ≤ 3) (h : 0 ≤ D 86 a) : tqden tqP (d + 3) n_X12_askedText [vR 81, vI a] (tzW D L n) = some (some (vI 0), tzW D L n) := by
  refine (dn_X12_askedText ..).trans ((b_X12_askedText_0 ..).trans ((tz_bI (s_X12_isText_y d _ h0 h1)).trans ((tz_bp (by rfl)).trans ((tz_bp (by rfl)).trans ?_))))
  have hb : tqib a 4 = true := tqib_y (n := 4) (by omega) (by omega)
  have hd : decide (0 ≤ D 86 a) = true := decide_eq_true h
  exact (tz_bp hb).trans (tz_bp hd)
theorem s_askedText_n (d : Nat) (D : Nat → Int → Int) (L n : Nat) {a : Int} (h0 : 0 ≤ a) (h1 : a ≤ 3) (h : D 86 a < 0) : tqden tqP (d + 3) n_X12_askedText [vR 81, vI a] (tzW D L n) = some (some (vI (-3)), tzW (tzRm D 1) L n) := by
  refine (dn_X12_askedText ..).trans ((b_X12_askedText_0 ..).trans ((tz_bI (s_X12_isText_y d _ h0 h1)).trans ((tz_bp (by rfl)).trans ((tz_bp (by rfl)).trans ?_))))
  have hb : tqib a 4 = true := tqib_y (n := 4) (by omega) (by omega)
  have hd : decide (0 ≤ D 86 a) = false := decide_eq_false (by omega)
  refine (tz_bp hb).trans ((tz_bn hd).trans ((tz_bp (by rfl)).trans ?_))
  exact tz_bI (s_meets (d + 1) D L n (f := 1) (by decide) (by decide))
set_option maxRecDepth 100000 in
theorem tear_sh (D : Nat → Int → Int) (L n : Nat) {k : Nat} (h : k < 6) : (tzW D L n).2.2.1 (55 + 2 * k) = (12, 2) := by
  have : k = 0 ∨ k = 1 ∨ k = 2 ∨ k = 3 ∨ k = 4 ∨ k = 5 := by omega
  rcases this with rfl | rfl | rfl | rfl | rfl | rfl <;> rfl
theorem ag_tear {Rel : (Nat → Int → Int) → Nat → Prop} {L : Nat} (hr : ∀ D n, Rel D n → ∀ f : Int, 0 ≤ f → f ≤ 5 → Rel (tzRm (tzRx D f) f) n) (hs : ∀ D n, Rel D n → ∀ k : Nat, k < 6 → (0 ≤ D (55 + 2 * k) 1 ↔ 0 ≤ D 83 k)) (hk : ∀ D n, Rel D n → ∀ k : Nat, k < 6 → Rel (tzU (tzU D (55 + 2 * k) 1 (-1)) 83 k (-9)) n) (a0 : Int) : AgI Rel L n_X11_tear n_X12_tear [vI a0] := by
  intro D n hR
  by_cases c : 0 ≤ a0 ∧ a0 < 6
  · obtain ⟨k, hk0⟩ : ∃ k : Nat, a0 = (k : Int) := ⟨a0.toNat, by omega⟩
    have hkc : k < 6 := by omega
    have hl : tqden tqP (1397 + 1) n_X11_lineAt [vR 3, vI a0] (tzW D L n) = some (some (vR (55 + 2 * k)), tzW D L n) := by rw [hk0]; exact s_lineAt_rows_y 1397 D L n hkc
    have ha : Nat.beq (55 + 2 * k) 0 = false := by rw [Nat.add_comm]; rfl
    have hg : Nat.beq ((tzW D L n).2.2.1 (55 + 2 * k)).1 12 = true := by rw [tear_sh D L n hkc]; rfl
    have hm := s_isMissing 1397 D L n (tear_sh D L n hkc)
    by_cases c1 : 0 ≤ D 83 k
    · rw [if_pos ((hs D n hR k hkc).mpr c1)] at hm
      refine ⟨1, tzU D (55 + 2 * k) 1 (-1), n, _, ?_, ?_, ?_, ?_, hk D n hR k hkc⟩
      · refine (dn_X11_tear 1399 2 a0 _).trans ((b_X11_tear_0 1398 2 a0 _).trans ((tz_bp (by rfl)).trans ((tz_bR hl).trans ((tz_bn ha).trans ((tz_bp hg).trans ((tz_bI hm).trans ((tz_bp d00).trans ?_)))))))
        exact tz_bp hg
      · refine (dn_X12_tear 1399 81 a0 _).trans ((b_X12_tear_0 1398 81 a0 _).trans ((tz_bp (by rfl)).trans ?_))
        have h83 : 0 ≤ tzU D (55 + 2 * k) 1 (-1) 83 a0 := by rw [tzU_o _ _ _ _ (by omega), hk0]; exact c1
        refine (tz_bI (s_askedRow_y 1395 _ L n c.1 (by omega) h83)).trans ((tz_bp (by rfl)).trans ((tz_bp (by rfl)).trans ?_))
        have hb : tqib a0 6 = true := tqib_y (n := 6) (by omega) (by omega)
        refine (tz_bp hb).trans ?_
        rw [hk0]; rfl
      · rw [tzU_1 _ _ _ _ (by omega)]
      · rw [tzU_1 _ _ _ _ (by omega), tzU_1 _ _ _ _ (by omega)]
    · rw [if_neg (fun q => c1 ((hs D n hR k hkc).mp q))] at hm
      refine ⟨-3, tzRx D 1, n, tzRm (tzRx D 1) 1, ?_, ?_, ?_, ?_, hr D n hR 1 (by decide) (by decide)⟩
      · refine (dn_X11_tear 1399 2 a0 _).trans ((b_X11_tear_0 1398 2 a0 _).trans ((tz_bp (by rfl)).trans ((tz_bR hl).trans ((tz_bn ha).trans ((tz_bp hg).trans ((tz_bI hm).trans ((tz_bn d10).trans ((tz_bp (by rfl)).trans ?_))))))))
        exact tz_bI (s_refuse 1397 D L n (f := 1) (by decide) (by decide))
      · refine (dn_X12_tear 1399 81 a0 _).trans ((b_X12_tear_0 1398 81 a0 _).trans ((tz_bp (by rfl)).trans ?_))
        have h83 : tzRx D 1 83 a0 < 0 := by unfold tzRx; rw [tzU_o _ _ _ _ (by decide), tzU_o _ _ _ _ (by decide), hk0]; omega
        exact (tz_bI (s_askedRow_n 1395 _ L n c.1 (by omega) h83)).trans (tz_bn (by rfl))
      · unfold tzRx; rw [tzU_1 _ _ _ _ (by decide), tzU_1 _ _ _ _ (by decide)]
      · unfold tzRm tzRx; rw [tzU_1 _ _ _ _ (by decide), tzU_1 _ _ _ _ (by decide), tzU_1 _ _ _ _ (by decide), tzU_1 _ _ _ _ (by decide)]
  · refine ⟨-1, D, n, D, ?_, ?_, rfl, rfl, hR⟩
    · refine (dn_X11_tear 1399 2 a0 _).trans ((b_X11_tear_0 1398 2 a0 _).trans ((tz_bp (by rfl)).trans ?_))
      exact (tz_bR (s_lineAt_rows_n 1397 D L n (by omega))).trans (tz_bp (by rfl))
    · refine (dn_X12_tear 1399 81 a0 _).trans ((b_X12_tear_0 1398 81 a0 _).trans ((tz_bp (by rfl)).trans ?_))
      exact (tz_bI (s_askedRow_b 1395 _ (by omega))).trans (tz_bn (by rfl))
