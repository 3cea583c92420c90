set_option maxRecDepth 100000 in
theorem tzF_1 (D : Nat → Int → Int) (a : Nat) (lo hi x : Int) (h : a ≠ 1) : tzF D a lo hi x 1 = D 1 := by funext k; exact if_neg (fun q => h q.symm)
theorem s_makeLine (d : Nat) (D : Nat → Int → Int) (L n : Nat) {a p : Nat} {v x : Int} (ha : Nat.beq a 0 = false) (hsh : ∀ D, (tzW D L n).2.2.1 a = (12, 2)) (hp : ∀ D, (tzW D L n).2.1 a 0 = p) (hps : ∀ D, (tzW D L n).2.2.1 p = (1, 40)) (h0 : 0 ≤ v) (h1 : v ≤ 40) : tqden tqP (d + 2) n_X11_makeLine [vR 2, vR a, vI v, vI x] (tzW D L n) = some (some (vI v), tzW (tzF (tzU D a 1 v) p 0 40 x) L n) := by
  refine (dn_X11_makeLine ..).trans ((b_X11_makeLine_0 ..).trans ?_)
  have hg : Nat.beq ((tzW D L n).2.2.1 a).1 12 = true := by rw [hsh]; rfl
  refine (tz_bn ha).trans ((tz_bp (decide_eq_true h1)).trans ((tz_bp (decide_eq_true h0)).trans ((tz_bp hg).trans ((tz_bp hg).trans ?_))))
  have hf : tqden tqP (d + 1) n_J7_fill_53178 [vR ((tzW D L n).2.1 a 0), vI x] (tzW (tzU D a 1 v) L n) = some (none, tzW (tzF (tzU D a 1 v) p 0 ((40 : Nat) : Int) x) L n) := by
    rw [hp]; exact s_fill d _ L n p 40 x (by decide) hps
  exact tz_b0 hf
theorem s_makeLine_b (d : Nat) (m : tqM) {a : Nat} {v x : Int} (h : Nat.beq a 0 = true ∨ 40 < v) : tqden tqP (d + 2) n_X11_makeLine [vR 2, vR a, vI v, vI x] m = some (some (vI (-1)), m) := by
  refine (dn_X11_makeLine ..).trans ((b_X11_makeLine_0 ..).trans ?_)
  cases c : Nat.beq a 0
  · exact tz_bn (decide_eq_false (by rcases h with h | h; · rw [c] at h; cases h
                                     · omega))
  · rfl
theorem s_makeLine_r (d : Nat) (D : Nat → Int → Int) (L n : Nat) {a : Nat} {v x : Int} (ha : Nat.beq a 0 = false) (h0 : v < 0) : tqden tqP (d + 2) n_X11_makeLine [vR 2, vR a, vI v, vI x] (tzW D L n) = some (some (vI (-3)), tzW (tzRx D 5) L n) := by
  refine (dn_X11_makeLine ..).trans ((b_X11_makeLine_0 ..).trans ?_)
  refine (tz_bn ha).trans ((tz_bp (decide_eq_true (by omega))).trans ((tz_bn (decide_eq_false (by omega))).trans ((tz_bp (by rfl)).trans ?_)))
  exact tz_bI (s_refuse d D L n (f := 5) (by decide) (by decide))
set_option maxRecDepth 100000 in
theorem m_row_34 (d : Nat) (L n : Nat) {r v : Int} (h0 : 0 ≤ r) (h1 : r < 6) : ∀ (f : Nat) (i : Int) (D : Nat → Int → Int), 0 ≤ i → i + f = 40 → tqrun tqP (d + 1) tqc_X12_row 34 [vR 81, vI r, vI v, vI i] [] (tzW D L n) = some (some (vI v), tzW (tzF D 84 (40 * r + i) (40 * r + 40) 0) L n)
  | 0, i, D, hi, h => by
    have e : i = 40 := by omega
    refine (b_X12_row_34 ..).trans ((tz_bp (decide_eq_true (by omega))).trans ?_)
    rw [e, tzF_e]
  | f + 1, i, D, hi, h => by
    refine (b_X12_row_34 ..).trans ((tz_bn (decide_eq_false (by omega))).trans ((tz_bp (by rfl)).trans ?_))
    have e1 : w32 (40 * r) = 40 * r := w32_id ⟨by omega, by omega⟩
    have e2 : w32 (w32 (40 * r) + i) = 40 * r + i := by rw [e1]; exact w32_id ⟨by omega, by omega⟩
    have hb : tqib (w32 (w32 (40 * r) + i)) 240 = true := by rw [e2]; exact tqib_y (n := 240) (by omega) (by omega)
    refine (tz_bp hb).trans ?_
    rw [w32_id (x := i + 1) ⟨by omega, by omega⟩, e2]
    refine (m_row_34 d L n h0 h1 f (i + 1) (tzU D 84 (40 * r + i) 0) (by omega) (by omega)).trans ?_
    rw [← Int.add_assoc, tzF_u _ _ _ _ _ (by omega)]
theorem ag_row {Rel : (Nat → Int → Int) → Nat → Prop} {L : Nat} (hr : ∀ D n, Rel D n → ∀ f : Int, 0 ≤ f → f ≤ 5 → Rel (tzRm (tzRx D f) f) n) (hk : ∀ D n, Rel D n → ∀ (k : Nat) (v : Int), k < 6 → 0 ≤ v → v ≤ 40 → Rel (tzF (tzU (tzF (tzU D (55 + 2 * k) 1 v) (56 + 2 * k) 0 40 0) 83 k v) 84 (40 * k + 0) (40 * k + 40) 0) n) (a0 a1 : Int) : AgI Rel L n_X11_row n_X12_row [vI a0, vI a1] := by
  intro D n hR
  by_cases c : 0 ≤ a0 ∧ a0 < 6
  · obtain ⟨k, hk0⟩ : ∃ k : Nat, a0 = (k : Int) := ⟨a0.toNat, by omega⟩
    have hkc : k < 6 := by omega
    have hl : tqden tqP (1397 + 1) n_X11_lineAt [vR 3, vI a0] (tzW D L n) = some (some (vR (55 + 2 * k)), tzW D L n) := by rw [hk0]; exact s_lineAt_rows_y 1397 D L n hkc
    have ha : Nat.beq (55 + 2 * k) 0 = false := by rw [Nat.add_comm]; rfl
    by_cases c1 : 40 < a1
    · refine ⟨-1, D, n, D, ?_, ?_, rfl, rfl, hR⟩
      · refine (dn_X11_row 1399 2 a0 a1 _).trans ((b_X11_row_0 1398 2 a0 a1 _).trans ((tz_bp (by rfl)).trans ((tz_bR hl).trans ((tz_bp (by rfl)).trans ?_))))
        exact tz_bI (s_makeLine_b 1396 _ (.inr c1))
      · refine (dn_X12_row 1399 81 a0 a1 _).trans ((b_X12_row_0 1398 81 a0 a1 _).trans ((tz_bI (s_X12_isRow_y 1396 _ (by omega) (by omega))).trans ((tz_bn d10).trans ?_)))
        exact tz_bn (decide_eq_false (by omega))
    by_cases c2 : a1 < 0
    · refine ⟨-3, tzRx D 5, n, tzRm (tzRx D 5) 5, ?_, ?_, ?_, ?_, hr D n hR 5 (by decide) (by decide)⟩
      · refine (dn_X11_row 1399 2 a0 a1 _).trans ((b_X11_row_0 1398 2 a0 a1 _).trans ((tz_bp (by rfl)).trans ((tz_bR hl).trans ((tz_bp (by rfl)).trans ?_))))
        exact tz_bI (s_makeLine_r 1396 D L n ha c2)
      · refine (dn_X12_row 1399 81 a0 a1 _).trans ((b_X12_row_0 1398 81 a0 a1 _).trans ((tz_bI (s_X12_isRow_y 1396 _ (by omega) (by omega))).trans ((tz_bn d10).trans ?_)))
        refine (tz_bp (decide_eq_true (by omega))).trans ((tz_bn (decide_eq_false (by omega))).trans ((tz_bp (by rfl)).trans ?_))
        exact tz_bI (s_meets 1397 _ L n (f := 5) (by decide) (by decide))
      · unfold tzRx; rw [tzU_1 _ _ _ _ (by decide), tzU_1 _ _ _ _ (by decide)]
      · unfold tzRm tzRx; rw [tzU_1 _ _ _ _ (by decide), tzU_1 _ _ _ _ (by decide), tzU_1 _ _ _ _ (by decide), tzU_1 _ _ _ _ (by decide)]
    · refine ⟨a1, tzF (tzU D (55 + 2 * k) 1 a1) (56 + 2 * k) 0 40 0, n, _, ?_, ?_, ?_, ?_, hk D n hR k a1 hkc (by omega) (by omega)⟩
      · refine (dn_X11_row 1399 2 a0 a1 _).trans ((b_X11_row_0 1398 2 a0 a1 _).trans ((tz_bp (by rfl)).trans ((tz_bR hl).trans ((tz_bp (by rfl)).trans ?_))))
        refine tz_bI (s_makeLine 1396 D L n ha ?_ ?_ ?_ (by omega) (by omega))
        · intro D
          have : k = 0 ∨ k = 1 ∨ k = 2 ∨ k = 3 ∨ k = 4 ∨ k = 5 := by omega
          rcases this with rfl | rfl | rfl | rfl | rfl | rfl <;> rfl
        · intro D
          have : k = 0 ∨ k = 1 ∨ k = 2 ∨ k = 3 ∨ k = 4 ∨ k = 5 := by omega
          rcases this with rfl | rfl | rfl | rfl | rfl | rfl <;> rfl
        · intro D
          have : k = 0 ∨ k = 1 ∨ k = 2 ∨ k = 3 ∨ k = 4 ∨ k = 5 := by omega
          rcases this with rfl | rfl | rfl | rfl | rfl | rfl <;> rfl
      · refine (dn_X12_row 1399 81 a0 a1 _).trans ((b_X12_row_0 1398 81 a0 a1 _).trans ((tz_bI (s_X12_isRow_y 1396 _ (by omega) (by omega))).trans ((tz_bn d10).trans ?_)))
        refine (tz_bp (decide_eq_true (by omega))).trans ((tz_bp (decide_eq_true (by omega))).trans ((tz_bp (by rfl)).trans ?_))
        have hb : tqib a0 6 = true := tqib_y (n := 6) (by omega) (by omega)
        refine (tz_bp hb).trans ?_
        rw [hk0]
        exact m_row_34 1398 L n (by omega) (by omega) 40 0 (tzU _ 83 k a1) (by omega) (by omega)
      · rw [tzF_1 _ _ _ _ _ (by omega), tzU_1 _ _ _ _ (by omega)]
      · rw [tzF_1 _ _ _ _ _ (by omega), tzU_1 _ _ _ _ (by omega), tzF_1 _ _ _ _ _ (by omega), tzU_1 _ _ _ _ (by omega)]
  · refine ⟨-1, D, n, D, ?_, ?_, rfl, rfl, hR⟩
    · refine (dn_X11_row 1399 2 a0 a1 _).trans ((b_X11_row_0 1398 2 a0 a1 _).trans ((tz_bp (by rfl)).trans ?_))
      refine (tz_bR (s_lineAt_rows_n 1397 D L n (by omega))).trans ((tz_bp (by rfl)).trans ?_)
      exact tz_bI (s_makeLine_b 1396 _ (.inl rfl))
    · refine (dn_X12_row 1399 81 a0 a1 _).trans ((b_X12_row_0 1398 81 a0 a1 _).trans ?_)
      exact (tz_bI (s_X12_isRow_n 1396 _ (by omega))).trans (tz_bp d00)
set_option maxRecDepth 100000 in
theorem m_text_34 (d : Nat) (L n : Nat) {r v : Int} (h0 : 0 ≤ r) (h1 : r < 4) : ∀ (f : Nat) (i : Int) (D : Nat → Int → Int), 0 ≤ i → i + f = 40 → tqrun tqP (d + 1) tqc_X12_text 34 [vR 81, vI r, vI v, vI i] [] (tzW D L n) = some (some (vI v), tzW (tzF D 87 (40 * r + i) (40 * r + 40) 32) L n)
  | 0, i, D, hi, h => by
    have e : i = 40 := by omega
    refine (b_X12_text_34 ..).trans ((tz_bp (decide_eq_true (by omega))).trans ?_)
    rw [e, tzF_e]
  | f + 1, i, D, hi, h => by
    refine (b_X12_text_34 ..).trans ((tz_bn (decide_eq_false (by omega))).trans ((tz_bp (by rfl)).trans ?_))
    have e1 : w32 (40 * r) = 40 * r := w32_id ⟨by omega, by omega⟩
    have e2 : w32 (w32 (40 * r) + i) = 40 * r + i := by rw [e1]; exact w32_id ⟨by omega, by omega⟩
    have hb : tqib (w32 (w32 (40 * r) + i)) 160 = true := by rw [e2]; exact tqib_y (n := 160) (by omega) (by omega)
    refine (tz_bp hb).trans ?_
    rw [w32_id (x := i + 1) ⟨by omega, by omega⟩, e2]
    refine (m_text_34 d L n h0 h1 f (i + 1) (tzU D 87 (40 * r + i) 32) (by omega) (by omega)).trans ?_
    rw [← Int.add_assoc, tzF_u _ _ _ _ _ (by omega)]
theorem ag_text {Rel : (Nat → Int → Int) → Nat → Prop} {L : Nat} (hr : ∀ D n, Rel D n → ∀ f : Int, 0 ≤ f → f ≤ 5 → Rel (tzRm (tzRx D f) f) n) (hk : ∀ D n, Rel D n → ∀ (k : Nat) (v : Int), k < 4 → 0 ≤ v → v ≤ 40 → Rel (tzF (tzU (tzF (tzU D (67 + 2 * k) 1 v) (68 + 2 * k) 0 40 32) 86 k v) 87 (40 * k + 0) (40 * k + 40) 32) n) (a0 a1 : Int) : AgI Rel L n_X11_text n_X12_text [vI a0, vI a1] := by
  intro D n hR
  by_cases c : 0 ≤ a0 ∧ a0 < 4
  · obtain ⟨k, hk0⟩ : ∃ k : Nat, a0 = (k : Int) := ⟨a0.toNat, by omega⟩
    have hkc : k < 4 := by omega
    have hl : tqden tqP (1397 + 1) n_X11_lineAt [vR 4, vI a0] (tzW D L n) = some (some (vR (67 + 2 * k)), tzW D L n) := by rw [hk0]; exact s_lineAt_texts_y 1397 D L n hkc
    have ha : Nat.beq (67 + 2 * k) 0 = false := by rw [Nat.add_comm]; rfl
    by_cases c1 : 40 < a1
    · refine ⟨-1, D, n, D, ?_, ?_, rfl, rfl, hR⟩
      · refine (dn_X11_text 1399 2 a0 a1 _).trans ((b_X11_text_0 1398 2 a0 a1 _).trans ((tz_bp (by rfl)).trans ((tz_bR hl).trans ((tz_bp (by rfl)).trans ?_))))
        exact tz_bI (s_makeLine_b 1396 _ (.inr c1))
      · refine (dn_X12_text 1399 81 a0 a1 _).trans ((b_X12_text_0 1398 81 a0 a1 _).trans ((tz_bI (s_X12_isText_y 1396 _ (by omega) (by omega))).trans ((tz_bn d10).trans ?_)))
        exact tz_bn (decide_eq_false (by omega))
    by_cases c2 : a1 < 0
    · refine ⟨-3, tzRx D 5, n, tzRm (tzRx D 5) 5, ?_, ?_, ?_, ?_, hr D n hR 5 (by decide) (by decide)⟩
      · refine (dn_X11_text 1399 2 a0 a1 _).trans ((b_X11_text_0 1398 2 a0 a1 _).trans ((tz_bp (by rfl)).trans ((tz_bR hl).trans ((tz_bp (by rfl)).trans ?_))))
        exact tz_bI (s_makeLine_r 1396 D L n ha c2)
      · refine (dn_X12_text 1399 81 a0 a1 _).trans ((b_X12_text_0 1398 81 a0 a1 _).trans ((tz_bI (s_X12_isText_y 1396 _ (by omega) (by omega))).trans ((tz_bn d10).trans ?_)))
        refine (tz_bp (decide_eq_true (by omega))).trans ((tz_bn (decide_eq_false (by omega))).trans ((tz_bp (by rfl)).trans ?_))
        exact tz_bI (s_meets 1397 _ L n (f := 5) (by decide) (by decide))
      · unfold tzRx; rw [tzU_1 _ _ _ _ (by decide), tzU_1 _ _ _ _ (by decide)]
      · unfold tzRm tzRx; rw [tzU_1 _ _ _ _ (by decide), tzU_1 _ _ _ _ (by decide), tzU_1 _ _ _ _ (by decide), tzU_1 _ _ _ _ (by decide)]
    · refine ⟨a1, tzF (tzU D (67 + 2 * k) 1 a1) (68 + 2 * k) 0 40 32, n, _, ?_, ?_, ?_, ?_, hk D n hR k a1 hkc (by omega) (by omega)⟩
      · refine (dn_X11_text 1399 2 a0 a1 _).trans ((b_X11_text_0 1398 2 a0 a1 _).trans ((tz_bp (by rfl)).trans ((tz_bR hl).trans ((tz_bp (by rfl)).trans ?_))))
        refine tz_bI (s_makeLine 1396 D L n ha ?_ ?_ ?_ (by omega) (by omega))
        · intro D
          have : k = 0 ∨ k = 1 ∨ k = 2 ∨ k = 3 := by omega
          rcases this with rfl | rfl | rfl | rfl <;> rfl
        · intro D
          have : k = 0 ∨ k = 1 ∨ k = 2 ∨ k = 3 := by omega
          rcases this with rfl | rfl | rfl | rfl <;> rfl
        · intro D
          have : k = 0 ∨ k = 1 ∨ k = 2 ∨ k = 3 := by omega
          rcases this with rfl | rfl | rfl | rfl <;> rfl
      · refine (dn_X12_text 1399 81 a0 a1 _).trans ((b_X12_text_0 1398 81 a0 a1 _).trans ((tz_bI (s_X12_isText_y 1396 _ (by omega) (by omega))).trans ((tz_bn d10).trans ?_)))
        refine (tz_bp (decide_eq_true (by omega))).trans ((tz_bp (decide_eq_true (by omega))).trans ((tz_bp (by rfl)).trans ?_))
        have hb : tqib a0 4 = true := tqib_y (n := 4) (by omega) (by omega)
        refine (tz_bp hb).trans ?_
        rw [hk0]
        exact m_text_34 1398 L n (by omega) (by omega) 40 0 (tzU _ 86 k a1) (by omega) (by omega)
      · rw [tzF_1 _ _ _ _ _ (by omega), tzU_1 _ _ _ _ (by omega)]
      · rw [tzF_1 _ _ _ _ _ (by omega), tzU_1 _ _ _ _ (by omega), tzF_1 _ _ _ _ _ (by omega), tzU_1 _ _ _ _ (by omega)]
  · refine ⟨-1, D, n, D, ?_, ?_, rfl, rfl, hR⟩
    · refine (dn_X11_text 1399 2 a0 a1 _).trans ((b_X11_text_0 1398 2 a0 a1 _).trans ((tz_bp (by rfl)).trans ?_))
      refine (tz_bR (s_lineAt_texts_n 1397 D L n (by omega))).trans ((tz_bp (by rfl)).trans ?_)
      exact tz_bI (s_makeLine_b 1396 _ (.inl rfl))
    · refine (dn_X12_text 1399 81 a0 a1 _).trans ((b_X12_text_0 1398 81 a0 a1 _).trans ?_)
      exact (tz_bI (s_X12_isText_n 1396 _ (by omega))).trans (tz_bp d00)
