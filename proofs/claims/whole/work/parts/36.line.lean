set_option maxRecDepth 100000 in
theorem text_sh (D : Nat → Int → Int) (L n : Nat) {k : Nat} (h : k < 4) : (tzW D L n).2.2.1 (67 + 2 * k) = (12, 2) ∧ (tzW D L n).2.1 (67 + 2 * k) 0 = 68 + 2 * k ∧ (tzW D L n).2.2.1 (68 + 2 * k) = (1, 40) := by
  have : k = 0 ∨ k = 1 ∨ k = 2 ∨ k = 3 := by omega
  rcases this with rfl | rfl | rfl | rfl <;> exact ⟨rfl, rfl, rfl⟩
theorem ag_put {Rel : (Nat → Int → Int) → Nat → Prop} {L : Nat} (hr : ∀ D n, Rel D n → ∀ f : Int, 0 ≤ f → f ≤ 5 → Rel (tzRm (tzRx D f) f) n) (hs : ∀ D n, Rel D n → ∀ k : Nat, k < 4 → (D (67 + 2 * k) 1 = D 86 k ∧ 0 ≤ D 86 k ∧ D 86 k ≤ 40) ∨ (D (67 + 2 * k) 1 < 0 ∧ D 86 k < 0)) (he : ∀ D n, Rel D n → ∀ (k : Nat) (j : Int), k < 4 → 0 ≤ j → j < 40 → D (68 + 2 * k) j = D 87 (40 * k + j)) (hk : ∀ D n, Rel D n → ∀ (k : Nat) (j v : Int), k < 4 → 0 ≤ j → j < D 86 k → Rel (tzU (tzU D (68 + 2 * k) j (jbyte v)) 87 (40 * k + j) (jbyte v)) n) (a0 a1 a2 : Int) : AgI Rel L n_X11_put n_X12_put [vI a0, vI a1, vI a2] := by
  intro D n hR
  by_cases c : 0 ≤ a0 ∧ a0 < 4
  · obtain ⟨k, hk0⟩ : ∃ k : Nat, a0 = (k : Int) := ⟨a0.toNat, by omega⟩
    have hkc : k < 4 := by omega
    have hl : tqden tqP (1397 + 1) n_X11_lineAt [vR 4, vI a0] (tzW D L n) = some (some (vR (67 + 2 * k)), tzW D L n) := by rw [hk0]; exact s_lineAt_texts_y 1397 D L n hkc
    have ha : Nat.beq (67 + 2 * k) 0 = false := by rw [Nat.add_comm]; rfl
    obtain ⟨q1, q2, q3⟩ := text_sh D L n hkc
    have hg : Nat.beq ((tzW D L n).2.2.1 (67 + 2 * k)).1 12 = true := by rw [q1]; rfl
    have hm := s_isMissing 1397 D L n q1
    have hh := s_has 1397 D L n (i := a1) q1
    have x1 : tzRx D 1 1 = D 1 := by unfold tzRx; rw [tzU_1 _ _ _ _ (by decide), tzU_1 _ _ _ _ (by decide)]
    have x2 : tzRx D 2 1 = D 1 := by unfold tzRx; rw [tzU_1 _ _ _ _ (by decide), tzU_1 _ _ _ _ (by decide)]
    rcases hs D n hR k hkc with ⟨e1, e2, e3⟩ | ⟨e1, e2⟩
    · rw [if_pos (by omega)] at hm
      by_cases c1 : 0 ≤ a1 ∧ a1 < D 86 k
      · rw [if_pos (by omega)] at hh
        have hb : ((Nat.beq ((tzW D L n).2.2.1 ((tzW D L n).2.1 (67 + 2 * k) 0)).1 1 || Nat.beq ((tzW D L n).2.2.1 ((tzW D L n).2.1 (67 + 2 * k) 0)).1 8) && tqib a1 ((tzW D L n).2.2.1 ((tzW D L n).2.1 (67 + 2 * k) 0)).2) = true := by
          rw [q2, q3]; exact tqib_y (n := 40) (by omega) (by omega)
        have hb2 : (Nat.beq ((tzW D L n).2.2.1 ((tzW D L n).2.1 (67 + 2 * k) 0)).1 1 && tqib a1 ((tzW D L n).2.2.1 ((tzW D L n).2.1 (67 + 2 * k) 0)).2) = true := by
          rw [q2, q3]; exact tqib_y (n := 40) (by omega) (by omega)
        refine ⟨w32 (1000 + D (68 + 2 * k) a1), tzU D (68 + 2 * k) a1 (jbyte a2), n, _, ?_, ?_, ?_, ?_, hk D n hR k a1 a2 hkc c1.1 c1.2⟩
        · refine (dn_X11_put 1399 2 a0 a1 a2 _).trans ((b_X11_put_0 1398 2 a0 a1 a2 _).trans ((tz_bp (by rfl)).trans ((tz_bR hl).trans ((tz_bn ha).trans ((tz_bp hg).trans ((tz_bI hm).trans ((tz_bp d00).trans ((tz_bp hg).trans ((tz_bI hh).trans ((tz_bp (by rfl)).trans ((tz_bp hg).trans ((tz_bp hb).trans ((tz_bp hg).trans ((tz_bp hb2).trans ?_))))))))))))))
          rw [q2]; rfl
        · refine (dn_X12_put 1399 81 a0 a1 a2 _).trans ((b_X12_put_0 1398 81 a0 a1 a2 _).trans ((tz_bp (by rfl)).trans ?_))
          have h86 : tzU D (68 + 2 * k) a1 (jbyte a2) 86 a0 = D 86 k := by rw [tzU_o _ _ _ _ (by omega), hk0]
          refine (tz_bI (s_askedText_y 1395 _ L n c.1 (by omega) (by rw [h86]; exact e2))).trans ((tz_bp (by rfl)).trans ((tz_bp (by rfl)).trans ?_))
          have hb4 : tqib a0 4 = true := tqib_y (n := 4) (by omega) (by omega)
          have ew : w32 (tzU D (68 + 2 * k) a1 (jbyte a2) 86 a0 - 1) = D 86 k - 1 := by rw [h86]; exact w32_id ⟨by omega, by omega⟩
          have hin : tqden tqP (1397 + 1) n_X12_in [vI a1, vI 0, vI (w32 (tzU D (68 + 2 * k) a1 (jbyte a2) 86 a0 - 1))] (tzW (tzU D (68 + 2 * k) a1 (jbyte a2)) L n) = some (some (vI 1), tzW (tzU D (68 + 2 * k) a1 (jbyte a2)) L n) := s_X12_in_y 1397 _ c1.1 (by rw [ew]; omega)
          have e5 : w32 (w32 (40 * a0) + a1) = 40 * k + a1 := by rw [w32_id (x := 40 * a0) ⟨by omega, by omega⟩, w32_id (x := 40 * a0 + a1) ⟨by omega, by omega⟩, hk0]
          have hb5 : tqib (w32 (w32 (40 * a0) + a1)) 160 = true := by rw [e5]; exact tqib_y (n := 160) (by omega) (by omega)
          refine (tz_bp hb4).trans ((tz_bI hin).trans ((tz_bp (by rfl)).trans ((tz_bp (by rfl)).trans ((tz_bp hb5).trans ((tz_bp (by rfl)).trans ((tz_bp hb5).trans ?_))))))
          show some (some (vI (w32 (tzU D (68 + 2 * k) a1 (jbyte a2) 87 (w32 (w32 (40 * a0) + a1)) + 1000))), tzW (tzU (tzU D (68 + 2 * k) a1 (jbyte a2)) 87 (w32 (w32 (40 * a0) + a1)) (jbyte a2)) L n) = _
          rw [e5, tzU_o D a1 (jbyte a2) (40 * k + a1) (by omega), he D n hR k a1 hkc c1.1 (by omega), Int.add_comm 1000]
        · rw [tzU_1 _ _ _ _ (by omega)]
        · rw [tzU_1 _ _ _ _ (by omega), tzU_1 _ _ _ _ (by omega)]
      · rw [if_neg (by omega)] at hh
        refine ⟨-3, tzRx D 2, n, tzRm (tzRx D 2) 2, ?_, ?_, x2, ?_, hr D n hR 2 (by decide) (by decide)⟩
        · refine (dn_X11_put 1399 2 a0 a1 a2 _).trans ((b_X11_put_0 1398 2 a0 a1 a2 _).trans ((tz_bp (by rfl)).trans ((tz_bR hl).trans ((tz_bn ha).trans ((tz_bp hg).trans ((tz_bI hm).trans ((tz_bp d00).trans ((tz_bp hg).trans ((tz_bI hh).trans ((tz_bn (by rfl)).trans ((tz_bp (by rfl)).trans ?_)))))))))))
          exact tz_bI (s_refuse 1397 D L n (f := 2) (by decide) (by decide))
        · refine (dn_X12_put 1399 81 a0 a1 a2 _).trans ((b_X12_put_0 1398 81 a0 a1 a2 _).trans ((tz_bp (by rfl)).trans ?_))
          have h86 : tzRx D 2 86 a0 = D 86 k := by unfold tzRx; rw [tzU_o _ _ _ _ (by decide), tzU_o _ _ _ _ (by decide), hk0]
          refine (tz_bI (s_askedText_y 1395 _ L n c.1 (by omega) (by rw [h86]; exact e2))).trans ((tz_bp (by rfl)).trans ((tz_bp (by rfl)).trans ?_))
          have hb4 : tqib a0 4 = true := tqib_y (n := 4) (by omega) (by omega)
          have ew : w32 (tzRx D 2 86 a0 - 1) = D 86 k - 1 := by rw [h86]; exact w32_id ⟨by omega, by omega⟩
          have hin : tqden tqP (1397 + 1) n_X12_in [vI a1, vI 0, vI (w32 (tzRx D 2 86 a0 - 1))] (tzW (tzRx D 2) L n) = some (some (vI 0), tzW (tzRx D 2) L n) := s_X12_in_n 1397 _ (by rw [ew]; omega)
          refine (tz_bp hb4).trans ((tz_bI hin).trans ((tz_bn (by rfl)).trans ((tz_bp (by rfl)).trans ?_)))
          exact tz_bI (s_meets 1397 _ L n (f := 2) (by decide) (by decide))
        · unfold tzRm; rw [tzU_1 _ _ _ _ (by decide), tzU_1 _ _ _ _ (by decide)]; exact x2
    · rw [if_neg (by omega)] at hm
      refine ⟨-3, tzRx D 1, n, tzRm (tzRx D 1) 1, ?_, ?_, x1, ?_, hr D n hR 1 (by decide) (by decide)⟩
      · refine (dn_X11_put 1399 2 a0 a1 a2 _).trans ((b_X11_put_0 1398 2 a0 a1 a2 _).trans ((tz_bp (by rfl)).trans ((tz_bR hl).trans ((tz_bn ha).trans ((tz_bp hg).trans ((tz_bI hm).trans ((tz_bn d10).trans ((tz_bp (by rfl)).trans ?_))))))))
        exact tz_bI (s_refuse 1397 D L n (f := 1) (by decide) (by decide))
      · refine (dn_X12_put 1399 81 a0 a1 a2 _).trans ((b_X12_put_0 1398 81 a0 a1 a2 _).trans ((tz_bp (by rfl)).trans ?_))
        have h86 : tzRx D 1 86 a0 < 0 := by unfold tzRx; rw [tzU_o _ _ _ _ (by decide), tzU_o _ _ _ _ (by decide), hk0]; omega
        exact (tz_bI (s_askedText_n 1395 _ L n c.1 (by omega) h86)).trans (tz_bn (by rfl))
      · unfold tzRm; rw [tzU_1 _ _ _ _ (by decide), tzU_1 _ _ _ _ (by decide)]; exact x1
  · refine ⟨-1, D, n, D, ?_, ?_, rfl, rfl, hR⟩
    · refine (dn_X11_put 1399 2 a0 a1 a2 _).trans ((b_X11_put_0 1398 2 a0 a1 a2 _).trans ((tz_bp (by rfl)).trans ?_))
      exact (tz_bR (s_lineAt_texts_n 1397 D L n (by omega))).trans (tz_bp (by rfl))
    · refine (dn_X12_put 1399 81 a0 a1 a2 _).trans ((b_X12_put_0 1398 81 a0 a1 a2 _).trans ((tz_bp (by rfl)).trans ?_))
      exact (tz_bI (s_askedText_b 1395 _ (by omega))).trans (tz_bn (by rfl))
