set_option maxRecDepth 100000 in
theorem ag_upper {Rel : (Nat → Int → Int) → Nat → Prop} {L : Nat} (h : ∀ D n, Rel D n → D 53 4 = D 81 3) : AgL Rel L n_X11_upper n_X12_upper [] := by
  intro D n hR
  refine ⟨D 53 4, D, n, D, ?_, ?_, rfl, rfl, hR⟩
  · exact (dn_X11_upper 1399 2 _).trans ((b_X11_upper_0 1398 2 _).trans ((tz_bp (by rfl)).trans (tz_bp (by rfl))))
  · rw [h D n hR]
    exact (dn_X12_upper 1399 81 _).trans ((b_X12_upper_0 1398 81 _).trans (tz_bp (by rfl)))
set_option maxRecDepth 100000 in
theorem ag_lower {Rel : (Nat → Int → Int) → Nat → Prop} {L : Nat} (h : ∀ D n, Rel D n → D 53 5 = D 81 4) : AgL Rel L n_X11_lower n_X12_lower [] := by
  intro D n hR
  refine ⟨D 53 5, D, n, D, ?_, ?_, rfl, rfl, hR⟩
  · exact (dn_X11_lower 1399 2 _).trans ((b_X11_lower_0 1398 2 _).trans ((tz_bp (by rfl)).trans (tz_bp (by rfl))))
  · rw [h D n hR]
    exact (dn_X12_lower 1399 81 _).trans ((b_X12_lower_0 1398 81 _).trans (tz_bp (by rfl)))
set_option maxRecDepth 100000 in
theorem ag_pence {Rel : (Nat → Int → Int) → Nat → Prop} {L : Nat} (h : ∀ D n, Rel D n → D 53 3 = D 81 45) : AgL Rel L n_X11_pence n_X12_pence [] := by
  intro D n hR
  refine ⟨D 53 3, D, n, D, ?_, ?_, rfl, rfl, hR⟩
  · exact (dn_X11_pence 1399 2 _).trans ((b_X11_pence_0 1398 2 _).trans ((tz_bp (by rfl)).trans (tz_bp (by rfl))))
  · rw [h D n hR]
    exact (dn_X12_pence 1399 81 _).trans ((b_X12_pence_0 1398 81 _).trans (tz_bp (by rfl)))
set_option maxRecDepth 100000 in
theorem ag_asked {Rel : (Nat → Int → Int) → Nat → Prop} {L : Nat} (h : ∀ D n, Rel D n → D 53 2 = D 81 2) : AgI Rel L n_X11_asked n_X12_asked [] := by
  intro D n hR
  refine ⟨D 53 2, D, n, D, ?_, ?_, rfl, rfl, hR⟩
  · exact (dn_X11_asked 1399 2 _).trans ((b_X11_asked_0 1398 2 _).trans ((tz_bp (by rfl)).trans (tz_bp (by rfl))))
  · rw [h D n hR]
    exact (dn_X12_asked 1399 81 _).trans ((b_X12_asked_0 1398 81 _).trans (tz_bp (by rfl)))
set_option maxRecDepth 100000 in
theorem ag_finding {Rel : (Nat → Int → Int) → Nat → Prop} {L : Nat} (h : ∀ D n, Rel D n → D 53 1 = D 81 0) : AgI Rel L n_X11_finding n_X12_finding [] := by
  intro D n hR
  refine ⟨D 53 1, D, n, D, ?_, ?_, rfl, rfl, hR⟩
  · exact (dn_X11_finding 1399 2 _).trans ((b_X11_finding_0 1398 2 _).trans ((tz_bp (by rfl)).trans (tz_bp (by rfl))))
  · rw [h D n hR]
    exact (dn_X12_finding 1399 81 _).trans ((b_X12_finding_0 1398 81 _).trans (tz_bp (by rfl)))
set_option maxRecDepth 100000 in
theorem s_X11_isWithin_y (d : Nat) {a b c : Int} (m : tqM) (h1 : b ≤ a) (h2 : a ≤ c) : tqden tqP (d + 1) n_X11_isWithin [vI a, vI b, vI c] m = some (some (vI 1), m) :=
  (dn_X11_isWithin ..).trans ((b_X11_isWithin_0 ..).trans ((tz_bn (decide_eq_false (by omega))).trans (tz_bn (decide_eq_false (by omega)))))
theorem s_X11_isWithin_n (d : Nat) {a b c : Int} (m : tqM) (h : a < b ∨ c < a) : tqden tqP (d + 1) n_X11_isWithin [vI a, vI b, vI c] m = some (some (vI 0), m) := by
  refine (dn_X11_isWithin ..).trans ((b_X11_isWithin_0 ..).trans ?_)
  by_cases h1 : a < b
  · exact tz_bp (decide_eq_true h1)
  · exact (tz_bn (decide_eq_false h1)).trans (tz_bp (decide_eq_true (by omega)))
set_option maxRecDepth 100000 in
theorem s_X12_in_y (d : Nat) {a b c : Int} (m : tqM) (h1 : b ≤ a) (h2 : a ≤ c) : tqden tqP (d + 1) n_X12_in [vI a, vI b, vI c] m = some (some (vI 1), m) :=
  (dn_X12_in ..).trans ((b_X12_in_0 ..).trans ((tz_bn (decide_eq_false (by omega))).trans (tz_bn (decide_eq_false (by omega)))))
theorem s_X12_in_n (d : Nat) {a b c : Int} (m : tqM) (h : a < b ∨ c < a) : tqden tqP (d + 1) n_X12_in [vI a, vI b, vI c] m = some (some (vI 0), m) := by
  refine (dn_X12_in ..).trans ((b_X12_in_0 ..).trans ?_)
  by_cases h1 : a < b
  · exact tz_bp (decide_eq_true h1)
  · exact (tz_bn (decide_eq_false h1)).trans (tz_bp (decide_eq_true (by omega)))
set_option maxRecDepth 100000 in
theorem d10 : decide ((1 : Int) = 0) = false := rfl
theorem d00 : decide ((0 : Int) = 0) = true := rfl
theorem tqib_y {j : Int} {n : Nat} (h1 : 0 ≤ j) (h2 : j < (n : Int)) : tqib j n = true := by
  unfold tqib; rw [decide_eq_true h1, decide_eq_true h2]; rfl
theorem ag_findings {Rel : (Nat → Int → Int) → Nat → Prop} {L : Nat} (h : ∀ D n, Rel D n → ∀ j : Int, 1 ≤ j → j ≤ 5 → D 54 j = D 82 j) (a0 : Int) : AgI Rel L n_X11_findings n_X12_findings [vI a0] := by
  intro D n hR
  by_cases c : 1 ≤ a0 ∧ a0 ≤ 5
  · refine ⟨D 54 a0, D, n, D, ?_, ?_, rfl, rfl, hR⟩
    · refine (dn_X11_findings 1399 2 a0 _).trans ((b_X11_findings_0 1398 2 a0 _).trans ?_)
      refine (tz_bI (s_X11_isWithin_y 1397 _ c.1 c.2)).trans ?_
      exact (tz_bn d10).trans ((tz_bp (by rfl)).trans ((tz_bp (by rfl)).trans (tz_bp (tqib_y (n := 6) (by omega) (by omega)))))
    · rw [h D n hR a0 c.1 c.2]
      refine (dn_X12_findings 1399 81 a0 _).trans ((b_X12_findings_0 1398 81 a0 _).trans ?_)
      refine (tz_bI (s_X12_in_y 1397 _ c.1 c.2)).trans ?_
      exact (tz_bn d10).trans ((tz_bp (by rfl)).trans (tz_bp (tqib_y (n := 6) (by omega) (by omega))))
  · refine ⟨-1, D, n, D, ?_, ?_, rfl, rfl, hR⟩
    · refine (dn_X11_findings 1399 2 a0 _).trans ((b_X11_findings_0 1398 2 a0 _).trans ?_)
      exact (tz_bI (s_X11_isWithin_n 1397 _ (by omega))).trans (tz_bp d00)
    · refine (dn_X12_findings 1399 81 a0 _).trans ((b_X12_findings_0 1398 81 a0 _).trans ?_)
      exact (tz_bI (s_X12_in_n 1397 _ (by omega))).trans (tz_bp d00)
set_option maxRecDepth 100000 in
theorem ag_rented {Rel : (Nat → Int → Int) → Nat → Prop} {L : Nat} (h : ∀ D n, Rel D n → D 50 2 = D 81 69 ∧ 0 ≤ D 81 69 ∧ D 81 69 ≤ 40 ∧ ∀ j : Int, 0 ≤ j → j < D 81 69 → D 52 j = D 131 j) (a0 : Int) : AgI Rel L n_X11_rented n_X12_rented [vI a0] := by
  intro D n hR
  obtain ⟨e1, e2, e3, e4⟩ := h D n hR
  have ew : w32 (D 81 69 - 1) = D 81 69 - 1 := w32_id ⟨by omega, by omega⟩
  by_cases c : 0 ≤ a0 ∧ a0 < D 81 69
  · refine ⟨D 52 a0, D, n, D, ?_, ?_, rfl, rfl, hR⟩
    · refine (dn_X11_rented 1399 2 a0 _).trans ((b_X11_rented_0 1398 2 a0 _).trans ?_)
      refine (tz_bn (decide_eq_false (by omega))).trans ((tz_bp (by rfl)).trans ((tz_bp (by rfl)).trans ?_))
      have hd : decide (D 50 2 ≤ a0) = false := decide_eq_false (by omega)
      refine (tz_bn hd).trans ((tz_bp (by rfl)).trans ((tz_bp (by rfl)).trans ?_))
      exact tz_bp (tqib_y (n := 40) (by omega) (by omega))
    · rw [e4 a0 c.1 c.2]
      refine (dn_X12_rented 1399 81 a0 _).trans ((b_X12_rented_0 1398 81 a0 _).trans ((tz_bp (by rfl)).trans ?_))
      have hi : tqden tqP (1397 + 1) n_X12_in [vI a0, vI 0, vI (w32 (D 81 69 - 1))] (tzW D L n) = some (some (vI 1), tzW D L n) := s_X12_in_y 1397 _ c.1 (by rw [ew]; omega)
      refine (tz_bI hi).trans ?_
      exact (tz_bn d10).trans ((tz_bp (by rfl)).trans (tz_bp (tqib_y (n := 40) (by omega) (by omega))))
  · refine ⟨-9, D, n, D, ?_, ?_, rfl, rfl, hR⟩
    · refine (dn_X11_rented 1399 2 a0 _).trans ((b_X11_rented_0 1398 2 a0 _).trans ?_)
      by_cases c0 : a0 < 0
      · exact tz_bp (decide_eq_true c0)
      · refine (tz_bn (decide_eq_false c0)).trans ((tz_bp (by rfl)).trans ((tz_bp (by rfl)).trans ?_))
        have hd : decide (D 50 2 ≤ a0) = true := decide_eq_true (by omega)
        exact tz_bp hd
    · refine (dn_X12_rented 1399 81 a0 _).trans ((b_X12_rented_0 1398 81 a0 _).trans ((tz_bp (by rfl)).trans ?_))
      have hi : tqden tqP (1397 + 1) n_X12_in [vI a0, vI 0, vI (w32 (D 81 69 - 1))] (tzW D L n) = some (some (vI 0), tzW D L n) := s_X12_in_n 1397 _ (by rw [ew]; omega)
      exact (tz_bI hi).trans (tz_bp d00)
set_option maxRecDepth 100000 in
theorem ag_looked {Rel : (Nat → Int → Int) → Nat → Prop} {L : Nat} (h : ∀ D n, Rel D n → D 30 4 = D 81 58 ∧ 0 ≤ D 81 58 ∧ D 81 58 ≤ 6 ∧ ∀ j : Int, 0 ≤ j → j < D 81 58 → D 40 j = D 122 j) (a0 : Int) : AgI Rel L n_X11_looked n_X12_looked [vI a0] := by
  intro D n hR
  obtain ⟨e1, e2, e3, e4⟩ := h D n hR
  have ew : w32 (D 81 58 - 1) = D 81 58 - 1 := w32_id ⟨by omega, by omega⟩
  by_cases c : 0 ≤ a0 ∧ a0 < D 81 58
  · refine ⟨D 40 a0, D, n, D, ?_, ?_, rfl, rfl, hR⟩
    · refine (dn_X11_looked 1399 2 a0 _).trans ((b_X11_looked_0 1398 2 a0 _).trans ?_)
      refine (tz_bn (decide_eq_false (by omega))).trans ((tz_bp (by rfl)).trans ((tz_bp (by rfl)).trans ?_))
      have hd : decide (D 30 4 ≤ a0) = false := decide_eq_false (by omega)
      refine (tz_bn hd).trans ((tz_bp (by rfl)).trans ((tz_bp (by rfl)).trans ?_))
      exact tz_bp (tqib_y (n := 6) (by omega) (by omega))
    · rw [e4 a0 c.1 c.2]
      refine (dn_X12_looked 1399 81 a0 _).trans ((b_X12_looked_0 1398 81 a0 _).trans ((tz_bp (by rfl)).trans ?_))
      have hi : tqden tqP (1397 + 1) n_X12_in [vI a0, vI 0, vI (w32 (D 81 58 - 1))] (tzW D L n) = some (some (vI 1), tzW D L n) := s_X12_in_y 1397 _ c.1 (by rw [ew]; omega)
      refine (tz_bI hi).trans ?_
      exact (tz_bn d10).trans ((tz_bp (by rfl)).trans (tz_bp (tqib_y (n := 6) (by omega) (by omega))))
  · refine ⟨-9, D, n, D, ?_, ?_, rfl, rfl, hR⟩
    · refine (dn_X11_looked 1399 2 a0 _).trans ((b_X11_looked_0 1398 2 a0 _).trans ?_)
      by_cases c0 : a0 < 0
      · exact tz_bp (decide_eq_true c0)
      · refine (tz_bn (decide_eq_false c0)).trans ((tz_bp (by rfl)).trans ((tz_bp (by rfl)).trans ?_))
        have hd : decide (D 30 4 ≤ a0) = true := decide_eq_true (by omega)
        exact tz_bp hd
    · refine (dn_X12_looked 1399 81 a0 _).trans ((b_X12_looked_0 1398 81 a0 _).trans ((tz_bp (by rfl)).trans ?_))
      have hi : tqden tqP (1397 + 1) n_X12_in [vI a0, vI 0, vI (w32 (D 81 58 - 1))] (tzW D L n) = some (some (vI 0), tzW D L n) := s_X12_in_n 1397 _ (by rw [ew]; omega)
      exact (tz_bI hi).trans (tz_bp d00)
