/-! a Line's questions, and what the class tells -/
theorem s_isMissing (d : Nat) (D : Nat → Int → Int) (L n : Nat) {a : Nat} (hsh : (tzW D L n).2.2.1 a = (12, 2)) : tqden tqP (d + 1) n_X2_isMissing [vR a] (tzW D L n) = some (some (vI (if 0 ≤ D a 1 then 0 else 1)), tzW D L n) := by
  refine (dn_X2_isMissing ..).trans ((b_X2_isMissing_0 ..).trans ?_)
  have hg : Nat.beq ((tzW D L n).2.2.1 a).1 12 = true := by rw [hsh]; rfl
  refine (tz_bp hg).trans ?_
  by_cases c : 0 ≤ D a 1
  · have hd : decide (0 ≤ D a 1) = true := decide_eq_true c
    rw [if_pos c]; exact tz_bp hd
  · have hd : decide (0 ≤ D a 1) = false := decide_eq_false c
    rw [if_neg c]; exact tz_bn hd
theorem s_has (d : Nat) (D : Nat → Int → Int) (L n : Nat) {a : Nat} {i : Int} (hsh : (tzW D L n).2.2.1 a = (12, 2)) : tqden tqP (d + 1) n_X2_has [vR a, vI i] (tzW D L n) = some (some (vI (if 0 ≤ i ∧ i < D a 1 then 1 else 0)), tzW D L n) := by
  refine (dn_X2_has ..).trans ((b_X2_has_0 ..).trans ?_)
  have hg : Nat.beq ((tzW D L n).2.2.1 a).1 12 = true := by rw [hsh]; rfl
  by_cases c0 : i < 0
  · rw [if_neg (by omega)]; exact tz_bp (decide_eq_true c0)
  · refine (tz_bn (decide_eq_false c0)).trans ((tz_bp hg).trans ?_)
    by_cases c : D a 1 ≤ i
    · have hd : decide (D a 1 ≤ i) = true := decide_eq_true c
      rw [if_neg (by omega)]; exact tz_bp hd
    · have hd : decide (D a 1 ≤ i) = false := decide_eq_false c
      rw [if_pos (by omega)]; exact tz_bn hd
theorem s_tells (d : Nat) (D : Nat → Int → Int) (L n : Nat) (x : Int) : tqden tqP (d + 1) n_X11_tells [vR 2, vI x] (tzW D L n) = some (some (vI 1), tzW (tzU D 53 2 x) L n) :=
  (dn_X11_tells ..).trans ((b_X11_tells_0 ..).trans ((tz_bp (by rfl)).trans (tz_bp (by rfl))))
