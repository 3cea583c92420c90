/-! ===== the memory as all calls find it: numbers D, the script's length L, n trailers ===== -/
def tzWP (n : Nat) (a : Nat) (j : Int) : Nat := if a = 6 then (if 0 ≤ j ∧ j < (n : Int) then 133 + j.toNat else 0) else tzf 0 tzPw a j
def tzWS (L n a : Nat) : Nat × Nat := if a = 1 then (8, L) else if a ≤ 132 then tzSl.getD a (0, 0) else if a ≤ 132 + n then (19, 13) else (0, 0)
def tzW (D : Nat → Int → Int) (L n : Nat) : tqM := (D, tzWP n, tzWS L n, 132 + n, 4716 + 13 * n)
theorem tzW_D (D : Nat → Int → Int) (L n : Nat) : (tzW D L n).1 = D := rfl
theorem tzW_S1 (D : Nat → Int → Int) (L n : Nat) : (tzW D L n).2.2.1 1 = (8, L) := rfl
theorem tzW_S2 (D : Nat → Int → Int) (L n : Nat) : (tzW D L n).2.2.1 2 = (21, 16) := rfl
theorem tzW_S81 (D : Nat → Int → Int) (L n : Nat) : (tzW D L n).2.2.1 81 = (22, 73) := rfl
/-- the numbers as the constructors leave them -/
def tzD0 (ys : Nat → Int) (a : Nat) (j : Int) : Int := if a = 1 then ys j.toNat else tzf 0 tzDw a j
theorem mm_W (L : Nat) (ys : Nat → Int) : mm L ys 132 129 59 = tzW (tzD0 ys) L 0 := by
  unfold mm tzW
  refine Prod.ext rfl (Prod.ext ?_ (Prod.ext ?_ (Prod.ext rfl (show tzsum 132 = 4716 + 13 * 0 by decide +kernel))))
  · funext a j
    show tzf 0 (tzPw.take 129) a j = tzWP 0 a j
    have e : tzPw.take 129 = tzPw := rfl
    rw [e]
    unfold tzWP
    by_cases h : a = 6
    · rw [if_pos h, if_neg (by omega), h]
      exact tzf_none 0 tzPw 6 (by decide +kernel) j
    · rw [if_neg h]
  · funext a
    show (if a = 1 then (8, L) else if a ≤ 132 then tzSl.getD a (0, 0) else (0, 0)) = tzWS L 0 a
    unfold tzWS
    by_cases h : a = 1
    · rw [if_pos h, if_pos h]
    · rw [if_neg h, if_neg h]
      by_cases h2 : a ≤ 132
      · rw [if_pos h2, if_pos h2]
      · rw [if_neg h2, if_neg h2, if_neg (by omega)]
theorem mm_0 (L : Nat) (ys : Nat → Int) : tqnew ((fun a j => if a = 1 then ys j.toNat else 0, fun _ _ => 0, fun a => if a = 1 then (8, L) else (0, 0), 1, 0) : tqM) 21 16 = mm L ys 2 0 0 := by
  unfold tqnew mm
  refine Prod.ext ?_ (Prod.ext ?_ (Prod.ext ?_ (Prod.ext rfl (show 0 + 16 = tzsum 2 by decide +kernel))))
  · funext a j
    show (if a = 2 then (0 : Int) else if a = 1 then ys j.toNat else 0) = if a = 1 then ys j.toNat else 0
    by_cases h : a = 2
    · rw [if_pos h, if_neg (by omega)]
    · rw [if_neg h]
  · funext a j
    show (if a = 2 then (0 : Nat) else 0) = 0
    split <;> rfl
  · funext a
    show (if a = 2 then (21, 16) else if a = 1 then (8, L) else (0, 0)) = if a = 1 then (8, L) else if a ≤ 2 then tzSl.getD a (0, 0) else (0, 0)
    by_cases h : a = 2
    · rw [if_pos h, if_neg (by omega), if_pos (by omega), h]; rfl
    · rw [if_neg h]
      by_cases h1 : a = 1
      · rw [if_pos h1, if_pos h1]
      · rw [if_neg h1, if_neg h1]
        by_cases h2 : a ≤ 2
        · have h3 : a = 0 := by omega
          rw [if_pos h2, h3]; rfl
        · rw [if_neg h2]
theorem tqbI_mk (x : Int) (m : tqM) (f : Int → tqM → Option tqRes) : tqbI (some (some (vI x), m)) f = f x m := rfl
theorem tqbL_mk (x : Int) (m : tqM) (f : Int → tqM → Option tqRes) : tqbL (some (some (vL x), m)) f = f x m := rfl
theorem tz_bI {t : Option tqRes} {f : Int → tqM → Option tqRes} {x : Int} {m : tqM} (h : t = some (some (vI x), m)) : tqbI t f = f x m := by rw [h]; rfl
theorem nb81 : Nat.beq 8 1 = false := rfl
theorem nb88 : Nat.beq 8 8 = true := rfl
theorem nb21 : Nat.beq 21 21 = true := rfl
theorem nb22 : Nat.beq 22 22 = true := rfl
theorem nl18 : Nat.ble 1 8 = true := rfl
theorem nl88 : Nat.ble 8 8 = true := rfl
theorem dxx (x : Int) : decide (x = x) = true := by simp
theorem jxx (x : Int) : decide (jcmp x x = 0) = true := by unfold jcmp; rw [if_neg (by omega), if_pos rfl]; rfl
/-- the class and the reference answer one call alike, and what is known of the memory stays known -/
def AgI (Rel : (Nat → Int → Int) → Nat → Prop) (L nx nm : Nat) (as : List tqV) : Prop := ∀ D n, Rel D n → ∃ x D1 n1 D2, tqden tqP 1399 nx (vR 2 :: as) (tzW D L n) = some (some (vI x), tzW D1 L n1) ∧ tqden tqP 1399 nm (vR 81 :: as) (tzW D1 L n1) = some (some (vI x), tzW D2 L n1) ∧ D1 1 = D 1 ∧ D2 1 = D 1 ∧ Rel D2 n1
def AgL (Rel : (Nat → Int → Int) → Nat → Prop) (L nx nm : Nat) (as : List tqV) : Prop := ∀ D n, Rel D n → ∃ x D1 n1 D2, tqden tqP 1399 nx (vR 2 :: as) (tzW D L n) = some (some (vL x), tzW D1 L n1) ∧ tqden tqP 1399 nm (vR 81 :: as) (tzW D1 L n1) = some (some (vL x), tzW D2 L n1) ∧ D1 1 = D 1 ∧ D2 1 = D 1 ∧ Rel D2 n1
/-- from place pc of the law with index i the answer is 1 -/
def LawAt (Rel : (Nat → Int → Int) → Nat → Prop) (L : Nat) (S : Int → Int) (pc : Nat) (i : Int) : Prop := ∀ D n, Rel D n → D 1 = S → ∃ mF, tqrun tqP (1399 + 1) tqc_L_law pc [vR 1, vR 2, vR 81, vI i] [] (tzW D L n) = some (some (vI 1), mF) ∧ mF.2.2.2.1 ≤ 600001 ∧ mF.2.2.2.2 ≤ 7302250
