/-! ===== walking by simp: shapes and pointers of the memory, conditions as propositions ===== -/
set_option maxRecDepth 100000 in
theorem w_shp (D : Nat → Int → Int) (L n : Nat) : (tzW D L n).2.2.1 2 = (21, 16) ∧ (tzW D L n).2.2.1 3 = (4, 6) ∧ (tzW D L n).2.2.1 4 = (4, 4) ∧ (tzW D L n).2.2.1 5 = (5, 6) ∧ (tzW D L n).2.2.1 6 = (6, 12) ∧ (tzW D L n).2.2.1 7 = (20, 6) ∧ (tzW D L n).2.2.1 8 = (1, 64) ∧ (tzW D L n).2.2.1 9 = (1, 64) ∧ (tzW D L n).2.2.1 10 = (1, 64) ∧ (tzW D L n).2.2.1 11 = (1, 64) ∧ (tzW D L n).2.2.1 12 = (1, 8) ∧ (tzW D L n).2.2.1 13 = (11, 5) ∧ (tzW D L n).2.2.1 14 = (1, 60) ∧ (tzW D L n).2.2.1 15 = (1, 60) ∧ (tzW D L n).2.2.1 16 = (1, 60) ∧ (tzW D L n).2.2.1 17 = (1, 60) ∧ (tzW D L n).2.2.1 18 = (17, 5) ∧ (tzW D L n).2.2.1 19 = (1, 20) ∧ (tzW D L n).2.2.1 20 = (1, 20) ∧ (tzW D L n).2.2.1 21 = (1, 360) ∧ (tzW D L n).2.2.1 22 = (1, 18) ∧ (tzW D L n).2.2.1 23 = (16, 9) ∧ (tzW D L n).2.2.1 24 = (1, 8) ∧ (tzW D L n).2.2.1 25 = (1, 8) ∧ (tzW D L n).2.2.1 26 = (1, 8) ∧ (tzW D L n).2.2.1 27 = (1, 36) ∧ (tzW D L n).2.2.1 28 = (1, 6) ∧ (tzW D L n).2.2.1 29 = (1, 6) ∧ (tzW D L n).2.2.1 30 = (15, 7) ∧ (tzW D L n).2.2.1 31 = (7, 6) ∧ (tzW D L n).2.2.1 32 = (1, 8) ∧ (tzW D L n).2.2.1 33 = (1, 8) ∧ (tzW D L n).2.2.1 34 = (1, 8) ∧ (tzW D L n).2.2.1 35 = (1, 8) ∧ (tzW D L n).2.2.1 36 = (1, 8) ∧ (tzW D L n).2.2.1 37 = (1, 8) ∧ (tzW D L n).2.2.1 38 = (1, 8) ∧ (tzW D L n).2.2.1 39 = (1, 6) ∧ (tzW D L n).2.2.1 40 = (1, 6) ∧ (tzW D L n).2.2.1 41 = (13, 9) ∧ (tzW D L n).2.2.1 42 = (1, 8) ∧ (tzW D L n).2.2.1 43 = (1, 8) ∧ (tzW D L n).2.2.1 44 = (3, 8) ∧ (tzW D L n).2.2.1 45 = (1, 64) ∧ (tzW D L n).2.2.1 46 = (1, 64) ∧ (tzW D L n).2.2.1 47 = (1, 8) ∧ (tzW D L n).2.2.1 48 = (1, 8) ∧ (tzW D L n).2.2.1 49 = (1, 8) ∧ (tzW D L n).2.2.1 50 = (14, 8) ∧ (tzW D L n).2.2.1 51 = (1, 410) ∧ (tzW D L n).2.2.1 52 = (1, 40) ∧ (tzW D L n).2.2.1 53 = (10, 6) ∧ (tzW D L n).2.2.1 54 = (1, 6) ∧ (tzW D L n).2.2.1 81 = (22, 73) ∧ (tzW D L n).2.2.1 82 = (1, 6) ∧ (tzW D L n).2.2.1 83 = (1, 6) ∧ (tzW D L n).2.2.1 84 = (1, 240) ∧ (tzW D L n).2.2.1 85 = (1, 40) ∧ (tzW D L n).2.2.1 86 = (1, 4) ∧ (tzW D L n).2.2.1 87 = (1, 160) ∧ (tzW D L n).2.2.1 88 = (1, 64) ∧ (tzW D L n).2.2.1 89 = (1, 64) ∧ (tzW D L n).2.2.1 90 = (1, 64) ∧ (tzW D L n).2.2.1 91 = (1, 64) ∧ (tzW D L n).2.2.1 92 = (1, 8) ∧ (tzW D L n).2.2.1 93 = (1, 12) ∧ (tzW D L n).2.2.1 94 = (1, 12) ∧ (tzW D L n).2.2.1 95 = (1, 12) ∧ (tzW D L n).2.2.1 96 = (3, 12) ∧ (tzW D L n).2.2.1 97 = (1, 12) ∧ (tzW D L n).2.2.1 98 = (1, 12) ∧ (tzW D L n).2.2.1 99 = (1, 12) ∧ (tzW D L n).2.2.1 100 = (1, 72) ∧ (tzW D L n).2.2.1 101 = (1, 72) ∧ (tzW D L n).2.2.1 102 = (3, 12) ∧ (tzW D L n).2.2.1 103 = (1, 12) ∧ (tzW D L n).2.2.1 104 = (1, 12) ∧ (tzW D L n).2.2.1 105 = (1, 6) ∧ (tzW D L n).2.2.1 106 = (1, 6) ∧ (tzW D L n).2.2.1 107 = (1, 6) ∧ (tzW D L n).2.2.1 108 = (1, 6) ∧ (tzW D L n).2.2.1 109 = (1, 6) ∧ (tzW D L n).2.2.1 110 = (1, 60) ∧ (tzW D L n).2.2.1 111 = (1, 60) ∧ (tzW D L n).2.2.1 112 = (1, 60) ∧ (tzW D L n).2.2.1 113 = (1, 60) ∧ (tzW D L n).2.2.1 114 = (1, 60) ∧ (tzW D L n).2.2.1 115 = (1, 20) ∧ (tzW D L n).2.2.1 116 = (1, 20) ∧ (tzW D L n).2.2.1 117 = (1, 360) ∧ (tzW D L n).2.2.1 118 = (1, 18) ∧ (tzW D L n).2.2.1 119 = (1, 6) ∧ (tzW D L n).2.2.1 120 = (1, 6) ∧ (tzW D L n).2.2.1 121 = (1, 6) ∧ (tzW D L n).2.2.1 122 = (1, 6) ∧ (tzW D L n).2.2.1 123 = (1, 6) ∧ (tzW D L n).2.2.1 124 = (1, 6) ∧ (tzW D L n).2.2.1 125 = (1, 64) ∧ (tzW D L n).2.2.1 126 = (1, 8) ∧ (tzW D L n).2.2.1 127 = (1, 8) ∧ (tzW D L n).2.2.1 128 = (1, 64) ∧ (tzW D L n).2.2.1 129 = (1, 16) ∧ (tzW D L n).2.2.1 130 = (1, 16) ∧ (tzW D L n).2.2.1 131 = (1, 40) ∧ (tzW D L n).2.2.1 132 = (2, 410) := ⟨rfl, rfl, rfl, rfl, rfl, rfl, rfl, rfl, rfl, rfl, rfl, rfl, rfl, rfl, rfl, rfl, rfl, rfl, rfl, rfl, rfl, rfl, rfl, rfl, rfl, rfl, rfl, rfl, rfl, rfl, rfl, rfl, rfl, rfl, rfl, rfl, rfl, rfl, rfl, rfl, rfl, rfl, rfl, rfl, rfl, rfl, rfl, rfl, rfl, rfl, rfl, rfl, rfl, rfl, rfl, rfl, rfl, rfl, rfl, rfl, rfl, rfl, rfl, rfl, rfl, rfl, rfl, rfl, rfl, rfl, rfl, rfl, rfl, rfl, rfl, rfl, rfl, rfl, rfl, rfl, rfl, rfl, rfl, rfl, rfl, rfl, rfl, rfl, rfl, rfl, rfl, rfl, rfl, rfl, rfl, rfl, rfl, rfl, rfl, rfl, rfl, rfl, rfl, rfl, rfl⟩
set_option maxRecDepth 100000 in
theorem w_ptr (D : Nat → Int → Int) (L n : Nat) : (tzW D L n).2.1 2 0 = 3 ∧ (tzW D L n).2.1 2 1 = 4 ∧ (tzW D L n).2.1 2 2 = 5 ∧ (tzW D L n).2.1 2 3 = 6 ∧ (tzW D L n).2.1 7 0 = 8 ∧ (tzW D L n).2.1 7 1 = 9 ∧ (tzW D L n).2.1 7 2 = 10 ∧ (tzW D L n).2.1 7 3 = 11 ∧ (tzW D L n).2.1 7 4 = 12 ∧ (tzW D L n).2.1 2 4 = 7 ∧ (tzW D L n).2.1 13 0 = 14 ∧ (tzW D L n).2.1 13 1 = 15 ∧ (tzW D L n).2.1 13 2 = 16 ∧ (tzW D L n).2.1 13 3 = 17 ∧ (tzW D L n).2.1 2 5 = 13 ∧ (tzW D L n).2.1 18 0 = 19 ∧ (tzW D L n).2.1 18 1 = 20 ∧ (tzW D L n).2.1 18 2 = 21 ∧ (tzW D L n).2.1 18 3 = 22 ∧ (tzW D L n).2.1 2 6 = 18 ∧ (tzW D L n).2.1 23 0 = 24 ∧ (tzW D L n).2.1 23 1 = 25 ∧ (tzW D L n).2.1 23 2 = 26 ∧ (tzW D L n).2.1 23 3 = 27 ∧ (tzW D L n).2.1 23 4 = 28 ∧ (tzW D L n).2.1 23 5 = 29 ∧ (tzW D L n).2.1 2 7 = 23 ∧ (tzW D L n).2.1 31 0 = 32 ∧ (tzW D L n).2.1 31 1 = 33 ∧ (tzW D L n).2.1 31 2 = 34 ∧ (tzW D L n).2.1 31 3 = 35 ∧ (tzW D L n).2.1 31 4 = 36 ∧ (tzW D L n).2.1 31 5 = 37 ∧ (tzW D L n).2.1 30 0 = 31 ∧ (tzW D L n).2.1 30 1 = 38 ∧ (tzW D L n).2.1 30 2 = 39 ∧ (tzW D L n).2.1 30 3 = 40 ∧ (tzW D L n).2.1 2 8 = 30 ∧ (tzW D L n).2.1 41 0 = 42 ∧ (tzW D L n).2.1 41 1 = 43 ∧ (tzW D L n).2.1 41 2 = 44 ∧ (tzW D L n).2.1 41 3 = 45 ∧ (tzW D L n).2.1 41 4 = 46 ∧ (tzW D L n).2.1 41 5 = 47 ∧ (tzW D L n).2.1 41 6 = 48 ∧ (tzW D L n).2.1 41 7 = 49 ∧ (tzW D L n).2.1 2 9 = 41 ∧ (tzW D L n).2.1 50 0 = 51 ∧ (tzW D L n).2.1 50 1 = 52 ∧ (tzW D L n).2.1 2 10 = 50 ∧ (tzW D L n).2.1 53 0 = 54 ∧ (tzW D L n).2.1 2 11 = 53 ∧ (tzW D L n).2.1 81 1 = 82 ∧ (tzW D L n).2.1 81 6 = 83 ∧ (tzW D L n).2.1 81 7 = 84 ∧ (tzW D L n).2.1 81 8 = 85 ∧ (tzW D L n).2.1 81 9 = 86 ∧ (tzW D L n).2.1 81 10 = 87 ∧ (tzW D L n).2.1 81 11 = 88 ∧ (tzW D L n).2.1 81 12 = 89 ∧ (tzW D L n).2.1 81 13 = 90 ∧ (tzW D L n).2.1 81 14 = 91 ∧ (tzW D L n).2.1 81 15 = 92 ∧ (tzW D L n).2.1 81 17 = 93 ∧ (tzW D L n).2.1 81 18 = 94 ∧ (tzW D L n).2.1 81 19 = 95 ∧ (tzW D L n).2.1 81 20 = 96 ∧ (tzW D L n).2.1 81 21 = 97 ∧ (tzW D L n).2.1 81 22 = 98 ∧ (tzW D L n).2.1 81 23 = 99 ∧ (tzW D L n).2.1 81 24 = 100 ∧ (tzW D L n).2.1 81 25 = 101 ∧ (tzW D L n).2.1 81 26 = 102 ∧ (tzW D L n).2.1 81 27 = 103 ∧ (tzW D L n).2.1 81 28 = 104 ∧ (tzW D L n).2.1 81 29 = 105 ∧ (tzW D L n).2.1 81 30 = 106 ∧ (tzW D L n).2.1 81 31 = 107 ∧ (tzW D L n).2.1 81 32 = 108 ∧ (tzW D L n).2.1 81 33 = 109 ∧ (tzW D L n).2.1 81 35 = 110 ∧ (tzW D L n).2.1 81 36 = 111 ∧ (tzW D L n).2.1 81 37 = 112 ∧ (tzW D L n).2.1 81 38 = 113 ∧ (tzW D L n).2.1 81 39 = 114 ∧ (tzW D L n).2.1 81 41 = 115 ∧ (tzW D L n).2.1 81 42 = 116 ∧ (tzW D L n).2.1 81 43 = 117 ∧ (tzW D L n).2.1 81 44 = 118 ∧ (tzW D L n).2.1 81 55 = 119 ∧ (tzW D L n).2.1 81 56 = 120 ∧ (tzW D L n).2.1 81 57 = 121 ∧ (tzW D L n).2.1 81 59 = 122 ∧ (tzW D L n).2.1 81 60 = 123 ∧ (tzW D L n).2.1 81 61 = 124 ∧ (tzW D L n).2.1 81 63 = 125 ∧ (tzW D L n).2.1 81 64 = 126 ∧ (tzW D L n).2.1 81 65 = 127 ∧ (tzW D L n).2.1 81 66 = 128 ∧ (tzW D L n).2.1 81 67 = 129 ∧ (tzW D L n).2.1 81 68 = 130 ∧ (tzW D L n).2.1 81 70 = 131 ∧ (tzW D L n).2.1 81 71 = 132 := ⟨rfl, rfl, rfl, rfl, rfl, rfl, rfl, rfl, rfl, rfl, rfl, rfl, rfl, rfl, rfl, rfl, rfl, rfl, rfl, rfl, rfl, rfl, rfl, rfl, rfl, rfl, rfl, rfl, rfl, rfl, rfl, rfl, rfl, rfl, rfl, rfl, rfl, rfl, rfl, rfl, rfl, rfl, rfl, rfl, rfl, rfl, rfl, rfl, rfl, rfl, rfl, rfl, rfl, rfl, rfl, rfl, rfl, rfl, rfl, rfl, rfl, rfl, rfl, rfl, rfl, rfl, rfl, rfl, rfl, rfl, rfl, rfl, rfl, rfl, rfl, rfl, rfl, rfl, rfl, rfl, rfl, rfl, rfl, rfl, rfl, rfl, rfl, rfl, rfl, rfl, rfl, rfl, rfl, rfl, rfl, rfl, rfl, rfl, rfl, rfl, rfl, rfl, rfl⟩
theorem w_row (D : Nat → Int → Int) (L n : Nat) {k : Nat} (h : k < 6) : (tzW D L n).2.2.1 (55 + 2 * k) = (12, 2) ∧ (tzW D L n).2.1 (55 + 2 * k) 0 = 56 + 2 * k ∧ (tzW D L n).2.2.1 (56 + 2 * k) = (1, 40) := by
  have : k = 0 ∨ k = 1 ∨ k = 2 ∨ k = 3 ∨ k = 4 ∨ k = 5 := by omega
  rcases this with rfl | rfl | rfl | rfl | rfl | rfl <;> exact ⟨rfl, rfl, rfl⟩
theorem w_tractor (D : Nat → Int → Int) (L n : Nat) {k : Nat} (h : k < 6) : (tzW D L n).2.2.1 (75 + k) = (18, 5) := by
  have : k = 0 ∨ k = 1 ∨ k = 2 ∨ k = 3 ∨ k = 4 ∨ k = 5 := by omega
  rcases this with rfl | rfl | rfl | rfl | rfl | rfl <;> exact rfl
theorem w_trailer (D : Nat → Int → Int) (L n : Nat) {t : Nat} (h : t < n) : (tzW D L n).2.2.1 (133 + t) = (19, 13) := by
  show tzWS L n (133 + t) = (19, 13)
  unfold tzWS
  rw [if_neg (by omega), if_neg (by omega), if_pos (by omega)]
theorem w_trp (D : Nat → Int → Int) (L n : Nat) {t : Nat} (h : t < n) : (tzW D L n).2.1 6 (t : Int) = 133 + t := by
  show tzWP n 6 (t : Int) = 133 + t
  unfold tzWP
  rw [if_pos rfl, if_pos (by omega)]; rfl
theorem z_cd {α : Type} {p : Prop} [h : Decidable p] {t e : α} : (bif decide p then t else e) = if p then t else e := by cases h <;> rfl
theorem i10 {p : Prop} [h : Decidable p] : ((if p then (1 : Int) else 0) = 0) = ¬ p := by
  by_cases c : p <;> simp [c]
theorem i11 {p : Prop} [h : Decidable p] : ((if p then (1 : Int) else 0) = 1) = p := by
  by_cases c : p <;> simp [c]
theorem dnn {p : Prop} [h : Decidable p] : (decide (¬ p) || decide p) = true := by
  by_cases c : p <;> simp [c]
theorem tqbR_mk (x : Nat) (m : tqM) (f : Nat → tqM → Option tqRes) : tqbR (some (some (vR x), m)) f = f x m := rfl
theorem nbz (k : Nat) : Nat.beq (k + 1) 0 = false := rfl
theorem nb133 (t : Nat) : Nat.beq (133 + t) 0 = false := by rw [Nat.add_comm]; rfl
theorem nb75 (t : Nat) : Nat.beq (75 + t) 0 = false := by rw [Nat.add_comm]; rfl
theorem nb55 (t : Nat) : Nat.beq (55 + 2 * t) 0 = false := by rw [Nat.add_comm]; rfl
theorem nb67 (t : Nat) : Nat.beq (67 + 2 * t) 0 = false := by rw [Nat.add_comm]; rfl
theorem eW (D : Nat → Int → Int) (L n : Nat) : (tzW D L n).1 = D := Eq.trans rfl rfl
theorem eU (D : Nat → Int → Int) (L n a : Nat) (j x : Int) : tqw (tzW D L n) a j x = tzW (tzU D a j x) L n := Eq.trans rfl rfl
theorem kT {α : Type} (a b : α) : (bif true then a else b) = a := Eq.trans rfl rfl
theorem kF {α : Type} (a b : α) : (bif false then a else b) = b := Eq.trans rfl rfl
theorem aT (b : Bool) : (true && b) = b := Eq.trans rfl rfl
theorem aR (b : Bool) : (b && true) = b := by cases b <;> rfl
theorem oT (b : Bool) : (true || b) = true := Eq.trans rfl rfl
theorem oR (b : Bool) : (b || true) = true := by cases b <;> rfl
theorem oF (b : Bool) : (false || b) = b := Eq.trans rfl rfl
theorem oG (b : Bool) : (b || false) = b := by cases b <;> rfl
theorem bI (x : Int) (m : tqM) (f : Int → tqM → Option tqRes) : tqbI (some (some (vI x), m)) f = f x m := Eq.trans rfl rfl
theorem bL (x : Int) (m : tqM) (f : Int → tqM → Option tqRes) : tqbL (some (some (vL x), m)) f = f x m := Eq.trans rfl rfl
theorem bR (x : Nat) (m : tqM) (f : Nat → tqM → Option tqRes) : tqbR (some (some (vR x), m)) f = f x m := Eq.trans rfl rfl
theorem b0 (m : tqM) (f : tqM → Option tqRes) : tqb0 (some (none, m)) f = f m := Eq.trans rfl rfl
theorem ble46 : Nat.ble 4 6 = true := rfl
theorem ble67 : Nat.ble 6 7 = true := rfl
def tzC (D : Nat → Int → Int) (a : Nat) (i : Int) (b : Nat) (j l : Int) : Nat → Int → Int := fun c k => if c = b then (if j ≤ k ∧ k < j + l then D a (i + (k - j)) else D c k) else D c k
theorem tzC_w (D : Nat → Int → Int) (L n a : Nat) (i : Int) (b : Nat) (j l : Int) : tqcpy (tzW D L n) a i b j l = tzW (tzC D a i b j l) L n := Eq.trans rfl rfl
/-! the small tests, as propositions -/
theorem p_isWithin (d : Nat) (a b c : Int) (m : tqM) : tqden tqP (d + 1) n_X11_isWithin [vI a, vI b, vI c] m = some (some (vI (if b ≤ a ∧ a ≤ c then 1 else 0)), m) := by
  by_cases h : b ≤ a ∧ a ≤ c
  · rw [if_pos h]; exact s_X11_isWithin_y d m h.1 h.2
  · rw [if_neg h]; exact s_X11_isWithin_n d m (by omega)
theorem p_in (d : Nat) (a b c : Int) (m : tqM) : tqden tqP (d + 1) n_X12_in [vI a, vI b, vI c] m = some (some (vI (if b ≤ a ∧ a ≤ c then 1 else 0)), m) := by
  by_cases h : b ≤ a ∧ a ≤ c
  · rw [if_pos h]; exact s_X12_in_y d m h.1 h.2
  · rw [if_neg h]; exact s_X12_in_n d m (by omega)
theorem p_isYard (d : Nat) (a : Int) (m : tqM) : tqden tqP (d + 1) n_X11_isYard [vI a] m = some (some (vI (if 0 ≤ a ∧ a ≤ 7 then 1 else 0)), m) := by
  rw [dn_X11_isYard, b_X11_isYard_0]
  simp only [z_cd]
  by_cases h : 0 ≤ a ∧ a ≤ 7
  · rw [if_pos h, if_neg (by omega), if_neg (by omega)]
  · rw [if_neg h]
    by_cases h1 : a < 0
    · rw [if_pos h1]
    · rw [if_neg h1, if_pos (by omega)]
theorem q_isYard (d : Nat) (a : Int) (m : tqM) : tqden tqP (d + 2) n_X12_isYard [vI a] m = some (some (vI (if 0 ≤ a ∧ a ≤ 7 then 1 else 0)), m) := by
  rw [dn_X12_isYard, b_X12_isYard_0]
  simp only [p_in, tqbI_mk, i10, i11, dnn, Bool.false_or, cond_true]
theorem q_isTractor (d : Nat) (a : Int) (m : tqM) : tqden tqP (d + 2) n_X12_isTractor [vI a] m = some (some (vI (if 0 ≤ a ∧ a ≤ 5 then 1 else 0)), m) := by
  rw [dn_X12_isTractor, b_X12_isTractor_0]
  simp only [p_in, tqbI_mk, i10, i11, dnn, Bool.false_or, cond_true]
theorem q_isRow (d : Nat) (a : Int) (m : tqM) : tqden tqP (d + 2) n_X12_isRow [vI a] m = some (some (vI (if 0 ≤ a ∧ a ≤ 5 then 1 else 0)), m) := by
  rw [dn_X12_isRow, b_X12_isRow_0]
  simp only [p_in, tqbI_mk, i10, i11, dnn, Bool.false_or, cond_true]
theorem q_isText (d : Nat) (a : Int) (m : tqM) : tqden tqP (d + 2) n_X12_isText [vI a] m = some (some (vI (if 0 ≤ a ∧ a ≤ 3 then 1 else 0)), m) := by
  rw [dn_X12_isText, b_X12_isText_0]
  simp only [p_in, tqbI_mk, i10, i11, dnn, Bool.false_or, cond_true]
theorem q_isWorth (d : Nat) (a : Int) (m : tqM) : tqden tqP (d + 2) n_X12_isWorth [vI a] m = some (some (vI (if 0 ≤ a ∧ a ≤ 100000 then 1 else 0)), m) := by
  rw [dn_X12_isWorth, b_X12_isWorth_0]
  simp only [p_in, tqbI_mk, i10, i11, dnn, Bool.false_or, cond_true]
theorem q_isAxle (d : Nat) (a : Int) (m : tqM) : tqden tqP (d + 2) n_X12_isAxle [vI a] m = some (some (vI (if 60 ≤ a ∧ a ≤ 120 then 1 else 0)), m) := by
  rw [dn_X12_isAxle, b_X12_isAxle_0]
  simp only [p_in, tqbI_mk, i10, i11, dnn, Bool.false_or, cond_true]
theorem q_isDay (d : Nat) (a : Int) (m : tqM) : tqden tqP (d + 2) n_X12_isDay [vI a] m = some (some (vI (if 0 ≤ a ∧ a ≤ 69 then 1 else 0)), m) := by
  rw [dn_X12_isDay, b_X12_isDay_0]
  simp only [p_in, tqbI_mk, i10, i11, dnn, Bool.false_or, cond_true]
theorem q_isDigit (d : Nat) (a : Int) (m : tqM) : tqden tqP (d + 2) n_X12_isDigit [vI a] m = some (some (vI (if 48 ≤ a ∧ a ≤ 57 then 1 else 0)), m) := by
  rw [dn_X12_isDigit, b_X12_isDigit_0]
  simp only [p_in, tqbI_mk, i10, i11, dnn, Bool.false_or, cond_true]
theorem w32_s1 {x : Int} (h0 : 0 ≤ x) (h1 : x ≤ 100000) : w32 (x - 1) = x - 1 := w32_id ⟨by omega, by omega⟩
theorem q_isTrailer (d : Nat) (D : Nat → Int → Int) (L n : Nat) (a : Int) (hn : D 81 16 = n) (hm : n ≤ 12) : tqden tqP (d + 2) n_X12_isTrailer [vR 81, vI a] (tzW D L n) = some (some (vI (if 0 ≤ a ∧ a < n then 1 else 0)), tzW D L n) := by
  rw [dn_X12_isTrailer, b_X12_isTrailer_0]
  have e : w32 (D 81 16 - 1) = (n : Int) - 1 := by rw [hn]; exact w32_s1 (by omega) (by omega)
  have e2 : (0 ≤ a ∧ a ≤ (n : Int) - 1) = (0 ≤ a ∧ a < n) := propext (by omega)
  simp only [w_shp, eW, Nat.beq_refl, e, p_in, tqbI_mk, i10, i11, dnn, Bool.false_or, cond_true, e2]
theorem p_trailerAt_y (d : Nat) (D : Nat → Int → Int) (L n t : Nat) (hn : D 2 12 = n) (hm : n ≤ 12) (ht : t < n) : tqden tqP (d + 1) n_X11_trailerAt [vR 2, vI (t : Int)] (tzW D L n) = some (some (vR (133 + t)), tzW D L n) := by
  rw [dn_X11_trailerAt, b_X11_trailerAt_0]
  have hb : tqib (t : Int) 12 = true := tqib_y (by omega) (by omega)
  have h1 : ¬ ((t : Int) < 0) := by omega
  have h2 : ¬ ((n : Int) ≤ (t : Int)) := by omega
  simp only [z_cd, w_shp, w_ptr, eW, Nat.beq_refl, hn, h1, h2, if_false, cond_true, ble46, ble67, Bool.true_and, hb, w_trp D L n ht]
theorem p_trailerAt_n (d : Nat) (D : Nat → Int → Int) (L n : Nat) (a : Int) (hn : D 2 12 = n) (ha : ¬ (0 ≤ a ∧ a < n)) : tqden tqP (d + 1) n_X11_trailerAt [vR 2, vI a] (tzW D L n) = some (some (vR 0), tzW D L n) := by
  rw [dn_X11_trailerAt, b_X11_trailerAt_0]
  by_cases h1 : a < 0
  · simp only [z_cd, h1, if_true]
  · have h2 : (n : Int) ≤ a := by omega
    simp only [z_cd, w_shp, w_ptr, eW, Nat.beq_refl, hn, h1, h2, if_false, if_true, cond_true]
theorem q_ask (d : Nat) (D : Nat → Int → Int) (L n : Nat) (x y : Int) : tqden tqP (d + 1) n_X12_ask [vR 81, vI x, vI y] (tzW D L n) = some (some (vI y), tzW (tzU D 81 2 x) L n) := by
  rw [dn_X12_ask, b_X12_ask_0]
  simp only [w_shp, Nat.beq_refl, cond_true, eU]
theorem q_askedRow (d : Nat) (D : Nat → Int → Int) (L n : Nat) {k : Nat} (h : k < 6) : tqden tqP (d + 3) n_X12_askedRow [vR 81, vI (k : Int)] (tzW D L n) = if 0 ≤ D 83 k then some (some (vI 0), tzW D L n) else some (some (vI (-3)), tzW (tzRm D 1) L n) := by
  by_cases c : 0 ≤ D 83 k
  · rw [if_pos c]; exact s_askedRow_y d D L n (by omega) (by omega) c
  · rw [if_neg c]; exact s_askedRow_n d D L n (by omega) (by omega) (by omega)
/-! ===== what is the same in two memories ===== -/
def Sm (P : Nat → Int → Prop) (D D' : Nat → Int → Int) : Prop := ∀ b j, P b j → D' b j = D b j
theorem Sm_r (P : Nat → Int → Prop) (D : Nat → Int → Int) : Sm P D D := fun _ _ _ => rfl
theorem Sm_t {P : Nat → Int → Prop} {D D' D'' : Nat → Int → Int} (s : Sm P D D') (s' : Sm P D' D'') : Sm P D D'' := fun b j h => (s' b j h).trans (s b j h)
theorem Sm_m {P Q : Nat → Int → Prop} {D D' : Nat → Int → Int} (h : ∀ b j, P b j → Q b j) (s : Sm Q D D') : Sm P D D' := fun b j p => s b j (h b j p)
theorem Sm_U {P : Nat → Int → Prop} {D D' : Nat → Int → Int} {a : Nat} {j x : Int} (h : ¬ P a j) (s : Sm P D D') : Sm P D (tzU D' a j x) := by
  intro b k p
  by_cases e : b = a
  · by_cases e2 : k = j
    · exact absurd (e ▸ e2 ▸ p) h
    · rw [tzU_k _ _ _ _ e2]; exact s b k p
  · rw [tzU_o _ _ _ _ e]; exact s b k p
theorem Sm_F {P : Nat → Int → Prop} {D D' : Nat → Int → Int} {a : Nat} {lo hi x : Int} (h : ∀ k, lo ≤ k → k < hi → ¬ P a k) (s : Sm P D D') : Sm P D (tzF D' a lo hi x) := by
  intro b k p
  unfold tzF
  by_cases e : b = a
  · rw [if_pos e]
    by_cases e2 : lo ≤ k ∧ k < hi
    · exact absurd (e ▸ p) (h k e2.1 e2.2)
    · rw [if_neg e2]; exact s b k p
  · rw [if_neg e]; exact s b k p
theorem Sm_C {P : Nat → Int → Prop} {D D' : Nat → Int → Int} {a b : Nat} {i j l : Int} (h : ∀ k, j ≤ k → k < j + l → ¬ P b k) (s : Sm P D D') : Sm P D (tzC D' a i b j l) := by
  intro c k p
  unfold tzC
  by_cases e : c = b
  · rw [if_pos e]
    by_cases e2 : j ≤ k ∧ k < j + l
    · exact absurd (e ▸ p) (h k e2.1 e2.2)
    · rw [if_neg e2]; exact s c k p
  · rw [if_neg e]; exact s c k p
theorem Sm_1 {D D' : Nat → Int → Int} (s : Sm (fun b _ => b = 1) D D') : D' 1 = D 1 := by
  funext k; exact s 1 k rfl
