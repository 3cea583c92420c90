/-! The pure machine: values (int, long, pointer, nothing), memory (numbers, pointers (0: null), shapes (kind, length), how many addresses are used (address 1 is the script), slots used) -/
abbrev tqV : Type := Int ⊕ Int ⊕ Nat ⊕ Unit
abbrev tqM : Type := (Nat → Int → Int) × (Nat → Int → Nat) × (Nat → Nat × Nat) × Nat × Nat
abbrev tqRes : Type := Option tqV × tqM
/-- an instruction with what it is linked to: next place, two numbers, a constant, a list, the locals that are dead here -/
abbrev tqEn : Type := Jvm.ClassFile.Instr × Nat × Nat × Nat × Int × List (Int × Nat) × List Nat
abbrev vI (x : Int) : tqV := .inl x
abbrev vL (x : Int) : tqV := .inr (.inl x)
abbrev vR (a : Nat) : tqV := .inr (.inr (.inl a))
abbrev vU : tqV := .inr (.inr (.inr ()))
def in32 (x : Int) : Prop := -2147483648 ≤ x ∧ x < 2147483648
def in64 (x : Int) : Prop := -9223372036854775808 ≤ x ∧ x < 9223372036854775808
def w32 (x : Int) : Int := (x + 2147483648) % 4294967296 - 2147483648
def w64 (x : Int) : Int := (x + 9223372036854775808) % 18446744073709551616 - 9223372036854775808
theorem in32_w (x : Int) : in32 (w32 x) := by unfold in32 w32; omega
theorem in64_w (x : Int) : in64 (w64 x) := by unfold in64 w64; omega
theorem in32_64 {x : Int} (h : in32 x) : in64 x := by unfold in32 at h; unfold in64; omega
theorem w32_id {x : Int} (h : in32 x) : w32 x = x := by unfold in32 at h; unfold w32; omega
theorem w64_id {x : Int} (h : in64 x) : w64 x = x := by unfold in64 at h; unfold w64; omega
theorem w32_bmod (x : Int) : Int.bmod x (2 ^ 32) = w32 x := by
  rw [show (2 : Nat) ^ 32 = 4294967296 from rfl, Int.bmod_def]; unfold w32; split <;> omega
theorem w64_bmod (x : Int) : Int.bmod x (2 ^ 64) = w64 x := by
  rw [show (2 : Nat) ^ 64 = 18446744073709551616 from rfl, Int.bmod_def]; unfold w64; split <;> omega
theorem o32_w (x : Int) : (Int32.ofInt x).toInt = w32 x := by rw [Int32.toInt_ofInt]; exact w32_bmod x
theorem o64_w (x : Int) : (Int64.ofInt x).toInt = w64 x := by rw [Int64.toInt_ofInt]; exact w64_bmod x
theorem o32_to {x : Int} (h : in32 x) : (Int32.ofInt x).toInt = x := by rw [o32_w, w32_id h]
theorem o64_to {x : Int} (h : in64 x) : (Int64.ofInt x).toInt = x := by rw [o64_w, w64_id h]
theorem o32_eq {x y : Int} (h : w32 x = w32 y) : Int32.ofInt x = Int32.ofInt y := Int32.toInt_inj.mp (by rw [o32_w, o32_w, h])
theorem o64_eq {x y : Int} (h : w64 x = w64 y) : Int64.ofInt x = Int64.ofInt y := Int64.toInt_inj.mp (by rw [o64_w, o64_w, h])
theorem t32_in (x : Int32) : in32 x.toInt := ⟨Int32.le_toInt x, Int32.toInt_lt x⟩
theorem t64_in (x : Int64) : in64 x.toInt := ⟨Int64.le_toInt x, Int64.toInt_lt x⟩
theorem o32_t (x : Int32) : Int32.ofInt x.toInt = x := Int32.toInt_inj.mp (o32_to (t32_in x))
theorem o64_t (x : Int64) : Int64.ofInt x.toInt = x := Int64.toInt_inj.mp (o64_to (t64_in x))
theorem o32_ww (x : Int) : Int32.ofInt (w32 x) = Int32.ofInt x := o32_eq (w32_id (in32_w x))
theorem o64_ww (x : Int) : Int64.ofInt (w64 x) = Int64.ofInt x := o64_eq (w64_id (in64_w x))
theorem o32_add (x y : Int) : Int32.ofInt (w32 (x + y)) = Int32.ofInt x + Int32.ofInt y := Int32.toInt_inj.mp (by rw [o32_ww, o32_w, Int32.toInt_add, w32_bmod, o32_w, o32_w]; unfold w32; omega)
theorem o32_sub (x y : Int) : Int32.ofInt (w32 (x - y)) = Int32.ofInt x - Int32.ofInt y := Int32.toInt_inj.mp (by rw [o32_ww, o32_w, Int32.toInt_sub, w32_bmod, o32_w, o32_w]; unfold w32; omega)
theorem o64_add (x y : Int) : Int64.ofInt (w64 (x + y)) = Int64.ofInt x + Int64.ofInt y := Int64.toInt_inj.mp (by rw [o64_ww, o64_w, Int64.toInt_add, w64_bmod, o64_w, o64_w]; unfold w64; omega)
theorem o64_sub (x y : Int) : Int64.ofInt (w64 (x - y)) = Int64.ofInt x - Int64.ofInt y := Int64.toInt_inj.mp (by rw [o64_ww, o64_w, Int64.toInt_sub, w64_bmod, o64_w, o64_w]; unfold w64; omega)
theorem o32_mul {x y : Int} (hx : in32 x) (hy : in32 y) : Int32.ofInt (w32 (x * y)) = Int32.ofInt x * Int32.ofInt y := Int32.toInt_inj.mp (by rw [o32_ww, o32_w, Int32.toInt_mul, w32_bmod, o32_to hx, o32_to hy])
theorem o64_mul {x y : Int} (hx : in64 x) (hy : in64 y) : Int64.ofInt (w64 (x * y)) = Int64.ofInt x * Int64.ofInt y := Int64.toInt_inj.mp (by rw [o64_ww, o64_w, Int64.toInt_mul, w64_bmod, o64_to hx, o64_to hy])
theorem o32_neg {x : Int} (hx : in32 x) : Int32.ofInt (w32 (-x)) = - Int32.ofInt x := Int32.toInt_inj.mp (by rw [o32_ww, o32_w, Int32.toInt_neg, w32_bmod, o32_to hx])
theorem o64_neg {x : Int} (hx : in64 x) : Int64.ofInt (w64 (-x)) = - Int64.ofInt x := Int64.toInt_inj.mp (by rw [o64_ww, o64_w, Int64.toInt_neg, w64_bmod, o64_to hx])
theorem o32_div {x y : Int} (hx : in32 x) (hy : in32 y) : Int32.ofInt (w32 (x.tdiv y)) = Int32.ofInt x / Int32.ofInt y := Int32.toInt_inj.mp (by rw [o32_ww, o32_w, Int32.toInt_div, w32_bmod, o32_to hx, o32_to hy])
theorem o64_div {x y : Int} (hx : in64 x) (hy : in64 y) : Int64.ofInt (w64 (x.tdiv y)) = Int64.ofInt x / Int64.ofInt y := Int64.toInt_inj.mp (by rw [o64_ww, o64_w, Int64.toInt_div, w64_bmod, o64_to hx, o64_to hy])
theorem tm_w (x y : Int) : x.tmod y = x - x.tdiv y * y := by have := Int.tmod_add_tdiv_mul x y; omega
theorem w32_sub_mul (x d y : Int) : w32 (x - w32 (w32 d * y)) = w32 (x - d * y) := by
  have h : ∃ k : Int, w32 d = d + 4294967296 * k := ⟨-((d + 2147483648) / 4294967296), by unfold w32; omega⟩
  obtain ⟨k, hk⟩ := h
  rw [hk, Int.add_mul, Int.mul_assoc]
  generalize d * y = a
  generalize k * y = b
  unfold w32
  omega
theorem w64_sub_mul (x d y : Int) : w64 (x - w64 (w64 d * y)) = w64 (x - d * y) := by
  have h : ∃ k : Int, w64 d = d + 18446744073709551616 * k := ⟨-((d + 9223372036854775808) / 18446744073709551616), by unfold w64; omega⟩
  obtain ⟨k, hk⟩ := h
  rw [hk, Int.add_mul, Int.mul_assoc]
  generalize d * y = a
  generalize k * y = b
  unfold w64
  omega
theorem o32_rem {x y : Int} (hx : in32 x) (hy : in32 y) : Int32.ofInt (w32 (x.tmod y)) = Int32.ofInt x - Int32.ofInt x / Int32.ofInt y * Int32.ofInt y := Int32.toInt_inj.mp (by
  rw [o32_ww, o32_w, Int32.toInt_sub, w32_bmod, Int32.toInt_mul, w32_bmod, Int32.toInt_div, w32_bmod, o32_to hx, o32_to hy, w32_sub_mul, tm_w])
theorem o64_rem {x y : Int} (hx : in64 x) (hy : in64 y) : Int64.ofInt (w64 (x.tmod y)) = Int64.ofInt x - Int64.ofInt x / Int64.ofInt y * Int64.ofInt y := Int64.toInt_inj.mp (by
  rw [o64_ww, o64_w, Int64.toInt_sub, w64_bmod, Int64.toInt_mul, w64_bmod, Int64.toInt_div, w64_bmod, o64_to hx, o64_to hy, w64_sub_mul, tm_w])
theorem o32_lt {x y : Int} (hx : in32 x) (hy : in32 y) : Int32.ofInt x < Int32.ofInt y ↔ x < y := by rw [Int32.lt_iff_toInt_lt, o32_to hx, o32_to hy]
theorem o32_le {x y : Int} (hx : in32 x) (hy : in32 y) : Int32.ofInt x ≤ Int32.ofInt y ↔ x ≤ y := by rw [Int32.le_iff_toInt_le, o32_to hx, o32_to hy]
theorem o32_eqi {x y : Int} (hx : in32 x) (hy : in32 y) : Int32.ofInt x = Int32.ofInt y ↔ x = y := ⟨fun h => by rw [← o32_to hx, ← o32_to hy, h], fun h => by rw [h]⟩
theorem o64_lt {x y : Int} (hx : in64 x) (hy : in64 y) : Int64.ofInt x < Int64.ofInt y ↔ x < y := by rw [Int64.lt_iff_toInt_lt, o64_to hx, o64_to hy]
theorem o64_eqi {x y : Int} (hx : in64 x) (hy : in64 y) : Int64.ofInt x = Int64.ofInt y ↔ x = y := ⟨fun h => by rw [← o64_to hx, ← o64_to hy, h], fun h => by rw [h]⟩
theorem in32_0 : in32 0 := by unfold in32; omega
theorem in64_0 : in64 0 := by unfold in64; omega
/-! the bits, by the machine's own words -/
def jand (x y : Int) : Int := (Int32.ofInt x &&& Int32.ofInt y).toInt
def jor (x y : Int) : Int := (Int32.ofInt x ||| Int32.ofInt y).toInt
def jxor (x y : Int) : Int := (Int32.ofInt x ^^^ Int32.ofInt y).toInt
def jshl (x y : Int) : Int := (Int32.ofInt x <<< Int32.ofInt y).toInt
def jshr (x y : Int) : Int := (Int32.ofInt x >>> Int32.ofInt y).toInt
def jushr (x y : Int) : Int := ((Int32.ofInt x).toUInt32 >>> ((Int32.ofInt y).toUInt32 &&& Int32.toUInt32 31)).toInt32.toInt
def jbyte (x : Int) : Int := (Int32.ofInt x).toInt8.toInt32.toInt
def jcmp (x y : Int) : Int := if x < y then -1 else if x = y then 0 else 1
