/-! ===== bits ===== -/
def bcq (v0 : Int) : Int := (jand (w32 ((w32 ((jand (w32 ((w32 ((jand (w32 (v0 - (jand (jushr v0 1) 1431655765))) 858993459) + (jand (jushr (w32 (v0 - (jand (jushr v0 1) 1431655765))) 2) 858993459))) + (jushr (w32 ((jand (w32 (v0 - (jand (jushr v0 1) 1431655765))) 858993459) + (jand (jushr (w32 (v0 - (jand (jushr v0 1) 1431655765))) 2) 858993459))) 4))) 252645135) + (jushr (jand (w32 ((w32 ((jand (w32 (v0 - (jand (jushr v0 1) 1431655765))) 858993459) + (jand (jushr (w32 (v0 - (jand (jushr v0 1) 1431655765))) 2) 858993459))) + (jushr (w32 ((jand (w32 (v0 - (jand (jushr v0 1) 1431655765))) 858993459) + (jand (jushr (w32 (v0 - (jand (jushr v0 1) 1431655765))) 2) 858993459))) 4))) 252645135) 8))) + (jushr (w32 ((jand (w32 ((w32 ((jand (w32 (v0 - (jand (jushr v0 1) 1431655765))) 858993459) + (jand (jushr (w32 (v0 - (jand (jushr v0 1) 1431655765))) 2) 858993459))) + (jushr (w32 ((jand (w32 (v0 - (jand (jushr v0 1) 1431655765))) 858993459) + (jand (jushr (w32 (v0 - (jand (jushr v0 1) 1431655765))) 2) 858993459))) 4))) 252645135) + (jushr (jand (w32 ((w32 ((jand (w32 (v0 - (jand (jushr v0 1) 1431655765))) 858993459) + (jand (jushr (w32 (v0 - (jand (jushr v0 1) 1431655765))) 2) 858993459))) + (jushr (w32 ((jand (w32 (v0 - (jand (jushr v0 1) 1431655765))) 858993459) + (jand (jushr (w32 (v0 - (jand (jushr v0 1) 1431655765))) 2) 858993459))) 4))) 252645135) 8))) 16))) 63)
def btl (v : Int) : Nat → Int → Int → Int
  | 0, _, acc => acc
  | j + 1, k, acc => btl v j (k + 1) (w32 (acc + jand (jshr v k) 1))
theorem btl_S (v : Int) (j : Nat) (k acc : Int) : btl v (j + 1) k acc = btl v j (k + 1) (w32 (acc + jand (jshr v k) 1)) := rfl
theorem p_bitCount (d : Nat) (v : Int) (m : tqM) : tqden tqP (d + 1) n_J6_bitCount_0f7a4 [vI v] m = some (some (vI (bcq v)), m) := by
  rw [dn_J6_bitCount_0f7a4, b_J6_bitCount_0f7a4_0]
  rfl
set_option maxRecDepth 100000 in
set_option maxHeartbeats 400000 in
theorem q_bits4 (d : Nat) (v : Int) (m : tqM) : ∀ (j : Nat) (k acc : Int), 0 ≤ k → k + j = 14 → tqrun tqP (d + 1) tqc_X12_bits 4 [vI v, vI acc, vI k] [] m = some (some (vI (btl v j k acc)), m)
  | 0, k, acc, k0, kj => by
    have c : 14 ≤ k := by omega
    rw [b_X12_bits_4]
    simp only [z_cd, i10, i11, dnn, rdU, eW, eU, tzC_w, w_shp, w_ptr, Nat.beq_refl, nbz, nb133, nb75, nb55, nb67, n133a, n133b, n75a, n75b, aT, aR, oT, oR, oF, oG, kT, kF, bI, bL, bR, b0, Classical.not_not, not_true_eq_false, not_false_eq_true, and_self, and_true, true_and, ↓reduceIte, decide_true, decide_false, Nat.reduceEqDiff, Nat.reduceLT, Nat.reduceLeDiff, Int.reduceEq, c]
    rfl
  | j + 1, k, acc, k0, kj => by
    have c : ¬ 14 ≤ k := by omega
    have ih := q_bits4 d v m j (k + 1) (w32 (acc + jand (jshr v k) 1)) (by omega) (by omega)
    have e := w1z k0 (by omega)
    rw [btl_S, ← ih, b_X12_bits_4]
    simp only [z_cd, i10, i11, dnn, rdU, eW, eU, tzC_w, w_shp, w_ptr, Nat.beq_refl, nbz, nb133, nb75, nb55, nb67, n133a, n133b, n75a, n75b, aT, aR, oT, oR, oF, oG, kT, kF, bI, bL, bR, b0, Classical.not_not, not_true_eq_false, not_false_eq_true, and_self, and_true, true_and, ↓reduceIte, decide_true, decide_false, Nat.reduceEqDiff, Nat.reduceLT, Nat.reduceLeDiff, Int.reduceEq, c, e]
theorem q_bits (d : Nat) (v : Int) (m : tqM) : tqden tqP (d + 1) n_X12_bits [vI v] m = some (some (vI (btl v 14 0 0)), m) := by
  have h := q_bits4 d v m 14 0 0 (by omega) (by omega)
  rw [dn_X12_bits, b_X12_bits_0]
  exact h
theorem jor_n {a b : Nat} (ha : a < 2147483648) (hb : b < 2147483648) (hc : a ||| b < 2147483648) : jor (a : Int) (b : Int) = ((a ||| b : Nat) : Int) := by
  unfold jor
  rw [← Int32.toInt_toBitVec, Int32.toBitVec_or, Int32.toBitVec_ofInt, Int32.toBitVec_ofInt, BitVec.ofInt_natCast, BitVec.ofInt_natCast]
  have e : (BitVec.ofNat 32 a ||| BitVec.ofNat 32 b).toNat = a ||| b := by rw [BitVec.toNat_or, BitVec.toNat_ofNat, BitVec.toNat_ofNat, Nat.mod_eq_of_lt (by omega), Nat.mod_eq_of_lt (by omega)]
  rw [BitVec.toInt_eq_toNat_of_lt (by rw [e]; omega), e]
theorem jor14 {S T : Int} (S0 : 0 ≤ S) (S1 : S < 16384) (T0 : 0 ≤ T) (T1 : T < 16384) : 0 ≤ jor S T ∧ jor S T < 16384 := by
  obtain ⟨a, rfl⟩ : ∃ a : Nat, S = a := ⟨S.toNat, by omega⟩
  obtain ⟨b, rfl⟩ : ∃ b : Nat, T = b := ⟨T.toNat, by omega⟩
  have h : a ||| b < 2 ^ 14 := Nat.or_lt_two_pow (by omega) (by omega)
  rw [jor_n (by omega) (by omega) (by omega)]
  omega
set_option maxRecDepth 100000 in
theorem jshl_d : ∀ b : Fin 14, 0 < jshl 1 ((b.val : Nat) : Int) ∧ jshl 1 ((b.val : Nat) : Int) < 16384 := by decide +kernel
theorem jshl14 {b : Int} (b0 : 0 ≤ b) (b1 : b < 14) : 0 < jshl 1 b ∧ jshl 1 b < 16384 := by
  obtain ⟨q, rfl⟩ : ∃ q : Nat, b = q := ⟨b.toNat, by omega⟩
  exact jshl_d ⟨q, by omega⟩
set_option maxRecDepth 100000 in
theorem bc_0 : ∀ x : Fin 256, bcq ((0 + x.val : Nat) : Int) = btl ((0 + x.val : Nat) : Int) 14 0 0 := by decide +kernel
set_option maxRecDepth 100000 in
theorem bc_1 : ∀ x : Fin 256, bcq ((256 + x.val : Nat) : Int) = btl ((256 + x.val : Nat) : Int) 14 0 0 := by decide +kernel
set_option maxRecDepth 100000 in
theorem bc_2 : ∀ x : Fin 256, bcq ((512 + x.val : Nat) : Int) = btl ((512 + x.val : Nat) : Int) 14 0 0 := by decide +kernel
set_option maxRecDepth 100000 in
theorem bc_3 : ∀ x : Fin 256, bcq ((768 + x.val : Nat) : Int) = btl ((768 + x.val : Nat) : Int) 14 0 0 := by decide +kernel
set_option maxRecDepth 100000 in
theorem bc_4 : ∀ x : Fin 256, bcq ((1024 + x.val : Nat) : Int) = btl ((1024 + x.val : Nat) : Int) 14 0 0 := by decide +kernel
set_option maxRecDepth 100000 in
theorem bc_5 : ∀ x : Fin 256, bcq ((1280 + x.val : Nat) : Int) = btl ((1280 + x.val : Nat) : Int) 14 0 0 := by decide +kernel
set_option maxRecDepth 100000 in
theorem bc_6 : ∀ x : Fin 256, bcq ((1536 + x.val : Nat) : Int) = btl ((1536 + x.val : Nat) : Int) 14 0 0 := by decide +kernel
set_option maxRecDepth 100000 in
theorem bc_7 : ∀ x : Fin 256, bcq ((1792 + x.val : Nat) : Int) = btl ((1792 + x.val : Nat) : Int) 14 0 0 := by decide +kernel
set_option maxRecDepth 100000 in
theorem bc_8 : ∀ x : Fin 256, bcq ((2048 + x.val : Nat) : Int) = btl ((2048 + x.val : Nat) : Int) 14 0 0 := by decide +kernel
set_option maxRecDepth 100000 in
theorem bc_9 : ∀ x : Fin 256, bcq ((2304 + x.val : Nat) : Int) = btl ((2304 + x.val : Nat) : Int) 14 0 0 := by decide +kernel
set_option maxRecDepth 100000 in
theorem bc_10 : ∀ x : Fin 256, bcq ((2560 + x.val : Nat) : Int) = btl ((2560 + x.val : Nat) : Int) 14 0 0 := by decide +kernel
set_option maxRecDepth 100000 in
theorem bc_11 : ∀ x : Fin 256, bcq ((2816 + x.val : Nat) : Int) = btl ((2816 + x.val : Nat) : Int) 14 0 0 := by decide +kernel
set_option maxRecDepth 100000 in
theorem bc_12 : ∀ x : Fin 256, bcq ((3072 + x.val : Nat) : Int) = btl ((3072 + x.val : Nat) : Int) 14 0 0 := by decide +kernel
set_option maxRecDepth 100000 in
theorem bc_13 : ∀ x : Fin 256, bcq ((3328 + x.val : Nat) : Int) = btl ((3328 + x.val : Nat) : Int) 14 0 0 := by decide +kernel
set_option maxRecDepth 100000 in
theorem bc_14 : ∀ x : Fin 256, bcq ((3584 + x.val : Nat) : Int) = btl ((3584 + x.val : Nat) : Int) 14 0 0 := by decide +kernel
set_option maxRecDepth 100000 in
theorem bc_15 : ∀ x : Fin 256, bcq ((3840 + x.val : Nat) : Int) = btl ((3840 + x.val : Nat) : Int) 14 0 0 := by decide +kernel
set_option maxRecDepth 100000 in
theorem bc_16 : ∀ x : Fin 256, bcq ((4096 + x.val : Nat) : Int) = btl ((4096 + x.val : Nat) : Int) 14 0 0 := by decide +kernel
set_option maxRecDepth 100000 in
theorem bc_17 : ∀ x : Fin 256, bcq ((4352 + x.val : Nat) : Int) = btl ((4352 + x.val : Nat) : Int) 14 0 0 := by decide +kernel
set_option maxRecDepth 100000 in
theorem bc_18 : ∀ x : Fin 256, bcq ((4608 + x.val : Nat) : Int) = btl ((4608 + x.val : Nat) : Int) 14 0 0 := by decide +kernel
set_option maxRecDepth 100000 in
theorem bc_19 : ∀ x : Fin 256, bcq ((4864 + x.val : Nat) : Int) = btl ((4864 + x.val : Nat) : Int) 14 0 0 := by decide +kernel
set_option maxRecDepth 100000 in
theorem bc_20 : ∀ x : Fin 256, bcq ((5120 + x.val : Nat) : Int) = btl ((5120 + x.val : Nat) : Int) 14 0 0 := by decide +kernel
set_option maxRecDepth 100000 in
theorem bc_21 : ∀ x : Fin 256, bcq ((5376 + x.val : Nat) : Int) = btl ((5376 + x.val : Nat) : Int) 14 0 0 := by decide +kernel
set_option maxRecDepth 100000 in
theorem bc_22 : ∀ x : Fin 256, bcq ((5632 + x.val : Nat) : Int) = btl ((5632 + x.val : Nat) : Int) 14 0 0 := by decide +kernel
set_option maxRecDepth 100000 in
theorem bc_23 : ∀ x : Fin 256, bcq ((5888 + x.val : Nat) : Int) = btl ((5888 + x.val : Nat) : Int) 14 0 0 := by decide +kernel
set_option maxRecDepth 100000 in
theorem bc_24 : ∀ x : Fin 256, bcq ((6144 + x.val : Nat) : Int) = btl ((6144 + x.val : Nat) : Int) 14 0 0 := by decide +kernel
set_option maxRecDepth 100000 in
theorem bc_25 : ∀ x : Fin 256, bcq ((6400 + x.val : Nat) : Int) = btl ((6400 + x.val : Nat) : Int) 14 0 0 := by decide +kernel
set_option maxRecDepth 100000 in
theorem bc_26 : ∀ x : Fin 256, bcq ((6656 + x.val : Nat) : Int) = btl ((6656 + x.val : Nat) : Int) 14 0 0 := by decide +kernel
set_option maxRecDepth 100000 in
theorem bc_27 : ∀ x : Fin 256, bcq ((6912 + x.val : Nat) : Int) = btl ((6912 + x.val : Nat) : Int) 14 0 0 := by decide +kernel
set_option maxRecDepth 100000 in
theorem bc_28 : ∀ x : Fin 256, bcq ((7168 + x.val : Nat) : Int) = btl ((7168 + x.val : Nat) : Int) 14 0 0 := by decide +kernel
set_option maxRecDepth 100000 in
theorem bc_29 : ∀ x : Fin 256, bcq ((7424 + x.val : Nat) : Int) = btl ((7424 + x.val : Nat) : Int) 14 0 0 := by decide +kernel
set_option maxRecDepth 100000 in
theorem bc_30 : ∀ x : Fin 256, bcq ((7680 + x.val : Nat) : Int) = btl ((7680 + x.val : Nat) : Int) 14 0 0 := by decide +kernel
set_option maxRecDepth 100000 in
theorem bc_31 : ∀ x : Fin 256, bcq ((7936 + x.val : Nat) : Int) = btl ((7936 + x.val : Nat) : Int) 14 0 0 := by decide +kernel
set_option maxRecDepth 100000 in
theorem bc_32 : ∀ x : Fin 256, bcq ((8192 + x.val : Nat) : Int) = btl ((8192 + x.val : Nat) : Int) 14 0 0 := by decide +kernel
set_option maxRecDepth 100000 in
theorem bc_33 : ∀ x : Fin 256, bcq ((8448 + x.val : Nat) : Int) = btl ((8448 + x.val : Nat) : Int) 14 0 0 := by decide +kernel
set_option maxRecDepth 100000 in
theorem bc_34 : ∀ x : Fin 256, bcq ((8704 + x.val : Nat) : Int) = btl ((8704 + x.val : Nat) : Int) 14 0 0 := by decide +kernel
set_option maxRecDepth 100000 in
theorem bc_35 : ∀ x : Fin 256, bcq ((8960 + x.val : Nat) : Int) = btl ((8960 + x.val : Nat) : Int) 14 0 0 := by decide +kernel
set_option maxRecDepth 100000 in
theorem bc_36 : ∀ x : Fin 256, bcq ((9216 + x.val : Nat) : Int) = btl ((9216 + x.val : Nat) : Int) 14 0 0 := by decide +kernel
set_option maxRecDepth 100000 in
theorem bc_37 : ∀ x : Fin 256, bcq ((9472 + x.val : Nat) : Int) = btl ((9472 + x.val : Nat) : Int) 14 0 0 := by decide +kernel
set_option maxRecDepth 100000 in
theorem bc_38 : ∀ x : Fin 256, bcq ((9728 + x.val : Nat) : Int) = btl ((9728 + x.val : Nat) : Int) 14 0 0 := by decide +kernel
set_option maxRecDepth 100000 in
theorem bc_39 : ∀ x : Fin 256, bcq ((9984 + x.val : Nat) : Int) = btl ((9984 + x.val : Nat) : Int) 14 0 0 := by decide +kernel
set_option maxRecDepth 100000 in
theorem bc_40 : ∀ x : Fin 256, bcq ((10240 + x.val : Nat) : Int) = btl ((10240 + x.val : Nat) : Int) 14 0 0 := by decide +kernel
set_option maxRecDepth 100000 in
theorem bc_41 : ∀ x : Fin 256, bcq ((10496 + x.val : Nat) : Int) = btl ((10496 + x.val : Nat) : Int) 14 0 0 := by decide +kernel
set_option maxRecDepth 100000 in
theorem bc_42 : ∀ x : Fin 256, bcq ((10752 + x.val : Nat) : Int) = btl ((10752 + x.val : Nat) : Int) 14 0 0 := by decide +kernel
set_option maxRecDepth 100000 in
theorem bc_43 : ∀ x : Fin 256, bcq ((11008 + x.val : Nat) : Int) = btl ((11008 + x.val : Nat) : Int) 14 0 0 := by decide +kernel
set_option maxRecDepth 100000 in
theorem bc_44 : ∀ x : Fin 256, bcq ((11264 + x.val : Nat) : Int) = btl ((11264 + x.val : Nat) : Int) 14 0 0 := by decide +kernel
set_option maxRecDepth 100000 in
theorem bc_45 : ∀ x : Fin 256, bcq ((11520 + x.val : Nat) : Int) = btl ((11520 + x.val : Nat) : Int) 14 0 0 := by decide +kernel
set_option maxRecDepth 100000 in
theorem bc_46 : ∀ x : Fin 256, bcq ((11776 + x.val : Nat) : Int) = btl ((11776 + x.val : Nat) : Int) 14 0 0 := by decide +kernel
set_option maxRecDepth 100000 in
theorem bc_47 : ∀ x : Fin 256, bcq ((12032 + x.val : Nat) : Int) = btl ((12032 + x.val : Nat) : Int) 14 0 0 := by decide +kernel
set_option maxRecDepth 100000 in
theorem bc_48 : ∀ x : Fin 256, bcq ((12288 + x.val : Nat) : Int) = btl ((12288 + x.val : Nat) : Int) 14 0 0 := by decide +kernel
set_option maxRecDepth 100000 in
theorem bc_49 : ∀ x : Fin 256, bcq ((12544 + x.val : Nat) : Int) = btl ((12544 + x.val : Nat) : Int) 14 0 0 := by decide +kernel
set_option maxRecDepth 100000 in
theorem bc_50 : ∀ x : Fin 256, bcq ((12800 + x.val : Nat) : Int) = btl ((12800 + x.val : Nat) : Int) 14 0 0 := by decide +kernel
set_option maxRecDepth 100000 in
theorem bc_51 : ∀ x : Fin 256, bcq ((13056 + x.val : Nat) : Int) = btl ((13056 + x.val : Nat) : Int) 14 0 0 := by decide +kernel
set_option maxRecDepth 100000 in
theorem bc_52 : ∀ x : Fin 256, bcq ((13312 + x.val : Nat) : Int) = btl ((13312 + x.val : Nat) : Int) 14 0 0 := by decide +kernel
set_option maxRecDepth 100000 in
theorem bc_53 : ∀ x : Fin 256, bcq ((13568 + x.val : Nat) : Int) = btl ((13568 + x.val : Nat) : Int) 14 0 0 := by decide +kernel
set_option maxRecDepth 100000 in
theorem bc_54 : ∀ x : Fin 256, bcq ((13824 + x.val : Nat) : Int) = btl ((13824 + x.val : Nat) : Int) 14 0 0 := by decide +kernel
set_option maxRecDepth 100000 in
theorem bc_55 : ∀ x : Fin 256, bcq ((14080 + x.val : Nat) : Int) = btl ((14080 + x.val : Nat) : Int) 14 0 0 := by decide +kernel
set_option maxRecDepth 100000 in
theorem bc_56 : ∀ x : Fin 256, bcq ((14336 + x.val : Nat) : Int) = btl ((14336 + x.val : Nat) : Int) 14 0 0 := by decide +kernel
set_option maxRecDepth 100000 in
theorem bc_57 : ∀ x : Fin 256, bcq ((14592 + x.val : Nat) : Int) = btl ((14592 + x.val : Nat) : Int) 14 0 0 := by decide +kernel
set_option maxRecDepth 100000 in
theorem bc_58 : ∀ x : Fin 256, bcq ((14848 + x.val : Nat) : Int) = btl ((14848 + x.val : Nat) : Int) 14 0 0 := by decide +kernel
set_option maxRecDepth 100000 in
theorem bc_59 : ∀ x : Fin 256, bcq ((15104 + x.val : Nat) : Int) = btl ((15104 + x.val : Nat) : Int) 14 0 0 := by decide +kernel
set_option maxRecDepth 100000 in
theorem bc_60 : ∀ x : Fin 256, bcq ((15360 + x.val : Nat) : Int) = btl ((15360 + x.val : Nat) : Int) 14 0 0 := by decide +kernel
set_option maxRecDepth 100000 in
theorem bc_61 : ∀ x : Fin 256, bcq ((15616 + x.val : Nat) : Int) = btl ((15616 + x.val : Nat) : Int) 14 0 0 := by decide +kernel
set_option maxRecDepth 100000 in
theorem bc_62 : ∀ x : Fin 256, bcq ((15872 + x.val : Nat) : Int) = btl ((15872 + x.val : Nat) : Int) 14 0 0 := by decide +kernel
set_option maxRecDepth 100000 in
theorem bc_63 : ∀ x : Fin 256, bcq ((16128 + x.val : Nat) : Int) = btl ((16128 + x.val : Nat) : Int) 14 0 0 := by decide +kernel
theorem bc_c (q : Nat) (hq : q < 64) (x : Fin 256) : bcq ((256 * q + x.val : Nat) : Int) = btl ((256 * q + x.val : Nat) : Int) 14 0 0 := by
  match q, hq with
  | 0, _ => exact bc_0 x
  | 1, _ => exact bc_1 x
  | 2, _ => exact bc_2 x
  | 3, _ => exact bc_3 x
  | 4, _ => exact bc_4 x
  | 5, _ => exact bc_5 x
  | 6, _ => exact bc_6 x
  | 7, _ => exact bc_7 x
  | 8, _ => exact bc_8 x
  | 9, _ => exact bc_9 x
  | 10, _ => exact bc_10 x
  | 11, _ => exact bc_11 x
  | 12, _ => exact bc_12 x
  | 13, _ => exact bc_13 x
  | 14, _ => exact bc_14 x
  | 15, _ => exact bc_15 x
  | 16, _ => exact bc_16 x
  | 17, _ => exact bc_17 x
  | 18, _ => exact bc_18 x
  | 19, _ => exact bc_19 x
  | 20, _ => exact bc_20 x
  | 21, _ => exact bc_21 x
  | 22, _ => exact bc_22 x
  | 23, _ => exact bc_23 x
  | 24, _ => exact bc_24 x
  | 25, _ => exact bc_25 x
  | 26, _ => exact bc_26 x
  | 27, _ => exact bc_27 x
  | 28, _ => exact bc_28 x
  | 29, _ => exact bc_29 x
  | 30, _ => exact bc_30 x
  | 31, _ => exact bc_31 x
  | 32, _ => exact bc_32 x
  | 33, _ => exact bc_33 x
  | 34, _ => exact bc_34 x
  | 35, _ => exact bc_35 x
  | 36, _ => exact bc_36 x
  | 37, _ => exact bc_37 x
  | 38, _ => exact bc_38 x
  | 39, _ => exact bc_39 x
  | 40, _ => exact bc_40 x
  | 41, _ => exact bc_41 x
  | 42, _ => exact bc_42 x
  | 43, _ => exact bc_43 x
  | 44, _ => exact bc_44 x
  | 45, _ => exact bc_45 x
  | 46, _ => exact bc_46 x
  | 47, _ => exact bc_47 x
  | 48, _ => exact bc_48 x
  | 49, _ => exact bc_49 x
  | 50, _ => exact bc_50 x
  | 51, _ => exact bc_51 x
  | 52, _ => exact bc_52 x
  | 53, _ => exact bc_53 x
  | 54, _ => exact bc_54 x
  | 55, _ => exact bc_55 x
  | 56, _ => exact bc_56 x
  | 57, _ => exact bc_57 x
  | 58, _ => exact bc_58 x
  | 59, _ => exact bc_59 x
  | 60, _ => exact bc_60 x
  | 61, _ => exact bc_61 x
  | 62, _ => exact bc_62 x
  | 63, _ => exact bc_63 x
  | q + 64, hq => exact absurd hq (by omega)
theorem bc14 {S : Int} (S0 : 0 ≤ S) (S1 : S < 16384) : bcq S = btl S 14 0 0 := by
  obtain ⟨a, rfl⟩ : ∃ a : Nat, S = a := ⟨S.toNat, by omega⟩
  have e : a = 256 * (a / 256) + a % 256 := by omega
  have h := bc_c (a / 256) (by omega) ⟨a % 256, by omega⟩
  rw [e]
  exact h
