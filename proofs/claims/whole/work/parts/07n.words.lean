theorem tqw_int : Cond.arrayClass .int ∈ lw_tbl := tqch_in (k := 1) (i := 58) (by decide +kernel)
theorem tqw_long : Cond.arrayClass .long ∈ lw_tbl := tqch_in (k := 6) (i := 61) (by decide +kernel)
theorem tqw_boolean : Cond.arrayClass .boolean ∈ lw_tbl := tqch_in (k := 1) (i := 213) (by decide +kernel)
theorem tqw_ov2 : Cond.arrayOver (.object tqR2) ∈ lw_tbl := tqch_in (k := 1) (i := 27) (by decide +kernel)
theorem tqw_ov8 : Cond.arrayOver (.object tqR8) ∈ lw_tbl := tqch_in (k := 1) (i := 29) (by decide +kernel)
theorem tqw_ov9 : Cond.arrayOver (.object tqR9) ∈ lw_tbl := tqch_in (k := 1) (i := 31) (by decide +kernel)
theorem tqw_ovg : Cond.arrayOver (.array .int) ∈ lw_tbl := tqch_in (k := 1) (i := 152) (by decide +kernel)
theorem tqw_nat : Cond.native arraycopyName ∈ lw_tbl := tqch_in (k := 2) (i := 175) (by decide +kernel)
theorem tqw_cst : Cond.static arraycopyName ∈ lw_tbl := tqch_in (k := 2) (i := 174) (by decide +kernel)
theorem tqw_sys : Cond.initialized "java/lang/System" ∈ lw_tbl := tqch_in (k := 1) (i := 14) (by decide +kernel)
theorem tqw_oin : Cond.instanceMethod Jvm.Lib.objectInit ∈ lw_tbl := tqch_in (k := 1) (i := 24) (by decide +kernel)
theorem tqw_oco : Cond.code Jvm.Lib.objectInit ⟨#[0xb1]⟩ 1 none ∈ lw_tbl := tqch_in (k := 1) (i := 25) (by decide +kernel)
theorem tqw_mi : Cond.initialized "java/lang/Math" ∈ lw_tbl := tqch_in (k := 1) (i := 15) (by decide +kernel)
theorem tqw_smax : Cond.static Lib.Math.max.name ∈ lw_tbl := tqch_in (k := 4) (i := 52) (by decide +kernel)
theorem tqw_cmax : Cond.code Lib.Math.max.name Lib.Math.max.code 2 (some .int) ∈ lw_tbl := tqch_in (k := 4) (i := 53) (by decide +kernel)
theorem tqw_smin : Cond.static Lib.Math.min.name ∈ lw_tbl := tqch_in (k := 3) (i := 23) (by decide +kernel)
theorem tqw_cmin : Cond.code Lib.Math.min.name Lib.Math.min.code 2 (some .int) ∈ lw_tbl := tqch_in (k := 3) (i := 24) (by decide +kernel)
theorem tqw_sabl : Cond.static Lib.MathLoose.abs_long.x ∈ lw_tbl := tqch_in (k := 4) (i := 26) (by decide +kernel)
theorem tqw_cabl : Cond.code Lib.MathLoose.abs_long.x Lib.MathLoose.abs_long.code 2 (some .long) ∈ lw_tbl := tqch_in (k := 4) (i := 27) (by decide +kernel)
theorem tqw_smnl : Cond.static Lib.MathLoose.min_long.x ∈ lw_tbl := tqch_in (k := 4) (i := 141) (by decide +kernel)
theorem tqw_cmnl : Cond.code Lib.MathLoose.min_long.x Lib.MathLoose.min_long.code 4 (some .long) ∈ lw_tbl := tqch_in (k := 4) (i := 142) (by decide +kernel)
theorem tqw_cfm : Cond.code tqfmn prog_16_method_50_code 3 (some .int) ∈ lw_tbl := tqch_in (k := 3) (i := 21) (by decide +kernel)
theorem tqw_sfm : Cond.static tqfmn ∈ lw_tbl := tqch_in (k := 3) (i := 20) (by decide +kernel)
theorem tqw_in0 : Cond.instantiable tqR0 6 ∈ lw_tbl := tqch_in (k := 2) (i := 8) (by decide +kernel)
theorem tqw_ii0 : Cond.initialized tqR0 ∈ lw_tbl := tqch_in (k := 1) (i := 9) (by decide +kernel)
theorem tqw_in1 : Cond.instantiable tqR1 5 ∈ lw_tbl := tqch_in (k := 1) (i := 60) (by decide +kernel)
theorem tqw_ii1 : Cond.initialized tqR1 ∈ lw_tbl := tqch_in (k := 1) (i := 3) (by decide +kernel)
theorem tqw_in2 : Cond.instantiable tqR2 2 ∈ lw_tbl := tqch_in (k := 2) (i := 35) (by decide +kernel)
theorem tqw_ii2 : Cond.initialized tqR2 ∈ lw_tbl := tqch_in (k := 1) (i := 10) (by decide +kernel)
theorem tqw_in3 : Cond.instantiable tqR3 9 ∈ lw_tbl := tqch_in (k := 1) (i := 179) (by decide +kernel)
theorem tqw_ii3 : Cond.initialized tqR3 ∈ lw_tbl := tqch_in (k := 1) (i := 7) (by decide +kernel)
theorem tqw_in4 : Cond.instantiable tqR4 8 ∈ lw_tbl := tqch_in (k := 1) (i := 215) (by decide +kernel)
theorem tqw_ii4 : Cond.initialized tqR4 ∈ lw_tbl := tqch_in (k := 1) (i := 8) (by decide +kernel)
theorem tqw_in5 : Cond.instantiable tqR5 7 ∈ lw_tbl := tqch_in (k := 1) (i := 146) (by decide +kernel)
theorem tqw_ii5 : Cond.initialized tqR5 ∈ lw_tbl := tqch_in (k := 1) (i := 6) (by decide +kernel)
theorem tqw_in6 : Cond.instantiable tqR6 9 ∈ lw_tbl := tqch_in (k := 1) (i := 108) (by decide +kernel)
theorem tqw_ii6 : Cond.initialized tqR6 ∈ lw_tbl := tqch_in (k := 1) (i := 5) (by decide +kernel)
theorem tqw_in7 : Cond.instantiable tqR7 5 ∈ lw_tbl := tqch_in (k := 1) (i := 85) (by decide +kernel)
theorem tqw_ii7 : Cond.initialized tqR7 ∈ lw_tbl := tqch_in (k := 1) (i := 4) (by decide +kernel)
theorem tqw_in8 : Cond.instantiable tqR8 5 ∈ lw_tbl := tqch_in (k := 2) (i := 51) (by decide +kernel)
theorem tqw_ii8 : Cond.initialized tqR8 ∈ lw_tbl := tqch_in (k := 1) (i := 11) (by decide +kernel)
theorem tqw_in9 : Cond.instantiable tqR9 13 ∈ lw_tbl := tqch_in (k := 3) (i := 47) (by decide +kernel)
theorem tqw_ii9 : Cond.initialized tqR9 ∈ lw_tbl := tqch_in (k := 1) (i := 16) (by decide +kernel)
theorem tqw_in10 : Cond.instantiable tqR10 6 ∈ lw_tbl := tqch_in (k := 1) (i := 33) (by decide +kernel)
theorem tqw_ii10 : Cond.initialized tqR10 ∈ lw_tbl := tqch_in (k := 1) (i := 2) (by decide +kernel)
theorem tqw_in11 : Cond.instantiable tqR11 16 ∈ lw_tbl := tqch_in (k := 1) (i := 19) (by decide +kernel)
theorem tqw_ii11 : Cond.initialized tqR11 ∈ lw_tbl := tqch_in (k := 1) (i := 1) (by decide +kernel)
theorem tqw_in12 : Cond.instantiable tqR12 73 ∈ lw_tbl := tqch_in (k := 5) (i := 76) (by decide +kernel)
theorem tqw_ii12 : Cond.initialized tqR12 ∈ lw_tbl := tqch_in (k := 1) (i := 12) (by decide +kernel)
theorem tqw_inst : ∀ k, k < 13 → Cond.instantiable (tqRn k) (tqN k) ∈ lw_tbl := fun k hk => by
  match k, hk with
  | 0, _ => exact tqw_in0
  | 1, _ => exact tqw_in1
  | 2, _ => exact tqw_in2
  | 3, _ => exact tqw_in3
  | 4, _ => exact tqw_in4
  | 5, _ => exact tqw_in5
  | 6, _ => exact tqw_in6
  | 7, _ => exact tqw_in7
  | 8, _ => exact tqw_in8
  | 9, _ => exact tqw_in9
  | 10, _ => exact tqw_in10
  | 11, _ => exact tqw_in11
  | 12, _ => exact tqw_in12
theorem tqw_init : ∀ k, k < 13 → Cond.initialized (tqRn k) ∈ lw_tbl := fun k hk => by
  match k, hk with
  | 0, _ => exact tqw_ii0
  | 1, _ => exact tqw_ii1
  | 2, _ => exact tqw_ii2
  | 3, _ => exact tqw_ii3
  | 4, _ => exact tqw_ii4
  | 5, _ => exact tqw_ii5
  | 6, _ => exact tqw_ii6
  | 7, _ => exact tqw_ii7
  | 8, _ => exact tqw_ii8
  | 9, _ => exact tqw_ii9
  | 10, _ => exact tqw_ii10
  | 11, _ => exact tqw_ii11
  | 12, _ => exact tqw_ii12
theorem tqz_X0_init (pc : Nat) (h : 17 < pc) : tqc_X0_init pc = none := by
  unfold tqc_X0_init
  rw [show Nat.ble pc 17 = false from Bool.eq_false_iff.mpr (fun q => absurd (Nat.le_of_ble_eq_true q) (by omega))]
  rfl
theorem tqz_X0_tellFraction (pc : Nat) (h : 34 < pc) : tqc_X0_tellFraction pc = none := by
  unfold tqc_X0_tellFraction
  rw [show Nat.ble pc 34 = false from Bool.eq_false_iff.mpr (fun q => absurd (Nat.le_of_ble_eq_true q) (by omega))]
  rfl
theorem tqz_X0_commonDivisor (pc : Nat) (h : 47 < pc) : tqc_X0_commonDivisor pc = none := by
  unfold tqc_X0_commonDivisor
  rw [show Nat.ble pc 47 = false from Bool.eq_false_iff.mpr (fun q => absurd (Nat.le_of_ble_eq_true q) (by omega))]
  rfl
theorem tqz_X1_init (pc : Nat) (h : 36 < pc) : tqc_X1_init pc = none := by
  unfold tqc_X1_init
  rw [show Nat.ble pc 36 = false from Bool.eq_false_iff.mpr (fun q => absurd (Nat.le_of_ble_eq_true q) (by omega))]
  rfl
theorem tqz_X1_isFull (pc : Nat) (h : 14 < pc) : tqc_X1_isFull pc = none := by
  unfold tqc_X1_isFull
  rw [show Nat.ble pc 14 = false from Bool.eq_false_iff.mpr (fun q => absurd (Nat.le_of_ble_eq_true q) (by omega))]
  rfl
theorem tqz_X1_enter (pc : Nat) (h : 59 < pc) : tqc_X1_enter pc = none := by
  unfold tqc_X1_enter
  rw [show Nat.ble pc 59 = false from Bool.eq_false_iff.mpr (fun q => absurd (Nat.le_of_ble_eq_true q) (by omega))]
  rfl
theorem tqz_X1_isOf (pc : Nat) (h : 37 < pc) : tqc_X1_isOf pc = none := by
  unfold tqc_X1_isOf
  rw [show Nat.ble pc 37 = false from Bool.eq_false_iff.mpr (fun q => absurd (Nat.le_of_ble_eq_true q) (by omega))]
  rfl
theorem tqz_X1_entryOf (pc : Nat) (h : 43 < pc) : tqc_X1_entryOf pc = none := by
  unfold tqc_X1_entryOf
  rw [show Nat.ble pc 43 = false from Bool.eq_false_iff.mpr (fun q => absurd (Nat.le_of_ble_eq_true q) (by omega))]
  rfl
theorem tqz_X1_says (pc : Nat) (h : 46 < pc) : tqc_X1_says pc = none := by
  unfold tqc_X1_says
  rw [show Nat.ble pc 46 = false from Bool.eq_false_iff.mpr (fun q => absurd (Nat.le_of_ble_eq_true q) (by omega))]
  rfl
theorem tqz_X1_placeAt (pc : Nat) (h : 94 < pc) : tqc_X1_placeAt pc = none := by
  unfold tqc_X1_placeAt
  rw [show Nat.ble pc 94 = false from Bool.eq_false_iff.mpr (fun q => absurd (Nat.le_of_ble_eq_true q) (by omega))]
  rfl
theorem tqz_X1_stoodTill (pc : Nat) (h : 72 < pc) : tqc_X1_stoodTill pc = none := by
  unfold tqc_X1_stoodTill
  rw [show Nat.ble pc 72 = false from Bool.eq_false_iff.mpr (fun q => absurd (Nat.le_of_ble_eq_true q) (by omega))]
  rfl
theorem tqz_X1_foundBroken (pc : Nat) (h : 31 < pc) : tqc_X1_foundBroken pc = none := by
  unfold tqc_X1_foundBroken
  rw [show Nat.ble pc 31 = false from Bool.eq_false_iff.mpr (fun q => absurd (Nat.le_of_ble_eq_true q) (by omega))]
  rfl
theorem tqz_X1_seenWholeAhead (pc : Nat) (h : 38 < pc) : tqc_X1_seenWholeAhead pc = none := by
  unfold tqc_X1_seenWholeAhead
  rw [show Nat.ble pc 38 = false from Bool.eq_false_iff.mpr (fun q => absurd (Nat.le_of_ble_eq_true q) (by omega))]
  rfl
theorem tqz_X1_holdersBetween (pc : Nat) (h : 105 < pc) : tqc_X1_holdersBetween pc = none := by
  unfold tqc_X1_holdersBetween
  rw [show Nat.ble pc 105 = false from Bool.eq_false_iff.mpr (fun q => absurd (Nat.le_of_ble_eq_true q) (by omega))]
  rfl
theorem tqz_X1_latestYard (pc : Nat) (h : 36 < pc) : tqc_X1_latestYard pc = none := by
  unfold tqc_X1_latestYard
  rw [show Nat.ble pc 36 = false from Bool.eq_false_iff.mpr (fun q => absurd (Nat.le_of_ble_eq_true q) (by omega))]
  rfl
theorem tqz_X1_latestHeld (pc : Nat) (h : 45 < pc) : tqc_X1_latestHeld pc = none := by
  unfold tqc_X1_latestHeld
  rw [show Nat.ble pc 45 = false from Bool.eq_false_iff.mpr (fun q => absurd (Nat.le_of_ble_eq_true q) (by omega))]
  rfl
theorem tqz_X1_mixInto (pc : Nat) (h : 69 < pc) : tqc_X1_mixInto pc = none := by
  unfold tqc_X1_mixInto
  rw [show Nat.ble pc 69 = false from Bool.eq_false_iff.mpr (fun q => absurd (Nat.le_of_ble_eq_true q) (by omega))]
  rfl
theorem tqz_X2_init (pc : Nat) (h : 17 < pc) : tqc_X2_init pc = none := by
  unfold tqc_X2_init
  rw [show Nat.ble pc 17 = false from Bool.eq_false_iff.mpr (fun q => absurd (Nat.le_of_ble_eq_true q) (by omega))]
  rfl
theorem tqz_X2_isMissing (pc : Nat) (h : 12 < pc) : tqc_X2_isMissing pc = none := by
  unfold tqc_X2_isMissing
  rw [show Nat.ble pc 12 = false from Bool.eq_false_iff.mpr (fun q => absurd (Nat.le_of_ble_eq_true q) (by omega))]
  rfl
theorem tqz_X2_has (pc : Nat) (h : 17 < pc) : tqc_X2_has pc = none := by
  unfold tqc_X2_has
  rw [show Nat.ble pc 17 = false from Bool.eq_false_iff.mpr (fun q => absurd (Nat.le_of_ble_eq_true q) (by omega))]
  rfl
theorem tqz_X2_hasSpan (pc : Nat) (h : 31 < pc) : tqc_X2_hasSpan pc = none := by
  unfold tqc_X2_hasSpan
  rw [show Nat.ble pc 31 = false from Bool.eq_false_iff.mpr (fun q => absurd (Nat.le_of_ble_eq_true q) (by omega))]
  rfl
theorem tqz_X2_allWithin (pc : Nat) (h : 39 < pc) : tqc_X2_allWithin pc = none := by
  unfold tqc_X2_allWithin
  rw [show Nat.ble pc 39 = false from Bool.eq_false_iff.mpr (fun q => absurd (Nat.le_of_ble_eq_true q) (by omega))]
  rfl
theorem tqz_X2_placesAboveNought (pc : Nat) (h : 40 < pc) : tqc_X2_placesAboveNought pc = none := by
  unfold tqc_X2_placesAboveNought
  rw [show Nat.ble pc 40 = false from Bool.eq_false_iff.mpr (fun q => absurd (Nat.le_of_ble_eq_true q) (by omega))]
  rfl
theorem tqz_X2_warmOnes (pc : Nat) (h : 55 < pc) : tqc_X2_warmOnes pc = none := by
  unfold tqc_X2_warmOnes
  rw [show Nat.ble pc 55 = false from Bool.eq_false_iff.mpr (fun q => absurd (Nat.le_of_ble_eq_true q) (by omega))]
  rfl
theorem tqz_X2_longestWarm (pc : Nat) (h : 61 < pc) : tqc_X2_longestWarm pc = none := by
  unfold tqc_X2_longestWarm
  rw [show Nat.ble pc 61 = false from Bool.eq_false_iff.mpr (fun q => absurd (Nat.le_of_ble_eq_true q) (by omega))]
  rfl
theorem tqz_X3_init (pc : Nat) (h : 68 < pc) : tqc_X3_init pc = none := by
  unfold tqc_X3_init
  rw [show Nat.ble pc 68 = false from Bool.eq_false_iff.mpr (fun q => absurd (Nat.le_of_ble_eq_true q) (by omega))]
  rfl
theorem tqz_X3_share (pc : Nat) (h : 155 < pc) : tqc_X3_share pc = none := by
  unfold tqc_X3_share
  rw [show Nat.ble pc 155 = false from Bool.eq_false_iff.mpr (fun q => absurd (Nat.le_of_ble_eq_true q) (by omega))]
  rfl
theorem tqz_X3_measure (pc : Nat) (h : 102 < pc) : tqc_X3_measure pc = none := by
  unfold tqc_X3_measure
  rw [show Nat.ble pc 102 = false from Bool.eq_false_iff.mpr (fun q => absurd (Nat.le_of_ble_eq_true q) (by omega))]
  rfl
theorem tqz_X3_findPaths (pc : Nat) (h : 168 < pc) : tqc_X3_findPaths pc = none := by
  unfold tqc_X3_findPaths
  rw [show Nat.ble pc 168 = false from Bool.eq_false_iff.mpr (fun q => absurd (Nat.le_of_ble_eq_true q) (by omega))]
  rfl
theorem tqz_X3_shorten (pc : Nat) (h : 52 < pc) : tqc_X3_shorten pc = none := by
  unfold tqc_X3_shorten
  rw [show Nat.ble pc 52 = false from Bool.eq_false_iff.mpr (fun q => absurd (Nat.le_of_ble_eq_true q) (by omega))]
  rfl
theorem tqz_X3_nearestLacking (pc : Nat) (h : 61 < pc) : tqc_X3_nearestLacking pc = none := by
  unfold tqc_X3_nearestLacking
  rw [show Nat.ble pc 61 = false from Bool.eq_false_iff.mpr (fun q => absurd (Nat.le_of_ble_eq_true q) (by omega))]
  rfl
theorem tqz_X3_bring (pc : Nat) (h : 209 < pc) : tqc_X3_bring pc = none := by
  unfold tqc_X3_bring
  rw [show Nat.ble pc 209 = false from Bool.eq_false_iff.mpr (fun q => absurd (Nat.le_of_ble_eq_true q) (by omega))]
  rfl
theorem tqz_X3_lack (pc : Nat) (h : 26 < pc) : tqc_X3_lack pc = none := by
  unfold tqc_X3_lack
  rw [show Nat.ble pc 26 = false from Bool.eq_false_iff.mpr (fun q => absurd (Nat.le_of_ble_eq_true q) (by omega))]
  rfl
theorem tqz_X4_init (pc : Nat) (h : 21 < pc) : tqc_X4_init pc = none := by
  unfold tqc_X4_init
  rw [show Nat.ble pc 21 = false from Bool.eq_false_iff.mpr (fun q => absurd (Nat.le_of_ble_eq_true q) (by omega))]
  rfl
theorem tqz_X4_setPrices (pc : Nat) (h : 21 < pc) : tqc_X4_setPrices pc = none := by
  unfold tqc_X4_setPrices
  rw [show Nat.ble pc 21 = false from Bool.eq_false_iff.mpr (fun q => absurd (Nat.le_of_ble_eq_true q) (by omega))]
  rfl
theorem tqz_X4_planDays (pc : Nat) (h : 129 < pc) : tqc_X4_planDays pc = none := by
  unfold tqc_X4_planDays
  rw [show Nat.ble pc 129 = false from Bool.eq_false_iff.mpr (fun q => absurd (Nat.le_of_ble_eq_true q) (by omega))]
  rfl
theorem tqz_X4_firstBest (pc : Nat) (h : 57 < pc) : tqc_X4_firstBest pc = none := by
  unfold tqc_X4_firstBest
  rw [show Nat.ble pc 57 = false from Bool.eq_false_iff.mpr (fun q => absurd (Nat.le_of_ble_eq_true q) (by omega))]
  rfl
theorem tqz_X4_costFrom (pc : Nat) (h : 63 < pc) : tqc_X4_costFrom pc = none := by
  unfold tqc_X4_costFrom
  rw [show Nat.ble pc 63 = false from Bool.eq_false_iff.mpr (fun q => absurd (Nat.le_of_ble_eq_true q) (by omega))]
  rfl
theorem tqz_X5_init (pc : Nat) (h : 40 < pc) : tqc_X5_init pc = none := by
  unfold tqc_X5_init
  rw [show Nat.ble pc 40 = false from Bool.eq_false_iff.mpr (fun q => absurd (Nat.le_of_ble_eq_true q) (by omega))]
  rfl
theorem tqz_X5_order (pc : Nat) (h : 107 < pc) : tqc_X5_order pc = none := by
  unfold tqc_X5_order
  rw [show Nat.ble pc 107 = false from Bool.eq_false_iff.mpr (fun q => absurd (Nat.le_of_ble_eq_true q) (by omega))]
  rfl
theorem tqz_X5_goOn (pc : Nat) (h : 163 < pc) : tqc_X5_goOn pc = none := by
  unfold tqc_X5_goOn
  rw [show Nat.ble pc 163 = false from Bool.eq_false_iff.mpr (fun q => absurd (Nat.le_of_ble_eq_true q) (by omega))]
  rfl
theorem tqz_X5_straight (pc : Nat) (h : 55 < pc) : tqc_X5_straight pc = none := by
  unfold tqc_X5_straight
  rw [show Nat.ble pc 55 = false from Bool.eq_false_iff.mpr (fun q => absurd (Nat.le_of_ble_eq_true q) (by omega))]
  rfl
theorem tqz_X6_init (pc : Nat) (h : 130 < pc) : tqc_X6_init pc = none := by
  unfold tqc_X6_init
  rw [show Nat.ble pc 130 = false from Bool.eq_false_iff.mpr (fun q => absurd (Nat.le_of_ble_eq_true q) (by omega))]
  rfl
theorem tqz_X6_meet (pc : Nat) (h : 203 < pc) : tqc_X6_meet pc = none := by
  unfold tqc_X6_meet
  rw [show Nat.ble pc 203 = false from Bool.eq_false_iff.mpr (fun q => absurd (Nat.le_of_ble_eq_true q) (by omega))]
  rfl
theorem tqz_X6_pairUp (pc : Nat) (h : 150 < pc) : tqc_X6_pairUp pc = none := by
  unfold tqc_X6_pairUp
  rw [show Nat.ble pc 150 = false from Bool.eq_false_iff.mpr (fun q => absurd (Nat.le_of_ble_eq_true q) (by omega))]
  rfl
theorem tqz_X6_partOut (pc : Nat) (h : 135 < pc) : tqc_X6_partOut pc = none := by
  unfold tqc_X6_partOut
  rw [show Nat.ble pc 135 = false from Bool.eq_false_iff.mpr (fun q => absurd (Nat.le_of_ble_eq_true q) (by omega))]
  rfl
theorem tqz_X6_leastOf (pc : Nat) (h : 25 < pc) : tqc_X6_leastOf pc = none := by
  unfold tqc_X6_leastOf
  rw [show Nat.ble pc 25 = false from Bool.eq_false_iff.mpr (fun q => absurd (Nat.le_of_ble_eq_true q) (by omega))]
  rfl
theorem tqz_X7_init (pc : Nat) (h : 37 < pc) : tqc_X7_init pc = none := by
  unfold tqc_X7_init
  rw [show Nat.ble pc 37 = false from Bool.eq_false_iff.mpr (fun q => absurd (Nat.le_of_ble_eq_true q) (by omega))]
  rfl
theorem tqz_X7_isFull (pc : Nat) (h : 14 < pc) : tqc_X7_isFull pc = none := by
  unfold tqc_X7_isFull
  rw [show Nat.ble pc 14 = false from Bool.eq_false_iff.mpr (fun q => absurd (Nat.le_of_ble_eq_true q) (by omega))]
  rfl
theorem tqz_X7_read (pc : Nat) (h : 214 < pc) : tqc_X7_read pc = none := by
  unfold tqc_X7_read
  rw [show Nat.ble pc 214 = false from Bool.eq_false_iff.mpr (fun q => absurd (Nat.le_of_ble_eq_true q) (by omega))]
  rfl
theorem tqz_X7_addDigit (pc : Nat) (h : 35 < pc) : tqc_X7_addDigit pc = none := by
  unfold tqc_X7_addDigit
  rw [show Nat.ble pc 35 = false from Bool.eq_false_iff.mpr (fun q => absurd (Nat.le_of_ble_eq_true q) (by omega))]
  rfl
theorem tqz_X7_thingOf (pc : Nat) (h : 56 < pc) : tqc_X7_thingOf pc = none := by
  unfold tqc_X7_thingOf
  rw [show Nat.ble pc 56 = false from Bool.eq_false_iff.mpr (fun q => absurd (Nat.le_of_ble_eq_true q) (by omega))]
  rfl
theorem tqz_X7_keep (pc : Nat) (h : 67 < pc) : tqc_X7_keep pc = none := by
  unfold tqc_X7_keep
  rw [show Nat.ble pc 67 = false from Bool.eq_false_iff.mpr (fun q => absurd (Nat.le_of_ble_eq_true q) (by omega))]
  rfl
theorem tqz_X7_inForce (pc : Nat) (h : 135 < pc) : tqc_X7_inForce pc = none := by
  unfold tqc_X7_inForce
  rw [show Nat.ble pc 135 = false from Bool.eq_false_iff.mpr (fun q => absurd (Nat.le_of_ble_eq_true q) (by omega))]
  rfl
theorem tqz_X7_atFirst (pc : Nat) (h : 32 < pc) : tqc_X7_atFirst pc = none := by
  unfold tqc_X7_atFirst
  rw [show Nat.ble pc 32 = false from Bool.eq_false_iff.mpr (fun q => absurd (Nat.le_of_ble_eq_true q) (by omega))]
  rfl
theorem tqz_X7_mixInto (pc : Nat) (h : 45 < pc) : tqc_X7_mixInto pc = none := by
  unfold tqc_X7_mixInto
  rw [show Nat.ble pc 45 = false from Bool.eq_false_iff.mpr (fun q => absurd (Nat.le_of_ble_eq_true q) (by omega))]
  rfl
theorem tqz_X8_init (pc : Nat) (h : 10 < pc) : tqc_X8_init pc = none := by
  unfold tqc_X8_init
  rw [show Nat.ble pc 10 = false from Bool.eq_false_iff.mpr (fun q => absurd (Nat.le_of_ble_eq_true q) (by omega))]
  rfl
theorem tqz_X8_isOnTheWay (pc : Nat) (h : 13 < pc) : tqc_X8_isOnTheWay pc = none := by
  unfold tqc_X8_isOnTheWay
  rw [show Nat.ble pc 13 = false from Bool.eq_false_iff.mpr (fun q => absurd (Nat.le_of_ble_eq_true q) (by omega))]
  rfl
theorem tqz_X8_says (pc : Nat) (h : 56 < pc) : tqc_X8_says pc = none := by
  unfold tqc_X8_says
  rw [show Nat.ble pc 56 = false from Bool.eq_false_iff.mpr (fun q => absurd (Nat.le_of_ble_eq_true q) (by omega))]
  rfl
theorem tqz_X9_init (pc : Nat) (h : 52 < pc) : tqc_X9_init pc = none := by
  unfold tqc_X9_init
  rw [show Nat.ble pc 52 = false from Bool.eq_false_iff.mpr (fun q => absurd (Nat.le_of_ble_eq_true q) (by omega))]
  rfl
theorem tqz_X9_isOf (pc : Nat) (h : 26 < pc) : tqc_X9_isOf pc = none := by
  unfold tqc_X9_isOf
  rw [show Nat.ble pc 26 = false from Bool.eq_false_iff.mpr (fun q => absurd (Nat.le_of_ble_eq_true q) (by omega))]
  rfl
theorem tqz_X9_says (pc : Nat) (h : 99 < pc) : tqc_X9_says pc = none := by
  unfold tqc_X9_says
  rw [show Nat.ble pc 99 = false from Bool.eq_false_iff.mpr (fun q => absurd (Nat.le_of_ble_eq_true q) (by omega))]
  rfl
theorem tqz_X9_isLawfulAt (pc : Nat) (h : 55 < pc) : tqc_X9_isLawfulAt pc = none := by
  unfold tqc_X9_isLawfulAt
  rw [show Nat.ble pc 55 = false from Bool.eq_false_iff.mpr (fun q => absurd (Nat.le_of_ble_eq_true q) (by omega))]
  rfl
theorem tqz_X10_init (pc : Nat) (h : 44 < pc) : tqc_X10_init pc = none := by
  unfold tqc_X10_init
  rw [show Nat.ble pc 44 = false from Bool.eq_false_iff.mpr (fun q => absurd (Nat.le_of_ble_eq_true q) (by omega))]
  rfl
theorem tqz_X10_joins (pc : Nat) (h : 33 < pc) : tqc_X10_joins pc = none := by
  unfold tqc_X10_joins
  rw [show Nat.ble pc 33 = false from Bool.eq_false_iff.mpr (fun q => absurd (Nat.le_of_ble_eq_true q) (by omega))]
  rfl
theorem tqz_X10_join (pc : Nat) (h : 92 < pc) : tqc_X10_join pc = none := by
  unfold tqc_X10_join
  rw [show Nat.ble pc 92 = false from Bool.eq_false_iff.mpr (fun q => absurd (Nat.le_of_ble_eq_true q) (by omega))]
  rfl
theorem tqz_X10_makeFerry (pc : Nat) (h : 65 < pc) : tqc_X10_makeFerry pc = none := by
  unfold tqc_X10_makeFerry
  rw [show Nat.ble pc 65 = false from Bool.eq_false_iff.mpr (fun q => absurd (Nat.le_of_ble_eq_true q) (by omega))]
  rfl
theorem tqz_X10_arrival (pc : Nat) (h : 29 < pc) : tqc_X10_arrival pc = none := by
  unfold tqc_X10_arrival
  rw [show Nat.ble pc 29 = false from Bool.eq_false_iff.mpr (fun q => absurd (Nat.le_of_ble_eq_true q) (by omega))]
  rfl
theorem tqz_X10_leastToll (pc : Nat) (h : 29 < pc) : tqc_X10_leastToll pc = none := by
  unfold tqc_X10_leastToll
  rw [show Nat.ble pc 29 = false from Bool.eq_false_iff.mpr (fun q => absurd (Nat.le_of_ble_eq_true q) (by omega))]
  rfl
theorem tqz_X10_inReach (pc : Nat) (h : 52 < pc) : tqc_X10_inReach pc = none := by
  unfold tqc_X10_inReach
  rw [show Nat.ble pc 52 = false from Bool.eq_false_iff.mpr (fun q => absurd (Nat.le_of_ble_eq_true q) (by omega))]
  rfl
theorem tqz_X10_reach (pc : Nat) (h : 136 < pc) : tqc_X10_reach pc = none := by
  unfold tqc_X10_reach
  rw [show Nat.ble pc 136 = false from Bool.eq_false_iff.mpr (fun q => absurd (Nat.le_of_ble_eq_true q) (by omega))]
  rfl
theorem tqz_X10_nearest (pc : Nat) (h : 55 < pc) : tqc_X10_nearest pc = none := by
  unfold tqc_X10_nearest
  rw [show Nat.ble pc 55 = false from Bool.eq_false_iff.mpr (fun q => absurd (Nat.le_of_ble_eq_true q) (by omega))]
  rfl
theorem tqz_X10_next (pc : Nat) (h : 56 < pc) : tqc_X10_next pc = none := by
  unfold tqc_X10_next
  rw [show Nat.ble pc 56 = false from Bool.eq_false_iff.mpr (fun q => absurd (Nat.le_of_ble_eq_true q) (by omega))]
  rfl
theorem tqz_X10_mixInto (pc : Nat) (h : 96 < pc) : tqc_X10_mixInto pc = none := by
  unfold tqc_X10_mixInto
  rw [show Nat.ble pc 96 = false from Bool.eq_false_iff.mpr (fun q => absurd (Nat.le_of_ble_eq_true q) (by omega))]
  rfl
theorem tqz_X11_init (pc : Nat) (h : 221 < pc) : tqc_X11_init pc = none := by
  unfold tqc_X11_init
  rw [show Nat.ble pc 221 = false from Bool.eq_false_iff.mpr (fun q => absurd (Nat.le_of_ble_eq_true q) (by omega))]
  rfl
theorem tqz_X11_row (pc : Nat) (h : 14 < pc) : tqc_X11_row pc = none := by
  unfold tqc_X11_row
  rw [show Nat.ble pc 14 = false from Bool.eq_false_iff.mpr (fun q => absurd (Nat.le_of_ble_eq_true q) (by omega))]
  rfl
theorem tqz_X11_lay (pc : Nat) (h : 69 < pc) : tqc_X11_lay pc = none := by
  unfold tqc_X11_lay
  rw [show Nat.ble pc 69 = false from Bool.eq_false_iff.mpr (fun q => absurd (Nat.le_of_ble_eq_true q) (by omega))]
  rfl
theorem tqz_X11_tear (pc : Nat) (h : 34 < pc) : tqc_X11_tear pc = none := by
  unfold tqc_X11_tear
  rw [show Nat.ble pc 34 = false from Bool.eq_false_iff.mpr (fun q => absurd (Nat.le_of_ble_eq_true q) (by omega))]
  rfl
theorem tqz_X11_copy (pc : Nat) (h : 113 < pc) : tqc_X11_copy pc = none := by
  unfold tqc_X11_copy
  rw [show Nat.ble pc 113 = false from Bool.eq_false_iff.mpr (fun q => absurd (Nat.le_of_ble_eq_true q) (by omega))]
  rfl
theorem tqz_X11_text (pc : Nat) (h : 15 < pc) : tqc_X11_text pc = none := by
  unfold tqc_X11_text
  rw [show Nat.ble pc 15 = false from Bool.eq_false_iff.mpr (fun q => absurd (Nat.le_of_ble_eq_true q) (by omega))]
  rfl
theorem tqz_X11_put (pc : Nat) (h : 70 < pc) : tqc_X11_put pc = none := by
  unfold tqc_X11_put
  rw [show Nat.ble pc 70 = false from Bool.eq_false_iff.mpr (fun q => absurd (Nat.le_of_ble_eq_true q) (by omega))]
  rfl
theorem tqz_X11_fault (pc : Nat) (h : 36 < pc) : tqc_X11_fault pc = none := by
  unfold tqc_X11_fault
  rw [show Nat.ble pc 36 = false from Bool.eq_false_iff.mpr (fun q => absurd (Nat.le_of_ble_eq_true q) (by omega))]
  rfl
theorem tqz_X11_later (pc : Nat) (h : 31 < pc) : tqc_X11_later pc = none := by
  unfold tqc_X11_later
  rw [show Nat.ble pc 31 = false from Bool.eq_false_iff.mpr (fun q => absurd (Nat.le_of_ble_eq_true q) (by omega))]
  rfl
theorem tqz_X11_way (pc : Nat) (h : 57 < pc) : tqc_X11_way pc = none := by
  unfold tqc_X11_way
  rw [show Nat.ble pc 57 = false from Bool.eq_false_iff.mpr (fun q => absurd (Nat.le_of_ble_eq_true q) (by omega))]
  rfl
theorem tqz_X11_ferry (pc : Nat) (h : 70 < pc) : tqc_X11_ferry pc = none := by
  unfold tqc_X11_ferry
  rw [show Nat.ble pc 70 = false from Bool.eq_false_iff.mpr (fun q => absurd (Nat.le_of_ble_eq_true q) (by omega))]
  rfl
theorem tqz_X11_comes (pc : Nat) (h : 40 < pc) : tqc_X11_comes pc = none := by
  unfold tqc_X11_comes
  rw [show Nat.ble pc 40 = false from Bool.eq_false_iff.mpr (fun q => absurd (Nat.le_of_ble_eq_true q) (by omega))]
  rfl
theorem tqz_X11_toll (pc : Nat) (h : 29 < pc) : tqc_X11_toll pc = none := by
  unfold tqc_X11_toll
  rw [show Nat.ble pc 29 = false from Bool.eq_false_iff.mpr (fun q => absurd (Nat.le_of_ble_eq_true q) (by omega))]
  rfl
theorem tqz_X11_trailer (pc : Nat) (h : 104 < pc) : tqc_X11_trailer pc = none := by
  unfold tqc_X11_trailer
  rw [show Nat.ble pc 104 = false from Bool.eq_false_iff.mpr (fun q => absurd (Nat.le_of_ble_eq_true q) (by omega))]
  rfl
theorem tqz_X11_told (pc : Nat) (h : 31 < pc) : tqc_X11_told pc = none := by
  unfold tqc_X11_told
  rw [show Nat.ble pc 31 = false from Bool.eq_false_iff.mpr (fun q => absurd (Nat.le_of_ble_eq_true q) (by omega))]
  rfl
theorem tqz_X11_mark (pc : Nat) (h : 70 < pc) : tqc_X11_mark pc = none := by
  unfold tqc_X11_mark
  rw [show Nat.ble pc 70 = false from Bool.eq_false_iff.mpr (fun q => absurd (Nat.le_of_ble_eq_true q) (by omega))]
  rfl
theorem tqz_X11_limit (pc : Nat) (h : 54 < pc) : tqc_X11_limit pc = none := by
  unfold tqc_X11_limit
  rw [show Nat.ble pc 54 = false from Bool.eq_false_iff.mpr (fun q => absurd (Nat.le_of_ble_eq_true q) (by omega))]
  rfl
theorem tqz_X11_park (pc : Nat) (h : 52 < pc) : tqc_X11_park pc = none := by
  unfold tqc_X11_park
  rw [show Nat.ble pc 52 = false from Bool.eq_false_iff.mpr (fun q => absurd (Nat.le_of_ble_eq_true q) (by omega))]
  rfl
theorem tqz_X11_hitch (pc : Nat) (h : 105 < pc) : tqc_X11_hitch pc = none := by
  unfold tqc_X11_hitch
  rw [show Nat.ble pc 105 = false from Bool.eq_false_iff.mpr (fun q => absurd (Nat.le_of_ble_eq_true q) (by omega))]
  rfl
theorem tqz_X11_drop (pc : Nat) (h : 96 < pc) : tqc_X11_drop pc = none := by
  unfold tqc_X11_drop
  rw [show Nat.ble pc 96 = false from Bool.eq_false_iff.mpr (fun q => absurd (Nat.le_of_ble_eq_true q) (by omega))]
  rfl
theorem tqz_X11_go (pc : Nat) (h : 199 < pc) : tqc_X11_go pc = none := by
  unfold tqc_X11_go
  rw [show Nat.ble pc 199 = false from Bool.eq_false_iff.mpr (fun q => absurd (Nat.le_of_ble_eq_true q) (by omega))]
  rfl
theorem tqz_X11_tractor (pc : Nat) (h : 30 < pc) : tqc_X11_tractor pc = none := by
  unfold tqc_X11_tractor
  rw [show Nat.ble pc 30 = false from Bool.eq_false_iff.mpr (fun q => absurd (Nat.le_of_ble_eq_true q) (by omega))]
  rfl
theorem tqz_X11_lose (pc : Nat) (h : 87 < pc) : tqc_X11_lose pc = none := by
  unfold tqc_X11_lose
  rw [show Nat.ble pc 87 = false from Bool.eq_false_iff.mpr (fun q => absurd (Nat.le_of_ble_eq_true q) (by omega))]
  rfl
theorem tqz_X11_find (pc : Nat) (h : 67 < pc) : tqc_X11_find pc = none := by
  unfold tqc_X11_find
  rw [show Nat.ble pc 67 = false from Bool.eq_false_iff.mpr (fun q => absurd (Nat.le_of_ble_eq_true q) (by omega))]
  rfl
theorem tqz_X11_seal (pc : Nat) (h : 91 < pc) : tqc_X11_seal pc = none := by
  unfold tqc_X11_seal
  rw [show Nat.ble pc 91 = false from Bool.eq_false_iff.mpr (fun q => absurd (Nat.le_of_ble_eq_true q) (by omega))]
  rfl
theorem tqz_X11_book (pc : Nat) (h : 52 < pc) : tqc_X11_book pc = none := by
  unfold tqc_X11_book
  rw [show Nat.ble pc 52 = false from Bool.eq_false_iff.mpr (fun q => absurd (Nat.le_of_ble_eq_true q) (by omega))]
  rfl
theorem tqz_X11_where (pc : Nat) (h : 31 < pc) : tqc_X11_where pc = none := by
  unfold tqc_X11_where
  rw [show Nat.ble pc 31 = false from Bool.eq_false_iff.mpr (fun q => absurd (Nat.le_of_ble_eq_true q) (by omega))]
  rfl
theorem tqz_X11_terms (pc : Nat) (h : 82 < pc) : tqc_X11_terms pc = none := by
  unfold tqc_X11_terms
  rw [show Nat.ble pc 82 = false from Bool.eq_false_iff.mpr (fun q => absurd (Nat.le_of_ble_eq_true q) (by omega))]
  rfl
theorem tqz_X11_force (pc : Nat) (h : 91 < pc) : tqc_X11_force pc = none := by
  unfold tqc_X11_force
  rw [show Nat.ble pc 91 = false from Bool.eq_false_iff.mpr (fun q => absurd (Nat.le_of_ble_eq_true q) (by omega))]
  rfl
theorem tqz_X11_detention (pc : Nat) (h : 172 < pc) : tqc_X11_detention pc = none := by
  unfold tqc_X11_detention
  rw [show Nat.ble pc 172 = false from Bool.eq_false_iff.mpr (fun q => absurd (Nat.le_of_ble_eq_true q) (by omega))]
  rfl
theorem tqz_X11_pence (pc : Nat) (h : 7 < pc) : tqc_X11_pence pc = none := by
  unfold tqc_X11_pence
  rw [show Nat.ble pc 7 = false from Bool.eq_false_iff.mpr (fun q => absurd (Nat.le_of_ble_eq_true q) (by omega))]
  rfl
theorem tqz_X11_law (pc : Nat) (h : 33 < pc) : tqc_X11_law pc = none := by
  unfold tqc_X11_law
  rw [show Nat.ble pc 33 = false from Bool.eq_false_iff.mpr (fun q => absurd (Nat.le_of_ble_eq_true q) (by omega))]
  rfl
theorem tqz_X11_load (pc : Nat) (h : 89 < pc) : tqc_X11_load pc = none := by
  unfold tqc_X11_load
  rw [show Nat.ble pc 89 = false from Bool.eq_false_iff.mpr (fun q => absurd (Nat.le_of_ble_eq_true q) (by omega))]
  rfl
theorem tqz_X11_unload (pc : Nat) (h : 33 < pc) : tqc_X11_unload pc = none := by
  unfold tqc_X11_unload
  rw [show Nat.ble pc 33 = false from Bool.eq_false_iff.mpr (fun q => absurd (Nat.le_of_ble_eq_true q) (by omega))]
  rfl
theorem tqz_X11_slide (pc : Nat) (h : 36 < pc) : tqc_X11_slide pc = none := by
  unfold tqc_X11_slide
  rw [show Nat.ble pc 36 = false from Bool.eq_false_iff.mpr (fun q => absurd (Nat.le_of_ble_eq_true q) (by omega))]
  rfl
theorem tqz_X11_weight (pc : Nat) (h : 52 < pc) : tqc_X11_weight pc = none := by
  unfold tqc_X11_weight
  rw [show Nat.ble pc 52 = false from Bool.eq_false_iff.mpr (fun q => absurd (Nat.le_of_ble_eq_true q) (by omega))]
  rfl
theorem tqz_X11_lawful (pc : Nat) (h : 36 < pc) : tqc_X11_lawful pc = none := by
  unfold tqc_X11_lawful
  rw [show Nat.ble pc 36 = false from Bool.eq_false_iff.mpr (fun q => absurd (Nat.le_of_ble_eq_true q) (by omega))]
  rfl
theorem tqz_X11_shift (pc : Nat) (h : 84 < pc) : tqc_X11_shift pc = none := by
  unfold tqc_X11_shift
  rw [show Nat.ble pc 84 = false from Bool.eq_false_iff.mpr (fun q => absurd (Nat.le_of_ble_eq_true q) (by omega))]
  rfl
theorem tqz_X11_cold (pc : Nat) (h : 120 < pc) : tqc_X11_cold pc = none := by
  unfold tqc_X11_cold
  rw [show Nat.ble pc 120 = false from Bool.eq_false_iff.mpr (fun q => absurd (Nat.le_of_ble_eq_true q) (by omega))]
  rfl
theorem tqz_X11_mean (pc : Nat) (h : 100 < pc) : tqc_X11_mean pc = none := by
  unfold tqc_X11_mean
  rw [show Nat.ble pc 100 = false from Bool.eq_false_iff.mpr (fun q => absurd (Nat.le_of_ble_eq_true q) (by omega))]
  rfl
theorem tqz_X11_theft (pc : Nat) (h : 79 < pc) : tqc_X11_theft pc = none := by
  unfold tqc_X11_theft
  rw [show Nat.ble pc 79 = false from Bool.eq_false_iff.mpr (fun q => absurd (Nat.le_of_ble_eq_true q) (by omega))]
  rfl
theorem tqz_X11_hands (pc : Nat) (h : 70 < pc) : tqc_X11_hands pc = none := by
  unfold tqc_X11_hands
  rw [show Nat.ble pc 70 = false from Bool.eq_false_iff.mpr (fun q => absurd (Nat.le_of_ble_eq_true q) (by omega))]
  rfl
theorem tqz_X11_swap (pc : Nat) (h : 134 < pc) : tqc_X11_swap pc = none := by
  unfold tqc_X11_swap
  rw [show Nat.ble pc 134 = false from Bool.eq_false_iff.mpr (fun q => absurd (Nat.le_of_ble_eq_true q) (by omega))]
  rfl
theorem tqz_X11_pairs (pc : Nat) (h : 152 < pc) : tqc_X11_pairs pc = none := by
  unfold tqc_X11_pairs
  rw [show Nat.ble pc 152 = false from Bool.eq_false_iff.mpr (fun q => absurd (Nat.le_of_ble_eq_true q) (by omega))]
  rfl
theorem tqz_X11_partner (pc : Nat) (h : 21 < pc) : tqc_X11_partner pc = none := by
  unfold tqc_X11_partner
  rw [show Nat.ble pc 21 = false from Bool.eq_false_iff.mpr (fun q => absurd (Nat.le_of_ble_eq_true q) (by omega))]
  rfl
theorem tqz_X11_late (pc : Nat) (h : 270 < pc) : tqc_X11_late pc = none := by
  unfold tqc_X11_late
  rw [show Nat.ble pc 270 = false from Bool.eq_false_iff.mpr (fun q => absurd (Nat.le_of_ble_eq_true q) (by omega))]
  rfl
theorem tqz_X11_canBe (pc : Nat) (h : 29 < pc) : tqc_X11_canBe pc = none := by
  unfold tqc_X11_canBe
  rw [show Nat.ble pc 29 = false from Bool.eq_false_iff.mpr (fun q => absurd (Nat.le_of_ble_eq_true q) (by omega))]
  rfl
theorem tqz_X11_look (pc : Nat) (h : 172 < pc) : tqc_X11_look pc = none := by
  unfold tqc_X11_look
  rw [show Nat.ble pc 172 = false from Bool.eq_false_iff.mpr (fun q => absurd (Nat.le_of_ble_eq_true q) (by omega))]
  rfl
theorem tqz_X11_looked (pc : Nat) (h : 29 < pc) : tqc_X11_looked pc = none := by
  unfold tqc_X11_looked
  rw [show Nat.ble pc 29 = false from Bool.eq_false_iff.mpr (fun q => absurd (Nat.le_of_ble_eq_true q) (by omega))]
  rfl
theorem tqz_X11_pool (pc : Nat) (h : 148 < pc) : tqc_X11_pool pc = none := by
  unfold tqc_X11_pool
  rw [show Nat.ble pc 148 = false from Bool.eq_false_iff.mpr (fun q => absurd (Nat.le_of_ble_eq_true q) (by omega))]
  rfl
theorem tqz_X11_rent (pc : Nat) (h : 139 < pc) : tqc_X11_rent pc = none := by
  unfold tqc_X11_rent
  rw [show Nat.ble pc 139 = false from Bool.eq_false_iff.mpr (fun q => absurd (Nat.le_of_ble_eq_true q) (by omega))]
  rfl
theorem tqz_X11_rented (pc : Nat) (h : 29 < pc) : tqc_X11_rented pc = none := by
  unfold tqc_X11_rented
  rw [show Nat.ble pc 29 = false from Bool.eq_false_iff.mpr (fun q => absurd (Nat.le_of_ble_eq_true q) (by omega))]
  rfl
theorem tqz_X11_asked (pc : Nat) (h : 7 < pc) : tqc_X11_asked pc = none := by
  unfold tqc_X11_asked
  rw [show Nat.ble pc 7 = false from Bool.eq_false_iff.mpr (fun q => absurd (Nat.le_of_ble_eq_true q) (by omega))]
  rfl
theorem tqz_X11_upper (pc : Nat) (h : 7 < pc) : tqc_X11_upper pc = none := by
  unfold tqc_X11_upper
  rw [show Nat.ble pc 7 = false from Bool.eq_false_iff.mpr (fun q => absurd (Nat.le_of_ble_eq_true q) (by omega))]
  rfl
theorem tqz_X11_lower (pc : Nat) (h : 7 < pc) : tqc_X11_lower pc = none := by
  unfold tqc_X11_lower
  rw [show Nat.ble pc 7 = false from Bool.eq_false_iff.mpr (fun q => absurd (Nat.le_of_ble_eq_true q) (by omega))]
  rfl
theorem tqz_X11_count (pc : Nat) (h : 104 < pc) : tqc_X11_count pc = none := by
  unfold tqc_X11_count
  rw [show Nat.ble pc 104 = false from Bool.eq_false_iff.mpr (fun q => absurd (Nat.le_of_ble_eq_true q) (by omega))]
  rfl
theorem tqz_X11_finding (pc : Nat) (h : 7 < pc) : tqc_X11_finding pc = none := by
  unfold tqc_X11_finding
  rw [show Nat.ble pc 7 = false from Bool.eq_false_iff.mpr (fun q => absurd (Nat.le_of_ble_eq_true q) (by omega))]
  rfl
theorem tqz_X11_findings (pc : Nat) (h : 22 < pc) : tqc_X11_findings pc = none := by
  unfold tqc_X11_findings
  rw [show Nat.ble pc 22 = false from Bool.eq_false_iff.mpr (fun q => absurd (Nat.le_of_ble_eq_true q) (by omega))]
  rfl
theorem tqz_X11_digest (pc : Nat) (h : 188 < pc) : tqc_X11_digest pc = none := by
  unfold tqc_X11_digest
  rw [show Nat.ble pc 188 = false from Bool.eq_false_iff.mpr (fun q => absurd (Nat.le_of_ble_eq_true q) (by omega))]
  rfl
theorem tqz_X11_isWithin (pc : Nat) (h : 15 < pc) : tqc_X11_isWithin pc = none := by
  unfold tqc_X11_isWithin
  rw [show Nat.ble pc 15 = false from Bool.eq_false_iff.mpr (fun q => absurd (Nat.le_of_ble_eq_true q) (by omega))]
  rfl
theorem tqz_X11_isYard (pc : Nat) (h : 15 < pc) : tqc_X11_isYard pc = none := by
  unfold tqc_X11_isYard
  rw [show Nat.ble pc 15 = false from Bool.eq_false_iff.mpr (fun q => absurd (Nat.le_of_ble_eq_true q) (by omega))]
  rfl
theorem tqz_X11_hasBit (pc : Nat) (h : 14 < pc) : tqc_X11_hasBit pc = none := by
  unfold tqc_X11_hasBit
  rw [show Nat.ble pc 14 = false from Bool.eq_false_iff.mpr (fun q => absurd (Nat.le_of_ble_eq_true q) (by omega))]
  rfl
theorem tqz_X11_dayOf (pc : Nat) (h : 5 < pc) : tqc_X11_dayOf pc = none := by
  unfold tqc_X11_dayOf
  rw [show Nat.ble pc 5 = false from Bool.eq_false_iff.mpr (fun q => absurd (Nat.le_of_ble_eq_true q) (by omega))]
  rfl
theorem tqz_X11_mix (pc : Nat) (h : 7 < pc) : tqc_X11_mix pc = none := by
  unfold tqc_X11_mix
  rw [show Nat.ble pc 7 = false from Bool.eq_false_iff.mpr (fun q => absurd (Nat.le_of_ble_eq_true q) (by omega))]
  rfl
theorem tqz_X11_mixLines (pc : Nat) (h : 69 < pc) : tqc_X11_mixLines pc = none := by
  unfold tqc_X11_mixLines
  rw [show Nat.ble pc 69 = false from Bool.eq_false_iff.mpr (fun q => absurd (Nat.le_of_ble_eq_true q) (by omega))]
  rfl
theorem tqz_X11_linesThere (pc : Nat) (h : 29 < pc) : tqc_X11_linesThere pc = none := by
  unfold tqc_X11_linesThere
  rw [show Nat.ble pc 29 = false from Bool.eq_false_iff.mpr (fun q => absurd (Nat.le_of_ble_eq_true q) (by omega))]
  rfl
theorem tqz_X11_lineAt (pc : Nat) (h : 17 < pc) : tqc_X11_lineAt pc = none := by
  unfold tqc_X11_lineAt
  rw [show Nat.ble pc 17 = false from Bool.eq_false_iff.mpr (fun q => absurd (Nat.le_of_ble_eq_true q) (by omega))]
  rfl
theorem tqz_X11_trailerAt (pc : Nat) (h : 22 < pc) : tqc_X11_trailerAt pc = none := by
  unfold tqc_X11_trailerAt
  rw [show Nat.ble pc 22 = false from Bool.eq_false_iff.mpr (fun q => absurd (Nat.le_of_ble_eq_true q) (by omega))]
  rfl
theorem tqz_X11_tractorAt (pc : Nat) (h : 20 < pc) : tqc_X11_tractorAt pc = none := by
  unfold tqc_X11_tractorAt
  rw [show Nat.ble pc 20 = false from Bool.eq_false_iff.mpr (fun q => absurd (Nat.le_of_ble_eq_true q) (by omega))]
  rfl
theorem tqz_X11_worthOf (pc : Nat) (h : 18 < pc) : tqc_X11_worthOf pc = none := by
  unfold tqc_X11_worthOf
  rw [show Nat.ble pc 18 = false from Bool.eq_false_iff.mpr (fun q => absurd (Nat.le_of_ble_eq_true q) (by omega))]
  rfl
theorem tqz_X11_lostOnes (pc : Nat) (h : 34 < pc) : tqc_X11_lostOnes pc = none := by
  unfold tqc_X11_lostOnes
  rw [show Nat.ble pc 34 = false from Bool.eq_false_iff.mpr (fun q => absurd (Nat.le_of_ble_eq_true q) (by omega))]
  rfl
theorem tqz_X11_canSwap (pc : Nat) (h : 25 < pc) : tqc_X11_canSwap pc = none := by
  unfold tqc_X11_canSwap
  rw [show Nat.ble pc 25 = false from Bool.eq_false_iff.mpr (fun q => absurd (Nat.le_of_ble_eq_true q) (by omega))]
  rfl
theorem tqz_X11_yardsInReach (pc : Nat) (h : 27 < pc) : tqc_X11_yardsInReach pc = none := by
  unfold tqc_X11_yardsInReach
  rw [show Nat.ble pc 27 = false from Bool.eq_false_iff.mpr (fun q => absurd (Nat.le_of_ble_eq_true q) (by omega))]
  rfl
theorem tqz_X11_makeLine (pc : Nat) (h : 36 < pc) : tqc_X11_makeLine pc = none := by
  unfold tqc_X11_makeLine
  rw [show Nat.ble pc 36 = false from Bool.eq_false_iff.mpr (fun q => absurd (Nat.le_of_ble_eq_true q) (by omega))]
  rfl
theorem tqz_X11_tells (pc : Nat) (h : 9 < pc) : tqc_X11_tells pc = none := by
  unfold tqc_X11_tells
  rw [show Nat.ble pc 9 = false from Bool.eq_false_iff.mpr (fun q => absurd (Nat.le_of_ble_eq_true q) (by omega))]
  rfl
theorem tqz_X11_refuse (pc : Nat) (h : 23 < pc) : tqc_X11_refuse pc = none := by
  unfold tqc_X11_refuse
  rw [show Nat.ble pc 23 = false from Bool.eq_false_iff.mpr (fun q => absurd (Nat.le_of_ble_eq_true q) (by omega))]
  rfl
theorem tqz_X11_orNothing (pc : Nat) (h : 15 < pc) : tqc_X11_orNothing pc = none := by
  unfold tqc_X11_orNothing
  rw [show Nat.ble pc 15 = false from Bool.eq_false_iff.mpr (fun q => absurd (Nat.le_of_ble_eq_true q) (by omega))]
  rfl
theorem tqz_X12_init (pc : Nat) (h : 507 < pc) : tqc_X12_init pc = none := by
  unfold tqc_X12_init
  rw [show Nat.ble pc 507 = false from Bool.eq_false_iff.mpr (fun q => absurd (Nat.le_of_ble_eq_true q) (by omega))]
  rfl
theorem tqz_X12_in (pc : Nat) (h : 15 < pc) : tqc_X12_in pc = none := by
  unfold tqc_X12_in
  rw [show Nat.ble pc 15 = false from Bool.eq_false_iff.mpr (fun q => absurd (Nat.le_of_ble_eq_true q) (by omega))]
  rfl
theorem tqz_X12_meets (pc : Nat) (h : 17 < pc) : tqc_X12_meets pc = none := by
  unfold tqc_X12_meets
  rw [show Nat.ble pc 17 = false from Bool.eq_false_iff.mpr (fun q => absurd (Nat.le_of_ble_eq_true q) (by omega))]
  rfl
theorem tqz_X12_ask (pc : Nat) (h : 6 < pc) : tqc_X12_ask pc = none := by
  unfold tqc_X12_ask
  rw [show Nat.ble pc 6 = false from Bool.eq_false_iff.mpr (fun q => absurd (Nat.le_of_ble_eq_true q) (by omega))]
  rfl
theorem tqz_X12_share (pc : Nat) (h : 59 < pc) : tqc_X12_share pc = none := by
  unfold tqc_X12_share
  rw [show Nat.ble pc 59 = false from Bool.eq_false_iff.mpr (fun q => absurd (Nat.le_of_ble_eq_true q) (by omega))]
  rfl
theorem tqz_X12_day (pc : Nat) (h : 5 < pc) : tqc_X12_day pc = none := by
  unfold tqc_X12_day
  rw [show Nat.ble pc 5 = false from Bool.eq_false_iff.mpr (fun q => absurd (Nat.le_of_ble_eq_true q) (by omega))]
  rfl
theorem tqz_X12_isRow (pc : Nat) (h : 6 < pc) : tqc_X12_isRow pc = none := by
  unfold tqc_X12_isRow
  rw [show Nat.ble pc 6 = false from Bool.eq_false_iff.mpr (fun q => absurd (Nat.le_of_ble_eq_true q) (by omega))]
  rfl
theorem tqz_X12_askedRow (pc : Nat) (h : 29 < pc) : tqc_X12_askedRow pc = none := by
  unfold tqc_X12_askedRow
  rw [show Nat.ble pc 29 = false from Bool.eq_false_iff.mpr (fun q => absurd (Nat.le_of_ble_eq_true q) (by omega))]
  rfl
theorem tqz_X12_row (pc : Nat) (h : 59 < pc) : tqc_X12_row pc = none := by
  unfold tqc_X12_row
  rw [show Nat.ble pc 59 = false from Bool.eq_false_iff.mpr (fun q => absurd (Nat.le_of_ble_eq_true q) (by omega))]
  rfl
theorem tqz_X12_lay (pc : Nat) (h : 65 < pc) : tqc_X12_lay pc = none := by
  unfold tqc_X12_lay
  rw [show Nat.ble pc 65 = false from Bool.eq_false_iff.mpr (fun q => absurd (Nat.le_of_ble_eq_true q) (by omega))]
  rfl
theorem tqz_X12_tear (pc : Nat) (h : 21 < pc) : tqc_X12_tear pc = none := by
  unfold tqc_X12_tear
  rw [show Nat.ble pc 21 = false from Bool.eq_false_iff.mpr (fun q => absurd (Nat.le_of_ble_eq_true q) (by omega))]
  rfl
theorem tqz_X12_copy (pc : Nat) (h : 177 < pc) : tqc_X12_copy pc = none := by
  unfold tqc_X12_copy
  rw [show Nat.ble pc 177 = false from Bool.eq_false_iff.mpr (fun q => absurd (Nat.le_of_ble_eq_true q) (by omega))]
  rfl
theorem tqz_X12_isText (pc : Nat) (h : 6 < pc) : tqc_X12_isText pc = none := by
  unfold tqc_X12_isText
  rw [show Nat.ble pc 6 = false from Bool.eq_false_iff.mpr (fun q => absurd (Nat.le_of_ble_eq_true q) (by omega))]
  rfl
theorem tqz_X12_askedText (pc : Nat) (h : 29 < pc) : tqc_X12_askedText pc = none := by
  unfold tqc_X12_askedText
  rw [show Nat.ble pc 29 = false from Bool.eq_false_iff.mpr (fun q => absurd (Nat.le_of_ble_eq_true q) (by omega))]
  rfl
theorem tqz_X12_text (pc : Nat) (h : 60 < pc) : tqc_X12_text pc = none := by
  unfold tqc_X12_text
  rw [show Nat.ble pc 60 = false from Bool.eq_false_iff.mpr (fun q => absurd (Nat.le_of_ble_eq_true q) (by omega))]
  rfl
theorem tqz_X12_put (pc : Nat) (h : 69 < pc) : tqc_X12_put pc = none := by
  unfold tqc_X12_put
  rw [show Nat.ble pc 69 = false from Bool.eq_false_iff.mpr (fun q => absurd (Nat.le_of_ble_eq_true q) (by omega))]
  rfl
theorem tqz_X12_later (pc : Nat) (h : 31 < pc) : tqc_X12_later pc = none := by
  unfold tqc_X12_later
  rw [show Nat.ble pc 31 = false from Bool.eq_false_iff.mpr (fun q => absurd (Nat.le_of_ble_eq_true q) (by omega))]
  rfl
theorem tqz_X12_isYard (pc : Nat) (h : 7 < pc) : tqc_X12_isYard pc = none := by
  unfold tqc_X12_isYard
  rw [show Nat.ble pc 7 = false from Bool.eq_false_iff.mpr (fun q => absurd (Nat.le_of_ble_eq_true q) (by omega))]
  rfl
theorem tqz_X12_setWay (pc : Nat) (h : 43 < pc) : tqc_X12_setWay pc = none := by
  unfold tqc_X12_setWay
  rw [show Nat.ble pc 43 = false from Bool.eq_false_iff.mpr (fun q => absurd (Nat.le_of_ble_eq_true q) (by omega))]
  rfl
theorem tqz_X12_way (pc : Nat) (h : 67 < pc) : tqc_X12_way pc = none := by
  unfold tqc_X12_way
  rw [show Nat.ble pc 67 = false from Bool.eq_false_iff.mpr (fun q => absurd (Nat.le_of_ble_eq_true q) (by omega))]
  rfl
theorem tqz_X12_ferry (pc : Nat) (h : 110 < pc) : tqc_X12_ferry pc = none := by
  unfold tqc_X12_ferry
  rw [show Nat.ble pc 110 = false from Bool.eq_false_iff.mpr (fun q => absurd (Nat.le_of_ble_eq_true q) (by omega))]
  rfl
theorem tqz_X12_beyond (pc : Nat) (h : 81 < pc) : tqc_X12_beyond pc = none := by
  unfold tqc_X12_beyond
  rw [show Nat.ble pc 81 = false from Bool.eq_false_iff.mpr (fun q => absurd (Nat.le_of_ble_eq_true q) (by omega))]
  rfl
theorem tqz_X12_comesTo (pc : Nat) (h : 165 < pc) : tqc_X12_comesTo pc = none := by
  unfold tqc_X12_comesTo
  rw [show Nat.ble pc 165 = false from Bool.eq_false_iff.mpr (fun q => absurd (Nat.le_of_ble_eq_true q) (by omega))]
  rfl
theorem tqz_X12_comes (pc : Nat) (h : 52 < pc) : tqc_X12_comes pc = none := by
  unfold tqc_X12_comes
  rw [show Nat.ble pc 52 = false from Bool.eq_false_iff.mpr (fun q => absurd (Nat.le_of_ble_eq_true q) (by omega))]
  rfl
theorem tqz_X12_toll (pc : Nat) (h : 177 < pc) : tqc_X12_toll pc = none := by
  unfold tqc_X12_toll
  rw [show Nat.ble pc 177 = false from Bool.eq_false_iff.mpr (fun q => absurd (Nat.le_of_ble_eq_true q) (by omega))]
  rfl
theorem tqz_X12_enter (pc : Nat) (h : 64 < pc) : tqc_X12_enter pc = none := by
  unfold tqc_X12_enter
  rw [show Nat.ble pc 64 = false from Bool.eq_false_iff.mpr (fun q => absurd (Nat.le_of_ble_eq_true q) (by omega))]
  rfl
theorem tqz_X12_isTrailer (pc : Nat) (h : 11 < pc) : tqc_X12_isTrailer pc = none := by
  unfold tqc_X12_isTrailer
  rw [show Nat.ble pc 11 = false from Bool.eq_false_iff.mpr (fun q => absurd (Nat.le_of_ble_eq_true q) (by omega))]
  rfl
theorem tqz_X12_isTractor (pc : Nat) (h : 6 < pc) : tqc_X12_isTractor pc = none := by
  unfold tqc_X12_isTractor
  rw [show Nat.ble pc 6 = false from Bool.eq_false_iff.mpr (fun q => absurd (Nat.le_of_ble_eq_true q) (by omega))]
  rfl
theorem tqz_X12_isWorth (pc : Nat) (h : 7 < pc) : tqc_X12_isWorth pc = none := by
  unfold tqc_X12_isWorth
  rw [show Nat.ble pc 7 = false from Bool.eq_false_iff.mpr (fun q => absurd (Nat.le_of_ble_eq_true q) (by omega))]
  rfl
theorem tqz_X12_trailer (pc : Nat) (h : 145 < pc) : tqc_X12_trailer pc = none := by
  unfold tqc_X12_trailer
  rw [show Nat.ble pc 145 = false from Bool.eq_false_iff.mpr (fun q => absurd (Nat.le_of_ble_eq_true q) (by omega))]
  rfl
theorem tqz_X12_trailerTells (pc : Nat) (h : 115 < pc) : tqc_X12_trailerTells pc = none := by
  unfold tqc_X12_trailerTells
  rw [show Nat.ble pc 115 = false from Bool.eq_false_iff.mpr (fun q => absurd (Nat.le_of_ble_eq_true q) (by omega))]
  rfl
theorem tqz_X12_told (pc : Nat) (h : 33 < pc) : tqc_X12_told pc = none := by
  unfold tqc_X12_told
  rw [show Nat.ble pc 33 = false from Bool.eq_false_iff.mpr (fun q => absurd (Nat.le_of_ble_eq_true q) (by omega))]
  rfl
theorem tqz_X12_isCold (pc : Nat) (h : 25 < pc) : tqc_X12_isCold pc = none := by
  unfold tqc_X12_isCold
  rw [show Nat.ble pc 25 = false from Bool.eq_false_iff.mpr (fun q => absurd (Nat.le_of_ble_eq_true q) (by omega))]
  rfl
theorem tqz_X12_entryFrom (pc : Nat) (h : 40 < pc) : tqc_X12_entryFrom pc = none := by
  unfold tqc_X12_entryFrom
  rw [show Nat.ble pc 40 = false from Bool.eq_false_iff.mpr (fun q => absurd (Nat.le_of_ble_eq_true q) (by omega))]
  rfl
theorem tqz_X12_mark (pc : Nat) (h : 98 < pc) : tqc_X12_mark pc = none := by
  unfold tqc_X12_mark
  rw [show Nat.ble pc 98 = false from Bool.eq_false_iff.mpr (fun q => absurd (Nat.le_of_ble_eq_true q) (by omega))]
  rfl
theorem tqz_X12_limit (pc : Nat) (h : 53 < pc) : tqc_X12_limit pc = none := by
  unfold tqc_X12_limit
  rw [show Nat.ble pc 53 = false from Bool.eq_false_iff.mpr (fun q => absurd (Nat.le_of_ble_eq_true q) (by omega))]
  rfl
theorem tqz_X12_isOnWay (pc : Nat) (h : 18 < pc) : tqc_X12_isOnWay pc = none := by
  unfold tqc_X12_isOnWay
  rw [show Nat.ble pc 18 = false from Bool.eq_false_iff.mpr (fun q => absurd (Nat.le_of_ble_eq_true q) (by omega))]
  rfl
theorem tqz_X12_park (pc : Nat) (h : 52 < pc) : tqc_X12_park pc = none := by
  unfold tqc_X12_park
  rw [show Nat.ble pc 52 = false from Bool.eq_false_iff.mpr (fun q => absurd (Nat.le_of_ble_eq_true q) (by omega))]
  rfl
theorem tqz_X12_hitch (pc : Nat) (h : 100 < pc) : tqc_X12_hitch pc = none := by
  unfold tqc_X12_hitch
  rw [show Nat.ble pc 100 = false from Bool.eq_false_iff.mpr (fun q => absurd (Nat.le_of_ble_eq_true q) (by omega))]
  rfl
theorem tqz_X12_drop (pc : Nat) (h : 95 < pc) : tqc_X12_drop pc = none := by
  unfold tqc_X12_drop
  rw [show Nat.ble pc 95 = false from Bool.eq_false_iff.mpr (fun q => absurd (Nat.le_of_ble_eq_true q) (by omega))]
  rfl
theorem tqz_X12_go (pc : Nat) (h : 193 < pc) : tqc_X12_go pc = none := by
  unfold tqc_X12_go
  rw [show Nat.ble pc 193 = false from Bool.eq_false_iff.mpr (fun q => absurd (Nat.le_of_ble_eq_true q) (by omega))]
  rfl
theorem tqz_X12_tractorTells (pc : Nat) (h : 66 < pc) : tqc_X12_tractorTells pc = none := by
  unfold tqc_X12_tractorTells
  rw [show Nat.ble pc 66 = false from Bool.eq_false_iff.mpr (fun q => absurd (Nat.le_of_ble_eq_true q) (by omega))]
  rfl
theorem tqz_X12_tractor (pc : Nat) (h : 31 < pc) : tqc_X12_tractor pc = none := by
  unfold tqc_X12_tractor
  rw [show Nat.ble pc 31 = false from Bool.eq_false_iff.mpr (fun q => absurd (Nat.le_of_ble_eq_true q) (by omega))]
  rfl
theorem tqz_X12_lose (pc : Nat) (h : 90 < pc) : tqc_X12_lose pc = none := by
  unfold tqc_X12_lose
  rw [show Nat.ble pc 90 = false from Bool.eq_false_iff.mpr (fun q => absurd (Nat.le_of_ble_eq_true q) (by omega))]
  rfl
theorem tqz_X12_find (pc : Nat) (h : 64 < pc) : tqc_X12_find pc = none := by
  unfold tqc_X12_find
  rw [show Nat.ble pc 64 = false from Bool.eq_false_iff.mpr (fun q => absurd (Nat.le_of_ble_eq_true q) (by omega))]
  rfl
theorem tqz_X12_seal (pc : Nat) (h : 89 < pc) : tqc_X12_seal pc = none := by
  unfold tqc_X12_seal
  rw [show Nat.ble pc 89 = false from Bool.eq_false_iff.mpr (fun q => absurd (Nat.le_of_ble_eq_true q) (by omega))]
  rfl
theorem tqz_X12_book (pc : Nat) (h : 113 < pc) : tqc_X12_book pc = none := by
  unfold tqc_X12_book
  rw [show Nat.ble pc 113 = false from Bool.eq_false_iff.mpr (fun q => absurd (Nat.le_of_ble_eq_true q) (by omega))]
  rfl
theorem tqz_X12_where (pc : Nat) (h : 124 < pc) : tqc_X12_where pc = none := by
  unfold tqc_X12_where
  rw [show Nat.ble pc 124 = false from Bool.eq_false_iff.mpr (fun q => absurd (Nat.le_of_ble_eq_true q) (by omega))]
  rfl
theorem tqz_X12_isDigit (pc : Nat) (h : 8 < pc) : tqc_X12_isDigit pc = none := by
  unfold tqc_X12_isDigit
  rw [show Nat.ble pc 8 = false from Bool.eq_false_iff.mpr (fun q => absurd (Nat.le_of_ble_eq_true q) (by omega))]
  rfl
theorem tqz_X12_reads (pc : Nat) (h : 281 < pc) : tqc_X12_reads pc = none := by
  unfold tqc_X12_reads
  rw [show Nat.ble pc 281 = false from Bool.eq_false_iff.mpr (fun q => absurd (Nat.le_of_ble_eq_true q) (by omega))]
  rfl
theorem tqz_X12_fault (pc : Nat) (h : 19 < pc) : tqc_X12_fault pc = none := by
  unfold tqc_X12_fault
  rw [show Nat.ble pc 19 = false from Bool.eq_false_iff.mpr (fun q => absurd (Nat.le_of_ble_eq_true q) (by omega))]
  rfl
theorem tqz_X12_isDay (pc : Nat) (h : 7 < pc) : tqc_X12_isDay pc = none := by
  unfold tqc_X12_isDay
  rw [show Nat.ble pc 7 = false from Bool.eq_false_iff.mpr (fun q => absurd (Nat.le_of_ble_eq_true q) (by omega))]
  rfl
theorem tqz_X12_terms (pc : Nat) (h : 132 < pc) : tqc_X12_terms pc = none := by
  unfold tqc_X12_terms
  rw [show Nat.ble pc 132 = false from Bool.eq_false_iff.mpr (fun q => absurd (Nat.le_of_ble_eq_true q) (by omega))]
  rfl
theorem tqz_X12_inForce (pc : Nat) (h : 183 < pc) : tqc_X12_inForce pc = none := by
  unfold tqc_X12_inForce
  rw [show Nat.ble pc 183 = false from Bool.eq_false_iff.mpr (fun q => absurd (Nat.le_of_ble_eq_true q) (by omega))]
  rfl
theorem tqz_X12_force (pc : Nat) (h : 47 < pc) : tqc_X12_force pc = none := by
  unfold tqc_X12_force
  rw [show Nat.ble pc 47 = false from Bool.eq_false_iff.mpr (fun q => absurd (Nat.le_of_ble_eq_true q) (by omega))]
  rfl
theorem tqz_X12_detention (pc : Nat) (h : 207 < pc) : tqc_X12_detention pc = none := by
  unfold tqc_X12_detention
  rw [show Nat.ble pc 207 = false from Bool.eq_false_iff.mpr (fun q => absurd (Nat.le_of_ble_eq_true q) (by omega))]
  rfl
theorem tqz_X12_pence (pc : Nat) (h : 4 < pc) : tqc_X12_pence pc = none := by
  unfold tqc_X12_pence
  rw [show Nat.ble pc 4 = false from Bool.eq_false_iff.mpr (fun q => absurd (Nat.le_of_ble_eq_true q) (by omega))]
  rfl
theorem tqz_X12_law (pc : Nat) (h : 27 < pc) : tqc_X12_law pc = none := by
  unfold tqc_X12_law
  rw [show Nat.ble pc 27 = false from Bool.eq_false_iff.mpr (fun q => absurd (Nat.le_of_ble_eq_true q) (by omega))]
  rfl
theorem tqz_X12_load (pc : Nat) (h : 96 < pc) : tqc_X12_load pc = none := by
  unfold tqc_X12_load
  rw [show Nat.ble pc 96 = false from Bool.eq_false_iff.mpr (fun q => absurd (Nat.le_of_ble_eq_true q) (by omega))]
  rfl
theorem tqz_X12_unload (pc : Nat) (h : 25 < pc) : tqc_X12_unload pc = none := by
  unfold tqc_X12_unload
  rw [show Nat.ble pc 25 = false from Bool.eq_false_iff.mpr (fun q => absurd (Nat.le_of_ble_eq_true q) (by omega))]
  rfl
theorem tqz_X12_isAxle (pc : Nat) (h : 8 < pc) : tqc_X12_isAxle pc = none := by
  unfold tqc_X12_isAxle
  rw [show Nat.ble pc 8 = false from Bool.eq_false_iff.mpr (fun q => absurd (Nat.le_of_ble_eq_true q) (by omega))]
  rfl
theorem tqz_X12_slide (pc : Nat) (h : 32 < pc) : tqc_X12_slide pc = none := by
  unfold tqc_X12_slide
  rw [show Nat.ble pc 32 = false from Bool.eq_false_iff.mpr (fun q => absurd (Nat.le_of_ble_eq_true q) (by omega))]
  rfl
theorem tqz_X12_sumOf (pc : Nat) (h : 73 < pc) : tqc_X12_sumOf pc = none := by
  unfold tqc_X12_sumOf
  rw [show Nat.ble pc 73 = false from Bool.eq_false_iff.mpr (fun q => absurd (Nat.le_of_ble_eq_true q) (by omega))]
  rfl
theorem tqz_X12_liesOn (pc : Nat) (h : 29 < pc) : tqc_X12_liesOn pc = none := by
  unfold tqc_X12_liesOn
  rw [show Nat.ble pc 29 = false from Bool.eq_false_iff.mpr (fun q => absurd (Nat.le_of_ble_eq_true q) (by omega))]
  rfl
theorem tqz_X12_weight (pc : Nat) (h : 35 < pc) : tqc_X12_weight pc = none := by
  unfold tqc_X12_weight
  rw [show Nat.ble pc 35 = false from Bool.eq_false_iff.mpr (fun q => absurd (Nat.le_of_ble_eq_true q) (by omega))]
  rfl
theorem tqz_X12_isLawful (pc : Nat) (h : 51 < pc) : tqc_X12_isLawful pc = none := by
  unfold tqc_X12_isLawful
  rw [show Nat.ble pc 51 = false from Bool.eq_false_iff.mpr (fun q => absurd (Nat.le_of_ble_eq_true q) (by omega))]
  rfl
theorem tqz_X12_lawful (pc : Nat) (h : 31 < pc) : tqc_X12_lawful pc = none := by
  unfold tqc_X12_lawful
  rw [show Nat.ble pc 31 = false from Bool.eq_false_iff.mpr (fun q => absurd (Nat.le_of_ble_eq_true q) (by omega))]
  rfl
theorem tqz_X12_shift (pc : Nat) (h : 104 < pc) : tqc_X12_shift pc = none := by
  unfold tqc_X12_shift
  rw [show Nat.ble pc 104 = false from Bool.eq_false_iff.mpr (fun q => absurd (Nat.le_of_ble_eq_true q) (by omega))]
  rfl
theorem tqz_X12_cold (pc : Nat) (h : 244 < pc) : tqc_X12_cold pc = none := by
  unfold tqc_X12_cold
  rw [show Nat.ble pc 244 = false from Bool.eq_false_iff.mpr (fun q => absurd (Nat.le_of_ble_eq_true q) (by omega))]
  rfl
theorem tqz_X12_mean (pc : Nat) (h : 110 < pc) : tqc_X12_mean pc = none := by
  unfold tqc_X12_mean
  rw [show Nat.ble pc 110 = false from Bool.eq_false_iff.mpr (fun q => absurd (Nat.le_of_ble_eq_true q) (by omega))]
  rfl
theorem tqz_X12_findTheft (pc : Nat) (h : 130 < pc) : tqc_X12_findTheft pc = none := by
  unfold tqc_X12_findTheft
  rw [show Nat.ble pc 130 = false from Bool.eq_false_iff.mpr (fun q => absurd (Nat.le_of_ble_eq_true q) (by omega))]
  rfl
theorem tqz_X12_theft (pc : Nat) (h : 55 < pc) : tqc_X12_theft pc = none := by
  unfold tqc_X12_theft
  rw [show Nat.ble pc 55 = false from Bool.eq_false_iff.mpr (fun q => absurd (Nat.le_of_ble_eq_true q) (by omega))]
  rfl
theorem tqz_X12_bits (pc : Nat) (h : 25 < pc) : tqc_X12_bits pc = none := by
  unfold tqc_X12_bits
  rw [show Nat.ble pc 25 = false from Bool.eq_false_iff.mpr (fun q => absurd (Nat.le_of_ble_eq_true q) (by omega))]
  rfl
theorem tqz_X12_hands (pc : Nat) (h : 106 < pc) : tqc_X12_hands pc = none := by
  unfold tqc_X12_hands
  rw [show Nat.ble pc 106 = false from Bool.eq_false_iff.mpr (fun q => absurd (Nat.le_of_ble_eq_true q) (by omega))]
  rfl
theorem tqz_X12_swapsAt (pc : Nat) (h : 158 < pc) : tqc_X12_swapsAt pc = none := by
  unfold tqc_X12_swapsAt
  rw [show Nat.ble pc 158 = false from Bool.eq_false_iff.mpr (fun q => absurd (Nat.le_of_ble_eq_true q) (by omega))]
  rfl
theorem tqz_X12_maySwap (pc : Nat) (h : 22 < pc) : tqc_X12_maySwap pc = none := by
  unfold tqc_X12_maySwap
  rw [show Nat.ble pc 22 = false from Bool.eq_false_iff.mpr (fun q => absurd (Nat.le_of_ble_eq_true q) (by omega))]
  rfl
theorem tqz_X12_bestSwap (pc : Nat) (h : 94 < pc) : tqc_X12_bestSwap pc = none := by
  unfold tqc_X12_bestSwap
  rw [show Nat.ble pc 94 = false from Bool.eq_false_iff.mpr (fun q => absurd (Nat.le_of_ble_eq_true q) (by omega))]
  rfl
theorem tqz_X12_swap (pc : Nat) (h : 89 < pc) : tqc_X12_swap pc = none := by
  unfold tqc_X12_swap
  rw [show Nat.ble pc 89 = false from Bool.eq_false_iff.mpr (fun q => absurd (Nat.le_of_ble_eq_true q) (by omega))]
  rfl
theorem tqz_X12_pairEnd (pc : Nat) (h : 44 < pc) : tqc_X12_pairEnd pc = none := by
  unfold tqc_X12_pairEnd
  rw [show Nat.ble pc 44 = false from Bool.eq_false_iff.mpr (fun q => absurd (Nat.le_of_ble_eq_true q) (by omega))]
  rfl
theorem tqz_X12_pairs (pc : Nat) (h : 290 < pc) : tqc_X12_pairs pc = none := by
  unfold tqc_X12_pairs
  rw [show Nat.ble pc 290 = false from Bool.eq_false_iff.mpr (fun q => absurd (Nat.le_of_ble_eq_true q) (by omega))]
  rfl
theorem tqz_X12_partWays (pc : Nat) (h : 195 < pc) : tqc_X12_partWays pc = none := by
  unfold tqc_X12_partWays
  rw [show Nat.ble pc 195 = false from Bool.eq_false_iff.mpr (fun q => absurd (Nat.le_of_ble_eq_true q) (by omega))]
  rfl
theorem tqz_X12_partner (pc : Nat) (h : 17 < pc) : tqc_X12_partner pc = none := by
  unfold tqc_X12_partner
  rw [show Nat.ble pc 17 = false from Bool.eq_false_iff.mpr (fun q => absurd (Nat.le_of_ble_eq_true q) (by omega))]
  rfl
theorem tqz_X12_late (pc : Nat) (h : 199 < pc) : tqc_X12_late pc = none := by
  unfold tqc_X12_late
  rw [show Nat.ble pc 199 = false from Bool.eq_false_iff.mpr (fun q => absurd (Nat.le_of_ble_eq_true q) (by omega))]
  rfl
theorem tqz_X12_yardsOf (pc : Nat) (h : 100 < pc) : tqc_X12_yardsOf pc = none := by
  unfold tqc_X12_yardsOf
  rw [show Nat.ble pc 100 = false from Bool.eq_false_iff.mpr (fun q => absurd (Nat.le_of_ble_eq_true q) (by omega))]
  rfl
theorem tqz_X12_canBe (pc : Nat) (h : 31 < pc) : tqc_X12_canBe pc = none := by
  unfold tqc_X12_canBe
  rw [show Nat.ble pc 31 = false from Bool.eq_false_iff.mpr (fun q => absurd (Nat.le_of_ble_eq_true q) (by omega))]
  rfl
theorem tqz_X12_nextOrder (pc : Nat) (h : 149 < pc) : tqc_X12_nextOrder pc = none := by
  unfold tqc_X12_nextOrder
  rw [show Nat.ble pc 149 = false from Bool.eq_false_iff.mpr (fun q => absurd (Nat.le_of_ble_eq_true q) (by omega))]
  rfl
theorem tqz_X12_look (pc : Nat) (h : 438 < pc) : tqc_X12_look pc = none := by
  unfold tqc_X12_look
  rw [show Nat.ble pc 438 = false from Bool.eq_false_iff.mpr (fun q => absurd (Nat.le_of_ble_eq_true q) (by omega))]
  rfl
theorem tqz_X12_looked (pc : Nat) (h : 25 < pc) : tqc_X12_looked pc = none := by
  unfold tqc_X12_looked
  rw [show Nat.ble pc 25 = false from Bool.eq_false_iff.mpr (fun q => absurd (Nat.le_of_ble_eq_true q) (by omega))]
  rfl
theorem tqz_X12_nextBrought (pc : Nat) (h : 320 < pc) : tqc_X12_nextBrought pc = none := by
  unfold tqc_X12_nextBrought
  rw [show Nat.ble pc 320 = false from Bool.eq_false_iff.mpr (fun q => absurd (Nat.le_of_ble_eq_true q) (by omega))]
  rfl
theorem tqz_X12_pool (pc : Nat) (h : 420 < pc) : tqc_X12_pool pc = none := by
  unfold tqc_X12_pool
  rw [show Nat.ble pc 420 = false from Bool.eq_false_iff.mpr (fun q => absurd (Nat.le_of_ble_eq_true q) (by omega))]
  rfl
theorem tqz_X12_costOf (pc : Nat) (h : 54 < pc) : tqc_X12_costOf pc = none := by
  unfold tqc_X12_costOf
  rw [show Nat.ble pc 54 = false from Bool.eq_false_iff.mpr (fun q => absurd (Nat.le_of_ble_eq_true q) (by omega))]
  rfl
theorem tqz_X12_rent (pc : Nat) (h : 411 < pc) : tqc_X12_rent pc = none := by
  unfold tqc_X12_rent
  rw [show Nat.ble pc 411 = false from Bool.eq_false_iff.mpr (fun q => absurd (Nat.le_of_ble_eq_true q) (by omega))]
  rfl
theorem tqz_X12_rented (pc : Nat) (h : 25 < pc) : tqc_X12_rented pc = none := by
  unfold tqc_X12_rented
  rw [show Nat.ble pc 25 = false from Bool.eq_false_iff.mpr (fun q => absurd (Nat.le_of_ble_eq_true q) (by omega))]
  rfl
theorem tqz_X12_asked (pc : Nat) (h : 4 < pc) : tqc_X12_asked pc = none := by
  unfold tqc_X12_asked
  rw [show Nat.ble pc 4 = false from Bool.eq_false_iff.mpr (fun q => absurd (Nat.le_of_ble_eq_true q) (by omega))]
  rfl
theorem tqz_X12_upper (pc : Nat) (h : 4 < pc) : tqc_X12_upper pc = none := by
  unfold tqc_X12_upper
  rw [show Nat.ble pc 4 = false from Bool.eq_false_iff.mpr (fun q => absurd (Nat.le_of_ble_eq_true q) (by omega))]
  rfl
theorem tqz_X12_lower (pc : Nat) (h : 4 < pc) : tqc_X12_lower pc = none := by
  unfold tqc_X12_lower
  rw [show Nat.ble pc 4 = false from Bool.eq_false_iff.mpr (fun q => absurd (Nat.le_of_ble_eq_true q) (by omega))]
  rfl
theorem tqz_X12_counts (pc : Nat) (h : 207 < pc) : tqc_X12_counts pc = none := by
  unfold tqc_X12_counts
  rw [show Nat.ble pc 207 = false from Bool.eq_false_iff.mpr (fun q => absurd (Nat.le_of_ble_eq_true q) (by omega))]
  rfl
theorem tqz_X12_count (pc : Nat) (h : 19 < pc) : tqc_X12_count pc = none := by
  unfold tqc_X12_count
  rw [show Nat.ble pc 19 = false from Bool.eq_false_iff.mpr (fun q => absurd (Nat.le_of_ble_eq_true q) (by omega))]
  rfl
theorem tqz_X12_finding (pc : Nat) (h : 4 < pc) : tqc_X12_finding pc = none := by
  unfold tqc_X12_finding
  rw [show Nat.ble pc 4 = false from Bool.eq_false_iff.mpr (fun q => absurd (Nat.le_of_ble_eq_true q) (by omega))]
  rfl
theorem tqz_X12_findings (pc : Nat) (h : 19 < pc) : tqc_X12_findings pc = none := by
  unfold tqc_X12_findings
  rw [show Nat.ble pc 19 = false from Bool.eq_false_iff.mpr (fun q => absurd (Nat.le_of_ble_eq_true q) (by omega))]
  rfl
theorem tqz_X12_mix (pc : Nat) (h : 15 < pc) : tqc_X12_mix pc = none := by
  unfold tqc_X12_mix
  rw [show Nat.ble pc 15 = false from Bool.eq_false_iff.mpr (fun q => absurd (Nat.le_of_ble_eq_true q) (by omega))]
  rfl
theorem tqz_X12_digest (pc : Nat) (h : 423 < pc) : tqc_X12_digest pc = none := by
  unfold tqc_X12_digest
  rw [show Nat.ble pc 423 = false from Bool.eq_false_iff.mpr (fun q => absurd (Nat.le_of_ble_eq_true q) (by omega))]
  rfl
theorem tqz_J6_bitCount_0f7a4 (pc : Nat) (h : 52 < pc) : tqc_J6_bitCount_0f7a4 pc = none := by
  unfold tqc_J6_bitCount_0f7a4
  rw [show Nat.ble pc 52 = false from Bool.eq_false_iff.mpr (fun q => absurd (Nat.le_of_ble_eq_true q) (by omega))]
  rfl
theorem tqz_J7_fill_53178 (pc : Nat) (h : 20 < pc) : tqc_J7_fill_53178 pc = none := by
  unfold tqc_J7_fill_53178
  rw [show Nat.ble pc 20 = false from Bool.eq_false_iff.mpr (fun q => absurd (Nat.le_of_ble_eq_true q) (by omega))]
  rfl
theorem tqz_L_law (pc : Nat) (h : 2183 < pc) : tqc_L_law pc = none := by
  unfold tqc_L_law
  rw [show Nat.ble pc 2183 = false from Bool.eq_false_iff.mpr (fun q => absurd (Nat.le_of_ble_eq_true q) (by omega))]
  rfl
def tqzP (k : Nat) : Prop := ∀ pc, tqMx.getD k 0 < pc → (tqP k).1 pc = none
theorem tqzz_0 : ∀ i, i < 20 → tqzP (i + 0) := fun i hi => by
  match i, hi with
  | 0, _ => exact tqz_X0_init
  | 1, _ => exact tqz_X0_tellFraction
  | 2, _ => exact tqz_X0_commonDivisor
  | 3, _ => exact tqz_X1_init
  | 4, _ => exact tqz_X1_isFull
  | 5, _ => exact tqz_X1_enter
  | 6, _ => exact tqz_X1_isOf
  | 7, _ => exact tqz_X1_entryOf
  | 8, _ => exact tqz_X1_says
  | 9, _ => exact tqz_X1_placeAt
  | 10, _ => exact tqz_X1_stoodTill
  | 11, _ => exact tqz_X1_foundBroken
  | 12, _ => exact tqz_X1_seenWholeAhead
  | 13, _ => exact tqz_X1_holdersBetween
  | 14, _ => exact tqz_X1_latestYard
  | 15, _ => exact tqz_X1_latestHeld
  | 16, _ => exact tqz_X1_mixInto
  | 17, _ => exact tqz_X2_init
  | 18, _ => exact tqz_X2_isMissing
  | 19, _ => exact tqz_X2_has
  | _ + 20, hi => exact absurd hi (by omega)
theorem tqzz_20 : ∀ i, i < 20 → tqzP (i + 20) := fun i hi => by
  match i, hi with
  | 0, _ => exact tqz_X2_hasSpan
  | 1, _ => exact tqz_X2_allWithin
  | 2, _ => exact tqz_X2_placesAboveNought
  | 3, _ => exact tqz_X2_warmOnes
  | 4, _ => exact tqz_X2_longestWarm
  | 5, _ => exact tqz_X3_init
  | 6, _ => exact tqz_X3_share
  | 7, _ => exact tqz_X3_measure
  | 8, _ => exact tqz_X3_findPaths
  | 9, _ => exact tqz_X3_shorten
  | 10, _ => exact tqz_X3_nearestLacking
  | 11, _ => exact tqz_X3_bring
  | 12, _ => exact tqz_X3_lack
  | 13, _ => exact tqz_X4_init
  | 14, _ => exact tqz_X4_setPrices
  | 15, _ => exact tqz_X4_planDays
  | 16, _ => exact tqz_X4_firstBest
  | 17, _ => exact tqz_X4_costFrom
  | 18, _ => exact tqz_X5_init
  | 19, _ => exact tqz_X5_order
  | _ + 20, hi => exact absurd hi (by omega)
theorem tqzz_40 : ∀ i, i < 20 → tqzP (i + 40) := fun i hi => by
  match i, hi with
  | 0, _ => exact tqz_X5_goOn
  | 1, _ => exact tqz_X5_straight
  | 2, _ => exact tqz_X6_init
  | 3, _ => exact tqz_X6_meet
  | 4, _ => exact tqz_X6_pairUp
  | 5, _ => exact tqz_X6_partOut
  | 6, _ => exact tqz_X6_leastOf
  | 7, _ => exact tqz_X7_init
  | 8, _ => exact tqz_X7_isFull
  | 9, _ => exact tqz_X7_read
  | 10, _ => exact tqz_X7_addDigit
  | 11, _ => exact tqz_X7_thingOf
  | 12, _ => exact tqz_X7_keep
  | 13, _ => exact tqz_X7_inForce
  | 14, _ => exact tqz_X7_atFirst
  | 15, _ => exact tqz_X7_mixInto
  | 16, _ => exact tqz_X8_init
  | 17, _ => exact tqz_X8_isOnTheWay
  | 18, _ => exact tqz_X8_says
  | 19, _ => exact tqz_X9_init
  | _ + 20, hi => exact absurd hi (by omega)
theorem tqzz_60 : ∀ i, i < 20 → tqzP (i + 60) := fun i hi => by
  match i, hi with
  | 0, _ => exact tqz_X9_isOf
  | 1, _ => exact tqz_X9_says
  | 2, _ => exact tqz_X9_isLawfulAt
  | 3, _ => exact tqz_X10_init
  | 4, _ => exact tqz_X10_joins
  | 5, _ => exact tqz_X10_join
  | 6, _ => exact tqz_X10_makeFerry
  | 7, _ => exact tqz_X10_arrival
  | 8, _ => exact tqz_X10_leastToll
  | 9, _ => exact tqz_X10_inReach
  | 10, _ => exact tqz_X10_reach
  | 11, _ => exact tqz_X10_nearest
  | 12, _ => exact tqz_X10_next
  | 13, _ => exact tqz_X10_mixInto
  | 14, _ => exact tqz_X11_init
  | 15, _ => exact tqz_X11_row
  | 16, _ => exact tqz_X11_lay
  | 17, _ => exact tqz_X11_tear
  | 18, _ => exact tqz_X11_copy
  | 19, _ => exact tqz_X11_text
  | _ + 20, hi => exact absurd hi (by omega)
theorem tqzz_80 : ∀ i, i < 20 → tqzP (i + 80) := fun i hi => by
  match i, hi with
  | 0, _ => exact tqz_X11_put
  | 1, _ => exact tqz_X11_fault
  | 2, _ => exact tqz_X11_later
  | 3, _ => exact tqz_X11_way
  | 4, _ => exact tqz_X11_ferry
  | 5, _ => exact tqz_X11_comes
  | 6, _ => exact tqz_X11_toll
  | 7, _ => exact tqz_X11_trailer
  | 8, _ => exact tqz_X11_told
  | 9, _ => exact tqz_X11_mark
  | 10, _ => exact tqz_X11_limit
  | 11, _ => exact tqz_X11_park
  | 12, _ => exact tqz_X11_hitch
  | 13, _ => exact tqz_X11_drop
  | 14, _ => exact tqz_X11_go
  | 15, _ => exact tqz_X11_tractor
  | 16, _ => exact tqz_X11_lose
  | 17, _ => exact tqz_X11_find
  | 18, _ => exact tqz_X11_seal
  | 19, _ => exact tqz_X11_book
  | _ + 20, hi => exact absurd hi (by omega)
theorem tqzz_100 : ∀ i, i < 20 → tqzP (i + 100) := fun i hi => by
  match i, hi with
  | 0, _ => exact tqz_X11_where
  | 1, _ => exact tqz_X11_terms
  | 2, _ => exact tqz_X11_force
  | 3, _ => exact tqz_X11_detention
  | 4, _ => exact tqz_X11_pence
  | 5, _ => exact tqz_X11_law
  | 6, _ => exact tqz_X11_load
  | 7, _ => exact tqz_X11_unload
  | 8, _ => exact tqz_X11_slide
  | 9, _ => exact tqz_X11_weight
  | 10, _ => exact tqz_X11_lawful
  | 11, _ => exact tqz_X11_shift
  | 12, _ => exact tqz_X11_cold
  | 13, _ => exact tqz_X11_mean
  | 14, _ => exact tqz_X11_theft
  | 15, _ => exact tqz_X11_hands
  | 16, _ => exact tqz_X11_swap
  | 17, _ => exact tqz_X11_pairs
  | 18, _ => exact tqz_X11_partner
  | 19, _ => exact tqz_X11_late
  | _ + 20, hi => exact absurd hi (by omega)
theorem tqzz_120 : ∀ i, i < 20 → tqzP (i + 120) := fun i hi => by
  match i, hi with
  | 0, _ => exact tqz_X11_canBe
  | 1, _ => exact tqz_X11_look
  | 2, _ => exact tqz_X11_looked
  | 3, _ => exact tqz_X11_pool
  | 4, _ => exact tqz_X11_rent
  | 5, _ => exact tqz_X11_rented
  | 6, _ => exact tqz_X11_asked
  | 7, _ => exact tqz_X11_upper
  | 8, _ => exact tqz_X11_lower
  | 9, _ => exact tqz_X11_count
  | 10, _ => exact tqz_X11_finding
  | 11, _ => exact tqz_X11_findings
  | 12, _ => exact tqz_X11_digest
  | 13, _ => exact tqz_X11_isWithin
  | 14, _ => exact tqz_X11_isYard
  | 15, _ => exact tqz_X11_hasBit
  | 16, _ => exact tqz_X11_dayOf
  | 17, _ => exact tqz_X11_mix
  | 18, _ => exact tqz_X11_mixLines
  | 19, _ => exact tqz_X11_linesThere
  | _ + 20, hi => exact absurd hi (by omega)
theorem tqzz_140 : ∀ i, i < 20 → tqzP (i + 140) := fun i hi => by
  match i, hi with
  | 0, _ => exact tqz_X11_lineAt
  | 1, _ => exact tqz_X11_trailerAt
  | 2, _ => exact tqz_X11_tractorAt
  | 3, _ => exact tqz_X11_worthOf
  | 4, _ => exact tqz_X11_lostOnes
  | 5, _ => exact tqz_X11_canSwap
  | 6, _ => exact tqz_X11_yardsInReach
  | 7, _ => exact tqz_X11_makeLine
  | 8, _ => exact tqz_X11_tells
  | 9, _ => exact tqz_X11_refuse
  | 10, _ => exact tqz_X11_orNothing
  | 11, _ => exact tqz_X12_init
  | 12, _ => exact tqz_X12_in
  | 13, _ => exact tqz_X12_meets
  | 14, _ => exact tqz_X12_ask
  | 15, _ => exact tqz_X12_share
  | 16, _ => exact tqz_X12_day
  | 17, _ => exact tqz_X12_isRow
  | 18, _ => exact tqz_X12_askedRow
  | 19, _ => exact tqz_X12_row
  | _ + 20, hi => exact absurd hi (by omega)
theorem tqzz_160 : ∀ i, i < 20 → tqzP (i + 160) := fun i hi => by
  match i, hi with
  | 0, _ => exact tqz_X12_lay
  | 1, _ => exact tqz_X12_tear
  | 2, _ => exact tqz_X12_copy
  | 3, _ => exact tqz_X12_isText
  | 4, _ => exact tqz_X12_askedText
  | 5, _ => exact tqz_X12_text
  | 6, _ => exact tqz_X12_put
  | 7, _ => exact tqz_X12_later
  | 8, _ => exact tqz_X12_isYard
  | 9, _ => exact tqz_X12_setWay
  | 10, _ => exact tqz_X12_way
  | 11, _ => exact tqz_X12_ferry
  | 12, _ => exact tqz_X12_beyond
  | 13, _ => exact tqz_X12_comesTo
  | 14, _ => exact tqz_X12_comes
  | 15, _ => exact tqz_X12_toll
  | 16, _ => exact tqz_X12_enter
  | 17, _ => exact tqz_X12_isTrailer
  | 18, _ => exact tqz_X12_isTractor
  | 19, _ => exact tqz_X12_isWorth
  | _ + 20, hi => exact absurd hi (by omega)
theorem tqzz_180 : ∀ i, i < 20 → tqzP (i + 180) := fun i hi => by
  match i, hi with
  | 0, _ => exact tqz_X12_trailer
  | 1, _ => exact tqz_X12_trailerTells
  | 2, _ => exact tqz_X12_told
  | 3, _ => exact tqz_X12_isCold
  | 4, _ => exact tqz_X12_entryFrom
  | 5, _ => exact tqz_X12_mark
  | 6, _ => exact tqz_X12_limit
  | 7, _ => exact tqz_X12_isOnWay
  | 8, _ => exact tqz_X12_park
  | 9, _ => exact tqz_X12_hitch
  | 10, _ => exact tqz_X12_drop
  | 11, _ => exact tqz_X12_go
  | 12, _ => exact tqz_X12_tractorTells
  | 13, _ => exact tqz_X12_tractor
  | 14, _ => exact tqz_X12_lose
  | 15, _ => exact tqz_X12_find
  | 16, _ => exact tqz_X12_seal
  | 17, _ => exact tqz_X12_book
  | 18, _ => exact tqz_X12_where
  | 19, _ => exact tqz_X12_isDigit
  | _ + 20, hi => exact absurd hi (by omega)
theorem tqzz_200 : ∀ i, i < 20 → tqzP (i + 200) := fun i hi => by
  match i, hi with
  | 0, _ => exact tqz_X12_reads
  | 1, _ => exact tqz_X12_fault
  | 2, _ => exact tqz_X12_isDay
  | 3, _ => exact tqz_X12_terms
  | 4, _ => exact tqz_X12_inForce
  | 5, _ => exact tqz_X12_force
  | 6, _ => exact tqz_X12_detention
  | 7, _ => exact tqz_X12_pence
  | 8, _ => exact tqz_X12_law
  | 9, _ => exact tqz_X12_load
  | 10, _ => exact tqz_X12_unload
  | 11, _ => exact tqz_X12_isAxle
  | 12, _ => exact tqz_X12_slide
  | 13, _ => exact tqz_X12_sumOf
  | 14, _ => exact tqz_X12_liesOn
  | 15, _ => exact tqz_X12_weight
  | 16, _ => exact tqz_X12_isLawful
  | 17, _ => exact tqz_X12_lawful
  | 18, _ => exact tqz_X12_shift
  | 19, _ => exact tqz_X12_cold
  | _ + 20, hi => exact absurd hi (by omega)
theorem tqzz_220 : ∀ i, i < 20 → tqzP (i + 220) := fun i hi => by
  match i, hi with
  | 0, _ => exact tqz_X12_mean
  | 1, _ => exact tqz_X12_findTheft
  | 2, _ => exact tqz_X12_theft
  | 3, _ => exact tqz_X12_bits
  | 4, _ => exact tqz_X12_hands
  | 5, _ => exact tqz_X12_swapsAt
  | 6, _ => exact tqz_X12_maySwap
  | 7, _ => exact tqz_X12_bestSwap
  | 8, _ => exact tqz_X12_swap
  | 9, _ => exact tqz_X12_pairEnd
  | 10, _ => exact tqz_X12_pairs
  | 11, _ => exact tqz_X12_partWays
  | 12, _ => exact tqz_X12_partner
  | 13, _ => exact tqz_X12_late
  | 14, _ => exact tqz_X12_yardsOf
  | 15, _ => exact tqz_X12_canBe
  | 16, _ => exact tqz_X12_nextOrder
  | 17, _ => exact tqz_X12_look
  | 18, _ => exact tqz_X12_looked
  | 19, _ => exact tqz_X12_nextBrought
  | _ + 20, hi => exact absurd hi (by omega)
theorem tqzz_240 : ∀ i, i < 16 → tqzP (i + 240) := fun i hi => by
  match i, hi with
  | 0, _ => exact tqz_X12_pool
  | 1, _ => exact tqz_X12_costOf
  | 2, _ => exact tqz_X12_rent
  | 3, _ => exact tqz_X12_rented
  | 4, _ => exact tqz_X12_asked
  | 5, _ => exact tqz_X12_upper
  | 6, _ => exact tqz_X12_lower
  | 7, _ => exact tqz_X12_counts
  | 8, _ => exact tqz_X12_count
  | 9, _ => exact tqz_X12_finding
  | 10, _ => exact tqz_X12_findings
  | 11, _ => exact tqz_X12_mix
  | 12, _ => exact tqz_X12_digest
  | 13, _ => exact tqz_J6_bitCount_0f7a4
  | 14, _ => exact tqz_J7_fill_53178
  | 15, _ => exact tqz_L_law
  | _ + 16, hi => exact absurd hi (by omega)
theorem tqzz (k : Nat) (hk : k < 256) : tqzP k := by
  by_cases h120 : k < 120
  · skip
    by_cases h60 : k < 60
    · skip
      by_cases h20 : k < 20
      · skip
        have e : k = (k - 0) + 0 := by omega
        rw [e]
        exact tqzz_0 (k - 0) (by omega)
      · skip
        by_cases h40 : k < 40
        · skip
          have e : k = (k - 20) + 20 := by omega
          rw [e]
          exact tqzz_20 (k - 20) (by omega)
        · skip
          have e : k = (k - 40) + 40 := by omega
          rw [e]
          exact tqzz_40 (k - 40) (by omega)
    · skip
      by_cases h80 : k < 80
      · skip
        have e : k = (k - 60) + 60 := by omega
        rw [e]
        exact tqzz_60 (k - 60) (by omega)
      · skip
        by_cases h100 : k < 100
        · skip
          have e : k = (k - 80) + 80 := by omega
          rw [e]
          exact tqzz_80 (k - 80) (by omega)
        · skip
          have e : k = (k - 100) + 100 := by omega
          rw [e]
          exact tqzz_100 (k - 100) (by omega)
  · skip
    by_cases h180 : k < 180
    · skip
      by_cases h140 : k < 140
      · skip
        have e : k = (k - 120) + 120 := by omega
        rw [e]
        exact tqzz_120 (k - 120) (by omega)
      · skip
        by_cases h160 : k < 160
        · skip
          have e : k = (k - 140) + 140 := by omega
          rw [e]
          exact tqzz_140 (k - 140) (by omega)
        · skip
          have e : k = (k - 160) + 160 := by omega
          rw [e]
          exact tqzz_160 (k - 160) (by omega)
    · skip
      by_cases h220 : k < 220
      · skip
        by_cases h200 : k < 200
        · skip
          have e : k = (k - 180) + 180 := by omega
          rw [e]
          exact tqzz_180 (k - 180) (by omega)
        · skip
          have e : k = (k - 200) + 200 := by omega
          rw [e]
          exact tqzz_200 (k - 200) (by omega)
      · skip
        by_cases h240 : k < 240
        · skip
          have e : k = (k - 220) + 220 := by omega
          rw [e]
          exact tqzz_220 (k - 220) (by omega)
        · skip
          have e : k = (k - 240) + 240 := by omega
          rw [e]
          exact tqzz_240 (k - 240) (by omega)

