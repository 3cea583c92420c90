/-! ===== Math's own ===== -/
theorem o32_min {x y : Int} (hx : in32 x) (hy : in32 y) : (if Int32.ofInt y < Int32.ofInt x then Int32.ofInt y else Int32.ofInt x) = Int32.ofInt (jmin x y) := by
  unfold jmin
  by_cases h : y < x
  · rw [if_pos h, if_pos ((o32_lt hy hx).mpr h)]
  · rw [if_neg h, if_neg (fun q => h ((o32_lt hy hx).mp q))]
theorem o32_max {x y : Int} (hx : in32 x) (hy : in32 y) : (if Int32.ofInt x < Int32.ofInt y then Int32.ofInt y else Int32.ofInt x) = Int32.ofInt (jmax x y) := by
  unfold jmax
  by_cases h : x < y
  · rw [if_pos h, if_pos ((o32_lt hx hy).mpr h)]
  · rw [if_neg h, if_neg (fun q => h ((o32_lt hx hy).mp q))]
theorem o64_min {x y : Int} (hx : in64 x) (hy : in64 y) : (if Int64.ofInt y < Int64.ofInt x then Int64.ofInt y else Int64.ofInt x) = Int64.ofInt (jmin x y) := by
  unfold jmin
  by_cases h : y < x
  · rw [if_pos h, if_pos ((o64_lt hy hx).mpr h)]
  · rw [if_neg h, if_neg (fun q => h ((o64_lt hy hx).mp q))]
theorem o64_abs {x : Int} (hx : in64 x) : (if 0 < Int64.ofInt x then Int64.ofInt x else -Int64.ofInt x) = Int64.ofInt (jabs x) := by
  unfold jabs
  have e : (0 < Int64.ofInt x) ↔ 0 < x := o64_lt in64_0 hx
  by_cases h : 0 < x
  · rw [if_pos h, if_pos (e.mpr h)]
  · rw [if_neg h, if_neg (fun q => h (e.mp q)), o64_neg hx]
theorem jmin_in {P : Int → Prop} {x y : Int} (hx : P x) (hy : P y) : P (jmin x y) := by unfold jmin; split <;> assumption
theorem jmax_in {P : Int → Prop} {x y : Int} (hx : P x) (hy : P y) : P (jmax x y) := by unfold jmax; split <;> assumption
theorem jabs_in {x : Int} (hx : in64 x) : in64 (jabs x) := by unfold jabs; split; exact hx; exact in64_w _
section TQMA
variable {p : Program} {l : Launch} {e : Env} {R : Room} {s : State} {mid : MethodId} {args : Array Value} {below : List Frame} {meth : Method} {c : Code} {Q : State → Prop} {g : tqG} {cc : ByteArray} {nL c0 s0 pc : Nat} {lsA st : List tqV} {m : tqM}
theorem s_mmax {x y : Int} {idx : Nat} {own : String} (hml : c.maxLocals = nL) (hown : s.vm.findClass own = some mid.cls) (hl1 : (Cond.methodLink own idx Lib.Math.max.name).before args s = true) (hl2 : (Cond.static Lib.Math.max.name).before args s = true) (hl3 : (Cond.initialized "java/lang/Math").before args s = true) (hl4 : (Cond.code Lib.Math.max.name Lib.Math.max.code 2 (some .int)).before args s = true) (hfr : 1 ≤ R.frames) (hlo : 60 ≤ R.locals) (hst8 : tqcs st ≤ 8) (hc : m.2.2.2.1 - c0 ≤ R.cells) (hs : m.2.2.2.2 - s0 ≤ R.slots)
    (hx : p.tables.exec = Jvm.exec) (hb : c.code = cc) (hd : decode cc pc = .ok (.invokestatic idx, 3)) (h : tqW1 p l e R s mid args below meth c Q g nL c0 s0 (pc + 3) lsA (vI (jmax x y) :: st) m) : tqW1 p l e R s mid args below meth c Q g nL c0 s0 pc lsA (vI y :: vI x :: st) m := by
  intro H locs ls hH hS hl hst h0 h1
  have hy : in32 y := tqhdo hst
  have hx32 : in32 x := tqhdo (tqtl hst)
  refine va_mmax (rest := st.map (tqrz g)) (x := Int32.ofInt x) (y := Int32.ofInt y) hx hb (by rw [hml]; exact hl.1.1.symm) hown hl1 hl2 hl3 hl4 hfr (by rw [tqcs_rz]; omega) hc hs hd ?_
  rw [o32_max hx32 hy]
  exact h H locs ls hH hS hl (tqall1 (jmax_in (P := in32) hx32 hy) (tqtl (tqtl hst))) h0 h1
theorem s_mmin {x y : Int} {idx : Nat} {own : String} (hml : c.maxLocals = nL) (hown : s.vm.findClass own = some mid.cls) (hl1 : (Cond.methodLink own idx Lib.Math.min.name).before args s = true) (hl2 : (Cond.static Lib.Math.min.name).before args s = true) (hl3 : (Cond.initialized "java/lang/Math").before args s = true) (hl4 : (Cond.code Lib.Math.min.name Lib.Math.min.code 2 (some .int)).before args s = true) (hfr : 1 ≤ R.frames) (hlo : 60 ≤ R.locals) (hst8 : tqcs st ≤ 8) (hc : m.2.2.2.1 - c0 ≤ R.cells) (hs : m.2.2.2.2 - s0 ≤ R.slots)
    (hx : p.tables.exec = Jvm.exec) (hb : c.code = cc) (hd : decode cc pc = .ok (.invokestatic idx, 3)) (h : tqW1 p l e R s mid args below meth c Q g nL c0 s0 (pc + 3) lsA (vI (jmin x y) :: st) m) : tqW1 p l e R s mid args below meth c Q g nL c0 s0 pc lsA (vI y :: vI x :: st) m := by
  intro H locs ls hH hS hl hst h0 h1
  have hy : in32 y := tqhdo hst
  have hx32 : in32 x := tqhdo (tqtl hst)
  refine va_mmin (rest := st.map (tqrz g)) (x := Int32.ofInt x) (y := Int32.ofInt y) hx hb (by rw [hml]; exact hl.1.1.symm) hown hl1 hl2 hl3 hl4 hfr (by rw [tqcs_rz]; omega) hc hs hd ?_
  rw [o32_min hx32 hy]
  exact h H locs ls hH hS hl (tqall1 (jmin_in (P := in32) hx32 hy) (tqtl (tqtl hst))) h0 h1
theorem s_mminl {x y : Int} {idx : Nat} {own : String} (hml : c.maxLocals = nL) (hown : s.vm.findClass own = some mid.cls) (hl1 : (Cond.methodLink own idx Lib.MathLoose.min_long.x).before args s = true) (hl2 : (Cond.static Lib.MathLoose.min_long.x).before args s = true) (hl3 : (Cond.initialized "java/lang/Math").before args s = true) (hl4 : (Cond.code Lib.MathLoose.min_long.x Lib.MathLoose.min_long.code 4 (some .long)).before args s = true) (hfr : 1 ≤ R.frames) (hlo : 60 ≤ R.locals) (hst8 : tqcs st ≤ 8) (hc : m.2.2.2.1 - c0 ≤ R.cells) (hs : m.2.2.2.2 - s0 ≤ R.slots)
    (hx : p.tables.exec = Jvm.exec) (hb : c.code = cc) (hd : decode cc pc = .ok (.invokestatic idx, 3)) (h : tqW1 p l e R s mid args below meth c Q g nL c0 s0 (pc + 3) lsA (vL (jmin x y) :: st) m) : tqW1 p l e R s mid args below meth c Q g nL c0 s0 pc lsA (vL y :: vL x :: st) m := by
  intro H locs ls hH hS hl hst h0 h1
  have hy : in64 y := tqhdo hst
  have hx64 : in64 x := tqhdo (tqtl hst)
  refine va_mmin_long (rest := st.map (tqrz g)) (x := Int64.ofInt x) (y := Int64.ofInt y) hx hb (by rw [hml]; exact hl.1.1.symm) hown hl1 hl2 hl3 hl4 hfr (by rw [tqcs_rz]; omega) hc hs hd ?_
  rw [o64_min hx64 hy]
  exact h H locs ls hH hS hl (tqall1 (jmin_in (P := in64) hx64 hy) (tqtl (tqtl hst))) h0 h1
theorem s_mabs {x : Int} {idx : Nat} {own : String} (hml : c.maxLocals = nL) (hown : s.vm.findClass own = some mid.cls) (hl1 : (Cond.methodLink own idx Lib.MathLoose.abs_long.x).before args s = true) (hl2 : (Cond.static Lib.MathLoose.abs_long.x).before args s = true) (hl3 : (Cond.initialized "java/lang/Math").before args s = true) (hl4 : (Cond.code Lib.MathLoose.abs_long.x Lib.MathLoose.abs_long.code 2 (some .long)).before args s = true) (hfr : 1 ≤ R.frames) (hlo : 60 ≤ R.locals) (hst8 : tqcs st ≤ 8) (hc : m.2.2.2.1 - c0 ≤ R.cells) (hs : m.2.2.2.2 - s0 ≤ R.slots)
    (hx : p.tables.exec = Jvm.exec) (hb : c.code = cc) (hd : decode cc pc = .ok (.invokestatic idx, 3)) (h : tqW1 p l e R s mid args below meth c Q g nL c0 s0 (pc + 3) lsA (vL (jabs x) :: st) m) : tqW1 p l e R s mid args below meth c Q g nL c0 s0 pc lsA (vL x :: st) m := by
  intro H locs ls hH hS hl hst h0 h1
  have hx64 : in64 x := tqhdo hst
  refine va_mabs_long (rest := st.map (tqrz g)) (x := Int64.ofInt x) hx hb (by rw [hml]; exact hl.1.1.symm) hown hl1 hl2 hl3 hl4 hfr (by rw [tqcs_rz]; omega) hc hs hd ?_
  rw [o64_abs hx64]
  exact h H locs ls hH hS hl (tqall1 (jabs_in hx64) (tqtl hst)) h0 h1
theorem s_fm {x y : Int} {idx : Nat} {own : String} (hy0 : 0 < y) (hml : c.maxLocals = nL) (hown : s.vm.findClass own = some mid.cls) (hl1 : (Cond.methodLink own idx tqfmn).before args s = true) (hl2 : (Cond.static tqfmn).before args s = true) (hl3 : (Cond.initialized "java/lang/Math").before args s = true) (hl4 : (Cond.code tqfmn prog_16_method_50_code 3 (some .int)).before args s = true) (hfr : 1 ≤ R.frames) (hlo : 60 ≤ R.locals) (hst8 : tqcs st ≤ 8) (hc : m.2.2.2.1 - c0 ≤ R.cells) (hs : m.2.2.2.2 - s0 ≤ R.slots)
    (hx : p.tables.exec = Jvm.exec) (hb : c.code = cc) (hd : decode cc pc = .ok (.invokestatic idx, 3)) (h : tqW1 p l e R s mid args below meth c Q g nL c0 s0 (pc + 3) lsA (vI (x % y) :: st) m) : tqW1 p l e R s mid args below meth c Q g nL c0 s0 pc lsA (vI y :: vI x :: st) m := sorry
end TQMA
