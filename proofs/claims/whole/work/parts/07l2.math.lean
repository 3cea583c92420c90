/-! ===== Math's own ===== -/
theorem o32_min {x y : Int} (hx : in32 x) (hy : in32 y) : (if Int32.ofInt y < Int32.ofInt x then Int32.ofInt y else Int32.ofInt x) = Int32.ofInt (jmin x y) := by
  unfold jmin
  by_cases h : y < x
  · rw [if_pos h, if_pos ((o32_lt hy hx).mpr h)]
  · rw [if_neg h, if_neg (fun q => h ((o32_lt hy hx).mp q))]
theorem o32_max {x y : Int} (hx : in32 x) (hy : in32 y) : (if Int32.ofInt x < Int32.ofInt y then Int32.ofInt y else Int32.ofInt x) = Int32.ofInt (jmax x y) := by
  unfold jmax
  by_cases h : x < y
  · rw [if_pos h, if_pos ((o32_lt hx hy).mpr h)]
  · rw [if_neg h, if_neg (fun q => h ((o32_lt hx hy).mp q))]
theorem o64_min {x y : Int} (hx : in64 x) (hy : in64 y) : (if Int64.ofInt y < Int64.ofInt x then Int64.ofInt y else Int64.ofInt x) = Int64.ofInt (jmin x y) := by
  unfold jmin
  by_cases h : y < x
  · rw [if_pos h, if_pos ((o64_lt hy hx).mpr h)]
  · rw [if_neg h, if_neg (fun q => h ((o64_lt hy hx).mp q))]
theorem o64_abs {x : Int} (hx : in64 x) : (if 0 < Int64.ofInt x then Int64.ofInt x else -Int64.ofInt x) = Int64.ofInt (jabs x) := by
  unfold jabs
  have e : (0 < Int64.ofInt x) ↔ 0 < x := o64_lt in64_0 hx
  by_cases h : 0 < x
  · rw [if_pos h, if_pos (e.mpr h)]
  · rw [if_neg h, if_neg (fun q => h (e.mp q)), o64_neg hx]
theorem jmin_in {P : Int → Prop} {x y : Int} (hx : P x) (hy : P y) : P (jmin x y) := by unfold jmin; split <;> assumption
theorem jmax_in {P : Int → Prop} {x y : Int} (hx : P x) (hy : P y) : P (jmax x y) := by unfold jmax; split <;> assumption
theorem jabs_in {x : Int} (hx : in64 x) : in64 (jabs x) := by unfold jabs; split; exact hx; exact in64_w _
/-! Math.floorMod(II)I: its own walk -/
def tqfmd (a b : Int32) : Int32 := a - a / b * b
def tqfmr (a b : Int32) : Int32 := if 0 ≤ a ^^^ b then tqfmd a b else if tqfmd a b = 0 then tqfmd a b else tqfmd a b + b
def tqfs (a b : Int32) : Spec where
  pre := .and (.code tqfmn prog_16_method_50_code 3 (some .int)) (.and (.count 2) (.and (.isInt (.arg 0)) (.and (.isInt (.arg 1)) (.and (.eq (.arg 0) (.int a)) (.eq (.arg 1) (.int b))))))
  post := .and .returned (.eq .result (.int (tqfmr a b)))
  changes := some []
theorem tqfm0 : decode prog_16_method_50_code 0 = .ok (.iload_n 0, 1) := by decide +kernel
theorem tqfm1 : decode prog_16_method_50_code 1 = .ok (.iload_n 1, 1) := by decide +kernel
theorem tqfm2 : decode prog_16_method_50_code 2 = .ok (.irem, 1) := by decide +kernel
theorem tqfm3 : decode prog_16_method_50_code 3 = .ok (.istore_n 2, 1) := by decide +kernel
theorem tqfm4 : decode prog_16_method_50_code 4 = .ok (.iload_n 0, 1) := by decide +kernel
theorem tqfm5 : decode prog_16_method_50_code 5 = .ok (.iload_n 1, 1) := by decide +kernel
theorem tqfm6 : decode prog_16_method_50_code 6 = .ok (.ixor, 1) := by decide +kernel
theorem tqfm7 : decode prog_16_method_50_code 7 = .ok (.ifCond .ge 11, 3) := by decide +kernel
theorem tqfm10 : decode prog_16_method_50_code 10 = .ok (.iload_n 2, 1) := by decide +kernel
theorem tqfm11 : decode prog_16_method_50_code 11 = .ok (.ifCond .eq 7, 3) := by decide +kernel
theorem tqfm14 : decode prog_16_method_50_code 14 = .ok (.iload_n 2, 1) := by decide +kernel
theorem tqfm15 : decode prog_16_method_50_code 15 = .ok (.iload_n 1, 1) := by decide +kernel
theorem tqfm16 : decode prog_16_method_50_code 16 = .ok (.iadd, 1) := by decide +kernel
theorem tqfm17 : decode prog_16_method_50_code 17 = .ok (.ireturn, 1) := by decide +kernel
theorem tqfm18 : decode prog_16_method_50_code 18 = .ok (.iload_n 2, 1) := by decide +kernel
theorem tqfm19 : decode prog_16_method_50_code 19 = .ok (.ireturn, 1) := by decide +kernel
theorem tqfmrow0 : (NativeRow.find? natives tqfmn.cls tqfmn.name tqfmn.desc).isNone = true := by decide +kernel
theorem tqfmrow (p : Program) : NativeRow.find? p.tables.natives tqfmn.cls tqfmn.name tqfmn.desc = none := by
  cases p <;> exact Option.isNone_iff_eq_none.mp tqfmrow0
set_option maxHeartbeats 4000000 in
theorem tqfm_meets (l : Launch) (a b : Int32) (hb : ¬ b = 0) : MeetsLoose l tqfmn (tqfs a b) := by
  refine MeetsLoose.of_body_ov (code := prog_16_method_50_code) (maxLocals := 3) (ret := some .int) tqfmrow ?_ ?_
  · intro args s h
    simp only [tqfs, Cond.before_and, Bool.and_eq_true] at h
    exact h.1
  · intro p e s m args below meth c s₁ B
    have hpre := B.pre
    simp only [tqfs, Cond.before_and, Bool.and_eq_true] at hpre
    obtain ⟨-, hp1, hp2, hp3, hp4, hp5⟩ := hpre
    obtain ⟨a', b', rfl⟩ := Cond.two_ints hp1 hp2 hp3
    have ea : a' = a := by simpa [Cond.before, Cond.holds, Cond.value, Term.eval] using hp4
    have eb : b' = b := by simpa [Cond.before, Cond.holds, Cond.value, Term.eval] using hp5
    subst ea; subst eb
    have hloc : argsToLocals #[.int a', .int b'] 3 = #[.val (.int a'), .val (.int b'), .unset] := rfl
    obtain ⟨fs, hfs⟩ := handOver_isSome (s := s₁) (some (.int (tqfmr a' b'))) B.hears₁
    refine ⟨s₁.setFrames fs, .returned (some (.int (tqfmr a' b'))), ?_, B.here.running, B.ended hfs (by intro h; cases h), ?_, State.sameBut_nil.mpr ?_⟩
    · unfold entryFrame; rw [hloc]
      refine Steps.instrAtOv (c := _) (by simpa using B.here) ?_
      simp [jvm, wpRun, exec, B.here.top, B.exec, B.bytes, tqfm0]
      refine Steps.instrAtOv (c := _) (by simpa using B.here) ?_
      simp [jvm, wpRun, exec, B.here.top, B.exec, B.bytes, tqfm1]
      refine Steps.instrAtOv (c := _) (by simpa using B.here) ?_
      simp [jvm, wpRun, exec, B.here.top, B.exec, B.bytes, tqfm2, hb]
      refine Steps.instrAtOv (c := _) (by simpa using B.here) ?_
      simp [jvm, wpRun, exec, B.here.top, B.exec, B.bytes, tqfm3]
      refine ⟨#[.val (.int a'), .val (.int b'), .val (.int (a' - a' / b' * b'))], rfl, ?_⟩
      refine Steps.instrAtOv (c := _) (by simpa using B.here) ?_
      simp [jvm, wpRun, exec, B.here.top, B.exec, B.bytes, tqfm4]
      refine Steps.instrAtOv (c := _) (by simpa using B.here) ?_
      simp [jvm, wpRun, exec, B.here.top, B.exec, B.bytes, tqfm5]
      refine Steps.instrAtOv (c := _) (by simpa using B.here) ?_
      simp [jvm, wpRun, exec, B.here.top, B.exec, B.bytes, tqfm6]
      by_cases h1 : 0 ≤ a' ^^^ b'
      · have er : tqfmr a' b' = tqfmd a' b' := if_pos h1
        rw [er] at hfs; unfold tqfmd at hfs
        refine Steps.instrAtOv (c := _) (by simpa using B.here) ?_
        simp [jvm, wpRun, exec, B.here.top, B.exec, B.bytes, tqfm7, ifCond.holds, h1]
        refine Steps.instrAtOv (c := _) (by simpa using B.here) ?_
        simp [jvm, wpRun, exec, B.here.top, B.exec, B.bytes, tqfm18]
        refine Steps.instrAtOv (c := _) (by simpa using B.here) ?_
        simp [jvm, wpRun, exec, B.here.top, B.exec, B.bytes, tqfm19, B.method₁, B.returns, narrow]
        intro acts
        rw [ret_to B.frames₁ B.method₁ B.notSynchronized rfl rfl hfs]
        exact Steps.refl _
      · refine Steps.instrAtOv (c := _) (by simpa using B.here) ?_
        simp [jvm, wpRun, exec, B.here.top, B.exec, B.bytes, tqfm7, ifCond.holds, h1]
        refine Steps.instrAtOv (c := _) (by simpa using B.here) ?_
        simp [jvm, wpRun, exec, B.here.top, B.exec, B.bytes, tqfm10]
        by_cases h2 : a' - a' / b' * b' = 0
        · have er : tqfmr a' b' = tqfmd a' b' := by unfold tqfmr tqfmd; rw [if_neg h1, if_pos h2]
          rw [er] at hfs; unfold tqfmd at hfs
          refine Steps.instrAtOv (c := _) (by simpa using B.here) ?_
          simp [jvm, wpRun, exec, B.here.top, B.exec, B.bytes, tqfm11, ifCond.holds, h2]
          refine Steps.instrAtOv (c := _) (by simpa using B.here) ?_
          simp [jvm, wpRun, exec, B.here.top, B.exec, B.bytes, tqfm18]
          refine Steps.instrAtOv (c := _) (by simpa using B.here) ?_
          simp [jvm, wpRun, exec, B.here.top, B.exec, B.bytes, tqfm19, B.method₁, B.returns, narrow]
          intro acts
          rw [h2] at hfs
          rw [ret_to B.frames₁ B.method₁ B.notSynchronized rfl rfl hfs]
          exact Steps.refl _
        · have er : tqfmr a' b' = tqfmd a' b' + b' := by unfold tqfmr tqfmd; rw [if_neg h1, if_neg h2]
          rw [er] at hfs; unfold tqfmd at hfs
          refine Steps.instrAtOv (c := _) (by simpa using B.here) ?_
          simp [jvm, wpRun, exec, B.here.top, B.exec, B.bytes, tqfm11, ifCond.holds, h2]
          refine Steps.instrAtOv (c := _) (by simpa using B.here) ?_
          simp [jvm, wpRun, exec, B.here.top, B.exec, B.bytes, tqfm14]
          refine Steps.instrAtOv (c := _) (by simpa using B.here) ?_
          simp [jvm, wpRun, exec, B.here.top, B.exec, B.bytes, tqfm15]
          refine Steps.instrAtOv (c := _) (by simpa using B.here) ?_
          simp [jvm, wpRun, exec, B.here.top, B.exec, B.bytes, tqfm16]
          refine Steps.instrAtOv (c := _) (by simpa using B.here) ?_
          simp [jvm, wpRun, exec, B.here.top, B.exec, B.bytes, tqfm17, B.method₁, B.returns, narrow]
          intro acts
          rw [ret_to B.frames₁ B.method₁ B.notSynchronized rfl rfl hfs]
          exact Steps.refl _
    · simp [tqfs, Cond.after, Cond.holds, Cond.value, Term.eval]
    · rw [State.frames_setFrames _ B.cur₁, B.back]
/-- the answer, for a positive divisor -/
theorem tqfm_val {x y : Int} (hx : in32 x) (hy : in32 y) (hy0 : 0 < y) : tqfmr (Int32.ofInt x) (Int32.ofInt y) = Int32.ofInt (x % y) := by
  have hmd : tqfmd (Int32.ofInt x) (Int32.ofInt y) = Int32.ofInt (x.tmod y) := by
    unfold tqfmd
    rw [← o32_rem hx hy, o32_ww]
  have hin : in32 (x.tmod y) := by
    have h1 := Int.tmod_lt_of_pos x hy0
    have h2 : -y < x.tmod y := by
      have h7 := Int.tmod_lt_of_pos (-x) hy0
      rw [Int.neg_tmod] at h7
      omega
    unfold in32 at hy ⊢
    omega
  have hsg : (0 ≤ Int32.ofInt x ^^^ Int32.ofInt y) ↔ 0 ≤ x := by
    rw [Int32.le_iff_toInt_le, Int32.toInt_zero, ← Int32.toInt_toBitVec, Int32.toBitVec_xor]
    have key : ∀ u v : BitVec 32, (0 ≤ (u ^^^ v).toInt) ↔ ((u ^^^ v).msb = false) := fun u v => by
      rw [BitVec.msb_eq_toInt]; simp
    rw [key, BitVec.msb_xor, BitVec.msb_eq_toInt, BitVec.msb_eq_toInt, Int32.toInt_toBitVec, Int32.toInt_toBitVec, o32_to hx, o32_to hy]
    have e1 : decide (y < 0) = false := by simp; omega
    rw [e1]
    simp
  unfold tqfmr
  rw [hmd]
  have hem := Int.emod_emod_of_dvd x (Int.dvd_refl y)
  by_cases h1 : 0 ≤ x
  · rw [if_pos (hsg.mpr h1), Int.tmod_eq_emod_of_nonneg h1]
  · rw [if_neg (fun q => h1 (hsg.mp q))]
    have e0 : (Int32.ofInt (x.tmod y) = 0) ↔ x.tmod y = 0 := o32_eqi hin in32_0
    have hrel : x.tmod y = x - x.tdiv y * y := tm_w x y
    have hle : x.tmod y ≤ 0 := by
      have : (-x).tmod y = -(x.tmod y) := Int.neg_tmod x y
      have h3 : 0 ≤ (-x).tmod y := Int.tmod_nonneg y (by omega)
      omega
    have h2 : -y < x.tmod y := by
      have h7 := Int.tmod_lt_of_pos (-x) hy0
      rw [Int.neg_tmod] at h7
      omega
    by_cases h3 : x.tmod y = 0
    · rw [if_pos (e0.mpr h3), h3]
      have : x % y = 0 := Int.emod_eq_zero_of_dvd (Int.dvd_of_tmod_eq_zero h3)
      rw [this]
    · rw [if_neg (fun q => h3 (e0.mp q))]
      have e4 : x % y = x.tmod y + y := by
        have h5 : x = (x.tmod y + y) + y * (x.tdiv y - 1) := by
          rw [Int.mul_sub, Int.mul_one, hrel, Int.mul_comm y]; omega
        have h6 : x % y = (x.tmod y + y) % y := by
          conv => lhs; rw [h5]
          rw [Int.add_mul_emod_self_left]
        rw [h6]
        exact Int.emod_eq_of_lt (by omega) (by omega)
      rw [e4, ← o32_ww (x.tmod y + y), o32_add]
section TQMA
variable {p : Program} {l : Launch} {e : Env} {R : Room} {s : State} {mid : MethodId} {args : Array Value} {below : List Frame} {meth : Method} {c : Code} {Q : State → Prop} {g : tqG} {cc : ByteArray} {nL c0 s0 pc : Nat} {lsA st : List tqV} {m : tqM}
theorem s_mmax {x y : Int} {idx : Nat} {own : String} (hml : c.maxLocals = nL) (hown : s.vm.findClass own = some mid.cls) (hl1 : (Cond.methodLink own idx Lib.Math.max.name).before args s = true) (hl2 : (Cond.static Lib.Math.max.name).before args s = true) (hl3 : (Cond.initialized "java/lang/Math").before args s = true) (hl4 : (Cond.code Lib.Math.max.name Lib.Math.max.code 2 (some .int)).before args s = true) (hfr : 1 ≤ R.frames) (hlo : 60 ≤ R.locals) (hst8 : tqcs st ≤ 8) (hc : m.2.2.2.1 - c0 ≤ R.cells) (hs : m.2.2.2.2 - s0 ≤ R.slots)
    (hx : p.tables.exec = Jvm.exec) (hb : c.code = cc) (hd : decode cc pc = .ok (.invokestatic idx, 3)) (h : tqW1 p l e R s mid args below meth c Q g nL c0 s0 (pc + 3) lsA (vI (jmax x y) :: st) m) : tqW1 p l e R s mid args below meth c Q g nL c0 s0 pc lsA (vI y :: vI x :: st) m := by
  intro H locs ls hH hS hl hst h0 h1
  have hy : in32 y := tqhdo hst
  have hx32 : in32 x := tqhdo (tqtl hst)
  refine va_mmax (rest := st.map (tqrz g)) (x := Int32.ofInt x) (y := Int32.ofInt y) hx hb (by rw [hml]; exact hl.1.1.symm) hown hl1 hl2 hl3 hl4 hfr (by rw [tqcs_rz]; omega) hc hs hd ?_
  rw [o32_max hx32 hy]
  exact h H locs ls hH hS hl (tqall1 (jmax_in (P := in32) hx32 hy) (tqtl (tqtl hst))) h0 h1
theorem s_mmin {x y : Int} {idx : Nat} {own : String} (hml : c.maxLocals = nL) (hown : s.vm.findClass own = some mid.cls) (hl1 : (Cond.methodLink own idx Lib.Math.min.name).before args s = true) (hl2 : (Cond.static Lib.Math.min.name).before args s = true) (hl3 : (Cond.initialized "java/lang/Math").before args s = true) (hl4 : (Cond.code Lib.Math.min.name Lib.Math.min.code 2 (some .int)).before args s = true) (hfr : 1 ≤ R.frames) (hlo : 60 ≤ R.locals) (hst8 : tqcs st ≤ 8) (hc : m.2.2.2.1 - c0 ≤ R.cells) (hs : m.2.2.2.2 - s0 ≤ R.slots)
    (hx : p.tables.exec = Jvm.exec) (hb : c.code = cc) (hd : decode cc pc = .ok (.invokestatic idx, 3)) (h : tqW1 p l e R s mid args below meth c Q g nL c0 s0 (pc + 3) lsA (vI (jmin x y) :: st) m) : tqW1 p l e R s mid args below meth c Q g nL c0 s0 pc lsA (vI y :: vI x :: st) m := by
  intro H locs ls hH hS hl hst h0 h1
  have hy : in32 y := tqhdo hst
  have hx32 : in32 x := tqhdo (tqtl hst)
  refine va_mmin (rest := st.map (tqrz g)) (x := Int32.ofInt x) (y := Int32.ofInt y) hx hb (by rw [hml]; exact hl.1.1.symm) hown hl1 hl2 hl3 hl4 hfr (by rw [tqcs_rz]; omega) hc hs hd ?_
  rw [o32_min hx32 hy]
  exact h H locs ls hH hS hl (tqall1 (jmin_in (P := in32) hx32 hy) (tqtl (tqtl hst))) h0 h1
theorem s_mminl {x y : Int} {idx : Nat} {own : String} (hml : c.maxLocals = nL) (hown : s.vm.findClass own = some mid.cls) (hl1 : (Cond.methodLink own idx Lib.MathLoose.min_long.x).before args s = true) (hl2 : (Cond.static Lib.MathLoose.min_long.x).before args s = true) (hl3 : (Cond.initialized "java/lang/Math").before args s = true) (hl4 : (Cond.code Lib.MathLoose.min_long.x Lib.MathLoose.min_long.code 4 (some .long)).before args s = true) (hfr : 1 ≤ R.frames) (hlo : 60 ≤ R.locals) (hst8 : tqcs st ≤ 8) (hc : m.2.2.2.1 - c0 ≤ R.cells) (hs : m.2.2.2.2 - s0 ≤ R.slots)
    (hx : p.tables.exec = Jvm.exec) (hb : c.code = cc) (hd : decode cc pc = .ok (.invokestatic idx, 3)) (h : tqW1 p l e R s mid args below meth c Q g nL c0 s0 (pc + 3) lsA (vL (jmin x y) :: st) m) : tqW1 p l e R s mid args below meth c Q g nL c0 s0 pc lsA (vL y :: vL x :: st) m := by
  intro H locs ls hH hS hl hst h0 h1
  have hy : in64 y := tqhdo hst
  have hx64 : in64 x := tqhdo (tqtl hst)
  refine va_mmin_long (rest := st.map (tqrz g)) (x := Int64.ofInt x) (y := Int64.ofInt y) hx hb (by rw [hml]; exact hl.1.1.symm) hown hl1 hl2 hl3 hl4 hfr (by rw [tqcs_rz]; omega) hc hs hd ?_
  rw [o64_min hx64 hy]
  exact h H locs ls hH hS hl (tqall1 (jmin_in (P := in64) hx64 hy) (tqtl (tqtl hst))) h0 h1
theorem s_mabs {x : Int} {idx : Nat} {own : String} (hml : c.maxLocals = nL) (hown : s.vm.findClass own = some mid.cls) (hl1 : (Cond.methodLink own idx Lib.MathLoose.abs_long.x).before args s = true) (hl2 : (Cond.static Lib.MathLoose.abs_long.x).before args s = true) (hl3 : (Cond.initialized "java/lang/Math").before args s = true) (hl4 : (Cond.code Lib.MathLoose.abs_long.x Lib.MathLoose.abs_long.code 2 (some .long)).before args s = true) (hfr : 1 ≤ R.frames) (hlo : 60 ≤ R.locals) (hst8 : tqcs st ≤ 8) (hc : m.2.2.2.1 - c0 ≤ R.cells) (hs : m.2.2.2.2 - s0 ≤ R.slots)
    (hx : p.tables.exec = Jvm.exec) (hb : c.code = cc) (hd : decode cc pc = .ok (.invokestatic idx, 3)) (h : tqW1 p l e R s mid args below meth c Q g nL c0 s0 (pc + 3) lsA (vL (jabs x) :: st) m) : tqW1 p l e R s mid args below meth c Q g nL c0 s0 pc lsA (vL x :: st) m := by
  intro H locs ls hH hS hl hst h0 h1
  have hx64 : in64 x := tqhdo hst
  refine va_mabs_long (rest := st.map (tqrz g)) (x := Int64.ofInt x) hx hb (by rw [hml]; exact hl.1.1.symm) hown hl1 hl2 hl3 hl4 hfr (by rw [tqcs_rz]; omega) hc hs hd ?_
  rw [o64_abs hx64]
  exact h H locs ls hH hS hl (tqall1 (jabs_in hx64) (tqtl hst)) h0 h1
theorem s_fm {x y : Int} {idx : Nat} {own : String} (hy0 : 0 < y) (hml : c.maxLocals = nL) (hown : s.vm.findClass own = some mid.cls) (hl1 : (Cond.methodLink own idx tqfmn).before args s = true) (hl2 : (Cond.static tqfmn).before args s = true) (hl3 : (Cond.initialized "java/lang/Math").before args s = true) (hl4 : (Cond.code tqfmn prog_16_method_50_code 3 (some .int)).before args s = true) (hfr : 1 ≤ R.frames) (hlo : 60 ≤ R.locals) (hst8 : tqcs st ≤ 8) (hc : m.2.2.2.1 - c0 ≤ R.cells) (hs : m.2.2.2.2 - s0 ≤ R.slots)
    (hx : p.tables.exec = Jvm.exec) (hb : c.code = cc) (hd : decode cc pc = .ok (.invokestatic idx, 3)) (h : tqW1 p l e R s mid args below meth c Q g nL c0 s0 (pc + 3) lsA (vI (x % y) :: st) m) : tqW1 p l e R s mid args below meth c Q g nL c0 s0 pc lsA (vI y :: vI x :: st) m := by
  intro H locs ls hH hS hl hst h0 h1
  have hy : in32 y := tqhdo hst
  have hx32 : in32 x := tqhdo (tqtl hst)
  have hin : in32 (x % y) := by
    have h2 := Int.emod_nonneg x (show y ≠ 0 by omega)
    have h3 := Int.emod_lt_of_pos x hy0
    unfold in32 at hy ⊢
    omega
  have hb0 : ¬ Int32.ofInt y = 0 := fun q => by
    have := (o32_eqi hy in32_0).mp q
    omega
  have hh := h H locs ls hH hS hl (tqall1 hin (tqtl (tqtl hst))) h0 h1
  have hh : W p l e R s mid args below meth c H locs (m.2.2.2.1 - c0) (m.2.2.2.2 - s0) Q (F0 mid (pc + 3) ls (.int (Int32.ofInt (x % y)) :: st.map (tqrz g))) := hh
  rw [← tqfm_val hx32 hy hy0] at hh
  show W p l e R s mid args below meth c H locs (m.2.2.2.1 - c0) (m.2.2.2.2 - s0) Q (F0 mid pc ls (.int (Int32.ofInt y) :: .int (Int32.ofInt x) :: st.map (tqrz g)))
  generalize Int32.ofInt x = a at hh ⊢
  generalize Int32.ofInt y = b at hh hb0 ⊢
  intro T hT X
  have hroom : 2 * (F0 mid pc ls (.int b :: .int a :: st.map (tqrz g))).monitorRoom + ((st.map (tqrz g)).map fun v => v.category).sum ≤ 8 := lv_room (m := mid) (pc := pc) (ls := ls) (rest := []) (st := st.map (tqrz g)) (by rw [tqcs_rz]; exact hst8)
  obtain ⟨v, vm', X', ⟨first, t, hpost⟩, hstep⟩ := X.staticByContractV hx hown hl1 hl2 hl3 hl4 (by decide) (tqfm_meets l a b hb0) rfl rfl rfl rfl
    (fun args' first o s₂ hq => by
      cases o with
      | returned r => exact ⟨r, rfl⟩
      | threw z => simp [tqfs, Cond.after, Cond.holds, Cond.value] at hq)
    (g := F0 mid pc ls (.int b :: .int a :: st.map (tqrz g))) rfl (by rw [hml]; exact hl.1.1) (argsL := [.int a, .int b]) (rest := st.map (tqrz g))
    (fun sig hsg => by
      have h5 : parseMethodDescriptor "(II)I" = some { parameters := [.int, .int], returnType := some .int } := by decide +kernel
      rw [show tqfmn.desc = "(II)I" from rfl, h5] at hsg
      rw [← Option.some.inj hsg]; rfl)
    rfl (by rw [hb]; exact hd)
    (fun vm' hW => by
      simp only [tqfs, Cond.before_and, Bool.and_eq_true]
      refine ⟨?_, rfl, rfl, rfl, by simp [Cond.before, Cond.holds, Cond.value, Term.eval], by simp [Cond.before, Cond.holds, Cond.value, Term.eval]⟩
      have q := hl4
      rw [← Cond.code_setVm hW.alike] at q
      simp only [Cond.before, Cond.holds, Cond.value, State.methodNamed?, State.vm_setVm] at q ⊢
      exact q)
    (by show 0 + 1 ≤ R.frames; omega) (by show _ + _ + (3 + 11) + 0 ≤ R.locals; omega) (by show _ + 0 ≤ R.cells; omega) (by show _ + 0 ≤ R.slots; omega)
  have ev : v = some (.int (tqfmr a b)) := by
    rcases v with _ | w
    · simp [tqfs, Cond.after, Cond.holds, Cond.value, Term.eval] at hpost
    · cases w <;> simp [tqfs, Cond.after, Cond.holds, Cond.value, Term.eval] at hpost
      rw [hpost]
  subst ev
  obtain ⟨tt, a1, b1⟩ := hh (T.setVm vm') hT X'
  exact ⟨tt, hstep tt a1, b1⟩
end TQMA
