theorem pI_some {α : Type} {st : List tqV} {f : Int → List tqV → Option α} {r : α} (h : pI st f = some r) : ∃ x st', st = vI x :: st' ∧ f x st' = some r := by
  unfold pI at h
  split at h
  · exact ⟨_, _, rfl, h⟩
  · cases h
theorem pL_some {α : Type} {st : List tqV} {f : Int → List tqV → Option α} {r : α} (h : pL st f = some r) : ∃ x st', st = vL x :: st' ∧ f x st' = some r := by
  unfold pL at h
  split at h
  · exact ⟨_, _, rfl, h⟩
  · cases h
theorem pR_some {α : Type} {st : List tqV} {f : Nat → List tqV → Option α} {r : α} (h : pR st f = some r) : ∃ x st', st = vR x :: st' ∧ f x st' = some r := by
  unfold pR at h
  split at h
  · exact ⟨_, _, rfl, h⟩
  · cases h
theorem pV_some {α : Type} {st : List tqV} {f : tqV → List tqV → Option α} {r : α} (h : pV st f = some r) : ∃ v st', st = v :: st' ∧ tqcat v = 1 ∧ f v st' = some r := by
  unfold pV at h
  split at h
  · exact ⟨_, _, rfl, rfl, h⟩
  · exact ⟨_, _, rfl, rfl, h⟩
  · cases h
theorem tqjg_some {g : Bool} {nx : Nat} {ls st : List tqV} {m : tqM} {cb : Bool} {p1 p2 : Nat} {ls' st' : List tqV} {m' : tqM} (h : tqjg g nx ls st m = some (true, .inl (cb, p1, p2, ls', st', m'))) : g = true ∧ cb = true ∧ p1 = nx ∧ p2 = nx ∧ ls' = ls ∧ st' = st ∧ m' = m := by
  unfold tqjg at h
  cases h
  exact ⟨rfl, rfl, rfl, rfl, rfl, rfl, rfl⟩
theorem tqj_some {nx : Nat} {ls st : List tqV} {m : tqM} {cb : Bool} {p1 p2 : Nat} {ls' st' : List tqV} {m' : tqM} (h : tqj nx ls st m = some (true, .inl (cb, p1, p2, ls', st', m'))) : cb = true ∧ p1 = nx ∧ p2 = nx ∧ ls' = ls ∧ st' = st ∧ m' = m := by
  unfold tqj at h
  cases h
  exact ⟨rfl, rfl, rfl, rfl, rfl, rfl⟩
theorem tqbr_some {c0 : Bool} {q1 q2 : Nat} {ls st : List tqV} {m : tqM} {cb : Bool} {p1 p2 : Nat} {ls' st' : List tqV} {m' : tqM} (h : tqbr c0 q1 q2 ls st m = some (true, .inl (cb, p1, p2, ls', st', m'))) : cb = c0 ∧ p1 = q1 ∧ p2 = q2 ∧ ls' = ls ∧ st' = st ∧ m' = m := by
  unfold tqbr at h
  cases h
  exact ⟨rfl, rfl, rfl, rfl, rfl, rfl⟩
theorem o32_i2l {x : Int} (h : in32 x) : (Int32.ofInt x).toInt64 = Int64.ofInt x := Int64.toInt_inj.mp (by rw [Int32.toInt_toInt64, o32_to h, o64_to (in32_64 h)])
theorem o32_l2i {x : Int} (h : in64 x) : (Int64.ofInt x).toInt32 = Int32.ofInt (w32 x) := Int32.toInt_inj.mp (by rw [Int64.toInt_toInt32, o64_to h, o32_to (in32_w x), w32_bmod])
theorem o32_b1 {n : Int} (h1 : -128 ≤ n) (h2 : n < 128) : (Int8.ofInt n).toInt32 = Int32.ofInt n := Int32.toInt_inj.mp (by
  rw [Int8.toInt_toInt32, o32_to (by unfold in32; omega), Int8.toInt_ofInt, show Int8.size = 256 from rfl, Int.bmod_def]; split <;> omega)
theorem o32_b2 {n : Int} (h1 : -32768 ≤ n) (h2 : n < 32768) : (Int16.ofInt n).toInt32 = Int32.ofInt n := Int32.toInt_inj.mp (by
  rw [Int16.toInt_toInt32, o32_to (by unfold in32; omega), Int16.toInt_ofInt, show Int16.size = 65536 from rfl, Int.bmod_def]; split <;> omega)
theorem o32_cmp {x y : Int} (hx : in64 x) (hy : in64 y) : lg_cmp (Int64.ofInt x) (Int64.ofInt y) = Int32.ofInt (jcmp x y) := by
  unfold lg_cmp jcmp
  simp only [GT.gt, o64_lt hy hx, o64_eqi hx hy]
  by_cases h1 : y < x
  · rw [if_pos h1, if_neg (by omega), if_neg (by omega)]; rfl
  · rw [if_neg h1]
    by_cases h2 : x = y
    · rw [if_pos h2, if_neg (by omega), if_pos h2]; rfl
    · rw [if_neg h2, if_pos (by omega)]; rfl
theorem tqbeq0 {a : Nat} (h : a ≠ 0) : Nat.beq a 0 = false := by
  match a, h with
  | 0, h => exact absurd rfl h
  | _ + 1, _ => rfl
theorem tqsm (b : BitVec 32) : (b &&& 31#32).smod 32#32 = b.smod 32#32 := by
  apply BitVec.eq_of_toInt_eq
  rw [BitVec.toInt_smod, BitVec.toInt_smod, show (32#32).toInt = 32 from rfl, Int.fmod_eq_emod_of_nonneg _ (by decide), Int.fmod_eq_emod_of_nonneg _ (by decide), BitVec.toInt_eq_toNat_cond, BitVec.toInt_eq_toNat_cond, BitVec.toNat_and, show (31#32).toNat = 2 ^ 5 - 1 from rfl, Nat.and_two_pow_sub_one_eq_mod]
  have := b.isLt
  split <;> split <;> omega
theorem tqshl (x y : Int32) : x <<< (y &&& 31) = x <<< y := by
  apply Int32.toBitVec_inj.mp
  rw [Int32.toBitVec_shiftLeft, Int32.toBitVec_shiftLeft, Int32.toBitVec_and]
  exact congrArg _ (tqsm y.toBitVec)
theorem tqshr (x y : Int32) : x >>> (y &&& 31) = x >>> y := by
  apply Int32.toBitVec_inj.mp
  rw [Int32.toBitVec_shiftRight, Int32.toBitVec_shiftRight, Int32.toBitVec_and]
  exact congrArg _ (tqsm y.toBitVec)
theorem jcmp_in (x y : Int) : in32 (jcmp x y) := by
  unfold jcmp in32
  split
  · omega
  · split <;> omega
/-- what is shown at a place of a method -/
def tqW1 (p : Program) (l : Launch) (e : Env) (R : Room) (s : State) (mid : MethodId) (args : Array Value) (below : List Frame) (meth : Method) (c : Code) (Q : State → Prop) (g : tqG) (nL c0 s0 : Nat) (pc : Nat) (lsA stA : List tqV) (m : tqM) : Prop :=
  ∀ (H : Heap) (locs : List Loc) (ls : Array Slot), tqH g m H → va_S (tqA g) s.heap H locs → tqlr g ls nL lsA → (∀ v ∈ stA, tqo v) → c0 ≤ m.2.2.2.1 → s0 ≤ m.2.2.2.2 → W p l e R s mid args below meth c H locs (m.2.2.2.1 - c0) (m.2.2.2.2 - s0) Q (F0 mid pc ls (stA.map (tqrz g)))
theorem tqall1 {v : tqV} {st : List tqV} (h : tqo v) (hs : ∀ v ∈ st, tqo v) : ∀ w ∈ v :: st, tqo w := fun w hw => by
  rcases List.mem_cons.mp hw with rfl | hw
  · exact h
  · exact hs w hw
theorem tqtl {v : tqV} {st : List tqV} (h : ∀ w ∈ v :: st, tqo w) : ∀ w ∈ st, tqo w := fun w hw => h w (List.mem_cons_of_mem _ hw)
theorem tqhdo {v : tqV} {st : List tqV} (h : ∀ w ∈ v :: st, tqo w) : tqo v := h v List.mem_cons_self
section TQOPS
variable {p : Program} {l : Launch} {e : Env} {R : Room} {s : State} {mid : MethodId} {args : Array Value} {below : List Frame} {meth : Method} {c : Code} {Q : State → Prop} {g : tqG} {cc : ByteArray} {nL c0 s0 pc : Nat} {lsA st : List tqV} {m : tqM}
theorem s_iadd {x y : Int} (hx : p.tables.exec = Jvm.exec) (hb : c.code = cc) (hd : decode cc pc = .ok (.iadd, 1)) (h : tqW1 p l e R s mid args below meth c Q g nL c0 s0 (pc + 1) lsA (vI (w32 (x + y)) :: st) m) : tqW1 p l e R s mid args below meth c Q g nL c0 s0 pc lsA (vI y :: vI x :: st) m := by
  intro H locs ls hH hS hl hst h0 h1
  show W p l e R s mid args below meth c H locs (m.2.2.2.1 - c0) (m.2.2.2.2 - s0) Q (F0 mid pc ls (.int (Int32.ofInt y) :: .int (Int32.ofInt x) :: st.map (tqrz g)))
  refine lv_iadd hx hb hd ?_
  rw [← o32_add]
  exact h H locs ls hH hS hl (tqall1 (in32_w _) (tqtl (tqtl hst))) h0 h1
theorem s_isub {x y : Int} (hx : p.tables.exec = Jvm.exec) (hb : c.code = cc) (hd : decode cc pc = .ok (.isub, 1)) (h : tqW1 p l e R s mid args below meth c Q g nL c0 s0 (pc + 1) lsA (vI (w32 (x - y)) :: st) m) : tqW1 p l e R s mid args below meth c Q g nL c0 s0 pc lsA (vI y :: vI x :: st) m := by
  intro H locs ls hH hS hl hst h0 h1
  show W p l e R s mid args below meth c H locs (m.2.2.2.1 - c0) (m.2.2.2.2 - s0) Q (F0 mid pc ls (.int (Int32.ofInt y) :: .int (Int32.ofInt x) :: st.map (tqrz g)))
  refine lv_isub hx hb hd ?_
  rw [← o32_sub]
  exact h H locs ls hH hS hl (tqall1 (in32_w _) (tqtl (tqtl hst))) h0 h1
theorem s_imul {x y : Int} (hx : p.tables.exec = Jvm.exec) (hb : c.code = cc) (hd : decode cc pc = .ok (.imul, 1)) (h : tqW1 p l e R s mid args below meth c Q g nL c0 s0 (pc + 1) lsA (vI (w32 (x * y)) :: st) m) : tqW1 p l e R s mid args below meth c Q g nL c0 s0 pc lsA (vI y :: vI x :: st) m := by
  intro H locs ls hH hS hl hst h0 h1
  show W p l e R s mid args below meth c H locs (m.2.2.2.1 - c0) (m.2.2.2.2 - s0) Q (F0 mid pc ls (.int (Int32.ofInt y) :: .int (Int32.ofInt x) :: st.map (tqrz g)))
  refine lv_imul hx hb hd ?_
  rw [← o32_mul (tqhdo (tqtl hst)) (tqhdo hst)]
  exact h H locs ls hH hS hl (tqall1 (in32_w _) (tqtl (tqtl hst))) h0 h1
theorem s_idiv {x y : Int} (hy : ¬ y = 0) (hx : p.tables.exec = Jvm.exec) (hb : c.code = cc) (hd : decode cc pc = .ok (.idiv, 1)) (h : tqW1 p l e R s mid args below meth c Q g nL c0 s0 (pc + 1) lsA (vI (w32 (x.tdiv y)) :: st) m) : tqW1 p l e R s mid args below meth c Q g nL c0 s0 pc lsA (vI y :: vI x :: st) m := by
  intro H locs ls hH hS hl hst h0 h1
  show W p l e R s mid args below meth c H locs (m.2.2.2.1 - c0) (m.2.2.2.2 - s0) Q (F0 mid pc ls (.int (Int32.ofInt y) :: .int (Int32.ofInt x) :: st.map (tqrz g)))
  refine lv_idiv hx hb hd (fun q => hy ((o32_eqi (tqhdo hst) in32_0).mp q)) ?_
  rw [← o32_div (tqhdo (tqtl hst)) (tqhdo hst)]
  exact h H locs ls hH hS hl (tqall1 (in32_w _) (tqtl (tqtl hst))) h0 h1
theorem s_irem {x y : Int} (hy : ¬ y = 0) (hx : p.tables.exec = Jvm.exec) (hb : c.code = cc) (hd : decode cc pc = .ok (.irem, 1)) (h : tqW1 p l e R s mid args below meth c Q g nL c0 s0 (pc + 1) lsA (vI (w32 (x.tmod y)) :: st) m) : tqW1 p l e R s mid args below meth c Q g nL c0 s0 pc lsA (vI y :: vI x :: st) m := by
  intro H locs ls hH hS hl hst h0 h1
  show W p l e R s mid args below meth c H locs (m.2.2.2.1 - c0) (m.2.2.2.2 - s0) Q (F0 mid pc ls (.int (Int32.ofInt y) :: .int (Int32.ofInt x) :: st.map (tqrz g)))
  refine lv_irem hx hb hd (fun q => hy ((o32_eqi (tqhdo hst) in32_0).mp q)) ?_
  rw [← o32_rem (tqhdo (tqtl hst)) (tqhdo hst)]
  exact h H locs ls hH hS hl (tqall1 (in32_w _) (tqtl (tqtl hst))) h0 h1
theorem s_ladd {x y : Int} (hx : p.tables.exec = Jvm.exec) (hb : c.code = cc) (hd : decode cc pc = .ok (.ladd, 1)) (h : tqW1 p l e R s mid args below meth c Q g nL c0 s0 (pc + 1) lsA (vL (w64 (x + y)) :: st) m) : tqW1 p l e R s mid args below meth c Q g nL c0 s0 pc lsA (vL y :: vL x :: st) m := by
  intro H locs ls hH hS hl hst h0 h1
  show W p l e R s mid args below meth c H locs (m.2.2.2.1 - c0) (m.2.2.2.2 - s0) Q (F0 mid pc ls (.long (Int64.ofInt y) :: .long (Int64.ofInt x) :: st.map (tqrz g)))
  refine lv_ladd hx hb hd ?_
  rw [← o64_add]
  exact h H locs ls hH hS hl (tqall1 (in64_w _) (tqtl (tqtl hst))) h0 h1
theorem s_lsub {x y : Int} (hx : p.tables.exec = Jvm.exec) (hb : c.code = cc) (hd : decode cc pc = .ok (.lsub, 1)) (h : tqW1 p l e R s mid args below meth c Q g nL c0 s0 (pc + 1) lsA (vL (w64 (x - y)) :: st) m) : tqW1 p l e R s mid args below meth c Q g nL c0 s0 pc lsA (vL y :: vL x :: st) m := by
  intro H locs ls hH hS hl hst h0 h1
  show W p l e R s mid args below meth c H locs (m.2.2.2.1 - c0) (m.2.2.2.2 - s0) Q (F0 mid pc ls (.long (Int64.ofInt y) :: .long (Int64.ofInt x) :: st.map (tqrz g)))
  refine lv_lsub hx hb hd ?_
  rw [← o64_sub]
  exact h H locs ls hH hS hl (tqall1 (in64_w _) (tqtl (tqtl hst))) h0 h1
theorem s_lmul {x y : Int} (hx : p.tables.exec = Jvm.exec) (hb : c.code = cc) (hd : decode cc pc = .ok (.lmul, 1)) (h : tqW1 p l e R s mid args below meth c Q g nL c0 s0 (pc + 1) lsA (vL (w64 (x * y)) :: st) m) : tqW1 p l e R s mid args below meth c Q g nL c0 s0 pc lsA (vL y :: vL x :: st) m := by
  intro H locs ls hH hS hl hst h0 h1
  show W p l e R s mid args below meth c H locs (m.2.2.2.1 - c0) (m.2.2.2.2 - s0) Q (F0 mid pc ls (.long (Int64.ofInt y) :: .long (Int64.ofInt x) :: st.map (tqrz g)))
  refine lv_lmul hx hb hd ?_
  rw [← o64_mul (tqhdo (tqtl hst)) (tqhdo hst)]
  exact h H locs ls hH hS hl (tqall1 (in64_w _) (tqtl (tqtl hst))) h0 h1
theorem s_ldiv {x y : Int} (hy : ¬ y = 0) (hx : p.tables.exec = Jvm.exec) (hb : c.code = cc) (hd : decode cc pc = .ok (.ldiv, 1)) (h : tqW1 p l e R s mid args below meth c Q g nL c0 s0 (pc + 1) lsA (vL (w64 (x.tdiv y)) :: st) m) : tqW1 p l e R s mid args below meth c Q g nL c0 s0 pc lsA (vL y :: vL x :: st) m := by
  intro H locs ls hH hS hl hst h0 h1
  show W p l e R s mid args below meth c H locs (m.2.2.2.1 - c0) (m.2.2.2.2 - s0) Q (F0 mid pc ls (.long (Int64.ofInt y) :: .long (Int64.ofInt x) :: st.map (tqrz g)))
  refine lv_ldiv hx hb hd (fun q => hy ((o64_eqi (tqhdo hst) in64_0).mp q)) ?_
  rw [← o64_div (tqhdo (tqtl hst)) (tqhdo hst)]
  exact h H locs ls hH hS hl (tqall1 (in64_w _) (tqtl (tqtl hst))) h0 h1
theorem s_lrem {x y : Int} (hy : ¬ y = 0) (hx : p.tables.exec = Jvm.exec) (hb : c.code = cc) (hd : decode cc pc = .ok (.lrem, 1)) (h : tqW1 p l e R s mid args below meth c Q g nL c0 s0 (pc + 1) lsA (vL (w64 (x.tmod y)) :: st) m) : tqW1 p l e R s mid args below meth c Q g nL c0 s0 pc lsA (vL y :: vL x :: st) m := by
  intro H locs ls hH hS hl hst h0 h1
  show W p l e R s mid args below meth c H locs (m.2.2.2.1 - c0) (m.2.2.2.2 - s0) Q (F0 mid pc ls (.long (Int64.ofInt y) :: .long (Int64.ofInt x) :: st.map (tqrz g)))
  refine lv_lrem hx hb hd (fun q => hy ((o64_eqi (tqhdo hst) in64_0).mp q)) ?_
  rw [← o64_rem (tqhdo (tqtl hst)) (tqhdo hst)]
  exact h H locs ls hH hS hl (tqall1 (in64_w _) (tqtl (tqtl hst))) h0 h1
theorem s_ineg {x : Int} (hx : p.tables.exec = Jvm.exec) (hb : c.code = cc) (hd : decode cc pc = .ok (.ineg, 1)) (h : tqW1 p l e R s mid args below meth c Q g nL c0 s0 (pc + 1) lsA (vI (w32 (-x)) :: st) m) : tqW1 p l e R s mid args below meth c Q g nL c0 s0 pc lsA (vI x :: st) m := by
  intro H locs ls hH hS hl hst h0 h1
  show W p l e R s mid args below meth c H locs (m.2.2.2.1 - c0) (m.2.2.2.2 - s0) Q (F0 mid pc ls (.int (Int32.ofInt x) :: st.map (tqrz g)))
  refine lv_ineg hx hb hd ?_
  rw [← o32_neg (tqhdo hst)]
  exact h H locs ls hH hS hl (tqall1 (in32_w _) (tqtl hst)) h0 h1
theorem s_lneg {x : Int} (hx : p.tables.exec = Jvm.exec) (hb : c.code = cc) (hd : decode cc pc = .ok (.lneg, 1)) (h : tqW1 p l e R s mid args below meth c Q g nL c0 s0 (pc + 1) lsA (vL (w64 (-x)) :: st) m) : tqW1 p l e R s mid args below meth c Q g nL c0 s0 pc lsA (vL x :: st) m := by
  intro H locs ls hH hS hl hst h0 h1
  show W p l e R s mid args below meth c H locs (m.2.2.2.1 - c0) (m.2.2.2.2 - s0) Q (F0 mid pc ls (.long (Int64.ofInt x) :: st.map (tqrz g)))
  refine lv_lneg hx hb hd ?_
  rw [← o64_neg (tqhdo hst)]
  exact h H locs ls hH hS hl (tqall1 (in64_w _) (tqtl hst)) h0 h1
theorem s_iand {x y : Int} (hx : p.tables.exec = Jvm.exec) (hb : c.code = cc) (hd : decode cc pc = .ok (.iand, 1)) (h : tqW1 p l e R s mid args below meth c Q g nL c0 s0 (pc + 1) lsA (vI (jand x y) :: st) m) : tqW1 p l e R s mid args below meth c Q g nL c0 s0 pc lsA (vI y :: vI x :: st) m := by
  intro H locs ls hH hS hl hst h0 h1
  show W p l e R s mid args below meth c H locs (m.2.2.2.1 - c0) (m.2.2.2.2 - s0) Q (F0 mid pc ls (.int (Int32.ofInt y) :: .int (Int32.ofInt x) :: st.map (tqrz g)))
  refine lv_iand hx hb hd ?_
  try rw [tqshl]
  try rw [tqshr]
  rw [show (Int32.ofInt x &&& Int32.ofInt y) = Int32.ofInt (jand x y) from (o32_t _).symm]
  exact h H locs ls hH hS hl (tqall1 (t32_in _) (tqtl (tqtl hst))) h0 h1
theorem s_ior {x y : Int} (hx : p.tables.exec = Jvm.exec) (hb : c.code = cc) (hd : decode cc pc = .ok (.ior, 1)) (h : tqW1 p l e R s mid args below meth c Q g nL c0 s0 (pc + 1) lsA (vI (jor x y) :: st) m) : tqW1 p l e R s mid args below meth c Q g nL c0 s0 pc lsA (vI y :: vI x :: st) m := by
  intro H locs ls hH hS hl hst h0 h1
  show W p l e R s mid args below meth c H locs (m.2.2.2.1 - c0) (m.2.2.2.2 - s0) Q (F0 mid pc ls (.int (Int32.ofInt y) :: .int (Int32.ofInt x) :: st.map (tqrz g)))
  refine lv_ior hx hb hd ?_
  try rw [tqshl]
  try rw [tqshr]
  rw [show (Int32.ofInt x ||| Int32.ofInt y) = Int32.ofInt (jor x y) from (o32_t _).symm]
  exact h H locs ls hH hS hl (tqall1 (t32_in _) (tqtl (tqtl hst))) h0 h1
theorem s_ixor {x y : Int} (hx : p.tables.exec = Jvm.exec) (hb : c.code = cc) (hd : decode cc pc = .ok (.ixor, 1)) (h : tqW1 p l e R s mid args below meth c Q g nL c0 s0 (pc + 1) lsA (vI (jxor x y) :: st) m) : tqW1 p l e R s mid args below meth c Q g nL c0 s0 pc lsA (vI y :: vI x :: st) m := by
  intro H locs ls hH hS hl hst h0 h1
  show W p l e R s mid args below meth c H locs (m.2.2.2.1 - c0) (m.2.2.2.2 - s0) Q (F0 mid pc ls (.int (Int32.ofInt y) :: .int (Int32.ofInt x) :: st.map (tqrz g)))
  refine lv_ixor hx hb hd ?_
  try rw [tqshl]
  try rw [tqshr]
  rw [show (Int32.ofInt x ^^^ Int32.ofInt y) = Int32.ofInt (jxor x y) from (o32_t _).symm]
  exact h H locs ls hH hS hl (tqall1 (t32_in _) (tqtl (tqtl hst))) h0 h1
theorem s_ishl {x y : Int} (hx : p.tables.exec = Jvm.exec) (hb : c.code = cc) (hd : decode cc pc = .ok (.ishl, 1)) (h : tqW1 p l e R s mid args below meth c Q g nL c0 s0 (pc + 1) lsA (vI (jshl x y) :: st) m) : tqW1 p l e R s mid args below meth c Q g nL c0 s0 pc lsA (vI y :: vI x :: st) m := by
  intro H locs ls hH hS hl hst h0 h1
  show W p l e R s mid args below meth c H locs (m.2.2.2.1 - c0) (m.2.2.2.2 - s0) Q (F0 mid pc ls (.int (Int32.ofInt y) :: .int (Int32.ofInt x) :: st.map (tqrz g)))
  refine lv_ishl hx hb hd ?_
  try rw [tqshl]
  try rw [tqshr]
  rw [show (Int32.ofInt x <<< Int32.ofInt y) = Int32.ofInt (jshl x y) from (o32_t _).symm]
  exact h H locs ls hH hS hl (tqall1 (t32_in _) (tqtl (tqtl hst))) h0 h1
theorem s_ishr {x y : Int} (hx : p.tables.exec = Jvm.exec) (hb : c.code = cc) (hd : decode cc pc = .ok (.ishr, 1)) (h : tqW1 p l e R s mid args below meth c Q g nL c0 s0 (pc + 1) lsA (vI (jshr x y) :: st) m) : tqW1 p l e R s mid args below meth c Q g nL c0 s0 pc lsA (vI y :: vI x :: st) m := by
  intro H locs ls hH hS hl hst h0 h1
  show W p l e R s mid args below meth c H locs (m.2.2.2.1 - c0) (m.2.2.2.2 - s0) Q (F0 mid pc ls (.int (Int32.ofInt y) :: .int (Int32.ofInt x) :: st.map (tqrz g)))
  refine lv_ishr hx hb hd ?_
  try rw [tqshl]
  try rw [tqshr]
  rw [show (Int32.ofInt x >>> Int32.ofInt y) = Int32.ofInt (jshr x y) from (o32_t _).symm]
  exact h H locs ls hH hS hl (tqall1 (t32_in _) (tqtl (tqtl hst))) h0 h1
theorem s_iushr {x y : Int} (hx : p.tables.exec = Jvm.exec) (hb : c.code = cc) (hd : decode cc pc = .ok (.iushr, 1)) (h : tqW1 p l e R s mid args below meth c Q g nL c0 s0 (pc + 1) lsA (vI (jushr x y) :: st) m) : tqW1 p l e R s mid args below meth c Q g nL c0 s0 pc lsA (vI y :: vI x :: st) m := by
  intro H locs ls hH hS hl hst h0 h1
  show W p l e R s mid args below meth c H locs (m.2.2.2.1 - c0) (m.2.2.2.2 - s0) Q (F0 mid pc ls (.int (Int32.ofInt y) :: .int (Int32.ofInt x) :: st.map (tqrz g)))
  refine lv_iushr (v := Int32.ofInt (jushr x y)) hx hb hd (o32_t _).symm ?_
  exact h H locs ls hH hS hl (tqall1 (t32_in _) (tqtl (tqtl hst))) h0 h1
theorem s_lcmp {x y : Int} (hx : p.tables.exec = Jvm.exec) (hb : c.code = cc) (hd : decode cc pc = .ok (.lcmp, 1)) (h : tqW1 p l e R s mid args below meth c Q g nL c0 s0 (pc + 1) lsA (vI (jcmp x y) :: st) m) : tqW1 p l e R s mid args below meth c Q g nL c0 s0 pc lsA (vL y :: vL x :: st) m := by
  intro H locs ls hH hS hl hst h0 h1
  show W p l e R s mid args below meth c H locs (m.2.2.2.1 - c0) (m.2.2.2.2 - s0) Q (F0 mid pc ls (.long (Int64.ofInt y) :: .long (Int64.ofInt x) :: st.map (tqrz g)))
  refine W.lcmp hx hb hd ?_
  rw [o32_cmp (tqhdo (tqtl hst)) (tqhdo hst)]
  exact h H locs ls hH hS hl (tqall1 (jcmp_in x y) (tqtl (tqtl hst))) h0 h1
theorem s_i2l {x : Int} (hx : p.tables.exec = Jvm.exec) (hb : c.code = cc) (hd : decode cc pc = .ok (.i2l, 1)) (h : tqW1 p l e R s mid args below meth c Q g nL c0 s0 (pc + 1) lsA (vL x :: st) m) : tqW1 p l e R s mid args below meth c Q g nL c0 s0 pc lsA (vI x :: st) m := by
  intro H locs ls hH hS hl hst h0 h1
  show W p l e R s mid args below meth c H locs (m.2.2.2.1 - c0) (m.2.2.2.2 - s0) Q (F0 mid pc ls (.int (Int32.ofInt x) :: st.map (tqrz g)))
  refine lv_i2l (v := Int64.ofInt x) hx hb hd (o32_i2l (tqhdo hst)) ?_
  exact h H locs ls hH hS hl (tqall1 (in32_64 (tqhdo hst)) (tqtl hst)) h0 h1
theorem s_l2i {x : Int} (hx : p.tables.exec = Jvm.exec) (hb : c.code = cc) (hd : decode cc pc = .ok (.l2i, 1)) (h : tqW1 p l e R s mid args below meth c Q g nL c0 s0 (pc + 1) lsA (vI (w32 x) :: st) m) : tqW1 p l e R s mid args below meth c Q g nL c0 s0 pc lsA (vL x :: st) m := by
  intro H locs ls hH hS hl hst h0 h1
  show W p l e R s mid args below meth c H locs (m.2.2.2.1 - c0) (m.2.2.2.2 - s0) Q (F0 mid pc ls (.long (Int64.ofInt x) :: st.map (tqrz g)))
  refine lv_l2i (v := Int32.ofInt (w32 x)) hx hb hd (o32_l2i (tqhdo hst)) ?_
  exact h H locs ls hH hS hl (tqall1 (in32_w _) (tqtl hst)) h0 h1
theorem s_i2b {x : Int} (hx : p.tables.exec = Jvm.exec) (hb : c.code = cc) (hd : decode cc pc = .ok (.i2b, 1)) (h : tqW1 p l e R s mid args below meth c Q g nL c0 s0 (pc + 1) lsA (vI (jbyte x) :: st) m) : tqW1 p l e R s mid args below meth c Q g nL c0 s0 pc lsA (vI x :: st) m := by
  intro H locs ls hH hS hl hst h0 h1
  show W p l e R s mid args below meth c H locs (m.2.2.2.1 - c0) (m.2.2.2.2 - s0) Q (F0 mid pc ls (.int (Int32.ofInt x) :: st.map (tqrz g)))
  refine lv_i2b (v := Int32.ofInt (jbyte x)) hx hb hd (o32_t _).symm ?_
  exact h H locs ls hH hS hl (tqall1 (t32_in _) (tqtl hst)) h0 h1
theorem s_iconst {n : Int} (hn : in32 n) (hx : p.tables.exec = Jvm.exec) (hb : c.code = cc) (hd : decode cc pc = .ok (.iconst n, 1)) (h : tqW1 p l e R s mid args below meth c Q g nL c0 s0 (pc + 1) lsA (vI n :: st) m) : tqW1 p l e R s mid args below meth c Q g nL c0 s0 pc lsA (st) m := by
  intro H locs ls hH hS hl hst h0 h1
  show W p l e R s mid args below meth c H locs (m.2.2.2.1 - c0) (m.2.2.2.2 - s0) Q (F0 mid pc ls (st.map (tqrz g)))
  exact lv_iconst hx hb hd rfl (h H locs ls hH hS hl (tqall1 hn hst) h0 h1)
theorem s_bipush {n : Int} (hn : -128 ≤ n ∧ n < 128) (hx : p.tables.exec = Jvm.exec) (hb : c.code = cc) (hd : decode cc pc = .ok (.bipush n, 2)) (h : tqW1 p l e R s mid args below meth c Q g nL c0 s0 (pc + 2) lsA (vI n :: st) m) : tqW1 p l e R s mid args below meth c Q g nL c0 s0 pc lsA (st) m := by
  intro H locs ls hH hS hl hst h0 h1
  show W p l e R s mid args below meth c H locs (m.2.2.2.1 - c0) (m.2.2.2.2 - s0) Q (F0 mid pc ls (st.map (tqrz g)))
  exact lv_bipush hx hb hd (o32_b1 hn.1 hn.2) (h H locs ls hH hS hl (tqall1 (show in32 n by unfold in32; omega) hst) h0 h1)
theorem s_sipush {n : Int} (hn : -32768 ≤ n ∧ n < 32768) (hx : p.tables.exec = Jvm.exec) (hb : c.code = cc) (hd : decode cc pc = .ok (.sipush n, 3)) (h : tqW1 p l e R s mid args below meth c Q g nL c0 s0 (pc + 3) lsA (vI n :: st) m) : tqW1 p l e R s mid args below meth c Q g nL c0 s0 pc lsA (st) m := by
  intro H locs ls hH hS hl hst h0 h1
  show W p l e R s mid args below meth c H locs (m.2.2.2.1 - c0) (m.2.2.2.2 - s0) Q (F0 mid pc ls (st.map (tqrz g)))
  exact lv_sipush hx hb hd (o32_b2 hn.1 hn.2) (h H locs ls hH hS hl (tqall1 (show in32 n by unfold in32; omega) hst) h0 h1)
theorem s_lconst {n : Fin 2} (hx : p.tables.exec = Jvm.exec) (hb : c.code = cc) (hd : decode cc pc = .ok (.lconst n, 1)) (h : tqW1 p l e R s mid args below meth c Q g nL c0 s0 (pc + 1) lsA (vL ((n : Nat) : Int) :: st) m) : tqW1 p l e R s mid args below meth c Q g nL c0 s0 pc lsA (st) m := by
  intro H locs ls hH hS hl hst h0 h1
  show W p l e R s mid args below meth c H locs (m.2.2.2.1 - c0) (m.2.2.2.2 - s0) Q (F0 mid pc ls (st.map (tqrz g)))
  exact lv_lconst (v := Int64.ofInt ((n : Nat) : Int)) hx hb hd (by rw [Int64.ofInt_eq_ofNat]) (h H locs ls hH hS hl (tqall1 (show in64 _ by have := n.2; unfold in64; omega) hst) h0 h1)
theorem s_ldc {idx : Nat} {own : String} {v : Int} (hv : in32 v) (hown : s.vm.findClass own = some mid.cls) (hk : (Jvm.Cond.constant own idx (Int32.ofInt v)).before args s = true) (hx : p.tables.exec = Jvm.exec) (hb : c.code = cc) (hd : decode cc pc = .ok (.ldc idx, 2)) (h : tqW1 p l e R s mid args below meth c Q g nL c0 s0 (pc + 2) lsA (vI v :: st) m) : tqW1 p l e R s mid args below meth c Q g nL c0 s0 pc lsA (st) m := by
  intro H locs ls hH hS hl hst h0 h1
  show W p l e R s mid args below meth c H locs (m.2.2.2.1 - c0) (m.2.2.2.2 - s0) Q (F0 mid pc ls (st.map (tqrz g)))
  exact lv_ldc hx hb hown hk hd (h H locs ls hH hS hl (tqall1 hv hst) h0 h1)
theorem s_ldc_w {idx : Nat} {own : String} {v : Int} (hv : in32 v) (hown : s.vm.findClass own = some mid.cls) (hk : (Jvm.Cond.constant own idx (Int32.ofInt v)).before args s = true) (hx : p.tables.exec = Jvm.exec) (hb : c.code = cc) (hd : decode cc pc = .ok (.ldc_w idx, 3)) (h : tqW1 p l e R s mid args below meth c Q g nL c0 s0 (pc + 3) lsA (vI v :: st) m) : tqW1 p l e R s mid args below meth c Q g nL c0 s0 pc lsA (st) m := by
  intro H locs ls hH hS hl hst h0 h1
  show W p l e R s mid args below meth c H locs (m.2.2.2.1 - c0) (m.2.2.2.2 - s0) Q (F0 mid pc ls (st.map (tqrz g)))
  exact lv_ldcw hx hb hown hk hd (h H locs ls hH hS hl (tqall1 hv hst) h0 h1)
theorem s_ldc2_w {idx : Nat} {own : String} {v : Int} (hv : in64 v) (hown : s.vm.findClass own = some mid.cls) (hk : (Jvm.Cond.constantLong own idx (Int64.ofInt v)).before args s = true) (hx : p.tables.exec = Jvm.exec) (hb : c.code = cc) (hd : decode cc pc = .ok (.ldc2_w idx, 3)) (h : tqW1 p l e R s mid args below meth c Q g nL c0 s0 (pc + 3) lsA (vL v :: st) m) : tqW1 p l e R s mid args below meth c Q g nL c0 s0 pc lsA (st) m := by
  intro H locs ls hH hS hl hst h0 h1
  show W p l e R s mid args below meth c H locs (m.2.2.2.1 - c0) (m.2.2.2.2 - s0) Q (F0 mid pc ls (st.map (tqrz g)))
  exact lv_ldc2 hx hb hown hk hd (h H locs ls hH hS hl (tqall1 hv hst) h0 h1)
theorem s_null  (hx : p.tables.exec = Jvm.exec) (hb : c.code = cc) (hd : decode cc pc = .ok (.aconst_null, 1)) (h : tqW1 p l e R s mid args below meth c Q g nL c0 s0 (pc + 1) lsA (vR 0 :: st) m) : tqW1 p l e R s mid args below meth c Q g nL c0 s0 pc lsA (st) m := by
  intro H locs ls hH hS hl hst h0 h1
  show W p l e R s mid args below meth c H locs (m.2.2.2.1 - c0) (m.2.2.2.2 - s0) Q (F0 mid pc ls (st.map (tqrz g)))
  exact lv_null hx hb hd (h H locs ls hH hS hl (tqall1 trivial hst) h0 h1)
theorem s_iload {n : Nat} (hv : tqisI (tqg lsA n) = true) (hx : p.tables.exec = Jvm.exec) (hb : c.code = cc) (hd : decode cc pc = .ok (.iload n, 2)) (h : tqW1 p l e R s mid args below meth c Q g nL c0 s0 (pc + 2) lsA (tqg lsA n :: st) m) : tqW1 p l e R s mid args below meth c Q g nL c0 s0 pc lsA (st) m := by
  intro H locs ls hH hS hl hst h0 h1
  have ho := hl.2.2 n
  have hat := hl.at (j := n)
  have hh := h H locs ls hH hS hl (tqall1 ho hst) h0 h1
  rcases hq : tqg lsA n with x | x | x | x <;> rw [hq] at hv hat hh <;> first
    | (show W p l e R s mid args below meth c H locs (m.2.2.2.1 - c0) (m.2.2.2.2 - s0) Q (F0 mid pc ls (st.map (tqrz g))); exact lv_iload hx hb hd (hat (by intro q; cases q)) hh)
    | cases hv
theorem s_iload_n {n : Fin 4} (hv : tqisI (tqg lsA n) = true) (hx : p.tables.exec = Jvm.exec) (hb : c.code = cc) (hd : decode cc pc = .ok (.iload_n n, 1)) (h : tqW1 p l e R s mid args below meth c Q g nL c0 s0 (pc + 1) lsA (tqg lsA n :: st) m) : tqW1 p l e R s mid args below meth c Q g nL c0 s0 pc lsA (st) m := by
  intro H locs ls hH hS hl hst h0 h1
  have ho := hl.2.2 n
  have hat := hl.at (j := n)
  have hh := h H locs ls hH hS hl (tqall1 ho hst) h0 h1
  rcases hq : tqg lsA n with x | x | x | x <;> rw [hq] at hv hat hh <;> first
    | (show W p l e R s mid args below meth c H locs (m.2.2.2.1 - c0) (m.2.2.2.2 - s0) Q (F0 mid pc ls (st.map (tqrz g))); exact lv_iload_n hx hb hd rfl (hat (by intro q; cases q)) hh)
    | cases hv
theorem s_lload {n : Nat} (hv : tqisL (tqg lsA n) = true) (hx : p.tables.exec = Jvm.exec) (hb : c.code = cc) (hd : decode cc pc = .ok (.lload n, 2)) (h : tqW1 p l e R s mid args below meth c Q g nL c0 s0 (pc + 2) lsA (tqg lsA n :: st) m) : tqW1 p l e R s mid args below meth c Q g nL c0 s0 pc lsA (st) m := by
  intro H locs ls hH hS hl hst h0 h1
  have ho := hl.2.2 n
  have hat := hl.at (j := n)
  have hh := h H locs ls hH hS hl (tqall1 ho hst) h0 h1
  rcases hq : tqg lsA n with x | x | x | x <;> rw [hq] at hv hat hh <;> first
    | (show W p l e R s mid args below meth c H locs (m.2.2.2.1 - c0) (m.2.2.2.2 - s0) Q (F0 mid pc ls (st.map (tqrz g))); exact lv_lload hx hb hd (hat (by intro q; cases q)) hh)
    | cases hv
theorem s_lload_n {n : Fin 4} (hv : tqisL (tqg lsA n) = true) (hx : p.tables.exec = Jvm.exec) (hb : c.code = cc) (hd : decode cc pc = .ok (.lload_n n, 1)) (h : tqW1 p l e R s mid args below meth c Q g nL c0 s0 (pc + 1) lsA (tqg lsA n :: st) m) : tqW1 p l e R s mid args below meth c Q g nL c0 s0 pc lsA (st) m := by
  intro H locs ls hH hS hl hst h0 h1
  have ho := hl.2.2 n
  have hat := hl.at (j := n)
  have hh := h H locs ls hH hS hl (tqall1 ho hst) h0 h1
  rcases hq : tqg lsA n with x | x | x | x <;> rw [hq] at hv hat hh <;> first
    | (show W p l e R s mid args below meth c H locs (m.2.2.2.1 - c0) (m.2.2.2.2 - s0) Q (F0 mid pc ls (st.map (tqrz g))); exact lv_lload_n hx hb hd rfl (hat (by intro q; cases q)) hh)
    | cases hv
theorem s_aload {n : Nat} (hv : tqisA (tqg lsA n) = true) (hx : p.tables.exec = Jvm.exec) (hb : c.code = cc) (hd : decode cc pc = .ok (.aload n, 2)) (h : tqW1 p l e R s mid args below meth c Q g nL c0 s0 (pc + 2) lsA (tqg lsA n :: st) m) : tqW1 p l e R s mid args below meth c Q g nL c0 s0 pc lsA (st) m := by
  intro H locs ls hH hS hl hst h0 h1
  have ho := hl.2.2 n
  have hat := hl.at (j := n)
  have hh := h H locs ls hH hS hl (tqall1 ho hst) h0 h1
  rcases hq : tqg lsA n with x | x | x | x <;> rw [hq] at hv hat hh <;> try cases hv
  have hat := hat (by intro q; cases q)
  by_cases hx0 : x = 0
  · subst hx0
    rw [tqrz_0] at hat
    show W p l e R s mid args below meth c H locs (m.2.2.2.1 - c0) (m.2.2.2.2 - s0) Q (F0 mid pc ls (st.map (tqrz g)))
    exact lv_aloadN hx hb hd hat hh
  · have hh : W p l e R s mid args below meth c H locs (m.2.2.2.1 - c0) (m.2.2.2.2 - s0) Q (F0 mid (pc + 2) ls (tqrz g (vR x) :: st.map (tqrz g))) := hh
    rw [tqrz_R hx0] at hat hh
    show W p l e R s mid args below meth c H locs (m.2.2.2.1 - c0) (m.2.2.2.2 - s0) Q (F0 mid pc ls (st.map (tqrz g)))
    exact lv_aload hx hb hd hat hh
theorem s_aload_n {n : Fin 4} (hv : tqisA (tqg lsA n) = true) (hx : p.tables.exec = Jvm.exec) (hb : c.code = cc) (hd : decode cc pc = .ok (.aload_n n, 1)) (h : tqW1 p l e R s mid args below meth c Q g nL c0 s0 (pc + 1) lsA (tqg lsA n :: st) m) : tqW1 p l e R s mid args below meth c Q g nL c0 s0 pc lsA (st) m := by
  intro H locs ls hH hS hl hst h0 h1
  have ho := hl.2.2 n
  have hat := hl.at (j := n)
  have hh := h H locs ls hH hS hl (tqall1 ho hst) h0 h1
  rcases hq : tqg lsA n with x | x | x | x <;> rw [hq] at hv hat hh <;> try cases hv
  have hat := hat (by intro q; cases q)
  by_cases hx0 : x = 0
  · subst hx0
    rw [tqrz_0] at hat
    show W p l e R s mid args below meth c H locs (m.2.2.2.1 - c0) (m.2.2.2.2 - s0) Q (F0 mid pc ls (st.map (tqrz g)))
    exact lv_aload_nN hx hb hd rfl hat hh
  · have hh : W p l e R s mid args below meth c H locs (m.2.2.2.1 - c0) (m.2.2.2.2 - s0) Q (F0 mid (pc + 1) ls (tqrz g (vR x) :: st.map (tqrz g))) := hh
    rw [tqrz_R hx0] at hat hh
    show W p l e R s mid args below meth c H locs (m.2.2.2.1 - c0) (m.2.2.2.2 - s0) Q (F0 mid pc ls (st.map (tqrz g)))
    exact lv_aload_n hx hb hd rfl hat hh
theorem s_istore {n : Nat} {x : Int} (hn : (n : Nat) < nL) (hv : tqnl lsA n = true) (hx : p.tables.exec = Jvm.exec) (hb : c.code = cc) (hd : decode cc pc = .ok (.istore n, 2)) (h : tqW1 p l e R s mid args below meth c Q g nL c0 s0 (pc + 2) (tqs lsA n (vI x)) st m) : tqW1 p l e R s mid args below meth c Q g nL c0 s0 pc lsA (vI x :: st) m := by
  intro H locs ls hH hS hl hst h0 h1
  show W p l e R s mid args below meth c H locs (m.2.2.2.1 - c0) (m.2.2.2.2 - s0) Q (F0 mid pc ls (.int (Int32.ofInt x) :: st.map (tqrz g)))
  exact lv_istore hx hb hd hl.1 hn rfl (fun ls hl2 => h H locs ls hH hS (hl.st1 hv (tqhdo hst) hl2) (tqtl hst) h0 h1)
theorem s_istore_n {n : Fin 4} {x : Int} (hn : (n : Nat) < nL) (hv : tqnl lsA n = true) (hx : p.tables.exec = Jvm.exec) (hb : c.code = cc) (hd : decode cc pc = .ok (.istore_n n, 1)) (h : tqW1 p l e R s mid args below meth c Q g nL c0 s0 (pc + 1) (tqs lsA n (vI x)) st m) : tqW1 p l e R s mid args below meth c Q g nL c0 s0 pc lsA (vI x :: st) m := by
  intro H locs ls hH hS hl hst h0 h1
  show W p l e R s mid args below meth c H locs (m.2.2.2.1 - c0) (m.2.2.2.2 - s0) Q (F0 mid pc ls (.int (Int32.ofInt x) :: st.map (tqrz g)))
  exact lv_istore_n hx hb hd rfl hl.1 hn rfl (fun ls hl2 => h H locs ls hH hS (hl.st1 hv (tqhdo hst) hl2) (tqtl hst) h0 h1)
theorem s_lstore {n : Nat} {x : Int} (hn : (n : Nat) + 1 < nL) (hv : tqnl lsA n = true) (hx : p.tables.exec = Jvm.exec) (hb : c.code = cc) (hd : decode cc pc = .ok (.lstore n, 2)) (h : tqW1 p l e R s mid args below meth c Q g nL c0 s0 (pc + 2) (tqs (tqs lsA n (vL x)) (n + 1) vU) st m) : tqW1 p l e R s mid args below meth c Q g nL c0 s0 pc lsA (vL x :: st) m := by
  intro H locs ls hH hS hl hst h0 h1
  show W p l e R s mid args below meth c H locs (m.2.2.2.1 - c0) (m.2.2.2.2 - s0) Q (F0 mid pc ls (.long (Int64.ofInt x) :: st.map (tqrz g)))
  exact lv_lstore hx hb hd hl.1 hn rfl (fun ls hl2 => h H locs ls hH hS (hl.st2 hv (tqhdo hst) (by omega) hl2) (tqtl hst) h0 h1)
theorem s_lstore_n {n : Fin 4} {x : Int} (hn : (n : Nat) + 1 < nL) (hv : tqnl lsA n = true) (hx : p.tables.exec = Jvm.exec) (hb : c.code = cc) (hd : decode cc pc = .ok (.lstore_n n, 1)) (h : tqW1 p l e R s mid args below meth c Q g nL c0 s0 (pc + 1) (tqs (tqs lsA n (vL x)) (n + 1) vU) st m) : tqW1 p l e R s mid args below meth c Q g nL c0 s0 pc lsA (vL x :: st) m := by
  intro H locs ls hH hS hl hst h0 h1
  show W p l e R s mid args below meth c H locs (m.2.2.2.1 - c0) (m.2.2.2.2 - s0) Q (F0 mid pc ls (.long (Int64.ofInt x) :: st.map (tqrz g)))
  exact lv_lstore_n hx hb hd rfl hl.1 hn rfl (fun ls hl2 => h H locs ls hH hS (hl.st2 hv (tqhdo hst) (by omega) hl2) (tqtl hst) h0 h1)
theorem s_astore {n : Nat} {x : Nat} (hn : (n : Nat) < nL) (hv : tqnl lsA n = true) (hx : p.tables.exec = Jvm.exec) (hb : c.code = cc) (hd : decode cc pc = .ok (.astore n, 2)) (h : tqW1 p l e R s mid args below meth c Q g nL c0 s0 (pc + 2) (tqs lsA n (vR x)) st m) : tqW1 p l e R s mid args below meth c Q g nL c0 s0 pc lsA (vR x :: st) m := by
  intro H locs ls hH hS hl hst h0 h1
  by_cases hx0 : x = 0
  · subst hx0
    show W p l e R s mid args below meth c H locs (m.2.2.2.1 - c0) (m.2.2.2.2 - s0) Q (F0 mid pc ls (.null :: st.map (tqrz g)))
    exact lv_astoreN hx hb hd hl.1 hn rfl (fun ls hl2 => h H locs ls hH hS (hl.st1 (v := vR 0) hv trivial hl2) (tqtl hst) h0 h1)
  · show W p l e R s mid args below meth c H locs (m.2.2.2.1 - c0) (m.2.2.2.2 - s0) Q (F0 mid pc ls (tqrz g (vR x) :: st.map (tqrz g)))
    rw [tqrz_R hx0]
    exact lv_astore hx hb hd hl.1 hn rfl (fun ls hl2 => h H locs ls hH hS (hl.st1 (v := vR x) hv trivial (by rw [tqrz_R hx0]; exact hl2)) (tqtl hst) h0 h1)
theorem s_astore_n {n : Fin 4} {x : Nat} (hn : (n : Nat) < nL) (hv : tqnl lsA n = true) (hx : p.tables.exec = Jvm.exec) (hb : c.code = cc) (hd : decode cc pc = .ok (.astore_n n, 1)) (h : tqW1 p l e R s mid args below meth c Q g nL c0 s0 (pc + 1) (tqs lsA n (vR x)) st m) : tqW1 p l e R s mid args below meth c Q g nL c0 s0 pc lsA (vR x :: st) m := by
  intro H locs ls hH hS hl hst h0 h1
  by_cases hx0 : x = 0
  · subst hx0
    show W p l e R s mid args below meth c H locs (m.2.2.2.1 - c0) (m.2.2.2.2 - s0) Q (F0 mid pc ls (.null :: st.map (tqrz g)))
    exact lv_astore_nN hx hb hd rfl hl.1 hn rfl (fun ls hl2 => h H locs ls hH hS (hl.st1 (v := vR 0) hv trivial hl2) (tqtl hst) h0 h1)
  · show W p l e R s mid args below meth c H locs (m.2.2.2.1 - c0) (m.2.2.2.2 - s0) Q (F0 mid pc ls (tqrz g (vR x) :: st.map (tqrz g)))
    rw [tqrz_R hx0]
    exact lv_astore_n hx hb hd rfl hl.1 hn rfl (fun ls hl2 => h H locs ls hH hS (hl.st1 (v := vR x) hv trivial (by rw [tqrz_R hx0]; exact hl2)) (tqtl hst) h0 h1)
theorem s_iinc {n : Nat} {k x : Int} (hn : n < nL) (hv : tqnl lsA n = true) (hq : tqg lsA n = vI x) (hx : p.tables.exec = Jvm.exec) (hb : c.code = cc) (hd : decode cc pc = .ok (.iinc n k, 3)) (h : tqW1 p l e R s mid args below meth c Q g nL c0 s0 (pc + 3) (tqs lsA n (vI (w32 (x + k)))) st m) : tqW1 p l e R s mid args below meth c Q g nL c0 s0 pc lsA st m := by
  intro H locs ls hH hS hl hst h0 h1
  have hm : (n, Value.int (Int32.ofInt x)) ∈ tqL g 0 lsA := (tqL_mem g lsA 0 _).mpr ⟨n, (fun q => by rw [hq] at q; cases q), (by rw [hq, Nat.zero_add]; rfl)⟩
  obtain ⟨i, hi⟩ := List.getElem?_of_mem hm
  refine lv_iinc (v := Int32.ofInt (w32 (x + k))) hx hb hd hl.1 hi (o32_add x k).symm hn rfl (fun ls hl2 => h H locs ls hH hS (hl.st1 (v := vI (w32 (x + k))) hv (in32_w _) hl2) hst h0 h1)
theorem s_dup {v : tqV} (hv : tqcat v = 1) (hx : p.tables.exec = Jvm.exec) (hb : c.code = cc) (hd : decode cc pc = .ok (.dup, 1)) (h : tqW1 p l e R s mid args below meth c Q g nL c0 s0 (pc + 1) lsA (v :: v :: st) m) : tqW1 p l e R s mid args below meth c Q g nL c0 s0 pc lsA (v :: st) m := by
  intro H locs ls hH hS hl hst h0 h1
  show W p l e R s mid args below meth c H locs (m.2.2.2.1 - c0) (m.2.2.2.2 - s0) Q (F0 mid pc ls (tqrz g v :: st.map (tqrz g)))
  exact lv_dup hx hb hd (by rw [tqcat_rz]; exact hv) (h H locs ls hH hS hl (tqall1 (tqhdo hst) hst) h0 h1)
theorem s_pop {v : tqV} (hv : tqcat v = 1) (hx : p.tables.exec = Jvm.exec) (hb : c.code = cc) (hd : decode cc pc = .ok (.pop, 1)) (h : tqW1 p l e R s mid args below meth c Q g nL c0 s0 (pc + 1) lsA st m) : tqW1 p l e R s mid args below meth c Q g nL c0 s0 pc lsA (v :: st) m := by
  intro H locs ls hH hS hl hst h0 h1
  show W p l e R s mid args below meth c H locs (m.2.2.2.1 - c0) (m.2.2.2.2 - s0) Q (F0 mid pc ls (tqrz g v :: st.map (tqrz g)))
  exact lv_pop hx hb hd (by rw [tqcat_rz]; exact hv) (h H locs ls hH hS hl (tqtl hst) h0 h1)
theorem s_dup2 {v w : tqV} (hv : tqcat v = 1) (hw : tqcat w = 1) (hx : p.tables.exec = Jvm.exec) (hb : c.code = cc) (hd : decode cc pc = .ok (.dup2, 1)) (h : tqW1 p l e R s mid args below meth c Q g nL c0 s0 (pc + 1) lsA (v :: w :: v :: w :: st) m) : tqW1 p l e R s mid args below meth c Q g nL c0 s0 pc lsA (v :: w :: st) m := by
  intro H locs ls hH hS hl hst h0 h1
  show W p l e R s mid args below meth c H locs (m.2.2.2.1 - c0) (m.2.2.2.2 - s0) Q (F0 mid pc ls (tqrz g v :: tqrz g w :: st.map (tqrz g)))
  exact lv_dup2_11 hx hb hd (by rw [tqcat_rz]; exact hv) (by rw [tqcat_rz]; exact hw) (h H locs ls hH hS hl (tqall1 (tqhdo hst) (tqall1 (tqhdo (tqtl hst)) hst)) h0 h1)
theorem s_goto {off : Int} {t : Nat} (ht : (pc : Int) + off = (t : Int)) (hx : p.tables.exec = Jvm.exec) (hb : c.code = cc) (hd : decode cc pc = .ok (.goto off, 3)) (h : tqW1 p l e R s mid args below meth c Q g nL c0 s0 t lsA st m) : tqW1 p l e R s mid args below meth c Q g nL c0 s0 pc lsA st m := by
  intro H locs ls hH hS hl hst h0 h1
  exact lv_goto hx hb hd ht (h H locs ls hH hS hl hst h0 h1)
theorem s_if_ne {x off : Int} {t : Nat} (ht : (pc : Int) + off = (t : Int)) (hx : p.tables.exec = Jvm.exec) (hb : c.code = cc) (hd : decode cc pc = .ok (.ifCond .ne off, 3)) (h : tqW1 p l e R s mid args below meth c Q g nL c0 s0 (bif tqcb .ne x 0 then t else pc + 3) lsA st m) : tqW1 p l e R s mid args below meth c Q g nL c0 s0 pc lsA (vI x :: st) m := by
  intro H locs ls hH hS hl hst h0 h1
  have hX : in32 x := tqhdo hst
  have hh := h H locs ls hH hS hl (tqtl hst) h0 h1
  have he := o32_eqi hX in32_0
  show W p l e R s mid args below meth c H locs (m.2.2.2.1 - c0) (m.2.2.2.2 - s0) Q (F0 mid pc ls (.int (Int32.ofInt x) :: st.map (tqrz g)))
  refine lv_if_ne hx hb hd ht (fun q => ?_) (fun q => ?_)
  · rw [show tqcb .ne x 0 = true from decide_eq_true (fun z => q (he.mpr z))] at hh; exact hh
  · rw [show tqcb .ne x 0 = false from decide_eq_false (fun z => z (he.mp q))] at hh; exact hh
theorem s_icmp_ne {x y off : Int} {t : Nat} (ht : (pc : Int) + off = (t : Int)) (hx : p.tables.exec = Jvm.exec) (hb : c.code = cc) (hd : decode cc pc = .ok (.if_icmp .ne off, 3)) (h : tqW1 p l e R s mid args below meth c Q g nL c0 s0 (bif tqcb .ne x y then t else pc + 3) lsA st m) : tqW1 p l e R s mid args below meth c Q g nL c0 s0 pc lsA (vI y :: vI x :: st) m := by
  intro H locs ls hH hS hl hst h0 h1
  have hY : in32 y := tqhdo hst
  have hX : in32 x := tqhdo (tqtl hst)
  have hh := h H locs ls hH hS hl (tqtl (tqtl hst)) h0 h1
  have he := o32_eqi hX hY
  show W p l e R s mid args below meth c H locs (m.2.2.2.1 - c0) (m.2.2.2.2 - s0) Q (F0 mid pc ls (.int (Int32.ofInt y) :: .int (Int32.ofInt x) :: st.map (tqrz g)))
  refine lv_icmp_ne hx hb hd ht (fun q => ?_) (fun q => ?_)
  · rw [show tqcb .ne x y = true from decide_eq_true (fun z => q (he.mpr z))] at hh; exact hh
  · rw [show tqcb .ne x y = false from decide_eq_false (fun z => z (he.mp q))] at hh; exact hh
theorem s_if_eq {x off : Int} {t : Nat} (ht : (pc : Int) + off = (t : Int)) (hx : p.tables.exec = Jvm.exec) (hb : c.code = cc) (hd : decode cc pc = .ok (.ifCond .eq off, 3)) (h : tqW1 p l e R s mid args below meth c Q g nL c0 s0 (bif tqcb .eq x 0 then t else pc + 3) lsA st m) : tqW1 p l e R s mid args below meth c Q g nL c0 s0 pc lsA (vI x :: st) m := by
  intro H locs ls hH hS hl hst h0 h1
  have hX : in32 x := tqhdo hst
  have hh := h H locs ls hH hS hl (tqtl hst) h0 h1
  have he := o32_eqi hX in32_0
  show W p l e R s mid args below meth c H locs (m.2.2.2.1 - c0) (m.2.2.2.2 - s0) Q (F0 mid pc ls (.int (Int32.ofInt x) :: st.map (tqrz g)))
  refine lv_if_eq hx hb hd ht (fun q => ?_) (fun q => ?_)
  · rw [show tqcb .eq x 0 = true from decide_eq_true (he.mp q)] at hh; exact hh
  · rw [show tqcb .eq x 0 = false from decide_eq_false (fun z => q (he.mpr z))] at hh; exact hh
theorem s_icmp_eq {x y off : Int} {t : Nat} (ht : (pc : Int) + off = (t : Int)) (hx : p.tables.exec = Jvm.exec) (hb : c.code = cc) (hd : decode cc pc = .ok (.if_icmp .eq off, 3)) (h : tqW1 p l e R s mid args below meth c Q g nL c0 s0 (bif tqcb .eq x y then t else pc + 3) lsA st m) : tqW1 p l e R s mid args below meth c Q g nL c0 s0 pc lsA (vI y :: vI x :: st) m := by
  intro H locs ls hH hS hl hst h0 h1
  have hY : in32 y := tqhdo hst
  have hX : in32 x := tqhdo (tqtl hst)
  have hh := h H locs ls hH hS hl (tqtl (tqtl hst)) h0 h1
  have he := o32_eqi hX hY
  show W p l e R s mid args below meth c H locs (m.2.2.2.1 - c0) (m.2.2.2.2 - s0) Q (F0 mid pc ls (.int (Int32.ofInt y) :: .int (Int32.ofInt x) :: st.map (tqrz g)))
  refine lv_icmp_eq hx hb hd ht (fun q => ?_) (fun q => ?_)
  · rw [show tqcb .eq x y = true from decide_eq_true (he.mp q)] at hh; exact hh
  · rw [show tqcb .eq x y = false from decide_eq_false (fun z => q (he.mpr z))] at hh; exact hh
theorem s_if_lt {x off : Int} {t : Nat} (ht : (pc : Int) + off = (t : Int)) (hx : p.tables.exec = Jvm.exec) (hb : c.code = cc) (hd : decode cc pc = .ok (.ifCond .lt off, 3)) (h : tqW1 p l e R s mid args below meth c Q g nL c0 s0 (bif tqcb .lt x 0 then t else pc + 3) lsA st m) : tqW1 p l e R s mid args below meth c Q g nL c0 s0 pc lsA (vI x :: st) m := by
  intro H locs ls hH hS hl hst h0 h1
  have hX : in32 x := tqhdo hst
  have hh := h H locs ls hH hS hl (tqtl hst) h0 h1
  have he := o32_lt hX in32_0
  show W p l e R s mid args below meth c H locs (m.2.2.2.1 - c0) (m.2.2.2.2 - s0) Q (F0 mid pc ls (.int (Int32.ofInt x) :: st.map (tqrz g)))
  refine lv_if_lt hx hb hd ht (fun q => ?_) (fun q => ?_)
  · rw [show tqcb .lt x 0 = true from decide_eq_true (he.mp q)] at hh; exact hh
  · rw [show tqcb .lt x 0 = false from decide_eq_false (fun z => q (he.mpr z))] at hh; exact hh
theorem s_icmp_lt {x y off : Int} {t : Nat} (ht : (pc : Int) + off = (t : Int)) (hx : p.tables.exec = Jvm.exec) (hb : c.code = cc) (hd : decode cc pc = .ok (.if_icmp .lt off, 3)) (h : tqW1 p l e R s mid args below meth c Q g nL c0 s0 (bif tqcb .lt x y then t else pc + 3) lsA st m) : tqW1 p l e R s mid args below meth c Q g nL c0 s0 pc lsA (vI y :: vI x :: st) m := by
  intro H locs ls hH hS hl hst h0 h1
  have hY : in32 y := tqhdo hst
  have hX : in32 x := tqhdo (tqtl hst)
  have hh := h H locs ls hH hS hl (tqtl (tqtl hst)) h0 h1
  have he := o32_lt hX hY
  show W p l e R s mid args below meth c H locs (m.2.2.2.1 - c0) (m.2.2.2.2 - s0) Q (F0 mid pc ls (.int (Int32.ofInt y) :: .int (Int32.ofInt x) :: st.map (tqrz g)))
  refine lv_icmp_lt hx hb hd ht (fun q => ?_) (fun q => ?_)
  · rw [show tqcb .lt x y = true from decide_eq_true (he.mp q)] at hh; exact hh
  · rw [show tqcb .lt x y = false from decide_eq_false (fun z => q (he.mpr z))] at hh; exact hh
theorem s_if_ge {x off : Int} {t : Nat} (ht : (pc : Int) + off = (t : Int)) (hx : p.tables.exec = Jvm.exec) (hb : c.code = cc) (hd : decode cc pc = .ok (.ifCond .ge off, 3)) (h : tqW1 p l e R s mid args below meth c Q g nL c0 s0 (bif tqcb .ge x 0 then t else pc + 3) lsA st m) : tqW1 p l e R s mid args below meth c Q g nL c0 s0 pc lsA (vI x :: st) m := by
  intro H locs ls hH hS hl hst h0 h1
  have hX : in32 x := tqhdo hst
  have hh := h H locs ls hH hS hl (tqtl hst) h0 h1
  have he := o32_le in32_0 hX
  show W p l e R s mid args below meth c H locs (m.2.2.2.1 - c0) (m.2.2.2.2 - s0) Q (F0 mid pc ls (.int (Int32.ofInt x) :: st.map (tqrz g)))
  refine lv_if_ge hx hb hd ht (fun q => ?_) (fun q => ?_)
  · rw [show tqcb .ge x 0 = true from decide_eq_true (he.mp q)] at hh; exact hh
  · rw [show tqcb .ge x 0 = false from decide_eq_false (fun z => q (he.mpr z))] at hh; exact hh
theorem s_icmp_ge {x y off : Int} {t : Nat} (ht : (pc : Int) + off = (t : Int)) (hx : p.tables.exec = Jvm.exec) (hb : c.code = cc) (hd : decode cc pc = .ok (.if_icmp .ge off, 3)) (h : tqW1 p l e R s mid args below meth c Q g nL c0 s0 (bif tqcb .ge x y then t else pc + 3) lsA st m) : tqW1 p l e R s mid args below meth c Q g nL c0 s0 pc lsA (vI y :: vI x :: st) m := by
  intro H locs ls hH hS hl hst h0 h1
  have hY : in32 y := tqhdo hst
  have hX : in32 x := tqhdo (tqtl hst)
  have hh := h H locs ls hH hS hl (tqtl (tqtl hst)) h0 h1
  have he := o32_le hY hX
  show W p l e R s mid args below meth c H locs (m.2.2.2.1 - c0) (m.2.2.2.2 - s0) Q (F0 mid pc ls (.int (Int32.ofInt y) :: .int (Int32.ofInt x) :: st.map (tqrz g)))
  refine lv_icmp_ge hx hb hd ht (fun q => ?_) (fun q => ?_)
  · rw [show tqcb .ge x y = true from decide_eq_true (he.mp q)] at hh; exact hh
  · rw [show tqcb .ge x y = false from decide_eq_false (fun z => q (he.mpr z))] at hh; exact hh
theorem s_if_gt {x off : Int} {t : Nat} (ht : (pc : Int) + off = (t : Int)) (hx : p.tables.exec = Jvm.exec) (hb : c.code = cc) (hd : decode cc pc = .ok (.ifCond .gt off, 3)) (h : tqW1 p l e R s mid args below meth c Q g nL c0 s0 (bif tqcb .gt x 0 then t else pc + 3) lsA st m) : tqW1 p l e R s mid args below meth c Q g nL c0 s0 pc lsA (vI x :: st) m := by
  intro H locs ls hH hS hl hst h0 h1
  have hX : in32 x := tqhdo hst
  have hh := h H locs ls hH hS hl (tqtl hst) h0 h1
  have he := o32_lt in32_0 hX
  show W p l e R s mid args below meth c H locs (m.2.2.2.1 - c0) (m.2.2.2.2 - s0) Q (F0 mid pc ls (.int (Int32.ofInt x) :: st.map (tqrz g)))
  refine lv_if_gt hx hb hd ht (fun q => ?_) (fun q => ?_)
  · rw [show tqcb .gt x 0 = true from decide_eq_true (he.mp q)] at hh; exact hh
  · rw [show tqcb .gt x 0 = false from decide_eq_false (fun z => q (he.mpr z))] at hh; exact hh
theorem s_icmp_gt {x y off : Int} {t : Nat} (ht : (pc : Int) + off = (t : Int)) (hx : p.tables.exec = Jvm.exec) (hb : c.code = cc) (hd : decode cc pc = .ok (.if_icmp .gt off, 3)) (h : tqW1 p l e R s mid args below meth c Q g nL c0 s0 (bif tqcb .gt x y then t else pc + 3) lsA st m) : tqW1 p l e R s mid args below meth c Q g nL c0 s0 pc lsA (vI y :: vI x :: st) m := by
  intro H locs ls hH hS hl hst h0 h1
  have hY : in32 y := tqhdo hst
  have hX : in32 x := tqhdo (tqtl hst)
  have hh := h H locs ls hH hS hl (tqtl (tqtl hst)) h0 h1
  have he := o32_lt hY hX
  show W p l e R s mid args below meth c H locs (m.2.2.2.1 - c0) (m.2.2.2.2 - s0) Q (F0 mid pc ls (.int (Int32.ofInt y) :: .int (Int32.ofInt x) :: st.map (tqrz g)))
  refine lv_icmp_gt hx hb hd ht (fun q => ?_) (fun q => ?_)
  · rw [show tqcb .gt x y = true from decide_eq_true (he.mp q)] at hh; exact hh
  · rw [show tqcb .gt x y = false from decide_eq_false (fun z => q (he.mpr z))] at hh; exact hh
theorem s_if_le {x off : Int} {t : Nat} (ht : (pc : Int) + off = (t : Int)) (hx : p.tables.exec = Jvm.exec) (hb : c.code = cc) (hd : decode cc pc = .ok (.ifCond .le off, 3)) (h : tqW1 p l e R s mid args below meth c Q g nL c0 s0 (bif tqcb .le x 0 then t else pc + 3) lsA st m) : tqW1 p l e R s mid args below meth c Q g nL c0 s0 pc lsA (vI x :: st) m := by
  intro H locs ls hH hS hl hst h0 h1
  have hX : in32 x := tqhdo hst
  have hh := h H locs ls hH hS hl (tqtl hst) h0 h1
  have he := o32_le hX in32_0
  show W p l e R s mid args below meth c H locs (m.2.2.2.1 - c0) (m.2.2.2.2 - s0) Q (F0 mid pc ls (.int (Int32.ofInt x) :: st.map (tqrz g)))
  refine lv_if_le hx hb hd ht (fun q => ?_) (fun q => ?_)
  · rw [show tqcb .le x 0 = true from decide_eq_true (he.mp q)] at hh; exact hh
  · rw [show tqcb .le x 0 = false from decide_eq_false (fun z => q (he.mpr z))] at hh; exact hh
theorem s_icmp_le {x y off : Int} {t : Nat} (ht : (pc : Int) + off = (t : Int)) (hx : p.tables.exec = Jvm.exec) (hb : c.code = cc) (hd : decode cc pc = .ok (.if_icmp .le off, 3)) (h : tqW1 p l e R s mid args below meth c Q g nL c0 s0 (bif tqcb .le x y then t else pc + 3) lsA st m) : tqW1 p l e R s mid args below meth c Q g nL c0 s0 pc lsA (vI y :: vI x :: st) m := by
  intro H locs ls hH hS hl hst h0 h1
  have hY : in32 y := tqhdo hst
  have hX : in32 x := tqhdo (tqtl hst)
  have hh := h H locs ls hH hS hl (tqtl (tqtl hst)) h0 h1
  have he := o32_le hX hY
  show W p l e R s mid args below meth c H locs (m.2.2.2.1 - c0) (m.2.2.2.2 - s0) Q (F0 mid pc ls (.int (Int32.ofInt y) :: .int (Int32.ofInt x) :: st.map (tqrz g)))
  refine lv_icmp_le hx hb hd ht (fun q => ?_) (fun q => ?_)
  · rw [show tqcb .le x y = true from decide_eq_true (he.mp q)] at hh; exact hh
  · rw [show tqcb .le x y = false from decide_eq_false (fun z => q (he.mpr z))] at hh; exact hh
theorem s_ifnull {a : Nat} {off : Int} {t : Nat} (ht : (pc : Int) + off = (t : Int)) (hx : p.tables.exec = Jvm.exec) (hb : c.code = cc) (hd : decode cc pc = .ok (.ifnull off, 3)) (h : tqW1 p l e R s mid args below meth c Q g nL c0 s0 (bif Nat.beq a 0 then t else pc + 3) lsA st m) : tqW1 p l e R s mid args below meth c Q g nL c0 s0 pc lsA (vR a :: st) m := by
  intro H locs ls hH hS hl hst h0 h1
  have hh := h H locs ls hH hS hl (tqtl hst) h0 h1
  by_cases ha : a = 0
  · subst ha
    show W p l e R s mid args below meth c H locs (m.2.2.2.1 - c0) (m.2.2.2.2 - s0) Q (F0 mid pc ls (.null :: st.map (tqrz g)))
    exact lv_ifnullN hx hb hd ht hh
  · rw [show Nat.beq a 0 = false from tqbeq0 ha] at hh
    show W p l e R s mid args below meth c H locs (m.2.2.2.1 - c0) (m.2.2.2.2 - s0) Q (F0 mid pc ls (tqrz g (vR a) :: st.map (tqrz g)))
    rw [tqrz_R ha]
    exact lv_ifnull hx hb hd hh
theorem s_ifnonnull {a : Nat} {off : Int} {t : Nat} (ht : (pc : Int) + off = (t : Int)) (hx : p.tables.exec = Jvm.exec) (hb : c.code = cc) (hd : decode cc pc = .ok (.ifnonnull off, 3)) (h : tqW1 p l e R s mid args below meth c Q g nL c0 s0 (bif Nat.beq a 0 then pc + 3 else t) lsA st m) : tqW1 p l e R s mid args below meth c Q g nL c0 s0 pc lsA (vR a :: st) m := by
  intro H locs ls hH hS hl hst h0 h1
  have hh := h H locs ls hH hS hl (tqtl hst) h0 h1
  by_cases ha : a = 0
  · subst ha
    show W p l e R s mid args below meth c H locs (m.2.2.2.1 - c0) (m.2.2.2.2 - s0) Q (F0 mid pc ls (.null :: st.map (tqrz g)))
    exact lv_ifnonnullN hx hb hd hh
  · rw [show Nat.beq a 0 = false from tqbeq0 ha] at hh
    show W p l e R s mid args below meth c H locs (m.2.2.2.1 - c0) (m.2.2.2.2 - s0) Q (F0 mid pc ls (tqrz g (vR a) :: st.map (tqrz g)))
    rw [tqrz_R ha]
    exact lv_ifnonnull hx hb hd ht hh
end TQOPS
