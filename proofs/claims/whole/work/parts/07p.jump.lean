/-! ===== every instruction that goes on inside its method ===== -/
/-- a frame of method k, at depth d -/
def tqCx (p : Program) (R : Room) (s : State) (mid : MethodId) (args : Array Value) (meth : Method) (c : Code) (g : tqG) (d k : Nat) : Prop :=
  p.tables.exec = Jvm.exec ∧ c.code = (tqmi k).2.1 ∧ c.maxLocals = (tqmi k).2.2.1 ∧ s.vm.findClass (tqRn (tqow k)) = some mid.cls ∧ (∀ w ∈ tqWd, w.before args s = true) ∧ tqKn g s ∧ va_X g.2.2.1 g.2.2.2.2.1 g.2.2.2.2.2 s s.heap ∧ g.2.2.1 < g.2.2.2.1 ∧ g.2.2.2.1 ≤ s.heap.size ∧ (tqisInit k = true → meth.name = "<init>") ∧ d ≤ R.frames ∧ 60 * d ≤ R.locals
theorem tqnx {a b n : Nat} {x : Except Jvm.ClassFile.DecodeError (Jvm.ClassFile.Instr × Nat)} {i : Jvm.ClassFile.Instr} (h : Nat.beq a (b + n) = true) (hd : x = .ok (i, a - b)) : x = .ok (i, n) ∧ a = b + n := by
  have e := tqbq h
  subst e
  rw [Nat.add_sub_cancel_left] at hd
  exact ⟨hd, rfl⟩
theorem tqy_int {ty : Jvm.ClassFile.FieldType} (h : tqky ty = 0) : ty = .int := by cases ty <;> first | rfl | (cases h)
theorem tqy_long {ty : Jvm.ClassFile.FieldType} (h : tqky ty = 1) : ty = .long := by cases ty <;> first | rfl | (cases h)
theorem tqy_bool {ty : Jvm.ClassFile.FieldType} (h : tqky ty = 2) : ty = .boolean := by cases ty <;> first | rfl | (cases h)
theorem tqy_ref {ty : Jvm.ClassFile.FieldType} (h : tqky ty = 3) (v : Value) (hv : v = .null ∨ ∃ a, v = .ref a) : narrow ty v = v ∧ fits ty v = true := by
  cases ty <;> first
    | (cases h; done)
    | (rcases hv with rfl | ⟨a, rfl⟩ <;> exact ⟨rfl, rfl⟩)
theorem tqrz_ref (g : tqG) (a : Nat) : tqrz g (vR a) = .null ∨ ∃ q, tqrz g (vR a) = .ref q := by
  by_cases h : a = 0
  · subst h; exact Or.inl rfl
  · exact Or.inr ⟨_, tqrz_R h⟩
theorem tqfit1 {x : Int} (h : x = 0 ∨ x = 1) : fits .boolean (.int (Int32.ofInt x)) = true := by rcases h with rfl | rfl <;> decide +kernel
theorem tqfv_w {g : tqG} {m : tqM} {a k j : Nat} {x : Int} (hk : tqk k j = 0 ∨ tqk k j = 2) (i : Nat) : tqfv g (tqw m a (j : Int) x) a k i = if i = j then .int (Int32.ofInt x) else tqfv g m a k i := by
  have e : (tqw m a (j : Int) x).1 a (i : Int) = if (i : Int) = (j : Int) then x else m.1 a (i : Int) := if_pos rfl
  have e2 : (tqw m a (j : Int) x).2.1 a (i : Int) = m.2.1 a (i : Int) := rfl
  by_cases q : i = j
  · subst q
    rw [if_pos rfl] at e ⊢
    unfold tqfv
    rw [e]
    rcases hk with hk | hk <;> rw [hk] <;> rfl
  · rw [if_neg (by omega)] at e
    rw [if_neg q]
    unfold tqfv
    rw [e, e2]
theorem tqfv_l {g : tqG} {m : tqM} {a k j : Nat} {x : Int} (hk : tqk k j = 1) (i : Nat) : tqfv g (tqw m a (j : Int) x) a k i = if i = j then .long (Int64.ofInt x) else tqfv g m a k i := by
  have e : (tqw m a (j : Int) x).1 a (i : Int) = if (i : Int) = (j : Int) then x else m.1 a (i : Int) := if_pos rfl
  have e2 : (tqw m a (j : Int) x).2.1 a (i : Int) = m.2.1 a (i : Int) := rfl
  by_cases q : i = j
  · subst q
    rw [if_pos rfl] at e ⊢
    unfold tqfv
    rw [e, hk]
    rfl
  · rw [if_neg (by omega)] at e
    rw [if_neg q]
    unfold tqfv
    rw [e, e2]
theorem tqfv_p {g : tqG} {m : tqM} {a k j x : Nat} (hk : tqk k j = 3) (i : Nat) : tqfv g (tqp m a (j : Int) x) a k i = if i = j then tqrz g (vR x) else tqfv g m a k i := by
  have e : (tqp m a (j : Int) x).2.1 a (i : Int) = if (i : Int) = (j : Int) then x else m.2.1 a (i : Int) := if_pos rfl
  have e2 : (tqp m a (j : Int) x).1 a (i : Int) = m.1 a (i : Int) := rfl
  by_cases q : i = j
  · subst q
    rw [if_pos rfl] at e ⊢
    unfold tqfv
    rw [e, hk]
    rfl
  · rw [if_neg (by omega)] at e
    rw [if_neg q]
    unfold tqfv
    rw [e, e2]
theorem tqib_some {i : Int} {n : Nat} (h : tqib i n = true) : 0 ≤ i ∧ i < (n : Int) := by
  unfold tqib at h
  simp only [Bool.and_eq_true, decide_eq_true_eq] at h
  exact h
theorem tq_ni {g : Bool} {o : tqRes ⊕ (Nat × List tqV × Nat × Nat × List tqV × List tqV × tqM) ⊕ (Int × List (Int × Nat) × Nat × List tqV × List tqV × tqM)} {q : Bool × Nat × Nat × List tqV × List tqV × tqM} {P : Prop} (h : (some (g, (.inr o : tqO)) : Option (Bool × tqO)) = some (true, .inl q)) : P := by
  injection h with h
  injection h with _ h
  cases h
section TQJ
variable {p : Program} {l : Launch} {e : Env} {R : Room} {s : State} {mid : MethodId} {args : Array Value} {below : List Frame} {meth : Method} {c : Code} {Q : State → Prop} {g : tqG} {c0 s0 pc d k : Nat}
theorem j_iadd {lsA stA : List tqV} {m : tqM} {cb : Bool} {p1 p2 : Nat} {ls' st' : List tqV} {m' : tqM} {nx r1 r2 : Nat} {cv : Int} {sw : List (Int × Nat)} {dd : List Nat}  (Cx : tqCx p R s mid args meth c g d k) (hdec : decode (tqmi k).2.1 pc = .ok (.iadd, nx - pc)) (hlk : tqlk k pc (.iadd, nx, r1, r2, cv, sw, dd) = true) (hX : tqX d (.iadd, nx, r1, r2, cv, sw, dd) lsA stA m = some (true, .inl (cb, p1, p2, ls', st', m'))) (hc : m'.2.2.2.1 - c0 ≤ R.cells) (hs : m'.2.2.2.2 - s0 ≤ R.slots) (h : tqW1 p l e R s mid args below meth c Q g (tqmi k).2.2.1 c0 s0 (bif cb then p1 else p2) ls' st' m') : tqW1 p l e R s mid args below meth c Q g (tqmi k).2.2.1 c0 s0 pc lsA stA m := by
  obtain ⟨hx, hb, hml, hown, hts, hK, hXs, hbA, hbs, hini, hfr, hlo⟩ := Cx
  obtain ⟨y, st0, rfl, hX⟩ := pI_some hX
  obtain ⟨x, st1, rfl, hX⟩ := pI_some hX
  obtain ⟨rfl, rfl, rfl, rfl, rfl, rfl⟩ := tqj_some hX
  obtain ⟨hd, rfl⟩ := tqnx hlk hdec
  exact s_iadd hx hb hd h
theorem j_isub {lsA stA : List tqV} {m : tqM} {cb : Bool} {p1 p2 : Nat} {ls' st' : List tqV} {m' : tqM} {nx r1 r2 : Nat} {cv : Int} {sw : List (Int × Nat)} {dd : List Nat}  (Cx : tqCx p R s mid args meth c g d k) (hdec : decode (tqmi k).2.1 pc = .ok (.isub, nx - pc)) (hlk : tqlk k pc (.isub, nx, r1, r2, cv, sw, dd) = true) (hX : tqX d (.isub, nx, r1, r2, cv, sw, dd) lsA stA m = some (true, .inl (cb, p1, p2, ls', st', m'))) (hc : m'.2.2.2.1 - c0 ≤ R.cells) (hs : m'.2.2.2.2 - s0 ≤ R.slots) (h : tqW1 p l e R s mid args below meth c Q g (tqmi k).2.2.1 c0 s0 (bif cb then p1 else p2) ls' st' m') : tqW1 p l e R s mid args below meth c Q g (tqmi k).2.2.1 c0 s0 pc lsA stA m := by
  obtain ⟨hx, hb, hml, hown, hts, hK, hXs, hbA, hbs, hini, hfr, hlo⟩ := Cx
  obtain ⟨y, st0, rfl, hX⟩ := pI_some hX
  obtain ⟨x, st1, rfl, hX⟩ := pI_some hX
  obtain ⟨rfl, rfl, rfl, rfl, rfl, rfl⟩ := tqj_some hX
  obtain ⟨hd, rfl⟩ := tqnx hlk hdec
  exact s_isub hx hb hd h
theorem j_imul {lsA stA : List tqV} {m : tqM} {cb : Bool} {p1 p2 : Nat} {ls' st' : List tqV} {m' : tqM} {nx r1 r2 : Nat} {cv : Int} {sw : List (Int × Nat)} {dd : List Nat}  (Cx : tqCx p R s mid args meth c g d k) (hdec : decode (tqmi k).2.1 pc = .ok (.imul, nx - pc)) (hlk : tqlk k pc (.imul, nx, r1, r2, cv, sw, dd) = true) (hX : tqX d (.imul, nx, r1, r2, cv, sw, dd) lsA stA m = some (true, .inl (cb, p1, p2, ls', st', m'))) (hc : m'.2.2.2.1 - c0 ≤ R.cells) (hs : m'.2.2.2.2 - s0 ≤ R.slots) (h : tqW1 p l e R s mid args below meth c Q g (tqmi k).2.2.1 c0 s0 (bif cb then p1 else p2) ls' st' m') : tqW1 p l e R s mid args below meth c Q g (tqmi k).2.2.1 c0 s0 pc lsA stA m := by
  obtain ⟨hx, hb, hml, hown, hts, hK, hXs, hbA, hbs, hini, hfr, hlo⟩ := Cx
  obtain ⟨y, st0, rfl, hX⟩ := pI_some hX
  obtain ⟨x, st1, rfl, hX⟩ := pI_some hX
  obtain ⟨rfl, rfl, rfl, rfl, rfl, rfl⟩ := tqj_some hX
  obtain ⟨hd, rfl⟩ := tqnx hlk hdec
  exact s_imul hx hb hd h
theorem j_iand {lsA stA : List tqV} {m : tqM} {cb : Bool} {p1 p2 : Nat} {ls' st' : List tqV} {m' : tqM} {nx r1 r2 : Nat} {cv : Int} {sw : List (Int × Nat)} {dd : List Nat}  (Cx : tqCx p R s mid args meth c g d k) (hdec : decode (tqmi k).2.1 pc = .ok (.iand, nx - pc)) (hlk : tqlk k pc (.iand, nx, r1, r2, cv, sw, dd) = true) (hX : tqX d (.iand, nx, r1, r2, cv, sw, dd) lsA stA m = some (true, .inl (cb, p1, p2, ls', st', m'))) (hc : m'.2.2.2.1 - c0 ≤ R.cells) (hs : m'.2.2.2.2 - s0 ≤ R.slots) (h : tqW1 p l e R s mid args below meth c Q g (tqmi k).2.2.1 c0 s0 (bif cb then p1 else p2) ls' st' m') : tqW1 p l e R s mid args below meth c Q g (tqmi k).2.2.1 c0 s0 pc lsA stA m := by
  obtain ⟨hx, hb, hml, hown, hts, hK, hXs, hbA, hbs, hini, hfr, hlo⟩ := Cx
  obtain ⟨y, st0, rfl, hX⟩ := pI_some hX
  obtain ⟨x, st1, rfl, hX⟩ := pI_some hX
  obtain ⟨rfl, rfl, rfl, rfl, rfl, rfl⟩ := tqj_some hX
  obtain ⟨hd, rfl⟩ := tqnx hlk hdec
  exact s_iand hx hb hd h
theorem j_ior {lsA stA : List tqV} {m : tqM} {cb : Bool} {p1 p2 : Nat} {ls' st' : List tqV} {m' : tqM} {nx r1 r2 : Nat} {cv : Int} {sw : List (Int × Nat)} {dd : List Nat}  (Cx : tqCx p R s mid args meth c g d k) (hdec : decode (tqmi k).2.1 pc = .ok (.ior, nx - pc)) (hlk : tqlk k pc (.ior, nx, r1, r2, cv, sw, dd) = true) (hX : tqX d (.ior, nx, r1, r2, cv, sw, dd) lsA stA m = some (true, .inl (cb, p1, p2, ls', st', m'))) (hc : m'.2.2.2.1 - c0 ≤ R.cells) (hs : m'.2.2.2.2 - s0 ≤ R.slots) (h : tqW1 p l e R s mid args below meth c Q g (tqmi k).2.2.1 c0 s0 (bif cb then p1 else p2) ls' st' m') : tqW1 p l e R s mid args below meth c Q g (tqmi k).2.2.1 c0 s0 pc lsA stA m := by
  obtain ⟨hx, hb, hml, hown, hts, hK, hXs, hbA, hbs, hini, hfr, hlo⟩ := Cx
  obtain ⟨y, st0, rfl, hX⟩ := pI_some hX
  obtain ⟨x, st1, rfl, hX⟩ := pI_some hX
  obtain ⟨rfl, rfl, rfl, rfl, rfl, rfl⟩ := tqj_some hX
  obtain ⟨hd, rfl⟩ := tqnx hlk hdec
  exact s_ior hx hb hd h
theorem j_ixor {lsA stA : List tqV} {m : tqM} {cb : Bool} {p1 p2 : Nat} {ls' st' : List tqV} {m' : tqM} {nx r1 r2 : Nat} {cv : Int} {sw : List (Int × Nat)} {dd : List Nat}  (Cx : tqCx p R s mid args meth c g d k) (hdec : decode (tqmi k).2.1 pc = .ok (.ixor, nx - pc)) (hlk : tqlk k pc (.ixor, nx, r1, r2, cv, sw, dd) = true) (hX : tqX d (.ixor, nx, r1, r2, cv, sw, dd) lsA stA m = some (true, .inl (cb, p1, p2, ls', st', m'))) (hc : m'.2.2.2.1 - c0 ≤ R.cells) (hs : m'.2.2.2.2 - s0 ≤ R.slots) (h : tqW1 p l e R s mid args below meth c Q g (tqmi k).2.2.1 c0 s0 (bif cb then p1 else p2) ls' st' m') : tqW1 p l e R s mid args below meth c Q g (tqmi k).2.2.1 c0 s0 pc lsA stA m := by
  obtain ⟨hx, hb, hml, hown, hts, hK, hXs, hbA, hbs, hini, hfr, hlo⟩ := Cx
  obtain ⟨y, st0, rfl, hX⟩ := pI_some hX
  obtain ⟨x, st1, rfl, hX⟩ := pI_some hX
  obtain ⟨rfl, rfl, rfl, rfl, rfl, rfl⟩ := tqj_some hX
  obtain ⟨hd, rfl⟩ := tqnx hlk hdec
  exact s_ixor hx hb hd h
theorem j_ishl {lsA stA : List tqV} {m : tqM} {cb : Bool} {p1 p2 : Nat} {ls' st' : List tqV} {m' : tqM} {nx r1 r2 : Nat} {cv : Int} {sw : List (Int × Nat)} {dd : List Nat}  (Cx : tqCx p R s mid args meth c g d k) (hdec : decode (tqmi k).2.1 pc = .ok (.ishl, nx - pc)) (hlk : tqlk k pc (.ishl, nx, r1, r2, cv, sw, dd) = true) (hX : tqX d (.ishl, nx, r1, r2, cv, sw, dd) lsA stA m = some (true, .inl (cb, p1, p2, ls', st', m'))) (hc : m'.2.2.2.1 - c0 ≤ R.cells) (hs : m'.2.2.2.2 - s0 ≤ R.slots) (h : tqW1 p l e R s mid args below meth c Q g (tqmi k).2.2.1 c0 s0 (bif cb then p1 else p2) ls' st' m') : tqW1 p l e R s mid args below meth c Q g (tqmi k).2.2.1 c0 s0 pc lsA stA m := by
  obtain ⟨hx, hb, hml, hown, hts, hK, hXs, hbA, hbs, hini, hfr, hlo⟩ := Cx
  obtain ⟨y, st0, rfl, hX⟩ := pI_some hX
  obtain ⟨x, st1, rfl, hX⟩ := pI_some hX
  obtain ⟨rfl, rfl, rfl, rfl, rfl, rfl⟩ := tqj_some hX
  obtain ⟨hd, rfl⟩ := tqnx hlk hdec
  exact s_ishl hx hb hd h
theorem j_ishr {lsA stA : List tqV} {m : tqM} {cb : Bool} {p1 p2 : Nat} {ls' st' : List tqV} {m' : tqM} {nx r1 r2 : Nat} {cv : Int} {sw : List (Int × Nat)} {dd : List Nat}  (Cx : tqCx p R s mid args meth c g d k) (hdec : decode (tqmi k).2.1 pc = .ok (.ishr, nx - pc)) (hlk : tqlk k pc (.ishr, nx, r1, r2, cv, sw, dd) = true) (hX : tqX d (.ishr, nx, r1, r2, cv, sw, dd) lsA stA m = some (true, .inl (cb, p1, p2, ls', st', m'))) (hc : m'.2.2.2.1 - c0 ≤ R.cells) (hs : m'.2.2.2.2 - s0 ≤ R.slots) (h : tqW1 p l e R s mid args below meth c Q g (tqmi k).2.2.1 c0 s0 (bif cb then p1 else p2) ls' st' m') : tqW1 p l e R s mid args below meth c Q g (tqmi k).2.2.1 c0 s0 pc lsA stA m := by
  obtain ⟨hx, hb, hml, hown, hts, hK, hXs, hbA, hbs, hini, hfr, hlo⟩ := Cx
  obtain ⟨y, st0, rfl, hX⟩ := pI_some hX
  obtain ⟨x, st1, rfl, hX⟩ := pI_some hX
  obtain ⟨rfl, rfl, rfl, rfl, rfl, rfl⟩ := tqj_some hX
  obtain ⟨hd, rfl⟩ := tqnx hlk hdec
  exact s_ishr hx hb hd h
theorem j_iushr {lsA stA : List tqV} {m : tqM} {cb : Bool} {p1 p2 : Nat} {ls' st' : List tqV} {m' : tqM} {nx r1 r2 : Nat} {cv : Int} {sw : List (Int × Nat)} {dd : List Nat}  (Cx : tqCx p R s mid args meth c g d k) (hdec : decode (tqmi k).2.1 pc = .ok (.iushr, nx - pc)) (hlk : tqlk k pc (.iushr, nx, r1, r2, cv, sw, dd) = true) (hX : tqX d (.iushr, nx, r1, r2, cv, sw, dd) lsA stA m = some (true, .inl (cb, p1, p2, ls', st', m'))) (hc : m'.2.2.2.1 - c0 ≤ R.cells) (hs : m'.2.2.2.2 - s0 ≤ R.slots) (h : tqW1 p l e R s mid args below meth c Q g (tqmi k).2.2.1 c0 s0 (bif cb then p1 else p2) ls' st' m') : tqW1 p l e R s mid args below meth c Q g (tqmi k).2.2.1 c0 s0 pc lsA stA m := by
  obtain ⟨hx, hb, hml, hown, hts, hK, hXs, hbA, hbs, hini, hfr, hlo⟩ := Cx
  obtain ⟨y, st0, rfl, hX⟩ := pI_some hX
  obtain ⟨x, st1, rfl, hX⟩ := pI_some hX
  obtain ⟨rfl, rfl, rfl, rfl, rfl, rfl⟩ := tqj_some hX
  obtain ⟨hd, rfl⟩ := tqnx hlk hdec
  exact s_iushr hx hb hd h
theorem j_ladd {lsA stA : List tqV} {m : tqM} {cb : Bool} {p1 p2 : Nat} {ls' st' : List tqV} {m' : tqM} {nx r1 r2 : Nat} {cv : Int} {sw : List (Int × Nat)} {dd : List Nat}  (Cx : tqCx p R s mid args meth c g d k) (hdec : decode (tqmi k).2.1 pc = .ok (.ladd, nx - pc)) (hlk : tqlk k pc (.ladd, nx, r1, r2, cv, sw, dd) = true) (hX : tqX d (.ladd, nx, r1, r2, cv, sw, dd) lsA stA m = some (true, .inl (cb, p1, p2, ls', st', m'))) (hc : m'.2.2.2.1 - c0 ≤ R.cells) (hs : m'.2.2.2.2 - s0 ≤ R.slots) (h : tqW1 p l e R s mid args below meth c Q g (tqmi k).2.2.1 c0 s0 (bif cb then p1 else p2) ls' st' m') : tqW1 p l e R s mid args below meth c Q g (tqmi k).2.2.1 c0 s0 pc lsA stA m := by
  obtain ⟨hx, hb, hml, hown, hts, hK, hXs, hbA, hbs, hini, hfr, hlo⟩ := Cx
  obtain ⟨y, st0, rfl, hX⟩ := pL_some hX
  obtain ⟨x, st1, rfl, hX⟩ := pL_some hX
  obtain ⟨rfl, rfl, rfl, rfl, rfl, rfl⟩ := tqj_some hX
  obtain ⟨hd, rfl⟩ := tqnx hlk hdec
  exact s_ladd hx hb hd h
theorem j_lsub {lsA stA : List tqV} {m : tqM} {cb : Bool} {p1 p2 : Nat} {ls' st' : List tqV} {m' : tqM} {nx r1 r2 : Nat} {cv : Int} {sw : List (Int × Nat)} {dd : List Nat}  (Cx : tqCx p R s mid args meth c g d k) (hdec : decode (tqmi k).2.1 pc = .ok (.lsub, nx - pc)) (hlk : tqlk k pc (.lsub, nx, r1, r2, cv, sw, dd) = true) (hX : tqX d (.lsub, nx, r1, r2, cv, sw, dd) lsA stA m = some (true, .inl (cb, p1, p2, ls', st', m'))) (hc : m'.2.2.2.1 - c0 ≤ R.cells) (hs : m'.2.2.2.2 - s0 ≤ R.slots) (h : tqW1 p l e R s mid args below meth c Q g (tqmi k).2.2.1 c0 s0 (bif cb then p1 else p2) ls' st' m') : tqW1 p l e R s mid args below meth c Q g (tqmi k).2.2.1 c0 s0 pc lsA stA m := by
  obtain ⟨hx, hb, hml, hown, hts, hK, hXs, hbA, hbs, hini, hfr, hlo⟩ := Cx
  obtain ⟨y, st0, rfl, hX⟩ := pL_some hX
  obtain ⟨x, st1, rfl, hX⟩ := pL_some hX
  obtain ⟨rfl, rfl, rfl, rfl, rfl, rfl⟩ := tqj_some hX
  obtain ⟨hd, rfl⟩ := tqnx hlk hdec
  exact s_lsub hx hb hd h
theorem j_lmul {lsA stA : List tqV} {m : tqM} {cb : Bool} {p1 p2 : Nat} {ls' st' : List tqV} {m' : tqM} {nx r1 r2 : Nat} {cv : Int} {sw : List (Int × Nat)} {dd : List Nat}  (Cx : tqCx p R s mid args meth c g d k) (hdec : decode (tqmi k).2.1 pc = .ok (.lmul, nx - pc)) (hlk : tqlk k pc (.lmul, nx, r1, r2, cv, sw, dd) = true) (hX : tqX d (.lmul, nx, r1, r2, cv, sw, dd) lsA stA m = some (true, .inl (cb, p1, p2, ls', st', m'))) (hc : m'.2.2.2.1 - c0 ≤ R.cells) (hs : m'.2.2.2.2 - s0 ≤ R.slots) (h : tqW1 p l e R s mid args below meth c Q g (tqmi k).2.2.1 c0 s0 (bif cb then p1 else p2) ls' st' m') : tqW1 p l e R s mid args below meth c Q g (tqmi k).2.2.1 c0 s0 pc lsA stA m := by
  obtain ⟨hx, hb, hml, hown, hts, hK, hXs, hbA, hbs, hini, hfr, hlo⟩ := Cx
  obtain ⟨y, st0, rfl, hX⟩ := pL_some hX
  obtain ⟨x, st1, rfl, hX⟩ := pL_some hX
  obtain ⟨rfl, rfl, rfl, rfl, rfl, rfl⟩ := tqj_some hX
  obtain ⟨hd, rfl⟩ := tqnx hlk hdec
  exact s_lmul hx hb hd h
theorem j_lcmp {lsA stA : List tqV} {m : tqM} {cb : Bool} {p1 p2 : Nat} {ls' st' : List tqV} {m' : tqM} {nx r1 r2 : Nat} {cv : Int} {sw : List (Int × Nat)} {dd : List Nat}  (Cx : tqCx p R s mid args meth c g d k) (hdec : decode (tqmi k).2.1 pc = .ok (.lcmp, nx - pc)) (hlk : tqlk k pc (.lcmp, nx, r1, r2, cv, sw, dd) = true) (hX : tqX d (.lcmp, nx, r1, r2, cv, sw, dd) lsA stA m = some (true, .inl (cb, p1, p2, ls', st', m'))) (hc : m'.2.2.2.1 - c0 ≤ R.cells) (hs : m'.2.2.2.2 - s0 ≤ R.slots) (h : tqW1 p l e R s mid args below meth c Q g (tqmi k).2.2.1 c0 s0 (bif cb then p1 else p2) ls' st' m') : tqW1 p l e R s mid args below meth c Q g (tqmi k).2.2.1 c0 s0 pc lsA stA m := by
  obtain ⟨hx, hb, hml, hown, hts, hK, hXs, hbA, hbs, hini, hfr, hlo⟩ := Cx
  obtain ⟨y, st0, rfl, hX⟩ := pL_some hX
  obtain ⟨x, st1, rfl, hX⟩ := pL_some hX
  obtain ⟨rfl, rfl, rfl, rfl, rfl, rfl⟩ := tqj_some hX
  obtain ⟨hd, rfl⟩ := tqnx hlk hdec
  exact s_lcmp hx hb hd h
theorem j_idiv {lsA stA : List tqV} {m : tqM} {cb : Bool} {p1 p2 : Nat} {ls' st' : List tqV} {m' : tqM} {nx r1 r2 : Nat} {cv : Int} {sw : List (Int × Nat)} {dd : List Nat}  (Cx : tqCx p R s mid args meth c g d k) (hdec : decode (tqmi k).2.1 pc = .ok (.idiv, nx - pc)) (hlk : tqlk k pc (.idiv, nx, r1, r2, cv, sw, dd) = true) (hX : tqX d (.idiv, nx, r1, r2, cv, sw, dd) lsA stA m = some (true, .inl (cb, p1, p2, ls', st', m'))) (hc : m'.2.2.2.1 - c0 ≤ R.cells) (hs : m'.2.2.2.2 - s0 ≤ R.slots) (h : tqW1 p l e R s mid args below meth c Q g (tqmi k).2.2.1 c0 s0 (bif cb then p1 else p2) ls' st' m') : tqW1 p l e R s mid args below meth c Q g (tqmi k).2.2.1 c0 s0 pc lsA stA m := by
  obtain ⟨hx, hb, hml, hown, hts, hK, hXs, hbA, hbs, hini, hfr, hlo⟩ := Cx
  obtain ⟨y, st0, rfl, hX⟩ := pI_some hX
  obtain ⟨x, st1, rfl, hX⟩ := pI_some hX
  obtain ⟨hg, rfl, rfl, rfl, rfl, rfl, rfl⟩ := tqjg_some hX
  obtain ⟨hd, rfl⟩ := tqnx hlk hdec
  exact s_idiv (of_decide_eq_true hg) hx hb hd h
theorem j_irem {lsA stA : List tqV} {m : tqM} {cb : Bool} {p1 p2 : Nat} {ls' st' : List tqV} {m' : tqM} {nx r1 r2 : Nat} {cv : Int} {sw : List (Int × Nat)} {dd : List Nat}  (Cx : tqCx p R s mid args meth c g d k) (hdec : decode (tqmi k).2.1 pc = .ok (.irem, nx - pc)) (hlk : tqlk k pc (.irem, nx, r1, r2, cv, sw, dd) = true) (hX : tqX d (.irem, nx, r1, r2, cv, sw, dd) lsA stA m = some (true, .inl (cb, p1, p2, ls', st', m'))) (hc : m'.2.2.2.1 - c0 ≤ R.cells) (hs : m'.2.2.2.2 - s0 ≤ R.slots) (h : tqW1 p l e R s mid args below meth c Q g (tqmi k).2.2.1 c0 s0 (bif cb then p1 else p2) ls' st' m') : tqW1 p l e R s mid args below meth c Q g (tqmi k).2.2.1 c0 s0 pc lsA stA m := by
  obtain ⟨hx, hb, hml, hown, hts, hK, hXs, hbA, hbs, hini, hfr, hlo⟩ := Cx
  obtain ⟨y, st0, rfl, hX⟩ := pI_some hX
  obtain ⟨x, st1, rfl, hX⟩ := pI_some hX
  obtain ⟨hg, rfl, rfl, rfl, rfl, rfl, rfl⟩ := tqjg_some hX
  obtain ⟨hd, rfl⟩ := tqnx hlk hdec
  exact s_irem (of_decide_eq_true hg) hx hb hd h
theorem j_ldiv {lsA stA : List tqV} {m : tqM} {cb : Bool} {p1 p2 : Nat} {ls' st' : List tqV} {m' : tqM} {nx r1 r2 : Nat} {cv : Int} {sw : List (Int × Nat)} {dd : List Nat}  (Cx : tqCx p R s mid args meth c g d k) (hdec : decode (tqmi k).2.1 pc = .ok (.ldiv, nx - pc)) (hlk : tqlk k pc (.ldiv, nx, r1, r2, cv, sw, dd) = true) (hX : tqX d (.ldiv, nx, r1, r2, cv, sw, dd) lsA stA m = some (true, .inl (cb, p1, p2, ls', st', m'))) (hc : m'.2.2.2.1 - c0 ≤ R.cells) (hs : m'.2.2.2.2 - s0 ≤ R.slots) (h : tqW1 p l e R s mid args below meth c Q g (tqmi k).2.2.1 c0 s0 (bif cb then p1 else p2) ls' st' m') : tqW1 p l e R s mid args below meth c Q g (tqmi k).2.2.1 c0 s0 pc lsA stA m := by
  obtain ⟨hx, hb, hml, hown, hts, hK, hXs, hbA, hbs, hini, hfr, hlo⟩ := Cx
  obtain ⟨y, st0, rfl, hX⟩ := pL_some hX
  obtain ⟨x, st1, rfl, hX⟩ := pL_some hX
  obtain ⟨hg, rfl, rfl, rfl, rfl, rfl, rfl⟩ := tqjg_some hX
  obtain ⟨hd, rfl⟩ := tqnx hlk hdec
  exact s_ldiv (of_decide_eq_true hg) hx hb hd h
theorem j_lrem {lsA stA : List tqV} {m : tqM} {cb : Bool} {p1 p2 : Nat} {ls' st' : List tqV} {m' : tqM} {nx r1 r2 : Nat} {cv : Int} {sw : List (Int × Nat)} {dd : List Nat}  (Cx : tqCx p R s mid args meth c g d k) (hdec : decode (tqmi k).2.1 pc = .ok (.lrem, nx - pc)) (hlk : tqlk k pc (.lrem, nx, r1, r2, cv, sw, dd) = true) (hX : tqX d (.lrem, nx, r1, r2, cv, sw, dd) lsA stA m = some (true, .inl (cb, p1, p2, ls', st', m'))) (hc : m'.2.2.2.1 - c0 ≤ R.cells) (hs : m'.2.2.2.2 - s0 ≤ R.slots) (h : tqW1 p l e R s mid args below meth c Q g (tqmi k).2.2.1 c0 s0 (bif cb then p1 else p2) ls' st' m') : tqW1 p l e R s mid args below meth c Q g (tqmi k).2.2.1 c0 s0 pc lsA stA m := by
  obtain ⟨hx, hb, hml, hown, hts, hK, hXs, hbA, hbs, hini, hfr, hlo⟩ := Cx
  obtain ⟨y, st0, rfl, hX⟩ := pL_some hX
  obtain ⟨x, st1, rfl, hX⟩ := pL_some hX
  obtain ⟨hg, rfl, rfl, rfl, rfl, rfl, rfl⟩ := tqjg_some hX
  obtain ⟨hd, rfl⟩ := tqnx hlk hdec
  exact s_lrem (of_decide_eq_true hg) hx hb hd h
theorem j_ineg {lsA stA : List tqV} {m : tqM} {cb : Bool} {p1 p2 : Nat} {ls' st' : List tqV} {m' : tqM} {nx r1 r2 : Nat} {cv : Int} {sw : List (Int × Nat)} {dd : List Nat}  (Cx : tqCx p R s mid args meth c g d k) (hdec : decode (tqmi k).2.1 pc = .ok (.ineg, nx - pc)) (hlk : tqlk k pc (.ineg, nx, r1, r2, cv, sw, dd) = true) (hX : tqX d (.ineg, nx, r1, r2, cv, sw, dd) lsA stA m = some (true, .inl (cb, p1, p2, ls', st', m'))) (hc : m'.2.2.2.1 - c0 ≤ R.cells) (hs : m'.2.2.2.2 - s0 ≤ R.slots) (h : tqW1 p l e R s mid args below meth c Q g (tqmi k).2.2.1 c0 s0 (bif cb then p1 else p2) ls' st' m') : tqW1 p l e R s mid args below meth c Q g (tqmi k).2.2.1 c0 s0 pc lsA stA m := by
  obtain ⟨hx, hb, hml, hown, hts, hK, hXs, hbA, hbs, hini, hfr, hlo⟩ := Cx
  obtain ⟨x, st0, rfl, hX⟩ := pI_some hX
  obtain ⟨rfl, rfl, rfl, rfl, rfl, rfl⟩ := tqj_some hX
  obtain ⟨hd, rfl⟩ := tqnx hlk hdec
  exact s_ineg hx hb hd h
theorem j_lneg {lsA stA : List tqV} {m : tqM} {cb : Bool} {p1 p2 : Nat} {ls' st' : List tqV} {m' : tqM} {nx r1 r2 : Nat} {cv : Int} {sw : List (Int × Nat)} {dd : List Nat}  (Cx : tqCx p R s mid args meth c g d k) (hdec : decode (tqmi k).2.1 pc = .ok (.lneg, nx - pc)) (hlk : tqlk k pc (.lneg, nx, r1, r2, cv, sw, dd) = true) (hX : tqX d (.lneg, nx, r1, r2, cv, sw, dd) lsA stA m = some (true, .inl (cb, p1, p2, ls', st', m'))) (hc : m'.2.2.2.1 - c0 ≤ R.cells) (hs : m'.2.2.2.2 - s0 ≤ R.slots) (h : tqW1 p l e R s mid args below meth c Q g (tqmi k).2.2.1 c0 s0 (bif cb then p1 else p2) ls' st' m') : tqW1 p l e R s mid args below meth c Q g (tqmi k).2.2.1 c0 s0 pc lsA stA m := by
  obtain ⟨hx, hb, hml, hown, hts, hK, hXs, hbA, hbs, hini, hfr, hlo⟩ := Cx
  obtain ⟨x, st0, rfl, hX⟩ := pL_some hX
  obtain ⟨rfl, rfl, rfl, rfl, rfl, rfl⟩ := tqj_some hX
  obtain ⟨hd, rfl⟩ := tqnx hlk hdec
  exact s_lneg hx hb hd h
theorem j_i2l {lsA stA : List tqV} {m : tqM} {cb : Bool} {p1 p2 : Nat} {ls' st' : List tqV} {m' : tqM} {nx r1 r2 : Nat} {cv : Int} {sw : List (Int × Nat)} {dd : List Nat}  (Cx : tqCx p R s mid args meth c g d k) (hdec : decode (tqmi k).2.1 pc = .ok (.i2l, nx - pc)) (hlk : tqlk k pc (.i2l, nx, r1, r2, cv, sw, dd) = true) (hX : tqX d (.i2l, nx, r1, r2, cv, sw, dd) lsA stA m = some (true, .inl (cb, p1, p2, ls', st', m'))) (hc : m'.2.2.2.1 - c0 ≤ R.cells) (hs : m'.2.2.2.2 - s0 ≤ R.slots) (h : tqW1 p l e R s mid args below meth c Q g (tqmi k).2.2.1 c0 s0 (bif cb then p1 else p2) ls' st' m') : tqW1 p l e R s mid args below meth c Q g (tqmi k).2.2.1 c0 s0 pc lsA stA m := by
  obtain ⟨hx, hb, hml, hown, hts, hK, hXs, hbA, hbs, hini, hfr, hlo⟩ := Cx
  obtain ⟨x, st0, rfl, hX⟩ := pI_some hX
  obtain ⟨rfl, rfl, rfl, rfl, rfl, rfl⟩ := tqj_some hX
  obtain ⟨hd, rfl⟩ := tqnx hlk hdec
  exact s_i2l hx hb hd h
theorem j_l2i {lsA stA : List tqV} {m : tqM} {cb : Bool} {p1 p2 : Nat} {ls' st' : List tqV} {m' : tqM} {nx r1 r2 : Nat} {cv : Int} {sw : List (Int × Nat)} {dd : List Nat}  (Cx : tqCx p R s mid args meth c g d k) (hdec : decode (tqmi k).2.1 pc = .ok (.l2i, nx - pc)) (hlk : tqlk k pc (.l2i, nx, r1, r2, cv, sw, dd) = true) (hX : tqX d (.l2i, nx, r1, r2, cv, sw, dd) lsA stA m = some (true, .inl (cb, p1, p2, ls', st', m'))) (hc : m'.2.2.2.1 - c0 ≤ R.cells) (hs : m'.2.2.2.2 - s0 ≤ R.slots) (h : tqW1 p l e R s mid args below meth c Q g (tqmi k).2.2.1 c0 s0 (bif cb then p1 else p2) ls' st' m') : tqW1 p l e R s mid args below meth c Q g (tqmi k).2.2.1 c0 s0 pc lsA stA m := by
  obtain ⟨hx, hb, hml, hown, hts, hK, hXs, hbA, hbs, hini, hfr, hlo⟩ := Cx
  obtain ⟨x, st0, rfl, hX⟩ := pL_some hX
  obtain ⟨rfl, rfl, rfl, rfl, rfl, rfl⟩ := tqj_some hX
  obtain ⟨hd, rfl⟩ := tqnx hlk hdec
  exact s_l2i hx hb hd h
theorem j_i2b {lsA stA : List tqV} {m : tqM} {cb : Bool} {p1 p2 : Nat} {ls' st' : List tqV} {m' : tqM} {nx r1 r2 : Nat} {cv : Int} {sw : List (Int × Nat)} {dd : List Nat}  (Cx : tqCx p R s mid args meth c g d k) (hdec : decode (tqmi k).2.1 pc = .ok (.i2b, nx - pc)) (hlk : tqlk k pc (.i2b, nx, r1, r2, cv, sw, dd) = true) (hX : tqX d (.i2b, nx, r1, r2, cv, sw, dd) lsA stA m = some (true, .inl (cb, p1, p2, ls', st', m'))) (hc : m'.2.2.2.1 - c0 ≤ R.cells) (hs : m'.2.2.2.2 - s0 ≤ R.slots) (h : tqW1 p l e R s mid args below meth c Q g (tqmi k).2.2.1 c0 s0 (bif cb then p1 else p2) ls' st' m') : tqW1 p l e R s mid args below meth c Q g (tqmi k).2.2.1 c0 s0 pc lsA stA m := by
  obtain ⟨hx, hb, hml, hown, hts, hK, hXs, hbA, hbs, hini, hfr, hlo⟩ := Cx
  obtain ⟨x, st0, rfl, hX⟩ := pI_some hX
  obtain ⟨rfl, rfl, rfl, rfl, rfl, rfl⟩ := tqj_some hX
  obtain ⟨hd, rfl⟩ := tqnx hlk hdec
  exact s_i2b hx hb hd h
theorem j_iconst {lsA stA : List tqV} {m : tqM} {cb : Bool} {p1 p2 : Nat} {ls' st' : List tqV} {m' : tqM} {nx r1 r2 : Nat} {cv : Int} {sw : List (Int × Nat)} {dd : List Nat} {n : Int} (Cx : tqCx p R s mid args meth c g d k) (hdec : decode (tqmi k).2.1 pc = .ok (.iconst n, nx - pc)) (hlk : tqlk k pc (.iconst n, nx, r1, r2, cv, sw, dd) = true) (hX : tqX d (.iconst n, nx, r1, r2, cv, sw, dd) lsA stA m = some (true, .inl (cb, p1, p2, ls', st', m'))) (hc : m'.2.2.2.1 - c0 ≤ R.cells) (hs : m'.2.2.2.2 - s0 ≤ R.slots) (h : tqW1 p l e R s mid args below meth c Q g (tqmi k).2.2.1 c0 s0 (bif cb then p1 else p2) ls' st' m') : tqW1 p l e R s mid args below meth c Q g (tqmi k).2.2.1 c0 s0 pc lsA stA m := by
  obtain ⟨hx, hb, hml, hown, hts, hK, hXs, hbA, hbs, hini, hfr, hlo⟩ := Cx
  obtain ⟨rfl, rfl, rfl, rfl, rfl, rfl⟩ := tqj_some hX
  unfold tqlk at hlk
  simp only [Bool.and_eq_true, decide_eq_true_eq] at hlk
  obtain ⟨hd, rfl⟩ := tqnx hlk.2 hdec
  exact s_iconst (show in32 n by unfold in32; omega) hx hb hd h
theorem j_bipush {lsA stA : List tqV} {m : tqM} {cb : Bool} {p1 p2 : Nat} {ls' st' : List tqV} {m' : tqM} {nx r1 r2 : Nat} {cv : Int} {sw : List (Int × Nat)} {dd : List Nat} {n : Int} (Cx : tqCx p R s mid args meth c g d k) (hdec : decode (tqmi k).2.1 pc = .ok (.bipush n, nx - pc)) (hlk : tqlk k pc (.bipush n, nx, r1, r2, cv, sw, dd) = true) (hX : tqX d (.bipush n, nx, r1, r2, cv, sw, dd) lsA stA m = some (true, .inl (cb, p1, p2, ls', st', m'))) (hc : m'.2.2.2.1 - c0 ≤ R.cells) (hs : m'.2.2.2.2 - s0 ≤ R.slots) (h : tqW1 p l e R s mid args below meth c Q g (tqmi k).2.2.1 c0 s0 (bif cb then p1 else p2) ls' st' m') : tqW1 p l e R s mid args below meth c Q g (tqmi k).2.2.1 c0 s0 pc lsA stA m := by
  obtain ⟨hx, hb, hml, hown, hts, hK, hXs, hbA, hbs, hini, hfr, hlo⟩ := Cx
  obtain ⟨hg, rfl, rfl, rfl, rfl, rfl, rfl⟩ := tqjg_some hX
  obtain ⟨hd, rfl⟩ := tqnx hlk hdec
  simp only [Bool.and_eq_true, decide_eq_true_eq] at hg
  exact s_bipush hg hx hb hd h
theorem j_sipush {lsA stA : List tqV} {m : tqM} {cb : Bool} {p1 p2 : Nat} {ls' st' : List tqV} {m' : tqM} {nx r1 r2 : Nat} {cv : Int} {sw : List (Int × Nat)} {dd : List Nat} {n : Int} (Cx : tqCx p R s mid args meth c g d k) (hdec : decode (tqmi k).2.1 pc = .ok (.sipush n, nx - pc)) (hlk : tqlk k pc (.sipush n, nx, r1, r2, cv, sw, dd) = true) (hX : tqX d (.sipush n, nx, r1, r2, cv, sw, dd) lsA stA m = some (true, .inl (cb, p1, p2, ls', st', m'))) (hc : m'.2.2.2.1 - c0 ≤ R.cells) (hs : m'.2.2.2.2 - s0 ≤ R.slots) (h : tqW1 p l e R s mid args below meth c Q g (tqmi k).2.2.1 c0 s0 (bif cb then p1 else p2) ls' st' m') : tqW1 p l e R s mid args below meth c Q g (tqmi k).2.2.1 c0 s0 pc lsA stA m := by
  obtain ⟨hx, hb, hml, hown, hts, hK, hXs, hbA, hbs, hini, hfr, hlo⟩ := Cx
  obtain ⟨hg, rfl, rfl, rfl, rfl, rfl, rfl⟩ := tqjg_some hX
  obtain ⟨hd, rfl⟩ := tqnx hlk hdec
  simp only [Bool.and_eq_true, decide_eq_true_eq] at hg
  exact s_sipush hg hx hb hd h
theorem j_lconst {lsA stA : List tqV} {m : tqM} {cb : Bool} {p1 p2 : Nat} {ls' st' : List tqV} {m' : tqM} {nx r1 r2 : Nat} {cv : Int} {sw : List (Int × Nat)} {dd : List Nat} {n : Fin 2} (Cx : tqCx p R s mid args meth c g d k) (hdec : decode (tqmi k).2.1 pc = .ok (.lconst n, nx - pc)) (hlk : tqlk k pc (.lconst n, nx, r1, r2, cv, sw, dd) = true) (hX : tqX d (.lconst n, nx, r1, r2, cv, sw, dd) lsA stA m = some (true, .inl (cb, p1, p2, ls', st', m'))) (hc : m'.2.2.2.1 - c0 ≤ R.cells) (hs : m'.2.2.2.2 - s0 ≤ R.slots) (h : tqW1 p l e R s mid args below meth c Q g (tqmi k).2.2.1 c0 s0 (bif cb then p1 else p2) ls' st' m') : tqW1 p l e R s mid args below meth c Q g (tqmi k).2.2.1 c0 s0 pc lsA stA m := by
  obtain ⟨hx, hb, hml, hown, hts, hK, hXs, hbA, hbs, hini, hfr, hlo⟩ := Cx
  obtain ⟨rfl, rfl, rfl, rfl, rfl, rfl⟩ := tqj_some hX
  obtain ⟨hd, rfl⟩ := tqnx hlk hdec
  exact s_lconst hx hb hd h
theorem j_ldc {lsA stA : List tqV} {m : tqM} {cb : Bool} {p1 p2 : Nat} {ls' st' : List tqV} {m' : tqM} {nx r1 r2 : Nat} {cv : Int} {sw : List (Int × Nat)} {dd : List Nat} {idx : Nat} (Cx : tqCx p R s mid args meth c g d k) (hdec : decode (tqmi k).2.1 pc = .ok (.ldc idx, nx - pc)) (hlk : tqlk k pc (.ldc idx, nx, r1, r2, cv, sw, dd) = true) (hX : tqX d (.ldc idx, nx, r1, r2, cv, sw, dd) lsA stA m = some (true, .inl (cb, p1, p2, ls', st', m'))) (hc : m'.2.2.2.1 - c0 ≤ R.cells) (hs : m'.2.2.2.2 - s0 ≤ R.slots) (h : tqW1 p l e R s mid args below meth c Q g (tqmi k).2.2.1 c0 s0 (bif cb then p1 else p2) ls' st' m') : tqW1 p l e R s mid args below meth c Q g (tqmi k).2.2.1 c0 s0 pc lsA stA m := by
  obtain ⟨hx, hb, hml, hown, hts, hK, hXs, hbA, hbs, hini, hfr, hlo⟩ := Cx
  obtain ⟨rfl, rfl, rfl, rfl, rfl, rfl⟩ := tqj_some hX
  unfold tqlk at hlk
  simp only [Bool.and_eq_true, decide_eq_true_eq] at hlk
  obtain ⟨⟨⟨h1, h2⟩, h3⟩, h4⟩ := hlk
  obtain ⟨hd, rfl⟩ := tqnx h4 hdec
  exact s_ldc (show in32 cv from ⟨h1, h2⟩) hown (hts _ (tqgood (tqKL_link h3) rfl)) hx hb hd h
theorem j_ldc_w {lsA stA : List tqV} {m : tqM} {cb : Bool} {p1 p2 : Nat} {ls' st' : List tqV} {m' : tqM} {nx r1 r2 : Nat} {cv : Int} {sw : List (Int × Nat)} {dd : List Nat} {idx : Nat} (Cx : tqCx p R s mid args meth c g d k) (hdec : decode (tqmi k).2.1 pc = .ok (.ldc_w idx, nx - pc)) (hlk : tqlk k pc (.ldc_w idx, nx, r1, r2, cv, sw, dd) = true) (hX : tqX d (.ldc_w idx, nx, r1, r2, cv, sw, dd) lsA stA m = some (true, .inl (cb, p1, p2, ls', st', m'))) (hc : m'.2.2.2.1 - c0 ≤ R.cells) (hs : m'.2.2.2.2 - s0 ≤ R.slots) (h : tqW1 p l e R s mid args below meth c Q g (tqmi k).2.2.1 c0 s0 (bif cb then p1 else p2) ls' st' m') : tqW1 p l e R s mid args below meth c Q g (tqmi k).2.2.1 c0 s0 pc lsA stA m := by
  obtain ⟨hx, hb, hml, hown, hts, hK, hXs, hbA, hbs, hini, hfr, hlo⟩ := Cx
  obtain ⟨rfl, rfl, rfl, rfl, rfl, rfl⟩ := tqj_some hX
  unfold tqlk at hlk
  simp only [Bool.and_eq_true, decide_eq_true_eq] at hlk
  obtain ⟨⟨⟨h1, h2⟩, h3⟩, h4⟩ := hlk
  obtain ⟨hd, rfl⟩ := tqnx h4 hdec
  exact s_ldc_w (show in32 cv from ⟨h1, h2⟩) hown (hts _ (tqgood (tqKL_link h3) rfl)) hx hb hd h
theorem j_ldc2_w {lsA stA : List tqV} {m : tqM} {cb : Bool} {p1 p2 : Nat} {ls' st' : List tqV} {m' : tqM} {nx r1 r2 : Nat} {cv : Int} {sw : List (Int × Nat)} {dd : List Nat} {idx : Nat} (Cx : tqCx p R s mid args meth c g d k) (hdec : decode (tqmi k).2.1 pc = .ok (.ldc2_w idx, nx - pc)) (hlk : tqlk k pc (.ldc2_w idx, nx, r1, r2, cv, sw, dd) = true) (hX : tqX d (.ldc2_w idx, nx, r1, r2, cv, sw, dd) lsA stA m = some (true, .inl (cb, p1, p2, ls', st', m'))) (hc : m'.2.2.2.1 - c0 ≤ R.cells) (hs : m'.2.2.2.2 - s0 ≤ R.slots) (h : tqW1 p l e R s mid args below meth c Q g (tqmi k).2.2.1 c0 s0 (bif cb then p1 else p2) ls' st' m') : tqW1 p l e R s mid args below meth c Q g (tqmi k).2.2.1 c0 s0 pc lsA stA m := by
  obtain ⟨hx, hb, hml, hown, hts, hK, hXs, hbA, hbs, hini, hfr, hlo⟩ := Cx
  obtain ⟨rfl, rfl, rfl, rfl, rfl, rfl⟩ := tqj_some hX
  unfold tqlk at hlk
  simp only [Bool.and_eq_true, decide_eq_true_eq] at hlk
  obtain ⟨⟨⟨h1, h2⟩, h3⟩, h4⟩ := hlk
  obtain ⟨hd, rfl⟩ := tqnx h4 hdec
  exact s_ldc2_w (show in64 cv from ⟨h1, h2⟩) hown (hts _ (tqgood (tqJL_link h3) rfl)) hx hb hd h
theorem j_aconst_null {lsA stA : List tqV} {m : tqM} {cb : Bool} {p1 p2 : Nat} {ls' st' : List tqV} {m' : tqM} {nx r1 r2 : Nat} {cv : Int} {sw : List (Int × Nat)} {dd : List Nat}  (Cx : tqCx p R s mid args meth c g d k) (hdec : decode (tqmi k).2.1 pc = .ok (.aconst_null, nx - pc)) (hlk : tqlk k pc (.aconst_null, nx, r1, r2, cv, sw, dd) = true) (hX : tqX d (.aconst_null, nx, r1, r2, cv, sw, dd) lsA stA m = some (true, .inl (cb, p1, p2, ls', st', m'))) (hc : m'.2.2.2.1 - c0 ≤ R.cells) (hs : m'.2.2.2.2 - s0 ≤ R.slots) (h : tqW1 p l e R s mid args below meth c Q g (tqmi k).2.2.1 c0 s0 (bif cb then p1 else p2) ls' st' m') : tqW1 p l e R s mid args below meth c Q g (tqmi k).2.2.1 c0 s0 pc lsA stA m := by
  obtain ⟨hx, hb, hml, hown, hts, hK, hXs, hbA, hbs, hini, hfr, hlo⟩ := Cx
  obtain ⟨rfl, rfl, rfl, rfl, rfl, rfl⟩ := tqj_some hX
  obtain ⟨hd, rfl⟩ := tqnx hlk hdec
  exact s_null hx hb hd h
theorem j_iload {lsA stA : List tqV} {m : tqM} {cb : Bool} {p1 p2 : Nat} {ls' st' : List tqV} {m' : tqM} {nx r1 r2 : Nat} {cv : Int} {sw : List (Int × Nat)} {dd : List Nat} {n : Nat} (Cx : tqCx p R s mid args meth c g d k) (hdec : decode (tqmi k).2.1 pc = .ok (.iload n, nx - pc)) (hlk : tqlk k pc (.iload n, nx, r1, r2, cv, sw, dd) = true) (hX : tqX d (.iload n, nx, r1, r2, cv, sw, dd) lsA stA m = some (true, .inl (cb, p1, p2, ls', st', m'))) (hc : m'.2.2.2.1 - c0 ≤ R.cells) (hs : m'.2.2.2.2 - s0 ≤ R.slots) (h : tqW1 p l e R s mid args below meth c Q g (tqmi k).2.2.1 c0 s0 (bif cb then p1 else p2) ls' st' m') : tqW1 p l e R s mid args below meth c Q g (tqmi k).2.2.1 c0 s0 pc lsA stA m := by
  obtain ⟨hx, hb, hml, hown, hts, hK, hXs, hbA, hbs, hini, hfr, hlo⟩ := Cx
  obtain ⟨hg, rfl, rfl, rfl, rfl, rfl, rfl⟩ := tqjg_some hX
  obtain ⟨hd, rfl⟩ := tqnx hlk hdec
  exact s_iload hg hx hb hd h
theorem j_iload_n {lsA stA : List tqV} {m : tqM} {cb : Bool} {p1 p2 : Nat} {ls' st' : List tqV} {m' : tqM} {nx r1 r2 : Nat} {cv : Int} {sw : List (Int × Nat)} {dd : List Nat} {n : Fin 4} (Cx : tqCx p R s mid args meth c g d k) (hdec : decode (tqmi k).2.1 pc = .ok (.iload_n n, nx - pc)) (hlk : tqlk k pc (.iload_n n, nx, r1, r2, cv, sw, dd) = true) (hX : tqX d (.iload_n n, nx, r1, r2, cv, sw, dd) lsA stA m = some (true, .inl (cb, p1, p2, ls', st', m'))) (hc : m'.2.2.2.1 - c0 ≤ R.cells) (hs : m'.2.2.2.2 - s0 ≤ R.slots) (h : tqW1 p l e R s mid args below meth c Q g (tqmi k).2.2.1 c0 s0 (bif cb then p1 else p2) ls' st' m') : tqW1 p l e R s mid args below meth c Q g (tqmi k).2.2.1 c0 s0 pc lsA stA m := by
  obtain ⟨hx, hb, hml, hown, hts, hK, hXs, hbA, hbs, hini, hfr, hlo⟩ := Cx
  obtain ⟨hg, rfl, rfl, rfl, rfl, rfl, rfl⟩ := tqjg_some hX
  obtain ⟨hd, rfl⟩ := tqnx hlk hdec
  exact s_iload_n hg hx hb hd h
theorem j_lload {lsA stA : List tqV} {m : tqM} {cb : Bool} {p1 p2 : Nat} {ls' st' : List tqV} {m' : tqM} {nx r1 r2 : Nat} {cv : Int} {sw : List (Int × Nat)} {dd : List Nat} {n : Nat} (Cx : tqCx p R s mid args meth c g d k) (hdec : decode (tqmi k).2.1 pc = .ok (.lload n, nx - pc)) (hlk : tqlk k pc (.lload n, nx, r1, r2, cv, sw, dd) = true) (hX : tqX d (.lload n, nx, r1, r2, cv, sw, dd) lsA stA m = some (true, .inl (cb, p1, p2, ls', st', m'))) (hc : m'.2.2.2.1 - c0 ≤ R.cells) (hs : m'.2.2.2.2 - s0 ≤ R.slots) (h : tqW1 p l e R s mid args below meth c Q g (tqmi k).2.2.1 c0 s0 (bif cb then p1 else p2) ls' st' m') : tqW1 p l e R s mid args below meth c Q g (tqmi k).2.2.1 c0 s0 pc lsA stA m := by
  obtain ⟨hx, hb, hml, hown, hts, hK, hXs, hbA, hbs, hini, hfr, hlo⟩ := Cx
  obtain ⟨hg, rfl, rfl, rfl, rfl, rfl, rfl⟩ := tqjg_some hX
  obtain ⟨hd, rfl⟩ := tqnx hlk hdec
  exact s_lload hg hx hb hd h
theorem j_lload_n {lsA stA : List tqV} {m : tqM} {cb : Bool} {p1 p2 : Nat} {ls' st' : List tqV} {m' : tqM} {nx r1 r2 : Nat} {cv : Int} {sw : List (Int × Nat)} {dd : List Nat} {n : Fin 4} (Cx : tqCx p R s mid args meth c g d k) (hdec : decode (tqmi k).2.1 pc = .ok (.lload_n n, nx - pc)) (hlk : tqlk k pc (.lload_n n, nx, r1, r2, cv, sw, dd) = true) (hX : tqX d (.lload_n n, nx, r1, r2, cv, sw, dd) lsA stA m = some (true, .inl (cb, p1, p2, ls', st', m'))) (hc : m'.2.2.2.1 - c0 ≤ R.cells) (hs : m'.2.2.2.2 - s0 ≤ R.slots) (h : tqW1 p l e R s mid args below meth c Q g (tqmi k).2.2.1 c0 s0 (bif cb then p1 else p2) ls' st' m') : tqW1 p l e R s mid args below meth c Q g (tqmi k).2.2.1 c0 s0 pc lsA stA m := by
  obtain ⟨hx, hb, hml, hown, hts, hK, hXs, hbA, hbs, hini, hfr, hlo⟩ := Cx
  obtain ⟨hg, rfl, rfl, rfl, rfl, rfl, rfl⟩ := tqjg_some hX
  obtain ⟨hd, rfl⟩ := tqnx hlk hdec
  exact s_lload_n hg hx hb hd h
theorem j_aload {lsA stA : List tqV} {m : tqM} {cb : Bool} {p1 p2 : Nat} {ls' st' : List tqV} {m' : tqM} {nx r1 r2 : Nat} {cv : Int} {sw : List (Int × Nat)} {dd : List Nat} {n : Nat} (Cx : tqCx p R s mid args meth c g d k) (hdec : decode (tqmi k).2.1 pc = .ok (.aload n, nx - pc)) (hlk : tqlk k pc (.aload n, nx, r1, r2, cv, sw, dd) = true) (hX : tqX d (.aload n, nx, r1, r2, cv, sw, dd) lsA stA m = some (true, .inl (cb, p1, p2, ls', st', m'))) (hc : m'.2.2.2.1 - c0 ≤ R.cells) (hs : m'.2.2.2.2 - s0 ≤ R.slots) (h : tqW1 p l e R s mid args below meth c Q g (tqmi k).2.2.1 c0 s0 (bif cb then p1 else p2) ls' st' m') : tqW1 p l e R s mid args below meth c Q g (tqmi k).2.2.1 c0 s0 pc lsA stA m := by
  obtain ⟨hx, hb, hml, hown, hts, hK, hXs, hbA, hbs, hini, hfr, hlo⟩ := Cx
  obtain ⟨hg, rfl, rfl, rfl, rfl, rfl, rfl⟩ := tqjg_some hX
  obtain ⟨hd, rfl⟩ := tqnx hlk hdec
  exact s_aload hg hx hb hd h
theorem j_aload_n {lsA stA : List tqV} {m : tqM} {cb : Bool} {p1 p2 : Nat} {ls' st' : List tqV} {m' : tqM} {nx r1 r2 : Nat} {cv : Int} {sw : List (Int × Nat)} {dd : List Nat} {n : Fin 4} (Cx : tqCx p R s mid args meth c g d k) (hdec : decode (tqmi k).2.1 pc = .ok (.aload_n n, nx - pc)) (hlk : tqlk k pc (.aload_n n, nx, r1, r2, cv, sw, dd) = true) (hX : tqX d (.aload_n n, nx, r1, r2, cv, sw, dd) lsA stA m = some (true, .inl (cb, p1, p2, ls', st', m'))) (hc : m'.2.2.2.1 - c0 ≤ R.cells) (hs : m'.2.2.2.2 - s0 ≤ R.slots) (h : tqW1 p l e R s mid args below meth c Q g (tqmi k).2.2.1 c0 s0 (bif cb then p1 else p2) ls' st' m') : tqW1 p l e R s mid args below meth c Q g (tqmi k).2.2.1 c0 s0 pc lsA stA m := by
  obtain ⟨hx, hb, hml, hown, hts, hK, hXs, hbA, hbs, hini, hfr, hlo⟩ := Cx
  obtain ⟨hg, rfl, rfl, rfl, rfl, rfl, rfl⟩ := tqjg_some hX
  obtain ⟨hd, rfl⟩ := tqnx hlk hdec
  exact s_aload_n hg hx hb hd h
theorem j_istore {lsA stA : List tqV} {m : tqM} {cb : Bool} {p1 p2 : Nat} {ls' st' : List tqV} {m' : tqM} {nx r1 r2 : Nat} {cv : Int} {sw : List (Int × Nat)} {dd : List Nat} {n : Nat} (Cx : tqCx p R s mid args meth c g d k) (hdec : decode (tqmi k).2.1 pc = .ok (.istore n, nx - pc)) (hlk : tqlk k pc (.istore n, nx, r1, r2, cv, sw, dd) = true) (hX : tqX d (.istore n, nx, r1, r2, cv, sw, dd) lsA stA m = some (true, .inl (cb, p1, p2, ls', st', m'))) (hc : m'.2.2.2.1 - c0 ≤ R.cells) (hs : m'.2.2.2.2 - s0 ≤ R.slots) (h : tqW1 p l e R s mid args below meth c Q g (tqmi k).2.2.1 c0 s0 (bif cb then p1 else p2) ls' st' m') : tqW1 p l e R s mid args below meth c Q g (tqmi k).2.2.1 c0 s0 pc lsA stA m := by
  obtain ⟨hx, hb, hml, hown, hts, hK, hXs, hbA, hbs, hini, hfr, hlo⟩ := Cx
  obtain ⟨x, st0, rfl, hX⟩ := pI_some hX
  obtain ⟨hg, rfl, rfl, rfl, rfl, rfl, rfl⟩ := tqjg_some hX
  unfold tqlk at hlk
  simp only [Bool.and_eq_true] at hlk
  obtain ⟨hd, rfl⟩ := tqnx hlk.2 hdec
  exact s_istore (tqbl hlk.1) hg hx hb hd h
theorem j_istore_n {lsA stA : List tqV} {m : tqM} {cb : Bool} {p1 p2 : Nat} {ls' st' : List tqV} {m' : tqM} {nx r1 r2 : Nat} {cv : Int} {sw : List (Int × Nat)} {dd : List Nat} {n : Fin 4} (Cx : tqCx p R s mid args meth c g d k) (hdec : decode (tqmi k).2.1 pc = .ok (.istore_n n, nx - pc)) (hlk : tqlk k pc (.istore_n n, nx, r1, r2, cv, sw, dd) = true) (hX : tqX d (.istore_n n, nx, r1, r2, cv, sw, dd) lsA stA m = some (true, .inl (cb, p1, p2, ls', st', m'))) (hc : m'.2.2.2.1 - c0 ≤ R.cells) (hs : m'.2.2.2.2 - s0 ≤ R.slots) (h : tqW1 p l e R s mid args below meth c Q g (tqmi k).2.2.1 c0 s0 (bif cb then p1 else p2) ls' st' m') : tqW1 p l e R s mid args below meth c Q g (tqmi k).2.2.1 c0 s0 pc lsA stA m := by
  obtain ⟨hx, hb, hml, hown, hts, hK, hXs, hbA, hbs, hini, hfr, hlo⟩ := Cx
  obtain ⟨x, st0, rfl, hX⟩ := pI_some hX
  obtain ⟨hg, rfl, rfl, rfl, rfl, rfl, rfl⟩ := tqjg_some hX
  unfold tqlk at hlk
  simp only [Bool.and_eq_true] at hlk
  obtain ⟨hd, rfl⟩ := tqnx hlk.2 hdec
  exact s_istore_n (tqbl hlk.1) hg hx hb hd h
theorem j_lstore {lsA stA : List tqV} {m : tqM} {cb : Bool} {p1 p2 : Nat} {ls' st' : List tqV} {m' : tqM} {nx r1 r2 : Nat} {cv : Int} {sw : List (Int × Nat)} {dd : List Nat} {n : Nat} (Cx : tqCx p R s mid args meth c g d k) (hdec : decode (tqmi k).2.1 pc = .ok (.lstore n, nx - pc)) (hlk : tqlk k pc (.lstore n, nx, r1, r2, cv, sw, dd) = true) (hX : tqX d (.lstore n, nx, r1, r2, cv, sw, dd) lsA stA m = some (true, .inl (cb, p1, p2, ls', st', m'))) (hc : m'.2.2.2.1 - c0 ≤ R.cells) (hs : m'.2.2.2.2 - s0 ≤ R.slots) (h : tqW1 p l e R s mid args below meth c Q g (tqmi k).2.2.1 c0 s0 (bif cb then p1 else p2) ls' st' m') : tqW1 p l e R s mid args below meth c Q g (tqmi k).2.2.1 c0 s0 pc lsA stA m := by
  obtain ⟨hx, hb, hml, hown, hts, hK, hXs, hbA, hbs, hini, hfr, hlo⟩ := Cx
  obtain ⟨x, st0, rfl, hX⟩ := pL_some hX
  obtain ⟨hg, rfl, rfl, rfl, rfl, rfl, rfl⟩ := tqjg_some hX
  unfold tqlk at hlk
  simp only [Bool.and_eq_true] at hlk
  obtain ⟨hd, rfl⟩ := tqnx hlk.2 hdec
  exact s_lstore (tqbl hlk.1) hg hx hb hd h
theorem j_lstore_n {lsA stA : List tqV} {m : tqM} {cb : Bool} {p1 p2 : Nat} {ls' st' : List tqV} {m' : tqM} {nx r1 r2 : Nat} {cv : Int} {sw : List (Int × Nat)} {dd : List Nat} {n : Fin 4} (Cx : tqCx p R s mid args meth c g d k) (hdec : decode (tqmi k).2.1 pc = .ok (.lstore_n n, nx - pc)) (hlk : tqlk k pc (.lstore_n n, nx, r1, r2, cv, sw, dd) = true) (hX : tqX d (.lstore_n n, nx, r1, r2, cv, sw, dd) lsA stA m = some (true, .inl (cb, p1, p2, ls', st', m'))) (hc : m'.2.2.2.1 - c0 ≤ R.cells) (hs : m'.2.2.2.2 - s0 ≤ R.slots) (h : tqW1 p l e R s mid args below meth c Q g (tqmi k).2.2.1 c0 s0 (bif cb then p1 else p2) ls' st' m') : tqW1 p l e R s mid args below meth c Q g (tqmi k).2.2.1 c0 s0 pc lsA stA m := by
  obtain ⟨hx, hb, hml, hown, hts, hK, hXs, hbA, hbs, hini, hfr, hlo⟩ := Cx
  obtain ⟨x, st0, rfl, hX⟩ := pL_some hX
  obtain ⟨hg, rfl, rfl, rfl, rfl, rfl, rfl⟩ := tqjg_some hX
  unfold tqlk at hlk
  simp only [Bool.and_eq_true] at hlk
  obtain ⟨hd, rfl⟩ := tqnx hlk.2 hdec
  exact s_lstore_n (tqbl hlk.1) hg hx hb hd h
theorem j_astore {lsA stA : List tqV} {m : tqM} {cb : Bool} {p1 p2 : Nat} {ls' st' : List tqV} {m' : tqM} {nx r1 r2 : Nat} {cv : Int} {sw : List (Int × Nat)} {dd : List Nat} {n : Nat} (Cx : tqCx p R s mid args meth c g d k) (hdec : decode (tqmi k).2.1 pc = .ok (.astore n, nx - pc)) (hlk : tqlk k pc (.astore n, nx, r1, r2, cv, sw, dd) = true) (hX : tqX d (.astore n, nx, r1, r2, cv, sw, dd) lsA stA m = some (true, .inl (cb, p1, p2, ls', st', m'))) (hc : m'.2.2.2.1 - c0 ≤ R.cells) (hs : m'.2.2.2.2 - s0 ≤ R.slots) (h : tqW1 p l e R s mid args below meth c Q g (tqmi k).2.2.1 c0 s0 (bif cb then p1 else p2) ls' st' m') : tqW1 p l e R s mid args below meth c Q g (tqmi k).2.2.1 c0 s0 pc lsA stA m := by
  obtain ⟨hx, hb, hml, hown, hts, hK, hXs, hbA, hbs, hini, hfr, hlo⟩ := Cx
  obtain ⟨x, st0, rfl, hX⟩ := pR_some hX
  obtain ⟨hg, rfl, rfl, rfl, rfl, rfl, rfl⟩ := tqjg_some hX
  unfold tqlk at hlk
  simp only [Bool.and_eq_true] at hlk
  obtain ⟨hd, rfl⟩ := tqnx hlk.2 hdec
  exact s_astore (tqbl hlk.1) hg hx hb hd h
theorem j_astore_n {lsA stA : List tqV} {m : tqM} {cb : Bool} {p1 p2 : Nat} {ls' st' : List tqV} {m' : tqM} {nx r1 r2 : Nat} {cv : Int} {sw : List (Int × Nat)} {dd : List Nat} {n : Fin 4} (Cx : tqCx p R s mid args meth c g d k) (hdec : decode (tqmi k).2.1 pc = .ok (.astore_n n, nx - pc)) (hlk : tqlk k pc (.astore_n n, nx, r1, r2, cv, sw, dd) = true) (hX : tqX d (.astore_n n, nx, r1, r2, cv, sw, dd) lsA stA m = some (true, .inl (cb, p1, p2, ls', st', m'))) (hc : m'.2.2.2.1 - c0 ≤ R.cells) (hs : m'.2.2.2.2 - s0 ≤ R.slots) (h : tqW1 p l e R s mid args below meth c Q g (tqmi k).2.2.1 c0 s0 (bif cb then p1 else p2) ls' st' m') : tqW1 p l e R s mid args below meth c Q g (tqmi k).2.2.1 c0 s0 pc lsA stA m := by
  obtain ⟨hx, hb, hml, hown, hts, hK, hXs, hbA, hbs, hini, hfr, hlo⟩ := Cx
  obtain ⟨x, st0, rfl, hX⟩ := pR_some hX
  obtain ⟨hg, rfl, rfl, rfl, rfl, rfl, rfl⟩ := tqjg_some hX
  unfold tqlk at hlk
  simp only [Bool.and_eq_true] at hlk
  obtain ⟨hd, rfl⟩ := tqnx hlk.2 hdec
  exact s_astore_n (tqbl hlk.1) hg hx hb hd h
theorem j_iinc {lsA stA : List tqV} {m : tqM} {cb : Bool} {p1 p2 : Nat} {ls' st' : List tqV} {m' : tqM} {nx r1 r2 : Nat} {cv : Int} {sw : List (Int × Nat)} {dd : List Nat} {n : Nat} {q : Int} (Cx : tqCx p R s mid args meth c g d k) (hdec : decode (tqmi k).2.1 pc = .ok (.iinc n q, nx - pc)) (hlk : tqlk k pc (.iinc n q, nx, r1, r2, cv, sw, dd) = true) (hX : tqX d (.iinc n q, nx, r1, r2, cv, sw, dd) lsA stA m = some (true, .inl (cb, p1, p2, ls', st', m'))) (hc : m'.2.2.2.1 - c0 ≤ R.cells) (hs : m'.2.2.2.2 - s0 ≤ R.slots) (h : tqW1 p l e R s mid args below meth c Q g (tqmi k).2.2.1 c0 s0 (bif cb then p1 else p2) ls' st' m') : tqW1 p l e R s mid args below meth c Q g (tqmi k).2.2.1 c0 s0 pc lsA stA m := by
  obtain ⟨hx, hb, hml, hown, hts, hK, hXs, hbA, hbs, hini, hfr, hlo⟩ := Cx
  obtain ⟨x, st0, hq, hX⟩ := pI_some hX
  obtain ⟨hg, rfl, rfl, rfl, rfl, rfl, rfl⟩ := tqjg_some hX
  unfold tqlk at hlk
  simp only [Bool.and_eq_true] at hlk
  obtain ⟨hd, rfl⟩ := tqnx hlk.2 hdec
  exact s_iinc (tqbl hlk.1) hg (List.cons.inj hq).1 hx hb hd h
theorem j_ifCond {lsA stA : List tqV} {m : tqM} {cb : Bool} {p1 p2 : Nat} {ls' st' : List tqV} {m' : tqM} {nx r1 r2 : Nat} {cv : Int} {sw : List (Int × Nat)} {dd : List Nat} {cn : Jvm.ClassFile.Cond} {off : Int} (Cx : tqCx p R s mid args meth c g d k) (hdec : decode (tqmi k).2.1 pc = .ok (.ifCond cn off, nx - pc)) (hlk : tqlk k pc (.ifCond cn off, nx, r1, r2, cv, sw, dd) = true) (hX : tqX d (.ifCond cn off, nx, r1, r2, cv, sw, dd) lsA stA m = some (true, .inl (cb, p1, p2, ls', st', m'))) (hc : m'.2.2.2.1 - c0 ≤ R.cells) (hs : m'.2.2.2.2 - s0 ≤ R.slots) (h : tqW1 p l e R s mid args below meth c Q g (tqmi k).2.2.1 c0 s0 (bif cb then p1 else p2) ls' st' m') : tqW1 p l e R s mid args below meth c Q g (tqmi k).2.2.1 c0 s0 pc lsA stA m := by
  obtain ⟨hx, hb, hml, hown, hts, hK, hXs, hbA, hbs, hini, hfr, hlo⟩ := Cx
  obtain ⟨x, st0, rfl, hX⟩ := pI_some hX
  obtain ⟨rfl, rfl, rfl, rfl, rfl, rfl⟩ := tqbr_some hX
  unfold tqlk at hlk
  simp only [Bool.and_eq_true, decide_eq_true_eq] at hlk
  obtain ⟨hd, rfl⟩ := tqnx hlk.2 hdec
  cases cn
  · exact s_if_eq hlk.1 hx hb hd h
  · exact s_if_ne hlk.1 hx hb hd h
  · exact s_if_lt hlk.1 hx hb hd h
  · exact s_if_ge hlk.1 hx hb hd h
  · exact s_if_gt hlk.1 hx hb hd h
  · exact s_if_le hlk.1 hx hb hd h
theorem j_if_icmp {lsA stA : List tqV} {m : tqM} {cb : Bool} {p1 p2 : Nat} {ls' st' : List tqV} {m' : tqM} {nx r1 r2 : Nat} {cv : Int} {sw : List (Int × Nat)} {dd : List Nat} {cn : Jvm.ClassFile.Cond} {off : Int} (Cx : tqCx p R s mid args meth c g d k) (hdec : decode (tqmi k).2.1 pc = .ok (.if_icmp cn off, nx - pc)) (hlk : tqlk k pc (.if_icmp cn off, nx, r1, r2, cv, sw, dd) = true) (hX : tqX d (.if_icmp cn off, nx, r1, r2, cv, sw, dd) lsA stA m = some (true, .inl (cb, p1, p2, ls', st', m'))) (hc : m'.2.2.2.1 - c0 ≤ R.cells) (hs : m'.2.2.2.2 - s0 ≤ R.slots) (h : tqW1 p l e R s mid args below meth c Q g (tqmi k).2.2.1 c0 s0 (bif cb then p1 else p2) ls' st' m') : tqW1 p l e R s mid args below meth c Q g (tqmi k).2.2.1 c0 s0 pc lsA stA m := by
  obtain ⟨hx, hb, hml, hown, hts, hK, hXs, hbA, hbs, hini, hfr, hlo⟩ := Cx
  obtain ⟨y, st0, rfl, hX⟩ := pI_some hX
  obtain ⟨x, st1, rfl, hX⟩ := pI_some hX
  obtain ⟨rfl, rfl, rfl, rfl, rfl, rfl⟩ := tqbr_some hX
  unfold tqlk at hlk
  simp only [Bool.and_eq_true, decide_eq_true_eq] at hlk
  obtain ⟨hd, rfl⟩ := tqnx hlk.2 hdec
  cases cn
  · exact s_icmp_eq hlk.1 hx hb hd h
  · exact s_icmp_ne hlk.1 hx hb hd h
  · exact s_icmp_lt hlk.1 hx hb hd h
  · exact s_icmp_ge hlk.1 hx hb hd h
  · exact s_icmp_gt hlk.1 hx hb hd h
  · exact s_icmp_le hlk.1 hx hb hd h
theorem j_goto {lsA stA : List tqV} {m : tqM} {cb : Bool} {p1 p2 : Nat} {ls' st' : List tqV} {m' : tqM} {nx r1 r2 : Nat} {cv : Int} {sw : List (Int × Nat)} {dd : List Nat} {off : Int} (Cx : tqCx p R s mid args meth c g d k) (hdec : decode (tqmi k).2.1 pc = .ok (.goto off, nx - pc)) (hlk : tqlk k pc (.goto off, nx, r1, r2, cv, sw, dd) = true) (hX : tqX d (.goto off, nx, r1, r2, cv, sw, dd) lsA stA m = some (true, .inl (cb, p1, p2, ls', st', m'))) (hc : m'.2.2.2.1 - c0 ≤ R.cells) (hs : m'.2.2.2.2 - s0 ≤ R.slots) (h : tqW1 p l e R s mid args below meth c Q g (tqmi k).2.2.1 c0 s0 (bif cb then p1 else p2) ls' st' m') : tqW1 p l e R s mid args below meth c Q g (tqmi k).2.2.1 c0 s0 pc lsA stA m := by
  obtain ⟨hx, hb, hml, hown, hts, hK, hXs, hbA, hbs, hini, hfr, hlo⟩ := Cx
  obtain ⟨rfl, rfl, rfl, rfl, rfl, rfl⟩ := tqj_some hX
  unfold tqlk at hlk
  simp only [Bool.and_eq_true, decide_eq_true_eq] at hlk
  obtain ⟨hd, rfl⟩ := tqnx hlk.2 hdec
  exact s_goto hlk.1 hx hb hd h
theorem j_ifnull {lsA stA : List tqV} {m : tqM} {cb : Bool} {p1 p2 : Nat} {ls' st' : List tqV} {m' : tqM} {nx r1 r2 : Nat} {cv : Int} {sw : List (Int × Nat)} {dd : List Nat} {off : Int} (Cx : tqCx p R s mid args meth c g d k) (hdec : decode (tqmi k).2.1 pc = .ok (.ifnull off, nx - pc)) (hlk : tqlk k pc (.ifnull off, nx, r1, r2, cv, sw, dd) = true) (hX : tqX d (.ifnull off, nx, r1, r2, cv, sw, dd) lsA stA m = some (true, .inl (cb, p1, p2, ls', st', m'))) (hc : m'.2.2.2.1 - c0 ≤ R.cells) (hs : m'.2.2.2.2 - s0 ≤ R.slots) (h : tqW1 p l e R s mid args below meth c Q g (tqmi k).2.2.1 c0 s0 (bif cb then p1 else p2) ls' st' m') : tqW1 p l e R s mid args below meth c Q g (tqmi k).2.2.1 c0 s0 pc lsA stA m := by
  obtain ⟨hx, hb, hml, hown, hts, hK, hXs, hbA, hbs, hini, hfr, hlo⟩ := Cx
  obtain ⟨a, st0, rfl, hX⟩ := pR_some hX
  obtain ⟨rfl, rfl, rfl, rfl, rfl, rfl⟩ := tqbr_some hX
  unfold tqlk at hlk
  simp only [Bool.and_eq_true, decide_eq_true_eq] at hlk
  obtain ⟨hd, rfl⟩ := tqnx hlk.2 hdec
  exact s_ifnull hlk.1 hx hb hd h
theorem j_ifnonnull {lsA stA : List tqV} {m : tqM} {cb : Bool} {p1 p2 : Nat} {ls' st' : List tqV} {m' : tqM} {nx r1 r2 : Nat} {cv : Int} {sw : List (Int × Nat)} {dd : List Nat} {off : Int} (Cx : tqCx p R s mid args meth c g d k) (hdec : decode (tqmi k).2.1 pc = .ok (.ifnonnull off, nx - pc)) (hlk : tqlk k pc (.ifnonnull off, nx, r1, r2, cv, sw, dd) = true) (hX : tqX d (.ifnonnull off, nx, r1, r2, cv, sw, dd) lsA stA m = some (true, .inl (cb, p1, p2, ls', st', m'))) (hc : m'.2.2.2.1 - c0 ≤ R.cells) (hs : m'.2.2.2.2 - s0 ≤ R.slots) (h : tqW1 p l e R s mid args below meth c Q g (tqmi k).2.2.1 c0 s0 (bif cb then p1 else p2) ls' st' m') : tqW1 p l e R s mid args below meth c Q g (tqmi k).2.2.1 c0 s0 pc lsA stA m := by
  obtain ⟨hx, hb, hml, hown, hts, hK, hXs, hbA, hbs, hini, hfr, hlo⟩ := Cx
  obtain ⟨a, st0, rfl, hX⟩ := pR_some hX
  obtain ⟨rfl, rfl, rfl, rfl, rfl, rfl⟩ := tqbr_some hX
  unfold tqlk at hlk
  simp only [Bool.and_eq_true, decide_eq_true_eq] at hlk
  obtain ⟨hd, rfl⟩ := tqnx hlk.2 hdec
  exact s_ifnonnull hlk.1 hx hb hd h
theorem j_dup {lsA stA : List tqV} {m : tqM} {cb : Bool} {p1 p2 : Nat} {ls' st' : List tqV} {m' : tqM} {nx r1 r2 : Nat} {cv : Int} {sw : List (Int × Nat)} {dd : List Nat}  (Cx : tqCx p R s mid args meth c g d k) (hdec : decode (tqmi k).2.1 pc = .ok (.dup, nx - pc)) (hlk : tqlk k pc (.dup, nx, r1, r2, cv, sw, dd) = true) (hX : tqX d (.dup, nx, r1, r2, cv, sw, dd) lsA stA m = some (true, .inl (cb, p1, p2, ls', st', m'))) (hc : m'.2.2.2.1 - c0 ≤ R.cells) (hs : m'.2.2.2.2 - s0 ≤ R.slots) (h : tqW1 p l e R s mid args below meth c Q g (tqmi k).2.2.1 c0 s0 (bif cb then p1 else p2) ls' st' m') : tqW1 p l e R s mid args below meth c Q g (tqmi k).2.2.1 c0 s0 pc lsA stA m := by
  obtain ⟨hx, hb, hml, hown, hts, hK, hXs, hbA, hbs, hini, hfr, hlo⟩ := Cx
  dsimp only [tqX] at hX
  obtain ⟨v, st0, rfl, hv, hX⟩ := pV_some hX
  obtain ⟨rfl, rfl, rfl, rfl, rfl, rfl⟩ := tqj_some hX
  obtain ⟨hd, rfl⟩ := tqnx hlk hdec
  exact s_dup hv hx hb hd h
theorem j_pop {lsA stA : List tqV} {m : tqM} {cb : Bool} {p1 p2 : Nat} {ls' st' : List tqV} {m' : tqM} {nx r1 r2 : Nat} {cv : Int} {sw : List (Int × Nat)} {dd : List Nat}  (Cx : tqCx p R s mid args meth c g d k) (hdec : decode (tqmi k).2.1 pc = .ok (.pop, nx - pc)) (hlk : tqlk k pc (.pop, nx, r1, r2, cv, sw, dd) = true) (hX : tqX d (.pop, nx, r1, r2, cv, sw, dd) lsA stA m = some (true, .inl (cb, p1, p2, ls', st', m'))) (hc : m'.2.2.2.1 - c0 ≤ R.cells) (hs : m'.2.2.2.2 - s0 ≤ R.slots) (h : tqW1 p l e R s mid args below meth c Q g (tqmi k).2.2.1 c0 s0 (bif cb then p1 else p2) ls' st' m') : tqW1 p l e R s mid args below meth c Q g (tqmi k).2.2.1 c0 s0 pc lsA stA m := by
  obtain ⟨hx, hb, hml, hown, hts, hK, hXs, hbA, hbs, hini, hfr, hlo⟩ := Cx
  dsimp only [tqX] at hX
  obtain ⟨v, st0, rfl, hv, hX⟩ := pV_some hX
  obtain ⟨rfl, rfl, rfl, rfl, rfl, rfl⟩ := tqj_some hX
  obtain ⟨hd, rfl⟩ := tqnx hlk hdec
  exact s_pop hv hx hb hd h
theorem j_dup2 {lsA stA : List tqV} {m : tqM} {cb : Bool} {p1 p2 : Nat} {ls' st' : List tqV} {m' : tqM} {nx r1 r2 : Nat} {cv : Int} {sw : List (Int × Nat)} {dd : List Nat}  (Cx : tqCx p R s mid args meth c g d k) (hdec : decode (tqmi k).2.1 pc = .ok (.dup2, nx - pc)) (hlk : tqlk k pc (.dup2, nx, r1, r2, cv, sw, dd) = true) (hX : tqX d (.dup2, nx, r1, r2, cv, sw, dd) lsA stA m = some (true, .inl (cb, p1, p2, ls', st', m'))) (hc : m'.2.2.2.1 - c0 ≤ R.cells) (hs : m'.2.2.2.2 - s0 ≤ R.slots) (h : tqW1 p l e R s mid args below meth c Q g (tqmi k).2.2.1 c0 s0 (bif cb then p1 else p2) ls' st' m') : tqW1 p l e R s mid args below meth c Q g (tqmi k).2.2.1 c0 s0 pc lsA stA m := by
  obtain ⟨hx, hb, hml, hown, hts, hK, hXs, hbA, hbs, hini, hfr, hlo⟩ := Cx
  dsimp only [tqX] at hX
  obtain ⟨v, st0, rfl, hv, hX⟩ := pV_some hX
  obtain ⟨w, st1, rfl, hw, hX⟩ := pV_some hX
  obtain ⟨rfl, rfl, rfl, rfl, rfl, rfl⟩ := tqj_some hX
  obtain ⟨hd, rfl⟩ := tqnx hlk hdec
  exact s_dup2 hv hw hx hb hd h
theorem j_getfield {lsA stA : List tqV} {m : tqM} {cb : Bool} {p1 p2 : Nat} {ls' st' : List tqV} {m' : tqM} {nx r1 r2 : Nat} {cv : Int} {sw : List (Int × Nat)} {dd : List Nat} {idx : Nat} (Cx : tqCx p R s mid args meth c g d k) (hdec : decode (tqmi k).2.1 pc = .ok (.getfield idx, nx - pc)) (hlk : tqlk k pc (.getfield idx, nx, r1, r2, cv, sw, dd) = true) (hX : tqX d (.getfield idx, nx, r1, r2, cv, sw, dd) lsA stA m = some (true, .inl (cb, p1, p2, ls', st', m'))) (hc : m'.2.2.2.1 - c0 ≤ R.cells) (hs : m'.2.2.2.2 - s0 ≤ R.slots) (h : tqW1 p l e R s mid args below meth c Q g (tqmi k).2.2.1 c0 s0 (bif cb then p1 else p2) ls' st' m') : tqW1 p l e R s mid args below meth c Q g (tqmi k).2.2.1 c0 s0 pc lsA stA m := by
  obtain ⟨hx, hb, hml, hown, hts, hK, hXs, hbA, hbs, hini, hfr, hlo⟩ := Cx
  obtain ⟨a, st0, rfl, hX⟩ := pR_some hX
  obtain ⟨hg, rfl, rfl, rfl, rfl, rfl, rfl⟩ := tqjg_some hX
  unfold tqlk at hlk
  simp only [Bool.and_eq_true, decide_eq_true_eq] at hlk
  obtain ⟨⟨⟨⟨h1, h2⟩, h3⟩, h4⟩, h5⟩ := hlk
  obtain ⟨hd, rfl⟩ := tqnx h5 hdec
  subst h3
  refine s_getfield hK hts hown (tqbl h1) (tqbl h2) (tqbq hg) ?_ hx hb hd h
  rcases tqFL_link h4 with q | q
  · exact Or.inl (hts _ (tqgood q rfl))
  · exact Or.inr (tqhost hK q)
theorem j_putfield {lsA stA : List tqV} {m : tqM} {cb : Bool} {p1 p2 : Nat} {ls' st' : List tqV} {m' : tqM} {nx r1 r2 : Nat} {cv : Int} {sw : List (Int × Nat)} {dd : List Nat} {idx : Nat} (Cx : tqCx p R s mid args meth c g d k) (hdec : decode (tqmi k).2.1 pc = .ok (.putfield idx, nx - pc)) (hlk : tqlk k pc (.putfield idx, nx, r1, r2, cv, sw, dd) = true) (hX : tqX d (.putfield idx, nx, r1, r2, cv, sw, dd) lsA stA m = some (true, .inl (cb, p1, p2, ls', st', m'))) (hc : m'.2.2.2.1 - c0 ≤ R.cells) (hs : m'.2.2.2.2 - s0 ≤ R.slots) (h : tqW1 p l e R s mid args below meth c Q g (tqmi k).2.2.1 c0 s0 (bif cb then p1 else p2) ls' st' m') : tqW1 p l e R s mid args below meth c Q g (tqmi k).2.2.1 c0 s0 pc lsA stA m := by
  obtain ⟨hx, hb, hml, hown, hts, hK, hXs, hbA, hbs, hini, hfr, hlo⟩ := Cx
  unfold tqlk at hlk
  simp only [Bool.and_eq_true, decide_eq_true_eq] at hlk
  obtain ⟨⟨⟨⟨h1, h2⟩, h3⟩, h4⟩, h5⟩ := hlk
  obtain ⟨hd, rfl⟩ := tqnx h5 hdec
  have hk1 := tqbl h1
  have hj1 := tqbl h2
  have hle := tqk_le r1 hk1 r2 hj1
  have hky := tqYn_k r1 hk1 r2 hj1
  have hlink : ((tqTn r1 r2).2.2.2 = false ∧ ((Cond.fieldLink (tqRn (tqow k)) idx (tqRn r1) (tqTn r1 r2).2.1 (tqTn r1 r2).2.2.1).before args s = true ∨ (Cond.fieldLinkNest (tqRn (tqow k)) idx (tqRn r1) (tqTn r1 r2).2.1 (tqTn r1 r2).2.2.1 "TrailerYards").before args s = true)) ∨ ((tqTn r1 r2).2.2.2 = true ∧ (Cond.fieldLink (tqRn (tqow k)) idx (tqRn r1) (tqTn r1 r2).2.1 (tqTn r1 r2).2.2.1).before args s = true ∧ meth.name = "<init>" ∧ tqRn (tqow k) = tqRn r1) := by
    rcases tqFL_put h4 with ⟨q1, q2⟩ | ⟨q1, q2, q3, q4⟩
    · refine Or.inl ⟨q1, ?_⟩
      rcases q2 with q | q
      · exact Or.inl (hts _ (tqgood q rfl))
      · exact Or.inr (tqhost hK q)
    · exact Or.inr ⟨q1, hts _ (tqgood q2 rfl), hini q3, by rw [q4]⟩
  have hkdj : ∀ {m : tqM} {a : Nat}, (tqS m a).1 = 10 + r1 → tqkd (tqS m a).1 (r2 : Int) = tqk r1 r2 := fun q => by rw [q, tqkd_o]
  subst h3
  match hkk : tqk r1 r2, hle with
  | 0, _ =>
    rw [hkk] at hX
    obtain ⟨x, st0, rfl, hX⟩ := pI_some hX
    obtain ⟨a, st1, rfl, hX⟩ := pR_some hX
    obtain ⟨hg, rfl, rfl, rfl, rfl, rfl, rfl⟩ := tqjg_some hX
    have ety := tqy_int (hky.trans hkk)
    have hsa := tqbq hg
    refine s_putfield (v := vI x) (m' := tqw m a (r2 : Int) x) hK hts hown hk1 hj1 hsa hlink (by rw [ety]; rfl) (by rw [ety]; rfl) rfl (fun b hb => tqw_ent hb) (fun i _ => tqfv_w (Or.inl hkk) i) (fun hok ho => tqw_ok hok (by intro q; subst q; rw [hok.2.2.2.1] at hsa; simp at hsa; omega) ⟨fun _ => ho, (fun q => by rw [hkdj hsa, hkk] at q; cases q), (fun q => by rw [hkdj hsa, hkk] at q; cases q)⟩) hx hb hd h
  | 1, _ =>
    rw [hkk] at hX
    obtain ⟨x, st0, rfl, hX⟩ := pL_some hX
    obtain ⟨a, st1, rfl, hX⟩ := pR_some hX
    obtain ⟨hg, rfl, rfl, rfl, rfl, rfl, rfl⟩ := tqjg_some hX
    have ety := tqy_long (hky.trans hkk)
    have hsa := tqbq hg
    refine s_putfield (v := vL x) (m' := tqw m a (r2 : Int) x) hK hts hown hk1 hj1 hsa hlink (by rw [ety]; rfl) (by rw [ety]; rfl) rfl (fun b hb => tqw_ent hb) (fun i _ => tqfv_l hkk i) (fun hok ho => tqw_ok hok (by intro q; subst q; rw [hok.2.2.2.1] at hsa; simp at hsa; omega) ⟨(fun q => by rw [hkdj hsa, hkk] at q; cases q), fun _ => ho, (fun q => by rw [hkdj hsa, hkk] at q; cases q)⟩) hx hb hd h
  | 2, _ =>
    rw [hkk] at hX
    obtain ⟨x, st0, rfl, hX⟩ := pI_some hX
    obtain ⟨a, st1, rfl, hX⟩ := pR_some hX
    obtain ⟨hg, rfl, rfl, rfl, rfl, rfl, rfl⟩ := tqjg_some hX
    simp only [Bool.and_eq_true, Bool.or_eq_true, decide_eq_true_eq] at hg
    have ety := tqy_bool (hky.trans hkk)
    have hsa := tqbq hg.1
    refine s_putfield (v := vI x) (m' := tqw m a (r2 : Int) x) hK hts hown hk1 hj1 hsa hlink (by rw [ety]; exact tqnar1 hg.2) (by rw [ety]; exact tqfit1 hg.2) rfl (fun b hb => tqw_ent hb) (fun i _ => tqfv_w (Or.inr hkk) i) (fun hok ho => tqw_ok hok (by intro q; subst q; rw [hok.2.2.2.1] at hsa; simp at hsa; omega) ⟨(fun q => by rw [hkdj hsa, hkk] at q; cases q), (fun q => by rw [hkdj hsa, hkk] at q; cases q), fun _ => hg.2⟩) hx hb hd h
  | 3, _ =>
    rw [hkk] at hX
    obtain ⟨x, st0, rfl, hX⟩ := pR_some hX
    obtain ⟨a, st1, rfl, hX⟩ := pR_some hX
    obtain ⟨hg, rfl, rfl, rfl, rfl, rfl, rfl⟩ := tqjg_some hX
    have hrf := tqy_ref (hky.trans hkk) _ (tqrz_ref g x)
    exact s_putfield (v := vR x) (m' := tqp m a (r2 : Int) x) hK hts hown hk1 hj1 (tqbq hg) hlink hrf.1 hrf.2 rfl (fun b hb => tqp_ent hb) (fun i _ => tqfv_p hkk i) (fun hok _ => tqp_ok hok) hx hb hd h
theorem j_iaload {lsA stA : List tqV} {m : tqM} {cb : Bool} {p1 p2 : Nat} {ls' st' : List tqV} {m' : tqM} {nx r1 r2 : Nat} {cv : Int} {sw : List (Int × Nat)} {dd : List Nat}  (Cx : tqCx p R s mid args meth c g d k) (hdec : decode (tqmi k).2.1 pc = .ok (.iaload, nx - pc)) (hlk : tqlk k pc (.iaload, nx, r1, r2, cv, sw, dd) = true) (hX : tqX d (.iaload, nx, r1, r2, cv, sw, dd) lsA stA m = some (true, .inl (cb, p1, p2, ls', st', m'))) (hc : m'.2.2.2.1 - c0 ≤ R.cells) (hs : m'.2.2.2.2 - s0 ≤ R.slots) (h : tqW1 p l e R s mid args below meth c Q g (tqmi k).2.2.1 c0 s0 (bif cb then p1 else p2) ls' st' m') : tqW1 p l e R s mid args below meth c Q g (tqmi k).2.2.1 c0 s0 pc lsA stA m := by
  obtain ⟨hx, hb, hml, hown, hts, hK, hXs, hbA, hbs, hini, hfr, hlo⟩ := Cx
  obtain ⟨i, st0, rfl, hX⟩ := pI_some hX
  obtain ⟨a, st1, rfl, hX⟩ := pR_some hX
  obtain ⟨hg, rfl, rfl, rfl, rfl, rfl, rfl⟩ := tqjg_some hX
  obtain ⟨hd, rfl⟩ := tqnx hlk hdec
  simp only [Bool.and_eq_true, Bool.or_eq_true] at hg
  obtain ⟨hg1, hg2⟩ := hg
  have hi := tqib_some hg2
  rcases hg1 with q | q
  · exact s_iaload hK (tqbq q) hi.1 hi.2 hx hb hd h
  · intro H locs ls hH hS hl hst h0 h1
    have ea : a = 1 := by
      rcases hH.2.2.2.1 a (by rw [tqbq q]; omega) with z | ⟨-, -, z, -⟩
      · exact z
      · exact absurd (tqbq q) z
    subst ea
    exact s_sald hXs (Nat.lt_of_lt_of_le hbA hbs) hbA (tqbq q) hi.1 hi.2 hx hb hd h H locs ls hH hS hl hst h0 h1
theorem j_laload {lsA stA : List tqV} {m : tqM} {cb : Bool} {p1 p2 : Nat} {ls' st' : List tqV} {m' : tqM} {nx r1 r2 : Nat} {cv : Int} {sw : List (Int × Nat)} {dd : List Nat}  (Cx : tqCx p R s mid args meth c g d k) (hdec : decode (tqmi k).2.1 pc = .ok (.laload, nx - pc)) (hlk : tqlk k pc (.laload, nx, r1, r2, cv, sw, dd) = true) (hX : tqX d (.laload, nx, r1, r2, cv, sw, dd) lsA stA m = some (true, .inl (cb, p1, p2, ls', st', m'))) (hc : m'.2.2.2.1 - c0 ≤ R.cells) (hs : m'.2.2.2.2 - s0 ≤ R.slots) (h : tqW1 p l e R s mid args below meth c Q g (tqmi k).2.2.1 c0 s0 (bif cb then p1 else p2) ls' st' m') : tqW1 p l e R s mid args below meth c Q g (tqmi k).2.2.1 c0 s0 pc lsA stA m := by
  obtain ⟨hx, hb, hml, hown, hts, hK, hXs, hbA, hbs, hini, hfr, hlo⟩ := Cx
  obtain ⟨i, st0, rfl, hX⟩ := pI_some hX
  obtain ⟨a, st1, rfl, hX⟩ := pR_some hX
  obtain ⟨hg, rfl, rfl, rfl, rfl, rfl, rfl⟩ := tqjg_some hX
  obtain ⟨hd, rfl⟩ := tqnx hlk hdec
  simp only [Bool.and_eq_true] at hg
  have hi := tqib_some hg.2
  exact s_laload hK (tqbq hg.1) hi.1 hi.2 hx hb hd h
theorem j_baload {lsA stA : List tqV} {m : tqM} {cb : Bool} {p1 p2 : Nat} {ls' st' : List tqV} {m' : tqM} {nx r1 r2 : Nat} {cv : Int} {sw : List (Int × Nat)} {dd : List Nat}  (Cx : tqCx p R s mid args meth c g d k) (hdec : decode (tqmi k).2.1 pc = .ok (.baload, nx - pc)) (hlk : tqlk k pc (.baload, nx, r1, r2, cv, sw, dd) = true) (hX : tqX d (.baload, nx, r1, r2, cv, sw, dd) lsA stA m = some (true, .inl (cb, p1, p2, ls', st', m'))) (hc : m'.2.2.2.1 - c0 ≤ R.cells) (hs : m'.2.2.2.2 - s0 ≤ R.slots) (h : tqW1 p l e R s mid args below meth c Q g (tqmi k).2.2.1 c0 s0 (bif cb then p1 else p2) ls' st' m') : tqW1 p l e R s mid args below meth c Q g (tqmi k).2.2.1 c0 s0 pc lsA stA m := by
  obtain ⟨hx, hb, hml, hown, hts, hK, hXs, hbA, hbs, hini, hfr, hlo⟩ := Cx
  obtain ⟨i, st0, rfl, hX⟩ := pI_some hX
  obtain ⟨a, st1, rfl, hX⟩ := pR_some hX
  obtain ⟨hg, rfl, rfl, rfl, rfl, rfl, rfl⟩ := tqjg_some hX
  obtain ⟨hd, rfl⟩ := tqnx hlk hdec
  simp only [Bool.and_eq_true] at hg
  have hi := tqib_some hg.2
  exact s_baload hK (tqbq hg.1) hi.1 hi.2 hx hb hd h
theorem j_aaload {lsA stA : List tqV} {m : tqM} {cb : Bool} {p1 p2 : Nat} {ls' st' : List tqV} {m' : tqM} {nx r1 r2 : Nat} {cv : Int} {sw : List (Int × Nat)} {dd : List Nat}  (Cx : tqCx p R s mid args meth c g d k) (hdec : decode (tqmi k).2.1 pc = .ok (.aaload, nx - pc)) (hlk : tqlk k pc (.aaload, nx, r1, r2, cv, sw, dd) = true) (hX : tqX d (.aaload, nx, r1, r2, cv, sw, dd) lsA stA m = some (true, .inl (cb, p1, p2, ls', st', m'))) (hc : m'.2.2.2.1 - c0 ≤ R.cells) (hs : m'.2.2.2.2 - s0 ≤ R.slots) (h : tqW1 p l e R s mid args below meth c Q g (tqmi k).2.2.1 c0 s0 (bif cb then p1 else p2) ls' st' m') : tqW1 p l e R s mid args below meth c Q g (tqmi k).2.2.1 c0 s0 pc lsA stA m := by
  obtain ⟨hx, hb, hml, hown, hts, hK, hXs, hbA, hbs, hini, hfr, hlo⟩ := Cx
  obtain ⟨i, st0, rfl, hX⟩ := pI_some hX
  obtain ⟨a, st1, rfl, hX⟩ := pR_some hX
  obtain ⟨hg, rfl, rfl, rfl, rfl, rfl, rfl⟩ := tqjg_some hX
  obtain ⟨hd, rfl⟩ := tqnx hlk hdec
  simp only [Bool.and_eq_true] at hg
  have hi := tqib_some hg.2
  exact s_aaload hK (Nat.le_of_ble_eq_true hg.1.1) (Nat.le_of_ble_eq_true hg.1.2) hi.1 hi.2 hx hb hd h
theorem j_iastore {lsA stA : List tqV} {m : tqM} {cb : Bool} {p1 p2 : Nat} {ls' st' : List tqV} {m' : tqM} {nx r1 r2 : Nat} {cv : Int} {sw : List (Int × Nat)} {dd : List Nat}  (Cx : tqCx p R s mid args meth c g d k) (hdec : decode (tqmi k).2.1 pc = .ok (.iastore, nx - pc)) (hlk : tqlk k pc (.iastore, nx, r1, r2, cv, sw, dd) = true) (hX : tqX d (.iastore, nx, r1, r2, cv, sw, dd) lsA stA m = some (true, .inl (cb, p1, p2, ls', st', m'))) (hc : m'.2.2.2.1 - c0 ≤ R.cells) (hs : m'.2.2.2.2 - s0 ≤ R.slots) (h : tqW1 p l e R s mid args below meth c Q g (tqmi k).2.2.1 c0 s0 (bif cb then p1 else p2) ls' st' m') : tqW1 p l e R s mid args below meth c Q g (tqmi k).2.2.1 c0 s0 pc lsA stA m := by
  obtain ⟨hx, hb, hml, hown, hts, hK, hXs, hbA, hbs, hini, hfr, hlo⟩ := Cx
  obtain ⟨x, st0, rfl, hX⟩ := pI_some hX
  obtain ⟨i, st1, rfl, hX⟩ := pI_some hX
  obtain ⟨a, st2, rfl, hX⟩ := pR_some hX
  obtain ⟨hg, rfl, rfl, rfl, rfl, rfl, rfl⟩ := tqjg_some hX
  obtain ⟨hd, rfl⟩ := tqnx hlk hdec
  simp only [Bool.and_eq_true] at hg
  have hi := tqib_some hg.2
  exact s_iastore hK (tqbq hg.1) hi.1 hi.2 hx hb hd h
theorem j_lastore {lsA stA : List tqV} {m : tqM} {cb : Bool} {p1 p2 : Nat} {ls' st' : List tqV} {m' : tqM} {nx r1 r2 : Nat} {cv : Int} {sw : List (Int × Nat)} {dd : List Nat}  (Cx : tqCx p R s mid args meth c g d k) (hdec : decode (tqmi k).2.1 pc = .ok (.lastore, nx - pc)) (hlk : tqlk k pc (.lastore, nx, r1, r2, cv, sw, dd) = true) (hX : tqX d (.lastore, nx, r1, r2, cv, sw, dd) lsA stA m = some (true, .inl (cb, p1, p2, ls', st', m'))) (hc : m'.2.2.2.1 - c0 ≤ R.cells) (hs : m'.2.2.2.2 - s0 ≤ R.slots) (h : tqW1 p l e R s mid args below meth c Q g (tqmi k).2.2.1 c0 s0 (bif cb then p1 else p2) ls' st' m') : tqW1 p l e R s mid args below meth c Q g (tqmi k).2.2.1 c0 s0 pc lsA stA m := by
  obtain ⟨hx, hb, hml, hown, hts, hK, hXs, hbA, hbs, hini, hfr, hlo⟩ := Cx
  obtain ⟨x, st0, rfl, hX⟩ := pL_some hX
  obtain ⟨i, st1, rfl, hX⟩ := pI_some hX
  obtain ⟨a, st2, rfl, hX⟩ := pR_some hX
  obtain ⟨hg, rfl, rfl, rfl, rfl, rfl, rfl⟩ := tqjg_some hX
  obtain ⟨hd, rfl⟩ := tqnx hlk hdec
  simp only [Bool.and_eq_true] at hg
  have hi := tqib_some hg.2
  exact s_lastore hK (tqbq hg.1) hi.1 hi.2 hx hb hd h
theorem j_bastore {lsA stA : List tqV} {m : tqM} {cb : Bool} {p1 p2 : Nat} {ls' st' : List tqV} {m' : tqM} {nx r1 r2 : Nat} {cv : Int} {sw : List (Int × Nat)} {dd : List Nat}  (Cx : tqCx p R s mid args meth c g d k) (hdec : decode (tqmi k).2.1 pc = .ok (.bastore, nx - pc)) (hlk : tqlk k pc (.bastore, nx, r1, r2, cv, sw, dd) = true) (hX : tqX d (.bastore, nx, r1, r2, cv, sw, dd) lsA stA m = some (true, .inl (cb, p1, p2, ls', st', m'))) (hc : m'.2.2.2.1 - c0 ≤ R.cells) (hs : m'.2.2.2.2 - s0 ≤ R.slots) (h : tqW1 p l e R s mid args below meth c Q g (tqmi k).2.2.1 c0 s0 (bif cb then p1 else p2) ls' st' m') : tqW1 p l e R s mid args below meth c Q g (tqmi k).2.2.1 c0 s0 pc lsA stA m := by
  obtain ⟨hx, hb, hml, hown, hts, hK, hXs, hbA, hbs, hini, hfr, hlo⟩ := Cx
  obtain ⟨x, st0, rfl, hX⟩ := pI_some hX
  obtain ⟨i, st1, rfl, hX⟩ := pI_some hX
  obtain ⟨a, st2, rfl, hX⟩ := pR_some hX
  obtain ⟨hg, rfl, rfl, rfl, rfl, rfl, rfl⟩ := tqjg_some hX
  obtain ⟨hd, rfl⟩ := tqnx hlk hdec
  simp only [Bool.and_eq_true, Bool.or_eq_true, decide_eq_true_eq] at hg
  have hi := tqib_some hg.1.2
  exact s_bastore hK (tqbq hg.1.1) hi.1 hi.2 hg.2 hx hb hd h
theorem j_aastore {lsA stA : List tqV} {m : tqM} {cb : Bool} {p1 p2 : Nat} {ls' st' : List tqV} {m' : tqM} {nx r1 r2 : Nat} {cv : Int} {sw : List (Int × Nat)} {dd : List Nat}  (Cx : tqCx p R s mid args meth c g d k) (hdec : decode (tqmi k).2.1 pc = .ok (.aastore, nx - pc)) (hlk : tqlk k pc (.aastore, nx, r1, r2, cv, sw, dd) = true) (hX : tqX d (.aastore, nx, r1, r2, cv, sw, dd) lsA stA m = some (true, .inl (cb, p1, p2, ls', st', m'))) (hc : m'.2.2.2.1 - c0 ≤ R.cells) (hs : m'.2.2.2.2 - s0 ≤ R.slots) (h : tqW1 p l e R s mid args below meth c Q g (tqmi k).2.2.1 c0 s0 (bif cb then p1 else p2) ls' st' m') : tqW1 p l e R s mid args below meth c Q g (tqmi k).2.2.1 c0 s0 pc lsA stA m := by
  obtain ⟨hx, hb, hml, hown, hts, hK, hXs, hbA, hbs, hini, hfr, hlo⟩ := Cx
  obtain ⟨x, st0, rfl, hX⟩ := pR_some hX
  obtain ⟨i, st1, rfl, hX⟩ := pI_some hX
  obtain ⟨a, st2, rfl, hX⟩ := pR_some hX
  obtain ⟨hg, rfl, rfl, rfl, rfl, rfl, rfl⟩ := tqjg_some hX
  obtain ⟨hd, rfl⟩ := tqnx hlk hdec
  simp only [Bool.and_eq_true, Bool.or_eq_true] at hg
  have hi := tqib_some hg.2
  rcases hg.1 with (q | q) | q
  · exact s_aastore hK 3 2 (by decide) (by decide) (tqbq q.1) (tqbq q.2) (by decide) rfl hi.1 hi.2 hx hb hd h
  · exact s_aastore hK 4 8 (by decide) (by decide) (tqbq q.1) (tqbq q.2) (by decide) rfl hi.1 hi.2 hx hb hd h
  · exact s_aastore hK 5 9 (by decide) (by decide) (tqbq q.1) (tqbq q.2) (by decide) rfl hi.1 hi.2 hx hb hd h
theorem j_arraylength {lsA stA : List tqV} {m : tqM} {cb : Bool} {p1 p2 : Nat} {ls' st' : List tqV} {m' : tqM} {nx r1 r2 : Nat} {cv : Int} {sw : List (Int × Nat)} {dd : List Nat}  (Cx : tqCx p R s mid args meth c g d k) (hdec : decode (tqmi k).2.1 pc = .ok (.arraylength, nx - pc)) (hlk : tqlk k pc (.arraylength, nx, r1, r2, cv, sw, dd) = true) (hX : tqX d (.arraylength, nx, r1, r2, cv, sw, dd) lsA stA m = some (true, .inl (cb, p1, p2, ls', st', m'))) (hc : m'.2.2.2.1 - c0 ≤ R.cells) (hs : m'.2.2.2.2 - s0 ≤ R.slots) (h : tqW1 p l e R s mid args below meth c Q g (tqmi k).2.2.1 c0 s0 (bif cb then p1 else p2) ls' st' m') : tqW1 p l e R s mid args below meth c Q g (tqmi k).2.2.1 c0 s0 pc lsA stA m := by
  obtain ⟨hx, hb, hml, hown, hts, hK, hXs, hbA, hbs, hini, hfr, hlo⟩ := Cx
  obtain ⟨a, st0, rfl, hX⟩ := pR_some hX
  obtain ⟨hg, rfl, rfl, rfl, rfl, rfl, rfl⟩ := tqjg_some hX
  obtain ⟨hd, rfl⟩ := tqnx hlk hdec
  simp only [Bool.and_eq_true] at hg
  have h1 := Nat.le_of_ble_eq_true hg.1
  have h2 := Nat.le_of_ble_eq_true hg.2
  by_cases q : (tqS m' a).1 = 8
  · intro H locs ls hH hS hl hst h00 h11
    have ea : a = 1 := by
      rcases hH.2.2.2.1 a (by omega) with z | ⟨-, -, z, -⟩
      · exact z
      · exact absurd q z
    subst ea
    exact s_slen hXs (Nat.lt_of_lt_of_le hbA hbs) hbA hx hb hd h H locs ls hH hS hl hst h00 h11
  · exact s_arraylength hK h1 (by omega) hx hb hd h
theorem j_newarray {lsA stA : List tqV} {m : tqM} {cb : Bool} {p1 p2 : Nat} {ls' st' : List tqV} {m' : tqM} {nx r1 r2 : Nat} {cv : Int} {sw : List (Int × Nat)} {dd : List Nat} {t : Jvm.ClassFile.ArrayType} (Cx : tqCx p R s mid args meth c g d k) (hdec : decode (tqmi k).2.1 pc = .ok (.newarray t, nx - pc)) (hlk : tqlk k pc (.newarray t, nx, r1, r2, cv, sw, dd) = true) (hX : tqX d (.newarray t, nx, r1, r2, cv, sw, dd) lsA stA m = some (true, .inl (cb, p1, p2, ls', st', m'))) (hc : m'.2.2.2.1 - c0 ≤ R.cells) (hs : m'.2.2.2.2 - s0 ≤ R.slots) (h : tqW1 p l e R s mid args below meth c Q g (tqmi k).2.2.1 c0 s0 (bif cb then p1 else p2) ls' st' m') : tqW1 p l e R s mid args below meth c Q g (tqmi k).2.2.1 c0 s0 pc lsA stA m := by
  obtain ⟨hx, hb, hml, hown, hts, hK, hXs, hbA, hbs, hini, hfr, hlo⟩ := Cx
  obtain ⟨n, st0, rfl, hX⟩ := pI_some hX
  obtain ⟨hg, rfl, rfl, rfl, rfl, rfl, rfl⟩ := tqjg_some hX
  unfold tqlk at hlk
  simp only [Bool.and_eq_true] at hlk
  obtain ⟨⟨h1, h2⟩, h3⟩ := hlk
  obtain ⟨hd, rfl⟩ := tqnx h3 hdec
  simp only [Bool.and_eq_true, decide_eq_true_eq] at hg
  have hk1 := tqbq h1
  have h1k := Nat.le_of_ble_eq_true h2
  have harr : (Cond.arrayClass (Jvm.Op.newarray.typeOf t)).before args s = true := by
    subst hk1
    cases t <;> first
      | exact absurd h1k (by decide)
      | exact hts _ (tqgood tqw_int rfl)
      | exact hts _ (tqgood tqw_long rfl)
      | exact hts _ (tqgood tqw_boolean rfl)
  exact s_newarray hK hk1 h1k harr hg.1 hg.2 hc hs hx hb hd h
theorem j_anewarray {lsA stA : List tqV} {m : tqM} {cb : Bool} {p1 p2 : Nat} {ls' st' : List tqV} {m' : tqM} {nx r1 r2 : Nat} {cv : Int} {sw : List (Int × Nat)} {dd : List Nat} {idx : Nat} (Cx : tqCx p R s mid args meth c g d k) (hdec : decode (tqmi k).2.1 pc = .ok (.anewarray idx, nx - pc)) (hlk : tqlk k pc (.anewarray idx, nx, r1, r2, cv, sw, dd) = true) (hX : tqX d (.anewarray idx, nx, r1, r2, cv, sw, dd) lsA stA m = some (true, .inl (cb, p1, p2, ls', st', m'))) (hc : m'.2.2.2.1 - c0 ≤ R.cells) (hs : m'.2.2.2.2 - s0 ≤ R.slots) (h : tqW1 p l e R s mid args below meth c Q g (tqmi k).2.2.1 c0 s0 (bif cb then p1 else p2) ls' st' m') : tqW1 p l e R s mid args below meth c Q g (tqmi k).2.2.1 c0 s0 pc lsA stA m := by
  obtain ⟨hx, hb, hml, hown, hts, hK, hXs, hbA, hbs, hini, hfr, hlo⟩ := Cx
  obtain ⟨n, st0, rfl, hX⟩ := pI_some hX
  obtain ⟨hg, rfl, rfl, rfl, rfl, rfl, rfl⟩ := tqjg_some hX
  unfold tqlk at hlk
  simp only [Bool.and_eq_true] at hlk
  obtain ⟨⟨⟨h1, h2⟩, h3⟩, h4⟩ := hlk
  obtain ⟨hd, rfl⟩ := tqnx h4 hdec
  simp only [Bool.and_eq_true, decide_eq_true_eq] at hg
  have h1 := Nat.le_of_ble_eq_true h1
  have h2 := Nat.le_of_ble_eq_true h2
  match r1, h1, h2 with
  | 4, _, _ => exact s_anewarray (t0 := 3) (kc := 2) hK (by decide) (by decide) rfl hown (hts _ (tqgood (tqCL_link (by decide) h3) rfl)) (hK.2 _ tqw_ov2 rfl) hg.1 hg.2 hc hs hx hb hd h
  | 5, _, _ => exact s_anewarray (t0 := 4) (kc := 8) hK (by decide) (by decide) rfl hown (hts _ (tqgood (tqCL_link (by decide) h3) rfl)) (hK.2 _ tqw_ov8 rfl) hg.1 hg.2 hc hs hx hb hd h
  | 6, _, _ => exact s_anewarray (t0 := 5) (kc := 9) hK (by decide) (by decide) rfl hown (hts _ (tqgood (tqCL_link (by decide) h3) rfl)) (hK.2 _ tqw_ov9 rfl) hg.1 hg.2 hc hs hx hb hd h
theorem j_new {lsA stA : List tqV} {m : tqM} {cb : Bool} {p1 p2 : Nat} {ls' st' : List tqV} {m' : tqM} {nx r1 r2 : Nat} {cv : Int} {sw : List (Int × Nat)} {dd : List Nat} {idx : Nat} (Cx : tqCx p R s mid args meth c g d k) (hdec : decode (tqmi k).2.1 pc = .ok (.new idx, nx - pc)) (hlk : tqlk k pc (.new idx, nx, r1, r2, cv, sw, dd) = true) (hX : tqX d (.new idx, nx, r1, r2, cv, sw, dd) lsA stA m = some (true, .inl (cb, p1, p2, ls', st', m'))) (hc : m'.2.2.2.1 - c0 ≤ R.cells) (hs : m'.2.2.2.2 - s0 ≤ R.slots) (h : tqW1 p l e R s mid args below meth c Q g (tqmi k).2.2.1 c0 s0 (bif cb then p1 else p2) ls' st' m') : tqW1 p l e R s mid args below meth c Q g (tqmi k).2.2.1 c0 s0 pc lsA stA m := by
  obtain ⟨hx, hb, hml, hown, hts, hK, hXs, hbA, hbs, hini, hfr, hlo⟩ := Cx
  obtain ⟨rfl, rfl, rfl, rfl, rfl, rfl⟩ := tqj_some hX
  unfold tqlk at hlk
  simp only [Bool.and_eq_true] at hlk
  obtain ⟨⟨⟨h1, h2⟩, h3⟩, h4⟩ := hlk
  obtain ⟨hd, rfl⟩ := tqnx h4 hdec
  have hk1 := tqbl h1
  have e2 := tqbq h2
  subst e2
  exact s_new hK hts hown hk1 (hts _ (tqgood (tqCL_link (by omega) h3) rfl)) (hts _ (tqgood (tqw_inst r1 hk1) rfl)) (hts _ (tqgood (tqw_init r1 hk1) rfl)) hc hs hx hb hd h
theorem j_multianewarray {lsA stA : List tqV} {m : tqM} {cb : Bool} {p1 p2 : Nat} {ls' st' : List tqV} {m' : tqM} {nx r1 r2 : Nat} {cv : Int} {sw : List (Int × Nat)} {dd : List Nat} {idx dm : Nat} (Cx : tqCx p R s mid args meth c g d k) (hdec : decode (tqmi k).2.1 pc = .ok (.multianewarray idx dm, nx - pc)) (hlk : tqlk k pc (.multianewarray idx dm, nx, r1, r2, cv, sw, dd) = true) (hX : tqX d (.multianewarray idx dm, nx, r1, r2, cv, sw, dd) lsA stA m = some (true, .inl (cb, p1, p2, ls', st', m'))) (hc : m'.2.2.2.1 - c0 ≤ R.cells) (hs : m'.2.2.2.2 - s0 ≤ R.slots) (h : tqW1 p l e R s mid args below meth c Q g (tqmi k).2.2.1 c0 s0 (bif cb then p1 else p2) ls' st' m') : tqW1 p l e R s mid args below meth c Q g (tqmi k).2.2.1 c0 s0 pc lsA stA m := by
  obtain ⟨hx, hb, hml, hown, hts, hK, hXs, hbA, hbs, hini, hfr, hlo⟩ := Cx
  obtain ⟨q, st0, rfl, hX⟩ := pI_some hX
  obtain ⟨n, st1, rfl, hX⟩ := pI_some hX
  obtain ⟨hg, rfl, rfl, rfl, rfl, rfl, rfl⟩ := tqjg_some hX
  unfold tqlk at hlk
  simp only [Bool.and_eq_true] at hlk
  obtain ⟨⟨h1, h2⟩, h3⟩ := hlk
  obtain ⟨hd, rfl⟩ := tqnx h3 hdec
  simp only [Bool.and_eq_true, decide_eq_true_eq] at hg
  obtain ⟨rfl, rfl⟩ := hg
  have e1 := tqbq h1
  subst e1
  exact s_multi hK hown (hts _ (tqgood (tqCL_grid h2) rfl)) (hK.2 _ tqw_ovg rfl) (hts _ (tqgood tqw_int rfl)) hc hs hx hb hd h
theorem j_invokestatic {lsA stA : List tqV} {m : tqM} {cb : Bool} {p1 p2 : Nat} {ls' st' : List tqV} {m' : tqM} {nx r1 r2 : Nat} {cv : Int} {sw : List (Int × Nat)} {dd : List Nat} {idx : Nat} (Cx : tqCx p R s mid args meth c g d k) (hdec : decode (tqmi k).2.1 pc = .ok (.invokestatic idx, nx - pc)) (hlk : tqlk k pc (.invokestatic idx, nx, r1, r2, cv, sw, dd) = true) (hX : tqX d (.invokestatic idx, nx, r1, r2, cv, sw, dd) lsA stA m = some (true, .inl (cb, p1, p2, ls', st', m'))) (hc : m'.2.2.2.1 - c0 ≤ R.cells) (hs : m'.2.2.2.2 - s0 ≤ R.slots) (h : tqW1 p l e R s mid args below meth c Q g (tqmi k).2.2.1 c0 s0 (bif cb then p1 else p2) ls' st' m') : tqW1 p l e R s mid args below meth c Q g (tqmi k).2.2.1 c0 s0 pc lsA stA m := by
  obtain ⟨hx, hb, hml, hown, hts, hK, hXs, hbA, hbs, hini, hfr, hlo⟩ := Cx
  dsimp only [tqX] at hX
  split at hX
  · obtain ⟨n, st0, rfl, hX1⟩ := pI_some hX
    obtain ⟨j, st1, rfl, hX2⟩ := pI_some hX1
    obtain ⟨b, st2, rfl, hX3⟩ := pR_some hX2
    obtain ⟨i, st3, rfl, hX4⟩ := pI_some hX3
    obtain ⟨a, st4, rfl, hX5⟩ := pR_some hX4
    obtain ⟨hg, rfl, rfl, rfl, rfl, rfl, rfl⟩ := tqjg_some hX5
    unfold tqlk at hlk
    simp only [Bool.and_eq_true] at hlk
    obtain ⟨hd, rfl⟩ := tqnx hlk.2 hdec
    simp only [Bool.and_eq_true, decide_eq_true_eq] at hg
    obtain ⟨⟨⟨g1, g2⟩, ⟨⟨⟨g3, g4⟩, g5⟩, g6⟩, g7⟩, g8, g9⟩ := hg
    have hd1 : 1 ≤ d := by
      match d, g8 with
      | d + 1, _ => omega
    exact s_arraycopy hK hml hown (hts _ (tqgood (tqHL_plain hlk.1) rfl)) (hts _ (tqgood tqw_nat rfl)) (hts _ (tqgood tqw_cst rfl)) (hts _ (tqgood tqw_sys rfl)) (by omega) (by omega) (Nat.le_of_ble_eq_true g9) (tqbq g1) (tqbq g2) g3 g4 g5 g6 g7 hx hb hd h
  · obtain ⟨y, st0, rfl, hX1⟩ := pI_some hX
    obtain ⟨x, st1, rfl, hX2⟩ := pI_some hX1
    obtain ⟨hg, rfl, rfl, rfl, rfl, rfl, rfl⟩ := tqjg_some hX2
    unfold tqlk at hlk
    simp only [Bool.and_eq_true] at hlk
    obtain ⟨hd, rfl⟩ := tqnx hlk.2 hdec
    simp only [Bool.and_eq_true, decide_eq_true_eq] at hg
    obtain ⟨g8, g9⟩ := hg
    have hd1 : 1 ≤ d := by
      match d, g8 with
      | d + 1, _ => omega
    exact s_mmax hml hown (hts _ (tqgood (tqHL_plain hlk.1) rfl)) (hts _ (tqgood tqw_smax rfl)) (hts _ (tqgood tqw_mi rfl)) (hts _ (tqgood tqw_cmax rfl)) (by omega) (by omega) (Nat.le_of_ble_eq_true g9) hc hs hx hb hd h
  · obtain ⟨y, st0, rfl, hX1⟩ := pI_some hX
    obtain ⟨x, st1, rfl, hX2⟩ := pI_some hX1
    obtain ⟨hg, rfl, rfl, rfl, rfl, rfl, rfl⟩ := tqjg_some hX2
    unfold tqlk at hlk
    simp only [Bool.and_eq_true] at hlk
    obtain ⟨hd, rfl⟩ := tqnx hlk.2 hdec
    simp only [Bool.and_eq_true, decide_eq_true_eq] at hg
    obtain ⟨g8, g9⟩ := hg
    have hd1 : 1 ≤ d := by
      match d, g8 with
      | d + 1, _ => omega
    exact s_mmin hml hown (hts _ (tqgood (tqHL_plain hlk.1) rfl)) (hts _ (tqgood tqw_smin rfl)) (hts _ (tqgood tqw_mi rfl)) (hts _ (tqgood tqw_cmin rfl)) (by omega) (by omega) (Nat.le_of_ble_eq_true g9) hc hs hx hb hd h
  · obtain ⟨x, st0, rfl, hX1⟩ := pL_some hX
    obtain ⟨hg, rfl, rfl, rfl, rfl, rfl, rfl⟩ := tqjg_some hX1
    unfold tqlk at hlk
    simp only [Bool.and_eq_true] at hlk
    obtain ⟨hd, rfl⟩ := tqnx hlk.2 hdec
    simp only [Bool.and_eq_true, decide_eq_true_eq] at hg
    obtain ⟨g8, g9⟩ := hg
    have hd1 : 1 ≤ d := by
      match d, g8 with
      | d + 1, _ => omega
    exact s_mabs hml hown (hts _ (tqgood (tqHL_plain hlk.1) rfl)) (hts _ (tqgood tqw_sabl rfl)) (hts _ (tqgood tqw_mi rfl)) (hts _ (tqgood tqw_cabl rfl)) (by omega) (by omega) (Nat.le_of_ble_eq_true g9) hc hs hx hb hd h
  · obtain ⟨y, st0, rfl, hX1⟩ := pL_some hX
    obtain ⟨x, st1, rfl, hX2⟩ := pL_some hX1
    obtain ⟨hg, rfl, rfl, rfl, rfl, rfl, rfl⟩ := tqjg_some hX2
    unfold tqlk at hlk
    simp only [Bool.and_eq_true] at hlk
    obtain ⟨hd, rfl⟩ := tqnx hlk.2 hdec
    simp only [Bool.and_eq_true, decide_eq_true_eq] at hg
    obtain ⟨g8, g9⟩ := hg
    have hd1 : 1 ≤ d := by
      match d, g8 with
      | d + 1, _ => omega
    exact s_mminl hml hown (hts _ (tqgood (tqHL_plain hlk.1) rfl)) (hts _ (tqgood tqw_smnl rfl)) (hts _ (tqgood tqw_mi rfl)) (hts _ (tqgood tqw_cmnl rfl)) (by omega) (by omega) (Nat.le_of_ble_eq_true g9) hc hs hx hb hd h
  · obtain ⟨y, st0, rfl, hX1⟩ := pI_some hX
    obtain ⟨x, st1, rfl, hX2⟩ := pI_some hX1
    obtain ⟨hg, rfl, rfl, rfl, rfl, rfl, rfl⟩ := tqjg_some hX2
    unfold tqlk at hlk
    simp only [Bool.and_eq_true] at hlk
    obtain ⟨hd, rfl⟩ := tqnx hlk.2 hdec
    simp only [Bool.and_eq_true, decide_eq_true_eq] at hg
    obtain ⟨g0, g8, g9⟩ := hg
    have hd1 : 1 ≤ d := by
      match d, g8 with
      | d + 1, _ => omega
    exact s_fm g0 hml hown (hts _ (tqgood (tqHL_plain hlk.1) rfl)) (hts _ (tqgood tqw_sfm rfl)) (hts _ (tqgood tqw_mi rfl)) (hts _ (tqgood tqw_cfm rfl)) (by omega) (by omega) (Nat.le_of_ble_eq_true g9) hc hs hx hb hd h
  · split at hX
    · exact tq_ni hX
    · cases hX
theorem j_invokespecial {lsA stA : List tqV} {m : tqM} {cb : Bool} {p1 p2 : Nat} {ls' st' : List tqV} {m' : tqM} {nx r1 r2 : Nat} {cv : Int} {sw : List (Int × Nat)} {dd : List Nat} {idx : Nat} (Cx : tqCx p R s mid args meth c g d k) (hdec : decode (tqmi k).2.1 pc = .ok (.invokespecial idx, nx - pc)) (hlk : tqlk k pc (.invokespecial idx, nx, r1, r2, cv, sw, dd) = true) (hX : tqX d (.invokespecial idx, nx, r1, r2, cv, sw, dd) lsA stA m = some (true, .inl (cb, p1, p2, ls', st', m'))) (hc : m'.2.2.2.1 - c0 ≤ R.cells) (hs : m'.2.2.2.2 - s0 ≤ R.slots) (h : tqW1 p l e R s mid args below meth c Q g (tqmi k).2.2.1 c0 s0 (bif cb then p1 else p2) ls' st' m') : tqW1 p l e R s mid args below meth c Q g (tqmi k).2.2.1 c0 s0 pc lsA stA m := by
  obtain ⟨hx, hb, hml, hown, hts, hK, hXs, hbA, hbs, hini, hfr, hlo⟩ := Cx
  dsimp only [tqX] at hX
  split at hX
  · obtain ⟨a, st4, rfl, hX⟩ := pR_some hX
    obtain ⟨hg, rfl, rfl, rfl, rfl, rfl, rfl⟩ := tqjg_some hX
    unfold tqlk at hlk
    simp only [Bool.and_eq_true] at hlk
    obtain ⟨hd, rfl⟩ := tqnx hlk.2 hdec
    simp only [Bool.and_eq_true, decide_eq_true_eq] at hg
    obtain ⟨g1, g8, g9⟩ := hg
    have hd1 : 1 ≤ d := by
      match d, g8 with
      | d + 1, _ => omega
    exact s_objinit g1 hml hown (hts _ (tqgood (tqHL_plain hlk.1) rfl)) (hts _ (tqgood tqw_oin rfl)) (hts _ (tqgood tqw_oco rfl)) (by omega) (by omega) (Nat.le_of_ble_eq_true g9) hx hb hd h
  · split at hX
    · exact tq_ni hX
    · cases hX
theorem tq_jump {lsA stA : List tqV} {m : tqM} {cb : Bool} {p1 p2 : Nat} {ls' st' : List tqV} {m' : tqM} {en : tqEn} (Cx : tqCx p R s mid args meth c g d k) (hdec : decode (tqmi k).2.1 pc = .ok (en.1, en.2.1 - pc)) (hlk : tqlk k pc en = true) (hX : tqX d en lsA stA m = some (true, .inl (cb, p1, p2, ls', st', m'))) (hc : m'.2.2.2.1 - c0 ≤ R.cells) (hs : m'.2.2.2.2 - s0 ≤ R.slots) (h : tqW1 p l e R s mid args below meth c Q g (tqmi k).2.2.1 c0 s0 (bif cb then p1 else p2) ls' st' m') : tqW1 p l e R s mid args below meth c Q g (tqmi k).2.2.1 c0 s0 pc lsA stA m := by
  obtain ⟨i, nx, r1, r2, cv, sw, dd⟩ := en
  cases i
  case iadd => exact j_iadd Cx hdec hlk hX hc hs h
  case isub => exact j_isub Cx hdec hlk hX hc hs h
  case imul => exact j_imul Cx hdec hlk hX hc hs h
  case iand => exact j_iand Cx hdec hlk hX hc hs h
  case ior => exact j_ior Cx hdec hlk hX hc hs h
  case ixor => exact j_ixor Cx hdec hlk hX hc hs h
  case ishl => exact j_ishl Cx hdec hlk hX hc hs h
  case ishr => exact j_ishr Cx hdec hlk hX hc hs h
  case iushr => exact j_iushr Cx hdec hlk hX hc hs h
  case ladd => exact j_ladd Cx hdec hlk hX hc hs h
  case lsub => exact j_lsub Cx hdec hlk hX hc hs h
  case lmul => exact j_lmul Cx hdec hlk hX hc hs h
  case lcmp => exact j_lcmp Cx hdec hlk hX hc hs h
  case idiv => exact j_idiv Cx hdec hlk hX hc hs h
  case irem => exact j_irem Cx hdec hlk hX hc hs h
  case ldiv => exact j_ldiv Cx hdec hlk hX hc hs h
  case lrem => exact j_lrem Cx hdec hlk hX hc hs h
  case ineg => exact j_ineg Cx hdec hlk hX hc hs h
  case lneg => exact j_lneg Cx hdec hlk hX hc hs h
  case i2l => exact j_i2l Cx hdec hlk hX hc hs h
  case l2i => exact j_l2i Cx hdec hlk hX hc hs h
  case i2b => exact j_i2b Cx hdec hlk hX hc hs h
  case iconst => exact j_iconst Cx hdec hlk hX hc hs h
  case bipush => exact j_bipush Cx hdec hlk hX hc hs h
  case sipush => exact j_sipush Cx hdec hlk hX hc hs h
  case lconst => exact j_lconst Cx hdec hlk hX hc hs h
  case ldc => exact j_ldc Cx hdec hlk hX hc hs h
  case ldc_w => exact j_ldc_w Cx hdec hlk hX hc hs h
  case ldc2_w => exact j_ldc2_w Cx hdec hlk hX hc hs h
  case aconst_null => exact j_aconst_null Cx hdec hlk hX hc hs h
  case iload => exact j_iload Cx hdec hlk hX hc hs h
  case iload_n => exact j_iload_n Cx hdec hlk hX hc hs h
  case lload => exact j_lload Cx hdec hlk hX hc hs h
  case lload_n => exact j_lload_n Cx hdec hlk hX hc hs h
  case aload => exact j_aload Cx hdec hlk hX hc hs h
  case aload_n => exact j_aload_n Cx hdec hlk hX hc hs h
  case istore => exact j_istore Cx hdec hlk hX hc hs h
  case istore_n => exact j_istore_n Cx hdec hlk hX hc hs h
  case lstore => exact j_lstore Cx hdec hlk hX hc hs h
  case lstore_n => exact j_lstore_n Cx hdec hlk hX hc hs h
  case astore => exact j_astore Cx hdec hlk hX hc hs h
  case astore_n => exact j_astore_n Cx hdec hlk hX hc hs h
  case iinc => exact j_iinc Cx hdec hlk hX hc hs h
  case ifCond => exact j_ifCond Cx hdec hlk hX hc hs h
  case if_icmp => exact j_if_icmp Cx hdec hlk hX hc hs h
  case goto => exact j_goto Cx hdec hlk hX hc hs h
  case ifnull => exact j_ifnull Cx hdec hlk hX hc hs h
  case ifnonnull => exact j_ifnonnull Cx hdec hlk hX hc hs h
  case dup => exact j_dup Cx hdec hlk hX hc hs h
  case pop => exact j_pop Cx hdec hlk hX hc hs h
  case dup2 => exact j_dup2 Cx hdec hlk hX hc hs h
  case getfield => exact j_getfield Cx hdec hlk hX hc hs h
  case putfield => exact j_putfield Cx hdec hlk hX hc hs h
  case iaload => exact j_iaload Cx hdec hlk hX hc hs h
  case laload => exact j_laload Cx hdec hlk hX hc hs h
  case baload => exact j_baload Cx hdec hlk hX hc hs h
  case aaload => exact j_aaload Cx hdec hlk hX hc hs h
  case iastore => exact j_iastore Cx hdec hlk hX hc hs h
  case lastore => exact j_lastore Cx hdec hlk hX hc hs h
  case bastore => exact j_bastore Cx hdec hlk hX hc hs h
  case aastore => exact j_aastore Cx hdec hlk hX hc hs h
  case arraylength => exact j_arraylength Cx hdec hlk hX hc hs h
  case newarray => exact j_newarray Cx hdec hlk hX hc hs h
  case anewarray => exact j_anewarray Cx hdec hlk hX hc hs h
  case new => exact j_new Cx hdec hlk hX hc hs h
  case multianewarray => exact j_multianewarray Cx hdec hlk hX hc hs h
  case invokestatic => exact j_invokestatic Cx hdec hlk hX hc hs h
  case invokespecial => exact j_invokespecial Cx hdec hlk hX hc hs h
  case tableswitch =>
    obtain ⟨x, st0, rfl, hX⟩ := pI_some hX
    cases hX
  case lookupswitch =>
    obtain ⟨x, st0, rfl, hX⟩ := pI_some hX
    cases hX
  case invokevirtual =>
    dsimp only [tqX] at hX
    split at hX
    · exact tq_ni hX
    · cases hX
  case ireturn =>
    obtain ⟨x, st0, rfl, hX1⟩ := pI_some hX
    split at hX1
    · exact tq_ni hX1
    · cases hX1
  case lreturn =>
    obtain ⟨x, st0, rfl, hX1⟩ := pL_some hX
    split at hX1
    · exact tq_ni hX1
    · cases hX1
  case areturn =>
    obtain ⟨x, st0, rfl, hX1⟩ := pR_some hX
    split at hX1
    · exact tq_ni hX1
    · cases hX1
  case return_ =>
    dsimp only [tqX] at hX
    split at hX
    · exact tq_ni hX
    · cases hX
  all_goals cases hX
end TQJ
