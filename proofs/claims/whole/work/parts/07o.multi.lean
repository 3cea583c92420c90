/-! ===== six rows of eight ints at once ===== -/
abbrev tqou (cA : ClassId) (h i : Nat) : Cell := arrV cA 6 (fun j => if j < i then .ref (h + 1 + j) else .null)
abbrev tqnn8 (cB : ClassId) : Cell := arrV cB 8 (fun _ => .int 0)
/-- the state with the outer row and i inner ones -/
def tqgr (T : State) (cA cB : ClassId) : Nat → State
  | 0 => T.pushCell (tqou cA T.heap.size 0)
  | i + 1 => ((tqgr T cA cB i).pushCell (tqnn8 cB)).setCell T.heap.size (tqou cA T.heap.size (i + 1))
theorem tqou_set (cA : ClassId) (h i : Nat) : (tqou cA h i).setSlot i (.ref (h + 1 + i)) = tqou cA h (i + 1) := by
  unfold tqou
  rw [arrV_store]
  congr 1
  funext j
  unfold updV
  by_cases q : j = i
  · subst q
    rw [if_pos rfl, if_pos (by omega)]
  · rw [if_neg q]
    dsimp only
    by_cases q2 : j < i
    · rw [if_pos q2, if_pos (by omega)]
    · rw [if_neg q2, if_neg (by omega)]
theorem tqgr_facts (T : State) (cA cB : ClassId) : ∀ i, (tqgr T cA cB i).heap.size = T.heap.size + 1 + i ∧ (tqgr T cA cB i).heap[T.heap.size]? = some (tqou cA T.heap.size i) ∧ (tqgr T cA cB i).vm = T.vm ∧ (tqgr T cA cB i).slotsUsed = T.slotsUsed + 6 + i * 8 ∧ (∀ a, a < T.heap.size → (tqgr T cA cB i).heap[a]? = T.heap[a]?) ∧ ∀ j, j < i → (tqgr T cA cB i).heap[T.heap.size + 1 + j]? = some (tqnn8 cB)
  | 0 => ⟨by simp [tqgr], State.heap_pushCell_size _ _, rfl, by simp [tqgr, arrV_size], fun a ha => State.heap_pushCell_of_lt _ _ ha, fun j hj => absurd hj (Nat.not_lt_zero _)⟩
  | i + 1 => by
    obtain ⟨h1, h2, h3, h4, h5, h6⟩ := tqgr_facts T cA cB i
    have hlt : T.heap.size < (tqgr T cA cB i).heap.size := by omega
    have hb : ((tqgr T cA cB i).pushCell (tqnn8 cB)).heap[T.heap.size]? = some (tqou cA T.heap.size i) := by rw [State.heap_pushCell_of_lt (h := hlt)]; exact h2
    have hp : (tqgr T cA cB i).heap[T.heap.size + 1 + i]? = none := Array.getElem?_eq_none (by omega)
    refine ⟨by simp [tqgr, State.setCell, h1]; omega, State.heap_setCell_self hb, by simp [tqgr, h3], by simp [tqgr, h4, arrV_size]; omega, fun a ha => ?_, fun j hj => ?_⟩
    · show (((tqgr T cA cB i).pushCell (tqnn8 cB)).setCell T.heap.size _).heap[a]? = _
      have hlt2 : a < (tqgr T cA cB i).heap.size := by omega
      rw [State.heap_setCell_other (Nat.ne_of_gt ha), State.heap_pushCell_of_lt (h := hlt2)]
      exact h5 a ha
    · show (((tqgr T cA cB i).pushCell (tqnn8 cB)).setCell T.heap.size _).heap[T.heap.size + 1 + j]? = _
      rw [State.heap_setCell_other (show T.heap.size ≠ T.heap.size + 1 + j by omega)]
      by_cases q : j = i
      · subst q
        rw [← h1]
        exact State.heap_pushCell_size _ _
      · have hlt2 : T.heap.size + 1 + j < (tqgr T cA cB i).heap.size := by omega
        rw [State.heap_pushCell_of_lt (h := hlt2)]
        exact h6 j (by omega)
theorem tqgr_top (T : State) (f : JFrame) (cA cB : ClassId) : ∀ i, tqgr (T.setTop f) cA cB i = (tqgr T cA cB i).setTop f
  | 0 => rfl
  | i + 1 => by simp only [tqgr, tqgr_top T f cA cB i, State.heap_setTop, State.pushCell_setTop, State.setCell_setTop]
section TQWP
variable {E : CtlPost} {e : Env} {d : Bool} {acts : List Action} {s : State}
/-- the model's newArray with a default value -/
theorem tqwp_arr {c0 comp : ClassId} {k : Class} {ty : Jvm.ClassFile.FieldType} {n : Nat} {v : Value} (hk : s.vm.classes[c0]? = some k) (hkd : k.kind = .array comp ty) (hn : n ≤ 8) (hl : 8 ≤ e.platform.arrayLengthLimit) (hb : componentBytes ty ≤ 8) (hm : 64 ≤ e.platform.maxHeapBytes) (hf : fits ty v = true) (hv : v.isDefault = true) (h1 : s.heap.size < e.platform.maxCells) (h2 : s.slotsUsed + n ≤ e.platform.maxSlots) {Q : Addr → Pre} (hq : Q s.heap.size d acts (s.pushCell (arrV c0 n (fun _ => v)))) : wp (Jvm.newArray c0 n v) Q E e d acts s := by
  have hnb : ¬ n * componentBytes ty > e.platform.maxHeapBytes := by
    have := Nat.mul_le_mul hn hb
    omega
  have hfs : ∀ i w, (Array.replicate n v)[i]? = some w → s.fitsSlot c0 .none i w = true := by
    intro i w hw
    simp only [Array.getElem?_replicate] at hw
    split at hw
    · cases hw; simp [State.fitsSlot, State.slotType?, hk, hkd, hf]
    · cases hw
  have hal : ((Array.replicate n v).all (·.isDefault)) = true := by
    rw [Array.all_replicate]; split <;> simp [hv]
  have hac : allocActs (Array.replicate n v) s.heap.size acts = acts := by unfold allocActs; rw [if_pos hal]
  have hln : ¬ n > e.platform.arrayLengthLimit := by omega
  rw [← arrV_new] at hq
  simp only [Jvm.newArray, Jvm.arrayFits, wp_bind', W.ask, W.ite, hln, if_false, wp_pure', W.theClass, hk, hkd, hnb, W.alloc, W.stop, Option.some.injEq, exists_eq_left', Array.size_replicate, hac]
  rw [if_neg (by omega)]
  exact ⟨h1, h2, hfs, hq⟩
theorem tqwp_in {cB cI : ClassId} {kB : Class} (hk : s.vm.classes[cB]? = some kB) (hkd : kB.kind = .array cI .int) (hl : 8 ≤ e.platform.arrayLengthLimit) (hm : 64 ≤ e.platform.maxHeapBytes) (h1 : s.heap.size < e.platform.maxCells) (h2 : s.slotsUsed + 8 ≤ e.platform.maxSlots) {Q : Addr → Pre} (hq : Q s.heap.size d acts (s.pushCell (tqnn8 cB))) : wp (Jvm.Op.multianewarray.make cB [8]) Q E e d acts s := by
  rw [Jvm.Op.multianewarray.make]
  have h8 : ¬ ((8 : Int32) < 0) := by decide
  simp only [wp_bind', W.ite, h8, if_false, wp_pure', W.theClass, hk, hkd, Option.some.injEq, exists_eq_left']
  exact tqwp_arr (n := 8) hk hkd (Nat.le_refl _) hl (by decide) hm rfl rfl h1 h2 hq
theorem tqwp_make {cA cB cI : ClassId} {kA kB : Class} (hA : s.vm.classes[cA]? = some kA) (hkA : kA.kind = .array cB (.array .int)) (hB : s.vm.classes[cB]? = some kB) (hkB : kB.kind = .array cI .int) (hl : 8 ≤ e.platform.arrayLengthLimit) (hm : 64 ≤ e.platform.maxHeapBytes) (h1 : s.heap.size + 7 ≤ e.platform.maxCells) (h2 : s.slotsUsed + 54 ≤ e.platform.maxSlots) {Q : Addr → Pre} (hq : ∀ d' acts', Q s.heap.size d' acts' (tqgr s cA cB 6)) : wp (Jvm.Op.multianewarray.make cA [6, 8]) Q E e d acts s := by
  rw [Jvm.Op.multianewarray.make]
  have h6 : ¬ ((6 : Int32) < 0) := by decide
  have hfd : ([8].find? (fun z : Int32 => z < 0)) = none := by decide
  simp only [wp_bind', W.ite, h6, if_false, wp_pure', W.theClass, hA, hkA, Option.some.injEq, exists_eq_left']
  refine tqwp_arr (n := 6) hA hkA (by decide) hl (by decide) hm rfl rfl (by omega) (by omega) ?_
  simp only [hfd]
  rw [ite_self, wp_bind', Std.Legacy.Range.forIn_eq_forIn_range']
  have hsz : ([:(6 : Int32).toNatClampNeg] : Std.Legacy.Range).size = 6 := by decide
  rw [hsz]
  show wp (forIn (List.range' 0 6 1) PUnit.unit _) _ E e d acts _
  refine wp_forIn_inv (fun rest s' => ∃ i, i ≤ 6 ∧ rest = List.range' i (6 - i) ∧ s' = tqgr s cA cB i) _ _ ⟨0, Nat.zero_le _, rfl, ?_⟩ ?_ ?_
  · show s.pushCell (arrV cA 6 (fun _ => .null)) = s.pushCell (tqou cA s.heap.size 0)
    congr 1
  · rintro y rest s' d' acts' Q' ⟨i, hi, hr, rfl⟩ hnext
    have hlt : i < 6 := by
      rcases Nat.lt_or_ge i 6 with q | q
      · exact q
      · rw [show 6 - i = 0 by omega] at hr; cases hr
    have hr2 : List.range' i (6 - i) = i :: List.range' (i + 1) (6 - (i + 1)) := by
      rw [show 6 - i = (6 - (i + 1)) + 1 by omega, List.range'_succ]
    rw [hr2] at hr
    obtain ⟨rfl, hrest⟩ := List.cons.inj hr
    obtain ⟨f1, f2, f3, f4, f5, f6⟩ := tqgr_facts s cA cB y
    simp only [wp_bind']
    refine tqwp_in (by rw [f3]; exact hB) hkB hl hm (by rw [f1]; omega) (by rw [f4]; omega) ?_
    have hl0 : s.heap.size < (tqgr s cA cB y).heap.size := by rw [f1]; omega
    simp only [wp_bind', W.writeLoc, wp_pure']
    refine ⟨tqou cA s.heap.size y, by rw [State.heap_pushCell_of_lt (h := hl0)]; exact f2, (fun q => by cases q), by rw [arrV_size]; exact hlt, ?_, hnext _ _ _ ⟨y + 1, hlt, hrest, ?_⟩⟩
    · show State.fitsSlot _ cA .none y _ = true
      simp [State.fitsSlot, State.slotType?, f3, hA, hkA, fits]
    · rw [f1, tqou_set]
      rfl
  · rintro s' d' acts' ⟨i, hi, hr, rfl⟩
    have e6 : i = 6 := by
      rcases Nat.lt_or_ge i 6 with q | q
      · rw [show 6 - i = (6 - (i + 1)) + 1 by omega, List.range'_succ] at hr; cases hr
      · omega
    subst e6
    simp only [wp_pure']
    exact hq _ _
end TQWP
section TQMU
variable {p : Program} {l : Launch} {e : Env} {R : Room} {s : State} {mid : MethodId} {args : Array Value} {below : List Frame} {meth : Method} {c : Code} {Q : State → Prop} {g : tqG} {cc : ByteArray} {nL c0 s0 pc : Nat} {lsA st : List tqV} {m : tqM}
theorem tqgr_stand {T : State} {locs : List Loc} {cells slots : Nat} (X : Stand p l e R s mid args below meth c T locs cells slots) (cA cB : ClassId) : ∀ i, Stand p l e R s mid args below meth c (tqgr T cA cB i) (locs ++ (List.range i).map fun j => ⟨T.heap.size, j⟩) (cells + 1 + i) (slots + 6 + i * 8)
  | 0 => by
    have h := X.pushed (tqou cA T.heap.size 0)
    rw [arrV_size] at h
    simpa [tqgr] using h
  | i + 1 => by
    have Xi := tqgr_stand X cA cB i
    obtain ⟨f1, f2, -, -, -, -⟩ := tqgr_facts T cA cB i
    have hlt2 : T.heap.size < (tqgr T cA cB i).heap.size := by omega
    have hc : ((tqgr T cA cB i).pushCell (tqnn8 cB)).heap[T.heap.size]? = some (tqou cA T.heap.size i) := by rw [State.heap_pushCell_of_lt (h := hlt2)]; exact f2
    have h := (Xi.pushed (tqnn8 cB)).stored hc i (.ref (T.heap.size + 1 + i))
    rw [arrV_size, tqou_set] at h
    have e2 : (locs ++ (List.range (i + 1)).map fun j => (⟨T.heap.size, j⟩ : Loc)) = (locs ++ (List.range i).map fun j => (⟨T.heap.size, j⟩ : Loc)) ++ [⟨T.heap.size, i⟩] := by simp [List.range_succ, List.append_assoc]
    have e3 : slots + 6 + (i + 1) * 8 = slots + 6 + i * 8 + 8 := by omega
    rw [e2, e3]
    exact h
/-- the pure rows, one by one -/
theorem tqmake_n (m : tqM) : ∀ n, (tqmake n 8 m).2.2.2.1 = m.2.2.2.1 + n ∧ (tqmake n 8 m).2.2.2.2 = m.2.2.2.2 + n * 8
  | 0 => ⟨rfl, by simp [tqmake]⟩
  | n + 1 => by
    obtain ⟨h1, h2⟩ := tqmake_n m n
    refine ⟨?_, ?_⟩
    · show (tqmake n 8 m).2.2.2.1 + 1 = _
      omega
    · show (tqmake n 8 m).2.2.2.2 + 8 = _
      omega
theorem tqmk_H {g : tqG} {m : tqM} {T : State} {cA cB : ClassId} (hA : cA = g.2.1 7) (hB : cB = g.2.1 1) (hH : tqH g m T.heap) : ∀ i, i ≤ 6 → tqH g (tqmake i 8 (tqnew m 7 6)) (tqgr T cA cB i).heap ∧ tqS (tqmake i 8 (tqnew m 7 6)) (m.2.2.2.1 + 1) = (7, 6) ∧ ∀ j : Nat, j < 6 → (tqmake i 8 (tqnew m 7 6)).2.1 (m.2.2.2.1 + 1) (j : Int) = if j < i then m.2.2.2.1 + 2 + j else 0 := by
  subst hA
  subst hB
  have hcn : 1 ≤ m.2.2.2.1 := hH.2.2.2.2.1
  intro i
  induction i with
  | zero =>
    intro _
    obtain ⟨f1, f2, -, -, f5, -⟩ := tqgr_facts T (g.2.1 7) (g.2.1 1) 0
    have e3 : tqS (tqnew m 7 6) (m.2.2.2.1 + 1) = (7, 6) := if_pos rfl
    have ed : ∀ j : Int, (tqnew m 7 6).2.1 (m.2.2.2.1 + 1) j = 0 := fun j => if_pos rfl
    refine ⟨hH.push (m' := tqnew m 7 6) rfl (by rw [f1]) f5 (fun b hb => tqnew_ent hb) ?_ (tqnew_ok hH.2.2 (by decide) (by decide)), e3, fun j _ => ?_⟩
    · rw [tqent_q (by rw [e3]; decide) (by rw [e3]; decide), e3]
      show (tqgr T (g.2.1 7) (g.2.1 1) 0).heap[T.heap.size]? = some (vp_cell _ _)
      simp only [ed]
      exact f2
    · rw [if_neg (Nat.not_lt_zero _)]
      exact ed _
  | succ i ih =>
    intro hi
    obtain ⟨h1, h2, h3⟩ := ih (by omega)
    obtain ⟨f1, f2, -, -, f5, f6⟩ := tqgr_facts T (g.2.1 7) (g.2.1 1) i
    obtain ⟨k1, k2, -, -, k5, k6⟩ := tqgr_facts T (g.2.1 7) (g.2.1 1) (i + 1)
    obtain ⟨n1, -⟩ := tqmake_n (tqnew m 7 6) i
    have n1 : (tqmake i 8 (tqnew m 7 6)).2.2.2.1 = m.2.2.2.1 + 1 + i := n1
    generalize hmi : tqmake i 8 (tqnew m 7 6) = mi at h1 h2 h3 n1
    have em : tqmake (i + 1) 8 (tqnew m 7 6) = tqp (tqnew mi 1 8) (m.2.2.2.1 + 1) (i : Int) (m.2.2.2.1 + 2 + i) := by
      show tqp (tqnew (tqmake i 8 (tqnew m 7 6)) 1 8) ((tqmake i 8 (tqnew m 7 6)).2.2.2.1 - i) (i : Int) ((tqmake i 8 (tqnew m 7 6)).2.2.2.1 + 1) = _
      rw [hmi, n1, show m.2.2.2.1 + 1 + i - i = m.2.2.2.1 + 1 by omega, show m.2.2.2.1 + 1 + i + 1 = m.2.2.2.1 + 2 + i by omega]
    rw [em]
    -- first the new inner row
    have e3 : tqS (tqnew mi 1 8) (mi.2.2.2.1 + 1) = (1, 8) := if_pos rfl
    have ed : ∀ j : Int, (tqnew mi 1 8).1 (mi.2.2.2.1 + 1) j = 0 := fun j => if_pos rfl
    have hpush : tqH g (tqnew mi 1 8) ((tqgr T (g.2.1 7) (g.2.1 1) i).pushCell (tqnn8 (g.2.1 1))).heap := by
      refine h1.push (m' := tqnew mi 1 8) rfl (by simp [State.pushCell]) (fun q hq => State.heap_pushCell_of_lt _ _ hq) (fun b hb => tqnew_ent hb) ?_ (tqnew_ok h1.2.2 (by decide) (by decide))
      rw [tqent_1 (by rw [e3]), e3]
      show ((tqgr T (g.2.1 7) (g.2.1 1) i).pushCell (tqnn8 (g.2.1 1))).heap[(tqgr T (g.2.1 7) (g.2.1 1) i).heap.size]? = some (vp_cell _ _)
      simp only [ed]
      exact State.heap_pushCell_size _ _
    have hne : m.2.2.2.1 + 1 ≠ mi.2.2.2.1 + 1 := by omega
    have hS2 : tqS (tqnew mi 1 8) (m.2.2.2.1 + 1) = (7, 6) := by
      show (if m.2.2.2.1 + 1 = mi.2.2.2.1 + 1 then (1, 8) else tqS mi (m.2.2.2.1 + 1)) = _
      rw [if_neg hne]; exact h2
    have hp2 : ∀ j : Nat, j < 6 → (tqp (tqnew mi 1 8) (m.2.2.2.1 + 1) (i : Int) (m.2.2.2.1 + 2 + i)).2.1 (m.2.2.2.1 + 1) (j : Int) = if j < i + 1 then m.2.2.2.1 + 2 + j else 0 := by
      intro j hj
      rw [tqp_at]
      have e9 : (tqnew mi 1 8).2.1 (m.2.2.2.1 + 1) (j : Int) = mi.2.1 (m.2.2.2.1 + 1) (j : Int) := if_neg hne
      rw [e9, h3 j hj]
      by_cases q : j = i
      · subst q; rw [if_pos rfl, if_pos (by omega)]
      · rw [if_neg (by omega)]
        by_cases q2 : j < i
        · rw [if_pos q2, if_pos (by omega)]
        · rw [if_neg q2, if_neg (by omega)]
    refine ⟨hpush.put (a := m.2.2.2.1 + 1) (by omega) rfl (by rw [k1, show ((tqgr T (g.2.1 7) (g.2.1 1) i).pushCell (tqnn8 (g.2.1 1))).heap.size = (tqgr T (g.2.1 7) (g.2.1 1) i).heap.size + 1 by simp [State.pushCell], f1]; omega) (fun q hq => ?_) (fun b hb => tqp_ent hb) ?_ (tqp_ok hpush.2.2), hS2, hp2⟩
    · rw [tqad_new hH] at hq
      show (((tqgr T (g.2.1 7) (g.2.1 1) i).pushCell (tqnn8 (g.2.1 1))).setCell T.heap.size _).heap[q]? = _
      exact State.heap_setCell_other (Ne.symm hq)
    · rw [tqent_q (by show 4 ≤ (tqS (tqnew mi 1 8) (m.2.2.2.1 + 1)).1; rw [hS2]; decide) (by show (tqS (tqnew mi 1 8) (m.2.2.2.1 + 1)).1 ≤ 9; rw [hS2]; decide), tqad_new hH]
      show (tqgr T (g.2.1 7) (g.2.1 1) (i + 1)).heap[T.heap.size]? = some (arrV (g.2.1 (tqS (tqnew mi 1 8) (m.2.2.2.1 + 1)).1) (tqS (tqnew mi 1 8) (m.2.2.2.1 + 1)).2 (fun j => va_rf (tqrr g ((tqp (tqnew mi 1 8) (m.2.2.2.1 + 1) (i : Int) (m.2.2.2.1 + 2 + i)).2.1 (m.2.2.2.1 + 1) (j : Int)))))
      rw [k2, hS2]
      unfold tqou arrV
      congr 3
      funext j
      dsimp only
      rw [hp2 j.val j.isLt]
      by_cases q : j.val < i + 1
      · rw [if_pos q, if_pos q, tqrr_s (by omega), tqad_ge (by omega), show g.2.2.2.1 + (m.2.2.2.1 + 2 + j.val - 2) = T.heap.size + 1 + j.val by rw [hH.1]; omega]
        rfl
      · rw [if_neg q, if_neg q]
        rfl
theorem tq_gridcomp {A : Array Value} {s : State} {cA cB comp : ClassId} {k : Class} (hov : (Cond.arrayOver (.array .int)).before A s = true) (hA : s.vm.findClass "[[I" = some cA) (hB : s.vm.findClass "[I" = some cB) (hk : s.vm.classes[cA]? = some k) (hkd : k.kind = .array comp (.array .int)) : comp = cB := by
  simp only [Cond.before, Cond.holds, Cond.value, beq_iff_eq] at hov
  have e1 : s.vm.findClass (Jvm.ClassFile.FieldType.array .int).toString = some cB := hB
  simp only [e1, Option.bind_some, Option.bind_eq_some_iff, Option.map_eq_some_iff] at hov
  obtain ⟨c, hi, k', hk', hb⟩ := hov
  obtain ⟨hlt, hp, -⟩ := Array.findIdx?_eq_some_iff_getElem.mp hi
  have ek : s.vm.classes[c] = k' := (Array.getElem?_eq_some_iff.mp hk').2
  rw [ek] at hp
  cases hkind : k'.kind with
  | array component ty =>
    rw [hkind] at hb hp
    simp at hb hp
    have e2 : s.vm.findClass "[[I" = some c := hb.2
    have ecc : c = cA := Option.some.inj (e2.symm.trans hA)
    subst ecc
    have ekk : k' = k := Option.some.inj (hk'.symm.trans hk)
    subst ekk
    rw [hkd] at hkind
    cases hkind
    exact hp
  | _ => rw [hkind] at hb; simp at hb
theorem s_multi {idx : Nat} {own : String} (hK : tqKn g s) (hown : s.vm.findClass own = some mid.cls) (hcl : (Cond.classLink own idx "[[I").before args s = true) (hov : (Cond.arrayOver (.array .int)).before args s = true) (harr : (Cond.arrayClass .int).before args s = true)
    (hc : (tqmulti m 6 8).2.2.2.1 - c0 ≤ R.cells) (hs : (tqmulti m 6 8).2.2.2.2 - s0 ≤ R.slots) (hx : p.tables.exec = Jvm.exec) (hb : c.code = cc) (hd : decode cc pc = .ok (.multianewarray idx 2, 4)) (h : tqW1 p l e R s mid args below meth c Q g nL c0 s0 (pc + 4) lsA (vR (m.2.2.2.1 + 1) :: st) (tqmulti m 6 8)) : tqW1 p l e R s mid args below meth c Q g nL c0 s0 pc lsA (vI 8 :: vI 6 :: st) m := by
  intro H locs ls hH hS hl hst h0 h1
  show W p l e R s mid args below meth c H locs (m.2.2.2.1 - c0) (m.2.2.2.2 - s0) Q (F0 mid pc ls (.int 8 :: .int 6 :: st.map (tqrz g)))
  intro T hT X
  subst hT
  have ecn : (tqmulti m 6 8).2.2.2.1 = m.2.2.2.1 + 7 := rfl
  have esl : (tqmulti m 6 8).2.2.2.2 = m.2.2.2.2 + 54 := rfl
  have hpl : e.platform.magicAccessors = ({} : Platform).magicAccessors := by rw [X.admits.platform]
  -- the two classes
  have hA7 : s.vm.findClass "[[I" = some (g.2.1 7) := (hK.1.2 6 _ rfl).2
  have hB1 : s.vm.findClass "[I" = some (g.2.1 1) := (hK.1.2 0 _ rfl).2
  obtain ⟨-, kA0, hkA0, comp0, hkd0⟩ := (hK.1.2 6 _ rfl).1 0 (fun _ => .null)
  obtain ⟨-, kB0, hkB0, compB, hkdB⟩ := (hK.1.2 0 _ rfl).1 0 (fun _ => .null)
  have hcomp : comp0 = g.2.1 1 := tq_gridcomp hov hA7 hB1 hkA0 hkd0
  subst hcomp
  obtain ⟨c0', hfc0, hclk⟩ := Cond.classLink_spec hown hcl e.platform hpl
  cases hA7.symm.trans hfc0
  obtain ⟨hg₁, hwarm₁, hready₁⟩ := State.classEntry (e := e) X.warmed hclk
  generalize T.vm.noted mid.cls idx (.cls (g.2.1 7)) = vm₁ at hg₁ hwarm₁ hready₁
  have hal : s.vm.Alike vm₁ := hwarm₁.alike
  obtain ⟨kA₁, hkA₁, heA⟩ := hal.2.2 _ _ hkA0
  obtain ⟨kB₁, hkB₁, heB⟩ := hal.2.2 _ _ hkB0
  have hkdA₁ : kA₁.kind = .array (g.2.1 1) (.array .int) := by rw [heA]; exact hkd0
  have hkdB₁ : kB₁.kind = .array compB .int := by rw [heB]; exact hkdB
  have X₁ := X.noted hwarm₁
  obtain ⟨hr1, hr2⟩ := X.roomAbove (a := 7) (b := 54) (by omega) (by omega)
  have XF := tqgr_stand X₁ (g.2.1 7) (g.2.1 1) 6
  have hHF := (tqmk_H (T := T.setVm vm₁) rfl rfl hH 6 (Nat.le_refl _)).1
  obtain ⟨f1, f2, f3, f4, f5, f6⟩ := tqgr_facts (T.setVm vm₁) (g.2.1 7) (g.2.1 1) 6
  have hSF : va_S (tqA g) s.heap (tqgr (T.setVm vm₁) (g.2.1 7) (g.2.1 1) 6).heap (locs ++ (List.range 6).map fun j => ⟨(T.setVm vm₁).heap.size, j⟩) := by
    refine ⟨Nat.le_trans hS.1 (by rw [f1]; show T.heap.size ≤ T.heap.size + 1 + 6; omega), fun q q1 q2 => (f5 q (Nat.lt_of_lt_of_le q1 hS.1)).trans (hS.2.1 q q1 q2), fun q hq => ?_⟩
    rcases List.mem_append.mp hq with z | z
    · exact hS.2.2 q z
    · obtain ⟨j, -, rfl⟩ := List.mem_map.mp z
      show g.2.2.2.1 ≤ T.heap.size
      rw [hH.1]; omega
  have hh := h _ _ ls hHF hSF hl (tqall1 trivial (tqtl (tqtl hst))) (by rw [ecn]; omega) (by rw [esl]; omega)
  have hh : W p l e R s mid args below meth c (tqgr (T.setVm vm₁) (g.2.1 7) (g.2.1 1) 6).heap (locs ++ (List.range 6).map fun j => ⟨(T.setVm vm₁).heap.size, j⟩) (m.2.2.2.1 + 7 - c0) (m.2.2.2.2 + 54 - s0) Q (F0 mid (pc + 4) ls (tqrz g (vR (m.2.2.2.1 + 1)) :: st.map (tqrz g))) := hh
  rw [tqrz_R (by omega), tqad_new hH] at hh
  have XF2 : Stand p l e R s mid args below meth c (tqgr (T.setVm vm₁) (g.2.1 7) (g.2.1 1) 6) (locs ++ (List.range 6).map fun j => ⟨(T.setVm vm₁).heap.size, j⟩) (m.2.2.2.1 + 7 - c0) (m.2.2.2.2 + 54 - s0) := by
    have ec : m.2.2.2.1 - c0 + 1 + 6 = m.2.2.2.1 + 7 - c0 := by omega
    have es : m.2.2.2.2 - s0 + 6 + 6 * 8 = m.2.2.2.2 + 54 - s0 := by omega
    rw [← ec, ← es]
    exact XF
  obtain ⟨t, hst2, hQ⟩ := hh _ rfl XF2
  refine ⟨t, ?_, hQ⟩
  have hdg : decode c.code pc = .ok (.multianewarray idx 2, 4) := by rw [hb]; exact hd
  have hlim : 8 ≤ e.platform.arrayLengthLimit := by rw [Launch.admits_arrayLengthLimit X.admits]; decide
  have hmb : 64 ≤ e.platform.maxHeapBytes := by rw [Launch.admits_maxHeapBytes X.admits]; decide
  generalize hfr : F0 mid pc ls (Value.int 8 :: Value.int 6 :: st.map (tqrz g)) = fr
  have hfm : fr.method = mid := by rw [← hfr]
  have hfs : fr.stack = Value.int 8 :: Value.int 6 :: st.map (tqrz g) := by rw [← hfr]
  have hfp : fr.pc = pc := by rw [← hfr]
  have hnf : { fr with pc := fr.pc + 4, stack := Value.ref T.heap.size :: st.map (tqrz g) } = F0 mid (pc + 4) ls (Value.ref T.heap.size :: st.map (tqrz g)) := by rw [← hfr]
  subst hfm
  rw [← hfp] at hdg
  jvm_step X.here [hx, hdg]
  simp only [Jvm.Op.multianewarray.sem, wp_bind', W.resolveClassAt_links (State.method?_setTop fr X.here.top) hg₁]
  rw [W.popN, if_neg (by decide)]
  refine ⟨fr, State.topJava?_setTop' (s := T.setVm vm₁) fr X.here.top, [.int 6, .int 8], st.map (tqrz g), rfl, hfs, ?_⟩
  simp only [List.mapM_cons, List.mapM_nil, wp_bind', wp_pure']
  refine tqwp_make (kA := kA₁) (kB := kB₁) hkA₁ hkdA₁ hkB₁ hkdB₁ hlim hmb (by show T.heap.size + 7 ≤ _; exact hr1) (by show T.slotsUsed + 54 ≤ _; exact hr2) (fun d' acts' => ?_)
  have eS : ((T.setTop fr).setVm vm₁).setTop { fr with stack := st.map (tqrz g) } = (T.setVm vm₁).setTop { fr with stack := st.map (tqrz g) } := by
    show ((T.setVm vm₁).setTop fr).setTop _ = _
    rw [State.setTop_setTop]
  rw [eS, tqgr_top]
  simp only [wp_bind', W.mark, W.pushRef, State.topJava?_setTop' _ XF2.here.top, Option.some.injEq, exists_eq_left', State.setTop_setTop, State.heap_setTop]
  intro acts
  simp [jvm, XF2.here.top]
  rw [← hnf] at hst2
  exact hst2
end TQMU
