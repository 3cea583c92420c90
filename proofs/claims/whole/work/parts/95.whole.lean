/-! THE CLAIM OUT OF ONE WALK OF THE LAW'S BODY. Your part is whole_start (and what it stands on); all else here is the same for every law, but numbers. -/
def R_law : String := "TrailerYardsLaw"
def lw_P (b : Addr) (xs : List Int32) (args : Array Value) (s : State) : Prop := args = #[.ref b] ∧ s.IntsAt b xs ∧ xs.length ≤ 3584 ∧ (Jvm.Cond.and given_1 narrow_1).before args s = true
def lw_Q (_ : Array Value) (s : State) (o : Outcome) (t : State) : Prop := o = .returned (some (.int 1)) ∧ Framed s o t [] 600000 7302250
def lw_Z (below : List Frame) (a : Array Value) (s : State) : State → Prop := fun t => ∃ o, t.status = .running ∧ Ended t below o ∧ lw_Q a s o t
/-- the law's own end, with 1 on the stack, nothing written that was there before, its room as the claim has it -/
theorem lw_ret {p : Program} {l : Launch} {e : Env} {s : State} {m : MethodId} {below : List Frame} {meth : Method} {c : Code} {b : Nat} (hx : p.tables.exec = Jvm.exec) (hb : c.code = code) (hr : meth.sig.returnType = ret) (hlocks : meth.locks = false) {pc : Nat} {H : Heap} {ls : Array Slot} (hdg : decode code pc = .ok (.ireturn, 1)) : W p l e room_1 s m #[Value.ref b] below meth c H [] 600000 7302250 (lw_Z below #[Value.ref b] s) (F0 m pc ls [.int 1]) := by
  intro T hT X
  obtain ⟨fs, hret, hrun, hended, hW, hframe⟩ := X.leave (v := some (.int 1)) (hlocks := hlocks) (fun h => by rw [hr] at h; cases h)
  have hmeth' : T.vm.method? m = some meth := X.method'
  refine ⟨T.setFrames fs, ?_, .returned (some (.int 1)), hrun, hended, rfl, ⟨_, rfl⟩, hW, hframe⟩
  jvm_step X.here [X.here.top, hx, hb, hdg, hmeth', hr, ret, narrow_b1]
  (try refine ⟨rfl, ?_⟩); (try refine ⟨rfl, ?_⟩)
  first | (intro acts; rw [hret _ acts rfl rfl rfl]) | rw [hret _ _ rfl rfl rfl]
  exact Steps.refl _
/-- what holds at the law's entry: the machine, the code, the tables' words (any of lw_tbl by 'hts w (by decide +kernel)'), the script of L ints xs at the cell b, what the Statement gives of the start (any of its parts by flat_of_before) -/
def lw_At (p : Program) (s : State) (m : MethodId) (meth : Method) (c : Code) (b L : Nat) (xs : Nat → Int32) : Prop :=
  p.tables.exec = Jvm.exec ∧ c.code = code ∧ meth.sig.returnType = ret ∧ c.maxLocals = 4 ∧ s.vm.findClass R_law = some m.cls ∧ (∀ w ∈ lw_tbl, w.before #[Value.ref b] s = true) ∧ va_X b L xs s s.heap ∧ b < s.heap.size ∧ meth.locks = false ∧ (Jvm.Cond.and given_1 narrow_1).before #[Value.ref b] s = true
theorem tq_law (L : Nat) (hL : L ≤ 3584) (ys : Nat → Int) (hy : ∀ j, in32 (ys j)) : ∃ mF, tqrun tqP 1400 (tqP 255).1 0 [vR 1, vU, vU, vU] [] ((fun a j => if a = 1 then ys j.toNat else 0, fun _ _ => 0, fun a => if a = 1 then (8, L) else (0, 0), 1, 0) : tqM) = some (some (vI 1), mF) ∧ mF.2.2.2.1 ≤ 600001 ∧ mF.2.2.2.2 ≤ 7302250 := law_all (Rel := Rel) (fun _ _ h => Rel_n h) (fun L _ => calls_all L) (fun ys _ => Rel_0 ys) L hL ys hy
/-! ===== the law, out of a run of the pure machine ===== -/
def tqm0 (L : Nat) (ys : Nat → Int) : tqM := (fun a j => if a = 1 then ys j.toNat else 0, fun _ _ => 0, fun a => if a = 1 then (8, L) else (0, 0), 1, 0)
theorem tqm0_ok {g : tqG} {L : Nat} {ys : Nat → Int} (hL : L < 536870912) (hg : g.2.2.2.2.1 = L) (hy : ∀ j, in32 (ys j)) (hxs : ∀ j, j < L → Int32.ofInt (ys j) = g.2.2.2.2.2 j) : tqok g (tqm0 L ys) := by
  refine ⟨fun a j => ?_, fun a h => ?_, Nat.le_refl _, by rw [hg]; rfl, by rw [hg]; exact hL, fun j hj => ?_⟩
  · by_cases e : a = 1
    · subst e
      refine ⟨fun _ => hy _, (fun q => by cases q), (fun q => by cases q)⟩
    · have e1 : tqS (tqm0 L ys) a = (0, 0) := if_neg e
      rw [e1]
      refine ⟨(fun q => by cases q), (fun q => by cases q), (fun q => by cases q)⟩
  · by_cases e : a = 1
    · exact Or.inl e
    · have e1 : tqS (tqm0 L ys) a = (0, 0) := if_neg e
      rw [e1] at h
      exact absurd rfl h
  · rw [hg] at hj
    exact hxs j hj
theorem tqOverA {A : Array Value} {s : State} (h : (Cond.arrayOver (.array .int)).before A s = true) : ∃ comp c k, s.vm.classes[c]? = some k ∧ k.kind = .array comp (.array .int) ∧ s.vm.findClass ("[" ++ (Jvm.ClassFile.FieldType.array .int).toString) = some c := by
  simp only [Cond.before, Cond.holds, Cond.value, beq_iff_eq] at h
  cases hc : s.vm.findClass (Jvm.ClassFile.FieldType.array .int).toString with
  | none => simp [hc] at h
  | some comp =>
    simp only [hc, Option.bind_some, Option.bind_eq_some_iff, Option.map_eq_some_iff] at h
    obtain ⟨c, hi, k, hk, hb⟩ := h
    cases hkind : k.kind with
    | array component ty =>
      rw [hkind] at hb
      simp at hb
      exact ⟨component, c, k, hk, by rw [hkind, hb.1], hb.2⟩
    | _ => rw [hkind] at hb; simp at hb
theorem tq_know {s : State} {b L : Nat} {xs : Nat → Int32} (hts : ∀ w ∈ lw_tbl, w.before #[Value.ref b] s = true) : ∃ g : tqG, tqKn g s ∧ g.2.2.1 = b ∧ g.2.2.2.1 = s.heap.size ∧ g.2.2.2.2.1 = L ∧ g.2.2.2.2.2 = xs := by
  have hcls : ∀ k, ∃ (cC : ClassId) (iS : Nat → Nat), k < 13 → u_Kn s (tqRn k) (tqTn k) (tqN k) cC iS := by
    intro k
    by_cases hk : k < 13
    · obtain ⟨cC, iS, h⟩ := u_known (ws := lw_tbl) (C := tqRn k) (T := tqTn k) (N := tqN k) hts (fun w hw => (List.mem_filter.mp (tqin_W k hk w hw)).1) (hts _ (tqw_inst k hk))
      exact ⟨cC, iS, fun _ => h⟩
    · exact ⟨default, fun _ => 0, fun h => absurd h hk⟩
  have prim : ∀ ty : Jvm.ClassFile.FieldType, (Cond.arrayClass ty).before #[Value.ref b] s = true → ∃ c, ArrOfT s c ty ∧ s.vm.findClass ("[" ++ ty.toString) = some c := by
    intro ty h
    obtain ⟨c, k, comp, h1, h2, h3⟩ := Cond.arrayClass_spec h
    exact ⟨c, fun n z => ⟨(fun q hq => by cases hq), k, h2, comp, h3⟩, h1⟩
  have objs : ∀ C : String, (Cond.arrayOver (.object C)).before #[Value.ref b] s = true → ∃ c, ArrOfT s c (.object C) ∧ va_RA s c (.object C) := by
    intro C h
    obtain ⟨comp, c, k, h1, h2, h3, h4, h5⟩ := Cond.arrayOver_spec h
    exact ⟨c, fun n z => ⟨(fun q hq => by cases hq), k, h3, comp, h4⟩, k, comp, h3, h4, h1, h5⟩
  obtain ⟨a1, h1, h1'⟩ := prim .int (hts _ tqw_int)
  obtain ⟨a2, h2, h2'⟩ := prim .long (hts _ tqw_long)
  obtain ⟨a3, h3, h3'⟩ := prim .boolean (hts _ tqw_boolean)
  obtain ⟨a4, h4, h4'⟩ := objs tqR2 (hts _ tqw_ov2)
  obtain ⟨a5, h5, h5'⟩ := objs tqR8 (hts _ tqw_ov8)
  obtain ⟨a6, h6, h6'⟩ := objs tqR9 (hts _ tqw_ov9)
  obtain ⟨comp7, a7, k7, g1, g2, g3⟩ := tqOverA (hts _ tqw_ovg)
  have h7 : ArrOfT s a7 (.array .int) := fun n z => ⟨(fun q hq => by cases hq), k7, g1, comp7, g2⟩
  let ac : Nat → ClassId := fun k => match k with
    | 1 => a1
    | 2 => a2
    | 3 => a3
    | 4 => a4
    | 5 => a5
    | 6 => a6
    | _ => a7
  refine ⟨((fun k => (hcls k).choose, fun k => (hcls k).choose_spec.choose), ac, b, s.heap.size, L, xs), ⟨⟨fun k q hq => ?_, fun k q hq => ?_⟩, fun w hw hn => ?_⟩, rfl, rfl, rfl, rfl⟩
  · have hk : k < 13 := by
      have := (List.getElem?_eq_some_iff.mp hq).1
      exact this
    have e := (tqcl_at k hk).symm.trans hq
    cases e
    exact (hcls k).choose_spec.choose_spec hk
  · match k, hq with
    | 0, hq => cases hq; exact ⟨h1, h1'⟩
    | 1, hq => cases hq; exact ⟨h2, h2'⟩
    | 2, hq => cases hq; exact ⟨h3, h3'⟩
    | 3, hq => cases hq; exact ⟨h4, h4'⟩
    | 4, hq => cases hq; exact ⟨h5, h5'⟩
    | 5, hq => cases hq; exact ⟨h6, h6'⟩
    | 6, hq => cases hq; exact ⟨h7, g3⟩
    | _ + 7, hq => cases hq
  · have hz := hts w hw
    cases w <;> first
      | (cases hn; done)
      | exact va_Nw.of rfl hz
      | exact hz
/-- the claim, if the pure machine's run of the law answers 1 within its room -/
theorem whole_start {p : Program} {e : Env} {s : State} {m : MethodId} {below : List Frame} {meth : Method} {c : Code} (l : Launch) {b L : Nat} {xs : Nat → Int32} (hL : L ≤ 3584) (C0 : lw_At p s m meth c b L xs) : W p l e room_1 s m #[Value.ref b] below meth c s.heap [] 0 0 (lw_Z below #[Value.ref b] s) (entryFrame m ([Value.ref b] : List Value).toArray 4) := by
  obtain ⟨hx, hb, hr, hml, hown, hts, hX, hbl, hlocks, hgv⟩ := C0
  obtain ⟨g, hK, e1, e2, e3, e4⟩ := tq_know (L := L) (xs := xs) hts
  obtain ⟨mF, hrun, hcn, hsl⟩ := tq_law L hL (fun j => (xs j).toInt) (fun j => t32_in _)
  obtain ⟨f, hf⟩ := tqrun_some hrun
  have hok : tqok g (tqm0 L (fun j => (xs j).toInt)) := tqm0_ok (by omega) e3 (fun j => t32_in _) (fun j _ => by rw [o32_t, e4])
  have hH : tqH g (tqm0 L (fun j => (xs j).toInt)) s.heap := ⟨by rw [e2]; rfl, fun a h1 h2 => (by have h2 : a ≤ 1 := h2; omega), hok⟩
  have hgw : ∀ w ∈ tqWd, w.before #[Value.ref b] s = true := fun w hw => hts w (List.mem_filter.mp hw).1
  have Cx : tqCx p room_1 s m #[Value.ref b] meth c g 1400 255 := ⟨hx, hb, hml, hown, hgw, hK, by rw [e1, e3, e4]; exact hX, by rw [e1, e2]; exact hbl, by rw [e2]; exact Nat.le_refl _, (fun q => by cases q), by decide, by decide⟩
  have hw := tq_main l g f 1400 255 (by decide) (p := p) (e := e) (below := below) (Q := lw_Z below #[Value.ref b] s) (c0 := 1) (s0 := 0) Cx 0 [vR 1, vU, vU, vU] [] _ _ hf (by show mF.2.2.2.1 - 1 ≤ 600000; omega) (by show mF.2.2.2.2 - 0 ≤ 7302250; omega) ?_
  · have hw2 := hw s.heap [] _ hH va_S.rf (tq_entry (as := [vR 1]) (nL := 4) (by decide) (fun v hv => by rcases List.mem_singleton.mp hv with rfl; trivial)) (fun v hv => by cases hv) (Nat.le_refl _) (Nat.le_refl _)
    rw [lg_entry_eq]
    have er : tqrz g (vR 1) = Value.ref b := by rw [tqrz_R (by decide)]; unfold tqad; rw [if_pos rfl, e1]
    have em : ([vR 1] : List tqV).map (tqrz g) = [Value.ref b] := by rw [List.map_cons, er]; rfl
    rw [em] at hw2
    exact hw2
  · intro pc lsA stA m' en hdec hlk hXr
    obtain ⟨i, nx0, r1, r2, cv, sw, dd⟩ := en
    by_cases hrt : tqisRt i
    case neg => exact absurd rfl (tqX_rt _ (i, nx0, r1, r2, cv, sw, dd) lsA stA m' hrt _ _ hXr _)
    cases i
    case ireturn =>
      obtain ⟨x, st0, rfl, hX1⟩ := pI_some hXr
      split at hX1
      · injection hX1 with hX1
        injection hX1 with hg hX1
        injection hX1 with hX1
        injection hX1 with hX1
        injection hX1 with hx1 hm1
        injection hx1 with hx1
        injection hx1 with hx1
        subst hx1; subst hm1
        unfold tqlk at hlk
        rw [Bool.and_eq_true] at hlk
        obtain ⟨hd, -⟩ := tqnx hlk.2 hdec
        intro H locs ls hH hS hl hst h0 h1
        refine va_forget (fun q hq => ?_) ?_
        · have := hS.2.2 q hq
          rw [← e2]; exact this
        · refine W.widen (k := 600000) (n := 7302250) (by omega) (by omega) ?_
          exact lw_ret hx hb hr hlocks hd
      · cases hX1
    case lreturn =>
      obtain ⟨x, st0, rfl, hX1⟩ := pL_some hXr
      split at hX1
      · injection hX1 with hX1
        injection hX1 with hg hX1
        injection hX1 with hX1
        injection hX1 with hX1
        injection hX1 with hx1 hm1
        injection hx1 with hx1
        cases hx1
      · cases hX1
    case areturn =>
      obtain ⟨x, st0, rfl, hX1⟩ := pR_some hXr
      split at hX1
      · injection hX1 with hX1
        injection hX1 with hg hX1
        injection hX1 with hX1
        injection hX1 with hX1
        injection hX1 with hx1 hm1
        injection hx1 with hx1
        cases hx1
      · cases hX1
    case return_ =>
      dsimp only [tqX] at hXr
      split at hXr
      · injection hXr with hX1
        injection hX1 with hg hX1
        injection hX1 with hX1
        injection hX1 with hX1
        injection hX1 with hx1 hm1
        cases hx1
      · cases hXr
    all_goals exact absurd hrt id
set_option maxHeartbeats 4000000 in
theorem lw_walk (l : Launch) (b : Addr) (xs : List Int32) : MetFree l x (headSpec (Jvm.Cond.code x code maxLocals ret :: tables_1) room_1) (lw_P b xs) (fun _ _ _ _ _ => True) lw_Q := by
  refine MetFree.of_bodyS (code := code) (maxLocals := maxLocals) (ret := ret) (by decide) ?_ ?_
  · intro args s m h hn
    obtain ⟨meth, c, h1, h2, h3, h4, h5, h6, -, -⟩ := Cond.code_spec hn (atoms_spec (ws := Jvm.Cond.code x code maxLocals ret :: tables_1) h _ List.mem_cons_self)
    exact ⟨meth, c, h1, h2, h3, h4, h5, h6⟩
  · intro p e s m args below meth c s₁ B hml0 hP _
    obtain ⟨rfl, hx, hbd, hgv⟩ := hP
    obtain ⟨scr, harrAt, hlist, hof, hsmall⟩ := hx
    obtain ⟨hcb, hkn, -, -⟩ := State.arrayAt?_spec harrAt
    have hown : s.vm.findClass R_law = some m.cls := findClass_of_methodNamed B.named
    have hts0 : ∀ c ∈ (Jvm.Cond.code x code maxLocals ret :: tables_1), c.before #[Value.ref b] s = true := atoms_spec (ws := Jvm.Cond.code x code maxLocals ret :: tables_1) B.pre
    have hts : ∀ w ∈ lw_tbl, w.before #[Value.ref b] s = true := k2_hts_sels lw_privs (fun w hw => hts0 w (List.mem_cons_of_mem _ hw)) lw_privs_ok
    have hml : c.maxLocals = 4 := B.maxLocals_eq (hts0 _ List.mem_cons_self)
    have X₀ : Stand p l e room_1 s m #[Value.ref b] below meth c s₁ [] 0 0 := Stand.of_body B
    have hh0 : s₁.heap = s.heap := by rw [B.state]; rfl
    have hsz : scr.slots.size = xs.length := by rw [← Array.length_toList, hlist, List.length_map]
    have hval : ∀ j : Nat, j < xs.length → scr.slots[j]? = some (.int (xs.getD j 0)) := fun j hj => by
      rw [← Array.getElem?_toList, hlist]
      simp [hj]
    have hbl : b < s.heap.size := (Array.getElem?_eq_some_iff.mp hcb).1
    have hX : va_X b xs.length (fun j => xs.getD j 0) s s.heap := ⟨scr, hcb, hof, hkn, hsz, hval⟩
    have K : W p l e room_1 s m #[Value.ref b] below meth c s₁.heap [] 0 0 (lw_Z below #[Value.ref b] s) (entryFrame m ([Value.ref b] : List Value).toArray 4) := by
      rw [hh0]
      exact whole_start l hbd ⟨B.exec, B.bytes, B.returns, hml, hown, hts, hX, hbl, B.notSynchronized, hgv⟩
    obtain ⟨t, a1, o, b1, b2, b3⟩ := K s₁ rfl X₀
    exact ⟨t, o, a1, b1, b2, b3⟩
theorem lw_pre_spec {args : Array Value} {s : State} (h : (Jvm.Cond.and given_1 narrow_1).before args s = true) (hr : rest_1_c.before args s = true) : ∃ (b : Addr) (xs : List Int32), lw_P b xs args s := by
  have hs := flat_of_before _ h
  have hq := flat_of_before _ hr
  have hc : (Cond.count 1).before args s = true := hs _ (by decide +kernel)
  have harr : (Cond.arrayOf (.arg 0) .int).before args s = true := hs _ (by decide +kernel)
  have hle : (Cond.le (.length (.arg 0)) (.int 3584)).before args s = true := hs _ (by decide +kernel)
  have hlen : (Cond.isInt (.length (.arg 0))).before args s = true := hq _ (by decide +kernel)
  have hall : (Cond.all (.arg 0) (.isInt (.elem (.arg 0) (.index 0)))).before args s = true := hq _ (by decide +kernel)
  obtain ⟨b, xs, hb, hx⟩ := State.ints_of_pre rfl harr hlen hall
  have hsm : xs.length < 2 ^ 31 := hx.choose_spec.2.2.2
  have hev : (Term.length (.arg 0)).eval args s none [] s = some (.int xs.length.toInt32) := hx.length_eval hb
  have hv := Cond.le_ints hev (show (Term.int 3584).eval args s none [] s = some (.int 3584) from rfl)
  have hd : xs.length.toInt32 ≤ 3584 := by
    simpa [Cond.before, Cond.holds, hv] using hle
  have hN : xs.length ≤ 3584 := (Int32.ofNat_le_ofNat hsm (by decide)).mp (show Int32.ofNat xs.length ≤ Int32.ofNat 3584 from hd)
  exact ⟨b, xs, Cond.one_arg hc (show args[0]? = some (.ref b) from hb), hx, hN, h⟩
theorem lw_comes (l : Launch) : Comes l x (Jvm.Cond.code x code maxLocals ret :: tables_1) room_1 (fun tb e args s => Calls_1 tb e args s ∧ rest_1 tb e args s ∧ Pre_1 tb e args s)
    (fun _ _ args s o t => lw_Q args s o t) := by
  intro p e ha hc hk s m args below hf hfit hheap happ hpre
  obtain ⟨b, xs, hP⟩ := lw_pre_spec hpre.2.2 hpre.2.1
  obtain ⟨k, o, h1, h2, h3, hQ⟩ := lw_walk l b xs p e ha hc hk s m args below hf ((Spec.applies_iff_loose hf).mp happ).1 hP trivial
  exact ⟨k, o, h1, h2, h3, hQ⟩
theorem lw_frame {s t : State} {o : Outcome} {args : Array Value} (h : Framed s o t [] 600000 7302250) :
    Framed s o t (fieldLocs frame_1_writes args s ++ arrayLocs frame_1_arrays args s ++ staticLocs frame_1_statics s) 600000 7302250 := h
theorem lw_limb (L : Cond) (hL : ∀ (args : Array Value) (s t : State), L.after args s (.returned (some (.int 1))) t = true) :
    ArmFor flags0 classFile x code maxLocals ret World_1 tables_1 room_1 Calls_1 rest_1 Pre_1
      (fun tb e a s o t => postC L tb e a s o t ∧ Framed s o t (fieldLocs frame_1_writes a s ++ arrayLocs frame_1_arrays a s ++ staticLocs frame_1_statics s) 600000 7302250) := by
  intro l _ _ _ p e ha hc hk s m args below hf hfit hheap happ hpre
  obtain ⟨k, o, h1, h2, h3, rfl, hF⟩ := lw_comes l p e ha hc hk s m args below hf hfit hheap happ hpre
  exact ⟨k, _, h1, h2, h3, hL args s _, lw_frame hF⟩
theorem i_vc : Claimed_1_1 ∧ Claimed_1_2 := ⟨lw_limb limb_1_1 (fun args s t => by simp [limb_1_1, Cond.after, Cond.holds, Cond.value]), lw_limb limb_1_2 (fun args s t => Cond.after_iff.mpr (by
  first | (rw [show limb_1_2 = Cond.eq .result (.int 1) from rfl, Cond.eq_ints (x := 1) (y := 1) rfl rfl]; simp; done) | (simp [limb_1_2, Cond.value, Term.eval]; done)))⟩
