/-! ===== calls ===== -/
def tqQ (g : tqG) (r : tqRes) : Array Value → State → Outcome → State → Prop := fun _ st oc t => oc = .returned (r.1.map (tqrz g)) ∧ (∀ v, r.1 = some v → tqo v) ∧ tqH g r.2 t.heap ∧ va_F (tqA g) st t
def tqPc (g : tqG) (as : List tqV) (m : tqM) : Array Value → State → Prop := va_Pc (as.map (tqrz g)) (fun U => tqH g m U.heap ∧ tqKn g U ∧ va_X g.2.2.1 g.2.2.2.2.1 g.2.2.2.2.2 U U.heap ∧ g.2.2.1 < g.2.2.2.1 ∧ g.2.2.2.1 ≤ U.heap.size)
def tqrm (d mc ms : Nat) : Room := { frames := d, cells := mc, slots := ms, locals := 60 * d }
def tqws (k : Nat) : List Cond := Cond.code (tqmi k).1 (tqmi k).2.1 (tqmi k).2.2.1 (tqmi k).2.2.2 :: tqWd
abbrev tqMt (l : Launch) (g : tqG) (d k : Nat) (as : List tqV) (m : tqM) (r : tqRes) : Prop := Met l (tqmi k).1 (tqws k) (tqrm d (r.2.2.2.2.1 - m.2.2.2.1) (r.2.2.2.2.2 - m.2.2.2.2)) (tqPc g as m) (tqQ g r) (r.2.2.2.2.1 - m.2.2.2.1) (r.2.2.2.2.2 - m.2.2.2.2) (tqA g)
theorem tqKn.same {g : tqG} {u U : State} (h : u.vm = U.vm) (hK : tqKn g u) : tqKn g U := by
  refine ⟨va_K.moved (by rw [h]; exact Vm.Alike.refl U.vm) hK.1, fun w hw hn => ?_⟩
  have hz := hK.2 w hw hn
  cases w <;> first
    | (cases hn; done)
    | exact va_Nw.same rfl h hz
    | (have e1 : ∀ (ty : Jvm.ClassFile.FieldType) (A B : State), A.vm = B.vm → va_Nw (.arrayOver ty) A → va_Nw (.arrayOver ty) B := by
        intro ty A B hAB hA
        have e2 : A.setVm B.vm = A := by rw [← hAB]; rfl
        have e3 : (Cond.arrayOver ty).before #[] (A.setVm B.vm) = (Cond.arrayOver ty).before #[] B := rfl
        show (Cond.arrayOver ty).before #[] B = true
        rw [← e3, e2]
        exact hA
       exact e1 _ u U h hz)
theorem tqKn.warm {g : tqG} {s U : State} (hW : s.WarmedH U.vm) (hK : tqKn g s) : tqKn g U := by
  refine ⟨va_K.moved hW.alike hK.1, fun w hw hn => ?_⟩
  have hz := hK.2 w hw hn
  cases w <;> first
    | (cases hn; done)
    | exact va_Nw.warmF hW hz
    | exact va_Nw.warmM hW hz
    | (show (Cond.arrayOver _).before #[] U = true
       have e3 : ∀ ty, (Cond.arrayOver ty).before #[] (s.setVm U.vm) = (Cond.arrayOver ty).before #[] U := fun _ => rfl
       rw [← e3, Cond.arrayOver_setVmC hW.alike]
       exact hz)
theorem tqPc_blind {g : tqG} {as : List tqV} {m : tqM} : FrameBlind (tqPc g as m) := by
  intro a U f mk h
  obtain ⟨h1, h2, h3, h4, h5⟩ := h
  exact ⟨h1, h2, tqKn.same (u := U) (U := U.calling f mk a) rfl h3, va_X.moved (u := U) (U := U.calling f mk a) (Vm.Alike.refl U.vm) h4, h5⟩
theorem tqWd_good {w : Cond} (h : w ∈ tqWd) : (w.onTables && w.keeps) = true ∨ ∃ ty, w = .arrayClass ty := good_of_word (List.mem_filter.mp h).2
theorem tqws_in {k : Nat} (hk : k < 255) : GoodIn tqWd (tqws k) := by
  intro w hw
  rcases List.mem_cons.mp hw with rfl | hw
  · have h := tqgood (tqkf_spec hk).1 rfl
    exact ⟨h, tqWd_good h⟩
  · exact ⟨hw, tqWd_good hw⟩
theorem tqpop_spec : ∀ (n : Nat) (st acc as st' : List tqV), tqpop n st acc = some (as, st') → ∃ pre, st = pre ++ st' ∧ as = pre.reverse ++ acc ∧ pre.length = n
  | 0, st, acc, as, st', h => by
    cases h
    exact ⟨[], rfl, rfl, rfl⟩
  | n + 1, [], acc, as, st', h => by cases h
  | n + 1, v :: st, acc, as, st', h => by
    obtain ⟨pre, h1, h2, h3⟩ := tqpop_spec n st (v :: acc) as st' h
    exact ⟨v :: pre, by rw [h1]; rfl, by rw [h2]; simp, by simp [h3]⟩
theorem tq_cinj {b : Bool} {k k' : Nat} {as as' : List tqV} {rk rk' nx nx' : Nat} {ls ls' st st' : List tqV} {m m' : tqM} (h : (some (b, (.inr (.inr (.inl (k, as, rk, nx, ls, st, m))) : tqO)) : Option (Bool × tqO)) = some (true, .inr (.inr (.inl (k', as', rk', nx', ls', st', m'))))) : b = true ∧ k' = k ∧ as' = as ∧ rk' = rk ∧ nx' = nx ∧ ls' = ls ∧ st' = st ∧ m' = m := by
  injection h with h
  injection h with h1 h
  injection h with h
  injection h with h
  injection h with h
  injection h with h2 h
  injection h with h3 h
  injection h with h4 h
  injection h with h5 h
  injection h with h6 h
  injection h with h7 h8
  exact ⟨h1, h2.symm, h3.symm, h4.symm, h5.symm, h6.symm, h7.symm, h8.symm⟩
section TQCA
variable {p : Program} {l : Launch} {e : Env} {R : Room} {s : State} {mid : MethodId} {args : Array Value} {below : List Frame} {meth : Method} {c : Code} {Q : State → Prop} {g : tqG} {c0 s0 pc d k : Nat}
/-- behind a call -/
theorem tq_cont {H : Heap} {locs : List Loc} {cells slots mc ms : Nat} {ls : Array Slot} {st0 rest : List Value} {a : Array Value} {r : tqRes} (hr : va_Run p l e R s mid args below meth c H locs cells slots mc ms (F0 mid pc ls st0) rest (tqQ g r a) (tqA g)) (hS : va_S (tqA g) s.heap H locs)
    (kk : ∀ (H1 : Heap) (locs1 : List Loc), tqH g r.2 H1 → va_S (tqA g) s.heap H1 locs1 → (∀ v, r.1 = some v → tqo v) → W p l e R s mid args below meth c H1 locs1 (cells + mc) (slots + ms) Q (F0 mid (pc + 3) ls ((r.1.map (tqrz g)).toList ++ rest))) : W p l e R s mid args below meth c H locs cells slots Q (F0 mid pc ls st0) := by
  intro T hT X
  obtain ⟨v, st₀, t, T', L, h0, X', hL, e1, e2, ⟨hv, ho, hh, hz, hk⟩, st⟩ := hr T hT X
  cases hv
  rw [h0] at hz hk
  obtain ⟨t2, a1, b1⟩ := kk T'.heap (locs ++ L) (by rw [e1]; exact hh)
    ⟨Nat.le_trans hS.1 (by rw [e1]; exact hz), fun q h1 h2 => by rw [e1, hk q (Nat.lt_of_lt_of_le h1 hS.1) h2]; exact hS.2.1 q h1 h2, fun q hq => by
      rcases List.mem_append.mp hq with h | h
      · exact hS.2.2 q h
      · exact hL q h⟩ ho T' rfl X'
  exact ⟨t2, st t2 a1, b1⟩
theorem tqfit_st {rk : Nat} {v : Option tqV} {st st2 : List tqV} (h : tqfit rk v st st2) : (v.map (tqrz g)).toList ++ st.map (tqrz g) = st2.map (tqrz g) := by
  rcases h with ⟨-, rfl, rfl⟩ | ⟨-, x, rfl, rfl⟩ | ⟨-, x, rfl, rfl⟩ | ⟨-, x, rfl, rfl⟩ <;> rfl
theorem tqfit_o {rk : Nat} {v : Option tqV} {st st2 : List tqV} (h : tqfit rk v st st2) (hv : ∀ w, v = some w → tqo w) (hs : ∀ w ∈ st, tqo w) : ∀ w ∈ st2, tqo w := by
  rcases h with ⟨-, rfl, rfl⟩ | ⟨-, x, rfl, rfl⟩ | ⟨-, x, rfl, rfl⟩ | ⟨-, x, rfl, rfl⟩
  · exact hs
  · exact tqall1 (hv _ rfl) hs
  · exact tqall1 (hv _ rfl) hs
  · exact tqall1 (hv _ rfl) hs
/-- what a call needs of the frame: its words and room -/
theorem tqB {k' d' mc ms : Nat} (hk' : k' < 255) (hts : ∀ w ∈ tqWd, w.before args s = true) (hfr : d' + 1 ≤ R.frames) (hlo : 60 * (d' + 1) ≤ R.locals) {own : String} {idx : Nat} (hl : (Cond.methodLink own idx (tqmi k').1).before args s = true) :
    CallB R s args own idx (tqmi k').1 (tqmi k').2.1 (tqmi k').2.2.1 (tqmi k').2.2.2 (tqws k') (tqrm d' mc ms) mc ms (tqNA.getD k' 0) := by
  obtain ⟨n1, n2, n3, n4, n5, n6, n7⟩ := tqna_spec hk'
  exact callB_of _ hts (tqws_in hk') rfl rfl rfl (hts _ (tqgood (tqkf_spec hk').2.2.2.2 rfl)) hl ⟨n2, n3, n1⟩ ⟨by show d' + 1 ≤ R.frames; omega, by show 8 + ((tqmi k').2.2.1 + 11) + 60 * d' ≤ R.locals; omega⟩
theorem tqBN {k' d' mc ms : Nat} (hk' : k' < 255) (hts : ∀ w ∈ tqWd, w.before args s = true) (hfr : d' + 1 ≤ R.frames) (hlo : 60 * (d' + 1) ≤ R.locals) {own : String} {idx : Nat} (hl : va_Nw (.methodLinkNest own idx (tqmi k').1 "TrailerYards") s) :
    va_CN R s args own idx (tqmi k').1 "TrailerYards" (tqmi k').2.1 (tqmi k').2.2.1 (tqmi k').2.2.2 (tqws k') (tqrm d' mc ms) mc ms (tqNA.getD k' 0) := by
  obtain ⟨n1, n2, n3, n4, n5, n6, n7⟩ := tqna_spec hk'
  exact va_cnB _ hts (tqws_in hk') rfl rfl rfl hl (hts _ (tqgood (tqkf_spec hk').2.2.2.2 rfl)) ⟨n2, n3, n1⟩ ⟨by show d' + 1 ≤ R.frames; omega, by show 8 + ((tqmi k').2.2.1 + 11) + 60 * d' ≤ R.locals; omega⟩
theorem tqhy_lt {k' : Nat} (h : k' < 255) : tqhy k' = (tqmi k').1 := by
  unfold tqhy
  rw [if_neg (by omega), if_neg (by omega), if_neg (by omega), if_neg (by omega), if_neg (by omega), if_neg (by omega), if_neg (by omega)]
theorem tqPre {H : Heap} {as : List tqV} {m : tqM} {locs : List Loc} (hK : tqKn g s) (hXs : va_X g.2.2.1 g.2.2.2.2.1 g.2.2.2.2.2 s s.heap) (hbA : g.2.2.1 < g.2.2.2.1) (hbs : g.2.2.2.1 ≤ s.heap.size) (hH : tqH g m H) (hS : va_S (tqA g) s.heap H locs) : ∀ U : State, U.heap = H → s.WarmedH U.vm → tqPc g as m (as.map (tqrz g)).toArray U := by
  intro U hU hW
  refine ⟨rfl, by rw [hU]; exact hH, tqKn.warm hW hK, ?_, hbA, by rw [hU]; exact Nat.le_trans hbs hS.1⟩
  rw [hU]
  exact va_X.moved hW.alike (hXs.kept (hS.2.1 _ (Nat.lt_of_lt_of_le hbA hbs) (Nat.not_le.mpr hbA)))
theorem tq_call {lsA stA : List tqV} {m : tqM} {k' : Nat} {as : List tqV} {rk nx : Nat} {ls' st' : List tqV} {m' : tqM} {v : Option tqV} {m2 : tqM} {st2 : List tqV} {en : tqEn} {d' : Nat} (Cx : tqCx p R s mid args meth c g (d' + 1) k) (hdec : decode (tqmi k).2.1 pc = .ok (en.1, en.2.1 - pc)) (hlk : tqlk k pc en = true) (hX : tqX (d' + 1) en lsA stA m = some (true, .inr (.inr (.inl (k', as, rk, nx, ls', st', m')))))
    (hM : k' < 255 → (∀ v ∈ as, tqo v) → tqMt l g d' k' as m' (v, m2)) (hfit : tqfit rk v st' st2) (hmn : m'.2.2.2.1 ≤ m2.2.2.2.1 ∧ m'.2.2.2.2 ≤ m2.2.2.2.2) (hc : m2.2.2.2.1 - c0 ≤ R.cells) (hs : m2.2.2.2.2 - s0 ≤ R.slots) (h : tqW1 p l e R s mid args below meth c Q g (tqmi k).2.2.1 c0 s0 nx ls' st2 m2) : tqW1 p l e R s mid args below meth c Q g (tqmi k).2.2.1 c0 s0 pc lsA stA m := by
  obtain ⟨hx, hb, hml, hown, hts, hK, hXs, hbA, hbs, hini, hfr, hlo⟩ := Cx
  obtain ⟨i, nx0, r1, r2, cv, sw, dd⟩ := en
  by_cases hcl : tqisCl i
  case neg => exact absurd rfl (tqX_cl _ (i, nx0, r1, r2, cv, sw, dd) lsA stA m hcl _ _ hX _)
  have done : ∀ {idx : Nat} {i0 : Jvm.ClassFile.Instr}, k' < 255 → nx = pc + 3 → m' = m → ls' = lsA → stA = as.reverse ++ st' → Nat.ble (tqcs st') 8 = true →
      (∀ (H : Heap) (locs : List Loc) (ls : Array Slot), tqH g m H → va_S (tqA g) s.heap H locs → ls.size = (tqmi k).2.2.1 → tqMt l g d' k' as m (v, m2) → c0 ≤ m.2.2.2.1 → s0 ≤ m.2.2.2.2 → (∀ v ∈ as, tqo v) →
        va_Run p l e R s mid args below meth c H locs (m.2.2.2.1 - c0) (m.2.2.2.2 - s0) (m2.2.2.2.1 - m.2.2.2.1) (m2.2.2.2.2 - m.2.2.2.2) (F0 mid pc ls ((as.reverse ++ st').map (tqrz g))) (st'.map (tqrz g)) (tqQ g (v, m2) (as.map (tqrz g)).toArray) (tqA g)) →
      tqW1 p l e R s mid args below meth c Q g (tqmi k).2.2.1 c0 s0 pc lsA stA m := by
    intro idx i0 hk' e1 e2 e3 e4 h8 hrun
    subst e1; subst e2; subst e3; subst e4
    intro H locs ls hH hS hl hst h0 h1
    have hst1 : ∀ w ∈ as, tqo w := fun w hw => hst w (List.mem_append_left _ (List.mem_reverse.mpr hw))
    have hst3 : ∀ w ∈ st', tqo w := fun w hw => hst w (List.mem_append_right _ hw)
    refine tq_cont (hrun H locs ls hH hS hl.1.1 (hM hk' hst1) h0 h1 hst1) hS (fun H1 locs1 hH1 hS1 ho => ?_)
    have hh := h H1 locs1 ls hH1 hS1 hl (tqfit_o hfit ho hst3) (Nat.le_trans h0 hmn.1) (Nat.le_trans h1 hmn.2)
    rw [tqfit_st hfit]
    exact W.cs (by have := hmn.1; omega) (by have := hmn.2; omega) hh
  cases i
  case invokestatic idx =>
    dsimp only [tqX] at hX
    split at hX
    · obtain ⟨a1, sz1, -, hX1⟩ := pI_some hX
      obtain ⟨a2, sz2, -, hX2⟩ := pI_some hX1
      obtain ⟨a3, sz3, -, hX3⟩ := pR_some hX2
      obtain ⟨a4, sz4, -, hX4⟩ := pI_some hX3
      obtain ⟨a5, sz5, -, hXz⟩ := pR_some hX4
      unfold tqjg at hXz
      injection hXz with hXz
      injection hXz with _ hXz
      cases hXz
    · obtain ⟨a1, sz1, -, hX1⟩ := pI_some hX
      obtain ⟨a2, sz2, -, hXz⟩ := pI_some hX1
      unfold tqjg at hXz
      injection hXz with hXz
      injection hXz with _ hXz
      cases hXz
    · obtain ⟨a1, sz1, -, hX1⟩ := pI_some hX
      obtain ⟨a2, sz2, -, hXz⟩ := pI_some hX1
      unfold tqjg at hXz
      injection hXz with hXz
      injection hXz with _ hXz
      cases hXz
    · obtain ⟨a1, sz1, -, hXz⟩ := pL_some hX
      unfold tqjg at hXz
      injection hXz with hXz
      injection hXz with _ hXz
      cases hXz
    · obtain ⟨a1, sz1, -, hX1⟩ := pL_some hX
      obtain ⟨a2, sz2, -, hXz⟩ := pL_some hX1
      unfold tqjg at hXz
      injection hXz with hXz
      injection hXz with _ hXz
      cases hXz
    · obtain ⟨a1, sz1, -, hX1⟩ := pI_some hX
      obtain ⟨a2, sz2, -, hXz⟩ := pI_some hX1
      unfold tqjg at hXz
      injection hXz with hXz
      injection hXz with _ hXz
      cases hXz
    · rename_i n3 n5 n6 n7 n8 n9
      split at hX
      · rename_i as0 st0 hp
        obtain ⟨h8, rfl, rfl, rfl, rfl, rfl, rfl, rfl⟩ := tq_cinj hX
        obtain ⟨pre, p1, p2, p3⟩ := tqpop_spec _ _ _ _ _ hp
        simp only [List.append_nil] at p2
        unfold tqlk at hlk
        dsimp only at hlk
        rw [Bool.and_eq_true] at hlk
        obtain ⟨hlk, hnx⟩ := hlk
        obtain ⟨hd, rfl⟩ := tqnx hnx hdec
        split at hlk
        · exact absurd rfl (n3 _ _)
        · exact absurd rfl (n5 _ _)
        · exact absurd rfl (n6 _ _)
        · exact absurd rfl (n7 _ _)
        · exact absurd rfl (n8 _ _)
        · exact absurd rfl (n9 _ _)
        · simp only [Bool.and_eq_true, decide_eq_true_eq] at hlk
          obtain ⟨⟨⟨⟨q1, q2⟩, q3⟩, q4⟩, q5⟩ := hlk
          have hk' := tqbl q1
          refine done (idx := idx) (i0 := .invokestatic idx) hk' rfl rfl rfl (by rw [p1, p2]; simp) h8 (fun H locs ls hH hS hsz hMt h0 h1 hso => ?_)
          have hn : as.length = tqNA.getD k' 0 := by rw [p2, List.length_reverse, p3]; exact tqbq q4
          have hroom : 2 * (F0 mid pc ls ((as.reverse ++ st').map (tqrz g))).monitorRoom + ((st'.map (tqrz g)).map fun v => v.category).sum ≤ 8 := lv_room (m := mid) (pc := pc) (ls := ls) (rest := []) (st := st'.map (tqrz g)) (by rw [tqcs_rz]; exact Nat.le_of_ble_eq_true h8)
          have hstat := hts _ (tqgood ((tqkf_spec hk').2.1 (tqbq q3)) rfl)
          have hmc : m'.2.2.2.1 - c0 + (m2.2.2.2.1 - m'.2.2.2.1) ≤ R.cells ∧ m'.2.2.2.2 - s0 + (m2.2.2.2.2 - m'.2.2.2.2) ≤ R.slots := ⟨by have := hmn.1; omega, by have := hmn.2; omega⟩
          rcases tqHL_link q2 with q | q
          · rw [tqhy_lt hk'] at q
            exact va_runS (As := as.map (tqrz g)) (rest := st'.map (tqrz g)) ⟨hx, hb, hml, hown, hts⟩ hMt ⟨tqB hk' hts hfr hlo (hts _ (tqgood q rfl)), hstat⟩ ⟨tqPc_blind, tqPre hK hXs hbA hbs hH hS⟩ rfl (by rw [List.length_map]; exact hn) hsz (by show (as.reverse ++ st').map (tqrz g) = _; rw [List.map_append, List.map_reverse]) hroom hd hmc
          · rw [tqhy_lt hk'] at q
            exact va_runSN (As := as.map (tqrz g)) (rest := st'.map (tqrz g)) ⟨hx, hb, hml, hown, hts⟩ hMt ⟨tqBN hk' hts hfr hlo (hK.2 _ q rfl), hstat, trivial⟩ ⟨tqPc_blind, tqPre hK hXs hbA hbs hH hS⟩ rfl (by rw [List.length_map]; exact hn) hsz (by show (as.reverse ++ st').map (tqrz g) = _; rw [List.map_append, List.map_reverse]) hroom hd hmc
      · cases hX
  case invokevirtual idx =>
    dsimp only [tqX] at hX
    split at hX
    · rename_i as0 st0 hp
      obtain ⟨h8, rfl, rfl, rfl, rfl, rfl, rfl, rfl⟩ := tq_cinj hX
      rw [Bool.and_eq_true] at h8
      obtain ⟨h8, hrc⟩ := h8
      obtain ⟨pre, p1, p2, p3⟩ := tqpop_spec _ _ _ _ _ hp
      simp only [List.append_nil] at p2
      unfold tqlk at hlk
      dsimp only at hlk
      rw [Bool.and_eq_true] at hlk
      obtain ⟨hlk, hnx⟩ := hlk
      obtain ⟨hd, rfl⟩ := tqnx hnx hdec
      split at hlk
      · rename_i z1 cn tl
        simp only [Bool.and_eq_true, decide_eq_true_eq, Bool.not_eq_true'] at hlk
        obtain ⟨⟨⟨⟨⟨⟨⟨q1, q2⟩, q3⟩, q4⟩, q5⟩, q6⟩, q7⟩, q8⟩ := hlk
        have hk' := tqbl q1
        refine done (idx := idx) (i0 := .invokevirtual idx) hk' rfl rfl rfl (by rw [p1, p2]; simp) h8 (fun H locs ls hH hS hsz hMt h0 h1 hso => ?_)
        have hlen : as.length = tqNA.getD k' 0 + 1 := by rw [p2, List.length_reverse, p3]; exact tqbq q5
        match as, hlen, hrc, hMt, hso with
        | rv :: as', hlen, hrc, hMt, hso =>
          have hn : as'.length = tqNA.getD k' 0 := by simpa using hlen
          have hrc : tqisR rv m' cn = true := hrc
          rcases rv with x | x | b | u
          · cases hrc
          · cases hrc
          · have hsb : (tqS m' b).1 = 10 + cn := tqbq hrc
            have hcn := tqbl q7
            obtain ⟨hb2, hbc, -⟩ := hH.2.2.adr (a := b) (by omega) (by omega)
            have hroom : 2 * (F0 mid pc ls (((Sum.inr (Sum.inr (Sum.inl b)) :: as').reverse ++ st').map (tqrz g))).monitorRoom + ((st'.map (tqrz g)).map fun v => v.category).sum ≤ 8 := lv_room (m := mid) (pc := pc) (ls := ls) (rest := []) (st := st'.map (tqrz g)) (by rw [tqcs_rz]; exact Nat.le_of_ble_eq_true h8)
            have hmc : m'.2.2.2.1 - c0 + (m2.2.2.2.1 - m'.2.2.2.1) ≤ R.cells ∧ m'.2.2.2.2 - s0 + (m2.2.2.2.2 - m'.2.2.2.2) ≤ R.slots := ⟨by have := hmn.1; omega, by have := hmn.2; omega⟩
            obtain ⟨n1, n2, n3, n4, n5, n6, n7⟩ := tqna_spec hk'
            have hcC : (tqmi k').1.cls = tqRn cn := by rw [n5, tqbq q6]
            have hrecv : ∃ cellB : Cell, H[tqad g b]? = some cellB ∧ cellB.vm.isStatics = false ∧ s.vm.findClass (tqmi k').1.cls = some cellB.cls := by
              have hcb := hH.2.1 b hb2 hbc
              rw [tqent_o hsb] at hcb
              obtain ⟨r', hr', cell, g1, g2, g3, -⟩ := hcb
              refine ⟨cell, g1, by rw [g3]; rfl, ?_⟩
              rw [hcC, g2]
              exact (hK.1.1 cn _ (tqcl_at cn hcn)).2.1
            have hins := hts _ (tqgood ((tqkf_spec hk').2.2.1 (tqbq q3)) rfl)
            have hsel := hts _ (tqgood ((tqkf_spec hk').2.2.2.1 (fun z => by rw [z] at q4; cases q4)) rfl)
            have ers : ((Sum.inr (Sum.inr (Sum.inl b)) :: as' : List tqV).map (tqrz g)) = Value.ref (tqad g b) :: as'.map (tqrz g) := by
              rw [List.map_cons]
              exact congrArg (· :: _) (tqrz_R (by omega))
            have hstk : ((Sum.inr (Sum.inr (Sum.inl b)) :: as' : List tqV).reverse ++ st').map (tqrz g) = (as'.map (tqrz g)).reverse ++ Value.ref (tqad g b) :: st'.map (tqrz g) := by
              rw [List.map_append, List.map_reverse, ers]
              simp
            have hpre := tqPre (as := Sum.inr (Sum.inr (Sum.inl b)) :: as') (m := m') hK hXs hbA hbs hH hS
            rw [ers] at hpre ⊢
            rcases tqHL_link q2 with q | q
            · rw [tqhy_lt hk'] at q
              exact va_runV (As := as'.map (tqrz g)) (rest := st'.map (tqrz g)) (C := (tqmi k').1.cls) ⟨hx, hb, hml, hown, hts⟩ hMt ⟨tqB hk' hts hfr hlo (hts _ (tqgood q rfl)), hins, hsel⟩ ⟨tqPc_blind, hrecv, hpre⟩ rfl (by rw [List.length_map]; exact hn) hsz hstk hroom hd hmc
            · rw [tqhy_lt hk'] at q
              exact va_runVN (As := as'.map (tqrz g)) (rest := st'.map (tqrz g)) (C := (tqmi k').1.cls) ⟨hx, hb, hml, hown, hts⟩ hMt ⟨tqBN hk' hts hfr hlo (hK.2 _ q rfl), hins, hsel⟩ ⟨tqPc_blind, hrecv, hpre⟩ rfl (by rw [List.length_map]; exact hn) hsz hstk hroom hd hmc
          · cases hrc
      · cases hlk
    · cases hX
  case invokespecial idx =>
    dsimp only [tqX] at hX
    split at hX
    · obtain ⟨a1, st1, -, hX1⟩ := pR_some hX
      unfold tqjg at hX1
      injection hX1 with hX1
      injection hX1 with _ hX1
      cases hX1
    · rename_i hsw
      split at hX
      · rename_i as0 st0 hp
        obtain ⟨h8, rfl, rfl, rfl, rfl, rfl, rfl, rfl⟩ := tq_cinj hX
        rw [Bool.and_eq_true] at h8
        obtain ⟨h8, hrc⟩ := h8
        obtain ⟨pre, p1, p2, p3⟩ := tqpop_spec _ _ _ _ _ hp
        simp only [List.append_nil] at p2
        unfold tqlk at hlk
        dsimp only at hlk
        rw [Bool.and_eq_true] at hlk
        obtain ⟨hlk, hnx⟩ := hlk
        obtain ⟨hd, rfl⟩ := tqnx hnx hdec
        split at hlk
        · exact absurd rfl (hsw _ _)
        · rename_i z1 cn tl _
          simp only [Bool.and_eq_true, decide_eq_true_eq] at hlk
          obtain ⟨⟨⟨⟨⟨⟨⟨⟨q1, q2⟩, q3⟩, q4⟩, q5⟩, q6⟩, q7⟩, q8⟩, q9⟩ := hlk
          have hk' := tqbl q1
          refine done (idx := idx) (i0 := .invokespecial idx) hk' rfl rfl rfl (by rw [p1, p2]; simp) h8 (fun H locs ls hH hS hsz hMt h0 h1 hso => ?_)
          have hlen : as.length = tqNA.getD k' 0 + 1 := by rw [p2, List.length_reverse, p3]; exact tqbq q5
          match as, hlen, hrc, hMt, hso with
          | rv :: as', hlen, hrc, hMt, hso =>
            have hn : as'.length = tqNA.getD k' 0 := by simpa using hlen
            have hrc : tqisR rv m' cn = true := hrc
            rcases rv with x | x | b | u
            · cases hrc
            · cases hrc
            · have hsb : (tqS m' b).1 = 10 + cn := tqbq hrc
              obtain ⟨hb2, hbc, -⟩ := hH.2.2.adr (a := b) (by omega) (by omega)
              have hroom : 2 * (F0 mid pc ls (((Sum.inr (Sum.inr (Sum.inl b)) :: as').reverse ++ st').map (tqrz g))).monitorRoom + ((st'.map (tqrz g)).map fun v => v.category).sum ≤ 8 := lv_room (m := mid) (pc := pc) (ls := ls) (rest := []) (st := st'.map (tqrz g)) (by rw [tqcs_rz]; exact Nat.le_of_ble_eq_true h8)
              have hmc : m'.2.2.2.1 - c0 + (m2.2.2.2.1 - m'.2.2.2.1) ≤ R.cells ∧ m'.2.2.2.2 - s0 + (m2.2.2.2.2 - m'.2.2.2.2) ≤ R.slots := ⟨by have := hmn.1; omega, by have := hmn.2; omega⟩
              have hins := hts _ (tqgood ((tqkf_spec hk').2.2.1 (tqbq q3)) rfl)
              have hret : (tqmi k').2.2.2 = none := by
                have e1 : tqrk (tqmi k').2.2.2 = 0 := by omega
                generalize (tqmi k').2.2.2 = z at e1
                cases z with
                | none => rfl
                | some t => cases t <;> cases e1
              have hinit : (tqmi k').1.name = "<init>" := of_decide_eq_true q4
              have ers : ((Sum.inr (Sum.inr (Sum.inl b)) :: as' : List tqV).map (tqrz g)) = Value.ref (tqad g b) :: as'.map (tqrz g) := by
                rw [List.map_cons]
                exact congrArg (· :: _) (tqrz_R (by omega))
              have hstk : ((Sum.inr (Sum.inr (Sum.inl b)) :: as' : List tqV).reverse ++ st').map (tqrz g) = (as'.map (tqrz g)).reverse ++ Value.ref (tqad g b) :: st'.map (tqrz g) := by
                rw [List.map_append, List.map_reverse, ers]
                simp
              have hpre := tqPre (as := Sum.inr (Sum.inr (Sum.inl b)) :: as') (m := m') hK hXs hbA hbs hH hS
              rw [ers] at hpre ⊢
              rcases tqHL_link q2 with q | q
              · rw [tqhy_lt hk'] at q
                have hB := tqB (mc := m2.2.2.2.1 - m'.2.2.2.1) (ms := m2.2.2.2.2 - m'.2.2.2.2) hk' hts hfr hlo (hts _ (tqgood q rfl))
                rw [hret] at hB
                exact va_runI (As := as'.map (tqrz g)) (rest := st'.map (tqrz g)) ⟨hx, hb, hml, hown, hts⟩ hMt ⟨hB, hinit, hins⟩ ⟨tqPc_blind, hpre⟩ rfl (by rw [List.length_map]; exact hn) hsz hstk hroom hd hmc
              · rw [tqhy_lt hk'] at q
                have hB := tqBN (mc := m2.2.2.2.1 - m'.2.2.2.1) (ms := m2.2.2.2.2 - m'.2.2.2.2) hk' hts hfr hlo (hK.2 _ q rfl)
                rw [hret] at hB
                exact va_runIN (As := as'.map (tqrz g)) (rest := st'.map (tqrz g)) ⟨hx, hb, hml, hown, hts⟩ hMt ⟨hB, hinit, hins⟩ ⟨tqPc_blind, hpre⟩ rfl (by rw [List.length_map]; exact hn) hsz hstk hroom hd hmc
            · cases hrc
        · cases hlk
      · cases hX
  all_goals exact absurd hcl id
end TQCA
