/-! ===== a run of the pure machine is a run of the real one ===== -/
theorem tq_chk {k pc : Nat} {en : tqEn} (hk : k < 256) (h : (tqP k).1 pc = some en) : decode (tqmi k).2.1 pc = .ok (en.1, en.2.1 - pc) ∧ tqlk k pc en = true := by
  have hpc := tqcode_le h (tqzz k hk)
  have h1 : tqchk1 k pc = true := by
    by_cases h2 : k < 255
    · exact List.all_eq_true.mp (tqck_all k h2) pc (List.mem_range.mpr (by omega))
    · have e : k = 255 := by omega
      subst e
      exact tqclw_all pc (Nat.lt_succ_of_le hpc)
  unfold tqchk1 at h1
  rw [h] at h1
  simp only [Bool.and_eq_true, decide_eq_true_eq] at h1
  exact h1
theorem tqW1.kl {p : Program} {l : Launch} {e : Env} {R : Room} {s : State} {mid : MethodId} {args : Array Value} {below : List Frame} {meth : Method} {c : Code} {Q : State → Prop} {g : tqG} {nL c0 s0 pc : Nat} {en : Option tqEn} {ls st : List tqV} {m : tqM} (h : tqW1 p l e R s mid args below meth c Q g nL c0 s0 pc (tqkl en ls) st m) : tqW1 p l e R s mid args below meth c Q g nL c0 s0 pc ls st m :=
  fun H locs l2 hH hS hl hst h0 h1 => h H locs l2 hH hS (hl.kl en) hst h0 h1
section TQRET
variable {p : Program} {l : Launch} {e : Env} {R : Room} {s : State} {mid : MethodId} {args : Array Value} {below : List Frame} {meth : Method} {c : Code} {g : tqG} {c0 s0 pc d k : Nat}
theorem tq_ret {lsA stA : List tqV} {m : tqM} {r : tqRes} {en : tqEn} (Cx : tqCx p R s mid args meth c g d k) (hr : meth.sig.returnType = (tqmi k).2.2.2) (hlocks : meth.locks = false) (hdec : decode (tqmi k).2.1 pc = .ok (en.1, en.2.1 - pc)) (hlk : tqlk k pc en = true) (hX : tqX d en lsA stA m = some (true, .inr (.inl r))) : tqW1 p l e R s mid args below meth c (MQ below (tqQ g r) args s (r.2.2.2.2.1 - c0) (r.2.2.2.2.2 - s0) (tqA g)) g (tqmi k).2.2.1 c0 s0 pc lsA stA m := by
  obtain ⟨hx, hb, hml, hown, hts, hK, hXs, hbA, hbs, hini, hfr, hlo⟩ := Cx
  obtain ⟨i, nx0, r1, r2, cv, sw, dd⟩ := en
  by_cases hrt : tqisRt i
  case neg => exact absurd rfl (tqX_rt _ (i, nx0, r1, r2, cv, sw, dd) lsA stA m hrt _ _ hX _)
  cases i
  case ireturn =>
    obtain ⟨x, st0, rfl, hX1⟩ := pI_some hX
    split at hX1
    · injection hX1 with hX1
      injection hX1 with hg hX1
      injection hX1 with hX1
      injection hX1 with hX1
      subst hX1
      unfold tqlk at hlk
      simp only [Bool.and_eq_true, Bool.or_eq_true, decide_eq_true_eq] at hlk
      obtain ⟨hlk, hnx⟩ := hlk
      obtain ⟨hd, rfl⟩ := tqnx hnx hdec
      intro H locs ls hH hS hl hst h0 h1
      have ho : tqo (vI x) := tqhdo hst
      rcases hlk with ⟨q1, q2⟩ | ⟨q1, q2⟩
      · exact W.iret hx hb (hr.trans q2) (fun t ht hW => ⟨rfl, (fun v hv => by cases hv; exact ho), by rw [ht]; exact hH, hS.F ht⟩) hS.2.2 hd hlocks
      · have h01 : x = 0 ∨ x = 1 := by
          rw [tqbq q1] at hg
          simpa using hg
        exact W.zret hx hb (hr.trans q2) (tqnar1 h01) (fun t ht hW => ⟨rfl, (fun v hv => by cases hv; exact ho), by rw [ht]; exact hH, hS.F ht⟩) hS.2.2 hd hlocks
    · cases hX1
  case lreturn =>
    obtain ⟨x, st0, rfl, hX1⟩ := pL_some hX
    split at hX1
    · injection hX1 with hX1
      injection hX1 with hg hX1
      injection hX1 with hX1
      injection hX1 with hX1
      subst hX1
      unfold tqlk at hlk
      simp only [Bool.and_eq_true, decide_eq_true_eq] at hlk
      obtain ⟨hlk, hnx⟩ := hlk
      obtain ⟨hd, rfl⟩ := tqnx hnx hdec
      intro H locs ls hH hS hl hst h0 h1
      have ho : tqo (vL x) := tqhdo hst
      exact W.lret hx hb (hr.trans hlk) (fun t ht hW => ⟨rfl, (fun v hv => by cases hv; exact ho), by rw [ht]; exact hH, hS.F ht⟩) hS.2.2 hd hlocks
    · cases hX1
  case areturn =>
    obtain ⟨x, st0, rfl, hX1⟩ := pR_some hX
    split at hX1
    · injection hX1 with hX1
      injection hX1 with hg hX1
      injection hX1 with hX1
      injection hX1 with hX1
      subst hX1
      unfold tqlk at hlk
      simp only [Bool.and_eq_true] at hlk
      obtain ⟨hlk, hnx⟩ := hlk
      obtain ⟨hd, rfl⟩ := tqnx hnx hdec
      intro H locs ls hH hS hl hst h0 h1
      have e3 := tqbq hlk
      have hrt2 : ∃ rt, (tqmi k).2.2.2 = some rt ∧ ((∃ n, rt = .object n) ∨ ∃ t, rt = .array t) := by
        generalize (tqmi k).2.2.2 = z at e3
        cases z with
        | none => cases e3
        | some t => cases t <;> first | (cases e3; done) | exact ⟨_, rfl, Or.inl ⟨_, rfl⟩⟩ | exact ⟨_, rfl, Or.inr ⟨_, rfl⟩⟩
      obtain ⟨rt, h5, h6⟩ := hrt2
      exact W.aret (v := tqrz g (vR x)) hx hb (hr.trans h5) h6 (tqrz_ref g x) (fun t ht hW => ⟨rfl, (fun v hv => by cases hv; trivial), by rw [ht]; exact hH, hS.F ht⟩) hS.2.2 hd hlocks
    · cases hX1
  case return_ =>
    dsimp only [tqX] at hX
    split at hX
    · injection hX with hX1
      injection hX1 with hg hX1
      injection hX1 with hX1
      injection hX1 with hX1
      subst hX1
      unfold tqlk at hlk
      simp only [Bool.and_eq_true, decide_eq_true_eq] at hlk
      obtain ⟨hlk, hnx⟩ := hlk
      obtain ⟨hd, rfl⟩ := tqnx hnx hdec
      intro H locs ls hH hS hl hst h0 h1
      exact W.vret hx hb (hr.trans hlk) (fun t ht hW => ⟨rfl, (fun v hv => by cases hv), by rw [ht]; exact hH, hS.F ht⟩) hS.2.2 hd hlocks
    · cases hX
  all_goals exact absurd hrt id
end TQRET
/-- what is shown of runs with f steps -/
def tqMain (l : Launch) (g : tqG) (f : Nat) : Prop :=
  ∀ (d k : Nat), k < 256 → ∀ {p : Program} {e : Env} {R : Room} {s : State} {mid : MethodId} {args : Array Value} {below : List Frame} {meth : Method} {c : Code} {Q : State → Prop} {c0 s0 : Nat} (_ : tqCx p R s mid args meth c g d k) (pc : Nat) (lsA stA : List tqV) (m : tqM) (r : tqRes), tqex tqP f d (tqP k).1 pc lsA stA m = some r → r.2.2.2.2.1 - c0 ≤ R.cells → r.2.2.2.2.2 - s0 ≤ R.slots →
    (∀ (pc : Nat) (lsA stA : List tqV) (m : tqM) (en : tqEn), decode (tqmi k).2.1 pc = .ok (en.1, en.2.1 - pc) → tqlk k pc en = true → tqX d en lsA stA m = some (true, .inr (.inl r)) → tqW1 p l e R s mid args below meth c Q g (tqmi k).2.2.1 c0 s0 pc lsA stA m) →
    tqW1 p l e R s mid args below meth c Q g (tqmi k).2.2.1 c0 s0 pc lsA stA m
theorem tqin_len : ∀ (as : List tqV) (n : Nat), tqcs as ≤ n → (tqin as n).length = n
  | [], n, _ => by simp [tqin]
  | .inl x :: l, n, h => by
    have h : 1 + tqcs l ≤ n := h
    show (tqin l (n - 1)).length + 1 = n
    rw [tqin_len l (n - 1) (by omega)]; omega
  | .inr (.inl x) :: l, n, h => by
    have h : 2 + tqcs l ≤ n := h
    show (tqin l (n - 2)).length + 1 + 1 = n
    rw [tqin_len l (n - 2) (by omega)]; omega
  | .inr (.inr (.inl x)) :: l, n, h => by
    have h : 1 + tqcs l ≤ n := h
    show (tqin l (n - 1)).length + 1 = n
    rw [tqin_len l (n - 1) (by omega)]; omega
  | .inr (.inr (.inr x)) :: l, n, h => by
    have h : 1 + tqcs l ≤ n := h
    show (tqin l (n - 1)).length + 1 = n
    rw [tqin_len l (n - 1) (by omega)]; omega
theorem tqL_rep (g : tqG) : ∀ n i, tqL g i (List.replicate n vU) = []
  | 0, _ => rfl
  | n + 1, i => tqL_rep g n (i + 1)
theorem tqin_args (g : tqG) : ∀ (as : List tqV) (n i : Nat), ∀ q ∈ tqL g i (tqin as n), q ∈ lv_args i (as.map (tqrz g))
  | [], n, i => fun q hq => by rw [show tqin [] n = List.replicate n vU from rfl, tqL_rep] at hq; cases hq
  | .inl x :: l, n, i => fun q hq => by
    have hq : q ∈ (i, tqrz g (.inl x)) :: tqL g (i + 1) (tqin l (n - 1)) := hq
    show q ∈ (i, tqrz g (.inl x)) :: lv_args (i + 1) (l.map (tqrz g))
    rcases List.mem_cons.mp hq with z | z
    · rw [z]; exact List.mem_cons_self
    · exact List.mem_cons_of_mem _ (tqin_args g l (n - 1) (i + 1) q z)
  | .inr (.inl x) :: l, n, i => fun q hq => by
    have hq : q ∈ (i, tqrz g (.inr (.inl x))) :: tqL g (i + 1 + 1) (tqin l (n - 2)) := hq
    show q ∈ (i, tqrz g (.inr (.inl x))) :: lv_args (i + 2) (l.map (tqrz g))
    rcases List.mem_cons.mp hq with z | z
    · rw [z]; exact List.mem_cons_self
    · exact List.mem_cons_of_mem _ (tqin_args g l (n - 2) (i + 2) q z)
  | .inr (.inr (.inl x)) :: l, n, i => fun q hq => by
    have hq : q ∈ (i, tqrz g (.inr (.inr (.inl x)))) :: tqL g (i + 1) (tqin l (n - 1)) := hq
    have e : lv_args i ((Sum.inr (Sum.inr (Sum.inl x)) :: l : List tqV).map (tqrz g)) = (i, tqrz g (vR x)) :: lv_args (i + 1) (l.map (tqrz g)) := by
      show (i, tqrz g (vR x)) :: lv_args (if (tqrz g (vR x)).category = 2 then i + 2 else i + 1) (l.map (tqrz g)) = _
      rw [tqcat_rz]
      rfl
    rw [e]
    rcases List.mem_cons.mp hq with z | z
    · rw [z]; exact List.mem_cons_self
    · exact List.mem_cons_of_mem _ (tqin_args g l (n - 1) (i + 1) q z)
  | .inr (.inr (.inr x)) :: l, n, i => fun q hq => by
    have hq : q ∈ tqL g (i + 1) (tqin l (n - 1)) := hq
    exact List.mem_cons_of_mem _ (tqin_args g l (n - 1) (i + 1) q hq)
theorem tqg_rep : ∀ n j, tqg (List.replicate n vU) j = vU
  | 0, _ => rfl
  | _ + 1, 0 => rfl
  | n + 1, j + 1 => tqg_rep n j
theorem tqin_o : ∀ (as : List tqV) (n : Nat), (∀ v ∈ as, tqo v) → ∀ j, tqo (tqg (tqin as n) j)
  | [], n, _, j => by rw [show tqin [] n = List.replicate n vU from rfl, tqg_rep]; trivial
  | .inl x :: l, n, h, 0 => h _ List.mem_cons_self
  | .inl x :: l, n, h, j + 1 => tqin_o l (n - 1) (fun v hv => h v (List.mem_cons_of_mem _ hv)) j
  | .inr (.inl x) :: l, n, h, 0 => h _ List.mem_cons_self
  | .inr (.inl x) :: l, n, h, 1 => trivial
  | .inr (.inl x) :: l, n, h, j + 2 => tqin_o l (n - 2) (fun v hv => h v (List.mem_cons_of_mem _ hv)) j
  | .inr (.inr (.inl x)) :: l, n, h, 0 => trivial
  | .inr (.inr (.inl x)) :: l, n, h, j + 1 => tqin_o l (n - 1) (fun v hv => h v (List.mem_cons_of_mem _ hv)) j
  | .inr (.inr (.inr x)) :: l, n, h, 0 => trivial
  | .inr (.inr (.inr x)) :: l, n, h, j + 1 => tqin_o l (n - 1) (fun v hv => h v (List.mem_cons_of_mem _ hv)) j
theorem tqsl_len (g : tqG) : ∀ as : List tqV, (lg_sl (as.map (tqrz g))).length = tqcs as
  | [] => rfl
  | v :: l => by
    have ih := tqsl_len g l
    unfold lg_sl at ih ⊢
    rw [List.map_cons, List.flatMap_cons, List.length_append, ih, tqcat_rz]
    rcases v with x | x | a | u <;> rfl
/-- the locals at a method's entry -/
theorem tq_entry {g : tqG} {as : List tqV} {nL : Nat} (h : tqcs as ≤ nL) (ho : ∀ v ∈ as, tqo v) : tqlr g ((lg_sl (as.map (tqrz g)) ++ List.replicate (nL - (lg_sl (as.map (tqrz g))).length) Slot.unset).toArray) nL (tqin as nL) := by
  have hl := lv_entry (as.map (tqrz g)) (n := nL) (by rw [tqsl_len]; exact h)
  exact ⟨⟨hl.1, hl.2.1, fun q hq => hl.2.2 q (tqin_args g as nL 0 q hq)⟩, tqin_len as nL h, tqin_o as nL ho⟩
theorem tq_met {l : Launch} {g : tqG} {f d k : Nat} {as : List tqV} {m : tqM} {r : tqRes} (hm : tqMain l g f) (hk : k < 255) (hcs : Nat.ble (tqcs as) (tqP k).2 = true) (hx : tqex tqP f d (tqP k).1 0 (tqin as (tqP k).2) [] m = some r) (ho : ∀ v ∈ as, tqo v) : tqMt l g d k as m r := by
  obtain ⟨n1, n2, n3, n4, n5, n6, n7⟩ := tqna_spec hk
  rw [n7] at hcs hx
  refine Met.ofW (cc := (tqmi k).2.1) (maxL := (tqmi k).2.2.1) (ret := (tqmi k).2.2.2) n4 rfl ?_
  intro p e s mid args below meth c s₁ B hml hv
  obtain ⟨rfl, hH, hK, hX, hbA, hbs⟩ := hv
  have hts0 := atoms_spec (ws := tqws k) B.pre
  have hts : ∀ w ∈ tqWd, w.before (as.map (tqrz g)).toArray s = true := fun w hw => hts0 w (List.mem_cons_of_mem _ hw)
  have hown : s.vm.findClass (tqRn (tqow k)) = some mid.cls := by rw [← n5]; exact findClass_of_methodNamed B.named
  have Cx : tqCx p (headSpec (tqws k) (tqrm d (r.2.2.2.2.1 - m.2.2.2.1) (r.2.2.2.2.2 - m.2.2.2.2))).room s mid (as.map (tqrz g)).toArray meth c g d k := ⟨B.exec, B.bytes, hml, hown, hts, hK, hX, hbA, hbs, fun q => by
    have := (name_of_methodNamed B.named B.method).1
    rw [this]; exact of_decide_eq_true q, Nat.le_refl _, Nat.le_refl _⟩
  have hw := hm d k (by omega) (p := p) (e := e) (below := below) (Q := MQ below (tqQ g r) (as.map (tqrz g)).toArray s (r.2.2.2.2.1 - m.2.2.2.1) (r.2.2.2.2.2 - m.2.2.2.2) (tqA g)) (c0 := m.2.2.2.1) (s0 := m.2.2.2.2) Cx 0 _ _ m r hx (Nat.le_refl _) (Nat.le_refl _)
    (fun pc lsA stA m' en hd hlk hX => tq_ret Cx B.returns B.notSynchronized hd hlk hX)
  have hw2 := hw s.heap [] _ hH va_S.rf (tq_entry (Nat.le_of_ble_eq_true hcs) ho) (fun v hv => by cases hv) (Nat.le_refl _) (Nat.le_refl _)
  rw [Nat.sub_self, Nat.sub_self] at hw2
  rw [lg_entry_eq]
  exact hw2
set_option maxHeartbeats 4000000 in
theorem tq_main (l : Launch) (g : tqG) : ∀ f, tqMain l g f := by
  intro f
  induction f with
  | zero =>
    intro d k hk p e R s mid args below meth c Q c0 s0 Cx pc lsA stA m r h
    cases h
  | succ f ih =>
    intro d k hk p e R s mid args below meth c Q c0 s0 Cx pc lsA stA m r h hc hs hret
    obtain ⟨en, hen, h0⟩ := tqB1_some h
    obtain ⟨hdec, hlk⟩ := tq_chk hk hen
    rcases h0 with ⟨cb, p1, p2, ls', st', m', h1, h2⟩ | h1 | ⟨k', as, rk, nx, ls', st', m', v, m2, st2, h1, h2, h3, h4⟩ | ⟨x, sw, df, ls', st', m', h1, h2⟩
    · have q := tqex_mn tqP f d _ _ _ _ _ _ h2
      exact tq_jump Cx hdec hlk h1 (by have := q.1; omega) (by have := q.2; omega) (tqW1.kl (ih d k hk Cx _ _ _ _ _ h2 hc hs hret))
    · exact hret pc lsA stA m en hdec hlk h1
    · have q := tqex_mn tqP f d _ _ _ _ _ _ h4
      cases d with
      | zero => exact absurd (show (none : Option tqRes) = some (v, m2) from h2) (by intro z; cases z)
      | succ d' =>
        have h2' : (bif Nat.ble (tqcs as) (tqP k').2 then tqex tqP f d' (tqP k').1 0 (tqin as (tqP k').2) [] m' else none) = some (v, m2) := h2
        obtain ⟨hg, h5⟩ := tqcond_some h2'
        have q2 := tqex_mn tqP f d' (tqP k').1 0 (tqin as (tqP k').2) [] m' (v, m2) h5
        exact tq_call Cx hdec hlk h1 (fun hk' ho => tq_met ih hk' hg h5 ho) h3 q2 (by have := q2.1; have := q.1; omega) (by have := q2.2; have := q.2; omega) (tqW1.kl (ih (d' + 1) k hk Cx _ _ _ _ _ h4 hc hs hret))
    · exact tq_switch Cx hdec hlk h1 (tqW1.kl (ih d k hk Cx _ _ _ _ _ h2 hc hs hret))
