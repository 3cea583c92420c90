/-! ===== rows that make cells; arraycopy; Object's constructor ===== -/
theorem tqdef {ty : Jvm.ClassFile.FieldType} {g : tqG} {m : tqM} {kd n k j : Nat} (h : tqky ty = tqk k j) (hle : tqk k j ≤ 3) : defaultValue ty = tqfv g (tqnew m kd n) (m.2.2.2.1 + 1) k j := by
  have e1 : (tqnew m kd n).1 (m.2.2.2.1 + 1) (j : Int) = 0 := if_pos rfl
  have e2 : (tqnew m kd n).2.1 (m.2.2.2.1 + 1) (j : Int) = 0 := if_pos rfl
  unfold tqfv
  rw [e1, e2, ← h]
  cases ty <;> first
    | rfl
    | (exfalso; rw [← h] at hle; exact absurd hle (by decide))
theorem tqix2 {i : Int} {n : Nat} (h : 0 ≤ i) (h2 : i < (n : Int)) (hn : n < 1000000000) : (Int32.ofInt i).toNatClampNeg = i.toNat ∧ ¬ (Int32.ofInt i < 0 ∨ n ≤ (Int32.ofInt i).toNatClampNeg) := by
  have hi : in32 i := by unfold in32; omega
  have e : (Int32.ofInt i).toNatClampNeg = i.toNat := by
    show (Int32.ofInt i).toInt.toNat = _
    rw [o32_to hi]
  refine ⟨e, ?_⟩
  rintro (q | q)
  · rw [show (0 : Int32) = Int32.ofInt 0 from rfl, o32_lt hi in32_0] at q
    omega
  · rw [e] at q
    omega
section TQNEW
variable {p : Program} {l : Launch} {e : Env} {R : Room} {s : State} {mid : MethodId} {args : Array Value} {below : List Frame} {meth : Method} {c : Code} {Q : State → Prop} {g : tqG} {cc : ByteArray} {nL c0 s0 pc : Nat} {lsA st : List tqV} {m : tqM}
theorem tqS_push {A : Nat → Prop} {H0 H H' : Heap} {locs : List Loc} (hS : va_S A H0 H locs) (hz : H'.size = H.size + 1) (ho : ∀ q, q < H.size → H'[q]? = H[q]?) : va_S A H0 H' locs :=
  ⟨Nat.le_trans hS.1 (by omega), fun x h1 h2 => (ho x (Nat.lt_of_lt_of_le h1 hS.1)).trans (hS.2.1 x h1 h2), hS.2.2⟩
theorem s_new {k idx : Nat} {own : String} (hK : tqKn g s) (hts : ∀ w ∈ tqWd, w.before args s = true) (hown : s.vm.findClass own = some mid.cls) (hk : k < 13) (hcl : (Cond.classLink own idx (tqRn k)).before args s = true) (hinst : (Cond.instantiable (tqRn k) (tqN k)).before args s = true) (hini : (Cond.initialized (tqRn k)).before args s = true)
    (hc : m.2.2.2.1 + 1 - c0 ≤ R.cells) (hs : m.2.2.2.2 + tqN k - s0 ≤ R.slots) (hx : p.tables.exec = Jvm.exec) (hb : c.code = cc) (hd : decode cc pc = .ok (.new idx, 3)) (h : tqW1 p l e R s mid args below meth c Q g nL c0 s0 (pc + 3) lsA (vR (m.2.2.2.1 + 1) :: st) (tqnew m (10 + k) (tqN k))) : tqW1 p l e R s mid args below meth c Q g nL c0 s0 pc lsA st m := by
  intro H locs ls hH hS hl hst h0 h1
  have hKn := hK.1.1 k _ (tqcl_at k hk)
  have hN : tqN k < 536870912 := by
    have : ∀ k, k < 13 → tqN k < 100 := by decide
    have := this k hk
    omega
  refine W.newcK hx hb hown hcl hinst hini rfl hd (by omega) (by omega) hKn.2.1 rfl fun H1 kC hkC e1 z1 o1 => ?_
  have e3 : tqS (tqnew m (10 + k) (tqN k)) (m.2.2.2.1 + 1) = (10 + k, tqN k) := if_pos rfl
  have hat : va_at g.1 tqcl (H.size, tqent g (tqnew m (10 + k) (tqN k)) (m.2.2.2.1 + 1)) H1 := by
    rw [tqent_o (k := k) (by rw [e3])]
    refine ⟨_, tqcl_at k hk, (u_born (tqYn k) hts (tqin_W k hk) hKn hkC e1 (tqYn_ok k hk)).to (fun j hj => ?_)⟩
    have hj : j < tqN k := hj
    rw [tqdef (g := g) (m := m) (kd := 10 + k) (n := tqN k) (tqYn_k k hk j hj) (tqk_le k hk j hj)]
    simp [vp_V, hj]
  have hH1 := hH.push (m' := tqnew m (10 + k) (tqN k)) rfl z1 o1 (fun b hb => tqnew_ent hb) hat (tqnew_ok hH.2.2 (by omega) hN)
  have hh := h H1 locs ls hH1 (tqS_push hS z1 o1) hl (tqall1 trivial hst) (by show c0 ≤ m.2.2.2.1 + 1; omega) (by show s0 ≤ m.2.2.2.2 + tqN k; omega)
  have hh : W p l e R s mid args below meth c H1 locs (m.2.2.2.1 + 1 - c0) (m.2.2.2.2 + tqN k - s0) Q (F0 mid (pc + 3) ls (tqrz g (vR (m.2.2.2.1 + 1)) :: st.map (tqrz g))) := hh
  rw [tqrz_R (by omega), tqad_new hH] at hh
  exact W.cs (by omega) (by omega) hh
theorem tqclz {g : tqG} {U : State} (hK : tqKn g U) {t : Jvm.ClassFile.ArrayType} {k : Nat} (hk : k = tqaty t) (h1 : 1 ≤ k) {cA : ClassId} (h : U.vm.findClass ("[" ++ (Jvm.Op.newarray.typeOf t).toString) = some cA) : cA = g.2.1 k := by
  subst hk
  cases t <;> first
    | exact absurd h1 (by decide)
    | exact Option.some.inj (h.symm.trans (hK.1.2 0 _ rfl).2)
    | exact Option.some.inj (h.symm.trans (hK.1.2 1 _ rfl).2)
    | exact Option.some.inj (h.symm.trans (hK.1.2 2 _ rfl).2)
theorem s_newarray {t : Jvm.ClassFile.ArrayType} {k : Nat} {n : Int} (hK : tqKn g s) (hk : k = tqaty t) (h1k : 1 ≤ k) (harr : (Cond.arrayClass (Jvm.Op.newarray.typeOf t)).before args s = true) (hn0 : 0 ≤ n) (hn1 : n ≤ 65536)
    (hc : m.2.2.2.1 + 1 - c0 ≤ R.cells) (hs : m.2.2.2.2 + n.toNat - s0 ≤ R.slots) (hx : p.tables.exec = Jvm.exec) (hb : c.code = cc) (hd : decode cc pc = .ok (.newarray t, 2)) (h : tqW1 p l e R s mid args below meth c Q g nL c0 s0 (pc + 2) lsA (vR (m.2.2.2.1 + 1) :: st) (tqnew m k n.toNat)) : tqW1 p l e R s mid args below meth c Q g nL c0 s0 pc lsA (vI n :: st) m := by
  intro H locs ls hH hS hl hst h0 h1
  obtain ⟨ei, hin⟩ := tqix (n := 65537) hn0 (by omega) (by omega)
  have hkb : componentBytes (Jvm.Op.newarray.typeOf t) ≤ 8 := by cases t <;> decide
  show W p l e R s mid args below meth c H locs (m.2.2.2.1 - c0) (m.2.2.2.2 - s0) Q (F0 mid pc ls (.int (Int32.ofInt n) :: st.map (tqrz g)))
  refine va_newaK hx hb harr rfl hd rfl (fun q => hin (Or.inl q)) ei (by
    have := Nat.mul_le_mul (show n.toNat ≤ 65536 by omega) hkb
    omega) (by omega) (by omega) rfl fun H1 cA e1 z1 o1 hAr hNm => ?_
  have ecA := tqclz hK hk h1k hNm
  subst ecA
  have e3 : tqS (tqnew m k n.toNat) (m.2.2.2.1 + 1) = (k, n.toNat) := if_pos rfl
  have ed : ∀ j : Int, (tqnew m k n.toNat).1 (m.2.2.2.1 + 1) j = 0 := fun j => if_pos rfl
  have hat : va_at g.1 tqcl (H.size, tqent g (tqnew m k n.toNat) (m.2.2.2.1 + 1)) H1 := by
    subst hk
    cases t <;> first
      | exact absurd h1k (by decide)
      | (rw [tqent_1 (by rw [e3]; rfl), e3]; show H1[H.size]? = some (vp_cell _ _); simp only [ed]; exact e1)
      | (rw [tqent_2 (by rw [e3]; rfl), e3]; show H1[H.size]? = some (vp_cell _ _); simp only [ed]; exact e1)
      | (rw [tqent_3 (by rw [e3]; rfl), e3]; show H1[H.size]? = some (vp_cell _ _); simp only [ed]; exact e1)
  have hk8 : k ≠ 8 := by subst hk; cases t <;> decide
  have hH1 := hH.push (m' := tqnew m k n.toNat) rfl z1 o1 (fun b hb => tqnew_ent hb) hat (tqnew_ok hH.2.2 hk8 (by omega))
  have hh := h H1 locs ls hH1 (tqS_push hS z1 o1) hl (tqall1 trivial (tqtl hst)) (by show c0 ≤ m.2.2.2.1 + 1; omega) (by show s0 ≤ m.2.2.2.2 + n.toNat; omega)
  have hh : W p l e R s mid args below meth c H1 locs (m.2.2.2.1 + 1 - c0) (m.2.2.2.2 + n.toNat - s0) Q (F0 mid (pc + 2) ls (tqrz g (vR (m.2.2.2.1 + 1)) :: st.map (tqrz g))) := hh
  rw [tqrz_R (by omega), tqad_new hH] at hh
  exact W.cs (by omega) (by omega) hh
theorem s_anewarray {k kc idx t0 : Nat} {n : Int} {own : String} (hK : tqKn g s) (hk4 : 4 ≤ k) (hk6 : k ≤ 6) (ht : (tqty g)[t0]? = some (g.2.1 k, .object (tqRn kc))) (hown : s.vm.findClass own = some mid.cls) (hcl : (Cond.classLink own idx (tqRn kc)).before args s = true) (hov : (Cond.arrayOver (.object (tqRn kc))).before args s = true) (hn0 : 0 ≤ n) (hn1 : n ≤ 65536)
    (hc : m.2.2.2.1 + 1 - c0 ≤ R.cells) (hs : m.2.2.2.2 + n.toNat - s0 ≤ R.slots) (hx : p.tables.exec = Jvm.exec) (hb : c.code = cc) (hd : decode cc pc = .ok (.anewarray idx, 3)) (h : tqW1 p l e R s mid args below meth c Q g nL c0 s0 (pc + 3) lsA (vR (m.2.2.2.1 + 1) :: st) (tqnew m k n.toNat)) : tqW1 p l e R s mid args below meth c Q g nL c0 s0 pc lsA (vI n :: st) m := by
  intro H locs ls hH hS hl hst h0 h1
  obtain ⟨ei, hin⟩ := tqix (n := 65537) hn0 (by omega) (by omega)
  show W p l e R s mid args below meth c H locs (m.2.2.2.1 - c0) (m.2.2.2.2 - s0) Q (F0 mid pc ls (.int (Int32.ofInt n) :: st.map (tqrz g)))
  refine W.anew hx hb hown hcl hov rfl hd rfl (fun q => hin (Or.inl q)) (by rw [ei]; omega) (by omega) (by rw [ei]; omega) fun cA kA comp f1 f2 f3 f4 => ?_
  rw [ei]
  obtain ⟨-, -, -, -, -, hfc⟩ := (hK.1.2 t0 _ ht).2
  have ecA : cA = g.2.1 k := Option.some.inj (f1.symm.trans hfc)
  subst ecA
  generalize hH1 : H.push ({ cls := g.2.1 k, slots := Array.replicate n.toNat .null, vm := .none } : Cell) = H1
  have z1 : H1.size = H.size + 1 := by rw [← hH1, Array.size_push]
  have e1 : H1[H.size]? = some (arrV (g.2.1 k) n.toNat (fun _ => .null)) := by rw [← hH1, Array.getElem?_push_size, ← arrV_new]
  have o1 : ∀ q : Nat, q < H.size → H1[q]? = H[q]? := fun q hq => by rw [← hH1, Array.getElem?_push, if_neg (Nat.ne_of_lt hq)]
  have e3 : tqS (tqnew m k n.toNat) (m.2.2.2.1 + 1) = (k, n.toNat) := if_pos rfl
  have ed : ∀ j : Int, (tqnew m k n.toNat).2.1 (m.2.2.2.1 + 1) j = 0 := fun j => if_pos rfl
  have hat : va_at g.1 tqcl (H.size, tqent g (tqnew m k n.toNat) (m.2.2.2.1 + 1)) H1 := by
    rw [tqent_q (by rw [e3]; exact hk4) (by rw [e3]; show k ≤ 9; omega), e3]
    show H1[H.size]? = some (vp_cell _ _)
    simp only [ed]
    exact e1
  have hH2 := hH.push (m' := tqnew m k n.toNat) rfl z1 o1 (fun b hb => tqnew_ent hb) hat (tqnew_ok hH.2.2 (by omega) (by omega))
  have hh := h H1 locs ls hH2 (tqS_push hS z1 o1) hl (tqall1 trivial (tqtl hst)) (by show c0 ≤ m.2.2.2.1 + 1; omega) (by show s0 ≤ m.2.2.2.2 + n.toNat; omega)
  have hh : W p l e R s mid args below meth c H1 locs (m.2.2.2.1 + 1 - c0) (m.2.2.2.2 + n.toNat - s0) Q (F0 mid (pc + 3) ls (tqrz g (vR (m.2.2.2.1 + 1)) :: st.map (tqrz g))) := hh
  rw [tqrz_R (by omega), tqad_new hH] at hh
  exact W.cs (by omega) (by omega) hh
theorem s_objinit {a idx : Nat} {own : String} (ha0 : a ≠ 0) (hml : c.maxLocals = nL) (hown : s.vm.findClass own = some mid.cls) (hl1 : (Cond.methodLink own idx Jvm.Lib.objectInit).before args s = true) (hl2 : (Cond.instanceMethod Jvm.Lib.objectInit).before args s = true) (hl3 : (Cond.code Jvm.Lib.objectInit ⟨#[0xb1]⟩ 1 none).before args s = true) (hfr : 1 ≤ R.frames) (hlo : 60 ≤ R.locals) (hst8 : tqcs st ≤ 8)
    (hx : p.tables.exec = Jvm.exec) (hb : c.code = cc) (hd : decode cc pc = .ok (.invokespecial idx, 3)) (h : tqW1 p l e R s mid args below meth c Q g nL c0 s0 (pc + 3) lsA st m) : tqW1 p l e R s mid args below meth c Q g nL c0 s0 pc lsA (vR a :: st) m := by
  intro H locs ls hH hS hl hst h0 h1
  show W p l e R s mid args below meth c H locs (m.2.2.2.1 - c0) (m.2.2.2.2 - s0) Q (F0 mid pc ls (tqrz g (vR a) :: st.map (tqrz g)))
  rw [tqrz_R ha0]
  refine W.objInit hx hb hown hl1 hl2 hl3 rfl (by rw [hml]; exact hl.1.1) rfl hd hfr ?_ (h H locs ls hH hS hl (tqtl hst) h0 h1)
  have := lv_room (m := mid) (pc := pc) (ls := ls) (rest := []) (st := st.map (tqrz g)) (by rw [tqcs_rz]; exact hst8)
  have e : 2 * (F0 mid pc ls (Value.ref (tqad g a) :: st.map (tqrz g))).monitorRoom + ((st.map (tqrz g)).map fun v => v.category).sum ≤ 8 := this
  omega
theorem s_arraycopy {a b idx : Nat} {i j n : Int} {own : String} (hK : tqKn g s) (hml : c.maxLocals = nL) (hown : s.vm.findClass own = some mid.cls) (hl1 : (Cond.methodLink own idx arraycopyName).before args s = true) (hl2 : (Cond.native arraycopyName).before args s = true) (hl3 : (Cond.static arraycopyName).before args s = true) (hl4 : (Cond.initialized "java/lang/System").before args s = true) (hfr : 1 ≤ R.frames) (hlo : 60 ≤ R.locals) (hst8 : tqcs st ≤ 8)
    (hsa : (tqS m a).1 = 1) (hsb : (tqS m b).1 = 1) (hi : 0 ≤ i) (hj : 0 ≤ j) (hn : 0 ≤ n) (hia : i + n ≤ ((tqS m a).2 : Int)) (hjb : j + n ≤ ((tqS m b).2 : Int))
    (hx : p.tables.exec = Jvm.exec) (hb : c.code = cc) (hd : decode cc pc = .ok (.invokestatic idx, 3)) (h : tqW1 p l e R s mid args below meth c Q g nL c0 s0 (pc + 3) lsA st (tqcpy m a i b j n)) : tqW1 p l e R s mid args below meth c Q g nL c0 s0 pc lsA (vI n :: vI j :: vR b :: vI i :: vR a :: st) m := by
  intro H locs ls hH hS hl hst h0 h1
  obtain ⟨ha, hac, hlena⟩ := hH.2.2.adr (a := a) (by omega) (by omega)
  obtain ⟨hb2, hbc, hlenb⟩ := hH.2.2.adr (a := b) (by omega) (by omega)
  obtain ⟨ei, ei2⟩ := tqix2 (n := (tqS m a).2 + 1) hi (by omega) (by omega)
  obtain ⟨ej, ej2⟩ := tqix2 (n := (tqS m b).2 + 1) hj (by omega) (by omega)
  obtain ⟨en, en2⟩ := tqix2 (n := (tqS m a).2 + 1) hn (by omega) (by omega)
  have hca := hH.2.1 a ha hac
  rw [tqent_1 hsa] at hca
  have hca : H[tqad g a]? = some (arrV (g.2.1 1) (tqS m a).2 (fun j => .int (Int32.ofInt (m.1 a (j : Int))))) := hca
  have hcb := hH.2.1 b hb2 hbc
  rw [tqent_1 hsb] at hcb
  have hcb : H[tqad g b]? = some (arrV (g.2.1 1) (tqS m b).2 (fun j => .int (Int32.ofInt (m.1 b (j : Int))))) := hcb
  obtain ⟨-, k0, hk0, cm0, hkk0⟩ := (hK.1.2 0 _ rfl).1 (tqS m a).2 (fun j => .int (Int32.ofInt (m.1 a (j : Int))))
  show W p l e R s mid args below meth c H locs (m.2.2.2.1 - c0) (m.2.2.2.2 - s0) Q (F0 mid pc ls (.int (Int32.ofInt n) :: .int (Int32.ofInt j) :: tqrz g (vR b) :: .int (Int32.ofInt i) :: tqrz g (vR a) :: st.map (tqrz g)))
  rw [tqrz_R (a := a) (by omega), tqrz_R (a := b) (by omega)]
  intro T hT X
  have hin32 : ∀ {z : Int}, 0 ≤ z → z ≤ 536870912 → (Int32.ofInt z).toInt = z := fun h1 h2 => o32_to (by unfold in32; omega)
  have hroom : 2 * (F0 mid pc ls (.int (Int32.ofInt n) :: .int (Int32.ofInt j) :: .ref (tqad g b) :: .int (Int32.ofInt i) :: .ref (tqad g a) :: st.map (tqrz g))).monitorRoom + ((st.map (tqrz g)).map fun v => v.category).sum ≤ 8 := lv_room (m := mid) (pc := pc) (ls := ls) (rest := []) (st := st.map (tqrz g)) (by rw [tqcs_rz]; exact hst8)
  obtain ⟨vm', X', step⟩ := X.arraycopy hx hown hl1 hl2 hl3 hl4 (src := tqad g a) (dst := tqad g b) (cs := arrV (g.2.1 1) (tqS m a).2 (fun j => .int (Int32.ofInt (m.1 a (j : Int))))) (cd := arrV (g.2.1 1) (tqS m b).2 (fun j => .int (Int32.ofInt (m.1 b (j : Int))))) (srcPos := Int32.ofInt i) (destPos := Int32.ofInt j) (n := Int32.ofInt n) (by rw [hT]; exact hca) (by rw [hT]; exact hcb)
    (fun _ h => by cases h) (fun _ h => by cases h) (fun h => by cases h) (fun h => by cases h) hk0 hk0 hkk0 hkk0 rfl (fun q => ei2 (Or.inl q)) (fun q => ej2 (Or.inl q)) (fun q => en2 (Or.inl q))
    (by rw [hin32 hi (by omega), hin32 hn (by omega), arrV_size]; omega) (by rw [hin32 hj (by omega), hin32 hn (by omega), arrV_size]; omega)
    (fun vm₁ _ q hq => by
      rw [en] at hq
      rw [ei]
      have e5 : (arrV (g.2.1 1) (tqS m a).2 (fun j => .int (Int32.ofInt (m.1 a (j : Int))))).slots.getD (i.toNat + q) .null = .int (Int32.ofInt (m.1 a ((i.toNat + q : Nat) : Int))) := by
        rw [Array.getD_eq_getD_getElem?, arrV_read _ _ (by omega)]
        rfl
      rw [e5]
      exact ⟨rfl, trivial⟩)
    (g := F0 mid pc ls (.int (Int32.ofInt n) :: .int (Int32.ofInt j) :: .ref (tqad g b) :: .int (Int32.ofInt i) :: .ref (tqad g a) :: st.map (tqrz g))) rfl (by rw [hml]; exact hl.1.1) (rest := st.map (tqrz g)) rfl (by rw [hb]; exact hd) hfr (by
      have : nativeFrameWords "java/lang/System" "arraycopy" 5 + 11 ≤ 52 := by decide +kernel
      omega)
  have ecp : copied (arrV (g.2.1 1) (tqS m a).2 (fun j => .int (Int32.ofInt (m.1 a (j : Int))))) (arrV (g.2.1 1) (tqS m b).2 (fun j => .int (Int32.ofInt (m.1 b (j : Int))))) (Int32.ofInt i) (Int32.ofInt j) (Int32.ofInt n) = arrV (g.2.1 1) (tqS m b).2 (fun k => .int (Int32.ofInt ((tqcpy m a i b j n).1 b (k : Int)))) := by
    have h7 := va_copied (fun z : Int32 => Value.int z) (g.2.1 1) (g.2.1 1) (n0 := (tqS m a).2) (n1 := (tqS m b).2) (sp := i.toNat) (dp := j.toNat) (n := n.toNat) (fun j => Int32.ofInt (m.1 a (j : Int))) (fun j => Int32.ofInt (m.1 b (j : Int))) (by omega)
    have h8 : copied (arrV (g.2.1 1) (tqS m a).2 (fun j => .int (Int32.ofInt (m.1 a (j : Int))))) (arrV (g.2.1 1) (tqS m b).2 (fun j => .int (Int32.ofInt (m.1 b (j : Int))))) (Int32.ofInt i) (Int32.ofInt j) (Int32.ofInt n) = (arrV (g.2.1 1) (tqS m b).2 (fun j => .int (Int32.ofInt (m.1 b (j : Int))))).storeRun (Int32.ofInt j).toNatClampNeg ((arrV (g.2.1 1) (tqS m a).2 (fun j => .int (Int32.ofInt (m.1 a (j : Int))))).stretch (Int32.ofInt i).toNatClampNeg (Int32.ofInt n).toNatClampNeg) := rfl
    rw [h8, ei, ej, en]
    refine h7.trans ?_
    congr 1
    funext k
    have e9 : (tqcpy m a i b j n).1 b (k : Int) = if j ≤ (k : Int) ∧ (k : Int) < j + n then m.1 a (i + ((k : Int) - j)) else m.1 b (k : Int) := if_pos rfl
    rw [e9]
    unfold va_cpy
    by_cases q : j.toNat ≤ k ∧ k < j.toNat + n.toNat
    · rw [if_pos q, if_pos (by omega)]
      show Value.int (Int32.ofInt (m.1 a ((i.toNat + (k - j.toNat) : Nat) : Int))) = _
      rw [show ((i.toNat + (k - j.toNat) : Nat) : Int) = i + ((k : Int) - j) by omega]
    · rw [if_neg q, if_neg (by omega)]
  rw [ecp] at X' step
  have hlt : tqad g b < H.size := (Array.getElem?_eq_some_iff.mp hcb).1
  generalize hcellN : arrV (g.2.1 1) (tqS m b).2 (fun k => Value.int (Int32.ofInt ((tqcpy m a i b j n).1 b (k : Int)))) = cellN at X' step
  have hheap : ((T.setVm vm').setCell (tqad g b) cellN).heap = H.setIfInBounds (tqad g b) cellN := by rw [← hT]; rfl
  have oq : ∀ q : Nat, q ≠ tqad g b → (H.setIfInBounds (tqad g b) cellN)[q]? = H[q]? := fun q hq => by simp [Array.getElem?_setIfInBounds, Ne.symm hq]
  have ent : ∀ q, q ≠ b → tqent g (tqcpy m a i b j n) q = tqent g m q := fun q hq => by
    have e9 : ∀ k, (tqcpy m a i b j n).1 q k = m.1 q k := fun k => if_neg hq
    unfold tqent tqfv
    simp only [e9]
    rfl
  have hAb : tqA g (tqad g b) := by show g.2.2.2.1 ≤ tqad g b; rw [tqad_ge hb2]; omega
  have hat : va_at g.1 tqcl (tqad g b, tqent g (tqcpy m a i b j n) b) (H.setIfInBounds (tqad g b) cellN) := by
    rw [tqent_1 (show (tqS (tqcpy m a i b j n) b).1 = 1 from hsb)]
    show (H.setIfInBounds (tqad g b) cellN)[tqad g b]? = some (vp_cell _ _)
    rw [← hcellN]
    simp [Array.getElem?_setIfInBounds, hlt]
    rfl
  have hok : tqok g (tqcpy m a i b j n) := by
    refine ⟨fun b' k => ?_, hH.2.2.2.1, hH.2.2.2.2.1, hH.2.2.2.2.2.1, hH.2.2.2.2.2.2.1, fun q hq => ?_⟩
    · by_cases eb : b' = b
      · subst eb
        have e9 : (tqcpy m a i b' j n).1 b' k = if j ≤ k ∧ k < j + n then m.1 a (i + (k - j)) else m.1 b' k := if_pos rfl
        rw [e9]
        have ek : ∀ z, tqkd (tqS m b').1 z = 0 := fun z => by unfold tqkd; rw [if_pos (Or.inl hsb)]
        have ek2 : ∀ z, tqkd (tqS m a).1 z = 0 := fun z => by unfold tqkd; rw [if_pos (Or.inl hsa)]
        refine ⟨fun _ => ?_, (fun q => by have q : tqkd (tqS m b').1 k = 1 := q; rw [ek] at q; cases q), (fun q => by have q : tqkd (tqS m b').1 k = 2 := q; rw [ek] at q; cases q)⟩
        split
        · exact (hH.2.2.1 a _).1 (ek2 _)
        · exact (hH.2.2.1 b' _).1 (ek _)
      · have e9 : (tqcpy m a i b j n).1 b' k = m.1 b' k := if_neg eb
        rw [e9]
        exact hH.2.2.1 b' k
    · have e9 : (tqcpy m a i b j n).1 1 (q : Int) = m.1 1 (q : Int) := if_neg (by omega)
      rw [e9]
      exact hH.2.2.2.2.2.2.2 q hq
  obtain ⟨t, a1, b1⟩ := h (H.setIfInBounds (tqad g b) cellN) (locs ++ _) ls (hH.put hb2 rfl (by simp) oq ent hat hok) ⟨by simp; exact hS.1, fun q g1 g2 => by
      rw [oq q (fun z => g2 (by rw [z]; exact hAb))]
      exact hS.2.1 q g1 g2, fun q hq => by
      rcases List.mem_append.mp hq with h | h
      · exact hS.2.2 q h
      · obtain ⟨z, -, hz⟩ := List.mem_map.mp h
        rw [← hz]
        exact hAb⟩ hl (tqtl (tqtl (tqtl (tqtl (tqtl hst))))) h0 h1 _ hheap X'
  exact ⟨t, step t a1, b1⟩
end TQNEW
