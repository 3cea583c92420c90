/-! ===== rows that write ===== -/
section TQSTO
variable {p : Program} {l : Launch} {e : Env} {R : Room} {s : State} {mid : MethodId} {args : Array Value} {below : List Frame} {meth : Method} {c : Code} {Q : State → Prop} {g : tqG} {cc : ByteArray} {nL c0 s0 pc : Nat} {lsA st : List tqV} {m : tqM}
theorem tqw_at {m : tqM} {a : Nat} {i x : Int} (j : Int) : (tqw m a i x).1 a j = if j = i then x else m.1 a j := if_pos rfl
theorem tqp_at {m : tqM} {a : Nat} {i : Int} {x : Nat} (j : Int) : (tqp m a i x).2.1 a j = if j = i then x else m.2.1 a j := if_pos rfl
theorem tqji {i : Int} (h : 0 ≤ i) (j : Nat) : ((j : Int) = i) ↔ j = i.toNat := by omega
theorem s_iastore {a : Nat} {i x : Int} (hK : tqKn g s) (hs : (tqS m a).1 = 1) (h2 : 0 ≤ i) (h3 : i < ((tqS m a).2 : Int)) (hx : p.tables.exec = Jvm.exec) (hb : c.code = cc) (hd : decode cc pc = .ok (.iastore, 1)) (h : tqW1 p l e R s mid args below meth c Q g nL c0 s0 (pc + 1) lsA st (tqw m a i x)) : tqW1 p l e R s mid args below meth c Q g nL c0 s0 pc lsA (vI x :: vI i :: vR a :: st) m := by
  intro H locs ls hH hS hl hst h0 h1
  obtain ⟨ha, hac, hlen⟩ := hH.2.2.adr (a := a) (by omega) (by omega)
  obtain ⟨ei, hin⟩ := tqix h2 h3 hlen
  have hcell := hH.2.1 a ha hac
  rw [tqent_1 hs] at hcell
  have hcell : H[tqad g a]? = some (arrV (g.2.1 1) (tqS m a).2 (fun j => .int (Int32.ofInt (m.1 a (j : Int))))) := hcell
  show W p l e R s mid args below meth c H locs (m.2.2.2.1 - c0) (m.2.2.2.2 - s0) Q (F0 mid pc ls (.int (Int32.ofInt x) :: .int (Int32.ofInt i) :: tqrz g (vR a) :: st.map (tqrz g)))
  rw [tqrz_R (by omega)]
  refine W.iast hx hb hcell ((hK.1.2 0 _ rfl).1 _ _) (fun q => by cases q) (by rw [arrV_size]; exact hin) rfl rfl hd fun H' e1 z oq => ?_
  have hat : va_at g.1 tqcl (tqad g a, tqent g (tqw m a i x) a) H' := by
    rw [tqent_1 (show (tqS (tqw m a i x) a).1 = 1 from hs)]
    show H'[tqad g a]? = some (arrV (g.2.1 1) (tqS m a).2 (fun j => .int (Int32.ofInt ((tqw m a i x).1 a (j : Int)))))
    rw [e1, arrV_store, ei]
    congr 2
    funext j
    rw [tqw_at]
    unfold updV
    by_cases q : j = i.toNat
    · rw [if_pos q, if_pos ((tqji h2 j).mpr q)]
    · rw [if_neg q, if_neg (fun z => q ((tqji h2 j).mp z))]
  have hok : tqok g (tqw m a i x) := tqw_ok hH.2.2 (by omega) ⟨fun _ => tqhdo hst, (fun q => by unfold tqkd at q; rw [if_pos (Or.inl hs)] at q; cases q), (fun q => by unfold tqkd at q; rw [if_pos (Or.inl hs)] at q; cases q)⟩
  exact h H' _ ls (hH.put ha rfl z oq (fun b hb => tqw_ent hb) hat hok) (hS.put z oq (by show g.2.2.2.1 ≤ tqad g a; rw [tqad_ge ha]; omega)) hl (tqtl (tqtl (tqtl hst))) h0 h1
theorem s_lastore {a : Nat} {i x : Int} (hK : tqKn g s) (hs : (tqS m a).1 = 2) (h2 : 0 ≤ i) (h3 : i < ((tqS m a).2 : Int)) (hx : p.tables.exec = Jvm.exec) (hb : c.code = cc) (hd : decode cc pc = .ok (.lastore, 1)) (h : tqW1 p l e R s mid args below meth c Q g nL c0 s0 (pc + 1) lsA st (tqw m a i x)) : tqW1 p l e R s mid args below meth c Q g nL c0 s0 pc lsA (vL x :: vI i :: vR a :: st) m := by
  intro H locs ls hH hS hl hst h0 h1
  obtain ⟨ha, hac, hlen⟩ := hH.2.2.adr (a := a) (by omega) (by omega)
  obtain ⟨ei, hin⟩ := tqix h2 h3 hlen
  have hcell := hH.2.1 a ha hac
  rw [tqent_2 hs] at hcell
  have hcell : H[tqad g a]? = some (arrV (g.2.1 2) (tqS m a).2 (fun j => .long (Int64.ofInt (m.1 a (j : Int))))) := hcell
  show W p l e R s mid args below meth c H locs (m.2.2.2.1 - c0) (m.2.2.2.2 - s0) Q (F0 mid pc ls (.long (Int64.ofInt x) :: .int (Int32.ofInt i) :: tqrz g (vR a) :: st.map (tqrz g)))
  rw [tqrz_R (by omega)]
  refine W.last hx hb hcell ((hK.1.2 1 _ rfl).1 _ _) (fun q => by cases q) (by rw [arrV_size]; exact hin) rfl rfl hd fun H' e1 z oq => ?_
  have hat : va_at g.1 tqcl (tqad g a, tqent g (tqw m a i x) a) H' := by
    rw [tqent_2 (show (tqS (tqw m a i x) a).1 = 2 from hs)]
    show H'[tqad g a]? = some (arrV (g.2.1 2) (tqS m a).2 (fun j => .long (Int64.ofInt ((tqw m a i x).1 a (j : Int)))))
    rw [e1, arrV_store, ei]
    congr 2
    funext j
    rw [tqw_at]
    unfold updV
    by_cases q : j = i.toNat
    · rw [if_pos q, if_pos ((tqji h2 j).mpr q)]
    · rw [if_neg q, if_neg (fun z => q ((tqji h2 j).mp z))]
  have ek : tqkd (tqS m a).1 i = 1 := by unfold tqkd; rw [if_neg (by omega), if_pos hs]
  have hok : tqok g (tqw m a i x) := tqw_ok hH.2.2 (by omega) ⟨(fun q => by rw [ek] at q; cases q), fun _ => tqhdo hst, (fun q => by rw [ek] at q; cases q)⟩
  exact h H' _ ls (hH.put ha rfl z oq (fun b hb => tqw_ent hb) hat hok) (hS.put z oq (by show g.2.2.2.1 ≤ tqad g a; rw [tqad_ge ha]; omega)) hl (tqtl (tqtl (tqtl hst))) h0 h1
theorem tqnar1 {x : Int} (h : x = 0 ∨ x = 1) : narrow .boolean (.int (Int32.ofInt x)) = .int (Int32.ofInt x) := by
  rcases h with rfl | rfl <;> decide +kernel
theorem s_bastore {a : Nat} {i x : Int} (hK : tqKn g s) (hs : (tqS m a).1 = 3) (h2 : 0 ≤ i) (h3 : i < ((tqS m a).2 : Int)) (h01 : x = 0 ∨ x = 1) (hx : p.tables.exec = Jvm.exec) (hb : c.code = cc) (hd : decode cc pc = .ok (.bastore, 1)) (h : tqW1 p l e R s mid args below meth c Q g nL c0 s0 (pc + 1) lsA st (tqw m a i x)) : tqW1 p l e R s mid args below meth c Q g nL c0 s0 pc lsA (vI x :: vI i :: vR a :: st) m := by
  intro H locs ls hH hS hl hst h0 h1
  obtain ⟨ha, hac, hlen⟩ := hH.2.2.adr (a := a) (by omega) (by omega)
  obtain ⟨ei, hin⟩ := tqix h2 h3 hlen
  have hcell := hH.2.1 a ha hac
  rw [tqent_3 hs] at hcell
  have hcell : H[tqad g a]? = some (arrV (g.2.1 3) (tqS m a).2 (fun j => .int (Int32.ofInt (m.1 a (j : Int))))) := hcell
  show W p l e R s mid args below meth c H locs (m.2.2.2.1 - c0) (m.2.2.2.2 - s0) Q (F0 mid pc ls (.int (Int32.ofInt x) :: .int (Int32.ofInt i) :: tqrz g (vR a) :: st.map (tqrz g)))
  rw [tqrz_R (by omega)]
  refine W.zast hx hb hcell ((hK.1.2 2 _ rfl).1 _ _) (fun q => by cases q) (by rw [arrV_size]; exact hin) rfl rfl hd fun H' e1 z oq => ?_
  have hat : va_at g.1 tqcl (tqad g a, tqent g (tqw m a i x) a) H' := by
    rw [tqent_3 (show (tqS (tqw m a i x) a).1 = 3 from hs)]
    show H'[tqad g a]? = some (arrV (g.2.1 3) (tqS m a).2 (fun j => .int (Int32.ofInt ((tqw m a i x).1 a (j : Int)))))
    rw [e1, arrV_store, ei, tqnar1 h01]
    congr 2
    funext j
    rw [tqw_at]
    unfold updV
    by_cases q : j = i.toNat
    · rw [if_pos q, if_pos ((tqji h2 j).mpr q)]
    · rw [if_neg q, if_neg (fun z => q ((tqji h2 j).mp z))]
  have ek : tqkd (tqS m a).1 i = 2 := by unfold tqkd; rw [if_neg (by omega), if_neg (by omega), if_pos hs]
  have hok : tqok g (tqw m a i x) := tqw_ok hH.2.2 (by omega) ⟨(fun q => by rw [ek] at q; cases q), (fun q => by rw [ek] at q; cases q), fun _ => h01⟩
  exact h H' _ ls (hH.put ha rfl z oq (fun b hb => tqw_ent hb) hat hok) (hS.put z oq (by show g.2.2.2.1 ≤ tqad g a; rw [tqad_ge ha]; omega)) hl (tqtl (tqtl (tqtl hst))) h0 h1
theorem tqrr_s {g : tqG} {v : Nat} (h : v ≠ 0) : tqrr g v = some (tqad g v) := if_neg h
theorem s_aastore {a v k : Nat} {i : Int} (hK : tqKn g s) (t0 kc : Nat) (hs4 : 4 ≤ k) (hs7 : k ≤ 7) (hs : (tqS m a).1 = k) (hv : (tqS m v).1 = 10 + kc) (hkc : kc < 13) (ht : (tqty g)[t0]? = some (g.2.1 k, .object (tqRn kc))) (h2 : 0 ≤ i) (h3 : i < ((tqS m a).2 : Int)) (hx : p.tables.exec = Jvm.exec) (hb : c.code = cc) (hd : decode cc pc = .ok (.aastore, 1)) (h : tqW1 p l e R s mid args below meth c Q g nL c0 s0 (pc + 1) lsA st (tqp m a i v)) : tqW1 p l e R s mid args below meth c Q g nL c0 s0 pc lsA (vR v :: vI i :: vR a :: st) m := by
  intro H locs ls hH hS hl hst h0 h1
  obtain ⟨ha, hac, hlen⟩ := hH.2.2.adr (a := a) (by omega) (by omega)
  obtain ⟨hva, hvc, -⟩ := hH.2.2.adr (a := v) (by omega) (by omega)
  obtain ⟨ei, hin⟩ := tqix h2 h3 hlen
  have hcell := hH.2.1 a ha hac
  rw [tqent_q (by omega) (by omega), hs] at hcell
  have hcell : H[tqad g a]? = some (arrV (g.2.1 k) (tqS m a).2 (fun j => va_rf (tqrr g (m.2.1 a (j : Int))))) := hcell
  have hcv := hH.2.1 v hva hvc
  rw [tqent_o hv] at hcv
  obtain ⟨r', hr', cellV, g1, g2, g3, -⟩ := hcv
  have hcls := (hK.1.1 kc _ (tqcl_at kc hkc)).2
  obtain ⟨kA, comp, k1, k2, k3, -⟩ := (hK.1.2 t0 _ ht).2
  have hcomp : comp = g.1.1 kc := Option.some.inj (k3.symm.trans hcls.1)
  subst hcomp
  obtain ⟨kC, hkC, hkd⟩ := hcls.2
  show W p l e R s mid args below meth c H locs (m.2.2.2.1 - c0) (m.2.2.2.2 - s0) Q (F0 mid pc ls (tqrz g (vR v) :: .int (Int32.ofInt i) :: tqrz g (vR a) :: st.map (tqrz g)))
  rw [tqrz_R (by omega), tqrz_R (by omega)]
  refine W.aast hx hb hcell (fun q h => by cases h) (fun h => by cases h) k1 k2 rfl hkC ⟨fun q => hin (Or.inl q), by rw [arrV_size]; exact Nat.not_le.mp fun q => hin (Or.inr q)⟩ g1 (fun q h => by rw [g3] at h; cases h) (by rw [g2]; exact hkC) (by rw [g2]; exact va_assign ⟨hcls.1, kC, hkC, hkd⟩) rfl rfl hd fun H' e1 z oq => ?_
  have hat : va_at g.1 tqcl (tqad g a, tqent g (tqp m a i v) a) H' := by
    rw [tqent_q (show 4 ≤ (tqS (tqp m a i v) a).1 by show 4 ≤ (tqS m a).1; omega) (by show (tqS m a).1 ≤ 9; omega)]
    show H'[tqad g a]? = some (arrV (g.2.1 (tqS m a).1) (tqS m a).2 (fun j => va_rf (tqrr g ((tqp m a i v).2.1 a (j : Int)))))
    rw [e1, arrV_store, ei, hs]
    congr 2
    funext j
    rw [tqp_at]
    unfold updV
    by_cases q : j = i.toNat
    · rw [if_pos q, if_pos ((tqji h2 j).mpr q), tqrr_s (by omega)]
      rfl
    · rw [if_neg q, if_neg (fun z => q ((tqji h2 j).mp z))]
  exact h H' _ ls (hH.put ha rfl z oq (fun b hb => tqp_ent hb) hat (tqp_ok hH.2.2)) (hS.put z oq (by show g.2.2.2.1 ≤ tqad g a; rw [tqad_ge ha]; omega)) hl (tqtl (tqtl (tqtl hst))) h0 h1
/-! fields -/
theorem tqfk_fv {g : tqG} {m : tqM} {a k j : Nat} (h : tqk k j ≤ 3) : tqrz g (tqfk m a (j : Int) (tqk k j : Int)) = tqfv g m a k j := by
  unfold tqfv
  match hk : tqk k j, h with
  | 0, _ => rfl
  | 1, _ => rfl
  | 2, _ => rfl
  | 3, _ => rfl
theorem tqkd_o {k : Nat} (j : Nat) : tqkd (10 + k) (j : Int) = tqk k j := by
  unfold tqkd
  rw [if_neg (by omega), if_neg (by omega), if_neg (by omega), if_neg (by omega), show 10 + k - 10 = k by omega, Int.toNat_natCast]
theorem tqfk_o {g : tqG} {m : tqM} {a k j : Nat} (hok : tqok g m) (hs : (tqS m a).1 = 10 + k) (h : tqk k j ≤ 3) : tqo (tqfk m a (j : Int) (tqk k j : Int)) := by
  have q := hok.1 a (j : Int)
  rw [hs, tqkd_o] at q
  match hk : tqk k j, h with
  | 0, _ => exact q.1 hk
  | 1, _ => exact q.2.1 hk
  | 2, _ =>
    have := q.2.2 hk
    show in32 (m.1 a (j : Int))
    unfold in32
    omega
  | 3, _ => trivial
theorem tqhost {own ref n d : String} {idx : Nat} {g : tqG} {U : State} {A : Array Value} (hK : tqKn g U) (h : Cond.fieldLinkNest own idx ref n d "TrailerYards" ∈ lw_tbl) : (Cond.fieldLinkNest own idx ref n d "TrailerYards").before A U = true := va_Nw.use rfl (hK.2 _ h rfl)
theorem s_getfield {a k j idx : Nat} {own : String} (hK : tqKn g s) (hts : ∀ w ∈ tqWd, w.before args s = true) (hown : s.vm.findClass own = some mid.cls) (hk : k < 13) (hj : j < tqN k) (hs : (tqS m a).1 = 10 + k)
    (hlink : (Cond.fieldLink own idx (tqRn k) (tqTn k j).2.1 (tqTn k j).2.2.1).before args s = true ∨ (Cond.fieldLinkNest own idx (tqRn k) (tqTn k j).2.1 (tqTn k j).2.2.1 "TrailerYards").before args s = true) (hx : p.tables.exec = Jvm.exec) (hb : c.code = cc) (hd : decode cc pc = .ok (.getfield idx, 3)) (h : tqW1 p l e R s mid args below meth c Q g nL c0 s0 (pc + 3) lsA (tqfk m a (j : Int) (tqk k j : Int) :: st) m) : tqW1 p l e R s mid args below meth c Q g nL c0 s0 pc lsA (vR a :: st) m := by
  intro H locs ls hH hS hl hst h0 h1
  obtain ⟨ha, hac, hlen⟩ := hH.2.2.adr (a := a) (by omega) (by omega)
  have hcell := hH.2.1 a ha hac
  rw [tqent_o hs] at hcell
  obtain ⟨r, hr, cell, q1, q2, q3, q4⟩ := hcell
  have er : r = (tqRn k, tqTn k, tqN k) := Option.some.inj (hr.symm.trans (tqcl_at k hk))
  subst er
  obtain ⟨hSl, hfc, kC, hkC, hkind⟩ := hK.1.1 k _ (tqcl_at k hk)
  obtain ⟨cf, kf, fi, f, hi, hsl⟩ := hSl j hj
  have hst2 := (u_facts hfc hkC (u_lays hts (tqin_W k hk) hj) hi).1
  have hle := tqk_le k hk j hj
  have hh := h H locs ls hH hS hl (tqall1 (tqfk_o hH.2.2 hs hle) (tqtl hst)) h0 h1
  have hh : W p l e R s mid args below meth c H locs (m.2.2.2.1 - c0) (m.2.2.2.2 - s0) Q (F0 mid (pc + 3) ls (tqrz g (tqfk m a (j : Int) (tqk k j : Int)) :: st.map (tqrz g))) := hh
  rw [tqfk_fv hle] at hh
  have hslot : cell.slots[f.slot]? = some (tqfv g m a k j) := by
    rw [hsl, q4 j hj]
    simp [vp_V, hj]
  rw [tqTn_own k hk j hj] at hi
  show W p l e R s mid args below meth c H locs (m.2.2.2.1 - c0) (m.2.2.2.2 - s0) Q (F0 mid pc ls (tqrz g (vR a) :: st.map (tqrz g)))
  rw [tqrz_R (by omega)]
  rcases hlink with hlink | hlink
  · exact W.getf hx hb hown hlink hi hst2 q1 (by rw [q3]; exact fun h => by cases h) hslot rfl rfl hd hh
  · exact va_Wgetf hx hb hown hlink hi hst2 q1 (by rw [q3]; exact fun h => by cases h) hslot rfl rfl hd hh
theorem s_putfield {a k j idx : Nat} {own : String} {v : tqV} {m' : tqM} (hK : tqKn g s) (hts : ∀ w ∈ tqWd, w.before args s = true) (hown : s.vm.findClass own = some mid.cls) (hk : k < 13) (hj : j < tqN k) (hs : (tqS m a).1 = 10 + k)
    (hlink : ((tqTn k j).2.2.2 = false ∧ ((Cond.fieldLink own idx (tqRn k) (tqTn k j).2.1 (tqTn k j).2.2.1).before args s = true ∨ (Cond.fieldLinkNest own idx (tqRn k) (tqTn k j).2.1 (tqTn k j).2.2.1 "TrailerYards").before args s = true)) ∨ ((tqTn k j).2.2.2 = true ∧ (Cond.fieldLink own idx (tqRn k) (tqTn k j).2.1 (tqTn k j).2.2.1).before args s = true ∧ meth.name = "<init>" ∧ own = tqRn k))
    (hn : narrow (tqYn k j) (tqrz g v) = tqrz g v) (hfit : fits (tqYn k j) (tqrz g v) = true) (hm : m'.2.2 = m.2.2) (he : ∀ b, b ≠ a → tqent g m' b = tqent g m b) (hf : ∀ i, i < tqN k → tqfv g m' a k i = if i = j then tqrz g v else tqfv g m a k i) (hok : tqok g m → tqo v → tqok g m')
    (hx : p.tables.exec = Jvm.exec) (hb : c.code = cc) (hd : decode cc pc = .ok (.putfield idx, 3)) (h : tqW1 p l e R s mid args below meth c Q g nL c0 s0 (pc + 3) lsA st m') : tqW1 p l e R s mid args below meth c Q g nL c0 s0 pc lsA (v :: vR a :: st) m := by
  intro H locs ls hH hS hl hst h0 h1
  obtain ⟨ha, hac, hlen⟩ := hH.2.2.adr (a := a) (by omega) (by omega)
  have hcell := hH.2.1 a ha hac
  rw [tqent_o hs] at hcell
  obtain ⟨r, hr, cell, q1, q2, q3, q4⟩ := hcell
  have er : r = (tqRn k, tqTn k, tqN k) := Option.some.inj (hr.symm.trans (tqcl_at k hk))
  subst er
  have hap := va_apart (own := own) hts (tqin_W k hk) (tqYn k) (tqYn_ok k hk) (tqTn_ne k hk) hK.1 (tqcl_at k hk)
  obtain ⟨hSl, hfc, kC, hkC, hkind⟩ := hK.1.1 k _ (tqcl_at k hk)
  obtain ⟨cf, kf, fi, f, hi, hsl⟩ := hSl j hj
  have hst2 := (u_facts hfc hkC (u_lays hts (tqin_W k hk) hj) hi).1
  have hlay := hts _ (tqin_W k hk _ (u_in_lay hj))
  have hlt : f.slot < cell.slots.size := by rw [hsl]; exact k2_hasslot (q4 j hj)
  have ecnt : m'.2.2.2.1 = m.2.2.2.1 := by rw [hm]
  have eslt : m'.2.2.2.2 = m.2.2.2.2 := by rw [hm]
  have hS' : tqS m' a = tqS m a := by show m'.2.2.1 a = m.2.2.1 a; rw [hm]
  have key : ∀ H' : Heap, H'[tqad g a]? = some (cell.setSlot f.slot (tqrz g v)) → H'.size = H.size → (∀ q, q ≠ tqad g a → H'[q]? = H[q]?) → W p l e R s mid args below meth c H' (locs ++ [⟨tqad g a, f.slot⟩]) (m.2.2.2.1 - c0) (m.2.2.2.2 - s0) Q (F0 mid (pc + 3) ls (st.map (tqrz g))) := by
    intro H' e1 z oq
    have hat : va_at g.1 tqcl (tqad g a, tqent g m' a) H' := by
      rw [tqent_o (show (tqS m' a).1 = 10 + k by rw [hS']; exact hs)]
      refine ⟨_, tqcl_at k hk, ?_⟩
      rw [hsl] at e1
      refine t_OB.to (V := updV (vp_V ((List.range (tqN k)).map (tqfv g m a k))) j (tqrz g v)) ⟨_, e1, q2, q3, t_set q4 hap hj (tqrz g v)⟩ (fun i hi2 => ?_)
      unfold updV
      have e2 : vp_V ((List.range (tqN k)).map (tqfv g m' a k)) i = tqfv g m' a k i := by simp [vp_V, hi2]
      have e3 : vp_V ((List.range (tqN k)).map (tqfv g m a k)) i = tqfv g m a k i := by simp [vp_V, hi2]
      rw [e2, hf i hi2, e3]
    have hh := h H' (locs ++ [⟨tqad g a, f.slot⟩]) ls (hH.put ha ecnt z oq he hat (hok hH.2.2 (tqhdo hst))) (hS.put z oq (by show g.2.2.2.1 ≤ tqad g a; rw [tqad_ge ha]; omega)) hl (tqtl (tqtl hst)) (by rw [ecnt]; exact h0) (by rw [eslt]; exact h1)
    rw [ecnt, eslt] at hh
    exact hh
  show W p l e R s mid args below meth c H locs (m.2.2.2.1 - c0) (m.2.2.2.2 - s0) Q (F0 mid pc ls (tqrz g v :: tqrz g (vR a) :: st.map (tqrz g)))
  rw [tqrz_R (a := a) (by omega)]
  rcases hlink with ⟨hfin, hlink⟩ | ⟨hfin, hlink, hini, hon⟩
  · unfold u_lay at hlay
    rw [if_neg (by rw [hfin]; decide)] at hlay
    have h6 := u_store hfc hkC hkind hlay hi (tqYn_ok k hk j hj) hn hfit
    rw [tqTn_own k hk j hj] at hi
    rcases hlink with hlink | hlink
    · exact W.putK hx hb (f := f) ⟨hown, hlink, ⟨_, _, _, hi⟩, hst2⟩ (by rw [q2]; exact h6) q1 q3 hlt rfl rfl hd key
    · exact va_WputK hx hb (f := f) hown hlink hi hst2 (by rw [q2]; exact h6) q1 q3 hlt rfl rfl hd key
  · unfold u_lay at hlay
    rw [if_pos hfin] at hlay
    have hcf : mid.cls = cf := by
      obtain ⟨_, _, c', _, _, _, -, -, hf', -, -, -, hown2, -⟩ := Cond.laysFinal_spec hlay
      have e1 : c' = cf := by have := hi.symm.trans hf'; simp at this; exact this.1.symm
      rw [tqTn_own k hk j hj, ← hon] at hown2
      rw [← e1]; exact Option.some.inj (hown.symm.trans hown2)
    have h6 := u_fits hfc hkC hkind (Or.inr hlay) hi (tqYn_ok k hk j hj) hn hfit
    rw [tqTn_own k hk j hj] at hi
    exact W.putFinK hx hb hown hlink hi hst2 hcf hini (by rw [q2]; exact h6) q1 q3 hlt rfl rfl hd key
end TQSTO
