/-! ===== rows of the pure machine that read or write memory ===== -/
def tqnest : Cond → Bool
  | .fieldLinkNest _ _ _ _ _ _ => true
  | .methodLinkNest _ _ _ _ => true
  | .arrayOver _ => true
  | _ => false
abbrev tqty (g : tqG) : List (ClassId × Jvm.ClassFile.FieldType) := [(g.2.1 1, .int), (g.2.1 2, .long), (g.2.1 3, .boolean), (g.2.1 4, .object tqR2), (g.2.1 5, .object tqR8), (g.2.1 6, .object tqR9), (g.2.1 7, .array .int)]
/-- what is known of the tables -/
def tqKn (g : tqG) (U : State) : Prop := va_K g.1 tqcl (tqty g) U ∧ ∀ w ∈ lw_tbl, tqnest w = true → va_Nw w U
def tqWd : List Cond := lw_tbl.filter goodWord
theorem tqcl_at : ∀ k, k < 13 → tqcl[k]? = some (tqRn k, tqTn k, tqN k) := fun k hk => by
  match k, hk with
  | 0, _ => rfl
  | 1, _ => rfl
  | 2, _ => rfl
  | 3, _ => rfl
  | 4, _ => rfl
  | 5, _ => rfl
  | 6, _ => rfl
  | 7, _ => rfl
  | 8, _ => rfl
  | 9, _ => rfl
  | 10, _ => rfl
  | 11, _ => rfl
  | 12, _ => rfl
theorem tqTn_own : ∀ k, k < 13 → ∀ j, j < tqN k → (tqTn k j).1 = tqRn k := by decide +kernel
theorem tqk_le : ∀ k, k < 13 → ∀ j, j < tqN k → tqk k j ≤ 3 := by decide +kernel
theorem tqYn_ok : ∀ k, k < 13 → ∀ j, j < tqN k → parseFieldDescriptor (tqTn k j).2.2.1 = some (tqYn k j) := by decide +kernel
theorem tqTn_ne : ∀ k, k < 13 → ∀ a, a < tqN k → ∀ b, b < tqN k → a ≠ b → (tqTn k a).2.1 ≠ (tqTn k b).2.1 := fun k hk => by
  match k, hk with
  | 0, _ => exact tqn0
  | 1, _ => exact tqn1
  | 2, _ => exact tqn2
  | 3, _ => exact tqn3
  | 4, _ => exact tqn4
  | 5, _ => exact tqn5
  | 6, _ => exact tqn6
  | 7, _ => exact tqn7
  | 8, _ => exact tqn8
  | 9, _ => exact tqn9
  | 10, _ => exact tqn10
  | 11, _ => exact tqn11
  | 12, _ => exact tqn12
def tqky (ty : Jvm.ClassFile.FieldType) : Nat := match ty with
  | .int => 0
  | .long => 1
  | .boolean => 2
  | .object _ => 3
  | .array _ => 3
  | _ => 4
theorem tqYn_k : ∀ k, k < 13 → ∀ j, j < tqN k → tqky (tqYn k j) = tqk k j := by decide +kernel
theorem u_good (C : String) (T : u_T) (N : Nat) : ∀ w ∈ u_ws C T N, goodWord w = true := fun w hw => by
  obtain ⟨k, -, rfl⟩ := List.mem_map.mp hw
  unfold u_lay
  split <;> rfl
theorem tqin_W : ∀ k, k < 13 → ∀ w ∈ u_ws (tqRn k) (tqTn k) (tqN k), w ∈ tqWd := fun k hk w hw => by
  refine List.mem_filter.mpr ⟨?_, u_good _ _ _ w hw⟩
  match k, hk with
  | 0, _ => exact tqi0 w hw
  | 1, _ => exact tqi1 w hw
  | 2, _ => exact tqi2 w hw
  | 3, _ => exact tqi3 w hw
  | 4, _ => exact tqi4 w hw
  | 5, _ => exact tqi5 w hw
  | 6, _ => exact tqi6 w hw
  | 7, _ => exact tqi7 w hw
  | 8, _ => exact tqi8 w hw
  | 9, _ => exact tqi9 w hw
  | 10, _ => exact tqi10 w hw
  | 11, _ => exact tqi11 w hw
  | 12, _ => exact tqi12 w hw
theorem tqix {i : Int} {n : Nat} (h : 0 ≤ i) (h2 : i < (n : Int)) (hn : n < 536870912) : (Int32.ofInt i).toNatClampNeg = i.toNat ∧ ¬ (Int32.ofInt i < 0 ∨ n ≤ (Int32.ofInt i).toNatClampNeg) := by
  have hi : in32 i := by unfold in32; omega
  have e : (Int32.ofInt i).toNatClampNeg = i.toNat := by
    show (Int32.ofInt i).toInt.toNat = _
    rw [o32_to hi]
  refine ⟨e, ?_⟩
  rintro (q | q)
  · rw [show (0 : Int32) = Int32.ofInt 0 from rfl, o32_lt hi in32_0] at q
    omega
  · rw [e] at q
    omega
theorem tqnn {i : Int} (h : 0 ≤ i) : ((i.toNat : Nat) : Int) = i := Int.toNat_of_nonneg h
/-- an address with a shape other than the script's -/
theorem tqok.adr {g : tqG} {m : tqM} (h : tqok g m) {a : Nat} (h0 : (tqS m a).1 ≠ 0) (h8 : (tqS m a).1 ≠ 8) : 2 ≤ a ∧ a ≤ m.2.2.2.1 ∧ (tqS m a).2 < 536870912 := by
  rcases h.2.1 a h0 with rfl | ⟨q1, q2, -, q4⟩
  · exact absurd (by rw [h.2.2.2.1]) h8
  · exact ⟨q1, q2, q4⟩
theorem tqent_1 {g : tqG} {m : tqM} {a : Nat} (h : (tqS m a).1 = 1) : tqent g m a = .inl (g.2.1 1, (tqS m a).2, .inl (fun j => Int32.ofInt (m.1 a (j : Int)))) := by unfold tqent; rw [if_pos h]
theorem tqent_2 {g : tqG} {m : tqM} {a : Nat} (h : (tqS m a).1 = 2) : tqent g m a = .inl (g.2.1 2, (tqS m a).2, .inr (.inl (fun j => Int64.ofInt (m.1 a (j : Int))))) := by unfold tqent; rw [if_neg (by omega), if_pos h]
theorem tqent_3 {g : tqG} {m : tqM} {a : Nat} (h : (tqS m a).1 = 3) : tqent g m a = .inl (g.2.1 3, (tqS m a).2, .inl (fun j => Int32.ofInt (m.1 a (j : Int)))) := by unfold tqent; rw [if_neg (by omega), if_neg (by omega), if_pos h]
theorem tqent_q {g : tqG} {m : tqM} {a : Nat} (h : 4 ≤ (tqS m a).1) (h2 : (tqS m a).1 ≤ 9) : tqent g m a = .inl (g.2.1 (tqS m a).1, (tqS m a).2, .inr (.inr (.inr (.inr (fun j => tqrr g (m.2.1 a (j : Int))))))) := by unfold tqent; rw [if_neg (by omega), if_neg (by omega), if_neg (by omega), if_pos (by omega)]
theorem tqent_o {g : tqG} {m : tqM} {a k : Nat} (h : (tqS m a).1 = 10 + k) : tqent g m a = .inr (k, (List.range (tqN k)).map (tqfv g m a k)) := by
  unfold tqent
  rw [if_neg (by omega), if_neg (by omega), if_neg (by omega), if_neg (by omega), show (tqS m a).1 - 10 = k by omega]
section TQMEM
variable {p : Program} {l : Launch} {e : Env} {R : Room} {s : State} {mid : MethodId} {args : Array Value} {below : List Frame} {meth : Method} {c : Code} {Q : State → Prop} {g : tqG} {cc : ByteArray} {nL c0 s0 pc : Nat} {lsA st : List tqV} {m : tqM}
theorem s_iaload {a : Nat} {i : Int} (hK : tqKn g s) (hs : (tqS m a).1 = 1) (h2 : 0 ≤ i) (h3 : i < ((tqS m a).2 : Int)) (hx : p.tables.exec = Jvm.exec) (hb : c.code = cc) (hd : decode cc pc = .ok (.iaload, 1)) (h : tqW1 p l e R s mid args below meth c Q g nL c0 s0 (pc + 1) lsA (vI (m.1 a i) :: st) m) : tqW1 p l e R s mid args below meth c Q g nL c0 s0 pc lsA (vI i :: vR a :: st) m := by
  intro H locs ls hH hS hl hst h0 h1
  obtain ⟨ha, hac, hlen⟩ := hH.2.2.adr (a := a) (by omega) (by omega)
  obtain ⟨ei, hin⟩ := tqix h2 h3 hlen
  have hcell := hH.2.1 a ha hac
  rw [tqent_1 hs] at hcell
  have hcell : H[tqad g a]? = some (arrV (g.2.1 1) (tqS m a).2 (fun j => .int (Int32.ofInt (m.1 a (j : Int))))) := hcell
  have hh := h H locs ls hH hS hl (tqall1 ((hH.2.2.1 a i).1 (by unfold tqkd; rw [if_pos (Or.inl hs)])) (tqtl (tqtl hst))) h0 h1
  show W p l e R s mid args below meth c H locs (m.2.2.2.1 - c0) (m.2.2.2.2 - s0) Q (F0 mid pc ls (.int (Int32.ofInt i) :: tqrz g (vR a) :: st.map (tqrz g)))
  rw [tqrz_R (by omega)]
  exact W.iald (v := .int (Int32.ofInt (m.1 a i))) hx hb hcell ((hK.1.2 0 _ rfl).1 _ _) (fun q => by cases q) (by rw [arrV_size]; exact hin) (by rw [ei, arrV_read _ _ (by omega), tqnn h2]) rfl rfl hd hh
theorem s_baload {a : Nat} {i : Int} (hK : tqKn g s) (hs : (tqS m a).1 = 3) (h2 : 0 ≤ i) (h3 : i < ((tqS m a).2 : Int)) (hx : p.tables.exec = Jvm.exec) (hb : c.code = cc) (hd : decode cc pc = .ok (.baload, 1)) (h : tqW1 p l e R s mid args below meth c Q g nL c0 s0 (pc + 1) lsA (vI (m.1 a i) :: st) m) : tqW1 p l e R s mid args below meth c Q g nL c0 s0 pc lsA (vI i :: vR a :: st) m := by
  intro H locs ls hH hS hl hst h0 h1
  obtain ⟨ha, hac, hlen⟩ := hH.2.2.adr (a := a) (by omega) (by omega)
  obtain ⟨ei, hin⟩ := tqix h2 h3 hlen
  have hcell := hH.2.1 a ha hac
  rw [tqent_3 hs] at hcell
  have hcell : H[tqad g a]? = some (arrV (g.2.1 3) (tqS m a).2 (fun j => .int (Int32.ofInt (m.1 a (j : Int))))) := hcell
  have hz : tqo (vI (m.1 a i)) := by
    have := (hH.2.2.1 a i).2.2 (by unfold tqkd; rw [if_neg (by omega), if_neg (by omega), if_pos hs])
    show in32 _
    unfold in32
    omega
  have hh := h H locs ls hH hS hl (tqall1 hz (tqtl (tqtl hst))) h0 h1
  show W p l e R s mid args below meth c H locs (m.2.2.2.1 - c0) (m.2.2.2.2 - s0) Q (F0 mid pc ls (.int (Int32.ofInt i) :: tqrz g (vR a) :: st.map (tqrz g)))
  rw [tqrz_R (by omega)]
  exact W.zald (v := .int (Int32.ofInt (m.1 a i))) hx hb hcell ((hK.1.2 2 _ rfl).1 _ _) (fun q => by cases q) (by rw [arrV_size]; exact hin) (by rw [ei, arrV_read _ _ (by omega), tqnn h2]) rfl rfl hd hh
theorem s_laload {a : Nat} {i : Int} (hK : tqKn g s) (hs : (tqS m a).1 = 2) (h2 : 0 ≤ i) (h3 : i < ((tqS m a).2 : Int)) (hx : p.tables.exec = Jvm.exec) (hb : c.code = cc) (hd : decode cc pc = .ok (.laload, 1)) (h : tqW1 p l e R s mid args below meth c Q g nL c0 s0 (pc + 1) lsA (vL (m.1 a i) :: st) m) : tqW1 p l e R s mid args below meth c Q g nL c0 s0 pc lsA (vI i :: vR a :: st) m := by
  intro H locs ls hH hS hl hst h0 h1
  obtain ⟨ha, hac, hlen⟩ := hH.2.2.adr (a := a) (by omega) (by omega)
  obtain ⟨ei, hin⟩ := tqix h2 h3 hlen
  have hcell := hH.2.1 a ha hac
  rw [tqent_2 hs] at hcell
  have hcell : H[tqad g a]? = some (arrV (g.2.1 2) (tqS m a).2 (fun j => .long (Int64.ofInt (m.1 a (j : Int))))) := hcell
  have hh := h H locs ls hH hS hl (tqall1 ((hH.2.2.1 a i).2.1 (by unfold tqkd; rw [if_neg (by omega), if_pos hs])) (tqtl (tqtl hst))) h0 h1
  show W p l e R s mid args below meth c H locs (m.2.2.2.1 - c0) (m.2.2.2.2 - s0) Q (F0 mid pc ls (.int (Int32.ofInt i) :: tqrz g (vR a) :: st.map (tqrz g)))
  rw [tqrz_R (by omega)]
  exact W.lald (v := .long (Int64.ofInt (m.1 a i))) hx hb hcell ((hK.1.2 1 _ rfl).1 _ _) (fun q => by cases q) (by rw [arrV_size]; exact hin) (by rw [ei, arrV_read _ _ (by omega), tqnn h2]) rfl rfl hd hh
theorem tqtyq {g : tqG} {U : State} (hK : tqKn g U) {k : Nat} (h : 4 ≤ k) (h2 : k ≤ 7) : ∃ ty : Jvm.ClassFile.FieldType, ty.isReference = true ∧ ArrOfT U (g.2.1 k) ty := by
  match k, h, h2 with
  | 4, _, _ => exact ⟨_, rfl, (hK.1.2 3 _ rfl).1⟩
  | 5, _, _ => exact ⟨_, rfl, (hK.1.2 4 _ rfl).1⟩
  | 6, _, _ => exact ⟨_, rfl, (hK.1.2 5 _ rfl).1⟩
  | 7, _, _ => exact ⟨_, rfl, (hK.1.2 6 _ rfl).1⟩
theorem s_aaload {a : Nat} {i : Int} (hK : tqKn g s) (hs : 4 ≤ (tqS m a).1) (hs2 : (tqS m a).1 ≤ 7) (h2 : 0 ≤ i) (h3 : i < ((tqS m a).2 : Int)) (hx : p.tables.exec = Jvm.exec) (hb : c.code = cc) (hd : decode cc pc = .ok (.aaload, 1)) (h : tqW1 p l e R s mid args below meth c Q g nL c0 s0 (pc + 1) lsA (vR (m.2.1 a i) :: st) m) : tqW1 p l e R s mid args below meth c Q g nL c0 s0 pc lsA (vI i :: vR a :: st) m := by
  intro H locs ls hH hS hl hst h0 h1
  obtain ⟨ha, hac, hlen⟩ := hH.2.2.adr (a := a) (by omega) (by omega)
  obtain ⟨ei, hin⟩ := tqix h2 h3 hlen
  have hcell := hH.2.1 a ha hac
  rw [tqent_q hs (by omega)] at hcell
  have hcell : H[tqad g a]? = some (arrV (g.2.1 (tqS m a).1) (tqS m a).2 (fun j => va_rf (tqrr g (m.2.1 a (j : Int))))) := hcell
  have hh := h H locs ls hH hS hl (tqall1 trivial (tqtl (tqtl hst))) h0 h1
  obtain ⟨ty, hty, hat⟩ := tqtyq hK hs hs2
  show W p l e R s mid args below meth c H locs (m.2.2.2.1 - c0) (m.2.2.2.2 - s0) Q (F0 mid pc ls (.int (Int32.ofInt i) :: tqrz g (vR a) :: st.map (tqrz g)))
  rw [tqrz_R (by omega)]
  exact W.aald (v := va_rf (tqrr g (m.2.1 a i))) hx hb hcell (hat _ _) hty (fun q => by cases q) (by rw [arrV_size]; exact hin) (by rw [ei, arrV_read _ _ (by omega), tqnn h2]) rfl rfl hd hh
theorem tqarl {g : tqG} {U : State} (hK : tqKn g U) {m : tqM} {a : Nat} (h : 1 ≤ (tqS m a).1) (h2 : (tqS m a).1 ≤ 7) : ∃ (ty : Jvm.ClassFile.FieldType) (cA : ClassId) (f : Nat → Value), ArrOfT U cA ty ∧ ∀ H, va_at g.1 tqcl (tqad g a, tqent g m a) H → H[tqad g a]? = some (arrV cA (tqS m a).2 f) := by
  by_cases e1 : (tqS m a).1 = 1
  · exact ⟨.int, g.2.1 1, fun j => .int (Int32.ofInt (m.1 a (j : Int))), (hK.1.2 0 _ rfl).1, fun H hq => by rw [tqent_1 e1] at hq; exact hq⟩
  by_cases e2 : (tqS m a).1 = 2
  · exact ⟨.long, g.2.1 2, fun j => .long (Int64.ofInt (m.1 a (j : Int))), (hK.1.2 1 _ rfl).1, fun H hq => by rw [tqent_2 e2] at hq; exact hq⟩
  by_cases e3 : (tqS m a).1 = 3
  · exact ⟨.boolean, g.2.1 3, fun j => .int (Int32.ofInt (m.1 a (j : Int))), (hK.1.2 2 _ rfl).1, fun H hq => by rw [tqent_3 e3] at hq; exact hq⟩
  obtain ⟨ty, hty, hat⟩ := tqtyq hK (show 4 ≤ (tqS m a).1 by omega) h2
  exact ⟨ty, _, fun j => va_rf (tqrr g (m.2.1 a (j : Int))), hat, fun H hq => by rw [tqent_q (by omega) (by omega)] at hq; exact hq⟩
theorem s_arraylength {a : Nat} (hK : tqKn g s) (hs : 1 ≤ (tqS m a).1) (hs2 : (tqS m a).1 ≤ 7) (hx : p.tables.exec = Jvm.exec) (hb : c.code = cc) (hd : decode cc pc = .ok (.arraylength, 1)) (h : tqW1 p l e R s mid args below meth c Q g nL c0 s0 (pc + 1) lsA (vI ((tqS m a).2 : Int) :: st) m) : tqW1 p l e R s mid args below meth c Q g nL c0 s0 pc lsA (vR a :: st) m := by
  intro H locs ls hH hS hl hst h0 h1
  obtain ⟨ha, hac, hlen⟩ := hH.2.2.adr (a := a) (by omega) (by omega)
  obtain ⟨ty, cA, f, hat, hc⟩ := tqarl hK hs hs2
  have hh := h H locs ls hH hS hl (tqall1 (show in32 _ by unfold in32; omega) (tqtl hst)) h0 h1
  show W p l e R s mid args below meth c H locs (m.2.2.2.1 - c0) (m.2.2.2.2 - s0) Q (F0 mid pc ls (tqrz g (vR a) :: st.map (tqrz g)))
  rw [tqrz_R (by omega)]
  exact W.alen (n := Int32.ofInt ((tqS m a).2 : Int)) hx hb (hc H (hH.2.1 a ha hac)) (hat _ _) (by rw [arrV_size, Int32.ofInt_eq_ofNat] <;> rfl) rfl rfl hd hh
/-! the script -/
theorem s_sald {i : Int} (hX : va_X g.2.2.1 g.2.2.2.2.1 g.2.2.2.2.2 s s.heap) (hbl : g.2.2.1 < s.heap.size) (hbA : g.2.2.1 < g.2.2.2.1) (hs : (tqS m 1).1 = 8) (h2 : 0 ≤ i) (h3 : i < ((tqS m 1).2 : Int)) (hx : p.tables.exec = Jvm.exec) (hb : c.code = cc) (hd : decode cc pc = .ok (.iaload, 1)) (h : tqW1 p l e R s mid args below meth c Q g nL c0 s0 (pc + 1) lsA (vI (m.1 1 i) :: st) m) : tqW1 p l e R s mid args below meth c Q g nL c0 s0 pc lsA (vI i :: vR 1 :: st) m := by
  intro H locs ls hH hS hl hst h0 h1
  have hok := hH.2.2
  have e1 : (tqS m 1).2 = g.2.2.2.2.1 := by rw [hok.2.2.2.1]
  rw [e1] at h3
  obtain ⟨ei, hin⟩ := tqix h2 h3 hok.2.2.2.2.1
  have hh := h H locs ls hH hS hl (tqall1 ((hok.1 1 i).1 (by unfold tqkd; rw [if_pos (Or.inr hs)])) (tqtl (tqtl hst))) h0 h1
  have e2 := hok.2.2.2.2.2 i.toNat (by omega)
  rw [tqnn h2] at e2
  have hh : W p l e R s mid args below meth c H locs (m.2.2.2.1 - c0) (m.2.2.2.2 - s0) Q (F0 mid (pc + 1) ls (.int (Int32.ofInt (m.1 1 i)) :: st.map (tqrz g))) := hh
  rw [e2] at hh
  refine va_sld (b := g.2.2.1) (L := g.2.2.2.2.1) (xs := g.2.2.2.2.2) (A := tqA g) hx hb hX hbl (Nat.not_le.mpr hbA) hS (i := Int32.ofInt i) hin hd ?_
  rw [ei]
  exact hh
theorem s_slen (hX : va_X g.2.2.1 g.2.2.2.2.1 g.2.2.2.2.2 s s.heap) (hbl : g.2.2.1 < s.heap.size) (hbA : g.2.2.1 < g.2.2.2.1) (hx : p.tables.exec = Jvm.exec) (hb : c.code = cc) (hd : decode cc pc = .ok (.arraylength, 1)) (h : tqW1 p l e R s mid args below meth c Q g nL c0 s0 (pc + 1) lsA (vI ((tqS m 1).2 : Int) :: st) m) : tqW1 p l e R s mid args below meth c Q g nL c0 s0 pc lsA (vR 1 :: st) m := by
  intro H locs ls hH hS hl hst h0 h1
  have hok := hH.2.2
  have e1 : (tqS m 1).2 = g.2.2.2.2.1 := by rw [hok.2.2.2.1]
  have hlt := hok.2.2.2.2.1
  have hh := h H locs ls hH hS hl (tqall1 (show in32 _ by unfold in32; omega) (tqtl hst)) h0 h1
  have hh : W p l e R s mid args below meth c H locs (m.2.2.2.1 - c0) (m.2.2.2.2 - s0) Q (F0 mid (pc + 1) ls (.int (Int32.ofInt ((tqS m 1).2 : Int)) :: st.map (tqrz g))) := hh
  rw [e1, Int32.ofInt_eq_ofNat] at hh
  exact va_slen (b := g.2.2.1) (L := g.2.2.2.2.1) (xs := g.2.2.2.2.2) (A := tqA g) hx hb hX hbl (Nat.not_le.mpr hbA) hS hd hh
end TQMEM
