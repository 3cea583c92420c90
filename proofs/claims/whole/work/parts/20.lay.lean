/-! ===== the layout: shapes, pointers and numbers as the two constructors lay them, in the order of the writes ===== -/
def tzSl : List (Nat × Nat) := [(0, 0), (0, 0), (21, 16), (4, 6), (4, 4), (5, 6), (6, 12), (20, 6), (1, 64), (1, 64), (1, 64), (1, 64), (1, 8), (11, 5), (1, 60), (1, 60), (1, 60), (1, 60), (17, 5), (1, 20), (1, 20), (1, 360), (1, 18), (16, 9), (1, 8), (1, 8), (1, 8), (1, 36), (1, 6), (1, 6), (15, 7), (7, 6), (1, 8), (1, 8), (1, 8), (1, 8), (1, 8), (1, 8), (1, 8), (1, 6), (1, 6), (13, 9), (1, 8), (1, 8), (3, 8), (1, 64), (1, 64), (1, 8), (1, 8), (1, 8), (14, 8), (1, 410), (1, 40), (10, 6), (1, 6), (12, 2), (1, 40), (12, 2), (1, 40), (12, 2), (1, 40), (12, 2), (1, 40), (12, 2), (1, 40), (12, 2), (1, 40), (12, 2), (1, 40), (12, 2), (1, 40), (12, 2), (1, 40), (12, 2), (1, 40), (18, 5), (18, 5), (18, 5), (18, 5), (18, 5), (18, 5), (22, 73), (1, 6), (1, 6), (1, 240), (1, 40), (1, 4), (1, 160), (1, 64), (1, 64), (1, 64), (1, 64), (1, 8), (1, 12), (1, 12), (1, 12), (3, 12), (1, 12), (1, 12), (1, 12), (1, 72), (1, 72), (3, 12), (1, 12), (1, 12), (1, 6), (1, 6), (1, 6), (1, 6), (1, 6), (1, 60), (1, 60), (1, 60), (1, 60), (1, 60), (1, 20), (1, 20), (1, 360), (1, 18), (1, 6), (1, 6), (1, 6), (1, 6), (1, 6), (1, 6), (1, 64), (1, 8), (1, 8), (1, 64), (1, 16), (1, 16), (1, 40), (2, 410)]
def tzPw : List (Nat × Int × Nat) := [(2, 0, 3), (2, 1, 4), (2, 2, 5), (2, 3, 6), (7, 0, 8), (7, 1, 9), (7, 2, 10), (7, 3, 11), (7, 4, 12), (2, 4, 7), (13, 0, 14), (13, 1, 15), (13, 2, 16), (13, 3, 17), (2, 5, 13), (18, 0, 19), (18, 1, 20), (18, 2, 21), (18, 3, 22), (2, 6, 18), (23, 0, 24), (23, 1, 25), (23, 2, 26), (23, 3, 27), (23, 4, 28), (23, 5, 29), (2, 7, 23), (31, 0, 32), (31, 1, 33), (31, 2, 34), (31, 3, 35), (31, 4, 36), (31, 5, 37), (30, 0, 31), (30, 1, 38), (30, 2, 39), (30, 3, 40), (2, 8, 30), (41, 0, 42), (41, 1, 43), (41, 2, 44), (41, 3, 45), (41, 4, 46), (41, 5, 47), (41, 6, 48), (41, 7, 49), (2, 9, 41), (50, 0, 51), (50, 1, 52), (2, 10, 50), (53, 0, 54), (2, 11, 53), (55, 0, 56), (3, 0, 55), (57, 0, 58), (3, 1, 57), (59, 0, 60), (3, 2, 59), (61, 0, 62), (3, 3, 61), (63, 0, 64), (3, 4, 63), (65, 0, 66), (3, 5, 65), (67, 0, 68), (4, 0, 67), (69, 0, 70), (4, 1, 69), (71, 0, 72), (4, 2, 71), (73, 0, 74), (4, 3, 73), (5, 0, 75), (5, 1, 76), (5, 2, 77), (5, 3, 78), (5, 4, 79), (5, 5, 80), (81, 1, 82), (81, 6, 83), (81, 7, 84), (81, 8, 85), (81, 9, 86), (81, 10, 87), (81, 11, 88), (81, 12, 89), (81, 13, 90), (81, 14, 91), (81, 15, 92), (81, 17, 93), (81, 18, 94), (81, 19, 95), (81, 20, 96), (81, 21, 97), (81, 22, 98), (81, 23, 99), (81, 24, 100), (81, 25, 101), (81, 26, 102), (81, 27, 103), (81, 28, 104), (81, 29, 105), (81, 30, 106), (81, 31, 107), (81, 32, 108), (81, 33, 109), (81, 35, 110), (81, 36, 111), (81, 37, 112), (81, 38, 113), (81, 39, 114), (81, 41, 115), (81, 42, 116), (81, 43, 117), (81, 44, 118), (81, 55, 119), (81, 56, 120), (81, 57, 121), (81, 59, 122), (81, 60, 123), (81, 61, 124), (81, 63, 125), (81, 64, 126), (81, 65, 127), (81, 66, 128), (81, 67, 129), (81, 68, 130), (81, 70, 131), (81, 71, 132)]
def tzDw : List (Nat × Int × Int) := [(28, 0, (-9)), (28, 1, (-9)), (28, 2, (-9)), (28, 3, (-9)), (28, 4, (-9)), (28, 5, (-9)), (29, 0, (-9)), (29, 1, (-9)), (29, 2, (-9)), (29, 3, (-9)), (29, 4, (-9)), (29, 5, (-9)), (23, 6, (-9)), (23, 7, 2147483647), (23, 8, 2147483647), (53, 5, 1), (2, 14, 20000), (2, 15, 20000), (55, 1, (-1)), (57, 1, (-1)), (59, 1, (-1)), (61, 1, (-1)), (63, 1, (-1)), (65, 1, (-1)), (67, 1, (-1)), (69, 1, (-1)), (71, 1, (-1)), (73, 1, (-1)), (75, 2, (-9)), (76, 2, (-9)), (77, 2, (-9)), (78, 2, (-9)), (79, 2, (-9)), (80, 2, (-9)), (81, 4, 1), (81, 46, 20000), (81, 47, 20000), (83, 0, (-9)), (83, 1, (-9)), (83, 2, (-9)), (83, 3, (-9)), (83, 4, (-9)), (83, 5, (-9)), (86, 0, (-9)), (86, 1, (-9)), (86, 2, (-9)), (86, 3, (-9)), (107, 0, (-9)), (119, 0, (-9)), (107, 1, (-9)), (119, 1, (-9)), (107, 2, (-9)), (119, 2, (-9)), (107, 3, (-9)), (119, 3, (-9)), (107, 4, (-9)), (119, 4, (-9)), (107, 5, (-9)), (119, 5, (-9))]
def tzf {α : Type} (z : α) : List (Nat × Int × α) → Nat → Int → α
  | [], _, _ => z
  | (b, i, x) :: l, a, j => if a = b then (if j = i then x else tzf z l a j) else tzf z l a j
def tzsum (k : Nat) : Nat := ((tzSl.take (k + 1)).map Prod.snd).sum
/-- the memory with k addresses, p pointers and q numbers laid -/
def mm (L : Nat) (ys : Nat → Int) (k p q : Nat) : tqM := (fun a j => if a = 1 then ys j.toNat else tzf 0 (tzDw.take q) a j, fun a j => tzf 0 (tzPw.take p) a j, fun a => if a = 1 then (8, L) else if a ≤ k then tzSl.getD a (0, 0) else (0, 0), k, tzsum k)
theorem tzf_none {α : Type} (z : α) : ∀ (l : List (Nat × Int × α)) (a : Nat), (l.all fun e => !(Nat.beq e.1 a)) = true → ∀ j, tzf z l a j = z
  | [], _, _, _ => rfl
  | (b, i, x) :: l, a, h, j => by
    simp only [List.all_cons, Bool.and_eq_true, Bool.not_eq_true'] at h
    unfold tzf
    rw [if_neg (fun q => by rw [q, Nat.beq_refl] at h; cases h.1)]
    exact tzf_none z l a h.2 j
theorem tzf_app {α : Type} (z : α) : ∀ (l : List (Nat × Int × α)) (b : Nat) (i : Int) (x : α), (l.all fun e => !(Nat.beq e.1 b && decide (e.2.1 = i))) = true → ∀ a j, tzf z (l ++ [(b, i, x)]) a j = if a = b then (if j = i then x else tzf z l a j) else tzf z l a j
  | [], _, _, _, _, _, _ => rfl
  | (b', i', x') :: l, b, i, x, h, a, j => by
    simp only [List.all_cons, Bool.and_eq_true, Bool.not_eq_true'] at h
    have ih := tzf_app z l b i x h.2 a j
    show (if a = b' then (if j = i' then x' else tzf z (l ++ [(b, i, x)]) a j) else tzf z (l ++ [(b, i, x)]) a j) = if a = b then (if j = i then x else (if a = b' then (if j = i' then x' else tzf z l a j) else tzf z l a j)) else (if a = b' then (if j = i' then x' else tzf z l a j) else tzf z l a j)
    rw [ih]
    by_cases e1 : a = b'
    · rw [if_pos e1, if_pos e1]
      by_cases e2 : j = i'
      · rw [if_pos e2, if_pos e2]
        by_cases e3 : a = b
        · rw [if_pos e3]
          by_cases e4 : j = i
          · exfalso
            have := h.1
            rw [← e1, ← e2, e3, e4, Nat.beq_refl] at this
            simp at this
          · rw [if_neg e4]
        · rw [if_neg e3]
      · rw [if_neg e2, if_neg e2]
    · rw [if_neg e1, if_neg e1]
theorem mm_new (L : Nat) (ys : Nat → Int) (k p q : Nat) {kd n : Nat} (h : tzSl.getD (k + 1) (0, 0) = (kd, n)) (h1 : k + 1 ≠ 1) (hp : ((tzPw.take p).all fun e => !(Nat.beq e.1 (k + 1))) = true) (hq : ((tzDw.take q).all fun e => !(Nat.beq e.1 (k + 1))) = true) (hs : tzsum k + n = tzsum (k + 1)) : tqnew (mm L ys k p q) kd n = mm L ys (k + 1) p q := by
  unfold tqnew mm
  refine Prod.ext ?_ (Prod.ext ?_ (Prod.ext ?_ (Prod.ext rfl hs)))
  · funext b j
    show (if b = k + 1 then (0 : Int) else (if b = 1 then ys j.toNat else tzf 0 (tzDw.take q) b j)) = (if b = 1 then ys j.toNat else tzf 0 (tzDw.take q) b j)
    by_cases e : b = k + 1
    · rw [if_pos e, e, if_neg h1, tzf_none 0 _ _ hq]
    · rw [if_neg e]
  · funext b j
    show (if b = k + 1 then (0 : Nat) else tzf 0 (tzPw.take p) b j) = tzf 0 (tzPw.take p) b j
    by_cases e : b = k + 1
    · rw [if_pos e, e, tzf_none 0 _ _ hp]
    · rw [if_neg e]
  · funext b
    show (if b = k + 1 then (kd, n) else (if b = 1 then (8, L) else if b ≤ k then tzSl.getD b (0, 0) else (0, 0))) = (if b = 1 then (8, L) else if b ≤ k + 1 then tzSl.getD b (0, 0) else (0, 0))
    by_cases e : b = k + 1
    · rw [if_pos e, e, if_neg h1, if_pos (Nat.le_refl _), h]
    · rw [if_neg e]
      by_cases e1 : b = 1
      · rw [if_pos e1, if_pos e1]
      · rw [if_neg e1, if_neg e1]
        by_cases e2 : b ≤ k
        · rw [if_pos e2, if_pos (by omega)]
        · rw [if_neg e2, if_neg (by omega)]
theorem tz_take {α : Type} {l : List α} {p : Nat} {x : α} (h : l[p]? = some x) : l.take (p + 1) = l.take p ++ [x] := by
  rw [List.take_add_one, h]; rfl
theorem mm_p (L : Nat) (ys : Nat → Int) (k p q : Nat) {a x : Nat} {j : Int} (h : tzPw[p]? = some (a, j, x)) (hp : ((tzPw.take p).all fun e => !(Nat.beq e.1 (tzPw.getD p (0, 0, 0)).1 && decide (e.2.1 = (tzPw.getD p (0, 0, 0)).2.1))) = true) (_ : True) : tqp (mm L ys k p q) a j x = mm L ys k (p + 1) q := by
  have hg : tzPw.getD p (0, 0, 0) = (a, j, x) := by rw [List.getD_eq_getElem?_getD, h]; rfl
  rw [hg] at hp
  unfold tqp mm
  refine Prod.ext rfl (Prod.ext ?_ rfl)
  funext b i
  show (if b = a then (if i = j then x else tzf 0 (tzPw.take p) b i) else tzf 0 (tzPw.take p) b i) = tzf 0 (tzPw.take (p + 1)) b i
  rw [tz_take h, tzf_app 0 _ _ _ _ hp]
theorem mm_d (L : Nat) (ys : Nat → Int) (k p q : Nat) {a : Nat} {x j : Int} (h : tzDw[q]? = some (a, j, x)) (hp : ((tzDw.take q).all fun e => !(Nat.beq e.1 (tzDw.getD q (0, 0, 0)).1 && decide (e.2.1 = (tzDw.getD q (0, 0, 0)).2.1))) = true) (h1 : (tzDw.getD q (0, 0, 0)).1 ≠ 1) (_ : True) : tqw (mm L ys k p q) a j x = mm L ys k p (q + 1) := by
  have hg : tzDw.getD q (0, 0, 0) = (a, j, x) := by rw [List.getD_eq_getElem?_getD, h]; rfl
  rw [hg] at hp h1
  unfold tqw mm
  refine Prod.ext ?_ rfl
  funext b i
  show (if b = a then (if i = j then x else (if b = 1 then ys i.toNat else tzf 0 (tzDw.take q) b i)) else (if b = 1 then ys i.toNat else tzf 0 (tzDw.take q) b i)) = if b = 1 then ys i.toNat else tzf 0 (tzDw.take (q + 1)) b i
  rw [tz_take h, tzf_app 0 _ _ _ _ hp]
  by_cases e : b = a
  · have h1 : a ≠ 1 := h1
    have h2 : ¬ b = 1 := fun q => h1 (e ▸ q)
    rw [if_pos e, if_neg h2, if_neg h2, if_pos e]
  · rw [if_neg e, if_neg e]
theorem tz_bp {α : Type} {g : Bool} {a b : α} (h : g = true) : (bif g then a else b) = a := by rw [h]; rfl
theorem tz_bn {α : Type} {g : Bool} {a b : α} (h : g = false) : (bif g then a else b) = b := by rw [h]; rfl
theorem tz_rM {P : tqPr} {d : Nat} {c : tqCode} {pc : Nat} {ls st : List tqV} {m m' : tqM} (h : m = m') : tqrun P d c pc ls st m = tqrun P d c pc ls st m' := by rw [h]
theorem tz_rD {P : tqPr} {d k : Nat} {as : List tqV} {m m' : tqM} (h : m = m') : tqden P d k as m = tqden P d k as m' := by rw [h]
theorem tz_b0 {t : Option tqRes} {f : tqM → Option tqRes} {m : tqM} (h : t = some (none, m)) : tqb0 t f = f m := by rw [h]; rfl
theorem tqb0_mk (m : tqM) (f : tqM → Option tqRes) : tqb0 (some (none, m)) f = f m := rfl
theorem tqmulti_eq (m : tqM) : tqmulti m 6 8 = tqp (tqnew (tqp (tqnew (tqp (tqnew (tqp (tqnew (tqp (tqnew (tqp (tqnew (tqnew m 7 6) 1 8) (m.2.2.2.1 + 1) 0 (m.2.2.2.1 + 2)) 1 8) (m.2.2.2.1 + 1) 1 (m.2.2.2.1 + 3)) 1 8) (m.2.2.2.1 + 1) 2 (m.2.2.2.1 + 4)) 1 8) (m.2.2.2.1 + 1) 3 (m.2.2.2.1 + 5)) 1 8) (m.2.2.2.1 + 1) 4 (m.2.2.2.1 + 6)) 1 8) (m.2.2.2.1 + 1) 5 (m.2.2.2.1 + 7) := rfl
