/-! ===== runs ===== -/
def tqbI (o : Option tqRes) (f : Int → tqM → Option tqRes) : Option tqRes := match o with
  | some (some (.inl x), m) => f x m
  | _ => none
def tqbL (o : Option tqRes) (f : Int → tqM → Option tqRes) : Option tqRes := match o with
  | some (some (.inr (.inl x)), m) => f x m
  | _ => none
def tqbR (o : Option tqRes) (f : Nat → tqM → Option tqRes) : Option tqRes := match o with
  | some (some (.inr (.inr (.inl x))), m) => f x m
  | _ => none
def tqb0 (o : Option tqRes) (f : tqM → Option tqRes) : Option tqRes := match o with
  | some (none, m) => f m
  | _ => none
def tqbd (rk : Nat) (o : Option tqRes) (st : List tqV) (K : List tqV → tqM → Option tqRes) : Option tqRes := match rk with
  | 0 => tqb0 o (fun m => K st m)
  | 1 => tqbI o (fun x m => K (vI x :: st) m)
  | 2 => tqbL o (fun x m => K (vL x :: st) m)
  | _ => tqbR o (fun x m => K (vR x :: st) m)
def tqsw (x : Int) (l : List (Int × Nat)) (F : Nat → Option tqRes) (df : Nat) : Option tqRes := match l with
  | [] => F df
  | (k, p) :: l => if x = k then F p else tqsw x l F df
def tqpk (x : Int) (l : List (Int × Nat)) (df : Nat) : Nat := match l with
  | [] => df
  | (k, p) :: l => if x = k then p else tqpk x l df
theorem tqsw_pk (x : Int) (F : Nat → Option tqRes) (df : Nat) : ∀ l, tqsw x l F df = F (tqpk x l df)
  | [] => rfl
  | (k, p) :: l => by
    unfold tqsw tqpk
    split
    · rfl
    · exact tqsw_pk x F df l
abbrev tqK : Type := Nat → List tqV → List tqV → tqM → Option tqRes
abbrev tqCl : Type := Nat → List tqV → tqM → Option tqRes
abbrev tqCode : Type := Nat → Option tqEn
def tqkl (e : Option tqEn) (ls : List tqV) : List tqV := match e with
  | some (_, _, _, _, _, _, dd) => tqkill dd ls
  | none => ls
def tqB1 (d : Nat) (R : tqK) (C : tqCl) (e : Option tqEn) (ls st : List tqV) (m : tqM) : Option tqRes := match e with
  | none => none
  | some e => match tqX d e ls st m with
    | none => none
    | some (g, .inl (c, p1, p2, ls, st, m)) => bif g then (bif c then R p1 ls st m else R p2 ls st m) else none
    | some (g, .inr (.inl r)) => bif g then some r else none
    | some (g, .inr (.inr (.inl (k, as, rk, nx, ls, st, m)))) => bif g then tqbd rk (C k as m) st (fun st m => R nx ls st m) else none
    | some (g, .inr (.inr (.inr (x, sw, df, ls, st, m)))) => bif g then tqsw x sw (fun p => R p ls st m) df else none
/-- locals at a method's entry -/
def tqin : List tqV → Nat → List tqV
  | [], n => List.replicate n vU
  | .inr (.inl x) :: l, n => vL x :: vU :: tqin l (n - 2)
  | v :: l, n => v :: tqin l (n - 1)
abbrev tqPr : Type := Nat → tqCode × Nat
def tqex (P : tqPr) : Nat → Nat → tqCode → tqK
  | 0, _, _ => fun _ _ _ _ => none
  | f + 1, d, c => fun pc ls st m => tqB1 d (fun pc ls st m => tqex P f d c pc (tqkl (c pc) ls) st m)
      (fun k as m => match d with
        | 0 => none
        | d + 1 => bif Nat.ble (tqcs as) (P k).2 then tqex P f d (P k).1 0 (tqin as (P k).2) [] m else none) (c pc) ls st m
def tqle (R R' : tqK) : Prop := ∀ pc ls st m r, R pc ls st m = some r → R' pc ls st m = some r
def tqleC (R R' : tqCl) : Prop := ∀ k as m r, R k as m = some r → R' k as m = some r
theorem tqbI_some {o : Option tqRes} {f : Int → tqM → Option tqRes} {r : tqRes} (h : tqbI o f = some r) : ∃ x m, o = some (some (vI x), m) ∧ f x m = some r := by
  unfold tqbI at h
  split at h
  · exact ⟨_, _, rfl, h⟩
  · cases h
theorem tqbL_some {o : Option tqRes} {f : Int → tqM → Option tqRes} {r : tqRes} (h : tqbL o f = some r) : ∃ x m, o = some (some (vL x), m) ∧ f x m = some r := by
  unfold tqbL at h
  split at h
  · exact ⟨_, _, rfl, h⟩
  · cases h
theorem tqbR_some {o : Option tqRes} {f : Nat → tqM → Option tqRes} {r : tqRes} (h : tqbR o f = some r) : ∃ x m, o = some (some (vR x), m) ∧ f x m = some r := by
  unfold tqbR at h
  split at h
  · exact ⟨_, _, rfl, h⟩
  · cases h
theorem tqb0_some {o : Option tqRes} {f : tqM → Option tqRes} {r : tqRes} (h : tqb0 o f = some r) : ∃ m, o = some (none, m) ∧ f m = some r := by
  unfold tqb0 at h
  split at h
  · exact ⟨_, rfl, h⟩
  · cases h
/-- a call that has come back: its answer fits, and it goes on -/
def tqfit (rk : Nat) (v : Option tqV) (st st' : List tqV) : Prop :=
  (rk = 0 ∧ v = none ∧ st' = st) ∨ (rk = 1 ∧ ∃ x, v = some (vI x) ∧ st' = vI x :: st) ∨ (rk = 2 ∧ ∃ x, v = some (vL x) ∧ st' = vL x :: st) ∨ (3 ≤ rk ∧ ∃ x, v = some (vR x) ∧ st' = vR x :: st)
theorem tqbd_some {rk : Nat} {o : Option tqRes} {st : List tqV} {K : List tqV → tqM → Option tqRes} {r : tqRes} (h : tqbd rk o st K = some r) : ∃ v m st', o = some (v, m) ∧ tqfit rk v st st' ∧ K st' m = some r := by
  match rk, h with
  | 0, h => obtain ⟨m, h1, h2⟩ := tqb0_some h; exact ⟨_, _, _, h1, Or.inl ⟨rfl, rfl, rfl⟩, h2⟩
  | 1, h => obtain ⟨x, m, h1, h2⟩ := tqbI_some h; exact ⟨_, _, _, h1, Or.inr (Or.inl ⟨rfl, x, rfl, rfl⟩), h2⟩
  | 2, h => obtain ⟨x, m, h1, h2⟩ := tqbL_some h; exact ⟨_, _, _, h1, Or.inr (Or.inr (Or.inl ⟨rfl, x, rfl, rfl⟩)), h2⟩
  | rk + 3, h => obtain ⟨x, m, h1, h2⟩ := tqbR_some h; exact ⟨_, _, _, h1, Or.inr (Or.inr (Or.inr ⟨by omega, x, rfl, rfl⟩)), h2⟩
theorem tqbd_of {rk : Nat} {v : Option tqV} {st st' : List tqV} {m : tqM} {K : List tqV → tqM → Option tqRes} (h : tqfit rk v st st') : tqbd rk (some (v, m)) st K = K st' m := by
  rcases h with ⟨rfl, rfl, rfl⟩ | ⟨rfl, x, rfl, rfl⟩ | ⟨rfl, x, rfl, rfl⟩ | ⟨h, x, rfl, rfl⟩
  · rfl
  · rfl
  · rfl
  · match rk, h with
    | rk + 3, _ => rfl
theorem tqcond_some {g : Bool} {α : Type} {x : Option α} {r : α} (h : (bif g then x else none) = some r) : g = true ∧ x = some r := by
  cases g
  · cases h
  · exact ⟨rfl, h⟩
/-- what one step is, when it comes to an answer -/
theorem tqB1_some {d : Nat} {R : tqK} {C : tqCl} {e : Option tqEn} {ls st : List tqV} {m : tqM} {r : tqRes} (h : tqB1 d R C e ls st m = some r) :
    ∃ e', e = some e' ∧ ((∃ c p1 p2 ls' st' m', tqX d e' ls st m = some (true, .inl (c, p1, p2, ls', st', m')) ∧ R (bif c then p1 else p2) ls' st' m' = some r) ∨
      tqX d e' ls st m = some (true, .inr (.inl r)) ∨
      (∃ k as rk nx ls' st' m' v m2 st2, tqX d e' ls st m = some (true, .inr (.inr (.inl (k, as, rk, nx, ls', st', m')))) ∧ C k as m' = some (v, m2) ∧ tqfit rk v st' st2 ∧ R nx ls' st2 m2 = some r) ∨
      (∃ x sw df ls' st' m', tqX d e' ls st m = some (true, .inr (.inr (.inr (x, sw, df, ls', st', m')))) ∧ R (tqpk x sw df) ls' st' m' = some r)) := by
  unfold tqB1 at h
  split at h
  · cases h
  · rename_i e'
    refine ⟨e', rfl, ?_⟩
    split at h
    · cases h
    · rename_i g c p1 p2 ls' st' m' heq
      obtain ⟨rfl, h⟩ := tqcond_some h
      refine Or.inl ⟨c, p1, p2, ls', st', m', heq, ?_⟩
      cases c <;> exact h
    · rename_i g r' heq
      obtain ⟨rfl, h⟩ := tqcond_some h
      cases h
      exact Or.inr (Or.inl heq)
    · rename_i g k as rk nx ls' st' m' heq
      obtain ⟨rfl, h⟩ := tqcond_some h
      obtain ⟨v, m2, st2, h1, h2, h3⟩ := tqbd_some h
      exact Or.inr (Or.inr (Or.inl ⟨k, as, rk, nx, ls', st', m', v, m2, st2, heq, h1, h2, h3⟩))
    · rename_i g x sw df ls' st' m' heq
      obtain ⟨rfl, h⟩ := tqcond_some h
      rw [tqsw_pk] at h
      exact Or.inr (Or.inr (Or.inr ⟨x, sw, df, ls', st', m', heq, h⟩))
theorem tqB1_of {d : Nat} {R R' : tqK} {C C' : tqCl} {e : Option tqEn} {ls st : List tqV} {m : tqM} {r : tqRes} (h : tqB1 d R C e ls st m = some r) (hR : tqle R R') (hC : tqleC C C') : tqB1 d R' C' e ls st m = some r := by
  obtain ⟨e', rfl, h0⟩ := tqB1_some h
  rcases h0 with ⟨c, p1, p2, ls', st', m', h1, h2⟩ | h1 | ⟨k, as, rk, nx, ls', st', m', v, m2, st2, h1, h2, h3, h4⟩ | ⟨x, sw, df, ls', st', m', h1, h2⟩
  · simp only [tqB1, h1, cond_true]
    have := hR _ _ _ _ _ h2
    cases c <;> exact this
  · simp only [tqB1, h1, cond_true]
  · simp only [tqB1, h1, cond_true, hC _ _ _ _ h2, tqbd_of h3]
    exact hR _ _ _ _ _ h4
  · simp only [tqB1, h1, cond_true, tqsw_pk]
    exact hR _ _ _ _ _ h2
theorem tqex_succ (P : tqPr) : ∀ f d c, tqle (tqex P f d c) (tqex P (f + 1) d c)
  | 0, _, _ => fun _ _ _ _ _ h => by cases h
  | f + 1, d, c => fun pc ls st m r h => by
    refine tqB1_of h (fun _ _ _ _ _ h => tqex_succ P f d c _ _ _ _ _ h) (fun k as m r h => ?_)
    match d, h with
    | d + 1, h =>
      obtain ⟨hg, h⟩ := tqcond_some h
      show (bif _ then _ else none) = some r
      rw [hg]
      exact tqex_succ P f d _ _ _ _ _ _ h
theorem tqex_mono (P : tqPr) {f f' : Nat} (h : f ≤ f') (d : Nat) (c : tqCode) : tqle (tqex P f d c) (tqex P f' d c) := by
  induction h with
  | refl => exact fun _ _ _ _ _ h => h
  | step _ ih => exact fun _ _ _ _ _ h => tqex_succ P _ d c _ _ _ _ _ (ih _ _ _ _ _ h)
/-- a run without a bound -/
noncomputable def tqrun (P : tqPr) (d : Nat) (c : tqCode) : tqK := fun pc ls st m => @dite (Option tqRes) (∃ f r, tqex P f d c pc ls st m = some r) (Classical.propDecidable _) (fun h => some h.choose_spec.choose) (fun _ => none)
theorem tqrun_of {P : tqPr} {d : Nat} {c : tqCode} {f : Nat} {pc : Nat} {ls st : List tqV} {m : tqM} {r : tqRes} (h : tqex P f d c pc ls st m = some r) : tqrun P d c pc ls st m = some r := by
  have hx : ∃ f r, tqex P f d c pc ls st m = some r := ⟨f, r, h⟩
  unfold tqrun
  rw [dif_pos hx]
  have h2 := hx.choose_spec.choose_spec
  have h3 := tqex_mono P (Nat.le_max_left f hx.choose) d c _ _ _ _ _ h
  have h4 := tqex_mono P (Nat.le_max_right f hx.choose) d c _ _ _ _ _ h2
  rw [h3] at h4
  exact h4.symm
theorem tqrun_some {P : tqPr} {d : Nat} {c : tqCode} {pc : Nat} {ls st : List tqV} {m : tqM} {r : tqRes} (h : tqrun P d c pc ls st m = some r) : ∃ f, tqex P f d c pc ls st m = some r := by
  unfold tqrun at h
  split at h
  · rename_i hx
    cases h
    exact ⟨_, hx.choose_spec.choose_spec⟩
  · cases h
noncomputable def tqden (P : tqPr) (d : Nat) : tqCl := fun k as m => bif Nat.ble (tqcs as) (P k).2 then tqrun P d (P k).1 0 (tqin as (P k).2) [] m else none
theorem tqrun_eq (P : tqPr) (d : Nat) (c : tqCode) (pc : Nat) (ls st : List tqV) (m : tqM) : tqrun P (d + 1) c pc ls st m = tqB1 (d + 1) (fun pc ls st m => tqrun P (d + 1) c pc (tqkl (c pc) ls) st m) (tqden P d) (c pc) ls st m := by
  apply Option.ext
  intro r
  constructor
  · intro h
    obtain ⟨f, h⟩ := tqrun_some h
    match f, h with
    | f + 1, h =>
      refine tqB1_of h (fun _ _ _ _ _ h => tqrun_of h) (fun k as m r h => ?_)
      obtain ⟨hg, h⟩ := tqcond_some h
      show (bif _ then _ else none) = some r
      rw [hg]
      exact tqrun_of h
  · intro h
    obtain ⟨e', he, h0⟩ := tqB1_some h
    rcases h0 with ⟨c', p1, p2, ls', st', m', h1, h2⟩ | h1 | ⟨k, as, rk, nx, ls', st', m', v, m2, st2, h1, h2, h3, h4⟩ | ⟨x, sw, df, ls', st', m', h1, h2⟩
    · obtain ⟨f, h2⟩ := tqrun_some h2
      refine tqrun_of (f := f + 1) ?_
      show tqB1 _ _ _ _ _ _ _ = _
      simp only [tqB1, he, h1, cond_true]
      cases c' <;> exact h2
    · refine tqrun_of (f := 1) ?_
      show tqB1 _ _ _ _ _ _ _ = _
      simp only [tqB1, he, h1, cond_true]
    · obtain ⟨hg, h2⟩ := tqcond_some h2
      obtain ⟨f1, h2⟩ := tqrun_some h2
      obtain ⟨f2, h4⟩ := tqrun_some h4
      have h2 := tqex_mono P (Nat.le_max_left f1 f2) _ _ _ _ _ _ _ h2
      have h4 := tqex_mono P (Nat.le_max_right f1 f2) _ _ _ _ _ _ _ h4
      refine tqrun_of (f := max f1 f2 + 1) ?_
      show tqB1 _ _ _ _ _ _ _ = _
      simp only [tqB1, he, h1, cond_true, hg, h2, tqbd_of h3]
      exact h4
    · obtain ⟨f, h2⟩ := tqrun_some h2
      refine tqrun_of (f := f + 1) ?_
      show tqB1 _ _ _ _ _ _ _ = _
      simp only [tqB1, he, h1, cond_true, tqsw_pk]
      exact h2
/-- n steps, up to the places where it stops -/
def tqgo (d : Nat) (R : tqK) (C : tqCl) (c : tqCode) (stop : Nat → Bool) : Nat → tqK
  | 0 => R
  | n + 1 => fun pc ls st m => tqB1 d (fun pc ls st m => bif stop pc then R pc (tqkl (c pc) ls) st m else tqgo d R C c stop n pc (tqkl (c pc) ls) st m) C (c pc) ls st m
theorem tqrun_go (P : tqPr) (d : Nat) (c : tqCode) (stop : Nat → Bool) : ∀ (n pc : Nat) (ls st : List tqV) (m : tqM), tqrun P (d + 1) c pc ls st m = tqgo (d + 1) (tqrun P (d + 1) c) (tqden P d) c stop n pc ls st m
  | 0, _, _, _, _ => rfl
  | n + 1, pc, ls, st, m => by
    rw [tqrun_eq]
    show tqB1 _ _ _ _ _ _ _ = tqB1 _ _ _ _ _ _ _
    congr 1
    funext pc ls st m
    cases stop pc
    · exact tqrun_go P d c stop n pc _ st m
    · rfl
