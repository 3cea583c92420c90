/-! ===== memory only grows ===== -/
def tqOm : tqO → tqM
  | .inl (_, _, _, _, _, m) => m
  | .inr (.inl r) => r.2
  | .inr (.inr (.inl (_, _, _, _, _, _, m))) => m
  | .inr (.inr (.inr (_, _, _, _, _, m))) => m
def tqAl (P : tqO → Prop) (x : Option (Bool × tqO)) : Prop := ∀ g o, x = some (g, o) → P o
theorem tqAl_n {P : tqO → Prop} : tqAl P none := fun _ _ h => by cases h
theorem tqAl_s {P : tqO → Prop} {b : Bool} {o : tqO} (h : P o) : tqAl P (some (b, o)) := fun _ _ q => by cases q; exact h
theorem tqAl_I {P : tqO → Prop} {st : List tqV} {f : Int → List tqV → Option (Bool × tqO)} (h : ∀ x st, tqAl P (f x st)) : tqAl P (pI st f) := fun g o q => by obtain ⟨x, st', -, q⟩ := pI_some q; exact h x st' g o q
theorem tqAl_L {P : tqO → Prop} {st : List tqV} {f : Int → List tqV → Option (Bool × tqO)} (h : ∀ x st, tqAl P (f x st)) : tqAl P (pL st f) := fun g o q => by obtain ⟨x, st', -, q⟩ := pL_some q; exact h x st' g o q
theorem tqAl_R {P : tqO → Prop} {st : List tqV} {f : Nat → List tqV → Option (Bool × tqO)} (h : ∀ x st, tqAl P (f x st)) : tqAl P (pR st f) := fun g o q => by obtain ⟨x, st', -, q⟩ := pR_some q; exact h x st' g o q
theorem tqAl_V {P : tqO → Prop} {st : List tqV} {f : tqV → List tqV → Option (Bool × tqO)} (h : ∀ x st, tqAl P (f x st)) : tqAl P (pV st f) := fun g o q => by obtain ⟨x, st', -, -, q⟩ := pV_some q; exact h x st' g o q
theorem tqmulti_n (m : tqM) : (tqmulti m 6 8).2.2.2.1 = m.2.2.2.1 + 7 ∧ (tqmulti m 6 8).2.2.2.2 = m.2.2.2.2 + 54 := ⟨rfl, rfl⟩
theorem tqmulti_le (m : tqM) : m.2.2.2.1 ≤ (tqmulti m 6 8).2.2.2.1 ∧ m.2.2.2.2 ≤ (tqmulti m 6 8).2.2.2.2 := by rw [(tqmulti_n m).1, (tqmulti_n m).2]; omega
theorem tqX_mono (d : Nat) (e : tqEn) (ls st : List tqV) (m : tqM)  : tqAl (fun o => m.2.2.2.1 ≤ (tqOm o).2.2.2.1 ∧ m.2.2.2.2 ≤ (tqOm o).2.2.2.2) (tqX d e ls st m) := by
  obtain ⟨i, nx, r1, r2, cv, sw, dd⟩ := e
  cases i
  case dup => exact tqAl_V (f := fun v st => tqj nx ls (v :: v :: st) m) fun _ _ => tqAl_s (by first | (exact ⟨Nat.le_refl _, Nat.le_refl _⟩) | (exact ⟨Nat.le_succ _, Nat.le_add_right _ _⟩) | (exact tqmulti_le m))
  case pop => exact tqAl_V (f := fun _ st => tqj nx ls st m) fun _ _ => tqAl_s (by first | (exact ⟨Nat.le_refl _, Nat.le_refl _⟩) | (exact ⟨Nat.le_succ _, Nat.le_add_right _ _⟩) | (exact tqmulti_le m))
  case dup2 => exact tqAl_V (f := fun v st => pV st fun w st => tqj nx ls (v :: w :: v :: w :: st) m) fun _ _ => tqAl_V fun _ _ => tqAl_s (by first | (exact ⟨Nat.le_refl _, Nat.le_refl _⟩) | (exact ⟨Nat.le_succ _, Nat.le_add_right _ _⟩) | (exact tqmulti_le m))
  case putfield =>
    dsimp only [tqX]
    split
    · exact (tqAl_R fun _ _ => (tqAl_R fun _ _ => tqAl_s (by first | (exact ⟨Nat.le_refl _, Nat.le_refl _⟩) | (exact ⟨Nat.le_succ _, Nat.le_add_right _ _⟩) | (exact tqmulti_le m))))
    · exact (tqAl_L fun _ _ => (tqAl_R fun _ _ => tqAl_s (by first | (exact ⟨Nat.le_refl _, Nat.le_refl _⟩) | (exact ⟨Nat.le_succ _, Nat.le_add_right _ _⟩) | (exact tqmulti_le m))))
    · exact (tqAl_I fun _ _ => (tqAl_R fun _ _ => tqAl_s (by first | (exact ⟨Nat.le_refl _, Nat.le_refl _⟩) | (exact ⟨Nat.le_succ _, Nat.le_add_right _ _⟩) | (exact tqmulti_le m))))
    · exact (tqAl_I fun _ _ => (tqAl_R fun _ _ => tqAl_s (by first | (exact ⟨Nat.le_refl _, Nat.le_refl _⟩) | (exact ⟨Nat.le_succ _, Nat.le_add_right _ _⟩) | (exact tqmulti_le m))))
  case invokestatic =>
    dsimp only [tqX]
    split
    · exact (tqAl_I fun _ _ => (tqAl_I fun _ _ => (tqAl_R fun _ _ => (tqAl_I fun _ _ => (tqAl_R fun _ _ => tqAl_s (by first | (exact ⟨Nat.le_refl _, Nat.le_refl _⟩) | (exact ⟨Nat.le_succ _, Nat.le_add_right _ _⟩) | (exact tqmulti_le m)))))))
    · exact (tqAl_I fun _ _ => (tqAl_I fun _ _ => tqAl_s (by first | (exact ⟨Nat.le_refl _, Nat.le_refl _⟩) | (exact ⟨Nat.le_succ _, Nat.le_add_right _ _⟩) | (exact tqmulti_le m))))
    · exact (tqAl_I fun _ _ => (tqAl_I fun _ _ => tqAl_s (by first | (exact ⟨Nat.le_refl _, Nat.le_refl _⟩) | (exact ⟨Nat.le_succ _, Nat.le_add_right _ _⟩) | (exact tqmulti_le m))))
    · exact (tqAl_L fun _ _ => tqAl_s (by first | (exact ⟨Nat.le_refl _, Nat.le_refl _⟩) | (exact ⟨Nat.le_succ _, Nat.le_add_right _ _⟩) | (exact tqmulti_le m)))
    · exact (tqAl_L fun _ _ => (tqAl_L fun _ _ => tqAl_s (by first | (exact ⟨Nat.le_refl _, Nat.le_refl _⟩) | (exact ⟨Nat.le_succ _, Nat.le_add_right _ _⟩) | (exact tqmulti_le m))))
    · exact (tqAl_I fun _ _ => (tqAl_I fun _ _ => tqAl_s (by first | (exact ⟨Nat.le_refl _, Nat.le_refl _⟩) | (exact ⟨Nat.le_succ _, Nat.le_add_right _ _⟩) | (exact tqmulti_le m))))
    · split
      · exact tqAl_s (by first | (exact ⟨Nat.le_refl _, Nat.le_refl _⟩) | (exact ⟨Nat.le_succ _, Nat.le_add_right _ _⟩) | (exact tqmulti_le m))
      · exact tqAl_n
  case invokespecial =>
    dsimp only [tqX]
    split
    · exact (tqAl_R fun _ _ => tqAl_s (by first | (exact ⟨Nat.le_refl _, Nat.le_refl _⟩) | (exact ⟨Nat.le_succ _, Nat.le_add_right _ _⟩) | (exact tqmulti_le m)))
    · split
      · exact tqAl_s (by first | (exact ⟨Nat.le_refl _, Nat.le_refl _⟩) | (exact ⟨Nat.le_succ _, Nat.le_add_right _ _⟩) | (exact tqmulti_le m))
      · exact tqAl_n
  case invokevirtual =>
    dsimp only [tqX]
    split
    · exact tqAl_s (by first | (exact ⟨Nat.le_refl _, Nat.le_refl _⟩) | (exact ⟨Nat.le_succ _, Nat.le_add_right _ _⟩) | (exact tqmulti_le m))
    · exact tqAl_n
  case ireturn =>
    refine tqAl_I fun x st => ?_
    split
    · exact tqAl_s (by first | (exact ⟨Nat.le_refl _, Nat.le_refl _⟩) | (exact ⟨Nat.le_succ _, Nat.le_add_right _ _⟩) | (exact tqmulti_le m))
    · exact tqAl_n
  case lreturn =>
    refine tqAl_L fun x st => ?_
    split
    · exact tqAl_s (by first | (exact ⟨Nat.le_refl _, Nat.le_refl _⟩) | (exact ⟨Nat.le_succ _, Nat.le_add_right _ _⟩) | (exact tqmulti_le m))
    · exact tqAl_n
  case areturn =>
    refine tqAl_R fun x st => ?_
    split
    · exact tqAl_s (by first | (exact ⟨Nat.le_refl _, Nat.le_refl _⟩) | (exact ⟨Nat.le_succ _, Nat.le_add_right _ _⟩) | (exact tqmulti_le m))
    · exact tqAl_n
  case return_ =>
    dsimp only [tqX]
    split
    · exact tqAl_s (by first | (exact ⟨Nat.le_refl _, Nat.le_refl _⟩) | (exact ⟨Nat.le_succ _, Nat.le_add_right _ _⟩) | (exact tqmulti_le m))
    · exact tqAl_n
  all_goals first
    | exact tqAl_n
    | exact  tqAl_s (by first | (exact ⟨Nat.le_refl _, Nat.le_refl _⟩) | (exact ⟨Nat.le_succ _, Nat.le_add_right _ _⟩) | (exact tqmulti_le m))
    | exact (tqAl_I fun _ _ => tqAl_s (by first | (exact ⟨Nat.le_refl _, Nat.le_refl _⟩) | (exact ⟨Nat.le_succ _, Nat.le_add_right _ _⟩) | (exact tqmulti_le m)))
    | exact (tqAl_L fun _ _ => tqAl_s (by first | (exact ⟨Nat.le_refl _, Nat.le_refl _⟩) | (exact ⟨Nat.le_succ _, Nat.le_add_right _ _⟩) | (exact tqmulti_le m)))
    | exact (tqAl_R fun _ _ => tqAl_s (by first | (exact ⟨Nat.le_refl _, Nat.le_refl _⟩) | (exact ⟨Nat.le_succ _, Nat.le_add_right _ _⟩) | (exact tqmulti_le m)))
    | exact (tqAl_I fun _ _ => (tqAl_I fun _ _ => tqAl_s (by first | (exact ⟨Nat.le_refl _, Nat.le_refl _⟩) | (exact ⟨Nat.le_succ _, Nat.le_add_right _ _⟩) | (exact tqmulti_le m))))
    | exact (tqAl_L fun _ _ => (tqAl_L fun _ _ => tqAl_s (by first | (exact ⟨Nat.le_refl _, Nat.le_refl _⟩) | (exact ⟨Nat.le_succ _, Nat.le_add_right _ _⟩) | (exact tqmulti_le m))))
    | exact (tqAl_I fun _ _ => (tqAl_R fun _ _ => tqAl_s (by first | (exact ⟨Nat.le_refl _, Nat.le_refl _⟩) | (exact ⟨Nat.le_succ _, Nat.le_add_right _ _⟩) | (exact tqmulti_le m))))
    | exact (tqAl_I fun _ _ => (tqAl_I fun _ _ => (tqAl_R fun _ _ => tqAl_s (by first | (exact ⟨Nat.le_refl _, Nat.le_refl _⟩) | (exact ⟨Nat.le_succ _, Nat.le_add_right _ _⟩) | (exact tqmulti_le m)))))
    | exact (tqAl_L fun _ _ => (tqAl_I fun _ _ => (tqAl_R fun _ _ => tqAl_s (by first | (exact ⟨Nat.le_refl _, Nat.le_refl _⟩) | (exact ⟨Nat.le_succ _, Nat.le_add_right _ _⟩) | (exact tqmulti_le m)))))
    | exact (tqAl_R fun _ _ => (tqAl_I fun _ _ => (tqAl_R fun _ _ => tqAl_s (by first | (exact ⟨Nat.le_refl _, Nat.le_refl _⟩) | (exact ⟨Nat.le_succ _, Nat.le_add_right _ _⟩) | (exact tqmulti_le m)))))
def tqisSw : Jvm.ClassFile.Instr → Prop
  | .tableswitch _ _ _ _ => True
  | .lookupswitch _ _ => True
  | _ => False
def tqisRt : Jvm.ClassFile.Instr → Prop
  | .ireturn => True
  | .lreturn => True
  | .areturn => True
  | .return_ => True
  | _ => False
def tqisCl : Jvm.ClassFile.Instr → Prop
  | .invokestatic _ => True
  | .invokevirtual _ => True
  | .invokespecial _ => True
  | _ => False
theorem tqX_sw (d : Nat) (e : tqEn) (ls st : List tqV) (m : tqM) (hi : ¬ tqisSw e.1) : tqAl (fun o => ∀ z, o ≠ .inr (.inr (.inr z))) (tqX d e ls st m) := by
  obtain ⟨i, nx, r1, r2, cv, sw, dd⟩ := e
  cases i
  case tableswitch => exact absurd trivial hi
  case lookupswitch => exact absurd trivial hi
  case dup => exact tqAl_V (f := fun v st => tqj nx ls (v :: v :: st) m) fun _ _ => tqAl_s (by first | (intro z h; cases h))
  case pop => exact tqAl_V (f := fun _ st => tqj nx ls st m) fun _ _ => tqAl_s (by first | (intro z h; cases h))
  case dup2 => exact tqAl_V (f := fun v st => pV st fun w st => tqj nx ls (v :: w :: v :: w :: st) m) fun _ _ => tqAl_V fun _ _ => tqAl_s (by first | (intro z h; cases h))
  case putfield =>
    dsimp only [tqX]
    split
    · exact (tqAl_R fun _ _ => (tqAl_R fun _ _ => tqAl_s (by first | (intro z h; cases h))))
    · exact (tqAl_L fun _ _ => (tqAl_R fun _ _ => tqAl_s (by first | (intro z h; cases h))))
    · exact (tqAl_I fun _ _ => (tqAl_R fun _ _ => tqAl_s (by first | (intro z h; cases h))))
    · exact (tqAl_I fun _ _ => (tqAl_R fun _ _ => tqAl_s (by first | (intro z h; cases h))))
  case invokestatic =>
    dsimp only [tqX]
    split
    · exact (tqAl_I fun _ _ => (tqAl_I fun _ _ => (tqAl_R fun _ _ => (tqAl_I fun _ _ => (tqAl_R fun _ _ => tqAl_s (by first | (intro z h; cases h)))))))
    · exact (tqAl_I fun _ _ => (tqAl_I fun _ _ => tqAl_s (by first | (intro z h; cases h))))
    · exact (tqAl_I fun _ _ => (tqAl_I fun _ _ => tqAl_s (by first | (intro z h; cases h))))
    · exact (tqAl_L fun _ _ => tqAl_s (by first | (intro z h; cases h)))
    · exact (tqAl_L fun _ _ => (tqAl_L fun _ _ => tqAl_s (by first | (intro z h; cases h))))
    · exact (tqAl_I fun _ _ => (tqAl_I fun _ _ => tqAl_s (by first | (intro z h; cases h))))
    · split
      · exact tqAl_s (by first | (intro z h; cases h))
      · exact tqAl_n
  case invokespecial =>
    dsimp only [tqX]
    split
    · exact (tqAl_R fun _ _ => tqAl_s (by first | (intro z h; cases h)))
    · split
      · exact tqAl_s (by first | (intro z h; cases h))
      · exact tqAl_n
  case invokevirtual =>
    dsimp only [tqX]
    split
    · exact tqAl_s (by first | (intro z h; cases h))
    · exact tqAl_n
  case ireturn =>
    refine tqAl_I fun x st => ?_
    split
    · exact tqAl_s (by first | (intro z h; cases h))
    · exact tqAl_n
  case lreturn =>
    refine tqAl_L fun x st => ?_
    split
    · exact tqAl_s (by first | (intro z h; cases h))
    · exact tqAl_n
  case areturn =>
    refine tqAl_R fun x st => ?_
    split
    · exact tqAl_s (by first | (intro z h; cases h))
    · exact tqAl_n
  case return_ =>
    dsimp only [tqX]
    split
    · exact tqAl_s (by first | (intro z h; cases h))
    · exact tqAl_n
  all_goals first
    | exact tqAl_n
    | exact  tqAl_s (by first | (intro z h; cases h))
    | exact (tqAl_I fun _ _ => tqAl_s (by first | (intro z h; cases h)))
    | exact (tqAl_L fun _ _ => tqAl_s (by first | (intro z h; cases h)))
    | exact (tqAl_R fun _ _ => tqAl_s (by first | (intro z h; cases h)))
    | exact (tqAl_I fun _ _ => (tqAl_I fun _ _ => tqAl_s (by first | (intro z h; cases h))))
    | exact (tqAl_L fun _ _ => (tqAl_L fun _ _ => tqAl_s (by first | (intro z h; cases h))))
    | exact (tqAl_I fun _ _ => (tqAl_R fun _ _ => tqAl_s (by first | (intro z h; cases h))))
    | exact (tqAl_I fun _ _ => (tqAl_I fun _ _ => (tqAl_R fun _ _ => tqAl_s (by first | (intro z h; cases h)))))
    | exact (tqAl_L fun _ _ => (tqAl_I fun _ _ => (tqAl_R fun _ _ => tqAl_s (by first | (intro z h; cases h)))))
    | exact (tqAl_R fun _ _ => (tqAl_I fun _ _ => (tqAl_R fun _ _ => tqAl_s (by first | (intro z h; cases h)))))
theorem tqX_rt (d : Nat) (e : tqEn) (ls st : List tqV) (m : tqM) (hi : ¬ tqisRt e.1) : tqAl (fun o => ∀ z, o ≠ .inr (.inl z)) (tqX d e ls st m) := by
  obtain ⟨i, nx, r1, r2, cv, sw, dd⟩ := e
  cases i
  case ireturn => exact absurd trivial hi
  case lreturn => exact absurd trivial hi
  case areturn => exact absurd trivial hi
  case return_ => exact absurd trivial hi
  case dup => exact tqAl_V (f := fun v st => tqj nx ls (v :: v :: st) m) fun _ _ => tqAl_s (by first | (intro z h; cases h))
  case pop => exact tqAl_V (f := fun _ st => tqj nx ls st m) fun _ _ => tqAl_s (by first | (intro z h; cases h))
  case dup2 => exact tqAl_V (f := fun v st => pV st fun w st => tqj nx ls (v :: w :: v :: w :: st) m) fun _ _ => tqAl_V fun _ _ => tqAl_s (by first | (intro z h; cases h))
  case putfield =>
    dsimp only [tqX]
    split
    · exact (tqAl_R fun _ _ => (tqAl_R fun _ _ => tqAl_s (by first | (intro z h; cases h))))
    · exact (tqAl_L fun _ _ => (tqAl_R fun _ _ => tqAl_s (by first | (intro z h; cases h))))
    · exact (tqAl_I fun _ _ => (tqAl_R fun _ _ => tqAl_s (by first | (intro z h; cases h))))
    · exact (tqAl_I fun _ _ => (tqAl_R fun _ _ => tqAl_s (by first | (intro z h; cases h))))
  case invokestatic =>
    dsimp only [tqX]
    split
    · exact (tqAl_I fun _ _ => (tqAl_I fun _ _ => (tqAl_R fun _ _ => (tqAl_I fun _ _ => (tqAl_R fun _ _ => tqAl_s (by first | (intro z h; cases h)))))))
    · exact (tqAl_I fun _ _ => (tqAl_I fun _ _ => tqAl_s (by first | (intro z h; cases h))))
    · exact (tqAl_I fun _ _ => (tqAl_I fun _ _ => tqAl_s (by first | (intro z h; cases h))))
    · exact (tqAl_L fun _ _ => tqAl_s (by first | (intro z h; cases h)))
    · exact (tqAl_L fun _ _ => (tqAl_L fun _ _ => tqAl_s (by first | (intro z h; cases h))))
    · exact (tqAl_I fun _ _ => (tqAl_I fun _ _ => tqAl_s (by first | (intro z h; cases h))))
    · split
      · exact tqAl_s (by first | (intro z h; cases h))
      · exact tqAl_n
  case invokespecial =>
    dsimp only [tqX]
    split
    · exact (tqAl_R fun _ _ => tqAl_s (by first | (intro z h; cases h)))
    · split
      · exact tqAl_s (by first | (intro z h; cases h))
      · exact tqAl_n
  case invokevirtual =>
    dsimp only [tqX]
    split
    · exact tqAl_s (by first | (intro z h; cases h))
    · exact tqAl_n
  all_goals first
    | exact tqAl_n
    | exact  tqAl_s (by first | (intro z h; cases h))
    | exact (tqAl_I fun _ _ => tqAl_s (by first | (intro z h; cases h)))
    | exact (tqAl_L fun _ _ => tqAl_s (by first | (intro z h; cases h)))
    | exact (tqAl_R fun _ _ => tqAl_s (by first | (intro z h; cases h)))
    | exact (tqAl_I fun _ _ => (tqAl_I fun _ _ => tqAl_s (by first | (intro z h; cases h))))
    | exact (tqAl_L fun _ _ => (tqAl_L fun _ _ => tqAl_s (by first | (intro z h; cases h))))
    | exact (tqAl_I fun _ _ => (tqAl_R fun _ _ => tqAl_s (by first | (intro z h; cases h))))
    | exact (tqAl_I fun _ _ => (tqAl_I fun _ _ => (tqAl_R fun _ _ => tqAl_s (by first | (intro z h; cases h)))))
    | exact (tqAl_L fun _ _ => (tqAl_I fun _ _ => (tqAl_R fun _ _ => tqAl_s (by first | (intro z h; cases h)))))
    | exact (tqAl_R fun _ _ => (tqAl_I fun _ _ => (tqAl_R fun _ _ => tqAl_s (by first | (intro z h; cases h)))))
theorem tqX_cl (d : Nat) (e : tqEn) (ls st : List tqV) (m : tqM) (hi : ¬ tqisCl e.1) : tqAl (fun o => ∀ z, o ≠ .inr (.inr (.inl z))) (tqX d e ls st m) := by
  obtain ⟨i, nx, r1, r2, cv, sw, dd⟩ := e
  cases i
  case invokestatic => exact absurd trivial hi
  case invokevirtual => exact absurd trivial hi
  case invokespecial => exact absurd trivial hi
  case dup => exact tqAl_V (f := fun v st => tqj nx ls (v :: v :: st) m) fun _ _ => tqAl_s (by first | (intro z h; cases h))
  case pop => exact tqAl_V (f := fun _ st => tqj nx ls st m) fun _ _ => tqAl_s (by first | (intro z h; cases h))
  case dup2 => exact tqAl_V (f := fun v st => pV st fun w st => tqj nx ls (v :: w :: v :: w :: st) m) fun _ _ => tqAl_V fun _ _ => tqAl_s (by first | (intro z h; cases h))
  case putfield =>
    dsimp only [tqX]
    split
    · exact (tqAl_R fun _ _ => (tqAl_R fun _ _ => tqAl_s (by first | (intro z h; cases h))))
    · exact (tqAl_L fun _ _ => (tqAl_R fun _ _ => tqAl_s (by first | (intro z h; cases h))))
    · exact (tqAl_I fun _ _ => (tqAl_R fun _ _ => tqAl_s (by first | (intro z h; cases h))))
    · exact (tqAl_I fun _ _ => (tqAl_R fun _ _ => tqAl_s (by first | (intro z h; cases h))))
  case ireturn =>
    refine tqAl_I fun x st => ?_
    split
    · exact tqAl_s (by first | (intro z h; cases h))
    · exact tqAl_n
  case lreturn =>
    refine tqAl_L fun x st => ?_
    split
    · exact tqAl_s (by first | (intro z h; cases h))
    · exact tqAl_n
  case areturn =>
    refine tqAl_R fun x st => ?_
    split
    · exact tqAl_s (by first | (intro z h; cases h))
    · exact tqAl_n
  case return_ =>
    dsimp only [tqX]
    split
    · exact tqAl_s (by first | (intro z h; cases h))
    · exact tqAl_n
  all_goals first
    | exact tqAl_n
    | exact  tqAl_s (by first | (intro z h; cases h))
    | exact (tqAl_I fun _ _ => tqAl_s (by first | (intro z h; cases h)))
    | exact (tqAl_L fun _ _ => tqAl_s (by first | (intro z h; cases h)))
    | exact (tqAl_R fun _ _ => tqAl_s (by first | (intro z h; cases h)))
    | exact (tqAl_I fun _ _ => (tqAl_I fun _ _ => tqAl_s (by first | (intro z h; cases h))))
    | exact (tqAl_L fun _ _ => (tqAl_L fun _ _ => tqAl_s (by first | (intro z h; cases h))))
    | exact (tqAl_I fun _ _ => (tqAl_R fun _ _ => tqAl_s (by first | (intro z h; cases h))))
    | exact (tqAl_I fun _ _ => (tqAl_I fun _ _ => (tqAl_R fun _ _ => tqAl_s (by first | (intro z h; cases h)))))
    | exact (tqAl_L fun _ _ => (tqAl_I fun _ _ => (tqAl_R fun _ _ => tqAl_s (by first | (intro z h; cases h)))))
    | exact (tqAl_R fun _ _ => (tqAl_I fun _ _ => (tqAl_R fun _ _ => tqAl_s (by first | (intro z h; cases h)))))
theorem tqex_mn (P : tqPr) : ∀ f d c pc ls st m r, tqex P f d c pc ls st m = some r → m.2.2.2.1 ≤ r.2.2.2.2.1 ∧ m.2.2.2.2 ≤ r.2.2.2.2.2
  | 0, _, _, _, _, _, _, _ => fun h => by cases h
  | f + 1, d, c, pc, ls, st, m, r => fun h => by
    obtain ⟨e', -, h⟩ := tqB1_some h
    rcases h with ⟨cb, p1, p2, ls', st', m', h1, h2⟩ | h1 | ⟨k, as, rk, nx, ls', st', m', v, m2, st2, h1, h2, h3, h4⟩ | ⟨x, sw, df, ls', st', m', h1, h2⟩
    · have q1 := tqX_mono d e' ls st m _ _ h1
      have q2 := tqex_mn P f d c _ _ _ _ r h2
      exact ⟨Nat.le_trans q1.1 q2.1, Nat.le_trans q1.2 q2.2⟩
    · exact tqX_mono d e' ls st m _ _ h1
    · have q1 := tqX_mono d e' ls st m _ _ h1
      have q2 := tqex_mn P f d c _ _ _ _ r h4
      have q3 : m'.2.2.2.1 ≤ m2.2.2.2.1 ∧ m'.2.2.2.2 ≤ m2.2.2.2.2 := by
        match d, h2 with
        | d + 1, h2 =>
          obtain ⟨-, h2⟩ := tqcond_some h2
          exact tqex_mn P f d _ _ _ _ _ _ h2
      exact ⟨Nat.le_trans q1.1 (Nat.le_trans q3.1 q2.1), Nat.le_trans q1.2 (Nat.le_trans q3.2 q2.2)⟩
    · have q1 := tqX_mono d e' ls st m _ _ h1
      have q2 := tqex_mn P f d c _ _ _ _ r h2
      exact ⟨Nat.le_trans q1.1 q2.1, Nat.le_trans q1.2 q2.2⟩
/-! ===== switches ===== -/
theorem tqpk_cases (x : Int) (df : Nat) : ∀ l : List (Int × Nat), (x, tqpk x l df) ∈ l ∨ ((∀ p, (x, p) ∉ l) ∧ tqpk x l df = df)
  | [] => Or.inr ⟨fun _ h => (by cases h), rfl⟩
  | (k, p) :: l => by
    unfold tqpk
    by_cases h : x = k
    · rw [if_pos h, h]
      exact Or.inl List.mem_cons_self
    · rw [if_neg h]
      rcases tqpk_cases x df l with q | ⟨q1, q2⟩
      · exact Or.inl (List.mem_cons_of_mem _ q)
      · refine Or.inr ⟨fun p' hp => ?_, q2⟩
        rcases List.mem_cons.mp hp with z | z
        · exact h (Prod.mk.inj z).1
        · exact q1 p' z
theorem tqlk_off (pc : Nat) (df x : Int) (r1 : Nat) (hdf : (pc : Int) + df = (r1 : Int)) : ∀ l : List (Int × Int), (∀ q ∈ l, 0 ≤ (pc : Int) + q.2) → (pc : Int) + Jvm.Op.lookupswitch.offset l df x = ((tqpk x (l.map (fun q => (q.1, ((pc : Int) + q.2).toNat))) r1 : Nat) : Int)
  | [], _ => by rw [Jvm.Op.lookupswitch.offset_nil]; exact hdf
  | (a, o) :: l, h => by
    rw [Jvm.Op.lookupswitch.offset_cons]
    simp only [List.map_cons, tqpk]
    by_cases q : a = x
    · rw [if_pos q, if_pos q.symm, Int.toNat_of_nonneg (h (a, o) List.mem_cons_self)]
    · rw [if_neg q, if_neg (fun z => q z.symm)]
      exact tqlk_off pc df x r1 hdf l (fun q hq => h q (List.mem_cons_of_mem _ hq))
section TQK
variable {p : Program} {l : Launch} {e : Env} {R : Room} {s : State} {mid : MethodId} {args : Array Value} {below : List Frame} {meth : Method} {c : Code} {Q : State → Prop} {g : tqG} {c0 s0 pc d k : Nat}
theorem tq_switch {lsA stA : List tqV} {m : tqM} {x : Int} {sw : List (Int × Nat)} {df : Nat} {ls' st' : List tqV} {m' : tqM} {en : tqEn} (Cx : tqCx p R s mid args meth c g d k) (hdec : decode (tqmi k).2.1 pc = .ok (en.1, en.2.1 - pc)) (hlk : tqlk k pc en = true) (hX : tqX d en lsA stA m = some (true, .inr (.inr (.inr (x, sw, df, ls', st', m'))))) (h : tqW1 p l e R s mid args below meth c Q g (tqmi k).2.2.1 c0 s0 (tqpk x sw df) ls' st' m') : tqW1 p l e R s mid args below meth c Q g (tqmi k).2.2.1 c0 s0 pc lsA stA m := by
  obtain ⟨hx, hb, hml, hown, hts, hK, hXs, hbA, hbs, hini, hfr, hlo⟩ := Cx
  obtain ⟨i, nx, r1, r2, cv, sw0, dd⟩ := en
  have key : (∃ x' st0, stA = vI x' :: st0 ∧ x = x' ∧ sw = sw0 ∧ df = r1 ∧ ls' = lsA ∧ st' = st0 ∧ m' = m) ∧ ((∃ df' lo hi offs, i = .tableswitch df' lo hi offs) ∨ ∃ df' ps, i = .lookupswitch df' ps) := by
    by_cases hsw : tqisSw i
    · cases i
      case tableswitch df' lo hi offs =>
        obtain ⟨x', st0, hq, hX1⟩ := pI_some hX
        cases hX1
        exact ⟨⟨_, _, hq, rfl, rfl, rfl, rfl, rfl, rfl⟩, Or.inl ⟨_, _, _, _, rfl⟩⟩
      case lookupswitch df' ps =>
        obtain ⟨x', st0, hq, hX1⟩ := pI_some hX
        cases hX1
        exact ⟨⟨_, _, hq, rfl, rfl, rfl, rfl, rfl, rfl⟩, Or.inr ⟨_, _, rfl⟩⟩
      all_goals exact absurd hsw id
    · exact absurd rfl (tqX_sw d (i, nx, r1, r2, cv, sw0, dd) lsA stA m hsw _ _ hX _)
  obtain ⟨⟨x', st0, rfl, rfl, rfl, rfl, rfl, rfl, rfl⟩, hi⟩ := key
  intro H locs ls hH hS hl hst h0 h1
  have hX32 : in32 x := tqhdo hst
  have hh := h H locs ls hH hS hl (tqtl hst) h0 h1
  show W p l e R s mid args below meth c H locs (m'.2.2.2.1 - c0) (m'.2.2.2.2 - s0) Q (F0 mid pc ls (.int (Int32.ofInt x) :: st'.map (tqrz g)))
  rcases hi with ⟨df', lo, hi, offs, rfl⟩ | ⟨df', ps, rfl⟩
  · unfold tqlk at hlk
    simp only [Bool.and_eq_true, decide_eq_true_eq, List.all_eq_true, List.mem_range] at hlk
    obtain ⟨⟨⟨h2, h3⟩, h4⟩, h5⟩ := hlk
    rcases tqpk_cases x df sw with q | ⟨q1, q2⟩
    · rw [h4] at q
      obtain ⟨j, hj, ej⟩ := List.mem_map.mp q
      have hj := List.mem_range.mp hj
      rw [← h4] at ej
      obtain ⟨e1, e2⟩ := Prod.mk.inj ej
      have ho : offs[j]? = some (offs.toList.getD j 0) := by
        rw [← Array.getElem?_toList, List.getD_eq_getElem?_getD, List.getElem?_eq_getElem (by simpa using hj)]
        rfl
      refine lv_tableIn (off := offs.toList.getD j 0) (tgt := tqpk x sw df) hx hb hdec (by rw [o32_to hX32]; omega) (by rw [o32_to hX32]; omega) (by rw [o32_to hX32, show (x - lo).toNat = j by omega]; exact ho) ?_ hh
      rw [← e2, Int.toNat_of_nonneg (h5 j hj)]
    · rw [q2] at hh
      refine lv_tableOut hx hb hdec ?_ h2 hh
      rw [o32_to hX32]
      rcases Int.lt_or_le x lo with z | z
      · exact Or.inl z
      · refine Or.inr (Int.not_le.mp fun z2 => q1 (((pc : Int) + offs.toList.getD (x - lo).toNat 0).toNat) ?_)
        rw [h4]
        exact List.mem_map.mpr ⟨(x - lo).toNat, List.mem_range.mpr (by omega), by rw [show lo + (((x - lo).toNat : Nat) : Int) = x by omega]⟩
  · unfold tqlk at hlk
    simp only [Bool.and_eq_true, decide_eq_true_eq] at hlk
    obtain ⟨⟨⟨h2, h3⟩, h4⟩, h5⟩ := hlk
    have hoff := tqlk_off pc df' x df h2 ps.toList (fun q hq => of_decide_eq_true (List.all_eq_true.mp h4 q hq))
    rw [← h3] at hoff
    exact lv_lookup (tgt := tqpk x sw df) hx hb hdec h5 rfl (by rw [o32_to hX32]; exact hoff) hh
end TQK
