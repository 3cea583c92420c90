/-! ===== the pure machine: one instruction ===== -/
def tqg : List tqV → Nat → tqV
  | [], _ => vU
  | x :: _, 0 => x
  | _ :: l, n + 1 => tqg l n
def tqs : List tqV → Nat → tqV → List tqV
  | [], _, _ => []
  | _ :: l, 0, v => v :: l
  | x :: l, n + 1, v => x :: tqs l n v
def tqkill : List Nat → List tqV → List tqV
  | [], ls => ls
  | i :: is, ls => tqkill is (tqs ls i vU)
def tqcat : tqV → Nat
  | .inl _ => 1
  | .inr (.inl _) => 2
  | .inr (.inr (.inl _)) => 1
  | .inr (.inr (.inr _)) => 1
def tqcs : List tqV → Nat
  | [] => 0
  | v :: l => tqcat v + tqcs l
/-- the slot ahead of place i holds no long -/
def tqnl : List tqV → Nat → Bool
  | _, 0 => true
  | ls, i + 1 => match tqg ls i with
    | .inr (.inl _) => false
    | _ => true
def pI {α : Type} (st : List tqV) (f : Int → List tqV → Option α) : Option α := match st with
  | .inl x :: st => f x st
  | _ => none
def pL {α : Type} (st : List tqV) (f : Int → List tqV → Option α) : Option α := match st with
  | .inr (.inl x) :: st => f x st
  | _ => none
def pR {α : Type} (st : List tqV) (f : Nat → List tqV → Option α) : Option α := match st with
  | .inr (.inr (.inl a)) :: st => f a st
  | _ => none
def pV {α : Type} (st : List tqV) (f : tqV → List tqV → Option α) : Option α := match st with
  | .inl x :: st => f (.inl x) st
  | .inr (.inr (.inl a)) :: st => f (.inr (.inr (.inl a))) st
  | _ => none
/-- n values from the stack, the deepest first -/
def tqpop : Nat → List tqV → List tqV → Option (List tqV × List tqV)
  | 0, st, acc => some (acc, st)
  | n + 1, v :: st, acc => tqpop n st (v :: acc)
  | _ + 1, [], _ => none
/-- what an instruction does: a branch (a plain step: both places are one), a return, a call, a switch -/
abbrev tqO : Type := (Bool × Nat × Nat × List tqV × List tqV × tqM) ⊕ tqRes ⊕ (Nat × List tqV × Nat × Nat × List tqV × List tqV × tqM) ⊕ (Int × List (Int × Nat) × Nat × List tqV × List tqV × tqM)
def tqj (nx : Nat) (ls st : List tqV) (m : tqM) : Option (Bool × tqO) := some (true, .inl (true, nx, nx, ls, st, m))
def tqjg (g : Bool) (nx : Nat) (ls st : List tqV) (m : tqM) : Option (Bool × tqO) := some (g, .inl (true, nx, nx, ls, st, m))
def tqbr (c : Bool) (p1 p2 : Nat) (ls st : List tqV) (m : tqM) : Option (Bool × tqO) := some (true, .inl (c, p1, p2, ls, st, m))
def tqcb (c : Jvm.ClassFile.Cond) (x y : Int) : Bool := match c with
  | .eq => decide (x = y)
  | .ne => decide (¬ x = y)
  | .lt => decide (x < y)
  | .ge => decide (y ≤ x)
  | .gt => decide (y < x)
  | .le => decide (x ≤ y)
/-! memory -/
abbrev tqS (m : tqM) (a : Nat) : Nat × Nat := m.2.2.1 a
def tqw (m : tqM) (a : Nat) (j x : Int) : tqM := (fun b k => if b = a then (if k = j then x else m.1 b k) else m.1 b k, m.2)
def tqp (m : tqM) (a : Nat) (j : Int) (x : Nat) : tqM := (m.1, fun b k => if b = a then (if k = j then x else m.2.1 b k) else m.2.1 b k, m.2.2)
/-- a new cell: its address is one more than the last -/
def tqnew (m : tqM) (kd n : Nat) : tqM :=
  (fun b k => if b = m.2.2.2.1 + 1 then 0 else m.1 b k, fun b k => if b = m.2.2.2.1 + 1 then 0 else m.2.1 b k, fun b => if b = m.2.2.2.1 + 1 then (kd, n) else m.2.2.1 b, m.2.2.2.1 + 1, m.2.2.2.2 + n)
def tqmake : Nat → Nat → tqM → tqM
  | 0, _, m => m
  | n + 1, k, m => tqp (tqnew (tqmake n k m) 1 k) ((tqmake n k m).2.2.2.1 - n) n ((tqmake n k m).2.2.2.1 + 1)
/-- n rows of k ints -/
def tqmulti (m : tqM) (n k : Nat) : tqM := tqmake n k (tqnew m 7 n)
def tqcpy (m : tqM) (a : Nat) (i : Int) (b : Nat) (j n : Int) : tqM := (fun c k => if c = b then (if j ≤ k ∧ k < j + n then m.1 a (i + (k - j)) else m.1 c k) else m.1 c k, m.2)
def jmax (x y : Int) : Int := if x < y then y else x
def jmin (x y : Int) : Int := if y < x then y else x
def jabs (x : Int) : Int := if 0 < x then x else w64 (-x)
def tqib (i : Int) (n : Nat) : Bool := decide (0 ≤ i) && decide (i < (n : Int))
def tqdp : Nat → Bool
  | 0 => false
  | _ + 1 => true
def tqisR (v : tqV) (m : tqM) (k : Nat) : Bool := match v with
  | .inr (.inr (.inl a)) => Nat.beq (tqS m a).1 (10 + k)
  | _ => false
def tqhd : List tqV → tqV
  | [] => vU
  | v :: _ => v
def tqisI : tqV → Bool
  | .inl _ => true
  | _ => false
def tqisL : tqV → Bool
  | .inr (.inl _) => true
  | _ => false
def tqisA : tqV → Bool
  | .inr (.inr (.inl _)) => true
  | _ => false
def tqfk (m : tqM) (a : Nat) (j : Int) (kd : Int) : tqV := match kd with
  | 3 => vR (m.2.1 a j)
  | 1 => vL (m.1 a j)
  | _ => vI (m.1 a j)
/-- one instruction, at depth d -/
def tqX (d : Nat) (e : tqEn) (ls st : List tqV) (m : tqM) : Option (Bool × tqO) := match e with
  | (i, nx, r1, r2, cc, sw, _) => match i with
    | .iconst n => tqj nx ls (vI n :: st) m
    | .bipush n => tqjg (decide (-128 ≤ n) && decide (n < 128)) nx ls (vI n :: st) m
    | .sipush n => tqjg (decide (-32768 ≤ n) && decide (n < 32768)) nx ls (vI n :: st) m
    | .ldc _ => tqj nx ls (vI cc :: st) m
    | .ldc_w _ => tqj nx ls (vI cc :: st) m
    | .lconst n => tqj nx ls (vL ((n : Nat) : Int) :: st) m
    | .ldc2_w _ => tqj nx ls (vL cc :: st) m
    | .aconst_null => tqj nx ls (vR 0 :: st) m
    | .iload n => tqjg (tqisI (tqg ls n)) nx ls (tqg ls n :: st) m
    | .iload_n n => tqjg (tqisI (tqg ls n)) nx ls (tqg ls n :: st) m
    | .lload n => tqjg (tqisL (tqg ls n)) nx ls (tqg ls n :: st) m
    | .lload_n n => tqjg (tqisL (tqg ls n)) nx ls (tqg ls n :: st) m
    | .aload n => tqjg (tqisA (tqg ls n)) nx ls (tqg ls n :: st) m
    | .aload_n n => tqjg (tqisA (tqg ls n)) nx ls (tqg ls n :: st) m
    | .istore n => pI st fun x st => tqjg (tqnl ls n) nx (tqs ls n (vI x)) st m
    | .istore_n n => pI st fun x st => tqjg (tqnl ls n) nx (tqs ls n (vI x)) st m
    | .astore n => pR st fun x st => tqjg (tqnl ls n) nx (tqs ls n (vR x)) st m
    | .astore_n n => pR st fun x st => tqjg (tqnl ls n) nx (tqs ls n (vR x)) st m
    | .lstore n => pL st fun x st => tqjg (tqnl ls n) nx (tqs (tqs ls n (vL x)) (n + 1) vU) st m
    | .lstore_n n => pL st fun x st => tqjg (tqnl ls n) nx (tqs (tqs ls n (vL x)) (n + 1) vU) st m
    | .iinc n k => pI [tqg ls n] fun x _ => tqjg (tqnl ls n) nx (tqs ls n (vI (w32 (x + k)))) st m
    | .iadd => pI st fun y st => pI st fun x st => tqj nx ls (vI (w32 (x + y)) :: st) m
    | .isub => pI st fun y st => pI st fun x st => tqj nx ls (vI (w32 (x - y)) :: st) m
    | .imul => pI st fun y st => pI st fun x st => tqj nx ls (vI (w32 (x * y)) :: st) m
    | .idiv => pI st fun y st => pI st fun x st => tqjg (decide (¬ y = 0)) nx ls (vI (w32 (x.tdiv y)) :: st) m
    | .irem => pI st fun y st => pI st fun x st => tqjg (decide (¬ y = 0)) nx ls (vI (w32 (x.tmod y)) :: st) m
    | .ineg => pI st fun x st => tqj nx ls (vI (w32 (-x)) :: st) m
    | .iand => pI st fun y st => pI st fun x st => tqj nx ls (vI (jand x y) :: st) m
    | .ior => pI st fun y st => pI st fun x st => tqj nx ls (vI (jor x y) :: st) m
    | .ixor => pI st fun y st => pI st fun x st => tqj nx ls (vI (jxor x y) :: st) m
    | .ishl => pI st fun y st => pI st fun x st => tqj nx ls (vI (jshl x y) :: st) m
    | .ishr => pI st fun y st => pI st fun x st => tqj nx ls (vI (jshr x y) :: st) m
    | .iushr => pI st fun y st => pI st fun x st => tqj nx ls (vI (jushr x y) :: st) m
    | .ladd => pL st fun y st => pL st fun x st => tqj nx ls (vL (w64 (x + y)) :: st) m
    | .lsub => pL st fun y st => pL st fun x st => tqj nx ls (vL (w64 (x - y)) :: st) m
    | .lmul => pL st fun y st => pL st fun x st => tqj nx ls (vL (w64 (x * y)) :: st) m
    | .ldiv => pL st fun y st => pL st fun x st => tqjg (decide (¬ y = 0)) nx ls (vL (w64 (x.tdiv y)) :: st) m
    | .lrem => pL st fun y st => pL st fun x st => tqjg (decide (¬ y = 0)) nx ls (vL (w64 (x.tmod y)) :: st) m
    | .lneg => pL st fun x st => tqj nx ls (vL (w64 (-x)) :: st) m
    | .lcmp => pL st fun y st => pL st fun x st => tqj nx ls (vI (jcmp x y) :: st) m
    | .i2l => pI st fun x st => tqj nx ls (vL x :: st) m
    | .l2i => pL st fun x st => tqj nx ls (vI (w32 x) :: st) m
    | .i2b => pI st fun x st => tqj nx ls (vI (jbyte x) :: st) m
    | .ifCond c _ => pI st fun x st => tqbr (tqcb c x 0) r1 nx ls st m
    | .if_icmp c _ => pI st fun y st => pI st fun x st => tqbr (tqcb c x y) r1 nx ls st m
    | .goto _ => tqj r1 ls st m
    | .ifnull _ => pR st fun a st => tqbr (Nat.beq a 0) r1 nx ls st m
    | .ifnonnull _ => pR st fun a st => tqbr (Nat.beq a 0) nx r1 ls st m
    | .tableswitch _ _ _ _ => pI st fun x st => some (true, .inr (.inr (.inr (x, sw, r1, ls, st, m))))
    | .lookupswitch _ _ => pI st fun x st => some (true, .inr (.inr (.inr (x, sw, r1, ls, st, m))))
    | .dup => pV st fun v st => tqj nx ls (v :: v :: st) m
    | .pop => pV st fun _ st => tqj nx ls st m
    | .dup2 => pV st fun v st => pV st fun w st => tqj nx ls (v :: w :: v :: w :: st) m
    | .getfield _ => pR st fun a st => tqjg (Nat.beq (tqS m a).1 (10 + r1)) nx ls (tqfk m a (r2 : Int) cc :: st) m
    | .putfield _ => match cc with
      | 3 => pR st fun x st => pR st fun a st => tqjg (Nat.beq (tqS m a).1 (10 + r1)) nx ls st (tqp m a (r2 : Int) x)
      | 1 => pL st fun x st => pR st fun a st => tqjg (Nat.beq (tqS m a).1 (10 + r1)) nx ls st (tqw m a (r2 : Int) x)
      | 2 => pI st fun x st => pR st fun a st => tqjg (Nat.beq (tqS m a).1 (10 + r1) && (decide (x = 0) || decide (x = 1))) nx ls st (tqw m a (r2 : Int) x)
      | _ => pI st fun x st => pR st fun a st => tqjg (Nat.beq (tqS m a).1 (10 + r1)) nx ls st (tqw m a (r2 : Int) x)
    | .iaload => pI st fun i st => pR st fun a st => tqjg ((Nat.beq (tqS m a).1 1 || Nat.beq (tqS m a).1 8) && tqib i (tqS m a).2) nx ls (vI (m.1 a i) :: st) m
    | .laload => pI st fun i st => pR st fun a st => tqjg (Nat.beq (tqS m a).1 2 && tqib i (tqS m a).2) nx ls (vL (m.1 a i) :: st) m
    | .baload => pI st fun i st => pR st fun a st => tqjg (Nat.beq (tqS m a).1 3 && tqib i (tqS m a).2) nx ls (vI (m.1 a i) :: st) m
    | .aaload => pI st fun i st => pR st fun a st => tqjg (Nat.ble 4 (tqS m a).1 && Nat.ble (tqS m a).1 7 && tqib i (tqS m a).2) nx ls (vR (m.2.1 a i) :: st) m
    | .iastore => pI st fun x st => pI st fun i st => pR st fun a st => tqjg (Nat.beq (tqS m a).1 1 && tqib i (tqS m a).2) nx ls st (tqw m a i x)
    | .lastore => pL st fun x st => pI st fun i st => pR st fun a st => tqjg (Nat.beq (tqS m a).1 2 && tqib i (tqS m a).2) nx ls st (tqw m a i x)
    | .bastore => pI st fun x st => pI st fun i st => pR st fun a st => tqjg (Nat.beq (tqS m a).1 3 && tqib i (tqS m a).2 && (decide (x = 0) || decide (x = 1))) nx ls st (tqw m a i x)
    | .aastore => pR st fun x st => pI st fun i st => pR st fun a st => tqjg ((Nat.beq (tqS m a).1 4 && Nat.beq (tqS m x).1 12 || Nat.beq (tqS m a).1 5 && Nat.beq (tqS m x).1 18 || Nat.beq (tqS m a).1 6 && Nat.beq (tqS m x).1 19) && tqib i (tqS m a).2) nx ls st (tqp m a i x)
    | .arraylength => pR st fun a st => tqjg (Nat.ble 1 (tqS m a).1 && Nat.ble (tqS m a).1 8) nx ls (vI ((tqS m a).2 : Int) :: st) m
    | .newarray _ => pI st fun n st => tqjg (decide (0 ≤ n) && decide (n ≤ 65536)) nx ls (vR (m.2.2.2.1 + 1) :: st) (tqnew m r1 n.toNat)
    | .anewarray _ => pI st fun n st => tqjg (decide (0 ≤ n) && decide (n ≤ 65536)) nx ls (vR (m.2.2.2.1 + 1) :: st) (tqnew m r1 n.toNat)
    | .multianewarray _ _ => pI st fun k st => pI st fun n st => tqjg (decide (n = 6) && decide (k = 8)) nx ls (vR (m.2.2.2.1 + 1) :: st) (tqmulti m 6 8)
    | .new _ => tqj nx ls (vR (m.2.2.2.1 + 1) :: st) (tqnew m (10 + r1) r2)
    | .invokestatic _ => match sw with
      | (3, _) :: _ => pI st fun n st => pI st fun j st => pR st fun b st => pI st fun i st => pR st fun a st =>
          tqjg (Nat.beq (tqS m a).1 1 && Nat.beq (tqS m b).1 1 && (decide (0 ≤ i) && decide (0 ≤ j) && decide (0 ≤ n) && decide (i + n ≤ ((tqS m a).2 : Int)) && decide (j + n ≤ ((tqS m b).2 : Int))) && (tqdp d && Nat.ble (tqcs st) 8)) nx ls st (tqcpy m a i b j n)
      | (5, _) :: _ => pI st fun y st => pI st fun x st => tqjg (tqdp d && Nat.ble (tqcs st) 8) nx ls (vI (jmax x y) :: st) m
      | (6, _) :: _ => pI st fun y st => pI st fun x st => tqjg (tqdp d && Nat.ble (tqcs st) 8) nx ls (vI (jmin x y) :: st) m
      | (7, _) :: _ => pL st fun x st => tqjg (tqdp d && Nat.ble (tqcs st) 8) nx ls (vL (jabs x) :: st) m
      | (8, _) :: _ => pL st fun y st => pL st fun x st => tqjg (tqdp d && Nat.ble (tqcs st) 8) nx ls (vL (jmin x y) :: st) m
      | (9, _) :: _ => pI st fun y st => pI st fun x st => tqjg (decide (0 < y) && (tqdp d && Nat.ble (tqcs st) 8)) nx ls (vI (x % y) :: st) m
      | _ => match tqpop r2 st [] with
        | some (as, st) => some (Nat.ble (tqcs st) 8, .inr (.inr (.inl (r1, as, cc.toNat, nx, ls, st, m))))
        | none => none
    | .invokevirtual _ => match tqpop r2 st [] with
        | some (as, st) => some (Nat.ble (tqcs st) 8 && tqisR (tqhd as) m (sw.headD (0, 0)).2, .inr (.inr (.inl (r1, as, cc.toNat, nx, ls, st, m))))
        | none => none
    | .invokespecial _ => match sw with
      | (4, _) :: _ => pR st fun a st => tqjg (decide (¬ a = 0) && (tqdp d && Nat.ble (tqcs st) 8)) nx ls st m
      | _ => match tqpop r2 st [] with
        | some (as, st) => some (Nat.ble (tqcs st) 8 && tqisR (tqhd as) m (sw.headD (0, 0)).2, .inr (.inr (.inl (r1, as, cc.toNat, nx, ls, st, m))))
        | none => none
    | .ireturn => pI st fun x st => match st with
      | [] => some (Nat.beq r1 0 || (decide (x = 0) || decide (x = 1)), .inr (.inl (some (vI x), m)))
      | _ => none
    | .lreturn => pL st fun x st => match st with
      | [] => some (true, .inr (.inl (some (vL x), m)))
      | _ => none
    | .areturn => pR st fun x st => match st with
      | [] => some (true, .inr (.inl (some (vR x), m)))
      | _ => none
    | .return_ => match st with
      | [] => some (true, .inr (.inl (none, m)))
      | _ => none
    | _ => none
