def tqNA : List Nat := [0, 2, 2, 0, 0, 4, 3, 2, 2, 2, 2, 1, 2, 3, 1, 1, 1, 0, 0, 1, 2, 2, 0, 2, 1, 0, 4, 2, 0, 3, 0, 1, 0, 0, 4, 2, 3, 4, 0, 5, 7, 2, 0, 6, 5, 4, 1, 0, 0, 1, 3, 1, 2, 3, 1, 1, 0, 1, 1, 4, 1, 1, 3, 0, 2, 4, 4, 3, 2, 3, 4, 2, 3, 1, 0, 2, 3, 1, 5, 2, 3, 1, 1, 4, 4, 3, 2, 3, 2, 2, 2, 2, 2, 1, 2, 2, 1, 2, 2, 3, 2, 2, 4, 1, 0, 2, 3, 1, 2, 2, 1, 1, 3, 1, 1, 1, 4, 2, 1, 6, 1, 3, 1, 2, 5, 1, 0, 0, 0, 1, 0, 1, 0, 3, 1, 2, 1, 2, 2, 1, 2, 1, 1, 1, 0, 1, 1, 3, 1, 1, 1, 0, 3, 1, 2, 2, 1, 1, 1, 2, 3, 1, 5, 1, 1, 2, 3, 1, 1, 6, 4, 4, 2, 3, 3, 2, 4, 1, 1, 1, 3, 2, 2, 1, 2, 2, 2, 1, 2, 2, 1, 2, 2, 2, 1, 2, 2, 3, 2, 1, 1, 1, 1, 2, 4, 4, 1, 0, 2, 3, 1, 1, 2, 2, 3, 2, 2, 1, 1, 3, 1, 1, 1, 1, 1, 6, 1, 4, 4, 3, 2, 3, 1, 6, 1, 1, 1, 3, 1, 0, 2, 7, 5, 1, 0, 0, 0, 1, 1, 0, 1, 1, 0, 1, 2, 1]
def tqrk (r : Option Jvm.ClassFile.FieldType) : Nat := match r with
  | none => 0
  | some .int => 1
  | some .boolean => 1
  | some .long => 2
  | some (.object _) => 3
  | some (.array _) => 3
  | some _ => 4
noncomputable def tqnaok (k : Nat) : Bool := decide ((parseMethodDescriptor (tqmi k).1.desc).map (fun d => d.parameters.length) = some (tqNA.getD k 0)) && !(decide ((tqmi k).1.cls = "java/lang/invoke/MethodHandle")) && !(decide ((tqmi k).1.cls = "java/lang/invoke/VarHandle")) && plainName (tqmi k).1.cls && decide ((tqmi k).1.cls = tqRn (tqow k)) && Nat.ble (tqmi k).2.2.1 40 && Nat.beq (tqP k).2 (tqmi k).2.2.1
set_option maxRecDepth 100000 in
set_option maxHeartbeats 8000000 in
theorem tqna_0 : ((List.range 30).map (fun i => i + 0)).all tqnaok = true := by decide +kernel
set_option maxRecDepth 100000 in
set_option maxHeartbeats 8000000 in
theorem tqna_30 : ((List.range 30).map (fun i => i + 30)).all tqnaok = true := by decide +kernel
set_option maxRecDepth 100000 in
set_option maxHeartbeats 8000000 in
theorem tqna_60 : ((List.range 30).map (fun i => i + 60)).all tqnaok = true := by decide +kernel
set_option maxRecDepth 100000 in
set_option maxHeartbeats 8000000 in
theorem tqna_90 : ((List.range 30).map (fun i => i + 90)).all tqnaok = true := by decide +kernel
set_option maxRecDepth 100000 in
set_option maxHeartbeats 8000000 in
theorem tqna_120 : ((List.range 30).map (fun i => i + 120)).all tqnaok = true := by decide +kernel
set_option maxRecDepth 100000 in
set_option maxHeartbeats 8000000 in
theorem tqna_150 : ((List.range 30).map (fun i => i + 150)).all tqnaok = true := by decide +kernel
set_option maxRecDepth 100000 in
set_option maxHeartbeats 8000000 in
theorem tqna_180 : ((List.range 30).map (fun i => i + 180)).all tqnaok = true := by decide +kernel
set_option maxRecDepth 100000 in
set_option maxHeartbeats 8000000 in
theorem tqna_210 : ((List.range 30).map (fun i => i + 210)).all tqnaok = true := by decide +kernel
set_option maxRecDepth 100000 in
set_option maxHeartbeats 8000000 in
theorem tqna_240 : ((List.range 15).map (fun i => i + 240)).all tqnaok = true := by decide +kernel
def tqMx : List Nat := [17, 34, 47, 36, 14, 59, 37, 43, 46, 94, 72, 31, 38, 105, 36, 45, 69, 17, 12, 17, 31, 39, 40, 55, 61, 68, 155, 102, 168, 52, 61, 209, 26, 21, 21, 129, 57, 63, 40, 107, 163, 55, 130, 203, 150, 135, 25, 37, 14, 214, 35, 56, 67, 135, 32, 45, 10, 13, 56, 52, 26, 99, 55, 44, 33, 92, 65, 29, 29, 52, 136, 55, 56, 96, 221, 14, 69, 34, 113, 15, 70, 36, 31, 57, 70, 40, 29, 104, 31, 70, 54, 52, 105, 96, 199, 30, 87, 67, 91, 52, 31, 82, 91, 172, 7, 33, 89, 33, 36, 52, 36, 84, 120, 100, 79, 70, 134, 152, 21, 270, 29, 172, 29, 148, 139, 29, 7, 7, 7, 104, 7, 22, 188, 15, 15, 14, 5, 7, 69, 29, 17, 22, 20, 18, 34, 25, 27, 36, 9, 23, 15, 507, 15, 17, 6, 59, 5, 6, 29, 59, 65, 21, 177, 6, 29, 60, 69, 31, 7, 43, 67, 110, 81, 165, 52, 177, 64, 11, 6, 7, 145, 115, 33, 25, 40, 98, 53, 18, 52, 100, 95, 193, 66, 31, 90, 64, 89, 113, 124, 8, 281, 19, 7, 132, 183, 47, 207, 4, 27, 96, 25, 8, 32, 73, 29, 35, 51, 31, 104, 244, 110, 130, 55, 25, 106, 158, 22, 94, 89, 44, 290, 195, 17, 199, 100, 31, 149, 438, 25, 320, 420, 54, 411, 25, 4, 4, 4, 207, 19, 4, 19, 15, 423, 52, 20, 2183]
def tqln (i : Jvm.ClassFile.Instr) : Nat := match i with
  | .bipush _ => 2
  | .sipush _ => 3
  | .ldc _ => 2
  | .ldc_w _ => 3
  | .ldc2_w _ => 3
  | .iload _ => 2
  | .lload _ => 2
  | .aload _ => 2
  | .istore _ => 2
  | .lstore _ => 2
  | .astore _ => 2
  | .iinc _ _ => 3
  | .ifCond _ _ => 3
  | .if_icmp _ _ => 3
  | .goto _ => 3
  | .ifnull _ => 3
  | .ifnonnull _ => 3
  | .getfield _ => 3
  | .putfield _ => 3
  | .newarray _ => 2
  | .anewarray _ => 3
  | .multianewarray _ _ => 4
  | .new _ => 3
  | .invokestatic _ => 3
  | .invokevirtual _ => 3
  | .invokespecial _ => 3
  | _ => 1
def tqisInit (k : Nat) : Bool := decide ((tqmi k).1.name = "<init>")
def tqaty (t : Jvm.ClassFile.ArrayType) : Nat := match t with
  | .int => 1
  | .long => 2
  | .boolean => 3
  | _ => 0
def tqacl (r1 : Nat) : Nat := match r1 with
  | 4 => 2
  | 5 => 8
  | 6 => 9
  | _ => 98
/-- the entry's links are the tables' -/
def tqlk (k pc : Nat) (e : tqEn) : Bool := match e with
  | (i, nx, r1, r2, cc, sw, _) => match i with
    | .iconst n => decide (-10 ≤ n) && decide (n ≤ 10) && Nat.beq nx (pc + 1)
    | .ldc idx => decide (-2147483648 ≤ cc) && decide (cc < 2147483648) && tqKL.any (fun q => Nat.beq q.2.2.1 (tqow k) && (Nat.beq q.2.2.2.1 idx && decide (q.2.2.2.2 = cc))) && Nat.beq nx (pc + 2)
    | .ldc_w idx => decide (-2147483648 ≤ cc) && decide (cc < 2147483648) && tqKL.any (fun q => Nat.beq q.2.2.1 (tqow k) && (Nat.beq q.2.2.2.1 idx && decide (q.2.2.2.2 = cc))) && Nat.beq nx (pc + 3)
    | .ldc2_w idx => decide (-9223372036854775808 ≤ cc) && decide (cc < 9223372036854775808) && tqJL.any (fun q => Nat.beq q.2.2.1 (tqow k) && (Nat.beq q.2.2.2.1 idx && decide (q.2.2.2.2 = cc))) && Nat.beq nx (pc + 3)
    | .istore n => Nat.blt n (tqmi k).2.2.1 && Nat.beq nx (pc + 2)
    | .istore_n n => Nat.blt n.val (tqmi k).2.2.1 && Nat.beq nx (pc + 1)
    | .astore n => Nat.blt n (tqmi k).2.2.1 && Nat.beq nx (pc + 2)
    | .astore_n n => Nat.blt n.val (tqmi k).2.2.1 && Nat.beq nx (pc + 1)
    | .lstore n => Nat.blt (n + 1) (tqmi k).2.2.1 && Nat.beq nx (pc + 2)
    | .lstore_n n => Nat.blt (n.val + 1) (tqmi k).2.2.1 && Nat.beq nx (pc + 1)
    | .iinc n _ => Nat.blt n (tqmi k).2.2.1 && Nat.beq nx (pc + 3)
    | .ifCond _ off => decide ((pc : Int) + off = (r1 : Int)) && Nat.beq nx (pc + 3)
    | .if_icmp _ off => decide ((pc : Int) + off = (r1 : Int)) && Nat.beq nx (pc + 3)
    | .goto off => decide ((pc : Int) + off = (r1 : Int)) && Nat.beq nx (pc + 3)
    | .ifnull off => decide ((pc : Int) + off = (r1 : Int)) && Nat.beq nx (pc + 3)
    | .ifnonnull off => decide ((pc : Int) + off = (r1 : Int)) && Nat.beq nx (pc + 3)
    | .tableswitch df lo hi offs => decide ((pc : Int) + df = (r1 : Int)) && decide (hi + 1 = lo + (offs.size : Int)) && decide (sw = (List.range offs.size).map (fun j : Nat => (lo + (j : Int), ((pc : Int) + offs.toList.getD j 0).toNat))) && (List.range offs.size).all (fun j => decide (0 ≤ (pc : Int) + offs.toList.getD j 0))
    | .lookupswitch df ps => decide ((pc : Int) + df = (r1 : Int)) && decide (sw = ps.toList.map (fun q => (q.1, ((pc : Int) + q.2).toNat))) && ps.toList.all (fun q => decide (0 ≤ (pc : Int) + q.2)) && (ps.toList.zip (ps.toList.drop 1)).all (fun (a, next) => decide (a.1 < next.1))
    | .getfield idx => Nat.blt r1 13 && Nat.blt r2 (tqN r1) && decide (cc = (tqk r1 r2 : Int)) && tqFL.any (fun q => Nat.beq q.2.2.1 (tqow k) && (Nat.beq q.2.2.2.1 idx && (Nat.beq q.2.2.2.2.1 r1 && Nat.beq q.2.2.2.2.2.1 r2))) && Nat.beq nx (pc + 3)
    | .putfield idx => Nat.blt r1 13 && Nat.blt r2 (tqN r1) && decide (cc = (tqk r1 r2 : Int)) && tqFL.any (fun q => Nat.beq q.2.2.1 (tqow k) && (Nat.beq q.2.2.2.1 idx && (Nat.beq q.2.2.2.2.1 r1 && (Nat.beq q.2.2.2.2.2.1 r2 && (!(tqTn r1 r2).2.2.2 || (Nat.beq q.2.2.2.2.2.2 0 && (Nat.beq (tqow k) r1 && tqisInit k))))))) && Nat.beq nx (pc + 3)
    | .newarray t => Nat.beq r1 (tqaty t) && Nat.ble 1 r1 && Nat.beq nx (pc + 2)
    | .anewarray idx => Nat.ble 4 r1 && Nat.ble r1 6 && tqCL.any (fun q => Nat.beq q.2.2.1 (tqow k) && (Nat.beq q.2.2.2.1 idx && Nat.beq q.2.2.2.2 (tqacl r1))) && Nat.beq nx (pc + 3)
    | .multianewarray idx dm => Nat.beq dm 2 && tqCL.any (fun q => Nat.beq q.2.2.1 (tqow k) && (Nat.beq q.2.2.2.1 idx && Nat.beq q.2.2.2.2 99)) && Nat.beq nx (pc + 4)
    | .new idx => Nat.blt r1 13 && Nat.beq r2 (tqN r1) && tqCL.any (fun q => Nat.beq q.2.2.1 (tqow k) && (Nat.beq q.2.2.2.1 idx && Nat.beq q.2.2.2.2 r1)) && Nat.beq nx (pc + 3)
    | .invokestatic idx => (match sw with
      | (3, _) :: _ => tqHL.any (fun q => Nat.beq q.2.2.1 (tqow k) && (Nat.beq q.2.2.2.1 idx && (Nat.beq q.2.2.2.2.1 1001 && Nat.beq q.2.2.2.2.2 0)))
      | (5, _) :: _ => tqHL.any (fun q => Nat.beq q.2.2.1 (tqow k) && (Nat.beq q.2.2.2.1 idx && (Nat.beq q.2.2.2.2.1 1005 && Nat.beq q.2.2.2.2.2 0)))
      | (6, _) :: _ => tqHL.any (fun q => Nat.beq q.2.2.1 (tqow k) && (Nat.beq q.2.2.2.1 idx && (Nat.beq q.2.2.2.2.1 1006 && Nat.beq q.2.2.2.2.2 0)))
      | (7, _) :: _ => tqHL.any (fun q => Nat.beq q.2.2.1 (tqow k) && (Nat.beq q.2.2.2.1 idx && (Nat.beq q.2.2.2.2.1 1007 && Nat.beq q.2.2.2.2.2 0)))
      | (8, _) :: _ => tqHL.any (fun q => Nat.beq q.2.2.1 (tqow k) && (Nat.beq q.2.2.2.1 idx && (Nat.beq q.2.2.2.2.1 1008 && Nat.beq q.2.2.2.2.2 0)))
      | (9, _) :: _ => tqHL.any (fun q => Nat.beq q.2.2.1 (tqow k) && (Nat.beq q.2.2.2.1 idx && (Nat.beq q.2.2.2.2.1 1009 && Nat.beq q.2.2.2.2.2 0)))
      | _ => Nat.blt r1 255 && tqHL.any (fun q => Nat.beq q.2.2.1 (tqow k) && (Nat.beq q.2.2.2.1 idx && Nat.beq q.2.2.2.2.1 r1)) && Nat.beq (tqkf r1).1 1 && Nat.beq r2 (tqNA.getD r1 0) && decide (cc = (tqrk (tqmi r1).2.2.2 : Int))) && Nat.beq nx (pc + 3)
    | .invokevirtual idx => (match sw with
      | (_, c) :: _ => Nat.blt r1 255 && tqHL.any (fun q => Nat.beq q.2.2.1 (tqow k) && (Nat.beq q.2.2.2.1 idx && Nat.beq q.2.2.2.2.1 r1)) && Nat.beq (tqkf r1).1 0 && !(Nat.beq (tqkf r1).2.2.2.2.2.1 99) && Nat.beq r2 (tqNA.getD r1 0 + 1) && Nat.beq c (tqow r1) && Nat.blt c 13 && decide (cc = (tqrk (tqmi r1).2.2.2 : Int))
      | _ => false) && Nat.beq nx (pc + 3)
    | .invokespecial idx => (match sw with
      | (4, _) :: _ => tqHL.any (fun q => Nat.beq q.2.2.1 (tqow k) && (Nat.beq q.2.2.2.1 idx && (Nat.beq q.2.2.2.2.1 1000 && Nat.beq q.2.2.2.2.2 0)))
      | (_, c) :: _ => Nat.blt r1 255 && tqHL.any (fun q => Nat.beq q.2.2.1 (tqow k) && (Nat.beq q.2.2.2.1 idx && Nat.beq q.2.2.2.2.1 r1)) && Nat.beq (tqkf r1).1 0 && tqisInit r1 && Nat.beq r2 (tqNA.getD r1 0 + 1) && Nat.beq c (tqow r1) && Nat.blt c 13 && decide (cc = (tqrk (tqmi r1).2.2.2 : Int)) && decide (cc = 0)
      | _ => false) && Nat.beq nx (pc + 3)
    | .ireturn => (Nat.beq r1 0 && decide ((tqmi k).2.2.2 = some .int) || Nat.beq r1 1 && decide ((tqmi k).2.2.2 = some .boolean)) && Nat.beq nx (pc + 1)
    | .lreturn => decide ((tqmi k).2.2.2 = some .long) && Nat.beq nx (pc + 1)
    | .areturn => Nat.beq (tqrk (tqmi k).2.2.2) 3 && Nat.beq nx (pc + 1)
    | .return_ => decide ((tqmi k).2.2.2 = none) && Nat.beq nx (pc + 1)
    | _ => Nat.beq nx (pc + tqln i)
noncomputable def tqchk1 (k pc : Nat) : Bool := match (tqP k).1 pc with
  | none => true
  | some e => decide (decode (tqmi k).2.1 pc = .ok (e.1, e.2.1 - pc)) && tqlk k pc e
noncomputable def tqchk (k : Nat) : Bool := (List.range ((tqMx.getD k 0) + 1)).all (tqchk1 k)
