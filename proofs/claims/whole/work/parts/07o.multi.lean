section TQMU
variable {p : Program} {l : Launch} {e : Env} {R : Room} {s : State} {mid : MethodId} {args : Array Value} {below : List Frame} {meth : Method} {c : Code} {Q : State → Prop} {g : tqG} {cc : ByteArray} {nL c0 s0 pc : Nat} {lsA st : List tqV} {m : tqM}
theorem s_multi {idx : Nat} {own : String} (hK : tqKn g s) (hown : s.vm.findClass own = some mid.cls) (hcl : (Cond.classLink own idx "[[I").before args s = true) (hov : (Cond.arrayOver (.array .int)).before args s = true) (harr : (Cond.arrayClass .int).before args s = true)
    (hc : (tqmulti m 6 8).2.2.2.1 - c0 ≤ R.cells) (hs : (tqmulti m 6 8).2.2.2.2 - s0 ≤ R.slots) (hx : p.tables.exec = Jvm.exec) (hb : c.code = cc) (hd : decode cc pc = .ok (.multianewarray idx 2, 4)) (h : tqW1 p l e R s mid args below meth c Q g nL c0 s0 (pc + 4) lsA (vR (m.2.2.2.1 + 1) :: st) (tqmulti m 6 8)) : tqW1 p l e R s mid args below meth c Q g nL c0 s0 pc lsA (vI 8 :: vI 6 :: st) m := sorry
end TQMU
