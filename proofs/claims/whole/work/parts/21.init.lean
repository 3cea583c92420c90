set_option maxRecDepth 100000 in
set_option maxHeartbeats 8000000 in
theorem k_X10_init_1 (d L : Nat) (ys : Nat → Int) : tqden tqP (d + 1) n_X10_init [vR 7] (mm L ys 7 4 0) = some (none, mm L ys 12 9 0) := by
  refine (dn_X10_init ..).trans ?_
  refine (b_X10_init_0 ..).trans ?_
  repeat (first | refine (tz_bp (by rfl)).trans ?_ | refine (tz_bn (by rfl)).trans ?_)
  refine (tz_rM (((congrArg (fun m => tqp m 7 0 8) (mm_new L ys 7 4 0 (kd := 1) (n := 64) rfl (by decide) (by decide +kernel) (by decide +kernel) (by decide +kernel))).trans (mm_p L ys 8 4 0 (a := 7) (j := 0) (x := 8) rfl (by decide +kernel) trivial)))).trans ?_
  refine (b_X10_init_12 ..).trans ?_
  repeat (first | refine (tz_bp (by rfl)).trans ?_ | refine (tz_bn (by rfl)).trans ?_)
  refine (tz_rM (((congrArg (fun m => tqp m 7 1 9) (mm_new L ys 8 5 0 (kd := 1) (n := 64) rfl (by decide) (by decide +kernel) (by decide +kernel) (by decide +kernel))).trans (mm_p L ys 9 5 0 (a := 7) (j := 1) (x := 9) rfl (by decide +kernel) trivial)))).trans ?_
  refine (b_X10_init_20 ..).trans ?_
  repeat (first | refine (tz_bp (by rfl)).trans ?_ | refine (tz_bn (by rfl)).trans ?_)
  refine (tz_rM (((congrArg (fun m => tqp m 7 2 10) (mm_new L ys 9 6 0 (kd := 1) (n := 64) rfl (by decide) (by decide +kernel) (by decide +kernel) (by decide +kernel))).trans (mm_p L ys 10 6 0 (a := 7) (j := 2) (x := 10) rfl (by decide +kernel) trivial)))).trans ?_
  refine (b_X10_init_28 ..).trans ?_
  repeat (first | refine (tz_bp (by rfl)).trans ?_ | refine (tz_bn (by rfl)).trans ?_)
  refine (tz_rM (((congrArg (fun m => tqp m 7 3 11) (mm_new L ys 10 7 0 (kd := 1) (n := 64) rfl (by decide) (by decide +kernel) (by decide +kernel) (by decide +kernel))).trans (mm_p L ys 11 7 0 (a := 7) (j := 3) (x := 11) rfl (by decide +kernel) trivial)))).trans ?_
  refine (b_X10_init_36 ..).trans ?_
  repeat (first | refine (tz_bp (by rfl)).trans ?_ | refine (tz_bn (by rfl)).trans ?_)
  refine (tz_rM (((congrArg (fun m => tqp m 7 4 12) (mm_new L ys 11 8 0 (kd := 1) (n := 8) rfl (by decide) (by decide +kernel) (by decide +kernel) (by decide +kernel))).trans (mm_p L ys 12 8 0 (a := 7) (j := 4) (x := 12) rfl (by decide +kernel) trivial)))).trans ?_
  refine (b_X10_init_44 ..).trans ?_
  repeat (first | refine (tz_bp (by rfl)).trans ?_ | refine (tz_bn (by rfl)).trans ?_)
  rfl
set_option maxRecDepth 100000 in
set_option maxHeartbeats 8000000 in
theorem k_X1_init_1 (d L : Nat) (ys : Nat → Int) : tqden tqP (d + 1) n_X1_init [vR 13] (mm L ys 13 10 0) = some (none, mm L ys 17 14 0) := by
  refine (dn_X1_init ..).trans ?_
  refine (b_X1_init_0 ..).trans ?_
  repeat (first | refine (tz_bp (by rfl)).trans ?_ | refine (tz_bn (by rfl)).trans ?_)
  refine (tz_rM (((congrArg (fun m => tqp m 13 0 14) (mm_new L ys 13 10 0 (kd := 1) (n := 60) rfl (by decide) (by decide +kernel) (by decide +kernel) (by decide +kernel))).trans (mm_p L ys 14 10 0 (a := 13) (j := 0) (x := 14) rfl (by decide +kernel) trivial)))).trans ?_
  refine (b_X1_init_12 ..).trans ?_
  repeat (first | refine (tz_bp (by rfl)).trans ?_ | refine (tz_bn (by rfl)).trans ?_)
  refine (tz_rM (((congrArg (fun m => tqp m 13 1 15) (mm_new L ys 14 11 0 (kd := 1) (n := 60) rfl (by decide) (by decide +kernel) (by decide +kernel) (by decide +kernel))).trans (mm_p L ys 15 11 0 (a := 13) (j := 1) (x := 15) rfl (by decide +kernel) trivial)))).trans ?_
  refine (b_X1_init_20 ..).trans ?_
  repeat (first | refine (tz_bp (by rfl)).trans ?_ | refine (tz_bn (by rfl)).trans ?_)
  refine (tz_rM (((congrArg (fun m => tqp m 13 2 16) (mm_new L ys 15 12 0 (kd := 1) (n := 60) rfl (by decide) (by decide +kernel) (by decide +kernel) (by decide +kernel))).trans (mm_p L ys 16 12 0 (a := 13) (j := 2) (x := 16) rfl (by decide +kernel) trivial)))).trans ?_
  refine (b_X1_init_28 ..).trans ?_
  repeat (first | refine (tz_bp (by rfl)).trans ?_ | refine (tz_bn (by rfl)).trans ?_)
  refine (tz_rM (((congrArg (fun m => tqp m 13 3 17) (mm_new L ys 16 13 0 (kd := 1) (n := 60) rfl (by decide) (by decide +kernel) (by decide +kernel) (by decide +kernel))).trans (mm_p L ys 17 13 0 (a := 13) (j := 3) (x := 17) rfl (by decide +kernel) trivial)))).trans ?_
  refine (b_X1_init_36 ..).trans ?_
  repeat (first | refine (tz_bp (by rfl)).trans ?_ | refine (tz_bn (by rfl)).trans ?_)
  rfl
set_option maxRecDepth 100000 in
set_option maxHeartbeats 8000000 in
theorem k_X7_init_1 (d L : Nat) (ys : Nat → Int) : tqden tqP (d + 1) n_X7_init [vR 18] (mm L ys 18 15 0) = some (none, mm L ys 22 19 0) := by
  refine (dn_X7_init ..).trans ?_
  refine (b_X7_init_0 ..).trans ?_
  repeat (first | refine (tz_bp (by rfl)).trans ?_ | refine (tz_bn (by rfl)).trans ?_)
  refine (tz_rM (((congrArg (fun m => tqp m 18 0 19) (mm_new L ys 18 15 0 (kd := 1) (n := 20) rfl (by decide) (by decide +kernel) (by decide +kernel) (by decide +kernel))).trans (mm_p L ys 19 15 0 (a := 18) (j := 0) (x := 19) rfl (by decide +kernel) trivial)))).trans ?_
  refine (b_X7_init_12 ..).trans ?_
  repeat (first | refine (tz_bp (by rfl)).trans ?_ | refine (tz_bn (by rfl)).trans ?_)
  refine (tz_rM (((congrArg (fun m => tqp m 18 1 20) (mm_new L ys 19 16 0 (kd := 1) (n := 20) rfl (by decide) (by decide +kernel) (by decide +kernel) (by decide +kernel))).trans (mm_p L ys 20 16 0 (a := 18) (j := 1) (x := 20) rfl (by decide +kernel) trivial)))).trans ?_
  refine (b_X7_init_20 ..).trans ?_
  repeat (first | refine (tz_bp (by rfl)).trans ?_ | refine (tz_bn (by rfl)).trans ?_)
  refine (tz_rM (((congrArg (fun m => tqp m 18 2 21) (mm_new L ys 20 17 0 (kd := 1) (n := 360) rfl (by decide) (by decide +kernel) (by decide +kernel) (by decide +kernel))).trans (mm_p L ys 21 17 0 (a := 18) (j := 2) (x := 21) rfl (by decide +kernel) trivial)))).trans ?_
  refine (b_X7_init_29 ..).trans ?_
  repeat (first | refine (tz_bp (by rfl)).trans ?_ | refine (tz_bn (by rfl)).trans ?_)
  refine (tz_rM (((congrArg (fun m => tqp m 18 3 22) (mm_new L ys 21 18 0 (kd := 1) (n := 18) rfl (by decide) (by decide +kernel) (by decide +kernel) (by decide +kernel))).trans (mm_p L ys 22 18 0 (a := 18) (j := 3) (x := 22) rfl (by decide +kernel) trivial)))).trans ?_
  refine (b_X7_init_37 ..).trans ?_
  repeat (first | refine (tz_bp (by rfl)).trans ?_ | refine (tz_bn (by rfl)).trans ?_)
  rfl
set_option maxRecDepth 100000 in
set_option maxHeartbeats 8000000 in
theorem k_X6_init_1 (d L : Nat) (ys : Nat → Int) : tqden tqP (d + 1) n_X6_init [vR 23] (mm L ys 23 20 0) = some (none, mm L ys 29 26 15) := by
  refine (dn_X6_init ..).trans ?_
  refine (b_X6_init_0 ..).trans ?_
  repeat (first | refine (tz_bp (by rfl)).trans ?_ | refine (tz_bn (by rfl)).trans ?_)
  refine (tz_rM (((congrArg (fun m => tqp m 23 0 24) (mm_new L ys 23 20 0 (kd := 1) (n := 8) rfl (by decide) (by decide +kernel) (by decide +kernel) (by decide +kernel))).trans (mm_p L ys 24 20 0 (a := 23) (j := 0) (x := 24) rfl (by decide +kernel) trivial)))).trans ?_
  refine (b_X6_init_12 ..).trans ?_
  repeat (first | refine (tz_bp (by rfl)).trans ?_ | refine (tz_bn (by rfl)).trans ?_)
  refine (tz_rM (((congrArg (fun m => tqp m 23 1 25) (mm_new L ys 24 21 0 (kd := 1) (n := 8) rfl (by decide) (by decide +kernel) (by decide +kernel) (by decide +kernel))).trans (mm_p L ys 25 21 0 (a := 23) (j := 1) (x := 25) rfl (by decide +kernel) trivial)))).trans ?_
  refine (b_X6_init_20 ..).trans ?_
  repeat (first | refine (tz_bp (by rfl)).trans ?_ | refine (tz_bn (by rfl)).trans ?_)
  refine (tz_rM (((congrArg (fun m => tqp m 23 2 26) (mm_new L ys 25 22 0 (kd := 1) (n := 8) rfl (by decide) (by decide +kernel) (by decide +kernel) (by decide +kernel))).trans (mm_p L ys 26 22 0 (a := 23) (j := 2) (x := 26) rfl (by decide +kernel) trivial)))).trans ?_
  refine (b_X6_init_28 ..).trans ?_
  repeat (first | refine (tz_bp (by rfl)).trans ?_ | refine (tz_bn (by rfl)).trans ?_)
  refine (tz_rM (((congrArg (fun m => tqp m 23 3 27) (mm_new L ys 26 23 0 (kd := 1) (n := 36) rfl (by decide) (by decide +kernel) (by decide +kernel) (by decide +kernel))).trans (mm_p L ys 27 23 0 (a := 23) (j := 3) (x := 27) rfl (by decide +kernel) trivial)))).trans ?_
  refine (b_X6_init_36 ..).trans ?_
  repeat (first | refine (tz_bp (by rfl)).trans ?_ | refine (tz_bn (by rfl)).trans ?_)
  refine (tz_rM (((congrArg (fun m => tqp m 23 4 28) ((congrArg (fun m => tqw m 28 5 (-9)) ((congrArg (fun m => tqw m 28 4 (-9)) ((congrArg (fun m => tqw m 28 3 (-9)) ((congrArg (fun m => tqw m 28 2 (-9)) ((congrArg (fun m => tqw m 28 1 (-9)) ((congrArg (fun m => tqw m 28 0 (-9)) (mm_new L ys 27 24 0 (kd := 1) (n := 6) rfl (by decide) (by decide +kernel) (by decide +kernel) (by decide +kernel))).trans (mm_d L ys 28 24 0 (a := 28) (j := 0) (x := (-9)) rfl (by decide +kernel) (by decide) trivial))).trans (mm_d L ys 28 24 1 (a := 28) (j := 1) (x := (-9)) rfl (by decide +kernel) (by decide) trivial))).trans (mm_d L ys 28 24 2 (a := 28) (j := 2) (x := (-9)) rfl (by decide +kernel) (by decide) trivial))).trans (mm_d L ys 28 24 3 (a := 28) (j := 3) (x := (-9)) rfl (by decide +kernel) (by decide) trivial))).trans (mm_d L ys 28 24 4 (a := 28) (j := 4) (x := (-9)) rfl (by decide +kernel) (by decide) trivial))).trans (mm_d L ys 28 24 5 (a := 28) (j := 5) (x := (-9)) rfl (by decide +kernel) (by decide) trivial))).trans (mm_p L ys 28 24 6 (a := 23) (j := 4) (x := 28) rfl (by decide +kernel) trivial)))).trans ?_
  refine (b_X6_init_74 ..).trans ?_
  repeat (first | refine (tz_bp (by rfl)).trans ?_ | refine (tz_bn (by rfl)).trans ?_)
  refine (tz_rM (((congrArg (fun m => tqp m 23 5 29) ((congrArg (fun m => tqw m 29 5 (-9)) ((congrArg (fun m => tqw m 29 4 (-9)) ((congrArg (fun m => tqw m 29 3 (-9)) ((congrArg (fun m => tqw m 29 2 (-9)) ((congrArg (fun m => tqw m 29 1 (-9)) ((congrArg (fun m => tqw m 29 0 (-9)) (mm_new L ys 28 25 6 (kd := 1) (n := 6) rfl (by decide) (by decide +kernel) (by decide +kernel) (by decide +kernel))).trans (mm_d L ys 29 25 6 (a := 29) (j := 0) (x := (-9)) rfl (by decide +kernel) (by decide) trivial))).trans (mm_d L ys 29 25 7 (a := 29) (j := 1) (x := (-9)) rfl (by decide +kernel) (by decide) trivial))).trans (mm_d L ys 29 25 8 (a := 29) (j := 2) (x := (-9)) rfl (by decide +kernel) (by decide) trivial))).trans (mm_d L ys 29 25 9 (a := 29) (j := 3) (x := (-9)) rfl (by decide +kernel) (by decide) trivial))).trans (mm_d L ys 29 25 10 (a := 29) (j := 4) (x := (-9)) rfl (by decide +kernel) (by decide) trivial))).trans (mm_d L ys 29 25 11 (a := 29) (j := 5) (x := (-9)) rfl (by decide +kernel) (by decide) trivial))).trans (mm_p L ys 29 25 12 (a := 23) (j := 5) (x := 29) rfl (by decide +kernel) trivial)))).trans ?_
  refine (b_X6_init_112 ..).trans ?_
  repeat (first | refine (tz_bp (by rfl)).trans ?_ | refine (tz_bn (by rfl)).trans ?_)
  refine (tz_rM ((mm_d L ys 29 26 12 (a := 23) (j := 6) (x := (-9)) rfl (by decide +kernel) (by decide) trivial))).trans ?_
  refine (b_X6_init_118 ..).trans ?_
  repeat (first | refine (tz_bp (by rfl)).trans ?_ | refine (tz_bn (by rfl)).trans ?_)
  refine (tz_rM ((mm_d L ys 29 26 13 (a := 23) (j := 7) (x := 2147483647) rfl (by decide +kernel) (by decide) trivial))).trans ?_
  refine (b_X6_init_124 ..).trans ?_
  repeat (first | refine (tz_bp (by rfl)).trans ?_ | refine (tz_bn (by rfl)).trans ?_)
  refine (tz_rM ((mm_d L ys 29 26 14 (a := 23) (j := 8) (x := 2147483647) rfl (by decide +kernel) (by decide) trivial))).trans ?_
  refine (b_X6_init_130 ..).trans ?_
  repeat (first | refine (tz_bp (by rfl)).trans ?_ | refine (tz_bn (by rfl)).trans ?_)
  rfl
set_option maxRecDepth 100000 in
set_option maxHeartbeats 8000000 in
theorem k_X5_init_1 (d L : Nat) (ys : Nat → Int) : tqden tqP (d + 1) n_X5_init [vR 30] (mm L ys 30 27 15) = some (none, mm L ys 40 37 15) := by
  refine (dn_X5_init ..).trans ?_
  refine (b_X5_init_0 ..).trans ?_
  repeat (first | refine (tz_bp (by rfl)).trans ?_ | refine (tz_bn (by rfl)).trans ?_)
  refine (tz_rM (((congrArg (fun m => tqp m 30 0 31) ((tqmulti_eq _).trans (((congrArg (fun m => tqp m 31 5 37) ((congrArg (fun m => tqnew m 1 8) ((congrArg (fun m => tqp m 31 4 36) ((congrArg (fun m => tqnew m 1 8) ((congrArg (fun m => tqp m 31 3 35) ((congrArg (fun m => tqnew m 1 8) ((congrArg (fun m => tqp m 31 2 34) ((congrArg (fun m => tqnew m 1 8) ((congrArg (fun m => tqp m 31 1 33) ((congrArg (fun m => tqnew m 1 8) ((congrArg (fun m => tqp m 31 0 32) ((congrArg (fun m => tqnew m 1 8) (mm_new L ys 30 27 15 (kd := 7) (n := 6) rfl (by decide) (by decide +kernel) (by decide +kernel) (by decide +kernel))).trans (mm_new L ys 31 27 15 (kd := 1) (n := 8) rfl (by decide) (by decide +kernel) (by decide +kernel) (by decide +kernel)))).trans (mm_p L ys 32 27 15 (a := 31) (j := 0) (x := 32) rfl (by decide +kernel) trivial))).trans (mm_new L ys 32 28 15 (kd := 1) (n := 8) rfl (by decide) (by decide +kernel) (by decide +kernel) (by decide +kernel)))).trans (mm_p L ys 33 28 15 (a := 31) (j := 1) (x := 33) rfl (by decide +kernel) trivial))).trans (mm_new L ys 33 29 15 (kd := 1) (n := 8) rfl (by decide) (by decide +kernel) (by decide +kernel) (by decide +kernel)))).trans (mm_p L ys 34 29 15 (a := 31) (j := 2) (x := 34) rfl (by decide +kernel) trivial))).trans (mm_new L ys 34 30 15 (kd := 1) (n := 8) rfl (by decide) (by decide +kernel) (by decide +kernel) (by decide +kernel)))).trans (mm_p L ys 35 30 15 (a := 31) (j := 3) (x := 35) rfl (by decide +kernel) trivial))).trans (mm_new L ys 35 31 15 (kd := 1) (n := 8) rfl (by decide) (by decide +kernel) (by decide +kernel) (by decide +kernel)))).trans (mm_p L ys 36 31 15 (a := 31) (j := 4) (x := 36) rfl (by decide +kernel) trivial))).trans (mm_new L ys 36 32 15 (kd := 1) (n := 8) rfl (by decide) (by decide +kernel) (by decide +kernel) (by decide +kernel)))).trans (mm_p L ys 37 32 15 (a := 31) (j := 5) (x := 37) rfl (by decide +kernel) trivial))))).trans (mm_p L ys 37 33 15 (a := 30) (j := 0) (x := 31) rfl (by decide +kernel) trivial)))).trans ?_
  refine (b_X5_init_16 ..).trans ?_
  repeat (first | refine (tz_bp (by rfl)).trans ?_ | refine (tz_bn (by rfl)).trans ?_)
  refine (tz_rM (((congrArg (fun m => tqp m 30 1 38) (mm_new L ys 37 34 15 (kd := 1) (n := 8) rfl (by decide) (by decide +kernel) (by decide +kernel) (by decide +kernel))).trans (mm_p L ys 38 34 15 (a := 30) (j := 1) (x := 38) rfl (by decide +kernel) trivial)))).trans ?_
  refine (b_X5_init_24 ..).trans ?_
  repeat (first | refine (tz_bp (by rfl)).trans ?_ | refine (tz_bn (by rfl)).trans ?_)
  refine (tz_rM (((congrArg (fun m => tqp m 30 2 39) (mm_new L ys 38 35 15 (kd := 1) (n := 6) rfl (by decide) (by decide +kernel) (by decide +kernel) (by decide +kernel))).trans (mm_p L ys 39 35 15 (a := 30) (j := 2) (x := 39) rfl (by decide +kernel) trivial)))).trans ?_
  refine (b_X5_init_32 ..).trans ?_
  repeat (first | refine (tz_bp (by rfl)).trans ?_ | refine (tz_bn (by rfl)).trans ?_)
  refine (tz_rM (((congrArg (fun m => tqp m 30 3 40) (mm_new L ys 39 36 15 (kd := 1) (n := 6) rfl (by decide) (by decide +kernel) (by decide +kernel) (by decide +kernel))).trans (mm_p L ys 40 36 15 (a := 30) (j := 3) (x := 40) rfl (by decide +kernel) trivial)))).trans ?_
  refine (b_X5_init_40 ..).trans ?_
  repeat (first | refine (tz_bp (by rfl)).trans ?_ | refine (tz_bn (by rfl)).trans ?_)
  rfl
set_option maxRecDepth 100000 in
set_option maxHeartbeats 8000000 in
theorem k_X3_init_1 (d L : Nat) (ys : Nat → Int) : tqden tqP (d + 1) n_X3_init [vR 41] (mm L ys 41 38 15) = some (none, mm L ys 49 46 15) := by
  refine (dn_X3_init ..).trans ?_
  refine (b_X3_init_0 ..).trans ?_
  repeat (first | refine (tz_bp (by rfl)).trans ?_ | refine (tz_bn (by rfl)).trans ?_)
  refine (tz_rM (((congrArg (fun m => tqp m 41 0 42) (mm_new L ys 41 38 15 (kd := 1) (n := 8) rfl (by decide) (by decide +kernel) (by decide +kernel) (by decide +kernel))).trans (mm_p L ys 42 38 15 (a := 41) (j := 0) (x := 42) rfl (by decide +kernel) trivial)))).trans ?_
  refine (b_X3_init_12 ..).trans ?_
  repeat (first | refine (tz_bp (by rfl)).trans ?_ | refine (tz_bn (by rfl)).trans ?_)
  refine (tz_rM (((congrArg (fun m => tqp m 41 1 43) (mm_new L ys 42 39 15 (kd := 1) (n := 8) rfl (by decide) (by decide +kernel) (by decide +kernel) (by decide +kernel))).trans (mm_p L ys 43 39 15 (a := 41) (j := 1) (x := 43) rfl (by decide +kernel) trivial)))).trans ?_
  refine (b_X3_init_20 ..).trans ?_
  repeat (first | refine (tz_bp (by rfl)).trans ?_ | refine (tz_bn (by rfl)).trans ?_)
  refine (tz_rM (((congrArg (fun m => tqp m 41 2 44) (mm_new L ys 43 40 15 (kd := 3) (n := 8) rfl (by decide) (by decide +kernel) (by decide +kernel) (by decide +kernel))).trans (mm_p L ys 44 40 15 (a := 41) (j := 2) (x := 44) rfl (by decide +kernel) trivial)))).trans ?_
  refine (b_X3_init_28 ..).trans ?_
  repeat (first | refine (tz_bp (by rfl)).trans ?_ | refine (tz_bn (by rfl)).trans ?_)
  refine (tz_rM (((congrArg (fun m => tqp m 41 3 45) (mm_new L ys 44 41 15 (kd := 1) (n := 64) rfl (by decide) (by decide +kernel) (by decide +kernel) (by decide +kernel))).trans (mm_p L ys 45 41 15 (a := 41) (j := 3) (x := 45) rfl (by decide +kernel) trivial)))).trans ?_
  refine (b_X3_init_36 ..).trans ?_
  repeat (first | refine (tz_bp (by rfl)).trans ?_ | refine (tz_bn (by rfl)).trans ?_)
  refine (tz_rM (((congrArg (fun m => tqp m 41 4 46) (mm_new L ys 45 42 15 (kd := 1) (n := 64) rfl (by decide) (by decide +kernel) (by decide +kernel) (by decide +kernel))).trans (mm_p L ys 46 42 15 (a := 41) (j := 4) (x := 46) rfl (by decide +kernel) trivial)))).trans ?_
  refine (b_X3_init_44 ..).trans ?_
  repeat (first | refine (tz_bp (by rfl)).trans ?_ | refine (tz_bn (by rfl)).trans ?_)
  refine (tz_rM (((congrArg (fun m => tqp m 41 5 47) (mm_new L ys 46 43 15 (kd := 1) (n := 8) rfl (by decide) (by decide +kernel) (by decide +kernel) (by decide +kernel))).trans (mm_p L ys 47 43 15 (a := 41) (j := 5) (x := 47) rfl (by decide +kernel) trivial)))).trans ?_
  refine (b_X3_init_52 ..).trans ?_
  repeat (first | refine (tz_bp (by rfl)).trans ?_ | refine (tz_bn (by rfl)).trans ?_)
  refine (tz_rM (((congrArg (fun m => tqp m 41 6 48) (mm_new L ys 47 44 15 (kd := 1) (n := 8) rfl (by decide) (by decide +kernel) (by decide +kernel) (by decide +kernel))).trans (mm_p L ys 48 44 15 (a := 41) (j := 6) (x := 48) rfl (by decide +kernel) trivial)))).trans ?_
  refine (b_X3_init_60 ..).trans ?_
  repeat (first | refine (tz_bp (by rfl)).trans ?_ | refine (tz_bn (by rfl)).trans ?_)
  refine (tz_rM (((congrArg (fun m => tqp m 41 7 49) (mm_new L ys 48 45 15 (kd := 1) (n := 8) rfl (by decide) (by decide +kernel) (by decide +kernel) (by decide +kernel))).trans (mm_p L ys 49 45 15 (a := 41) (j := 7) (x := 49) rfl (by decide +kernel) trivial)))).trans ?_
  refine (b_X3_init_68 ..).trans ?_
  repeat (first | refine (tz_bp (by rfl)).trans ?_ | refine (tz_bn (by rfl)).trans ?_)
  rfl
set_option maxRecDepth 100000 in
set_option maxHeartbeats 8000000 in
theorem k_X4_init_1 (d L : Nat) (ys : Nat → Int) : tqden tqP (d + 1) n_X4_init [vR 50] (mm L ys 50 47 15) = some (none, mm L ys 52 49 15) := by
  refine (dn_X4_init ..).trans ?_
  refine (b_X4_init_0 ..).trans ?_
  repeat (first | refine (tz_bp (by rfl)).trans ?_ | refine (tz_bn (by rfl)).trans ?_)
  refine (tz_rM (((congrArg (fun m => tqp m 50 0 51) (mm_new L ys 50 47 15 (kd := 1) (n := 410) rfl (by decide) (by decide +kernel) (by decide +kernel) (by decide +kernel))).trans (mm_p L ys 51 47 15 (a := 50) (j := 0) (x := 51) rfl (by decide +kernel) trivial)))).trans ?_
  refine (b_X4_init_13 ..).trans ?_
  repeat (first | refine (tz_bp (by rfl)).trans ?_ | refine (tz_bn (by rfl)).trans ?_)
  refine (tz_rM (((congrArg (fun m => tqp m 50 1 52) (mm_new L ys 51 48 15 (kd := 1) (n := 40) rfl (by decide) (by decide +kernel) (by decide +kernel) (by decide +kernel))).trans (mm_p L ys 52 48 15 (a := 50) (j := 1) (x := 52) rfl (by decide +kernel) trivial)))).trans ?_
  refine (b_X4_init_21 ..).trans ?_
  repeat (first | refine (tz_bp (by rfl)).trans ?_ | refine (tz_bn (by rfl)).trans ?_)
  rfl
set_option maxRecDepth 100000 in
set_option maxHeartbeats 8000000 in
theorem k_X0_init_1 (d L : Nat) (ys : Nat → Int) : tqden tqP (d + 1) n_X0_init [vR 53] (mm L ys 53 50 15) = some (none, mm L ys 54 51 16) := by
  refine (dn_X0_init ..).trans ?_
  refine (b_X0_init_0 ..).trans ?_
  repeat (first | refine (tz_bp (by rfl)).trans ?_ | refine (tz_bn (by rfl)).trans ?_)
  refine (tz_rM (((congrArg (fun m => tqp m 53 0 54) (mm_new L ys 53 50 15 (kd := 1) (n := 6) rfl (by decide) (by decide +kernel) (by decide +kernel) (by decide +kernel))).trans (mm_p L ys 54 50 15 (a := 53) (j := 0) (x := 54) rfl (by decide +kernel) trivial)))).trans ?_
  refine (b_X0_init_12 ..).trans ?_
  repeat (first | refine (tz_bp (by rfl)).trans ?_ | refine (tz_bn (by rfl)).trans ?_)
  refine (tz_rM ((mm_d L ys 54 51 15 (a := 53) (j := 5) (x := 1) rfl (by decide +kernel) (by decide) trivial))).trans ?_
  refine (b_X0_init_17 ..).trans ?_
  repeat (first | refine (tz_bp (by rfl)).trans ?_ | refine (tz_bn (by rfl)).trans ?_)
  rfl
set_option maxRecDepth 100000 in
set_option maxHeartbeats 8000000 in
theorem k_X2_init_1 (d L : Nat) (ys : Nat → Int) : tqden tqP (d + 1) n_X2_init [vR 55] (mm L ys 55 52 18) = some (none, mm L ys 56 53 19) := by
  refine (dn_X2_init ..).trans ?_
  refine (b_X2_init_0 ..).trans ?_
  repeat (first | refine (tz_bp (by rfl)).trans ?_ | refine (tz_bn (by rfl)).trans ?_)
  refine (tz_rM (((congrArg (fun m => tqp m 55 0 56) (mm_new L ys 55 52 18 (kd := 1) (n := 40) rfl (by decide) (by decide +kernel) (by decide +kernel) (by decide +kernel))).trans (mm_p L ys 56 52 18 (a := 55) (j := 0) (x := 56) rfl (by decide +kernel) trivial)))).trans ?_
  refine (b_X2_init_12 ..).trans ?_
  repeat (first | refine (tz_bp (by rfl)).trans ?_ | refine (tz_bn (by rfl)).trans ?_)
  refine (tz_rM ((mm_d L ys 56 53 18 (a := 55) (j := 1) (x := (-1)) rfl (by decide +kernel) (by decide) trivial))).trans ?_
  refine (b_X2_init_17 ..).trans ?_
  repeat (first | refine (tz_bp (by rfl)).trans ?_ | refine (tz_bn (by rfl)).trans ?_)
  rfl
set_option maxRecDepth 100000 in
set_option maxHeartbeats 8000000 in
theorem k_X2_init_2 (d L : Nat) (ys : Nat → Int) : tqden tqP (d + 1) n_X2_init [vR 57] (mm L ys 57 54 19) = some (none, mm L ys 58 55 20) := by
  refine (dn_X2_init ..).trans ?_
  refine (b_X2_init_0 ..).trans ?_
  repeat (first | refine (tz_bp (by rfl)).trans ?_ | refine (tz_bn (by rfl)).trans ?_)
  refine (tz_rM (((congrArg (fun m => tqp m 57 0 58) (mm_new L ys 57 54 19 (kd := 1) (n := 40) rfl (by decide) (by decide +kernel) (by decide +kernel) (by decide +kernel))).trans (mm_p L ys 58 54 19 (a := 57) (j := 0) (x := 58) rfl (by decide +kernel) trivial)))).trans ?_
  refine (b_X2_init_12 ..).trans ?_
  repeat (first | refine (tz_bp (by rfl)).trans ?_ | refine (tz_bn (by rfl)).trans ?_)
  refine (tz_rM ((mm_d L ys 58 55 19 (a := 57) (j := 1) (x := (-1)) rfl (by decide +kernel) (by decide) trivial))).trans ?_
  refine (b_X2_init_17 ..).trans ?_
  repeat (first | refine (tz_bp (by rfl)).trans ?_ | refine (tz_bn (by rfl)).trans ?_)
  rfl
set_option maxRecDepth 100000 in
set_option maxHeartbeats 8000000 in
theorem k_X2_init_3 (d L : Nat) (ys : Nat → Int) : tqden tqP (d + 1) n_X2_init [vR 59] (mm L ys 59 56 20) = some (none, mm L ys 60 57 21) := by
  refine (dn_X2_init ..).trans ?_
  refine (b_X2_init_0 ..).trans ?_
  repeat (first | refine (tz_bp (by rfl)).trans ?_ | refine (tz_bn (by rfl)).trans ?_)
  refine (tz_rM (((congrArg (fun m => tqp m 59 0 60) (mm_new L ys 59 56 20 (kd := 1) (n := 40) rfl (by decide) (by decide +kernel) (by decide +kernel) (by decide +kernel))).trans (mm_p L ys 60 56 20 (a := 59) (j := 0) (x := 60) rfl (by decide +kernel) trivial)))).trans ?_
  refine (b_X2_init_12 ..).trans ?_
  repeat (first | refine (tz_bp (by rfl)).trans ?_ | refine (tz_bn (by rfl)).trans ?_)
  refine (tz_rM ((mm_d L ys 60 57 20 (a := 59) (j := 1) (x := (-1)) rfl (by decide +kernel) (by decide) trivial))).trans ?_
  refine (b_X2_init_17 ..).trans ?_
  repeat (first | refine (tz_bp (by rfl)).trans ?_ | refine (tz_bn (by rfl)).trans ?_)
  rfl
set_option maxRecDepth 100000 in
set_option maxHeartbeats 8000000 in
theorem k_X2_init_4 (d L : Nat) (ys : Nat → Int) : tqden tqP (d + 1) n_X2_init [vR 61] (mm L ys 61 58 21) = some (none, mm L ys 62 59 22) := by
  refine (dn_X2_init ..).trans ?_
  refine (b_X2_init_0 ..).trans ?_
  repeat (first | refine (tz_bp (by rfl)).trans ?_ | refine (tz_bn (by rfl)).trans ?_)
  refine (tz_rM (((congrArg (fun m => tqp m 61 0 62) (mm_new L ys 61 58 21 (kd := 1) (n := 40) rfl (by decide) (by decide +kernel) (by decide +kernel) (by decide +kernel))).trans (mm_p L ys 62 58 21 (a := 61) (j := 0) (x := 62) rfl (by decide +kernel) trivial)))).trans ?_
  refine (b_X2_init_12 ..).trans ?_
  repeat (first | refine (tz_bp (by rfl)).trans ?_ | refine (tz_bn (by rfl)).trans ?_)
  refine (tz_rM ((mm_d L ys 62 59 21 (a := 61) (j := 1) (x := (-1)) rfl (by decide +kernel) (by decide) trivial))).trans ?_
  refine (b_X2_init_17 ..).trans ?_
  repeat (first | refine (tz_bp (by rfl)).trans ?_ | refine (tz_bn (by rfl)).trans ?_)
  rfl
set_option maxRecDepth 100000 in
set_option maxHeartbeats 8000000 in
theorem k_X2_init_5 (d L : Nat) (ys : Nat → Int) : tqden tqP (d + 1) n_X2_init [vR 63] (mm L ys 63 60 22) = some (none, mm L ys 64 61 23) := by
  refine (dn_X2_init ..).trans ?_
  refine (b_X2_init_0 ..).trans ?_
  repeat (first | refine (tz_bp (by rfl)).trans ?_ | refine (tz_bn (by rfl)).trans ?_)
  refine (tz_rM (((congrArg (fun m => tqp m 63 0 64) (mm_new L ys 63 60 22 (kd := 1) (n := 40) rfl (by decide) (by decide +kernel) (by decide +kernel) (by decide +kernel))).trans (mm_p L ys 64 60 22 (a := 63) (j := 0) (x := 64) rfl (by decide +kernel) trivial)))).trans ?_
  refine (b_X2_init_12 ..).trans ?_
  repeat (first | refine (tz_bp (by rfl)).trans ?_ | refine (tz_bn (by rfl)).trans ?_)
  refine (tz_rM ((mm_d L ys 64 61 22 (a := 63) (j := 1) (x := (-1)) rfl (by decide +kernel) (by decide) trivial))).trans ?_
  refine (b_X2_init_17 ..).trans ?_
  repeat (first | refine (tz_bp (by rfl)).trans ?_ | refine (tz_bn (by rfl)).trans ?_)
  rfl
set_option maxRecDepth 100000 in
set_option maxHeartbeats 8000000 in
theorem k_X2_init_6 (d L : Nat) (ys : Nat → Int) : tqden tqP (d + 1) n_X2_init [vR 65] (mm L ys 65 62 23) = some (none, mm L ys 66 63 24) := by
  refine (dn_X2_init ..).trans ?_
  refine (b_X2_init_0 ..).trans ?_
  repeat (first | refine (tz_bp (by rfl)).trans ?_ | refine (tz_bn (by rfl)).trans ?_)
  refine (tz_rM (((congrArg (fun m => tqp m 65 0 66) (mm_new L ys 65 62 23 (kd := 1) (n := 40) rfl (by decide) (by decide +kernel) (by decide +kernel) (by decide +kernel))).trans (mm_p L ys 66 62 23 (a := 65) (j := 0) (x := 66) rfl (by decide +kernel) trivial)))).trans ?_
  refine (b_X2_init_12 ..).trans ?_
  repeat (first | refine (tz_bp (by rfl)).trans ?_ | refine (tz_bn (by rfl)).trans ?_)
  refine (tz_rM ((mm_d L ys 66 63 23 (a := 65) (j := 1) (x := (-1)) rfl (by decide +kernel) (by decide) trivial))).trans ?_
  refine (b_X2_init_17 ..).trans ?_
  repeat (first | refine (tz_bp (by rfl)).trans ?_ | refine (tz_bn (by rfl)).trans ?_)
  rfl
set_option maxRecDepth 100000 in
set_option maxHeartbeats 8000000 in
theorem k_X2_init_7 (d L : Nat) (ys : Nat → Int) : tqden tqP (d + 1) n_X2_init [vR 67] (mm L ys 67 64 24) = some (none, mm L ys 68 65 25) := by
  refine (dn_X2_init ..).trans ?_
  refine (b_X2_init_0 ..).trans ?_
  repeat (first | refine (tz_bp (by rfl)).trans ?_ | refine (tz_bn (by rfl)).trans ?_)
  refine (tz_rM (((congrArg (fun m => tqp m 67 0 68) (mm_new L ys 67 64 24 (kd := 1) (n := 40) rfl (by decide) (by decide +kernel) (by decide +kernel) (by decide +kernel))).trans (mm_p L ys 68 64 24 (a := 67) (j := 0) (x := 68) rfl (by decide +kernel) trivial)))).trans ?_
  refine (b_X2_init_12 ..).trans ?_
  repeat (first | refine (tz_bp (by rfl)).trans ?_ | refine (tz_bn (by rfl)).trans ?_)
  refine (tz_rM ((mm_d L ys 68 65 24 (a := 67) (j := 1) (x := (-1)) rfl (by decide +kernel) (by decide) trivial))).trans ?_
  refine (b_X2_init_17 ..).trans ?_
  repeat (first | refine (tz_bp (by rfl)).trans ?_ | refine (tz_bn (by rfl)).trans ?_)
  rfl
set_option maxRecDepth 100000 in
set_option maxHeartbeats 8000000 in
theorem k_X2_init_8 (d L : Nat) (ys : Nat → Int) : tqden tqP (d + 1) n_X2_init [vR 69] (mm L ys 69 66 25) = some (none, mm L ys 70 67 26) := by
  refine (dn_X2_init ..).trans ?_
  refine (b_X2_init_0 ..).trans ?_
  repeat (first | refine (tz_bp (by rfl)).trans ?_ | refine (tz_bn (by rfl)).trans ?_)
  refine (tz_rM (((congrArg (fun m => tqp m 69 0 70) (mm_new L ys 69 66 25 (kd := 1) (n := 40) rfl (by decide) (by decide +kernel) (by decide +kernel) (by decide +kernel))).trans (mm_p L ys 70 66 25 (a := 69) (j := 0) (x := 70) rfl (by decide +kernel) trivial)))).trans ?_
  refine (b_X2_init_12 ..).trans ?_
  repeat (first | refine (tz_bp (by rfl)).trans ?_ | refine (tz_bn (by rfl)).trans ?_)
  refine (tz_rM ((mm_d L ys 70 67 25 (a := 69) (j := 1) (x := (-1)) rfl (by decide +kernel) (by decide) trivial))).trans ?_
  refine (b_X2_init_17 ..).trans ?_
  repeat (first | refine (tz_bp (by rfl)).trans ?_ | refine (tz_bn (by rfl)).trans ?_)
  rfl
set_option maxRecDepth 100000 in
set_option maxHeartbeats 8000000 in
theorem k_X2_init_9 (d L : Nat) (ys : Nat → Int) : tqden tqP (d + 1) n_X2_init [vR 71] (mm L ys 71 68 26) = some (none, mm L ys 72 69 27) := by
  refine (dn_X2_init ..).trans ?_
  refine (b_X2_init_0 ..).trans ?_
  repeat (first | refine (tz_bp (by rfl)).trans ?_ | refine (tz_bn (by rfl)).trans ?_)
  refine (tz_rM (((congrArg (fun m => tqp m 71 0 72) (mm_new L ys 71 68 26 (kd := 1) (n := 40) rfl (by decide) (by decide +kernel) (by decide +kernel) (by decide +kernel))).trans (mm_p L ys 72 68 26 (a := 71) (j := 0) (x := 72) rfl (by decide +kernel) trivial)))).trans ?_
  refine (b_X2_init_12 ..).trans ?_
  repeat (first | refine (tz_bp (by rfl)).trans ?_ | refine (tz_bn (by rfl)).trans ?_)
  refine (tz_rM ((mm_d L ys 72 69 26 (a := 71) (j := 1) (x := (-1)) rfl (by decide +kernel) (by decide) trivial))).trans ?_
  refine (b_X2_init_17 ..).trans ?_
  repeat (first | refine (tz_bp (by rfl)).trans ?_ | refine (tz_bn (by rfl)).trans ?_)
  rfl
set_option maxRecDepth 100000 in
set_option maxHeartbeats 8000000 in
theorem k_X2_init_10 (d L : Nat) (ys : Nat → Int) : tqden tqP (d + 1) n_X2_init [vR 73] (mm L ys 73 70 27) = some (none, mm L ys 74 71 28) := by
  refine (dn_X2_init ..).trans ?_
  refine (b_X2_init_0 ..).trans ?_
  repeat (first | refine (tz_bp (by rfl)).trans ?_ | refine (tz_bn (by rfl)).trans ?_)
  refine (tz_rM (((congrArg (fun m => tqp m 73 0 74) (mm_new L ys 73 70 27 (kd := 1) (n := 40) rfl (by decide) (by decide +kernel) (by decide +kernel) (by decide +kernel))).trans (mm_p L ys 74 70 27 (a := 73) (j := 0) (x := 74) rfl (by decide +kernel) trivial)))).trans ?_
  refine (b_X2_init_12 ..).trans ?_
  repeat (first | refine (tz_bp (by rfl)).trans ?_ | refine (tz_bn (by rfl)).trans ?_)
  refine (tz_rM ((mm_d L ys 74 71 27 (a := 73) (j := 1) (x := (-1)) rfl (by decide +kernel) (by decide) trivial))).trans ?_
  refine (b_X2_init_17 ..).trans ?_
  repeat (first | refine (tz_bp (by rfl)).trans ?_ | refine (tz_bn (by rfl)).trans ?_)
  rfl
set_option maxRecDepth 100000 in
set_option maxHeartbeats 8000000 in
theorem k_X8_init_1 (d L : Nat) (ys : Nat → Int) : tqden tqP (d + 1) n_X8_init [vR 75] (mm L ys 75 72 28) = some (none, mm L ys 75 72 29) := by
  refine (dn_X8_init ..).trans ?_
  refine (b_X8_init_0 ..).trans ?_
  repeat (first | refine (tz_bp (by rfl)).trans ?_ | refine (tz_bn (by rfl)).trans ?_)
  refine (tz_rM ((mm_d L ys 75 72 28 (a := 75) (j := 2) (x := (-9)) rfl (by decide +kernel) (by decide) trivial))).trans ?_
  refine (b_X8_init_10 ..).trans ?_
  repeat (first | refine (tz_bp (by rfl)).trans ?_ | refine (tz_bn (by rfl)).trans ?_)
  rfl
set_option maxRecDepth 100000 in
set_option maxHeartbeats 8000000 in
theorem k_X8_init_2 (d L : Nat) (ys : Nat → Int) : tqden tqP (d + 1) n_X8_init [vR 76] (mm L ys 76 73 29) = some (none, mm L ys 76 73 30) := by
  refine (dn_X8_init ..).trans ?_
  refine (b_X8_init_0 ..).trans ?_
  repeat (first | refine (tz_bp (by rfl)).trans ?_ | refine (tz_bn (by rfl)).trans ?_)
  refine (tz_rM ((mm_d L ys 76 73 29 (a := 76) (j := 2) (x := (-9)) rfl (by decide +kernel) (by decide) trivial))).trans ?_
  refine (b_X8_init_10 ..).trans ?_
  repeat (first | refine (tz_bp (by rfl)).trans ?_ | refine (tz_bn (by rfl)).trans ?_)
  rfl
set_option maxRecDepth 100000 in
set_option maxHeartbeats 8000000 in
theorem k_X8_init_3 (d L : Nat) (ys : Nat → Int) : tqden tqP (d + 1) n_X8_init [vR 77] (mm L ys 77 74 30) = some (none, mm L ys 77 74 31) := by
  refine (dn_X8_init ..).trans ?_
  refine (b_X8_init_0 ..).trans ?_
  repeat (first | refine (tz_bp (by rfl)).trans ?_ | refine (tz_bn (by rfl)).trans ?_)
  refine (tz_rM ((mm_d L ys 77 74 30 (a := 77) (j := 2) (x := (-9)) rfl (by decide +kernel) (by decide) trivial))).trans ?_
  refine (b_X8_init_10 ..).trans ?_
  repeat (first | refine (tz_bp (by rfl)).trans ?_ | refine (tz_bn (by rfl)).trans ?_)
  rfl
set_option maxRecDepth 100000 in
set_option maxHeartbeats 8000000 in
theorem k_X8_init_4 (d L : Nat) (ys : Nat → Int) : tqden tqP (d + 1) n_X8_init [vR 78] (mm L ys 78 75 31) = some (none, mm L ys 78 75 32) := by
  refine (dn_X8_init ..).trans ?_
  refine (b_X8_init_0 ..).trans ?_
  repeat (first | refine (tz_bp (by rfl)).trans ?_ | refine (tz_bn (by rfl)).trans ?_)
  refine (tz_rM ((mm_d L ys 78 75 31 (a := 78) (j := 2) (x := (-9)) rfl (by decide +kernel) (by decide) trivial))).trans ?_
  refine (b_X8_init_10 ..).trans ?_
  repeat (first | refine (tz_bp (by rfl)).trans ?_ | refine (tz_bn (by rfl)).trans ?_)
  rfl
set_option maxRecDepth 100000 in
set_option maxHeartbeats 8000000 in
theorem k_X8_init_5 (d L : Nat) (ys : Nat → Int) : tqden tqP (d + 1) n_X8_init [vR 79] (mm L ys 79 76 32) = some (none, mm L ys 79 76 33) := by
  refine (dn_X8_init ..).trans ?_
  refine (b_X8_init_0 ..).trans ?_
  repeat (first | refine (tz_bp (by rfl)).trans ?_ | refine (tz_bn (by rfl)).trans ?_)
  refine (tz_rM ((mm_d L ys 79 76 32 (a := 79) (j := 2) (x := (-9)) rfl (by decide +kernel) (by decide) trivial))).trans ?_
  refine (b_X8_init_10 ..).trans ?_
  repeat (first | refine (tz_bp (by rfl)).trans ?_ | refine (tz_bn (by rfl)).trans ?_)
  rfl
set_option maxRecDepth 100000 in
set_option maxHeartbeats 8000000 in
theorem k_X8_init_6 (d L : Nat) (ys : Nat → Int) : tqden tqP (d + 1) n_X8_init [vR 80] (mm L ys 80 77 33) = some (none, mm L ys 80 77 34) := by
  refine (dn_X8_init ..).trans ?_
  refine (b_X8_init_0 ..).trans ?_
  repeat (first | refine (tz_bp (by rfl)).trans ?_ | refine (tz_bn (by rfl)).trans ?_)
  refine (tz_rM ((mm_d L ys 80 77 33 (a := 80) (j := 2) (x := (-9)) rfl (by decide +kernel) (by decide) trivial))).trans ?_
  refine (b_X8_init_10 ..).trans ?_
  repeat (first | refine (tz_bp (by rfl)).trans ?_ | refine (tz_bn (by rfl)).trans ?_)
  rfl
set_option maxRecDepth 100000 in
set_option maxHeartbeats 8000000 in
theorem k_X11_init_1 (d L : Nat) (ys : Nat → Int) : tqden tqP (d + 2) n_X11_init [vR 2] (mm L ys 2 0 0) = some (none, mm L ys 80 78 34) := by
  refine (dn_X11_init ..).trans ?_
  refine (b_X11_init_0 ..).trans ?_
  repeat (first | refine (tz_bp (by rfl)).trans ?_ | refine (tz_bn (by rfl)).trans ?_)
  refine (tz_rM (((congrArg (fun m => tqp m 2 0 3) (mm_new L ys 2 0 0 (kd := 4) (n := 6) rfl (by decide) (by decide +kernel) (by decide +kernel) (by decide +kernel))).trans (mm_p L ys 3 0 0 (a := 2) (j := 0) (x := 3) rfl (by decide +kernel) trivial)))).trans ?_
  refine (b_X11_init_13 ..).trans ?_
  repeat (first | refine (tz_bp (by rfl)).trans ?_ | refine (tz_bn (by rfl)).trans ?_)
  refine (tz_rM (((congrArg (fun m => tqp m 2 1 4) (mm_new L ys 3 1 0 (kd := 4) (n := 4) rfl (by decide) (by decide +kernel) (by decide +kernel) (by decide +kernel))).trans (mm_p L ys 4 1 0 (a := 2) (j := 1) (x := 4) rfl (by decide +kernel) trivial)))).trans ?_
  refine (b_X11_init_21 ..).trans ?_
  repeat (first | refine (tz_bp (by rfl)).trans ?_ | refine (tz_bn (by rfl)).trans ?_)
  refine (tz_rM (((congrArg (fun m => tqp m 2 2 5) (mm_new L ys 4 2 0 (kd := 5) (n := 6) rfl (by decide) (by decide +kernel) (by decide +kernel) (by decide +kernel))).trans (mm_p L ys 5 2 0 (a := 2) (j := 2) (x := 5) rfl (by decide +kernel) trivial)))).trans ?_
  refine (b_X11_init_30 ..).trans ?_
  repeat (first | refine (tz_bp (by rfl)).trans ?_ | refine (tz_bn (by rfl)).trans ?_)
  refine (tz_rM (((congrArg (fun m => tqp m 2 3 6) (mm_new L ys 5 3 0 (kd := 6) (n := 12) rfl (by decide) (by decide +kernel) (by decide +kernel) (by decide +kernel))).trans (mm_p L ys 6 3 0 (a := 2) (j := 3) (x := 6) rfl (by decide +kernel) trivial)))).trans ?_
  refine (b_X11_init_39 ..).trans ?_
  repeat (first | refine (tz_bp (by rfl)).trans ?_ | refine (tz_bn (by rfl)).trans ?_)
  refine (tz_b0 ((tz_rD ((mm_new L ys 6 4 0 (kd := 20) (n := 6) rfl (by decide) (by decide +kernel) (by decide +kernel) (by decide +kernel)))).trans (k_X10_init_1 _ L ys))).trans ?_
  repeat (first | refine (tz_bp (by rfl)).trans ?_ | refine (tz_bn (by rfl)).trans ?_)
  refine (tz_rM ((mm_p L ys 12 9 0 (a := 2) (j := 4) (x := 7) rfl (by decide +kernel) trivial))).trans ?_
  refine (b_X11_init_50 ..).trans ?_
  repeat (first | refine (tz_bp (by rfl)).trans ?_ | refine (tz_bn (by rfl)).trans ?_)
  refine (tz_b0 ((tz_rD ((mm_new L ys 12 10 0 (kd := 11) (n := 5) rfl (by decide) (by decide +kernel) (by decide +kernel) (by decide +kernel)))).trans (k_X1_init_1 _ L ys))).trans ?_
  repeat (first | refine (tz_bp (by rfl)).trans ?_ | refine (tz_bn (by rfl)).trans ?_)
  refine (tz_rM ((mm_p L ys 17 14 0 (a := 2) (j := 5) (x := 13) rfl (by decide +kernel) trivial))).trans ?_
  refine (b_X11_init_61 ..).trans ?_
  repeat (first | refine (tz_bp (by rfl)).trans ?_ | refine (tz_bn (by rfl)).trans ?_)
  refine (tz_b0 ((tz_rD ((mm_new L ys 17 15 0 (kd := 17) (n := 5) rfl (by decide) (by decide +kernel) (by decide +kernel) (by decide +kernel)))).trans (k_X7_init_1 _ L ys))).trans ?_
  repeat (first | refine (tz_bp (by rfl)).trans ?_ | refine (tz_bn (by rfl)).trans ?_)
  refine (tz_rM ((mm_p L ys 22 19 0 (a := 2) (j := 6) (x := 18) rfl (by decide +kernel) trivial))).trans ?_
  refine (b_X11_init_72 ..).trans ?_
  repeat (first | refine (tz_bp (by rfl)).trans ?_ | refine (tz_bn (by rfl)).trans ?_)
  refine (tz_b0 ((tz_rD ((mm_new L ys 22 20 0 (kd := 16) (n := 9) rfl (by decide) (by decide +kernel) (by decide +kernel) (by decide +kernel)))).trans (k_X6_init_1 _ L ys))).trans ?_
  repeat (first | refine (tz_bp (by rfl)).trans ?_ | refine (tz_bn (by rfl)).trans ?_)
  refine (tz_rM ((mm_p L ys 29 26 15 (a := 2) (j := 7) (x := 23) rfl (by decide +kernel) trivial))).trans ?_
  refine (b_X11_init_83 ..).trans ?_
  repeat (first | refine (tz_bp (by rfl)).trans ?_ | refine (tz_bn (by rfl)).trans ?_)
  refine (tz_b0 ((tz_rD ((mm_new L ys 29 27 15 (kd := 15) (n := 7) rfl (by decide) (by decide +kernel) (by decide +kernel) (by decide +kernel)))).trans (k_X5_init_1 _ L ys))).trans ?_
  repeat (first | refine (tz_bp (by rfl)).trans ?_ | refine (tz_bn (by rfl)).trans ?_)
  refine (tz_rM ((mm_p L ys 40 37 15 (a := 2) (j := 8) (x := 30) rfl (by decide +kernel) trivial))).trans ?_
  refine (b_X11_init_94 ..).trans ?_
  repeat (first | refine (tz_bp (by rfl)).trans ?_ | refine (tz_bn (by rfl)).trans ?_)
  refine (tz_b0 ((tz_rD ((mm_new L ys 40 38 15 (kd := 13) (n := 9) rfl (by decide) (by decide +kernel) (by decide +kernel) (by decide +kernel)))).trans (k_X3_init_1 _ L ys))).trans ?_
  repeat (first | refine (tz_bp (by rfl)).trans ?_ | refine (tz_bn (by rfl)).trans ?_)
  refine (tz_rM ((mm_p L ys 49 46 15 (a := 2) (j := 9) (x := 41) rfl (by decide +kernel) trivial))).trans ?_
  refine (b_X11_init_105 ..).trans ?_
  repeat (first | refine (tz_bp (by rfl)).trans ?_ | refine (tz_bn (by rfl)).trans ?_)
  refine (tz_b0 ((tz_rD ((mm_new L ys 49 47 15 (kd := 14) (n := 8) rfl (by decide) (by decide +kernel) (by decide +kernel) (by decide +kernel)))).trans (k_X4_init_1 _ L ys))).trans ?_
  repeat (first | refine (tz_bp (by rfl)).trans ?_ | refine (tz_bn (by rfl)).trans ?_)
  refine (tz_rM ((mm_p L ys 52 49 15 (a := 2) (j := 10) (x := 50) rfl (by decide +kernel) trivial))).trans ?_
  refine (b_X11_init_116 ..).trans ?_
  repeat (first | refine (tz_bp (by rfl)).trans ?_ | refine (tz_bn (by rfl)).trans ?_)
  refine (tz_b0 ((tz_rD ((mm_new L ys 52 50 15 (kd := 10) (n := 6) rfl (by decide) (by decide +kernel) (by decide +kernel) (by decide +kernel)))).trans (k_X0_init_1 _ L ys))).trans ?_
  repeat (first | refine (tz_bp (by rfl)).trans ?_ | refine (tz_bn (by rfl)).trans ?_)
  refine (tz_rM ((mm_p L ys 54 51 16 (a := 2) (j := 11) (x := 53) rfl (by decide +kernel) trivial))).trans ?_
  refine (b_X11_init_127 ..).trans ?_
  repeat (first | refine (tz_bp (by rfl)).trans ?_ | refine (tz_bn (by rfl)).trans ?_)
  refine (tz_rM ((mm_d L ys 54 52 16 (a := 2) (j := 14) (x := 20000) rfl (by decide +kernel) (by decide) trivial))).trans ?_
  refine (b_X11_init_134 ..).trans ?_
  repeat (first | refine (tz_bp (by rfl)).trans ?_ | refine (tz_bn (by rfl)).trans ?_)
  refine (tz_rM ((mm_d L ys 54 52 17 (a := 2) (j := 15) (x := 20000) rfl (by decide +kernel) (by decide) trivial))).trans ?_
  refine (b_X11_init_141 ..).trans ?_
  repeat (first | refine (tz_bp (by rfl)).trans ?_ | refine (tz_bn (by rfl)).trans ?_)
  refine (b_X11_init_143 ..).trans ?_
  repeat (first | refine (tz_bp (by rfl)).trans ?_ | refine (tz_bn (by rfl)).trans ?_)
  refine (tz_b0 ((tz_rD ((mm_new L ys 54 52 18 (kd := 12) (n := 2) rfl (by decide) (by decide +kernel) (by decide +kernel) (by decide +kernel)))).trans (k_X2_init_1 _ L ys))).trans ?_
  repeat (first | refine (tz_bp (by rfl)).trans ?_ | refine (tz_bn (by rfl)).trans ?_)
  refine (tz_rM ((mm_p L ys 56 53 19 (a := 3) (j := 0) (x := 55) rfl (by decide +kernel) trivial))).trans ?_
  refine (b_X11_init_143 ..).trans ?_
  repeat (first | refine (tz_bp (by rfl)).trans ?_ | refine (tz_bn (by rfl)).trans ?_)
  refine (tz_b0 ((tz_rD ((mm_new L ys 56 54 19 (kd := 12) (n := 2) rfl (by decide) (by decide +kernel) (by decide +kernel) (by decide +kernel)))).trans (k_X2_init_2 _ L ys))).trans ?_
  repeat (first | refine (tz_bp (by rfl)).trans ?_ | refine (tz_bn (by rfl)).trans ?_)
  refine (tz_rM ((mm_p L ys 58 55 20 (a := 3) (j := 1) (x := 57) rfl (by decide +kernel) trivial))).trans ?_
  refine (b_X11_init_143 ..).trans ?_
  repeat (first | refine (tz_bp (by rfl)).trans ?_ | refine (tz_bn (by rfl)).trans ?_)
  refine (tz_b0 ((tz_rD ((mm_new L ys 58 56 20 (kd := 12) (n := 2) rfl (by decide) (by decide +kernel) (by decide +kernel) (by decide +kernel)))).trans (k_X2_init_3 _ L ys))).trans ?_
  repeat (first | refine (tz_bp (by rfl)).trans ?_ | refine (tz_bn (by rfl)).trans ?_)
  refine (tz_rM ((mm_p L ys 60 57 21 (a := 3) (j := 2) (x := 59) rfl (by decide +kernel) trivial))).trans ?_
  refine (b_X11_init_143 ..).trans ?_
  repeat (first | refine (tz_bp (by rfl)).trans ?_ | refine (tz_bn (by rfl)).trans ?_)
  refine (tz_b0 ((tz_rD ((mm_new L ys 60 58 21 (kd := 12) (n := 2) rfl (by decide) (by decide +kernel) (by decide +kernel) (by decide +kernel)))).trans (k_X2_init_4 _ L ys))).trans ?_
  repeat (first | refine (tz_bp (by rfl)).trans ?_ | refine (tz_bn (by rfl)).trans ?_)
  refine (tz_rM ((mm_p L ys 62 59 22 (a := 3) (j := 3) (x := 61) rfl (by decide +kernel) trivial))).trans ?_
  refine (b_X11_init_143 ..).trans ?_
  repeat (first | refine (tz_bp (by rfl)).trans ?_ | refine (tz_bn (by rfl)).trans ?_)
  refine (tz_b0 ((tz_rD ((mm_new L ys 62 60 22 (kd := 12) (n := 2) rfl (by decide) (by decide +kernel) (by decide +kernel) (by decide +kernel)))).trans (k_X2_init_5 _ L ys))).trans ?_
  repeat (first | refine (tz_bp (by rfl)).trans ?_ | refine (tz_bn (by rfl)).trans ?_)
  refine (tz_rM ((mm_p L ys 64 61 23 (a := 3) (j := 4) (x := 63) rfl (by decide +kernel) trivial))).trans ?_
  refine (b_X11_init_143 ..).trans ?_
  repeat (first | refine (tz_bp (by rfl)).trans ?_ | refine (tz_bn (by rfl)).trans ?_)
  refine (tz_b0 ((tz_rD ((mm_new L ys 64 62 23 (kd := 12) (n := 2) rfl (by decide) (by decide +kernel) (by decide +kernel) (by decide +kernel)))).trans (k_X2_init_6 _ L ys))).trans ?_
  repeat (first | refine (tz_bp (by rfl)).trans ?_ | refine (tz_bn (by rfl)).trans ?_)
  refine (tz_rM ((mm_p L ys 66 63 24 (a := 3) (j := 5) (x := 65) rfl (by decide +kernel) trivial))).trans ?_
  refine (b_X11_init_143 ..).trans ?_
  repeat (first | refine (tz_bp (by rfl)).trans ?_ | refine (tz_bn (by rfl)).trans ?_)
  refine (b_X11_init_170 ..).trans ?_
  repeat (first | refine (tz_bp (by rfl)).trans ?_ | refine (tz_bn (by rfl)).trans ?_)
  refine (tz_b0 ((tz_rD ((mm_new L ys 66 64 24 (kd := 12) (n := 2) rfl (by decide) (by decide +kernel) (by decide +kernel) (by decide +kernel)))).trans (k_X2_init_7 _ L ys))).trans ?_
  repeat (first | refine (tz_bp (by rfl)).trans ?_ | refine (tz_bn (by rfl)).trans ?_)
  refine (tz_rM ((mm_p L ys 68 65 25 (a := 4) (j := 0) (x := 67) rfl (by decide +kernel) trivial))).trans ?_
  refine (b_X11_init_170 ..).trans ?_
  repeat (first | refine (tz_bp (by rfl)).trans ?_ | refine (tz_bn (by rfl)).trans ?_)
  refine (tz_b0 ((tz_rD ((mm_new L ys 68 66 25 (kd := 12) (n := 2) rfl (by decide) (by decide +kernel) (by decide +kernel) (by decide +kernel)))).trans (k_X2_init_8 _ L ys))).trans ?_
  repeat (first | refine (tz_bp (by rfl)).trans ?_ | refine (tz_bn (by rfl)).trans ?_)
  refine (tz_rM ((mm_p L ys 70 67 26 (a := 4) (j := 1) (x := 69) rfl (by decide +kernel) trivial))).trans ?_
  refine (b_X11_init_170 ..).trans ?_
  repeat (first | refine (tz_bp (by rfl)).trans ?_ | refine (tz_bn (by rfl)).trans ?_)
  refine (tz_b0 ((tz_rD ((mm_new L ys 70 68 26 (kd := 12) (n := 2) rfl (by decide) (by decide +kernel) (by decide +kernel) (by decide +kernel)))).trans (k_X2_init_9 _ L ys))).trans ?_
  repeat (first | refine (tz_bp (by rfl)).trans ?_ | refine (tz_bn (by rfl)).trans ?_)
  refine (tz_rM ((mm_p L ys 72 69 27 (a := 4) (j := 2) (x := 71) rfl (by decide +kernel) trivial))).trans ?_
  refine (b_X11_init_170 ..).trans ?_
  repeat (first | refine (tz_bp (by rfl)).trans ?_ | refine (tz_bn (by rfl)).trans ?_)
  refine (tz_b0 ((tz_rD ((mm_new L ys 72 70 27 (kd := 12) (n := 2) rfl (by decide) (by decide +kernel) (by decide +kernel) (by decide +kernel)))).trans (k_X2_init_10 _ L ys))).trans ?_
  repeat (first | refine (tz_bp (by rfl)).trans ?_ | refine (tz_bn (by rfl)).trans ?_)
  refine (tz_rM ((mm_p L ys 74 71 28 (a := 4) (j := 3) (x := 73) rfl (by decide +kernel) trivial))).trans ?_
  refine (b_X11_init_170 ..).trans ?_
  repeat (first | refine (tz_bp (by rfl)).trans ?_ | refine (tz_bn (by rfl)).trans ?_)
  refine (b_X11_init_196 ..).trans ?_
  repeat (first | refine (tz_bp (by rfl)).trans ?_ | refine (tz_bn (by rfl)).trans ?_)
  refine (tz_b0 ((tz_rD ((mm_new L ys 74 72 28 (kd := 18) (n := 5) rfl (by decide) (by decide +kernel) (by decide +kernel) (by decide +kernel)))).trans (k_X8_init_1 _ L ys))).trans ?_
  repeat (first | refine (tz_bp (by rfl)).trans ?_ | refine (tz_bn (by rfl)).trans ?_)
  refine (tz_rM ((mm_p L ys 75 72 29 (a := 5) (j := 0) (x := 75) rfl (by decide +kernel) trivial))).trans ?_
  refine (b_X11_init_196 ..).trans ?_
  repeat (first | refine (tz_bp (by rfl)).trans ?_ | refine (tz_bn (by rfl)).trans ?_)
  refine (tz_b0 ((tz_rD ((mm_new L ys 75 73 29 (kd := 18) (n := 5) rfl (by decide) (by decide +kernel) (by decide +kernel) (by decide +kernel)))).trans (k_X8_init_2 _ L ys))).trans ?_
  repeat (first | refine (tz_bp (by rfl)).trans ?_ | refine (tz_bn (by rfl)).trans ?_)
  refine (tz_rM ((mm_p L ys 76 73 30 (a := 5) (j := 1) (x := 76) rfl (by decide +kernel) trivial))).trans ?_
  refine (b_X11_init_196 ..).trans ?_
  repeat (first | refine (tz_bp (by rfl)).trans ?_ | refine (tz_bn (by rfl)).trans ?_)
  refine (tz_b0 ((tz_rD ((mm_new L ys 76 74 30 (kd := 18) (n := 5) rfl (by decide) (by decide +kernel) (by decide +kernel) (by decide +kernel)))).trans (k_X8_init_3 _ L ys))).trans ?_
  repeat (first | refine (tz_bp (by rfl)).trans ?_ | refine (tz_bn (by rfl)).trans ?_)
  refine (tz_rM ((mm_p L ys 77 74 31 (a := 5) (j := 2) (x := 77) rfl (by decide +kernel) trivial))).trans ?_
  refine (b_X11_init_196 ..).trans ?_
  repeat (first | refine (tz_bp (by rfl)).trans ?_ | refine (tz_bn (by rfl)).trans ?_)
  refine (tz_b0 ((tz_rD ((mm_new L ys 77 75 31 (kd := 18) (n := 5) rfl (by decide) (by decide +kernel) (by decide +kernel) (by decide +kernel)))).trans (k_X8_init_4 _ L ys))).trans ?_
  repeat (first | refine (tz_bp (by rfl)).trans ?_ | refine (tz_bn (by rfl)).trans ?_)
  refine (tz_rM ((mm_p L ys 78 75 32 (a := 5) (j := 3) (x := 78) rfl (by decide +kernel) trivial))).trans ?_
  refine (b_X11_init_196 ..).trans ?_
  repeat (first | refine (tz_bp (by rfl)).trans ?_ | refine (tz_bn (by rfl)).trans ?_)
  refine (tz_b0 ((tz_rD ((mm_new L ys 78 76 32 (kd := 18) (n := 5) rfl (by decide) (by decide +kernel) (by decide +kernel) (by decide +kernel)))).trans (k_X8_init_5 _ L ys))).trans ?_
  repeat (first | refine (tz_bp (by rfl)).trans ?_ | refine (tz_bn (by rfl)).trans ?_)
  refine (tz_rM ((mm_p L ys 79 76 33 (a := 5) (j := 4) (x := 79) rfl (by decide +kernel) trivial))).trans ?_
  refine (b_X11_init_196 ..).trans ?_
  repeat (first | refine (tz_bp (by rfl)).trans ?_ | refine (tz_bn (by rfl)).trans ?_)
  refine (tz_b0 ((tz_rD ((mm_new L ys 79 77 33 (kd := 18) (n := 5) rfl (by decide) (by decide +kernel) (by decide +kernel) (by decide +kernel)))).trans (k_X8_init_6 _ L ys))).trans ?_
  repeat (first | refine (tz_bp (by rfl)).trans ?_ | refine (tz_bn (by rfl)).trans ?_)
  refine (tz_rM ((mm_p L ys 80 77 34 (a := 5) (j := 5) (x := 80) rfl (by decide +kernel) trivial))).trans ?_
  refine (b_X11_init_196 ..).trans ?_
  repeat (first | refine (tz_bp (by rfl)).trans ?_ | refine (tz_bn (by rfl)).trans ?_)
  rfl
set_option maxRecDepth 100000 in
set_option maxHeartbeats 8000000 in
theorem k_X12_init_1 (d L : Nat) (ys : Nat → Int) : tqden tqP (d + 1) n_X12_init [vR 81] (mm L ys 81 78 34) = some (none, mm L ys 132 129 59) := by
  refine (dn_X12_init ..).trans ?_
  refine (b_X12_init_0 ..).trans ?_
  repeat (first | refine (tz_bp (by rfl)).trans ?_ | refine (tz_bn (by rfl)).trans ?_)
  refine (tz_rM (((congrArg (fun m => tqp m 81 1 82) (mm_new L ys 81 78 34 (kd := 1) (n := 6) rfl (by decide) (by decide +kernel) (by decide +kernel) (by decide +kernel))).trans (mm_p L ys 82 78 34 (a := 81) (j := 1) (x := 82) rfl (by decide +kernel) trivial)))).trans ?_
  refine (b_X12_init_12 ..).trans ?_
  repeat (first | refine (tz_bp (by rfl)).trans ?_ | refine (tz_bn (by rfl)).trans ?_)
  refine (tz_rM ((mm_d L ys 82 79 34 (a := 81) (j := 4) (x := 1) rfl (by decide +kernel) (by decide) trivial))).trans ?_
  refine (b_X12_init_17 ..).trans ?_
  repeat (first | refine (tz_bp (by rfl)).trans ?_ | refine (tz_bn (by rfl)).trans ?_)
  refine (tz_rM (((congrArg (fun m => tqp m 81 6 83) (mm_new L ys 82 79 35 (kd := 1) (n := 6) rfl (by decide) (by decide +kernel) (by decide +kernel) (by decide +kernel))).trans (mm_p L ys 83 79 35 (a := 81) (j := 6) (x := 83) rfl (by decide +kernel) trivial)))).trans ?_
  refine (b_X12_init_25 ..).trans ?_
  repeat (first | refine (tz_bp (by rfl)).trans ?_ | refine (tz_bn (by rfl)).trans ?_)
  refine (tz_rM (((congrArg (fun m => tqp m 81 7 84) (mm_new L ys 83 80 35 (kd := 1) (n := 240) rfl (by decide) (by decide +kernel) (by decide +kernel) (by decide +kernel))).trans (mm_p L ys 84 80 35 (a := 81) (j := 7) (x := 84) rfl (by decide +kernel) trivial)))).trans ?_
  refine (b_X12_init_34 ..).trans ?_
  repeat (first | refine (tz_bp (by rfl)).trans ?_ | refine (tz_bn (by rfl)).trans ?_)
  refine (tz_rM (((congrArg (fun m => tqp m 81 8 85) (mm_new L ys 84 81 35 (kd := 1) (n := 40) rfl (by decide) (by decide +kernel) (by decide +kernel) (by decide +kernel))).trans (mm_p L ys 85 81 35 (a := 81) (j := 8) (x := 85) rfl (by decide +kernel) trivial)))).trans ?_
  refine (b_X12_init_42 ..).trans ?_
  repeat (first | refine (tz_bp (by rfl)).trans ?_ | refine (tz_bn (by rfl)).trans ?_)
  refine (tz_rM (((congrArg (fun m => tqp m 81 9 86) (mm_new L ys 85 82 35 (kd := 1) (n := 4) rfl (by decide) (by decide +kernel) (by decide +kernel) (by decide +kernel))).trans (mm_p L ys 86 82 35 (a := 81) (j := 9) (x := 86) rfl (by decide +kernel) trivial)))).trans ?_
  refine (b_X12_init_49 ..).trans ?_
  repeat (first | refine (tz_bp (by rfl)).trans ?_ | refine (tz_bn (by rfl)).trans ?_)
  refine (tz_rM (((congrArg (fun m => tqp m 81 10 87) (mm_new L ys 86 83 35 (kd := 1) (n := 160) rfl (by decide) (by decide +kernel) (by decide +kernel) (by decide +kernel))).trans (mm_p L ys 87 83 35 (a := 81) (j := 10) (x := 87) rfl (by decide +kernel) trivial)))).trans ?_
  refine (b_X12_init_58 ..).trans ?_
  repeat (first | refine (tz_bp (by rfl)).trans ?_ | refine (tz_bn (by rfl)).trans ?_)
  refine (tz_rM (((congrArg (fun m => tqp m 81 11 88) (mm_new L ys 87 84 35 (kd := 1) (n := 64) rfl (by decide) (by decide +kernel) (by decide +kernel) (by decide +kernel))).trans (mm_p L ys 88 84 35 (a := 81) (j := 11) (x := 88) rfl (by decide +kernel) trivial)))).trans ?_
  refine (b_X12_init_66 ..).trans ?_
  repeat (first | refine (tz_bp (by rfl)).trans ?_ | refine (tz_bn (by rfl)).trans ?_)
  refine (tz_rM (((congrArg (fun m => tqp m 81 12 89) (mm_new L ys 88 85 35 (kd := 1) (n := 64) rfl (by decide) (by decide +kernel) (by decide +kernel) (by decide +kernel))).trans (mm_p L ys 89 85 35 (a := 81) (j := 12) (x := 89) rfl (by decide +kernel) trivial)))).trans ?_
  refine (b_X12_init_74 ..).trans ?_
  repeat (first | refine (tz_bp (by rfl)).trans ?_ | refine (tz_bn (by rfl)).trans ?_)
  refine (tz_rM (((congrArg (fun m => tqp m 81 13 90) (mm_new L ys 89 86 35 (kd := 1) (n := 64) rfl (by decide) (by decide +kernel) (by decide +kernel) (by decide +kernel))).trans (mm_p L ys 90 86 35 (a := 81) (j := 13) (x := 90) rfl (by decide +kernel) trivial)))).trans ?_
  refine (b_X12_init_82 ..).trans ?_
  repeat (first | refine (tz_bp (by rfl)).trans ?_ | refine (tz_bn (by rfl)).trans ?_)
  refine (tz_rM (((congrArg (fun m => tqp m 81 14 91) (mm_new L ys 90 87 35 (kd := 1) (n := 64) rfl (by decide) (by decide +kernel) (by decide +kernel) (by decide +kernel))).trans (mm_p L ys 91 87 35 (a := 81) (j := 14) (x := 91) rfl (by decide +kernel) trivial)))).trans ?_
  refine (b_X12_init_90 ..).trans ?_
  repeat (first | refine (tz_bp (by rfl)).trans ?_ | refine (tz_bn (by rfl)).trans ?_)
  refine (tz_rM (((congrArg (fun m => tqp m 81 15 92) (mm_new L ys 91 88 35 (kd := 1) (n := 8) rfl (by decide) (by decide +kernel) (by decide +kernel) (by decide +kernel))).trans (mm_p L ys 92 88 35 (a := 81) (j := 15) (x := 92) rfl (by decide +kernel) trivial)))).trans ?_
  refine (b_X12_init_98 ..).trans ?_
  repeat (first | refine (tz_bp (by rfl)).trans ?_ | refine (tz_bn (by rfl)).trans ?_)
  refine (tz_rM (((congrArg (fun m => tqp m 81 17 93) (mm_new L ys 92 89 35 (kd := 1) (n := 12) rfl (by decide) (by decide +kernel) (by decide +kernel) (by decide +kernel))).trans (mm_p L ys 93 89 35 (a := 81) (j := 17) (x := 93) rfl (by decide +kernel) trivial)))).trans ?_
  refine (b_X12_init_106 ..).trans ?_
  repeat (first | refine (tz_bp (by rfl)).trans ?_ | refine (tz_bn (by rfl)).trans ?_)
  refine (tz_rM (((congrArg (fun m => tqp m 81 18 94) (mm_new L ys 93 90 35 (kd := 1) (n := 12) rfl (by decide) (by decide +kernel) (by decide +kernel) (by decide +kernel))).trans (mm_p L ys 94 90 35 (a := 81) (j := 18) (x := 94) rfl (by decide +kernel) trivial)))).trans ?_
  refine (b_X12_init_114 ..).trans ?_
  repeat (first | refine (tz_bp (by rfl)).trans ?_ | refine (tz_bn (by rfl)).trans ?_)
  refine (tz_rM (((congrArg (fun m => tqp m 81 19 95) (mm_new L ys 94 91 35 (kd := 1) (n := 12) rfl (by decide) (by decide +kernel) (by decide +kernel) (by decide +kernel))).trans (mm_p L ys 95 91 35 (a := 81) (j := 19) (x := 95) rfl (by decide +kernel) trivial)))).trans ?_
  refine (b_X12_init_122 ..).trans ?_
  repeat (first | refine (tz_bp (by rfl)).trans ?_ | refine (tz_bn (by rfl)).trans ?_)
  refine (tz_rM (((congrArg (fun m => tqp m 81 20 96) (mm_new L ys 95 92 35 (kd := 3) (n := 12) rfl (by decide) (by decide +kernel) (by decide +kernel) (by decide +kernel))).trans (mm_p L ys 96 92 35 (a := 81) (j := 20) (x := 96) rfl (by decide +kernel) trivial)))).trans ?_
  refine (b_X12_init_130 ..).trans ?_
  repeat (first | refine (tz_bp (by rfl)).trans ?_ | refine (tz_bn (by rfl)).trans ?_)
  refine (tz_rM (((congrArg (fun m => tqp m 81 21 97) (mm_new L ys 96 93 35 (kd := 1) (n := 12) rfl (by decide) (by decide +kernel) (by decide +kernel) (by decide +kernel))).trans (mm_p L ys 97 93 35 (a := 81) (j := 21) (x := 97) rfl (by decide +kernel) trivial)))).trans ?_
  refine (b_X12_init_138 ..).trans ?_
  repeat (first | refine (tz_bp (by rfl)).trans ?_ | refine (tz_bn (by rfl)).trans ?_)
  refine (tz_rM (((congrArg (fun m => tqp m 81 22 98) (mm_new L ys 97 94 35 (kd := 1) (n := 12) rfl (by decide) (by decide +kernel) (by decide +kernel) (by decide +kernel))).trans (mm_p L ys 98 94 35 (a := 81) (j := 22) (x := 98) rfl (by decide +kernel) trivial)))).trans ?_
  refine (b_X12_init_146 ..).trans ?_
  repeat (first | refine (tz_bp (by rfl)).trans ?_ | refine (tz_bn (by rfl)).trans ?_)
  refine (tz_rM (((congrArg (fun m => tqp m 81 23 99) (mm_new L ys 98 95 35 (kd := 1) (n := 12) rfl (by decide) (by decide +kernel) (by decide +kernel) (by decide +kernel))).trans (mm_p L ys 99 95 35 (a := 81) (j := 23) (x := 99) rfl (by decide +kernel) trivial)))).trans ?_
  refine (b_X12_init_154 ..).trans ?_
  repeat (first | refine (tz_bp (by rfl)).trans ?_ | refine (tz_bn (by rfl)).trans ?_)
  refine (tz_rM (((congrArg (fun m => tqp m 81 24 100) (mm_new L ys 99 96 35 (kd := 1) (n := 72) rfl (by decide) (by decide +kernel) (by decide +kernel) (by decide +kernel))).trans (mm_p L ys 100 96 35 (a := 81) (j := 24) (x := 100) rfl (by decide +kernel) trivial)))).trans ?_
  refine (b_X12_init_162 ..).trans ?_
  repeat (first | refine (tz_bp (by rfl)).trans ?_ | refine (tz_bn (by rfl)).trans ?_)
  refine (tz_rM (((congrArg (fun m => tqp m 81 25 101) (mm_new L ys 100 97 35 (kd := 1) (n := 72) rfl (by decide) (by decide +kernel) (by decide +kernel) (by decide +kernel))).trans (mm_p L ys 101 97 35 (a := 81) (j := 25) (x := 101) rfl (by decide +kernel) trivial)))).trans ?_
  refine (b_X12_init_170 ..).trans ?_
  repeat (first | refine (tz_bp (by rfl)).trans ?_ | refine (tz_bn (by rfl)).trans ?_)
  refine (tz_rM (((congrArg (fun m => tqp m 81 26 102) (mm_new L ys 101 98 35 (kd := 3) (n := 12) rfl (by decide) (by decide +kernel) (by decide +kernel) (by decide +kernel))).trans (mm_p L ys 102 98 35 (a := 81) (j := 26) (x := 102) rfl (by decide +kernel) trivial)))).trans ?_
  refine (b_X12_init_178 ..).trans ?_
  repeat (first | refine (tz_bp (by rfl)).trans ?_ | refine (tz_bn (by rfl)).trans ?_)
  refine (tz_rM (((congrArg (fun m => tqp m 81 27 103) (mm_new L ys 102 99 35 (kd := 1) (n := 12) rfl (by decide) (by decide +kernel) (by decide +kernel) (by decide +kernel))).trans (mm_p L ys 103 99 35 (a := 81) (j := 27) (x := 103) rfl (by decide +kernel) trivial)))).trans ?_
  refine (b_X12_init_186 ..).trans ?_
  repeat (first | refine (tz_bp (by rfl)).trans ?_ | refine (tz_bn (by rfl)).trans ?_)
  refine (tz_rM (((congrArg (fun m => tqp m 81 28 104) (mm_new L ys 103 100 35 (kd := 1) (n := 12) rfl (by decide) (by decide +kernel) (by decide +kernel) (by decide +kernel))).trans (mm_p L ys 104 100 35 (a := 81) (j := 28) (x := 104) rfl (by decide +kernel) trivial)))).trans ?_
  refine (b_X12_init_194 ..).trans ?_
  repeat (first | refine (tz_bp (by rfl)).trans ?_ | refine (tz_bn (by rfl)).trans ?_)
  refine (tz_rM (((congrArg (fun m => tqp m 81 29 105) (mm_new L ys 104 101 35 (kd := 1) (n := 6) rfl (by decide) (by decide +kernel) (by decide +kernel) (by decide +kernel))).trans (mm_p L ys 105 101 35 (a := 81) (j := 29) (x := 105) rfl (by decide +kernel) trivial)))).trans ?_
  refine (b_X12_init_202 ..).trans ?_
  repeat (first | refine (tz_bp (by rfl)).trans ?_ | refine (tz_bn (by rfl)).trans ?_)
  refine (tz_rM (((congrArg (fun m => tqp m 81 30 106) (mm_new L ys 105 102 35 (kd := 1) (n := 6) rfl (by decide) (by decide +kernel) (by decide +kernel) (by decide +kernel))).trans (mm_p L ys 106 102 35 (a := 81) (j := 30) (x := 106) rfl (by decide +kernel) trivial)))).trans ?_
  refine (b_X12_init_210 ..).trans ?_
  repeat (first | refine (tz_bp (by rfl)).trans ?_ | refine (tz_bn (by rfl)).trans ?_)
  refine (tz_rM (((congrArg (fun m => tqp m 81 31 107) (mm_new L ys 106 103 35 (kd := 1) (n := 6) rfl (by decide) (by decide +kernel) (by decide +kernel) (by decide +kernel))).trans (mm_p L ys 107 103 35 (a := 81) (j := 31) (x := 107) rfl (by decide +kernel) trivial)))).trans ?_
  refine (b_X12_init_218 ..).trans ?_
  repeat (first | refine (tz_bp (by rfl)).trans ?_ | refine (tz_bn (by rfl)).trans ?_)
  refine (tz_rM (((congrArg (fun m => tqp m 81 32 108) (mm_new L ys 107 104 35 (kd := 1) (n := 6) rfl (by decide) (by decide +kernel) (by decide +kernel) (by decide +kernel))).trans (mm_p L ys 108 104 35 (a := 81) (j := 32) (x := 108) rfl (by decide +kernel) trivial)))).trans ?_
  refine (b_X12_init_226 ..).trans ?_
  repeat (first | refine (tz_bp (by rfl)).trans ?_ | refine (tz_bn (by rfl)).trans ?_)
  refine (tz_rM (((congrArg (fun m => tqp m 81 33 109) (mm_new L ys 108 105 35 (kd := 1) (n := 6) rfl (by decide) (by decide +kernel) (by decide +kernel) (by decide +kernel))).trans (mm_p L ys 109 105 35 (a := 81) (j := 33) (x := 109) rfl (by decide +kernel) trivial)))).trans ?_
  refine (b_X12_init_234 ..).trans ?_
  repeat (first | refine (tz_bp (by rfl)).trans ?_ | refine (tz_bn (by rfl)).trans ?_)
  refine (tz_rM (((congrArg (fun m => tqp m 81 35 110) (mm_new L ys 109 106 35 (kd := 1) (n := 60) rfl (by decide) (by decide +kernel) (by decide +kernel) (by decide +kernel))).trans (mm_p L ys 110 106 35 (a := 81) (j := 35) (x := 110) rfl (by decide +kernel) trivial)))).trans ?_
  refine (b_X12_init_242 ..).trans ?_
  repeat (first | refine (tz_bp (by rfl)).trans ?_ | refine (tz_bn (by rfl)).trans ?_)
  refine (tz_rM (((congrArg (fun m => tqp m 81 36 111) (mm_new L ys 110 107 35 (kd := 1) (n := 60) rfl (by decide) (by decide +kernel) (by decide +kernel) (by decide +kernel))).trans (mm_p L ys 111 107 35 (a := 81) (j := 36) (x := 111) rfl (by decide +kernel) trivial)))).trans ?_
  refine (b_X12_init_250 ..).trans ?_
  repeat (first | refine (tz_bp (by rfl)).trans ?_ | refine (tz_bn (by rfl)).trans ?_)
  refine (tz_rM (((congrArg (fun m => tqp m 81 37 112) (mm_new L ys 111 108 35 (kd := 1) (n := 60) rfl (by decide) (by decide +kernel) (by decide +kernel) (by decide +kernel))).trans (mm_p L ys 112 108 35 (a := 81) (j := 37) (x := 112) rfl (by decide +kernel) trivial)))).trans ?_
  refine (b_X12_init_258 ..).trans ?_
  repeat (first | refine (tz_bp (by rfl)).trans ?_ | refine (tz_bn (by rfl)).trans ?_)
  refine (tz_rM (((congrArg (fun m => tqp m 81 38 113) (mm_new L ys 112 109 35 (kd := 1) (n := 60) rfl (by decide) (by decide +kernel) (by decide +kernel) (by decide +kernel))).trans (mm_p L ys 113 109 35 (a := 81) (j := 38) (x := 113) rfl (by decide +kernel) trivial)))).trans ?_
  refine (b_X12_init_266 ..).trans ?_
  repeat (first | refine (tz_bp (by rfl)).trans ?_ | refine (tz_bn (by rfl)).trans ?_)
  refine (tz_rM (((congrArg (fun m => tqp m 81 39 114) (mm_new L ys 113 110 35 (kd := 1) (n := 60) rfl (by decide) (by decide +kernel) (by decide +kernel) (by decide +kernel))).trans (mm_p L ys 114 110 35 (a := 81) (j := 39) (x := 114) rfl (by decide +kernel) trivial)))).trans ?_
  refine (b_X12_init_274 ..).trans ?_
  repeat (first | refine (tz_bp (by rfl)).trans ?_ | refine (tz_bn (by rfl)).trans ?_)
  refine (tz_rM (((congrArg (fun m => tqp m 81 41 115) (mm_new L ys 114 111 35 (kd := 1) (n := 20) rfl (by decide) (by decide +kernel) (by decide +kernel) (by decide +kernel))).trans (mm_p L ys 115 111 35 (a := 81) (j := 41) (x := 115) rfl (by decide +kernel) trivial)))).trans ?_
  refine (b_X12_init_282 ..).trans ?_
  repeat (first | refine (tz_bp (by rfl)).trans ?_ | refine (tz_bn (by rfl)).trans ?_)
  refine (tz_rM (((congrArg (fun m => tqp m 81 42 116) (mm_new L ys 115 112 35 (kd := 1) (n := 20) rfl (by decide) (by decide +kernel) (by decide +kernel) (by decide +kernel))).trans (mm_p L ys 116 112 35 (a := 81) (j := 42) (x := 116) rfl (by decide +kernel) trivial)))).trans ?_
  refine (b_X12_init_290 ..).trans ?_
  repeat (first | refine (tz_bp (by rfl)).trans ?_ | refine (tz_bn (by rfl)).trans ?_)
  refine (tz_rM (((congrArg (fun m => tqp m 81 43 117) (mm_new L ys 116 113 35 (kd := 1) (n := 360) rfl (by decide) (by decide +kernel) (by decide +kernel) (by decide +kernel))).trans (mm_p L ys 117 113 35 (a := 81) (j := 43) (x := 117) rfl (by decide +kernel) trivial)))).trans ?_
  refine (b_X12_init_299 ..).trans ?_
  repeat (first | refine (tz_bp (by rfl)).trans ?_ | refine (tz_bn (by rfl)).trans ?_)
  refine (tz_rM (((congrArg (fun m => tqp m 81 44 118) (mm_new L ys 117 114 35 (kd := 1) (n := 18) rfl (by decide) (by decide +kernel) (by decide +kernel) (by decide +kernel))).trans (mm_p L ys 118 114 35 (a := 81) (j := 44) (x := 118) rfl (by decide +kernel) trivial)))).trans ?_
  refine (b_X12_init_307 ..).trans ?_
  repeat (first | refine (tz_bp (by rfl)).trans ?_ | refine (tz_bn (by rfl)).trans ?_)
  refine (tz_rM ((mm_d L ys 118 115 35 (a := 81) (j := 46) (x := 20000) rfl (by decide +kernel) (by decide) trivial))).trans ?_
  refine (b_X12_init_314 ..).trans ?_
  repeat (first | refine (tz_bp (by rfl)).trans ?_ | refine (tz_bn (by rfl)).trans ?_)
  refine (tz_rM ((mm_d L ys 118 115 36 (a := 81) (j := 47) (x := 20000) rfl (by decide +kernel) (by decide) trivial))).trans ?_
  refine (b_X12_init_321 ..).trans ?_
  repeat (first | refine (tz_bp (by rfl)).trans ?_ | refine (tz_bn (by rfl)).trans ?_)
  refine (tz_rM (((congrArg (fun m => tqp m 81 55 119) (mm_new L ys 118 115 37 (kd := 1) (n := 6) rfl (by decide) (by decide +kernel) (by decide +kernel) (by decide +kernel))).trans (mm_p L ys 119 115 37 (a := 81) (j := 55) (x := 119) rfl (by decide +kernel) trivial)))).trans ?_
  refine (b_X12_init_329 ..).trans ?_
  repeat (first | refine (tz_bp (by rfl)).trans ?_ | refine (tz_bn (by rfl)).trans ?_)
  refine (tz_rM (((congrArg (fun m => tqp m 81 56 120) (mm_new L ys 119 116 37 (kd := 1) (n := 6) rfl (by decide) (by decide +kernel) (by decide +kernel) (by decide +kernel))).trans (mm_p L ys 120 116 37 (a := 81) (j := 56) (x := 120) rfl (by decide +kernel) trivial)))).trans ?_
  refine (b_X12_init_337 ..).trans ?_
  repeat (first | refine (tz_bp (by rfl)).trans ?_ | refine (tz_bn (by rfl)).trans ?_)
  refine (tz_rM (((congrArg (fun m => tqp m 81 57 121) (mm_new L ys 120 117 37 (kd := 1) (n := 6) rfl (by decide) (by decide +kernel) (by decide +kernel) (by decide +kernel))).trans (mm_p L ys 121 117 37 (a := 81) (j := 57) (x := 121) rfl (by decide +kernel) trivial)))).trans ?_
  refine (b_X12_init_345 ..).trans ?_
  repeat (first | refine (tz_bp (by rfl)).trans ?_ | refine (tz_bn (by rfl)).trans ?_)
  refine (tz_rM (((congrArg (fun m => tqp m 81 59 122) (mm_new L ys 121 118 37 (kd := 1) (n := 6) rfl (by decide) (by decide +kernel) (by decide +kernel) (by decide +kernel))).trans (mm_p L ys 122 118 37 (a := 81) (j := 59) (x := 122) rfl (by decide +kernel) trivial)))).trans ?_
  refine (b_X12_init_353 ..).trans ?_
  repeat (first | refine (tz_bp (by rfl)).trans ?_ | refine (tz_bn (by rfl)).trans ?_)
  refine (tz_rM (((congrArg (fun m => tqp m 81 60 123) (mm_new L ys 122 119 37 (kd := 1) (n := 6) rfl (by decide) (by decide +kernel) (by decide +kernel) (by decide +kernel))).trans (mm_p L ys 123 119 37 (a := 81) (j := 60) (x := 123) rfl (by decide +kernel) trivial)))).trans ?_
  refine (b_X12_init_361 ..).trans ?_
  repeat (first | refine (tz_bp (by rfl)).trans ?_ | refine (tz_bn (by rfl)).trans ?_)
  refine (tz_rM (((congrArg (fun m => tqp m 81 61 124) (mm_new L ys 123 120 37 (kd := 1) (n := 6) rfl (by decide) (by decide +kernel) (by decide +kernel) (by decide +kernel))).trans (mm_p L ys 124 120 37 (a := 81) (j := 61) (x := 124) rfl (by decide +kernel) trivial)))).trans ?_
  refine (b_X12_init_369 ..).trans ?_
  repeat (first | refine (tz_bp (by rfl)).trans ?_ | refine (tz_bn (by rfl)).trans ?_)
  refine (tz_rM (((congrArg (fun m => tqp m 81 63 125) (mm_new L ys 124 121 37 (kd := 1) (n := 64) rfl (by decide) (by decide +kernel) (by decide +kernel) (by decide +kernel))).trans (mm_p L ys 125 121 37 (a := 81) (j := 63) (x := 125) rfl (by decide +kernel) trivial)))).trans ?_
  refine (b_X12_init_377 ..).trans ?_
  repeat (first | refine (tz_bp (by rfl)).trans ?_ | refine (tz_bn (by rfl)).trans ?_)
  refine (tz_rM (((congrArg (fun m => tqp m 81 64 126) (mm_new L ys 125 122 37 (kd := 1) (n := 8) rfl (by decide) (by decide +kernel) (by decide +kernel) (by decide +kernel))).trans (mm_p L ys 126 122 37 (a := 81) (j := 64) (x := 126) rfl (by decide +kernel) trivial)))).trans ?_
  refine (b_X12_init_385 ..).trans ?_
  repeat (first | refine (tz_bp (by rfl)).trans ?_ | refine (tz_bn (by rfl)).trans ?_)
  refine (tz_rM (((congrArg (fun m => tqp m 81 65 127) (mm_new L ys 126 123 37 (kd := 1) (n := 8) rfl (by decide) (by decide +kernel) (by decide +kernel) (by decide +kernel))).trans (mm_p L ys 127 123 37 (a := 81) (j := 65) (x := 127) rfl (by decide +kernel) trivial)))).trans ?_
  refine (b_X12_init_393 ..).trans ?_
  repeat (first | refine (tz_bp (by rfl)).trans ?_ | refine (tz_bn (by rfl)).trans ?_)
  refine (tz_rM (((congrArg (fun m => tqp m 81 66 128) (mm_new L ys 127 124 37 (kd := 1) (n := 64) rfl (by decide) (by decide +kernel) (by decide +kernel) (by decide +kernel))).trans (mm_p L ys 128 124 37 (a := 81) (j := 66) (x := 128) rfl (by decide +kernel) trivial)))).trans ?_
  refine (b_X12_init_401 ..).trans ?_
  repeat (first | refine (tz_bp (by rfl)).trans ?_ | refine (tz_bn (by rfl)).trans ?_)
  refine (tz_rM (((congrArg (fun m => tqp m 81 67 129) (mm_new L ys 128 125 37 (kd := 1) (n := 16) rfl (by decide) (by decide +kernel) (by decide +kernel) (by decide +kernel))).trans (mm_p L ys 129 125 37 (a := 81) (j := 67) (x := 129) rfl (by decide +kernel) trivial)))).trans ?_
  refine (b_X12_init_409 ..).trans ?_
  repeat (first | refine (tz_bp (by rfl)).trans ?_ | refine (tz_bn (by rfl)).trans ?_)
  refine (tz_rM (((congrArg (fun m => tqp m 81 68 130) (mm_new L ys 129 126 37 (kd := 1) (n := 16) rfl (by decide) (by decide +kernel) (by decide +kernel) (by decide +kernel))).trans (mm_p L ys 130 126 37 (a := 81) (j := 68) (x := 130) rfl (by decide +kernel) trivial)))).trans ?_
  refine (b_X12_init_417 ..).trans ?_
  repeat (first | refine (tz_bp (by rfl)).trans ?_ | refine (tz_bn (by rfl)).trans ?_)
  refine (tz_rM (((congrArg (fun m => tqp m 81 70 131) (mm_new L ys 130 127 37 (kd := 1) (n := 40) rfl (by decide) (by decide +kernel) (by decide +kernel) (by decide +kernel))).trans (mm_p L ys 131 127 37 (a := 81) (j := 70) (x := 131) rfl (by decide +kernel) trivial)))).trans ?_
  refine (b_X12_init_425 ..).trans ?_
  repeat (first | refine (tz_bp (by rfl)).trans ?_ | refine (tz_bn (by rfl)).trans ?_)
  refine (tz_rM (((congrArg (fun m => tqp m 81 71 132) (mm_new L ys 131 128 37 (kd := 2) (n := 410) rfl (by decide) (by decide +kernel) (by decide +kernel) (by decide +kernel))).trans (mm_p L ys 132 128 37 (a := 81) (j := 71) (x := 132) rfl (by decide +kernel) trivial)))).trans ?_
  refine (b_X12_init_434 ..).trans ?_
  repeat (first | refine (tz_bp (by rfl)).trans ?_ | refine (tz_bn (by rfl)).trans ?_)
  refine (b_X12_init_436 ..).trans ?_
  repeat (first | refine (tz_bp (by rfl)).trans ?_ | refine (tz_bn (by rfl)).trans ?_)
  refine (tz_rM ((mm_d L ys 132 129 37 (a := 83) (j := 0) (x := (-9)) rfl (by decide +kernel) (by decide) trivial))).trans ?_
  refine (b_X12_init_436 ..).trans ?_
  repeat (first | refine (tz_bp (by rfl)).trans ?_ | refine (tz_bn (by rfl)).trans ?_)
  refine (tz_rM ((mm_d L ys 132 129 38 (a := 83) (j := 1) (x := (-9)) rfl (by decide +kernel) (by decide) trivial))).trans ?_
  refine (b_X12_init_436 ..).trans ?_
  repeat (first | refine (tz_bp (by rfl)).trans ?_ | refine (tz_bn (by rfl)).trans ?_)
  refine (tz_rM ((mm_d L ys 132 129 39 (a := 83) (j := 2) (x := (-9)) rfl (by decide +kernel) (by decide) trivial))).trans ?_
  refine (b_X12_init_436 ..).trans ?_
  repeat (first | refine (tz_bp (by rfl)).trans ?_ | refine (tz_bn (by rfl)).trans ?_)
  refine (tz_rM ((mm_d L ys 132 129 40 (a := 83) (j := 3) (x := (-9)) rfl (by decide +kernel) (by decide) trivial))).trans ?_
  refine (b_X12_init_436 ..).trans ?_
  repeat (first | refine (tz_bp (by rfl)).trans ?_ | refine (tz_bn (by rfl)).trans ?_)
  refine (tz_rM ((mm_d L ys 132 129 41 (a := 83) (j := 4) (x := (-9)) rfl (by decide +kernel) (by decide) trivial))).trans ?_
  refine (b_X12_init_436 ..).trans ?_
  repeat (first | refine (tz_bp (by rfl)).trans ?_ | refine (tz_bn (by rfl)).trans ?_)
  refine (tz_rM ((mm_d L ys 132 129 42 (a := 83) (j := 5) (x := (-9)) rfl (by decide +kernel) (by decide) trivial))).trans ?_
  refine (b_X12_init_436 ..).trans ?_
  repeat (first | refine (tz_bp (by rfl)).trans ?_ | refine (tz_bn (by rfl)).trans ?_)
  refine (b_X12_init_458 ..).trans ?_
  repeat (first | refine (tz_bp (by rfl)).trans ?_ | refine (tz_bn (by rfl)).trans ?_)
  refine (tz_rM ((mm_d L ys 132 129 43 (a := 86) (j := 0) (x := (-9)) rfl (by decide +kernel) (by decide) trivial))).trans ?_
  refine (b_X12_init_458 ..).trans ?_
  repeat (first | refine (tz_bp (by rfl)).trans ?_ | refine (tz_bn (by rfl)).trans ?_)
  refine (tz_rM ((mm_d L ys 132 129 44 (a := 86) (j := 1) (x := (-9)) rfl (by decide +kernel) (by decide) trivial))).trans ?_
  refine (b_X12_init_458 ..).trans ?_
  repeat (first | refine (tz_bp (by rfl)).trans ?_ | refine (tz_bn (by rfl)).trans ?_)
  refine (tz_rM ((mm_d L ys 132 129 45 (a := 86) (j := 2) (x := (-9)) rfl (by decide +kernel) (by decide) trivial))).trans ?_
  refine (b_X12_init_458 ..).trans ?_
  repeat (first | refine (tz_bp (by rfl)).trans ?_ | refine (tz_bn (by rfl)).trans ?_)
  refine (tz_rM ((mm_d L ys 132 129 46 (a := 86) (j := 3) (x := (-9)) rfl (by decide +kernel) (by decide) trivial))).trans ?_
  refine (b_X12_init_458 ..).trans ?_
  repeat (first | refine (tz_bp (by rfl)).trans ?_ | refine (tz_bn (by rfl)).trans ?_)
  refine (b_X12_init_479 ..).trans ?_
  repeat (first | refine (tz_bp (by rfl)).trans ?_ | refine (tz_bn (by rfl)).trans ?_)
  refine (tz_rM (((congrArg (fun m => tqw m 119 0 (-9)) (mm_d L ys 132 129 47 (a := 107) (j := 0) (x := (-9)) rfl (by decide +kernel) (by decide) trivial)).trans (mm_d L ys 132 129 48 (a := 119) (j := 0) (x := (-9)) rfl (by decide +kernel) (by decide) trivial)))).trans ?_
  refine (b_X12_init_479 ..).trans ?_
  repeat (first | refine (tz_bp (by rfl)).trans ?_ | refine (tz_bn (by rfl)).trans ?_)
  refine (tz_rM (((congrArg (fun m => tqw m 119 1 (-9)) (mm_d L ys 132 129 49 (a := 107) (j := 1) (x := (-9)) rfl (by decide +kernel) (by decide) trivial)).trans (mm_d L ys 132 129 50 (a := 119) (j := 1) (x := (-9)) rfl (by decide +kernel) (by decide) trivial)))).trans ?_
  refine (b_X12_init_479 ..).trans ?_
  repeat (first | refine (tz_bp (by rfl)).trans ?_ | refine (tz_bn (by rfl)).trans ?_)
  refine (tz_rM (((congrArg (fun m => tqw m 119 2 (-9)) (mm_d L ys 132 129 51 (a := 107) (j := 2) (x := (-9)) rfl (by decide +kernel) (by decide) trivial)).trans (mm_d L ys 132 129 52 (a := 119) (j := 2) (x := (-9)) rfl (by decide +kernel) (by decide) trivial)))).trans ?_
  refine (b_X12_init_479 ..).trans ?_
  repeat (first | refine (tz_bp (by rfl)).trans ?_ | refine (tz_bn (by rfl)).trans ?_)
  refine (tz_rM (((congrArg (fun m => tqw m 119 3 (-9)) (mm_d L ys 132 129 53 (a := 107) (j := 3) (x := (-9)) rfl (by decide +kernel) (by decide) trivial)).trans (mm_d L ys 132 129 54 (a := 119) (j := 3) (x := (-9)) rfl (by decide +kernel) (by decide) trivial)))).trans ?_
  refine (b_X12_init_479 ..).trans ?_
  repeat (first | refine (tz_bp (by rfl)).trans ?_ | refine (tz_bn (by rfl)).trans ?_)
  refine (tz_rM (((congrArg (fun m => tqw m 119 4 (-9)) (mm_d L ys 132 129 55 (a := 107) (j := 4) (x := (-9)) rfl (by decide +kernel) (by decide) trivial)).trans (mm_d L ys 132 129 56 (a := 119) (j := 4) (x := (-9)) rfl (by decide +kernel) (by decide) trivial)))).trans ?_
  refine (b_X12_init_479 ..).trans ?_
  repeat (first | refine (tz_bp (by rfl)).trans ?_ | refine (tz_bn (by rfl)).trans ?_)
  refine (tz_rM (((congrArg (fun m => tqw m 119 5 (-9)) (mm_d L ys 132 129 57 (a := 107) (j := 5) (x := (-9)) rfl (by decide +kernel) (by decide) trivial)).trans (mm_d L ys 132 129 58 (a := 119) (j := 5) (x := (-9)) rfl (by decide +kernel) (by decide) trivial)))).trans ?_
  refine (b_X12_init_479 ..).trans ?_
  repeat (first | refine (tz_bp (by rfl)).trans ?_ | refine (tz_bn (by rfl)).trans ?_)
  rfl
