set_option maxRecDepth 100000 in
set_option maxHeartbeats 8000000 in
theorem tqck_0 : ((List.range 11).map (fun i => i + 0)).all tqchk = true := by decide +kernel
set_option maxRecDepth 100000 in
set_option maxHeartbeats 8000000 in
theorem tqck_11 : ((List.range 11).map (fun i => i + 11)).all tqchk = true := by decide +kernel
set_option maxRecDepth 100000 in
set_option maxHeartbeats 8000000 in
theorem tqck_22 : ((List.range 6).map (fun i => i + 22)).all tqchk = true := by decide +kernel
set_option maxRecDepth 100000 in
set_option maxHeartbeats 8000000 in
theorem tqck_28 : ((List.range 4).map (fun i => i + 28)).all tqchk = true := by decide +kernel
set_option maxRecDepth 100000 in
set_option maxHeartbeats 8000000 in
theorem tqck_32 : ((List.range 8).map (fun i => i + 32)).all tqchk = true := by decide +kernel
