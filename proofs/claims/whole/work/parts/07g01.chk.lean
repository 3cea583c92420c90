set_option maxRecDepth 100000 in
set_option maxHeartbeats 8000000 in
theorem tqck_40 : ((List.range 4).map (fun i => i + 40)).all tqchk = true := by decide +kernel
set_option maxRecDepth 100000 in
set_option maxHeartbeats 8000000 in
theorem tqck_44 : ((List.range 6).map (fun i => i + 44)).all tqchk = true := by decide +kernel
set_option maxRecDepth 100000 in
set_option maxHeartbeats 8000000 in
theorem tqck_50 : ((List.range 11).map (fun i => i + 50)).all tqchk = true := by decide +kernel
set_option maxRecDepth 100000 in
set_option maxHeartbeats 8000000 in
theorem tqck_61 : ((List.range 9).map (fun i => i + 61)).all tqchk = true := by decide +kernel
set_option maxRecDepth 100000 in
set_option maxHeartbeats 8000000 in
theorem tqck_70 : ((List.range 5).map (fun i => i + 70)).all tqchk = true := by decide +kernel
