set_option maxRecDepth 100000 in
set_option maxHeartbeats 8000000 in
theorem tqck_75 : ((List.range 10).map (fun i => i + 75)).all tqchk = true := by decide +kernel
set_option maxRecDepth 100000 in
set_option maxHeartbeats 8000000 in
theorem tqck_85 : ((List.range 8).map (fun i => i + 85)).all tqchk = true := by decide +kernel
set_option maxRecDepth 100000 in
set_option maxHeartbeats 8000000 in
theorem tqck_93 : ((List.range 5).map (fun i => i + 93)).all tqchk = true := by decide +kernel
set_option maxRecDepth 100000 in
set_option maxHeartbeats 8000000 in
theorem tqck_98 : ((List.range 6).map (fun i => i + 98)).all tqchk = true := by decide +kernel
set_option maxRecDepth 100000 in
set_option maxHeartbeats 8000000 in
theorem tqck_104 : ((List.range 9).map (fun i => i + 104)).all tqchk = true := by decide +kernel
