set_option maxRecDepth 100000 in
set_option maxHeartbeats 8000000 in
theorem tqck_248 : ((List.range 5).map (fun i => i + 248)).all tqchk = true := by decide +kernel
set_option maxRecDepth 100000 in
set_option maxHeartbeats 8000000 in
theorem tqck_253 : ((List.range 2).map (fun i => i + 253)).all tqchk = true := by decide +kernel
