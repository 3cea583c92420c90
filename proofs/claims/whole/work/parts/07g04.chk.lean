set_option maxRecDepth 100000 in
set_option maxHeartbeats 8000000 in
theorem tqck_163 : ((List.range 9).map (fun i => i + 163)).all tqchk = true := by decide +kernel
set_option maxRecDepth 100000 in
set_option maxHeartbeats 8000000 in
theorem tqck_172 : ((List.range 4).map (fun i => i + 172)).all tqchk = true := by decide +kernel
set_option maxRecDepth 100000 in
set_option maxHeartbeats 8000000 in
theorem tqck_176 : ((List.range 10).map (fun i => i + 176)).all tqchk = true := by decide +kernel
set_option maxRecDepth 100000 in
set_option maxHeartbeats 8000000 in
theorem tqck_186 : ((List.range 6).map (fun i => i + 186)).all tqchk = true := by decide +kernel
set_option maxRecDepth 100000 in
set_option maxHeartbeats 8000000 in
theorem tqck_192 : ((List.range 6).map (fun i => i + 192)).all tqchk = true := by decide +kernel
