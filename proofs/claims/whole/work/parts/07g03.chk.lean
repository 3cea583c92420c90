set_option maxRecDepth 100000 in
set_option maxHeartbeats 8000000 in
theorem tqck_113 : ((List.range 5).map (fun i => i + 113)).all tqchk = true := by decide +kernel
set_option maxRecDepth 100000 in
set_option maxHeartbeats 8000000 in
theorem tqck_118 : ((List.range 4).map (fun i => i + 118)).all tqchk = true := by decide +kernel
set_option maxRecDepth 100000 in
set_option maxHeartbeats 8000000 in
theorem tqck_122 : ((List.range 11).map (fun i => i + 122)).all tqchk = true := by decide +kernel
set_option maxRecDepth 100000 in
set_option maxHeartbeats 8000000 in
theorem tqck_133 : ((List.range 19).map (fun i => i + 133)).all tqchk = true := by decide +kernel
set_option maxRecDepth 100000 in
set_option maxHeartbeats 8000000 in
theorem tqck_152 : ((List.range 11).map (fun i => i + 152)).all tqchk = true := by decide +kernel
