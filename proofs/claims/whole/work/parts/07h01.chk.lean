set_option maxRecDepth 100000 in
set_option maxHeartbeats 8000000 in
theorem tqcl_840 : ((List.range 120).map (fun i => i + 840)).all (tqchk1 255) = true := by decide +kernel
set_option maxRecDepth 100000 in
set_option maxHeartbeats 8000000 in
theorem tqcl_960 : ((List.range 120).map (fun i => i + 960)).all (tqchk1 255) = true := by decide +kernel
set_option maxRecDepth 100000 in
set_option maxHeartbeats 8000000 in
theorem tqcl_1080 : ((List.range 120).map (fun i => i + 1080)).all (tqchk1 255) = true := by decide +kernel
set_option maxRecDepth 100000 in
set_option maxHeartbeats 8000000 in
theorem tqcl_1200 : ((List.range 120).map (fun i => i + 1200)).all (tqchk1 255) = true := by decide +kernel
set_option maxRecDepth 100000 in
set_option maxHeartbeats 8000000 in
theorem tqcl_1320 : ((List.range 120).map (fun i => i + 1320)).all (tqchk1 255) = true := by decide +kernel
set_option maxRecDepth 100000 in
set_option maxHeartbeats 8000000 in
theorem tqcl_1440 : ((List.range 120).map (fun i => i + 1440)).all (tqchk1 255) = true := by decide +kernel
set_option maxRecDepth 100000 in
set_option maxHeartbeats 8000000 in
theorem tqcl_1560 : ((List.range 120).map (fun i => i + 1560)).all (tqchk1 255) = true := by decide +kernel
