set_option maxRecDepth 100000 in
set_option maxHeartbeats 8000000 in
theorem tqcl_0 : ((List.range 120).map (fun i => i + 0)).all (tqchk1 255) = true := by decide +kernel
set_option maxRecDepth 100000 in
set_option maxHeartbeats 8000000 in
theorem tqcl_120 : ((List.range 120).map (fun i => i + 120)).all (tqchk1 255) = true := by decide +kernel
set_option maxRecDepth 100000 in
set_option maxHeartbeats 8000000 in
theorem tqcl_240 : ((List.range 120).map (fun i => i + 240)).all (tqchk1 255) = true := by decide +kernel
set_option maxRecDepth 100000 in
set_option maxHeartbeats 8000000 in
theorem tqcl_360 : ((List.range 120).map (fun i => i + 360)).all (tqchk1 255) = true := by decide +kernel
set_option maxRecDepth 100000 in
set_option maxHeartbeats 8000000 in
theorem tqcl_480 : ((List.range 120).map (fun i => i + 480)).all (tqchk1 255) = true := by decide +kernel
set_option maxRecDepth 100000 in
set_option maxHeartbeats 8000000 in
theorem tqcl_600 : ((List.range 120).map (fun i => i + 600)).all (tqchk1 255) = true := by decide +kernel
set_option maxRecDepth 100000 in
set_option maxHeartbeats 8000000 in
theorem tqcl_720 : ((List.range 120).map (fun i => i + 720)).all (tqchk1 255) = true := by decide +kernel
