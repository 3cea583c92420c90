set_option maxRecDepth 100000 in
set_option maxHeartbeats 8000000 in
theorem tqcl_1680 : ((List.range 120).map (fun i => i + 1680)).all (tqchk1 255) = true := by decide +kernel
set_option maxRecDepth 100000 in
set_option maxHeartbeats 8000000 in
theorem tqcl_1800 : ((List.range 120).map (fun i => i + 1800)).all (tqchk1 255) = true := by decide +kernel
set_option maxRecDepth 100000 in
set_option maxHeartbeats 8000000 in
theorem tqcl_1920 : ((List.range 120).map (fun i => i + 1920)).all (tqchk1 255) = true := by decide +kernel
set_option maxRecDepth 100000 in
set_option maxHeartbeats 8000000 in
theorem tqcl_2040 : ((List.range 120).map (fun i => i + 2040)).all (tqchk1 255) = true := by decide +kernel
set_option maxRecDepth 100000 in
set_option maxHeartbeats 8000000 in
theorem tqcl_2160 : ((List.range 24).map (fun i => i + 2160)).all (tqchk1 255) = true := by decide +kernel
