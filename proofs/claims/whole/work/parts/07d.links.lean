set_option maxRecDepth 100000 in
set_option maxHeartbeats 4000000 in
theorem tqkf_0 : ((List.range 20).map (fun i => i + 0)).all tqkfok = true := by decide +kernel
set_option maxRecDepth 100000 in
set_option maxHeartbeats 4000000 in
theorem tqkf_20 : ((List.range 20).map (fun i => i + 20)).all tqkfok = true := by decide +kernel
set_option maxRecDepth 100000 in
set_option maxHeartbeats 4000000 in
theorem tqkf_40 : ((List.range 20).map (fun i => i + 40)).all tqkfok = true := by decide +kernel
set_option maxRecDepth 100000 in
set_option maxHeartbeats 4000000 in
theorem tqkf_60 : ((List.range 20).map (fun i => i + 60)).all tqkfok = true := by decide +kernel
set_option maxRecDepth 100000 in
set_option maxHeartbeats 4000000 in
theorem tqkf_80 : ((List.range 20).map (fun i => i + 80)).all tqkfok = true := by decide +kernel
set_option maxRecDepth 100000 in
set_option maxHeartbeats 4000000 in
theorem tqkf_100 : ((List.range 20).map (fun i => i + 100)).all tqkfok = true := by decide +kernel
set_option maxRecDepth 100000 in
set_option maxHeartbeats 4000000 in
theorem tqkf_120 : ((List.range 20).map (fun i => i + 120)).all tqkfok = true := by decide +kernel
