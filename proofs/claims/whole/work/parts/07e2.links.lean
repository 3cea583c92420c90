set_option maxRecDepth 100000 in
set_option maxHeartbeats 4000000 in
theorem tqkf_200 : ((List.range 20).map (fun i => i + 200)).all tqkfok = true := by decide +kernel
set_option maxRecDepth 100000 in
set_option maxHeartbeats 4000000 in
theorem tqkf_220 : ((List.range 20).map (fun i => i + 220)).all tqkfok = true := by decide +kernel
set_option maxRecDepth 100000 in
set_option maxHeartbeats 4000000 in
theorem tqkf_240 : ((List.range 15).map (fun i => i + 240)).all tqkfok = true := by decide +kernel
