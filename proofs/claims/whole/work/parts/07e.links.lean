set_option maxRecDepth 100000 in
set_option maxHeartbeats 4000000 in
theorem tqkf_140 : ((List.range 20).map (fun i => i + 140)).all tqkfok = true := by decide +kernel
set_option maxRecDepth 100000 in
set_option maxHeartbeats 4000000 in
theorem tqkf_160 : ((List.range 20).map (fun i => i + 160)).all tqkfok = true := by decide +kernel
set_option maxRecDepth 100000 in
set_option maxHeartbeats 4000000 in
theorem tqkf_180 : ((List.range 20).map (fun i => i + 180)).all tqkfok = true := by decide +kernel
