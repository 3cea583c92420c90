set_option maxRecDepth 100000 in
set_option maxHeartbeats 8000000 in
theorem tqck_228 : ((List.range 4).map (fun i => i + 228)).all tqchk = true := by decide +kernel
set_option maxRecDepth 100000 in
set_option maxHeartbeats 8000000 in
theorem tqck_232 : ((List.range 5).map (fun i => i + 232)).all tqchk = true := by decide +kernel
set_option maxRecDepth 100000 in
set_option maxHeartbeats 8000000 in
theorem tqck_237 : ((List.range 3).map (fun i => i + 237)).all tqchk = true := by decide +kernel
set_option maxRecDepth 100000 in
set_option maxHeartbeats 8000000 in
theorem tqck_240 : ((List.range 2).map (fun i => i + 240)).all tqchk = true := by decide +kernel
set_option maxRecDepth 100000 in
set_option maxHeartbeats 8000000 in
theorem tqck_242 : ((List.range 6).map (fun i => i + 242)).all tqchk = true := by decide +kernel
