set_option maxRecDepth 100000 in
set_option maxHeartbeats 8000000 in
theorem tqck_198 : ((List.range 6).map (fun i => i + 198)).all tqchk = true := by decide +kernel
set_option maxRecDepth 100000 in
set_option maxHeartbeats 8000000 in
theorem tqck_204 : ((List.range 5).map (fun i => i + 204)).all tqchk = true := by decide +kernel
set_option maxRecDepth 100000 in
set_option maxHeartbeats 8000000 in
theorem tqck_209 : ((List.range 10).map (fun i => i + 209)).all tqchk = true := by decide +kernel
set_option maxRecDepth 100000 in
set_option maxHeartbeats 8000000 in
theorem tqck_219 : ((List.range 3).map (fun i => i + 219)).all tqchk = true := by decide +kernel
set_option maxRecDepth 100000 in
set_option maxHeartbeats 8000000 in
theorem tqck_222 : ((List.range 6).map (fun i => i + 222)).all tqchk = true := by decide +kernel
