set_option maxRecDepth 100000 in
set_option maxHeartbeats 8000000 in
theorem tqck_133 : ((List.range 19).map (fun i => i + 133)).all tqchk = true := by decide +kernel
set_option maxRecDepth 100000 in
set_option maxHeartbeats 8000000 in
theorem tqck_152 : ((List.range 11).map (fun i => i + 152)).all tqchk = true := by decide +kernel
set_option maxRecDepth 100000 in
set_option maxHeartbeats 8000000 in
theorem tqck_163 : ((List.range 9).map (fun i => i + 163)).all tqchk = true := by decide +kernel
set_option maxRecDepth 100000 in
set_option maxHeartbeats 8000000 in
theorem tqck_172 : ((List.range 4).map (fun i => i + 172)).all tqchk = true := by decide +kernel
set_option maxRecDepth 100000 in
set_option maxHeartbeats 8000000 in
theorem tqck_176 : ((List.range 10).map (fun i => i + 176)).all tqchk = true := by decide +kernel
set_option maxRecDepth 100000 in
set_option maxHeartbeats 8000000 in
theorem tqck_186 : ((List.range 6).map (fun i => i + 186)).all tqchk = true := by decide +kernel
set_option maxRecDepth 100000 in
set_option maxHeartbeats 8000000 in
theorem tqck_192 : ((List.range 6).map (fun i => i + 192)).all tqchk = true := by decide +kernel
set_option maxRecDepth 100000 in
set_option maxHeartbeats 8000000 in
theorem tqck_198 : ((List.range 6).map (fun i => i + 198)).all tqchk = true := by decide +kernel
set_option maxRecDepth 100000 in
set_option maxHeartbeats 8000000 in
theorem tqck_204 : ((List.range 5).map (fun i => i + 204)).all tqchk = true := by decide +kernel
set_option maxRecDepth 100000 in
set_option maxHeartbeats 8000000 in
theorem tqck_209 : ((List.range 10).map (fun i => i + 209)).all tqchk = true := by decide +kernel
set_option maxRecDepth 100000 in
set_option maxHeartbeats 8000000 in
theorem tqck_219 : ((List.range 3).map (fun i => i + 219)).all tqchk = true := by decide +kernel
set_option maxRecDepth 100000 in
set_option maxHeartbeats 8000000 in
theorem tqck_222 : ((List.range 6).map (fun i => i + 222)).all tqchk = true := by decide +kernel
set_option maxRecDepth 100000 in
set_option maxHeartbeats 8000000 in
theorem tqck_228 : ((List.range 4).map (fun i => i + 228)).all tqchk = true := by decide +kernel
set_option maxRecDepth 100000 in
set_option maxHeartbeats 8000000 in
theorem tqck_232 : ((List.range 5).map (fun i => i + 232)).all tqchk = true := by decide +kernel
set_option maxRecDepth 100000 in
set_option maxHeartbeats 8000000 in
theorem tqck_237 : ((List.range 3).map (fun i => i + 237)).all tqchk = true := by decide +kernel
set_option maxRecDepth 100000 in
set_option maxHeartbeats 8000000 in
theorem tqck_240 : ((List.range 2).map (fun i => i + 240)).all tqchk = true := by decide +kernel
set_option maxRecDepth 100000 in
set_option maxHeartbeats 8000000 in
theorem tqck_242 : ((List.range 6).map (fun i => i + 242)).all tqchk = true := by decide +kernel
set_option maxRecDepth 100000 in
set_option maxHeartbeats 8000000 in
theorem tqck_248 : ((List.range 5).map (fun i => i + 248)).all tqchk = true := by decide +kernel
set_option maxRecDepth 100000 in
set_option maxHeartbeats 8000000 in
theorem tqck_253 : ((List.range 7).map (fun i => i + 253)).all tqchk = true := by decide +kernel
