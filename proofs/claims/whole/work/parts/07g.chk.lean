set_option maxRecDepth 100000 in
set_option maxHeartbeats 8000000 in
theorem tqck_0 : ((List.range 11).map (fun i => i + 0)).all tqchk = true := by sorry
set_option maxRecDepth 100000 in
set_option maxHeartbeats 8000000 in
theorem tqck_11 : ((List.range 11).map (fun i => i + 11)).all tqchk = true := by sorry
set_option maxRecDepth 100000 in
set_option maxHeartbeats 8000000 in
theorem tqck_22 : ((List.range 6).map (fun i => i + 22)).all tqchk = true := by sorry
set_option maxRecDepth 100000 in
set_option maxHeartbeats 8000000 in
theorem tqck_28 : ((List.range 4).map (fun i => i + 28)).all tqchk = true := by sorry
set_option maxRecDepth 100000 in
set_option maxHeartbeats 8000000 in
theorem tqck_32 : ((List.range 8).map (fun i => i + 32)).all tqchk = true := by sorry
set_option maxRecDepth 100000 in
set_option maxHeartbeats 8000000 in
theorem tqck_40 : ((List.range 4).map (fun i => i + 40)).all tqchk = true := by sorry
set_option maxRecDepth 100000 in
set_option maxHeartbeats 8000000 in
theorem tqck_44 : ((List.range 6).map (fun i => i + 44)).all tqchk = true := by sorry
set_option maxRecDepth 100000 in
set_option maxHeartbeats 8000000 in
theorem tqck_50 : ((List.range 11).map (fun i => i + 50)).all tqchk = true := by sorry
set_option maxRecDepth 100000 in
set_option maxHeartbeats 8000000 in
theorem tqck_61 : ((List.range 9).map (fun i => i + 61)).all tqchk = true := by sorry
set_option maxRecDepth 100000 in
set_option maxHeartbeats 8000000 in
theorem tqck_70 : ((List.range 5).map (fun i => i + 70)).all tqchk = true := by sorry
set_option maxRecDepth 100000 in
set_option maxHeartbeats 8000000 in
theorem tqck_75 : ((List.range 10).map (fun i => i + 75)).all tqchk = true := by sorry
set_option maxRecDepth 100000 in
set_option maxHeartbeats 8000000 in
theorem tqck_85 : ((List.range 8).map (fun i => i + 85)).all tqchk = true := by sorry
set_option maxRecDepth 100000 in
set_option maxHeartbeats 8000000 in
theorem tqck_93 : ((List.range 5).map (fun i => i + 93)).all tqchk = true := by sorry
set_option maxRecDepth 100000 in
set_option maxHeartbeats 8000000 in
theorem tqck_98 : ((List.range 6).map (fun i => i + 98)).all tqchk = true := by sorry
set_option maxRecDepth 100000 in
set_option maxHeartbeats 8000000 in
theorem tqck_104 : ((List.range 9).map (fun i => i + 104)).all tqchk = true := by sorry
set_option maxRecDepth 100000 in
set_option maxHeartbeats 8000000 in
theorem tqck_113 : ((List.range 5).map (fun i => i + 113)).all tqchk = true := by sorry
set_option maxRecDepth 100000 in
set_option maxHeartbeats 8000000 in
theorem tqck_118 : ((List.range 4).map (fun i => i + 118)).all tqchk = true := by sorry
set_option maxRecDepth 100000 in
set_option maxHeartbeats 8000000 in
theorem tqck_122 : ((List.range 11).map (fun i => i + 122)).all tqchk = true := by sorry
set_option maxRecDepth 100000 in
set_option maxHeartbeats 8000000 in
theorem tqck_133 : ((List.range 19).map (fun i => i + 133)).all tqchk = true := by sorry
