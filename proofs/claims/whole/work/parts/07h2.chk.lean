set_option maxRecDepth 100000 in
set_option maxHeartbeats 8000000 in
theorem tqcl_0 : ((List.range 120).map (fun i => i + 0)).all (tqchk1 260) = true := by sorry
set_option maxRecDepth 100000 in
set_option maxHeartbeats 8000000 in
theorem tqcl_120 : ((List.range 120).map (fun i => i + 120)).all (tqchk1 260) = true := by sorry
set_option maxRecDepth 100000 in
set_option maxHeartbeats 8000000 in
theorem tqcl_240 : ((List.range 120).map (fun i => i + 240)).all (tqchk1 260) = true := by sorry
set_option maxRecDepth 100000 in
set_option maxHeartbeats 8000000 in
theorem tqcl_360 : ((List.range 120).map (fun i => i + 360)).all (tqchk1 260) = true := by sorry
set_option maxRecDepth 100000 in
set_option maxHeartbeats 8000000 in
theorem tqcl_480 : ((List.range 120).map (fun i => i + 480)).all (tqchk1 260) = true := by sorry
set_option maxRecDepth 100000 in
set_option maxHeartbeats 8000000 in
theorem tqcl_600 : ((List.range 120).map (fun i => i + 600)).all (tqchk1 260) = true := by sorry
set_option maxRecDepth 100000 in
set_option maxHeartbeats 8000000 in
theorem tqcl_720 : ((List.range 120).map (fun i => i + 720)).all (tqchk1 260) = true := by sorry
set_option maxRecDepth 100000 in
set_option maxHeartbeats 8000000 in
theorem tqcl_840 : ((List.range 120).map (fun i => i + 840)).all (tqchk1 260) = true := by sorry
set_option maxRecDepth 100000 in
set_option maxHeartbeats 8000000 in
theorem tqcl_960 : ((List.range 120).map (fun i => i + 960)).all (tqchk1 260) = true := by sorry
set_option maxRecDepth 100000 in
set_option maxHeartbeats 8000000 in
theorem tqcl_1080 : ((List.range 120).map (fun i => i + 1080)).all (tqchk1 260) = true := by sorry
set_option maxRecDepth 100000 in
set_option maxHeartbeats 8000000 in
theorem tqcl_1200 : ((List.range 120).map (fun i => i + 1200)).all (tqchk1 260) = true := by sorry
set_option maxRecDepth 100000 in
set_option maxHeartbeats 8000000 in
theorem tqcl_1320 : ((List.range 120).map (fun i => i + 1320)).all (tqchk1 260) = true := by sorry
set_option maxRecDepth 100000 in
set_option maxHeartbeats 8000000 in
theorem tqcl_1440 : ((List.range 120).map (fun i => i + 1440)).all (tqchk1 260) = true := by sorry
set_option maxRecDepth 100000 in
set_option maxHeartbeats 8000000 in
theorem tqcl_1560 : ((List.range 120).map (fun i => i + 1560)).all (tqchk1 260) = true := by sorry
set_option maxRecDepth 100000 in
set_option maxHeartbeats 8000000 in
theorem tqcl_1680 : ((List.range 120).map (fun i => i + 1680)).all (tqchk1 260) = true := by sorry
set_option maxRecDepth 100000 in
set_option maxHeartbeats 8000000 in
theorem tqcl_1800 : ((List.range 120).map (fun i => i + 1800)).all (tqchk1 260) = true := by sorry
set_option maxRecDepth 100000 in
set_option maxHeartbeats 8000000 in
theorem tqcl_1920 : ((List.range 120).map (fun i => i + 1920)).all (tqchk1 260) = true := by sorry
set_option maxRecDepth 100000 in
set_option maxHeartbeats 8000000 in
theorem tqcl_2040 : ((List.range 120).map (fun i => i + 2040)).all (tqchk1 260) = true := by sorry
set_option maxRecDepth 100000 in
set_option maxHeartbeats 8000000 in
theorem tqcl_2160 : ((List.range 24).map (fun i => i + 2160)).all (tqchk1 260) = true := by sorry
theorem tqclw_all (k : Nat) (hk : k < 2184) : tqchk1 260 k = true := by
  by_cases h1080 : k < 1080
  · skip
    by_cases h480 : k < 480
    · skip
      by_cases h240 : k < 240
      · skip
        by_cases h120 : k < 120
        · skip
          exact tqall_of tqcl_0 (by omega) (by omega)
        · skip
          exact tqall_of tqcl_120 (by omega) (by omega)
      · skip
        by_cases h360 : k < 360
        · skip
          exact tqall_of tqcl_240 (by omega) (by omega)
        · skip
          exact tqall_of tqcl_360 (by omega) (by omega)
    · skip
      by_cases h720 : k < 720
      · skip
        by_cases h600 : k < 600
        · skip
          exact tqall_of tqcl_480 (by omega) (by omega)
        · skip
          exact tqall_of tqcl_600 (by omega) (by omega)
      · skip
        by_cases h840 : k < 840
        · skip
          exact tqall_of tqcl_720 (by omega) (by omega)
        · skip
          by_cases h960 : k < 960
          · skip
            exact tqall_of tqcl_840 (by omega) (by omega)
          · skip
            exact tqall_of tqcl_960 (by omega) (by omega)
  · skip
    by_cases h1680 : k < 1680
    · skip
      by_cases h1320 : k < 1320
      · skip
        by_cases h1200 : k < 1200
        · skip
          exact tqall_of tqcl_1080 (by omega) (by omega)
        · skip
          exact tqall_of tqcl_1200 (by omega) (by omega)
      · skip
        by_cases h1440 : k < 1440
        · skip
          exact tqall_of tqcl_1320 (by omega) (by omega)
        · skip
          by_cases h1560 : k < 1560
          · skip
            exact tqall_of tqcl_1440 (by omega) (by omega)
          · skip
            exact tqall_of tqcl_1560 (by omega) (by omega)
    · skip
      by_cases h1920 : k < 1920
      · skip
        by_cases h1800 : k < 1800
        · skip
          exact tqall_of tqcl_1680 (by omega) (by omega)
        · skip
          exact tqall_of tqcl_1800 (by omega) (by omega)
      · skip
        by_cases h2040 : k < 2040
        · skip
          exact tqall_of tqcl_1920 (by omega) (by omega)
        · skip
          by_cases h2160 : k < 2160
          · skip
            exact tqall_of tqcl_2040 (by omega) (by omega)
          · skip
            exact tqall_of tqcl_2160 (by omega) (by omega)

