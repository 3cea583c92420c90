set_option maxRecDepth 100000 in
set_option maxHeartbeats 4000000 in
theorem tqkf_240 : ((List.range 20).map (fun i => i + 240)).all tqkfok = true := by decide +kernel
theorem tqall_of {f : Nat → Bool} {n a : Nat} (h : ((List.range n).map (fun i => i + a)).all f = true) {k : Nat} (h1 : a ≤ k) (h2 : k < a + n) : f k = true := List.all_eq_true.mp h k (List.mem_map.mpr ⟨k - a, List.mem_range.mpr (by omega), by omega⟩)
theorem tqkf_all (k : Nat) (hk : k < 260) : tqkfok k = true := by
  by_cases h120 : k < 120
  · skip
    by_cases h60 : k < 60
    · skip
      by_cases h20 : k < 20
      · skip
        exact tqall_of tqkf_0 (by omega) (by omega)
      · skip
        by_cases h40 : k < 40
        · skip
          exact tqall_of tqkf_20 (by omega) (by omega)
        · skip
          exact tqall_of tqkf_40 (by omega) (by omega)
    · skip
      by_cases h80 : k < 80
      · skip
        exact tqall_of tqkf_60 (by omega) (by omega)
      · skip
        by_cases h100 : k < 100
        · skip
          exact tqall_of tqkf_80 (by omega) (by omega)
        · skip
          exact tqall_of tqkf_100 (by omega) (by omega)
  · skip
    by_cases h180 : k < 180
    · skip
      by_cases h140 : k < 140
      · skip
        exact tqall_of tqkf_120 (by omega) (by omega)
      · skip
        by_cases h160 : k < 160
        · skip
          exact tqall_of tqkf_140 (by omega) (by omega)
        · skip
          exact tqall_of tqkf_160 (by omega) (by omega)
    · skip
      by_cases h220 : k < 220
      · skip
        by_cases h200 : k < 200
        · skip
          exact tqall_of tqkf_180 (by omega) (by omega)
        · skip
          exact tqall_of tqkf_200 (by omega) (by omega)
      · skip
        by_cases h240 : k < 240
        · skip
          exact tqall_of tqkf_220 (by omega) (by omega)
        · skip
          exact tqall_of tqkf_240 (by omega) (by omega)

