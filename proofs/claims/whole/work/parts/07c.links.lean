set_option maxRecDepth 100000 in
set_option maxHeartbeats 4000000 in
theorem tqHL_ok : ∀ q ∈ tqHL, (tqch q.1)[q.2.1]? = some (tqhw q) := by decide +kernel
