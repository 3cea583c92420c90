/-! what is still owed -/
theorem left_n : True := trivial
