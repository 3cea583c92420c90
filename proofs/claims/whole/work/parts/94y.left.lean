/-! what is still owed -/
theorem ag_pool {L : Nat} (a0 a1 : Int) : AgI Rel L n_X11_pool n_X12_pool [vI a0, vI a1] := sorry
theorem left_n : True := trivial
