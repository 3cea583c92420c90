/-! what is still owed -/
theorem ag_look {L : Nat} (a0 a1 a2 : Int) : AgI Rel L n_X11_look n_X12_look [vI a0, vI a1, vI a2] := sorry
theorem ag_pool {L : Nat} (a0 a1 : Int) : AgI Rel L n_X11_pool n_X12_pool [vI a0, vI a1] := sorry
theorem left_n : True := trivial
