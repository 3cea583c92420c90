/-- the calls of the law, in its order: on each the class and the reference agree -/
def Calls (Rel : (Nat → Int → Int) → Nat → Prop) (L : Nat) : Prop :=
  (∀ a0 a1 : Int, in32 a0 → in32 a1 → AgI Rel L n_X11_row n_X12_row [vI a0, vI a1]) ∧
  (∀ a0 a1 a2 : Int, in32 a0 → in32 a1 → in32 a2 → AgI Rel L n_X11_lay n_X12_lay [vI a0, vI a1, vI a2]) ∧
  (∀ a0 : Int, in32 a0 → AgI Rel L n_X11_tear n_X12_tear [vI a0]) ∧
  (∀ a0 a1 a2 a3 a4 : Int, in32 a0 → in32 a1 → in32 a2 → in32 a3 → in32 a4 → AgI Rel L n_X11_copy n_X12_copy [vI a0, vI a1, vI a2, vI a3, vI a4]) ∧
  (∀ a0 a1 : Int, in32 a0 → in32 a1 → AgI Rel L n_X11_text n_X12_text [vI a0, vI a1]) ∧
  (∀ a0 a1 a2 : Int, in32 a0 → in32 a1 → in32 a2 → AgI Rel L n_X11_put n_X12_put [vI a0, vI a1, vI a2]) ∧
  (∀ a0 : Int, in32 a0 → AgI Rel L n_X11_fault n_X12_fault [vI a0]) ∧
  (∀ a0 : Int, in32 a0 → AgI Rel L n_X11_later n_X12_later [vI a0]) ∧
  (∀ a0 a1 a2 a3 : Int, in32 a0 → in32 a1 → in32 a2 → in32 a3 → AgI Rel L n_X11_way n_X12_way [vI a0, vI a1, vI a2, vI a3]) ∧
  (∀ a0 a1 a2 a3 : Int, in32 a0 → in32 a1 → in32 a2 → in32 a3 → AgI Rel L n_X11_ferry n_X12_ferry [vI a0, vI a1, vI a2, vI a3]) ∧
  (∀ a0 a1 a2 : Int, in32 a0 → in32 a1 → in32 a2 → AgI Rel L n_X11_comes n_X12_comes [vI a0, vI a1, vI a2]) ∧
  (∀ a0 a1 : Int, in32 a0 → in32 a1 → AgI Rel L n_X11_toll n_X12_toll [vI a0, vI a1]) ∧
  (∀ a0 a1 a2 : Int, in32 a0 → in32 a1 → in32 a2 → AgI Rel L n_X11_trailer n_X12_trailer [vI a0, vI a1, vI a2]) ∧
  (∀ a0 a1 : Int, in32 a0 → in32 a1 → AgI Rel L n_X11_told n_X12_told [vI a0, vI a1]) ∧
  (∀ a0 a1 : Int, in32 a0 → in32 a1 → AgI Rel L n_X11_mark n_X12_mark [vI a0, vI a1]) ∧
  (∀ a0 a1 : Int, in32 a0 → in32 a1 → AgI Rel L n_X11_limit n_X12_limit [vI a0, vI a1]) ∧
  (∀ a0 a1 : Int, in32 a0 → in32 a1 → AgI Rel L n_X11_park n_X12_park [vI a0, vI a1]) ∧
  (∀ a0 a1 : Int, in32 a0 → in32 a1 → AgI Rel L n_X11_hitch n_X12_hitch [vI a0, vI a1]) ∧
  (∀ a0 : Int, in32 a0 → AgI Rel L n_X11_drop n_X12_drop [vI a0]) ∧
  (∀ a0 a1 : Int, in32 a0 → in32 a1 → AgI Rel L n_X11_go n_X12_go [vI a0, vI a1]) ∧
  (∀ a0 a1 : Int, in32 a0 → in32 a1 → AgI Rel L n_X11_tractor n_X12_tractor [vI a0, vI a1]) ∧
  (∀ a0 : Int, in32 a0 → AgI Rel L n_X11_lose n_X12_lose [vI a0]) ∧
  (∀ a0 a1 : Int, in32 a0 → in32 a1 → AgI Rel L n_X11_find n_X12_find [vI a0, vI a1]) ∧
  (∀ a0 a1 : Int, in32 a0 → in32 a1 → AgI Rel L n_X11_seal n_X12_seal [vI a0, vI a1]) ∧
  (∀ a0 a1 a2 : Int, in32 a0 → in32 a1 → in32 a2 → AgI Rel L n_X11_book n_X12_book [vI a0, vI a1, vI a2]) ∧
  (∀ a0 a1 : Int, in32 a0 → in32 a1 → AgI Rel L n_X11_where n_X12_where [vI a0, vI a1]) ∧
  (∀ a0 a1 : Int, in32 a0 → in32 a1 → AgI Rel L n_X11_terms n_X12_terms [vI a0, vI a1]) ∧
  (∀ a0 a1 a2 a3 : Int, in32 a0 → in32 a1 → in32 a2 → in32 a3 → AgI Rel L n_X11_force n_X12_force [vI a0, vI a1, vI a2, vI a3]) ∧
  (∀ a0 : Int, in32 a0 → AgI Rel L n_X11_detention n_X12_detention [vI a0]) ∧
  (AgL Rel L n_X11_pence n_X12_pence []) ∧
  (∀ a0 a1 : Int, in32 a0 → in32 a1 → AgI Rel L n_X11_law n_X12_law [vI a0, vI a1]) ∧
  (∀ a0 a1 a2 : Int, in32 a0 → in32 a1 → in32 a2 → AgI Rel L n_X11_load n_X12_load [vI a0, vI a1, vI a2]) ∧
  (∀ a0 : Int, in32 a0 → AgI Rel L n_X11_unload n_X12_unload [vI a0]) ∧
  (∀ a0 a1 : Int, in32 a0 → in32 a1 → AgI Rel L n_X11_slide n_X12_slide [vI a0, vI a1]) ∧
  (∀ a b : Int, in32 a → (b = 0 ∨ b = 1) → AgI Rel L n_X11_weight n_X12_weight [vI a, vI b]) ∧
  (∀ a0 : Int, in32 a0 → AgI Rel L n_X11_lawful n_X12_lawful [vI a0]) ∧
  (∀ a0 : Int, in32 a0 → AgI Rel L n_X11_shift n_X12_shift [vI a0]) ∧
  (∀ a0 a1 a2 : Int, in32 a0 → in32 a1 → in32 a2 → AgI Rel L n_X11_cold n_X12_cold [vI a0, vI a1, vI a2]) ∧
  (∀ a0 : Int, in32 a0 → AgI Rel L n_X11_mean n_X12_mean [vI a0]) ∧
  (∀ a0 : Int, in32 a0 → AgI Rel L n_X11_theft n_X12_theft [vI a0]) ∧
  (∀ a0 : Int, in32 a0 → AgI Rel L n_X11_hands n_X12_hands [vI a0]) ∧
  (∀ a0 a1 a2 a3 : Int, in32 a0 → in32 a1 → in32 a2 → in32 a3 → AgI Rel L n_X11_swap n_X12_swap [vI a0, vI a1, vI a2, vI a3]) ∧
  (∀ a0 a1 : Int, in32 a0 → in32 a1 → AgI Rel L n_X11_pairs n_X12_pairs [vI a0, vI a1]) ∧
  (∀ a0 : Int, in32 a0 → AgI Rel L n_X11_partner n_X12_partner [vI a0]) ∧
  (∀ a0 a1 a2 a3 a4 a5 : Int, in32 a0 → in32 a1 → in32 a2 → in32 a3 → in32 a4 → in32 a5 → AgI Rel L n_X11_late n_X12_late [vI a0, vI a1, vI a2, vI a3, vI a4, vI a5]) ∧
  (∀ a0 : Int, in32 a0 → AgI Rel L n_X11_canBe n_X12_canBe [vI a0]) ∧
  (∀ a0 a1 a2 : Int, in32 a0 → in32 a1 → in32 a2 → AgI Rel L n_X11_look n_X12_look [vI a0, vI a1, vI a2]) ∧
  (∀ a0 : Int, in32 a0 → AgI Rel L n_X11_looked n_X12_looked [vI a0]) ∧
  (∀ a0 a1 : Int, in32 a0 → in32 a1 → AgI Rel L n_X11_pool n_X12_pool [vI a0, vI a1]) ∧
  (∀ a0 a1 a2 a3 a4 : Int, in32 a0 → in32 a1 → in32 a2 → in32 a3 → in32 a4 → AgI Rel L n_X11_rent n_X12_rent [vI a0, vI a1, vI a2, vI a3, vI a4]) ∧
  (∀ a0 : Int, in32 a0 → AgI Rel L n_X11_rented n_X12_rented [vI a0]) ∧
  (AgI Rel L n_X11_asked n_X12_asked []) ∧
  (AgL Rel L n_X11_upper n_X12_upper []) ∧
  (AgL Rel L n_X11_lower n_X12_lower []) ∧
  (∀ a0 : Int, in32 a0 → AgI Rel L n_X11_count n_X12_count [vI a0]) ∧
  (AgI Rel L n_X11_finding n_X12_finding []) ∧
  (∀ a0 : Int, in32 a0 → AgI Rel L n_X11_findings n_X12_findings [vI a0]) ∧
  (AgL Rel L n_X11_digest n_X12_digest [])
set_option maxRecDepth 100000 in
set_option maxHeartbeats 4000000 in
theorem lc_280 {Rel : (Nat → Int → Int) → Nat → Prop} {L : Nat} {S : Int → Int} {i : Int} (hc : ∀ a0 a1 : Int, in32 a0 → in32 a1 → AgI Rel L n_X11_row n_X12_row [vI a0, vI a1]) (hS : ∀ j, in32 (S j)) (g1 : tqib (w32 (i + 1)) L = true) (g2 : tqib (w32 (i + 2)) L = true) (hgo : LawAt Rel L S 2176 i) : LawAt Rel L S 280 i := by
  intro D n hR hD
  obtain ⟨x, D1, n1, D2, h1, h2, e1, e2, r⟩ := hc (D 1 (w32 (i + 1))) (D 1 (w32 (i + 2))) (by rw [hD]; exact hS _) (by rw [hD]; exact hS _) D n hR
  obtain ⟨mF, h3, h4⟩ := hgo D2 n1 r (e2.trans hD)
  refine ⟨mF, ?_, h4⟩
  rw [b_L_law_280]
  simp only [tzW_D, tzW_S1, tzW_S2, tzW_S81, nb81, nb88, nb21, nb22, Bool.false_or, Bool.true_and, cond_true, g1, g2, tqbI_mk, h1, h2, e1, dxx]
  exact h3
set_option maxRecDepth 100000 in
set_option maxHeartbeats 4000000 in
theorem lc_313 {Rel : (Nat → Int → Int) → Nat → Prop} {L : Nat} {S : Int → Int} {i : Int} (hc : ∀ a0 a1 a2 : Int, in32 a0 → in32 a1 → in32 a2 → AgI Rel L n_X11_lay n_X12_lay [vI a0, vI a1, vI a2]) (hS : ∀ j, in32 (S j)) (g1 : tqib (w32 (i + 1)) L = true) (g2 : tqib (w32 (i + 2)) L = true) (g3 : tqib (w32 (i + 3)) L = true) (hgo : LawAt Rel L S 2176 i) : LawAt Rel L S 313 i := by
  intro D n hR hD
  obtain ⟨x, D1, n1, D2, h1, h2, e1, e2, r⟩ := hc (D 1 (w32 (i + 1))) (D 1 (w32 (i + 2))) (D 1 (w32 (i + 3))) (by rw [hD]; exact hS _) (by rw [hD]; exact hS _) (by rw [hD]; exact hS _) D n hR
  obtain ⟨mF, h3, h4⟩ := hgo D2 n1 r (e2.trans hD)
  refine ⟨mF, ?_, h4⟩
  rw [b_L_law_313]
  simp only [tzW_D, tzW_S1, tzW_S2, tzW_S81, nb81, nb88, nb21, nb22, Bool.false_or, Bool.true_and, cond_true, g1, g2, g3, tqbI_mk, h1, h2, e1, dxx]
  exact h3
set_option maxRecDepth 100000 in
set_option maxHeartbeats 4000000 in
theorem lc_356 {Rel : (Nat → Int → Int) → Nat → Prop} {L : Nat} {S : Int → Int} {i : Int} (hc : ∀ a0 : Int, in32 a0 → AgI Rel L n_X11_tear n_X12_tear [vI a0]) (hS : ∀ j, in32 (S j)) (g1 : tqib (w32 (i + 1)) L = true) (hgo : LawAt Rel L S 2176 i) : LawAt Rel L S 356 i := by
  intro D n hR hD
  obtain ⟨x, D1, n1, D2, h1, h2, e1, e2, r⟩ := hc (D 1 (w32 (i + 1))) (by rw [hD]; exact hS _) D n hR
  obtain ⟨mF, h3, h4⟩ := hgo D2 n1 r (e2.trans hD)
  refine ⟨mF, ?_, h4⟩
  rw [b_L_law_356]
  simp only [tzW_D, tzW_S1, tzW_S2, tzW_S81, nb81, nb88, nb21, nb22, Bool.false_or, Bool.true_and, cond_true, g1, tqbI_mk, h1, h2, e1, dxx]
  exact h3
set_option maxRecDepth 100000 in
set_option maxHeartbeats 4000000 in
theorem lc_379 {Rel : (Nat → Int → Int) → Nat → Prop} {L : Nat} {S : Int → Int} {i : Int} (hc : ∀ a0 a1 a2 a3 a4 : Int, in32 a0 → in32 a1 → in32 a2 → in32 a3 → in32 a4 → AgI Rel L n_X11_copy n_X12_copy [vI a0, vI a1, vI a2, vI a3, vI a4]) (hS : ∀ j, in32 (S j)) (g1 : tqib (w32 (i + 1)) L = true) (g2 : tqib (w32 (i + 2)) L = true) (g3 : tqib (w32 (i + 3)) L = true) (g4 : tqib (w32 (i + 4)) L = true) (g5 : tqib (w32 (i + 5)) L = true) (hgo : LawAt Rel L S 2176 i) : LawAt Rel L S 379 i := by
  intro D n hR hD
  obtain ⟨x, D1, n1, D2, h1, h2, e1, e2, r⟩ := hc (D 1 (w32 (i + 1))) (D 1 (w32 (i + 2))) (D 1 (w32 (i + 3))) (D 1 (w32 (i + 4))) (D 1 (w32 (i + 5))) (by rw [hD]; exact hS _) (by rw [hD]; exact hS _) (by rw [hD]; exact hS _) (by rw [hD]; exact hS _) (by rw [hD]; exact hS _) D n hR
  obtain ⟨mF, h3, h4⟩ := hgo D2 n1 r (e2.trans hD)
  refine ⟨mF, ?_, h4⟩
  rw [b_L_law_379]
  simp only [tzW_D, tzW_S1, tzW_S2, tzW_S81, nb81, nb88, nb21, nb22, Bool.false_or, Bool.true_and, cond_true, g1, g2, g3, g4, g5, tqbI_mk, h1, h2, e1, dxx]
  exact h3
set_option maxRecDepth 100000 in
set_option maxHeartbeats 4000000 in
theorem lc_442 {Rel : (Nat → Int → Int) → Nat → Prop} {L : Nat} {S : Int → Int} {i : Int} (hc : ∀ a0 a1 : Int, in32 a0 → in32 a1 → AgI Rel L n_X11_text n_X12_text [vI a0, vI a1]) (hS : ∀ j, in32 (S j)) (g1 : tqib (w32 (i + 1)) L = true) (g2 : tqib (w32 (i + 2)) L = true) (hgo : LawAt Rel L S 2176 i) : LawAt Rel L S 442 i := by
  intro D n hR hD
  obtain ⟨x, D1, n1, D2, h1, h2, e1, e2, r⟩ := hc (D 1 (w32 (i + 1))) (D 1 (w32 (i + 2))) (by rw [hD]; exact hS _) (by rw [hD]; exact hS _) D n hR
  obtain ⟨mF, h3, h4⟩ := hgo D2 n1 r (e2.trans hD)
  refine ⟨mF, ?_, h4⟩
  rw [b_L_law_442]
  simp only [tzW_D, tzW_S1, tzW_S2, tzW_S81, nb81, nb88, nb21, nb22, Bool.false_or, Bool.true_and, cond_true, g1, g2, tqbI_mk, h1, h2, e1, dxx]
  exact h3
set_option maxRecDepth 100000 in
set_option maxHeartbeats 4000000 in
theorem lc_475 {Rel : (Nat → Int → Int) → Nat → Prop} {L : Nat} {S : Int → Int} {i : Int} (hc : ∀ a0 a1 a2 : Int, in32 a0 → in32 a1 → in32 a2 → AgI Rel L n_X11_put n_X12_put [vI a0, vI a1, vI a2]) (hS : ∀ j, in32 (S j)) (g1 : tqib (w32 (i + 1)) L = true) (g2 : tqib (w32 (i + 2)) L = true) (g3 : tqib (w32 (i + 3)) L = true) (hgo : LawAt Rel L S 2176 i) : LawAt Rel L S 475 i := by
  intro D n hR hD
  obtain ⟨x, D1, n1, D2, h1, h2, e1, e2, r⟩ := hc (D 1 (w32 (i + 1))) (D 1 (w32 (i + 2))) (D 1 (w32 (i + 3))) (by rw [hD]; exact hS _) (by rw [hD]; exact hS _) (by rw [hD]; exact hS _) D n hR
  obtain ⟨mF, h3, h4⟩ := hgo D2 n1 r (e2.trans hD)
  refine ⟨mF, ?_, h4⟩
  rw [b_L_law_475]
  simp only [tzW_D, tzW_S1, tzW_S2, tzW_S81, nb81, nb88, nb21, nb22, Bool.false_or, Bool.true_and, cond_true, g1, g2, g3, tqbI_mk, h1, h2, e1, dxx]
  exact h3
set_option maxRecDepth 100000 in
set_option maxHeartbeats 4000000 in
theorem lc_518 {Rel : (Nat → Int → Int) → Nat → Prop} {L : Nat} {S : Int → Int} {i : Int} (hc : ∀ a0 : Int, in32 a0 → AgI Rel L n_X11_fault n_X12_fault [vI a0]) (hS : ∀ j, in32 (S j)) (g1 : tqib (w32 (i + 1)) L = true) (hgo : LawAt Rel L S 2176 i) : LawAt Rel L S 518 i := by
  intro D n hR hD
  obtain ⟨x, D1, n1, D2, h1, h2, e1, e2, r⟩ := hc (D 1 (w32 (i + 1))) (by rw [hD]; exact hS _) D n hR
  obtain ⟨mF, h3, h4⟩ := hgo D2 n1 r (e2.trans hD)
  refine ⟨mF, ?_, h4⟩
  rw [b_L_law_518]
  simp only [tzW_D, tzW_S1, tzW_S2, tzW_S81, nb81, nb88, nb21, nb22, Bool.false_or, Bool.true_and, cond_true, g1, tqbI_mk, h1, h2, e1, dxx]
  exact h3
set_option maxRecDepth 100000 in
set_option maxHeartbeats 4000000 in
theorem lc_541 {Rel : (Nat → Int → Int) → Nat → Prop} {L : Nat} {S : Int → Int} {i : Int} (hc : ∀ a0 : Int, in32 a0 → AgI Rel L n_X11_later n_X12_later [vI a0]) (hS : ∀ j, in32 (S j)) (g1 : tqib (w32 (i + 1)) L = true) (hgo : LawAt Rel L S 2176 i) : LawAt Rel L S 541 i := by
  intro D n hR hD
  obtain ⟨x, D1, n1, D2, h1, h2, e1, e2, r⟩ := hc (D 1 (w32 (i + 1))) (by rw [hD]; exact hS _) D n hR
  obtain ⟨mF, h3, h4⟩ := hgo D2 n1 r (e2.trans hD)
  refine ⟨mF, ?_, h4⟩
  rw [b_L_law_541]
  simp only [tzW_D, tzW_S1, tzW_S2, tzW_S81, nb81, nb88, nb21, nb22, Bool.false_or, Bool.true_and, cond_true, g1, tqbI_mk, h1, h2, e1, dxx]
  exact h3
set_option maxRecDepth 100000 in
set_option maxHeartbeats 4000000 in
theorem lc_564 {Rel : (Nat → Int → Int) → Nat → Prop} {L : Nat} {S : Int → Int} {i : Int} (hc : ∀ a0 a1 a2 a3 : Int, in32 a0 → in32 a1 → in32 a2 → in32 a3 → AgI Rel L n_X11_way n_X12_way [vI a0, vI a1, vI a2, vI a3]) (hS : ∀ j, in32 (S j)) (g1 : tqib (w32 (i + 1)) L = true) (g2 : tqib (w32 (i + 2)) L = true) (g3 : tqib (w32 (i + 3)) L = true) (g4 : tqib (w32 (i + 4)) L = true) (hgo : LawAt Rel L S 2176 i) : LawAt Rel L S 564 i := by
  intro D n hR hD
  obtain ⟨x, D1, n1, D2, h1, h2, e1, e2, r⟩ := hc (D 1 (w32 (i + 1))) (D 1 (w32 (i + 2))) (D 1 (w32 (i + 3))) (D 1 (w32 (i + 4))) (by rw [hD]; exact hS _) (by rw [hD]; exact hS _) (by rw [hD]; exact hS _) (by rw [hD]; exact hS _) D n hR
  obtain ⟨mF, h3, h4⟩ := hgo D2 n1 r (e2.trans hD)
  refine ⟨mF, ?_, h4⟩
  rw [b_L_law_564]
  simp only [tzW_D, tzW_S1, tzW_S2, tzW_S81, nb81, nb88, nb21, nb22, Bool.false_or, Bool.true_and, cond_true, g1, g2, g3, g4, tqbI_mk, h1, h2, e1, dxx]
  exact h3
set_option maxRecDepth 100000 in
set_option maxHeartbeats 4000000 in
theorem lc_617 {Rel : (Nat → Int → Int) → Nat → Prop} {L : Nat} {S : Int → Int} {i : Int} (hc : ∀ a0 a1 a2 a3 : Int, in32 a0 → in32 a1 → in32 a2 → in32 a3 → AgI Rel L n_X11_ferry n_X12_ferry [vI a0, vI a1, vI a2, vI a3]) (hS : ∀ j, in32 (S j)) (g1 : tqib (w32 (i + 1)) L = true) (g2 : tqib (w32 (i + 2)) L = true) (g3 : tqib (w32 (i + 3)) L = true) (g4 : tqib (w32 (i + 4)) L = true) (hgo : LawAt Rel L S 2176 i) : LawAt Rel L S 617 i := by
  intro D n hR hD
  obtain ⟨x, D1, n1, D2, h1, h2, e1, e2, r⟩ := hc (D 1 (w32 (i + 1))) (D 1 (w32 (i + 2))) (D 1 (w32 (i + 3))) (D 1 (w32 (i + 4))) (by rw [hD]; exact hS _) (by rw [hD]; exact hS _) (by rw [hD]; exact hS _) (by rw [hD]; exact hS _) D n hR
  obtain ⟨mF, h3, h4⟩ := hgo D2 n1 r (e2.trans hD)
  refine ⟨mF, ?_, h4⟩
  rw [b_L_law_617]
  simp only [tzW_D, tzW_S1, tzW_S2, tzW_S81, nb81, nb88, nb21, nb22, Bool.false_or, Bool.true_and, cond_true, g1, g2, g3, g4, tqbI_mk, h1, h2, e1, dxx]
  exact h3
set_option maxRecDepth 100000 in
set_option maxHeartbeats 4000000 in
theorem lc_670 {Rel : (Nat → Int → Int) → Nat → Prop} {L : Nat} {S : Int → Int} {i : Int} (hc : ∀ a0 a1 a2 : Int, in32 a0 → in32 a1 → in32 a2 → AgI Rel L n_X11_comes n_X12_comes [vI a0, vI a1, vI a2]) (hS : ∀ j, in32 (S j)) (g1 : tqib (w32 (i + 1)) L = true) (g2 : tqib (w32 (i + 2)) L = true) (g3 : tqib (w32 (i + 3)) L = true) (hgo : LawAt Rel L S 2176 i) : LawAt Rel L S 670 i := by
  intro D n hR hD
  obtain ⟨x, D1, n1, D2, h1, h2, e1, e2, r⟩ := hc (D 1 (w32 (i + 1))) (D 1 (w32 (i + 2))) (D 1 (w32 (i + 3))) (by rw [hD]; exact hS _) (by rw [hD]; exact hS _) (by rw [hD]; exact hS _) D n hR
  obtain ⟨mF, h3, h4⟩ := hgo D2 n1 r (e2.trans hD)
  refine ⟨mF, ?_, h4⟩
  rw [b_L_law_670]
  simp only [tzW_D, tzW_S1, tzW_S2, tzW_S81, nb81, nb88, nb21, nb22, Bool.false_or, Bool.true_and, cond_true, g1, g2, g3, tqbI_mk, h1, h2, e1, dxx]
  exact h3
set_option maxRecDepth 100000 in
set_option maxHeartbeats 4000000 in
theorem lc_713 {Rel : (Nat → Int → Int) → Nat → Prop} {L : Nat} {S : Int → Int} {i : Int} (hc : ∀ a0 a1 : Int, in32 a0 → in32 a1 → AgI Rel L n_X11_toll n_X12_toll [vI a0, vI a1]) (hS : ∀ j, in32 (S j)) (g1 : tqib (w32 (i + 1)) L = true) (g2 : tqib (w32 (i + 2)) L = true) (hgo : LawAt Rel L S 2176 i) : LawAt Rel L S 713 i := by
  intro D n hR hD
  obtain ⟨x, D1, n1, D2, h1, h2, e1, e2, r⟩ := hc (D 1 (w32 (i + 1))) (D 1 (w32 (i + 2))) (by rw [hD]; exact hS _) (by rw [hD]; exact hS _) D n hR
  obtain ⟨mF, h3, h4⟩ := hgo D2 n1 r (e2.trans hD)
  refine ⟨mF, ?_, h4⟩
  rw [b_L_law_713]
  simp only [tzW_D, tzW_S1, tzW_S2, tzW_S81, nb81, nb88, nb21, nb22, Bool.false_or, Bool.true_and, cond_true, g1, g2, tqbI_mk, h1, h2, e1, dxx]
  exact h3
set_option maxRecDepth 100000 in
set_option maxHeartbeats 4000000 in
theorem lc_746 {Rel : (Nat → Int → Int) → Nat → Prop} {L : Nat} {S : Int → Int} {i : Int} (hc : ∀ a0 a1 a2 : Int, in32 a0 → in32 a1 → in32 a2 → AgI Rel L n_X11_trailer n_X12_trailer [vI a0, vI a1, vI a2]) (hS : ∀ j, in32 (S j)) (g1 : tqib (w32 (i + 1)) L = true) (g2 : tqib (w32 (i + 2)) L = true) (g3 : tqib (w32 (i + 3)) L = true) (hgo : LawAt Rel L S 2176 i) : LawAt Rel L S 746 i := by
  intro D n hR hD
  obtain ⟨x, D1, n1, D2, h1, h2, e1, e2, r⟩ := hc (D 1 (w32 (i + 1))) (D 1 (w32 (i + 2))) (D 1 (w32 (i + 3))) (by rw [hD]; exact hS _) (by rw [hD]; exact hS _) (by rw [hD]; exact hS _) D n hR
  obtain ⟨mF, h3, h4⟩ := hgo D2 n1 r (e2.trans hD)
  refine ⟨mF, ?_, h4⟩
  rw [b_L_law_746]
  simp only [tzW_D, tzW_S1, tzW_S2, tzW_S81, nb81, nb88, nb21, nb22, Bool.false_or, Bool.true_and, cond_true, g1, g2, g3, tqbI_mk, h1, h2, e1, dxx]
  exact h3
set_option maxRecDepth 100000 in
set_option maxHeartbeats 4000000 in
theorem lc_789 {Rel : (Nat → Int → Int) → Nat → Prop} {L : Nat} {S : Int → Int} {i : Int} (hc : ∀ a0 a1 : Int, in32 a0 → in32 a1 → AgI Rel L n_X11_told n_X12_told [vI a0, vI a1]) (hS : ∀ j, in32 (S j)) (g1 : tqib (w32 (i + 1)) L = true) (g2 : tqib (w32 (i + 2)) L = true) (hgo : LawAt Rel L S 2176 i) : LawAt Rel L S 789 i := by
  intro D n hR hD
  obtain ⟨x, D1, n1, D2, h1, h2, e1, e2, r⟩ := hc (D 1 (w32 (i + 1))) (D 1 (w32 (i + 2))) (by rw [hD]; exact hS _) (by rw [hD]; exact hS _) D n hR
  obtain ⟨mF, h3, h4⟩ := hgo D2 n1 r (e2.trans hD)
  refine ⟨mF, ?_, h4⟩
  rw [b_L_law_789]
  simp only [tzW_D, tzW_S1, tzW_S2, tzW_S81, nb81, nb88, nb21, nb22, Bool.false_or, Bool.true_and, cond_true, g1, g2, tqbI_mk, h1, h2, e1, dxx]
  exact h3
set_option maxRecDepth 100000 in
set_option maxHeartbeats 4000000 in
theorem lc_822 {Rel : (Nat → Int → Int) → Nat → Prop} {L : Nat} {S : Int → Int} {i : Int} (hc : ∀ a0 a1 : Int, in32 a0 → in32 a1 → AgI Rel L n_X11_mark n_X12_mark [vI a0, vI a1]) (hS : ∀ j, in32 (S j)) (g1 : tqib (w32 (i + 1)) L = true) (g2 : tqib (w32 (i + 2)) L = true) (hgo : LawAt Rel L S 2176 i) : LawAt Rel L S 822 i := by
  intro D n hR hD
  obtain ⟨x, D1, n1, D2, h1, h2, e1, e2, r⟩ := hc (D 1 (w32 (i + 1))) (D 1 (w32 (i + 2))) (by rw [hD]; exact hS _) (by rw [hD]; exact hS _) D n hR
  obtain ⟨mF, h3, h4⟩ := hgo D2 n1 r (e2.trans hD)
  refine ⟨mF, ?_, h4⟩
  rw [b_L_law_822]
  simp only [tzW_D, tzW_S1, tzW_S2, tzW_S81, nb81, nb88, nb21, nb22, Bool.false_or, Bool.true_and, cond_true, g1, g2, tqbI_mk, h1, h2, e1, dxx]
  exact h3
set_option maxRecDepth 100000 in
set_option maxHeartbeats 4000000 in
theorem lc_855 {Rel : (Nat → Int → Int) → Nat → Prop} {L : Nat} {S : Int → Int} {i : Int} (hc : ∀ a0 a1 : Int, in32 a0 → in32 a1 → AgI Rel L n_X11_limit n_X12_limit [vI a0, vI a1]) (hS : ∀ j, in32 (S j)) (g1 : tqib (w32 (i + 1)) L = true) (g2 : tqib (w32 (i + 2)) L = true) (hgo : LawAt Rel L S 2176 i) : LawAt Rel L S 855 i := by
  intro D n hR hD
  obtain ⟨x, D1, n1, D2, h1, h2, e1, e2, r⟩ := hc (D 1 (w32 (i + 1))) (D 1 (w32 (i + 2))) (by rw [hD]; exact hS _) (by rw [hD]; exact hS _) D n hR
  obtain ⟨mF, h3, h4⟩ := hgo D2 n1 r (e2.trans hD)
  refine ⟨mF, ?_, h4⟩
  rw [b_L_law_855]
  simp only [tzW_D, tzW_S1, tzW_S2, tzW_S81, nb81, nb88, nb21, nb22, Bool.false_or, Bool.true_and, cond_true, g1, g2, tqbI_mk, h1, h2, e1, dxx]
  exact h3
set_option maxRecDepth 100000 in
set_option maxHeartbeats 4000000 in
theorem lc_888 {Rel : (Nat → Int → Int) → Nat → Prop} {L : Nat} {S : Int → Int} {i : Int} (hc : ∀ a0 a1 : Int, in32 a0 → in32 a1 → AgI Rel L n_X11_park n_X12_park [vI a0, vI a1]) (hS : ∀ j, in32 (S j)) (g1 : tqib (w32 (i + 1)) L = true) (g2 : tqib (w32 (i + 2)) L = true) (hgo : LawAt Rel L S 2176 i) : LawAt Rel L S 888 i := by
  intro D n hR hD
  obtain ⟨x, D1, n1, D2, h1, h2, e1, e2, r⟩ := hc (D 1 (w32 (i + 1))) (D 1 (w32 (i + 2))) (by rw [hD]; exact hS _) (by rw [hD]; exact hS _) D n hR
  obtain ⟨mF, h3, h4⟩ := hgo D2 n1 r (e2.trans hD)
  refine ⟨mF, ?_, h4⟩
  rw [b_L_law_888]
  simp only [tzW_D, tzW_S1, tzW_S2, tzW_S81, nb81, nb88, nb21, nb22, Bool.false_or, Bool.true_and, cond_true, g1, g2, tqbI_mk, h1, h2, e1, dxx]
  exact h3
set_option maxRecDepth 100000 in
set_option maxHeartbeats 4000000 in
theorem lc_921 {Rel : (Nat → Int → Int) → Nat → Prop} {L : Nat} {S : Int → Int} {i : Int} (hc : ∀ a0 a1 : Int, in32 a0 → in32 a1 → AgI Rel L n_X11_hitch n_X12_hitch [vI a0, vI a1]) (hS : ∀ j, in32 (S j)) (g1 : tqib (w32 (i + 1)) L = true) (g2 : tqib (w32 (i + 2)) L = true) (hgo : LawAt Rel L S 2176 i) : LawAt Rel L S 921 i := by
  intro D n hR hD
  obtain ⟨x, D1, n1, D2, h1, h2, e1, e2, r⟩ := hc (D 1 (w32 (i + 1))) (D 1 (w32 (i + 2))) (by rw [hD]; exact hS _) (by rw [hD]; exact hS _) D n hR
  obtain ⟨mF, h3, h4⟩ := hgo D2 n1 r (e2.trans hD)
  refine ⟨mF, ?_, h4⟩
  rw [b_L_law_921]
  simp only [tzW_D, tzW_S1, tzW_S2, tzW_S81, nb81, nb88, nb21, nb22, Bool.false_or, Bool.true_and, cond_true, g1, g2, tqbI_mk, h1, h2, e1, dxx]
  exact h3
set_option maxRecDepth 100000 in
set_option maxHeartbeats 4000000 in
theorem lc_954 {Rel : (Nat → Int → Int) → Nat → Prop} {L : Nat} {S : Int → Int} {i : Int} (hc : ∀ a0 : Int, in32 a0 → AgI Rel L n_X11_drop n_X12_drop [vI a0]) (hS : ∀ j, in32 (S j)) (g1 : tqib (w32 (i + 1)) L = true) (hgo : LawAt Rel L S 2176 i) : LawAt Rel L S 954 i := by
  intro D n hR hD
  obtain ⟨x, D1, n1, D2, h1, h2, e1, e2, r⟩ := hc (D 1 (w32 (i + 1))) (by rw [hD]; exact hS _) D n hR
  obtain ⟨mF, h3, h4⟩ := hgo D2 n1 r (e2.trans hD)
  refine ⟨mF, ?_, h4⟩
  rw [b_L_law_954]
  simp only [tzW_D, tzW_S1, tzW_S2, tzW_S81, nb81, nb88, nb21, nb22, Bool.false_or, Bool.true_and, cond_true, g1, tqbI_mk, h1, h2, e1, dxx]
  exact h3
set_option maxRecDepth 100000 in
set_option maxHeartbeats 4000000 in
theorem lc_977 {Rel : (Nat → Int → Int) → Nat → Prop} {L : Nat} {S : Int → Int} {i : Int} (hc : ∀ a0 a1 : Int, in32 a0 → in32 a1 → AgI Rel L n_X11_go n_X12_go [vI a0, vI a1]) (hS : ∀ j, in32 (S j)) (g1 : tqib (w32 (i + 1)) L = true) (g2 : tqib (w32 (i + 2)) L = true) (hgo : LawAt Rel L S 2176 i) : LawAt Rel L S 977 i := by
  intro D n hR hD
  obtain ⟨x, D1, n1, D2, h1, h2, e1, e2, r⟩ := hc (D 1 (w32 (i + 1))) (D 1 (w32 (i + 2))) (by rw [hD]; exact hS _) (by rw [hD]; exact hS _) D n hR
  obtain ⟨mF, h3, h4⟩ := hgo D2 n1 r (e2.trans hD)
  refine ⟨mF, ?_, h4⟩
  rw [b_L_law_977]
  simp only [tzW_D, tzW_S1, tzW_S2, tzW_S81, nb81, nb88, nb21, nb22, Bool.false_or, Bool.true_and, cond_true, g1, g2, tqbI_mk, h1, h2, e1, dxx]
  exact h3
set_option maxRecDepth 100000 in
set_option maxHeartbeats 4000000 in
theorem lc_1010 {Rel : (Nat → Int → Int) → Nat → Prop} {L : Nat} {S : Int → Int} {i : Int} (hc : ∀ a0 a1 : Int, in32 a0 → in32 a1 → AgI Rel L n_X11_tractor n_X12_tractor [vI a0, vI a1]) (hS : ∀ j, in32 (S j)) (g1 : tqib (w32 (i + 1)) L = true) (g2 : tqib (w32 (i + 2)) L = true) (hgo : LawAt Rel L S 2176 i) : LawAt Rel L S 1010 i := by
  intro D n hR hD
  obtain ⟨x, D1, n1, D2, h1, h2, e1, e2, r⟩ := hc (D 1 (w32 (i + 1))) (D 1 (w32 (i + 2))) (by rw [hD]; exact hS _) (by rw [hD]; exact hS _) D n hR
  obtain ⟨mF, h3, h4⟩ := hgo D2 n1 r (e2.trans hD)
  refine ⟨mF, ?_, h4⟩
  rw [b_L_law_1010]
  simp only [tzW_D, tzW_S1, tzW_S2, tzW_S81, nb81, nb88, nb21, nb22, Bool.false_or, Bool.true_and, cond_true, g1, g2, tqbI_mk, h1, h2, e1, dxx]
  exact h3
set_option maxRecDepth 100000 in
set_option maxHeartbeats 4000000 in
theorem lc_1043 {Rel : (Nat → Int → Int) → Nat → Prop} {L : Nat} {S : Int → Int} {i : Int} (hc : ∀ a0 : Int, in32 a0 → AgI Rel L n_X11_lose n_X12_lose [vI a0]) (hS : ∀ j, in32 (S j)) (g1 : tqib (w32 (i + 1)) L = true) (hgo : LawAt Rel L S 2176 i) : LawAt Rel L S 1043 i := by
  intro D n hR hD
  obtain ⟨x, D1, n1, D2, h1, h2, e1, e2, r⟩ := hc (D 1 (w32 (i + 1))) (by rw [hD]; exact hS _) D n hR
  obtain ⟨mF, h3, h4⟩ := hgo D2 n1 r (e2.trans hD)
  refine ⟨mF, ?_, h4⟩
  rw [b_L_law_1043]
  simp only [tzW_D, tzW_S1, tzW_S2, tzW_S81, nb81, nb88, nb21, nb22, Bool.false_or, Bool.true_and, cond_true, g1, tqbI_mk, h1, h2, e1, dxx]
  exact h3
set_option maxRecDepth 100000 in
set_option maxHeartbeats 4000000 in
theorem lc_1066 {Rel : (Nat → Int → Int) → Nat → Prop} {L : Nat} {S : Int → Int} {i : Int} (hc : ∀ a0 a1 : Int, in32 a0 → in32 a1 → AgI Rel L n_X11_find n_X12_find [vI a0, vI a1]) (hS : ∀ j, in32 (S j)) (g1 : tqib (w32 (i + 1)) L = true) (g2 : tqib (w32 (i + 2)) L = true) (hgo : LawAt Rel L S 2176 i) : LawAt Rel L S 1066 i := by
  intro D n hR hD
  obtain ⟨x, D1, n1, D2, h1, h2, e1, e2, r⟩ := hc (D 1 (w32 (i + 1))) (D 1 (w32 (i + 2))) (by rw [hD]; exact hS _) (by rw [hD]; exact hS _) D n hR
  obtain ⟨mF, h3, h4⟩ := hgo D2 n1 r (e2.trans hD)
  refine ⟨mF, ?_, h4⟩
  rw [b_L_law_1066]
  simp only [tzW_D, tzW_S1, tzW_S2, tzW_S81, nb81, nb88, nb21, nb22, Bool.false_or, Bool.true_and, cond_true, g1, g2, tqbI_mk, h1, h2, e1, dxx]
  exact h3
set_option maxRecDepth 100000 in
set_option maxHeartbeats 4000000 in
theorem lc_1099 {Rel : (Nat → Int → Int) → Nat → Prop} {L : Nat} {S : Int → Int} {i : Int} (hc : ∀ a0 a1 : Int, in32 a0 → in32 a1 → AgI Rel L n_X11_seal n_X12_seal [vI a0, vI a1]) (hS : ∀ j, in32 (S j)) (g1 : tqib (w32 (i + 1)) L = true) (g2 : tqib (w32 (i + 2)) L = true) (hgo : LawAt Rel L S 2176 i) : LawAt Rel L S 1099 i := by
  intro D n hR hD
  obtain ⟨x, D1, n1, D2, h1, h2, e1, e2, r⟩ := hc (D 1 (w32 (i + 1))) (D 1 (w32 (i + 2))) (by rw [hD]; exact hS _) (by rw [hD]; exact hS _) D n hR
  obtain ⟨mF, h3, h4⟩ := hgo D2 n1 r (e2.trans hD)
  refine ⟨mF, ?_, h4⟩
  rw [b_L_law_1099]
  simp only [tzW_D, tzW_S1, tzW_S2, tzW_S81, nb81, nb88, nb21, nb22, Bool.false_or, Bool.true_and, cond_true, g1, g2, tqbI_mk, h1, h2, e1, dxx]
  exact h3
set_option maxRecDepth 100000 in
set_option maxHeartbeats 4000000 in
theorem lc_1132 {Rel : (Nat → Int → Int) → Nat → Prop} {L : Nat} {S : Int → Int} {i : Int} (hc : ∀ a0 a1 a2 : Int, in32 a0 → in32 a1 → in32 a2 → AgI Rel L n_X11_book n_X12_book [vI a0, vI a1, vI a2]) (hS : ∀ j, in32 (S j)) (g1 : tqib (w32 (i + 1)) L = true) (g2 : tqib (w32 (i + 2)) L = true) (g3 : tqib (w32 (i + 3)) L = true) (hgo : LawAt Rel L S 2176 i) : LawAt Rel L S 1132 i := by
  intro D n hR hD
  obtain ⟨x, D1, n1, D2, h1, h2, e1, e2, r⟩ := hc (D 1 (w32 (i + 1))) (D 1 (w32 (i + 2))) (D 1 (w32 (i + 3))) (by rw [hD]; exact hS _) (by rw [hD]; exact hS _) (by rw [hD]; exact hS _) D n hR
  obtain ⟨mF, h3, h4⟩ := hgo D2 n1 r (e2.trans hD)
  refine ⟨mF, ?_, h4⟩
  rw [b_L_law_1132]
  simp only [tzW_D, tzW_S1, tzW_S2, tzW_S81, nb81, nb88, nb21, nb22, Bool.false_or, Bool.true_and, cond_true, g1, g2, g3, tqbI_mk, h1, h2, e1, dxx]
  exact h3
set_option maxRecDepth 100000 in
set_option maxHeartbeats 4000000 in
theorem lc_1175 {Rel : (Nat → Int → Int) → Nat → Prop} {L : Nat} {S : Int → Int} {i : Int} (hc : ∀ a0 a1 : Int, in32 a0 → in32 a1 → AgI Rel L n_X11_where n_X12_where [vI a0, vI a1]) (hS : ∀ j, in32 (S j)) (g1 : tqib (w32 (i + 1)) L = true) (g2 : tqib (w32 (i + 2)) L = true) (hgo : LawAt Rel L S 2176 i) : LawAt Rel L S 1175 i := by
  intro D n hR hD
  obtain ⟨x, D1, n1, D2, h1, h2, e1, e2, r⟩ := hc (D 1 (w32 (i + 1))) (D 1 (w32 (i + 2))) (by rw [hD]; exact hS _) (by rw [hD]; exact hS _) D n hR
  obtain ⟨mF, h3, h4⟩ := hgo D2 n1 r (e2.trans hD)
  refine ⟨mF, ?_, h4⟩
  rw [b_L_law_1175]
  simp only [tzW_D, tzW_S1, tzW_S2, tzW_S81, nb81, nb88, nb21, nb22, Bool.false_or, Bool.true_and, cond_true, g1, g2, tqbI_mk, h1, h2, e1, dxx]
  exact h3
set_option maxRecDepth 100000 in
set_option maxHeartbeats 4000000 in
theorem lc_1208 {Rel : (Nat → Int → Int) → Nat → Prop} {L : Nat} {S : Int → Int} {i : Int} (hc : ∀ a0 a1 : Int, in32 a0 → in32 a1 → AgI Rel L n_X11_terms n_X12_terms [vI a0, vI a1]) (hS : ∀ j, in32 (S j)) (g1 : tqib (w32 (i + 1)) L = true) (g2 : tqib (w32 (i + 2)) L = true) (hgo : LawAt Rel L S 2176 i) : LawAt Rel L S 1208 i := by
  intro D n hR hD
  obtain ⟨x, D1, n1, D2, h1, h2, e1, e2, r⟩ := hc (D 1 (w32 (i + 1))) (D 1 (w32 (i + 2))) (by rw [hD]; exact hS _) (by rw [hD]; exact hS _) D n hR
  obtain ⟨mF, h3, h4⟩ := hgo D2 n1 r (e2.trans hD)
  refine ⟨mF, ?_, h4⟩
  rw [b_L_law_1208]
  simp only [tzW_D, tzW_S1, tzW_S2, tzW_S81, nb81, nb88, nb21, nb22, Bool.false_or, Bool.true_and, cond_true, g1, g2, tqbI_mk, h1, h2, e1, dxx]
  exact h3
set_option maxRecDepth 100000 in
set_option maxHeartbeats 4000000 in
theorem lc_1241 {Rel : (Nat → Int → Int) → Nat → Prop} {L : Nat} {S : Int → Int} {i : Int} (hc : ∀ a0 a1 a2 a3 : Int, in32 a0 → in32 a1 → in32 a2 → in32 a3 → AgI Rel L n_X11_force n_X12_force [vI a0, vI a1, vI a2, vI a3]) (hS : ∀ j, in32 (S j)) (g1 : tqib (w32 (i + 1)) L = true) (g2 : tqib (w32 (i + 2)) L = true) (g3 : tqib (w32 (i + 3)) L = true) (g4 : tqib (w32 (i + 4)) L = true) (hgo : LawAt Rel L S 2176 i) : LawAt Rel L S 1241 i := by
  intro D n hR hD
  obtain ⟨x, D1, n1, D2, h1, h2, e1, e2, r⟩ := hc (D 1 (w32 (i + 1))) (D 1 (w32 (i + 2))) (D 1 (w32 (i + 3))) (D 1 (w32 (i + 4))) (by rw [hD]; exact hS _) (by rw [hD]; exact hS _) (by rw [hD]; exact hS _) (by rw [hD]; exact hS _) D n hR
  obtain ⟨mF, h3, h4⟩ := hgo D2 n1 r (e2.trans hD)
  refine ⟨mF, ?_, h4⟩
  rw [b_L_law_1241]
  simp only [tzW_D, tzW_S1, tzW_S2, tzW_S81, nb81, nb88, nb21, nb22, Bool.false_or, Bool.true_and, cond_true, g1, g2, g3, g4, tqbI_mk, h1, h2, e1, dxx]
  exact h3
set_option maxRecDepth 100000 in
set_option maxHeartbeats 4000000 in
theorem lc_1294 {Rel : (Nat → Int → Int) → Nat → Prop} {L : Nat} {S : Int → Int} {i : Int} (hc : ∀ a0 : Int, in32 a0 → AgI Rel L n_X11_detention n_X12_detention [vI a0]) (hS : ∀ j, in32 (S j)) (g1 : tqib (w32 (i + 1)) L = true) (hgo : LawAt Rel L S 2176 i) : LawAt Rel L S 1294 i := by
  intro D n hR hD
  obtain ⟨x, D1, n1, D2, h1, h2, e1, e2, r⟩ := hc (D 1 (w32 (i + 1))) (by rw [hD]; exact hS _) D n hR
  obtain ⟨mF, h3, h4⟩ := hgo D2 n1 r (e2.trans hD)
  refine ⟨mF, ?_, h4⟩
  rw [b_L_law_1294]
  simp only [tzW_D, tzW_S1, tzW_S2, tzW_S81, nb81, nb88, nb21, nb22, Bool.false_or, Bool.true_and, cond_true, g1, tqbI_mk, h1, h2, e1, dxx]
  exact h3
set_option maxRecDepth 100000 in
set_option maxHeartbeats 4000000 in
theorem lc_1317 {Rel : (Nat → Int → Int) → Nat → Prop} {L : Nat} {S : Int → Int} {i : Int} (hc : AgL Rel L n_X11_pence n_X12_pence []) (hS : ∀ j, in32 (S j))  (hgo : LawAt Rel L S 2176 i) : LawAt Rel L S 1317 i := by
  intro D n hR hD
  obtain ⟨x, D1, n1, D2, h1, h2, e1, e2, r⟩ := hc   D n hR
  obtain ⟨mF, h3, h4⟩ := hgo D2 n1 r (e2.trans hD)
  refine ⟨mF, ?_, h4⟩
  rw [b_L_law_1317]
  simp only [tzW_D, tzW_S1, tzW_S2, tzW_S81, nb81, nb88, nb21, nb22, Bool.false_or, Bool.true_and, cond_true, tqbL_mk, h1, h2, e1, jxx]
  exact h3
set_option maxRecDepth 100000 in
set_option maxHeartbeats 4000000 in
theorem lc_1331 {Rel : (Nat → Int → Int) → Nat → Prop} {L : Nat} {S : Int → Int} {i : Int} (hc : ∀ a0 a1 : Int, in32 a0 → in32 a1 → AgI Rel L n_X11_law n_X12_law [vI a0, vI a1]) (hS : ∀ j, in32 (S j)) (g1 : tqib (w32 (i + 1)) L = true) (g2 : tqib (w32 (i + 2)) L = true) (hgo : LawAt Rel L S 2176 i) : LawAt Rel L S 1331 i := by
  intro D n hR hD
  obtain ⟨x, D1, n1, D2, h1, h2, e1, e2, r⟩ := hc (D 1 (w32 (i + 1))) (D 1 (w32 (i + 2))) (by rw [hD]; exact hS _) (by rw [hD]; exact hS _) D n hR
  obtain ⟨mF, h3, h4⟩ := hgo D2 n1 r (e2.trans hD)
  refine ⟨mF, ?_, h4⟩
  rw [b_L_law_1331]
  simp only [tzW_D, tzW_S1, tzW_S2, tzW_S81, nb81, nb88, nb21, nb22, Bool.false_or, Bool.true_and, cond_true, g1, g2, tqbI_mk, h1, h2, e1, dxx]
  exact h3
set_option maxRecDepth 100000 in
set_option maxHeartbeats 4000000 in
theorem lc_1364 {Rel : (Nat → Int → Int) → Nat → Prop} {L : Nat} {S : Int → Int} {i : Int} (hc : ∀ a0 a1 a2 : Int, in32 a0 → in32 a1 → in32 a2 → AgI Rel L n_X11_load n_X12_load [vI a0, vI a1, vI a2]) (hS : ∀ j, in32 (S j)) (g1 : tqib (w32 (i + 1)) L = true) (g2 : tqib (w32 (i + 2)) L = true) (g3 : tqib (w32 (i + 3)) L = true) (hgo : LawAt Rel L S 2176 i) : LawAt Rel L S 1364 i := by
  intro D n hR hD
  obtain ⟨x, D1, n1, D2, h1, h2, e1, e2, r⟩ := hc (D 1 (w32 (i + 1))) (D 1 (w32 (i + 2))) (D 1 (w32 (i + 3))) (by rw [hD]; exact hS _) (by rw [hD]; exact hS _) (by rw [hD]; exact hS _) D n hR
  obtain ⟨mF, h3, h4⟩ := hgo D2 n1 r (e2.trans hD)
  refine ⟨mF, ?_, h4⟩
  rw [b_L_law_1364]
  simp only [tzW_D, tzW_S1, tzW_S2, tzW_S81, nb81, nb88, nb21, nb22, Bool.false_or, Bool.true_and, cond_true, g1, g2, g3, tqbI_mk, h1, h2, e1, dxx]
  exact h3
set_option maxRecDepth 100000 in
set_option maxHeartbeats 4000000 in
theorem lc_1407 {Rel : (Nat → Int → Int) → Nat → Prop} {L : Nat} {S : Int → Int} {i : Int} (hc : ∀ a0 : Int, in32 a0 → AgI Rel L n_X11_unload n_X12_unload [vI a0]) (hS : ∀ j, in32 (S j)) (g1 : tqib (w32 (i + 1)) L = true) (hgo : LawAt Rel L S 2176 i) : LawAt Rel L S 1407 i := by
  intro D n hR hD
  obtain ⟨x, D1, n1, D2, h1, h2, e1, e2, r⟩ := hc (D 1 (w32 (i + 1))) (by rw [hD]; exact hS _) D n hR
  obtain ⟨mF, h3, h4⟩ := hgo D2 n1 r (e2.trans hD)
  refine ⟨mF, ?_, h4⟩
  rw [b_L_law_1407]
  simp only [tzW_D, tzW_S1, tzW_S2, tzW_S81, nb81, nb88, nb21, nb22, Bool.false_or, Bool.true_and, cond_true, g1, tqbI_mk, h1, h2, e1, dxx]
  exact h3
set_option maxRecDepth 100000 in
set_option maxHeartbeats 4000000 in
theorem lc_1430 {Rel : (Nat → Int → Int) → Nat → Prop} {L : Nat} {S : Int → Int} {i : Int} (hc : ∀ a0 a1 : Int, in32 a0 → in32 a1 → AgI Rel L n_X11_slide n_X12_slide [vI a0, vI a1]) (hS : ∀ j, in32 (S j)) (g1 : tqib (w32 (i + 1)) L = true) (g2 : tqib (w32 (i + 2)) L = true) (hgo : LawAt Rel L S 2176 i) : LawAt Rel L S 1430 i := by
  intro D n hR hD
  obtain ⟨x, D1, n1, D2, h1, h2, e1, e2, r⟩ := hc (D 1 (w32 (i + 1))) (D 1 (w32 (i + 2))) (by rw [hD]; exact hS _) (by rw [hD]; exact hS _) D n hR
  obtain ⟨mF, h3, h4⟩ := hgo D2 n1 r (e2.trans hD)
  refine ⟨mF, ?_, h4⟩
  rw [b_L_law_1430]
  simp only [tzW_D, tzW_S1, tzW_S2, tzW_S81, nb81, nb88, nb21, nb22, Bool.false_or, Bool.true_and, cond_true, g1, g2, tqbI_mk, h1, h2, e1, dxx]
  exact h3
set_option maxRecDepth 100000 in
set_option maxHeartbeats 4000000 in
theorem lc_1463 {Rel : (Nat → Int → Int) → Nat → Prop} {L : Nat} {S : Int → Int} {i : Int} (hc : ∀ a b : Int, in32 a → (b = 0 ∨ b = 1) → AgI Rel L n_X11_weight n_X12_weight [vI a, vI b]) (hS : ∀ j, in32 (S j)) (g1 : tqib (w32 (i + 1)) L = true) (g2 : tqib (w32 (i + 2)) L = true) (hgo : LawAt Rel L S 2176 i) : LawAt Rel L S 1463 i := by
  intro D n hR hD
  have key : ∀ b : Int, (b = 0 ∨ b = 1) → ((D 1 (w32 (i + 2)) = 0 ∧ b = 0) ∨ (¬ D 1 (w32 (i + 2)) = 0 ∧ b = 1)) → ∃ mF, tqrun tqP (1399 + 1) tqc_L_law 1463 [vR 1, vR 2, vR 81, vI i] [] (tzW D L n) = some (some (vI 1), mF) ∧ mF.2.2.2.1 ≤ 600001 ∧ mF.2.2.2.2 ≤ 7302250 := by
    intro b hb hq
    obtain ⟨x, D1, n1, D2, h1, h2, e1, e2, r⟩ := hc (D 1 (w32 (i + 1))) b (by rw [hD]; exact hS _) hb D n hR
    obtain ⟨mF, h3, h4⟩ := hgo D2 n1 r (e2.trans hD)
    refine ⟨mF, ?_, h4⟩
    rcases hq with ⟨hq, rfl⟩ | ⟨hq, rfl⟩
    · have hd : decide (D 1 (w32 (i + 2)) = 0) = true := decide_eq_true hq
      have hd1 : decide (D1 1 (w32 (i + 2)) = 0) = true := decide_eq_true (by rw [e1]; exact hq)
      have h5 : tqden tqP 1399 n_X12_weight [vR 81, vI (D1 1 (w32 (i + 1))), vI 0] (tzW D1 L n1) = some (some (vI x), tzW D2 L n1) := by rw [e1]; exact h2
      refine (b_L_law_1463 1399 1 2 81 i (tzW D L n)).trans ?_
      refine (tz_bp g1).trans ?_
      refine (tz_bp g2).trans ?_
      refine (tz_bp hd).trans ?_
      refine (tz_bp (by rfl)).trans ?_
      refine (tz_bI h1).trans ?_
      refine (tz_bp g1).trans ?_
      refine (tz_bp g2).trans ?_
      refine (tz_bp hd1).trans ?_
      refine (tz_bp (by rfl)).trans ?_
      refine (tz_bI h5).trans ?_
      exact (tz_bp (dxx x)).trans h3
    · have hd : decide (D 1 (w32 (i + 2)) = 0) = false := decide_eq_false hq
      have hd1 : decide (D1 1 (w32 (i + 2)) = 0) = false := decide_eq_false (by rw [e1]; exact hq)
      have h5 : tqden tqP 1399 n_X12_weight [vR 81, vI (D1 1 (w32 (i + 1))), vI 1] (tzW D1 L n1) = some (some (vI x), tzW D2 L n1) := by rw [e1]; exact h2
      refine (b_L_law_1463 1399 1 2 81 i (tzW D L n)).trans ?_
      refine (tz_bp g1).trans ?_
      refine (tz_bp g2).trans ?_
      refine (tz_bn hd).trans ?_
      refine (tz_bp (by rfl)).trans ?_
      refine (tz_bI h1).trans ?_
      refine (tz_bp g1).trans ?_
      refine (tz_bp g2).trans ?_
      refine (tz_bn hd1).trans ?_
      refine (tz_bp (by rfl)).trans ?_
      refine (tz_bI h5).trans ?_
      exact (tz_bp (dxx x)).trans h3
  by_cases h : D 1 (w32 (i + 2)) = 0
  · exact key 0 (.inl rfl) (.inl ⟨h, rfl⟩)
  · exact key 1 (.inr rfl) (.inr ⟨h, rfl⟩)
set_option maxRecDepth 100000 in
set_option maxHeartbeats 4000000 in
theorem lc_1512 {Rel : (Nat → Int → Int) → Nat → Prop} {L : Nat} {S : Int → Int} {i : Int} (hc : ∀ a0 : Int, in32 a0 → AgI Rel L n_X11_lawful n_X12_lawful [vI a0]) (hS : ∀ j, in32 (S j)) (g1 : tqib (w32 (i + 1)) L = true) (hgo : LawAt Rel L S 2176 i) : LawAt Rel L S 1512 i := by
  intro D n hR hD
  obtain ⟨x, D1, n1, D2, h1, h2, e1, e2, r⟩ := hc (D 1 (w32 (i + 1))) (by rw [hD]; exact hS _) D n hR
  obtain ⟨mF, h3, h4⟩ := hgo D2 n1 r (e2.trans hD)
  refine ⟨mF, ?_, h4⟩
  rw [b_L_law_1512]
  simp only [tzW_D, tzW_S1, tzW_S2, tzW_S81, nb81, nb88, nb21, nb22, Bool.false_or, Bool.true_and, cond_true, g1, tqbI_mk, h1, h2, e1, dxx]
  exact h3
set_option maxRecDepth 100000 in
set_option maxHeartbeats 4000000 in
theorem lc_1535 {Rel : (Nat → Int → Int) → Nat → Prop} {L : Nat} {S : Int → Int} {i : Int} (hc : ∀ a0 : Int, in32 a0 → AgI Rel L n_X11_shift n_X12_shift [vI a0]) (hS : ∀ j, in32 (S j)) (g1 : tqib (w32 (i + 1)) L = true) (hgo : LawAt Rel L S 2176 i) : LawAt Rel L S 1535 i := by
  intro D n hR hD
  obtain ⟨x, D1, n1, D2, h1, h2, e1, e2, r⟩ := hc (D 1 (w32 (i + 1))) (by rw [hD]; exact hS _) D n hR
  obtain ⟨mF, h3, h4⟩ := hgo D2 n1 r (e2.trans hD)
  refine ⟨mF, ?_, h4⟩
  rw [b_L_law_1535]
  simp only [tzW_D, tzW_S1, tzW_S2, tzW_S81, nb81, nb88, nb21, nb22, Bool.false_or, Bool.true_and, cond_true, g1, tqbI_mk, h1, h2, e1, dxx]
  exact h3
set_option maxRecDepth 100000 in
set_option maxHeartbeats 4000000 in
theorem lc_1558 {Rel : (Nat → Int → Int) → Nat → Prop} {L : Nat} {S : Int → Int} {i : Int} (hc : ∀ a0 a1 a2 : Int, in32 a0 → in32 a1 → in32 a2 → AgI Rel L n_X11_cold n_X12_cold [vI a0, vI a1, vI a2]) (hS : ∀ j, in32 (S j)) (g1 : tqib (w32 (i + 1)) L = true) (g2 : tqib (w32 (i + 2)) L = true) (g3 : tqib (w32 (i + 3)) L = true) (hgo : LawAt Rel L S 2176 i) : LawAt Rel L S 1558 i := by
  intro D n hR hD
  obtain ⟨x, D1, n1, D2, h1, h2, e1, e2, r⟩ := hc (D 1 (w32 (i + 1))) (D 1 (w32 (i + 2))) (D 1 (w32 (i + 3))) (by rw [hD]; exact hS _) (by rw [hD]; exact hS _) (by rw [hD]; exact hS _) D n hR
  obtain ⟨mF, h3, h4⟩ := hgo D2 n1 r (e2.trans hD)
  refine ⟨mF, ?_, h4⟩
  rw [b_L_law_1558]
  simp only [tzW_D, tzW_S1, tzW_S2, tzW_S81, nb81, nb88, nb21, nb22, Bool.false_or, Bool.true_and, cond_true, g1, g2, g3, tqbI_mk, h1, h2, e1, dxx]
  exact h3
set_option maxRecDepth 100000 in
set_option maxHeartbeats 4000000 in
theorem lc_1601 {Rel : (Nat → Int → Int) → Nat → Prop} {L : Nat} {S : Int → Int} {i : Int} (hc : ∀ a0 : Int, in32 a0 → AgI Rel L n_X11_mean n_X12_mean [vI a0]) (hS : ∀ j, in32 (S j)) (g1 : tqib (w32 (i + 1)) L = true) (hgo : LawAt Rel L S 2176 i) : LawAt Rel L S 1601 i := by
  intro D n hR hD
  obtain ⟨x, D1, n1, D2, h1, h2, e1, e2, r⟩ := hc (D 1 (w32 (i + 1))) (by rw [hD]; exact hS _) D n hR
  obtain ⟨mF, h3, h4⟩ := hgo D2 n1 r (e2.trans hD)
  refine ⟨mF, ?_, h4⟩
  rw [b_L_law_1601]
  simp only [tzW_D, tzW_S1, tzW_S2, tzW_S81, nb81, nb88, nb21, nb22, Bool.false_or, Bool.true_and, cond_true, g1, tqbI_mk, h1, h2, e1, dxx]
  exact h3
set_option maxRecDepth 100000 in
set_option maxHeartbeats 4000000 in
theorem lc_1624 {Rel : (Nat → Int → Int) → Nat → Prop} {L : Nat} {S : Int → Int} {i : Int} (hc : ∀ a0 : Int, in32 a0 → AgI Rel L n_X11_theft n_X12_theft [vI a0]) (hS : ∀ j, in32 (S j)) (g1 : tqib (w32 (i + 1)) L = true) (hgo : LawAt Rel L S 2176 i) : LawAt Rel L S 1624 i := by
  intro D n hR hD
  obtain ⟨x, D1, n1, D2, h1, h2, e1, e2, r⟩ := hc (D 1 (w32 (i + 1))) (by rw [hD]; exact hS _) D n hR
  obtain ⟨mF, h3, h4⟩ := hgo D2 n1 r (e2.trans hD)
  refine ⟨mF, ?_, h4⟩
  rw [b_L_law_1624]
  simp only [tzW_D, tzW_S1, tzW_S2, tzW_S81, nb81, nb88, nb21, nb22, Bool.false_or, Bool.true_and, cond_true, g1, tqbI_mk, h1, h2, e1, dxx]
  exact h3
set_option maxRecDepth 100000 in
set_option maxHeartbeats 4000000 in
theorem lc_1647 {Rel : (Nat → Int → Int) → Nat → Prop} {L : Nat} {S : Int → Int} {i : Int} (hc : ∀ a0 : Int, in32 a0 → AgI Rel L n_X11_hands n_X12_hands [vI a0]) (hS : ∀ j, in32 (S j)) (g1 : tqib (w32 (i + 1)) L = true) (hgo : LawAt Rel L S 2176 i) : LawAt Rel L S 1647 i := by
  intro D n hR hD
  obtain ⟨x, D1, n1, D2, h1, h2, e1, e2, r⟩ := hc (D 1 (w32 (i + 1))) (by rw [hD]; exact hS _) D n hR
  obtain ⟨mF, h3, h4⟩ := hgo D2 n1 r (e2.trans hD)
  refine ⟨mF, ?_, h4⟩
  rw [b_L_law_1647]
  simp only [tzW_D, tzW_S1, tzW_S2, tzW_S81, nb81, nb88, nb21, nb22, Bool.false_or, Bool.true_and, cond_true, g1, tqbI_mk, h1, h2, e1, dxx]
  exact h3
set_option maxRecDepth 100000 in
set_option maxHeartbeats 4000000 in
theorem lc_1670 {Rel : (Nat → Int → Int) → Nat → Prop} {L : Nat} {S : Int → Int} {i : Int} (hc : ∀ a0 a1 a2 a3 : Int, in32 a0 → in32 a1 → in32 a2 → in32 a3 → AgI Rel L n_X11_swap n_X12_swap [vI a0, vI a1, vI a2, vI a3]) (hS : ∀ j, in32 (S j)) (g1 : tqib (w32 (i + 1)) L = true) (g2 : tqib (w32 (i + 2)) L = true) (g3 : tqib (w32 (i + 3)) L = true) (g4 : tqib (w32 (i + 4)) L = true) (hgo : LawAt Rel L S 2176 i) : LawAt Rel L S 1670 i := by
  intro D n hR hD
  obtain ⟨x, D1, n1, D2, h1, h2, e1, e2, r⟩ := hc (D 1 (w32 (i + 1))) (D 1 (w32 (i + 2))) (D 1 (w32 (i + 3))) (D 1 (w32 (i + 4))) (by rw [hD]; exact hS _) (by rw [hD]; exact hS _) (by rw [hD]; exact hS _) (by rw [hD]; exact hS _) D n hR
  obtain ⟨mF, h3, h4⟩ := hgo D2 n1 r (e2.trans hD)
  refine ⟨mF, ?_, h4⟩
  rw [b_L_law_1670]
  simp only [tzW_D, tzW_S1, tzW_S2, tzW_S81, nb81, nb88, nb21, nb22, Bool.false_or, Bool.true_and, cond_true, g1, g2, g3, g4, tqbI_mk, h1, h2, e1, dxx]
  exact h3
set_option maxRecDepth 100000 in
set_option maxHeartbeats 4000000 in
theorem lc_1723 {Rel : (Nat → Int → Int) → Nat → Prop} {L : Nat} {S : Int → Int} {i : Int} (hc : ∀ a0 a1 : Int, in32 a0 → in32 a1 → AgI Rel L n_X11_pairs n_X12_pairs [vI a0, vI a1]) (hS : ∀ j, in32 (S j)) (g1 : tqib (w32 (i + 1)) L = true) (g2 : tqib (w32 (i + 2)) L = true) (hgo : LawAt Rel L S 2176 i) : LawAt Rel L S 1723 i := by
  intro D n hR hD
  obtain ⟨x, D1, n1, D2, h1, h2, e1, e2, r⟩ := hc (D 1 (w32 (i + 1))) (D 1 (w32 (i + 2))) (by rw [hD]; exact hS _) (by rw [hD]; exact hS _) D n hR
  obtain ⟨mF, h3, h4⟩ := hgo D2 n1 r (e2.trans hD)
  refine ⟨mF, ?_, h4⟩
  rw [b_L_law_1723]
  simp only [tzW_D, tzW_S1, tzW_S2, tzW_S81, nb81, nb88, nb21, nb22, Bool.false_or, Bool.true_and, cond_true, g1, g2, tqbI_mk, h1, h2, e1, dxx]
  exact h3
set_option maxRecDepth 100000 in
set_option maxHeartbeats 4000000 in
theorem lc_1756 {Rel : (Nat → Int → Int) → Nat → Prop} {L : Nat} {S : Int → Int} {i : Int} (hc : ∀ a0 : Int, in32 a0 → AgI Rel L n_X11_partner n_X12_partner [vI a0]) (hS : ∀ j, in32 (S j)) (g1 : tqib (w32 (i + 1)) L = true) (hgo : LawAt Rel L S 2176 i) : LawAt Rel L S 1756 i := by
  intro D n hR hD
  obtain ⟨x, D1, n1, D2, h1, h2, e1, e2, r⟩ := hc (D 1 (w32 (i + 1))) (by rw [hD]; exact hS _) D n hR
  obtain ⟨mF, h3, h4⟩ := hgo D2 n1 r (e2.trans hD)
  refine ⟨mF, ?_, h4⟩
  rw [b_L_law_1756]
  simp only [tzW_D, tzW_S1, tzW_S2, tzW_S81, nb81, nb88, nb21, nb22, Bool.false_or, Bool.true_and, cond_true, g1, tqbI_mk, h1, h2, e1, dxx]
  exact h3
set_option maxRecDepth 100000 in
set_option maxHeartbeats 4000000 in
theorem lc_1779 {Rel : (Nat → Int → Int) → Nat → Prop} {L : Nat} {S : Int → Int} {i : Int} (hc : ∀ a0 a1 a2 a3 a4 a5 : Int, in32 a0 → in32 a1 → in32 a2 → in32 a3 → in32 a4 → in32 a5 → AgI Rel L n_X11_late n_X12_late [vI a0, vI a1, vI a2, vI a3, vI a4, vI a5]) (hS : ∀ j, in32 (S j)) (g1 : tqib (w32 (i + 1)) L = true) (g2 : tqib (w32 (i + 2)) L = true) (g3 : tqib (w32 (i + 3)) L = true) (g4 : tqib (w32 (i + 4)) L = true) (g5 : tqib (w32 (i + 5)) L = true) (g6 : tqib (w32 (i + 6)) L = true) (hgo : LawAt Rel L S 2176 i) : LawAt Rel L S 1779 i := by
  intro D n hR hD
  obtain ⟨x, D1, n1, D2, h1, h2, e1, e2, r⟩ := hc (D 1 (w32 (i + 1))) (D 1 (w32 (i + 2))) (D 1 (w32 (i + 3))) (D 1 (w32 (i + 4))) (D 1 (w32 (i + 5))) (D 1 (w32 (i + 6))) (by rw [hD]; exact hS _) (by rw [hD]; exact hS _) (by rw [hD]; exact hS _) (by rw [hD]; exact hS _) (by rw [hD]; exact hS _) (by rw [hD]; exact hS _) D n hR
  obtain ⟨mF, h3, h4⟩ := hgo D2 n1 r (e2.trans hD)
  refine ⟨mF, ?_, h4⟩
  rw [b_L_law_1779]
  simp only [tzW_D, tzW_S1, tzW_S2, tzW_S81, nb81, nb88, nb21, nb22, Bool.false_or, Bool.true_and, cond_true, g1, g2, g3, g4, g5, g6, tqbI_mk, h1, h2, e1, dxx]
  exact h3
set_option maxRecDepth 100000 in
set_option maxHeartbeats 4000000 in
theorem lc_1854 {Rel : (Nat → Int → Int) → Nat → Prop} {L : Nat} {S : Int → Int} {i : Int} (hc : ∀ a0 : Int, in32 a0 → AgI Rel L n_X11_canBe n_X12_canBe [vI a0]) (hS : ∀ j, in32 (S j)) (g1 : tqib (w32 (i + 1)) L = true) (hgo : LawAt Rel L S 2176 i) : LawAt Rel L S 1854 i := by
  intro D n hR hD
  obtain ⟨x, D1, n1, D2, h1, h2, e1, e2, r⟩ := hc (D 1 (w32 (i + 1))) (by rw [hD]; exact hS _) D n hR
  obtain ⟨mF, h3, h4⟩ := hgo D2 n1 r (e2.trans hD)
  refine ⟨mF, ?_, h4⟩
  rw [b_L_law_1854]
  simp only [tzW_D, tzW_S1, tzW_S2, tzW_S81, nb81, nb88, nb21, nb22, Bool.false_or, Bool.true_and, cond_true, g1, tqbI_mk, h1, h2, e1, dxx]
  exact h3
set_option maxRecDepth 100000 in
set_option maxHeartbeats 4000000 in
theorem lc_1877 {Rel : (Nat → Int → Int) → Nat → Prop} {L : Nat} {S : Int → Int} {i : Int} (hc : ∀ a0 a1 a2 : Int, in32 a0 → in32 a1 → in32 a2 → AgI Rel L n_X11_look n_X12_look [vI a0, vI a1, vI a2]) (hS : ∀ j, in32 (S j)) (g1 : tqib (w32 (i + 1)) L = true) (g2 : tqib (w32 (i + 2)) L = true) (g3 : tqib (w32 (i + 3)) L = true) (hgo : LawAt Rel L S 2176 i) : LawAt Rel L S 1877 i := by
  intro D n hR hD
  obtain ⟨x, D1, n1, D2, h1, h2, e1, e2, r⟩ := hc (D 1 (w32 (i + 1))) (D 1 (w32 (i + 2))) (D 1 (w32 (i + 3))) (by rw [hD]; exact hS _) (by rw [hD]; exact hS _) (by rw [hD]; exact hS _) D n hR
  obtain ⟨mF, h3, h4⟩ := hgo D2 n1 r (e2.trans hD)
  refine ⟨mF, ?_, h4⟩
  rw [b_L_law_1877]
  simp only [tzW_D, tzW_S1, tzW_S2, tzW_S81, nb81, nb88, nb21, nb22, Bool.false_or, Bool.true_and, cond_true, g1, g2, g3, tqbI_mk, h1, h2, e1, dxx]
  exact h3
set_option maxRecDepth 100000 in
set_option maxHeartbeats 4000000 in
theorem lc_1920 {Rel : (Nat → Int → Int) → Nat → Prop} {L : Nat} {S : Int → Int} {i : Int} (hc : ∀ a0 : Int, in32 a0 → AgI Rel L n_X11_looked n_X12_looked [vI a0]) (hS : ∀ j, in32 (S j)) (g1 : tqib (w32 (i + 1)) L = true) (hgo : LawAt Rel L S 2176 i) : LawAt Rel L S 1920 i := by
  intro D n hR hD
  obtain ⟨x, D1, n1, D2, h1, h2, e1, e2, r⟩ := hc (D 1 (w32 (i + 1))) (by rw [hD]; exact hS _) D n hR
  obtain ⟨mF, h3, h4⟩ := hgo D2 n1 r (e2.trans hD)
  refine ⟨mF, ?_, h4⟩
  rw [b_L_law_1920]
  simp only [tzW_D, tzW_S1, tzW_S2, tzW_S81, nb81, nb88, nb21, nb22, Bool.false_or, Bool.true_and, cond_true, g1, tqbI_mk, h1, h2, e1, dxx]
  exact h3
set_option maxRecDepth 100000 in
set_option maxHeartbeats 4000000 in
theorem lc_1943 {Rel : (Nat → Int → Int) → Nat → Prop} {L : Nat} {S : Int → Int} {i : Int} (hc : ∀ a0 a1 : Int, in32 a0 → in32 a1 → AgI Rel L n_X11_pool n_X12_pool [vI a0, vI a1]) (hS : ∀ j, in32 (S j)) (g1 : tqib (w32 (i + 1)) L = true) (g2 : tqib (w32 (i + 2)) L = true) (hgo : LawAt Rel L S 2176 i) : LawAt Rel L S 1943 i := by
  intro D n hR hD
  obtain ⟨x, D1, n1, D2, h1, h2, e1, e2, r⟩ := hc (D 1 (w32 (i + 1))) (D 1 (w32 (i + 2))) (by rw [hD]; exact hS _) (by rw [hD]; exact hS _) D n hR
  obtain ⟨mF, h3, h4⟩ := hgo D2 n1 r (e2.trans hD)
  refine ⟨mF, ?_, h4⟩
  rw [b_L_law_1943]
  simp only [tzW_D, tzW_S1, tzW_S2, tzW_S81, nb81, nb88, nb21, nb22, Bool.false_or, Bool.true_and, cond_true, g1, g2, tqbI_mk, h1, h2, e1, dxx]
  exact h3
set_option maxRecDepth 100000 in
set_option maxHeartbeats 4000000 in
theorem lc_1976 {Rel : (Nat → Int → Int) → Nat → Prop} {L : Nat} {S : Int → Int} {i : Int} (hc : ∀ a0 a1 a2 a3 a4 : Int, in32 a0 → in32 a1 → in32 a2 → in32 a3 → in32 a4 → AgI Rel L n_X11_rent n_X12_rent [vI a0, vI a1, vI a2, vI a3, vI a4]) (hS : ∀ j, in32 (S j)) (g1 : tqib (w32 (i + 1)) L = true) (g2 : tqib (w32 (i + 2)) L = true) (g3 : tqib (w32 (i + 3)) L = true) (g4 : tqib (w32 (i + 4)) L = true) (g5 : tqib (w32 (i + 5)) L = true) (hgo : LawAt Rel L S 2176 i) : LawAt Rel L S 1976 i := by
  intro D n hR hD
  obtain ⟨x, D1, n1, D2, h1, h2, e1, e2, r⟩ := hc (D 1 (w32 (i + 1))) (D 1 (w32 (i + 2))) (D 1 (w32 (i + 3))) (D 1 (w32 (i + 4))) (D 1 (w32 (i + 5))) (by rw [hD]; exact hS _) (by rw [hD]; exact hS _) (by rw [hD]; exact hS _) (by rw [hD]; exact hS _) (by rw [hD]; exact hS _) D n hR
  obtain ⟨mF, h3, h4⟩ := hgo D2 n1 r (e2.trans hD)
  refine ⟨mF, ?_, h4⟩
  rw [b_L_law_1976]
  simp only [tzW_D, tzW_S1, tzW_S2, tzW_S81, nb81, nb88, nb21, nb22, Bool.false_or, Bool.true_and, cond_true, g1, g2, g3, g4, g5, tqbI_mk, h1, h2, e1, dxx]
  exact h3
set_option maxRecDepth 100000 in
set_option maxHeartbeats 4000000 in
theorem lc_2039 {Rel : (Nat → Int → Int) → Nat → Prop} {L : Nat} {S : Int → Int} {i : Int} (hc : ∀ a0 : Int, in32 a0 → AgI Rel L n_X11_rented n_X12_rented [vI a0]) (hS : ∀ j, in32 (S j)) (g1 : tqib (w32 (i + 1)) L = true) (hgo : LawAt Rel L S 2176 i) : LawAt Rel L S 2039 i := by
  intro D n hR hD
  obtain ⟨x, D1, n1, D2, h1, h2, e1, e2, r⟩ := hc (D 1 (w32 (i + 1))) (by rw [hD]; exact hS _) D n hR
  obtain ⟨mF, h3, h4⟩ := hgo D2 n1 r (e2.trans hD)
  refine ⟨mF, ?_, h4⟩
  rw [b_L_law_2039]
  simp only [tzW_D, tzW_S1, tzW_S2, tzW_S81, nb81, nb88, nb21, nb22, Bool.false_or, Bool.true_and, cond_true, g1, tqbI_mk, h1, h2, e1, dxx]
  exact h3
set_option maxRecDepth 100000 in
set_option maxHeartbeats 4000000 in
theorem lc_2062 {Rel : (Nat → Int → Int) → Nat → Prop} {L : Nat} {S : Int → Int} {i : Int} (hc : AgI Rel L n_X11_asked n_X12_asked []) (hS : ∀ j, in32 (S j))  (hgo : LawAt Rel L S 2176 i) : LawAt Rel L S 2062 i := by
  intro D n hR hD
  obtain ⟨x, D1, n1, D2, h1, h2, e1, e2, r⟩ := hc   D n hR
  obtain ⟨mF, h3, h4⟩ := hgo D2 n1 r (e2.trans hD)
  refine ⟨mF, ?_, h4⟩
  rw [b_L_law_2062]
  simp only [tzW_D, tzW_S1, tzW_S2, tzW_S81, nb81, nb88, nb21, nb22, Bool.false_or, Bool.true_and, cond_true, tqbI_mk, h1, h2, e1, dxx]
  exact h3
set_option maxRecDepth 100000 in
set_option maxHeartbeats 4000000 in
theorem lc_2075 {Rel : (Nat → Int → Int) → Nat → Prop} {L : Nat} {S : Int → Int} {i : Int} (hc : AgL Rel L n_X11_upper n_X12_upper []) (hS : ∀ j, in32 (S j))  (hgo : LawAt Rel L S 2176 i) : LawAt Rel L S 2075 i := by
  intro D n hR hD
  obtain ⟨x, D1, n1, D2, h1, h2, e1, e2, r⟩ := hc   D n hR
  obtain ⟨mF, h3, h4⟩ := hgo D2 n1 r (e2.trans hD)
  refine ⟨mF, ?_, h4⟩
  rw [b_L_law_2075]
  simp only [tzW_D, tzW_S1, tzW_S2, tzW_S81, nb81, nb88, nb21, nb22, Bool.false_or, Bool.true_and, cond_true, tqbL_mk, h1, h2, e1, jxx]
  exact h3
set_option maxRecDepth 100000 in
set_option maxHeartbeats 4000000 in
theorem lc_2089 {Rel : (Nat → Int → Int) → Nat → Prop} {L : Nat} {S : Int → Int} {i : Int} (hc : AgL Rel L n_X11_lower n_X12_lower []) (hS : ∀ j, in32 (S j))  (hgo : LawAt Rel L S 2176 i) : LawAt Rel L S 2089 i := by
  intro D n hR hD
  obtain ⟨x, D1, n1, D2, h1, h2, e1, e2, r⟩ := hc   D n hR
  obtain ⟨mF, h3, h4⟩ := hgo D2 n1 r (e2.trans hD)
  refine ⟨mF, ?_, h4⟩
  rw [b_L_law_2089]
  simp only [tzW_D, tzW_S1, tzW_S2, tzW_S81, nb81, nb88, nb21, nb22, Bool.false_or, Bool.true_and, cond_true, tqbL_mk, h1, h2, e1, jxx]
  exact h3
set_option maxRecDepth 100000 in
set_option maxHeartbeats 4000000 in
theorem lc_2103 {Rel : (Nat → Int → Int) → Nat → Prop} {L : Nat} {S : Int → Int} {i : Int} (hc : ∀ a0 : Int, in32 a0 → AgI Rel L n_X11_count n_X12_count [vI a0]) (hS : ∀ j, in32 (S j)) (g1 : tqib (w32 (i + 1)) L = true) (hgo : LawAt Rel L S 2176 i) : LawAt Rel L S 2103 i := by
  intro D n hR hD
  obtain ⟨x, D1, n1, D2, h1, h2, e1, e2, r⟩ := hc (D 1 (w32 (i + 1))) (by rw [hD]; exact hS _) D n hR
  obtain ⟨mF, h3, h4⟩ := hgo D2 n1 r (e2.trans hD)
  refine ⟨mF, ?_, h4⟩
  rw [b_L_law_2103]
  simp only [tzW_D, tzW_S1, tzW_S2, tzW_S81, nb81, nb88, nb21, nb22, Bool.false_or, Bool.true_and, cond_true, g1, tqbI_mk, h1, h2, e1, dxx]
  exact h3
set_option maxRecDepth 100000 in
set_option maxHeartbeats 4000000 in
theorem lc_2126 {Rel : (Nat → Int → Int) → Nat → Prop} {L : Nat} {S : Int → Int} {i : Int} (hc : AgI Rel L n_X11_finding n_X12_finding []) (hS : ∀ j, in32 (S j))  (hgo : LawAt Rel L S 2176 i) : LawAt Rel L S 2126 i := by
  intro D n hR hD
  obtain ⟨x, D1, n1, D2, h1, h2, e1, e2, r⟩ := hc   D n hR
  obtain ⟨mF, h3, h4⟩ := hgo D2 n1 r (e2.trans hD)
  refine ⟨mF, ?_, h4⟩
  rw [b_L_law_2126]
  simp only [tzW_D, tzW_S1, tzW_S2, tzW_S81, nb81, nb88, nb21, nb22, Bool.false_or, Bool.true_and, cond_true, tqbI_mk, h1, h2, e1, dxx]
  exact h3
set_option maxRecDepth 100000 in
set_option maxHeartbeats 4000000 in
theorem lc_2139 {Rel : (Nat → Int → Int) → Nat → Prop} {L : Nat} {S : Int → Int} {i : Int} (hc : ∀ a0 : Int, in32 a0 → AgI Rel L n_X11_findings n_X12_findings [vI a0]) (hS : ∀ j, in32 (S j)) (g1 : tqib (w32 (i + 1)) L = true) (hgo : LawAt Rel L S 2176 i) : LawAt Rel L S 2139 i := by
  intro D n hR hD
  obtain ⟨x, D1, n1, D2, h1, h2, e1, e2, r⟩ := hc (D 1 (w32 (i + 1))) (by rw [hD]; exact hS _) D n hR
  obtain ⟨mF, h3, h4⟩ := hgo D2 n1 r (e2.trans hD)
  refine ⟨mF, ?_, h4⟩
  rw [b_L_law_2139]
  simp only [tzW_D, tzW_S1, tzW_S2, tzW_S81, nb81, nb88, nb21, nb22, Bool.false_or, Bool.true_and, cond_true, g1, tqbI_mk, h1, h2, e1, dxx]
  exact h3
set_option maxRecDepth 100000 in
set_option maxHeartbeats 4000000 in
theorem lc_2162 {Rel : (Nat → Int → Int) → Nat → Prop} {L : Nat} {S : Int → Int} {i : Int} (hc : AgL Rel L n_X11_digest n_X12_digest []) (hS : ∀ j, in32 (S j))  (hgo : LawAt Rel L S 2176 i) : LawAt Rel L S 2162 i := by
  intro D n hR hD
  obtain ⟨x, D1, n1, D2, h1, h2, e1, e2, r⟩ := hc   D n hR
  obtain ⟨mF, h3, h4⟩ := hgo D2 n1 r (e2.trans hD)
  refine ⟨mF, ?_, h4⟩
  rw [b_L_law_2162]
  simp only [tzW_D, tzW_S1, tzW_S2, tzW_S81, nb81, nb88, nb21, nb22, Bool.false_or, Bool.true_and, cond_true, tqbL_mk, h1, h2, e1, jxx]
  exact h3
set_option maxRecDepth 100000 in
set_option maxHeartbeats 4000000 in
theorem law_18 {Rel : (Nat → Int → Int) → Nat → Prop} {L : Nat} {S : Int → Int} (hL : L ≤ 3584) (hn : ∀ D n, Rel D n → n ≤ 12) (hC : Calls Rel L) (hS : ∀ j, in32 (S j)) : ∀ (f : Nat) (i : Int), 0 ≤ i → i ≤ 3600 → ((L : Int) - i < 7 * (f : Int)) → LawAt Rel L S 18 i
  | 0, i, h0, h1, hf => by
    intro D n hR hD
    refine ⟨tzW D L n, ?_, ?_, ?_⟩
    · have e : w32 ((L : Int) - 7) = (L : Int) - 7 := w32_id ⟨by omega, by omega⟩
      have hlt : decide (w32 ((L : Int) - 7) < i) = true := decide_eq_true (by rw [e]; omega)
      exact (b_L_law_18 1399 1 2 81 i (tzW D L n)).trans ((tz_bp (by rfl)).trans (tz_bp hlt))
    · have := hn D n hR
      show 132 + n ≤ 600001; omega
    · have := hn D n hR
      show 4716 + 13 * n ≤ 7302250; omega
  | f + 1, i, h0, h1, hf => by
    intro D n hR hD
    have e : w32 ((L : Int) - 7) = (L : Int) - 7 := w32_id ⟨by omega, by omega⟩
    by_cases hlt : (L : Int) - 7 < i
    · refine ⟨tzW D L n, ?_, ?_, ?_⟩
      · have hl2 : decide (w32 ((L : Int) - 7) < i) = true := decide_eq_true (by rw [e]; exact hlt)
        exact (b_L_law_18 1399 1 2 81 i (tzW D L n)).trans ((tz_bp (by rfl)).trans (tz_bp hl2))
      · have := hn D n hR
        show 132 + n ≤ 600001; omega
      · have := hn D n hR
        show 4716 + 13 * n ≤ 7302250; omega
    have gb : ∀ z : Int, 0 ≤ z → z ≤ 6 → tqib (w32 (i + z)) L = true := by
      intro z z0 z1
      rw [w32_id ⟨by omega, by omega⟩]
      unfold tqib
      rw [decide_eq_true (by omega), decide_eq_true (by omega)]; rfl
    have g0 : tqib i L = true := by
      unfold tqib
      rw [decide_eq_true h0, decide_eq_true (by omega)]; rfl
    have hgo : LawAt Rel L S 2176 i := by
      intro D n hR hD
      rw [b_L_law_2176, w32_id (x := i + 7) ⟨by omega, by omega⟩]
      exact law_18 hL hn hC hS f (i + 7) (by omega) (by omega) (by omega) D n hR hD
    have hC' := hC
    obtain ⟨c_row, c_lay, c_tear, c_copy, c_text, c_put, c_fault, c_later, c_way, c_ferry, c_comes, c_toll, c_trailer, c_told, c_mark, c_limit, c_park, c_hitch, c_drop, c_go, c_tractor, c_lose, c_find, c_seal, c_book, c_where, c_terms, c_force, c_detention, c_pence, c_law, c_load, c_unload, c_slide, c_weight, c_lawful, c_shift, c_cold, c_mean, c_theft, c_hands, c_swap, c_pairs, c_partner, c_late, c_canBe, c_look, c_looked, c_pool, c_rent, c_rented, c_asked, c_upper, c_lower, c_count, c_finding, c_findings, c_digest⟩ := hC'
    have hl2 : decide (w32 ((L : Int) - 7) < i) = false := decide_eq_false (by rw [e]; exact hlt)
    have hb := (b_L_law_18 1399 1 2 81 i (tzW D L n)).trans ((tz_bp (by rfl)).trans ((tz_bn hl2).trans (tz_bp (show ((Nat.beq ((tzW D L n).2.2.1 1).1 1 || Nat.beq ((tzW D L n).2.2.1 1).1 8) && tqib i ((tzW D L n).2.2.1 1).2) = true from g0))))
    rw [hb]
    by_cases q0 : jand ((tzW D L n).1 1 i) 63 = 0
    · rw [if_pos q0]
      exact (lc_280 c_row hS (gb 1 (by omega) (by omega)) (gb 2 (by omega) (by omega)) hgo) D n hR hD
    rw [if_neg q0]
    by_cases q1 : jand ((tzW D L n).1 1 i) 63 = 1
    · rw [if_pos q1]
      exact (lc_313 c_lay hS (gb 1 (by omega) (by omega)) (gb 2 (by omega) (by omega)) (gb 3 (by omega) (by omega)) hgo) D n hR hD
    rw [if_neg q1]
    by_cases q2 : jand ((tzW D L n).1 1 i) 63 = 2
    · rw [if_pos q2]
      exact (lc_356 c_tear hS (gb 1 (by omega) (by omega)) hgo) D n hR hD
    rw [if_neg q2]
    by_cases q3 : jand ((tzW D L n).1 1 i) 63 = 3
    · rw [if_pos q3]
      exact (lc_379 c_copy hS (gb 1 (by omega) (by omega)) (gb 2 (by omega) (by omega)) (gb 3 (by omega) (by omega)) (gb 4 (by omega) (by omega)) (gb 5 (by omega) (by omega)) hgo) D n hR hD
    rw [if_neg q3]
    by_cases q4 : jand ((tzW D L n).1 1 i) 63 = 4
    · rw [if_pos q4]
      exact (lc_442 c_text hS (gb 1 (by omega) (by omega)) (gb 2 (by omega) (by omega)) hgo) D n hR hD
    rw [if_neg q4]
    by_cases q5 : jand ((tzW D L n).1 1 i) 63 = 5
    · rw [if_pos q5]
      exact (lc_475 c_put hS (gb 1 (by omega) (by omega)) (gb 2 (by omega) (by omega)) (gb 3 (by omega) (by omega)) hgo) D n hR hD
    rw [if_neg q5]
    by_cases q6 : jand ((tzW D L n).1 1 i) 63 = 6
    · rw [if_pos q6]
      exact (lc_518 c_fault hS (gb 1 (by omega) (by omega)) hgo) D n hR hD
    rw [if_neg q6]
    by_cases q7 : jand ((tzW D L n).1 1 i) 63 = 7
    · rw [if_pos q7]
      exact (lc_541 c_later hS (gb 1 (by omega) (by omega)) hgo) D n hR hD
    rw [if_neg q7]
    by_cases q8 : jand ((tzW D L n).1 1 i) 63 = 8
    · rw [if_pos q8]
      exact (lc_564 c_way hS (gb 1 (by omega) (by omega)) (gb 2 (by omega) (by omega)) (gb 3 (by omega) (by omega)) (gb 4 (by omega) (by omega)) hgo) D n hR hD
    rw [if_neg q8]
    by_cases q9 : jand ((tzW D L n).1 1 i) 63 = 9
    · rw [if_pos q9]
      exact (lc_617 c_ferry hS (gb 1 (by omega) (by omega)) (gb 2 (by omega) (by omega)) (gb 3 (by omega) (by omega)) (gb 4 (by omega) (by omega)) hgo) D n hR hD
    rw [if_neg q9]
    by_cases q10 : jand ((tzW D L n).1 1 i) 63 = 10
    · rw [if_pos q10]
      exact (lc_670 c_comes hS (gb 1 (by omega) (by omega)) (gb 2 (by omega) (by omega)) (gb 3 (by omega) (by omega)) hgo) D n hR hD
    rw [if_neg q10]
    by_cases q11 : jand ((tzW D L n).1 1 i) 63 = 11
    · rw [if_pos q11]
      exact (lc_713 c_toll hS (gb 1 (by omega) (by omega)) (gb 2 (by omega) (by omega)) hgo) D n hR hD
    rw [if_neg q11]
    by_cases q12 : jand ((tzW D L n).1 1 i) 63 = 12
    · rw [if_pos q12]
      exact (lc_746 c_trailer hS (gb 1 (by omega) (by omega)) (gb 2 (by omega) (by omega)) (gb 3 (by omega) (by omega)) hgo) D n hR hD
    rw [if_neg q12]
    by_cases q13 : jand ((tzW D L n).1 1 i) 63 = 13
    · rw [if_pos q13]
      exact (lc_789 c_told hS (gb 1 (by omega) (by omega)) (gb 2 (by omega) (by omega)) hgo) D n hR hD
    rw [if_neg q13]
    by_cases q14 : jand ((tzW D L n).1 1 i) 63 = 14
    · rw [if_pos q14]
      exact (lc_822 c_mark hS (gb 1 (by omega) (by omega)) (gb 2 (by omega) (by omega)) hgo) D n hR hD
    rw [if_neg q14]
    by_cases q15 : jand ((tzW D L n).1 1 i) 63 = 15
    · rw [if_pos q15]
      exact (lc_855 c_limit hS (gb 1 (by omega) (by omega)) (gb 2 (by omega) (by omega)) hgo) D n hR hD
    rw [if_neg q15]
    by_cases q16 : jand ((tzW D L n).1 1 i) 63 = 16
    · rw [if_pos q16]
      exact (lc_888 c_park hS (gb 1 (by omega) (by omega)) (gb 2 (by omega) (by omega)) hgo) D n hR hD
    rw [if_neg q16]
    by_cases q17 : jand ((tzW D L n).1 1 i) 63 = 17
    · rw [if_pos q17]
      exact (lc_921 c_hitch hS (gb 1 (by omega) (by omega)) (gb 2 (by omega) (by omega)) hgo) D n hR hD
    rw [if_neg q17]
    by_cases q18 : jand ((tzW D L n).1 1 i) 63 = 18
    · rw [if_pos q18]
      exact (lc_954 c_drop hS (gb 1 (by omega) (by omega)) hgo) D n hR hD
    rw [if_neg q18]
    by_cases q19 : jand ((tzW D L n).1 1 i) 63 = 19
    · rw [if_pos q19]
      exact (lc_977 c_go hS (gb 1 (by omega) (by omega)) (gb 2 (by omega) (by omega)) hgo) D n hR hD
    rw [if_neg q19]
    by_cases q20 : jand ((tzW D L n).1 1 i) 63 = 20
    · rw [if_pos q20]
      exact (lc_1010 c_tractor hS (gb 1 (by omega) (by omega)) (gb 2 (by omega) (by omega)) hgo) D n hR hD
    rw [if_neg q20]
    by_cases q21 : jand ((tzW D L n).1 1 i) 63 = 21
    · rw [if_pos q21]
      exact (lc_1043 c_lose hS (gb 1 (by omega) (by omega)) hgo) D n hR hD
    rw [if_neg q21]
    by_cases q22 : jand ((tzW D L n).1 1 i) 63 = 22
    · rw [if_pos q22]
      exact (lc_1066 c_find hS (gb 1 (by omega) (by omega)) (gb 2 (by omega) (by omega)) hgo) D n hR hD
    rw [if_neg q22]
    by_cases q23 : jand ((tzW D L n).1 1 i) 63 = 23
    · rw [if_pos q23]
      exact (lc_1099 c_seal hS (gb 1 (by omega) (by omega)) (gb 2 (by omega) (by omega)) hgo) D n hR hD
    rw [if_neg q23]
    by_cases q24 : jand ((tzW D L n).1 1 i) 63 = 24
    · rw [if_pos q24]
      exact (lc_1132 c_book hS (gb 1 (by omega) (by omega)) (gb 2 (by omega) (by omega)) (gb 3 (by omega) (by omega)) hgo) D n hR hD
    rw [if_neg q24]
    by_cases q25 : jand ((tzW D L n).1 1 i) 63 = 25
    · rw [if_pos q25]
      exact (lc_1175 c_where hS (gb 1 (by omega) (by omega)) (gb 2 (by omega) (by omega)) hgo) D n hR hD
    rw [if_neg q25]
    by_cases q26 : jand ((tzW D L n).1 1 i) 63 = 26
    · rw [if_pos q26]
      exact (lc_1208 c_terms hS (gb 1 (by omega) (by omega)) (gb 2 (by omega) (by omega)) hgo) D n hR hD
    rw [if_neg q26]
    by_cases q27 : jand ((tzW D L n).1 1 i) 63 = 27
    · rw [if_pos q27]
      exact (lc_1241 c_force hS (gb 1 (by omega) (by omega)) (gb 2 (by omega) (by omega)) (gb 3 (by omega) (by omega)) (gb 4 (by omega) (by omega)) hgo) D n hR hD
    rw [if_neg q27]
    by_cases q28 : jand ((tzW D L n).1 1 i) 63 = 28
    · rw [if_pos q28]
      exact (lc_1294 c_detention hS (gb 1 (by omega) (by omega)) hgo) D n hR hD
    rw [if_neg q28]
    by_cases q29 : jand ((tzW D L n).1 1 i) 63 = 29
    · rw [if_pos q29]
      exact (lc_1317 c_pence hS  hgo) D n hR hD
    rw [if_neg q29]
    by_cases q30 : jand ((tzW D L n).1 1 i) 63 = 30
    · rw [if_pos q30]
      exact (lc_1331 c_law hS (gb 1 (by omega) (by omega)) (gb 2 (by omega) (by omega)) hgo) D n hR hD
    rw [if_neg q30]
    by_cases q31 : jand ((tzW D L n).1 1 i) 63 = 31
    · rw [if_pos q31]
      exact (lc_1364 c_load hS (gb 1 (by omega) (by omega)) (gb 2 (by omega) (by omega)) (gb 3 (by omega) (by omega)) hgo) D n hR hD
    rw [if_neg q31]
    by_cases q32 : jand ((tzW D L n).1 1 i) 63 = 32
    · rw [if_pos q32]
      exact (lc_1407 c_unload hS (gb 1 (by omega) (by omega)) hgo) D n hR hD
    rw [if_neg q32]
    by_cases q33 : jand ((tzW D L n).1 1 i) 63 = 33
    · rw [if_pos q33]
      exact (lc_1430 c_slide hS (gb 1 (by omega) (by omega)) (gb 2 (by omega) (by omega)) hgo) D n hR hD
    rw [if_neg q33]
    by_cases q34 : jand ((tzW D L n).1 1 i) 63 = 34
    · rw [if_pos q34]
      exact (lc_1463 c_weight hS (gb 1 (by omega) (by omega)) (gb 2 (by omega) (by omega)) hgo) D n hR hD
    rw [if_neg q34]
    by_cases q35 : jand ((tzW D L n).1 1 i) 63 = 35
    · rw [if_pos q35]
      exact (lc_1512 c_lawful hS (gb 1 (by omega) (by omega)) hgo) D n hR hD
    rw [if_neg q35]
    by_cases q36 : jand ((tzW D L n).1 1 i) 63 = 36
    · rw [if_pos q36]
      exact (lc_1535 c_shift hS (gb 1 (by omega) (by omega)) hgo) D n hR hD
    rw [if_neg q36]
    by_cases q37 : jand ((tzW D L n).1 1 i) 63 = 37
    · rw [if_pos q37]
      exact (lc_1558 c_cold hS (gb 1 (by omega) (by omega)) (gb 2 (by omega) (by omega)) (gb 3 (by omega) (by omega)) hgo) D n hR hD
    rw [if_neg q37]
    by_cases q38 : jand ((tzW D L n).1 1 i) 63 = 38
    · rw [if_pos q38]
      exact (lc_1601 c_mean hS (gb 1 (by omega) (by omega)) hgo) D n hR hD
    rw [if_neg q38]
    by_cases q39 : jand ((tzW D L n).1 1 i) 63 = 39
    · rw [if_pos q39]
      exact (lc_1624 c_theft hS (gb 1 (by omega) (by omega)) hgo) D n hR hD
    rw [if_neg q39]
    by_cases q40 : jand ((tzW D L n).1 1 i) 63 = 40
    · rw [if_pos q40]
      exact (lc_1647 c_hands hS (gb 1 (by omega) (by omega)) hgo) D n hR hD
    rw [if_neg q40]
    by_cases q41 : jand ((tzW D L n).1 1 i) 63 = 41
    · rw [if_pos q41]
      exact (lc_1670 c_swap hS (gb 1 (by omega) (by omega)) (gb 2 (by omega) (by omega)) (gb 3 (by omega) (by omega)) (gb 4 (by omega) (by omega)) hgo) D n hR hD
    rw [if_neg q41]
    by_cases q42 : jand ((tzW D L n).1 1 i) 63 = 42
    · rw [if_pos q42]
      exact (lc_1723 c_pairs hS (gb 1 (by omega) (by omega)) (gb 2 (by omega) (by omega)) hgo) D n hR hD
    rw [if_neg q42]
    by_cases q43 : jand ((tzW D L n).1 1 i) 63 = 43
    · rw [if_pos q43]
      exact (lc_1756 c_partner hS (gb 1 (by omega) (by omega)) hgo) D n hR hD
    rw [if_neg q43]
    by_cases q44 : jand ((tzW D L n).1 1 i) 63 = 44
    · rw [if_pos q44]
      exact (lc_1779 c_late hS (gb 1 (by omega) (by omega)) (gb 2 (by omega) (by omega)) (gb 3 (by omega) (by omega)) (gb 4 (by omega) (by omega)) (gb 5 (by omega) (by omega)) (gb 6 (by omega) (by omega)) hgo) D n hR hD
    rw [if_neg q44]
    by_cases q45 : jand ((tzW D L n).1 1 i) 63 = 45
    · rw [if_pos q45]
      exact (lc_1854 c_canBe hS (gb 1 (by omega) (by omega)) hgo) D n hR hD
    rw [if_neg q45]
    by_cases q46 : jand ((tzW D L n).1 1 i) 63 = 46
    · rw [if_pos q46]
      exact (lc_1877 c_look hS (gb 1 (by omega) (by omega)) (gb 2 (by omega) (by omega)) (gb 3 (by omega) (by omega)) hgo) D n hR hD
    rw [if_neg q46]
    by_cases q47 : jand ((tzW D L n).1 1 i) 63 = 47
    · rw [if_pos q47]
      exact (lc_1920 c_looked hS (gb 1 (by omega) (by omega)) hgo) D n hR hD
    rw [if_neg q47]
    by_cases q48 : jand ((tzW D L n).1 1 i) 63 = 48
    · rw [if_pos q48]
      exact (lc_1943 c_pool hS (gb 1 (by omega) (by omega)) (gb 2 (by omega) (by omega)) hgo) D n hR hD
    rw [if_neg q48]
    by_cases q49 : jand ((tzW D L n).1 1 i) 63 = 49
    · rw [if_pos q49]
      exact (lc_1976 c_rent hS (gb 1 (by omega) (by omega)) (gb 2 (by omega) (by omega)) (gb 3 (by omega) (by omega)) (gb 4 (by omega) (by omega)) (gb 5 (by omega) (by omega)) hgo) D n hR hD
    rw [if_neg q49]
    by_cases q50 : jand ((tzW D L n).1 1 i) 63 = 50
    · rw [if_pos q50]
      exact (lc_2039 c_rented hS (gb 1 (by omega) (by omega)) hgo) D n hR hD
    rw [if_neg q50]
    by_cases q51 : jand ((tzW D L n).1 1 i) 63 = 51
    · rw [if_pos q51]
      exact (lc_2062 c_asked hS  hgo) D n hR hD
    rw [if_neg q51]
    by_cases q52 : jand ((tzW D L n).1 1 i) 63 = 52
    · rw [if_pos q52]
      exact (lc_2075 c_upper hS  hgo) D n hR hD
    rw [if_neg q52]
    by_cases q53 : jand ((tzW D L n).1 1 i) 63 = 53
    · rw [if_pos q53]
      exact (lc_2089 c_lower hS  hgo) D n hR hD
    rw [if_neg q53]
    by_cases q54 : jand ((tzW D L n).1 1 i) 63 = 54
    · rw [if_pos q54]
      exact (lc_2103 c_count hS (gb 1 (by omega) (by omega)) hgo) D n hR hD
    rw [if_neg q54]
    by_cases q55 : jand ((tzW D L n).1 1 i) 63 = 55
    · rw [if_pos q55]
      exact (lc_2126 c_finding hS  hgo) D n hR hD
    rw [if_neg q55]
    by_cases q56 : jand ((tzW D L n).1 1 i) 63 = 56
    · rw [if_pos q56]
      exact (lc_2139 c_findings hS (gb 1 (by omega) (by omega)) hgo) D n hR hD
    rw [if_neg q56]
    by_cases q57 : jand ((tzW D L n).1 1 i) 63 = 57
    · rw [if_pos q57]
      exact (lc_2162 c_digest hS  hgo) D n hR hD
    rw [if_neg q57]
    exact hgo D n hR hD
theorem law_all {Rel : (Nat → Int → Int) → Nat → Prop} (hn : ∀ D n, Rel D n → n ≤ 12) (hC : ∀ L, L ≤ 3584 → Calls Rel L) (h0 : ∀ ys : Nat → Int, (∀ j, in32 (ys j)) → Rel (tzD0 ys) 0) (L : Nat) (hL : L ≤ 3584) (ys : Nat → Int) (hy : ∀ j, in32 (ys j)) : ∃ mF, tqrun tqP 1400 (tqP 255).1 0 [vR 1, vU, vU, vU] [] ((fun a j => if a = 1 then ys j.toNat else 0, fun _ _ => 0, fun a => if a = 1 then (8, L) else (0, 0), 1, 0) : tqM) = some (some (vI 1), mF) ∧ mF.2.2.2.1 ≤ 600001 ∧ mF.2.2.2.2 ≤ 7302250 := by
  obtain ⟨mF, h1, h2⟩ := law_18 (S := fun j => ys j.toNat) hL hn (hC L hL) (fun j => hy _) 600 0 (by omega) (by omega) (by omega) (tzD0 ys) 0 (h0 ys hy) rfl
  refine ⟨mF, ?_, h2⟩
  refine Eq.trans ?_ h1
  refine (b_L_law_0 1399 1 _).trans ?_
  refine (tz_bp (by rfl)).trans ?_
  refine (tz_b0 ((tz_rD (mm_0 L ys)).trans (k_X11_init_1 1397 L ys))).trans ?_
  refine (tz_bp (by rfl)).trans ?_
  refine (tz_b0 ((tz_rD (mm_new L ys 80 78 34 (kd := 22) (n := 73) rfl (by decide) (by decide +kernel) (by decide +kernel) (by decide +kernel))).trans (k_X12_init_1 1398 L ys))).trans ?_
  exact tz_rM (mm_W L ys)
