theorem rdF (D : Nat → Int → Int) (a : Nat) (lo hi x : Int) (b : Nat) (k : Int) : tzF D a lo hi x b k = if b = a then (if lo ≤ k ∧ k < hi then x else D b k) else D b k := Eq.trans rfl rfl
theorem ar_upper {L : Nat} : AgL Rel L n_X11_upper n_X12_upper [] := ag_upper (fun _ _ h => h.1.2.2.2.2.1)
theorem ar_lower {L : Nat} : AgL Rel L n_X11_lower n_X12_lower [] := ag_lower (fun _ _ h => h.1.2.2.2.2.2)
theorem ar_pence {L : Nat} : AgL Rel L n_X11_pence n_X12_pence [] := ag_pence (fun _ _ h => h.1.2.2.2.1)
theorem ar_asked {L : Nat} : AgI Rel L n_X11_asked n_X12_asked [] := ag_asked (fun _ _ h => h.1.2.2.1)
theorem ar_finding {L : Nat} : AgI Rel L n_X11_finding n_X12_finding [] := ag_finding (fun _ _ h => h.1.1)
theorem ar_findings {L : Nat} (a0 : Int) : AgI Rel L n_X11_findings n_X12_findings [vI a0] := ag_findings (fun _ _ h j p q => h.1.2.1 j (by omega) q) a0
theorem Rel_S {D : Nat → Int → Int} {n : Nat} (h : Rel D n) : RS D := h.2.2.2.2.2.2.2.2.2.2.2.2.2
theorem ar_rented {L : Nat} (a0 : Int) : AgI Rel L n_X11_rented n_X12_rented [vI a0] := ag_rented (fun _ _ h => (Rel_S h).2.2) a0
theorem ar_looked {L : Nat} (a0 : Int) : AgI Rel L n_X11_looked n_X12_looked [vI a0] := ag_looked (fun _ _ h => (Rel_S h).2.1) a0
theorem ar_partner {L : Nat} (a0 : Int) : AgI Rel L n_X11_partner n_X12_partner [vI a0] := ag_partner (fun _ _ h => (Rel_S h).1) a0
set_option maxRecDepth 100000 in
set_option maxHeartbeats 400000 in
theorem ar_law {L : Nat} (a0 a1 : Int) : AgI Rel L n_X11_law n_X12_law [vI a0, vI a1] := ag_law (fun D n hR x y x0 x1 y0 y1 => by
  obtain ⟨hA, hL, hW, hN, ⟨c1, c2, c3⟩, hT, hD, hK, hB, hQ, hX, hM, hP, hS⟩ := id hR
  refine ⟨?_, ?_, ?_, ?_, ?_, ?_, ?_, ?_, ?_, ?_, ?_, ?_, ?_, ?_⟩
  · exact RA_fr (by ((repeat (refine Sm_U (by unfold PA; omega) ?_)); exact Sm_r _ _)) hA
  · exact RL_fr (by ((repeat (refine Sm_U (by unfold PL; omega) ?_)); exact Sm_r _ _)) hL
  · exact RW_fr (by ((repeat (refine Sm_U (by unfold PW; omega) ?_)); exact Sm_r _ _)) hW
  · exact RN_fr (by ((repeat (refine Sm_U (by unfold PN; omega) ?_)); exact Sm_r _ _)) hN
  · exact RC_fr (by ((repeat (refine Sm_U (by unfold PC; omega) ?_)); exact Sm_r _ _)) ⟨c1, c2, c3⟩
  · exact RT_fr (by ((repeat (refine Sm_U (by unfold PT; omega) ?_)); exact Sm_r _ _)) hT
  · exact RD_fr (by ((repeat (refine Sm_U (by unfold PD; omega) ?_)); exact Sm_r _ _)) hD
  · exact RK_fr (by ((repeat (refine Sm_U (by unfold PK; omega) ?_)); exact Sm_r _ _)) hK
  · exact RB_fr (by ((repeat (refine Sm_U (by unfold PB; omega) ?_)); exact Sm_r _ _)) hB
  · exact RQ_fr (by ((repeat (refine Sm_U (by unfold PQ; omega) ?_)); exact Sm_r _ _)) hQ
  · exact RX_fr (by ((repeat (refine Sm_U (by unfold PX; omega) ?_)); exact Sm_r _ _)) hX
  · exact RM_fr (by ((repeat (refine Sm_U (by unfold PM; omega) ?_)); exact Sm_r _ _)) hM
  · unfold RP
    simp only [rdU, n133a, n133b, n75a, n75b, ↓reduceIte, Nat.reduceEqDiff, Nat.reduceLT, Nat.reduceLeDiff, Int.reduceEq, not_true_eq_false, not_false_eq_true, true_and, and_true, and_self, true_or, or_true, or_false, false_or, ite_self]
    omega
  · exact RS_fr (by ((repeat (refine Sm_U (by unfold PS; omega) ?_)); exact Sm_r _ _)) hS) a0 a1
set_option maxRecDepth 100000 in
set_option maxHeartbeats 400000 in
theorem ar_later {L : Nat} (a0 : Int) : AgI Rel L n_X11_later n_X12_later [vI a0] := ag_later (fun D n hR => hR.2.2.2.1) (fun D n hR x x0 x1 => by
  obtain ⟨hA, hL, hW, hN, ⟨c1, c2, c3⟩, hT, hD, hK, hB, hQ, hX, hM, hP, hS⟩ := id hR
  refine ⟨?_, ?_, ?_, ?_, ?_, ?_, ?_, ?_, ?_, ?_, ?_, ?_, ?_, ?_⟩
  · exact RA_fr (by ((repeat (refine Sm_U (by unfold PA; omega) ?_)); exact Sm_r _ _)) hA
  · exact RL_fr (by ((repeat (refine Sm_U (by unfold PL; omega) ?_)); exact Sm_r _ _)) hL
  · exact RW_fr (by ((repeat (refine Sm_U (by unfold PW; omega) ?_)); exact Sm_r _ _)) hW
  · unfold RN at hN ⊢
    simp only [rdU, n133a, n133b, n75a, n75b, ↓reduceIte, Nat.reduceEqDiff, Nat.reduceLT, Nat.reduceLeDiff, Int.reduceEq, not_true_eq_false, not_false_eq_true, true_and, and_true, and_self, true_or, or_true, or_false, false_or, ite_self]
    omega
  · exact RC_fr (by ((repeat (refine Sm_U (by unfold PC; omega) ?_)); exact Sm_r _ _)) ⟨c1, c2, c3⟩
  · exact RT_fr (by ((repeat (refine Sm_U (by unfold PT; omega) ?_)); exact Sm_r _ _)) hT
  · exact RD_fr (by ((repeat (refine Sm_U (by unfold PD; omega) ?_)); exact Sm_r _ _)) hD
  · exact RK_fr (by ((repeat (refine Sm_U (by unfold PK; omega) ?_)); exact Sm_r _ _)) hK
  · exact RB_fr (by ((repeat (refine Sm_U (by unfold PB; omega) ?_)); exact Sm_r _ _)) hB
  · obtain ⟨q1, q2⟩ := hQ
    refine ⟨fun e he => ?_, fun e f a b => ?_⟩
    · simp only [rdU, n133a, n133b, n75a, n75b, ↓reduceIte, Nat.reduceEqDiff, Nat.reduceLT, Nat.reduceLeDiff, Int.reduceEq, not_true_eq_false, not_false_eq_true, true_and, and_true, and_self, true_or, or_true, or_false, false_or, ite_self] at he ⊢
      have := q1 e he
      omega
    · simp only [rdU, n133a, n133b, n75a, n75b, ↓reduceIte, Nat.reduceEqDiff, Nat.reduceLT, Nat.reduceLeDiff, Int.reduceEq, not_true_eq_false, not_false_eq_true, true_and, and_true, and_self, true_or, or_true, or_false, false_or, ite_self] at b ⊢
      exact q2 e f a b
  · exact RX_fr (by ((repeat (refine Sm_U (by unfold PX; omega) ?_)); exact Sm_r _ _)) hX
  · exact RM_fr (by ((repeat (refine Sm_U (by unfold PM; omega) ?_)); exact Sm_r _ _)) hM
  · exact RP_fr (by ((repeat (refine Sm_U (by unfold PP; omega) ?_)); exact Sm_r _ _)) hP
  · exact RS_fr (by ((repeat (refine Sm_U (by unfold PS; omega) ?_)); exact Sm_r _ _)) hS) a0
set_option maxRecDepth 100000 in
set_option maxHeartbeats 400000 in
theorem RL_row {D D' : Nat → Int → Int} {k : Nat} (h : RL D) (hk : k < 6) (s : Sm (fun b i => PL b i ∧ b ≠ 55 + 2 * k ∧ b ≠ 56 + 2 * k ∧ ¬ (b = 83 ∧ i = k) ∧ ¬ (b = 84 ∧ 40 * (k : Int) ≤ i ∧ i < 40 * k + 40)) D D') (z : (D' (55 + 2 * k) 1 = D' 83 k ∧ 0 ≤ D' 83 k ∧ D' 83 k ≤ 40) ∨ (D' (55 + 2 * k) 1 = -1 ∧ D' 83 k < 0)) (e : ∀ j : Int, 0 ≤ j → j < 40 → D' (56 + 2 * k) j = D' 84 (40 * k + j)) : RL D' := by
  obtain ⟨h1, h2, h3, h4, h5⟩ := h
  have q : ∀ b i, PL b i ∧ b ≠ 55 + 2 * k ∧ b ≠ 56 + 2 * k ∧ ¬ (b = 83 ∧ i = k) ∧ ¬ (b = 84 ∧ 40 * (k : Int) ≤ i ∧ i < 40 * k + 40) → D' b i = D b i := s
  refine ⟨?_, ?_, ?_, ?_, ?_⟩
  · intro u hu
    by_cases c : u = k
    · rw [c]; exact z
    · rw [q (55 + 2 * u) 1 (by unfold PL; omega), q 83 u (by unfold PL; omega)]; exact h1 u hu
  · intro u j hu a b
    by_cases c : u = k
    · rw [c]; exact e j a b
    · rw [q (56 + 2 * u) j (by unfold PL; omega), q 84 _ (by unfold PL; omega)]; exact h2 u j hu a b
  · intro u hu; rw [q (67 + 2 * u) 1 (by unfold PL; omega), q 86 u (by unfold PL; omega)]; exact h3 u hu
  · intro u j hu a b; rw [q (68 + 2 * u) j (by unfold PL; omega), q 87 _ (by unfold PL; omega)]; exact h4 u j hu a b
  · intro j a b; rw [q 87 j (by unfold PL; omega)]; exact h5 j a b
set_option maxRecDepth 100000 in
set_option maxHeartbeats 400000 in
theorem RL_txt {D D' : Nat → Int → Int} {k : Nat} (h : RL D) (hk : k < 4) (s : Sm (fun b i => PL b i ∧ b ≠ 67 + 2 * k ∧ b ≠ 68 + 2 * k ∧ ¬ (b = 86 ∧ i = k) ∧ ¬ (b = 87 ∧ 40 * (k : Int) ≤ i ∧ i < 40 * k + 40)) D D') (z : (D' (67 + 2 * k) 1 = D' 86 k ∧ 0 ≤ D' 86 k ∧ D' 86 k ≤ 40) ∨ (D' (67 + 2 * k) 1 = -1 ∧ D' 86 k < 0)) (e : ∀ j : Int, 0 ≤ j → j < 40 → D' (68 + 2 * k) j = D' 87 (40 * k + j) ∧ -128 ≤ D' 87 (40 * k + j) ∧ D' 87 (40 * k + j) ≤ 127) : RL D' := by
  obtain ⟨h1, h2, h3, h4, h5⟩ := h
  have q : ∀ b i, PL b i ∧ b ≠ 67 + 2 * k ∧ b ≠ 68 + 2 * k ∧ ¬ (b = 86 ∧ i = k) ∧ ¬ (b = 87 ∧ 40 * (k : Int) ≤ i ∧ i < 40 * k + 40) → D' b i = D b i := s
  refine ⟨?_, ?_, ?_, ?_, ?_⟩
  · intro u hu; rw [q (55 + 2 * u) 1 (by unfold PL; omega), q 83 u (by unfold PL; omega)]; exact h1 u hu
  · intro u j hu a b; rw [q (56 + 2 * u) j (by unfold PL; omega), q 84 _ (by unfold PL; omega)]; exact h2 u j hu a b
  · intro u hu
    by_cases c : u = k
    · rw [c]; exact z
    · rw [q (67 + 2 * u) 1 (by unfold PL; omega), q 86 u (by unfold PL; omega)]; exact h3 u hu
  · intro u j hu a b
    by_cases c : u = k
    · rw [c]; exact (e j a b).1
    · rw [q (68 + 2 * u) j (by unfold PL; omega), q 87 _ (by unfold PL; omega)]; exact h4 u j hu a b
  · intro j a b
    by_cases c : 40 * (k : Int) ≤ j ∧ j < 40 * k + 40
    · have u := e (j - 40 * k) (by omega) (by omega)
      have v : 40 * (k : Int) + (j - 40 * k) = j := by omega
      rw [v] at u
      exact u.2
    · rw [q 87 j (by unfold PL; omega)]; exact h5 j a b
set_option maxRecDepth 100000 in
set_option maxHeartbeats 400000 in
theorem ar_row {L : Nat} (a0 a1 : Int) : AgI Rel L n_X11_row n_X12_row [vI a0, vI a1] := ag_row (fun D n hR f f0 f5 => Rel_ref hR f0 f5) (fun D n hR k v hk v0 v1 => by
  obtain ⟨hA, hL, hW, hN, ⟨c1, c2, c3⟩, hT, hD, hK, hB, hQ, hX, hM, hP, hS⟩ := id hR
  refine ⟨?_, ?_, ?_, ?_, ?_, ?_, ?_, ?_, ?_, ?_, ?_, ?_, ?_, ?_⟩
  · exact RA_fr (Sm_F (fun i x y => by unfold PA; omega) (Sm_U (by unfold PA; omega) (Sm_F (fun i x y => by unfold PA; omega) (Sm_U (by unfold PA; omega) (Sm_r _ _))))) hA
  · refine RL_row hL hk (Sm_F (fun i x y => by unfold PL; omega) (Sm_U (by unfold PL; omega) (Sm_F (fun i x y => by unfold PL; omega) (Sm_U (by unfold PL; omega) (Sm_r _ _))))) (Or.inl ?_) (fun j j0 j1 => ?_)
    · have q1 : ¬ (55 + 2 * k = 56 + 2 * k) := by omega
      have q2 : ¬ (55 + 2 * k = 83) := by omega
      have q3 : ¬ (55 + 2 * k = 84) := by omega
      have q4 : ¬ (83 = 55 + 2 * k) := by omega
      have q5 : ¬ (83 = 56 + 2 * k) := by omega
      simp only [rdU, n133a, n133b, n75a, n75b, ↓reduceIte, Nat.reduceEqDiff, Nat.reduceLT, Nat.reduceLeDiff, Int.reduceEq, not_true_eq_false, not_false_eq_true, true_and, and_true, and_self, true_or, or_true, or_false, false_or, ite_self, rdF, q1, q2, q3, q4, q5, v0, v1]
    · have q1 : ¬ (56 + 2 * k = 83) := by omega
      have q2 : ¬ (56 + 2 * k = 84) := by omega
      have q3 : 0 ≤ j ∧ j < 40 := ⟨j0, j1⟩
      have q4 : 40 * (k : Int) + 0 ≤ 40 * k + j ∧ 40 * (k : Int) + j < 40 * k + 40 := by omega
      simp only [rdU, n133a, n133b, n75a, n75b, ↓reduceIte, Nat.reduceEqDiff, Nat.reduceLT, Nat.reduceLeDiff, Int.reduceEq, not_true_eq_false, not_false_eq_true, true_and, and_true, and_self, true_or, or_true, or_false, false_or, ite_self, rdF, q1, q2, q3, q4]
  · exact RW_fr (Sm_F (fun i x y => by unfold PW; omega) (Sm_U (by unfold PW; omega) (Sm_F (fun i x y => by unfold PW; omega) (Sm_U (by unfold PW; omega) (Sm_r _ _))))) hW
  · exact RN_fr (Sm_F (fun i x y => by unfold PN; omega) (Sm_U (by unfold PN; omega) (Sm_F (fun i x y => by unfold PN; omega) (Sm_U (by unfold PN; omega) (Sm_r _ _))))) hN
  · exact RC_fr (Sm_F (fun i x y => by unfold PC; omega) (Sm_U (by unfold PC; omega) (Sm_F (fun i x y => by unfold PC; omega) (Sm_U (by unfold PC; omega) (Sm_r _ _))))) ⟨c1, c2, c3⟩
  · exact RT_fr (Sm_F (fun i x y => by unfold PT; omega) (Sm_U (by unfold PT; omega) (Sm_F (fun i x y => by unfold PT; omega) (Sm_U (by unfold PT; omega) (Sm_r _ _))))) hT
  · exact RD_fr (Sm_F (fun i x y => by unfold PD; omega) (Sm_U (by unfold PD; omega) (Sm_F (fun i x y => by unfold PD; omega) (Sm_U (by unfold PD; omega) (Sm_r _ _))))) hD
  · exact RK_fr (Sm_F (fun i x y => by unfold PK; omega) (Sm_U (by unfold PK; omega) (Sm_F (fun i x y => by unfold PK; omega) (Sm_U (by unfold PK; omega) (Sm_r _ _))))) hK
  · exact RB_fr (Sm_F (fun i x y => by unfold PB; omega) (Sm_U (by unfold PB; omega) (Sm_F (fun i x y => by unfold PB; omega) (Sm_U (by unfold PB; omega) (Sm_r _ _))))) hB
  · exact RQ_fr (Sm_F (fun i x y => by unfold PQ; omega) (Sm_U (by unfold PQ; omega) (Sm_F (fun i x y => by unfold PQ; omega) (Sm_U (by unfold PQ; omega) (Sm_r _ _))))) hQ
  · exact RX_fr (Sm_F (fun i x y => by unfold PX; omega) (Sm_U (by unfold PX; omega) (Sm_F (fun i x y => by unfold PX; omega) (Sm_U (by unfold PX; omega) (Sm_r _ _))))) hX
  · exact RM_fr (Sm_F (fun i x y => by unfold PM; omega) (Sm_U (by unfold PM; omega) (Sm_F (fun i x y => by unfold PM; omega) (Sm_U (by unfold PM; omega) (Sm_r _ _))))) hM
  · exact RP_fr (Sm_F (fun i x y => by unfold PP; omega) (Sm_U (by unfold PP; omega) (Sm_F (fun i x y => by unfold PP; omega) (Sm_U (by unfold PP; omega) (Sm_r _ _))))) hP
  · exact RS_fr (Sm_F (fun i x y => by unfold PS; omega) (Sm_U (by unfold PS; omega) (Sm_F (fun i x y => by unfold PS; omega) (Sm_U (by unfold PS; omega) (Sm_r _ _))))) hS) a0 a1
set_option maxRecDepth 100000 in
set_option maxHeartbeats 400000 in
theorem ar_text {L : Nat} (a0 a1 : Int) : AgI Rel L n_X11_text n_X12_text [vI a0, vI a1] := ag_text (fun D n hR f f0 f5 => Rel_ref hR f0 f5) (fun D n hR k v hk v0 v1 => by
  obtain ⟨hA, hL, hW, hN, ⟨c1, c2, c3⟩, hT, hD, hK, hB, hQ, hX, hM, hP, hS⟩ := id hR
  refine ⟨?_, ?_, ?_, ?_, ?_, ?_, ?_, ?_, ?_, ?_, ?_, ?_, ?_, ?_⟩
  · exact RA_fr (Sm_F (fun i x y => by unfold PA; omega) (Sm_U (by unfold PA; omega) (Sm_F (fun i x y => by unfold PA; omega) (Sm_U (by unfold PA; omega) (Sm_r _ _))))) hA
  · refine RL_txt hL hk (Sm_F (fun i x y => by unfold PL; omega) (Sm_U (by unfold PL; omega) (Sm_F (fun i x y => by unfold PL; omega) (Sm_U (by unfold PL; omega) (Sm_r _ _))))) (Or.inl ?_) (fun j j0 j1 => ?_)
    · have q1 : ¬ (67 + 2 * k = 68 + 2 * k) := by omega
      have q2 : ¬ (67 + 2 * k = 86) := by omega
      have q3 : ¬ (67 + 2 * k = 87) := by omega
      have q4 : ¬ (86 = 67 + 2 * k) := by omega
      have q5 : ¬ (86 = 68 + 2 * k) := by omega
      simp only [rdU, n133a, n133b, n75a, n75b, ↓reduceIte, Nat.reduceEqDiff, Nat.reduceLT, Nat.reduceLeDiff, Int.reduceEq, not_true_eq_false, not_false_eq_true, true_and, and_true, and_self, true_or, or_true, or_false, false_or, ite_self, rdF, q1, q2, q3, q4, q5, v0, v1]
    · have q1 : ¬ (68 + 2 * k = 86) := by omega
      have q2 : ¬ (68 + 2 * k = 87) := by omega
      have q3 : 0 ≤ j ∧ j < 40 := ⟨j0, j1⟩
      have q4 : 40 * (k : Int) + 0 ≤ 40 * k + j ∧ 40 * (k : Int) + j < 40 * k + 40 := by omega
      simp only [rdU, n133a, n133b, n75a, n75b, ↓reduceIte, Nat.reduceEqDiff, Nat.reduceLT, Nat.reduceLeDiff, Int.reduceEq, not_true_eq_false, not_false_eq_true, true_and, and_true, and_self, true_or, or_true, or_false, false_or, ite_self, rdF, q1, q2, q3, q4]
      decide
  · exact RW_fr (Sm_F (fun i x y => by unfold PW; omega) (Sm_U (by unfold PW; omega) (Sm_F (fun i x y => by unfold PW; omega) (Sm_U (by unfold PW; omega) (Sm_r _ _))))) hW
  · exact RN_fr (Sm_F (fun i x y => by unfold PN; omega) (Sm_U (by unfold PN; omega) (Sm_F (fun i x y => by unfold PN; omega) (Sm_U (by unfold PN; omega) (Sm_r _ _))))) hN
  · exact RC_fr (Sm_F (fun i x y => by unfold PC; omega) (Sm_U (by unfold PC; omega) (Sm_F (fun i x y => by unfold PC; omega) (Sm_U (by unfold PC; omega) (Sm_r _ _))))) ⟨c1, c2, c3⟩
  · exact RT_fr (Sm_F (fun i x y => by unfold PT; omega) (Sm_U (by unfold PT; omega) (Sm_F (fun i x y => by unfold PT; omega) (Sm_U (by unfold PT; omega) (Sm_r _ _))))) hT
  · exact RD_fr (Sm_F (fun i x y => by unfold PD; omega) (Sm_U (by unfold PD; omega) (Sm_F (fun i x y => by unfold PD; omega) (Sm_U (by unfold PD; omega) (Sm_r _ _))))) hD
  · exact RK_fr (Sm_F (fun i x y => by unfold PK; omega) (Sm_U (by unfold PK; omega) (Sm_F (fun i x y => by unfold PK; omega) (Sm_U (by unfold PK; omega) (Sm_r _ _))))) hK
  · exact RB_fr (Sm_F (fun i x y => by unfold PB; omega) (Sm_U (by unfold PB; omega) (Sm_F (fun i x y => by unfold PB; omega) (Sm_U (by unfold PB; omega) (Sm_r _ _))))) hB
  · exact RQ_fr (Sm_F (fun i x y => by unfold PQ; omega) (Sm_U (by unfold PQ; omega) (Sm_F (fun i x y => by unfold PQ; omega) (Sm_U (by unfold PQ; omega) (Sm_r _ _))))) hQ
  · exact RX_fr (Sm_F (fun i x y => by unfold PX; omega) (Sm_U (by unfold PX; omega) (Sm_F (fun i x y => by unfold PX; omega) (Sm_U (by unfold PX; omega) (Sm_r _ _))))) hX
  · exact RM_fr (Sm_F (fun i x y => by unfold PM; omega) (Sm_U (by unfold PM; omega) (Sm_F (fun i x y => by unfold PM; omega) (Sm_U (by unfold PM; omega) (Sm_r _ _))))) hM
  · exact RP_fr (Sm_F (fun i x y => by unfold PP; omega) (Sm_U (by unfold PP; omega) (Sm_F (fun i x y => by unfold PP; omega) (Sm_U (by unfold PP; omega) (Sm_r _ _))))) hP
  · exact RS_fr (Sm_F (fun i x y => by unfold PS; omega) (Sm_U (by unfold PS; omega) (Sm_F (fun i x y => by unfold PS; omega) (Sm_U (by unfold PS; omega) (Sm_r _ _))))) hS) a0 a1
set_option maxRecDepth 100000 in
set_option maxHeartbeats 400000 in
theorem ar_tear {L : Nat} (a0 : Int) : AgI Rel L n_X11_tear n_X12_tear [vI a0] := ag_tear (fun D n hR f f0 f5 => Rel_ref hR f0 f5) (fun D n hR k hk => by rcases hR.2.1.1 k hk with q | q <;> omega) (fun D n hR k hk => by
  obtain ⟨hA, hL, hW, hN, ⟨c1, c2, c3⟩, hT, hD, hK, hB, hQ, hX, hM, hP, hS⟩ := id hR
  refine ⟨?_, ?_, ?_, ?_, ?_, ?_, ?_, ?_, ?_, ?_, ?_, ?_, ?_, ?_⟩
  · exact RA_fr (by ((repeat (refine Sm_U (by unfold PA; omega) ?_)); exact Sm_r _ _)) hA
  · refine RL_row hL hk (by (repeat (refine Sm_U (by unfold PL; omega) ?_)); exact Sm_r _ _) (Or.inr ?_) (fun j j0 j1 => ?_)
    · have q1 : ¬ (55 + 2 * k = 83) := by omega
      simp only [rdU, n133a, n133b, n75a, n75b, ↓reduceIte, Nat.reduceEqDiff, Nat.reduceLT, Nat.reduceLeDiff, Int.reduceEq, not_true_eq_false, not_false_eq_true, true_and, and_true, and_self, true_or, or_true, or_false, false_or, ite_self, q1]
      omega
    · have q1 : ¬ (56 + 2 * k = 83) := by omega
      have q2 : ¬ (56 + 2 * k = 55 + 2 * k) := by omega
      have q3 : ¬ (84 = 55 + 2 * k) := by omega
      simp only [rdU, n133a, n133b, n75a, n75b, ↓reduceIte, Nat.reduceEqDiff, Nat.reduceLT, Nat.reduceLeDiff, Int.reduceEq, not_true_eq_false, not_false_eq_true, true_and, and_true, and_self, true_or, or_true, or_false, false_or, ite_self, q1, q2, q3]
      exact hL.2.1 k j hk j0 j1
  · exact RW_fr (by ((repeat (refine Sm_U (by unfold PW; omega) ?_)); exact Sm_r _ _)) hW
  · exact RN_fr (by ((repeat (refine Sm_U (by unfold PN; omega) ?_)); exact Sm_r _ _)) hN
  · exact RC_fr (by ((repeat (refine Sm_U (by unfold PC; omega) ?_)); exact Sm_r _ _)) ⟨c1, c2, c3⟩
  · exact RT_fr (by ((repeat (refine Sm_U (by unfold PT; omega) ?_)); exact Sm_r _ _)) hT
  · exact RD_fr (by ((repeat (refine Sm_U (by unfold PD; omega) ?_)); exact Sm_r _ _)) hD
  · exact RK_fr (by ((repeat (refine Sm_U (by unfold PK; omega) ?_)); exact Sm_r _ _)) hK
  · exact RB_fr (by ((repeat (refine Sm_U (by unfold PB; omega) ?_)); exact Sm_r _ _)) hB
  · exact RQ_fr (by ((repeat (refine Sm_U (by unfold PQ; omega) ?_)); exact Sm_r _ _)) hQ
  · exact RX_fr (by ((repeat (refine Sm_U (by unfold PX; omega) ?_)); exact Sm_r _ _)) hX
  · exact RM_fr (by ((repeat (refine Sm_U (by unfold PM; omega) ?_)); exact Sm_r _ _)) hM
  · exact RP_fr (by ((repeat (refine Sm_U (by unfold PP; omega) ?_)); exact Sm_r _ _)) hP
  · exact RS_fr (by ((repeat (refine Sm_U (by unfold PS; omega) ?_)); exact Sm_r _ _)) hS) a0
set_option maxRecDepth 100000 in
set_option maxHeartbeats 400000 in
theorem ar_put {L : Nat} (a0 a1 a2 : Int) : AgI Rel L n_X11_put n_X12_put [vI a0, vI a1, vI a2] := ag_put (fun D n hR f f0 f5 => Rel_ref hR f0 f5) (fun D n hR k hk => by rcases hR.2.1.2.2.1 k hk with q | q <;> omega) (fun D n hR k j hk j0 j1 => hR.2.1.2.2.2.1 k j hk j0 j1) (fun D n hR k j v hk j0 j1 => by
  obtain ⟨hA, hL, hW, hN, ⟨c1, c2, c3⟩, hT, hD, hK, hB, hQ, hX, hM, hP, hS⟩ := id hR
  have j40 : j < 40 := by rcases hL.2.2.1 k hk with q | q <;> omega
  have jb : -128 ≤ jbyte v ∧ jbyte v ≤ 127 := by
    unfold jbyte
    rw [Int8.toInt_toInt32]
    have b1 := Int8.toInt_lt (Int32.ofInt v).toInt8
    have b2 := Int8.le_toInt (Int32.ofInt v).toInt8
    omega
  refine ⟨?_, ?_, ?_, ?_, ?_, ?_, ?_, ?_, ?_, ?_, ?_, ?_, ?_, ?_⟩
  · exact RA_fr (by ((repeat (refine Sm_U (by unfold PA; omega) ?_)); exact Sm_r _ _)) hA
  · refine RL_txt hL hk (by (repeat (refine Sm_U (by unfold PL; omega) ?_)); exact Sm_r _ _) ?_ (fun i i0 i1 => ?_)
    · have q1 : ¬ (67 + 2 * k = 87) := by omega
      have q2 : ¬ (67 + 2 * k = 68 + 2 * k) := by omega
      have q3 : ¬ (86 = 68 + 2 * k) := by omega
      simp only [rdU, n133a, n133b, n75a, n75b, ↓reduceIte, Nat.reduceEqDiff, Nat.reduceLT, Nat.reduceLeDiff, Int.reduceEq, not_true_eq_false, not_false_eq_true, true_and, and_true, and_self, true_or, or_true, or_false, false_or, ite_self, q1, q2, q3]
      exact hL.2.2.1 k hk
    · have q1 : ¬ (68 + 2 * k = 87) := by omega
      have q3 : ¬ (87 = 68 + 2 * k) := by omega
      by_cases c : i = j
      · subst c
        simp only [rdU, n133a, n133b, n75a, n75b, ↓reduceIte, Nat.reduceEqDiff, Nat.reduceLT, Nat.reduceLeDiff, Int.reduceEq, not_true_eq_false, not_false_eq_true, true_and, and_true, and_self, true_or, or_true, or_false, false_or, ite_self, q1, q3]
        exact jb
      · have c2 : ¬ (40 * (k : Int) + i = 40 * k + j) := by omega
        simp only [rdU, n133a, n133b, n75a, n75b, ↓reduceIte, Nat.reduceEqDiff, Nat.reduceLT, Nat.reduceLeDiff, Int.reduceEq, not_true_eq_false, not_false_eq_true, true_and, and_true, and_self, true_or, or_true, or_false, false_or, ite_self, q1, q3, c, c2]
        have u := hL.2.2.2.2 (40 * k + i) (by omega) (by omega)
        exact ⟨hL.2.2.2.1 k i hk i0 i1, u.1, u.2⟩
  · exact RW_fr (by ((repeat (refine Sm_U (by unfold PW; omega) ?_)); exact Sm_r _ _)) hW
  · exact RN_fr (by ((repeat (refine Sm_U (by unfold PN; omega) ?_)); exact Sm_r _ _)) hN
  · exact RC_fr (by ((repeat (refine Sm_U (by unfold PC; omega) ?_)); exact Sm_r _ _)) ⟨c1, c2, c3⟩
  · exact RT_fr (by ((repeat (refine Sm_U (by unfold PT; omega) ?_)); exact Sm_r _ _)) hT
  · exact RD_fr (by ((repeat (refine Sm_U (by unfold PD; omega) ?_)); exact Sm_r _ _)) hD
  · exact RK_fr (by ((repeat (refine Sm_U (by unfold PK; omega) ?_)); exact Sm_r _ _)) hK
  · exact RB_fr (by ((repeat (refine Sm_U (by unfold PB; omega) ?_)); exact Sm_r _ _)) hB
  · exact RQ_fr (by ((repeat (refine Sm_U (by unfold PQ; omega) ?_)); exact Sm_r _ _)) hQ
  · exact RX_fr (by ((repeat (refine Sm_U (by unfold PX; omega) ?_)); exact Sm_r _ _)) hX
  · exact RM_fr (by ((repeat (refine Sm_U (by unfold PM; omega) ?_)); exact Sm_r _ _)) hM
  · exact RP_fr (by ((repeat (refine Sm_U (by unfold PP; omega) ?_)); exact Sm_r _ _)) hP
  · exact RS_fr (by ((repeat (refine Sm_U (by unfold PS; omega) ?_)); exact Sm_r _ _)) hS) a0 a1 a2
