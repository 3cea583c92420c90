theorem tzf_z (a : Nat) (j : Int) : ∀ (l : List (Nat × Int × Int)), (∀ p ∈ l, p.1 ≠ a) → tzf 0 l a j = 0
  | [], _ => rfl
  | (b, i, x) :: l, h => by
    have q : ¬ a = b := fun e => h (b, i, x) (List.mem_cons_self ..) e.symm
    show (if a = b then (if j = i then x else tzf 0 l a j) else tzf 0 l a j) = 0
    rw [if_neg q]
    exact tzf_z a j l (fun p hp => h p (List.mem_cons_of_mem _ hp))
theorem tz_z (ys : Nat → Int) (a : Nat) (h1 : a ≠ 1) (h : ∀ p ∈ tzDw, p.1 ≠ a) (j : Int) : tzD0 ys a j = 0 := by
  unfold tzD0
  rw [if_neg h1]
  exact tzf_z a j tzDw h
theorem z0_54 (ys : Nat → Int) (j : Int) : tzD0 ys 54 j = 0 := tz_z ys 54 (by decide) (by decide +kernel) j
theorem z0_82 (ys : Nat → Int) (j : Int) : tzD0 ys 82 j = 0 := tz_z ys 82 (by decide) (by decide +kernel) j
theorem z0_84 (ys : Nat → Int) (j : Int) : tzD0 ys 84 j = 0 := tz_z ys 84 (by decide) (by decide +kernel) j
theorem z0_87 (ys : Nat → Int) (j : Int) : tzD0 ys 87 j = 0 := tz_z ys 87 (by decide) (by decide +kernel) j
theorem z0_8 (ys : Nat → Int) (j : Int) : tzD0 ys 8 j = 0 := tz_z ys 8 (by decide) (by decide +kernel) j
theorem z0_9 (ys : Nat → Int) (j : Int) : tzD0 ys 9 j = 0 := tz_z ys 9 (by decide) (by decide +kernel) j
theorem z0_10 (ys : Nat → Int) (j : Int) : tzD0 ys 10 j = 0 := tz_z ys 10 (by decide) (by decide +kernel) j
theorem z0_11 (ys : Nat → Int) (j : Int) : tzD0 ys 11 j = 0 := tz_z ys 11 (by decide) (by decide +kernel) j
theorem z0_88 (ys : Nat → Int) (j : Int) : tzD0 ys 88 j = 0 := tz_z ys 88 (by decide) (by decide +kernel) j
theorem z0_89 (ys : Nat → Int) (j : Int) : tzD0 ys 89 j = 0 := tz_z ys 89 (by decide) (by decide +kernel) j
theorem z0_90 (ys : Nat → Int) (j : Int) : tzD0 ys 90 j = 0 := tz_z ys 90 (by decide) (by decide +kernel) j
theorem z0_91 (ys : Nat → Int) (j : Int) : tzD0 ys 91 j = 0 := tz_z ys 91 (by decide) (by decide +kernel) j
theorem z0_96 (ys : Nat → Int) (j : Int) : tzD0 ys 96 j = 0 := tz_z ys 96 (by decide) (by decide +kernel) j
theorem z0_102 (ys : Nat → Int) (j : Int) : tzD0 ys 102 j = 0 := tz_z ys 102 (by decide) (by decide +kernel) j
theorem z0_104 (ys : Nat → Int) (j : Int) : tzD0 ys 104 j = 0 := tz_z ys 104 (by decide) (by decide +kernel) j
theorem z0_99 (ys : Nat → Int) (j : Int) : tzD0 ys 99 j = 0 := tz_z ys 99 (by decide) (by decide +kernel) j
theorem z0_56 (ys : Nat → Int) (j : Int) : tzD0 ys 56 j = 0 := tz_z ys 56 (by decide) (by decide +kernel) j
theorem z0_58 (ys : Nat → Int) (j : Int) : tzD0 ys 58 j = 0 := tz_z ys 58 (by decide) (by decide +kernel) j
theorem z0_60 (ys : Nat → Int) (j : Int) : tzD0 ys 60 j = 0 := tz_z ys 60 (by decide) (by decide +kernel) j
theorem z0_62 (ys : Nat → Int) (j : Int) : tzD0 ys 62 j = 0 := tz_z ys 62 (by decide) (by decide +kernel) j
theorem z0_64 (ys : Nat → Int) (j : Int) : tzD0 ys 64 j = 0 := tz_z ys 64 (by decide) (by decide +kernel) j
theorem z0_66 (ys : Nat → Int) (j : Int) : tzD0 ys 66 j = 0 := tz_z ys 66 (by decide) (by decide +kernel) j
theorem z0_68 (ys : Nat → Int) (j : Int) : tzD0 ys 68 j = 0 := tz_z ys 68 (by decide) (by decide +kernel) j
theorem z0_70 (ys : Nat → Int) (j : Int) : tzD0 ys 70 j = 0 := tz_z ys 70 (by decide) (by decide +kernel) j
theorem z0_72 (ys : Nat → Int) (j : Int) : tzD0 ys 72 j = 0 := tz_z ys 72 (by decide) (by decide +kernel) j
theorem z0_74 (ys : Nat → Int) (j : Int) : tzD0 ys 74 j = 0 := tz_z ys 74 (by decide) (by decide +kernel) j
set_option maxRecDepth 100000 in
set_option maxHeartbeats 400000 in
theorem Rel_0 (ys : Nat → Int) : Rel (tzD0 ys) 0 := by
  have w88 : wcn (tzD0 ys 88) 64 = 0 := (wcn_fr (f := fun _ => 0) (g := tzD0 ys 88) 64 (fun j _ _ => z0_88 ys j)).trans (by decide +kernel)
  refine ⟨?_, ?_, ?_, ?_, ?_, ?_, ?_, ?_, ?_, ?_, ?_, ?_, ?_, ?_⟩
  · exact ⟨rfl, fun j _ _ => (z0_54 ys j).trans (z0_82 ys j).symm, rfl, rfl, rfl, rfl⟩
  · refine ⟨?_, ?_, ?_, ?_, ?_⟩
    · intro k hk
      have : k = 0 ∨ k = 1 ∨ k = 2 ∨ k = 3 ∨ k = 4 ∨ k = 5 := by omega
      rcases this with rfl | rfl | rfl | rfl | rfl | rfl <;> exact Or.inr ⟨rfl, (by decide : (-9 : Int) < 0)⟩
    · intro k j hk _ _
      have : k = 0 ∨ k = 1 ∨ k = 2 ∨ k = 3 ∨ k = 4 ∨ k = 5 := by omega
      rw [z0_84]
      rcases this with rfl | rfl | rfl | rfl | rfl | rfl
      · exact z0_56 ys j
      · exact z0_58 ys j
      · exact z0_60 ys j
      · exact z0_62 ys j
      · exact z0_64 ys j
      · exact z0_66 ys j
    · intro k hk
      have : k = 0 ∨ k = 1 ∨ k = 2 ∨ k = 3 := by omega
      rcases this with rfl | rfl | rfl | rfl <;> exact Or.inr ⟨rfl, (by decide : (-9 : Int) < 0)⟩
    · intro k j hk _ _
      have : k = 0 ∨ k = 1 ∨ k = 2 ∨ k = 3 := by omega
      rw [z0_87]
      rcases this with rfl | rfl | rfl | rfl
      · exact z0_68 ys j
      · exact z0_70 ys j
      · exact z0_72 ys j
      · exact z0_74 ys j
    · intro j _ _
      rw [z0_87]
      omega
  · refine ⟨?_, ?_, ?_, ?_⟩
    · intro j _ _
      rw [z0_8, z0_9, z0_10, z0_11, z0_88, z0_89, z0_90, z0_91]
      omega
    · intro a b _ _ _ _
      rw [z0_88, z0_88, z0_89, z0_89, z0_90, z0_90, z0_91, z0_91]
      exact ⟨rfl, rfl, rfl, rfl⟩
    · intro a _ _
      exact z0_88 ys _
    · rw [w88]
      rfl
  · exact ⟨rfl, (by decide : (0 : Int) ≤ 0), (by decide : (0 : Int) ≤ 99999)⟩
  · exact ⟨rfl, rfl, by omega⟩
  · exact ⟨fun t ht => absurd ht (by omega), fun t _ _ => ⟨z0_96 ys _, z0_102 ys _, z0_104 ys _⟩⟩
  · exact ⟨fun t ht => absurd ht (by omega), fun t _ _ => z0_99 ys _⟩
  · intro k hk
    have : k = 0 ∨ k = 1 ∨ k = 2 ∨ k = 3 ∨ k = 4 ∨ k = 5 := by omega
    rcases this with rfl | rfl | rfl | rfl | rfl | rfl <;> exact (by decide : (0 : Int) = 0 ∧ (0 : Int) = 0 ∧ (-9 : Int) = -9 ∧ (0 : Int) = 0 ∧ (0 : Int) = 0 ∧ (0 : Int) ≤ 0 ∧ (0 : Int) ≤ 7 ∧ (0 : Int) ≤ 0 ∧ (0 : Int) ≤ 99999 ∧ ((-9 : Int) = -9 ∨ 0 ≤ (-9 : Int) ∧ (-9 : Int) < ((0 : Nat) : Int)) ∧ (0 : Int) ≤ 0 ∧ (0 : Int) ≤ 99999)
  · exact ⟨rfl, (by decide : (0 : Int) ≤ 0), (by decide : (0 : Int) ≤ 60), fun e he => absurd (show (e : Int) < 0 from he) (by omega)⟩
  · exact ⟨fun e he => absurd (show (e : Int) < 0 from he) (by omega), fun e f _ hf => absurd (show (f : Int) < 0 from hf) (by omega)⟩
  · exact ⟨fun t ht => absurd ht (by omega), fun k hk => absurd (show (k : Int) < 0 from hk) (by omega)⟩
  · exact ⟨rfl, (by decide : (0 : Int) ≤ 0), (by decide : (0 : Int) ≤ 20), fun k hk => absurd (show (k : Int) < 0 from hk) (by omega), fun k i hk => absurd (show (k : Int) < 0 from hk) (by omega)⟩
  · exact ⟨rfl, rfl, (by decide : (0 : Int) ≤ 20000), (by decide : (20000 : Int) ≤ 100000), (by decide : (0 : Int) ≤ 20000), (by decide : (20000 : Int) ≤ 100000)⟩
  · refine ⟨?_, ⟨rfl, (by decide : (0 : Int) ≤ 0), (by decide : (0 : Int) ≤ 6), fun j a hj => absurd (show j < 0 from hj) (by omega)⟩, rfl, (by decide : (0 : Int) ≤ 0), (by decide : (0 : Int) ≤ 40), fun j a hj => absurd (show j < 0 from hj) (by omega)⟩
    intro j a b
    have : j = 0 ∨ j = 1 ∨ j = 2 ∨ j = 3 ∨ j = 4 ∨ j = 5 := by omega
    rcases this with rfl | rfl | rfl | rfl | rfl | rfl <;> rfl
