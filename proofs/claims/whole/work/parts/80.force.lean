/-! ===== what is in force on a day, as known on it ===== -/
noncomputable def iFq (D : Nat → Int → Int) (th day : Int) : Int := foV D th (fo D th day day (D 81 40).toNat (-9) 0)
theorem fo_fr {D D' : Nat → Int → Int} (e : ∀ (b : Nat) (j : Int), 115 ≤ b → b ≤ 117 → D' b j = D b j) (th day kn : Int) : ∀ (j : Nat) (b i : Int), fo D' th day kn j b i = fo D th day kn j b i
  | 0, _, _ => rfl
  | j + 1, b, i => by
    have q : foB D' th day kn b i = foB D th day kn b i := by
      unfold foB
      rw [e 115 _ (by omega) (by omega), e 116 _ (by omega) (by omega), e 116 _ (by omega) (by omega), e 117 _ (by omega) (by omega)]
    rw [fo_S, fo_S, q]
    exact fo_fr e th day kn j _ _
theorem iFq_fr {D D' : Nat → Int → Int} (s : Sm PM D D') (th day : Int) : iFq D' th day = iFq D th day := by
  have e : ∀ (b : Nat) (j : Int), 115 ≤ b → b ≤ 117 → D' b j = D b j := fun b j h1 h2 => s b j (by unfold PM; omega)
  unfold iFq
  rw [fo_fr e, s 81 40 (by unfold PM; omega)]
  unfold foV
  rw [e 117 _ (by omega) (by omega)]
theorem fo_in {D : Nat → Int → Int} {th day kn : Int} : ∀ (j : Nat) (b i : Int), 0 ≤ i → (b = -9 ∨ (0 ≤ b ∧ b < i ∧ 0 ≤ D 117 (18 * b + th))) → fo D th day kn j b i = -9 ∨ (0 ≤ fo D th day kn j b i ∧ fo D th day kn j b i < i + j ∧ 0 ≤ D 117 (18 * fo D th day kn j b i + th))
  | 0, b, i, i0, h => by
    show b = -9 ∨ (0 ≤ b ∧ b < i + ((0 : Nat) : Int) ∧ 0 ≤ D 117 (18 * b + th))
    rcases h with h | h
    · exact Or.inl h
    · exact Or.inr ⟨h.1, by omega, h.2.2⟩
  | j + 1, b, i, i0, h => by
    rw [fo_S]
    have q := fo_in (D := D) (th := th) (day := day) (kn := kn) j (foB D th day kn b i) (i + 1) (by omega) (by
      unfold foB
      by_cases c : (D 115 i ≤ kn ∧ D 116 i ≤ day ∧ 0 ≤ D 117 (18 * i + th)) ∧ (b < 0 ∨ D 116 b ≤ D 116 i)
      · rw [if_pos c]; exact Or.inr ⟨i0, by omega, c.1.2.2⟩
      · rw [if_neg c]
        rcases h with h | h
        · exact Or.inl h
        · exact Or.inr ⟨h.1, by omega, h.2.2⟩)
    rcases q with q | q
    · exact Or.inl q
    · exact Or.inr ⟨q.1, by omega, q.2.2⟩
theorem iFq_bd {D : Nat → Int → Int} (h : RM D) {th : Int} (day : Int) (t0 : 0 ≤ th) (t1 : th < 18) : 0 ≤ iFq D th day ∧ iFq D th day ≤ 9999 := by
  obtain ⟨h1, h2, h3, h4, h5⟩ := h
  have q := fo_in (D := D) (th := th) (day := day) (kn := day) (D 81 40).toNat (-9) 0 (by omega) (Or.inl rfl)
  have key : ∀ b : Int, (b = -9 ∨ (0 ≤ b ∧ b < 0 + (((D 81 40).toNat : Nat) : Int) ∧ 0 ≤ D 117 (18 * b + th))) → 0 ≤ foV D th b ∧ foV D th b ≤ 9999 := by
    intro b hb
    unfold foV
    rcases hb with hb | hb
    · rw [if_pos (by omega)]
      unfold at1
      split
      · split
        · split <;> omega
        · omega
      · omega
    · rw [if_neg (by omega)]
      obtain ⟨x, hx⟩ : ∃ x : Nat, b = x := ⟨b.toNat, by omega⟩
      obtain ⟨y, hy⟩ : ∃ y : Nat, th = y := ⟨th.toNat, by omega⟩
      subst hx hy
      rcases h5 x y (by omega) (by omega) with g | g <;> omega
  exact key _ q
set_option maxRecDepth 100000 in
set_option maxHeartbeats 400000 in
theorem p_iFq (d : Nat) (D : Nat → Int → Int) (L n : Nat) (th day : Int) (h : RM D) (t0 : 0 ≤ th) (t1 : th < 18) : tqden tqP (d + 2) n_X7_inForce [vR 18, vI th, vI day, vI day] (tzW D L n) = some (some (vI (iFq D th day)), tzW D L n) := by
  have me := ME_of h
  have e : D 81 40 = ((D 81 40).toNat : Int) := by have := h.2.1; omega
  rw [e] at me
  exact p_inForce d D L n th day day me ⟨t0, t1⟩
set_option maxRecDepth 100000 in
set_option maxHeartbeats 400000 in
theorem q_iFq (d : Nat) (D : Nat → Int → Int) (L n : Nat) (w y th day : Int) (h : RM D) (hw : (w = 0 ∧ th = y ∧ 0 ≤ y ∧ y ≤ 7) ∨ (w = 1 ∧ th = 8 + y ∧ 0 ≤ y ∧ y ≤ 7) ∨ (w = 2 ∧ th = 16) ∨ (w = 3 ∧ th = 17)) : tqden tqP (d + 1) n_X12_inForce [vR 81, vI w, vI y, vI day, vI day] (tzW D L n) = some (some (vI (iFq D th day)), tzW D L n) := by
  have me := ME_of h
  have e : D 81 40 = ((D 81 40).toNat : Int) := by have := h.2.1; omega
  rw [e] at me
  exact q_inForce d D L n w y th day day me hw
