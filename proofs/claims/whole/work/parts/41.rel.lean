/-! ===== what is known of the memory between calls, in groups; each group speaks of its own cells ===== -/
def PA (b : Nat) (j : Int) : Prop := b = 53 ∨ b = 54 ∨ b = 82 ∨ (b = 81 ∧ (j = 0 ∨ j = 2 ∨ j = 3 ∨ j = 4 ∨ j = 45))
def RA (D : Nat → Int → Int) : Prop := D 53 1 = D 81 0 ∧ (∀ j : Int, 0 ≤ j → j ≤ 5 → D 54 j = D 82 j) ∧ D 53 2 = D 81 2 ∧ D 53 3 = D 81 45 ∧ D 53 4 = D 81 3 ∧ D 53 5 = D 81 4
theorem RA_fr {D D' : Nat → Int → Int} (s : Sm PA D D') (h : RA D) : RA D' := by
  obtain ⟨h1, h2, h3, h4, h5, h6⟩ := h
  have e : ∀ b j, PA b j → D' b j = D b j := s
  refine ⟨?_, ?_, ?_, ?_, ?_, ?_⟩
  · rw [e 53 1 (by unfold PA; omega), e 81 0 (by unfold PA; omega)]; exact h1
  · intro j a b; rw [e 54 j (by unfold PA; omega), e 82 j (by unfold PA; omega)]; exact h2 j a b
  · rw [e 53 2 (by unfold PA; omega), e 81 2 (by unfold PA; omega)]; exact h3
  · rw [e 53 3 (by unfold PA; omega), e 81 45 (by unfold PA; omega)]; exact h4
  · rw [e 53 4 (by unfold PA; omega), e 81 3 (by unfold PA; omega)]; exact h5
  · rw [e 53 5 (by unfold PA; omega), e 81 4 (by unfold PA; omega)]; exact h6
def PL (b : Nat) (_ : Int) : Prop := (55 ≤ b ∧ b ≤ 74) ∨ b = 83 ∨ b = 84 ∨ b = 86 ∨ b = 87
def RL (D : Nat → Int → Int) : Prop := (∀ k : Nat, k < 6 → (D (55 + 2 * k) 1 = D 83 k ∧ 0 ≤ D 83 k ∧ D 83 k ≤ 40) ∨ (D (55 + 2 * k) 1 = -1 ∧ D 83 k < 0)) ∧ (∀ (k : Nat) (j : Int), k < 6 → 0 ≤ j → j < 40 → D (56 + 2 * k) j = D 84 (40 * k + j)) ∧ (∀ k : Nat, k < 4 → (D (67 + 2 * k) 1 = D 86 k ∧ 0 ≤ D 86 k ∧ D 86 k ≤ 40) ∨ (D (67 + 2 * k) 1 = -1 ∧ D 86 k < 0)) ∧ (∀ (k : Nat) (j : Int), k < 4 → 0 ≤ j → j < 40 → D (68 + 2 * k) j = D 87 (40 * k + j)) ∧ (∀ j : Int, 0 ≤ j → j < 160 → -128 ≤ D 87 j ∧ D 87 j ≤ 127)
theorem RL_fr {D D' : Nat → Int → Int} (s : Sm PL D D') (h : RL D) : RL D' := by
  obtain ⟨h1, h2, h3, h4, h5⟩ := h
  have e : ∀ b j, PL b j → D' b j = D b j := s
  refine ⟨?_, ?_, ?_, ?_, ?_⟩
  · intro k hk; rw [e (55 + 2 * k) 1 (by unfold PL; omega), e 83 k (by unfold PL; omega)]; exact h1 k hk
  · intro k j hk a b; rw [e (56 + 2 * k) j (by unfold PL; omega), e 84 _ (by unfold PL; omega)]; exact h2 k j hk a b
  · intro k hk; rw [e (67 + 2 * k) 1 (by unfold PL; omega), e 86 k (by unfold PL; omega)]; exact h3 k hk
  · intro k j hk a b; rw [e (68 + 2 * k) j (by unfold PL; omega), e 87 _ (by unfold PL; omega)]; exact h4 k j hk a b
  · intro j a b; rw [e 87 j (by unfold PL; omega)]; exact h5 j a b
/-- how many of the first k spots are ways told of once -/
def wcn (f : Int → Int) : Nat → Int
  | 0 => 0
  | k + 1 => wcn f k + (if k / 8 < k % 8 ∧ 0 < f (k : Int) then 1 else 0)
theorem wcn_fr {f g : Int → Int} : ∀ k : Nat, (∀ j : Int, 0 ≤ j → j < k → g j = f j) → wcn g k = wcn f k
  | 0, _ => rfl
  | k + 1, h => by
    show wcn g k + _ = wcn f k + _
    rw [wcn_fr k (fun j a b => h j a (by omega)), h k (by omega) (by omega)]
def PW (b : Nat) (j : Int) : Prop := (8 ≤ b ∧ b ≤ 11) ∨ (88 ≤ b ∧ b ≤ 91) ∨ (b = 7 ∧ j = 5)
def RW (D : Nat → Int → Int) : Prop := (∀ j : Int, 0 ≤ j → j < 64 → D 8 j = D 88 j ∧ D 9 j = D 89 j ∧ D 10 j = D 90 j ∧ D 11 j = D 91 j ∧ 0 ≤ D 88 j ∧ D 88 j ≤ 600 ∧ 0 ≤ D 89 j ∧ D 89 j ≤ 999 ∧ 0 ≤ D 90 j ∧ D 90 j ≤ 1440 ∧ 0 ≤ D 91 j ∧ (D 91 j < D 90 j ∨ D 90 j = 0 ∧ D 91 j = 0)) ∧ (∀ a b : Int, 0 ≤ a → a < 8 → 0 ≤ b → b < 8 → D 88 (8 * a + b) = D 88 (8 * b + a) ∧ D 89 (8 * a + b) = D 89 (8 * b + a) ∧ D 90 (8 * a + b) = D 90 (8 * b + a) ∧ D 91 (8 * a + b) = D 91 (8 * b + a)) ∧ (∀ a : Int, 0 ≤ a → a < 8 → D 88 (9 * a) = 0) ∧ D 7 5 = wcn (D 88) 64
theorem RW_fr {D D' : Nat → Int → Int} (s : Sm PW D D') (h : RW D) : RW D' := by
  obtain ⟨h1, h2, h3, h4⟩ := h
  have e : ∀ b j, PW b j → D' b j = D b j := s
  refine ⟨?_, ?_, ?_, ?_⟩
  · intro j a b
    rw [e 8 j (by unfold PW; omega), e 9 j (by unfold PW; omega), e 10 j (by unfold PW; omega), e 11 j (by unfold PW; omega), e 88 j (by unfold PW; omega), e 89 j (by unfold PW; omega), e 90 j (by unfold PW; omega), e 91 j (by unfold PW; omega)]
    exact h1 j a b
  · intro a b q1 q2 q3 q4
    have e8 : ∀ j, D' 88 j = D 88 j := fun j => e 88 j (by unfold PW; omega)
    have e9 : ∀ j, D' 89 j = D 89 j := fun j => e 89 j (by unfold PW; omega)
    have e10 : ∀ j, D' 90 j = D 90 j := fun j => e 90 j (by unfold PW; omega)
    have e11 : ∀ j, D' 91 j = D 91 j := fun j => e 91 j (by unfold PW; omega)
    rw [e8, e8, e9, e9, e10, e10, e11, e11]
    exact h2 a b q1 q2 q3 q4
  · intro a q1 q2; rw [e 88 _ (by unfold PW; omega)]; exact h3 a q1 q2
  · rw [e 7 5 (by unfold PW; omega), h4]; exact (wcn_fr 64 (fun j _ _ => e 88 j (by unfold PW; omega))).symm
def PN (b : Nat) (j : Int) : Prop := (b = 2 ∧ j = 13) ∨ (b = 81 ∧ j = 5)
def RN (D : Nat → Int → Int) : Prop := D 2 13 = D 81 5 ∧ 0 ≤ D 81 5 ∧ D 81 5 ≤ 99999
theorem RN_fr {D D' : Nat → Int → Int} (s : Sm PN D D') (h : RN D) : RN D' := by
  have e : ∀ b j, PN b j → D' b j = D b j := s
  unfold RN; rw [e 2 13 (by unfold PN; omega), e 81 5 (by unfold PN; omega)]; exact h
def PC (b : Nat) (j : Int) : Prop := (b = 2 ∧ j = 12) ∨ (b = 81 ∧ j = 16)
def RC (D : Nat → Int → Int) (n : Nat) : Prop := D 2 12 = n ∧ D 81 16 = n ∧ n ≤ 12
theorem RC_fr {D D' : Nat → Int → Int} {n : Nat} (s : Sm PC D D') (h : RC D n) : RC D' n := by
  have e : ∀ b j, PC b j → D' b j = D b j := s
  unfold RC; rw [e 2 12 (by unfold PC; omega), e 81 16 (by unfold PC; omega)]; exact h
/-! trailers, but for their loads -/
def TR (D : Nat → Int → Int) (t : Nat) : Prop := D (133 + t) 0 = D 93 t ∧ D (133 + t) 1 = D 97 t ∧ D (133 + t) 3 = D 94 t ∧ D (133 + t) 4 = D 95 t ∧ D (133 + t) 5 = D 96 t ∧ D (133 + t) 6 = D 102 t ∧ D (133 + t) 7 = D 103 t ∧ D (133 + t) 8 = D 104 t ∧ D (133 + t) 9 = D 98 t ∧ 0 ≤ D 93 t ∧ D 93 t ≤ 3 ∧ 0 ≤ D 97 t ∧ D 97 t ≤ 100000 ∧ (D 94 t = -9 ∨ 0 ≤ D 94 t ∧ D 94 t ≤ 7) ∧ (D 95 t = -9 ∨ 0 ≤ D 95 t ∧ D 95 t ≤ 5) ∧ (D 96 t = 0 ∨ D 96 t = 1) ∧ (D 102 t = 0 ∨ D 102 t = 1) ∧ 60 ≤ D 98 t ∧ D 98 t ≤ 120 ∧ in32 (D 103 t)
theorem TR_fr {D D' : Nat → Int → Int} {t : Nat} (h1 : ∀ j, 0 ≤ j → j ≤ 9 → D' (133 + t) j = D (133 + t) j) (h2 : ∀ b, 93 ≤ b → b ≤ 104 → b ≠ 99 → b ≠ 100 → b ≠ 101 → D' b t = D b t) (h : TR D t) : TR D' t := by
  unfold TR
  rw [h1 0 (by omega) (by omega), h1 1 (by omega) (by omega), h1 3 (by omega) (by omega), h1 4 (by omega) (by omega), h1 5 (by omega) (by omega), h1 6 (by omega) (by omega), h1 7 (by omega) (by omega), h1 8 (by omega) (by omega), h1 9 (by omega) (by omega), h2 93 (by omega) (by omega) (by omega) (by omega) (by omega), h2 94 (by omega) (by omega) (by omega) (by omega) (by omega), h2 95 (by omega) (by omega) (by omega) (by omega) (by omega), h2 96 (by omega) (by omega) (by omega) (by omega) (by omega), h2 97 (by omega) (by omega) (by omega) (by omega) (by omega), h2 98 (by omega) (by omega) (by omega) (by omega) (by omega), h2 102 (by omega) (by omega) (by omega) (by omega) (by omega), h2 103 (by omega) (by omega) (by omega) (by omega) (by omega), h2 104 (by omega) (by omega) (by omega) (by omega) (by omega)]
  exact h
def PT (b : Nat) (j : Int) : Prop := (133 ≤ b ∧ 0 ≤ j ∧ j ≤ 9) ∨ (93 ≤ b ∧ b ≤ 104 ∧ b ≠ 99 ∧ b ≠ 100 ∧ b ≠ 101)
def RT (D : Nat → Int → Int) (n : Nat) : Prop := (∀ t : Nat, t < n → TR D t) ∧ (∀ t : Nat, n ≤ t → t < 12 → D 96 t = 0 ∧ D 102 t = 0 ∧ D 104 t = 0)
theorem RT_fr {D D' : Nat → Int → Int} {n : Nat} (s : Sm PT D D') (h : RT D n) : RT D' n := by
  have e : ∀ b j, PT b j → D' b j = D b j := s
  refine ⟨fun t ht => TR_fr (fun j a b => e _ _ (by unfold PT; omega)) (fun b q1 q2 q3 q4 q5 => e _ _ (by unfold PT; omega)) (h.1 t ht), fun t a b => ?_⟩
  rw [e 96 _ (by unfold PT; omega), e 102 _ (by unfold PT; omega), e 104 _ (by unfold PT; omega)]
  exact h.2 t a b
/-! loads -/
def sw (D : Nat → Int → Int) (t : Nat) : Nat → Int
  | 0 => 0
  | k + 1 => sw D t k + D 100 (6 * t + k)
def sm (D : Nat → Int → Int) (t : Nat) : Nat → Int
  | 0 => 0
  | k + 1 => sm D t k + D 100 (6 * t + k) * D 101 (6 * t + k)
theorem sw_fr {D D' : Nat → Int → Int} {t : Nat} : ∀ k : Nat, (∀ i : Nat, i < k → D' 100 (6 * t + i) = D 100 (6 * t + i)) → sw D' t k = sw D t k
  | 0, _ => rfl
  | k + 1, h => by
    show sw D' t k + _ = sw D t k + _
    rw [sw_fr k (fun i q => h i (by omega)), h k (by omega)]
theorem sm_fr {D D' : Nat → Int → Int} {t : Nat} : ∀ k : Nat, (∀ i : Nat, i < k → D' 100 (6 * t + i) = D 100 (6 * t + i) ∧ D' 101 (6 * t + i) = D 101 (6 * t + i)) → sm D' t k = sm D t k
  | 0, _ => rfl
  | k + 1, h => by
    show sm D' t k + _ = sm D t k + _
    rw [sm_fr k (fun i q => h i (by omega)), (h k (by omega)).1, (h k (by omega)).2]
def LD (D : Nat → Int → Int) (t : Nat) : Prop := D (133 + t) 10 = D 99 t ∧ 0 ≤ D 99 t ∧ D 99 t ≤ 6 ∧ D (133 + t) 11 = sw D t (D 99 t).toNat ∧ D (133 + t) 12 = sm D t (D 99 t).toNat ∧ ∀ k : Nat, (k : Int) < D 99 t → 1 ≤ D 100 (6 * t + k) ∧ D 100 (6 * t + k) ≤ 20000 ∧ 0 ≤ D 101 (6 * t + k) ∧ D 101 (6 * t + k) ≤ 130
theorem LD_fr {D D' : Nat → Int → Int} {t : Nat} (h1 : ∀ j, 10 ≤ j → j ≤ 12 → D' (133 + t) j = D (133 + t) j) (h2 : D' 99 t = D 99 t) (h3 : ∀ k : Nat, k < 6 → D' 100 (6 * t + k) = D 100 (6 * t + k) ∧ D' 101 (6 * t + k) = D 101 (6 * t + k)) (h : LD D t) : LD D' t := by
  obtain ⟨g1, g2, g3, g4, g5, g6⟩ := h
  unfold LD
  rw [h1 10 (by omega) (by omega), h1 11 (by omega) (by omega), h1 12 (by omega) (by omega), h2, sw_fr _ (fun i q => (h3 i (by omega)).1), sm_fr _ (fun i q => h3 i (by omega))]
  refine ⟨g1, g2, g3, g4, g5, ?_⟩
  intro k hk
  rw [(h3 k (by omega)).1, (h3 k (by omega)).2]
  exact g6 k hk
def PD (b : Nat) (j : Int) : Prop := (133 ≤ b ∧ 10 ≤ j ∧ j ≤ 12) ∨ b = 99 ∨ b = 100 ∨ b = 101
def RD (D : Nat → Int → Int) (n : Nat) : Prop := (∀ t : Nat, t < n → LD D t) ∧ (∀ t : Nat, n ≤ t → t < 12 → D 99 t = 0)
theorem RD_fr {D D' : Nat → Int → Int} {n : Nat} (s : Sm PD D D') (h : RD D n) : RD D' n := by
  have e : ∀ b j, PD b j → D' b j = D b j := s
  refine ⟨fun t ht => LD_fr (fun j a b => e _ _ (by unfold PD; omega)) (e _ _ (by unfold PD; omega)) (fun k hk => ⟨e _ _ (by unfold PD; omega), e _ _ (by unfold PD; omega)⟩) (h.1 t ht), fun t a b => ?_⟩
  rw [e 99 _ (by unfold PD; omega)]
  exact h.2 t a b
/-! tractors -/
def KR (D : Nat → Int → Int) (n k : Nat) : Prop := D (75 + k) 0 = D 105 k ∧ D (75 + k) 1 = D 106 k ∧ D (75 + k) 2 = D 107 k ∧ D (75 + k) 3 = D 108 k ∧ D (75 + k) 4 = D 109 k ∧ 0 ≤ D 105 k ∧ D 105 k ≤ 7 ∧ 0 ≤ D 106 k ∧ D 106 k ≤ 99999 ∧ (D 107 k = -9 ∨ 0 ≤ D 107 k ∧ D 107 k < n) ∧ 0 ≤ D 108 k ∧ D 108 k ≤ 99999
theorem KR_fr {D D' : Nat → Int → Int} {n k : Nat} (h1 : ∀ j, 0 ≤ j → j ≤ 4 → D' (75 + k) j = D (75 + k) j) (h2 : ∀ b, 105 ≤ b → b ≤ 109 → D' b k = D b k) (h : KR D n k) : KR D' n k := by
  unfold KR
  rw [h1 0 (by omega) (by omega), h1 1 (by omega) (by omega), h1 2 (by omega) (by omega), h1 3 (by omega) (by omega), h1 4 (by omega) (by omega), h2 105 (by omega) (by omega), h2 106 (by omega) (by omega), h2 107 (by omega) (by omega), h2 108 (by omega) (by omega), h2 109 (by omega) (by omega)]
  exact h
def PK (b : Nat) (_ : Int) : Prop := (75 ≤ b ∧ b ≤ 80) ∨ (105 ≤ b ∧ b ≤ 109)
def RK (D : Nat → Int → Int) (n : Nat) : Prop := ∀ k : Nat, k < 6 → KR D n k
theorem RK_fr {D D' : Nat → Int → Int} {n : Nat} (s : Sm PK D D') (h : RK D n) : RK D' n := by
  have e : ∀ b j, PK b j → D' b j = D b j := s
  exact fun k hk => KR_fr (fun j a b => e _ _ (by unfold PK; omega)) (fun b q1 q2 => e _ _ (by unfold PK; omega)) (h k hk)
/-! the book -/
def ER (D : Nat → Int → Int) (n : Nat) (e : Nat) : Prop := D 14 e = D 110 e ∧ D 15 e = D 111 e ∧ D 16 e = D 112 e ∧ D 17 e = D 113 e ∧ 0 ≤ D 110 e ∧ D 110 e < n ∧ 0 ≤ D 111 e ∧ D 111 e ≤ 5 ∧ 0 ≤ D 112 e ∧ (D 111 e = 0 → 0 ≤ D 113 e ∧ D 113 e ≤ 7) ∧ (D 111 e = 1 → 0 ≤ D 113 e ∧ D 113 e ≤ 5)
def PB (b : Nat) (j : Int) : Prop := (14 ≤ b ∧ b ≤ 17) ∨ (110 ≤ b ∧ b ≤ 113) ∨ (b = 13 ∧ j = 4) ∨ (b = 81 ∧ j = 34)
def RB (D : Nat → Int → Int) (n : Nat) : Prop := D 13 4 = D 81 34 ∧ 0 ≤ D 81 34 ∧ D 81 34 ≤ 60 ∧ ∀ e : Nat, (e : Int) < D 81 34 → ER D n e
theorem RB_fr {D D' : Nat → Int → Int} {n : Nat} (s : Sm PB D D') (h : RB D n) : RB D' n := by
  have e : ∀ b j, PB b j → D' b j = D b j := s
  obtain ⟨h1, h2, h3, h4⟩ := h
  unfold RB
  rw [e 13 4 (by unfold PB; omega), e 81 34 (by unfold PB; omega)]
  refine ⟨h1, h2, h3, fun i hi => ?_⟩
  unfold ER
  rw [e 14 i (by unfold PB; omega), e 15 i (by unfold PB; omega), e 16 i (by unfold PB; omega), e 17 i (by unfold PB; omega), e 110 i (by unfold PB; omega), e 111 i (by unfold PB; omega), e 112 i (by unfold PB; omega), e 113 i (by unfold PB; omega)]
  exact h4 i hi
def PQ (b : Nat) (j : Int) : Prop := b = 112 ∨ (b = 81 ∧ (j = 34 ∨ j = 5))
/-- the minutes of the book rise, and none is ahead of now -/
def RQ (D : Nat → Int → Int) : Prop := (∀ e : Nat, (e : Int) < D 81 34 → D 112 e ≤ D 81 5) ∧ ∀ e f : Nat, e ≤ f → (f : Int) < D 81 34 → D 112 e ≤ D 112 f
theorem RQ_fr {D D' : Nat → Int → Int} (s : Sm PQ D D') (h : RQ D) : RQ D' := by
  have e : ∀ b j, PQ b j → D' b j = D b j := s
  obtain ⟨h1, h2⟩ := h
  unfold RQ
  rw [e 81 34 (by unfold PQ; omega), e 81 5 (by unfold PQ; omega)]
  refine ⟨fun i hi => ?_, fun i f a b => ?_⟩
  · rw [e 112 i (by unfold PQ; omega)]; exact h1 i hi
  · rw [e 112 i (by unfold PQ; omega), e 112 f (by unfold PQ; omega)]; exact h2 i f a b
/-! the book and the trailers: the last yard told among the first k entries (class), the yard of the last holder (reference), the first entry, the last seal -/
def yK (D : Nat → Int → Int) (t : Int) : Nat → Int
  | 0 => -9
  | k + 1 => if D 110 k = t ∧ D 111 k = 0 then D 113 k else yK D t k
def yM (D : Nat → Int → Int) (t : Int) : Nat → Int
  | 0 => -9
  | k + 1 => if D 110 k = t ∧ D 111 k < 2 then D 114 k else yM D t k
def fE (D : Nat → Int → Int) (t : Int) : Nat → Option Nat
  | 0 => none
  | k + 1 => match fE D t k with
    | some e => some e
    | none => if D 110 k = t then some k else none
def sE (D : Nat → Int → Int) (t : Int) : Nat → Prop
  | 0 => False
  | k + 1 => (D 110 k = t ∧ (D 111 k = 3 ∨ D 111 k = 4)) ∨ sE D t k
theorem yK_fr {D D' : Nat → Int → Int} {t : Int} : ∀ k : Nat, (∀ i : Nat, i < k → D' 110 i = D 110 i ∧ D' 111 i = D 111 i ∧ D' 113 i = D 113 i) → yK D' t k = yK D t k
  | 0, _ => rfl
  | k + 1, h => by
    unfold yK
    rw [yK_fr k (fun i q => h i (by omega)), (h k (by omega)).1, (h k (by omega)).2.1, (h k (by omega)).2.2]
theorem yM_fr {D D' : Nat → Int → Int} {t : Int} : ∀ k : Nat, (∀ i : Nat, i < k → D' 110 i = D 110 i ∧ D' 111 i = D 111 i ∧ D' 114 i = D 114 i) → yM D' t k = yM D t k
  | 0, _ => rfl
  | k + 1, h => by
    unfold yM
    rw [yM_fr k (fun i q => h i (by omega)), (h k (by omega)).1, (h k (by omega)).2.1, (h k (by omega)).2.2]
theorem fE_fr {D D' : Nat → Int → Int} {t : Int} : ∀ k : Nat, (∀ i : Nat, i < k → D' 110 i = D 110 i) → fE D' t k = fE D t k
  | 0, _ => rfl
  | k + 1, h => by
    unfold fE
    rw [fE_fr k (fun i q => h i (by omega)), h k (by omega)]
theorem sE_fr {D D' : Nat → Int → Int} {t : Int} : ∀ k : Nat, (∀ i : Nat, i < k → D' 110 i = D 110 i ∧ D' 111 i = D 111 i) → sE D' t k = sE D t k
  | 0, _ => rfl
  | k + 1, h => by
    unfold sE
    rw [sE_fr k (fun i q => h i (by omega)), (h k (by omega)).1, (h k (by omega)).2]
def PX (b : Nat) (j : Int) : Prop := (133 ≤ b ∧ (j = 2 ∨ j = 3 ∨ j = 6)) ∨ (110 ≤ b ∧ b ≤ 114) ∨ (b = 81 ∧ j = 34)
def RX (D : Nat → Int → Int) (n : Nat) : Prop := (∀ t : Nat, t < n → (D (133 + t) 3 ≠ -9 → yK D t (D 81 34).toNat = D (133 + t) 3) ∧ yK D t (D 81 34).toNat = yM D t (D 81 34).toNat ∧ 0 ≤ yK D t (D 81 34).toNat ∧ (∃ e : Nat, fE D t (D 81 34).toNat = some e ∧ D 112 e = D (133 + t) 2) ∧ (D (133 + t) 6 = 1 → sE D t (D 81 34).toNat)) ∧ ∀ k : Nat, (k : Int) < D 81 34 → D 111 k = 5 → sE D (D 110 k) k
theorem RX_fr {D D' : Nat → Int → Int} {n : Nat} (s : Sm PX D D') (h : RX D n) : RX D' n := by
  have e : ∀ b j, PX b j → D' b j = D b j := s
  have e0 : ∀ i : Nat, D' 110 i = D 110 i := fun i => e 110 i (by unfold PX; omega)
  have e1 : ∀ i : Nat, D' 111 i = D 111 i := fun i => e 111 i (by unfold PX; omega)
  have e2 : ∀ i : Nat, D' 112 i = D 112 i := fun i => e 112 i (by unfold PX; omega)
  have e3 : ∀ i : Nat, D' 113 i = D 113 i := fun i => e 113 i (by unfold PX; omega)
  have e4 : ∀ i : Nat, D' 114 i = D 114 i := fun i => e 114 i (by unfold PX; omega)
  obtain ⟨h1, h2⟩ := h
  unfold RX
  rw [e 81 34 (by unfold PX; omega)]
  refine ⟨fun t ht => ?_, fun k hk => ?_⟩
  · rw [e (133 + t) 2 (by unfold PX; omega), e (133 + t) 3 (by unfold PX; omega), e (133 + t) 6 (by unfold PX; omega), yK_fr _ (fun i _ => ⟨e0 i, e1 i, e3 i⟩), yM_fr _ (fun i _ => ⟨e0 i, e1 i, e4 i⟩), fE_fr _ (fun i _ => e0 i), sE_fr _ (fun i _ => ⟨e0 i, e1 i⟩)]
    obtain ⟨g1, g2, g3, ⟨x, g4, g5⟩, g6⟩ := h1 t ht
    exact ⟨g1, g2, g3, ⟨x, g4, (e2 x).trans g5⟩, g6⟩
  · rw [e1 k, e0 k, sE_fr _ (fun i _ => ⟨e0 i, e1 i⟩)]
    exact h2 k hk
/-! terms -/
def PM (b : Nat) (j : Int) : Prop := (19 ≤ b ∧ b ≤ 21) ∨ (115 ≤ b ∧ b ≤ 117) ∨ (b = 18 ∧ j = 4) ∨ (b = 81 ∧ j = 40)
def RM (D : Nat → Int → Int) : Prop := D 18 4 = D 81 40 ∧ 0 ≤ D 81 40 ∧ D 81 40 ≤ 20 ∧ (∀ k : Nat, (k : Int) < D 81 40 → D 19 k = D 115 k ∧ D 20 k = D 116 k ∧ 0 ≤ D 115 k ∧ D 115 k ≤ 69 ∧ 0 ≤ D 116 k ∧ D 116 k ≤ 69) ∧ ∀ k i : Nat, (k : Int) < D 81 40 → i < 18 → (D 21 (18 * k + i) = D 117 (18 * k + i) ∧ 0 ≤ D 117 (18 * k + i) ∧ D 117 (18 * k + i) ≤ 9999) ∨ (D 21 (18 * k + i) = -1 ∧ D 117 (18 * k + i) = -9)
theorem RM_fr {D D' : Nat → Int → Int} (s : Sm PM D D') (h : RM D) : RM D' := by
  have e : ∀ b j, PM b j → D' b j = D b j := s
  obtain ⟨h1, h2, h3, h4, h5⟩ := h
  unfold RM
  rw [e 18 4 (by unfold PM; omega), e 81 40 (by unfold PM; omega)]
  refine ⟨h1, h2, h3, fun k hk => ?_, fun k i hk hi => ?_⟩
  · rw [e 19 k (by unfold PM; omega), e 20 k (by unfold PM; omega), e 115 k (by unfold PM; omega), e 116 k (by unfold PM; omega)]; exact h4 k hk
  · rw [e 21 _ (by unfold PM; omega), e 117 _ (by unfold PM; omega)]; exact h5 k i hk hi
def PP (b : Nat) (j : Int) : Prop := (b = 2 ∧ (j = 14 ∨ j = 15)) ∨ (b = 81 ∧ (j = 46 ∨ j = 47))
def RP (D : Nat → Int → Int) : Prop := D 2 14 = D 81 46 ∧ D 2 15 = D 81 47 ∧ 0 ≤ D 81 46 ∧ D 81 46 ≤ 100000 ∧ 0 ≤ D 81 47 ∧ D 81 47 ≤ 100000
theorem RP_fr {D D' : Nat → Int → Int} (s : Sm PP D D') (h : RP D) : RP D' := by
  have e : ∀ b j, PP b j → D' b j = D b j := s
  unfold RP; rw [e 2 14 (by unfold PP; omega), e 2 15 (by unfold PP; omega), e 81 46 (by unfold PP; omega), e 81 47 (by unfold PP; omega)]; exact h
/-! what swaps, the search and the rents leave to be told -/
def PS (b : Nat) (j : Int) : Prop := b = 29 ∨ b = 119 ∨ b = 40 ∨ b = 122 ∨ b = 52 ∨ b = 131 ∨ (b = 30 ∧ j = 4) ∨ (b = 50 ∧ j = 2) ∨ (b = 81 ∧ (j = 58 ∨ j = 69))
def RS (D : Nat → Int → Int) : Prop := (∀ j : Int, 0 ≤ j → j ≤ 5 → D 29 j = D 119 j) ∧ (D 30 4 = D 81 58 ∧ 0 ≤ D 81 58 ∧ D 81 58 ≤ 6 ∧ ∀ j : Int, 0 ≤ j → j < D 81 58 → D 40 j = D 122 j) ∧ (D 50 2 = D 81 69 ∧ 0 ≤ D 81 69 ∧ D 81 69 ≤ 40 ∧ ∀ j : Int, 0 ≤ j → j < D 81 69 → D 52 j = D 131 j)
theorem RS_fr {D D' : Nat → Int → Int} (s : Sm PS D D') (h : RS D) : RS D' := by
  have e : ∀ b j, PS b j → D' b j = D b j := s
  obtain ⟨h1, ⟨h2, h3, h4, h5⟩, h6, h7, h8, h9⟩ := h
  unfold RS
  rw [e 30 4 (by unfold PS; omega), e 50 2 (by unfold PS; omega), e 81 58 (by unfold PS; omega), e 81 69 (by unfold PS; omega)]
  refine ⟨fun j a b => ?_, ⟨h2, h3, h4, fun j a b => ?_⟩, h6, h7, h8, fun j a b => ?_⟩
  · rw [e 29 j (by unfold PS; omega), e 119 j (by unfold PS; omega)]; exact h1 j a b
  · rw [e 40 j (by unfold PS; omega), e 122 j (by unfold PS; omega)]; exact h5 j a b
  · rw [e 52 j (by unfold PS; omega), e 131 j (by unfold PS; omega)]; exact h9 j a b
def Rel (D : Nat → Int → Int) (n : Nat) : Prop := RA D ∧ RL D ∧ RW D ∧ RN D ∧ RC D n ∧ RT D n ∧ RD D n ∧ RK D n ∧ RB D n ∧ RQ D ∧ RX D n ∧ RM D ∧ RP D ∧ RS D
theorem Rel_n {D : Nat → Int → Int} {n : Nat} (h : Rel D n) : n ≤ 12 := h.2.2.2.2.1.2.2
/-- the cells that Rel speaks of but for the answers' -/
def PZ (b : Nat) (j : Int) : Prop := PL b j ∨ PW b j ∨ PN b j ∨ PC b j ∨ PT b j ∨ PD b j ∨ PK b j ∨ PB b j ∨ PQ b j ∨ PX b j ∨ PM b j ∨ PP b j ∨ PS b j
theorem Rel_fr {D D' : Nat → Int → Int} {n : Nat} (s : Sm PZ D D') (a : RA D') (h : Rel D n) : Rel D' n := by
  obtain ⟨_, h2, h3, h4, h5, h6, h7, h8, h9, h10, h11, h12, h13, h14⟩ := h
  have e : ∀ b j, PZ b j → D' b j = D b j := s
  exact ⟨a, RL_fr (fun b j p => e b j (by unfold PZ; simp only [p, true_or, or_true])) h2, RW_fr (fun b j p => e b j (by unfold PZ; simp only [p, true_or, or_true])) h3, RN_fr (fun b j p => e b j (by unfold PZ; simp only [p, true_or, or_true])) h4, RC_fr (fun b j p => e b j (by unfold PZ; simp only [p, true_or, or_true])) h5, RT_fr (fun b j p => e b j (by unfold PZ; simp only [p, true_or, or_true])) h6, RD_fr (fun b j p => e b j (by unfold PZ; simp only [p, true_or, or_true])) h7, RK_fr (fun b j p => e b j (by unfold PZ; simp only [p, true_or, or_true])) h8, RB_fr (fun b j p => e b j (by unfold PZ; simp only [p, true_or, or_true])) h9, RQ_fr (fun b j p => e b j (by unfold PZ; simp only [p, true_or, or_true])) h10, RX_fr (fun b j p => e b j (by unfold PZ; simp only [p, true_or, or_true])) h11, RM_fr (fun b j p => e b j (by unfold PZ; simp only [p, true_or, or_true])) h12, RP_fr (fun b j p => e b j (by unfold PZ; simp only [p, true_or, or_true])) h13, RS_fr (fun b j p => e b j (by unfold PZ; simp only [p, true_or, or_true])) h14⟩
theorem Rel_ref {D : Nat → Int → Int} {n : Nat} (h : Rel D n) {f : Int} (f0 : 0 ≤ f) (f5 : f ≤ 5) : Rel (tzRm (tzRx D f) f) n := by
  refine Rel_fr ?_ ?_ h
  · unfold tzRm tzRx
    exact Sm_U (by unfold PZ PL PW PN PC PT PD PK PB PQ PX PM PP PS; omega) (Sm_U (by unfold PZ PL PW PN PC PT PD PK PB PQ PX PM PP PS; omega) (Sm_U (by unfold PZ PL PW PN PC PT PD PK PB PQ PX PM PP PS; omega) (Sm_U (by unfold PZ PL PW PN PC PT PD PK PB PQ PX PM PP PS; omega) (Sm_r _ _))))
  · obtain ⟨h1, h2, h3, h4, h5, h6⟩ := h.1
    unfold tzRm tzRx tzU
    refine ⟨?_, ?_, ?_, ?_, ?_, ?_⟩
    · simp
    · intro j a b
      have := h2 j a b
      have hf := h2 f f0 f5
      by_cases c : j = f
      · simp [c, hf]
      · simp [c, this]
    · simpa using h3
    · simpa using h4
    · simpa using h5
    · simpa using h6
theorem Rel_ask {D : Nat → Int → Int} {n : Nat} (h : Rel D n) (x : Int) : Rel (tzU (tzU D 53 2 x) 81 2 x) n := by
  refine Rel_fr ?_ ?_ h
  · exact Sm_U (by unfold PZ PL PW PN PC PT PD PK PB PQ PX PM PP PS; omega) (Sm_U (by unfold PZ PL PW PN PC PT PD PK PB PQ PX PM PP PS; omega) (Sm_r _ _))
  · obtain ⟨h1, h2, h3, h4, h5, h6⟩ := h.1
    unfold tzU
    refine ⟨?_, ?_, ?_, ?_, ?_, ?_⟩
    · simpa using h1
    · intro j a b
      have := h2 j a b
      simpa using this
    · simp
    · simpa using h4
    · simpa using h5
    · simpa using h6
