/-! ===== look: orders of indices and orders of yards ===== -/
set_option maxRecDepth 100000 in
theorem bz_dec : ∀ S : Fin 256, (∀ k : Fin 8, ¬ hbq ((S.val : Nat) : Int) ((k.val : Nat) : Int)) → ((S.val : Nat) : Int) = 0 := by decide +kernel
theorem bz_all {S : Int} (S0 : 0 ≤ S) (S1 : S < 256) (h : ∀ k : Int, 0 ≤ k → k < 8 → ¬ hbq S k) : S = 0 := by
  obtain ⟨p, rfl⟩ : ∃ p : Nat, S = p := ⟨S.toNat, by omega⟩
  exact bz_dec ⟨p, by omega⟩ (fun k => h ((k.val : Nat) : Int) (by omega) (by have := k.isLt; omega))
def Ogq (N : Int) (g : Int → Int) (I S : Int) : Prop := (0 ≤ I ∧ I < 256) ∧ (0 ≤ S ∧ S < 256) ∧ (∀ i : Int, 0 ≤ i → i < 8 → hbq I i → i < N) ∧ (∀ i : Int, 0 ≤ i → i < N → (hbq I i ↔ hbq S (g i))) ∧ (∀ y : Int, 0 ≤ y → y < 8 → hbq S y → ∃ i : Int, 0 ≤ i ∧ i < N ∧ g i = y)
def Gmn (N : Int) (g : Int → Int) : Prop := (0 ≤ N ∧ N ≤ 8) ∧ (∀ i : Int, 0 ≤ i → i < N → 0 ≤ g i ∧ g i < 8) ∧ ∀ i j : Int, 0 ≤ i → i < j → j < N → g i < g j
theorem G_inj {N : Int} {g : Int → Int} (G : Gmn N g) {i j : Int} (i0 : 0 ≤ i) (i1 : i < N) (j0 : 0 ≤ j) (j1 : j < N) : g i = g j ↔ i = j := by
  refine ⟨fun e => ?_, fun e => by rw [e]⟩
  by_cases c : i < j
  · have := G.2.2 i j i0 c j1
    omega
  · by_cases c2 : j < i
    · have := G.2.2 j i j0 c2 i1
      omega
    · omega
theorem ordb_e (R : Int → List (List Int)) (S : Int) : ∀ (j : Nat) (y : Int), (∀ k : Int, y ≤ k → k < y + j → ¬ hbq S k) → ordb R S j y = []
  | 0, _, _ => rfl
  | j + 1, y, h => by
    show (if hbq S y then (R (rmk S y)).map (fun M => y :: M) else []) ++ ordb R S j (y + 1) = []
    rw [if_neg (h y (by omega) (by omega)), ordb_e R S j (y + 1) (fun k a b => h k (by omega) (by omega))]
    rfl
theorem og_b {N : Int} {g : Int → Int} (G : Gmn N g) {I S : Int} (h : Ogq N g I S) (R R' : Int → List (List Int)) (hR : ∀ i : Int, 0 ≤ i → i < N → hbq I i → R (rmk S (g i)) = (R' (rmk I i)).map (List.map g)) : ∀ (j : Nat) (y : Int) (j' : Nat) (i : Int), 0 ≤ y → y + j = 8 → 0 ≤ i → i + j' = 8 → i ≤ N → (∀ k : Int, 0 ≤ k → k < i → g k < y) → (∀ k : Int, i ≤ k → k < N → y ≤ g k) → ordb R S j y = (ordb R' I j' i).map (List.map g)
  | 0, y, j', i, y0, yj, i0, ij, iN, lo, hi => by
    have e : i = N := by
      by_cases c : i < N
      · have a := hi i (Int.le_refl _) c
        have b := (G.2.1 i i0 c).2
        omega
      · omega
    have e2 : ordb R' I j' i = [] := ordb_e R' I j' i (fun k a b q => by
      have := h.2.2.1 k (by omega) (by omega) q
      omega)
    rw [e2]
    rfl
  | j + 1, y, j', i, y0, yj, i0, ij, iN, lo, hi => by
    by_cases c : i < N ∧ g i = y
    · cases j' with
      | zero => have := G.1.2; omega
      | succ j' =>
        have r := og_b G h R R' hR j (y + 1) j' (i + 1) (by omega) (by omega) (by omega) (by omega) (by omega) (fun k a b => by
          by_cases q : k = i
          · rw [q]; omega
          · have := lo k a (by omega)
            omega) (fun k a b => by
          have := G.2.2 i k i0 (by omega) b
          omega)
        show (if hbq S y then (R (rmk S y)).map (fun M => y :: M) else []) ++ ordb R S j (y + 1) = ((if hbq I i then (R' (rmk I i)).map (fun M => i :: M) else []) ++ ordb R' I j' (i + 1)).map (List.map g)
        rw [List.map_append, r]
        have b := h.2.2.2.1 i i0 c.1
        rw [c.2] at b
        by_cases q : hbq I i
        · have hr := hR i i0 c.1 q
          rw [c.2] at hr
          rw [if_pos q, if_pos (b.mp q), hr, List.map_map, List.map_map]
          have e : ((fun M => y :: M) ∘ List.map g) = (List.map g ∘ fun M => i :: M) := by
            funext M
            show y :: List.map g M = g i :: List.map g M
            rw [c.2]
          rw [e]
        · rw [if_neg q, if_neg (fun t => q (b.mpr t))]
          rfl
    · have lt : ∀ k : Int, i ≤ k → k < N → y + 1 ≤ g k := fun k a b => by
        by_cases q : k = i
        · have := hi k a b
          rw [q] at this b ⊢
          have : ¬ g i = y := fun t => c ⟨b, t⟩
          omega
        · have u := hi i (Int.le_refl _) (by omega)
          have v := G.2.2 i k i0 (by omega) b
          omega
      have no : ¬ hbq S y := fun t => by
        obtain ⟨k, k0, k1, e⟩ := h.2.2.2.2 y y0 (by omega) t
        by_cases q : k < i
        · have := lo k k0 q
          omega
        · have := lt k (by omega) k1
          omega
      have r := og_b G h R R' hR j (y + 1) j' i (by omega) (by omega) i0 ij iN (fun k a b => by have := lo k a b; omega) lt
      show (if hbq S y then (R (rmk S y)).map (fun M => y :: M) else []) ++ ordb R S j (y + 1) = _
      rw [if_neg no, r]
      rfl
theorem og_z {N : Int} {g : Int → Int} (G : Gmn N g) {I S : Int} (h : Ogq N g I S) : S = 0 ↔ I = 0 := by
  obtain ⟨⟨I0, I1⟩, ⟨S0, S1⟩, h1, h2, h3⟩ := h
  refine ⟨fun z => bz_all I0 I1 (fun k k0 k1 q => ?_), fun z => bz_all S0 S1 (fun k k0 k1 q => ?_)⟩
  · have kN := h1 k k0 k1 q
    have b := (h2 k k0 kN).mp q
    have r := G.2.1 k k0 kN
    rw [z] at b
    exact hb_0 r.1 r.2 b
  · obtain ⟨i, i0, i1, e⟩ := h3 k k0 k1 q
    rw [← e] at q
    have b := (h2 i i0 i1).mpr q
    rw [z] at b
    have := G.1.2
    exact hb_0 i0 (by omega) b
theorem og_r {N : Int} {g : Int → Int} (G : Gmn N g) {I S i : Int} (h : Ogq N g I S) (i0 : 0 ≤ i) (i1 : i < N) : Ogq N g (rmk I i) (rmk S (g i)) := by
  obtain ⟨⟨I0, I1⟩, ⟨S0, S1⟩, h1, h2, h3⟩ := h
  have N8 := G.1.2
  have gi := G.2.1 i i0 i1
  refine ⟨rm_r I0 I1 i0 (by omega), rm_r S0 S1 gi.1 gi.2, fun k k0 k1 q => ?_, fun k k0 k1 => ?_, fun y y0 y1 q => ?_⟩
  · exact h1 k k0 k1 ((rm_h I0 I1 i0 (by omega) k0 k1).mp q).1
  · have gk := G.2.1 k k0 k1
    rw [rm_h I0 I1 i0 (by omega) k0 (by omega), rm_h S0 S1 gi.1 gi.2 gk.1 gk.2, h2 k k0 k1]
    have e := G_inj G k0 k1 i0 i1
    exact ⟨fun t => ⟨t.1, fun u => t.2 (e.mp u)⟩, fun t => ⟨t.1, fun u => t.2 (e.mpr u)⟩⟩
  · exact h3 y y0 y1 ((rm_h S0 S1 gi.1 gi.2 y0 y1).mp q).1
theorem og_q {N : Int} {g : Int → Int} (G : Gmn N g) : ∀ (f : Nat) (I S : Int), Ogq N g I S → ordq f S = (ordq f I).map (List.map g)
  | 0, I, S, h => by
    have z := og_z G h
    show (if S = 0 then [[]] else []) = (if I = 0 then [[]] else []).map (List.map g)
    by_cases c : S = 0
    · rw [if_pos c, if_pos (z.mp c)]; rfl
    · rw [if_neg c, if_neg (fun t => c (z.mpr t))]; rfl
  | f + 1, I, S, h => by
    have z := og_z G h
    show (if S = 0 then [[]] else ordb (ordq f) S 8 0) = (if I = 0 then [[]] else ordb (ordq f) I 8 0).map (List.map g)
    by_cases c : S = 0
    · rw [if_pos c, if_pos (z.mp c)]; rfl
    · rw [if_neg c, if_neg (fun t => c (z.mpr t))]
      exact og_b G h (ordq f) (ordq f) (fun i i0 i1 _ => og_q G f _ _ (og_r G h i0 i1)) 8 0 8 0 (by omega) (by omega) (by omega) (by omega) G.1.1 (fun k a b => by omega) (fun k a b => (G.2.1 k a b).1)
set_option maxRecDepth 100000 in
theorem ofd_dec : ∀ N : Fin 7, ordq 6 (2 ^ N.val - 1) = ordq N.val (2 ^ N.val - 1) := by decide +kernel
set_option maxRecDepth 100000 in
theorem ob_dec : ∀ N : Fin 7, (0 ≤ ((2 : Int) ^ N.val - 1) ∧ ((2 : Int) ^ N.val - 1) < 256) ∧ ∀ k : Fin 8, hbq ((2 : Int) ^ N.val - 1) ((k.val : Nat) : Int) ↔ ((k.val : Nat) : Int) < ((N.val : Nat) : Int) := by decide +kernel
set_option maxRecDepth 100000 in
theorem oa_dec : ∀ N : Fin 7, (ordq N.val (2 ^ N.val - 1)).all (fun l => l.all (fun x => decide (0 ≤ x ∧ x < ((N.val : Nat) : Int)))) = true := by decide +kernel
/-- the orders of a set are the orders of its places' indices -/
theorem og_all {N : Nat} (hN : N < 7) {g : Int → Int} {S : Int} (S0 : 0 ≤ S) (S1 : S < 256) (G : Gmn (N : Int) g) (h1 : ∀ i : Int, 0 ≤ i → i < N → hbq S (g i)) (h2 : ∀ y : Int, 0 ≤ y → y < 8 → hbq S y → ∃ i : Int, 0 ≤ i ∧ i < N ∧ g i = y) : ordq 6 S = (ordq N (2 ^ N - 1)).map (List.map g) := by
  have o := ob_dec ⟨N, hN⟩
  have e := ofd_dec ⟨N, hN⟩
  have e' : ordq 6 (2 ^ N - 1) = ordq N (2 ^ N - 1) := e
  have bt : ∀ k : Int, 0 ≤ k → k < 8 → (hbq ((2 : Int) ^ N - 1) k ↔ k < (N : Int)) := fun k k0 k1 => by
    obtain ⟨u, rfl⟩ : ∃ u : Nat, k = u := ⟨k.toNat, by omega⟩
    exact o.2 ⟨u, by omega⟩
  rw [← e']
  exact og_q G 6 _ _ ⟨o.1, ⟨S0, S1⟩, fun i i0 i1 q => (bt i i0 i1).mp q, fun i i0 i1 => ⟨fun _ => h1 i i0 i1, fun _ => (bt i i0 (by omega)).mpr i1⟩, h2⟩
theorem oa_all {N : Nat} (hN : N < 7) {l : List Int} (m : l ∈ ordq N (2 ^ N - 1)) {x : Int} (hx : x ∈ l) : 0 ≤ x ∧ x < (N : Int) := by
  have h := oa_dec ⟨N, hN⟩
  have h1 := List.all_eq_true.mp h l m
  have h2 := List.all_eq_true.mp h1 x hx
  exact of_decide_eq_true h2
/-! both sets -/
set_option maxRecDepth 100000 in
theorem ja_dec : ∀ A B : Fin 256, jand ((A.val : Nat) : Int) ((B.val : Nat) : Int) = ((A.val &&& B.val : Nat) : Int) := by decide +kernel
set_option maxRecDepth 100000 in
theorem jt_dec : ∀ A : Fin 256, ∀ k : Fin 8, decide (hbq ((A.val : Nat) : Int) ((k.val : Nat) : Int)) = Nat.testBit A.val k.val := by decide +kernel
theorem jt_all {A k : Nat} (hA : A < 256) (hk : k < 8) : hbq (A : Int) (k : Int) ↔ Nat.testBit A k = true := by
  have h := jt_dec ⟨A, hA⟩ ⟨k, hk⟩
  have h' : decide (hbq (A : Int) (k : Int)) = Nat.testBit A k := h
  rw [← h']
  exact decide_eq_true_iff.symm
theorem ja_r {A B : Int} (A0 : 0 ≤ A) (A1 : A < 256) (B0 : 0 ≤ B) (B1 : B < 256) : (0 ≤ jand A B ∧ jand A B < 256) ∧ ∀ k : Int, 0 ≤ k → k < 8 → (hbq (jand A B) k ↔ hbq A k ∧ hbq B k) := by
  obtain ⟨a, rfl⟩ : ∃ p : Nat, A = p := ⟨A.toNat, by omega⟩
  obtain ⟨b, rfl⟩ : ∃ p : Nat, B = p := ⟨B.toNat, by omega⟩
  have ha : a < 256 := by omega
  have hb : b < 256 := by omega
  have e : jand (a : Int) (b : Int) = ((a &&& b : Nat) : Int) := ja_dec ⟨a, ha⟩ ⟨b, hb⟩
  have l : a &&& b ≤ a := Nat.and_le_left
  have lt : a &&& b < 256 := by omega
  rw [e]
  refine ⟨⟨by omega, by omega⟩, fun k k0 k1 => ?_⟩
  obtain ⟨u, rfl⟩ : ∃ u : Nat, k = u := ⟨k.toNat, by omega⟩
  have hu : u < 8 := by omega
  rw [jt_all lt hu, jt_all ha hu, jt_all hb hu, Nat.testBit_and, Bool.and_eq_true]
set_option maxRecDepth 100000 in
theorem bcu_dec : ∀ S : Fin 256, bcq ((S.val : Nat) : Int) = 8 - ((un ((S.val : Nat) : Int) : Nat) : Int) := by decide +kernel
theorem bcu {S : Int} (S0 : 0 ≤ S) (S1 : S < 256) : bcq S = 8 - ((un S : Nat) : Int) := by
  obtain ⟨p, rfl⟩ : ∃ p : Nat, S = p := ⟨S.toNat, by omega⟩
  exact bcu_dec ⟨p, by omega⟩
def scq (w : Int → Int) (Z : Int) : Nat → Int
  | 0 => 0
  | k + 1 => scq w Z k + (if 0 < w (k : Int) ∧ hbq Z (k : Int) then 1 else 0)
theorem sc_un {w : Int → Int} {Z S : Int} (h : ∀ k : Int, 0 ≤ k → k < 8 → (hbq S k ↔ (0 < w k ∧ hbq Z k))) : scq w Z 8 = 8 - ((un S : Nat) : Int) := by
  have key : ∀ k : Int, 0 ≤ k → k < 8 → (if 0 < w k ∧ hbq Z k then (1 : Int) else 0) = 1 - ((if jand (jshr S k) 1 = 1 then (0 : Nat) else 1 : Nat) : Int) := fun k k0 k1 => by
    by_cases q : hbq S k
    · rw [if_pos ((h k k0 k1).mp q), if_pos q]; rfl
    · rw [if_neg (fun t => q ((h k k0 k1).mpr t)), if_neg q]; rfl
  have a0 := key 0 (by omega) (by omega)
  have a1 := key 1 (by omega) (by omega)
  have a2 := key 2 (by omega) (by omega)
  have a3 := key 3 (by omega) (by omega)
  have a4 := key 4 (by omega) (by omega)
  have a5 := key 5 (by omega) (by omega)
  have a6 := key 6 (by omega) (by omega)
  have a7 := key 7 (by omega) (by omega)
  have e : scq w Z 8 = 0 + (if 0 < w 0 ∧ hbq Z 0 then 1 else 0) + (if 0 < w 1 ∧ hbq Z 1 then 1 else 0) + (if 0 < w 2 ∧ hbq Z 2 then 1 else 0) + (if 0 < w 3 ∧ hbq Z 3 then 1 else 0) + (if 0 < w 4 ∧ hbq Z 4 then 1 else 0) + (if 0 < w 5 ∧ hbq Z 5 then 1 else 0) + (if 0 < w 6 ∧ hbq Z 6 then 1 else 0) + (if 0 < w 7 ∧ hbq Z 7 then 1 else 0) := rfl
  rw [e, a0, a1, a2, a3, a4, a5, a6, a7]
  unfold un
  clear key a0 a1 a2 a3 a4 a5 a6 a7 e h
  generalize (if jand (jshr S 0) 1 = 1 then (0 : Nat) else 1) = x0
  generalize (if jand (jshr S 1) 1 = 1 then (0 : Nat) else 1) = x1
  generalize (if jand (jshr S 2) 1 = 1 then (0 : Nat) else 1) = x2
  generalize (if jand (jshr S 3) 1 = 1 then (0 : Nat) else 1) = x3
  generalize (if jand (jshr S 4) 1 = 1 then (0 : Nat) else 1) = x4
  generalize (if jand (jshr S 5) 1 = 1 then (0 : Nat) else 1) = x5
  generalize (if jand (jshr S 6) 1 = 1 then (0 : Nat) else 1) = x6
  generalize (if jand (jshr S 7) 1 = 1 then (0 : Nat) else 1) = x7
  omega
