/-! ===== look: orders, pure ===== -/
def rmk (S y : Int) : Int := jand S (jxor (jshl 1 y) (-1))
set_option maxRecDepth 100000 in
theorem rm_dec : ∀ S : Fin 256, ∀ y : Fin 8, 0 ≤ rmk ((S.val : Nat) : Int) ((y.val : Nat) : Int) ∧ rmk ((S.val : Nat) : Int) ((y.val : Nat) : Int) < 256 := by decide +kernel
set_option maxRecDepth 100000 in
theorem rm_dec2 : ∀ S : Fin 256, ∀ y k : Fin 8, decide (hbq (rmk ((S.val : Nat) : Int) ((y.val : Nat) : Int)) ((k.val : Nat) : Int)) = (decide (hbq ((S.val : Nat) : Int) ((k.val : Nat) : Int)) && decide (((k.val : Nat) : Int) ≠ ((y.val : Nat) : Int))) := by decide +kernel
theorem rm_r {S y : Int} (S0 : 0 ≤ S) (S1 : S < 256) (y0 : 0 ≤ y) (y1 : y < 8) : 0 ≤ rmk S y ∧ rmk S y < 256 := by
  obtain ⟨p, rfl⟩ : ∃ p : Nat, S = p := ⟨S.toNat, by omega⟩
  obtain ⟨q, rfl⟩ : ∃ q : Nat, y = q := ⟨y.toNat, by omega⟩
  exact rm_dec ⟨p, by omega⟩ ⟨q, by omega⟩
theorem rm_h {S y k : Int} (S0 : 0 ≤ S) (S1 : S < 256) (y0 : 0 ≤ y) (y1 : y < 8) (k0 : 0 ≤ k) (k1 : k < 8) : hbq (rmk S y) k ↔ (hbq S k ∧ k ≠ y) := by
  obtain ⟨p, rfl⟩ : ∃ p : Nat, S = p := ⟨S.toNat, by omega⟩
  obtain ⟨q, rfl⟩ : ∃ q : Nat, y = q := ⟨y.toNat, by omega⟩
  obtain ⟨u, rfl⟩ : ∃ u : Nat, k = u := ⟨k.toNat, by omega⟩
  have h := rm_dec2 ⟨p, by omega⟩ ⟨q, by omega⟩ ⟨u, by omega⟩
  have h2 := congrArg (fun x => x = true) h
  simp only [decide_eq_true_eq, Bool.and_eq_true] at h2
  exact iff_of_eq h2
def bgq (S : Int) (h : Int → Int) (k : Int) : Int := if hbq S k then h k else 0
def smk (S : Int) (h : Int → Int) : Int := bgq S h 0 + bgq S h 1 + bgq S h 2 + bgq S h 3 + bgq S h 4 + bgq S h 5 + bgq S h 6 + bgq S h 7
theorem bg_rm {S y k : Int} (h : Int → Int) (S0 : 0 ≤ S) (S1 : S < 256) (y0 : 0 ≤ y) (y1 : y < 8) (k0 : 0 ≤ k) (k1 : k < 8) : bgq (rmk S y) h k = if k = y then 0 else bgq S h k := by
  have r := rm_h S0 S1 y0 y1 k0 k1
  by_cases e : k = y
  · rw [if_pos e]
    exact if_neg (fun q => (r.mp q).2 e)
  · rw [if_neg e]
    by_cases q : hbq S k
    · have a : bgq S h k = h k := if_pos q
      rw [a]
      exact if_pos (r.mpr ⟨q, e⟩)
    · have a : bgq S h k = 0 := if_neg q
      rw [a]
      exact if_neg (fun x => q (r.mp x).1)
theorem sm_rm {S y : Int} (h : Int → Int) (S0 : 0 ≤ S) (S1 : S < 256) (y0 : 0 ≤ y) (y1 : y < 8) (q : hbq S y) : smk S h = h y + smk (rmk S y) h := by
  have e : bgq S h y = h y := if_pos q
  have b : ∀ k : Int, 0 ≤ k → k < 8 → bgq (rmk S y) h k = if k = y then 0 else bgq S h k := fun k k0 k1 => bg_rm h S0 S1 y0 y1 k0 k1
  unfold smk
  rw [b 0 (by omega) (by omega), b 1 (by omega) (by omega), b 2 (by omega) (by omega), b 3 (by omega) (by omega), b 4 (by omega) (by omega), b 5 (by omega) (by omega), b 6 (by omega) (by omega), b 7 (by omega) (by omega), ← e]
  clear b e
  have c : y = 0 ∨ y = 1 ∨ y = 2 ∨ y = 3 ∨ y = 4 ∨ y = 5 ∨ y = 6 ∨ y = 7 := by omega
  rcases c with c | c | c | c | c | c | c | c <;> subst c <;> simp only [Int.reduceEq, ↓reduceIte] <;> omega
theorem bg_le {S k : Int} {h g : Int → Int} (l : hbq S k → h k ≤ g k) : bgq S h k ≤ bgq S g k := by
  unfold bgq
  by_cases q : hbq S k
  · rw [if_pos q, if_pos q]; exact l q
  · rw [if_neg q, if_neg q]; exact Int.le_refl _
theorem sm_le {S : Int} {h g : Int → Int} (l : ∀ k : Int, 0 ≤ k → k < 8 → hbq S k → h k ≤ g k) : smk S h ≤ smk S g := by
  have b : ∀ k : Int, 0 ≤ k → k < 8 → bgq S h k ≤ bgq S g k := fun k k0 k1 => bg_le (l k k0 k1)
  have a0 := b 0 (by omega) (by omega)
  have a1 := b 1 (by omega) (by omega)
  have a2 := b 2 (by omega) (by omega)
  have a3 := b 3 (by omega) (by omega)
  have a4 := b 4 (by omega) (by omega)
  have a5 := b 5 (by omega) (by omega)
  have a6 := b 6 (by omega) (by omega)
  have a7 := b 7 (by omega) (by omega)
  unfold smk
  omega
/-- the orders of a set, in the order of the class -/
def ordb (R : Int → List (List Int)) (S : Int) : Nat → Int → List (List Int)
  | 0, _ => []
  | j + 1, y => (if hbq S y then (R (rmk S y)).map (fun M => y :: M) else []) ++ ordb R S j (y + 1)
def ordq : Nat → Int → List (List Int)
  | 0, S => if S = 0 then [[]] else []
  | f + 1, S => if S = 0 then [[]] else ordb (ordq f) S 8 0
theorem ordb_m (R : Int → List (List Int)) (S : Int) {M : List Int} : ∀ (j : Nat) (y : Int), M ∈ ordb R S j y → ∃ z M', y ≤ z ∧ z < y + j ∧ hbq S z ∧ M' ∈ R (rmk S z) ∧ M = z :: M'
  | 0, y, h => absurd h (List.not_mem_nil)
  | j + 1, y, h => by
    rcases List.mem_append.mp h with h | h
    · by_cases q : hbq S y
      · rw [if_pos q] at h
        obtain ⟨M', a, b⟩ := List.mem_map.mp h
        exact ⟨y, M', by omega, by omega, q, a, b.symm⟩
      · rw [if_neg q] at h
        exact absurd h (List.not_mem_nil)
    · obtain ⟨z, M', a, b, c, e, g⟩ := ordb_m R S j (y + 1) h
      exact ⟨z, M', by omega, by omega, c, e, g⟩
def vlo (E : Int → Int → Int → Int) (wt : Int → Int) (T : Int) : Int → Int → Int → List Int → Int
  | _, _, s, [] => s
  | a, t, s, y :: M => vlo E wt T y (E a t y) (s + wt y * (E a t y - T)) M
def aso : (Int → Int) → Int → List Int → Int → Int
  | g, _, [] => g
  | g, p, y :: M => aso (fun k => if k = p then y else g k) (p + 1) M
def stoq (s : Int × (Int → Int)) (l : Int × (Int → Int)) : Int × (Int → Int) := if l.1 < s.1 then l else s
def flo (E : Int → Int → Int → Int) (wt : Int → Int) (T a t s : Int) (g : Int → Int) (p : Int) : List (List Int) → Int × (Int → Int) → Int × (Int → Int)
  | [], x => x
  | M :: r, x => flo E wt T a t s g p r (stoq x (vlo E wt T a t s M, aso g p M))
theorem flo_app (E : Int → Int → Int → Int) (wt : Int → Int) (T a t s : Int) (g : Int → Int) (p : Int) : ∀ (x y : List (List Int)) (u : Int × (Int → Int)), flo E wt T a t s g p (x ++ y) u = flo E wt T a t s g p y (flo E wt T a t s g p x u)
  | [], _, _ => rfl
  | M :: x, y, u => flo_app E wt T a t s g p x y _
theorem flo_map (E : Int → Int → Int → Int) (wt : Int → Int) (T a t s : Int) (g : Int → Int) (p y : Int) : ∀ (x : List (List Int)) (u : Int × (Int → Int)), flo E wt T a t s g p (x.map (fun M => y :: M)) u = flo E wt T y (E a t y) (s + wt y * (E a t y - T)) (fun k => if k = p then y else g k) (p + 1) x u
  | [], _ => rfl
  | M :: x, u => flo_map E wt T a t s g p y x _
theorem flo_no (E : Int → Int → Int → Int) (wt : Int → Int) (T a t s : Int) (g : Int → Int) (p : Int) : ∀ (x : List (List Int)) (u : Int × (Int → Int)), (∀ M, M ∈ x → u.1 ≤ vlo E wt T a t s M) → flo E wt T a t s g p x u = u
  | [], _, _ => rfl
  | M :: x, u, h => by
    have v := h M (List.mem_cons_self)
    have e : stoq u (vlo E wt T a t s M, aso g p M) = u := if_neg (show ¬ vlo E wt T a t s M < u.1 by omega)
    show flo E wt T a t s g p x (stoq u (vlo E wt T a t s M, aso g p M)) = u
    rw [e]
    exact flo_no E wt T a t s g p x u (fun M' m => h M' (List.mem_cons_of_mem _ m))
/-- from here no order is better than straight -/
theorem vlo_st (E : Int → Int → Int → Int) (wt : Int → Int) (T : Int) (hw : ∀ k : Int, 0 ≤ k → k < 8 → 0 ≤ wt k) (P : Nat → Int → Int → Int → Prop)
    (tri : ∀ (f : Nat) (S a t y z : Int), P (f + 1) S a t → 0 ≤ y → y < 8 → 0 ≤ z → z < 8 → hbq S y → hbq S z → E a t z ≤ E y (E a t y) z)
    (stp : ∀ (f : Nat) (S a t y : Int), P (f + 1) S a t → 0 ≤ y → y < 8 → hbq S y → P f (rmk S y) y (E a t y)) :
    ∀ (f : Nat) (S a t s : Int) (M : List Int), 0 ≤ S → S < 256 → P f S a t → M ∈ ordq f S → s + smk S (fun k => wt k * (E a t k - T)) ≤ vlo E wt T a t s M := by
  have nil : ∀ (S a t s : Int) (M : List Int), S = 0 → M ∈ [([] : List Int)] → s + smk S (fun k => wt k * (E a t k - T)) ≤ vlo E wt T a t s M := by
    intro S a t s M z m
    have e : M = [] := List.mem_singleton.mp m
    have b : ∀ k : Int, 0 ≤ k → k < 8 → bgq S (fun k => wt k * (E a t k - T)) k = 0 := fun k k0 k1 => by
      rw [z]; exact if_neg (hb_0 k0 k1)
    have a0 := b 0 (by omega) (by omega)
    have a1 := b 1 (by omega) (by omega)
    have a2 := b 2 (by omega) (by omega)
    have a3 := b 3 (by omega) (by omega)
    have a4 := b 4 (by omega) (by omega)
    have a5 := b 5 (by omega) (by omega)
    have a6 := b 6 (by omega) (by omega)
    have a7 := b 7 (by omega) (by omega)
    rw [e]
    show s + smk S (fun k => wt k * (E a t k - T)) ≤ s
    unfold smk
    omega
  intro f
  induction f with
  | zero =>
    intro S a t s M S0 S1 _ m
    by_cases z : S = 0
    · have e : ordq 0 S = [[]] := if_pos z
      rw [e] at m
      exact nil S a t s M z m
    · have e : ordq 0 S = [] := if_neg z
      rw [e] at m
      exact absurd m (List.not_mem_nil)
  | succ f ih =>
    intro S a t s M S0 S1 p m
    by_cases z : S = 0
    · have e : ordq (f + 1) S = [[]] := if_pos z
      rw [e] at m
      exact nil S a t s M z m
    · have e : ordq (f + 1) S = ordb (ordq f) S 8 0 := if_neg z
      rw [e] at m
      obtain ⟨y, M', y0, y1, hy, m', eM⟩ := ordb_m (ordq f) S 8 0 m
      have y2 : y < 8 := by omega
      have r := rm_r S0 S1 y0 y2
      have h1 := ih (rmk S y) y (E a t y) (s + wt y * (E a t y - T)) M' r.1 r.2 (stp f S a t y p y0 y2 hy) m'
      have h2 : smk (rmk S y) (fun k => wt k * (E a t k - T)) ≤ smk (rmk S y) (fun k => wt k * (E y (E a t y) k - T)) := sm_le (fun k k0 k1 q => by
        have q1 := (rm_h S0 S1 y0 y2 k0 k1).mp q
        have t1 := tri f S a t y k p y0 y2 k0 k1 hy q1.1
        exact Int.mul_le_mul_of_nonneg_left (by omega) (hw k k0 k1))
      have h3 := sm_rm (fun k => wt k * (E a t k - T)) S0 S1 y0 y2 hy
      rw [eM]
      show s + smk S (fun k => wt k * (E a t k - T)) ≤ vlo E wt T y (E a t y) (s + wt y * (E a t y - T)) M'
      have h4 : smk S (fun k => wt k * (E a t k - T)) = wt y * (E a t y - T) + smk (rmk S y) (fun k => wt k * (E a t k - T)) := h3
      omega
/-! walks one after another, and back -/
theorem Wk_cat {D : Nat → Int → Int} {bt a s y v : Int} {k : Nat} (h : Wk D bt a s k y v) : ∀ (j : Nat) (z w : Int), Wk D bt y v j z w → Wk D bt a s (k + j) z w
  | 0, z, w, g => by
    obtain ⟨e1, e2⟩ := g
    rw [e1, e2]; exact h
  | j + 1, z, w, g => by
    rcases g with g | ⟨x, u, x0, x1, g, m, e⟩
    · exact Or.inl (Wk_cat h j z w g)
    · exact Or.inr ⟨x, u, x0, x1, Wk_cat h j x u g, m, e⟩
theorem Wk_rev {D : Nat → Int → Int} {bt a s : Int} (sy : ∀ x y : Int, 0 ≤ x → x < 8 → 0 ≤ y → y < 8 → D 88 (8 * x + y) = D 88 (8 * y + x)) : ∀ (k : Nat) (y v : Int), 0 ≤ y → y < 8 → Wk D bt a s k y v → ∀ t : Int, ∃ (j : Nat) (w : Int), Wk D bt y t j a w
  | 0, y, v, _, _, h, t => ⟨0, t, h.1.symm, rfl⟩
  | k + 1, y, v, y0, y1, h, t => by
    rcases h with h | ⟨x, u, x0, x1, h, m, e⟩
    · exact Wk_rev sy k y v y0 y1 h t
    · have g : Wk D bt y t 1 x (nxq D bt (8 * y + x) t) := Wk_go y0 y1 (k := 0) ⟨rfl, rfl⟩ (by rw [sy y x y0 y1 x0 x1]; exact m)
      obtain ⟨j, w, q⟩ := Wk_rev sy k x u x0 x1 h (nxq D bt (8 * y + x) t)
      exact ⟨1 + j, w, Wk_cat g j a w q⟩
/-- by way of y it is no earlier -/
theorem IsL_tri {D : Nat → Int → Int} {bt a s y z v w x : Int} (h : IsL D bt a s y v) (hv : v < 2147483647) (g : IsL D bt y v z w) (i : IsL D bt a s z x) (hx : x < 2147483647) : x ≤ w := by
  rcases h with ⟨h1, h2⟩ | ⟨h1, h2, h3⟩
  · omega
  · rcases g with ⟨g1, g2⟩ | ⟨g1, g2, g3⟩
    · omega
    · rcases i with ⟨i1, i2⟩ | ⟨i1, i2, i3⟩
      · omega
      · exact i3 _ w (Wk_cat h2 8 z w g2)
/-- what one yard reaches, each of them reaches -/
theorem IsL_all {D : Nat → Int → Int} {bt a s y z v w x t : Int} (sy : ∀ x y : Int, 0 ≤ x → x < 8 → 0 ≤ y → y < 8 → D 88 (8 * x + y) = D 88 (8 * y + x)) (wy : WY D) (y0 : 0 ≤ y) (y1 : y < 8) (z0 : 0 ≤ z) (z1 : z < 8) (h : IsL D bt a s y v) (hv : v < 2147483647) (i : IsL D bt a s z x) (hx : x < 2147483647) (g : IsL D bt y t z w) (hr : ∀ (k : Nat) (p u : Int), Wk D bt a s k p u → ∀ t' : Int, ∃ u' : Int, Wk D bt a t' k p u') : w < 2147483647 := by
  rcases h with ⟨h1, h2⟩ | ⟨h1, h2, h3⟩
  · omega
  · rcases i with ⟨i1, i2⟩ | ⟨i1, i2, i3⟩
    · omega
    · rcases g with ⟨g1, g2⟩ | ⟨g1, g2, g3⟩
      · obtain ⟨j, u, q⟩ := Wk_rev sy 8 y v y0 y1 h2 t
        obtain ⟨u', q'⟩ := hr 8 z x i2 u
        exact absurd (Wk_cat q 8 z u' q') (g2 _ u')
      · exact g1
theorem Wk_any {D : Nat → Int → Int} {bt a s : Int} : ∀ (k : Nat) (p u : Int), Wk D bt a s k p u → ∀ t' : Int, ∃ u' : Int, Wk D bt a t' k p u'
  | 0, p, u, h, t' => ⟨t', h.1, rfl⟩
  | k + 1, p, u, h, t' => by
    rcases h with h | ⟨x, v, x0, x1, h, m, e⟩
    · obtain ⟨u', q⟩ := Wk_any k p u h t'
      exact ⟨u', Or.inl q⟩
    · obtain ⟨v', q⟩ := Wk_any k x v h t'
      exact ⟨nxq D bt (8 * x + p) v', Or.inr ⟨x, v', x0, x1, q, m, rfl⟩⟩
