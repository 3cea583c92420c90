/-! ===== pool: sums over eight and over sixty-four, and pigeons ===== -/
def zs8 (f : Int → Int) : Int := f 0 + f 1 + f 2 + f 3 + f 4 + f 5 + f 6 + f 7
theorem zs_c {f g : Int → Int} (h : ∀ i : Int, 0 ≤ i → i < 8 → f i = g i) : zs8 f = zs8 g := by
  unfold zs8
  rw [h 0 (by omega) (by omega), h 1 (by omega) (by omega), h 2 (by omega) (by omega), h 3 (by omega) (by omega), h 4 (by omega) (by omega), h 5 (by omega) (by omega), h 6 (by omega) (by omega), h 7 (by omega) (by omega)]
theorem zs_add (f g : Int → Int) : zs8 (fun i => f i + g i) = zs8 f + zs8 g := by
  simp only [zs8]; omega
theorem zs_mul (u : Int) (f : Int → Int) : zs8 (fun i => u * f i) = u * zs8 f := by
  simp only [zs8, Int.mul_add]
theorem zs_le {f g : Int → Int} (h : ∀ i : Int, 0 ≤ i → i < 8 → f i ≤ g i) : zs8 f ≤ zs8 g := by
  have a0 := h 0 (by omega) (by omega)
  have a1 := h 1 (by omega) (by omega)
  have a2 := h 2 (by omega) (by omega)
  have a3 := h 3 (by omega) (by omega)
  have a4 := h 4 (by omega) (by omega)
  have a5 := h 5 (by omega) (by omega)
  have a6 := h 6 (by omega) (by omega)
  have a7 := h 7 (by omega) (by omega)
  unfold zs8
  omega
theorem zs_n {f : Int → Int} (h : ∀ i : Int, 0 ≤ i → i < 8 → 0 ≤ f i) : 0 ≤ zs8 f := by
  have q := zs_le (f := fun _ => 0) (g := f) h
  have e : zs8 (fun _ => 0) = 0 := rfl
  omega
theorem zs_one {f : Int → Int} (h : ∀ i : Int, 0 ≤ i → i < 8 → 0 ≤ f i) {j : Int} (j0 : 0 ≤ j) (j1 : j < 8) : f j ≤ zs8 f := by
  have a0 := h 0 (by omega) (by omega)
  have a1 := h 1 (by omega) (by omega)
  have a2 := h 2 (by omega) (by omega)
  have a3 := h 3 (by omega) (by omega)
  have a4 := h 4 (by omega) (by omega)
  have a5 := h 5 (by omega) (by omega)
  have a6 := h 6 (by omega) (by omega)
  have a7 := h 7 (by omega) (by omega)
  have c : j = 0 ∨ j = 1 ∨ j = 2 ∨ j = 3 ∨ j = 4 ∨ j = 5 ∨ j = 6 ∨ j = 7 := by omega
  unfold zs8
  rcases c with c | c | c | c | c | c | c | c <;> subst c <;> omega
def upq (f : Int → Int) (j v : Int) : Int → Int := fun i => if i = j then v else f i
theorem upq_s (f : Int → Int) (j v : Int) : upq f j v j = v := if_pos rfl
theorem upq_k (f : Int → Int) {i j : Int} (v : Int) (h : i ≠ j) : upq f j v i = f i := if_neg h
theorem tzU_q (D : Nat → Int → Int) (a : Nat) (j x : Int) : tzU D a j x a = upq (D a) j x := by
  funext k
  by_cases e : k = j
  · rw [e, tzU_s, upq_s]
  · rw [tzU_k _ _ _ _ e, upq_k _ _ e]
theorem zs_upd (f : Int → Int) {j : Int} (j0 : 0 ≤ j) (j1 : j < 8) (v : Int) : zs8 (upq f j v) = zs8 f - f j + v := by
  have c : j = 0 ∨ j = 1 ∨ j = 2 ∨ j = 3 ∨ j = 4 ∨ j = 5 ∨ j = 6 ∨ j = 7 := by omega
  rcases c with c | c | c | c | c | c | c | c <;> subst c <;> simp only [zs8, upq, Int.reduceEq, ↓reduceIte] <;> omega
def rwq (x : Int → Int) (a : Int) : Int := zs8 (fun b => x (8 * a + b))
def clq (x : Int → Int) (b : Int) : Int := zs8 (fun a => x (8 * a + b))
def ttq (x : Int → Int) : Int := zs8 (fun a => rwq x a)
theorem zs_add8 (f0 f1 f2 f3 f4 f5 f6 f7 : Int → Int) : zs8 (fun a => f0 a + f1 a + f2 a + f3 a + f4 a + f5 a + f6 a + f7 a) = zs8 f0 + zs8 f1 + zs8 f2 + zs8 f3 + zs8 f4 + zs8 f5 + zs8 f6 + zs8 f7 := by
  rw [zs_add (fun a => f0 a + f1 a + f2 a + f3 a + f4 a + f5 a + f6 a) f7, zs_add (fun a => f0 a + f1 a + f2 a + f3 a + f4 a + f5 a) f6, zs_add (fun a => f0 a + f1 a + f2 a + f3 a + f4 a) f5, zs_add (fun a => f0 a + f1 a + f2 a + f3 a) f4, zs_add (fun a => f0 a + f1 a + f2 a) f3, zs_add (fun a => f0 a + f1 a) f2, zs_add f0 f1]
theorem tt_cl (x : Int → Int) : zs8 (fun b => clq x b) = ttq x :=
  (zs_add8 (fun a => x (8 * a + 0)) (fun a => x (8 * a + 1)) (fun a => x (8 * a + 2)) (fun a => x (8 * a + 3)) (fun a => x (8 * a + 4)) (fun a => x (8 * a + 5)) (fun a => x (8 * a + 6)) (fun a => x (8 * a + 7))).symm
theorem rw_upd (x : Int → Int) {a b : Int} (v : Int) (b0 : 0 ≤ b) (b1 : b < 8) (c : Int) : rwq (upq x (8 * a + b) v) c = if c = a then rwq x c - x (8 * a + b) + v else rwq x c := by
  by_cases e : c = a
  · subst e
    rw [if_pos rfl]
    have h := zs_upd (fun i => x (8 * c + i)) b0 b1 v
    have g : rwq (upq x (8 * c + b) v) c = zs8 (upq (fun i => x (8 * c + i)) b v) := zs_c (fun i i0 i1 => by
      by_cases q : i = b
      · rw [q, upq_s, upq_s]
      · rw [upq_k _ _ q, upq_k _ _ (show 8 * c + i ≠ 8 * c + b by omega)])
    rw [g, h]
    rfl
  · rw [if_neg e]
    exact zs_c (fun i i0 i1 => upq_k _ _ (show 8 * c + i ≠ 8 * a + b by omega))
theorem cl_upd (x : Int → Int) {a b : Int} (v : Int) (a0 : 0 ≤ a) (a1 : a < 8) (b0 : 0 ≤ b) (b1 : b < 8) {c : Int} (c0 : 0 ≤ c) (c1 : c < 8) : clq (upq x (8 * a + b) v) c = if c = b then clq x c - x (8 * a + b) + v else clq x c := by
  by_cases e : c = b
  · subst e
    rw [if_pos rfl]
    have h := zs_upd (fun i => x (8 * i + c)) a0 a1 v
    have g : clq (upq x (8 * a + c) v) c = zs8 (upq (fun i => x (8 * i + c)) a v) := zs_c (fun i i0 i1 => by
      by_cases q : i = a
      · rw [q, upq_s, upq_s]
      · rw [upq_k _ _ q, upq_k _ _ (show 8 * i + c ≠ 8 * a + c by omega)])
    rw [g, h]
    rfl
  · rw [if_neg e]
    exact zs_c (fun i i0 i1 => upq_k _ _ (show 8 * i + c ≠ 8 * a + b by omega))
theorem tt_upd (x : Int → Int) {a b : Int} (v : Int) (a0 : 0 ≤ a) (a1 : a < 8) (b0 : 0 ≤ b) (b1 : b < 8) : ttq (upq x (8 * a + b) v) = ttq x - x (8 * a + b) + v := by
  have h := zs_upd (fun c => rwq x c) a0 a1 (rwq x a - x (8 * a + b) + v)
  have g : ttq (upq x (8 * a + b) v) = zs8 (upq (fun c => rwq x c) a (rwq x a - x (8 * a + b) + v)) := zs_c (fun i i0 i1 => by
    rw [rw_upd x v b0 b1 i]
    by_cases q : i = a
    · rw [if_pos q, q, upq_s]
    · rw [if_neg q, upq_k _ _ q])
  rw [g, h]
  show ttq x - rwq x a + (rwq x a - x (8 * a + b) + v) = _
  omega
theorem tt_c {x y : Int → Int} (h : ∀ a b : Int, 0 ≤ a → a < 8 → 0 ≤ b → b < 8 → x (8 * a + b) = y (8 * a + b)) : ttq x = ttq y := zs_c (fun a a0 a1 => zs_c (fun b b0 b1 => h a b a0 a1 b0 b1))
theorem tt_le {x y : Int → Int} (h : ∀ a b : Int, 0 ≤ a → a < 8 → 0 ≤ b → b < 8 → x (8 * a + b) ≤ y (8 * a + b)) : ttq x ≤ ttq y := zs_le (fun a a0 a1 => zs_le (fun b b0 b1 => h a b a0 a1 b0 b1))
theorem tt_add (x y : Int → Int) : ttq (fun k => x k + y k) = ttq x + ttq y := by
  have e : ttq (fun k => x k + y k) = zs8 (fun a => rwq x a + rwq y a) := zs_c (fun a a0 a1 => zs_add (fun b => x (8 * a + b)) (fun b => y (8 * a + b)))
  rw [e]
  exact zs_add (fun a => rwq x a) (fun a => rwq y a)
theorem tt_mul (u : Int) (x : Int → Int) : ttq (fun k => u * x k) = u * ttq x := by
  have e : ttq (fun k => u * x k) = zs8 (fun a => u * rwq x a) := zs_c (fun a a0 a1 => zs_mul u (fun b => x (8 * a + b)))
  rw [e]
  exact zs_mul u (fun a => rwq x a)
def csq (C x : Int → Int) : Int := ttq (fun k => C k * x k)
theorem cs_upd (C x : Int → Int) {a b : Int} (v : Int) (a0 : 0 ≤ a) (a1 : a < 8) (b0 : 0 ≤ b) (b1 : b < 8) : csq C (upq x (8 * a + b) v) = csq C x - C (8 * a + b) * x (8 * a + b) + C (8 * a + b) * v := by
  have e : (fun k => C k * upq x (8 * a + b) v k) = upq (fun k => C k * x k) (8 * a + b) (C (8 * a + b) * v) := by
    funext k
    by_cases q : k = 8 * a + b
    · rw [q, upq_s, upq_s]
    · rw [upq_k _ _ q, upq_k _ _ q]
  unfold csq
  rw [e]
  exact tt_upd (fun k => C k * x k) _ a0 a1 b0 b1
theorem php8 : ∀ (n : Nat) (f : Nat → Nat), (∀ i, i ≤ n → f i < n) → ∃ i j, i < j ∧ j ≤ n ∧ f i = f j
  | 0, f, h => absurd (h 0 (Nat.le_refl 0)) (Nat.not_lt_zero _)
  | n + 1, f, h => by
    by_cases q : ∃ i, i ≤ n ∧ f i = f (n + 1)
    · obtain ⟨i, a, b⟩ := q
      exact ⟨i, n + 1, by omega, Nat.le_refl _, b⟩
    · have no : ∀ i, i ≤ n → f i ≠ f (n + 1) := fun i a b => q ⟨i, a, b⟩
      have l1 := h (n + 1) (Nat.le_refl _)
      obtain ⟨i, j, a, b, c⟩ := php8 n (fun i => if f i = n then f (n + 1) else f i) (fun i a => by
        have l2 := h i (by omega)
        have l3 := no i a
        show (if f i = n then f (n + 1) else f i) < n
        by_cases e : f i = n
        · rw [if_pos e]; omega
        · rw [if_neg e]; omega)
      have n1 := no i (by omega)
      have n2 := no j b
      refine ⟨i, j, a, by omega, ?_⟩
      have c' : (if f i = n then f (n + 1) else f i) = (if f j = n then f (n + 1) else f j) := c
      by_cases e1 : f i = n
      · by_cases e2 : f j = n
        · rw [e1, e2]
        · rw [if_pos e1, if_neg e2] at c'
          exact absurd c'.symm n2
      · by_cases e2 : f j = n
        · rw [if_neg e1, if_pos e2] at c'
          exact absurd c' n1
        · rw [if_neg e1, if_neg e2] at c'
          exact c'
