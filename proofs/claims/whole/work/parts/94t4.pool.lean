/-! ===== pool: two that can't be bettered bring as many, and cost as much ===== -/
theorem la_end0 {o : Int} {E : Int → Prop} {C t x sp lk l : Int → Int} {D : Int} (h : Laq o E C t x sp lk l D) (dB : D ≤ 1000000000000) (z : ∀ b : Int, 0 ≤ b → b < 8 → lk b = 0) : Laq o E C t x sp lk l 1000000000000 := by
  obtain ⟨h1, h2, h3, h4, h5, h6⟩ := h
  exact ⟨h1, h2, h3, fun b b0 b1 c => by have := z b b0 b1; omega, fun b b0 b1 c => by have := h5 b b0 b1 c; omega, by omega⟩
theorem la_end {o : Int} {E : Int → Prop} {C t x sp lk l : Int → Int} {D : Int} {M : Nat} (hM : (M : Int) = 8 + o) (ho : o = 0 ∨ o = 8) (h : Laq o E C t x sp lk l D) (dB : D ≤ 1000000000000) {NV : Int} {far via : Int → Int} (bf : Bfq M NV (Arq o E C x) (Rtq sp) l far via) (fx : Fxq NV (Arq o E C x) far) (no : ∀ b : Int, 0 ≤ b → b < 8 → 0 < lk b → far (o + b) = NV) : ∃ l', Laq o E C t x sp lk l' 1000000000000 :=
  ⟨_, la_new hM ho h bf fx dB (fun b b0 b1 c f => absurd (no b b0 b1 c) f)⟩
theorem tt_uv (U V x : Int → Int) : ttq (fun k => (U (k / 8) + V (k % 8)) * x k) = zs8 (fun a => U a * rwq x a) + zs8 (fun b => V b * clq x b) := by
  have e1 : (fun k => (U (k / 8) + V (k % 8)) * x k) = fun k => (fun k => U (k / 8) * x k) k + (fun k => V (k % 8) * x k) k := by
    funext k
    exact Int.add_mul _ _ _
  have e2 : ttq (fun k => U (k / 8) * x k) = zs8 (fun a => U a * rwq x a) := zs_c (fun a a0 a1 => by
    have g : zs8 (fun b => U ((8 * a + b) / 8) * x (8 * a + b)) = zs8 (fun b => U a * x (8 * a + b)) := zs_c (fun b b0 b1 => by
      show U ((8 * a + b) / 8) * x (8 * a + b) = U a * x (8 * a + b)
      rw [show (8 * a + b) / 8 = a by omega])
    exact g.trans (zs_mul (U a) (fun b => x (8 * a + b))))
  have e3 : ttq (fun k => V (k % 8) * x k) = zs8 (fun b => V b * clq x b) := by
    rw [← tt_cl]
    exact zs_c (fun b b0 b1 => by
      have g : zs8 (fun a => V ((8 * a + b) % 8) * x (8 * a + b)) = zs8 (fun a => V b * x (8 * a + b)) := zs_c (fun a a0 a1 => by
        show V ((8 * a + b) % 8) * x (8 * a + b) = V b * x (8 * a + b)
        rw [show (8 * a + b) % 8 = b by omega])
      exact g.trans (zs_mul (V b) (fun a => x (8 * a + b))))
  rw [e1, tt_add, e2, e3]
theorem tt_bg (G : Int) (C x : Int → Int) : ttq (fun k => (G - C k) * x k) = G * ttq x - csq C x := by
  have e1 : (fun k => (G - C k) * x k) = fun k => (fun k => G * x k) k + (fun k => -1 * (fun k => C k * x k) k) k := by
    funext k
    show (G - C k) * x k = G * x k + -1 * (C k * x k)
    rw [Int.sub_mul]
    omega
  rw [e1, tt_add, tt_mul G x, tt_mul (-1) (fun k => C k * x k)]
  unfold csq
  omega
theorem rw_one {E : Int → Prop} {C s t x sp lk : Int → Int} {m : Int} (fl : Flo E C s t x sp lk m) {a b : Int} (a0 : 0 ≤ a) (a1 : a < 8) (b0 : 0 ≤ b) (b1 : b < 8) : x (8 * a + b) ≤ s a ∧ x (8 * a + b) + lk b ≤ t b := by
  have h1 : x (8 * a + b) ≤ rwq x a := zs_one (f := fun i => x (8 * a + i)) (fun i i0 i1 => (fl.1 a i a0 a1 i0 i1).1) b0 b1
  have h2 : x (8 * a + b) ≤ clq x b := zs_one (f := fun i => x (8 * i + b)) (fun i i0 i1 => (fl.1 i b i0 i1 b0 b1).1) a0 a1
  have h3 := fl.2.1 a a0 a1
  have h4 := fl.2.2.1 b b0 b1
  omega
theorem wk_du {o : Int} {isB : Int → Bool} {E E2 : Int → Prop} {C s t x sp lk l y sp2 lk2 : Int → Int} {m m2 : Int} (N : Neq o isB E C) (fl : Flo E C s t x sp lk m) (la : Laq o E C t x sp lk l 1000000000000) (fl2 : Flo E2 C s t y sp2 lk2 m2) (sub : ∀ a b : Int, 0 ≤ a → a < 8 → 0 ≤ b → b < 8 → 0 < s a → 0 < t b → E2 (8 * a + b) → E (8 * a + b)) : 1000000000000 * ttq y - m2 ≤ 1000000000000 * ttq x - m := by
  have ho := N.1
  obtain ⟨l1, l2, l3, l4, l5, l6⟩ := la
  obtain ⟨U, hU⟩ : ∃ U, U = l := ⟨_, rfl⟩
  obtain ⟨V, hV⟩ : ∃ V : Int → Int, V = fun b => if l (o + b) ≤ 1000000000000 then 1000000000000 - l (o + b) else 0 := ⟨_, rfl⟩
  have V3 : ∀ b : Int, (l (o + b) ≤ 1000000000000 ∧ V b = 1000000000000 - l (o + b)) ∨ (1000000000000 < l (o + b) ∧ V b = 0) := fun b => by
    rw [hV]
    by_cases c : l (o + b) ≤ 1000000000000
    · exact Or.inl ⟨c, if_pos c⟩
    · exact Or.inr ⟨by omega, if_neg c⟩
  have U0 : ∀ a : Int, 0 ≤ a → a < 8 → 0 ≤ U a := fun a a0 a1 => by rw [hU]; exact l3 a a0 (by omega)
  have V0 : ∀ b : Int, 0 ≤ V b := fun b => by have := V3 b; omega
  have kd : ∀ a b : Int, 0 ≤ a → a < 8 → 0 ≤ b → b < 8 → (8 * a + b) / 8 = a ∧ (8 * a + b) % 8 = b := fun a b _ _ _ _ => by omega
  have s1 : ttq (fun k => (1000000000000 - C k) * y k) ≤ ttq (fun k => (U (k / 8) + V (k % 8)) * y k) := tt_le (fun a b a0 a1 b0 b1 => by
    show (1000000000000 - C (8 * a + b)) * y (8 * a + b) ≤ (U ((8 * a + b) / 8) + V ((8 * a + b) % 8)) * y (8 * a + b)
    rw [(kd a b a0 a1 b0 b1).1, (kd a b a0 a1 b0 b1).2]
    obtain ⟨y0, y1⟩ := fl2.1 a b a0 a1 b0 b1
    by_cases z : y (8 * a + b) = 0
    · rw [z, Int.mul_zero, Int.mul_zero]; exact Int.le_refl _
    · have yp : 0 < y (8 * a + b) := by omega
      have r := rw_one fl2 a0 a1 b0 b1
      have k := (fl2.2.2.1 b b0 b1).2
      have e := sub a b a0 a1 b0 b1 (by omega) (by omega) (y1 yp)
      have q := l1 a (o + b) (C (8 * a + b)) ⟨a, b, ⟨⟨a0, a1⟩, b0, b1⟩, e, Or.inl ⟨rfl, rfl, rfl⟩⟩
      have v := V3 b
      have u := hU
      refine Int.mul_le_mul_of_nonneg_right ?_ y0
      rw [hU]
      omega)
  have s2 : ttq (fun k => (1000000000000 - C k) * x k) = ttq (fun k => (U (k / 8) + V (k % 8)) * x k) := tt_c (fun a b a0 a1 b0 b1 => by
    show (1000000000000 - C (8 * a + b)) * x (8 * a + b) = (U ((8 * a + b) / 8) + V ((8 * a + b) % 8)) * x (8 * a + b)
    rw [(kd a b a0 a1 b0 b1).1, (kd a b a0 a1 b0 b1).2]
    obtain ⟨x0, x1⟩ := fl.1 a b a0 a1 b0 b1
    by_cases z : x (8 * a + b) = 0
    · rw [z, Int.mul_zero, Int.mul_zero]
    · have xp : 0 < x (8 * a + b) := by omega
      have e := x1 xp
      have r := rw_one fl a0 a1 b0 b1
      have q := l1 a (o + b) (C (8 * a + b)) ⟨a, b, ⟨⟨a0, a1⟩, b0, b1⟩, e, Or.inl ⟨rfl, rfl, rfl⟩⟩
      have q2 := l1 (o + b) a (-C (8 * a + b)) ⟨a, b, ⟨⟨a0, a1⟩, b0, b1⟩, e, Or.inr ⟨rfl, rfl, rfl, xp⟩⟩
      have q3 := l5 b b0 b1 (by omega)
      have v := V3 b
      have eq : 1000000000000 - C (8 * a + b) = U a + V b := by
        rw [hU]
        omega
      rw [eq])
  have s3 : zs8 (fun a => U a * rwq y a) ≤ zs8 (fun a => U a * s a) := zs_le (fun a a0 a1 => by
    have k := fl2.2.1 a a0 a1
    exact Int.mul_le_mul_of_nonneg_left (by omega) (U0 a a0 a1))
  have s4 : zs8 (fun b => V b * clq y b) ≤ zs8 (fun b => V b * t b) := zs_le (fun b b0 b1 => by
    have k := fl2.2.2.1 b b0 b1
    exact Int.mul_le_mul_of_nonneg_left (by omega) (V0 b))
  have s5 : zs8 (fun a => U a * rwq x a) = zs8 (fun a => U a * s a) := zs_c (fun a a0 a1 => by
    have k := fl.2.1 a a0 a1
    by_cases z : sp a = 0
    · rw [show rwq x a = s a by omega]
    · have q := l2 a a0 a1 (by omega)
      rw [hU, q, Int.zero_mul, Int.zero_mul])
  have s6 : zs8 (fun b => V b * clq x b) = zs8 (fun b => V b * t b) := zs_c (fun b b0 b1 => by
    have k := fl.2.2.1 b b0 b1
    by_cases z : lk b = 0
    · rw [show clq x b = t b by omega]
    · have q := l4 b b0 b1 (by omega)
      have v := V3 b
      rw [show V b = 0 by omega, Int.zero_mul, Int.zero_mul])
  rw [tt_bg, tt_uv] at s1 s2
  have c1 := fl.2.2.2
  have c2 := fl2.2.2.2
  omega
theorem cs_b {o : Int} {isB : Int → Bool} {E : Int → Prop} {C s t x sp lk : Int → Int} {m : Int} (N : Neq o isB E C) (fl : Flo E C s t x sp lk m) : 0 ≤ m ∧ m ≤ 16320 * ttq x := by
  have h1 : ttq (fun k => 0 * x k) ≤ csq C x := tt_le (fun a b a0 a1 b0 b1 => by
    obtain ⟨x0, x1⟩ := fl.1 a b a0 a1 b0 b1
    by_cases z : x (8 * a + b) = 0
    · show 0 * x (8 * a + b) ≤ C (8 * a + b) * x (8 * a + b)
      rw [z, Int.mul_zero, Int.mul_zero]; exact Int.le_refl _
    · exact Int.mul_le_mul_of_nonneg_right (N.2 a b a0 a1 b0 b1 (x1 (by omega))).2.2.2.1 x0)
  have h2 : csq C x ≤ ttq (fun k => 16320 * x k) := tt_le (fun a b a0 a1 b0 b1 => by
    obtain ⟨x0, x1⟩ := fl.1 a b a0 a1 b0 b1
    by_cases z : x (8 * a + b) = 0
    · show C (8 * a + b) * x (8 * a + b) ≤ 16320 * x (8 * a + b)
      rw [z, Int.mul_zero, Int.mul_zero]; exact Int.le_refl _
    · exact Int.mul_le_mul_of_nonneg_right (N.2 a b a0 a1 b0 b1 (x1 (by omega))).2.2.2.2 x0)
  rw [tt_mul] at h1 h2
  have c := fl.2.2.2
  omega
theorem tt_t {E : Int → Prop} {C s t x sp lk : Int → Int} {m : Int} (fl : Flo E C s t x sp lk m) : ttq x + zs8 lk = zs8 t := by
  rw [← tt_cl, ← zs_add]
  exact zs_c (fun b b0 b1 => (fl.2.2.1 b b0 b1).1)
theorem lk_t {E : Int → Prop} {C s t x sp lk : Int → Int} {m : Int} (fl : Flo E C s t x sp lk m) : 0 ≤ ttq x ∧ 0 ≤ zs8 lk :=
  ⟨zs_n (fun a a0 a1 => zs_n (fun b b0 b1 => (fl.1 a b a0 a1 b0 b1).1)), zs_n (fun b b0 b1 => (fl.2.2.1 b b0 b1).2)⟩
theorem pool_eq {o o2 : Int} {isB isB2 : Int → Bool} {E E2 : Int → Prop} {C s t x sp lk l y sp2 lk2 l2 : Int → Int} {m m2 : Int} (N : Neq o isB E C) (N2 : Neq o2 isB2 E2 C) (fl : Flo E C s t x sp lk m) (la : Laq o E C t x sp lk l 1000000000000) (fl2 : Flo E2 C s t y sp2 lk2 m2) (la2 : Laq o2 E2 C t y sp2 lk2 l2 1000000000000) (sub : ∀ a b : Int, 0 ≤ a → a < 8 → 0 ≤ b → b < 8 → 0 < s a → 0 < t b → (E (8 * a + b) ↔ E2 (8 * a + b))) (ht : zs8 t ≤ 240) : zs8 lk = zs8 lk2 ∧ m = m2 := by
  have d1 := wk_du N fl la fl2 (fun a b a0 a1 b0 b1 c1 c2 e => (sub a b a0 a1 b0 b1 c1 c2).mpr e)
  have d2 := wk_du N2 fl2 la2 fl (fun a b a0 a1 b0 b1 c1 c2 e => (sub a b a0 a1 b0 b1 c1 c2).mp e)
  have e1 := cs_b N fl
  have e2 := cs_b N2 fl2
  have t1 := tt_t fl
  have t2 := tt_t fl2
  have n1 := lk_t fl
  have n2 := lk_t fl2
  have q : ttq x = ttq y := by omega
  omega
