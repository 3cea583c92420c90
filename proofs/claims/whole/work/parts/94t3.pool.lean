/-! ===== pool: what is brought, pure ===== -/
def Arq (o : Int) (E : Int → Prop) (C x : Int → Int) (p q w : Int) : Prop := ∃ a b : Int, ((0 ≤ a ∧ a < 8) ∧ 0 ≤ b ∧ b < 8) ∧ E (8 * a + b) ∧ ((p = a ∧ q = o + b ∧ w = C (8 * a + b)) ∨ (p = o + b ∧ q = a ∧ w = -C (8 * a + b) ∧ 0 < x (8 * a + b)))
def Neq (o : Int) (isB : Int → Bool) (E : Int → Prop) (C : Int → Int) : Prop := (o = 0 ∨ o = 8) ∧ ∀ a b : Int, 0 ≤ a → a < 8 → 0 ≤ b → b < 8 → E (8 * a + b) → isB a = false ∧ isB (o + b) = true ∧ a ≠ o + b ∧ 0 ≤ C (8 * a + b) ∧ C (8 * a + b) ≤ 16320
def Flo (E : Int → Prop) (C s t x sp lk : Int → Int) (m : Int) : Prop := (∀ a b : Int, 0 ≤ a → a < 8 → 0 ≤ b → b < 8 → 0 ≤ x (8 * a + b) ∧ (0 < x (8 * a + b) → E (8 * a + b))) ∧ (∀ a : Int, 0 ≤ a → a < 8 → rwq x a + sp a = s a ∧ 0 ≤ sp a) ∧ (∀ b : Int, 0 ≤ b → b < 8 → clq x b + lk b = t b ∧ 0 ≤ lk b) ∧ csq C x = m
def Laq (o : Int) (E : Int → Prop) (C t x sp lk l : Int → Int) (D : Int) : Prop := (∀ p q w : Int, Arq o E C x p q w → l q ≤ l p + w) ∧ (∀ a : Int, 0 ≤ a → a < 8 → 0 < sp a → l a = 0) ∧ (∀ v : Int, 0 ≤ v → v < 8 + o → 0 ≤ l v) ∧ (∀ b : Int, 0 ≤ b → b < 8 → 0 < lk b → D ≤ l (o + b)) ∧ (∀ b : Int, 0 ≤ b → b < 8 → lk b < t b → l (o + b) ≤ D) ∧ 0 ≤ D
def Rtq (sp : Int → Int) (v : Int) : Prop := (0 ≤ v ∧ v < 8) ∧ 0 < sp v
theorem ok_of {o : Int} {isB : Int → Bool} {E : Int → Prop} {C x l : Int → Int} (N : Neq o isB E C) {M : Nat} (hM : (M : Int) = 8 + o) (hl : ∀ p q w : Int, Arq o E C x p q w → l q ≤ l p + w) : Okq M (Arq o E C x) l := by
  intro p q w h
  have lw := hl p q w h
  obtain ⟨a, b, ⟨⟨a0, a1⟩, b0, b1⟩, e, c⟩ := h
  obtain ⟨_, _, n1, n2, n3⟩ := N.2 a b a0 a1 b0 b1 e
  have o2 := N.1
  rcases c with ⟨c1, c2, c3⟩ | ⟨c1, c2, c3, _⟩ <;> refine ⟨⟨by omega, by omega⟩, ⟨by omega, by omega⟩, by omega, by omega, lw⟩
theorem nl_3 (NV : Int) (far l : Int → Int) (d v : Int) : (far v ≠ NV ∧ nlq NV far l d v = far v ∧ far v ≤ l v + d) ∨ (nlq NV far l d v = l v + d ∧ (far v = NV ∨ l v + d < far v)) := by
  by_cases c : far v = NV
  · exact Or.inr ⟨if_pos c, Or.inl c⟩
  · by_cases c2 : far v ≤ l v + d
    · exact Or.inl ⟨c, (if_neg c).trans (if_pos c2), c2⟩
    · exact Or.inr ⟨(if_neg c).trans (if_neg c2), Or.inr (by omega)⟩
theorem la_new {o : Int} {E : Int → Prop} {C t x sp lk l : Int → Int} {D : Int} {M : Nat} (hM : (M : Int) = 8 + o) (ho : o = 0 ∨ o = 8) (h : Laq o E C t x sp lk l D) {NV : Int} {far via : Int → Int} (bf : Bfq M NV (Arq o E C x) (Rtq sp) l far via) (fx : Fxq NV (Arq o E C x) far) {D' : Int} (dd : D ≤ D') (mn : ∀ b : Int, 0 ≤ b → b < 8 → 0 < lk b → far (o + b) ≠ NV → D' ≤ far (o + b)) : Laq o E C t x sp lk (nlq NV far l (D' - D)) D' := by
  obtain ⟨h1, h2, h3, h4, h5, h6⟩ := h
  obtain ⟨g1, g2, g3, g4, g5, g6⟩ := bf
  refine ⟨fun p q w a => nl_ok (D' - D) fx a (h1 p q w a), fun a a0 a1 c => ?_, fun v v0 v1 => ?_, fun b b0 b1 c => ?_, fun b b0 b1 c => ?_, by omega⟩
  · have k1 := h2 a a0 a1 c
    have k2 := g6 a a0 (by omega) ⟨⟨a0, a1⟩, c⟩
    have k3 := g2 a a0 (by omega) k2.1
    have k4 := nl_3 NV far l (D' - D) a
    omega
  · have k1 := h3 v v0 v1
    have k4 := nl_3 NV far l (D' - D) v
    by_cases f : far v = NV
    · omega
    · have k3 := g2 v v0 (by omega) f
      omega
  · have k1 := h4 b b0 b1 c
    have k4 := nl_3 NV far l (D' - D) (o + b)
    by_cases f : far (o + b) = NV
    · omega
    · have k3 := mn b b0 b1 c f
      omega
  · have k1 := h5 b b0 b1 c
    have k4 := nl_3 NV far l (D' - D) (o + b)
    omega
def kq (o : Int) (isB : Int → Bool) (y u : Int) : Int := if isB y = true then 8 * u + (y - o) else 8 * y + (u - o)
def agq (o : Int) (isB : Int → Bool) (many : Int) (via : Int → Int) : Nat → Int → (Int → Int) → Int → Int
  | 0, _, x => x
  | j + 1, y, x => agq o isB many via j (via y) (upq x (kq o isB y (via y)) (if isB y = true then x (kq o isB y (via y)) + many else x (kq o isB y (via y)) - many))
def rtq (via : Int → Int) : Nat → Int → Int
  | 0, y => y
  | j + 1, y => rtq via j (via y)
def boq (o : Int) (isB : Int → Bool) (x via : Int → Int) (many : Int) : Nat → Int → Prop
  | 0, _ => True
  | j + 1, y => (isB y = false → many ≤ x (kq o isB y (via y))) ∧ boq o isB x via many j (via y)
theorem bo_m {o : Int} {isB : Int → Bool} {x via : Int → Int} {many k : Int} (h : k ≤ many) : ∀ (j : Nat) (y : Int), boq o isB x via many j y → boq o isB x via k j y
  | 0, _, _ => trivial
  | j + 1, y, b => ⟨fun e => by have := b.1 e; omega, bo_m h j (via y) b.2⟩
theorem ab_i {a b c d : Int} (b0 : 0 ≤ b) (b1 : b < 8) (d0 : 0 ≤ d) (d1 : d < 8) (e : 8 * a + b = 8 * c + d) : a = c ∧ b = d := by omega
set_option maxHeartbeats 1000000 in
theorem ag_ok {o : Int} {isB : Int → Bool} {E : Int → Prop} {C s t x0 sp lk l : Int → Int} (N : Neq o isB E C) {M : Nat} (hM : (M : Int) = 8 + o) {NV : Int} {far via : Int → Int} (hl : ∀ p q w : Int, Arq o E C x0 p q w → l q ≤ l p + w) (bf : Bfq M NV (Arq o E C x0) (Rtq sp) l far via) (fx : Fxq NV (Arq o E C x0) far) (hR : ∀ v : Int, Rtq sp v → isB v = false) {many fto m d : Int} (m0 : 0 ≤ many) : ∀ (j : Nat) (y : Int) (x : Int → Int), 0 ≤ y → y < M → far y ≠ NV → Cnq via j y → boq o isB x0 via many j y →
    (∀ a b : Int, 0 ≤ a → a < 8 → 0 ≤ b → b < 8 → 0 ≤ x (8 * a + b) ∧ (0 < x (8 * a + b) → E (8 * a + b))) →
    (∀ a : Int, 0 ≤ a → a < 8 → rwq x a + sp a = s a + (if isB y = false ∧ y = a then many else 0)) →
    (∀ b : Int, 0 ≤ b → b < 8 → clq x b + lk b = t b - (if isB y = true ∧ y = o + b then many else 0)) →
    csq C x = m + many * (fto - far y) →
    (∀ a b : Int, 0 ≤ a → a < 8 → 0 ≤ b → b < 8 → ∀ i i' : Nat, i ≤ j → i' ≤ j → Cnq via i a → Cnq via i' (o + b) → x (8 * a + b) = x0 (8 * a + b)) →
    (∀ a b : Int, 0 ≤ a → a < 8 → 0 ≤ b → b < 8 → 0 < x (8 * a + b) → 0 < x0 (8 * a + b) ∨ nlq NV far l d (o + b) = nlq NV far l d a + C (8 * a + b)) →
    nlq NV far l d y = far y →
    (∀ a b : Int, 0 ≤ a → a < 8 → 0 ≤ b → b < 8 → 0 ≤ agq o isB many via j y x (8 * a + b) ∧ (0 < agq o isB many via j y x (8 * a + b) → E (8 * a + b))) ∧
    (∀ a : Int, 0 ≤ a → a < 8 → rwq (agq o isB many via j y x) a + sp a = s a + (if rtq via j y = a then many else 0)) ∧
    (∀ b : Int, 0 ≤ b → b < 8 → clq (agq o isB many via j y x) b + lk b = t b) ∧
    csq C (agq o isB many via j y x) = m + many * fto ∧
    (∀ a b : Int, 0 ≤ a → a < 8 → 0 ≤ b → b < 8 → 0 < agq o isB many via j y x (8 * a + b) → 0 < x0 (8 * a + b) ∨ nlq NV far l d (o + b) = nlq NV far l d a + C (8 * a + b)) ∧ Rtq sp (rtq via j y)
  | 0, y, x, y0, y1, fy, cn, bo, i1, i2, i3, i4, i5, i6, i7 => by
    obtain ⟨r1, r2⟩ := bf.2.2.2.1 y y0 y1 fy cn
    have bB := hR y r1
    refine ⟨i1, fun a a0 a1 => ?_, fun b b0 b1 => ?_, ?_, i6, r1⟩
    · have k := i2 a a0 a1
      show rwq x a + sp a = s a + (if y = a then many else 0)
      rw [k]
      by_cases e : y = a
      · rw [if_pos (show isB y = false ∧ y = a from ⟨bB, e⟩), if_pos e]
      · rw [if_neg (show ¬ (isB y = false ∧ y = a) from fun h => e h.2), if_neg e]
    · have k := i3 b b0 b1
      rw [if_neg (show ¬ (isB y = true ∧ y = o + b) from fun h => by rw [bB] at h; exact absurd h.1 (by decide))] at k
      show clq x b + lk b = t b
      omega
    · show csq C x = m + many * fto
      rw [i4, r2, Int.sub_zero]
  | j + 1, y, x, y0, y1, fy, cn, bo, i1, i2, i3, i4, i5, i6, i7 => by
    obtain ⟨⟨u0, u1⟩, fu, w, ar, le⟩ := bf.2.2.2.2.1 y y0 y1 fy cn.1
    have fe := (fx _ _ _ ar fu).2
    have eq : far (via y) + w = far y := by omega
    have lw := hl _ _ _ ar
    have t7 : nlq NV far l d (via y) = far (via y) := by
      have q1 := nl_3 NV far l d (via y)
      have q2 := nl_3 NV far l d y
      omega
    obtain ⟨u, hu⟩ : ∃ u, u = via y := ⟨_, rfl⟩
    have cu : Cnq via j u := by rw [hu]; exact cn.2
    have cy : Cnq via (j + 1) y := cn
    rw [← hu] at ar fu eq t7 u0 u1
    obtain ⟨a, b, ⟨⟨a0, a1⟩, b0, b1⟩, e, c⟩ := ar
    obtain ⟨n1, n2, n3, n4, n5⟩ := N.2 a b a0 a1 b0 b1 e
    rcases c with ⟨c1, c2, c3⟩ | ⟨c1, c2, c3, c4⟩
    · have bY : isB y = true := by rw [c2]; exact n2
      have bu : isB u = false := by rw [c1]; exact n1
      have ek : kq o isB y u = 8 * a + b := (if_pos bY).trans (by omega)
      obtain ⟨X, hX⟩ : ∃ X, X = upq x (8 * a + b) (x (8 * a + b) + many) := ⟨_, rfl⟩
      have st : agq o isB many via (j + 1) y x = agq o isB many via j u X := by
        show agq o isB many via j (via y) (upq x (kq o isB y (via y)) (if isB y = true then x (kq o isB y (via y)) + many else x (kq o isB y (via y)) - many)) = _
        rw [← hu, ek, if_pos bY, ← hX]
      have sr : rtq via (j + 1) y = rtq via j u := by rw [hu]; rfl
      have Xk : X (8 * a + b) = x (8 * a + b) + many := by rw [hX]; exact upq_s _ _ _
      have Xo : ∀ k : Int, k ≠ 8 * a + b → X k = x k := fun k h => by rw [hX]; exact upq_k _ _ h
      have bo' : boq o isB x0 via many j u := by rw [hu]; exact bo.2
      rw [st, sr]
      refine ag_ok N hM hl bf fx hR m0 j u X u0 u1 fu cu bo' (fun a' b' p0 p1 q0 q1 => ?_) (fun a' p0 p1 => ?_) (fun b' q0 q1 => ?_) ?_ (fun a' b' p0 p1 q0 q1 i i' li li' g g' => ?_) (fun a' b' p0 p1 q0 q1 g => ?_) t7
      · have r := i1 a' b' p0 p1 q0 q1
        by_cases h : 8 * a' + b' = 8 * a + b
        · rw [h] at r ⊢
          rw [Xk]
          exact ⟨by omega, fun _ => e⟩
        · rw [Xo _ h]; exact r
      · have r := i2 a' p0 p1
        rw [if_neg (show ¬ (isB y = false ∧ y = a') from fun h => by rw [bY] at h; exact absurd h.1 (by decide))] at r
        rw [hX, rw_upd x _ b0 b1 a']
        by_cases h : a' = a
        · rw [if_pos h, if_pos (show isB u = false ∧ u = a' from ⟨bu, by omega⟩)]; omega
        · rw [if_neg h, if_neg (show ¬ (isB u = false ∧ u = a') from fun k => h (by omega))]; omega
      · have r := i3 b' q0 q1
        rw [hX, cl_upd x _ a0 a1 b0 b1 q0 q1, if_neg (show ¬ (isB u = true ∧ u = o + b') from fun h => by rw [bu] at h; exact absurd h.1 (by decide))]
        by_cases h : b' = b
        · rw [if_pos (show isB y = true ∧ y = o + b' from ⟨bY, by omega⟩)] at r
          rw [if_pos h]; omega
        · rw [if_neg (show ¬ (isB y = true ∧ y = o + b') from fun k => h (by omega))] at r
          rw [if_neg h]; omega
      · rw [hX, cs_upd C x _ a0 a1 b0 b1, i4, Int.mul_add (C (8 * a + b)) (x (8 * a + b)) many]
        have f : many * (fto - far u) = many * (fto - far y) + many * C (8 * a + b) := by
          rw [← Int.mul_add]
          congr 1
          omega
        rw [f, Int.mul_comm (C (8 * a + b)) many]
        omega
      · have ne : 8 * a' + b' ≠ 8 * a + b := fun h => by
          obtain ⟨_, h2⟩ := ab_i q0 q1 b0 b1 h
          rw [h2, ← c2] at g'
          have := cn_u _ _ _ g' cy
          omega
        rw [Xo _ ne]
        exact i5 a' b' p0 p1 q0 q1 i i' (by omega) (by omega) g g'
      · by_cases h : 8 * a' + b' = 8 * a + b
        · obtain ⟨h1, h2⟩ := ab_i q0 q1 b0 b1 h
          rw [h1, h2]
          have ta : nlq NV far l d a = far u := by rw [← c1]; exact t7
          have tb : nlq NV far l d (o + b) = far y := by rw [← c2]; exact i7
          exact Or.inr (by rw [ta, tb, ← c3]; omega)
        · rw [Xo _ h] at g
          exact i6 a' b' p0 p1 q0 q1 g
    · have bY : isB y = false := by rw [c2]; exact n1
      have bu : isB u = true := by rw [c1]; exact n2
      have nb : ¬ isB y = true := by rw [bY]; decide
      have ek : kq o isB y u = 8 * a + b := (if_neg nb).trans (by omega)
      obtain ⟨X, hX⟩ : ∃ X, X = upq x (8 * a + b) (x (8 * a + b) - many) := ⟨_, rfl⟩
      have st : agq o isB many via (j + 1) y x = agq o isB many via j u X := by
        show agq o isB many via j (via y) (upq x (kq o isB y (via y)) (if isB y = true then x (kq o isB y (via y)) + many else x (kq o isB y (via y)) - many)) = _
        rw [← hu, ek, if_neg nb, ← hX]
      have sr : rtq via (j + 1) y = rtq via j u := by rw [hu]; rfl
      have Xk : X (8 * a + b) = x (8 * a + b) - many := by rw [hX]; exact upq_s _ _ _
      have Xo : ∀ k : Int, k ≠ 8 * a + b → X k = x k := fun k h => by rw [hX]; exact upq_k _ _ h
      have bo' : boq o isB x0 via many j u := by rw [hu]; exact bo.2
      have xe : x (8 * a + b) = x0 (8 * a + b) := i5 a b a0 a1 b0 b1 (j + 1) j (by omega) (by omega) (by rw [← c2]; exact cy) (by rw [← c1]; exact cu)
      have bm : many ≤ x0 (8 * a + b) := by
        have q := bo.1 bY
        rw [← hu, ek] at q
        exact q
      rw [st, sr]
      refine ag_ok N hM hl bf fx hR m0 j u X u0 u1 fu cu bo' (fun a' b' p0 p1 q0 q1 => ?_) (fun a' p0 p1 => ?_) (fun b' q0 q1 => ?_) ?_ (fun a' b' p0 p1 q0 q1 i i' li li' g g' => ?_) (fun a' b' p0 p1 q0 q1 g => ?_) t7
      · have r := i1 a' b' p0 p1 q0 q1
        by_cases h : 8 * a' + b' = 8 * a + b
        · rw [h] at r ⊢
          rw [Xk]
          exact ⟨by omega, fun _ => e⟩
        · rw [Xo _ h]; exact r
      · have r := i2 a' p0 p1
        rw [hX, rw_upd x _ b0 b1 a', if_neg (show ¬ (isB u = false ∧ u = a') from fun h => by rw [bu] at h; exact absurd h.1 (by decide))]
        by_cases h : a' = a
        · rw [if_pos (show isB y = false ∧ y = a' from ⟨bY, by omega⟩)] at r
          rw [if_pos h]; omega
        · rw [if_neg (show ¬ (isB y = false ∧ y = a') from fun k => h (by omega))] at r
          rw [if_neg h]; omega
      · have r := i3 b' q0 q1
        rw [if_neg (show ¬ (isB y = true ∧ y = o + b') from fun h => nb h.1)] at r
        rw [hX, cl_upd x _ a0 a1 b0 b1 q0 q1]
        by_cases h : b' = b
        · rw [if_pos h, if_pos (show isB u = true ∧ u = o + b' from ⟨bu, by omega⟩)]; omega
        · rw [if_neg h, if_neg (show ¬ (isB u = true ∧ u = o + b') from fun k => h (by omega))]; omega
      · rw [hX, cs_upd C x _ a0 a1 b0 b1, i4, Int.mul_sub (C (8 * a + b)) (x (8 * a + b)) many]
        have f : many * (fto - far u) + many * C (8 * a + b) = many * (fto - far y) := by
          rw [← Int.mul_add]
          congr 1
          omega
        rw [← f, Int.mul_comm (C (8 * a + b)) many]
        omega
      · have ne : 8 * a' + b' ≠ 8 * a + b := fun h => by
          obtain ⟨h1, _⟩ := ab_i q0 q1 b0 b1 h
          rw [h1, ← c2] at g
          have := cn_u _ _ _ g cy
          omega
        rw [Xo _ ne]
        exact i5 a' b' p0 p1 q0 q1 i i' (by omega) (by omega) g g'
      · by_cases h : 8 * a' + b' = 8 * a + b
        · obtain ⟨h1, h2⟩ := ab_i q0 q1 b0 b1 h
          rw [h1, h2]
          exact Or.inl c4
        · rw [Xo _ h] at g
          exact i6 a' b' p0 p1 q0 q1 g
theorem st_step {o : Int} {isB : Int → Bool} {E : Int → Prop} {C s t x sp lk l : Int → Int} {m D : Int} (N : Neq o isB E C) {M : Nat} (hM : (M : Int) = 8 + o) (hR : ∀ v : Int, Rtq sp v → isB v = false) (fl : Flo E C s t x sp lk m) (la : Laq o E C t x sp lk l D) {NV : Int} {far via : Int → Int} (bf : Bfq M NV (Arq o E C x) (Rtq sp) l far via) (fx : Fxq NV (Arq o E C x) far) {b : Int} (b0 : 0 ≤ b) (b1 : b < 8) (lb : 0 < lk b) (hbb : isB (o + b) = true) (ft : far (o + b) ≠ NV) (mn : ∀ c : Int, 0 ≤ c → c < 8 → 0 < lk c → far (o + c) ≠ NV → far (o + b) ≤ far (o + c)) {j : Nat} (cn : Cnq via j (o + b)) {many : Int} (m1 : 1 ≤ many) (ml : many ≤ lk b) (bo : boq o isB x via many j (o + b)) (ms : many ≤ sp (rtq via j (o + b))) :
    Flo E C s t (agq o isB many via j (o + b) x) (upq sp (rtq via j (o + b)) (sp (rtq via j (o + b)) - many)) (upq lk b (lk b - many)) (m + many * far (o + b)) ∧ (0 ≤ rtq via j (o + b) ∧ rtq via j (o + b) < 8) ∧ ∃ l', Laq o E C t (agq o isB many via j (o + b) x) (upq sp (rtq via j (o + b)) (sp (rtq via j (o + b)) - many)) (upq lk b (lk b - many)) l' (far (o + b)) := by
  have ho := N.1
  obtain ⟨f1, f2, f3, f4⟩ := fl
  have bl := bf.2.1 (o + b) (by omega) (by omega) ft
  have dl := la.2.2.2.1 b b0 b1 lb
  have dd : D ≤ far (o + b) := by omega
  have la' := la_new hM ho la bf fx dd mn
  have i7 : nlq NV far l (far (o + b) - D) (o + b) = far (o + b) := by
    have q := nl_3 NV far l (far (o + b) - D) (o + b)
    omega
  obtain ⟨g1, g2, g3, g4, g5, g6⟩ := ag_ok (s := s) (t := t) (lk := upq lk b (lk b - many)) N hM la.1 bf fx hR (many := many) (fto := far (o + b)) (m := m) (d := far (o + b) - D) (by omega) j (o + b) x (by omega) (by omega) ft cn bo f1 (fun a a0 a1 => by
    have k := (f2 a a0 a1).1
    rw [if_neg (show ¬ (isB (o + b) = false ∧ o + b = a) from fun h => by rw [hbb] at h; exact absurd h.1 (by decide))]
    omega) (fun c c0 c1 => by
    have k := (f3 c c0 c1).1
    by_cases h : c = b
    · rw [h] at k ⊢
      rw [upq_s, if_pos (show isB (o + b) = true ∧ o + b = o + b from ⟨hbb, rfl⟩)]
      omega
    · rw [upq_k _ _ h, if_neg (show ¬ (isB (o + b) = true ∧ o + b = o + c) from fun t => h (by omega))]
      omega) (by rw [f4, Int.sub_self, Int.mul_zero, Int.add_zero]) (fun _ _ _ _ _ _ _ _ _ _ _ _ => rfl) (fun _ _ _ _ _ _ h => Or.inl h) i7
  obtain ⟨r, hr⟩ : ∃ r, r = rtq via j (o + b) := ⟨_, rfl⟩
  rw [← hr] at g2 g6 ms ⊢
  obtain ⟨h1, h2, h3, h4, h5, h6⟩ := la'
  refine ⟨⟨g1, fun a a0 a1 => ?_, fun c c0 c1 => ⟨g3 c c0 c1, ?_⟩, g4⟩, g6.1, nlq NV far l (far (o + b) - D), ⟨fun p q w a => ?_, fun a a0 a1 c => ?_, h3, fun c c0 c1 k => ?_, fun c c0 c1 k => ?_, h6⟩⟩
  · have k := g2 a a0 a1
    have k2 := (f2 a a0 a1).2
    by_cases e : a = r
    · rw [e] at k ⊢
      rw [upq_s]
      rw [if_pos rfl] at k
      omega
    · rw [upq_k _ _ e]
      rw [if_neg (show ¬ r = a from fun t => e t.symm)] at k
      omega
  · by_cases e : c = b
    · rw [e, upq_s]; omega
    · rw [upq_k _ _ e]; exact (f3 c c0 c1).2
  · obtain ⟨a', b', rg, e, c⟩ := a
    rcases c with ⟨c1, c2, c3⟩ | ⟨c1, c2, c3, c4⟩
    · exact h1 p q w ⟨a', b', rg, e, Or.inl ⟨c1, c2, c3⟩⟩
    · rcases g5 a' b' rg.1.1 rg.1.2 rg.2.1 rg.2.2 c4 with g | g
      · exact h1 p q w ⟨a', b', rg, e, Or.inr ⟨c1, c2, c3, g⟩⟩
      · rw [c1, c2, c3]; omega
  · refine h2 a a0 a1 ?_
    by_cases e : a = r
    · rw [e, upq_s] at c
      rw [e]; omega
    · rw [upq_k _ _ e] at c; exact c
  · refine h4 c c0 c1 ?_
    by_cases e : c = b
    · rw [e]; exact lb
    · rw [upq_k _ _ e] at k; exact k
  · by_cases e : c = b
    · rw [e, i7]; omega
    · rw [upq_k _ _ e] at k
      exact h5 c c0 c1 k
