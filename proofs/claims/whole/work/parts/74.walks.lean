/-! ===== ways and walks: the earliest minute (bt 0), the least toll (bt 1) ===== -/
def nxq (D : Nat → Int → Int) (bt k u : Int) : Int := if bt = 0 then (if D 90 k ≤ 0 then u + D 88 k else u + (D 91 k - u) % D 90 k + D 88 k) else u + D 89 k
def WY (D : Nat → Int → Int) : Prop := ∀ j : Int, 0 ≤ j → j < 64 → D 8 j = D 88 j ∧ D 9 j = D 89 j ∧ D 10 j = D 90 j ∧ D 11 j = D 91 j ∧ 0 ≤ D 88 j ∧ D 88 j ≤ 600 ∧ 0 ≤ D 89 j ∧ D 89 j ≤ 999 ∧ 0 ≤ D 90 j ∧ D 90 j ≤ 1440 ∧ 0 ≤ D 91 j ∧ (D 91 j < D 90 j ∨ D 90 j = 0 ∧ D 91 j = 0)
theorem WY_of {D : Nat → Int → Int} (h : RW D) : WY D := h.1
theorem nx_t (D : Nat → Int → Int) {bt : Int} (k u : Int) (hb : ¬ bt = 0) : nxq D bt k u = u + D 89 k := by unfold nxq; rw [if_neg hb]
theorem nx_p (D : Nat → Int → Int) (k u : Int) (h : D 90 k ≤ 0) : nxq D 0 k u = u + D 88 k := by unfold nxq; rw [if_pos rfl, if_pos h]
theorem nx_f (D : Nat → Int → Int) (k u : Int) (h : ¬ D 90 k ≤ 0) : nxq D 0 k u = u + (D 91 k - u) % D 90 k + D 88 k := by unfold nxq; rw [if_pos rfl, if_neg h]
theorem nx_ge {D : Nat → Int → Int} (h : WY D) (bt : Int) {k : Int} (u : Int) (k0 : 0 ≤ k) (k1 : k < 64) : u ≤ nxq D bt k u := by
  have g := h k k0 k1
  by_cases hb : bt = 0
  · subst hb
    by_cases c : D 90 k ≤ 0
    · rw [nx_p D k u c]; omega
    · rw [nx_f D k u c]
      have := Int.emod_nonneg (D 91 k - u) (b := D 90 k) (by omega)
      omega
  · rw [nx_t D k u hb]; omega
theorem nx_le {D : Nat → Int → Int} (h : WY D) (bt : Int) {k : Int} (u : Int) (k0 : 0 ≤ k) (k1 : k < 64) : nxq D bt k u ≤ u + 2040 := by
  have g := h k k0 k1
  by_cases hb : bt = 0
  · subst hb
    by_cases c : D 90 k ≤ 0
    · rw [nx_p D k u c]; omega
    · rw [nx_f D k u c]
      have := Int.emod_lt_of_pos (D 91 k - u) (b := D 90 k) (by omega)
      omega
  · rw [nx_t D k u hb]; omega
theorem nx_mono {D : Nat → Int → Int} (bt k : Int) {u v : Int} (uv : u ≤ v) : nxq D bt k u ≤ nxq D bt k v := by
  by_cases hb : bt = 0
  · subst hb
    by_cases c : D 90 k ≤ 0
    · rw [nx_p D k u c, nx_p D k v c]; omega
    · rw [nx_f D k u c, nx_f D k v c, Int.emod_def, Int.emod_def]
      have h1 : (D 91 k - v) / D 90 k ≤ (D 91 k - u) / D 90 k := Int.ediv_le_ediv (by omega) (by omega)
      have h2 := Int.mul_le_mul_of_nonneg_left h1 (show 0 ≤ D 90 k by omega)
      omega
  · rw [nx_t D k u hb, nx_t D k v hb]; omega
theorem nx_fr {D D' : Nat → Int → Int} (h : ∀ (b : Nat) (j : Int), 88 ≤ b → b ≤ 91 → D' b j = D b j) (bt k u : Int) : nxq D' bt k u = nxq D bt k u := by
  unfold nxq
  rw [h 88 k (by omega) (by omega), h 89 k (by omega) (by omega), h 90 k (by omega) (by omega), h 91 k (by omega) (by omega)]
theorem WY_fr {D D' : Nat → Int → Int} (h : ∀ (b : Nat) (j : Int), (8 ≤ b ∧ b ≤ 11) ∨ (88 ≤ b ∧ b ≤ 91) → D' b j = D b j) (w : WY D) : WY D' := by
  intro j j0 j1
  rw [h 8 j (by omega), h 9 j (by omega), h 10 j (by omega), h 11 j (by omega), h 88 j (by omega), h 89 j (by omega), h 90 j (by omega), h 91 j (by omega)]
  exact w j j0 j1
def Wk (D : Nat → Int → Int) (bt a s : Int) : Nat → Int → Int → Prop
  | 0, y, v => y = a ∧ v = s
  | k + 1, y, v => Wk D bt a s k y v ∨ ∃ x u : Int, 0 ≤ x ∧ x < 8 ∧ Wk D bt a s k x u ∧ 0 < D 88 (8 * x + y) ∧ v = nxq D bt (8 * x + y) u
theorem Wk_S (D : Nat → Int → Int) (bt a s : Int) (k : Nat) (y v : Int) : Wk D bt a s (k + 1) y v = (Wk D bt a s k y v ∨ ∃ x u : Int, 0 ≤ x ∧ x < 8 ∧ Wk D bt a s k x u ∧ 0 < D 88 (8 * x + y) ∧ v = nxq D bt (8 * x + y) u) := rfl
theorem Wk_up {D : Nat → Int → Int} {bt a s y v : Int} {k : Nat} (h : Wk D bt a s k y v) : Wk D bt a s (k + 1) y v := Or.inl h
theorem Wk_go {D : Nat → Int → Int} {bt a s x y u : Int} {k : Nat} (x0 : 0 ≤ x) (x1 : x < 8) (h : Wk D bt a s k x u) (m : 0 < D 88 (8 * x + y)) : Wk D bt a s (k + 1) y (nxq D bt (8 * x + y) u) := Or.inr ⟨x, u, x0, x1, h, m, rfl⟩
theorem Wk_mo {D : Nat → Int → Int} {bt a s y v : Int} {k : Nat} (h : Wk D bt a s k y v) : ∀ j : Nat, Wk D bt a s (k + j) y v
  | 0 => h
  | j + 1 => Wk_up (Wk_mo h j)
theorem Wk_ge {D : Nat → Int → Int} (w : WY D) {bt a s : Int} : ∀ (k : Nat) (y v : Int), 0 ≤ y → y < 8 → Wk D bt a s k y v → s ≤ v
  | 0, y, v, _, _, h => by have := h.2; omega
  | k + 1, y, v, y0, y1, h => by
    rcases h with h | ⟨x, u, x0, x1, h, m, e⟩
    · exact Wk_ge w k y v y0 y1 h
    · have h1 := Wk_ge w k x u x0 x1 h
      have h2 := nx_ge w bt (k := 8 * x + y) u (by omega) (by omega)
      omega
theorem Wk_le {D : Nat → Int → Int} (w : WY D) {bt a s : Int} : ∀ (k : Nat) (y v : Int), 0 ≤ y → y < 8 → Wk D bt a s k y v → v ≤ s + 2040 * k
  | 0, y, v, _, _, h => by have := h.2; omega
  | k + 1, y, v, y0, y1, h => by
    rcases h with h | ⟨x, u, x0, x1, h, m, e⟩
    · have := Wk_le w k y v y0 y1 h; omega
    · have h1 := Wk_le w k x u x0 x1 h
      have h2 := nx_le w bt (k := 8 * x + y) u (by omega) (by omega)
      omega
theorem Wk_fr {D D' : Nat → Int → Int} (e : ∀ (b : Nat) (j : Int), 88 ≤ b → b ≤ 91 → D' b j = D b j) {bt a s : Int} : ∀ (k : Nat) (y v : Int), Wk D bt a s k y v → Wk D' bt a s k y v
  | 0, y, v, h => h
  | k + 1, y, v, h => by
    rcases h with h | ⟨x, u, x0, x1, h, m, q⟩
    · exact Or.inl (Wk_fr e k y v h)
    · exact Or.inr ⟨x, u, x0, x1, Wk_fr e k x u h, by rw [e 88 _ (by omega) (by omega)]; exact m, by rw [nx_fr e]; exact q⟩
/-- v is the least that walks come to y with, or none does -/
def IsL (D : Nat → Int → Int) (bt a s y v : Int) : Prop := (v = 2147483647 ∧ ∀ (k : Nat) (w : Int), ¬ Wk D bt a s k y w) ∨ (v < 2147483647 ∧ Wk D bt a s 8 y v ∧ ∀ (k : Nat) (w : Int), Wk D bt a s k y w → v ≤ w)
theorem IsL_u {D : Nat → Int → Int} {bt a s y v w : Int} (h : IsL D bt a s y v) (g : IsL D bt a s y w) : v = w := by
  rcases h with ⟨h1, h2⟩ | ⟨h1, h2, h3⟩
  · rcases g with ⟨g1, g2⟩ | ⟨g1, g2, g3⟩
    · omega
    · exact absurd g2 (h2 8 w)
  · rcases g with ⟨g1, g2⟩ | ⟨g1, g2, g3⟩
    · exact absurd h2 (g2 8 v)
    · have := h3 8 w g2
      have := g3 8 v h2
      omega
noncomputable def erq (D : Nat → Int → Int) (bt a s y : Int) : Int := Classical.epsilon (fun v => IsL D bt a s y v)
theorem er_is {D : Nat → Int → Int} {bt a s y v : Int} (h : IsL D bt a s y v) : v = erq D bt a s y := IsL_u h (Classical.epsilon_spec (p := fun v => IsL D bt a s y v) ⟨v, h⟩)
theorem er_L {D : Nat → Int → Int} {bt a s y v : Int} (h : IsL D bt a s y v) : IsL D bt a s y (erq D bt a s y) := Classical.epsilon_spec (p := fun v => IsL D bt a s y v) ⟨v, h⟩
theorem er_fr {D D' : Nat → Int → Int} (e : ∀ (b : Nat) (j : Int), 88 ≤ b → b ≤ 91 → D' b j = D b j) (bt a s y : Int) : erq D' bt a s y = erq D bt a s y := by
  have e' : ∀ (b : Nat) (j : Int), 88 ≤ b → b ≤ 91 → D b j = D' b j := fun b j h1 h2 => (e b j h1 h2).symm
  have q : (fun v => IsL D' bt a s y v) = fun v => IsL D bt a s y v := by
    funext v
    refine propext ⟨fun h => ?_, fun h => ?_⟩
    · rcases h with ⟨h1, h2⟩ | ⟨h1, h2, h3⟩
      · exact Or.inl ⟨h1, fun k w g => h2 k w (Wk_fr e k y w g)⟩
      · exact Or.inr ⟨h1, Wk_fr e' 8 y v h2, fun k w g => h3 k w (Wk_fr e k y w g)⟩
    · rcases h with ⟨h1, h2⟩ | ⟨h1, h2, h3⟩
      · exact Or.inl ⟨h1, fun k w g => h2 k w (Wk_fr e' k y w g)⟩
      · exact Or.inr ⟨h1, Wk_fr e 8 y v h2, fun k w g => h3 k w (Wk_fr e' k y w g)⟩
  unfold erq
  rw [q]
/-- what is closed under the ways lies below all walks -/
theorem cl_low {D : Nat → Int → Int} {bt a s : Int} (f : Int → Int) (I : Int) (h0 : f a < I ∧ f a ≤ s)
    (hc : ∀ y z : Int, 0 ≤ y → y < 8 → 0 ≤ z → z < 8 → f y < I → 0 < D 88 (8 * y + z) → f z < I ∧ f z ≤ nxq D bt (8 * y + z) (f y)) :
    ∀ (k : Nat) (y v : Int), 0 ≤ y → y < 8 → Wk D bt a s k y v → f y < I ∧ f y ≤ v
  | 0, y, v, _, _, h => by rw [h.1, h.2]; exact h0
  | k + 1, y, v, y0, y1, h => by
    rcases h with h | ⟨x, u, x0, x1, h, m, e⟩
    · exact cl_low f I h0 hc k y v y0 y1 h
    · have h1 := cl_low f I h0 hc k x u x0 x1 h
      have h2 := hc x y x0 x1 y0 y1 h1.1 m
      have h3 := nx_mono (D := D) bt (8 * x + y) h1.2
      exact ⟨h2.1, by omega⟩
/-! sets of yards as bits -/
abbrev hbq (S y : Int) : Prop := jand (jshr S y) 1 = 1
def un (S : Int) : Nat := (if jand (jshr S 0) 1 = 1 then 0 else 1) + (if jand (jshr S 1) 1 = 1 then 0 else 1) + (if jand (jshr S 2) 1 = 1 then 0 else 1) + (if jand (jshr S 3) 1 = 1 then 0 else 1) + (if jand (jshr S 4) 1 = 1 then 0 else 1) + (if jand (jshr S 5) 1 = 1 then 0 else 1) + (if jand (jshr S 6) 1 = 1 then 0 else 1) + (if jand (jshr S 7) 1 = 1 then 0 else 1)
set_option maxRecDepth 100000 in
theorem hb_dec : ∀ S : Fin 256, ∀ y : Fin 8, (0 ≤ jor ((S.val : Nat) : Int) (jshl 1 ((y.val : Nat) : Int)) ∧ jor ((S.val : Nat) : Int) (jshl 1 ((y.val : Nat) : Int)) < 256) ∧ (¬ jand (jshr ((S.val : Nat) : Int) ((y.val : Nat) : Int)) 1 = 1 → un (jor ((S.val : Nat) : Int) (jshl 1 ((y.val : Nat) : Int))) + 1 = un ((S.val : Nat) : Int)) := by decide +kernel
set_option maxRecDepth 100000 in
theorem hb_dec2 : ∀ S : Fin 256, ∀ y z : Fin 8, (jand (jshr (jor ((S.val : Nat) : Int) (jshl 1 ((y.val : Nat) : Int))) ((z.val : Nat) : Int)) 1 = 1) = (z = y ∨ jand (jshr ((S.val : Nat) : Int) ((z.val : Nat) : Int)) 1 = 1) := by
  have : ∀ S : Fin 256, ∀ y z : Fin 8, (decide (jand (jshr (jor ((S.val : Nat) : Int) (jshl 1 ((y.val : Nat) : Int))) ((z.val : Nat) : Int)) 1 = 1)) = (decide (z = y) || decide (jand (jshr ((S.val : Nat) : Int) ((z.val : Nat) : Int)) 1 = 1)) := by decide +kernel
  intro S y z
  have h := this S y z
  rw [← Bool.decide_or] at h
  exact propext (decide_eq_decide.mp h)
set_option maxRecDepth 100000 in
theorem hb_dec3 : ∀ S : Fin 256, un ((S.val : Nat) : Int) = 0 → ∀ y : Fin 8, jand (jshr ((S.val : Nat) : Int) ((y.val : Nat) : Int)) 1 = 1 := by decide +kernel
theorem hb_0 {y : Int} (y0 : 0 ≤ y) (y1 : y < 8) : ¬ hbq 0 y := by
  have : y = 0 ∨ y = 1 ∨ y = 2 ∨ y = 3 ∨ y = 4 ∨ y = 5 ∨ y = 6 ∨ y = 7 := by omega
  rcases this with rfl | rfl | rfl | rfl | rfl | rfl | rfl | rfl <;> decide +kernel
theorem hb_r {S y : Int} (S0 : 0 ≤ S) (S1 : S < 256) (y0 : 0 ≤ y) (y1 : y < 8) : 0 ≤ jor S (jshl 1 y) ∧ jor S (jshl 1 y) < 256 ∧ (¬ hbq S y → un (jor S (jshl 1 y)) + 1 = un S) := by
  obtain ⟨p, rfl⟩ : ∃ p : Nat, S = p := ⟨S.toNat, by omega⟩
  obtain ⟨q, rfl⟩ : ∃ q : Nat, y = q := ⟨y.toNat, by omega⟩
  have h := hb_dec ⟨p, by omega⟩ ⟨q, by omega⟩
  exact ⟨h.1.1, h.1.2, h.2⟩
theorem hb_s {S y z : Int} (S0 : 0 ≤ S) (S1 : S < 256) (y0 : 0 ≤ y) (y1 : y < 8) (z0 : 0 ≤ z) (z1 : z < 8) : hbq (jor S (jshl 1 y)) z ↔ z = y ∨ hbq S z := by
  obtain ⟨p, rfl⟩ : ∃ p : Nat, S = p := ⟨S.toNat, by omega⟩
  obtain ⟨q, rfl⟩ : ∃ q : Nat, y = q := ⟨y.toNat, by omega⟩
  obtain ⟨r, rfl⟩ : ∃ r : Nat, z = r := ⟨z.toNat, by omega⟩
  have h := hb_dec2 ⟨p, by omega⟩ ⟨q, by omega⟩ ⟨r, by omega⟩
  have e : ((⟨r, by omega⟩ : Fin 8) = ⟨q, by omega⟩) = (((r : Nat) : Int) = ((q : Nat) : Int)) := propext ⟨fun h => by have := congrArg Fin.val h; simp only at this; omega, fun h => by apply Fin.ext; show r = q; omega⟩
  rw [e] at h
  exact iff_of_eq h
theorem hb_a {S y : Int} (S0 : 0 ≤ S) (S1 : S < 256) (u : un S = 0) (y0 : 0 ≤ y) (y1 : y < 8) : hbq S y := by
  obtain ⟨p, rfl⟩ : ∃ p : Nat, S = p := ⟨S.toNat, by omega⟩
  obtain ⟨q, rfl⟩ : ∃ q : Nat, y = q := ⟨y.toNat, by omega⟩
  exact hb_dec3 ⟨p, by omega⟩ u ⟨q, by omega⟩
theorem un_0 : un 0 = 8 := by decide +kernel
theorem p_hasBit (d : Nat) (S y : Int) (m : tqM) : tqden tqP (d + 1) n_X11_hasBit [vI S, vI y] m = some (some (vI (if hbq S y then 1 else 0)), m) := by
  rw [dn_X11_hasBit, b_X11_hasBit_0]
  simp only [z_cd]
  by_cases c : jand (jshr S y) 1 = 1
  · rw [if_neg (fun h => h c), if_pos c]
  · rw [if_pos c, if_neg c]
