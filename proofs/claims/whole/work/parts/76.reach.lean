/-! ===== Ways.reach, the rounds ===== -/
def DJ (D : Nat → Int → Int) (A : Nat) (bt a s S : Int) (r : Nat) : Prop := (0 ≤ S ∧ S < 256 ∧ un S + r = 8) ∧ (∀ y : Int, 0 ≤ y → y < 8 → D A y = 2147483647 ∨ (D A y < 2147483647 ∧ Wk D bt a s r y (D A y))) ∧ (∀ y z : Int, 0 ≤ y → y < 8 → 0 ≤ z → z < 8 → hbq S y → D A y < 2147483647 ∧ (¬ hbq S z → D A y ≤ D A z)) ∧ (∀ y z : Int, 0 ≤ y → y < 8 → 0 ≤ z → z < 8 → hbq S y → 0 < D 88 (8 * y + z) → D A z ≤ nxq D bt (8 * y + z) (D A y)) ∧ D A a ≤ s
theorem DJ_fin {D : Nat → Int → Int} {A : Nat} {bt a s S : Int} {r : Nat} (w : WY D) (s0 : 0 ≤ s) (s1 : s ≤ 10000000) (h : DJ D A bt a s S r) (n : ∀ y : Int, 0 ≤ y → y < 8 → ¬ hbq S y → 2147483647 ≤ D A y) : ∀ y : Int, 0 ≤ y → y < 8 → IsL D bt a s y (D A y) := by
  obtain ⟨⟨h1, h2, h3⟩, h4, h5, h6, h7⟩ := h
  have low := cl_low (D := D) (bt := bt) (a := a) (s := s) (D A) 2147483647 ⟨by omega, h7⟩ (fun y z y0 y1 z0 z1 f m => by
    have hy : hbq S y := by
      by_cases q : hbq S y
      · exact q
      · have := n y y0 y1 q; omega
    have k := h6 y z y0 y1 z0 z1 hy m
    have k2 := nx_le w bt (k := 8 * y + z) (D A y) (by omega) (by omega)
    have k3 : D A y ≤ s + 2040 * r := by
      rcases h4 y y0 y1 with q | q
      · omega
      · exact Wk_le w r y _ y0 y1 q.2
    exact ⟨by omega, k⟩)
  intro y y0 y1
  rcases h4 y y0 y1 with q | q
  · refine Or.inl ⟨q, fun k v g => ?_⟩
    have := (low k y v y0 y1 g).1
    omega
  · refine Or.inr ⟨q.1, ?_, fun k v g => (low k y v y0 y1 g).2⟩
    have e : r + (8 - r) = 8 := by omega
    rw [← e]
    exact Wk_mo q.2 _
theorem jmin_le (x y : Int) : jmin x y ≤ x ∧ jmin x y ≤ y ∧ (jmin x y = x ∨ (jmin x y = y ∧ y < x)) := by
  unfold jmin
  by_cases c : y < x
  · rw [if_pos c]; exact ⟨by omega, by omega, Or.inr ⟨rfl, c⟩⟩
  · rw [if_neg c]; exact ⟨by omega, by omega, Or.inl rfl⟩
theorem DJ_step {D D' : Nat → Int → Int} {A : Nat} {bt a s S b : Int} {r : Nat} (w : WY D) (o : oka A) (a0 : 0 ≤ a) (a1 : a < 8) (h : DJ D A bt a s S r) (hr : r < 8) (b0 : 0 ≤ b) (b1 : b < 8) (hbb : ¬ hbq S b) (hfb : D A b < 2147483647) (hn : ∀ y : Int, 0 ≤ y → y < 8 → ¬ hbq S y → D A b ≤ D A y) (of : Ofq A D D')
    (v : ∀ w : Int, 0 ≤ w → w < 8 → D' A w = if 0 ≤ w ∧ 0 < D 88 (8 * b + w) then jmin (D A w) (nxq D bt (8 * b + w) (D A b)) else D A w) : DJ D' A bt a s (jor S (jshl 1 b)) (r + 1) := by
  obtain ⟨⟨h1, h2, h3⟩, h4, h5, h6, h7⟩ := h
  obtain ⟨k1, k2, k3⟩ := hb_r h1 h2 b0 b1
  have k4 := k3 hbb
  have ew := Ofq_w of o
  have le : ∀ z : Int, 0 ≤ z → z < 8 → D' A z ≤ D A z ∧ (0 < D 88 (8 * b + z) → D' A z ≤ nxq D bt (8 * b + z) (D A b)) ∧ (D' A z = D A z ∨ (0 < D 88 (8 * b + z) ∧ D' A z = nxq D bt (8 * b + z) (D A b) ∧ D' A z < D A z)) := by
    intro z z0 z1
    have q := v z z0 z1
    have j := jmin_le (D A z) (nxq D bt (8 * b + z) (D A b))
    by_cases c : 0 < D 88 (8 * b + z)
    · rw [if_pos ⟨z0, c⟩] at q
      rw [q]
      exact ⟨j.1, fun _ => j.2.1, by rcases j.2.2 with t | t; exact Or.inl t; exact Or.inr ⟨c, t.1, by rw [t.1]; exact t.2⟩⟩
    · rw [if_neg (fun t => c t.2)] at q
      rw [q]
      exact ⟨Int.le_refl _, fun t => absurd t c, Or.inl rfl⟩
  have ge : ∀ z : Int, 0 ≤ z → z < 8 → D A b ≤ nxq D bt (8 * b + z) (D A b) := fun z z0 z1 => nx_ge w bt _ (by omega) (by omega)
  have st : ∀ y : Int, 0 ≤ y → y < 8 → (y = b ∨ hbq S y) → D' A y = D A y ∧ D A y ≤ D A b ∧ D A y < 2147483647 := by
    intro y y0 y1 q
    have t : D A y ≤ D A b := by
      rcases q with q | q
      · rw [q]; exact Int.le_refl _
      · exact (h5 y b y0 y1 b0 b1 q).2 hbb
    have g := ge y y0 y1
    refine ⟨?_, t, by omega⟩
    rcases (le y y0 y1).2.2 with e | ⟨_, e1, e2⟩
    · exact e
    · omega
  refine ⟨⟨k1, k2, by omega⟩, ?_, ?_, ?_, ?_⟩
  · intro y y0 y1
    rcases (le y y0 y1).2.2 with e | ⟨e0, e1, e2⟩
    · rw [e]
      rcases h4 y y0 y1 with q | q
      · exact Or.inl q
      · exact Or.inr ⟨q.1, Wk_up (Wk_fr ew r y _ q.2)⟩
    · have hw : Wk D bt a s r b (D A b) := by
        rcases h4 b b0 b1 with q | q
        · omega
        · exact q.2
      have t := Wk_go b0 b1 hw e0
      rw [← e1] at t
      refine Or.inr ⟨?_, Wk_fr ew (r + 1) y _ t⟩
      rcases h4 y y0 y1 with q | q <;> omega
  · intro y z y0 y1 z0 z1 hy
    rw [hb_s h1 h2 b0 b1 y0 y1] at hy
    obtain ⟨p1, p2, p3⟩ := st y y0 y1 hy
    refine ⟨by omega, fun hz => ?_⟩
    rw [hb_s h1 h2 b0 b1 z0 z1] at hz
    have hz2 : ¬ hbq S z := fun t => hz (Or.inr t)
    have q1 := hn z z0 z1 hz2
    have g := ge z z0 z1
    rcases (le z z0 z1).2.2 with e | ⟨e0, e1, e2⟩
    · omega
    · omega
  · intro y z y0 y1 z0 z1 hy m
    rw [hb_s h1 h2 b0 b1 y0 y1] at hy
    obtain ⟨p1, p2, p3⟩ := st y y0 y1 hy
    rw [p1, nx_fr ew]
    rw [ew 88 _ (by omega) (by omega)] at m
    rcases hy with e | e
    · rw [e] at m ⊢
      exact (le z z0 z1).2.1 m
    · have t1 := h6 y z y0 y1 z0 z1 e m
      have t2 := (le z z0 z1).1
      omega
  · have := (le a a0 a1).1; omega
set_option maxRecDepth 100000 in
set_option maxHeartbeats 400000 in
theorem p_r34 (d L n A : Nat) (hs : ∀ D, (tzW D L n).2.2.1 A = (1, 8)) (o : oka A) {bt : Int} (hbt : bt = 0 ∨ bt = 1) {a s : Int} (a0 : 0 ≤ a) (a1 : a < 8) (s0 : 0 ≤ s) (s1 : s ≤ 10000000) : ∀ (j r : Nat) (S : Int) (D : Nat → Int → Int), r + j = 8 → WY D → (∀ y : Int, 0 ≤ y → y < 8 → D 88 (9 * y) = 0) → DJ D A bt a s S r →
    ∃ D', tqrun tqP (d + 3) tqc_X10_reach 34 [vR 7, vU, vU, vI bt, vR A, vI S, vI (r : Int), vU, vU] [] (tzW D L n) = some (none, tzW D' L n) ∧ Ofq A D D' ∧ ∀ y : Int, 0 ≤ y → y < 8 → IsL D' bt a s y (D' A y)
  | 0, r, S, D, hr, w, hd, h => by
    refine ⟨D, ?_, Ofq_r A D, DJ_fin w s0 s1 h (fun y y0 y1 q => absurd (hb_a h.1.1 h.1.2.1 (by have := h.1.2.2; omega) y0 y1) q)⟩
    have c : (8 : Int) ≤ (r : Int) := by omega
    rw [b_X10_reach_34]
    simp only [z_cd, i10, i11, dnn, rdU, eW, eU, tzC_w, w_shp, w_ptr, Nat.beq_refl, nbz, nb133, nb75, nb55, nb67, n133a, n133b, n75a, n75b, aT, aR, oT, oR, oF, oG, kT, kF, bI, bL, bR, b0, Classical.not_not, not_true_eq_false, not_false_eq_true, and_self, and_true, true_and, ↓reduceIte, decide_true, decide_false, Nat.reduceEqDiff, Nat.reduceLT, Nat.reduceLeDiff, Int.reduceEq, c]
  | j + 1, r, S, D, hr, w, hd, h => by
    have c : ¬ (8 : Int) ≤ (r : Int) := by omega
    obtain ⟨b, n1, n2⟩ := p_near d L n A D hs S 8 0 (-9) 2147483647 (by omega) (by omega) (Or.inl ⟨rfl, rfl, fun y y0 y1 _ => by omega⟩)
    have n3 : tqden tqP (d + 2) n_X10_nearest [vR A, vI S] (tzW D L n) = some (some (vI b), tzW D L n) := by
      rw [dn_X10_nearest, b_X10_nearest_0]; exact n1
    rcases n2 with ⟨rfl, q⟩ | ⟨b0, b1, hbb, hfb, hn⟩
    · refine ⟨D, ?_, Ofq_r A D, DJ_fin w s0 s1 h q⟩
      rw [b_X10_reach_34]
      simp only [z_cd, i10, i11, dnn, rdU, eW, eU, tzC_w, w_shp, w_ptr, Nat.beq_refl, nbz, nb133, nb75, nb55, nb67, n133a, n133b, n75a, n75b, aT, aR, oT, oR, oF, oG, kT, kF, bI, bL, bR, b0, Classical.not_not, not_true_eq_false, not_false_eq_true, and_self, and_true, true_and, ↓reduceIte, decide_true, decide_false, Nat.reduceEqDiff, Nat.reduceLT, Nat.reduceLeDiff, Int.reduceEq, c, n3]
    · have nb : ¬ b = -9 := by omega
      have hv : 0 ≤ D A b ∧ D A b ≤ 100000000 := by
        rcases h.2.1 b b0 b1 with q | q
        · omega
        · have t1 := Wk_ge w r b _ b0 b1 q.2
          have t2 := Wk_le w r b _ b0 b1 q.2
          omega
      obtain ⟨D1, r1, r2, r3⟩ := p_r70 (d + 1) L n A hs o hbt b0 b1 (jor S (jshl 1 b)) (r : Int) 8 0 D (by omega) (by omega) w hv.1 hv.2 (hd b b0 b1)
      have st := DJ_step w o a0 a1 h (by omega) b0 b1 hbb hfb hn r2 r3
      obtain ⟨D2, u1, u2, u3⟩ := p_r34 d L n A hs o hbt a0 a1 s0 s1 j (r + 1) (jor S (jshl 1 b)) D1 (by omega) (Ofq_y r2 o w) (fun y y0 y1 => by rw [Ofq_w r2 o 88 _ (by omega) (by omega)]; exact hd y y0 y1) st
      refine ⟨D2, ?_, Ofq_t r2 u2, u3⟩
      have e := w32_s r (by omega)
      rw [e] at r1
      rw [← u1, ← r1, b_X10_reach_34]
      simp only [z_cd, i10, i11, dnn, rdU, eW, eU, tzC_w, w_shp, w_ptr, Nat.beq_refl, nbz, nb133, nb75, nb55, nb67, n133a, n133b, n75a, n75b, aT, aR, oT, oR, oF, oG, kT, kF, bI, bL, bR, b0, Classical.not_not, not_true_eq_false, not_false_eq_true, and_self, and_true, true_and, ↓reduceIte, decide_true, decide_false, Nat.reduceEqDiff, Nat.reduceLT, Nat.reduceLeDiff, Int.reduceEq, c, n3, nb]
theorem IsL_fr {D D' : Nat → Int → Int} (e : ∀ (b : Nat) (j : Int), 88 ≤ b → b ≤ 91 → D' b j = D b j) {bt a s y v : Int} (h : IsL D' bt a s y v) : IsL D bt a s y v := by
  have e' : ∀ (b : Nat) (j : Int), 88 ≤ b → b ≤ 91 → D b j = D' b j := fun b j h1 h2 => (e b j h1 h2).symm
  rcases h with ⟨h1, h2⟩ | ⟨h1, h2, h3⟩
  · exact Or.inl ⟨h1, fun k w g => h2 k w (Wk_fr e k y w g)⟩
  · exact Or.inr ⟨h1, Wk_fr e' 8 y v h2, fun k w g => h3 k w (Wk_fr e k y w g)⟩
theorem tzF_i {D : Nat → Int → Int} {a : Nat} {lo hi x k : Int} (h0 : lo ≤ k) (h1 : k < hi) : tzF D a lo hi x a k = x := by unfold tzF; rw [if_pos rfl, if_pos ⟨h0, h1⟩]
set_option maxRecDepth 100000 in
set_option maxHeartbeats 400000 in
theorem p_reachL (d L n A : Nat) (D : Nat → Int → Int) (hs : ∀ D, (tzW D L n).2.2.1 A = (1, 8)) (o : oka A) {bt : Int} (hbt : bt = 0 ∨ bt = 1) {a s : Int} (a0 : 0 ≤ a) (a1 : a < 8) (s0 : 0 ≤ s) (s1 : s ≤ 10000000) (w : WY D) (hd : ∀ y : Int, 0 ≤ y → y < 8 → D 88 (9 * y) = 0) :
    ∃ D', tqden tqP (d + 3) n_X10_reach [vR 7, vI a, vI s, vI bt, vR A] (tzW D L n) = some (none, tzW D' L n) ∧ Ofq A D D' ∧ ∀ y : Int, 0 ≤ y → y < 8 → IsL D bt a s y (D' A y) := by
  have hfi := s_fill (d + 1) D L n A 8 2147483647 (by decide) hs
  have hO : Ofq A D (tzU (tzF D A 0 ((8 : Nat) : Int) 2147483647) A a s) := Ofq_t (Ofq_F D A _ _ _) (Ofq_U _ A a s)
  have hy : 0 ≤ a ∧ a ≤ 7 := ⟨a0, by omega⟩
  have hb2 : tqib a 8 = true := tqib_y (by omega) (by omega)
  have v1 : ∀ y : Int, y ≠ a → 0 ≤ y → y < 8 → tzU (tzF D A 0 ((8 : Nat) : Int) 2147483647) A a s A y = 2147483647 := fun y ne y0 y1 => by
    rw [tzU_k _ _ _ _ ne]; exact tzF_i y0 (by omega)
  have v2 : tzU (tzF D A 0 ((8 : Nat) : Int) 2147483647) A a s A a = s := tzU_s _ _ _ _
  have dj : DJ (tzU (tzF D A 0 ((8 : Nat) : Int) 2147483647) A a s) A bt a s 0 0 := by
    refine ⟨⟨by omega, by omega, un_0⟩, ?_, ?_, ?_, ?_⟩
    · intro y y0 y1
      by_cases e : y = a
      · rw [e, v2]; exact Or.inr ⟨by omega, rfl, rfl⟩
      · exact Or.inl (v1 y e y0 y1)
    · intro y z y0 y1 _ _ q; exact absurd q (hb_0 y0 y1)
    · intro y z y0 y1 _ _ q; exact absurd q (hb_0 y0 y1)
    · rw [v2]; exact Int.le_refl _
  obtain ⟨D', r1, r2, r3⟩ := p_r34 d L n A hs o hbt a0 a1 s0 s1 8 0 0 _ (by omega) (Ofq_y hO o w) (fun y y0 y1 => by rw [Ofq_w hO o 88 _ (by omega) (by omega)]; exact hd y y0 y1) dj
  have of := Ofq_t hO r2
  refine ⟨D', ?_, of, fun y y0 y1 => IsL_fr (Ofq_w of o) (r3 y y0 y1)⟩
  rw [← r1, dn_X10_reach, b_X10_reach_0]
  have z : ((0 : Nat) : Int) = 0 := rfl
  simp only [z_cd, i10, i11, dnn, rdU, eW, eU, tzC_w, w_shp, w_ptr, Nat.beq_refl, nbz, nb133, nb75, nb55, nb67, n133a, n133b, n75a, n75b, aT, aR, oT, oR, oF, oG, kT, kF, bI, bL, bR, b0, Classical.not_not, not_true_eq_false, not_false_eq_true, and_self, and_true, true_and, ↓reduceIte, decide_true, decide_false, Nat.reduceEqDiff, Nat.reduceLT, Nat.reduceLeDiff, Int.reduceEq, hfi, p_isYard, hy, hs, ble11, ble18, c88, hb2, z, Int.reduceLE]
theorem er_ok {D : Nat → Int → Int} (w : WY D) (hd : ∀ y : Int, 0 ≤ y → y < 8 → D 88 (9 * y) = 0) {bt : Int} (hbt : bt = 0 ∨ bt = 1) {a s y : Int} (a0 : 0 ≤ a) (a1 : a < 8) (s0 : 0 ≤ s) (s1 : s ≤ 10000000) (y0 : 0 ≤ y) (y1 : y < 8) : IsL D bt a s y (erq D bt a s y) := by
  obtain ⟨D', _, _, h⟩ := p_reachL 0 0 0 12 D (fun _ => rfl) (Or.inl rfl) hbt a0 a1 s0 s1 w hd
  exact er_L (h y y0 y1)
theorem p_reach (d L n A : Nat) (D : Nat → Int → Int) (hs : ∀ D, (tzW D L n).2.2.1 A = (1, 8)) (o : oka A) {bt : Int} (hbt : bt = 0 ∨ bt = 1) {a s : Int} (a0 : 0 ≤ a) (a1 : a < 8) (s0 : 0 ≤ s) (s1 : s ≤ 10000000) (w : WY D) (hd : ∀ y : Int, 0 ≤ y → y < 8 → D 88 (9 * y) = 0) :
    ∃ D', tqden tqP (d + 3) n_X10_reach [vR 7, vI a, vI s, vI bt, vR A] (tzW D L n) = some (none, tzW D' L n) ∧ Ofq A D D' ∧ ∀ y : Int, 0 ≤ y → y < 8 → D' A y = erq D bt a s y := by
  obtain ⟨D', h1, h2, h3⟩ := p_reachL d L n A D hs o hbt a0 a1 s0 s1 w hd
  exact ⟨D', h1, h2, fun y y0 y1 => er_is (h3 y y0 y1)⟩
/-- what is known of an earliest minute -/
theorem er_b {D : Nat → Int → Int} (w : WY D) {bt a s y v : Int} (y0 : 0 ≤ y) (y1 : y < 8) (h : IsL D bt a s y v) : v = 2147483647 ∨ (s ≤ v ∧ v ≤ s + 16320) := by
  rcases h with ⟨h1, _⟩ | ⟨_, h2, _⟩
  · exact Or.inl h1
  · have t1 := Wk_ge w 8 y v y0 y1 h2
    have t2 := Wk_le w 8 y v y0 y1 h2
    exact Or.inr ⟨t1, by omega⟩
