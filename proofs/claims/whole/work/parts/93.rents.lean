/-! ===== rents: the least cost from a day on ===== -/
def cstq (own p f l x b nd : Int) : Int := p * x + f * jmax (x - b) 0 + l * jmax (nd - own - x) 0
theorem mulq_b {a b : Int} (a0 : 0 ≤ a) (a1 : a ≤ 1000) (h0 : 0 ≤ b) (h1 : b ≤ 9) : 0 ≤ a * b ∧ a * b ≤ 9000 := by
  have : b = 0 ∨ b = 1 ∨ b = 2 ∨ b = 3 ∨ b = 4 ∨ b = 5 ∨ b = 6 ∨ b = 7 ∨ b = 8 ∨ b = 9 := by omega
  rcases this with rfl | rfl | rfl | rfl | rfl | rfl | rfl | rfl | rfl | rfl <;> omega
theorem jm0 {x : Int} (h : x ≤ 9) : 0 ≤ jmax x 0 ∧ jmax x 0 ≤ 9 := by
  have := jmax_c x 0
  omega
def okq (own p f l : Int) : Prop := (0 ≤ own ∧ own ≤ 9) ∧ (0 ≤ p ∧ p ≤ 1000) ∧ (0 ≤ f ∧ f ≤ 1000) ∧ (0 ≤ l ∧ l ≤ 1000)
theorem cstq_b {own p f l x b nd : Int} (h : okq own p f l) (x0 : 0 ≤ x) (x1 : x ≤ 9) (y0 : 0 ≤ b) (n1 : nd ≤ 9) : (0 ≤ p * x ∧ p * x ≤ 9000) ∧ (0 ≤ f * jmax (x - b) 0 ∧ f * jmax (x - b) 0 ≤ 9000) ∧ (0 ≤ l * jmax (nd - own - x) 0 ∧ l * jmax (nd - own - x) 0 ≤ 9000) := by
  obtain ⟨h1, h2, h3, h4⟩ := h
  have a := jm0 (x := x - b) (by omega)
  have c := jm0 (x := nd - own - x) (by omega)
  exact ⟨mulq_b h2.1 h2.2 x0 x1, mulq_b h3.1 h3.2 a.1 a.2, mulq_b h4.1 h4.2 c.1 c.2⟩
theorem cstq_r {own p f l x b nd : Int} (h : okq own p f l) (x0 : 0 ≤ x) (x1 : x ≤ 9) (y0 : 0 ≤ b) (n1 : nd ≤ 9) : 0 ≤ cstq own p f l x b nd ∧ cstq own p f l x b nd ≤ 27000 := by
  have := cstq_b h x0 x1 y0 n1
  unfold cstq
  omega
def fbq (g : Int → Int) : Nat → Int × Int
  | 0 => (0, 2147483647)
  | k + 1 => if g k < (fbq g k).2 then ((k : Int), g k) else fbq g k
theorem fbq_S (g : Int → Int) (k : Nat) : fbq g (k + 1) = if g k < (fbq g k).2 then ((k : Int), g k) else fbq g k := rfl
theorem fbq_c {g g' : Int → Int} : ∀ k : Nat, (∀ x : Int, 0 ≤ x → x < k → g' x = g x) → fbq g' k = fbq g k
  | 0, _ => rfl
  | k + 1, h => by rw [fbq_S, fbq_S, fbq_c k (fun x a b => h x a (by omega)), h k (by omega) (by omega)]
theorem fbq_p {g : Int → Int} (hg : ∀ x : Int, 0 ≤ x → x < 10 → g x < 2147483647) : ∀ k : Nat, 0 < k → k ≤ 10 → 0 ≤ (fbq g k).1 ∧ (fbq g k).1 < k ∧ (fbq g k).2 = g (fbq g k).1 ∧ ∀ y : Int, 0 ≤ y → y < k → (fbq g k).2 ≤ g y ∧ (y < (fbq g k).1 → (fbq g k).2 < g y)
  | 0, h, _ => by omega
  | k + 1, _, h => by
    rw [fbq_S]
    by_cases z : k = 0
    · subst z
      have q := hg 0 (by omega) (by omega)
      rw [if_pos (show g ((0 : Nat) : Int) < (fbq g 0).2 from q)]
      refine ⟨by omega, by omega, rfl, fun y a b => ?_⟩
      have : y = 0 := by omega
      subst this
      exact ⟨Int.le_refl _, fun c => by omega⟩
    · obtain ⟨h1, h2, h3, h4⟩ := fbq_p hg k (by omega) (by omega)
      by_cases c : g k < (fbq g k).2
      · rw [if_pos c]
        refine ⟨by omega, by omega, rfl, fun y a b => ?_⟩
        show g k ≤ g y ∧ (y < (k : Int) → g k < g y)
        by_cases e : y = k
        · rw [e]; exact ⟨Int.le_refl _, fun t => by omega⟩
        · have := (h4 y a (by omega)).1
          exact ⟨by omega, fun _ => by omega⟩
      · rw [if_neg c]
        refine ⟨h1, by omega, h3, fun y a b => ?_⟩
        by_cases e : y = k
        · rw [e]; exact ⟨by omega, fun t => by omega⟩
        · exact h4 y a (by omega)
/-- the least from the j last days on, by how many were rented ahead; C j b x: what x cost on the day with j days behind it -/
def Wq (C : Nat → Int → Int → Int) : Nat → Int → Int
  | 0, _ => 0
  | j + 1, b => (fbq (fun x => C j b x + Wq C j x) 10).2
theorem Wq_S (C : Nat → Int → Int → Int) (j : Nat) (b : Int) : Wq C (j + 1) b = (fbq (fun x => C j b x + Wq C j x) 10).2 := rfl
def okC (C : Nat → Int → Int → Int) (N : Nat) : Prop := ∀ (j : Nat) (b x : Int), j < N → 0 ≤ b → b ≤ 9 → 0 ≤ x → x ≤ 9 → 0 ≤ C j b x ∧ C j b x ≤ 27000
theorem Wq_b {C : Nat → Int → Int → Int} {N : Nat} (h : okC C N) (hN : N ≤ 40) : ∀ (j : Nat) (b : Int), j ≤ N → 0 ≤ b → b ≤ 9 → 0 ≤ Wq C j b ∧ Wq C j b ≤ 27000 * j
  | 0, b, _, _, _ => by
    show 0 ≤ (0 : Int) ∧ (0 : Int) ≤ 27000 * ((0 : Nat) : Int)
    omega
  | j + 1, b, hj, h0, h1 => by
    have ih := Wq_b h hN j
    have hg : ∀ x : Int, 0 ≤ x → x < 10 → C j b x + Wq C j x < 2147483647 := fun x a c => by
      have q1 := h j b x (by omega) h0 h1 a (by omega)
      have q2 := ih x (by omega) a (by omega)
      omega
    obtain ⟨p1, p2, p3, p4⟩ := fbq_p (g := fun x => C j b x + Wq C j x) hg 10 (by omega) (by omega)
    rw [Wq_S, p3]
    have q1 := h j b _ (by omega) h0 h1 p1 (by omega)
    have q2 := ih _ (by omega) p1 (by omega)
    show 0 ≤ C j b _ + Wq C j _ ∧ C j b _ + Wq C j _ ≤ 27000 * ((j + 1 : Nat) : Int)
    omega
theorem gq_lt {C : Nat → Int → Int → Int} {N : Nat} (h : okC C N) (hN : N ≤ 40) {j : Nat} {b : Int} (hj : j < N) (h0 : 0 ≤ b) (h1 : b ≤ 9) : ∀ x : Int, 0 ≤ x → x < 10 → 0 ≤ C j b x + Wq C j x ∧ C j b x + Wq C j x < 2147483647 := fun x a c => by
  have q1 := h j b x hj h0 h1 a (by omega)
  have q2 := Wq_b h hN j x (by omega) a (by omega)
  omega
/-! the class -/
def PRc (b : Nat) (j : Int) : Prop := ¬ (b = 50 ∧ j = 7) ∧ b ≠ 51
def Pri (E : Nat → Int → Int) (own p f l : Int) : Prop := E 50 3 = own ∧ E 50 4 = p ∧ E 50 5 = f ∧ E 50 6 = l
theorem Pri_m {E E' : Nat → Int → Int} {own p f l : Int} (h : Pri E own p f l) (s : Sm PRc E E') : Pri E' own p f l := by
  obtain ⟨h1, h2, h3, h4⟩ := h
  exact ⟨(s 50 3 (by unfold PRc; omega)).trans h1, (s 50 4 (by unfold PRc; omega)).trans h2, (s 50 5 (by unfold PRc; omega)).trans h3, (s 50 6 (by unfold PRc; omega)).trans h4⟩
set_option maxRecDepth 100000 in
set_option maxHeartbeats 1000000 in
theorem p_cF (d L n : Nat) (E : Nat → Int → Int) {own p f l : Int} (ok : okq own p f l) (pr : Pri E own p f l) {dy nd b x : Int} (d0 : 0 ≤ dy) (d1 : dy < 40) (n0 : 0 ≤ nd) (n1 : nd ≤ 9) (y0 : 0 ≤ b) (y1 : b ≤ 9) (x0 : 0 ≤ x) (x1 : x ≤ 9) (w0 : 0 ≤ E 51 (10 * (dy + 1) + x)) (w1 : E 51 (10 * (dy + 1) + x) ≤ 2000000) : tqden tqP (d + 1) n_X4_costFrom [vR 50, vI dy, vI nd, vI b, vI x] (tzW E L n) = some (some (vI (cstq own p f l x b nd + E 51 (10 * (dy + 1) + x))), tzW E L n) := by
  obtain ⟨p1, p2, p3, p4⟩ := pr
  obtain ⟨k1, k2, k3⟩ := cstq_b ok x0 x1 y0 n1 (b := b)
  have o1 := ok.1
  have hb : tqib (10 * (dy + 1) + x) 410 = true := tqib_y (by omega) (by omega)
  have e0 : w32 (x - b) = x - b := w32_i (by omega) (by omega)
  have e1 : w32 (w32 (nd - own) - x) = nd - own - x := by rw [w32_i (x := nd - own) (by clear e0; omega) (by clear e0; omega), w32_i (by clear e0; omega) (by clear e0; omega)]
  have e2 : w32 (p * x) = p * x := w32_i (by clear e0 e1; omega) (by clear e0 e1; omega)
  have e3 : w32 (f * jmax (x - b) 0) = f * jmax (x - b) 0 := w32_i (by clear e0 e1 e2; omega) (by clear e0 e1 e2; omega)
  have e4 : w32 (l * jmax (nd - own - x) 0) = l * jmax (nd - own - x) 0 := w32_i (by clear e0 e1 e2 e3; omega) (by clear e0 e1 e2 e3; omega)
  have e5 : w32 (p * x + f * jmax (x - b) 0) = p * x + f * jmax (x - b) 0 := w32_i (by clear e0 e1 e2 e3 e4; omega) (by clear e0 e1 e2 e3 e4; omega)
  have e6 : w32 (p * x + f * jmax (x - b) 0 + l * jmax (nd - own - x) 0) = p * x + f * jmax (x - b) 0 + l * jmax (nd - own - x) 0 := w32_i (by clear e0 e1 e2 e3 e4 e5; omega) (by clear e0 e1 e2 e3 e4 e5; omega)
  have e7 : w32 (p * x + f * jmax (x - b) 0 + l * jmax (nd - own - x) 0 + E 51 (10 * (dy + 1) + x)) = p * x + f * jmax (x - b) 0 + l * jmax (nd - own - x) 0 + E 51 (10 * (dy + 1) + x) := w32_i (by clear e0 e1 e2 e3 e4 e5 e6; omega) (by clear e0 e1 e2 e3 e4 e5 e6; omega)
  have e8 : w32 (w32 (w32 (dy + 1) * 10) + x) = 10 * (dy + 1) + x := by
    clear e0 e1 e2 e3 e4 e5 e6 e7
    rw [w32_i (x := dy + 1) (by omega) (by omega), w32_i (x := (dy + 1) * 10) (by omega) (by omega), w32_i (by omega) (by omega)]; omega
  unfold cstq
  rw [dn_X4_costFrom, b_X4_costFrom_0]
  simp only [z_cd, i10, i11, dnn, rdU, eW, eU, tzC_w, w_shp, w_ptr, Nat.beq_refl, nbz, nb133, nb75, nb55, nb67, n133a, n133b, n75a, n75b, aT, aR, oT, oR, oF, oG, kT, kF, bI, bL, bR, b0, Classical.not_not, not_true_eq_false, not_false_eq_true, and_self, and_true, true_and, ↓reduceIte, decide_true, decide_false, Nat.reduceEqDiff, Nat.reduceLT, Nat.reduceLeDiff, Int.reduceEq, p1, p2, p3, p4, e8, hb, e0, e1, e2, e3, e4, e5, e6, e7]
set_option maxRecDepth 100000 in
set_option maxHeartbeats 1000000 in
theorem p_fb (d L n : Nat) (E : Nat → Int → Int) {own p f l : Int} (ok : okq own p f l) (pr : Pri E own p f l) {dy nd b : Int} (d0 : 0 ≤ dy) (d1 : dy < 40) (n0 : 0 ≤ nd) (n1 : nd ≤ 9) (y0 : 0 ≤ b) (y1 : b ≤ 9) (hw : ∀ x : Int, 0 ≤ x → x ≤ 9 → 0 ≤ E 51 (10 * (dy + 1) + x) ∧ E 51 (10 * (dy + 1) + x) ≤ 2000000) : ∀ (j k : Nat), k + j = 10 → tqrun tqP (d + 2) tqc_X4_firstBest 12 [vR 50, vI dy, vI nd, vI b, vI (fbq (fun x => cstq own p f l x b nd + E 51 (10 * (dy + 1) + x)) k).1, vI (k : Int), vU] [] (tzW (tzU E 50 7 (fbq (fun x => cstq own p f l x b nd + E 51 (10 * (dy + 1) + x)) k).2) L n) = some (some (vI (fbq (fun x => cstq own p f l x b nd + E 51 (10 * (dy + 1) + x)) 10).1), tzW (tzU E 50 7 (fbq (fun x => cstq own p f l x b nd + E 51 (10 * (dy + 1) + x)) 10).2) L n)
  | 0, k, h => by
    have e : k = 10 := by omega
    subst e
    rw [b_X4_firstBest_12]
    have c : (10 : Int) ≤ ((10 : Nat) : Int) := by decide
    simp only [z_cd, i10, i11, dnn, rdU, eW, eU, tzC_w, w_shp, w_ptr, Nat.beq_refl, nbz, nb133, nb75, nb55, nb67, n133a, n133b, n75a, n75b, aT, aR, oT, oR, oF, oG, kT, kF, bI, bL, bR, b0, Classical.not_not, not_true_eq_false, not_false_eq_true, and_self, and_true, true_and, ↓reduceIte, decide_true, decide_false, Nat.reduceEqDiff, Nat.reduceLT, Nat.reduceLeDiff, Int.reduceEq, c]
  | j + 1, k, h => by
    have c : ¬ (10 : Int) ≤ (k : Int) := by omega
    have ih := p_fb d L n E ok pr d0 d1 n0 n1 y0 y1 hw j (k + 1) (by omega)
    have q := hw k (by omega) (by omega)
    have cf := p_cF d L n (tzU E 50 7 (fbq (fun x => cstq own p f l x b nd + E 51 (10 * (dy + 1) + x)) k).2) ok (Pri_m pr (Sm_U (by unfold PRc; omega) (Sm_r _ _))) (dy := dy) (nd := nd) (b := b) (x := (k : Int)) d0 d1 n0 n1 y0 y1 (by omega) (by omega) q.1 q.2
    have cf2 : tqden tqP (d + 1) n_X4_costFrom [vR 50, vI dy, vI nd, vI b, vI (k : Int)] (tzW (tzU E 50 7 (fbq (fun x => cstq own p f l x b nd + E 51 (10 * (dy + 1) + x)) k).2) L n) = some (some (vI (cstq own p f l (k : Int) b nd + E 51 (10 * (dy + 1) + (k : Int)))), tzW (tzU E 50 7 (fbq (fun x => cstq own p f l x b nd + E 51 (10 * (dy + 1) + x)) k).2) L n) := cf
    clear cf
    rw [fbq_S] at ih
    rw [← ih, b_X4_firstBest_12]
    clear ih
    by_cases z : cstq own p f l (k : Int) b nd + E 51 (10 * (dy + 1) + (k : Int)) < (fbq (fun x => cstq own p f l x b nd + E 51 (10 * (dy + 1) + x)) k).2
    · have z2 : ¬ (fbq (fun x => cstq own p f l x b nd + E 51 (10 * (dy + 1) + x)) k).2 ≤ cstq own p f l (k : Int) b nd + E 51 (10 * (dy + 1) + (k : Int)) := by omega
      rw [if_pos z]
      have w1 := w32_s k (by omega)
      simp only [z_cd, i10, i11, dnn, rdU, eW, eU, tzC_w, w_shp, w_ptr, Nat.beq_refl, nbz, nb133, nb75, nb55, nb67, n133a, n133b, n75a, n75b, aT, aR, oT, oR, oF, oG, kT, kF, bI, bL, bR, b0, Classical.not_not, not_true_eq_false, not_false_eq_true, and_self, and_true, true_and, ↓reduceIte, decide_true, decide_false, Nat.reduceEqDiff, Nat.reduceLT, Nat.reduceLeDiff, Int.reduceEq, c, cf2, z2, w1, tzUU]
    · have z2 : (fbq (fun x => cstq own p f l x b nd + E 51 (10 * (dy + 1) + x)) k).2 ≤ cstq own p f l (k : Int) b nd + E 51 (10 * (dy + 1) + (k : Int)) := by omega
      rw [if_neg z]
      have w1 := w32_s k (by omega)
      simp only [z_cd, i10, i11, dnn, rdU, eW, eU, tzC_w, w_shp, w_ptr, Nat.beq_refl, nbz, nb133, nb75, nb55, nb67, n133a, n133b, n75a, n75b, aT, aR, oT, oR, oF, oG, kT, kF, bI, bL, bR, b0, Classical.not_not, not_true_eq_false, not_false_eq_true, and_self, and_true, true_and, ↓reduceIte, decide_true, decide_false, Nat.reduceEqDiff, Nat.reduceLT, Nat.reduceLeDiff, Int.reduceEq, c, cf2, z2, w1]
set_option maxRecDepth 100000 in
set_option maxHeartbeats 1000000 in
theorem p_first (d L n : Nat) (E : Nat → Int → Int) {own p f l : Int} (ok : okq own p f l) (pr : Pri E own p f l) {dy nd b : Int} (d0 : 0 ≤ dy) (d1 : dy < 40) (n0 : 0 ≤ nd) (n1 : nd ≤ 9) (y0 : 0 ≤ b) (y1 : b ≤ 9) (hw : ∀ x : Int, 0 ≤ x → x ≤ 9 → 0 ≤ E 51 (10 * (dy + 1) + x) ∧ E 51 (10 * (dy + 1) + x) ≤ 2000000) : tqden tqP (d + 2) n_X4_firstBest [vR 50, vI dy, vI nd, vI b] (tzW E L n) = some (some (vI (fbq (fun x => cstq own p f l x b nd + E 51 (10 * (dy + 1) + x)) 10).1), tzW (tzU E 50 7 (fbq (fun x => cstq own p f l x b nd + E 51 (10 * (dy + 1) + x)) 10).2) L n) := by
  have h := p_fb d L n E ok pr d0 d1 n0 n1 y0 y1 hw 10 0 (by omega)
  rw [dn_X4_firstBest, b_X4_firstBest_0]
  simp only [z_cd, i10, i11, dnn, rdU, eW, eU, tzC_w, w_shp, w_ptr, Nat.beq_refl, nbz, nb133, nb75, nb55, nb67, n133a, n133b, n75a, n75b, aT, aR, oT, oR, oF, oG, kT, kF, bI, bL, bR, b0, Classical.not_not, not_true_eq_false, not_false_eq_true, and_self, and_true, true_and, ↓reduceIte, decide_true, decide_false, Nat.reduceEqDiff, Nat.reduceLT, Nat.reduceLeDiff, Int.reduceEq]
  exact h
/-- the class's table holds the least costs from day dy on -/
def Tabq (E : Nat → Int → Int) (a : Nat) (C : Nat → Int → Int → Int) (N : Nat) (dy : Int) : Prop := ∀ (d' : Int) (b : Int), dy ≤ d' → 0 ≤ d' → d' ≤ N → 0 ≤ b → b ≤ 9 → E a (10 * d' + b) = Wq C (N - d').toNat b
set_option maxRecDepth 100000 in
set_option maxHeartbeats 1000000 in
theorem p_37 (d L n A : Nat) {own p f l : Int} (ok : okq own p f l) (hA : ∀ E : Nat → Int → Int, (tzW E L n).2.2.1 A = (1, 40)) (nA : A ≠ 50 ∧ A ≠ 51) {dy nd : Int} (d0 : 0 ≤ dy) (d1 : dy < 40) (n0 : 0 ≤ nd) (n1 : nd ≤ 9) (wf : Int → Int) (hwf : ∀ x : Int, 0 ≤ x → x ≤ 9 → 0 ≤ wf x ∧ wf x ≤ 2000000) : ∀ (j : Nat) (b : Int) (E : Nat → Int → Int), 0 ≤ b → b + j = 10 → Pri E own p f l → E A dy = nd → (∀ x : Int, 0 ≤ x → x ≤ 9 → E 51 (10 * (dy + 1) + x) = wf x) →
    ∃ E', tqrun tqP (d + 3) tqc_X4_planDays 37 [vR 50, vR A, vU, vI dy, vI b] [] (tzW E L n) = tqrun tqP (d + 3) tqc_X4_planDays 30 [vR 50, vR A, vU, vI (dy - 1), vU] [] (tzW E' L n) ∧ Sm PRc E E' ∧ ∀ i : Int, E' 51 i = if 10 * dy + b ≤ i ∧ i < 10 * dy + 10 then (fbq (fun x => cstq own p f l x (i - 10 * dy) nd + wf x) 10).2 else E 51 i
  | 0, b, E, b0', bj, pr, ea, hw => by
    have c : 10 ≤ b := by omega
    refine ⟨E, ?_, Sm_r _ _, fun i => by rw [if_neg (show ¬ (10 * dy + b ≤ i ∧ i < 10 * dy + 10) by omega)]⟩
    have e : w32 (dy + -1) = dy - 1 := (w32_i (x := dy + -1) (by omega) (by omega)).trans (by omega)
    rw [b_X4_planDays_37]
    simp only [z_cd, i10, i11, dnn, rdU, eW, eU, tzC_w, w_shp, w_ptr, Nat.beq_refl, nbz, nb133, nb75, nb55, nb67, n133a, n133b, n75a, n75b, aT, aR, oT, oR, oF, oG, kT, kF, bI, bL, bR, b0, Classical.not_not, not_true_eq_false, not_false_eq_true, and_self, and_true, true_and, ↓reduceIte, decide_true, decide_false, Nat.reduceEqDiff, Nat.reduceLT, Nat.reduceLeDiff, Int.reduceEq, c, e]
  | j + 1, b, E, b0', bj, pr, ea, hw => by
    have c : ¬ 10 ≤ b := by omega
    have hb1 : tqib dy 40 = true := tqib_y (by omega) (by omega)
    have hb2 : tqib (10 * dy + b) 410 = true := tqib_y (by omega) (by omega)
    have fi := p_first d L n E ok pr (dy := dy) (nd := nd) (b := b) d0 d1 n0 n1 b0' (by omega) (fun x a1 a2 => by rw [hw x a1 a2]; exact hwf x a1 a2)
    have eg : fbq (fun x => cstq own p f l x b nd + E 51 (10 * (dy + 1) + x)) 10 = fbq (fun x => cstq own p f l x b nd + wf x) 10 := fbq_c 10 (fun x a1 a2 => by rw [hw x a1 (by omega)])
    rw [eg] at fi
    obtain ⟨R, hR⟩ : ∃ R, R = fbq (fun x => cstq own p f l x b nd + wf x) 10 := ⟨_, rfl⟩
    rw [← hR] at fi
    have s1 : Sm PRc E (tzU (tzU E 50 7 R.2) 51 (10 * dy + b) R.2) := Sm_U (by unfold PRc; omega) (Sm_U (by unfold PRc; omega) (Sm_r _ _))
    obtain ⟨E', r1, r2, r3⟩ := p_37 d L n A ok hA nA d0 d1 n0 n1 wf hwf j (b + 1) (tzU (tzU E 50 7 R.2) 51 (10 * dy + b) R.2) (by omega) (by omega) (Pri_m pr s1) (by rw [tzU_o _ _ _ _ nA.2, tzU_o _ _ _ _ nA.1]; exact ea) (fun x a1 a2 => by rw [tzU_k _ _ _ _ (by omega), tzU_o _ _ _ _ (by omega)]; exact hw x a1 a2)
    refine ⟨E', ?_, Sm_t s1 r2, fun i => ?_⟩
    · have e1 := w1z b0' (by omega)
      have e2 : w32 (w32 (dy * 10) + b) = 10 * dy + b := by
        clear e1
        rw [w32_i (x := dy * 10) (by omega) (by omega), w32_i (by omega) (by omega)]; omega
      rw [← r1, b_X4_planDays_37]
      simp only [z_cd, i10, i11, dnn, rdU, eW, eU, tzC_w, w_shp, w_ptr, Nat.beq_refl, nbz, nb133, nb75, nb55, nb67, n133a, n133b, n75a, n75b, aT, aR, oT, oR, oF, oG, kT, kF, bI, bL, bR, b0, Classical.not_not, not_true_eq_false, not_false_eq_true, and_self, and_true, true_and, ↓reduceIte, decide_true, decide_false, Nat.reduceEqDiff, Nat.reduceLT, Nat.reduceLeDiff, Int.reduceEq, c, hA, hb1, ea, fi, e2, hb2, e1]
    · rw [r3]
      by_cases e : i = 10 * dy + b
      · rw [if_neg (show ¬ (10 * dy + (b + 1) ≤ i ∧ i < 10 * dy + 10) by omega), if_pos (show 10 * dy + b ≤ i ∧ i < 10 * dy + 10 by omega), e, tzU_s, hR, show 10 * dy + b - 10 * dy = b by omega]
      · rw [tzU_k _ _ _ _ e, tzU_o _ _ _ _ (by omega)]
        by_cases q : 10 * dy + (b + 1) ≤ i ∧ i < 10 * dy + 10
        · rw [if_pos q, if_pos (show 10 * dy + b ≤ i ∧ i < 10 * dy + 10 by omega)]
        · rw [if_neg q, if_neg (show ¬ (10 * dy + b ≤ i ∧ i < 10 * dy + 10) by omega)]
