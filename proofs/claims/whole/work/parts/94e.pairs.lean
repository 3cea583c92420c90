/-! ===== pairs: the reference's codes ===== -/
def RKN (B : Nat → Int → Int) (n : Nat) : Prop := RW B ∧ RN B ∧ RK B n
def Vq (x : Int) : Prop := (0 ≤ x ∧ x ≤ 4000000) ∨ x = 2147483647
theorem nv_v {x : Int} (h : Vq x) : (x = 2147483647 ∧ nv x = 100000000) ∨ (x ≤ 4000000 ∧ 0 ≤ x ∧ nv x = x) := by
  rcases h with h | h
  · exact Or.inr ⟨h.2, h.1, nv_n (by omega)⟩
  · exact Or.inl ⟨h, by rw [h]; exact nv_y⟩
theorem Vq_max {x y : Int} (h : Vq x) (g : Vq y) : Vq (jmax x y) := by
  rcases jmax_c x y with q | q
  · rw [q.1]; exact h
  · rw [q.1]; exact g
theorem nv_max {x y : Int} (h : Vq x) (g : Vq y) : jmax (nv x) (nv y) = nv (jmax x y) := by
  have a := nv_v h
  have b := nv_v g
  have c := nv_v (Vq_max h g)
  have q := jmax_c x y
  have p := jmax_c (nv x) (nv y)
  omega
theorem nv_lt {x y : Int} (h : Vq x) (g : Vq y) : (nv x < nv y) ↔ x < y := by
  have a := nv_v h
  have b := nv_v g
  omega
theorem vlq_nv {E : Int → Int → Int} (hE : ∀ a b : Int, Vq (E a b)) : ∀ (M : List (Int × Int)) (w : Int), Vq w → vlq (fun a b => nv (E a b)) (nv w) M = nv (vlq E w M) ∧ Vq (vlq E w M)
  | [], w, h => ⟨rfl, h⟩
  | (a, b) :: M, w, h => by
    show vlq (fun a b => nv (E a b)) (jmax (nv w) (nv (E a b))) M = nv (vlq E (jmax w (E a b)) M) ∧ Vq (vlq E (jmax w (E a b)) M)
    rw [nv_max h (hE a b)]
    exact vlq_nv hE M _ (Vq_max h (hE a b))
theorem swL_b {D : Nat → Int → Int} (w : WY D) (hd : ∀ y : Int, 0 ≤ y → y < 8 → D 88 (9 * y) = 0) {now ya yb hA hB : Int} (ya0 : 0 ≤ ya ∧ ya ≤ 7) (yb0 : 0 ≤ yb ∧ yb ≤ 7) (nw : 0 ≤ now ∧ now ≤ 99999) (yA : 0 ≤ hA ∧ hA ≤ 7) (yB : 0 ≤ hB ∧ hB ≤ 7) : ∀ (j : Nat) (m : Int) (x : Int × Int × Int), 0 ≤ m → m + j = 8 → (x.1 = -9 ∨ (0 ≤ x.1 ∧ 0 ≤ x.2.1 ∧ x.2.1 ≤ 4000000)) → ((swL D now ya yb hA hB j m x).1 = -9 ∨ (0 ≤ (swL D now ya yb hA hB j m x).1 ∧ 0 ≤ (swL D now ya yb hA hB j m x).2.1 ∧ (swL D now ya yb hA hB j m x).2.1 ≤ 4000000))
  | 0, m, x, _, _, h => h
  | j + 1, m, x, m0, mj, h => by
    rw [swL_S]
    refine swL_b w hd ya0 yb0 nw yA yB j (m + 1) _ (by omega) (by omega) ?_
    unfold swN
    by_cases c : erq D 0 ya now m = 2147483647 ∨ erq D 0 yb now m = 2147483647 ∨ swF D now ya yb 0 m hA = 2147483647 ∨ swF D now ya yb 0 m hB = 2147483647
    · rw [if_pos c]; exact h
    · rw [if_neg c]
      by_cases c2 : x.1 < 0 ∨ jmax (swF D now ya yb 0 m hA) (swF D now ya yb 0 m hB) < x.2.1 ∨ (jmax (swF D now ya yb 0 m hA) (swF D now ya yb 0 m hB) = x.2.1 ∧ swF D now ya yb 0 m hA + swF D now ya yb 0 m hB < x.2.2)
      · rw [if_pos c2]
        have T1 := er_b w m0 (by omega) (er_ok w hd (bt := 0) (Or.inl rfl) (a := ya) (s := now) (y := m) (by omega) (by omega) (by omega) (by omega) m0 (by omega))
        have T2 := er_b w m0 (by omega) (er_ok w hd (bt := 0) (Or.inl rfl) (a := yb) (s := now) (y := m) (by omega) (by omega) (by omega) (by omega) m0 (by omega))
        have jc := jmax_c (erq D 0 ya now m) (erq D 0 yb now m)
        have c3 : ¬ erq D 0 ya now m = 2147483647 := fun q => c (Or.inl q)
        have c4 : ¬ erq D 0 yb now m = 2147483647 := fun q => c (Or.inr (Or.inl q))
        have c5 : ¬ swF D now ya yb 0 m hA = 2147483647 := fun q => c (Or.inr (Or.inr (Or.inl q)))
        have c6 : ¬ swF D now ya yb 0 m hB = 2147483647 := fun q => c (Or.inr (Or.inr (Or.inr q)))
        have TA := er_b w (y := hA) (by omega) (by omega) (er_ok w hd (bt := 0) (Or.inl rfl) (a := m) (s := jmax (erq D 0 ya now m) (erq D 0 yb now m) + 10) (y := hA) m0 (by omega) (by omega) (by omega) (by omega) (by omega))
        have TB := er_b w (y := hB) (by omega) (by omega) (er_ok w hd (bt := 0) (Or.inl rfl) (a := m) (s := jmax (erq D 0 ya now m) (erq D 0 yb now m) + 10) (y := hB) m0 (by omega) (by omega) (by omega) (by omega) (by omega))
        rw [← swF_0] at TA TB
        have jd := jmax_c (swF D now ya yb 0 m hA) (swF D now ya yb 0 m hB)
        refine Or.inr ⟨m0, ?_, ?_⟩
        · show 0 ≤ jmax (swF D now ya yb 0 m hA) (swF D now ya yb 0 m hB)
          omega
        · show jmax (swF D now ya yb 0 m hA) (swF D now ya yb 0 m hB) ≤ 4000000
          omega
      · rw [if_neg c2]; exact h
theorem enq_V {B : Nat → Int → Int} {n : Nat} (hR : RKN B n) {H : Int → Int} (hH : ∀ k : Int, 0 ≤ k → k < 6 → 0 ≤ H k ∧ H k ≤ 7) {a b : Int} (a0 : 0 ≤ a) (a1 : a < 6) (h0 : 0 ≤ b) (h1 : b < 6) : Vq (enq B H a b) ∧ ((swL B (B 81 5) (B 105 a) (B 105 b) (H a) (H b) 8 0 (-9, 0, 0)).1 = -9 ∧ enq B H a b = 2147483647 ∨ (0 ≤ (swL B (B 81 5) (B 105 a) (B 105 b) (H a) (H b) 8 0 (-9, 0, 0)).1 ∧ enq B H a b = (swL B (B 81 5) (B 105 a) (B 105 b) (H a) (H b) 8 0 (-9, 0, 0)).2.1 ∧ enq B H a b ≤ 4000000)) := by
  obtain ⟨hW, hN, hK⟩ := id hR
  have ka := hK a.toNat (by omega)
  have kb := hK b.toNat (by omega)
  unfold KR at ka kb
  rw [show ((a.toNat : Nat) : Int) = a by omega] at ka
  rw [show ((b.toNat : Nat) : Int) = b by omega] at kb
  have q := swL_b (WY_of hW) (hd_of hW) (now := B 81 5) (ya := B 105 a) (yb := B 105 b) (hA := H a) (hB := H b) ⟨ka.2.2.2.2.2.1, ka.2.2.2.2.2.2.1⟩ ⟨kb.2.2.2.2.2.1, kb.2.2.2.2.2.2.1⟩ hN.2 (hH a a0 a1) (hH b h0 h1) 8 0 (-9, 0, 0) (by omega) (by omega) (Or.inl rfl)
  unfold enq
  rcases q with q | q
  · rw [if_pos (by omega)]
    exact ⟨Or.inr rfl, Or.inl ⟨q, rfl⟩⟩
  · rw [if_neg (by omega)]
    exact ⟨Or.inl q.2, Or.inr ⟨q.1, rfl, q.2.2⟩⟩
theorem Epq_V {B : Nat → Int → Int} {n : Nat} (hR : RKN B n) {H : Int → Int} (hH : ∀ k : Int, 0 ≤ k → k < 6 → 0 ≤ H k ∧ H k ≤ 7) (S a b : Int) : Vq (Epq B H S a b) := by
  unfold Epq
  by_cases c : (hbq S a ∧ hbq S b) ∧ (0 ≤ a ∧ a < 6 ∧ 0 ≤ b ∧ b < 6)
  · rw [if_pos c]
    exact (enq_V hR hH c.2.1 c.2.2.1 c.2.2.2.1 c.2.2.2.2).1
  · rw [if_neg c]; exact Or.inr rfl
/-- what a code says, round by round -/
def wth (c : Int) (rnd : Int) : Int := if rnd = 0 then c / 36 else if rnd = 1 then c / 6 % 6 else c % 6
def pwr (c : Int) : Nat → Int → Option (List (Int × Int))
  | 0, _ => some []
  | j + 1, S => if S = 0 then (if wth c (2 - j) ≤ 0 then pwr c j 0 else none) else if wth c (2 - j) = lo6 S ∨ ¬ hbq S (wth c (2 - j)) then none else match pwr c j (mnq S (lo6 S) (wth c (2 - j))) with
    | none => none
    | some M => some ((lo6 S, wth c (2 - j)) :: M)
def cdl (S : Int) : Nat → Int → List (List (Int × Int))
  | 0, _ => []
  | j + 1, c => (match pwr c 3 S with | none => [] | some M => [M]) ++ cdl S j (c + 1)
set_option maxRecDepth 100000 in
theorem cd_dec : ∀ S : Fin 64, (btl ((S.val : Nat) : Int) 14 0 0 = 2 ∨ btl ((S.val : Nat) : Int) 14 0 0 = 4 ∨ btl ((S.val : Nat) : Int) 14 0 0 = 6) → cdl ((S.val : Nat) : Int) 216 0 = pmq 3 ((S.val : Nat) : Int) := by decide +kernel
def PPw (b : Nat) (j : Int) : Prop := b ≠ 92 ∧ b ≠ 120 ∧ ¬ (b = 81 ∧ 50 ≤ j ∧ j ≤ 54)
theorem PPw_s {D D' : Nat → Int → Int} (s : Sm PSw D D') : Sm PPw D D' := Sm_m (fun b j p => by unfold PPw at p; unfold PSw; omega) s
theorem PPw_v {D D' : Nat → Int → Int} (s : Sm PPw D D') : Sm PVq D D' := Sm_m (fun b j p => by unfold PVq at p; unfold PPw; omega) s
set_option maxRecDepth 100000 in
set_option maxHeartbeats 1000000 in
theorem q_pEnd (d L n : Nat) (B : Nat → Int → Int) (hR : RKN B n) {r : Nat} (hr : r < 6) {H : Int → Int} (hH : ∀ k : Int, 0 ≤ k → k < 6 → 0 ≤ H k ∧ H k ≤ 7) (eh : ∀ k : Int, 0 ≤ k → k < 6 → B 84 (40 * r + k) = H k) {a b : Int} (a0 : 0 ≤ a) (a1 : a < 6) (h0 : 0 ≤ b) (h1 : b < 6) (D : Nat → Int → Int) (s : Sm PPw B D) :
    ∃ D', tqden tqP (d + 5) n_X12_pairEnd [vR 81, vI (r : Int), vI a, vI b] (tzW D L n) = some (some (vI (nv (enq B H a b))), tzW D' L n) ∧ Sm PSw D D' := by
  obtain ⟨x, rfl⟩ : ∃ x : Nat, a = x := ⟨a.toNat, by omega⟩
  obtain ⟨y, rfl⟩ : ∃ y : Nat, b = y := ⟨b.toNat, by omega⟩
  obtain ⟨hW, hN, hK⟩ := id hR
  have kx := hK x (by omega)
  have ky := hK y (by omega)
  have sv := PPw_v s
  have f1 : D 105 x = B 105 x := s 105 x (by unfold PPw; omega)
  have f2 : D 105 y = B 105 y := s 105 y (by unfold PPw; omega)
  have f3 : D 81 5 = B 81 5 := s 81 5 (by unfold PPw; omega)
  have g1 : D 84 (40 * r + x) = H x := (s 84 _ (by unfold PPw; omega)).trans (eh x a0 a1)
  have g2 : D 84 (40 * r + y) = H y := (s 84 _ (by unfold PPw; omega)).trans (eh y h0 h1)
  obtain ⟨E, u1, u2, u3⟩ := q_best d L n D (a := x) (b := y) (hA := H x) (hB := H y) (by omega) (by omega) (Wy_sm sv (WY_of hW)) (Hd_sm sv (hd_of hW)) (by rw [f1]; exact ⟨kx.2.2.2.2.2.1, kx.2.2.2.2.2.2.1⟩) (by rw [f2]; exact ⟨ky.2.2.2.2.2.1, ky.2.2.2.2.2.2.1⟩) (by rw [f3]; exact hN.2) (hH x a0 a1) (hH y h0 h1)
  rw [f1, f2, f3, swL_sm sv] at u1 u3
  refine ⟨E, ?_, u2⟩
  have hb1 : tqib (40 * (r : Int) + x) 240 = true := tqib_y (by omega) (by omega)
  have hb2 : tqib (40 * (r : Int) + y) 240 = true := tqib_y (by omega) (by omega)
  have ev := (enq_V hR hH a0 a1 h0 h1).2
  obtain ⟨X, hX'⟩ : ∃ X, X = swL B (B 81 5) (B 105 x) (B 105 y) (H x) (H y) 8 0 (-9, 0, 0) := ⟨_, rfl⟩
  rw [← hX'] at u1 u3 ev
  rcases ev with ⟨e1, e2⟩ | ⟨e1, e2, e3⟩
  · have c : ¬ 0 ≤ X.1 := by omega
    have w1 := w40r hr a0 (show (x : Int) < 40 by omega)
    have w2 := w40r hr h0 (show (y : Int) < 40 by clear w1; omega)
    rw [e2, nv_y, dn_X12_pairEnd, b_X12_pairEnd_0]
    simp only [z_cd, i10, i11, dnn, rdU, eW, eU, tzC_w, w_shp, w_ptr, Nat.beq_refl, nbz, nb133, nb75, nb55, nb67, n133a, n133b, n75a, n75b, aT, aR, oT, oR, oF, oG, kT, kF, bI, bL, bR, b0, Classical.not_not, not_true_eq_false, not_false_eq_true, and_self, and_true, true_and, ↓reduceIte, decide_true, decide_false, Nat.reduceEqDiff, Nat.reduceLT, Nat.reduceLeDiff, Int.reduceEq, w1, w2, hb1, hb2, g1, g2, u1, c]
  · have w1 := w40r hr a0 (show (x : Int) < 40 by omega)
    have w2 := w40r hr h0 (show (y : Int) < 40 by clear w1; omega)
    have nn : nv (enq B H x y) = X.2.1 := by rw [nv_n (by clear w1 w2; omega), e2]
    have u4 := u3 e1
    rw [nn, dn_X12_pairEnd, b_X12_pairEnd_0]
    simp only [z_cd, i10, i11, dnn, rdU, eW, eU, tzC_w, w_shp, w_ptr, Nat.beq_refl, nbz, nb133, nb75, nb55, nb67, n133a, n133b, n75a, n75b, aT, aR, oT, oR, oF, oG, kT, kF, bI, bL, bR, b0, Classical.not_not, not_true_eq_false, not_false_eq_true, and_self, and_true, true_and, ↓reduceIte, decide_true, decide_false, Nat.reduceEqDiff, Nat.reduceLT, Nat.reduceLeDiff, Int.reduceEq, w1, w2, hb1, hb2, g1, g2, u1, e1, u4]
set_option maxRecDepth 100000 in
theorem b01_dec : ∀ S : Fin 64, ∀ k : Fin 6, jand (jshr ((S.val : Nat) : Int) ((k.val : Nat) : Int)) 1 = 0 ∨ jand (jshr ((S.val : Nat) : Int) ((k.val : Nat) : Int)) 1 = 1 := by decide +kernel
theorem b01 {S k : Int} (S0 : 0 ≤ S) (S1 : S < 64) (k0 : 0 ≤ k) (k1 : k < 6) : (jand (jshr S k) 1 = 0) ↔ ¬ hbq S k := by
  obtain ⟨p, rfl⟩ : ∃ p : Nat, S = p := ⟨S.toNat, by omega⟩
  obtain ⟨u, rfl⟩ : ∃ u : Nat, k = u := ⟨k.toNat, by omega⟩
  have h := b01_dec ⟨p, by omega⟩ ⟨u, by omega⟩
  show (jand (jshr (p : Int) (u : Int)) 1 = 0) ↔ ¬ (jand (jshr (p : Int) (u : Int)) 1 = 1)
  have h' : jand (jshr (p : Int) (u : Int)) 1 = 0 ∨ jand (jshr (p : Int) (u : Int)) 1 = 1 := h
  omega
