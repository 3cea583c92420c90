/-! ===== rents: all days, the plan ===== -/
/-- what x cost on the day with j days behind it -/
def Cdq (own p f l : Int) (N : Nat) (S : Int → Int) (j : Nat) (b x : Int) : Int := cstq own p f l x b (S (N - 1 - j))
theorem okC_of {own p f l : Int} (ok : okq own p f l) {N : Nat} {S : Int → Int} (hS : ∀ i : Int, 0 ≤ i → i < N → 0 ≤ S i ∧ S i ≤ 9) : okC (Cdq own p f l N S) N := fun j b x hj y0 y1 x0 x1 => by
  unfold Cdq
  exact cstq_r ok x0 x1 y0 (hS _ (by omega) (by omega)).2
set_option maxRecDepth 100000 in
set_option maxHeartbeats 1000000 in
theorem p_30 (d L n A : Nat) {own p f l : Int} (ok : okq own p f l) (hA : ∀ E : Nat → Int → Int, (tzW E L n).2.2.1 A = (1, 40)) (nA : A ≠ 50 ∧ A ≠ 51) {N : Nat} (hN : N ≤ 40) (S : Int → Int) (hS : ∀ i : Int, 0 ≤ i → i < N → 0 ≤ S i ∧ S i ≤ 9) : ∀ (m : Nat) (E : Nat → Int → Int), m ≤ N → Pri E own p f l → (∀ i : Int, 0 ≤ i → i < N → E A i = S i) → Tabq E 51 (Cdq own p f l N S) N m →
    ∃ E', tqrun tqP (d + 3) tqc_X4_planDays 30 [vR 50, vR A, vU, vI ((m : Int) - 1), vU] [] (tzW E L n) = tqrun tqP (d + 3) tqc_X4_planDays 88 [vR 50, vR A, vU, vI 0, vI 0] [] (tzW E' L n) ∧ Sm PRc E E' ∧ Tabq E' 51 (Cdq own p f l N S) N 0
  | 0, E, hm, pr, ea, ht => by
    refine ⟨E, ?_, Sm_r _ _, ht⟩
    have c : (((0 : Nat) : Int) - 1) < 0 := by omega
    rw [b_X4_planDays_30]
    simp only [z_cd, i10, i11, dnn, rdU, eW, eU, tzC_w, w_shp, w_ptr, Nat.beq_refl, nbz, nb133, nb75, nb55, nb67, n133a, n133b, n75a, n75b, aT, aR, oT, oR, oF, oG, kT, kF, bI, bL, bR, b0, Classical.not_not, not_true_eq_false, not_false_eq_true, and_self, and_true, true_and, ↓reduceIte, decide_true, decide_false, Nat.reduceEqDiff, Nat.reduceLT, Nat.reduceLeDiff, Int.reduceEq, c]
  | m + 1, E, hm, pr, ea, ht => by
    have okc := okC_of ok hS
    have em : (((m + 1 : Nat) : Int) - 1) = (m : Int) := by omega
    have c : ¬ ((m : Int) < 0) := by omega
    have eC : ∀ b x : Int, Cdq own p f l N S (N - 1 - m) b x = cstq own p f l x b (S m) := fun b x => by
      unfold Cdq
      rw [show ((N : Int) - 1 - ((N - 1 - m : Nat) : Int)) = (m : Int) by omega]
    obtain ⟨E1, r1, r2, r3⟩ := p_37 d L n A ok hA nA (dy := (m : Int)) (nd := S m) (by omega) (by omega) (hS m (by omega) (by omega)).1 (hS m (by omega) (by omega)).2 (fun x => Wq (Cdq own p f l N S) (N - 1 - m) x) (fun x a1 a2 => by have := Wq_b okc hN (N - 1 - m) x (by omega) a1 a2; omega) 10 0 E (by omega) (by omega) pr (ea m (by omega) (by omega)) (fun x a1 a2 => by
      have q := ht ((m : Int) + 1) x (by omega) (by omega) (by omega) a1 a2
      rw [show ((N : Int) - ((m : Int) + 1)).toNat = N - 1 - m by omega] at q
      exact q)
    have t1 : Tabq E1 51 (Cdq own p f l N S) N m := fun d' b h1 h0 h2 y0 y1 => by
      rw [r3]
      by_cases e : d' = m
      · rw [if_pos (show 10 * (m : Int) + 0 ≤ 10 * d' + b ∧ 10 * d' + b < 10 * (m : Int) + 10 by omega)]
        rw [show ((N : Int) - d').toNat = (N - 1 - m) + 1 by omega, Wq_S, show 10 * d' + b - 10 * (m : Int) = b by omega]
        exact congrArg Prod.snd (fbq_c 10 (fun x _ _ => by rw [eC b x]))
      · rw [if_neg (show ¬ (10 * (m : Int) + 0 ≤ 10 * d' + b ∧ 10 * d' + b < 10 * (m : Int) + 10) by omega)]
        exact ht d' b (by omega) h0 h2 y0 y1
    obtain ⟨E', u1, u2, u3⟩ := p_30 d L n A ok hA nA hN S hS m E1 (by omega) (Pri_m pr r2) (fun i a1 a2 => (r2 A i (by unfold PRc; omega)).trans (ea i a1 a2)) t1
    refine ⟨E', ?_, Sm_t r2 u2, u3⟩
    rw [em, ← u1, ← r1, b_X4_planDays_30]
    simp only [z_cd, i10, i11, dnn, rdU, eW, eU, tzC_w, w_shp, w_ptr, Nat.beq_refl, nbz, nb133, nb75, nb55, nb67, n133a, n133b, n75a, n75b, aT, aR, oT, oR, oF, oG, kT, kF, bI, bL, bR, b0, Classical.not_not, not_true_eq_false, not_false_eq_true, and_self, and_true, true_and, ↓reduceIte, decide_true, decide_false, Nat.reduceEqDiff, Nat.reduceLT, Nat.reduceLeDiff, Int.reduceEq, c]
/-- the plan: on day dy with jj days from it on, bef rented ahead -/
def plq (C : Nat → Int → Int → Int) : Nat → Int → Int → Int → Int
  | 0, _, _, _ => 0
  | j + 1, dy, bef, i => if i = dy then (fbq (fun x => C j bef x + Wq C j x) 10).1 else plq C j (dy + 1) (fbq (fun x => C j bef x + Wq C j x) 10).1 i
theorem plq_S (C : Nat → Int → Int → Int) (j : Nat) (dy bef i : Int) : plq C (j + 1) dy bef i = if i = dy then (fbq (fun x => C j bef x + Wq C j x) 10).1 else plq C j (dy + 1) (fbq (fun x => C j bef x + Wq C j x) 10).1 i := rfl
def PRd (b : Nat) (j : Int) : Prop := ¬ (b = 50 ∧ j = 7) ∧ b ≠ 52
set_option maxRecDepth 100000 in
set_option maxHeartbeats 1000000 in
theorem p_88 (d L n A : Nat) {own p f l : Int} (ok : okq own p f l) (hA : ∀ E : Nat → Int → Int, (tzW E L n).2.2.1 A = (1, 40)) (nA : A ≠ 50 ∧ A ≠ 52) {N : Nat} (hN : N ≤ 40) (S : Int → Int) (hS : ∀ i : Int, 0 ≤ i → i < N → 0 ≤ S i ∧ S i ≤ 9) (v : Int) : ∀ (j : Nat) (dy bef : Int) (E : Nat → Int → Int), 0 ≤ dy → dy + j = N → 0 ≤ bef → bef ≤ 9 → Pri E own p f l → E 50 2 = N → E 51 0 = v → (∀ i : Int, 0 ≤ i → i < N → E A i = S i) → Tabq E 51 (Cdq own p f l N S) N 0 →
    ∃ E', tqrun tqP (d + 3) tqc_X4_planDays 88 [vR 50, vR A, vU, vI bef, vI dy] [] (tzW E L n) = some (some (vI v), tzW E' L n) ∧ Sm PRd E E' ∧ (∀ i : Int, i < dy → E' 52 i = E 52 i) ∧ ∀ i : Int, dy ≤ i → i < N → E' 52 i = plq (Cdq own p f l N S) j dy bef i
  | 0, dy, bef, E, d0, dj, y0, y1, pr, e2, ev, ea, ht => by
    refine ⟨E, ?_, Sm_r _ _, fun _ _ => rfl, fun i a1 a2 => by omega⟩
    have c : (N : Int) ≤ dy := by omega
    have hb : tqib (0 : Int) 410 = true := tqib_y (by omega) (by omega)
    rw [b_X4_planDays_88]
    simp only [z_cd, i10, i11, dnn, rdU, eW, eU, tzC_w, w_shp, w_ptr, Nat.beq_refl, nbz, nb133, nb75, nb55, nb67, n133a, n133b, n75a, n75b, aT, aR, oT, oR, oF, oG, kT, kF, bI, bL, bR, b0, Classical.not_not, not_true_eq_false, not_false_eq_true, and_self, and_true, true_and, ↓reduceIte, decide_true, decide_false, Nat.reduceEqDiff, Nat.reduceLT, Nat.reduceLeDiff, Int.reduceEq, e2, c, hb, ev]
  | j + 1, dy, bef, E, d0, dj, y0, y1, pr, e2, ev, ea, ht => by
    have okc := okC_of ok hS
    have c : ¬ (N : Int) ≤ dy := by omega
    have hb1 : tqib dy 40 = true := tqib_y (by omega) (by omega)
    have hE := ea dy d0 (by omega)
    have hs := hS dy d0 (by omega)
    have hw : ∀ x : Int, 0 ≤ x → x ≤ 9 → E 51 (10 * (dy + 1) + x) = Wq (Cdq own p f l N S) j x := fun x a1 a2 => by
      have q := ht (dy + 1) x (by omega) (by omega) (by omega) a1 a2
      rw [show ((N : Int) - (dy + 1)).toNat = j by omega] at q
      exact q
    have fi := p_first d L n E ok pr (dy := dy) (nd := S dy) (b := bef) d0 (by omega) hs.1 hs.2 y0 y1 (fun x a1 a2 => by rw [hw x a1 a2]; have := Wq_b okc hN j x (by omega) a1 a2; omega)
    have eC : ∀ x : Int, Cdq own p f l N S j bef x = cstq own p f l x bef (S dy) := fun x => by
      unfold Cdq
      rw [show ((N : Int) - 1 - (j : Int)) = dy by omega]
    have eg : fbq (fun x => cstq own p f l x bef (S dy) + E 51 (10 * (dy + 1) + x)) 10 = fbq (fun x => Cdq own p f l N S j bef x + Wq (Cdq own p f l N S) j x) 10 := fbq_c 10 (fun x a1 a2 => by rw [hw x a1 (by omega), eC x])
    rw [eg] at fi
    have pp := fbq_p (g := fun x => Cdq own p f l N S j bef x + Wq (Cdq own p f l N S) j x) (fun x a1 a2 => (gq_lt okc hN (by omega) y0 y1 x a1 a2).2) 10 (by omega) (by omega)
    obtain ⟨R, hR⟩ : ∃ R, R = fbq (fun x => Cdq own p f l N S j bef x + Wq (Cdq own p f l N S) j x) 10 := ⟨_, rfl⟩
    rw [← hR] at fi pp
    have s1 : Sm PRd E (tzU (tzU E 50 7 R.2) 52 dy R.1) := Sm_U (by unfold PRd; omega) (Sm_U (by unfold PRd; omega) (Sm_r _ _))
    obtain ⟨E', r1, r2, r4, r3⟩ := p_88 d L n A ok hA nA hN S hS v j (dy + 1) R.1 (tzU (tzU E 50 7 R.2) 52 dy R.1) (by omega) (by omega) pp.1 (by omega) (by
      obtain ⟨q1, q2, q3, q4⟩ := pr
      exact ⟨(s1 50 3 (by unfold PRd; omega)).trans q1, (s1 50 4 (by unfold PRd; omega)).trans q2, (s1 50 5 (by unfold PRd; omega)).trans q3, (s1 50 6 (by unfold PRd; omega)).trans q4⟩) ((s1 50 2 (by unfold PRd; omega)).trans e2) ((s1 51 0 (by unfold PRd; omega)).trans ev) (fun i a1 a2 => (s1 A i (by unfold PRd; omega)).trans (ea i a1 a2)) (fun d' b h1 h0 h2 z0 z1 => (s1 51 _ (by unfold PRd; omega)).trans (ht d' b h1 h0 h2 z0 z1))
    refine ⟨E', ?_, Sm_t s1 r2, fun i a1 => ?_, fun i a1 a2 => ?_⟩
    · have e1 := w1z d0 (by omega)
      rw [← r1, b_X4_planDays_88]
      simp only [z_cd, i10, i11, dnn, rdU, eW, eU, tzC_w, w_shp, w_ptr, Nat.beq_refl, nbz, nb133, nb75, nb55, nb67, n133a, n133b, n75a, n75b, aT, aR, oT, oR, oF, oG, kT, kF, bI, bL, bR, b0, Classical.not_not, not_true_eq_false, not_false_eq_true, and_self, and_true, true_and, ↓reduceIte, decide_true, decide_false, Nat.reduceEqDiff, Nat.reduceLT, Nat.reduceLeDiff, Int.reduceEq, e2, c, hA, hb1, hE, fi, e1]
    · rw [r4 i (by omega), tzU_k _ _ _ _ (by omega), tzU_o _ _ _ _ (by omega)]
    · rw [plq_S, ← hR]
      by_cases e : i = dy
      · rw [if_pos e, e]
        rw [r4 dy (by omega), tzU_s]
      · rw [if_neg e]
        exact r3 i (by omega) a2
def PRe (b : Nat) (j : Int) : Prop := ¬ (b = 50 ∧ (2 ≤ j ∧ j ≤ 7)) ∧ b ≠ 51 ∧ b ≠ 52
set_option maxRecDepth 100000 in
set_option maxHeartbeats 1000000 in
theorem p_plan (d L n A : Nat) {own p f l : Int} (ok : okq own p f l) (hA : ∀ E : Nat → Int → Int, (tzW E L n).2.2.1 A = (1, 40)) (nA : A ≠ 50 ∧ A ≠ 51 ∧ A ≠ 52) {N : Nat} (hN0 : 0 < N) (hN : N ≤ 40) (S : Int → Int) (hS : ∀ i : Int, 0 ≤ i → i < N → 0 ≤ S i ∧ S i ≤ 9) (E : Nat → Int → Int) (pr : Pri E own p f l) (ea : ∀ i : Int, 0 ≤ i → i < N → E A i = S i) :
    ∃ E', tqden tqP (d + 3) n_X4_planDays [vR 50, vR A, vI (N : Int)] (tzW E L n) = some (some (vI (Wq (Cdq own p f l N S) N 0)), tzW E' L n) ∧ Sm PRe E E' ∧ E' 50 2 = N ∧ ∀ i : Int, 0 ≤ i → i < N → E' 52 i = plq (Cdq own p f l N S) N 0 0 i := by
  have hfi := s_fill (d + 1) (tzU E 50 2 (N : Int)) L n 51 410 0 (by decide) (fun _ => rfl)
  obtain ⟨F, hF⟩ : ∃ F, F = tzF (tzU E 50 2 (N : Int)) 51 0 ((410 : Nat) : Int) 0 := ⟨_, rfl⟩
  have sF : ∀ (b : Nat) (j : Int), b ≠ 51 → ¬ (b = 50 ∧ j = 2) → F b j = E b j := fun b j h1 h2 => by
    rw [hF]
    unfold tzF
    rw [if_neg h1]
    by_cases e : b = 50
    · rw [tzU_k _ _ _ _ (fun h => h2 ⟨e, h⟩)]
    · rw [tzU_o _ _ _ _ e]
  have F2 : F 50 2 = N := by rw [hF]; unfold tzF; rw [if_neg (by omega), tzU_s]
  have prF : Pri F own p f l := by
    obtain ⟨q1, q2, q3, q4⟩ := pr
    exact ⟨(sF 50 3 (by omega) (by omega)).trans q1, (sF 50 4 (by omega) (by omega)).trans q2, (sF 50 5 (by omega) (by omega)).trans q3, (sF 50 6 (by omega) (by omega)).trans q4⟩
  have eaF : ∀ i : Int, 0 ≤ i → i < N → F A i = S i := fun i a1 a2 => (sF A i nA.2.1 (fun h => nA.1 h.1)).trans (ea i a1 a2)
  have tF : Tabq F 51 (Cdq own p f l N S) N N := fun d' b h1 h0 h2 y0 y1 => by
    rw [show ((N : Int) - d').toNat = 0 by omega, hF]
    exact tzF_i (by omega) (by omega)
  obtain ⟨G, g1, g2, g3⟩ := p_30 d L n A ok hA ⟨nA.1, nA.2.1⟩ hN S hS N F (by omega) prF eaF tF
  obtain ⟨H, h1, h2, h4, h3⟩ := p_88 d L n A ok hA ⟨nA.1, nA.2.2⟩ hN S hS (G 51 0) N 0 0 G (by omega) (by omega) (by omega) (by omega) (Pri_m prF g2) ((g2 50 2 (by unfold PRc; omega)).trans F2) rfl (fun i a1 a2 => (g2 A i (by unfold PRc; omega)).trans (eaF i a1 a2)) g3
  have v0 : G 51 0 = Wq (Cdq own p f l N S) N 0 := by
    have q := g3 0 0 (by omega) (by omega) (by omega) (by omega) (by omega)
    rw [show ((N : Int) - 0).toNat = N by omega, show (10 * (0 : Int) + 0) = 0 by omega] at q
    exact q
  rw [v0] at h1
  refine ⟨H, ?_, ?_, ?_, h3⟩
  · have m1 : jmin (N : Int) (jmin 40 ((40 : Nat) : Int)) = N := by
      have e : jmin 40 ((40 : Nat) : Int) = 40 := by decide
      rw [e]
      have := jmin_le (N : Int) 40
      omega
    have w1 := w32_d2 N (by omega)
    rw [hF] at F2
    rw [← h1, ← g1, dn_X4_planDays, b_X4_planDays_0, hF]
    simp only [z_cd, i10, i11, dnn, rdU, eW, eU, tzC_w, w_shp, w_ptr, Nat.beq_refl, nbz, nb133, nb75, nb55, nb67, n133a, n133b, n75a, n75b, aT, aR, oT, oR, oF, oG, kT, kF, bI, bL, bR, b0, Classical.not_not, not_true_eq_false, not_false_eq_true, and_self, and_true, true_and, ↓reduceIte, decide_true, decide_false, Nat.reduceEqDiff, Nat.reduceLT, Nat.reduceLeDiff, Int.reduceEq, hA, ble11, ble18, m1, hfi, F2, w1]
  · intro b j q
    unfold PRe at q
    rw [h2 b j (by unfold PRd; omega), g2 b j (by unfold PRc; omega)]
    exact sF b j (by omega) (by omega)
  · rw [h2 50 2 (by unfold PRd; omega), g2 50 2 (by unfold PRc; omega)]
    exact F2
