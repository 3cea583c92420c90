/-! ===== look: the call ===== -/
def PLq (b : Nat) (j : Int) : Prop := b ≠ 12 ∧ ¬ (b = 30 ∧ 4 ≤ j ∧ j ≤ 6) ∧ ¬ (32 ≤ b ∧ b ≤ 40) ∧ b ≠ 92 ∧ b ≠ 122 ∧ b ≠ 123 ∧ b ≠ 124 ∧ ¬ (b = 81 ∧ (j = 58 ∨ j = 62))
def PLe (b : Nat) (j : Int) : Prop := PLq b j ∧ b ≠ 53 ∧ b ≠ 54
theorem RelL {Z Y : Nat → Int → Int} {n : Nat} (hR : Rel Z n) (s : Sm PLq Z Y) (e : Y 30 4 = Y 81 58 ∧ 0 ≤ Y 81 58 ∧ Y 81 58 ≤ 6 ∧ ∀ j : Int, 0 ≤ j → j < Y 81 58 → Y 40 j = Y 122 j) : Rel Y n := by
  obtain ⟨hA, hL, hW, hN, ⟨c1, c2, c3⟩, hT, hD, hK, hB, hQ, hX, hM, hP, hS⟩ := id hR
  refine ⟨?_, ?_, ?_, ?_, ?_, ?_, ?_, ?_, ?_, ?_, ?_, ?_, ?_, ?_⟩
  · exact RA_fr (Sm_m (fun b j p => by unfold PA at p; unfold PLq; omega) s) hA
  · exact RL_fr (Sm_m (fun b j p => by unfold PL at p; unfold PLq; omega) s) hL
  · exact RW_fr (Sm_m (fun b j p => by unfold PW at p; unfold PLq; omega) s) hW
  · exact RN_fr (Sm_m (fun b j p => by unfold PN at p; unfold PLq; omega) s) hN
  · exact RC_fr (Sm_m (fun b j p => by unfold PC at p; unfold PLq; omega) s) ⟨c1, c2, c3⟩
  · exact RT_fr (Sm_m (fun b j p => by unfold PT at p; unfold PLq; omega) s) hT
  · exact RD_fr (Sm_m (fun b j p => by unfold PD at p; unfold PLq; omega) s) hD
  · exact RK_fr (Sm_m (fun b j p => by unfold PK at p; unfold PLq; omega) s) hK
  · exact RB_fr (Sm_m (fun b j p => by unfold PB at p; unfold PLq; omega) s) hB
  · exact RQ_fr (Sm_m (fun b j p => by unfold PQ at p; unfold PLq; omega) s) hQ
  · exact RX_fr (Sm_m (fun b j p => by unfold PX at p; unfold PLq; omega) s) hX
  · exact RM_fr (Sm_m (fun b j p => by unfold PM at p; unfold PLq; omega) s) hM
  · exact RP_fr (Sm_m (fun b j p => by unfold PP at p; unfold PLq; omega) s) hP
  · obtain ⟨s1, _, s6, s7, s8, s9⟩ := hS
    have r : ∀ (b : Nat) (j : Int), PLq b j → Y b j = Z b j := s
    refine ⟨fun j a b => ?_, e, ?_, ?_, ?_, fun j a b => ?_⟩
    · rw [r 29 j (by unfold PLq; omega), r 119 j (by unfold PLq; omega)]; exact s1 j a b
    · rw [r 50 2 (by unfold PLq; omega), r 81 69 (by unfold PLq; omega)]; exact s6
    · rw [r 81 69 (by unfold PLq; omega)]; exact s7
    · rw [r 81 69 (by unfold PLq; omega)]; exact s8
    · rw [r 81 69 (by unfold PLq; omega)] at b
      rw [r 52 j (by unfold PLq; omega), r 131 j (by unfold PLq; omega)]; exact s9 j a b
theorem Sm_Rx2 {P : Nat → Int → Prop} {D D' : Nat → Int → Int} (s : Sm P D D') (p54 : ∀ j, P 54 j) (f : Int) : Sm P (tzRx D f) (tzRx D' f) := by
  unfold tzRx
  rw [s 54 f (p54 f)]
  exact Sm_UU (Sm_UU s _ _ _) _ _ _
/-- a refusal, with what the search has left behind -/
theorem Rel_Rf {D C E : Nat → Int → Int} {n : Nat} (hR : Rel D n) {f : Int} (f0 : 0 ≤ f) (f5 : f ≤ 5) (s : Sm PLq D C) (k : ∀ (b : Nat) (j : Int), (b = 30 ∧ j = 4) ∨ b = 40 ∨ b = 122 ∨ (b = 81 ∧ j = 58) → C b j = D b j) (of : Of2 (tzRx C f) E) : Rel (tzRm E f) n ∧ tzRx C f 1 = D 1 ∧ tzRm E f 1 = D 1 := by
  have hS := hR.2.2.2.2.2.2.2.2.2.2.2.2.2
  have s1 : Sm PLq (tzRx D f) (tzRx C f) := Sm_Rx2 s (fun j => by unfold PLq; omega) f
  have s2 : Sm PLq (tzRx D f) E := fun b j p => by
    rw [of b j (by unfold PLq at p; omega) (by unfold PLq at p; omega)]
    exact s1 b j p
  have s3 : Sm PLq (tzRm (tzRx D f) f) (tzRm E f) := Sm_Rm s2 (fun j => by unfold PLq; omega) f
  have rx : ∀ (b : Nat) (j : Int), b ≠ 53 → b ≠ 54 → tzRx C f b j = C b j := fun b j p q => by
    unfold tzRx; rw [tzU_o _ _ _ _ q, tzU_o _ _ _ _ p]
  have rm : ∀ (b : Nat) (j : Int), b ≠ 82 → ¬ (b = 81 ∧ j = 0) → tzRm E f b j = E b j := fun b j p q => by
    unfold tzRm
    rw [tzU_o _ _ _ _ p]
    by_cases e : b = 81
    · rw [tzU_k _ _ _ _ (fun t => q ⟨e, t⟩)]
    · rw [tzU_o _ _ _ _ e]
  have ke : ∀ (b : Nat) (j : Int), (b = 30 ∧ j = 4) ∨ b = 40 ∨ b = 122 ∨ (b = 81 ∧ j = 58) → tzRm E f b j = D b j := fun b j p => by
    rw [rm b j (by omega) (by omega), of b j (by omega) (by omega), rx b j (by omega) (by omega)]
    exact k b j p
  obtain ⟨_, ⟨g1, g2, g3, g4⟩, _⟩ := hS
  refine ⟨RelL (Rel_ref hR f0 f5) s3 ⟨?_, ?_, ?_, fun j a b => ?_⟩, ?_, ?_⟩
  · rw [ke 30 4 (by omega), ke 81 58 (by omega)]; exact g1
  · rw [ke 81 58 (by omega)]; exact g2
  · rw [ke 81 58 (by omega)]; exact g3
  · rw [ke 81 58 (by omega)] at b
    rw [ke 40 j (by omega), ke 122 j (by omega)]; exact g4 j a b
  · funext j
    rw [rx 1 j (by omega) (by omega)]
    exact s 1 j (by unfold PLq; omega)
  · funext j
    rw [rm 1 j (by omega) (by omega), of 1 j (by omega) (by omega), rx 1 j (by omega) (by omega)]
    exact s 1 j (by unfold PLq; omega)
theorem lost_at2 {D : Nat → Int → Int} {n : Nat} (hB : RB D n) (hQ : RQ D) (hX : RX D n) (hN : RN D) {t : Nat} (ht : t < n) : ∃ f : Nat, f < 60 ∧ lst (pH D t) (D 81 34).toNat = f ∧ D 114 f = yK D t (D 81 34).toNat ∧ D 112 f = hKq D t (D 81 34).toNat ∧ 0 ≤ yK D t (D 81 34).toNat ∧ yK D t (D 81 34).toNat < 8 ∧ 0 ≤ hKq D t (D 81 34).toNat ∧ hKq D t (D 81 34).toNat ≤ 99999 := by
  have be := BE_of hB
  have n0 := hB.2.1
  have n6 := hB.2.2.1
  obtain ⟨x1, x2, x3, x4, x5⟩ := hX.1 t ht
  have yi := yK_in (t := t) be (D 81 34).toNat (by omega)
  rcases lst_yM (t := t) be (D 81 34).toNat (by omega) with q | ⟨f, q1, q2, q3, q4⟩
  · omega
  · have f1 : (f : Int) < D 81 34 := by omega
    have e := hB.2.2.2 f f1
    have q := hQ.1 f f1
    obtain ⟨_, _, _, _, _, _, _, _, e9, _, _⟩ := e
    have nn := hN.2.2
    rw [← x2] at q3
    exact ⟨f, by omega, q2, q3, q4, x3, by omega, by omega, by omega⟩
set_option maxRecDepth 100000 in
set_option maxHeartbeats 1000000 in
theorem q_yOf2 (d L n : Nat) (D : Nat → Int → Int) (hR : Rel D n) {t : Nat} (ht : t < n) {E : Nat → Int → Int} (of : Sm PLe D E) : ∃ E', tqden tqP (d + 3) n_X12_yardsOf [vR 81, vI (t : Int)] (tzW E L n) = some (some (vI (ySet D t)), tzW E' L n) ∧ Ofq 92 E E' := by
  obtain ⟨hA, hL, hW0, hN0, hC, hT, hD, hK, hB0, hQ0, hX0, hM, hP, hS⟩ := id hR
  have hB : RB E n := RB_fr (Sm_m (fun b j p => by unfold PB at p; unfold PLe PLq; omega) of) hB0
  have hQ : RQ E := RQ_fr (Sm_m (fun b j p => by unfold PQ at p; unfold PLe PLq; omega) of) hQ0
  have hX : RX E n := RX_fr (Sm_m (fun b j p => by unfold PX at p; unfold PLe PLq; omega) of) hX0
  have hN : RN E := RN_fr (Sm_m (fun b j p => by unfold PN at p; unfold PLe PLq; omega) of) hN0
  have hW : RW E := RW_fr (Sm_m (fun b j p => by unfold PW at p; unfold PLe PLq; omega) of) hW0
  obtain ⟨f, l1, l2, l3, l4, l5, l6, l7, l8⟩ := lost_at2 hB hQ hX hN ht
  obtain ⟨N, hNN⟩ : ∃ N : Nat, E 81 34 = N := ⟨(E 81 34).toNat, by have := hB.2.1; omega⟩
  have eN : (E 81 34).toNat = N := by omega
  have h6 : N ≤ 60 := by have := hB.2.2.1; omega
  have es : ySet D t = ySet E t := by
    unfold ySet
    have v0 : E 81 34 = D 81 34 := of 81 34 (by unfold PLe PLq; omega)
    have v1 : yK E t (E 81 34).toNat = yK D t (D 81 34).toNat := by rw [v0]; exact yK_fr _ (fun i _ => ⟨of 110 i (by unfold PLe PLq; omega), of 111 i (by unfold PLe PLq; omega), of 113 i (by unfold PLe PLq; omega)⟩)
    have v2 : hKq E t (E 81 34).toNat = hKq D t (D 81 34).toNat := by
      rw [v0]
      have key : ∀ k : Nat, hKq E t k = hKq D t k := by
        intro k
        induction k with
        | zero => rfl
        | succ k ih => rw [hKq_S, hKq_S, ih, of 110 k (by unfold PLe PLq; omega), of 111 k (by unfold PLe PLq; omega), of 112 k (by unfold PLe PLq; omega)]
      exact key _
    rw [v1, v2, ysS_sm (Sm_m (fun b j p => by unfold PVq at p; unfold PLe PLq; omega) of), of 81 5 (by unfold PLe PLq; omega)]
  rw [es]
  unfold ySet
  rw [eN] at l2 l3 l4 l5 l6 l7 l8 ⊢
  obtain ⟨E', r1, r2⟩ := q_y50 d L n E l1 l5 l6 l7 l8 (WY_of hW) (hd_of hW) l3 l4 rfl hN.2.2 8 0 0 E (by omega) (by omega) (by omega) (by omega) (Ofq_r 92 E)
  refine ⟨E', ?_, r2⟩
  have q := q_y5 (d + 2) E L n t hNN h6 N 0 (by omega)
  rw [l2] at q
  have z : ((0 : Nat) : Int) = 0 := rfl
  have z2 : lst (pH E t) 0 = -9 := rfl
  rw [z, z2] at q
  rw [← r1, ← q, dn_X12_yardsOf, b_X12_yardsOf_0]
theorem ySet_r (D : Nat → Int → Int) (t : Int) : 0 ≤ ySet D t ∧ ySet D t < 256 := ysS_r 8 0 0 (by omega) (by omega) (by omega) (by omega)
set_option maxRecDepth 100000 in
set_option maxHeartbeats 1000000 in
theorem q_lk (d L n : Nat) (D : Nat → Int → Int) (hR : Rel D n) {t r : Nat} (ht : t < n) (hr : r < 6) {yd : Int} (cy : 0 ≤ yd ∧ yd ≤ 7) {E : Nat → Int → Int} (s : Sm PLe D E) (lo : ¬ D 96 t = 0) (h8 : D 83 r = 8) (W : Int → Int) (hW : ∀ y : Int, 0 ≤ y → y < 8 → D 84 (40 * r + y) = W y) :
    ∃ E' g m l, tqden tqP (d + 4) n_X12_look [vR 81, vI (t : Int), vI yd, vI (r : Int)] (tzW E L n) = tqrun tqP (d + 4) tqc_X12_look 87 [vR 81, vU, vI yd, vI (r : Int), vI (ySet D t), vI g, vI m, vI l, vI 8, vU, vU, vU, vU, vU] [] (tzW E' L n) ∧ Of2 E E' ∧ GIq W (ySet D t) (fun z => erq D 0 yd (D 81 5) z < 2147483647) E' 8 g m l := by
  obtain ⟨hA, hL, hW0, hN0, ⟨c1, c2, c3⟩, hT, hD, hK, hB0, hQ0, hX0, hM, hP, hS⟩ := id hR
  have ct : 0 ≤ (t : Int) ∧ (t : Int) < n := by omega
  have cr : 0 ≤ (r : Int) ∧ (r : Int) ≤ 5 := by omega
  have hb12 : tqib (t : Int) 12 = true := tqib_y (by omega) (by omega)
  have hb6 : tqib (r : Int) 6 = true := tqib_y (by omega) (by omega)
  have e16 : E 81 16 = n := (s 81 16 (by unfold PLe PLq; omega)).trans c2
  have e96 : ¬ E 96 t = 0 := by rw [s 96 t (by unfold PLe PLq; omega)]; exact lo
  have e83 : E 83 r = 8 := (s 83 r (by unfold PLe PLq; omega)).trans h8
  have e5 : E 81 5 = D 81 5 := s 81 5 (by unfold PLe PLq; omega)
  obtain ⟨E1, v1, v2⟩ := q_yOf2 d L n D hR ht s
  have z08 : (0 : Int) ≤ 8 := by decide
  have wyE : WY E1 := WY_fr (fun b j p => (v2 b j (by omega)).trans (s b j (by unfold PLe PLq; omega))) (WY_of hW0)
  have hdE : ∀ y : Int, 0 ≤ y → y < 8 → E1 88 (9 * y) = 0 := fun y y0 y1 => ((v2 88 _ (by omega)).trans (s 88 _ (by unfold PLe PLq; omega))).trans (hd_of hW0 y y0 y1)
  have eE : erq E1 0 = erq D 0 := erf (fun b j p q => (v2 b j (by omega)).trans (s b j (by unfold PLe PLq; omega)))
  have nn := hN0.2
  have gi : GIq W (ySet D t) (fun z => erq E1 0 yd (D 81 5) z < 2147483647) E1 0 1 0 1 := by
    refine ⟨Or.inr rfl, Or.inr rfl, ⟨fun _ z a b => by omega, fun _ => rfl⟩, ⟨rfl, by omega, by omega⟩, ⟨fun _ z a b => by omega, fun _ => rfl⟩, fun i a b => by omega, fun i j a b c => by omega, fun _ z a b => by omega⟩
  obtain ⟨E2, g, m, l, w1, w2, w3⟩ := q_87 (d + 1) L n E1 wyE hdE nn.1 (show D 81 5 ≤ 9000000 by omega) ((v2 81 5 (by omega)).trans e5) cy.1 (show yd < 8 by omega) hr W (fun y y0 y1 => ((v2 84 _ (by omega)).trans (s 84 _ (by unfold PLe PLq; omega))).trans (hW y y0 y1)) (ySet D t) 8 0 1 0 1 E1 (by omega) (fun _ _ _ _ => rfl) gi
  rw [eE] at w3
  refine ⟨E2, g, m, l, ?_, fun b j p q => (w2 b j p q).trans (v2 b j p), w3⟩
  refine Eq.trans ?_ w1
  rw [dn_X12_look]
  refine (b_X12_look_0 (d + 3) 81 (t : Int) yd (r : Int) (tzW E L n)).trans ?_
  simp only [z_cd, i10, i11, dnn, rdU, eW, eU, tzC_w, w_shp, w_ptr, Nat.beq_refl, nbz, nb133, nb75, nb55, nb67, n133a, n133b, n75a, n75b, aT, aR, oT, oR, oF, oG, kT, kF, bI, bL, bR, b0, Classical.not_not, not_true_eq_false, not_false_eq_true, and_self, and_true, true_and, ↓reduceIte, decide_true, decide_false, Nat.reduceEqDiff, Nat.reduceLT, Nat.reduceLeDiff, Int.reduceEq, q_isTrailer _ E L n t e16 c3, ct, q_isYard, cy, q_isRow, cr, hb12, e96, hb6, e83, z08, v1]
  rfl
