/-! ===== look: the reference's run through the orders ===== -/
theorem aso_lo : ∀ (M : List Int) (g : Int → Int) (p z : Int), z < p → aso g p M z = g z
  | [], _, _, _, _ => rfl
  | y :: M, g, p, z, h => by
    show aso (fun k => if k = p then y else g k) (p + 1) M z = g z
    rw [aso_lo M _ (p + 1) z (by omega)]
    exact if_neg (by omega)
theorem aso_msq (D : Nat → Int → Int) : ∀ (j : Nat) (k : Int) (g : Int → Int) (z : Int), k ≤ z → z < k + j → aso g k (msq D j k) z = D 123 (D 124 z)
  | 0, k, g, z, a, b => by omega
  | j + 1, k, g, z, a, b => by
    show aso (fun i => if i = k then D 123 (D 124 k) else g i) (k + 1) (msq D j (k + 1)) z = D 123 (D 124 z)
    by_cases e : z = k
    · rw [aso_lo _ _ _ _ (by omega), e]
      exact if_pos rfl
    · exact aso_msq D j (k + 1) _ z (by omega) (by omega)
theorem msq_r (D : Nat → Int → Int) : ∀ (j : Nat) (k : Int), msq D j k = (List.range j).map (fun i : Nat => D 123 (D 124 (k + (i : Int))))
  | 0, _ => rfl
  | j + 1, k => by
    show D 123 (D 124 k) :: msq D j (k + 1) = (List.range (j + 1)).map (fun i : Nat => D 123 (D 124 (k + (i : Int))))
    rw [List.range_succ_eq_map, List.map_cons, List.map_map, msq_r D j (k + 1)]
    have e0 : k + ((0 : Nat) : Int) = k := by omega
    rw [e0]
    congr 1
    refine List.map_congr_left (fun i _ => ?_)
    show D 123 (D 124 (k + 1 + (i : Int))) = D 123 (D 124 (k + ((i + 1 : Nat) : Int)))
    rw [show k + 1 + (i : Int) = k + ((i + 1 : Nat) : Int) by omega]
theorem msq_l {D : Nat → Int → Int} {N : Nat} {g : Int → Int} {l : List Int} (hl : (List.range N).map (fun k : Nat => D 124 ((k : Nat) : Int)) = l) (hb : ∀ x : Int, x ∈ l → D 123 x = g x) : msq D N 0 = l.map g := by
  rw [msq_r D N 0, ← hl, List.map_map]
  refine List.map_congr_left (fun i hi => ?_)
  show D 123 (D 124 (0 + (i : Int))) = g (D 124 (i : Int))
  rw [Int.zero_add]
  exact hb _ (by rw [← hl]; exact List.mem_map.mpr ⟨i, hi, rfl⟩)
theorem vlo_b {B : Nat → Int → Int} {T : Int} (wo : WO B) (T0 : 0 ≤ T) (T1 : T ≤ 9000000) (W : Int → Int) (hW : ∀ y : Int, 0 ≤ y → y < 8 → 0 ≤ W y ∧ W y ≤ 100) : ∀ (f : Nat) (S a t s : Int) (M : List Int), f ≤ 6 → PGo B T f S a t → M ∈ ordq f S → 0 ≤ s → 0 ≤ vlo (erq B 0) W T a t s M ∧ vlo (erq B 0) W T a t s M ≤ s + 12000000 * f
  | 0, S, a, t, s, M, f6, pg, m, s0 => by
    by_cases z : S = 0
    · have e : ordq 0 S = [[]] := if_pos z
      rw [e] at m
      rw [List.mem_singleton.mp m]
      show 0 ≤ s ∧ s ≤ s + 12000000 * ((0 : Nat) : Int)
      omega
    · have e : ordq 0 S = [] := if_neg z
      rw [e] at m
      exact absurd m (List.not_mem_nil)
  | f + 1, S, a, t, s, M, f6, pg, m, s0 => by
    by_cases z : S = 0
    · have e : ordq (f + 1) S = [[]] := if_pos z
      rw [e] at m
      rw [List.mem_singleton.mp m]
      show 0 ≤ s ∧ s ≤ s + 12000000 * ((f + 1 : Nat) : Int)
      omega
    · have e : ordq (f + 1) S = ordb (ordq f) S 8 0 := if_neg z
      rw [e] at m
      obtain ⟨y, M', y0, y1, hy, m', eM⟩ := ordb_m (ordq f) S 8 0 m
      have y2 : y < 8 := by omega
      have ps := PG_stp wo T0 T1 f S a t y pg y0 y2 hy
      have pb := PG_b wo T0 T1 f6 pg y0 y2 hy
      have w8 := hW y y0 y2
      have mk := mulk w8.1 w8.2 pb.2.1 pb.2.2
      have r := vlo_b wo T0 T1 W hW f (rmk S y) y (erq B 0 a t y) (s + W y * (erq B 0 a t y - T)) M' (by omega) ps m' (by omega)
      rw [eM]
      show 0 ≤ vlo (erq B 0) W T y (erq B 0 a t y) (s + W y * (erq B 0 a t y - T)) M' ∧ vlo (erq B 0) W T y (erq B 0 a t y) (s + W y * (erq B 0 a t y - T)) M' ≤ s + 12000000 * ((f + 1 : Nat) : Int)
      omega
def StR (N : Int) (D : Nat → Int → Int) (u : Int × (Int → Int)) : Prop := (D 81 62 < 0 ∧ u.1 = 2147483647) ∨ (D 81 62 = u.1 ∧ 0 ≤ u.1 ∧ ∀ k : Int, 0 ≤ k → k < N → D 122 k = u.2 k)
def PIt (b : Nat) (j : Int) : Prop := b ≠ 92 ∧ b ≠ 122 ∧ ¬ (b = 81 ∧ j = 62)
theorem StR_c {N : Int} {D D' : Nat → Int → Int} {u : Int × (Int → Int)} (h : StR N D u) (e : D' 81 62 = D 81 62) (g : ∀ k : Int, D' 122 k = D 122 k) : StR N D' u := by
  rcases h with h | h
  · exact Or.inl ⟨by rw [e]; exact h.1, h.2⟩
  · exact Or.inr ⟨by rw [e]; exact h.1, h.2.1, fun k k0 k1 => (g k).trans (h.2.2 k k0 k1)⟩
set_option maxRecDepth 100000 in
set_option maxHeartbeats 1000000 in
theorem q_it (d L n : Nat) {N r : Nat} (N6 : N < 7) (hr : r < 6) {T yd S : Int} (T0 : 0 ≤ T) (T1 : T ≤ 9000000) (g W : Int → Int) (D : Nat → Int → Int) (wo : WO D) (hT : D 81 5 = T) (hW : ∀ y : Int, 0 ≤ y → y < 8 → D 84 (40 * r + y) = W y ∧ 0 ≤ W y ∧ W y ≤ 100) (pg : PGo D T 6 S yd T) (hg : ∀ i : Int, 0 ≤ i → i < N → D 123 i = g i) {l : List Int} (hl : (List.range N).map (fun k : Nat => D 124 ((k : Nat) : Int)) = l) (hm : l ∈ ordq N (2 ^ N - 1)) (hM : l.map g ∈ ordq 6 S) {u : Int × (Int → Int)} (st : StR N D u) :
    ∃ D2, tqrun tqP (d + 3) tqc_X12_look 266 [vR 81, vU, vI yd, vI (r : Int), vU, vU, vI (N : Int), vU, vI 1, vU, vU, vU, vU, vU] [] (tzW D L n) = tqbI (tqden tqP (d + 2) n_X12_nextOrder [vR 81, vI (N : Int)] (tzW D2 L n)) (fun x m => tqrun tqP (d + 3) tqc_X12_look 266 [vR 81, vU, vI yd, vI (r : Int), vU, vU, vI (N : Int), vU, vI x, vU, vU, vU, vU, vU] [] m) ∧ Sm PIt D D2 ∧ StR N D2 (stoq u (vlo (erq D 0) W T yd T 0 (l.map g), aso (fun _ => 0) 0 (l.map g))) := by
  have hb : ∀ z : Int, 0 ≤ z → z < (N : Int) → 0 ≤ D 124 z ∧ D 124 z < (N : Int) := fun z z0 z1 => by
    refine oa_all N6 hm ?_
    rw [← hl]
    exact List.mem_map.mpr ⟨z.toNat, List.mem_range.mpr (by omega), by rw [show ((z.toNat : Nat) : Int) = z by omega]⟩
  have eM : msq D N 0 = l.map g := msq_l hl (fun x hx => hg x (oa_all N6 hm hx).1 (oa_all N6 hm hx).2)
  have aM : ∀ z : Int, 0 ≤ z → z < (N : Int) → aso (fun _ => 0) 0 (l.map g) z = D 123 (D 124 z) := fun z z0 z1 => by
    rw [← eM]; exact aso_msq D N 0 _ z z0 (by omega)
  have vb := vlo_b wo T0 T1 W (fun y y0 y1 => (hW y y0 y1).2) 6 S yd T 0 (l.map g) (by omega) pg hM (by omega)
  obtain ⟨D1, a', t', r1, r2⟩ := q_l286 d L n D hr wo T0 T1 hT W hW (N := (N : Int)) (by omega) hb yd N 6 S yd T 0 0 D (by omega) (by omega) (by omega) pg (by rw [eM]; exact hM) (Ofq_r _ _) (by omega) (by omega)
  rw [eM] at r1
  obtain ⟨v, hv⟩ : ∃ v, v = vlo (erq D 0) W T yd T 0 (l.map g) := ⟨_, rfl⟩
  rw [← hv] at vb r1 ⊢
  have cN : (N : Int) ≤ (N : Int) := Int.le_refl _
  have d62 : D1 81 62 = D 81 62 := r2 81 62 (by omega)
  have st0 : tqrun tqP (d + 3) tqc_X12_look 266 [vR 81, vU, vI yd, vI (r : Int), vU, vU, vI (N : Int), vU, vI 1, vU, vU, vU, vU, vU] [] (tzW D L n) = tqrun tqP (d + 3) tqc_X12_look 286 [vR 81, vU, vI yd, vI (r : Int), vU, vU, vI (N : Int), vU, vU, vI v, vI a', vI t', vI (N : Int), vU] [] (tzW D1 L n) := by
    refine Eq.trans ?_ r1
    rw [b_X12_look_266]
    simp only [z_cd, i10, i11, dnn, rdU, eW, eU, tzC_w, w_shp, w_ptr, Nat.beq_refl, nbz, nb133, nb75, nb55, nb67, n133a, n133b, n75a, n75b, aT, aR, oT, oR, oF, oG, kT, kF, bI, bL, bR, b0, Classical.not_not, not_true_eq_false, not_false_eq_true, and_self, and_true, true_and, ↓reduceIte, decide_true, decide_false, Nat.reduceEqDiff, Nat.reduceLT, Nat.reduceLeDiff, Int.reduceEq, hT]
  have wr : tqrun tqP (d + 3) tqc_X12_look 286 [vR 81, vU, vI yd, vI (r : Int), vU, vU, vI (N : Int), vU, vU, vI v, vI a', vI t', vI (N : Int), vU] [] (tzW D1 L n) = tqrun tqP (d + 3) tqc_X12_look 379 [vR 81, vU, vI yd, vI (r : Int), vU, vU, vI (N : Int), vU, vU, vU, vU, vU, vI 0, vU] [] (tzW (tzU D1 81 62 v) L n) → ∃ D2, tqrun tqP (d + 3) tqc_X12_look 266 [vR 81, vU, vI yd, vI (r : Int), vU, vU, vI (N : Int), vU, vI 1, vU, vU, vU, vU, vU] [] (tzW D L n) = tqbI (tqden tqP (d + 2) n_X12_nextOrder [vR 81, vI (N : Int)] (tzW D2 L n)) (fun x m => tqrun tqP (d + 3) tqc_X12_look 266 [vR 81, vU, vI yd, vI (r : Int), vU, vU, vI (N : Int), vU, vI x, vU, vU, vU, vU, vU] [] m) ∧ Sm PIt D D2 ∧ StR N D2 (v, aso (fun _ => 0) 0 (l.map g)) := by
    intro w
    obtain ⟨X, hX⟩ : ∃ X, X = tzU D1 81 62 v := ⟨_, rfl⟩
    have x124 : ∀ z : Int, X 124 z = D 124 z := fun z => by rw [hX, tzU_o _ _ _ _ (by omega)]; exact r2 124 z (by omega)
    have x123 : ∀ z : Int, X 123 z = D 123 z := fun z => by rw [hX, tzU_o _ _ _ _ (by omega)]; exact r2 123 z (by omega)
    rw [← hX] at w
    obtain ⟨D2, s1, s2, s3⟩ := q_l379 (d + 2) L n (N := (N : Int)) (by omega) yd (r : Int) N 0 X (by omega) (by omega) (fun z z0 z1 => by rw [x124 z]; exact hb z z0 z1) (fun z z0 z1 => by omega)
    refine ⟨D2, (st0.trans w).trans (s1.trans ?_), fun b j p => ?_, Or.inr ⟨?_, vb.1, fun k k0 k1 => ?_⟩⟩
    · refine (b_X12_look_379 (d + 2) 81 yd (r : Int) (N : Int) (N : Int) (tzW D2 L n)).trans ?_
      simp only [z_cd, i10, i11, dnn, rdU, eW, eU, tzC_w, w_shp, w_ptr, Nat.beq_refl, nbz, nb133, nb75, nb55, nb67, n133a, n133b, n75a, n75b, aT, aR, oT, oR, oF, oG, kT, kF, bI, bL, bR, b0, Classical.not_not, not_true_eq_false, not_false_eq_true, and_self, and_true, true_and, ↓reduceIte, decide_true, decide_false, Nat.reduceEqDiff, Nat.reduceLT, Nat.reduceLeDiff, Int.reduceEq, cN]
    · unfold PIt at p
      rw [s2 b j p.2.1, hX]
      by_cases e : b = 81
      · rw [e, tzU_k _ _ _ _ (fun t => p.2.2 ⟨e, t⟩)]; exact r2 81 j (by omega)
      · rw [tzU_o _ _ _ _ e]; exact r2 b j p.1
    · show D2 81 62 = v
      rw [s2 81 62 (by omega), hX, tzU_s]
    · show D2 122 k = aso (fun _ => 0) 0 (l.map g) k
      rw [s3 k k0 k1, x124 k, x123 _, aM k k0 k1]
  rcases st with ⟨st1, st2⟩ | ⟨st1, st2, st3⟩
  · have e : stoq u (v, aso (fun _ => 0) 0 (l.map g)) = (v, aso (fun _ => 0) 0 (l.map g)) := if_pos (show v < u.1 by rw [st2]; omega)
    rw [e]
    have c : D1 81 62 < 0 := by rw [d62]; exact st1
    refine wr ?_
    refine (b_X12_look_286 (d + 2) 81 yd (r : Int) (N : Int) v a' t' (N : Int) (tzW D1 L n)).trans ?_
    simp only [z_cd, i10, i11, dnn, rdU, eW, eU, tzC_w, w_shp, w_ptr, Nat.beq_refl, nbz, nb133, nb75, nb55, nb67, n133a, n133b, n75a, n75b, aT, aR, oT, oR, oF, oG, kT, kF, bI, bL, bR, b0, Classical.not_not, not_true_eq_false, not_false_eq_true, and_self, and_true, true_and, ↓reduceIte, decide_true, decide_false, Nat.reduceEqDiff, Nat.reduceLT, Nat.reduceLeDiff, Int.reduceEq, cN, c]
  · by_cases q : v < u.1
    · have e : stoq u (v, aso (fun _ => 0) 0 (l.map g)) = (v, aso (fun _ => 0) 0 (l.map g)) := if_pos q
      rw [e]
      have c : ¬ D1 81 62 < 0 := by rw [d62, st1]; omega
      have c2 : ¬ D1 81 62 ≤ v := by rw [d62, st1]; omega
      refine wr ?_
      refine (b_X12_look_286 (d + 2) 81 yd (r : Int) (N : Int) v a' t' (N : Int) (tzW D1 L n)).trans ?_
      simp only [z_cd, i10, i11, dnn, rdU, eW, eU, tzC_w, w_shp, w_ptr, Nat.beq_refl, nbz, nb133, nb75, nb55, nb67, n133a, n133b, n75a, n75b, aT, aR, oT, oR, oF, oG, kT, kF, bI, bL, bR, b0, Classical.not_not, not_true_eq_false, not_false_eq_true, and_self, and_true, true_and, ↓reduceIte, decide_true, decide_false, Nat.reduceEqDiff, Nat.reduceLT, Nat.reduceLeDiff, Int.reduceEq, cN, c, c2]
    · have e : stoq u (v, aso (fun _ => 0) 0 (l.map g)) = u := if_neg q
      rw [e]
      have c : ¬ D1 81 62 < 0 := by rw [d62, st1]; omega
      have c2 : D1 81 62 ≤ v := by rw [d62, st1]; omega
      refine ⟨D1, st0.trans ?_, fun b j p => r2 b j p.1, StR_c (Or.inr ⟨st1, st2, st3⟩) d62 (fun k => r2 122 k (by omega))⟩
      refine (b_X12_look_286 (d + 2) 81 yd (r : Int) (N : Int) v a' t' (N : Int) (tzW D1 L n)).trans ?_
      simp only [z_cd, i10, i11, dnn, rdU, eW, eU, tzC_w, w_shp, w_ptr, Nat.beq_refl, nbz, nb133, nb75, nb55, nb67, n133a, n133b, n75a, n75b, aT, aR, oT, oR, oF, oG, kT, kF, bI, bL, bR, b0, Classical.not_not, not_true_eq_false, not_false_eq_true, and_self, and_true, true_and, ↓reduceIte, decide_true, decide_false, Nat.reduceEqDiff, Nat.reduceLT, Nat.reduceLeDiff, Int.reduceEq, cN, c, c2]
def PIq (b : Nat) (j : Int) : Prop := b ≠ 92 ∧ b ≠ 122 ∧ b ≠ 124 ∧ ¬ (b = 81 ∧ j = 62)
def PIz (b : Nat) (j : Int) : Prop := b ≠ 92 ∧ b ≠ 122 ∧ b ≠ 124 ∧ ¬ (b = 81 ∧ (j = 62 ∨ j = 58 ∨ j = 2))
theorem WO_fr {D D' : Nat → Int → Int} (h : ∀ (b : Nat) (j : Int), (8 ≤ b ∧ b ≤ 11) ∨ (88 ≤ b ∧ b ≤ 91) → D' b j = D b j) (w : WO D) : WO D' :=
  ⟨WY_fr h w.1, fun y y0 y1 => (h 88 _ (by omega)).trans (w.2.1 y y0 y1), fun x y x0 x1 y0 y1 => by rw [h 88 _ (by omega), h 88 _ (by omega)]; exact w.2.2 x y x0 x1 y0 y1⟩
theorem erf {D D' : Nat → Int → Int} (h : ∀ (b : Nat) (j : Int), 88 ≤ b → b ≤ 91 → D' b j = D b j) : erq D' 0 = erq D 0 := by
  funext a t y
  exact er_fr h 0 a t y
set_option maxRecDepth 100000 in
set_option maxHeartbeats 1000000 in
theorem q_266 (d L n : Nat) {N r : Nat} (N6 : N < 7) (hr : r < 6) {T yd S : Int} (T0 : 0 ≤ T) (T1 : T ≤ 9000000) (g W : Int → Int) (B : Nat → Int → Int) (wo : WO B) (hT : B 81 5 = T) (hW : ∀ y : Int, 0 ≤ y → y < 8 → B 84 (40 * r + y) = W y ∧ 0 ≤ W y ∧ W y ≤ 100) (pg : PGo B T 6 S yd T) (hg : ∀ i : Int, 0 ≤ i → i < N → B 123 i = g i) : ∀ (x : List (List Int)) (l : List Int) (D : Nat → Int → Int) (u : Int × (Int → Int)), Sm PIq B D → (List.range N).map (fun k : Nat => D 124 ((k : Nat) : Int)) = l → chk6 N (l :: x) = true → (∀ l' : List Int, l' ∈ l :: x → l' ∈ ordq N (2 ^ N - 1) ∧ l'.map g ∈ ordq 6 S) → StR N D u →
    ∃ D', tqrun tqP (d + 3) tqc_X12_look 266 [vR 81, vU, vI yd, vI (r : Int), vU, vU, vI (N : Int), vU, vI 1, vU, vU, vU, vU, vU] [] (tzW D L n) = some (some (vI (N : Int)), tzW D' L n) ∧ Sm PIz B D' ∧ D' 81 58 = N ∧ D' 81 2 = D' 81 62 ∧ StR N D' (flo (erq B 0) W T yd T 0 (fun _ => 0) 0 ((l :: x).map (List.map g)) u) := by
  intro x
  induction x with
  | nil =>
    intro l D u s hl hc hm st
    have wD : WO D := WO_fr (fun b j p => s b j (by unfold PIq; omega)) wo
    have eE : erq D 0 = erq B 0 := erf (fun b j p q => s b j (by unfold PIq; omega))
    obtain ⟨D2, r1, r2, r3⟩ := q_it d L n N6 hr T0 T1 g W D wD ((s 81 5 (by unfold PIq; omega)).trans hT) (fun y y0 y1 => by rw [s 84 _ (by unfold PIq; omega)]; exact hW y y0 y1) (by unfold PGo; rw [eE]; exact pg) (fun i i0 i1 => (s 123 i (by unfold PIq; omega)).trans (hg i i0 i1)) hl (hm l (List.mem_cons_self)).1 (hm l (List.mem_cons_self)).2 st
    rw [eE] at r3
    have h : (decide (noi (lf6 l) 6 ((N : Int) - 2) < 0) && true) = true := hc
    rw [Bool.and_true] at h
    have h2 := of_decide_eq_true h
    have ag : AgN (N : Int) (D2 124) (lf6 l) := fun k k0 k1 => (r2 124 k (by unfold PIt; omega)).trans (lf_ag (o := D 124) hl k k0 k1)
    have h3 : noi (D2 124) 6 ((N : Int) - 2) < 0 := by rw [noi_c ag 6 _ (by omega)]; exact h2
    have nx := (q_next (d + 1) L n D2 (N := (N : Int)) (by omega) (by omega)).1 h3
    have z0 : ¬ (2 : Int) = 58 := by decide
    have z1 : ¬ (2 : Int) = 62 := by decide
    refine ⟨tzU (tzU D2 81 58 N) 81 2 (D2 81 62), r1.trans ((tz_bI nx).trans ?_), fun b j p => ?_, ?_, ?_, StR_c r3 ?_ (fun k => ?_)⟩
    · refine (b_X12_look_266 (d + 2) 81 yd (r : Int) (N : Int) 0 (tzW D2 L n)).trans ?_
      simp only [z_cd, i10, i11, dnn, rdU, eW, eU, tzC_w, w_shp, w_ptr, Nat.beq_refl, nbz, nb133, nb75, nb55, nb67, n133a, n133b, n75a, n75b, aT, aR, oT, oR, oF, oG, kT, kF, bI, bL, bR, b0, Classical.not_not, not_true_eq_false, not_false_eq_true, and_self, and_true, true_and, ↓reduceIte, decide_true, decide_false, Nat.reduceEqDiff, Nat.reduceLT, Nat.reduceLeDiff, Int.reduceEq, q_ask]
    · unfold PIz at p
      by_cases e : b = 81
      · rw [e, tzU_k _ _ _ _ (by omega), tzU_k _ _ _ _ (by omega), r2 81 j (by unfold PIt; omega)]
        exact s 81 j (by unfold PIq; omega)
      · rw [tzU_o _ _ _ _ e, tzU_o _ _ _ _ e, r2 b j (by unfold PIt; omega)]
        exact s b j (by unfold PIq; omega)
    · rw [tzU_k _ _ _ _ (by decide), tzU_s]
    · rw [tzU_s, tzU_k _ _ _ _ (by decide), tzU_k _ _ _ _ (by decide)]
    · rw [tzU_k _ _ _ _ (by decide), tzU_k _ _ _ _ (by decide)]
    · rw [tzU_o _ _ _ _ (by decide), tzU_o _ _ _ _ (by decide)]
  | cons l' x ih =>
    intro l D u s hl hc hm st
    have wD : WO D := WO_fr (fun b j p => s b j (by unfold PIq; omega)) wo
    have eE : erq D 0 = erq B 0 := erf (fun b j p q => s b j (by unfold PIq; omega))
    obtain ⟨D2, r1, r2, r3⟩ := q_it d L n N6 hr T0 T1 g W D wD ((s 81 5 (by unfold PIq; omega)).trans hT) (fun y y0 y1 => by rw [s 84 _ (by unfold PIq; omega)]; exact hW y y0 y1) (by unfold PGo; rw [eE]; exact pg) (fun i i0 i1 => (s 123 i (by unfold PIq; omega)).trans (hg i i0 i1)) hl (hm l (List.mem_cons_self)).1 (hm l (List.mem_cons_self)).2 st
    rw [eE] at r3
    have h : ((decide (¬ noi (lf6 l) 6 ((N : Int) - 2) < 0) && decide ((List.range N).map (fun k : Nat => nxo (lf6 l) (N : Int) ((k : Nat) : Int)) = l')) && chk6 N (l' :: x)) = true := hc
    rw [Bool.and_eq_true, Bool.and_eq_true] at h
    obtain ⟨⟨h1, h2⟩, h4⟩ := h
    have h1' := of_decide_eq_true h1
    have h2' := of_decide_eq_true h2
    have ag : AgN (N : Int) (D2 124) (lf6 l) := fun k k0 k1 => (r2 124 k (by unfold PIt; omega)).trans (lf_ag (o := D 124) hl k k0 k1)
    have h3 : ¬ noi (D2 124) 6 ((N : Int) - 2) < 0 := by rw [noi_c ag 6 _ (by omega)]; exact h1'
    obtain ⟨D3, n1, n2, n3⟩ := (q_next (d + 1) L n D2 (N := (N : Int)) (by omega) (by omega)).2 h3
    have ag2 := nxo_c ag (by omega) h3
    have hl3 : (List.range N).map (fun k : Nat => D3 124 ((k : Nat) : Int)) = l' := by
      rw [← h2']
      refine List.map_congr_left (fun k hk => ?_)
      have hk2 := List.mem_range.mp hk
      exact (n3 (k : Int)).trans (ag2 (k : Int) (by omega) (by omega))
    have s3 : Sm PIq B D3 := fun b j p => by
      have p' := p
      unfold PIq at p'
      rw [n2 b j p'.2.2.1, r2 b j (by unfold PIt; omega)]
      exact s b j p
    obtain ⟨D', t1, t2, t3, t4, t5⟩ := ih l' D3 _ s3 hl3 h4 (fun y hy => hm y (List.mem_cons_of_mem _ hy)) (StR_c r3 (n2 81 62 (by omega)) (fun k => n2 122 k (by omega)))
    exact ⟨D', r1.trans ((tz_bI n1).trans t1), t2, t3, t4, t5⟩
