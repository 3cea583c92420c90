/-! ===== look: class and reference agree ===== -/
theorem lineAt_n (d : Nat) (D : Nat → Int → Int) (L n : Nat) {a : Int} (h : ¬ (0 ≤ a ∧ a ≤ 5)) : tqden tqP (d + 1) n_X11_lineAt [vR 3, vI a] (tzW D L n) = some (some (vR 0), tzW D L n) := s_lineAt_rows_n d D L n (by omega)
set_option maxRecDepth 100000 in
set_option maxHeartbeats 4000000 in
theorem lk_bad {L : Nat} (a0 a1 a2 : Int) (D : Nat → Int → Int) (n : Nat) (hR : Rel D n) (h : ¬ ((0 ≤ a0 ∧ a0 < n) ∧ (0 ≤ a1 ∧ a1 ≤ 7) ∧ (0 ≤ a2 ∧ a2 ≤ 5))) : tqden tqP 1399 n_X11_look [vR 2, vI a0, vI a1, vI a2] (tzW D L n) = some (some (vI (-1)), tzW D L n) ∧ tqden tqP 1399 n_X12_look [vR 81, vI a0, vI a1, vI a2] (tzW D L n) = some (some (vI (-1)), tzW D L n) := by
  obtain ⟨hA, hL, hW, hN, ⟨c1, c2, c3⟩, hT, hD, hK, hB, hQ, hX, hM, hP, hS⟩ := id hR
  by_cases ct : 0 ≤ a0 ∧ a0 < n
  · obtain ⟨t, e⟩ : ∃ t : Nat, a0 = t := ⟨a0.toNat, by omega⟩
    subst e
    have ht : t < n := by omega
    by_cases cy : 0 ≤ a1 ∧ a1 ≤ 7
    · have cr : ¬ (0 ≤ a2 ∧ a2 ≤ 5) := fun q => h ⟨ct, cy, q⟩
      constructor
      · rw [dn_X11_look, b_X11_look_0]
        simp only [z_cd, i10, i11, dnn, rdU, eW, eU, tzC_w, w_shp, w_ptr, Nat.beq_refl, nbz, nb133, nb75, nb55, nb67, n133a, n133b, n75a, n75b, aT, aR, oT, oR, oF, oG, kT, kF, bI, bL, bR, b0, Classical.not_not, not_true_eq_false, not_false_eq_true, and_self, and_true, true_and, ↓reduceIte, decide_true, decide_false, Nat.reduceEqDiff, Nat.reduceLT, Nat.reduceLeDiff, Int.reduceEq, p_trailerAt_y _ D L n t c1 c3 ht, lineAt_n _ D L n cr, p_isYard, cy, b_X11_look_34]
      · rw [dn_X12_look, b_X12_look_0]
        simp only [z_cd, i10, i11, dnn, rdU, eW, eU, tzC_w, w_shp, w_ptr, Nat.beq_refl, nbz, nb133, nb75, nb55, nb67, n133a, n133b, n75a, n75b, aT, aR, oT, oR, oF, oG, kT, kF, bI, bL, bR, b0, Classical.not_not, not_true_eq_false, not_false_eq_true, and_self, and_true, true_and, ↓reduceIte, decide_true, decide_false, Nat.reduceEqDiff, Nat.reduceLT, Nat.reduceLeDiff, Int.reduceEq, q_isTrailer _ D L n t c2 c3, ct, q_isYard, cy, q_isRow, cr]
    · constructor
      · rw [dn_X11_look, b_X11_look_0]
        by_cases cr : 0 ≤ a2 ∧ a2 ≤ 5
        · obtain ⟨k, e⟩ : ∃ k : Nat, a2 = k := ⟨a2.toNat, by omega⟩
          subst e
          have hk : k < 6 := by omega
          simp only [z_cd, i10, i11, dnn, rdU, eW, eU, tzC_w, w_shp, w_ptr, Nat.beq_refl, nbz, nb133, nb75, nb55, nb67, n133a, n133b, n75a, n75b, aT, aR, oT, oR, oF, oG, kT, kF, bI, bL, bR, b0, Classical.not_not, not_true_eq_false, not_false_eq_true, and_self, and_true, true_and, ↓reduceIte, decide_true, decide_false, Nat.reduceEqDiff, Nat.reduceLT, Nat.reduceLeDiff, Int.reduceEq, p_trailerAt_y _ D L n t c1 c3 ht, s_lineAt_rows_y _ D L n hk, p_isYard, cy, b_X11_look_34]
        · simp only [z_cd, i10, i11, dnn, rdU, eW, eU, tzC_w, w_shp, w_ptr, Nat.beq_refl, nbz, nb133, nb75, nb55, nb67, n133a, n133b, n75a, n75b, aT, aR, oT, oR, oF, oG, kT, kF, bI, bL, bR, b0, Classical.not_not, not_true_eq_false, not_false_eq_true, and_self, and_true, true_and, ↓reduceIte, decide_true, decide_false, Nat.reduceEqDiff, Nat.reduceLT, Nat.reduceLeDiff, Int.reduceEq, p_trailerAt_y _ D L n t c1 c3 ht, lineAt_n _ D L n cr, p_isYard, cy, b_X11_look_34]
      · rw [dn_X12_look, b_X12_look_0]
        simp only [z_cd, i10, i11, dnn, rdU, eW, eU, tzC_w, w_shp, w_ptr, Nat.beq_refl, nbz, nb133, nb75, nb55, nb67, n133a, n133b, n75a, n75b, aT, aR, oT, oR, oF, oG, kT, kF, bI, bL, bR, b0, Classical.not_not, not_true_eq_false, not_false_eq_true, and_self, and_true, true_and, ↓reduceIte, decide_true, decide_false, Nat.reduceEqDiff, Nat.reduceLT, Nat.reduceLeDiff, Int.reduceEq, q_isTrailer _ D L n t c2 c3, ct, q_isYard, cy]
  · constructor
    · rw [dn_X11_look, b_X11_look_0]
      by_cases cr : 0 ≤ a2 ∧ a2 ≤ 5
      · obtain ⟨k, e⟩ : ∃ k : Nat, a2 = k := ⟨a2.toNat, by omega⟩
        subst e
        have hk : k < 6 := by omega
        simp only [z_cd, i10, i11, dnn, rdU, eW, eU, tzC_w, w_shp, w_ptr, Nat.beq_refl, nbz, nb133, nb75, nb55, nb67, n133a, n133b, n75a, n75b, aT, aR, oT, oR, oF, oG, kT, kF, bI, bL, bR, b0, Classical.not_not, not_true_eq_false, not_false_eq_true, and_self, and_true, true_and, ↓reduceIte, decide_true, decide_false, Nat.reduceEqDiff, Nat.reduceLT, Nat.reduceLeDiff, Int.reduceEq, p_trailerAt_n _ D L n a0 c1 ct, s_lineAt_rows_y _ D L n hk, b_X11_look_34]
      · simp only [z_cd, i10, i11, dnn, rdU, eW, eU, tzC_w, w_shp, w_ptr, Nat.beq_refl, nbz, nb133, nb75, nb55, nb67, n133a, n133b, n75a, n75b, aT, aR, oT, oR, oF, oG, kT, kF, bI, bL, bR, b0, Classical.not_not, not_true_eq_false, not_false_eq_true, and_self, and_true, true_and, ↓reduceIte, decide_true, decide_false, Nat.reduceEqDiff, Nat.reduceLT, Nat.reduceLeDiff, Int.reduceEq, p_trailerAt_n _ D L n a0 c1 ct, lineAt_n _ D L n cr, b_X11_look_34]
    · rw [dn_X12_look, b_X12_look_0]
      simp only [z_cd, i10, i11, dnn, rdU, eW, eU, tzC_w, w_shp, w_ptr, Nat.beq_refl, nbz, nb133, nb75, nb55, nb67, n133a, n133b, n75a, n75b, aT, aR, oT, oR, oF, oG, kT, kF, bI, bL, bR, b0, Classical.not_not, not_true_eq_false, not_false_eq_true, and_self, and_true, true_and, ↓reduceIte, decide_true, decide_false, Nat.reduceEqDiff, Nat.reduceLT, Nat.reduceLeDiff, Int.reduceEq, q_isTrailer _ D L n a0 c2 c3, ct]
theorem flo_hd (E : Int → Int → Int → Int) (wt : Int → Int) (T a t s : Int) (g : Int → Int) (p : Int) (M : List Int) (x : List (List Int)) (u : Int × (Int → Int)) (h : vlo E wt T a t s M < u.1) : (flo E wt T a t s g p (M :: x) u).1 ≤ vlo E wt T a t s M := by
  have e : stoq u (vlo E wt T a t s M, aso g p M) = (vlo E wt T a t s M, aso g p M) := if_pos h
  have k := flo_le E wt T a t s g p x (stoq u (vlo E wt T a t s M, aso g p M))
  rw [e] at k
  show (flo E wt T a t s g p x (stoq u (vlo E wt T a t s M, aso g p M))).1 ≤ vlo E wt T a t s M
  rw [e]
  exact k
set_option maxRecDepth 100000 in
set_option maxHeartbeats 4000000 in
/-- the reference behind the loop over the yards, where all is well -/
theorem q_fin (d L n : Nat) {N r : Nat} (N6 : N < 7) (hr : r < 6) {T yd S : Int} (T0 : 0 ≤ T) (T1 : T ≤ 9000000) (S0 : 0 ≤ S) (S1 : S < 256) (W : Int → Int) (B : Nat → Int → Int) (wo : WO B) (hT : B 81 5 = T) (hW : ∀ y : Int, 0 ≤ y → y < 8 → B 84 (40 * r + y) = W y ∧ 0 ≤ W y ∧ W y ≤ 100) (pg : PGo B T 6 S yd T) (G : Gmn (N : Int) (B 123)) (h1 : ∀ i : Int, 0 ≤ i → i < N → hbq S (B 123 i)) (h2 : ∀ y : Int, 0 ≤ y → y < 8 → hbq S y → ∃ i : Int, 0 ≤ i ∧ i < N ∧ B 123 i = y) (q : Int → Int) :
    ∃ Y, tqrun tqP (d + 3) tqc_X12_look 235 [vR 81, vU, vI yd, vI (r : Int), vU, vU, vI (N : Int), vU, vI 0, vU, vU, vU, vU, vU] [] (tzW B L n) = some (some (vI (N : Int)), tzW Y L n) ∧ Sm PIz B Y ∧ Y 81 58 = N ∧ Y 81 2 = (flo (erq B 0) W T yd T 0 (fun _ => 0) 0 (ordq 6 S) (2147483647, q)).1 ∧ (∀ k : Int, 0 ≤ k → k < N → Y 122 k = (flo (erq B 0) W T yd T 0 (fun _ => 0) 0 (ordq 6 S) (2147483647, q)).2 k) := by
  obtain ⟨C, r1, r2, r3⟩ := q_l235 (d + 2) L n (N := (N : Int)) (by omega) yd (r : Int) N 0 B (by omega) (by omega) (fun z a b => by omega)
  have nd := nx_dec ⟨N, N6⟩
  obtain ⟨nd1, nd2⟩ := nd
  have oa := og_all N6 S0 S1 G h1 h2
  have nd1' : chk6 N (ordq N (2 ^ N - 1)) = true := nd1
  have nd2' : (ordq N (2 ^ N - 1)).head? = some ((List.range N).map (fun k : Nat => ((k : Nat) : Int))) := nd2
  obtain ⟨l, x, ex⟩ : ∃ l x, ordq N (2 ^ N - 1) = l :: x := by
    cases hx : ordq N (2 ^ N - 1) with
    | nil => rw [hx] at nd2'; exact absurd nd2' (by intro t; cases t)
    | cons l x => exact ⟨l, x, rfl⟩
  rw [ex] at nd1' nd2'
  have el : l = (List.range N).map (fun k : Nat => ((k : Nat) : Int)) := by
    have h : some l = some ((List.range N).map (fun k : Nat => ((k : Nat) : Int))) := nd2'
    injection h
  obtain ⟨X, hX⟩ : ∃ X, X = tzU C 81 62 (-9) := ⟨_, rfl⟩
  rw [← hX] at r1
  have xo : ∀ (b : Nat) (j : Int), b ≠ 124 → ¬ (b = 81 ∧ j = 62) → X b j = B b j := fun b j p q => by
    rw [hX]
    by_cases e : b = 81
    · rw [tzU_k _ _ _ _ (fun t => q ⟨e, t⟩)]; exact r2 b j p
    · rw [tzU_o _ _ _ _ e]; exact r2 b j p
  have x124 : ∀ z : Int, 0 ≤ z → z < (N : Int) → X 124 z = z := fun z z0 z1 => by
    rw [hX, tzU_o _ _ _ _ (by omega)]; exact r3 z z0 z1
  have eE : erq X 0 = erq B 0 := erf (fun b j p q => xo b j (by omega) (by omega))
  have hl : (List.range N).map (fun k : Nat => X 124 ((k : Nat) : Int)) = l := by
    rw [el]
    refine List.map_congr_left (fun k hk => ?_)
    have hk2 := List.mem_range.mp hk
    exact x124 (k : Int) (by omega) (by omega)
  obtain ⟨Y, t1, t2, t3, t4, t5⟩ := q_266 d L n N6 hr T0 T1 (B 123) W X (WO_fr (fun b j p => xo b j (by omega) (by omega)) wo) ((xo 81 5 (by omega) (by omega)).trans hT) (fun y y0 y1 => by rw [xo 84 _ (by omega) (by omega)]; exact hW y y0 y1) (S := S) (yd := yd) (by unfold PGo; rw [eE]; exact pg) (fun i i0 i1 => xo 123 i (by omega) (by omega)) x l X (2147483647, q) (Sm_r _ _) hl nd1' (fun l' m => by
    rw [← ex] at m
    refine ⟨m, ?_⟩
    rw [oa]
    exact List.mem_map.mpr ⟨l', m, rfl⟩) (Or.inl ⟨by rw [hX, tzU_s]; omega, rfl⟩)
  rw [← ex, ← oa, eE] at t5
  have hd : (flo (erq B 0) W T yd T 0 (fun _ => 0) 0 (ordq 6 S) (2147483647, q)).1 < 2147483647 := by
    have m : l.map (B 123) ∈ ordq 6 S := by rw [oa, ex]; exact List.mem_map.mpr ⟨l, List.mem_cons_self, rfl⟩
    have vb := vlo_b wo T0 T1 W (fun y y0 y1 => (hW y y0 y1).2) 6 S yd T 0 (l.map (B 123)) (by omega) pg m (by omega)
    have e : ordq 6 S = l.map (B 123) :: x.map (List.map (B 123)) := by rw [oa, ex]; rfl
    rw [e]
    have k := flo_hd (erq B 0) W T yd T 0 (fun _ => 0) 0 (l.map (B 123)) (x.map (List.map (B 123))) (2147483647, q) (by show vlo (erq B 0) W T yd T 0 (l.map (B 123)) < 2147483647; omega)
    omega
  rcases t5 with t5 | t5
  · have := t5.2
    omega
  · refine ⟨Y, ?_, fun b j p => ?_, t3, t4.trans t5.1, t5.2.2⟩
    · exact r1.trans t1
    · rw [t2 b j p]
      unfold PIz at p
      exact xo b j (by omega) (by omega)
set_option maxRecDepth 100000 in
set_option maxHeartbeats 8000000 in
theorem z08 : (0 : Int) ≤ 8 := by decide
theorem ag_look {L : Nat} (a0 a1 a2 : Int) : AgI Rel L n_X11_look n_X12_look [vI a0, vI a1, vI a2] := by
  intro D n hR
  by_cases h : ((0 ≤ a0 ∧ a0 < n) ∧ (0 ≤ a1 ∧ a1 ≤ 7) ∧ (0 ≤ a2 ∧ a2 ≤ 5))
  case neg =>
    obtain ⟨p, q⟩ := lk_bad (L := L) a0 a1 a2 D n hR h
    exact ⟨-1, D, n, D, p, q, rfl, rfl, hR⟩
  case pos =>
  obtain ⟨ct, cy, cr⟩ := h
  obtain ⟨hA, hL, hW, hN, ⟨c1, c2, c3⟩, hT, hD, hK, hB, hQ, hX, hM, hP, hS⟩ := id hR
  obtain ⟨t, e⟩ : ∃ t : Nat, a0 = t := ⟨a0.toNat, by omega⟩
  subst e
  obtain ⟨k, e⟩ : ∃ k : Nat, a2 = k := ⟨a2.toNat, by omega⟩
  subst e
  have ht : t < n := by omega
  have hk : k < 6 := by omega
  have hb12 : tqib (t : Int) 12 = true := tqib_y (by omega) (by omega)
  have hb6 : tqib (k : Int) 6 = true := tqib_y (by omega) (by omega)
  have e5 : D (133 + t) 5 = D 96 t := (hT.1 t ht).2.2.2.2.1
  obtain ⟨q1, q2, q3⟩ := w_row D L n hk
  have y0 : 0 ≤ a1 := cy.1
  have y1 : a1 < 8 := by omega
  by_cases cl : D 96 t = 0
  · refine ⟨-4, D, n, D, ?_, ?_, rfl, rfl, hR⟩
    · rw [dn_X11_look, b_X11_look_0]
      simp only [z_cd, i10, i11, dnn, rdU, eW, eU, tzC_w, w_shp, w_ptr, Nat.beq_refl, nbz, nb133, nb75, nb55, nb67, n133a, n133b, n75a, n75b, aT, aR, oT, oR, oF, oG, kT, kF, bI, bL, bR, b0, Classical.not_not, not_true_eq_false, not_false_eq_true, and_self, and_true, true_and, ↓reduceIte, decide_true, decide_false, Nat.reduceEqDiff, Nat.reduceLT, Nat.reduceLeDiff, Int.reduceEq, p_trailerAt_y _ D L n t c1 c3 ht, w_trailer D L n ht, s_lineAt_rows_y _ D L n hk, p_isYard, cy, e5, cl]
    · rw [dn_X12_look, b_X12_look_0]
      simp only [z_cd, i10, i11, dnn, rdU, eW, eU, tzC_w, w_shp, w_ptr, Nat.beq_refl, nbz, nb133, nb75, nb55, nb67, n133a, n133b, n75a, n75b, aT, aR, oT, oR, oF, oG, kT, kF, bI, bL, bR, b0, Classical.not_not, not_true_eq_false, not_false_eq_true, and_self, and_true, true_and, ↓reduceIte, decide_true, decide_false, Nat.reduceEqDiff, Nat.reduceLT, Nat.reduceLeDiff, Int.reduceEq, q_isTrailer _ D L n t c2 c3, ct, q_isYard, cy, q_isRow, cr, hb12, cl]
  · rcases hL.1 k hk with ⟨e1, e2, e3⟩ | ⟨e1, e2⟩
    · have m0 : 0 ≤ D (55 + 2 * k) 1 := by omega
      by_cases z : D 83 k = 8
      · have z1 : D (55 + 2 * k) 1 = 8 := by omega
        obtain ⟨W, hWW⟩ : ∃ W : Int → Int, W = fun i => D 84 (40 * k + i) := ⟨_, rfl⟩
        have hW1 : ∀ y : Int, 0 ≤ y → y < 8 → D 84 (40 * k + y) = W y := fun y _ _ => by rw [hWW]
        obtain ⟨r, u1, u2⟩ := p_all 1397 L n D hk (N := 8) (by omega) (by omega) z1 0 100 W (fun i i0 i1 => (hL.2.1 k i hk i0 (by omega)).trans (hW1 i i0 i1))
        rcases u2 with ⟨u2, u3⟩ | ⟨u2, u3⟩
        · rw [u2] at u1
          -- the class's set
          obtain ⟨D1, v1, v2⟩ := p_yIR 1393 L n D hR ht
          have d8 : D1 (55 + 2 * k) 1 = 8 := (v2 _ _ (by omega)).trans z1
          obtain ⟨R, p1, p2, p3⟩ := p_pan 1397 L n D1 hk d8
          have yr := ySet_r D t
          obtain ⟨⟨S0, S1⟩, sb⟩ := ja_r yr.1 yr.2 p2.1 p2.2
          obtain ⟨Z, hZ⟩ : ∃ Z, Z = ySet D t := ⟨_, rfl⟩
          rw [← hZ] at v1 S0 S1 sb
          obtain ⟨S, hSS⟩ : ∃ S, S = jand Z R := ⟨_, rfl⟩
          rw [← hSS] at S0 S1 sb
          have bits : ∀ z : Int, 0 ≤ z → z < 8 → (hbq S z ↔ (0 < W z ∧ hbq Z z)) := fun z z0 z1 => by
            rw [sb z z0 z1, p3 z z0 z1, v2 _ _ (by omega), hL.2.1 k z hk z0 (by omega), hW1 z z0 z1]
            exact And.comm
          have eb := bcu S0 S1
          have esc := sc_un bits
          obtain ⟨N, hN8⟩ : ∃ N : Nat, bcq S = N := ⟨8 - un S, by
            have : un S ≤ 8 := by
              unfold un
              repeat' split
              all_goals omega
            omega⟩
          have eN : 8 - un S = N := by omega
          have esN : scq W Z 8 = N := by omega
          clear eb esc
          have zh := z
          have d13 : D1 2 13 = D 81 5 := (v2 2 13 (by omega)).trans hN.1
          by_cases cf : N ≤ 6
          · have cf' : bcq S ≤ 6 := by rw [hN8]; omega
            have w40 : ∀ X, (tzW X L n).2.2.1 (56 + 2 * k) = (1, 40) := fun X => (w_row X L n hk).2.2
            have woD : WO D := ⟨WY_of hW, hd_of hW, fun x y x0 x1 y0 y1 => (hW.2.1 x y x0 x1 y0 y1).1⟩
            have wo1 : WO D1 := WO_fr (fun b j p => v2 b j (by omega)) woD
            have eE1 : erq D1 0 = erq D 0 := erf (fun b j p q => v2 b j (by omega))
            have hwA : ∀ i : Int, 0 ≤ i → i < 8 → D1 (56 + 2 * k) i = W i := fun i i0 i1 => by
              rw [v2 _ _ (by omega), hL.2.1 k i hk i0 (by omega)]; exact hW1 i i0 i1
            obtain ⟨C, o1, o2⟩ := p_order 1374 L n (56 + 2 * k) D1 w40 (by omega) wo1 (now := D 81 5) (yd := a1) (S := S) hN.2.1 (by have := hN.2.2; omega) y0 y1 S0 S1 (fun i i0 i1 => by rw [hwA i i0 i1]; exact u3 i i0 i1)
            have sC : Sm PLq D C := fun b j p => by
              unfold PLq at p
              rw [o1 b j (by unfold PLx; omega)]
              exact v2 b j (by omega)
            rcases o2 with ⟨⟨z, z0, z1', z2, z3⟩, o3, o4, o5⟩ | ⟨o3, o4, o5, V, o6, o7⟩
            · -- a yard to which none leads
              rw [eE1] at z3
              have sE : Sm PLe D (tzRx C 1) := fun b j p => by
                unfold tzRx
                rw [tzU_o _ _ _ _ p.2.2, tzU_o _ _ _ _ p.2.1]
                exact sC b j p.1
              obtain ⟨E, g, m, l, f1, f2, f3⟩ := q_lk 1395 L n D hR ht hk cy sE cl zh W hW1
              obtain ⟨g1, g2, g3, ⟨g4, _, _⟩, g5, g6, g7, g8⟩ := f3
              have gg : g = 1 := g3.mpr u3
              rw [← hZ, esN] at g4
              have ll : l = 0 := by
                rcases g2 with q | q
                · exact q
                · have h := g5.mp q z z0 z1' (by rw [← hZ]; exact (bits z z0 z1').mp z2)
                  omega
              rw [gg, g4, ll] at f1
              obtain ⟨R1, R2, R3⟩ := Rel_Rf hR (f := 1) (by omega) (by omega) sC (fun b j p => by
                by_cases q : b = 40
                · rw [q, o4 j]; exact v2 40 j (by omega)
                · by_cases q2 : b = 30
                  · rw [q2, o3 j (by omega) (by omega)]; exact v2 30 j (by omega)
                  · rw [o1 b j (by unfold PLx; omega)]; exact v2 b j (by omega)) f2
              have c88 : (8 : Int) ≤ 8 := by decide
              have cf2 : (N : Int) ≤ 6 := by omega
              refine ⟨-3, tzRx C 1, n, tzRm E 1, ?_, ?_, R2, R3, R1⟩
              · rw [dn_X11_look, b_X11_look_0]
                simp only [z_cd, i10, i11, dnn, rdU, eW, eU, tzC_w, w_shp, w_ptr, Nat.beq_refl, nbz, nb133, nb75, nb55, nb67, n133a, n133b, n75a, n75b, aT, aR, oT, oR, oF, oG, kT, kF, bI, bL, bR, b0, Classical.not_not, not_true_eq_false, not_false_eq_true, and_self, and_true, true_and, ↓reduceIte, decide_true, decide_false, Nat.reduceEqDiff, Nat.reduceLT, Nat.reduceLeDiff, Int.reduceEq, p_trailerAt_y _ D L n t c1 c3 ht, w_trailer D L n ht, s_lineAt_rows_y _ D L n hk, p_isYard, cy, e5, cl, q1, s_isMissing _ D L n q1, m0, z1, z08, u1, v1, w_row D1 L n hk, p1, p_bitCount, ← hSS, cf', d13, o5, s_refuse _ C L n (f := 1) (by decide) (by decide)]
              · refine f1.trans ?_
                refine (b_X12_look_87 1398 81 a1 (k : Int) (ySet D t) 1 (N : Int) 0 8 (tzW E L n)).trans ?_
                simp only [z_cd, i10, i11, dnn, rdU, eW, eU, tzC_w, w_shp, w_ptr, Nat.beq_refl, nbz, nb133, nb75, nb55, nb67, n133a, n133b, n75a, n75b, aT, aR, oT, oR, oF, oG, kT, kF, bI, bL, bR, b0, Classical.not_not, not_true_eq_false, not_false_eq_true, and_self, and_true, true_and, ↓reduceIte, decide_true, decide_false, Nat.reduceEqDiff, Nat.reduceLT, Nat.reduceLeDiff, Int.reduceEq, c88, cf2, s_meets _ E L n (f := 1) (by decide) (by decide)]
            · -- an order is found
              have sE : Sm PLe D (tzU C 53 2 (C 30 5)) := fun b j p => by
                rw [tzU_o _ _ _ _ p.2.1]
                exact sC b j p.1
              obtain ⟨E, g, m, l, f1, f2, f3⟩ := q_lk 1395 L n D hR ht hk cy sE cl z W hW1
              obtain ⟨g1, g2, g3, ⟨g4, _, _⟩, g5, g6, g7, g8⟩ := f3
              have gg : g = 1 := g3.mpr u3
              rw [← hZ] at g4 g5 g6 g8
              rw [esN] at g4
              have rch : ∀ z : Int, 0 ≤ z → z < 8 → hbq S z → erq D 0 a1 (D 81 5) z < 2147483647 := fun z a b c => by
                have := o3 z a b c
                rw [eE1] at this
                exact this
              have ll : l = 1 := g5.mpr (fun z a b c => rch z a b ((bits z a b).mpr c))
              rw [gg, g4, ll] at f1
              rw [g4] at g6 g7 g8
              have eS : ∀ (b : Nat) (j : Int), PLe b j → E b j = D b j := fun b j p => by
                have p' := p
                unfold PLe PLq at p'
                rw [f2 b j (by omega) (by omega)]
                exact sE b j p
              have eEE : erq E 0 = erq D 0 := erf (fun b j p q => eS b j (by unfold PLe PLq; omega))
              have nn := hN.2
              have N7 : N < 7 := by omega
              obtain ⟨Y, j1, j2, j3, j4, j5⟩ := q_fin 1396 L n (N := N) (r := k) N7 hk (T := D 81 5) (yd := a1) (S := S) nn.1 (by omega) S0 S1 V E (WO_fr (fun b j p => eS b j (by unfold PLe PLq; omega)) woD) (eS 81 5 (by unfold PLe PLq; omega)) (fun y y0 y1 => by
                rw [eS 84 _ (by unfold PLe PLq; omega), hW1 y y0 y1, o6 y y0 y1, hwA y y0 y1]
                exact ⟨rfl, u3 y y0 y1⟩) (by
                refine ⟨⟨⟨S0, S1⟩, ⟨y0, y1⟩, by omega, by omega⟩, fun z a b c => ?_⟩
                rw [eEE]; exact rch z a b c) ⟨⟨by omega, by omega⟩, fun i i0 i1 => by
                have := g6 i i0 i1 (by omega)
                exact ⟨this.1, this.2.1⟩, fun i j a b c => g7 i j a b c (by omega)⟩ (fun i i0 i1 => by
                obtain ⟨x1, x2, x3⟩ := g6 i i0 i1 (by omega)
                exact (bits _ x1 x2).mpr x3) (fun y a b c => g8 (by omega) y a b ((bits y a b).mp c)) (D1 40)
              rw [eEE] at j4 j5
              rw [eE1, eN] at o7
              obtain ⟨F, hF⟩ : ∃ F, F = flo (erq D 0) V (D 81 5) a1 (D 81 5) 0 (fun _ => 0) 0 (ordq 6 S) (2147483647, D1 40) := ⟨_, rfl⟩
              rw [← hF] at j4 j5 o7
              obtain ⟨o8, o9⟩ := o7
              have c88 : (8 : Int) ≤ 8 := by decide
              have cf2 : (N : Int) ≤ 6 := by omega
              have yE : ∀ (b : Nat) (j : Int), PIz b j → b ≠ 123 → Y b j = tzU C 53 2 (C 30 5) b j := fun b j p q => by
                rw [j2 b j p]
                unfold PIz at p
                exact f2 b j (by omega) q
              have sY : Sm PLq (tzU (tzU D 53 2 F.1) 81 2 F.1) Y := fun b j p => by
                have p' := p
                unfold PLq at p'
                by_cases e : b = 81 ∧ j = 2
                · rw [e.1, e.2, tzU_s]; exact j4
                · rw [yE b j (by unfold PIz; omega) (by omega)]
                  have a : tzU (tzU D 53 2 F.1) 81 2 F.1 b j = tzU D 53 2 F.1 b j := by
                    by_cases q : b = 81
                    · exact tzU_k _ _ _ _ (fun t => e ⟨q, t⟩)
                    · exact tzU_o _ _ _ _ q
                  rw [a, ← o8]
                  exact Sm_UU sC 53 2 (C 30 5) b j p
              refine ⟨N, tzU C 53 2 (C 30 5), n, Y, ?_, ?_, ?_, ?_, RelL (Rel_ask hR F.1) sY ⟨?_, ?_, ?_, fun j a b => ?_⟩⟩
              · rw [dn_X11_look, b_X11_look_0]
                simp only [z_cd, i10, i11, dnn, rdU, eW, eU, tzC_w, w_shp, w_ptr, Nat.beq_refl, nbz, nb133, nb75, nb55, nb67, n133a, n133b, n75a, n75b, aT, aR, oT, oR, oF, oG, kT, kF, bI, bL, bR, b0, Classical.not_not, not_true_eq_false, not_false_eq_true, and_self, and_true, true_and, ↓reduceIte, decide_true, decide_false, Nat.reduceEqDiff, Nat.reduceLT, Nat.reduceLeDiff, Int.reduceEq, p_trailerAt_y _ D L n t c1 c3 ht, w_trailer D L n ht, s_lineAt_rows_y _ D L n hk, p_isYard, cy, e5, cl, q1, s_isMissing _ D L n q1, m0, z1, z08, u1, v1, w_row D1 L n hk, p1, p_bitCount, ← hSS, cf', d13, o4, hN8, cf2]
              · refine f1.trans ?_
                refine (b_X12_look_87 1398 81 a1 (k : Int) (ySet D t) 1 (N : Int) 1 8 (tzW E L n)).trans ?_
                simp only [z_cd, i10, i11, dnn, rdU, eW, eU, tzC_w, w_shp, w_ptr, Nat.beq_refl, nbz, nb133, nb75, nb55, nb67, n133a, n133b, n75a, n75b, aT, aR, oT, oR, oF, oG, kT, kF, bI, bL, bR, b0, Classical.not_not, not_true_eq_false, not_false_eq_true, and_self, and_true, true_and, ↓reduceIte, decide_true, decide_false, Nat.reduceEqDiff, Nat.reduceLT, Nat.reduceLeDiff, Int.reduceEq, c88, cf2]
                exact j1
              · funext j
                rw [tzU_o _ _ _ _ (by omega)]
                exact sC 1 j (by unfold PLq; omega)
              · funext j
                rw [yE 1 j (by unfold PIz; omega) (by omega), tzU_o _ _ _ _ (by omega)]
                exact sC 1 j (by unfold PLq; omega)
              · rw [j3, yE 30 4 (by unfold PIz; omega) (by omega), tzU_o _ _ _ _ (by omega), o5]; exact hN8
              · rw [j3]; omega
              · rw [j3]; exact cf2
              · rw [j3] at b
                rw [yE 40 j (by unfold PIz; omega) (by omega), tzU_o _ _ _ _ (by omega), o9 j a b, j5 j a b]
          · -- more than six
            have cf' : ¬ bcq S ≤ 6 := by rw [hN8]; omega
            have s1 : Sm PLq D D1 := fun b j p => v2 b j (by unfold PLq at p; omega)
            obtain ⟨E, g, m, l, f1, f2, f3⟩ := q_lk 1395 L n D hR ht hk cy (fun b j p => s1 b j p.1) cl z W hW1
            obtain ⟨g1, g2, g3, ⟨g4, _, _⟩, g5, g6, g7, g8⟩ := f3
            have gg : g = 1 := g3.mpr u3
            rw [← hZ, esN] at g4
            rw [gg, g4] at f1
            have c88 : (8 : Int) ≤ 8 := by decide
            have cf2 : ¬ (N : Int) ≤ 6 := by omega
            have ke : ∀ (b : Nat) (j : Int), b ≠ 12 → b ≠ 92 → b ≠ 123 → E b j = D b j := fun b j p p2 p3 => (f2 b j p2 p3).trans (v2 b j p)
            obtain ⟨_, ⟨h1, h2, h3, h4⟩, _⟩ := hS
            refine ⟨-2, D1, n, E, ?_, ?_, ?_, ?_, RelL hR (fun b j p => by unfold PLq at p; exact ke b j (by omega) (by omega) (by omega)) ⟨?_, ?_, ?_, fun j a b => ?_⟩⟩
            · rw [dn_X11_look, b_X11_look_0]
              simp only [z_cd, i10, i11, dnn, rdU, eW, eU, tzC_w, w_shp, w_ptr, Nat.beq_refl, nbz, nb133, nb75, nb55, nb67, n133a, n133b, n75a, n75b, aT, aR, oT, oR, oF, oG, kT, kF, bI, bL, bR, b0, Classical.not_not, not_true_eq_false, not_false_eq_true, and_self, and_true, true_and, ↓reduceIte, decide_true, decide_false, Nat.reduceEqDiff, Nat.reduceLT, Nat.reduceLeDiff, Int.reduceEq, p_trailerAt_y _ D L n t c1 c3 ht, w_trailer D L n ht, s_lineAt_rows_y _ D L n hk, p_isYard, cy, e5, cl, q1, s_isMissing _ D L n q1, m0, z1, z08, u1, v1, w_row D1 L n hk, p1, p_bitCount, ← hSS, cf']
            · refine f1.trans ?_
              refine (b_X12_look_87 1398 81 a1 (k : Int) (ySet D t) 1 (N : Int) l 8 (tzW E L n)).trans ?_
              simp only [z_cd, i10, i11, dnn, rdU, eW, eU, tzC_w, w_shp, w_ptr, Nat.beq_refl, nbz, nb133, nb75, nb55, nb67, n133a, n133b, n75a, n75b, aT, aR, oT, oR, oF, oG, kT, kF, bI, bL, bR, b0, Classical.not_not, not_true_eq_false, not_false_eq_true, and_self, and_true, true_and, ↓reduceIte, decide_true, decide_false, Nat.reduceEqDiff, Nat.reduceLT, Nat.reduceLeDiff, Int.reduceEq, c88, cf2]
            · funext j; exact v2 1 j (by omega)
            · funext j; exact ke 1 j (by omega) (by omega) (by omega)
            · rw [ke 30 4 (by omega) (by omega) (by omega), ke 81 58 (by omega) (by omega) (by omega)]; exact h1
            · rw [ke 81 58 (by omega) (by omega) (by omega)]; exact h2
            · rw [ke 81 58 (by omega) (by omega) (by omega)]; exact h3
            · rw [ke 81 58 (by omega) (by omega) (by omega)] at b
              rw [ke 40 j (by omega) (by omega) (by omega), ke 122 j (by omega) (by omega) (by omega)]; exact h4 j a b
        · -- a weight that is none
          rw [u2] at u1
          have sE : Sm PLe D (tzRx D 3) := fun b j p => by
            unfold tzRx
            rw [tzU_o _ _ _ _ p.2.2, tzU_o _ _ _ _ p.2.1]
          obtain ⟨E, g, m, l, f1, f2, f3⟩ := q_lk 1395 L n D hR ht hk cy sE cl z W hW1
          obtain ⟨g1, g2, g3, ⟨g4, _, _⟩, g5, g6, g7, g8⟩ := f3
          have gg : g = 0 := by
            rcases g1 with q | q
            · exact q
            · exact absurd (g3.mp q) u3
          rw [gg] at f1
          obtain ⟨R1, R2, R3⟩ := Rel_Rf hR (f := 3) (by omega) (by omega) (Sm_r PLq D) (fun b j _ => rfl) f2
          have c88 : (8 : Int) ≤ 8 := by decide
          refine ⟨-3, tzRx D 3, n, tzRm E 3, ?_, ?_, R2, R3, R1⟩
          · rw [dn_X11_look, b_X11_look_0]
            simp only [z_cd, i10, i11, dnn, rdU, eW, eU, tzC_w, w_shp, w_ptr, Nat.beq_refl, nbz, nb133, nb75, nb55, nb67, n133a, n133b, n75a, n75b, aT, aR, oT, oR, oF, oG, kT, kF, bI, bL, bR, b0, Classical.not_not, not_true_eq_false, not_false_eq_true, and_self, and_true, true_and, ↓reduceIte, decide_true, decide_false, Nat.reduceEqDiff, Nat.reduceLT, Nat.reduceLeDiff, Int.reduceEq, p_trailerAt_y _ D L n t c1 c3 ht, w_trailer D L n ht, s_lineAt_rows_y _ D L n hk, p_isYard, cy, e5, cl, q1, s_isMissing _ D L n q1, m0, z1, z08, u1, s_refuse _ D L n (f := 3) (by decide) (by decide)]
          · refine f1.trans ?_
            refine (b_X12_look_87 1398 81 a1 (k : Int) (ySet D t) 0 m l 8 (tzW E L n)).trans ?_
            simp only [z_cd, i10, i11, dnn, rdU, eW, eU, tzC_w, w_shp, w_ptr, Nat.beq_refl, nbz, nb133, nb75, nb55, nb67, n133a, n133b, n75a, n75b, aT, aR, oT, oR, oF, oG, kT, kF, bI, bL, bR, b0, Classical.not_not, not_true_eq_false, not_false_eq_true, and_self, and_true, true_and, ↓reduceIte, decide_true, decide_false, Nat.reduceEqDiff, Nat.reduceLT, Nat.reduceLeDiff, Int.reduceEq, c88, s_meets _ E L n (f := 3) (by decide) (by decide)]
      · have z1 : ¬ D (55 + 2 * k) 1 = 8 := by omega
        have zz : ¬ tzRx D 5 83 k = 8 := z
        have z3 : 0 ≤ tzRx D 5 83 k := e2
        have z4 : tzRx D 5 81 16 = n := c2
        have z5 : ¬ tzRx D 5 96 t = 0 := cl
        refine ⟨-3, tzRx D 5, n, tzRm (tzRx D 5) 5, ?_, ?_, Sm_1 (by unfold tzRx; (repeat (refine Sm_U (by omega) ?_)); exact Sm_r _ _), Sm_1 (by unfold tzRm tzRx; (repeat (refine Sm_U (by omega) ?_)); exact Sm_r _ _), Rel_ref hR (by omega) (by omega)⟩
        · rw [dn_X11_look, b_X11_look_0]
          simp only [z_cd, i10, i11, dnn, rdU, eW, eU, tzC_w, w_shp, w_ptr, Nat.beq_refl, nbz, nb133, nb75, nb55, nb67, n133a, n133b, n75a, n75b, aT, aR, oT, oR, oF, oG, kT, kF, bI, bL, bR, b0, Classical.not_not, not_true_eq_false, not_false_eq_true, and_self, and_true, true_and, ↓reduceIte, decide_true, decide_false, Nat.reduceEqDiff, Nat.reduceLT, Nat.reduceLeDiff, Int.reduceEq, p_trailerAt_y _ D L n t c1 c3 ht, w_trailer D L n ht, s_lineAt_rows_y _ D L n hk, p_isYard, cy, e5, cl, q1, s_isMissing _ D L n q1, m0, z1, s_refuse _ D L n (f := 5) (by decide) (by decide)]
        · rw [dn_X12_look, b_X12_look_0]
          simp only [z_cd, i10, i11, dnn, rdU, eW, eU, tzC_w, w_shp, w_ptr, Nat.beq_refl, nbz, nb133, nb75, nb55, nb67, n133a, n133b, n75a, n75b, aT, aR, oT, oR, oF, oG, kT, kF, bI, bL, bR, b0, Classical.not_not, not_true_eq_false, not_false_eq_true, and_self, and_true, true_and, ↓reduceIte, decide_true, decide_false, Nat.reduceEqDiff, Nat.reduceLT, Nat.reduceLeDiff, Int.reduceEq, q_isTrailer _ (tzRx D 5) L n t z4 c3, ct, q_isYard, cy, q_isRow, cr, hb12, z5, hb6, zz, z3, s_meets _ (tzRx D 5) L n (f := 5) (by decide) (by decide)]
    · have m0 : ¬ 0 ≤ D (55 + 2 * k) 1 := by omega
      have z3 : ¬ 0 ≤ tzRx D 1 83 k := by show ¬ 0 ≤ D 83 k; omega
      have z4 : tzRx D 1 81 16 = n := c2
      have z5 : ¬ tzRx D 1 96 t = 0 := cl
      refine ⟨-3, tzRx D 1, n, tzRm (tzRx D 1) 1, ?_, ?_, Sm_1 (by unfold tzRx; (repeat (refine Sm_U (by omega) ?_)); exact Sm_r _ _), Sm_1 (by unfold tzRm tzRx; (repeat (refine Sm_U (by omega) ?_)); exact Sm_r _ _), Rel_ref hR (by omega) (by omega)⟩
      · rw [dn_X11_look, b_X11_look_0]
        simp only [z_cd, i10, i11, dnn, rdU, eW, eU, tzC_w, w_shp, w_ptr, Nat.beq_refl, nbz, nb133, nb75, nb55, nb67, n133a, n133b, n75a, n75b, aT, aR, oT, oR, oF, oG, kT, kF, bI, bL, bR, b0, Classical.not_not, not_true_eq_false, not_false_eq_true, and_self, and_true, true_and, ↓reduceIte, decide_true, decide_false, Nat.reduceEqDiff, Nat.reduceLT, Nat.reduceLeDiff, Int.reduceEq, p_trailerAt_y _ D L n t c1 c3 ht, w_trailer D L n ht, s_lineAt_rows_y _ D L n hk, p_isYard, cy, e5, cl, q1, s_isMissing _ D L n q1, m0, s_refuse _ D L n (f := 1) (by decide) (by decide)]
      · rw [dn_X12_look, b_X12_look_0]
        simp only [z_cd, i10, i11, dnn, rdU, eW, eU, tzC_w, w_shp, w_ptr, Nat.beq_refl, nbz, nb133, nb75, nb55, nb67, n133a, n133b, n75a, n75b, aT, aR, oT, oR, oF, oG, kT, kF, bI, bL, bR, b0, Classical.not_not, not_true_eq_false, not_false_eq_true, and_self, and_true, true_and, ↓reduceIte, decide_true, decide_false, Nat.reduceEqDiff, Nat.reduceLT, Nat.reduceLeDiff, Int.reduceEq, q_isTrailer _ (tzRx D 1) L n t z4 c3, ct, q_isYard, cy, q_isRow, cr, hb12, z5, hb6, z3, s_meets _ (tzRx D 1) L n (f := 1) (by decide) (by decide)]
