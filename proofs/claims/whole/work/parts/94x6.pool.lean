/-! ===== pool: the call ===== -/
theorem Rel_pl {D D' : Nat → Int → Int} {n : Nat} (h : Rel D n) (s : ∀ (b : Nat) (j : Int), ¬ (41 ≤ b ∧ b ≤ 49) → b ≠ 92 → ¬ (125 ≤ b ∧ b ≤ 130) → D' b j = D b j) : Rel D' n := by
  refine Rel_fr (fun b j p => ?_) (RA_fr (fun b j p => ?_) h.1) h
  · unfold PZ PL PW PN PC PT PD PK PB PQ PX PM PP PS at p
    exact s b j (by omega) (by omega) (by omega)
  · unfold PA at p
    exact s b j (by omega) (by omega) (by omega)
theorem tzU_cg {D D' : Nat → Int → Int} {b : Nat} {k : Int} (a : Nat) (j : Int) {x y : Int} (e : x = y) (h : D' b k = D b k) : tzU D' a j x b k = tzU D a j y b k := by
  by_cases c : b = a
  · by_cases c2 : k = j
    · rw [c, c2, tzU_s, tzU_s, e]
    · rw [tzU_k _ _ _ _ c2, tzU_k _ _ _ _ c2, h]
  · rw [tzU_o _ _ _ _ c, tzU_o _ _ _ _ c, h]
theorem Rm_cg {D D' : Nat → Int → Int} {f : Int} (s : ∀ (b : Nat) (j : Int), ¬ (125 ≤ b ∧ b ≤ 130) → D' b j = D b j) (b : Nat) (j : Int) (p : ¬ (125 ≤ b ∧ b ≤ 130)) : tzRm D' f b j = tzRm D f b j := by
  unfold tzRm
  exact tzU_cg _ _ (by rw [s 82 f (by omega)]) (tzU_cg _ _ rfl (s b j p))
theorem n08 : ¬ (8 : Int) < 0 := by decide
set_option maxRecDepth 100000 in
set_option maxHeartbeats 1000000 in
theorem q_poolR (L n : Nat) (E : Nat → Int → Int) {k1 k2 : Nat} (h1 : k1 < 6) (h2 : k2 < 6) (z1 : E 83 k1 = 8) (z2 : E 83 k2 = 8) : tqden tqP 1399 n_X12_pool [vR 81, vI (k1 : Int), vI (k2 : Int)] (tzW E L n) = tqrun tqP (1397 + 2) tqc_X12_pool 73 [vR 81, vI (k1 : Int), vI (k2 : Int), vI 0, vI 0, vU, vU, vU] [] (tzW E L n) := by
  have c1 : 0 ≤ (k1 : Int) ∧ (k1 : Int) ≤ 5 := by omega
  have c2 : 0 ≤ (k2 : Int) ∧ (k2 : Int) ≤ 5 := by omega
  have t1 : tqib (k1 : Int) 6 = true := tqib_y (by omega) (by omega)
  have t2 : tqib (k2 : Int) 6 = true := tqib_y (by omega) (by omega)
  rw [dn_X12_pool, b_X12_pool_0]
  simp only [z_cd, i10, i11, dnn, rdU, eW, eU, tzC_w, w_shp, w_ptr, Nat.beq_refl, nbz, nb133, nb75, nb55, nb67, n133a, n133b, n75a, n75b, aT, aR, oT, oR, oF, oG, kT, kF, bI, bL, bR, b0, Classical.not_not, not_true_eq_false, not_false_eq_true, and_self, and_true, true_and, ↓reduceIte, decide_true, decide_false, Nat.reduceEqDiff, Nat.reduceLT, Nat.reduceLeDiff, Int.reduceEq, q_isRow, c1, c2, t1, t2, z1, z2, n08, z08]
set_option maxRecDepth 100000 in
set_option maxHeartbeats 1000000 in
theorem q_poolS (L n : Nat) (E : Nat → Int → Int) {k1 k2 : Nat} (h1 : k1 < 6) (h2 : k2 < 6) (z1 : E 83 k1 = 8) (z2 : E 83 k2 = 8) (wy : WY E) (hd : ∀ y : Int, 0 ≤ y → y < 8 → E 88 (9 * y) = 0) {now : Int} (w0 : 0 ≤ now) (w1 : now ≤ 100000) (hT : E 81 5 = now) {S T : Int → Int} (rS : ∀ i : Int, 0 ≤ i → i < 8 → 0 ≤ S i ∧ S i ≤ 30) (rT : ∀ i : Int, 0 ≤ i → i < 8 → 0 ≤ T i ∧ T i ≤ 30) (eS : ∀ i : Int, 0 ≤ i → i < 8 → E 84 (40 * k1 + i) = S i ∧ E 84 (40 * k2 + i) = T i) :
    ∃ G m, tqden tqP 1399 n_X12_pool [vR 81, vI (k1 : Int), vI (k2 : Int)] (tzW E L n) = some (some (vI (zs8 (G 127))), tzW (tzU G 81 2 m) L n) ∧ (∀ (b : Nat) (j : Int), b ≠ 92 → ¬ (125 ≤ b ∧ b ≤ 130) → G b j = E b j) ∧ Flo (Epr E now S T) (Cpq E now) (sPq S T) (sPq T S) (G 125) (G 126) (G 127) m ∧ ∃ l, Laq 8 (Epr E now S T) (Cpq E now) (sPq T S) (G 125) (G 126) (G 127) l 1000000000000 := by
  have N := Np_r wy hd w0 w1 S T
  have a0 := q_poolR L n E h1 h2 z1 z2
  obtain ⟨X, o1, alt⟩ := q_73 1397 L n h1 h2 S T 8 0 E (by omega) eS (fun i i0 i1 => by omega) (fun i i0 i1 => by omega)
  rcases alt with ⟨x1, x2, x3⟩ | ⟨x1, _⟩
  · have x2' : tqrun tqP (1397 + 2) tqc_X12_pool 73 [vR 81, vI (k1 : Int), vI (k2 : Int), vI 0, vI 0, vU, vU, vU] [] (tzW E L n) = tqrun tqP (1397 + 2) tqc_X12_pool 201 [vR 81, vU, vU, vI (zs8 (sPq T S)), vI 0, vU, vU, vU] [] (tzW X L n) := x2
    have wyX : WY X := WY_fr (fun b i h => o1 b i (by omega) (by omega)) wy
    have hdX : ∀ y : Int, 0 ≤ y → y < 8 → X 88 (9 * y) = 0 := fun y a b => (o1 88 _ (by decide) (by decide)).trans (hd y a b)
    obtain ⟨Y, g1, g2, g3⟩ := q_201 1396 L n X wyX hdX w0 w1 ((o1 81 5 (by decide) (by decide)).trans hT) (zs8 (sPq T S)) 64 0 X (by omega) (by omega) (fun _ _ _ _ _ => rfl) (fun i i0 i1 => by omega)
    have ee : ∀ k : Int, erq X 0 (k / 8) now (k % 8) = erq E 0 (k / 8) now (k % 8) := fun k => er_fr (fun b i p q => o1 b i (by omega) (by omega)) 0 (k / 8) now (k % 8)
    have q128 : ∀ k : Int, 0 ≤ k → k < 64 → (Y 128 k = 100000000 ∧ ¬ Fpq E now k) ∨ (Y 128 k = Cpq E now k ∧ Fpq E now k ∧ 0 ≤ Cpq E now k ∧ Cpq E now k ≤ 16320) := fun k k0 k1 => by
      have q := (g3 k k0 k1).2
      rw [ee k] at q
      by_cases c : erq E 0 (k / 8) now (k % 8) = 2147483647
      · rw [if_pos c] at q
        exact Or.inl ⟨q, fun t => t c⟩
      · rw [if_neg c] at q
        have cb := Cp_b wy hd w0 w1 k0 k1 c
        exact Or.inr ⟨q, c, cb⟩
    have y126 : ∀ z : Int, 0 ≤ z → z < 8 → Y 126 z = sPq S T z := fun z p q => (g2 126 z (by decide) (by decide) (by decide)).trans (x3 z p q).1
    have y127 : ∀ z : Int, 0 ≤ z → z < 8 → Y 127 z = sPq T S z := fun z p q => (g2 127 z (by decide) (by decide) (by decide)).trans (x3 z p q).2
    have y125 : ∀ a b : Int, 0 ≤ a → a < 8 → 0 ≤ b → b < 8 → Y 125 (8 * a + b) = 0 := fun a b p1 p2 p3 p4 => (g3 (8 * a + b) (by omega) (by omega)).1
    have bS := fun (a : Int) (p0 : 0 ≤ a) (p1 : a < 8) => sP_b rS rT p0 p1
    have bT := fun (a : Int) (p0 : 0 ≤ a) (p1 : a < 8) => sP_b rT rS p0 p1
    have fl : Flo (Epr E now S T) (Cpq E now) (sPq S T) (sPq T S) (Y 125) (Y 126) (Y 127) 0 := fl_0 y125 (fun a p q => ⟨y126 a p q, (bS a p q).1.1⟩) (fun b p q => ⟨y127 b p q, (bT b p q).1.1⟩) rfl
    have la := la_0 (sp := Y 126) N y125 y127
    have so : Spo (Fpq E now) (sPq S T) (Epr E now S T) := fun k _ _ => Iff.rfl
    obtain ⟨Z, to, v1, v2, v3, v4, v5⟩ := q_nb 1397 L n N so Y q128 fl la
    have Z125 := Of29_f v2 125 (by decide) (by decide)
    have Z126 := Of29_f v2 126 (by decide) (by decide)
    have Z127 := Of29_f v2 127 (by decide) (by decide)
    have zt : zs8 (Z 127) = zs8 (sPq T S) := by rw [Z127]; exact zs_c y127
    have lk : zs8 (Z 127) ≤ ((240 : Nat) : Int) := by
      rw [zt]
      have t8 : zs8 (sPq T S) ≤ zs8 (fun _ => 30) := zs_le (fun b p q => (bT b p q).1.2)
      have t9 : zs8 (fun _ => 30) = 240 := rfl
      omega
    obtain ⟨G, m, r1, r2, r3, r4⟩ := q_277 1397 L n N so (fun a p q => (bS a p q).1.2) (fun b p q => (bT b p q).1.2) 240 Z 0 to lk ⟨fun k k0 k1 => by rw [v2 128 k (by decide) (by decide)]; exact q128 k k0 k1, by rw [Z125, Z126, Z127]; exact fl, _, 0, by decide, by rw [Z125, Z126, Z127]; exact la, by rw [Z125, Z126]; exact v3, by rw [Z125]; exact v4, by rw [Z127]; exact v5⟩
    rw [zt] at r1
    refine ⟨G, m, ?_, fun b j p q => ?_, r3, r4⟩
    · have c64 : (64 : Int) ≤ 64 := by decide
      rw [a0, x2', g1, b_X12_pool_201]
      simp only [z_cd, i10, i11, dnn, rdU, eW, eU, tzC_w, w_shp, w_ptr, Nat.beq_refl, nbz, nb133, nb75, nb55, nb67, n133a, n133b, n75a, n75b, aT, aR, oT, oR, oF, oG, kT, kF, bI, bL, bR, b0, Classical.not_not, not_true_eq_false, not_false_eq_true, and_self, and_true, true_and, ↓reduceIte, decide_true, decide_false, Nat.reduceEqDiff, Nat.reduceLT, Nat.reduceLeDiff, Int.reduceEq, c64, v1]
      exact r1
    · rw [r2 b j (by omega) (by omega), v2 b j (by omega) (by omega), g2 b j p (by omega) (by omega)]
      exact o1 b j (by omega) (by omega)
  · exact absurd (fun i i0 i1 => ⟨rS i i0 i1, rT i i0 i1⟩) x1
set_option maxRecDepth 100000 in
set_option maxHeartbeats 1000000 in
theorem ag_pool {L : Nat} (a0 a1 : Int) : AgI Rel L n_X11_pool n_X12_pool [vI a0, vI a1] := by
  intro D n hR
  obtain ⟨hA, hL, hW, hN, ⟨c1, c2, c3⟩, hT, hD, hK, hB, hQ, hX, hM, hP, hS⟩ := id hR
  by_cases ct : 0 ≤ a0 ∧ a0 ≤ 5
  · by_cases cu : 0 ≤ a1 ∧ a1 ≤ 5
    · obtain ⟨k, e⟩ : ∃ k : Nat, a0 = k := ⟨a0.toNat, by omega⟩
      subst e
      obtain ⟨i, e⟩ : ∃ i : Nat, a1 = i := ⟨a1.toNat, by omega⟩
      subst e
      have hk : k < 6 := by omega
      have hi : i < 6 := by omega
      have hb6 : tqib (k : Int) 6 = true := tqib_y (by omega) (by omega)
      have hb7 : tqib (i : Int) 6 = true := tqib_y (by omega) (by omega)
      obtain ⟨q1, q2, q3⟩ := w_row D L n hk
      obtain ⟨r1, r2, r3⟩ := w_row D L n hi
      rcases hL.1 k hk with ⟨e1, e2, e3⟩ | ⟨e1, e2⟩
      · have m0 : 0 ≤ D (55 + 2 * k) 1 := by omega
        rcases hL.1 i hi with ⟨f1, f2, f3⟩ | ⟨f1, f2⟩
        · have m1 : 0 ≤ D (55 + 2 * i) 1 := by omega
          by_cases z : D 83 k = 8
          · have z1 : D (55 + 2 * k) 1 = 8 := by omega
            by_cases y : D 83 i = 8
            · have y1 : D (55 + 2 * i) 1 = 8 := by omega
              obtain ⟨S, hSS⟩ : ∃ S : Int → Int, S = fun j => D 84 (40 * k + j) := ⟨_, rfl⟩
              obtain ⟨T, hTT⟩ : ∃ T : Int → Int, T = fun j => D 84 (40 * i + j) := ⟨_, rfl⟩
              have eS : ∀ j : Int, D 84 (40 * k + j) = S j := fun j => by rw [hSS]
              have eT : ∀ j : Int, D 84 (40 * i + j) = T j := fun j => by rw [hTT]
              obtain ⟨x, u1, u2⟩ := p_all 1397 L n D hk (N := 8) (by decide) (by decide) z1 0 30 S (fun j j0 j1 => (hL.2.1 k j hk j0 (by omega)).trans (eS j))
              obtain ⟨v, w1, w2⟩ := p_all 1397 L n D hi (N := 8) (by decide) (by decide) y1 0 30 T (fun j j0 j1 => (hL.2.1 i j hi j0 (by omega)).trans (eT j))
              have bad : (¬ ∀ j : Int, 0 ≤ j → j < 8 → Inq S T j) → tqden tqP 1399 n_X11_pool [vR 2, vI (k : Int), vI (i : Int)] (tzW D L n) = some (some (vI (-3)), tzW (tzRx D 3) L n) → ∃ x D1 n1 D2, tqden tqP 1399 n_X11_pool [vR 2, vI (k : Int), vI (i : Int)] (tzW D L n) = some (some (vI x), tzW D1 L n1) ∧ tqden tqP 1399 n_X12_pool [vR 81, vI (k : Int), vI (i : Int)] (tzW D1 L n1) = some (some (vI x), tzW D2 L n1) ∧ D1 1 = D 1 ∧ D2 1 = D 1 ∧ Rel D2 n1 := fun no hx => by
                have x84 : ∀ j : Int, tzRx D 3 84 j = D 84 j := fun j => rfl
                obtain ⟨X, o1, alt⟩ := q_73 1397 L n hk hi S T 8 0 (tzRx D 3) (by omega) (fun j j0 j1 => ⟨(x84 _).trans (eS j), (x84 _).trans (eT j)⟩) (fun j j0 j1 => by omega) (fun j j0 j1 => by omega)
                rcases alt with ⟨t1, _⟩ | ⟨_, t2⟩
                · exact absurd t1 no
                · have sR : ∀ (b : Nat) (j : Int), ¬ (125 ≤ b ∧ b ≤ 130) → tzRm X 3 b j = tzRm (tzRx D 3) 3 b j := fun b j p => Rm_cg (fun b j p => o1 b j (by omega) (by omega)) b j p
                  refine ⟨-3, tzRx D 3, n, tzRm X 3, hx, ?_, Sm_1 (by unfold tzRx; (repeat (refine Sm_U (by omega) ?_)); exact Sm_r _ _), ?_, Rel_pl (Rel_ref hR (f := 3) (by decide) (by decide)) (fun b j p q r => sR b j r)⟩
                  · exact (q_poolR L n (tzRx D 3) hk hi z y).trans t2
                  · funext j
                    exact (sR 1 j (by decide)).trans rfl
              rcases u2 with ⟨u2, u3⟩ | ⟨u2, u3⟩
              · rw [u2] at u1
                rcases w2 with ⟨w2, w3⟩ | ⟨w2, w3⟩
                · rw [w2] at w1
                  have wy : WY D := WY_of hW
                  have hd : ∀ y : Int, 0 ≤ y → y < 8 → D 88 (9 * y) = 0 := hW.2.2.1
                  have n1 : D 81 5 ≤ 100000 := by have := hN.2.2; omega
                  obtain ⟨Cm, s1, s2, s3, lc, s4⟩ := p_share 1393 L n hk hi S T u3 w3 D wy hd (now := D 81 5) hN.2.1 n1 (fun j j0 j1 => (hL.2.1 k j hk j0 (by omega)).trans (eS j)) (fun j j0 j1 => (hL.2.1 i j hi j0 (by omega)).trans (eT j))
                  obtain ⟨X, hX'⟩ : ∃ X, X = tzU Cm 53 2 (Cm 41 8) := ⟨_, rfl⟩
                  have X43 : X 43 = Cm 43 := by rw [hX']; exact tzU_f _ _ _ (by decide)
                  have bT := fun (a : Int) (p0 : 0 ≤ a) (p1 : a < 8) => sP_b w3 u3 p0 p1
                  have lkb : ∀ j : Int, 0 ≤ j → j < 8 → 0 ≤ X 43 j ∧ X 43 j ≤ 30 := fun j j0 j1 => by
                    rw [X43]
                    have q := s3.2.2.1 j j0 j1
                    have q0 : 0 ≤ clq (Cm 46) j := zs_n (fun a p q => (s3.1 a j p q j0 j1).1)
                    have q1 := (bT j j0 j1).1.2
                    omega
                  have pl := p_lack 1397 L n X lkb
                  have Xo : ∀ (b : Nat) (j : Int), ¬ (41 ≤ b ∧ b ≤ 49) → ¬ (b = 53 ∧ j = 2) → X b j = D b j := fun b j p q => by
                    rw [hX']
                    by_cases e : b = 53
                    · rw [tzU_k _ _ _ _ (fun t => q ⟨e, t⟩)]; exact s2 b j p
                    · rw [tzU_o _ _ _ _ e]; exact s2 b j p
                  have wyX : WY X := WY_fr (fun b j h => Xo b j (by omega) (by omega)) wy
                  have hdX : ∀ y : Int, 0 ≤ y → y < 8 → X 88 (9 * y) = 0 := fun y a b => (Xo 88 _ (by decide) (by omega)).trans (hd y a b)
                  obtain ⟨G, m, g1, g2, g3, lr, g4⟩ := q_poolS L n X hk hi ((Xo 83 _ (by decide) (by omega)).trans z) ((Xo 83 _ (by decide) (by omega)).trans y) wyX hdX (now := D 81 5) hN.2.1 n1 (Xo 81 5 (by decide) (by omega)) u3 w3 (fun j j0 j1 => ⟨(Xo 84 _ (by decide) (by omega)).trans (eS j), (Xo 84 _ (by decide) (by omega)).trans (eT j)⟩)
                  have ee : ∀ z : Int, erq X 0 (z / 8) (D 81 5) (z % 8) = erq D 0 (z / 8) (D 81 5) (z % 8) := fun z => er_fr (fun b j p q => Xo b j (by omega) (by omega)) 0 (z / 8) (D 81 5) (z % 8)
                  have eC : Cpq X (D 81 5) = Cpq D (D 81 5) := by
                    funext z
                    unfold Cpq
                    rw [ee z]
                  have eE : Epr X (D 81 5) S T = Epr D (D 81 5) S T := by
                    funext z
                    unfold Epr Fpq
                    rw [ee z]
                  rw [eC, eE] at g3 g4
                  have N1 := Np_c wy hd hN.2.1 n1 u3 w3
                  have N2 := Np_r wy hd hN.2.1 n1 S T
                  have t8 : zs8 (sPq T S) ≤ zs8 (fun _ => 30) := zs_le (fun b p q => (bT b p q).1.2)
                  have t9 : zs8 (fun _ => 30) = 240 := rfl
                  obtain ⟨p1, p2⟩ := pool_eq N1 N2 s3 s4 g3 g4 (fun a b x0 x1 v0 v1 d1 d2 => by
                    have ea : (8 * a + b) / 8 = a := by omega
                    have eb : (8 * a + b) % 8 = b := by omega
                    unfold Epc Epr
                    rw [ea, eb]
                    exact ⟨fun t => ⟨t.1, t.2.2⟩, fun t => ⟨t.1, d2, t.2⟩⟩) (by omega)
                  have ra := Rel_ask hR m
                  refine ⟨zs8 (G 127), X, n, tzU G 81 2 m, ?_, g1, ?_, ?_, Rel_pl ra (fun b j x1 x2 x3 => ?_)⟩
                  · rw [dn_X11_pool, b_X11_pool_0]
                    rw [X43, p1] at pl
                    simp only [z_cd, i10, i11, dnn, rdU, eW, eU, tzC_w, w_shp, w_ptr, Nat.beq_refl, nbz, nb133, nb75, nb55, nb67, n133a, n133b, n75a, n75b, aT, aR, oT, oR, oF, oG, kT, kF, bI, bL, bR, b0, Classical.not_not, not_true_eq_false, not_false_eq_true, and_self, and_true, true_and, ↓reduceIte, decide_true, decide_false, Nat.reduceEqDiff, Nat.reduceLT, Nat.reduceLeDiff, Int.reduceEq, s_lineAt_rows_y _ D L n hk, s_lineAt_rows_y _ D L n hi, q1, q2, r1, r2, s_isMissing _ D L n q1, s_isMissing _ D L n r1, z1, y1, z08, u1, w1, hN.1, s1, ← hX', pl]
                  · funext j; exact Xo 1 j (by decide) (by omega)
                  · funext j
                    rw [tzU_o _ _ _ _ (by decide), g2 1 j (by decide) (by decide)]
                    exact Xo 1 j (by decide) (by omega)
                  · by_cases e : b = 81 ∧ j = 2
                    · rw [e.1, e.2, tzU_s, tzU_s]
                    · have a1 : ∀ Q : Nat → Int → Int, tzU Q 81 2 m b j = Q b j := fun Q => by
                        by_cases q : b = 81
                        · exact tzU_k _ _ _ _ (fun t => e ⟨q, t⟩)
                        · exact tzU_o _ _ _ _ q
                      rw [a1, a1, g2 b j x2 x3, hX', p2]
                      exact tzU_cg _ _ rfl (s2 b j x1)
                · rw [w2] at w1
                  refine bad (fun t => w3 (fun j j0 j1 => (t j j0 j1).2)) ?_
                  rw [dn_X11_pool, b_X11_pool_0]
                  simp only [z_cd, i10, i11, dnn, rdU, eW, eU, tzC_w, w_shp, w_ptr, Nat.beq_refl, nbz, nb133, nb75, nb55, nb67, n133a, n133b, n75a, n75b, aT, aR, oT, oR, oF, oG, kT, kF, bI, bL, bR, b0, Classical.not_not, not_true_eq_false, not_false_eq_true, and_self, and_true, true_and, ↓reduceIte, decide_true, decide_false, Nat.reduceEqDiff, Nat.reduceLT, Nat.reduceLeDiff, Int.reduceEq, s_lineAt_rows_y _ D L n hk, s_lineAt_rows_y _ D L n hi, q1, q2, r1, r2, s_isMissing _ D L n q1, s_isMissing _ D L n r1, z1, y1, z08, u1, w1, b_X11_pool_97, s_refuse _ D L n (f := 3) (by decide) (by decide)]
              · rw [u2] at u1
                refine bad (fun t => u3 (fun j j0 j1 => (t j j0 j1).1)) ?_
                rw [dn_X11_pool, b_X11_pool_0]
                simp only [z_cd, i10, i11, dnn, rdU, eW, eU, tzC_w, w_shp, w_ptr, Nat.beq_refl, nbz, nb133, nb75, nb55, nb67, n133a, n133b, n75a, n75b, aT, aR, oT, oR, oF, oG, kT, kF, bI, bL, bR, b0, Classical.not_not, not_true_eq_false, not_false_eq_true, and_self, and_true, true_and, ↓reduceIte, decide_true, decide_false, Nat.reduceEqDiff, Nat.reduceLT, Nat.reduceLeDiff, Int.reduceEq, s_lineAt_rows_y _ D L n hk, s_lineAt_rows_y _ D L n hi, q1, q2, r1, r2, s_isMissing _ D L n q1, s_isMissing _ D L n r1, z1, y1, z08, u1, b_X11_pool_97, s_refuse _ D L n (f := 3) (by decide) (by decide)]
            · have y1 : ¬ D (55 + 2 * i) 1 = 8 := by omega
              have y2 : ¬ tzRx D 5 83 i = 8 := y
              have y3 : 0 ≤ tzRx D 5 83 i := f2
              have z2 : tzRx D 5 83 k = 8 := z
              refine ⟨-3, tzRx D 5, n, tzRm (tzRx D 5) 5, ?_, ?_, Sm_1 (by unfold tzRx; (repeat (refine Sm_U (by omega) ?_)); exact Sm_r _ _), Sm_1 (by unfold tzRm tzRx; (repeat (refine Sm_U (by omega) ?_)); exact Sm_r _ _), Rel_ref hR (by omega) (by omega)⟩
              · rw [dn_X11_pool, b_X11_pool_0]
                simp only [z_cd, i10, i11, dnn, rdU, eW, eU, tzC_w, w_shp, w_ptr, Nat.beq_refl, nbz, nb133, nb75, nb55, nb67, n133a, n133b, n75a, n75b, aT, aR, oT, oR, oF, oG, kT, kF, bI, bL, bR, b0, Classical.not_not, not_true_eq_false, not_false_eq_true, and_self, and_true, true_and, ↓reduceIte, decide_true, decide_false, Nat.reduceEqDiff, Nat.reduceLT, Nat.reduceLeDiff, Int.reduceEq, s_lineAt_rows_y _ D L n hk, s_lineAt_rows_y _ D L n hi, q1, q2, r1, r2, s_isMissing _ D L n q1, s_isMissing _ D L n r1, z1, z08, m1, y1, b_X11_pool_70, s_refuse _ D L n (f := 5) (by decide) (by decide)]
              · rw [dn_X12_pool, b_X12_pool_0]
                simp only [z_cd, i10, i11, dnn, rdU, eW, eU, tzC_w, w_shp, w_ptr, Nat.beq_refl, nbz, nb133, nb75, nb55, nb67, n133a, n133b, n75a, n75b, aT, aR, oT, oR, oF, oG, kT, kF, bI, bL, bR, b0, Classical.not_not, not_true_eq_false, not_false_eq_true, and_self, and_true, true_and, ↓reduceIte, decide_true, decide_false, Nat.reduceEqDiff, Nat.reduceLT, Nat.reduceLeDiff, Int.reduceEq, q_isRow, ct, cu, hb6, hb7, z2, y2, y3, n08, s_meets _ (tzRx D 5) L n (f := 5) (by decide) (by decide)]
          · have z1 : ¬ D (55 + 2 * k) 1 = 8 := by omega
            have z2 : ¬ tzRx D 5 83 k = 8 := z
            have z3 : ¬ tzRx D 5 83 k < 0 := by show ¬ D 83 k < 0; omega
            have y3 : 0 ≤ tzRx D 5 83 i := f2
            refine ⟨-3, tzRx D 5, n, tzRm (tzRx D 5) 5, ?_, ?_, Sm_1 (by unfold tzRx; (repeat (refine Sm_U (by omega) ?_)); exact Sm_r _ _), Sm_1 (by unfold tzRm tzRx; (repeat (refine Sm_U (by omega) ?_)); exact Sm_r _ _), Rel_ref hR (by omega) (by omega)⟩
            · rw [dn_X11_pool, b_X11_pool_0]
              simp only [z_cd, i10, i11, dnn, rdU, eW, eU, tzC_w, w_shp, w_ptr, Nat.beq_refl, nbz, nb133, nb75, nb55, nb67, n133a, n133b, n75a, n75b, aT, aR, oT, oR, oF, oG, kT, kF, bI, bL, bR, b0, Classical.not_not, not_true_eq_false, not_false_eq_true, and_self, and_true, true_and, ↓reduceIte, decide_true, decide_false, Nat.reduceEqDiff, Nat.reduceLT, Nat.reduceLeDiff, Int.reduceEq, s_lineAt_rows_y _ D L n hk, s_lineAt_rows_y _ D L n hi, q1, q2, r1, r2, s_isMissing _ D L n q1, s_isMissing _ D L n r1, z1, m0, m1, b_X11_pool_70, s_refuse _ D L n (f := 5) (by decide) (by decide)]
            · rw [dn_X12_pool, b_X12_pool_0]
              simp only [z_cd, i10, i11, dnn, rdU, eW, eU, tzC_w, w_shp, w_ptr, Nat.beq_refl, nbz, nb133, nb75, nb55, nb67, n133a, n133b, n75a, n75b, aT, aR, oT, oR, oF, oG, kT, kF, bI, bL, bR, b0, Classical.not_not, not_true_eq_false, not_false_eq_true, and_self, and_true, true_and, ↓reduceIte, decide_true, decide_false, Nat.reduceEqDiff, Nat.reduceLT, Nat.reduceLeDiff, Int.reduceEq, q_isRow, ct, cu, hb6, hb7, z2, z3, y3, s_meets _ (tzRx D 5) L n (f := 5) (by decide) (by decide)]
        · have m1 : ¬ 0 ≤ D (55 + 2 * i) 1 := by omega
          have z3 : ¬ tzRx D 1 83 k < 0 := by show ¬ D 83 k < 0; omega
          have y3 : ¬ 0 ≤ tzRx D 1 83 i := by show ¬ 0 ≤ D 83 i; omega
          refine ⟨-3, tzRx D 1, n, tzRm (tzRx D 1) 1, ?_, ?_, Sm_1 (by unfold tzRx; (repeat (refine Sm_U (by omega) ?_)); exact Sm_r _ _), Sm_1 (by unfold tzRm tzRx; (repeat (refine Sm_U (by omega) ?_)); exact Sm_r _ _), Rel_ref hR (by omega) (by omega)⟩
          · rw [dn_X11_pool, b_X11_pool_0]
            simp only [z_cd, i10, i11, dnn, rdU, eW, eU, tzC_w, w_shp, w_ptr, Nat.beq_refl, nbz, nb133, nb75, nb55, nb67, n133a, n133b, n75a, n75b, aT, aR, oT, oR, oF, oG, kT, kF, bI, bL, bR, b0, Classical.not_not, not_true_eq_false, not_false_eq_true, and_self, and_true, true_and, ↓reduceIte, decide_true, decide_false, Nat.reduceEqDiff, Nat.reduceLT, Nat.reduceLeDiff, Int.reduceEq, s_lineAt_rows_y _ D L n hk, s_lineAt_rows_y _ D L n hi, q1, q2, r1, r2, s_isMissing _ D L n q1, s_isMissing _ D L n r1, m0, m1, b_X11_pool_45, s_refuse _ D L n (f := 1) (by decide) (by decide)]
          · rw [dn_X12_pool, b_X12_pool_0]
            simp only [z_cd, i10, i11, dnn, rdU, eW, eU, tzC_w, w_shp, w_ptr, Nat.beq_refl, nbz, nb133, nb75, nb55, nb67, n133a, n133b, n75a, n75b, aT, aR, oT, oR, oF, oG, kT, kF, bI, bL, bR, b0, Classical.not_not, not_true_eq_false, not_false_eq_true, and_self, and_true, true_and, ↓reduceIte, decide_true, decide_false, Nat.reduceEqDiff, Nat.reduceLT, Nat.reduceLeDiff, Int.reduceEq, q_isRow, ct, cu, hb6, hb7, z3, y3, s_meets _ (tzRx D 1) L n (f := 1) (by decide) (by decide)]
      · have m0 : ¬ 0 ≤ D (55 + 2 * k) 1 := by omega
        have z3 : tzRx D 1 83 k < 0 := by show D 83 k < 0; omega
        refine ⟨-3, tzRx D 1, n, tzRm (tzRx D 1) 1, ?_, ?_, Sm_1 (by unfold tzRx; (repeat (refine Sm_U (by omega) ?_)); exact Sm_r _ _), Sm_1 (by unfold tzRm tzRx; (repeat (refine Sm_U (by omega) ?_)); exact Sm_r _ _), Rel_ref hR (by omega) (by omega)⟩
        · rw [dn_X11_pool, b_X11_pool_0]
          simp only [z_cd, i10, i11, dnn, rdU, eW, eU, tzC_w, w_shp, w_ptr, Nat.beq_refl, nbz, nb133, nb75, nb55, nb67, n133a, n133b, n75a, n75b, aT, aR, oT, oR, oF, oG, kT, kF, bI, bL, bR, b0, Classical.not_not, not_true_eq_false, not_false_eq_true, and_self, and_true, true_and, ↓reduceIte, decide_true, decide_false, Nat.reduceEqDiff, Nat.reduceLT, Nat.reduceLeDiff, Int.reduceEq, s_lineAt_rows_y _ D L n hk, s_lineAt_rows_y _ D L n hi, q1, q2, r1, r2, s_isMissing _ D L n q1, m0, b_X11_pool_45, s_refuse _ D L n (f := 1) (by decide) (by decide)]
        · rw [dn_X12_pool, b_X12_pool_0]
          simp only [z_cd, i10, i11, dnn, rdU, eW, eU, tzC_w, w_shp, w_ptr, Nat.beq_refl, nbz, nb133, nb75, nb55, nb67, n133a, n133b, n75a, n75b, aT, aR, oT, oR, oF, oG, kT, kF, bI, bL, bR, b0, Classical.not_not, not_true_eq_false, not_false_eq_true, and_self, and_true, true_and, ↓reduceIte, decide_true, decide_false, Nat.reduceEqDiff, Nat.reduceLT, Nat.reduceLeDiff, Int.reduceEq, q_isRow, ct, cu, hb6, hb7, z3, s_meets _ (tzRx D 1) L n (f := 1) (by decide) (by decide)]
    · obtain ⟨k, e⟩ : ∃ k : Nat, a0 = k := ⟨a0.toNat, by omega⟩
      subst e
      have hk : k < 6 := by omega
      refine ⟨-1, D, n, D, ?_, ?_, rfl, rfl, hR⟩
      · rw [dn_X11_pool, b_X11_pool_0]
        simp only [z_cd, i10, i11, dnn, rdU, eW, eU, tzC_w, w_shp, w_ptr, Nat.beq_refl, nbz, nb133, nb75, nb55, nb67, n133a, n133b, n75a, n75b, aT, aR, oT, oR, oF, oG, kT, kF, bI, bL, bR, b0, Classical.not_not, not_true_eq_false, not_false_eq_true, and_self, and_true, true_and, ↓reduceIte, decide_true, decide_false, Nat.reduceEqDiff, Nat.reduceLT, Nat.reduceLeDiff, Int.reduceEq, s_lineAt_rows_y _ D L n hk, s_lineAt_rows_n _ D L n (a := a1) (by omega)]
      · rw [dn_X12_pool, b_X12_pool_0]
        simp only [z_cd, i10, i11, dnn, rdU, eW, eU, tzC_w, w_shp, w_ptr, Nat.beq_refl, nbz, nb133, nb75, nb55, nb67, n133a, n133b, n75a, n75b, aT, aR, oT, oR, oF, oG, kT, kF, bI, bL, bR, b0, Classical.not_not, not_true_eq_false, not_false_eq_true, and_self, and_true, true_and, ↓reduceIte, decide_true, decide_false, Nat.reduceEqDiff, Nat.reduceLT, Nat.reduceLeDiff, Int.reduceEq, q_isRow, ct, cu]
  · refine ⟨-1, D, n, D, ?_, ?_, rfl, rfl, hR⟩
    · rw [dn_X11_pool, b_X11_pool_0]
      by_cases cu : 0 ≤ a1 ∧ a1 ≤ 5
      · obtain ⟨i, e⟩ : ∃ i : Nat, a1 = i := ⟨a1.toNat, by omega⟩
        subst e
        have hi : i < 6 := by omega
        simp only [z_cd, i10, i11, dnn, rdU, eW, eU, tzC_w, w_shp, w_ptr, Nat.beq_refl, nbz, nb133, nb75, nb55, nb67, n133a, n133b, n75a, n75b, aT, aR, oT, oR, oF, oG, kT, kF, bI, bL, bR, b0, Classical.not_not, not_true_eq_false, not_false_eq_true, and_self, and_true, true_and, ↓reduceIte, decide_true, decide_false, Nat.reduceEqDiff, Nat.reduceLT, Nat.reduceLeDiff, Int.reduceEq, s_lineAt_rows_n _ D L n (a := a0) (by omega), s_lineAt_rows_y _ D L n hi]
      · simp only [z_cd, i10, i11, dnn, rdU, eW, eU, tzC_w, w_shp, w_ptr, Nat.beq_refl, nbz, nb133, nb75, nb55, nb67, n133a, n133b, n75a, n75b, aT, aR, oT, oR, oF, oG, kT, kF, bI, bL, bR, b0, Classical.not_not, not_true_eq_false, not_false_eq_true, and_self, and_true, true_and, ↓reduceIte, decide_true, decide_false, Nat.reduceEqDiff, Nat.reduceLT, Nat.reduceLeDiff, Int.reduceEq, s_lineAt_rows_n _ D L n (a := a0) (by omega), s_lineAt_rows_n _ D L n (a := a1) (by omega)]
    · rw [dn_X12_pool, b_X12_pool_0]
      simp only [z_cd, i10, i11, dnn, rdU, eW, eU, tzC_w, w_shp, w_ptr, Nat.beq_refl, nbz, nb133, nb75, nb55, nb67, n133a, n133b, n75a, n75b, aT, aR, oT, oR, oF, oG, kT, kF, bI, bL, bR, b0, Classical.not_not, not_true_eq_false, not_false_eq_true, and_self, and_true, true_and, ↓reduceIte, decide_true, decide_false, Nat.reduceEqDiff, Nat.reduceLT, Nat.reduceLeDiff, Int.reduceEq, q_isRow, ct]
