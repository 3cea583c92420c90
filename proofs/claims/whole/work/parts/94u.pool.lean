/-! ===== pool: the class's shortest paths ===== -/
def Deq (M : Nat) (NV : Int) (far far' : Int → Int) : Prop := ∀ v : Int, 0 ≤ v → v < M → far v ≠ NV → far' v ≠ NV ∧ far' v ≤ far v
theorem De_r (M : Nat) (NV : Int) (far : Int → Int) : Deq M NV far far := fun _ _ _ f => ⟨f, Int.le_refl _⟩
theorem De_t {M : Nat} {NV : Int} {f g h : Int → Int} (a : Deq M NV f g) (b : Deq M NV g h) : Deq M NV f h := fun v v0 v1 e => by
  have q := a v v0 v1 e
  have r := b v v0 v1 q.1
  exact ⟨r.1, by omega⟩
theorem De_u {M : Nat} {NV : Int} {far : Int → Int} {q y : Int} (lt : y < far q) (le : ∀ v : Int, 0 ≤ v → v < M → far v ≤ NV) : Deq M NV far (upq far q y) := fun v v0 v1 f => by
  have l := le v v0 v1
  by_cases e : v = q
  · rw [e, upq_s]
    rw [e] at l
    omega
  · rw [upq_k _ _ e]; exact ⟨f, Int.le_refl _⟩
theorem bf_init {M : Nat} {NV : Int} (hN : 0 < NV) {Ar : Int → Int → Int → Prop} {Rt : Int → Prop} {l far via : Int → Int} (hl : ∀ v : Int, 0 ≤ v → v < M → Rt v → l v = 0) (hv : ∀ v : Int, 0 ≤ v → v < M → via v = -9) (hf : ∀ v : Int, 0 ≤ v → v < M → (Rt v ∧ far v = 0) ∨ (¬ Rt v ∧ far v = NV)) : Bfq M NV Ar Rt l far via ∧ Bwq M NV Ar Rt far 0 := by
  have fb := fn_b NV far M
  refine ⟨⟨fun v v0 v1 => ?_, fun v v0 v1 f => ?_, fun v v0 v1 f => ⟨0, hv v v0 v1⟩, fun v v0 v1 f c => ?_, fun v v0 v1 f c => absurd (hv v v0 v1) c, fun v v0 v1 r => ?_⟩, fun v s v0 v1 w => ?_⟩
  · rcases hf v v0 v1 with h | h <;> omega
  · rcases hf v v0 v1 with h | h
    · have := hl v v0 v1 h.1
      omega
    · exact absurd h.2 f
  · rcases hf v v0 v1 with h | h
    · exact h
    · exact absurd h.2 f
  · rcases hf v v0 v1 with h | h
    · omega
    · exact absurd r h.1
  · obtain ⟨w1, w2⟩ := w
    rcases hf v v0 v1 with h | h
    · omega
    · exact absurd w1 h.1
def Of47 (D D' : Nat → Int → Int) : Prop := ∀ (b : Nat) (j : Int), b ≠ 47 → b ≠ 48 → D' b j = D b j
theorem Of47_t {D D' D'' : Nat → Int → Int} (h : Of47 D D') (g : Of47 D' D'') : Of47 D D'' := fun b j p q => (g b j p q).trans (h b j p q)
theorem Of47_f {D D' : Nat → Int → Int} (h : Of47 D D') (b : Nat) (p : b ≠ 47) (q : b ≠ 48) : D' b = D b := by
  funext j; exact h b j p q
set_option maxRecDepth 100000 in
set_option maxHeartbeats 1000000 in
theorem p_shn (d L n : Nat) (D : Nat → Int → Int) {p q w : Int} (p0 : 0 ≤ p) (p1 : p < 8) (q0 : 0 ≤ q) (q1 : q < 8) (hw : D 47 p ≠ 2147483647 → w32 (D 47 p + w) = D 47 p + w) :
    (D 47 p ≠ 2147483647 → D 47 p + w < D 47 q → tqden tqP (d + 1) n_X3_shorten [vR 41, vI p, vI q, vI w] (tzW D L n) = some (some (vI 1), tzW (tzU (tzU D 47 q (D 47 p + w)) 48 q p) L n)) ∧ (¬ (D 47 p ≠ 2147483647 ∧ D 47 p + w < D 47 q) → tqden tqP (d + 1) n_X3_shorten [vR 41, vI p, vI q, vI w] (tzW D L n) = some (some (vI 0), tzW D L n)) := by
  have hp : tqib p 8 = true := tqib_y p0 (by omega)
  have hq : tqib q 8 = true := tqib_y q0 (by omega)
  refine ⟨fun c1 c2 => ?_, fun c => ?_⟩
  · have e := hw c1
    rw [dn_X3_shorten, b_X3_shorten_0]
    simp only [z_cd, i10, i11, dnn, rdU, eW, eU, tzC_w, w_shp, w_ptr, Nat.beq_refl, nbz, nb133, nb75, nb55, nb67, n133a, n133b, n75a, n75b, aT, aR, oT, oR, oF, oG, kT, kF, bI, bL, bR, b0, Classical.not_not, not_true_eq_false, not_false_eq_true, and_self, and_true, true_and, ↓reduceIte, decide_true, decide_false, Nat.reduceEqDiff, Nat.reduceLT, Nat.reduceLeDiff, Int.reduceEq, hp, hq, c1, e, c2]
  · by_cases c1 : D 47 p = 2147483647
    · rw [dn_X3_shorten, b_X3_shorten_0]
      simp only [z_cd, i10, i11, dnn, rdU, eW, eU, tzC_w, w_shp, w_ptr, Nat.beq_refl, nbz, nb133, nb75, nb55, nb67, n133a, n133b, n75a, n75b, aT, aR, oT, oR, oF, oG, kT, kF, bI, bL, bR, b0, Classical.not_not, not_true_eq_false, not_false_eq_true, and_self, and_true, true_and, ↓reduceIte, decide_true, decide_false, Nat.reduceEqDiff, Nat.reduceLT, Nat.reduceLeDiff, Int.reduceEq, hp, hq, c1]
    · have e := hw c1
      have c2 : ¬ D 47 p + w < D 47 q := fun t => c ⟨c1, t⟩
      rw [dn_X3_shorten, b_X3_shorten_0]
      simp only [z_cd, i10, i11, dnn, rdU, eW, eU, tzC_w, w_shp, w_ptr, Nat.beq_refl, nbz, nb133, nb75, nb55, nb67, n133a, n133b, n75a, n75b, aT, aR, oT, oR, oF, oG, kT, kF, bI, bL, bR, b0, Classical.not_not, not_true_eq_false, not_false_eq_true, and_self, and_true, true_and, ↓reduceIte, decide_true, decide_false, Nat.reduceEqDiff, Nat.reduceLT, Nat.reduceLeDiff, Int.reduceEq, hp, hq, c1, e, c2]
theorem p_sht (d L n : Nat) (D : Nat → Int → Int) {Ar : Int → Int → Int → Prop} {Rt : Int → Prop} {l : Int → Int} (bf : Bfq 8 2147483647 Ar Rt l (D 47) (D 48)) (ok : Okq 8 Ar l) (l0 : ∀ v : Int, 0 ≤ v → v < 8 → 0 ≤ l v) {p q w : Int} (ar : Ar p q w) :
    ∃ D' r, tqden tqP (d + 1) n_X3_shorten [vR 41, vI p, vI q, vI w] (tzW D L n) = some (some (vI r), tzW D' L n) ∧ Of47 D D' ∧ Bfq 8 2147483647 Ar Rt l (D' 47) (D' 48) ∧ Deq 8 2147483647 (D 47) (D' 47) ∧ (D 47 p ≠ 2147483647 → D' 47 q ≠ 2147483647 ∧ D' 47 q ≤ D 47 p + w) ∧ (r = 0 ∨ r = 1) ∧ (r = 0 → D' = D) := by
  obtain ⟨⟨p0, p1⟩, ⟨q0, q1⟩, pq, w1, lw⟩ := ok p q w ar
  have b1 := bf.1
  have hw : D 47 p ≠ 2147483647 → w32 (D 47 p + w) = D 47 p + w := fun f => by
    have k := bf.2.1 p p0 p1 f
    have k2 := fn_b 2147483647 (D 47) 8
    have k3 := l0 q q0 q1
    exact w32_i (by omega) (by omega)
  obtain ⟨h1, h2⟩ := p_shn d L n D p0 p1 q0 q1 hw
  by_cases c : D 47 p ≠ 2147483647 ∧ D 47 p + w < D 47 q
  · have r := h1 c.1 c.2
    have e47 : tzU (tzU D 47 q (D 47 p + w)) 48 q p 47 = upq (D 47) q (D 47 p + w) := by
      rw [← tzU_q]
      funext k
      exact tzU_o _ _ _ _ (by decide)
    have e48 : tzU (tzU D 47 q (D 47 p + w)) 48 q p 48 = upq (D 48) q p := by
      rw [tzU_q]
      have e : tzU D 47 q (D 47 p + w) 48 = D 48 := by
        funext k
        exact tzU_o _ _ _ _ (by decide)
      rw [e]
    have bq := b1 q q0 q1
    refine ⟨_, 1, r, fun b j x y => by rw [tzU_o _ _ _ _ y, tzU_o _ _ _ _ x], ?_, ?_, fun f => ?_, Or.inr rfl, fun t => absurd t (by decide)⟩
    · rw [e47, e48]
      exact bf_step bf ok (by decide) ar c.1 c.2
    · rw [e47]
      exact De_u c.2 b1
    · rw [e47, upq_s]
      omega
  · have r := h2 c
    refine ⟨D, 0, r, fun b j x y => rfl, bf, De_r _ _ _, fun f => ?_, Or.inl rfl, fun _ => rfl⟩
    have bq := b1 p p0 p1
    have k : ¬ D 47 p + w < D 47 q := fun t => c ⟨f, t⟩
    have k2 := bf.2.1 p p0 p1 f
    have k3 := fn_b 2147483647 (D 47) 8
    omega
def Spq (NV : Int) (E : Int → Prop) (C x far far' : Int → Int) (a b : Int) : Prop := E (8 * a + b) → (far a ≠ NV → far' b ≠ NV ∧ far' b ≤ far a + C (8 * a + b)) ∧ (0 < x (8 * a + b) → far b ≠ NV → far' a ≠ NV ∧ far' a ≤ far b - C (8 * a + b))
set_option maxRecDepth 100000 in
set_option maxHeartbeats 1000000 in
theorem p_134 (d L n : Nat) (D : Nat → Int → Int) {sh r1 s0 : Int} (h1 : sh = 0 ∨ sh = 1) (h2 : r1 = 0 ∨ r1 = 1) (h3 : s0 = 0 ∨ s0 = 1) (r : Int) {k : Int} (k0 : 0 ≤ k) (k1 : k < 64) : ∃ s', tqrun tqP (d + 1) tqc_X3_findPaths 134 [vR 41, vI sh, vI r, vI k, vI r1, vU] [vI s0] (tzW D L n) = tqrun tqP (d + 1) tqc_X3_findPaths 61 [vR 41, vI s', vI r, vI (k + 1), vU, vU] [] (tzW D L n) ∧ (s' = 0 ∨ s' = 1) ∧ (s' = 0 → sh = 0 ∧ r1 = 0 ∧ s0 = 0) := by
  have e1 := w1z k0 (by omega)
  rcases h1 with h1 | h1
  · rcases h2 with h2 | h2
    · rcases h3 with h3 | h3
      · refine ⟨0, ?_, Or.inl rfl, fun _ => ⟨h1, h2, h3⟩⟩
        rw [b_X3_findPaths_134]
        simp only [z_cd, i10, i11, dnn, rdU, eW, eU, tzC_w, w_shp, w_ptr, Nat.beq_refl, nbz, nb133, nb75, nb55, nb67, n133a, n133b, n75a, n75b, aT, aR, oT, oR, oF, oG, kT, kF, bI, bL, bR, b0, Classical.not_not, not_true_eq_false, not_false_eq_true, and_self, and_true, true_and, ↓reduceIte, decide_true, decide_false, Nat.reduceEqDiff, Nat.reduceLT, Nat.reduceLeDiff, Int.reduceEq, h1, h2, h3, e1]
      · refine ⟨1, ?_, Or.inr rfl, fun t => absurd t (by decide)⟩
        rw [b_X3_findPaths_134]
        simp only [z_cd, i10, i11, dnn, rdU, eW, eU, tzC_w, w_shp, w_ptr, Nat.beq_refl, nbz, nb133, nb75, nb55, nb67, n133a, n133b, n75a, n75b, aT, aR, oT, oR, oF, oG, kT, kF, bI, bL, bR, b0, Classical.not_not, not_true_eq_false, not_false_eq_true, and_self, and_true, true_and, ↓reduceIte, decide_true, decide_false, Nat.reduceEqDiff, Nat.reduceLT, Nat.reduceLeDiff, Int.reduceEq, h1, h2, h3, e1]
    · refine ⟨1, ?_, Or.inr rfl, fun t => absurd t (by decide)⟩
      rw [b_X3_findPaths_134]
      simp only [z_cd, i10, i11, dnn, rdU, eW, eU, tzC_w, w_shp, w_ptr, Nat.beq_refl, nbz, nb133, nb75, nb55, nb67, n133a, n133b, n75a, n75b, aT, aR, oT, oR, oF, oG, kT, kF, bI, bL, bR, b0, Classical.not_not, not_true_eq_false, not_false_eq_true, and_self, and_true, true_and, ↓reduceIte, decide_true, decide_false, Nat.reduceEqDiff, Nat.reduceLT, Nat.reduceLeDiff, Int.reduceEq, h1, h2, e1]
  · refine ⟨1, ?_, Or.inr rfl, fun t => absurd t (by decide)⟩
    rw [b_X3_findPaths_134]
    simp only [z_cd, i10, i11, dnn, rdU, eW, eU, tzC_w, w_shp, w_ptr, Nat.beq_refl, nbz, nb133, nb75, nb55, nb67, n133a, n133b, n75a, n75b, aT, aR, oT, oR, oF, oG, kT, kF, bI, bL, bR, b0, Classical.not_not, not_true_eq_false, not_false_eq_true, and_self, and_true, true_and, ↓reduceIte, decide_true, decide_false, Nat.reduceEqDiff, Nat.reduceLT, Nat.reduceLeDiff, Int.reduceEq, h1, e1]
def Cqs (E : Int → Prop) (C x : Int → Int) (D : Nat → Int → Int) : Prop := (∀ k : Int, 0 ≤ k → k < 64 → (D 45 k = 2147483647 ∧ ¬ E k) ∨ (D 45 k = C k ∧ E k ∧ C k ≠ 2147483647)) ∧ D 46 = x
theorem Cqs_f {E : Int → Prop} {C x : Int → Int} {D D' : Nat → Int → Int} (h : Cqs E C x D) (o : Of47 D D') : Cqs E C x D' := by
  refine ⟨fun k k0 k1 => ?_, ?_⟩
  · rw [o 45 k (by decide) (by decide)]; exact h.1 k k0 k1
  · rw [Of47_f o 46 (by decide) (by decide)]; exact h.2
set_option maxRecDepth 100000 in
set_option maxHeartbeats 1000000 in
theorem p_61s (d L n : Nat) {E : Int → Prop} {C x : Int → Int} {Rt : Int → Prop} {l : Int → Int} (ok : Okq 8 (Arq 0 E C x) l) (l0 : ∀ v : Int, 0 ≤ v → v < 8 → 0 ≤ l v) (hC : ∀ k : Int, 0 ≤ k → k < 64 → E k → 0 ≤ C k ∧ C k ≤ 16320) {sh : Int} (h1 : sh = 0 ∨ sh = 1) (r : Int) {k : Int} (k0 : 0 ≤ k) (k1 : k < 64) (D : Nat → Int → Int) (cq : Cqs E C x D) (bf : Bfq 8 2147483647 (Arq 0 E C x) Rt l (D 47) (D 48)) :
    ∃ D' s', tqrun tqP (d + 2) tqc_X3_findPaths 61 [vR 41, vI sh, vI r, vI k, vU, vU] [] (tzW D L n) = tqrun tqP (d + 2) tqc_X3_findPaths 61 [vR 41, vI s', vI r, vI (k + 1), vU, vU] [] (tzW D' L n) ∧ Of47 D D' ∧ Bfq 8 2147483647 (Arq 0 E C x) Rt l (D' 47) (D' 48) ∧ Deq 8 2147483647 (D 47) (D' 47) ∧ Spq 2147483647 E C x (D 47) (D' 47) (k / 8) (k % 8) ∧ (s' = 0 ∨ s' = 1) ∧ (s' = 0 → sh = 0 ∧ D' = D) := by
  have c : ¬ 64 ≤ k := by omega
  have hb : tqib k 64 = true := tqib_y k0 (by omega)
  have ek : 8 * (k / 8) + k % 8 = k := by omega
  have ab : (0 ≤ k / 8 ∧ k / 8 < 8) ∧ 0 ≤ k % 8 ∧ k % 8 < 8 := by omega
  obtain ⟨t1, t2⟩ := td8 k0 k1
  rcases cq.1 k k0 k1 with ⟨e45, nE⟩ | ⟨e45, hE, cN⟩
  · refine ⟨D, sh, ?_, fun _ _ _ _ => rfl, bf, De_r _ _ _, fun h => absurd (by rw [ek] at h; exact h) nE, h1, fun t => ⟨t, rfl⟩⟩
    have e1 := w1z k0 (by omega)
    rw [b_X3_findPaths_61]
    simp only [z_cd, i10, i11, dnn, rdU, eW, eU, tzC_w, w_shp, w_ptr, Nat.beq_refl, nbz, nb133, nb75, nb55, nb67, n133a, n133b, n75a, n75b, aT, aR, oT, oR, oF, oG, kT, kF, bI, bL, bR, b0, Classical.not_not, not_true_eq_false, not_false_eq_true, and_self, and_true, true_and, ↓reduceIte, decide_true, decide_false, Nat.reduceEqDiff, Nat.reduceLT, Nat.reduceLeDiff, Int.reduceEq, c, hb, e45, e1]
  · have ar : Arq 0 E C x (k / 8) (k % 8) (C k) := ⟨k / 8, k % 8, ab, by rw [ek]; exact hE, Or.inl ⟨rfl, by omega, by rw [ek]⟩⟩
    obtain ⟨D1, r1, g1, g2, g3, g4, g5, g6, g7⟩ := p_sht d L n D bf ok l0 ar
    have cn : ¬ C k = 2147483647 := cN
    have x1 : D1 46 k = x k := by rw [g2 46 k (by decide) (by decide), cq.2]
    have y1 : D1 45 k = C k := by rw [g2 45 k (by decide) (by decide), e45]
    by_cases xk : x k ≤ 0
    · obtain ⟨s', u1, u2, u3⟩ := p_134 (d + 1) L n D1 h1 g6 (s0 := 0) (Or.inl rfl) r k0 k1
      refine ⟨D1, s', ?_, g2, g3, g4, fun _ => ⟨fun f => by rw [ek]; exact g5 f, fun f => by rw [ek] at f; omega⟩, u2, fun t => ⟨(u3 t).1, g7 (u3 t).2.1⟩⟩
      rw [← u1, b_X3_findPaths_61]
      simp only [z_cd, i10, i11, dnn, rdU, eW, eU, tzC_w, w_shp, w_ptr, Nat.beq_refl, nbz, nb133, nb75, nb55, nb67, n133a, n133b, n75a, n75b, aT, aR, oT, oR, oF, oG, kT, kF, bI, bL, bR, b0, Classical.not_not, not_true_eq_false, not_false_eq_true, and_self, and_true, true_and, ↓reduceIte, decide_true, decide_false, Nat.reduceEqDiff, Nat.reduceLT, Nat.reduceLeDiff, Int.reduceEq, c, hb, e45, cn, t1, t2, g1, x1, xk]
    · have ar2 : Arq 0 E C x (k % 8) (k / 8) (-C k) := ⟨k / 8, k % 8, ab, by rw [ek]; exact hE, Or.inr ⟨by omega, rfl, by rw [ek], by rw [ek]; omega⟩⟩
      obtain ⟨D2, r2, j1, j2, j3, j4, j5, j6, j7⟩ := p_sht d L n D1 g3 ok l0 ar2
      have cb := hC k k0 k1 hE
      obtain ⟨s', u1, u2, u3⟩ := p_134 (d + 1) L n D2 h1 g6 j6 r k0 k1
      refine ⟨D2, s', ?_, Of47_t g2 j2, j3, De_t g4 j4, fun _ => ⟨fun f => ?_, fun _ f => ?_⟩, u2, fun t => ⟨(u3 t).1, ?_⟩⟩
      · have wn : w32 (-C k) = -C k := w32_i (by omega) (by omega)
        rw [← u1, b_X3_findPaths_61]
        rcases j6 with j6 | j6
        · rw [j6] at j1 ⊢
          simp only [z_cd, i10, i11, dnn, rdU, eW, eU, tzC_w, w_shp, w_ptr, Nat.beq_refl, nbz, nb133, nb75, nb55, nb67, n133a, n133b, n75a, n75b, aT, aR, oT, oR, oF, oG, kT, kF, bI, bL, bR, b0, Classical.not_not, not_true_eq_false, not_false_eq_true, and_self, and_true, true_and, ↓reduceIte, decide_true, decide_false, Nat.reduceEqDiff, Nat.reduceLT, Nat.reduceLeDiff, Int.reduceEq, c, hb, e45, cn, t1, t2, g1, x1, y1, xk, wn, j1]
        · rw [j6] at j1 ⊢
          simp only [z_cd, i10, i11, dnn, rdU, eW, eU, tzC_w, w_shp, w_ptr, Nat.beq_refl, nbz, nb133, nb75, nb55, nb67, n133a, n133b, n75a, n75b, aT, aR, oT, oR, oF, oG, kT, kF, bI, bL, bR, b0, Classical.not_not, not_true_eq_false, not_false_eq_true, and_self, and_true, true_and, ↓reduceIte, decide_true, decide_false, Nat.reduceEqDiff, Nat.reduceLT, Nat.reduceLeDiff, Int.reduceEq, c, hb, e45, cn, t1, t2, g1, x1, y1, xk, wn, j1]
      · rw [ek]
        have a := g5 f
        have b := j4 (k % 8) ab.2.1 ab.2.2 a.1
        exact ⟨b.1, by omega⟩
      · rw [ek]
        have a := g4 (k % 8) ab.2.1 ab.2.2 f
        have b := j5 a.1
        exact ⟨b.1, by omega⟩
      · rw [j7 (u3 t).2.2, g7 (u3 t).2.1]
theorem p_61 (d L n : Nat) {E : Int → Prop} {C x : Int → Int} {Rt : Int → Prop} {l : Int → Int} (ok : Okq 8 (Arq 0 E C x) l) (l0 : ∀ v : Int, 0 ≤ v → v < 8 → 0 ≤ l v) (hC : ∀ k : Int, 0 ≤ k → k < 64 → E k → 0 ≤ C k ∧ C k ≤ 16320) (r : Int) (F : Nat → Int → Int) : ∀ (j : Nat) (k sh : Int) (D : Nat → Int → Int), (sh = 0 ∨ sh = 1) → 0 ≤ k → k + j = 64 → Cqs E C x D → Bfq 8 2147483647 (Arq 0 E C x) Rt l (D 47) (D 48) → Deq 8 2147483647 (F 47) (D 47) → (∀ a b : Int, 0 ≤ a → a < 8 → 0 ≤ b → b < 8 → 8 * a + b < k → Spq 2147483647 E C x (F 47) (D 47) a b) → (sh = 0 → D = F) →
    ∃ D' s', tqrun tqP (d + 2) tqc_X3_findPaths 61 [vR 41, vI sh, vI r, vI k, vU, vU] [] (tzW D L n) = tqrun tqP (d + 2) tqc_X3_findPaths 61 [vR 41, vI s', vI r, vI 64, vU, vU] [] (tzW D' L n) ∧ Of47 D D' ∧ Bfq 8 2147483647 (Arq 0 E C x) Rt l (D' 47) (D' 48) ∧ Deq 8 2147483647 (F 47) (D' 47) ∧ (∀ a b : Int, 0 ≤ a → a < 8 → 0 ≤ b → b < 8 → Spq 2147483647 E C x (F 47) (D' 47) a b) ∧ (s' = 0 ∨ s' = 1) ∧ (s' = 0 → D' = F)
  | 0, k, sh, D, h1, k0, kj, cq, bf, de, sp, hf => by
    have e : k = 64 := by omega
    rw [e]
    exact ⟨D, sh, rfl, fun _ _ _ _ => rfl, bf, de, fun a b a0 a1 v0 v1 => sp a b a0 a1 v0 v1 (by omega), h1, hf⟩
  | j + 1, k, sh, D, h1, k0, kj, cq, bf, de, sp, hf => by
    obtain ⟨D1, s1, g1, g2, g3, g4, g5, g6, g7⟩ := p_61s d L n ok l0 hC h1 r k0 (by omega) D cq bf
    obtain ⟨D2, s2, j1, j2, j3, j4, j5, j6, j7⟩ := p_61 d L n ok l0 hC r F j (k + 1) s1 D1 g6 (by omega) (by omega) (Cqs_f cq g2) g3 (De_t de g4) (fun a b a0 a1 v0 v1 lt => by
      by_cases e : 8 * a + b = k
      · have ea : k / 8 = a := by omega
        have eb : k % 8 = b := by omega
        rw [ea, eb] at g5
        intro hE
        obtain ⟨q1, q2⟩ := g5 hE
        refine ⟨fun f => ?_, fun xp f => ?_⟩
        · have y := de a a0 (by omega) f
          have z := q1 y.1
          exact ⟨z.1, by omega⟩
        · have y := de b v0 (by omega) f
          have z := q2 xp y.1
          exact ⟨z.1, by omega⟩
      · intro hE
        obtain ⟨q1, q2⟩ := sp a b a0 a1 v0 v1 (by omega) hE
        refine ⟨fun f => ?_, fun xp f => ?_⟩
        · have y := q1 f
          have z := g4 b v0 (by omega) y.1
          exact ⟨z.1, by omega⟩
        · have y := q2 xp f
          have z := g4 a a0 (by omega) y.1
          exact ⟨z.1, by omega⟩) (fun t => by rw [(g7 t).2]; exact hf (g7 t).1)
    exact ⟨D2, s2, g1.trans j1, Of47_t g2 j2, j3, j4, j5, j6, j7⟩
theorem sp_rn {E : Int → Prop} {C x far far' : Int → Int} {NV : Int} (de : Deq 8 NV far far') (sp : ∀ a b : Int, 0 ≤ a → a < 8 → 0 ≤ b → b < 8 → Spq NV E C x far far' a b) : Rnq 8 NV (Arq 0 E C x) far far' := by
  refine ⟨de, fun p q w a f => ?_⟩
  obtain ⟨a, b, ⟨⟨a0, a1⟩, v0, v1⟩, e, c⟩ := a
  obtain ⟨s1, s2⟩ := sp a b a0 a1 v0 v1 e
  rcases c with ⟨c1, c2, c3⟩ | ⟨c1, c2, c3, c4⟩
  · rw [c1] at f ⊢
    rw [c2, c3, Int.zero_add]
    exact s1 f
  · rw [c1, Int.zero_add] at f ⊢
    rw [c2, c3]
    have r := s2 c4 f
    exact ⟨r.1, by omega⟩
set_option maxRecDepth 100000 in
set_option maxHeartbeats 1000000 in
theorem p_47 (d L n : Nat) {E : Int → Prop} {C x : Int → Int} {Rt : Int → Prop} {l : Int → Int} (ok : Okq 8 (Arq 0 E C x) l) (l0 : ∀ v : Int, 0 ≤ v → v < 8 → 0 ≤ l v) (hC : ∀ k : Int, 0 ≤ k → k < 64 → E k → 0 ≤ C k ∧ C k ≤ 16320) : ∀ (j r : Nat) (sh : Int) (D : Nat → Int → Int), r + j = 8 → (sh = 0 ∨ sh = 1) → Cqs E C x D → Bfq 8 2147483647 (Arq 0 E C x) Rt l (D 47) (D 48) → Bwq 8 2147483647 (Arq 0 E C x) Rt (D 47) r → (sh = 0 → Fxq 2147483647 (Arq 0 E C x) (D 47)) →
    ∃ D', tqrun tqP (d + 2) tqc_X3_findPaths 47 [vR 41, vI sh, vI (r : Int), vU, vU, vU] [] (tzW D L n) = some (none, tzW D' L n) ∧ Of47 D D' ∧ Bfq 8 2147483647 (Arq 0 E C x) Rt l (D' 47) (D' 48) ∧ Fxq 2147483647 (Arq 0 E C x) (D' 47)
  | 0, r, sh, D, rj, h1, cq, bf, bw, fx => by
    have e : r = 8 := by omega
    subst e
    refine ⟨D, ?_, fun _ _ _ _ => rfl, bf, fx_of bf ok bw⟩
    have c : (8 : Int) ≤ ((8 : Nat) : Int) := by decide
    rw [b_X3_findPaths_47]
    simp only [z_cd, i10, i11, dnn, rdU, eW, eU, tzC_w, w_shp, w_ptr, Nat.beq_refl, nbz, nb133, nb75, nb55, nb67, n133a, n133b, n75a, n75b, aT, aR, oT, oR, oF, oG, kT, kF, bI, bL, bR, b0, Classical.not_not, not_true_eq_false, not_false_eq_true, and_self, and_true, true_and, ↓reduceIte, decide_true, decide_false, Nat.reduceEqDiff, Nat.reduceLT, Nat.reduceLeDiff, Int.reduceEq, c]
  | j + 1, r, sh, D, rj, h1, cq, bf, bw, fx => by
    have c : ¬ (8 : Int) ≤ (r : Int) := by omega
    rcases h1 with h1 | h1
    · refine ⟨D, ?_, fun _ _ _ _ => rfl, bf, fx h1⟩
      rw [b_X3_findPaths_47]
      simp only [z_cd, i10, i11, dnn, rdU, eW, eU, tzC_w, w_shp, w_ptr, Nat.beq_refl, nbz, nb133, nb75, nb55, nb67, n133a, n133b, n75a, n75b, aT, aR, oT, oR, oF, oG, kT, kF, bI, bL, bR, b0, Classical.not_not, not_true_eq_false, not_false_eq_true, and_self, and_true, true_and, ↓reduceIte, decide_true, decide_false, Nat.reduceEqDiff, Nat.reduceLT, Nat.reduceLeDiff, Int.reduceEq, c, h1]
    · obtain ⟨D1, s1, g1, g2, g3, g4, g5, g6, g7⟩ := p_61 d L n ok l0 hC (r : Int) D 64 0 0 D (Or.inl rfl) (by omega) (by omega) cq bf (De_r _ _ _) (fun a b a0 a1 v0 v1 lt => by omega) (fun _ => rfl)
      have rn := sp_rn g4 g5
      obtain ⟨D2, j1, j2, j3, j4⟩ := p_47 d L n ok l0 hC j (r + 1) s1 D1 (by omega) g6 (Cqs_f cq g2) g3 (bw_step ok bw rn) (fun t => by
        rw [g7 t] at rn ⊢
        exact rn.2)
      refine ⟨D2, ?_, Of47_t g2 j2, j3, j4⟩
      have n1 : ¬ (1 : Int) = 0 := by decide
      have c64 : (64 : Int) ≤ 64 := by decide
      have e1 := w32_s r (by omega)
      rw [← j1, b_X3_findPaths_47]
      simp only [z_cd, i10, i11, dnn, rdU, eW, eU, tzC_w, w_shp, w_ptr, Nat.beq_refl, nbz, nb133, nb75, nb55, nb67, n133a, n133b, n75a, n75b, aT, aR, oT, oR, oF, oG, kT, kF, bI, bL, bR, b0, Classical.not_not, not_true_eq_false, not_false_eq_true, and_self, and_true, true_and, ↓reduceIte, decide_true, decide_false, Nat.reduceEqDiff, Nat.reduceLT, Nat.reduceLeDiff, Int.reduceEq, c, h1, n1, g1]
      rw [b_X3_findPaths_61]
      simp only [z_cd, i10, i11, dnn, rdU, eW, eU, tzC_w, w_shp, w_ptr, Nat.beq_refl, nbz, nb133, nb75, nb55, nb67, n133a, n133b, n75a, n75b, aT, aR, oT, oR, oF, oG, kT, kF, bI, bL, bR, b0, Classical.not_not, not_true_eq_false, not_false_eq_true, and_self, and_true, true_and, ↓reduceIte, decide_true, decide_false, Nat.reduceEqDiff, Nat.reduceLT, Nat.reduceLeDiff, Int.reduceEq, c64, e1]
set_option maxRecDepth 100000 in
set_option maxHeartbeats 1000000 in
theorem p_f2 (d L n : Nat) : ∀ (j : Nat) (y : Int) (D : Nat → Int → Int), 0 ≤ y → y + j = 8 → ∃ D', tqrun tqP (d + 1) tqc_X3_findPaths 2 [vR 41, vI y, vU, vU, vU, vU] [] (tzW D L n) = tqrun tqP (d + 1) tqc_X3_findPaths 47 [vR 41, vI 1, vI 0, vU, vU, vU] [] (tzW D' L n) ∧ Of47 D D' ∧ (∀ z : Int, D' 47 z = if y ≤ z ∧ z < 8 then (if 0 < D 42 z then 0 else 2147483647) else D 47 z) ∧ ∀ z : Int, D' 48 z = if y ≤ z ∧ z < 8 then -9 else D 48 z
  | 0, y, D, y0, yj => by
    have c : 8 ≤ y := by omega
    refine ⟨D, ?_, fun _ _ _ _ => rfl, fun z => (if_neg (by omega)).symm, fun z => (if_neg (by omega)).symm⟩
    rw [b_X3_findPaths_2]
    simp only [z_cd, i10, i11, dnn, rdU, eW, eU, tzC_w, w_shp, w_ptr, Nat.beq_refl, nbz, nb133, nb75, nb55, nb67, n133a, n133b, n75a, n75b, aT, aR, oT, oR, oF, oG, kT, kF, bI, bL, bR, b0, Classical.not_not, not_true_eq_false, not_false_eq_true, and_self, and_true, true_and, ↓reduceIte, decide_true, decide_false, Nat.reduceEqDiff, Nat.reduceLT, Nat.reduceLeDiff, Int.reduceEq, c]
  | j + 1, y, D, y0, yj => by
    have c : ¬ 8 ≤ y := by omega
    have hy : tqib y 8 = true := tqib_y y0 (by omega)
    obtain ⟨v, hv⟩ : ∃ v : Int, v = if 0 < D 42 y then 0 else 2147483647 := ⟨_, rfl⟩
    obtain ⟨D1, g1, g2, g3, g4⟩ := p_f2 d L n j (y + 1) (tzU (tzU D 47 y v) 48 y (-9)) (by omega) (by omega)
    have k42 : ∀ z : Int, tzU (tzU D 47 y v) 48 y (-9) 42 z = D 42 z := fun z => by rw [tzU_o _ _ _ _ (by decide), tzU_o _ _ _ _ (by decide)]
    refine ⟨D1, ?_, fun b i p q => by rw [g2 b i p q, tzU_o _ _ _ _ q, tzU_o _ _ _ _ p], fun z => ?_, fun z => ?_⟩
    · have e1 := w1z y0 (by omega)
      by_cases q : D 42 y ≤ 0
      · rw [if_neg (show ¬ 0 < D 42 y by clear e1; omega)] at hv
        rw [← g1, b_X3_findPaths_2]
        simp only [z_cd, i10, i11, dnn, rdU, eW, eU, tzC_w, w_shp, w_ptr, Nat.beq_refl, nbz, nb133, nb75, nb55, nb67, n133a, n133b, n75a, n75b, aT, aR, oT, oR, oF, oG, kT, kF, bI, bL, bR, b0, Classical.not_not, not_true_eq_false, not_false_eq_true, and_self, and_true, true_and, ↓reduceIte, decide_true, decide_false, Nat.reduceEqDiff, Nat.reduceLT, Nat.reduceLeDiff, Int.reduceEq, c, hy, q, e1, hv]
      · rw [if_pos (show 0 < D 42 y by clear e1; omega)] at hv
        rw [← g1, b_X3_findPaths_2]
        simp only [z_cd, i10, i11, dnn, rdU, eW, eU, tzC_w, w_shp, w_ptr, Nat.beq_refl, nbz, nb133, nb75, nb55, nb67, n133a, n133b, n75a, n75b, aT, aR, oT, oR, oF, oG, kT, kF, bI, bL, bR, b0, Classical.not_not, not_true_eq_false, not_false_eq_true, and_self, and_true, true_and, ↓reduceIte, decide_true, decide_false, Nat.reduceEqDiff, Nat.reduceLT, Nat.reduceLeDiff, Int.reduceEq, c, hy, q, e1, hv]
    · rw [g3 z, k42 z]
      by_cases e : z = y
      · rw [if_neg (show ¬ (y + 1 ≤ z ∧ z < 8) by omega), if_pos (show y ≤ z ∧ z < 8 by omega), tzU_o _ _ _ _ (by decide), e, tzU_s, hv]
      · rw [tzU_o _ _ _ _ (by decide), tzU_k _ _ _ _ e]
        by_cases q : y + 1 ≤ z ∧ z < 8
        · rw [if_pos q, if_pos (show y ≤ z ∧ z < 8 by omega)]
        · rw [if_neg q, if_neg (show ¬ (y ≤ z ∧ z < 8) by omega)]
    · rw [g4 z]
      by_cases e : z = y
      · rw [if_neg (show ¬ (y + 1 ≤ z ∧ z < 8) by omega), if_pos (show y ≤ z ∧ z < 8 by omega), e, tzU_s]
      · rw [tzU_k _ _ _ _ e, tzU_o _ _ _ _ (by decide)]
        by_cases q : y + 1 ≤ z ∧ z < 8
        · rw [if_pos q, if_pos (show y ≤ z ∧ z < 8 by omega)]
        · rw [if_neg q, if_neg (show ¬ (y ≤ z ∧ z < 8) by omega)]
theorem p_find8 (d L n : Nat) {isB : Int → Bool} {E : Int → Prop} {C t x sp lk l : Int → Int} {Dl : Int} (N : Neq 0 isB E C) (la : Laq 0 E C t x sp lk l Dl) (D : Nat → Int → Int) (cq : Cqs E C x D) (hsp : ∀ z : Int, 0 ≤ z → z < 8 → D 42 z = sp z) :
    ∃ D', tqden tqP (d + 2) n_X3_findPaths [vR 41] (tzW D L n) = some (none, tzW D' L n) ∧ Of47 D D' ∧ Bfq 8 2147483647 (Arq 0 E C x) (Rtq sp) l (D' 47) (D' 48) ∧ Fxq 2147483647 (Arq 0 E C x) (D' 47) := by
  obtain ⟨D1, g1, g2, g3, g4⟩ := p_f2 (d + 1) L n 8 0 D (by omega) (by omega)
  have hC : ∀ k : Int, 0 ≤ k → k < 64 → E k → 0 ≤ C k ∧ C k ≤ 16320 := fun k k0 k1 e => by
    have ek : 8 * (k / 8) + k % 8 = k := by omega
    have r := N.2 (k / 8) (k % 8) (by omega) (by omega) (by omega) (by omega) (by rw [ek]; exact e)
    rw [ek] at r
    exact r.2.2.2
  obtain ⟨bf, bw⟩ := bf_init (M := 8) (NV := 2147483647) (by decide) (Ar := Arq 0 E C x) (Rt := Rtq sp) (l := l) (far := D1 47) (via := D1 48) (fun v v0 v1 r => la.2.1 v r.1.1 r.1.2 r.2) (fun v v0 v1 => by rw [g4 v]; exact if_pos ⟨v0, by omega⟩) (fun v v0 v1 => by
    have e : D1 47 v = if 0 < sp v then 0 else 2147483647 := by
      rw [g3 v, if_pos (show 0 ≤ v ∧ v < 8 by omega), hsp v v0 (by omega)]
    by_cases c : 0 < sp v
    · rw [if_pos c] at e
      exact Or.inl ⟨⟨⟨v0, by omega⟩, c⟩, e⟩
    · rw [if_neg c] at e
      exact Or.inr ⟨fun h => c h.2, e⟩)
  obtain ⟨D2, j1, j2, j3, j4⟩ := p_47 d L n (ok_of N (M := 8) (by decide) la.1) (fun v v0 v1 => la.2.2.1 v v0 (by omega)) hC 8 0 1 D1 (by omega) (Or.inr rfl) (Cqs_f cq g2) bf bw (fun t => absurd t (by decide))
  refine ⟨D2, ?_, Of47_t g2 j2, j3, j4⟩
  rw [dn_X3_findPaths, b_X3_findPaths_0, g1]
  exact j1
