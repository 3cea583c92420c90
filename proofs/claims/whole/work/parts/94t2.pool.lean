/-! ===== pool: shortest paths, pure ===== -/
def Cnq (via : Int → Int) : Nat → Int → Prop
  | 0, v => via v = -9
  | j + 1, v => via v ≠ -9 ∧ Cnq via j (via v)
def fnq (NV : Int) (far : Int → Int) : Nat → Int
  | 0 => 0
  | m + 1 => fnq NV far m + (if far (m : Int) = NV then 0 else 1)
theorem fn_b (NV : Int) (far : Int → Int) : ∀ m : Nat, 0 ≤ fnq NV far m ∧ fnq NV far m ≤ m
  | 0 => ⟨by show (0 : Int) ≤ 0; omega, by show (0 : Int) ≤ 0; omega⟩
  | m + 1 => by
    have r := fn_b NV far m
    show 0 ≤ fnq NV far m + (if far (m : Int) = NV then 0 else 1) ∧ fnq NV far m + (if far (m : Int) = NV then 0 else 1) ≤ ((m + 1 : Nat) : Int)
    by_cases q : far (m : Int) = NV
    · rw [if_pos q]; omega
    · rw [if_neg q]; omega
theorem fn_u {NV : Int} {far : Int → Int} {q v : Int} (hv : v ≠ NV) : ∀ m : Nat, fnq NV (upq far q v) m = fnq NV far m + (if far q = NV ∧ 0 ≤ q ∧ q < m then 1 else 0)
  | 0 => by
    rw [if_neg (show ¬ (far q = NV ∧ 0 ≤ q ∧ q < ((0 : Nat) : Int)) by omega)]
    rfl
  | m + 1 => by
    have r := fn_u (NV := NV) (far := far) (q := q) hv m
    show fnq NV (upq far q v) m + (if upq far q v (m : Int) = NV then 0 else 1) = fnq NV far m + (if far (m : Int) = NV then 0 else 1) + (if far q = NV ∧ 0 ≤ q ∧ q < ((m + 1 : Nat) : Int) then 1 else 0)
    rw [r]
    by_cases e : (m : Int) = q
    · have e1 : upq far q v (m : Int) = v := by rw [e]; exact upq_s _ _ _
      have e2 : far (m : Int) = far q := by rw [e]
      rw [e1, e2, if_neg hv, if_neg (show ¬ (far q = NV ∧ 0 ≤ q ∧ q < (m : Int)) by omega)]
      by_cases c : far q = NV
      · rw [if_pos c, if_pos (show far q = NV ∧ 0 ≤ q ∧ q < ((m + 1 : Nat) : Int) from ⟨c, by omega, by omega⟩)]
      · rw [if_neg c, if_neg (show ¬ (far q = NV ∧ 0 ≤ q ∧ q < ((m + 1 : Nat) : Int)) from fun h => c h.1)]; omega
    · rw [upq_k _ _ e]
      by_cases c : far q = NV ∧ 0 ≤ q ∧ q < (m : Int)
      · rw [if_pos c, if_pos (show far q = NV ∧ 0 ≤ q ∧ q < ((m + 1 : Nat) : Int) from ⟨c.1, c.2.1, by omega⟩)]; omega
      · rw [if_neg c, if_neg (show ¬ (far q = NV ∧ 0 ≤ q ∧ q < ((m + 1 : Nat) : Int)) from fun h => c ⟨h.1, h.2.1, by omega⟩)]; omega
/-- far and via: what is known while paths are shortened -/
def Bfq (M : Nat) (NV : Int) (Ar : Int → Int → Int → Prop) (Rt : Int → Prop) (l far via : Int → Int) : Prop :=
  (∀ v : Int, 0 ≤ v → v < M → far v ≤ NV) ∧
  (∀ v : Int, 0 ≤ v → v < M → far v ≠ NV → l v ≤ far v ∧ far v ≤ 16320 * fnq NV far M) ∧
  (∀ v : Int, 0 ≤ v → v < M → far v ≠ NV → ∃ j, Cnq via j v) ∧
  (∀ v : Int, 0 ≤ v → v < M → far v ≠ NV → via v = -9 → Rt v ∧ far v = 0) ∧
  (∀ v : Int, 0 ≤ v → v < M → far v ≠ NV → via v ≠ -9 → (0 ≤ via v ∧ via v < M) ∧ far (via v) ≠ NV ∧ ∃ w, Ar (via v) v w ∧ far (via v) + w ≤ far v) ∧
  (∀ v : Int, 0 ≤ v → v < M → Rt v → far v ≠ NV ∧ far v ≤ 0)
def Okq (M : Nat) (Ar : Int → Int → Int → Prop) (l : Int → Int) : Prop := ∀ p q w : Int, Ar p q w → (0 ≤ p ∧ p < M) ∧ (0 ≤ q ∧ q < M) ∧ p ≠ q ∧ w ≤ 16320 ∧ l q ≤ l p + w
theorem cn_av {M : Nat} {NV : Int} {Ar : Int → Int → Int → Prop} {Rt : Int → Prop} {l far via : Int → Int} (h : Bfq M NV Ar Rt l far via) (ok : Okq M Ar l) (q p : Int) : ∀ (j : Nat) (v : Int), 0 ≤ v → v < M → far v ≠ NV → far v - l v < far q - l q → Cnq via j v → Cnq (upq via q p) j v
  | 0, v, v0, v1, f, lt, c => by
    have e : v ≠ q := fun t => by rw [t] at lt; omega
    show upq via q p v = -9
    rw [upq_k _ _ e]; exact c
  | j + 1, v, v0, v1, f, lt, c => by
    have e : v ≠ q := fun t => by rw [t] at lt; omega
    obtain ⟨c1, c2⟩ := c
    obtain ⟨⟨u0, u1⟩, u2, w, a, b⟩ := h.2.2.2.2.1 v v0 v1 f c1
    have o := (ok _ _ _ a).2.2.2.2
    show upq via q p v ≠ -9 ∧ Cnq (upq via q p) j (upq via q p v)
    rw [upq_k _ _ e]
    exact ⟨c1, cn_av h ok q p j (via v) u0 u1 u2 (by omega) c2⟩
theorem bf_step {M : Nat} {NV : Int} {Ar : Int → Int → Int → Prop} {Rt : Int → Prop} {l far via : Int → Int} (h : Bfq M NV Ar Rt l far via) (ok : Okq M Ar l) (hN : 0 < NV) {p q w : Int} (ar : Ar p q w) (fp : far p ≠ NV) (lt : far p + w < far q) : Bfq M NV Ar Rt l (upq far q (far p + w)) (upq via q p) := by
  obtain ⟨⟨p0, p1⟩, ⟨q0, q1⟩, pq, w1, lw⟩ := ok p q w ar
  obtain ⟨h1, h2, h3, h4, h5, h6⟩ := id h
  have bq := h1 q q0 q1
  have nv : far p + w ≠ NV := by omega
  have fp2 : upq far q (far p + w) p = far p := upq_k _ _ pq
  have fin : ∀ v : Int, v ≠ q → upq far q (far p + w) v = far v := fun v e => upq_k _ _ e
  have bp := h2 p p0 p1 fp
  have fb := fn_b NV far M
  have fu := fn_u (NV := NV) (far := far) (q := q) nv M
  have cp : ∃ j, Cnq (upq via q p) j p := by
    obtain ⟨j, c⟩ := h3 p p0 p1 fp
    by_cases e : far q = NV
    · by_cases e2 : far p - l p < far q - l q
      · exact ⟨j, cn_av h ok q p j p p0 p1 fp e2 c⟩
      · exact absurd (show far p - l p < far q - l q by omega) e2
    · exact ⟨j, cn_av h ok q p j p p0 p1 fp (by omega) c⟩
  have cq : ∃ j, Cnq (upq via q p) j q := by
    obtain ⟨j, c⟩ := cp
    refine ⟨j + 1, ?_⟩
    show upq via q p q ≠ -9 ∧ Cnq (upq via q p) j (upq via q p q)
    rw [upq_s]
    exact ⟨by omega, c⟩
  have cv : ∀ (j : Nat) (v : Int), 0 ≤ v → v < M → far v ≠ NV → Cnq via j v → ∃ i, Cnq (upq via q p) i v := by
    intro j
    induction j with
    | zero =>
      intro v v0 v1 f c
      by_cases e : v = q
      · rw [e]; exact cq
      · refine ⟨0, ?_⟩
        show upq via q p v = -9
        rw [upq_k _ _ e]; exact c
    | succ j ih =>
      intro v v0 v1 f c
      by_cases e : v = q
      · rw [e]; exact cq
      · obtain ⟨⟨u0, u1⟩, u2, _⟩ := h5 v v0 v1 f c.1
        obtain ⟨i, ci⟩ := ih (via v) u0 u1 u2 c.2
        refine ⟨i + 1, ?_⟩
        show upq via q p v ≠ -9 ∧ Cnq (upq via q p) i (upq via q p v)
        rw [upq_k _ _ e]
        exact ⟨c.1, ci⟩
  refine ⟨fun v v0 v1 => ?_, fun v v0 v1 f => ?_, fun v v0 v1 f => ?_, fun v v0 v1 f c => ?_, fun v v0 v1 f c => ?_, fun v v0 v1 r => ?_⟩
  · by_cases e : v = q
    · rw [e, upq_s]; omega
    · rw [fin v e]; exact h1 v v0 v1
  · rw [fu]
    by_cases c : far q = NV
    · rw [if_pos (show far q = NV ∧ 0 ≤ q ∧ q < (M : Int) from ⟨c, q0, q1⟩)]
      by_cases e : v = q
      · rw [e, upq_s]; omega
      · rw [fin v e] at f ⊢
        have := h2 v v0 v1 f
        omega
    · rw [if_neg (show ¬ (far q = NV ∧ 0 ≤ q ∧ q < (M : Int)) from fun t => c t.1)]
      have b2 := h2 q q0 q1 c
      by_cases e : v = q
      · rw [e, upq_s]; omega
      · rw [fin v e] at f ⊢
        have := h2 v v0 v1 f
        omega
  · by_cases e : v = q
    · rw [e]; exact cq
    · rw [fin v e] at f
      obtain ⟨j, c⟩ := h3 v v0 v1 f
      exact cv j v v0 v1 f c
  · by_cases e : v = q
    · rw [e, upq_s] at c
      omega
    · rw [fin v e] at f ⊢
      rw [upq_k _ _ e] at c
      exact h4 v v0 v1 f c
  · by_cases e : v = q
    · rw [e, upq_s, upq_s, fp2]
      exact ⟨⟨p0, p1⟩, fp, w, ar, by omega⟩
    · rw [fin v e] at f
      rw [upq_k _ _ e] at c
      rw [fin v e, upq_k _ _ e]
      obtain ⟨u, u2, w', a, b⟩ := h5 v v0 v1 f c
      by_cases e2 : via v = q
      · rw [e2, upq_s]
        rw [e2] at u a b
        exact ⟨u, nv, w', a, by omega⟩
      · rw [fin _ e2]
        exact ⟨u, u2, w', a, b⟩
  · have r1 := h6 v v0 v1 r
    by_cases e : v = q
    · rw [e] at r1
      rw [e, upq_s]; omega
    · rw [fin v e]; exact r1
theorem cn_u {via : Int → Int} : ∀ (j i : Nat) (v : Int), Cnq via j v → Cnq via i v → j = i
  | 0, 0, _, _, _ => rfl
  | 0, i + 1, v, a, b => absurd a b.1
  | j + 1, 0, v, a, b => absurd b a.1
  | j + 1, i + 1, v, a, b => by rw [cn_u j i (via v) a.2 b.2]
def itzq (via : Int → Int) : Nat → Int → Int
  | 0, v => v
  | i + 1, v => itzq via i (via v)
theorem it_ok {M : Nat} {NV : Int} {Ar : Int → Int → Int → Prop} {Rt : Int → Prop} {l far via : Int → Int} (h : Bfq M NV Ar Rt l far via) : ∀ (i j : Nat) (v : Int), 0 ≤ v → v < M → far v ≠ NV → Cnq via j v → i ≤ j → (0 ≤ itzq via i v ∧ itzq via i v < M) ∧ far (itzq via i v) ≠ NV ∧ ∃ k : Nat, k + i = j ∧ Cnq via k (itzq via i v)
  | 0, j, v, v0, v1, f, c, _ => ⟨⟨v0, v1⟩, f, j, rfl, c⟩
  | i + 1, 0, v, _, _, _, _, l => by omega
  | i + 1, j + 1, v, v0, v1, f, c, l => by
    obtain ⟨⟨u0, u1⟩, u2, _⟩ := h.2.2.2.2.1 v v0 v1 f c.1
    obtain ⟨a, b, k, e, g⟩ := it_ok h i j (via v) u0 u1 u2 c.2 (by omega)
    exact ⟨a, b, k, by omega, g⟩
theorem cn_b {M : Nat} {NV : Int} {Ar : Int → Int → Int → Prop} {Rt : Int → Prop} {l far via : Int → Int} (h : Bfq M NV Ar Rt l far via) {j : Nat} {v : Int} (v0 : 0 ≤ v) (v1 : v < M) (f : far v ≠ NV) (c : Cnq via j v) : j < M := by
  by_cases t : j < M
  · exact t
  · obtain ⟨i, i', a, b, e⟩ := php8 M (fun i => (itzq via i v).toNat) (fun i hi => by
      have r := (it_ok h i j v v0 v1 f c (by omega)).1
      show (itzq via i v).toNat < M
      omega)
    have e' : (itzq via i v).toNat = (itzq via i' v).toNat := e
    obtain ⟨r1, _, k, k1, k2⟩ := it_ok h i j v v0 v1 f c (by omega)
    obtain ⟨s1, _, k', k3, k4⟩ := it_ok h i' j v v0 v1 f c (by omega)
    have e2 : itzq via i v = itzq via i' v := by omega
    rw [e2] at k2
    have := cn_u k k' _ k2 k4
    omega
/-- walks of at most so many steps -/
def Wlq (Ar : Int → Int → Int → Prop) (Rt : Int → Prop) : Nat → Int → Int → Prop
  | 0, v, s => Rt v ∧ s = 0
  | r + 1, v, s => Wlq Ar Rt r v s ∨ ∃ p w, Wlq Ar Rt r p (s - w) ∧ Ar p v w
theorem wl_m {Ar : Int → Int → Int → Prop} {Rt : Int → Prop} {r : Nat} {v s : Int} (h : Wlq Ar Rt r v s) : ∀ k : Nat, Wlq Ar Rt (r + k) v s
  | 0 => h
  | k + 1 => Or.inl (wl_m h k)
def Rnq (M : Nat) (NV : Int) (Ar : Int → Int → Int → Prop) (far far' : Int → Int) : Prop := (∀ v : Int, 0 ≤ v → v < M → far v ≠ NV → far' v ≠ NV ∧ far' v ≤ far v) ∧ ∀ p q w : Int, Ar p q w → far p ≠ NV → far' q ≠ NV ∧ far' q ≤ far p + w
def Bwq (M : Nat) (NV : Int) (Ar : Int → Int → Int → Prop) (Rt : Int → Prop) (far : Int → Int) (r : Nat) : Prop := ∀ v s : Int, 0 ≤ v → v < M → Wlq Ar Rt r v s → far v ≠ NV ∧ far v ≤ s
theorem bw_step {M : Nat} {NV : Int} {Ar : Int → Int → Int → Prop} {Rt : Int → Prop} {l far far' : Int → Int} (ok : Okq M Ar l) {r : Nat} (h : Bwq M NV Ar Rt far r) (g : Rnq M NV Ar far far') : Bwq M NV Ar Rt far' (r + 1) := by
  intro v s v0 v1 w
  rcases w with w | ⟨p, k, w, a⟩
  · have b := h v s v0 v1 w
    have c := g.1 v v0 v1 b.1
    exact ⟨c.1, by omega⟩
  · obtain ⟨⟨p0, p1⟩, _⟩ := ok p v k a
    have b := h p (s - k) p0 p1 w
    have c := g.2 p v k a b.1
    exact ⟨c.1, by omega⟩
def Fxq (NV : Int) (Ar : Int → Int → Int → Prop) (far : Int → Int) : Prop := ∀ p q w : Int, Ar p q w → far p ≠ NV → far q ≠ NV ∧ far q ≤ far p + w
theorem cn_wl {M : Nat} {NV : Int} {Ar : Int → Int → Int → Prop} {Rt : Int → Prop} {l far via : Int → Int} (h : Bfq M NV Ar Rt l far via) : ∀ (j : Nat) (v : Int), 0 ≤ v → v < M → far v ≠ NV → Cnq via j v → ∃ s, s ≤ far v ∧ Wlq Ar Rt j v s
  | 0, v, v0, v1, f, c => by
    obtain ⟨a, b⟩ := h.2.2.2.1 v v0 v1 f c
    exact ⟨0, by omega, a, rfl⟩
  | j + 1, v, v0, v1, f, c => by
    obtain ⟨⟨u0, u1⟩, u2, w, a, b⟩ := h.2.2.2.2.1 v v0 v1 f c.1
    obtain ⟨s, s1, s2⟩ := cn_wl h j (via v) u0 u1 u2 c.2
    exact ⟨s + w, by omega, Or.inr ⟨via v, w, by rw [show s + w - w = s by omega]; exact s2, a⟩⟩
theorem fx_of {M : Nat} {NV : Int} {Ar : Int → Int → Int → Prop} {Rt : Int → Prop} {l far via : Int → Int} (h : Bfq M NV Ar Rt l far via) (ok : Okq M Ar l) (b : Bwq M NV Ar Rt far M) : Fxq NV Ar far := by
  intro p q w a f
  obtain ⟨⟨p0, p1⟩, ⟨q0, q1⟩, _⟩ := ok p q w a
  obtain ⟨j, c⟩ := h.2.2.1 p p0 p1 f
  have lt := cn_b h p0 p1 f c
  obtain ⟨s, s1, s2⟩ := cn_wl h j p p0 p1 f c
  have w1 : Wlq Ar Rt (j + 1) q (s + w) := Or.inr ⟨p, w, by rw [show s + w - w = s by omega]; exact s2, a⟩
  have w2 := wl_m w1 (M - (j + 1))
  rw [show j + 1 + (M - (j + 1)) = M by omega] at w2
  have r := b q (s + w) q0 q1 w2
  exact ⟨r.1, by omega⟩
theorem fx_rn {M : Nat} {NV : Int} {Ar : Int → Int → Int → Prop} {far far' : Int → Int} (g : Rnq M NV Ar far far') (e : far' = far) : Fxq NV Ar far := by
  rw [e] at g
  exact g.2
/-- new labels -/
def nlq (NV : Int) (far l : Int → Int) (d : Int) : Int → Int := fun v => if far v = NV then l v + d else if far v ≤ l v + d then far v else l v + d
theorem nl_ok {NV : Int} {Ar : Int → Int → Int → Prop} {far l : Int → Int} (d : Int) (fx : Fxq NV Ar far) {p q w : Int} (a : Ar p q w) (lw : l q ≤ l p + w) : nlq NV far l d q ≤ nlq NV far l d p + w := by
  have up : ∀ v, nlq NV far l d v ≤ l v + d := fun v => by
    unfold nlq
    by_cases c : far v = NV
    · rw [if_pos c]; omega
    · rw [if_neg c]
      by_cases c2 : far v ≤ l v + d
      · rw [if_pos c2]; omega
      · rw [if_neg c2]; omega
  have uq := up q
  by_cases c : far p = NV
  · have e : nlq NV far l d p = l p + d := if_pos c
    omega
  · have r := fx p q w a c
    by_cases c2 : far p ≤ l p + d
    · have e : nlq NV far l d p = far p := (if_neg c).trans (if_pos c2)
      have e2 : nlq NV far l d q ≤ far q := by
        unfold nlq
        rw [if_neg r.1]
        by_cases c3 : far q ≤ l q + d
        · rw [if_pos c3]; omega
        · rw [if_neg c3]; omega
      omega
    · have e : nlq NV far l d p = l p + d := (if_neg c).trans (if_neg c2)
      omega
