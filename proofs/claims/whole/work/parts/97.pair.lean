/-! ===== pairing, 2: with, rival and pair answer alike ===== -/
section PRIV
variable {d m : mS} {n T : Nat}
theorem prF.nO (h : prF d m n T) : nO m = n := by
  have := h.n14
  show nv (m.1 20 0) = n
  rw [h.o]; exact nv_nI (by omega)
theorem prF.nT (h : prF d m n T) : nTh2 m = T := by
  have := h.T14
  show nv (m.1 21 0) = T
  rw [h.t]; exact nv_nI (by omega)
theorem prF.iP (h : prF d m n T) : iP m := ⟨⟨by rw [h.nO]; exact h.o, by rw [h.nO]; exact h.n14⟩, by rw [h.nT]; exact h.t, by rw [h.nT]; exact h.T14⟩
theorem pI_neg (hT : T ≤ 14) {f : Nat → Nat → Int32} {k : Nat} : pI f n T k < 0 ↔ pI f n T k = -1 := by
  constructor
  · intro q
    by_cases c : pI f n T k = -1
    · exact c
    · obtain ⟨j, j1, j2⟩ := pI_in c
      rw [j2] at q
      exact (nI_nn (by omega) q).elim
  · intro q
    rw [q]; exact m1_neg
theorem prF.iW (h : prF d m n T) : iW m := fun i hi => by
  rw [h.nO] at hi
  rw [h.nT, (h.p i hi).1]
  have := h.T14
  by_cases c : pI (fM m) n T i = -1
  · exact Or.inl c
  · obtain ⟨j, j1, j2⟩ := pI_in c
    refine Or.inr ?_
    rw [j2, nv_nI (by omega)]
    exact ⟨rfl, j1⟩
/-- the row of a line -/
theorem prF.one (h : prF d m n T) (hm : inv m) {i i' : Nat} (hi : i < n) (hi' : i' < n) (e : m.1 18 i = m.1 18 i') : i = i' := by
  obtain ⟨a, a1, a2, _, _, a5⟩ := h.l i hi
  obtain ⟨b, b1, b2, _, _, b5⟩ := h.l i' hi'
  have := (hm.L 0 (by decide)).2
  rw [a2, b2] at e
  have e := nI_inj (by omega) (by omega) e
  rw [← a5, ← b5, e]
theorem prF.eqL (h : prF d m n T) {i : Nat} (hi : i < n) : d.1 57 i = m.1 18 i := by
  obtain ⟨a, _, a2, a3, _⟩ := h.l i hi
  rw [a2, a3]
theorem prF.eqR (h : prF d m n T) {i : Nat} (hi : i < T) : d.1 58 i = m.1 19 i := by
  obtain ⟨a, _, a2, a3, _⟩ := h.r i hi
  rw [a2, a3]
theorem prF.mod (h : prF d m n T) {a x : Int32} (hx : prR m a x) (h17 : ¬ m.1 17 0 = 0) : (∃ i, i < n ∧ m.1 18 i = a ∧ ¬ pI (fM m) n T i = -1 ∧ x = nI i) ∨ ((∀ i, i < n → m.1 18 i = a → pI (fM m) n T i = -1) ∧ x = -1) := by
  rcases hx with ⟨_, i, q1, ⟨q2, q3⟩, _, q5⟩ | ⟨q1, q2⟩
  · rw [h.nO] at q1
    rw [(h.p i q1).1, pI_neg h.T14] at q3
    exact Or.inl ⟨i, q1, q2, q3, q5⟩
  · refine Or.inr ⟨fun i hi e => ?_, q2⟩
    rcases q1 with q1 | q1
    · exact absurd q1 h17
    · have z := q1 i (by rw [h.nO]; exact hi)
      by_cases c : pI (fM m) n T i = -1
      · exact c
      · exact (z ⟨e, by rw [(h.p i hi).1, pI_neg h.T14]; exact c⟩).elim
theorem with_eq (hm : inv m) (hp : prel d m) {k : Nat} (hk : k ≤ 14) (e61 : d.1 61 0 = nI k) {v r r' : Int32} (hd : wiD d k v r) (h17 : ¬ m.1 17 0 = 0) (hb : wiR m v r') : r = r' := by
  obtain ⟨n, T, h⟩ := hp.f h17
  have e : k = n := nI_inj (by have := h.n14; omega) (by have := h.n14; omega) (e61.symm.trans h.d61)
  subst e
  have mm : (∃ i, i < k ∧ m.1 18 i = v ∧ ¬ pI (fM m) k T i = -1 ∧ r' = m.1 19 (nv (pI (fM m) k T i))) ∨ ((∀ i, i < k → m.1 18 i = v → pI (fM m) k T i = -1) ∧ r' = -1) := by
    rcases hb with ⟨i, q1, q2, q3⟩ | ⟨q1, q2⟩
    · rcases h.mod q1 h17 with ⟨i', p1, p2, p3, p4⟩ | ⟨p1, p2⟩
      · have e : i = i' := nI_inj (by rw [h.nO] at q2; omega) (by omega) p4
        subst e
        rw [(h.p i p1).1] at q3
        exact Or.inl ⟨i, p1, p2, p3, q3⟩
      · exact absurd p2 (nIm1 (by rw [h.nO] at q2; omega))
    · rcases h.mod q1 h17 with ⟨i', p1, p2, p3, p4⟩ | ⟨p1, p2⟩
      · exact absurd p4.symm (nIm1 (by omega))
      · exact Or.inr ⟨p1, q2⟩
  have hT := h.T14
  rcases hd with ⟨i, ⟨_, i1, i2, _⟩, c⟩ | ⟨c1, c2⟩
  · rw [h.eqL i1] at i2
    rw [(h.p i i1).2.1] at c
    rcases mm with ⟨i', p1, p2, p3, p4⟩ | ⟨p1, p2⟩
    · have e := h.one hm i1 p1 (i2.trans p2.symm)
      subst e
      rcases c with ⟨_, c⟩ | ⟨c, _⟩
      · obtain ⟨j, j1, j2⟩ := pI_in p3
        rw [c, p4, j2, nv_nI (by omega)]
        exact h.eqR j1
      · exact absurd c p3
    · rcases c with ⟨c, _⟩ | ⟨_, c⟩
      · exact absurd (p1 i i1 i2) c
      · rw [c, p2]
  · rcases mm with ⟨i', p1, p2, _, _⟩ | ⟨_, p2⟩
    · exact absurd ((h.eqL p1).trans p2) (c1 (hp.fr.mpr h17) i' p1)
    · rw [c2, p2]
theorem with_no (hp : prel d m) {k : Nat} {v r : Int32} (hd : wiD d k v r) (h17 : m.1 17 0 = 0) : r = -1 := by
  rcases hd with ⟨i, ⟨q, _⟩, _⟩ | ⟨_, c⟩
  · exact absurd h17 (hp.fr.mp q)
  · exact c
theorem rival_no (hp : prel d m) {k : Nat} {v r : Int32} (hd : rvD d k v r) (h17 : m.1 17 0 = 0) : r = nI 1 := by
  rcases hd with ⟨i, ⟨q, _⟩, _⟩ | ⟨_, c⟩
  · exact absurd h17 (hp.fr.mp q)
  · exact c
/-- what a sum without a pair is, cached or not -/
theorem wo_val (hp : prel d m) (h : prF d m n T) {i : Nat} (hi : i < n) {v : Int32} {m' : mS} (hw : woR m i v m') : v = rk (fM m) (noP (nI i) (pI (fM m) n T i)) n T n 0 ∧ cch m' ∧ ∀ j, j ≠ 23 → j ≠ 26 → j ≠ 29 → m'.1 j = m.1 j := by
  unfold woR at hw
  by_cases c : m.1 26 i = 0
  · rw [if_pos c] at hw
    obtain ⟨m1, ⟨_, r2, _, r4⟩, rfl⟩ := hw
    have rv : v = rk (fM m) (noP (nI i) (pI (fM m) n T i)) n T n 0 := by
      rw [r4]
      show rk (fM m) (noP (nI i) (m.1 24 i)) (nO m) (nTh2 m) (nO m) 0 = _
      rw [h.nO, h.nT, (h.p i hi).1]
    have kk : ∀ j, j ≠ 23 → j ≠ 26 → j ≠ 29 → (mset (mset m1 29 i v) 26 i (nI 1)).1 j = m.1 j := fun j q1 q2 q3 => by rw [mset_ne q2, mset_ne q3]; exact r2 j q1
    refine ⟨rv, fun n' T' h1 h2 h3 h4 k hk hne => ?_, kk⟩
    rw [kk 27 (by decide) (by decide) (by decide)] at h3
    rw [kk 28 (by decide) (by decide) (by decide)] at h4
    have := h.n14
    have := h.T14
    have en : n' = n := nI_inj (by omega) (by omega) (h3.symm.trans h.o27)
    have eT : T' = T := nI_inj (by omega) (by omega) (h4.symm.trans h.t28)
    subst en
    subst eT
    rw [fM_k (kk 22 (by decide) (by decide) (by decide)), mset_ne (by decide)]
    by_cases e : k = i
    · subst e
      rw [mset_at]; exact rv
    · rw [mset_off e] at hne
      rw [mset_ne (by decide)] at hne
      rw [mset_off e, r2 29 (by decide)]
      rw [r2 26 (by decide)] at hne
      exact hp.c _ _ h1 h2 h3 h4 k hk hne
  · rw [if_neg c] at hw
    obtain ⟨rfl, rfl⟩ := hw
    exact ⟨hp.c n T h.n14 h.T14 h.o27 h.t28 i hi c, hp.c, fun _ _ _ _ => rfl⟩
theorem prel_c {m' : mS} (hp : prel d m) (hc : cch m') (hm : ∀ j, j < 29 → j ≠ 23 → j ≠ 26 → m'.1 j = m.1 j) : prel d m' := by
  have e17 := hm 17 (by decide) (by decide) (by decide)
  refine ⟨by rw [e17]; exact hp.fr, hp.k, hc, fun q => ?_⟩
  rw [e17] at q
  obtain ⟨n, T, h⟩ := hp.f q
  exact ⟨n, T, prF_k h (fun _ _ _ => rfl) (fun j q1 _ q2 q3 => hm j q1 q2 q3)⟩
theorem rival_eq (hm : inv m) (hp : prel d m) {k : Nat} (hk : k ≤ 14) (e61 : d.1 61 0 = nI k) {v r r' : Int32} {m' : mS} (hd : rvD d k v r) (h17 : ¬ m.1 17 0 = 0) (hb : rvR m v r' m') : r = r' ∧ prel d m' ∧ ∀ j, j ≠ 23 → j ≠ 26 → j ≠ 29 → m'.1 j = m.1 j := by
  obtain ⟨n, T, h⟩ := hp.f h17
  have e : k = n := nI_inj (by have := h.n14; omega) (by have := h.n14; omega) (e61.symm.trans h.d61)
  subst e
  rcases hb with ⟨i, x, q1, q2, q3, q4⟩ | ⟨q1, q2, rfl⟩
  · rw [h.nO] at q2
    rcases h.mod q1 h17 with ⟨i', p1, p2, p3, p4⟩ | ⟨p1, p2⟩
    · have e : i = i' := nI_inj (by omega) (by omega) p4
      subst e
      obtain ⟨z1, z2, z3⟩ := wo_val hp h p1 q3
      refine ⟨?_, prel_c hp z2 (fun j _ q r => z3 j q r (by omega)), z3⟩
      rcases hd with ⟨i', ⟨_, i1, i2, _⟩, c⟩ | ⟨c1, _⟩
      · rw [h.eqL i1] at i2
        have e := h.one hm i1 p1 (i2.trans p2.symm)
        subst e
        rw [c, q4, z1, h.w, (h.p i' i1).2.2]
        unfold rvV
        rw [if_neg p3]
      · exact absurd ((h.eqL p1).trans p2) (c1 (hp.fr.mpr h17) i p1)
    · exact absurd p2 (nIm1 (by omega))
  · rcases h.mod q1 h17 with ⟨i', p1, p2, p3, p4⟩ | ⟨p1, p2⟩
    · exact absurd p4.symm (nIm1 (by omega))
    · refine ⟨?_, hp, fun _ _ _ _ => rfl⟩
      rcases hd with ⟨i', ⟨_, i1, i2, _⟩, c⟩ | ⟨_, c⟩
      · rw [h.eqL i1] at i2
        rw [c, q2, (h.p i' i1).2.2]
        unfold rvV
        rw [if_pos (p1 i' i1 i2)]
      · rw [c, q2]
end PRIV
