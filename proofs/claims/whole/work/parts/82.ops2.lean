/-! ===== the relation, 4: a group is made ===== -/
def gN (m : mS) (s : Int32) (a : Nat → Nat) (n : Nat) : mS := addL (ngM m s) (nG m) a n
section GRP
variable {m : mS} {s : Int32} {a : Nat → Nat}
theorem ng_k {j : Nat} (h : j ≠ 10 ∧ j ≠ 12 ∧ j ≠ 13 ∧ j ≠ 14 ∧ j ≠ 15 ∧ j ≠ 16) : (ngM m s).1 j = m.1 j := by
  unfold ngM
  rw [mset_ne (by omega), mset_ne (by omega), mset_ne (by omega), mset_ne (by omega), mset_ne (by omega), mset_ne (by omega)]
theorem ng_g : (ngM m s).1 10 (nG m) = s ∧ (ngM m s).1 12 (nG m) = nI 0 ∧ (ngM m s).1 13 (nG m) = m.1 7 0 ∧ (ngM m s).1 14 (nG m) = -1 ∧ (ngM m s).1 15 (nG m) = nI 0 ∧ (ngM m s).1 16 0 = nI (nG m + 1) := by
  unfold ngM
  refine ⟨?_, ?_, ?_, ?_, ?_, mset_at _ _ _ _⟩
  · rw [mset_ne (by decide), mset_ne (by decide), mset_ne (by decide), mset_ne (by decide), mset_ne (by decide), mset_at]
  · rw [mset_ne (by decide), mset_ne (by decide), mset_ne (by decide), mset_ne (by decide), mset_at]
  · rw [mset_ne (by decide), mset_ne (by decide), mset_ne (by decide), mset_at]
  · rw [mset_ne (by decide), mset_ne (by decide), mset_at]
  · rw [mset_ne (by decide), mset_at]
theorem ng_o {x j : Nat} (hx : x ≠ nG m) (hj : j ≠ 16) : (ngM m s).1 j x = m.1 j x := by
  unfold ngM
  rw [mset_ne hj]
  have pt : ∀ (q : mS) (k : Nat) (u : Int32), (mset q k (nG m) u).1 j x = q.1 j x := fun q k u => by
    by_cases e : j = k
    · subst e; exact mset_off hx
    · rw [mset_ne e]
  rw [pt, pt, pt, pt, pt]
theorem gn_k {n j : Nat} (h : j ≠ 5 ∧ j ≠ 10 ∧ j ≠ 11 ∧ j ≠ 12 ∧ j ≠ 13 ∧ j ≠ 14 ∧ j ≠ 15 ∧ j ≠ 16) : (gN m s a n).1 j = m.1 j := by
  unfold gN
  rw [addL_ne (by omega) (by omega) (by omega)]
  exact ng_k (by omega)
theorem gn_12 {n : Nat} (hn : n ≤ 8) : (gN m s a n).1 12 (nG m) = nI n ∧ nM (gN m s a n) (nG m) = n := by
  have z := addL_m (g := nG m) (a := a) (ng_g (m := m) (s := s)).2.1 (by decide) n hn
  rw [Nat.zero_add] at z
  exact z
theorem gn_o {n : Nat} (hn : n ≤ 8) : ∀ {x : Nat}, x ≠ nG m → (gN m s a n).1 10 x = m.1 10 x ∧ (gN m s a n).1 12 x = m.1 12 x ∧ (gN m s a n).1 13 x = m.1 13 x ∧ (gN m s a n).1 14 x = m.1 14 x ∧ (gN m s a n).1 15 x = m.1 15 x := by
  intro x hx
  have k : ∀ j, j ≠ 11 → j ≠ 12 → j ≠ 5 → (gN m s a n).1 j = (ngM m s).1 j := fun j h1 h2 h3 => addL_ne h1 h2 h3 n
  have k12 : ∀ n, (gN m s a n).1 12 x = m.1 12 x := by
    intro n
    induction n with
    | zero => exact ng_o hx (by decide)
    | succ n ih =>
      show (adM (addL (ngM m s) (nG m) a n) (nG m) (a n)).1 12 x = _
      unfold adM
      rw [mset_ne (by decide), mset_off hx, mset_ne (by decide)]
      exact ih
  refine ⟨?_, k12 n, ?_, ?_, ?_⟩
  · rw [k 10 (by decide) (by decide) (by decide)]; exact ng_o hx (by decide)
  · rw [k 13 (by decide) (by decide) (by decide)]; exact ng_o hx (by decide)
  · rw [k 14 (by decide) (by decide) (by decide)]; exact ng_o hx (by decide)
  · rw [k 15 (by decide) (by decide) (by decide)]; exact ng_o hx (by decide)
theorem gn_g {n : Nat} : (gN m s a n).1 10 (nG m) = s ∧ (gN m s a n).1 13 (nG m) = m.1 7 0 ∧ (gN m s a n).1 14 (nG m) = -1 ∧ (gN m s a n).1 15 (nG m) = nI 0 ∧ (gN m s a n).1 16 0 = nI (nG m + 1) := by
  have k : ∀ j, j ≠ 11 → j ≠ 12 → j ≠ 5 → (gN m s a n).1 j = (ngM m s).1 j := fun j h1 h2 h3 => addL_ne h1 h2 h3 n
  have g := ng_g (m := m) (s := s)
  rw [k 10 (by decide) (by decide) (by decide), k 13 (by decide) (by decide) (by decide), k 14 (by decide) (by decide) (by decide), k 15 (by decide) (by decide) (by decide), k 16 (by decide) (by decide) (by decide)]
  exact ⟨g.1, g.2.2.1, g.2.2.2.1, g.2.2.2.2.1, g.2.2.2.2.2⟩
theorem gn_nG {n : Nat} (h : nG m < 200) : nG (gN m s a n) = nG m + 1 := by
  show nv ((gN m s a n).1 16 0) = _
  rw [gn_g.2.2.2.2]; exact nv_nI (by omega)
theorem gn_11 : ∀ n, n ≤ 8 → (∀ j, j < n → (gN m s a n).1 11 (8 * nG m + j) = nI (a j)) ∧ ∀ x, x < 8 * nG m → (gN m s a n).1 11 x = m.1 11 x
  | 0, _ => ⟨fun j h => absurd h (Nat.not_lt_zero j), fun x _ => by show (ngM m s).1 11 x = _; rw [ng_k (by decide)]⟩
  | n + 1, hn => by
    obtain ⟨h1, h2⟩ := gn_11 n (by omega)
    have z := gn_12 (m := m) (s := s) (a := a) (n := n) (by omega)
    have ed : (gN m s a (n + 1)).1 11 = (mset (gN m s a n) 11 (8 * nG m + nM (gN m s a n) (nG m)) (nI (a n))).1 11 := by
      show (adM (gN m s a n) (nG m) (a n)).1 11 = _
      unfold adM
      rw [mset_ne (by decide), mset_ne (by decide)]
    rw [ed, z.2]
    refine ⟨fun j hj => ?_, fun x hx => by rw [mset_off (by omega)]; exact h2 x hx⟩
    by_cases q : j = n
    · rw [q, mset_at]
    · rw [mset_off (by omega)]; exact h1 j (by omega)
theorem gn_5 {y : Nat} : ∀ n, (gN m s a n).1 5 y = if 0 < fb_ct (fun j => decide (a j = y)) n then nI (nG m) else m.1 5 y
  | 0 => by
    rw [if_neg (show ¬ 0 < fb_ct (fun j => decide (a j = y)) 0 from Nat.lt_irrefl 0)]
    show (ngM m s).1 5 y = _
    rw [ng_k (by decide)]
  | n + 1 => by
    have ih := gn_5 (y := y) n
    have ed : (gN m s a (n + 1)).1 5 = (mset (gN m s a n) 5 (a n) (nI (nG m))).1 5 := by
      show (adM (gN m s a n) (nG m) (a n)).1 5 = _
      unfold adM
      rw [mset_same, mset_same, mset_ne (by decide), mset_ne (by decide)]
    rw [ed, fb_ct_succ]
    by_cases q : a n = y
    · rw [← q, mset_at, if_pos (show 0 < fb_ct (fun j => decide (a j = a n)) n + (if decide (a n = a n) = true then 1 else 0) by rw [if_pos (decide_eq_true rfl)]; omega)]
    · have e2 : (if decide (a n = y) = true then 1 else 0) = 0 := if_neg (fun z => q (of_decide_eq_true z))
      rw [mset_off (fun z => q z.symm), ih, e2, Nat.add_zero]
/-- lines that may be grouped -/
abbrev gOk (m : mS) (a : Nat → Nat) (n : Nat) : Prop := (n ≤ 8) ∧ (∀ j, j < n → (a j < 160 ∧ a j % 80 < nL m (a j / 80)) ∧ m.1 5 (a j) = -1) ∧ (∀ j j', j < n → j' < n → a j = a j' → j = j') ∧ (∃ j, j < n ∧ a j < 80) ∧ (∃ j, j < n ∧ 80 ≤ a j)
theorem gOk.n8 {m : mS} {a : Nat → Nat} {n : Nat} (h_ : gOk m a n) : n ≤ 8 := h_.1
theorem gOk.v {m : mS} {a : Nat → Nat} {n : Nat} (h_ : gOk m a n) : ∀ j, j < n → (a j < 160 ∧ a j % 80 < nL m (a j / 80)) ∧ m.1 5 (a j) = -1 := h_.2.1
theorem gOk.i {m : mS} {a : Nat → Nat} {n : Nat} (h_ : gOk m a n) : ∀ j j', j < n → j' < n → a j = a j' → j = j' := h_.2.2.1
theorem gOk.b0 {m : mS} {a : Nat → Nat} {n : Nat} (h_ : gOk m a n) : ∃ j, j < n ∧ a j < 80 := h_.2.2.2.1
theorem gOk.b1 {m : mS} {a : Nat → Nat} {n : Nat} (h_ : gOk m a n) : ∃ j, j < n ∧ 80 ≤ a j := h_.2.2.2.2
theorem gn_mb {n : Nat} (hn : n ≤ 8) (ho : gOk m a n) {j : Nat} (hj : j < n) : mb (gN m s a n) (nG m) j = a j := by
  unfold mb
  rw [(gn_11 n hn).1 j hj]
  exact nv_nI (by have := (ho.v j hj).1.1; omega)
theorem gn_mbo {n : Nat} (hm : inv m) (hn : n ≤ 8) {x k : Nat} (hx : x < nG m) (hk : k < nM m x) : mb (gN m s a n) x k = mb m x k := by
  have h8 := (hm.M x hx).2.1
  unfold mb
  rw [(gn_11 n hn).2 _ (by omega)]
theorem gn_5i {n y : Nat} : (gN m s a n).1 5 y = nI (nG m) ∧ (∃ j, j < n ∧ a j = y) ∨ (gN m s a n).1 5 y = m.1 5 y ∧ ∀ j, j < n → a j ≠ y := by
  rw [gn_5 n]
  by_cases q : 0 < fb_ct (fun j => decide (a j = y)) n
  · rw [if_pos q]
    obtain ⟨j, j1, j2⟩ := fb_ct_pos.mp q
    exact Or.inl ⟨rfl, j, j1, of_decide_eq_true j2⟩
  · rw [if_neg q]
    exact Or.inr ⟨rfl, fun j hj e => q (fb_ct_pos.mpr ⟨j, hj, decide_eq_true e⟩)⟩
theorem gn_inv {n : Nat} (hm : inv m) (h2 : nG m < 200) (ho : gOk m a n) : inv (gN m s a n) := by
  have hn := ho.n8
  have k : ∀ j, j < 10 → j ≠ 5 → (gN m s a n).1 j = m.1 j := fun j h1 h2 => gn_k (by omega)
  have ng := gn_nG (m := m) (s := s) (a := a) (n := n) h2
  have nl : ∀ b, nL (gN m s a n) b = nL m b := fun b => nL_k (k 6 (by decide) (by decide))
  have g12 := gn_12 (m := m) (s := s) (a := a) hn
  have gg := gn_g (m := m) (s := s) (a := a) (n := n)
  have oo := fun x (hx : x ≠ nG m) => gn_o (m := m) (s := s) (a := a) hn hx
  have nmo : ∀ x, x < nG m → nM (gN m s a n) x = nM m x := fun x hx => by unfold nM; rw [(oo x (by omega)).2.1]
  have cs : ∀ x, x < nG m + 1 → x = nG m ∨ x < nG m := fun x hx => by omega
  have m1 : ((-1 : Int32)).toInt = -1 := by decide
  -- old standing groups keep their lines
  have old : ∀ x, x < nG m → m.1 14 x < 0 → ∀ j, j < nM m x → (gN m s a n).1 5 (mb m x j) = nI x := fun x hx hp j hj => by
    have z := (hm.J2 x hx hp j hj).1
    rcases gn_5i (m := m) (s := s) (a := a) (n := n) (y := mb m x j) with ⟨_, i, i1, i2⟩ | ⟨q1, _⟩
    · have w := (ho.v i i1).2
      rw [i2, z] at w
      exact absurd w (nIm1 (by omega))
    · rw [q1]; exact z
  refine ⟨iL_k (k 6 (by decide) (by decide)) hm.L, ⟨by rw [ng]; exact gg.2.2.2.2, by rw [ng]; omega⟩, fun x hx => ?_, fun b hb i hi => ?_, fun b hb i hi => ?_, fun x hx => ?_, fun x hx => ?_, fun x hx j hj => ?_, by rw [k 7 (by decide) (by decide)]; exact hm.nw, fun b hb i hi => ?_, fun x hx => ?_, fun b hb i hi => ?_, fun x hx hp j hj => ?_, fun x hx hp => ?_⟩
  · rw [ng] at hx
    rcases cs x hx with q | q
    · rw [q]
      refine ⟨by rw [g12.2]; exact g12.1, by rw [g12.2]; exact hn, fun j hj => ?_⟩
      rw [g12.2] at hj
      rw [gn_mb hn ho hj]
      exact ⟨(gn_11 n hn).1 j hj, (ho.v j hj).1.1⟩
    · obtain ⟨i1, i2, i3⟩ := hm.M x q
      refine ⟨by rw [nmo x q, (oo x (by omega)).2.1]; exact i1, by rw [nmo x q]; exact i2, fun j hj => ?_⟩
      rw [nmo x q] at hj
      rw [gn_mbo hm hn q hj, (gn_11 n hn).2 _ (by omega)]
      exact i3 j hj
  · rw [nl] at hi
    unfold fOk
    rw [k 0 (by decide) (by decide), k 1 (by decide) (by decide)]; exact hm.F b hb i hi
  · rw [nl] at hi
    rcases gn_5i (m := m) (s := s) (a := a) (n := n) (y := 80 * b + i) with ⟨q1, _⟩ | ⟨q1, _⟩
    · rw [q1]; exact fun z => absurd z (nI_nn (by omega))
    · rw [q1]; exact hm.N b hb i hi
  · rw [ng] at hx
    rcases cs x hx with q | q
    · rw [q, gg.2.2.1]; exact fun _ => rfl
    · rw [(oo x (by omega)).2.2.2.1]; exact hm.P x q
  · rw [ng] at hx
    rcases cs x hx with q | q
    · rw [q]; exact Or.inl gg.2.2.2.1
    · rw [(oo x (by omega)).2.2.2.2]; exact hm.K x q
  · rw [ng] at hx
    rcases cs x hx with q | q
    · rw [q] at hj ⊢
      rw [g12.2] at hj
      rw [gn_mb hn ho hj, nl]; exact (ho.v j hj).1
    · rw [nmo x q] at hj
      rw [gn_mbo hm hn q hj, nl]; exact hm.V x q j hj
  · rw [nl] at hi
    rw [k 4 (by decide) (by decide), k 7 (by decide) (by decide)]; exact hm.kn b hb i hi
  · rw [ng] at hx
    rw [k 7 (by decide) (by decide)]
    rcases cs x hx with q | q
    · rw [q, gg.2.1, gg.2.2.1, m1]
      have := hm.nw
      omega
    · rw [(oo x (by omega)).2.2.1, (oo x (by omega)).2.2.2.1]; exact hm.T x q
  · rw [nl] at hi
    rcases gn_5i (m := m) (s := s) (a := a) (n := n) (y := 80 * b + i) with ⟨q1, j, j1, j2⟩ | ⟨q1, q2⟩
    · exact Or.inr ⟨nG m, j, by rw [ng]; omega, by rw [g12.2]; exact j1, q1, by rw [gg.2.2.1]; exact m1_neg, by rw [gn_mb hn ho j1]; exact j2⟩
    · rw [q1]
      rcases hm.J1 b hb i hi with z | ⟨x, j, g1, k1, z1, z2, z3⟩
      · exact Or.inl z
      · exact Or.inr ⟨x, j, by rw [ng]; omega, by rw [nmo x g1]; exact k1, z1, by rw [(oo x (by omega)).2.2.2.1]; exact z2, by rw [gn_mbo hm hn g1 k1]; exact z3⟩
  · rw [ng] at hx
    rcases cs x hx with q | q
    · rw [q] at hj ⊢
      rw [g12.2] at hj ⊢
      rw [gn_mb hn ho hj]
      refine ⟨?_, fun i hi e => ho.i i j hi hj (by rw [gn_mb hn ho hi] at e; exact e)⟩
      rcases gn_5i (m := m) (s := s) (a := a) (n := n) (y := a j) with ⟨q1, _⟩ | ⟨_, q2⟩
      · exact q1
      · exact absurd rfl (q2 j hj)
    · rw [(oo x (by omega)).2.2.2.1] at hp
      rw [nmo x q] at hj ⊢
      rw [gn_mbo hm hn q hj]
      exact ⟨old x q hp j hj, fun i hi e => (hm.J2 x q hp j hj).2 i hi (by rw [gn_mbo hm hn q hi] at e; exact e)⟩
  · rw [ng] at hx
    rcases cs x hx with q | q
    · rw [q, g12.2]
      obtain ⟨j0, a1, a2⟩ := ho.b0
      obtain ⟨j1, b1, b2⟩ := ho.b1
      exact ⟨⟨j0, a1, by rw [gn_mb hn ho a1]; exact a2⟩, j1, b1, by rw [gn_mb hn ho b1]; exact b2⟩
    · rw [(oo x (by omega)).2.2.2.1] at hp
      rw [nmo x q]
      obtain ⟨⟨k1, a1, a2⟩, k2, b1, b2⟩ := hm.J3 x q hp
      exact ⟨⟨k1, a1, by rw [gn_mbo hm hn q a1]; exact a2⟩, k2, b1, by rw [gn_mbo hm hn q b1]; exact b2⟩
theorem gn_un {n : Nat} (hm : inv m) (h2 : nG m < 200) (ho : gOk m a n) (u : Int32) : tbOk (gN m s a n) 1 (nG m) ∧ eqv (tbD (gN m s a n) 1 (nG m) u) m := by
  have hn := ho.n8
  have hi := gn_inv (s := s) hm h2 ho
  have ng := gn_nG (m := m) (s := s) (a := a) (n := n) h2
  have g12 := gn_12 (m := m) (s := s) (a := a) hn
  have oo := fun x (hx : x ≠ nG m) => gn_o (m := m) (s := s) (a := a) hn hx
  refine ⟨⟨by decide, fun q => absurd q (by decide), fun _ => ⟨by rw [ng]; omega, hi.M _ (by rw [ng]; omega)⟩, fun q => absurd q (by decide)⟩, ?_⟩
  have et : tbD (gN m s a n) 1 (nG m) u = mset (clM (gN m s a n) (nG m) (-1) n) 16 0 (nI (nG m)) := by
    unfold tbD
    rw [if_neg (by decide), if_pos rfl, g12.2, ng, Nat.add_sub_cancel]
  rw [et]
  have k : ∀ j, j ≠ 5 → j ≠ 16 → (mset (clM (gN m s a n) (nG m) (-1) n) 16 0 (nI (nG m))).1 j = (gN m s a n).1 j := fun j a1 a2 => by rw [mset_ne a2, clM_ne a1]
  have k2 : ∀ j, j < 10 → j ≠ 5 → (gN m s a n).1 j = m.1 j := fun j h1 h2 => gn_k (by omega)
  refine ⟨fun b _ => by rw [k 6 (by decide) (by decide), k2 6 (by decide) (by decide)], by rw [k 7 (by decide) (by decide), k2 7 (by decide) (by decide)], by rw [k 8 (by decide) (by decide), k2 8 (by decide) (by decide)], by rw [k 9 (by decide) (by decide), k2 9 (by decide) (by decide)], by rw [mset_at]; exact hm.G.1.symm, fun j hj b hb i hi' => ?_, fun x hx => ?_, fun x hx j hj => ?_⟩
  · by_cases q : j = 5
    · subst q
      rw [mset_ne (by decide), clM_at]
      rcases gn_5i (m := m) (s := s) (a := a) (n := n) (y := 80 * b + i) with ⟨_, j, j1, j2⟩ | ⟨q1, q2⟩
      · rw [if_pos (fb_ct_pos.mpr ⟨j, j1, decide_eq_true (by rw [gn_mb hn ho j1]; exact j2)⟩)]
        have := (ho.v j j1).2
        rw [j2] at this
        exact this.symm
      · rw [if_neg (fun z => ?_), q1]
        obtain ⟨j, j1, j2⟩ := fb_ct_pos.mp z
        have e := of_decide_eq_true j2
        rw [gn_mb hn ho j1] at e
        exact q2 j j1 e
    · rw [k j q (by omega), k2 j (by omega) q]
  · rw [k 10 (by decide) (by decide), k 12 (by decide) (by decide), k 13 (by decide) (by decide), k 14 (by decide) (by decide), k 15 (by decide) (by decide)]
    exact oo x (by omega)
  · have h8 := (hm.M x hx).2.1
    rw [k 11 (by decide) (by decide), (gn_11 n hn).2 _ (by omega)]
theorem gn_eqv {d : mS} {n : Nat} (h : eqv d m) (hm : inv m) (h2 : nG m < 200) (hn : n ≤ 8) : eqv (gN d s a n) (gN m s a n) := by
  have nd : nG d = nG m := q_nG h
  have hd2 : nG d < 200 := by omega
  have k2 : ∀ (q : mS) j, j < 10 → j ≠ 5 → (gN q s a n).1 j = q.1 j := fun q j h1 h2 => gn_k (by omega)
  have ng := gn_nG (m := m) (s := s) (a := a) (n := n) h2
  have nl : ∀ b, nL (gN m s a n) b = nL m b := fun b => nL_k (k2 m 6 (by decide) (by decide))
  have g12 := gn_12 (m := m) (s := s) (a := a) hn
  have d12 := gn_12 (m := d) (s := s) (a := a) hn
  have gg := gn_g (m := m) (s := s) (a := a) (n := n)
  have dg := gn_g (m := d) (s := s) (a := a) (n := n)
  rw [nd] at d12 dg
  refine ⟨fun b hb => by rw [k2 d 6 (by decide) (by decide), k2 m 6 (by decide) (by decide)]; exact h.l b hb, by rw [k2 d 7 (by decide) (by decide), k2 m 7 (by decide) (by decide)]; exact h.n, by rw [k2 d 8 (by decide) (by decide), k2 m 8 (by decide) (by decide)]; exact h.s, by rw [k2 d 9 (by decide) (by decide), k2 m 9 (by decide) (by decide)]; exact h.c, by rw [dg.2.2.2.2, gg.2.2.2.2], fun j hj b hb i hi => ?_, fun x hx => ?_, fun x hx j hj => ?_⟩
  · rw [nl] at hi
    by_cases q : j = 5
    · subst q
      rw [gn_5, gn_5, nd, h.a 5 (by decide) b hb i hi]
    · rw [k2 d j (by omega) q, k2 m j (by omega) q]; exact h.a j hj b hb i hi
  · rw [ng] at hx
    by_cases q : x = nG m
    · rw [q, dg.1, gg.1, d12.1, g12.1, dg.2.1, gg.2.1, dg.2.2.1, gg.2.2.1, dg.2.2.2.1, gg.2.2.2.1, h.n]
      exact ⟨rfl, rfl, rfl, rfl, rfl⟩
    · have a1 := gn_o (m := m) (s := s) (a := a) hn q
      have a2 := gn_o (m := d) (s := s) (a := a) hn (show x ≠ nG d by omega)
      have r := h.r x (by omega)
      rw [a1.1, a1.2.1, a1.2.2.1, a1.2.2.2.1, a1.2.2.2.2, a2.1, a2.2.1, a2.2.2.1, a2.2.2.2.1, a2.2.2.2.2]
      exact r
  · rw [ng] at hx
    by_cases q : x = nG m
    · rw [q] at hj ⊢
      rw [g12.2] at hj
      have e1 := (gn_11 (m := d) (s := s) (a := a) n hn).1 j hj
      rw [nd] at e1
      rw [e1, (gn_11 (m := m) (s := s) (a := a) n hn).1 j hj]
    · have hx' : x < nG m := by omega
      have h8 := (hm.M x hx').2.1
      have nmo : nM (gN m s a n) x = nM m x := by unfold nM; rw [(gn_o (m := m) (s := s) (a := a) hn q).2.1]
      rw [nmo] at hj
      rw [(gn_11 (m := d) (s := s) (a := a) n hn).2 _ (by rw [nd]; omega), (gn_11 (m := m) (s := s) (a := a) n hn).2 _ (by omega)]
      exact h.m x hx' j hj
end GRP
