/-! ===== the relation, 5: a group is parted; a line joins ===== -/
def pM (m : mS) (g : Nat) : mS := clM (mset m 14 g (m.1 7 0)) g (-1) (nM m g)
def jM (m : mS) (g a : Nat) : mS := mset (adM m g a) 10 g (nI 2)
section PART
variable {m : mS} {g : Nat}
theorem pm_k {j : Nat} (h1 : j ≠ 5) (h2 : j ≠ 14) : (pM m g).1 j = m.1 j := by unfold pM; rw [clM_ne h1, mset_ne h2]
theorem pm_14 : (pM m g).1 14 g = m.1 7 0 ∧ ∀ x, x ≠ g → (pM m g).1 14 x = m.1 14 x := by
  unfold pM
  rw [clM_ne (by decide)]
  exact ⟨mset_at _ _ _ _, fun x hx => mset_off hx⟩
theorem pm_5 {y : Nat} : (pM m g).1 5 y = -1 ∧ (∃ k, k < nM m g ∧ mb m g k = y) ∨ (pM m g).1 5 y = m.1 5 y ∧ ∀ k, k < nM m g → mb m g k ≠ y := by
  unfold pM
  rw [clM_at]
  have e : ∀ k, atB (mset m 14 g (m.1 7 0)) g y k = atB m g y k := fun k => by unfold atB mb; rw [mset_ne (by decide)]
  rw [fb_ct_cong (q := atB m g y) (fun k _ => e k), mset_ne (by decide)]
  by_cases q : 0 < fb_ct (atB m g y) (nM m g)
  · rw [if_pos q]
    obtain ⟨k, k1, k2⟩ := fb_ct_pos.mp q
    exact Or.inl ⟨rfl, k, k1, of_decide_eq_true k2⟩
  · rw [if_neg q]
    exact Or.inr ⟨rfl, fun k hk z => q (fb_ct_pos.mpr ⟨k, hk, decide_eq_true z⟩)⟩
theorem now_nn (hm : inv m) : ¬ m.1 7 0 < 0 := fun q => by
  have z := t_lt.mp q
  have e0 : ((0 : Int32)).toInt = 0 := by decide
  have := hm.nw
  omega
theorem pm_inv (hm : inv m) (hg : g < nG m) (hp : m.1 14 g < 0) : inv (pM m g) := by
  have ng : nG (pM m g) = nG m := nG_k (pm_k (by decide) (by decide))
  have nm : ∀ x, nM (pM m g) x = nM m x := fun x => nM_k (pm_k (by decide) (by decide))
  have mbe : ∀ x j, mb (pM m g) x j = mb m x j := fun x j => by unfold mb; rw [pm_k (by decide) (by decide)]
  have nl : ∀ b, nL (pM m g) b = nL m b := fun b => nL_k (pm_k (by decide) (by decide))
  have l16 := hm.G.2
  have nn := now_nn hm
  have st : ∀ x, (pM m g).1 14 x < 0 → x ≠ g ∧ m.1 14 x < 0 := fun x hx => by
    by_cases q : x = g
    · rw [q, pm_14.1] at hx; exact absurd hx nn
    · rw [pm_14.2 x q] at hx; exact ⟨q, hx⟩
  refine ⟨iL_k (pm_k (by decide) (by decide)) hm.L, iG_k (pm_k (by decide) (by decide)) hm.G, iMs_k (pm_k (by decide) (by decide)) (pm_k (by decide) (by decide)) (pm_k (by decide) (by decide)) hm.M, fun b hb i hi => ?_, fun b hb i hi => ?_, fun x hx hq => ?_, fun x hx => ?_, fun x hx j hj => ?_, by rw [pm_k (by decide) (by decide)]; exact hm.nw, fun b hb i hi => ?_, fun x hx => ?_, fun b hb i hi => ?_, fun x hx hq j hj => ?_, fun x hx hq => ?_⟩
  · rw [nl] at hi
    unfold fOk
    rw [pm_k (by decide) (by decide), pm_k (by decide) (by decide)]; exact hm.F b hb i hi
  · rw [nl] at hi
    rcases pm_5 (m := m) (g := g) (y := 80 * b + i) with ⟨q, _⟩ | ⟨q, _⟩
    · rw [q]; exact fun _ => rfl
    · rw [q]; exact hm.N b hb i hi
  · rw [ng] at hx
    have z := st x hq
    rw [pm_14.2 x z.1]; exact hm.P x hx z.2
  · rw [ng] at hx
    rw [pm_k (by decide) (by decide)]; exact hm.K x hx
  · rw [ng] at hx
    rw [nm] at hj
    rw [mbe, nl]; exact hm.V x hx j hj
  · rw [nl] at hi
    rw [pm_k (by decide) (by decide), pm_k (by decide) (by decide)]; exact hm.kn b hb i hi
  · rw [ng] at hx
    rw [pm_k (j := 13) (by decide) (by decide), pm_k (j := 7) (by decide) (by decide)]
    have t := hm.T x hx
    by_cases q : x = g
    · rw [q, pm_14.1]; rw [q] at t; exact ⟨t.1, Int.le_refl _⟩
    · rw [pm_14.2 x q]; exact t
  · rw [nl] at hi
    rcases pm_5 (m := m) (g := g) (y := 80 * b + i) with ⟨q, _⟩ | ⟨q, q2⟩
    · exact Or.inl q
    · rw [q]
      rcases hm.J1 b hb i hi with z | ⟨x, j, g1, k1, z1, z2, z3⟩
      · exact Or.inl z
      · have xg : x ≠ g := fun e => by rw [e] at k1 z3; exact q2 j k1 z3
        exact Or.inr ⟨x, j, by rw [ng]; exact g1, by rw [nm]; exact k1, z1, by rw [pm_14.2 x xg]; exact z2, by rw [mbe]; exact z3⟩
  · rw [ng] at hx
    rw [nm] at hj ⊢
    obtain ⟨xg, hq'⟩ := st x hq
    have z := hm.J2 x hx hq' j hj
    rw [mbe]
    refine ⟨?_, fun i hi e => z.2 i hi (by rw [mbe] at e; exact e)⟩
    rcases pm_5 (m := m) (g := g) (y := mb m x j) with ⟨_, k, k1, k2⟩ | ⟨q, _⟩
    · have w := (hm.J2 g hg hp k k1).1
      rw [k2, z.1] at w
      exact absurd (nI_inj (by omega) (by omega) w) xg
    · rw [q]; exact z.1
  · rw [ng] at hx
    rw [nm]
    obtain ⟨xg, hq'⟩ := st x hq
    obtain ⟨⟨k1, a1, a2⟩, k2, b1, b2⟩ := hm.J3 x hx hq'
    exact ⟨⟨k1, a1, by rw [mbe]; exact a2⟩, k2, b1, by rw [mbe]; exact b2⟩
theorem pm_un (hm : inv m) (hg : g < nG m) (hp : m.1 14 g < 0) (u : Int32) : tbOk (pM m g) 3 g ∧ eqv (tbD (pM m g) 3 g u) m := by
  have hi := pm_inv hm hg hp
  have ng : nG (pM m g) = nG m := nG_k (pm_k (by decide) (by decide))
  have nm : ∀ x, nM (pM m g) x = nM m x := fun x => nM_k (pm_k (by decide) (by decide))
  refine ⟨⟨by decide, fun q => absurd q (by decide), fun _ => ⟨by rw [ng]; exact hg, hi.M g (by rw [ng]; exact hg)⟩, fun q => absurd q (by decide)⟩, ?_⟩
  have et : tbD (pM m g) 3 g u = clM (mset (pM m g) 14 g (-1)) g (nI g) (nM m g) := by
    unfold tbD
    rw [if_neg (by decide), if_neg (by decide), if_neg (by decide), if_pos rfl, nm]
  rw [et]
  have k : ∀ j, j ≠ 5 → j ≠ 14 → (clM (mset (pM m g) 14 g (-1)) g (nI g) (nM m g)).1 j = m.1 j := fun j a1 a2 => by rw [clM_ne a1, mset_ne a2, pm_k a1 a2]
  have k14 : ∀ x, x < nG m → (clM (mset (pM m g) 14 g (-1)) g (nI g) (nM m g)).1 14 x = m.1 14 x := fun x hx => by
    rw [clM_ne (by decide)]
    by_cases q : x = g
    · rw [q, mset_at]; exact (hm.P g hg hp).symm
    · rw [mset_off q, pm_14.2 x q]
  refine ⟨fun b _ => by rw [k 6 (by decide) (by decide)], by rw [k 7 (by decide) (by decide)], by rw [k 8 (by decide) (by decide)], by rw [k 9 (by decide) (by decide)], by rw [k 16 (by decide) (by decide)], fun j hj b hb i hi' => ?_, fun x hx => ?_, fun x hx j hj => by rw [k 11 (by decide) (by decide)]⟩
  · by_cases q : j = 5
    · subst q
      rw [clM_at]
      have e : ∀ y k, atB (mset (pM m g) 14 g (-1)) g y k = atB m g y k := fun y k => by unfold atB mb; rw [mset_ne (by decide), pm_k (by decide) (by decide)]
      rw [fb_ct_cong (q := atB m g (80 * b + i)) (fun k _ => e _ k), mset_ne (by decide)]
      rcases pm_5 (m := m) (g := g) (y := 80 * b + i) with ⟨_, x, x1, x2⟩ | ⟨q1, q2⟩
      · rw [if_pos (fb_ct_pos.mpr ⟨x, x1, decide_eq_true x2⟩), ← x2]
        exact (hm.J2 g hg hp x x1).1.symm
      · rw [if_neg (fun z => by
          obtain ⟨x, x1, x2⟩ := fb_ct_pos.mp z
          exact q2 x x1 (of_decide_eq_true x2)), q1]
    · rw [k j q (by omega)]
  · rw [k 10 (by decide) (by decide), k 12 (by decide) (by decide), k 13 (by decide) (by decide), k14 x hx, k 15 (by decide) (by decide)]
    exact ⟨rfl, rfl, rfl, rfl, rfl⟩
theorem pm_eqv {d : mS} (h : eqv d m) (hg : g < nG m) : eqv (pM d g) (pM m g) := by
  have e : eqv (mset d 14 g (d.1 7 0)) (mset m 14 g (m.1 7 0)) := by rw [h.n]; exact gs_eqv h (by omega)
  have c := cl_eqv e (g := g) (v := -1) (by rw [nG_k (mset_ne (by decide))]; exact hg)
  rw [nM_k (d := d) (mset_ne (by decide)), nM_k (d := m) (mset_ne (by decide))] at c
  exact c
end PART
section JOIN2
variable {m : mS} {g a : Nat}
theorem jm_k {j : Nat} (h : j ≠ 5 ∧ j ≠ 10 ∧ j ≠ 11 ∧ j ≠ 12) : (jM m g a).1 j = m.1 j := by
  unfold jM adM
  rw [mset_ne (by omega), mset_ne (by omega), mset_ne (by omega), mset_ne (by omega)]
theorem jm_5 : (jM m g a).1 5 a = nI g ∧ ∀ y, y ≠ a → (jM m g a).1 5 y = m.1 5 y := by
  unfold jM adM
  refine ⟨by rw [mset_ne (by decide), mset_at], fun y hy => ?_⟩
  rw [mset_ne (by decide), mset_off hy, mset_ne (by decide), mset_ne (by decide)]
theorem jm_12 (h8 : nM m g < 8) : nM (jM m g a) g = nM m g + 1 ∧ (jM m g a).1 12 g = nI (nM m g + 1) ∧ ∀ x, x ≠ g → (jM m g a).1 12 x = m.1 12 x := by
  have e : (jM m g a).1 12 g = nI (nM m g + 1) := by
    unfold jM adM
    rw [mset_ne (by decide), mset_ne (by decide), mset_at]
  refine ⟨by show nv ((jM m g a).1 12 g) = _; rw [e]; exact nv_nI (by omega), e, fun x hx => ?_⟩
  unfold jM adM
  rw [mset_ne (by decide), mset_ne (by decide), mset_off hx, mset_ne (by decide)]
theorem jm_11 : (jM m g a).1 11 (8 * g + nM m g) = nI a ∧ ∀ x, x ≠ 8 * g + nM m g → (jM m g a).1 11 x = m.1 11 x := by
  unfold jM adM
  refine ⟨by rw [mset_ne (by decide), mset_ne (by decide), mset_ne (by decide), mset_at], fun x hx => ?_⟩
  rw [mset_ne (by decide), mset_ne (by decide), mset_ne (by decide), mset_off hx]
theorem jm_10 : (jM m g a).1 10 g = nI 2 ∧ ∀ x, x ≠ g → (jM m g a).1 10 x = m.1 10 x := by
  unfold jM adM
  refine ⟨mset_at _ _ _ _, fun x hx => ?_⟩
  rw [mset_off hx, mset_ne (by decide), mset_ne (by decide), mset_ne (by decide)]
theorem jm_nM (h8 : nM m g < 8) (x : Nat) : nM (jM m g a) x = if x = g then nM m g + 1 else nM m x := by
  by_cases q : x = g
  · rw [q, if_pos rfl]; exact (jm_12 h8).1
  · rw [if_neg q]; unfold nM; rw [(jm_12 h8).2.2 x q]
theorem jm_mb (hm : inv m) (h8 : nM m g < 8) {x k : Nat} (hx : x < nG m) (hk : k < nM m x) : mb (jM m g a) x k = mb m x k := by
  have l8 := (hm.M x hx).2.1
  unfold mb
  rw [jm_11.2 _ (by
    intro e
    have : x = g := by omega
    subst this
    omega)]
theorem jm_mbn (ha : a < 160) : mb (jM m g a) g (nM m g) = a := by
  unfold mb
  rw [jm_11.1]; exact nv_nI (by omega)
theorem jm_inv (hm : inv m) (hg : g < nG m) (hp : m.1 14 g < 0) (h8 : nM m g < 8) (ha : a < 160 ∧ a % 80 < nL m (a / 80)) (h5 : m.1 5 a = -1) : inv (jM m g a) := by
  have k : ∀ j, j < 10 → j ≠ 5 → (jM m g a).1 j = m.1 j := fun j h1 h2 => jm_k (by omega)
  have k2 : ∀ j, 13 ≤ j → (jM m g a).1 j = m.1 j := fun j h1 => jm_k (by omega)
  have ng : nG (jM m g a) = nG m := nG_k (k2 16 (by decide))
  have nl : ∀ b, nL (jM m g a) b = nL m b := fun b => nL_k (k 6 (by decide) (by decide))
  have nm := jm_nM (m := m) (g := g) (a := a) h8
  have l16 := hm.G.2
  have old : ∀ x, x < nG m → m.1 14 x < 0 → ∀ j, j < nM m x → mb m x j ≠ a := fun x hx hq j hj e => by
    have z := (hm.J2 x hx hq j hj).1
    rw [e, h5] at z
    exact nIm1 (by omega) z.symm
  have cs : ∀ x j, j < nM (jM m g a) x → (x = g ∧ j = nM m g) ∨ j < nM m x := fun x j hj => by
    rw [nm] at hj
    by_cases q : x = g
    · rw [if_pos q] at hj
      rcases Nat.lt_or_ge j (nM m g) with z | z
      · right; rw [q]; exact z
      · left; exact ⟨q, by omega⟩
    · rw [if_neg q] at hj; exact Or.inr hj
  have nle : ∀ x, nM m x ≤ nM (jM m g a) x := fun x => by
    rw [nm]
    by_cases q : x = g
    · rw [if_pos q, q]; omega
    · rw [if_neg q]; exact Nat.le_refl _
  refine ⟨iL_k (k 6 (by decide) (by decide)) hm.L, iG_k (k2 16 (by decide)) hm.G, fun x hx => ?_, fun b hb i hi => ?_, fun b hb i hi => ?_, dP_k (k2 14 (by decide)) (k2 16 (by decide)) hm.P, fun x hx => ?_, fun x hx j hj => ?_, by rw [k 7 (by decide) (by decide)]; exact hm.nw, fun b hb i hi => ?_, fun x hx => ?_, fun b hb i hi => ?_, fun x hx hq j hj => ?_, fun x hx hq => ?_⟩
  · rw [ng] at hx
    obtain ⟨i1, i2, i3⟩ := hm.M x hx
    refine ⟨?_, ?_, fun j hj => ?_⟩
    · rw [nm]
      by_cases q : x = g
      · rw [if_pos q, q]; exact (jm_12 h8).2.1
      · rw [if_neg q, (jm_12 h8).2.2 x q]; exact i1
    · rw [nm]
      by_cases q : x = g
      · rw [if_pos q]; omega
      · rw [if_neg q]; exact i2
    · rcases cs x j hj with ⟨q1, q2⟩ | q
      · rw [q1, q2, jm_mbn ha.1]; exact ⟨jm_11.1, ha.1⟩
      · rw [jm_mb hm h8 hx q, jm_11.2 _ (by
          intro e
          have : x = g := by omega
          subst this
          omega)]
        exact i3 j q
  · rw [nl] at hi
    unfold fOk
    rw [k 0 (by decide) (by decide), k 1 (by decide) (by decide)]; exact hm.F b hb i hi
  · rw [nl] at hi
    by_cases q : 80 * b + i = a
    · rw [q, jm_5.1]; exact fun z => absurd z (nI_nn (by omega))
    · rw [jm_5.2 _ q]; exact hm.N b hb i hi
  · rw [ng] at hx
    rw [k2 15 (by decide)]; exact hm.K x hx
  · rw [ng] at hx
    rw [nl]
    rcases cs x j hj with ⟨q1, q2⟩ | q
    · rw [q1, q2, jm_mbn ha.1]; exact ha
    · rw [jm_mb hm h8 hx q]; exact hm.V x hx j q
  · rw [nl] at hi
    rw [k 4 (by decide) (by decide), k 7 (by decide) (by decide)]; exact hm.kn b hb i hi
  · rw [ng] at hx
    rw [k2 13 (by decide), k2 14 (by decide), k 7 (by decide) (by decide)]; exact hm.T x hx
  · rw [nl] at hi
    by_cases q : 80 * b + i = a
    · exact Or.inr ⟨g, nM m g, by rw [ng]; exact hg, by rw [nm, if_pos rfl]; omega, by rw [q]; exact jm_5.1, by rw [k2 14 (by decide)]; exact hp, by rw [jm_mbn ha.1]; exact q.symm⟩
    · rw [jm_5.2 _ q]
      rcases hm.J1 b hb i hi with z | ⟨x, j, g1, k1, z1, z2, z3⟩
      · exact Or.inl z
      · exact Or.inr ⟨x, j, by rw [ng]; exact g1, by have := nle x; omega, z1, by rw [k2 14 (by decide)]; exact z2, by rw [jm_mb hm h8 g1 k1]; exact z3⟩
  · rw [ng] at hx
    rw [k2 14 (by decide)] at hq
    rcases cs x j hj with ⟨q1, q2⟩ | q
    · subst q1
      subst q2
      rw [jm_mbn ha.1]
      refine ⟨jm_5.1, fun i hi e => ?_⟩
      rcases cs x i hi with ⟨_, w⟩ | w
      · exact w
      · rw [jm_mb hm h8 hx w] at e
        exact absurd e (old x hx hq i w)
    · rw [jm_mb hm h8 hx q, jm_5.2 _ (old x hx hq j q)]
      refine ⟨(hm.J2 x hx hq j q).1, fun i hi e => ?_⟩
      rcases cs x i hi with ⟨w1, w2⟩ | w
      · subst w1
        rw [w2, jm_mbn ha.1] at e
        exact absurd e.symm (old x hx hq j q)
      · rw [jm_mb hm h8 hx w] at e
        exact (hm.J2 x hx hq j q).2 i w e
  · rw [ng] at hx
    rw [k2 14 (by decide)] at hq
    obtain ⟨⟨k1, a1, a2⟩, k3, b1, b2⟩ := hm.J3 x hx hq
    have := nle x
    exact ⟨⟨k1, by omega, by rw [jm_mb hm h8 hx a1]; exact a2⟩, k3, by omega, by rw [jm_mb hm h8 hx b1]; exact b2⟩
theorem jm_un (hm : inv m) (hg : g < nG m) (hp : m.1 14 g < 0) (h8 : nM m g < 8) (ha : a < 160 ∧ a % 80 < nL m (a / 80)) (h5 : m.1 5 a = -1) : tbOk (jM m g a) 2 g ∧ eqv (tbD (jM m g a) 2 g (m.1 10 g)) m := by
  have hi := jm_inv hm hg hp h8 ha h5
  have n12 := jm_12 (m := m) (g := g) (a := a) h8
  have ng : nG (jM m g a) = nG m := nG_k (jm_k (by decide))
  refine ⟨⟨by decide, fun q => absurd q (by decide), fun _ => ⟨by rw [ng]; exact hg, hi.M g (by rw [ng]; exact hg)⟩, fun _ => by rw [n12.1]; omega⟩, ?_⟩
  have et : tbD (jM m g a) 2 g (m.1 10 g) = mset (mset (mset (jM m g a) 12 g (nI (nM m g))) 5 a (-1)) 10 g (m.1 10 g) := by
    unfold tbD drD
    rw [if_neg (by decide), if_neg (by decide), if_pos rfl, n12.1, Nat.add_sub_cancel, jm_mbn ha.1]
  rw [et]
  have k : ∀ j, j ≠ 5 → j ≠ 10 → j ≠ 11 → j ≠ 12 → (mset (mset (mset (jM m g a) 12 g (nI (nM m g))) 5 a (-1)) 10 g (m.1 10 g)).1 j = m.1 j := fun j b1 b2 b3 b4 => by
    rw [mset_ne b2, mset_ne b1, mset_ne b4, jm_k ⟨b1, b2, b3, b4⟩]
  refine ⟨fun b _ => by rw [k 6 (by decide) (by decide) (by decide) (by decide)], by rw [k 7 (by decide) (by decide) (by decide) (by decide)], by rw [k 8 (by decide) (by decide) (by decide) (by decide)], by rw [k 9 (by decide) (by decide) (by decide) (by decide)], by rw [k 16 (by decide) (by decide) (by decide) (by decide)], fun j hj b hb i hi' => ?_, fun x hx => ?_, fun x hx j hj => ?_⟩
  · by_cases q : j = 5
    · subst q
      rw [mset_ne (by decide)]
      by_cases z : 80 * b + i = a
      · rw [z, mset_at]; exact h5.symm
      · rw [mset_off z, mset_ne (by decide), jm_5.2 _ z]
    · rw [k j q (by omega) (by omega) (by omega)]
  · rw [k 13 (by decide) (by decide) (by decide) (by decide), k 14 (by decide) (by decide) (by decide) (by decide), k 15 (by decide) (by decide) (by decide) (by decide)]
    refine ⟨?_, ?_, rfl, rfl, rfl⟩
    · by_cases q : x = g
      · rw [q, mset_at]
      · rw [mset_off q, mset_ne (by decide), mset_ne (by decide), jm_10.2 x q]
    · rw [mset_ne (by decide), mset_ne (by decide)]
      by_cases q : x = g
      · rw [q, mset_at]; exact (hm.M g hg).1.symm
      · rw [mset_off q, n12.2.2 x q]
  · have l8 := (hm.M x hx).2.1
    rw [mset_ne (by decide), mset_ne (by decide), mset_ne (by decide), jm_11.2 _ (by
      intro e
      have : x = g := by omega
      subst this
      omega)]
theorem jm_eqv {d : mS} (h : eqv d m) (hm : inv m) (hg : g < nG m) (h8 : nM m g < 8) : eqv (jM d g a) (jM m g a) := by
  have nd : nM d g = nM m g := q_nM h hg
  have ng : nG (jM m g a) = nG m := nG_k (jm_k (by decide))
  have nl : ∀ b, nL (jM m g a) b = nL m b := fun b => nL_k (jm_k (by decide))
  have d12 := jm_12 (m := d) (g := g) (a := a) (by omega)
  have m12 := jm_12 (m := m) (g := g) (a := a) h8
  have d11 := jm_11 (m := d) (g := g) (a := a)
  have m11 := jm_11 (m := m) (g := g) (a := a)
  rw [nd] at d11
  refine ⟨fun b hb => by rw [jm_k (by decide), jm_k (by decide)]; exact h.l b hb, by rw [jm_k (by decide), jm_k (by decide)]; exact h.n, by rw [jm_k (by decide), jm_k (by decide)]; exact h.s, by rw [jm_k (by decide), jm_k (by decide)]; exact h.c, by rw [jm_k (by decide), jm_k (by decide)]; exact h.g, fun j hj b hb i hi => ?_, fun x hx => ?_, fun x hx j hj => ?_⟩
  · rw [nl] at hi
    by_cases q : j = 5
    · subst q
      by_cases z : 80 * b + i = a
      · rw [z, jm_5.1, jm_5.1]
      · rw [jm_5.2 _ z, jm_5.2 _ z]; exact h.a 5 (by decide) b hb i hi
    · rw [jm_k (by omega), jm_k (by omega)]; exact h.a j hj b hb i hi
  · rw [ng] at hx
    have r := h.r x hx
    simp only [jm_k (m := d) (g := g) (a := a) (j := 13) (by decide), jm_k (m := d) (g := g) (a := a) (j := 14) (by decide), jm_k (m := d) (g := g) (a := a) (j := 15) (by decide), jm_k (m := m) (g := g) (a := a) (j := 13) (by decide), jm_k (m := m) (g := g) (a := a) (j := 14) (by decide), jm_k (m := m) (g := g) (a := a) (j := 15) (by decide)]
    refine ⟨?_, ?_, r.2.2.1, r.2.2.2.1, r.2.2.2.2⟩
    · by_cases q : x = g
      · rw [q, jm_10.1, jm_10.1]
      · rw [jm_10.2 x q, jm_10.2 x q]; exact r.1
    · by_cases q : x = g
      · rw [q, d12.2.1, m12.2.1, nd]
      · rw [d12.2.2 x q, m12.2.2 x q]; exact r.2.1
  · rw [ng] at hx
    rw [jm_nM h8] at hj
    by_cases q : 8 * x + j = 8 * g + nM m g
    · rw [q, d11.1, m11.1]
    · rw [d11.2 _ q, m11.2 _ q]
      refine h.m x hx j ?_
      by_cases z : x = g
      · rw [if_pos z] at hj
        rw [z] at q ⊢
        omega
      · rw [if_neg z] at hj; exact hj
end JOIN2
