/-! ===== the relation, 2: what holds of every desk, and what undoing does ===== -/
abbrev inv (m : mS) : Prop := (iL m) ∧ (iG m) ∧ (iMs m) ∧ (iF m) ∧ (dN m) ∧ (dP m) ∧ (iK m) ∧ (iV m) ∧ (0 ≤ (m.1 7 0).toInt ∧ (m.1 7 0).toInt ≤ 99999) ∧ (∀ b, b < 2 → ∀ i, i < nL m b → 0 ≤ (m.1 4 (80 * b + i)).toInt ∧ (m.1 4 (80 * b + i)).toInt ≤ (m.1 7 0).toInt) ∧ (∀ g, g < nG m → (m.1 13 g).toInt ≤ (m.1 7 0).toInt ∧ (m.1 14 g).toInt ≤ (m.1 7 0).toInt) ∧ (∀ b, b < 2 → ∀ i, i < nL m b → m.1 5 (80 * b + i) = -1 ∨ ∃ g k, g < nG m ∧ k < nM m g ∧ m.1 5 (80 * b + i) = nI g ∧ m.1 14 g < 0 ∧ mb m g k = 80 * b + i) ∧ (∀ g, g < nG m → m.1 14 g < 0 → ∀ k, k < nM m g → m.1 5 (mb m g k) = nI g ∧ ∀ j, j < nM m g → mb m g j = mb m g k → j = k) ∧ (∀ g, g < nG m → m.1 14 g < 0 → (∃ k, k < nM m g ∧ mb m g k < 80) ∧ ∃ k, k < nM m g ∧ 80 ≤ mb m g k)
theorem inv.L {m : mS} (h_ : inv m) : iL m := h_.1
theorem inv.G {m : mS} (h_ : inv m) : iG m := h_.2.1
theorem inv.M {m : mS} (h_ : inv m) : iMs m := h_.2.2.1
theorem inv.F {m : mS} (h_ : inv m) : iF m := h_.2.2.2.1
theorem inv.N {m : mS} (h_ : inv m) : dN m := h_.2.2.2.2.1
theorem inv.P {m : mS} (h_ : inv m) : dP m := h_.2.2.2.2.2.1
theorem inv.K {m : mS} (h_ : inv m) : iK m := h_.2.2.2.2.2.2.1
theorem inv.V {m : mS} (h_ : inv m) : iV m := h_.2.2.2.2.2.2.2.1
theorem inv.nw {m : mS} (h_ : inv m) : 0 ≤ (m.1 7 0).toInt ∧ (m.1 7 0).toInt ≤ 99999 := h_.2.2.2.2.2.2.2.2.1
theorem inv.kn {m : mS} (h_ : inv m) : ∀ b, b < 2 → ∀ i, i < nL m b → 0 ≤ (m.1 4 (80 * b + i)).toInt ∧ (m.1 4 (80 * b + i)).toInt ≤ (m.1 7 0).toInt := h_.2.2.2.2.2.2.2.2.2.1
theorem inv.T {m : mS} (h_ : inv m) : ∀ g, g < nG m → (m.1 13 g).toInt ≤ (m.1 7 0).toInt ∧ (m.1 14 g).toInt ≤ (m.1 7 0).toInt := h_.2.2.2.2.2.2.2.2.2.2.1
theorem inv.J1 {m : mS} (h_ : inv m) : ∀ b, b < 2 → ∀ i, i < nL m b → m.1 5 (80 * b + i) = -1 ∨ ∃ g k, g < nG m ∧ k < nM m g ∧ m.1 5 (80 * b + i) = nI g ∧ m.1 14 g < 0 ∧ mb m g k = 80 * b + i := h_.2.2.2.2.2.2.2.2.2.2.2.1
theorem inv.J2 {m : mS} (h_ : inv m) : ∀ g, g < nG m → m.1 14 g < 0 → ∀ k, k < nM m g → m.1 5 (mb m g k) = nI g ∧ ∀ j, j < nM m g → mb m g j = mb m g k → j = k := h_.2.2.2.2.2.2.2.2.2.2.2.2.1
theorem inv.J3 {m : mS} (h_ : inv m) : ∀ g, g < nG m → m.1 14 g < 0 → (∃ k, k < nM m g ∧ mb m g k < 80) ∧ ∃ k, k < nM m g ∧ 80 ≤ mb m g k := h_.2.2.2.2.2.2.2.2.2.2.2.2.2
theorem inv_eqv {d m : mS} (h : eqv d m) (i : inv m) : inv d := by
  have hM := i.M
  have hV := i.V
  refine ⟨q_iL h i.L, q_iG h i.G, q_iMs h i.M, q_iF h i.F, q_dN h i.N, q_dP h i.P, q_iK h i.K, q_iV h i.V, by rw [h.n]; exact i.nw, fun b hb x hx => ?_, fun g hg => ?_, fun b hb x hx => ?_, fun g hg hp k hk => ?_, fun g hg hp => ?_⟩
  · rw [q_nL h hb] at hx
    rw [h.n, h.a 4 (by decide) b hb x hx]; exact i.kn b hb x hx
  · rw [q_nG h] at hg
    rw [h.n, (h.r g hg).2.2.1, (h.r g hg).2.2.2.1]; exact i.T g hg
  · rw [q_nL h hb] at hx
    rw [h.a 5 (by decide) b hb x hx]
    rcases i.J1 b hb x hx with q | ⟨g, k, g1, k1, q1, q2, q3⟩
    · exact Or.inl q
    · exact Or.inr ⟨g, k, by rw [q_nG h]; exact g1, by rw [q_nM h g1]; exact k1, q1, by rw [(h.r g g1).2.2.2.1]; exact q2, by rw [q_mb h g1 k1]; exact q3⟩
  · rw [q_nG h] at hg
    rw [q_nM h hg] at hk ⊢
    rw [(h.r g hg).2.2.2.1] at hp
    have z := i.J2 g hg hp k hk
    have v := hV g hg k hk
    rw [q_mb h hg hk, q_at h (by decide) v.1 v.2]
    exact ⟨z.1, fun j hj e => z.2 j hj (by rw [q_mb h hg hj] at e; exact e)⟩
  · rw [q_nG h] at hg
    rw [(h.r g hg).2.2.2.1] at hp
    rw [q_nM h hg]
    obtain ⟨⟨k1, a1, a2⟩, k2, b1, b2⟩ := i.J3 g hg hp
    exact ⟨⟨k1, a1, by rw [q_mb h hg a1]; exact a2⟩, k2, b1, by rw [q_mb h hg b1]; exact b2⟩
theorem clM_at {m : mS} {g : Nat} {v : Int32} {a : Nat} : ∀ n, (clM m g v n).1 5 a = if 0 < fb_ct (atB m g a) n then v else m.1 5 a
  | 0 => (if_neg (Nat.lt_irrefl 0)).symm
  | n + 1 => by
    have ih := clM_at (m := m) (g := g) (v := v) (a := a) n
    show (mset (clM m g v n) 5 (mb m g n) v).1 5 a = _
    rw [fb_ct_succ]
    by_cases q : mb m g n = a
    · have e : atB m g a n = true := decide_eq_true q
      rw [q, mset_at, if_pos (show 0 < fb_ct (atB m g a) n + (if atB m g a n = true then 1 else 0) by rw [if_pos e]; omega)]
    · have e : atB m g a n = false := decide_eq_false q
      rw [mset_off (fun z => q z.symm), ih]
      have e2 : (if atB m g a n = true then 1 else 0) = 0 := if_neg (by rw [e]; exact Bool.false_ne_true)
      rw [e2, Nat.add_zero]
theorem q_atB {d m : mS} (h : eqv d m) {g a : Nat} (hg : g < nG m) : fb_ct (atB d g a) (nM d g) = fb_ct (atB m g a) (nM m g) := by
  rw [q_nM h hg]
  exact fb_ct_cong (fun k hk => by unfold atB; rw [q_mb h hg hk])
/-- claimed lines -/
theorem cl_eqv {d m : mS} (h : eqv d m) {g : Nat} {v : Int32} (hg : g < nG m) : eqv (clM d g v (nM d g)) (clM m g v (nM m g)) := by
  have kd : ∀ j, j ≠ 5 → (clM d g v (nM d g)).1 j = d.1 j := fun j hj => clM_ne hj _
  have km : ∀ j, j ≠ 5 → (clM m g v (nM m g)).1 j = m.1 j := fun j hj => clM_ne hj _
  have nl : ∀ b, nL (clM m g v (nM m g)) b = nL m b := fun b => nL_k (km 6 (by decide))
  have ng : nG (clM m g v (nM m g)) = nG m := nG_k (km 16 (by decide))
  have nm : ∀ x, nM (clM m g v (nM m g)) x = nM m x := fun x => nM_k (km 12 (by decide))
  refine ⟨fun b hb => by rw [kd 6 (by decide), km 6 (by decide)]; exact h.l b hb, by rw [kd 7 (by decide), km 7 (by decide)]; exact h.n, by rw [kd 8 (by decide), km 8 (by decide)]; exact h.s, by rw [kd 9 (by decide), km 9 (by decide)]; exact h.c, by rw [kd 16 (by decide), km 16 (by decide)]; exact h.g, fun k hk b hb i hi => ?_, fun x hx => ?_, fun x hx k hk => ?_⟩
  · rw [nl] at hi
    by_cases q : k = 5
    · subst q
      rw [clM_at, clM_at, q_atB h hg, h.a 5 (by decide) b hb i hi]
    · rw [kd k q, km k q]; exact h.a k hk b hb i hi
  · rw [ng] at hx
    rw [kd 10 (by decide), kd 12 (by decide), kd 13 (by decide), kd 14 (by decide), kd 15 (by decide), km 10 (by decide), km 12 (by decide), km 13 (by decide), km 14 (by decide), km 15 (by decide)]
    exact h.r x hx
  · rw [ng] at hx
    rw [nm] at hk
    rw [kd 11 (by decide), km 11 (by decide)]; exact h.m x hx k hk
/-- a field of a group, the same on both sides -/
theorem gs_eqv {d m : mS} (h : eqv d m) {k g : Nat} {v : Int32} (hk : k = 10 ∨ k = 13 ∨ k = 14 ∨ k = 15) : eqv (mset d k g v) (mset m k g v) := by
  have kd : ∀ j, j ≠ k → (mset d k g v).1 j = d.1 j := fun j hj => mset_ne hj
  have km : ∀ j, j ≠ k → (mset m k g v).1 j = m.1 j := fun j hj => mset_ne hj
  have nl : ∀ b, nL (mset m k g v) b = nL m b := fun b => nL_k (km 6 (by omega))
  have ng : nG (mset m k g v) = nG m := nG_k (km 16 (by omega))
  have nm : ∀ x, nM (mset m k g v) x = nM m x := fun x => nM_k (km 12 (by omega))
  have pt : ∀ j x, d.1 j x = m.1 j x → (mset d k g v).1 j x = (mset m k g v).1 j x := fun j x e => by
    by_cases q : j = k
    · subst q
      by_cases z : x = g
      · subst z; rw [mset_at, mset_at]
      · rw [mset_off z, mset_off z]; exact e
    · rw [kd j q, km j q]; exact e
  refine ⟨fun b hb => pt 6 b (h.l b hb), pt 7 0 h.n, pt 8 0 h.s, pt 9 0 h.c, pt 16 0 h.g, fun j hj b hb i hi => pt j _ (h.a j hj b hb i (by rw [← nl]; exact hi)), fun x hx => ?_, fun x hx j hj => pt 11 _ (h.m x (by rw [← ng]; exact hx) j (by rw [← nm]; exact hj))⟩
  rw [ng] at hx
  have r := h.r x hx
  exact ⟨pt 10 x r.1, pt 12 x r.2.1, pt 13 x r.2.2.1, pt 14 x r.2.2.2.1, pt 15 x r.2.2.2.2⟩
theorem tbOk_eqv {d m : mS} {k O : Nat} (h : eqv d m) (hM : iMs m) (ht : tbOk m k O) : tbOk d k O := by
  obtain ⟨t1, t2, t3, t4⟩ := ht
  have t3' : k ≠ 0 → O < nG d ∧ iMb d O := fun q => by
    have z := t3 q
    exact ⟨by rw [q_nG h]; exact z.1, q_iMs h hM O (by rw [q_nG h]; exact z.1)⟩
  exact ⟨t1, fun q => ⟨(t2 q).1, by rw [q_nL h (t2 q).1]; exact (t2 q).2⟩, t3', fun q => by rw [q_nM h (t3 (by omega)).1]; exact t4 q⟩
/-- undoing keeps what is the same -/
theorem tb_eqv {d m : mS} {k O : Nat} {w : Int32} (h : eqv d m) (hi : inv m) (ht : tbOk m k O) : eqv (tbD d k O w) (tbD m k O w) := by
  obtain ⟨t1, t2, t3, t4⟩ := ht
  unfold tbD
  by_cases k0 : k = 0
  · rw [if_pos k0, if_pos k0]
    obtain ⟨o1, o2⟩ := t2 k0
    have e6 := hi.L O o1
    have kd : ∀ j, j ≠ 6 → (mset d 6 O (nI (nL d O - 1))).1 j = d.1 j := fun j hj => mset_ne hj
    have km : ∀ j, j ≠ 6 → (mset m 6 O (nI (nL m O - 1))).1 j = m.1 j := fun j hj => mset_ne hj
    have nl : ∀ b, nL (mset m 6 O (nI (nL m O - 1))) b ≤ nL m b := fun b => by
      show nv ((mset m 6 O (nI (nL m O - 1))).1 6 b) ≤ _
      by_cases q : b = O
      · rw [q, mset_at, nv_nI (by omega)]; omega
      · rw [mset_off q]; exact Nat.le_refl _
    have ng : nG (mset m 6 O (nI (nL m O - 1))) = nG m := nG_k (km 16 (by decide))
    have nm : ∀ x, nM (mset m 6 O (nI (nL m O - 1))) x = nM m x := fun x => nM_k (km 12 (by decide))
    refine ⟨fun b hb => ?_, by rw [kd 7 (by decide), km 7 (by decide)]; exact h.n, by rw [kd 8 (by decide), km 8 (by decide)]; exact h.s, by rw [kd 9 (by decide), km 9 (by decide)]; exact h.c, by rw [kd 16 (by decide), km 16 (by decide)]; exact h.g, fun j hj b hb i hi' => ?_, fun x hx => ?_, fun x hx j hj => ?_⟩
    · by_cases q : b = O
      · rw [q, mset_at, mset_at, q_nL h o1]
      · rw [mset_off q, mset_off q]; exact h.l b hb
    · have := nl b
      rw [kd j (by omega), km j (by omega)]; exact h.a j hj b hb i (by omega)
    · rw [ng] at hx
      rw [kd 10 (by decide), kd 12 (by decide), kd 13 (by decide), kd 14 (by decide), kd 15 (by decide), km 10 (by decide), km 12 (by decide), km 13 (by decide), km 14 (by decide), km 15 (by decide)]
      exact h.r x hx
    · rw [ng] at hx
      rw [nm] at hj
      rw [kd 11 (by decide), km 11 (by decide)]; exact h.m x hx j hj
  · rw [if_neg k0, if_neg k0]
    obtain ⟨o1, o2⟩ := t3 k0
    have l16 := hi.G.2
    by_cases k1 : k = 1
    · rw [if_pos k1, if_pos k1]
      have c := cl_eqv h (v := -1) o1
      have kd : ∀ j, j ≠ 16 → (mset (clM d O (-1) (nM d O)) 16 0 (nI (nG d - 1))).1 j = (clM d O (-1) (nM d O)).1 j := fun j hj => mset_ne hj
      have km : ∀ j, j ≠ 16 → (mset (clM m O (-1) (nM m O)) 16 0 (nI (nG m - 1))).1 j = (clM m O (-1) (nM m O)).1 j := fun j hj => mset_ne hj
      have nl : ∀ b, nL (mset (clM m O (-1) (nM m O)) 16 0 (nI (nG m - 1))) b = nL (clM m O (-1) (nM m O)) b := fun b => nL_k (km 6 (by decide))
      have ng : nG (mset (clM m O (-1) (nM m O)) 16 0 (nI (nG m - 1))) = nG m - 1 := by
        show nv ((mset (clM m O (-1) (nM m O)) 16 0 (nI (nG m - 1))).1 16 0) = _
        rw [mset_at]; exact nv_nI (by omega)
      have ng2 : nG (clM m O (-1) (nM m O)) = nG m := nG_k (clM_ne (by decide) _)
      have nm : ∀ x, nM (mset (clM m O (-1) (nM m O)) 16 0 (nI (nG m - 1))) x = nM (clM m O (-1) (nM m O)) x := fun x => nM_k (km 12 (by decide))
      refine ⟨fun b hb => by rw [kd 6 (by decide), km 6 (by decide)]; exact c.l b hb, by rw [kd 7 (by decide), km 7 (by decide)]; exact c.n, by rw [kd 8 (by decide), km 8 (by decide)]; exact c.s, by rw [kd 9 (by decide), km 9 (by decide)]; exact c.c, by rw [mset_at, mset_at, q_nG h], fun j hj b hb i hi' => ?_, fun x hx => ?_, fun x hx j hj => ?_⟩
      · rw [nl] at hi'
        rw [kd j (by omega), km j (by omega)]; exact c.a j hj b hb i hi'
      · rw [ng] at hx
        rw [kd 10 (by decide), kd 12 (by decide), kd 13 (by decide), kd 14 (by decide), kd 15 (by decide), km 10 (by decide), km 12 (by decide), km 13 (by decide), km 14 (by decide), km 15 (by decide)]
        exact c.r x (by rw [ng2]; omega)
      · rw [ng] at hx
        rw [nm] at hj
        rw [kd 11 (by decide), km 11 (by decide)]; exact c.m x (by rw [ng2]; omega) j hj
    · rw [if_neg k1, if_neg k1]
      by_cases k2 : k = 2
      · rw [if_pos k2, if_pos k2]
        have n1 := t4 k2
        have ndm : nM d O = nM m O := q_nM h o1
        have mbe : mb d O (nM m O - 1) = mb m O (nM m O - 1) := q_mb h o1 (by omega)
        have l8 := o2.2.1
        have e : eqv (drD d O) (drD m O) := by
          unfold drD
          rw [ndm, mbe]
          have pt : ∀ j x, d.1 j x = m.1 j x → (mset (mset d 12 O (nI (nM m O - 1))) 5 (mb m O (nM m O - 1)) (-1)).1 j x = (mset (mset m 12 O (nI (nM m O - 1))) 5 (mb m O (nM m O - 1)) (-1)).1 j x := fun j x ex => by
            by_cases q : j = 5
            · subst q
              by_cases z : x = mb m O (nM m O - 1)
              · rw [z, mset_at, mset_at]
              · rw [mset_off z, mset_off z, mset_ne (by decide), mset_ne (by decide)]; exact ex
            · rw [mset_ne q, mset_ne q]
              by_cases q2 : j = 12
              · subst q2
                by_cases z : x = O
                · rw [z, mset_at, mset_at]
                · rw [mset_off z, mset_off z]; exact ex
              · rw [mset_ne q2, mset_ne q2]; exact ex
          have km : ∀ j, j ≠ 5 → j ≠ 12 → (mset (mset m 12 O (nI (nM m O - 1))) 5 (mb m O (nM m O - 1)) (-1)).1 j = m.1 j := fun j a b => by rw [mset_ne a, mset_ne b]
          have nm : ∀ x, nM (mset (mset m 12 O (nI (nM m O - 1))) 5 (mb m O (nM m O - 1)) (-1)) x ≤ nM m x := fun x => by
            show nv ((mset (mset m 12 O (nI (nM m O - 1))) 5 (mb m O (nM m O - 1)) (-1)).1 12 x) ≤ _
            rw [mset_ne (by decide)]
            by_cases z : x = O
            · rw [z, mset_at, nv_nI (by omega)]; omega
            · rw [mset_off z]; exact Nat.le_refl _
          have nl : ∀ b, nL (mset (mset m 12 O (nI (nM m O - 1))) 5 (mb m O (nM m O - 1)) (-1)) b = nL m b := fun b => nL_k (km 6 (by decide) (by decide))
          have ng : nG (mset (mset m 12 O (nI (nM m O - 1))) 5 (mb m O (nM m O - 1)) (-1)) = nG m := nG_k (km 16 (by decide) (by decide))
          refine ⟨fun b hb => pt 6 b (h.l b hb), pt 7 0 h.n, pt 8 0 h.s, pt 9 0 h.c, pt 16 0 h.g, fun j hj b hb i hi' => pt j _ (h.a j hj b hb i (by rw [← nl]; exact hi')), fun x hx => ?_, fun x hx j hj => pt 11 _ (h.m x (by rw [← ng]; exact hx) j (by have := nm x; omega))⟩
          rw [ng] at hx
          have r := h.r x hx
          exact ⟨pt 10 x r.1, pt 12 x r.2.1, pt 13 x r.2.2.1, pt 14 x r.2.2.2.1, pt 15 x r.2.2.2.2⟩
        exact gs_eqv e (Or.inl rfl)
      · rw [if_neg k2, if_neg k2]
        by_cases k3 : k = 3
        · rw [if_pos k3, if_pos k3]
          have e := gs_eqv (g := O) (v := -1) h (k := 14) (by omega)
          have c := cl_eqv e (g := O) (v := nI O) (by rw [nG_k (mset_ne (by decide))]; exact o1)
          rw [nM_k (d := d) (mset_ne (by decide)), nM_k (d := m) (mset_ne (by decide))] at c
          exact c
        · rw [if_neg k3, if_neg k3]
          exact gs_eqv h (by omega)
/-- the desk now, and as it was before each of the acts that can be undone -/
def Good (act : Nat → Nat × Nat × Int32) : Nat → mS → Prop
  | 0, m => inv m
  | n + 1, m => inv m ∧ tbOk m (act n).1 (act n).2.1 ∧ Good act n (tbD m (act n).1 (act n).2.1 (act n).2.2)
theorem Good_inv {act : Nat → Nat × Nat × Int32} : ∀ {n : Nat} {m : mS}, Good act n m → inv m
  | 0, _, h => h
  | _ + 1, _, h => h.1
theorem Good_eqv {act : Nat → Nat × Nat × Int32} : ∀ {n : Nat} {d m : mS}, eqv d m → Good act n m → Good act n d
  | 0, _, _, e, h => inv_eqv e h
  | _ + 1, _, _, e, h => ⟨inv_eqv e h.1, tbOk_eqv e h.1.M h.2.1, Good_eqv (tb_eqv e h.1 h.2.1) h.2.2⟩
theorem Good_ext {act act' : Nat → Nat × Nat × Int32} : ∀ {n : Nat} {m : mS}, (∀ t, t < n → act' t = act t) → Good act n m → Good act' n m
  | 0, _, _, h => h
  | n + 1, _, e, h => by
    refine ⟨h.1, ?_⟩
    rw [e n (by omega)]
    exact ⟨h.2.1, Good_ext (fun t ht => e t (by omega)) h.2.2⟩
/-- the oldest act is forgotten -/
theorem Good_drop {act : Nat → Nat × Nat × Int32} : ∀ {n : Nat} {m : mS}, Good act (n + 1) m → Good (fun t => act (t + 1)) n m
  | 0, _, h => h.1
  | _ + 1, _, h => ⟨h.1, h.2.1, Good_drop h.2.2⟩
