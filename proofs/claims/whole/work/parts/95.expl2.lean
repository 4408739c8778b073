/-! ===== explain answers alike ===== -/
abbrev exq (d m : mS) : Prop := ∃ n, n ≤ 18 ∧ d.1 95 0 = nI n ∧ m.1 42 0 = nI n ∧ ∀ t, t < n → d.1 93 t = m.1 40 t ∧ d.1 94 t = m.1 41 t
section EXP
variable {d m : mS}
theorem nEx_eq (h : eqv d m) (hm : inv m) : nEx d = nEx m := by
  unfold nEx
  rw [q_cBr h (by decide), q_cBr h (by decide), (q_unE h hm.V).1]
theorem it_all (h : eqv d m) (hm : inv m) {e : mS} (hx : xiR d e) (hN : nEx m ≤ 18) : ∀ t, t < nEx m → ∃ kd nu z, (-8000000 ≤ z ∧ z ≤ 8000000) ∧ itE e t kd nu (zI z) ∧ itM (exG m (nG m)).2 t kd nu (zL z) := by
  intro t ht
  obtain ⟨_, _, x0, x1, x2⟩ := hx
  obtain ⟨_, _, y1, y2⟩ := exG_at m (nG m)
  have l0 := (hm.L 0 (by decide)).2
  have l1 := (hm.L 1 (by decide)).2
  have n0 := q_nL h (b := 0) (by decide)
  have n1 := q_nL h (b := 1) (by decide)
  have k160 := rk_160 hm.L
  have cz : cBr m 0 = fb_ct (brF m 0) (nL m 0) := rfl
  have co : cBr m 1 = fb_ct (brF m 80) (nL m 1) := rfl
  by_cases c0 : t < cBr m 0
  · rw [cz] at c0
    obtain ⟨i, i1, i2, i3⟩ := fb_ct_kth c0
    have a := x0 i (by omega) (by rw [show brF d 0 i = brF m 0 i from q_brF h (b := 0) (by decide) i1]; exact i2)
    have b := y1 i (by omega) (by rw [(pB_0 hm.L).1 i i1]; exact i2) (by rw [rk_0 hm.L (by omega), i3]; omega)
    rw [show fb_ct (brF d 0) i = fb_ct (brF m 0) i from q_ctB h (b := 0) (by decide) (by omega), i3] at a
    rw [rk_0 hm.L (by omega), i3, show i / 80 = 0 by omega, show i % 80 = i by omega] at b
    have f := (hm.F 0 (by decide) i i1).1
    rw [show 80 * 0 + i = i by omega] at f
    have ea : d.1 0 i = m.1 0 i := by
      have := h.a 0 (by decide) 0 (by decide) i i1
      rwa [show 80 * 0 + i = i by omega] at this
    refine ⟨nI 0, nI i, (m.1 0 i).toInt, by omega, ?_, ?_⟩
    · rw [ea, nI1, Int32.one_mul] at a
      rw [← zI_of]
      exact a
    · rw [show sgA m i = (m.1 0 i).toInt from if_pos (by omega)] at b
      exact b
  · by_cases c1 : t < cBr m 0 + cBr m 1
    · have c1' : t - cBr m 0 < fb_ct (brF m 80) (nL m 1) := by rw [← co]; omega
      obtain ⟨i, i1, i2, i3⟩ := fb_ct_kth c1'
      have a := x1 i (by omega) (by rw [show brF d 80 i = brF m 80 i from q_brF h (b := 1) (by decide) i1]; exact i2)
      have e3 : cBr m 0 + fb_ct (brF m 80) i = t := by omega
      have b := y1 (80 + i) (by omega) (by rw [(pB_1 hm.L).1 i i1]; exact i2) (by rw [rk_1 hm.L (by omega)]; omega)
      rw [show fb_ct (brF d 80) i = fb_ct (brF m 80) i from q_ctB h (b := 1) (by decide) (by omega), q_cBr h (by decide), e3] at a
      rw [rk_1 hm.L (by omega), e3, show (80 + i) / 80 = 1 by omega, show (80 + i) % 80 = i by omega] at b
      have f := (hm.F 1 (by decide) i i1).1
      rw [show 80 * 1 + i = 80 + i by omega] at f
      have ea : d.1 0 (80 + i) = m.1 0 (80 + i) := by
        have := h.a 0 (by decide) 1 (by decide) i i1
        rwa [show 80 * 1 + i = 80 + i by omega] at this
      refine ⟨nI 1, nI i, -(m.1 0 (80 + i)).toInt, by omega, ?_, ?_⟩
      · rw [ea, show (-1 : Int32) * m.1 0 (80 + i) = zI (-(m.1 0 (80 + i)).toInt) by
          rw [← zI_neg, ← zI_of, Int32.neg_mul, Int32.one_mul]] at a
        exact a
      · rw [show sgA m (80 + i) = -(m.1 0 (80 + i)).toInt from if_neg (by omega)] at b
        exact b
    · have c2 : t - (cBr m 0 + cBr m 1) < fb_ct (unE m) (nG m) := by
        unfold nEx at ht
        omega
      obtain ⟨g, g1, g2, g3⟩ := fb_ct_kth c2
      have un := q_unE h hm.V
      have a := x2 g (by rw [q_nG h]; exact g1) (by rw [un.2.1 g g1]; exact g2)
      have e3 : cBr m 0 + cBr m 1 + fb_ct (unE m) g = t := by omega
      have pc : fb_ct (pG m) g = fb_ct (unE m) g := fb_ct_cong (fun k hk => pG_un hm (by omega))
      have b := y2 g g1 (by rw [pG_un hm g1]; exact g2) (by rw [k160, pc]; omega)
      rw [un.2.2 g (by omega), q_cBr h (by decide), q_cBr h (by decide), e3, q_gDf h hm.V g1] at a
      rw [k160, pc, e3] at b
      exact ⟨nI 2, nI g, gDf m g, inv_gd hm g g1, a, b⟩
theorem all_sum (hm : inv m) (hN : nEx m ≤ 18) : fb_si (fun t => ((exG m (nG m)).2.2 t).toInt) (nEx m) = bD m := by
  obtain ⟨y0, _, y1, y2⟩ := exG_at m (nG m)
  have eN : nEx m = fb_ct (pB m) 160 + fb_ct (pG m) (nG m) := by rw [← y0, exN hm]
  rw [eN, fb_si_split]
  have l0 := (hm.L 0 (by decide)).2
  have l1 := (hm.L 1 (by decide)).2
  have a := si_rk (p := pB m) (F := fun t => ((exG m (nG m)).2.2 t).toInt) (G := sgA m) 160 (fun x hx px => by
    have lt := fb_ct_mono (pB m) (show x + 1 ≤ 160 by omega)
    rw [fb_ct_succ, if_pos px] at lt
    have i := (y1 x hx px (by omega)).2.2
    show ((exG m (nG m)).2.2 (fb_ct (pB m) x)).toInt = _
    have bd := fb_rng (m.1 0 x)
    rw [i, zL_T]
    · unfold sgA; split <;> omega
    · unfold sgA; split <;> omega)
  have b := si_rk (p := pG m) (F := fun t => ((exG m (nG m)).2.2 (fb_ct (pB m) 160 + t)).toInt) (G := gDf m) (nG m) (fun x hx px => by
    have lt := fb_ct_mono (pG m) (show x + 1 ≤ nG m by omega)
    rw [fb_ct_succ, if_pos px] at lt
    have i := (y2 x hx px (by omega)).2.2
    show ((exG m (nG m)).2.2 (fb_ct (pB m) 160 + fb_ct (pG m) x)).toInt = _
    have bd := inv_gd hm x hx
    rw [i, zL_T (by omega) (by omega)])
  rw [a, b]
  have s1 := sum_books hm.L (f := fun a => if pB m a = true then sgA m a else 0) (g0 := aB m 0) (g1 := fun i => -aB m 1 i) (fun i hi => by
    show (if pB m i = true then sgA m i else 0) = aB m 0 i
    rw [(pB_0 hm.L).1 i hi]
    unfold aB brF
    rw [show 80 * 0 + i = i by omega]
    by_cases q : m.1 5 i < 0
    · rw [if_pos (decide_eq_true q), if_pos q]; exact if_pos (by omega)
    · rw [if_neg (fun z => q (of_decide_eq_true z)), if_neg q]) (fun i h1 h2 => if_neg (by rw [(pB_0 hm.L).2 i h1 h2]; exact Bool.false_ne_true)) (fun i hi => by
    show (if pB m (80 + i) = true then sgA m (80 + i) else 0) = -aB m 1 i
    rw [(pB_1 hm.L).1 i hi]
    unfold aB brF
    rw [show 80 * 1 + i = 80 + i by omega]
    by_cases q : m.1 5 (80 + i) < 0
    · rw [if_pos (decide_eq_true q), if_pos q]; exact if_neg (by omega)
    · rw [if_neg (fun z => q (of_decide_eq_true z)), if_neg q]; rfl) (fun i h1 h2 => if_neg (by rw [(pB_1 hm.L).2 i h1 h2]; exact Bool.false_ne_true))
  rw [s1, si_neg, ck_sum hm, fb_si_ext (f := fun a => if pG m a = true then gDf m a else 0) (g := gT m) (fun g hg => by
    show (if pG m g = true then gDf m g else 0) = gT m g
    unfold gT pG
    by_cases q : m.1 14 g < 0
    · rw [if_pos q]
      by_cases z : zL (gDf m g) = 0
      · rw [if_neg (fun x => (of_decide_eq_true x).2 z)]
        have bd := inv_gd hm g hg
        have := congrArg Int64.toInt z
        rw [zL_T (by omega) (by omega)] at this
        exact this.symm
      · rw [if_pos (decide_eq_true ⟨q, z⟩)]
    · rw [if_neg q, if_neg (fun x => q (of_decide_eq_true x).1)])]
  omega
theorem exF_e (hm : inv m) (y : Nat) : exF m y = fnd (exG m (nG m)).2.2 (nEx m) y 0 (zL (sumV m (nI 0))) := by
  unfold exF
  rw [exN hm]
theorem exp_eq (h : eqv d m) (hm : inv m) {r r' : Int32} {g m' : mS} (hd : xpD d r g) (hx : expR m r' m') (he : exq d m) : r = r' ∧ exq g m' ∧ (∀ j, j < 89 ∨ 105 < j → g.1 j = d.1 j) ∧ ∀ j, j ≠ 37 → j ≠ 38 → j ≠ 40 → j ≠ 41 → j ≠ 42 → m'.1 j = m.1 j := by
  unfold xpD at hd
  unfold expR at hx
  rw [nEx_eq h hm] at hd
  rw [exN hm] at hx
  obtain ⟨_, yk, _, _⟩ := exG_at m (nG m)
  by_cases c : 18 < nEx m
  · rw [if_pos c] at hd hx
    obtain ⟨rfl, rfl⟩ := hd
    obtain ⟨rfl, rfl⟩ := hx
    refine ⟨rfl, ?_, fun _ _ => rfl, fun j j1 j2 _ _ _ => yk j j1 j2⟩
    obtain ⟨n, n1, n2, n3, n4⟩ := he
    exact ⟨n, n1, n2, by rw [yk 42 (by decide) (by decide)]; exact n3, fun t ht => by rw [yk 40 (by decide) (by decide), yk 41 (by decide) (by decide)]; exact n4 t ht⟩
  · rw [if_neg c] at hd hx
    have hN : nEx m ≤ 18 := by omega
    obtain ⟨e, f, hxi, hfe, hr⟩ := hd
    have it := it_all h hm hxi hN
    obtain ⟨fk, S, p, f1, f2, f3, f4⟩ := hfe
    have ek : ∀ j, j < 89 ∨ 105 < j → g.1 j = d.1 j := fun j hj => by
      rw [fk j (by unfold jH; omega), hxi.1 j (by unfold jI; omega)]
    have hf : ∀ t, t < nEx m → -8000000 ≤ ((exG m (nG m)).2.2 t).toInt ∧ ((exG m (nG m)).2.2 t).toInt ≤ 8000000 := fun t ht => by
      obtain ⟨_, _, z, zb, _, _, _, z3⟩ := it t ht
      rw [z3, zL_T (by omega) (by omega)]
      exact zb
    have am : ∀ t, t < nEx m → amE e t = ((exG m (nG m)).2.2 t).toInt := fun t ht => by
      obtain ⟨_, _, z, zb, ⟨_, _, z2⟩, _, _, z3⟩ := it t ht
      unfold amE
      rw [z3, z2, zL_T (by omega) (by omega), zI_T (by omega) (by omega)]
    have bb := aB_bd hm (b := 0) (by decide)
    have bb1 := aB_bd hm (b := 1) (by decide)
    have bD1 : -160000000 ≤ bD m ∧ bD m ≤ 160000000 := by
      have u0 := bb.2
      have u1 := bb1.2
      unfold bD
      omega
    have w0 : sumV m (nI 0) = bD m := by rw [nI_0]; exact sV_0 hm.L
    have eW : (zL (sumV m (nI 0))).toInt = bD m := by rw [w0, zL_T (by omega) (by omega)]
    have eG : (zI (bD d)).toInt = bD m := by rw [q_bD h, zI_T (by omega) (by omega)]
    have sq : ∀ T : Nat → Bool, ssm (amE e) T (nEx m) = ssm (fun t => ((exG m (nG m)).2.2 t).toInt) T (nEx m) := fun T => fb_si_ext (fun k hk => by
      show (if T k = true then amE e k else 0) = (if T k = true then ((exG m (nG m)).2.2 k).toInt else 0)
      rw [am k hk])
    have full : ssm (fun t => ((exG m (nG m)).2.2 t).toInt) (fun t => decide (t < nEx m)) (nEx m) = bD m := by
      rw [← all_sum hm hN]
      exact fb_si_ext (fun k hk => if_pos (decide_eq_true hk))
    rcases hx with ⟨z, z1, z2, z3, z4, z5⟩ | ⟨z1, _, _⟩
    · obtain ⟨T, M, t1, t2, t3⟩ := fnd_best (w := zL (sumV m (nI 0))) hN hf (by rw [eW]; omega) z1 (fun y hy => by rw [← exF_e hm y]; exact z2 y hy) (by rw [← exF_e hm z]; exact z3)
      rcases f2 with ⟨_, q2, _⟩ | ⟨q1, q2, q3, q4⟩
      · exact absurd (by rw [sq, full, eG]) (q2 (fun t => decide (t < nEx m)) (fun t ht => of_decide_eq_true ht))
      · have sT : subN T (nEx m) := fun t ht => (t2.s t ht).2
        have eq1 : ssm prT T (nEx m) = ssm prT S (nEx m) := Int.le_antisymm (t3 S q2 (by rw [← sq, q3, eG, eW])) (q4 T sT (by rw [sq, t2.w, eG, eW]))
        have eS := cheap_one hN eq1
        have ct : ∀ k, k ≤ nEx m → fb_ct S k = fb_ct T k := fun k hk => fb_ct_cong (fun i hi => (eS i (by omega)).symm)
        have r95 : g.1 95 0 = nI z := by rw [f3, ct _ (Nat.le_refl _), t2.c]
        have f0 : ¬ f = 0 := by
          rw [f1]
          unfold bI
          rw [if_pos q1]
          decide
        have tM := t2.m
        have bit : ∀ k, k < nEx m → (bitF (nI M) k ↔ T k = true) := fun k hk => by
          unfold bitF
          rw [bit_n (by omega) (by omega), bit_tb, tM.2 k (by omega)]
          cases T k with
          | true => exact ⟨fun _ => rfl, fun _ => rfl⟩
          | false => exact ⟨fun q => absurd q (by decide), fun q => absurd q (by decide)⟩
        have eF : exF m z = nI M := by
          unfold exF
          rw [exN hm]
          exact t1
        obtain ⟨w1, w2, w3⟩ := exT_at (q := (exG m (nG m)).2) bit (nEx m) (Nat.le_refl _)
        have w4 := (exT_ok (exG m (nG m)).2 (nI M) (nEx m)).2.1
        rw [w1, t2.c] at w4
        rw [eF] at z5
        subst z5
        refine ⟨by rw [hr, if_neg f0, r95, z4], ⟨z, by omega, r95, w4, fun t ht => ?_⟩, ek, fun j j1 j2 j3 j4 j5 => by rw [w2 j j3 j4 j5, yk j j1 j2]⟩
        rw [← t2.c] at ht
        obtain ⟨x, x1, x2, x3⟩ := fb_ct_kth ht
        have a := f4 x x1 (by rw [← eS x x1]; exact x2)
        have b := w3 x x1 x2
        rw [ct x (by omega), x3] at a
        rw [x3] at b
        obtain ⟨_, _, _, _, ⟨i1, i2, _⟩, i3, i4, _⟩ := it x x1
        rw [a.1, a.2, b.1, b.2, i1, i2, i3, i4]
        exact ⟨rfl, rfl⟩
    · have := fnd_none (w := zL (sumV m (nI 0))) hN hf (by rw [eW]; omega) (fun y hy => by
        have := z1 y hy
        unfold exF at this
        rwa [exN hm] at this) (fun t => decide (t < nEx m)) (fun t ht => of_decide_eq_true ht)
      exact absurd (by rw [full, eW]) this
theorem exd_eq (he : exq d m) (j w : Int32) : edV d j w = (if isEx m j w then (if w = 0 then m.1 40 (nv j) else m.1 41 (nv j)) else -1) := by
  obtain ⟨n, n1, n2, n3, n4⟩ := he
  unfold edV exK isEx
  rw [n2, n3]
  by_cases c : nI 0 ≤ j ∧ j < nI n
  · rw [if_pos c]
    have lt : nv j < n := by
      obtain ⟨y, y1, rfl⟩ := w_nat (n := n) ⟨c.1, (fa_of_lt c.2).1⟩ (by omega)
      have q := c.2
      rw [iLT, nI_T _ (by omega), nI_T _ (by omega)] at q
      rw [nv_nI (by omega)]
      omega
    obtain ⟨a, b⟩ := n4 _ lt
    by_cases w0 : w = 0
    · rw [if_pos w0, if_pos ⟨c, by rw [w0]; decide⟩, if_pos w0, a]
    · rw [if_neg w0]
      by_cases w1 : w = 1
      · rw [if_pos w1, if_pos ⟨c, by rw [w1]; decide⟩, if_neg w0, b]
      · rw [if_neg w1, if_neg (fun q => by
          have z := (nv_w (a := 0) (n := 1) (by decide) q.2).resolve_right (by decide)
          rcases (show nv w = 0 ∨ nv w = 1 by omega) with y | y
          · rw [y] at z; exact w0 (z.1.trans nI_0)
          · rw [y] at z; exact w1 (z.1.trans nI1))]
  · rw [if_neg c, if_neg (fun q => c q.1)]
end EXP
