/-! ===== each call, 3 ===== -/
section STEPS3
variable {d m : mS} {c : Nat}
theorem didR_10 {kd o w : Int32} {m1 m2 : mS} {g : Nat} {s : Int32} (h : didR m1 kd o w m2) : didR (mset m1 10 g s) kd o w (mset m2 10 g s) := by
  obtain ⟨a1, a2, a3, a4, a5, a6, a7, a8, a9⟩ := h
  have na : nA (mset m1 10 g s) = nA m1 := by unfold nA; rw [mset_ne (by decide)]
  have df : dOff (mset m1 10 g s) = dOff m1 := by unfold dOff; rw [na]
  refine ⟨a1, fun j q1 q2 q3 q4 q5 q6 => ?_, by rw [mset_ne (by decide)]; exact a3, by rw [mset_ne (by decide)]; exact a4, by rw [na, df, mset_ne (by decide)]; exact a5, fun t ht => ?_, ?_, ?_, ?_⟩
  · by_cases e : j = 10
    · subst e
      show (if 10 = 10 then upd (m2.1 10) g s else m2.1 10) = (if 10 = 10 then upd (m1.1 10) g s else m1.1 10)
      rw [if_pos rfl, if_pos rfl, a2 10 (by decide) (by decide) (by decide) (by decide) (by decide) (by decide)]
    · rw [mset_ne e, mset_ne e]; exact a2 j q1 q2 q3 q4 q5 q6
  · rw [na, df] at ht
    rw [df, mset_ne (by decide), mset_ne (by decide), mset_ne (by decide), mset_ne (by decide), mset_ne (by decide), mset_ne (by decide)]
    exact a6 t ht
  · rw [na, df, mset_ne (by decide)]; exact a7
  · rw [na, df, mset_ne (by decide)]; exact a8
  · rw [na, df, mset_ne (by decide)]; exact a9
theorem ad_jM {g a : Nat} : adM (mset d 10 g (nI 2)) g a = jM d g a := by
  unfold jM adM
  rw [nM_k (d := d) (d' := mset d 10 g (nI 2)) (mset_ne (by decide)), mset_comm (k := 10) (k' := 11) (by decide), mset_comm (k := 10) (k' := 12) (by decide), mset_comm (k := 10) (k' := 5) (by decide)]
theorem join_eq (h : rel d m c) (hc : c + 14 < 2147483648) {g b i r r' : Int32} {d' m' : mS} (hd : joinD d g b i r d') (hm : joinR m g b i r' m') : r' = r ∧ ∃ c', c' ≤ c + 14 ∧ rel d' m' c' := by
  have he := h.k.e
  unfold joinD at hd
  unfold joinR at hm
  have eg : (isGr d g ∧ isLn d b i) ↔ (isGr m g ∧ isLn m b i) := and_congr (q_isGr he h.i.G) (q_isLn he)
  by_cases ok : isGr m g ∧ isLn m b i
  · rw [if_pos (eg.mpr ok)] at hd
    rw [if_pos ok] at hm
    obtain ⟨g1, g2, g3⟩ := gr_in h.i.G ok.1
    obtain ⟨⟨b1, b2⟩, i1, i2, i3⟩ := ln_in h.i.L ok.2
    have g200 := h.i.G.2
    have e15 : d.1 15 (nv g) = m.1 15 (nv g) := (he.r _ g2).2.2.2.2
    rw [q_ln he h.i.L ok.2 (by decide : 5 < 6), e15, q_nM he g2, (he.r _ g2).1] at hd
    by_cases br : m.1 5 (80 * nv b + nv i) < 0
    · rw [if_pos br] at hd hm
      by_cases lk : m.1 15 (nv g) = 0
      · rw [if_pos lk] at hd hm
        by_cases full : nM m (nv g) = 8
        · rw [if_pos full] at hd hm
          obtain ⟨rfl, rfl⟩ := hd
          obtain ⟨rfl, rfl⟩ := hm
          exact ⟨rfl, h.same rfl rfl⟩
        · rw [if_neg full] at hd hm
          obtain ⟨rfl, rfl⟩ := hd
          obtain ⟨rfl, m2, hm, rfl⟩ := hm
          have n8 : nM m (nv g) < 8 := by have := (h.i.M _ g2).2.1; omega
          have ha : 80 * nv b + nv i < 160 ∧ (80 * nv b + nv i) % 80 < nL m ((80 * nv b + nv i) / 80) := by
            rw [show (80 * nv b + nv i) % 80 = nv i by omega, show (80 * nv b + nv i) / 80 = nv b by omega]
            exact ⟨by omega, i2⟩
          have h5 : m.1 5 (80 * nv b + nv i) = -1 := h.i.N _ b2 _ i2 br
          have un := jm_un h.i g2 g3 n8 ha h5
          have hm2 := didR_10 (g := nv g) (s := nI 2) hm
          have key := rel_act (d1 := jM d (nv g) (80 * nv b + nv i)) (k := 2) (O := nv g) (w := m.1 10 (nv g)) h (by omega) (jm_eqv he h.i g2 n8) (jm_inv h.i g2 g3 n8 ha h5) un.1 un.2 (by decide) (by omega) (fun j q => jm_k ⟨by omega, by omega, by omega, by omega⟩) (fun j q => jm_k ⟨by omega, by omega, by omega, by omega⟩) (by rw [← g1]; exact hm2)
          rw [← g1] at key
          rw [ad_jM]
          exact ⟨rfl, c + 1, by omega, key⟩
      · rw [if_neg lk] at hd hm
        obtain ⟨rfl, rfl⟩ := hd
        obtain ⟨rfl, rfl⟩ := hm
        exact ⟨rfl, h.same rfl rfl⟩
    · rw [if_neg br] at hd hm
      obtain ⟨rfl, rfl⟩ := hd
      obtain ⟨rfl, rfl⟩ := hm
      exact ⟨rfl, h.same rfl rfl⟩
  · rw [if_neg (fun q => ok (eg.mp q))] at hd
    rw [if_neg ok] at hm
    obtain ⟨rfl, rfl⟩ := hd
    obtain ⟨rfl, rfl⟩ := hm
    exact ⟨rfl, h.same rfl rfl⟩
theorem s_join (G : vx_G) (h : rel d m c) (hc : c + 14 < 2147483648) (g b i : Int32) : stp G M_X9_join M_X10_join [(.int g), (.int b), (.int i)] d m c := by
  refine ⟨_, _, by decide, kd_join G d m h.j.L h.j.N h.j.G h.j.P h.j.M h.j.K h.dX h.dA g b i, fun r n' h' hP => ?_⟩
  obtain ⟨rfl, d', rfl, hd⟩ := hP
  refine ⟨rfl, d', rfl, _, _, by decide, k_join G (dk d') m h.i.L h.i.G h.k.A h.i.M g b i, fun r' n'' h'' hQ => ?_⟩
  obtain ⟨rfl, m', rfl, hm⟩ := hQ
  obtain ⟨q1, c', q2, q3⟩ := join_eq h hc hd hm
  exact ⟨rfl, q1, m', c', rfl, q2, q3⟩
theorem s_group (G : vx_G) (h : rel d m c) (g w : Int32) : stp G M_X9_group M_X10_group [(.int g), (.int w)] d m c := by
  refine ⟨_, _, by decide, kd_group G d m h.j.G h.j.M g w, fun r n' h' hP => ?_⟩
  obtain ⟨rfl, rfl, rfl⟩ := hP
  refine ⟨rfl, _, rfl, _, _, by decide, k_group G (dk _) m h.i.G h.i.M (inv_Ga h.i) g w, fun r' n'' h'' hQ => ?_⟩
  obtain ⟨rfl, rfl, rfl⟩ := hQ
  exact ⟨rfl, (group_eq h.k.e h.i g w).symm, m, c, rfl, by omega, h⟩
theorem bk_in {b : Int32} (h : isBk b) : nv b < 2 := by
  rcases nv_w (by decide) h with q | q
  · omega
  · exact absurd q (by decide)
theorem s_breaks (G : vx_G) (h : rel d m c) (b a : Int32) : stp G M_X9_breaks M_X10_breaks [(.int b), (.int a)] d m c := by
  refine ⟨_, _, by decide, kd_breaks G d m h.j.L h.j.N b a, fun r n' h' hP => ?_⟩
  obtain ⟨rfl, rfl, rfl⟩ := hP
  refine ⟨rfl, _, rfl, _, _, by decide, k_breaks G (dk _) m h.i.L b a, fun r' n'' h'' hQ => ?_⟩
  obtain ⟨rfl, rfl, rfl⟩ := hQ
  refine ⟨rfl, ?_, m, c, rfl, by omega, h⟩
  by_cases ok : isBk b ∧ 0 ≤ a
  · rw [if_pos ok, if_pos ok, q_brA h.k.e (bk_in ok.1) a]
  · rw [if_neg ok, if_neg ok]
theorem brk_one {B : Nat} {i r r' : Int32} (hL : nL m B ≤ 80) (h : brkR m B i r) (h' : brkR m B i r') : r' = r := by
  rcases h with ⟨k, k1, k2, k3, k4⟩ | ⟨k1, k2⟩
  · rcases h' with ⟨j, j1, j2, j3, j4⟩ | ⟨j1, j2⟩
    · have a1 := fb_ct_le (brB m B) k
      have a2 := fb_ct_le (brB m B) j
      have e := nI_inj (by omega) (by omega) (k3.symm.trans j3)
      rw [k4, j4, fb_ct_kth_one k2 j2 e]
    · exact absurd k3 (j2 k k1 k2)
  · rcases h' with ⟨j, j1, j2, j3, j4⟩ | ⟨j1, j2⟩
    · exact absurd j3 (k2 j j1 j2)
    · rw [k1, j1]
theorem s_broken (G : vx_G) (h : rel d m c) (b a : Int32) : stp G M_X9_broken M_X10_broken [(.int b), (.int a)] d m c := by
  refine ⟨_, _, by decide, kd_broken G d m h.j.L h.j.N b a, fun r n' h' hP => ?_⟩
  obtain ⟨hd, rfl, rfl⟩ := hP
  refine ⟨rfl, _, rfl, _, _, by decide, k_broken G (dk _) m h.i.L b a, fun r' n'' h'' hQ => ?_⟩
  obtain ⟨hm, rfl, rfl⟩ := hQ
  refine ⟨rfl, ?_, m, c, rfl, by omega, h⟩
  by_cases ok : isBk b
  · rw [if_pos ok] at hd hm
    exact brk_one (h.i.L _ (bk_in ok)).2 (q_brk h.k.e (bk_in ok) hd) hm
  · rw [if_neg ok] at hd hm
    rw [hd, hm]
theorem s_sum (G : vx_G) (h : rel d m c) (w : Int32) : stpJ G M_X9_sum M_X10_sum [(.int w)] d m c := by
  refine ⟨_, _, by decide, kd_sum G d m h.j.L h.j.N h.j.G h.j.P h.j.M w, fun r n' h' hP => ?_⟩
  obtain ⟨rfl, rfl, rfl⟩ := hP
  refine ⟨rfl, _, rfl, _, _, by decide, k_sum G (dk _) m h.i.L h.i.G h.i.M (inv_Ga h.i) (inv_Am h.i) w, fun r' n'' h'' hQ => ?_⟩
  obtain ⟨rfl, rfl, rfl⟩ := hQ
  exact ⟨rfl, (sum_eq h.k.e h.i w).symm, m, c, rfl, by omega, h⟩
theorem rel_56 {d' : mS} (h : rel d m c) (hd : ∀ j, j ≠ 56 → d'.1 j = d.1 j) : rel d' m c := rel_k h (fun j q => hd j (by omega)) (fun _ _ => rfl)
theorem s_as (G : vx_G) (h : rel d m c) (t w : Int32) : stpJ G M_X9_as M_X10_as [(.int t), (.int w)] d m c := by
  refine ⟨_, _, by decide, kd_as G d m h.j.L h.j.G h.j.P h.j.M t w, fun r n' h' hP => ?_⟩
  obtain ⟨rfl, rfl, rfl⟩ := hP
  refine ⟨rfl, _, rfl, _, _, by decide, k_as G (dk _) m h.i.L h.i.G h.i.M (inv_Am h.i) t w, fun r' n'' h'' hQ => ?_⟩
  obtain ⟨rfl, rfl, rfl⟩ := hQ
  refine ⟨rfl, (as_eq h.k.e h.i t w).symm, m, c, rfl, by omega, rel_56 h (fun j q => ?_)⟩
  by_cases ok : okAs d t w
  · rw [if_pos ok]; exact cgD_ne d t q _
  · rw [if_neg ok]
theorem s_explain (G : vx_G) (h : rel d m c) : stp G M_X9_explain M_X10_explain [] d m c := by
  refine ⟨_, _, by decide, kd_explain G d m h.j.L h.j.N h.j.G h.j.P h.j.M h.j.F (inv_kn h.j) (inv_gd h.j), fun r n' h' hP => ?_⟩
  obtain ⟨rfl, g, rfl, hd⟩ := hP
  refine ⟨rfl, g, rfl, _, _, by decide, k_explain G (dk g) m h.i.L h.i.G h.i.M (inv_Ga h.i) (inv_Am h.i), fun r' n'' h'' hQ => ?_⟩
  obtain ⟨rfl, m', rfl, hm⟩ := hQ
  obtain ⟨q1, q2, q3, q4⟩ := exp_eq h.k.e h.i hd hm h.x
  exact ⟨rfl, q1.symm, m', c, rfl, by omega, core_k h.k (fun j q => q3 j (by omega)) (fun j q => q4 j (by omega) (by omega) (by omega) (by omega) (by omega)), by rw [q3 50 (by omega)]; exact h.c0, by rw [q3 64 (by omega)]; exact h.c1, by rw [q3 88 (by omega)]; exact h.c2, prel_k h.p (fun j q => q3 j (by omega)) (fun j q => q4 j (by omega) (by omega) (by omega) (by omega) (by omega)), srel_k h.s (fun j q => q3 j (by omega)) (fun j q => q4 j (by omega) (by omega) (by omega) (by omega) (by omega)), q2⟩
theorem s_explained (G : vx_G) (h : rel d m c) (j w : Int32) : stp G M_X9_explained M_X10_explained [(.int j), (.int w)] d m c := by
  obtain ⟨n, n1, n2, n3, n4⟩ := h.x
  refine ⟨_, _, by decide, kd_explained G d m n n1 n2 j w, fun r n' h' hP => ?_⟩
  obtain ⟨rfl, rfl, rfl⟩ := hP
  have hE : iE m := by
    have e : nE m = n := by show nv (m.1 42 0) = n; rw [n3]; exact nv_nI (by omega)
    unfold iE
    rw [e]
    exact ⟨n3, n1⟩
  refine ⟨rfl, _, rfl, _, _, by decide, k_explained G (dk _) m hE j w, fun r' n'' h'' hQ => ?_⟩
  obtain ⟨rfl, rfl, rfl⟩ := hQ
  exact ⟨rfl, (exd_eq h.x j w).symm, m, c, rfl, by omega, h⟩
theorem s_count (G : vx_G) (h : rel d m c) (w : Int32) : stp G M_X9_count M_X10_count [(.int w)] d m c := by
  refine ⟨_, _, by decide, kd_count G d m h.j.G h.j.P w, fun r n' h' hP => ?_⟩
  obtain ⟨rfl, rfl, rfl⟩ := hP
  refine ⟨rfl, _, rfl, _, _, by decide, k_count G (dk _) m h.i.G w, fun r' n'' h'' hQ => ?_⟩
  obtain ⟨rfl, rfl, rfl⟩ := hQ
  exact ⟨rfl, (count_eq h.k.e h.k.R.n w).symm, m, c, rfl, by omega, h⟩
theorem s_check (G : vx_G) (h : rel d m c) : stp G M_X9_check M_X10_check [] d m c := by
  refine ⟨_, _, by decide, kd_check G d m h.j.L h.j.N h.j.G h.j.P h.j.M (hr_all h.j (by decide)) (hr_all h.j (by decide)) (inv_hS h.j) (inv_bb h.j), fun r n' h' hP => ?_⟩
  obtain ⟨rfl, rfl, rfl⟩ := hP
  refine ⟨rfl, _, rfl, _, _, by decide, k_check G (dk _) m h.i.L h.i.G h.i.M (inv_Ga h.i) (inv_Am h.i) (inv_Ck h.i), fun r' n'' h'' hQ => ?_⟩
  obtain ⟨rfl, rfl, rfl⟩ := hQ
  exact ⟨rfl, rfl, m, c, rfl, by omega, rel_56 h (fun j q => cgD_ne d _ q _)⟩
/-! undo -/
theorem tb_nn {k O : Nat} {w : Int32} {j : Nat} (h : 17 ≤ j) : (tbD m k O w).1 j = m.1 j := by
  unfold tbD drD
  by_cases k0 : k = 0
  · rw [if_pos k0, mset_ne (by omega)]
  · rw [if_neg k0]
    by_cases k1 : k = 1
    · rw [if_pos k1, mset_ne (by omega), clM_ne (by omega)]
    · rw [if_neg k1]
      by_cases k2 : k = 2
      · rw [if_pos k2, mset_ne (by omega), mset_ne (by omega), mset_ne (by omega)]
      · rw [if_neg k2]
        by_cases k3 : k = 3
        · rw [if_pos k3, clM_ne (by omega), mset_ne (by omega)]
        · rw [if_neg k3, mset_ne (by omega)]
theorem un1_k {j : Nat} (h1 : j ≠ 46) (h2 : j ≠ 17) (h3 : j ≠ 30) : (un1 m).1 j = m.1 j := by
  unfold un1
  rw [mset_ne h3, mset_ne h2, mset_ne h1]
theorem un_tb {k O : Nat} (hw : k = 4 → m.1 45 (nA m - 1) = nI 0 ∨ m.1 45 (nA m - 1) = nI 1) (hk : k ≤ 4) : undoM m k O = tbD (un1 m) k O (m.1 45 (nA m - 1)) := by
  have n1 : ∀ b, nL (un1 m) b = nL m b := fun b => nL_k (un1_k (by decide) (by decide) (by decide))
  have n2 : nG (un1 m) = nG m := nG_k (un1_k (by decide) (by decide) (by decide))
  have n3 : ∀ g, nM (un1 m) g = nM m g := fun g => nM_k (un1_k (by decide) (by decide) (by decide))
  have n4 : ∀ g j, mb (un1 m) g j = mb m g j := fun g j => by unfold mb; rw [un1_k (by decide) (by decide) (by decide)]
  unfold undoM tbD drD
  rw [n1, n2, n3, n4]
  by_cases k0 : k = 0
  · rw [if_pos k0, if_pos k0]
  · rw [if_neg k0, if_neg k0]
    by_cases k1 : k = 1
    · rw [if_pos k1, if_pos k1]
    · rw [if_neg k1, if_neg k1]
      by_cases k2 : k = 2
      · rw [if_pos k2, if_pos k2]
      · rw [if_neg k2, if_neg k2]
        by_cases k3 : k = 3
        · rw [if_pos k3, if_pos k3]
        · rw [if_neg k3, if_neg k3]
          rcases hw (by omega) with q | q
          · rw [q]; rfl
          · rw [q]; rfl
theorem s_undo (G : vx_G) (h : rel d m c) (hc : c + 14 < 2147483648) : stp G M_X9_undo M_X10_undo [] d m c := by
  have ra := ring_A h.k.R h.k.A
  by_cases z : nA m = 0
  · have zd : nA d = 0 := ra.2.trans z
    refine ⟨_, _, by decide, kd_undo G d m h.j.L h.j.G h.dX h.dA 0 0 (fun q => absurd zd q), fun r n' h' hP => ?_⟩
    obtain ⟨rfl, rfl, rfl⟩ := hP
    rw [if_pos zd, if_pos zd]
    refine ⟨rfl, d, rfl, _, _, by decide, k_undo G (dk d) m h.k.A h.i.L h.i.G 0 0 (fun q => absurd z q), fun r' n'' h'' hQ => ?_⟩
    obtain ⟨rfl, rfl, rfl⟩ := hQ
    rw [if_pos z, if_pos z]
    exact ⟨rfl, rfl, m, c, rfl, by omega, h⟩
  · have zd : ¬ nA d = 0 := fun q => z (ra.2.symm.trans q)
    obtain ⟨n, hn⟩ : ∃ n, nA m = n + 1 := ⟨nA m - 1, by omega⟩
    have gd := h.k.gd
    rw [hn] at gd
    obtain ⟨_, gt, gg⟩ := gd
    have an := h.k.an n (by omega)
    have tp := ring_top h.k.R h.k.A z
    rw [hn, Nat.add_sub_cancel] at tp
    have gt : tbOk m (nv (m.1 43 n)) (nv (m.1 44 n)) := gt
    have gg : Good (actM m) n (tbD m (nv (m.1 43 n)) (nv (m.1 44 n)) (m.1 45 n)) := gg
    refine ⟨_, _, by decide, kd_undo G d m h.j.L h.j.G h.dX h.dA (nv (m.1 43 n)) (nv (m.1 44 n)) (fun _ => ⟨tp.1.trans an.1, tp.2.1.trans an.2, tbOk_eqv h.k.e h.i.M gt⟩), fun r n' h' hP => ?_⟩
    obtain ⟨rfl, rfl, rfl⟩ := hP
    rw [if_neg zd, if_neg zd]
    have uo : undoOk m (nv (m.1 43 n)) (nv (m.1 44 n)) := by
      unfold undoOk
      rw [hn, Nat.add_sub_cancel]
      exact ⟨an.1, gt.1, an.2, gt.2.1, gt.2.2.1, gt.2.2.2⟩
    refine ⟨rfl, _, rfl, _, _, by decide, k_undo G (dk _) m h.k.A h.i.L h.i.G (nv (m.1 43 n)) (nv (m.1 44 n)) (fun _ => uo), fun r' n'' h'' hQ => ?_⟩
    obtain ⟨rfl, rfl, rfl⟩ := hQ
    rw [if_neg z, if_neg z, ra.2]
    have kO := gt.1
    have w01 : nv (m.1 43 n) = 4 → m.1 45 (nA m - 1) = nI 0 ∨ m.1 45 (nA m - 1) = nI 1 := fun q => by
      rw [hn, Nat.add_sub_cancel]
      have ik := (Good_inv gg).K (nv (m.1 44 n))
      rw [q] at ik gt
      have o := (gt.2.2.1 (by decide)).1
      have e : tbD m 4 (nv (m.1 44 n)) (m.1 45 n) = mset m 15 (nv (m.1 44 n)) (m.1 45 n) := rfl
      rw [e, nG_k (d := m) (mset_ne (by decide)), mset_at] at ik
      exact ik o
    have eu := un_tb (m := m) (k := nv (m.1 43 n)) (O := nv (m.1 44 n)) w01 kO
    rw [hn, Nat.add_sub_cancel] at eu
    have e1 : eqv (un1 m) m := core_eqv (fun j q => un1_k (by omega) (by omega) (by omega))
    have em : eqv (undoM m (nv (m.1 43 n)) (nv (m.1 44 n))) (tbD m (nv (m.1 43 n)) (nv (m.1 44 n)) (m.1 45 n)) := by
      rw [eu]; exact tb_eqv e1 h.i gt
    have km : ∀ j, 18 ≤ j → j ≠ 30 → j ≠ 46 → (undoM m (nv (m.1 43 n)) (nv (m.1 44 n))).1 j = m.1 j := fun j q1 q2 q3 => by
      rw [eu, tb_nn (by omega)]; exact un1_k q3 (by omega) q2
    have m17 : (undoM m (nv (m.1 43 n)) (nv (m.1 44 n))).1 17 0 = 0 := by
      rw [eu, tb_nn (by omega)]
      unfold un1
      rw [mset_ne (by decide), mset_at]; rfl
    have m30 : (undoM m (nv (m.1 43 n)) (nv (m.1 44 n))).1 30 0 = 0 := by
      rw [eu, tb_nn (by omega)]
      unfold un1
      rw [mset_at]; rfl
    have m46 : (undoM m (nv (m.1 43 n)) (nv (m.1 44 n))).1 46 0 = nI (nA m - 1) := by
      rw [eu, tb_nn (by omega)]
      unfold un1
      rw [mset_ne (by decide), mset_ne (by decide), mset_at]
    have a60 := h.k.A.2
    have na : nA (undoM m (nv (m.1 43 n)) (nv (m.1 44 n))) = n := by
      show nv ((undoM m (nv (m.1 43 n)) (nv (m.1 44 n))).1 46 0) = n
      rw [m46, hn, Nat.add_sub_cancel]; exact nv_nI (by omega)
    have e43 := km 43 (by decide) (by decide) (by decide)
    have e44 := km 44 (by decide) (by decide) (by decide)
    have e45 := km 45 (by decide) (by decide) (by decide)
    have ea : actM (undoM m (nv (m.1 43 n)) (nv (m.1 44 n))) = actM m := by
      funext t
      unfold actM
      rw [e43, e44, e45]
    have tk : ∀ j, j ≠ 46 → j ≠ 54 → (tkD d).1 j = d.1 j := fun j q1 q2 => by unfold tkD; rw [mset_ne q1, mset_ne q2]
    have kd : ∀ j, 17 ≤ j → j ≠ 50 → (unD d (nv (m.1 43 n)) (nv (m.1 44 n))).1 j = (tkD d).1 j := fun j q1 q2 => by
      unfold unD
      rw [mset_ne q2, tb_nn q1]
    have ed : eqv (unD d (nv (m.1 43 n)) (nv (m.1 44 n))) (tbD m (nv (m.1 43 n)) (nv (m.1 44 n)) (m.1 45 n)) := by
      unfold unD
      rw [tp.2.2]
      refine eqv_trans (core_eqv (fun j q => mset_ne (by omega))) (tb_eqv (eqv_trans (core_eqv (fun j q => tk j (by omega) (by omega))) h.k.e) h.i gt)
    have rt : ring (tkD d) (undoM m (nv (m.1 43 n)) (nv (m.1 44 n))) := ring_tk h.k.R h.k.A z m46 e43 e44 e45
    refine ⟨rfl, rfl, _, c + 1, rfl, by omega, rel_st h ⟨eqv_trans ed (eqv_symm em), ?_, ?_, ring_k rt (kd 46 (by decide) (by decide)) (kd 51 (by decide) (by decide)) (kd 52 (by decide) (by decide)) (kd 53 (by decide) (by decide)) (kd 54 (by decide) (by decide)) rfl rfl rfl rfl, ?_⟩ (Nat.le_refl 1) (by omega) ?_ (fun j q => by rw [kd j (by omega) (by omega)]; exact tk j (by omega) (by omega)) (fun j q1 q2 q3 => km j (by omega) q3 (by omega)) m17 m30⟩
    · rw [na, ea]; exact Good_eqv em gg
    · unfold iA
      rw [na, m46, hn, Nat.add_sub_cancel]
      exact ⟨rfl, by omega⟩
    · rw [na, e43, e44]
      exact fun t ht => h.k.an t (by omega)
    · unfold unD
      rw [mset_at, h.c0]; exact nI_add c 1
end STEPS3
