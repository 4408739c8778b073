/-! ===== each call, 2 ===== -/
section STEPS2
variable {d m : mS} {c : Nat}
theorem s_rival (G : vx_G) (h : rel d m c) (a : Int32) : stp G M_X9_rival M_X10_rival [(.int a)] d m c := by
  obtain ⟨k, k1, k2⟩ := h.p.k
  refine ⟨_, _, by decide, kd_rival G d m k k1 k2 a, fun r n' h' hP => ?_⟩
  obtain ⟨hd, rfl, rfl⟩ := hP
  by_cases q : m.1 17 0 = 0
  · refine ⟨rfl, _, rfl, _, _, by decide, k_rival0 G (dk _) m q a, fun r' n'' h'' hQ => ?_⟩
    obtain ⟨rfl, rfl, rfl⟩ := hQ
    exact ⟨rfl, (rival_no h.p hd q).symm, m, c, rfl, by omega, h⟩
  · obtain ⟨n, T, z⟩ := h.p.f q
    refine ⟨rfl, _, rfl, _, _, by decide, k_rival G (dk _) m z.iP a, fun r' n'' h'' hQ => ?_⟩
    obtain ⟨rfl, m', rfl, hm⟩ := hQ
    obtain ⟨q1, q2, q3⟩ := rival_eq h.i h.p k1 k2 hd q hm
    exact ⟨rfl, q1.symm, m', c, rfl, by omega, core_k h.k (fun _ _ => rfl) (fun j q => q3 j (by omega) (by omega) (by omega)), h.c0, h.c1, h.c2, q2, srel_k h.s (fun _ _ => rfl) (fun j q => q3 j (by omega) (by omega) (by omega)), exq_k h.x (fun _ _ _ => rfl) (fun j a b => q3 j (by omega) (by omega) (by omega))⟩
theorem s_pair (G : vx_G) (h : rel d m c) (hc : c + 14 < 2147483648) (s : Int32) : stp G M_X9_pair M_X10_pair [(.int s)] d m c := by
  obtain ⟨k, k1, k2⟩ := h.p.k
  refine ⟨_, _, by decide, kd_pair G d m k k1 k2 h.j.G h.dX h.dA (fun q => ?_) s, fun r n' h' hP => ?_⟩
  · obtain ⟨n, T, z⟩ := h.p.f (h.p.fr.mp q)
    have hn14 := z.n14
    have e : k = n := nI_inj (by omega) (by omega) (k2.symm.trans z.d61)
    subst e
    exact z.dok h.i.L
  · obtain ⟨rfl, g, rfl, hd⟩ := hP
    refine ⟨rfl, g, rfl, _, _, by decide, k_pairJ G (dk g) m s (fun q => ?_) (fun q i hi hn => ?_) h.i.G h.k.A, fun r' n'' h'' hQ => ?_⟩
    · obtain ⟨n, T, z⟩ := h.p.f q
      exact ⟨z.iP, z.iO h.i.L⟩
    · obtain ⟨n, T, z⟩ := h.p.f q.2
      exact prF_w3 z hi hn
    · obtain ⟨rfl, m', rfl, hm⟩ := hQ
      obtain ⟨q1, c', q2, q3⟩ := pair_eq h hc k1 k2 hd hm
      exact ⟨rfl, q1, m', c', rfl, q2, q3⟩
theorem s_sets (G : vx_G) (h : rel d m c) (b i z e : Int32) : stp G M_X9_sets M_X10_sets [(.int b), (.int i), (.int z), (.int e)] d m c := by
  refine ⟨_, _, by decide, kd_sets G d m h.j.L h.j.N h.j.F b i z e, fun r n' h' hP => ?_⟩
  obtain ⟨rfl, g, rfl, hd⟩ := hP
  refine ⟨rfl, g, rfl, _, _, by decide, k_sets G (dk g) m h.i.L b i z e, fun r' n'' h'' hQ => ?_⟩
  obtain ⟨rfl, m', rfl, hm⟩ := hQ
  obtain ⟨q1, q2⟩ := sets_eq h hd hm
  exact ⟨rfl, q1, m', c, rfl, by omega, q2⟩
theorem s_size (G : vx_G) (h : rel d m c) (k : Int32) : stp G M_X9_size M_X10_size [(.int k)] d m c := by
  obtain ⟨B, I, L, _, _, _, _, _, _, hs, hM, _⟩ := h.s.b
  refine ⟨_, _, by decide, kd_size G d m L hs k, fun r n' h' hP => ?_⟩
  obtain ⟨rfl, rfl, rfl⟩ := hP
  refine ⟨rfl, _, rfl, _, _, by decide, k_size G (dk _) m (sS_i hM) k, fun r' n'' h'' hQ => ?_⟩
  obtain ⟨rfl, rfl, rfl⟩ := hQ
  exact ⟨rfl, (size_eq hs hM k).symm, m, c, rfl, by omega, h⟩
theorem s_in (G : vx_G) (h : rel d m c) (k j : Int32) : stp G M_X9_in M_X10_in [(.int k), (.int j)] d m c := by
  obtain ⟨B, I, L, _, _, _, _, _, _, hs, hM, _⟩ := h.s.b
  refine ⟨_, _, by decide, kd_in G d m L hs k j, fun r n' h' hP => ?_⟩
  obtain ⟨rfl, rfl, rfl⟩ := hP
  refine ⟨rfl, _, rfl, _, _, by decide, k_in G (dk _) m (sS_i hM) (sS_s hs hM) k j, fun r' n'' h'' hQ => ?_⟩
  obtain ⟨rfl, rfl, rfl⟩ := hQ
  exact ⟨rfl, (in_eq hs hM k j).symm, m, c, rfl, by omega, h⟩
theorem s_set (G : vx_G) (h : rel d m c) (hc : c + 14 < 2147483648) (k : Int32) : stp G M_X9_set M_X10_set [(.int k)] d m c := by
  obtain ⟨B, I, L, b1, b2, b3, b4, b5, b6, hs, hM, b9⟩ := h.s.b
  refine ⟨_, _, by decide, kd_set G d m h.j.G h.dX h.dA L hs B I (fun _ => ⟨⟨b4, b1⟩, b6, b2⟩) k, fun r n' h' hP => ?_⟩
  obtain ⟨rfl, g, rfl, hd⟩ := hP
  refine ⟨rfl, g, rfl, _, _, by decide, k_set G (dk g) m h.i.G h.k.A (sS_i hM) (sS_s hs hM) (sS_t hs hM b1 b2 b3 b5).2.2 k, fun r' n'' h'' hQ => ?_⟩
  obtain ⟨rfl, m', rfl, hm⟩ := hQ
  obtain ⟨q1, c', q2, q3⟩ := set_eq h (by omega) b1 b2 b3 b5 hs hM b9 hd hm
  exact ⟨rfl, q1, m', c', rfl, q2, q3⟩
/-! hands -/
theorem hand_eq (h : rel d m c) (hc : c + 14 < 2147483648) {a b r r' : Int32} {d' m' : mS} (hd : handD d a b r d') (hm : handR m a b r' m') : r' = r ∧ ∃ c', c' ≤ c + 14 ∧ rel d' m' c' := by
  have he := h.k.e
  unfold handD at hd
  unfold handR at hm
  have e1 : (isLn d (nI 0) a ∧ isLn d (nI 1) b) ↔ (isLn m (nI 0) a ∧ isLn m (nI 1) b) := by rw [q_isLn he, q_isLn he]
  by_cases ok : isLn m (nI 0) a ∧ isLn m (nI 1) b
  · rw [if_pos (e1.mpr ok)] at hd
    rw [if_pos ok] at hm
    obtain ⟨a1, a2, a3⟩ := ln_in0 h.i.L ok.1
    obtain ⟨b1, b2, b3⟩ := ln_in1 h.i.L ok.2
    have f0 : d.1 5 (nv a) = m.1 5 (nv a) := by
      have := he.a 5 (by decide) 0 (by decide) (nv a) a2
      rwa [show 80 * 0 + nv a = nv a by omega] at this
    have f1 : d.1 5 (80 + nv b) = m.1 5 (80 + nv b) := he.a 5 (by decide) 1 (by decide) (nv b) b2
    rw [f0, f1, q_nG he] at hd
    by_cases br : m.1 5 (nv a) < 0 ∧ m.1 5 (80 + nv b) < 0
    · rw [if_pos br] at hd hm
      by_cases full : nG m = 200
      · rw [if_pos full] at hd hm
        obtain ⟨rfl, rfl⟩ := hd
        obtain ⟨rfl, rfl⟩ := hm
        exact ⟨rfl, h.same rfl rfl⟩
      · rw [if_neg full] at hd hm
        obtain ⟨rfl, rfl⟩ := hd
        obtain ⟨rfl, hm⟩ := hm
        have g2 : nG m < 200 := by have := h.i.G.2; omega
        have n0 : m.1 5 (nv a) = -1 := by
          have := h.i.N 0 (by decide) (nv a) a2
          rw [show 80 * 0 + nv a = nv a by omega] at this
          exact this br.1
        have n1 : m.1 5 (80 + nv b) = -1 := h.i.N 1 (by decide) (nv b) b2 br.2
        have ho := ab_ok h.i.L a2 b2 n0 n1
        have un := gn_un (s := nI 2) h.i g2 ho (nI 0)
        rw [hd_gN] at hm ⊢
        have kk : ∀ (e : mS) (j : Nat), 17 ≤ j → (gN e (nI 2) (ab_ (nv a) (80 + nv b)) 2).1 j = e.1 j := fun e j q => gn_k ⟨by omega, by omega, by omega, by omega, by omega, by omega, by omega, by omega⟩
        exact ⟨rfl, c + 1, by omega, rel_act h (by omega) (gn_eqv he h.i g2 (by decide)) (gn_inv h.i g2 ho) un.1 un.2 (by decide) (by omega) (fun j q => kk _ j q) (fun j q => kk _ j (by omega)) hm⟩
    · rw [if_neg br] at hd hm
      obtain ⟨rfl, rfl⟩ := hd
      obtain ⟨rfl, rfl⟩ := hm
      exact ⟨rfl, h.same rfl rfl⟩
  · rw [if_neg (fun q => ok (e1.mp q))] at hd
    rw [if_neg ok] at hm
    obtain ⟨rfl, rfl⟩ := hd
    obtain ⟨rfl, rfl⟩ := hm
    exact ⟨rfl, h.same rfl rfl⟩
theorem s_hand (G : vx_G) (h : rel d m c) (hc : c + 14 < 2147483648) (a b : Int32) : stp G M_X9_hand M_X10_hand [(.int a), (.int b)] d m c := by
  refine ⟨_, _, by decide, kd_hand G d m h.j.L h.j.N h.j.G h.dX h.dA a b, fun r n' h' hP => ?_⟩
  obtain ⟨rfl, d', rfl, hd⟩ := hP
  refine ⟨rfl, d', rfl, _, _, by decide, k_hand G (dk d') m h.i.L h.i.G h.k.A a b, fun r' n'' h'' hQ => ?_⟩
  obtain ⟨rfl, m', rfl, hm⟩ := hQ
  obtain ⟨q1, c', q2, q3⟩ := hand_eq h hc hd hm
  exact ⟨rfl, q1, m', c', rfl, q2, q3⟩
theorem lk_eqv {g : Nat} {s : Int32} (h : eqv d m) : eqv (mset d 15 g s) (mset m 15 g s) := gs_eqv h (by decide)
theorem gr_in (hG : iG m) {g : Int32} (h : isGr m g) : g = nI (nv g) ∧ nv g < nG m ∧ m.1 14 (nv g) < 0 := by
  obtain ⟨k, k1, rfl, k3⟩ := isGr_nat hG h
  have := hG.2
  rw [nv_nI (by omega)]
  exact ⟨rfl, k1, k3⟩
theorem lock_eq (h : rel d m c) (hc : c + 14 < 2147483648) {g s r r' : Int32} {d' m' : mS} (hd : lockD d g s r d') (hm : lockR m g s r' m') : r' = r ∧ ∃ c', c' ≤ c + 14 ∧ rel d' m' c' := by
  have he := h.k.e
  unfold lockD at hd
  unfold lockR at hm
  have eg : (isGr d g ∧ nI 0 ≤ s ∧ s ≤ nI 1) ↔ (isGr m g ∧ nI 0 ≤ s ∧ s ≤ nI 1) := and_congr (q_isGr he h.i.G) Iff.rfl
  by_cases ok : isGr m g ∧ nI 0 ≤ s ∧ s ≤ nI 1
  · rw [if_pos (eg.mpr ok)] at hd
    rw [if_pos ok] at hm
    obtain ⟨g1, g2, g3⟩ := gr_in h.i.G ok.1
    have g200 := h.i.G.2
    obtain ⟨rfl, rfl⟩ := hd
    obtain ⟨rfl, hm⟩ := hm
    have e15 : d.1 15 (nv g) = m.1 15 (nv g) := (he.r _ g2).2.2.2.2
    have ev : (if m.1 15 (nv g) = 0 then nI 0 else nI 1) = m.1 15 (nv g) := by
      rcases h.i.K _ g2 with q | q
      · rw [q]; rfl
      · rw [q]; rfl
    have es : (if s = nI 1 then nI 1 else nI 0) = s := by
      obtain ⟨j, j1, rfl⟩ := w_nat ok.2 (by decide)
      rcases (show j = 0 ∨ j = 1 by omega) with rfl | rfl <;> rfl
    have s01 : s = nI 0 ∨ s = nI 1 := by
      obtain ⟨j, j1, rfl⟩ := w_nat ok.2 (by decide)
      rcases (show j = 0 ∨ j = 1 by omega) with rfl | rfl
      · exact Or.inl rfl
      · exact Or.inr rfl
    rw [ev, es] at hm
    rw [ev, e15]
    have un := lk_un (s := s) h.i g2
    have key := rel_act (d1 := mset d 15 (nv g) s) (k := 4) (O := nv g) (w := m.1 15 (nv g)) h (by omega) (lk_eqv he) (lk_inv h.i g2 s01) un.1 un.2 (by decide) (by omega) (fun j q => mset_ne (by omega)) (fun j q => mset_ne (by omega)) (by rw [← g1]; exact hm)
    rw [← g1] at key
    exact ⟨rfl, c + 1, by omega, key⟩
  · rw [if_neg (fun q => ok (eg.mp q))] at hd
    rw [if_neg ok] at hm
    obtain ⟨rfl, rfl⟩ := hd
    obtain ⟨rfl, rfl⟩ := hm
    exact ⟨rfl, h.same rfl rfl⟩
theorem s_lock (G : vx_G) (h : rel d m c) (hc : c + 14 < 2147483648) (g s : Int32) : stp G M_X9_lock M_X10_lock [(.int g), (.int s)] d m c := by
  refine ⟨_, _, by decide, kd_lock G d m h.j.G h.j.P h.dX h.dA g s, fun r n' h' hP => ?_⟩
  obtain ⟨rfl, d', rfl, hd⟩ := hP
  refine ⟨rfl, d', rfl, _, _, by decide, k_lock G (dk d') m h.i.G h.k.A g s, fun r' n'' h'' hQ => ?_⟩
  obtain ⟨rfl, m', rfl, hm⟩ := hQ
  obtain ⟨q1, c', q2, q3⟩ := lock_eq h hc hd hm
  exact ⟨rfl, q1, m', c', rfl, q2, q3⟩
theorem part_eq (h : rel d m c) (hc : c + 14 < 2147483648) {g r r' : Int32} {d' m' : mS} (hd : partD d g r d') (hm : partR m g r' m') : r' = r ∧ ∃ c', c' ≤ c + 14 ∧ rel d' m' c' := by
  have he := h.k.e
  unfold partD at hd
  unfold partR at hm
  have eg : isGr d g ↔ isGr m g := q_isGr he h.i.G
  by_cases ok : isGr m g
  · rw [if_pos (eg.mpr ok)] at hd
    rw [if_pos ok] at hm
    obtain ⟨g1, g2, g3⟩ := gr_in h.i.G ok
    have g200 := h.i.G.2
    have e15 : d.1 15 (nv g) = m.1 15 (nv g) := (he.r _ g2).2.2.2.2
    rw [e15] at hd
    by_cases lk : m.1 15 (nv g) = 0
    · rw [if_pos lk] at hd hm
      obtain ⟨rfl, rfl⟩ := hd
      obtain ⟨rfl, hm⟩ := hm
      have un := pm_un h.i g2 g3 (nI 0)
      have key := rel_act (d1 := pM d (nv g)) (k := 3) (O := nv g) (w := nI 0) h (by omega) (pm_eqv he g2) (pm_inv h.i g2 g3) un.1 un.2 (by decide) (by omega) (fun j q => pm_k (by omega) (by omega)) (fun j q => pm_k (by omega) (by omega)) (by rw [← g1]; exact hm)
      rw [← g1] at key
      exact ⟨((he.r _ g2).2.1).symm, c + 1, by omega, key⟩
    · rw [if_neg lk] at hd hm
      obtain ⟨rfl, rfl⟩ := hd
      obtain ⟨rfl, rfl⟩ := hm
      exact ⟨rfl, h.same rfl rfl⟩
  · rw [if_neg (fun q => ok (eg.mp q))] at hd
    rw [if_neg ok] at hm
    obtain ⟨rfl, rfl⟩ := hd
    obtain ⟨rfl, rfl⟩ := hm
    exact ⟨rfl, h.same rfl rfl⟩
theorem s_part (G : vx_G) (h : rel d m c) (hc : c + 14 < 2147483648) (g : Int32) : stp G M_X9_part M_X10_part [(.int g)] d m c := by
  refine ⟨_, _, by decide, kd_part G d m h.j.G h.j.P h.j.M h.j.K h.dX h.dA g, fun r n' h' hP => ?_⟩
  obtain ⟨rfl, d', rfl, hd⟩ := hP
  refine ⟨rfl, d', rfl, _, _, by decide, k_part G (dk d') m h.i.G h.k.A h.i.M g, fun r' n'' h'' hQ => ?_⟩
  obtain ⟨rfl, m', rfl, hm⟩ := hQ
  obtain ⟨q1, c', q2, q3⟩ := part_eq h hc hd hm
  exact ⟨rfl, q1, m', c', rfl, q2, q3⟩
end STEPS2
