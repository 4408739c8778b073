/-! ===== each call: the desk, then the model ===== -/
/-- from (d, m) the desk's method and then the model's answer alike and leave the relation -/
def stp (G : vx_G) (Md Mm : vx_M) (As : List Value) (d m : mS) (c : Nat) : Prop :=
  ∃ (dd : Nat) (P : Int32 → Nat → vx_H → Prop), dd ≤ 24 ∧ xK G Md dd (.ref 0 :: As) NT (hp (dk d) m) 0 0 (QI P) ∧ ∀ r n' h', P r n' h' → n' = NT ∧ ∃ d', h' = hp (dk d') m ∧ ∃ (dm : Nat) (Q : Int32 → Nat → vx_H → Prop), dm ≤ 24 ∧ xK G Mm dm (.ref MB :: As) NT (hp (dk d') m) 0 0 (QI Q) ∧ ∀ r' n'' h'', Q r' n'' h'' → n'' = NT ∧ r' = r ∧ ∃ m' c', h'' = hp (dk d') m' ∧ c' ≤ c + 14 ∧ rel d' m' c'
def stpJ (G : vx_G) (Md Mm : vx_M) (As : List Value) (d m : mS) (c : Nat) : Prop :=
  ∃ (dd : Nat) (P : Int64 → Nat → vx_H → Prop), dd ≤ 24 ∧ xK G Md dd (.ref 0 :: As) NT (hp (dk d) m) 0 0 (QJ P) ∧ ∀ r n' h', P r n' h' → n' = NT ∧ ∃ d', h' = hp (dk d') m ∧ ∃ (dm : Nat) (Q : Int64 → Nat → vx_H → Prop), dm ≤ 24 ∧ xK G Mm dm (.ref MB :: As) NT (hp (dk d') m) 0 0 (QJ Q) ∧ ∀ r' n'' h'', Q r' n'' h'' → n'' = NT ∧ r' = r ∧ ∃ m' c', h'' = hp (dk d') m' ∧ c' ≤ c + 14 ∧ rel d' m' c'
section STEPS
variable {d m : mS} {c : Nat}
theorem rel.dA (h : rel d m c) : iA d := (ring_A h.k.R h.k.A).1
theorem rel.dX (h : rel d m c) : iX d := h.k.R.x
theorem rel.i (h : rel d m c) : inv m := h.k.i
theorem rel.j (h : rel d m c) : inv d := h.k.di
theorem rel.same {d' m' : mS} (h : rel d m c) (e1 : d' = d) (e2 : m' = m) : ∃ c', c' ≤ c + 14 ∧ rel d' m' c' := ⟨c, by omega, by rw [e1, e2]; exact h⟩
/-! line -/
theorem line_eq (h : rel d m c) (hc : c + 14 < 2147483648) {b v dm w r r' : Int32} {d' m' : mS} (hd : lineD d b v dm w r d') (hm : lineR m b v dm w r' m') : r' = r ∧ ∃ c', c' ≤ c + 14 ∧ rel d' m' c' := by
  unfold lineD at hd
  unfold lineR at hm
  by_cases ok : okLn b v dm w
  · rw [if_pos ok] at hd hm
    have hb : b = nI (nv b) ∧ nv b < 2 := by
      rcases nv_w (by decide) ok.1 with q | q
      · exact ⟨q.1, by omega⟩
      · exact absurd q (by decide)
    have hD : dm = nI (nv dm) ∧ nv dm < 100000000 := by
      rcases nv_w (by decide) ok.2.2.2.1 with q | q
      · exact ⟨q.1, by omega⟩
      · exact absurd q (by decide)
    rw [q_nL h.k.e hb.2] at hd
    by_cases full : nL m (nv b) = 80
    · rw [if_pos full] at hd hm
      obtain ⟨rfl, rfl⟩ := hd
      obtain ⟨rfl, rfl⟩ := hm
      exact ⟨rfl, h.same rfl rfl⟩
    · rw [if_neg full] at hd hm
      obtain ⟨rfl, rfl⟩ := hd
      obtain ⟨rfl, hm⟩ := hm
      have l8 : nL m (nv b) < 80 := by have := (h.i.L _ hb.2).2; omega
      have hv : amB v := by
        have q1 := iLE.mp ok.2.1.1
        have q2 := iLE.mp ok.2.1.2
        have e1 : (-1000000 : Int32).toInt = -1000000 := by decide
        rw [e1] at q1
        rw [nI_T _ (by decide)] at q2
        exact ⟨q1, by omega⟩
      have un := lm_un (v := v) (D := nv dm) (w := w) h.i hb.2 l8 (nI 0)
      rw [hb.1] at hm ⊢
      rw [nv_nI (by omega)] at hm ⊢
      refine ⟨rfl, c + 1, by omega, rel_act h (by omega) (lm_eqv h.k.e h.i.L hb.2 l8) (lm_inv h.i hb.2 l8 hv hD.2) un.1 un.2 (by decide) (by omega) (fun j q => lm_7 (by omega)) (fun j q => lm_7 (by omega)) hm⟩
  · rw [if_neg ok] at hd hm
    obtain ⟨rfl, rfl⟩ := hd
    obtain ⟨rfl, rfl⟩ := hm
    exact ⟨rfl, h.same rfl rfl⟩
theorem s_line (G : vx_G) (h : rel d m c) (hc : c + 14 < 2147483648) (b v dm w : Int32) : stp G M_X9_line M_X10_line [(.int b), (.int v), (.int dm), (.int w)] d m c := by
  refine ⟨_, _, by decide, kd_line G d m h.j.L h.dX h.dA b v dm w, fun r n' h' hP => ?_⟩
  obtain ⟨rfl, d', rfl, hd⟩ := hP
  refine ⟨rfl, d', rfl, _, _, by decide, k_line G (dk d') m h.i.L h.k.A b v dm w, fun r' n'' h'' hQ => ?_⟩
  obtain ⟨rfl, m', rfl, hm⟩ := hQ
  obtain ⟨q1, c', q2, q3⟩ := line_eq h hc hd hm
  exact ⟨rfl, q1, m', c', rfl, q2, q3⟩
/-! today, terms -/
theorem rel_eu {d1 m' : mS} (h : rel d m c) (hc : c + 14 < 2147483648) (he : eqv d1 m') (hi : inv m') (dd : ∀ j, 46 ≤ j → d1.1 j = d.1 j) (h17 : m'.1 17 0 = 0) (h30 : m'.1 30 0 = 0) (h46 : m'.1 46 0 = nI 0) (mm : ∀ j, 22 ≤ j → j ≤ 42 → j ≠ 30 → m'.1 j = m.1 j) : rel (euD d1) m' (c + 1) := by
  have na : nA m' = 0 := by show nv (m'.1 46 0) = 0; rw [h46]; exact nv_nI (by decide)
  have k1 : ∀ j, j ≠ 46 → j ≠ 50 → (euD d1).1 j = d1.1 j := fun j q1 q2 => by unfold euD; rw [mset_ne q2, mset_ne q1]
  have r1 : ring d1 m := ring_k h.k.R (dd 46 (by omega)) (dd 51 (by omega)) (dd 52 (by omega)) (dd 53 (by omega)) (dd 54 (by omega)) rfl rfl rfl rfl
  refine rel_st h ⟨eqv_trans (core_eqv (fun j q => k1 j (by omega) (by omega))) he, ?_, ⟨by rw [na]; exact h46, by rw [na]; decide⟩, ring_eu r1 h46, fun t ht => ?_⟩ (Nat.le_refl 1) (by omega) ?_ (fun j q => ?_) mm h17 h30
  · rw [na]; exact hi
  · rw [na] at ht; exact absurd ht (Nat.not_lt_zero t)
  · unfold euD
    rw [mset_at, dd 50 (by omega), h.c0]; exact nI_add c 1
  · rw [k1 j (by omega) (by omega)]; exact dd j (by omega)
theorem ch_at2 (m : mS) : (chM m).1 17 0 = 0 ∧ (chM m).1 30 0 = 0 ∧ (chM m).1 46 0 = nI 0 ∧ ∀ j, j ≠ 17 → j ≠ 30 → j ≠ 46 → (chM m).1 j = m.1 j := by
  unfold chM
  refine ⟨?_, ?_, mset_at _ _ _ _, fun j q1 q2 q3 => ?_⟩
  · rw [mset_ne (by decide), mset_ne (by decide), mset_at]; rfl
  · rw [mset_ne (by decide), mset_at]; rfl
  · rw [mset_ne q3, mset_ne q2, mset_ne q1]
theorem today_eq (h : rel d m c) (hc : c + 14 < 2147483648) (t : Int32) (ok : m.1 7 0 ≤ t ∧ t ≤ nI 99999) : ∃ c', c' ≤ c + 14 ∧ rel (toD d t) (toM m t) c' := by
  unfold toD toM
  rw [h.k.e.n]
  by_cases q : t = m.1 7 0
  · rw [if_pos q, if_pos q]
    exact h.same rfl rfl
  · rw [if_neg q, if_neg q]
    have cm := ch_at2 m
    have ec : eqv (chM m) m := core_eqv (fun j q => cm.2.2.2 j (by omega) (by omega) (by omega))
    have ic : inv (chM m) := inv_eqv ec h.i
    have h7 : (m.1 7 0).toInt ≤ t.toInt ∧ t.toInt ≤ 99999 := by
      have q1 := iLE.mp ok.1
      have q2 := iLE.mp ok.2
      rw [nI_T _ (by decide)] at q2
      exact ⟨q1, by omega⟩
    refine ⟨c + 1, by omega, rel_eu h hc (sc_eqv (eqv_trans h.k.e (eqv_symm ec)) (Or.inl rfl)) (sc_inv ic (Or.inl rfl) (fun _ => by rw [cm.2.2.2 7 (by decide) (by decide) (by decide)]; exact h7)) (fun j q => mset_ne (by omega)) (by rw [mset_ne (by decide)]; exact cm.1) (by rw [mset_ne (by decide)]; exact cm.2.1) (by rw [mset_ne (by decide)]; exact cm.2.2.1) (fun j q1 q2 q3 => by rw [mset_ne (by omega)]; exact cm.2.2.2 j (by omega) q3 (by omega))⟩
theorem s_today (G : vx_G) (h : rel d m c) (hc : c + 14 < 2147483648) (t : Int32) : stp G M_X9_today M_X10_today [(.int t)] d m c := by
  refine ⟨_, _, by decide, kd_today G d m t, fun r n' h' hP => ?_⟩
  obtain ⟨rfl, rfl, rfl⟩ := hP
  refine ⟨rfl, _, rfl, _, _, by decide, k_today G (dk _) m t, fun r' n'' h'' hQ => ?_⟩
  obtain ⟨rfl, rfl, rfl⟩ := hQ
  rw [h.k.e.n]
  by_cases ok : m.1 7 0 ≤ t ∧ t ≤ nI 99999
  · rw [if_pos ok, if_pos ok, if_pos ok]
    obtain ⟨c', q1, q2⟩ := today_eq h hc t ok
    exact ⟨rfl, rfl, _, c', rfl, q1, q2⟩
  · rw [if_neg ok, if_neg ok, if_neg ok]
    exact ⟨rfl, rfl, m, c, rfl, by omega, h⟩
theorem terms_eq (h : rel d m c) (hc : c + 14 < 2147483648) (s k : Int32) : ∃ c', c' ≤ c + 14 ∧ rel (teD d s k) (teM m s k) c' := by
  unfold teD teM
  rw [h.k.e.s, h.k.e.c]
  by_cases q : s = m.1 8 0 ∧ k = m.1 9 0
  · rw [if_pos q, if_pos q]
    exact h.same rfl rfl
  · rw [if_neg q, if_neg q]
    have cm := ch_at2 m
    have ec : eqv (chM m) m := core_eqv (fun j q => cm.2.2.2 j (by omega) (by omega) (by omega))
    have ic : inv (chM m) := inv_eqv ec h.i
    refine ⟨c + 1, by omega, rel_eu h hc (sc_eqv (sc_eqv (eqv_trans h.k.e (eqv_symm ec)) (Or.inr (Or.inl rfl))) (Or.inr (Or.inr rfl))) (sc_inv (sc_inv ic (Or.inr (Or.inl rfl)) (fun q => absurd q (by decide))) (Or.inr (Or.inr rfl)) (fun q => absurd q (by decide))) (fun j q => by rw [mset_ne (by omega), mset_ne (by omega)]) (by rw [mset_ne (by decide), mset_ne (by decide)]; exact cm.1) (by rw [mset_ne (by decide), mset_ne (by decide)]; exact cm.2.1) (by rw [mset_ne (by decide), mset_ne (by decide)]; exact cm.2.2.1) (fun j q1 q2 q3 => by rw [mset_ne (by omega), mset_ne (by omega)]; exact cm.2.2.2 j (by omega) q3 (by omega))⟩
theorem s_terms (G : vx_G) (h : rel d m c) (hc : c + 14 < 2147483648) (s k : Int32) : stp G M_X9_terms M_X10_terms [(.int s), (.int k)] d m c := by
  refine ⟨_, _, by decide, kd_terms G d m s k, fun r n' h' hP => ?_⟩
  obtain ⟨rfl, rfl, rfl⟩ := hP
  refine ⟨rfl, _, rfl, _, _, by decide, k_terms G (dk _) m s k, fun r' n'' h'' hQ => ?_⟩
  obtain ⟨rfl, rfl, rfl⟩ := hQ
  by_cases ok : okT s k
  · rw [if_pos ok, if_pos ok, if_pos ok]
    obtain ⟨c', q1, q2⟩ := terms_eq h hc s k
    exact ⟨rfl, rfl, _, c', rfl, q1, q2⟩
  · rw [if_neg ok, if_neg ok, if_neg ok]
    exact ⟨rfl, rfl, m, c, rfl, by omega, h⟩
/-! questions -/
theorem s_told (G : vx_G) (h : rel d m c) (b i w : Int32) : stp G M_X9_told M_X10_told [(.int b), (.int i), (.int w)] d m c := by
  refine ⟨_, _, by decide, kd_told G d m h.j.L h.j.N b i w, fun r n' h' hP => ?_⟩
  obtain ⟨rfl, rfl, rfl⟩ := hP
  refine ⟨rfl, _, rfl, _, _, by decide, k_told G (dk _) m h.i.L b i w, fun r' n'' h'' hQ => ?_⟩
  obtain ⟨rfl, rfl, rfl⟩ := hQ
  exact ⟨rfl, (told_eq h.k.e h.i b i w).symm, m, c, rfl, by omega, h⟩
theorem s_fit (G : vx_G) (h : rel d m c) (a b : Int32) : stp G M_X9_fit M_X10_fit [(.int a), (.int b)] d m c := by
  refine ⟨_, _, by decide, kd_fit G d m h.j.L h.j.G h.j.P h.j.M h.j.F a b, fun r n' h' hP => ?_⟩
  obtain ⟨rfl, rfl, rfl⟩ := hP
  refine ⟨rfl, _, rfl, _, _, by decide, k_fit G (dk _) m h.i.L h.i.G h.i.M a b, fun r' n'' h'' hQ => ?_⟩
  obtain ⟨rfl, rfl, rfl⟩ := hQ
  exact ⟨rfl, (fit_eq h.k.e h.i a b).symm, m, c, rfl, by omega, h⟩
theorem s_best (G : vx_G) (h : rel d m c) : stp G M_X9_best M_X10_best [] d m c := by
  refine ⟨_, _, by decide, kd_best G d m h.j.L h.j.N h.j.G h.j.P h.j.M h.j.F (inv_kn h.j), fun r n' h' hP => ?_⟩
  obtain ⟨rfl, d', rfl, hd⟩ := hP
  refine ⟨rfl, d', rfl, _, _, by decide, k_best G (dk d') m h.i.L h.i.G h.i.M, fun r' n'' h'' hQ => ?_⟩
  obtain ⟨rfl, m', rfl, hm⟩ := hQ
  obtain ⟨q1, q2, q3, q4, q5⟩ := best_eq h.k.e h.i h.p hd hm
  refine ⟨rfl, q1.symm, m', c, rfl, by omega, core_k h.k (fun j q => q3 j (by omega)) (fun j q => q4 j (by unfold isPr; omega)), by rw [q3 50 (by omega)]; exact h.c0, ?_, by rw [q3 88 (by omega)]; exact h.c2, q2, srel_k h.s (fun j q => q3 j (by omega)) (fun j q => q4 j (by unfold isPr; omega)), exq_k h.x (fun j a b => q3 j (by omega)) (fun j a b => q4 j (by unfold isPr; omega))⟩
  rcases q5 with q | q
  · rw [q]; exact h.c1
  · exact Or.inr ⟨c, Nat.le_refl _, q.trans h.c0⟩
theorem s_with (G : vx_G) (h : rel d m c) (a : Int32) : stp G M_X9_with M_X10_with [(.int a)] d m c := by
  obtain ⟨k, k1, k2⟩ := h.p.k
  refine ⟨_, _, by decide, kd_with G d m k k1 k2 (fun q i hi hn => ?_) a, fun r n' h' hP => ?_⟩
  · obtain ⟨n, T, z⟩ := h.p.f (h.p.fr.mp q)
    have hn14 := z.n14
    have hT := z.T14
    have e : k = n := nI_inj (by omega) (by omega) (k2.symm.trans z.d61)
    subst e
    rw [(z.p i hi).2.1] at hn ⊢
    obtain ⟨j, j1, j2⟩ := pI_in hn
    rw [j2, nv_nI (by omega)]
    exact ⟨rfl, by omega⟩
  · obtain ⟨hd, rfl, rfl⟩ := hP
    by_cases q : m.1 17 0 = 0
    · refine ⟨rfl, _, rfl, _, _, by decide, k_with0 G (dk _) m q a, fun r' n'' h'' hQ => ?_⟩
      obtain ⟨rfl, rfl, rfl⟩ := hQ
      exact ⟨rfl, (with_no h.p hd q).symm, m, c, rfl, by omega, h⟩
    · obtain ⟨n, T, z⟩ := h.p.f q
      refine ⟨rfl, _, rfl, _, _, by decide, k_with G (dk _) m z.iP z.iW a, fun r' n'' h'' hQ => ?_⟩
      obtain ⟨hm, rfl, rfl⟩ := hQ
      exact ⟨rfl, (with_eq h.i h.p k1 k2 hd q hm).symm, m, c, rfl, by omega, h⟩
end STEPS
