/-! ===== the answers of the plain calls are alike ===== -/
section ANS
variable {d m : mS}
theorem q_ha (h : eqv d m) {g a : Nat} (hg : g < nG m) : fb_ct (atB d g a) (nM d g) = fb_ct (atB m g a) (nM m g) := by
  rw [q_nM h hg]
  refine fb_ct_cong (fun k hk => ?_)
  unfold atB
  rw [q_mb h hg hk]
theorem q_hG (h : eqv d m) {t : Int32} {a : Nat} : fb_ct (hG_ d t a) (nG d) = fb_ct (hG_ m t a) (nG m) := by
  rw [q_nG h]
  refine fb_ct_cong (fun g hg => ?_)
  unfold hG_
  rw [q_ha h hg]
  exact decide_eq_decide.mpr ⟨fun q => ⟨(q_was h hg).mp q.1, q.2⟩, fun q => ⟨(q_was h hg).mpr q.1, q.2⟩⟩
theorem q_inL (h : eqv d m) {a : Nat} (ha : a < 160) : inL d a ↔ inL m a := by
  unfold inL
  rw [q_nL h (by omega)]
theorem q_unh (h : eqv d m) {t : Int32} {a : Nat} (ha : a < 160) : unh d t a ↔ unh m t a := by
  unfold unh
  rw [q_hG h]
  constructor
  · rintro ⟨⟨h1, h2⟩, h3⟩
    have l := (q_inL h ha).mp h1
    exact ⟨⟨l, by rw [← q_at h (by decide) ha l]; exact h2⟩, h3⟩
  · rintro ⟨⟨h1, h2⟩, h3⟩
    exact ⟨⟨(q_inL h ha).mpr h1, by rw [q_at h (by decide) ha h1]; exact h2⟩, h3⟩
theorem q_aT (h : eqv d m) {t w : Int32} {a : Nat} (ha : a < 160) : aT d t w a = aT m t w a := by
  unfold aT
  by_cases q : unh m t a
  · rw [if_pos q, if_pos ((q_unh h ha).mpr q), q_at h (by decide) ha q.1.1]
  · rw [if_neg q, if_neg (fun z => q ((q_unh h ha).mp z))]
theorem q_asV (h : eqv d m) (t w : Int32) : asV d t w = asV m t w := by
  have e1 : fb_ct (wsB d t) (nG d) = fb_ct (wsB m t) (nG m) := by
    rw [q_nG h]
    exact fb_ct_cong (fun g hg => by unfold wsB; exact decide_eq_decide.mpr (q_was h hg))
  unfold asV okAs
  rw [e1, fb_si_ext (f := aT d t w) (g := aT m t w) (fun k hk => q_aT h hk), h.n]
theorem as_eq (h : eqv d m) (hm : inv m) (t w : Int32) : asD d t w = asV m t w := by
  have hd := inv_eqv h hm
  rw [as_own hd.L hd.G hd.M hd.F, q_asV h]
theorem told_eq (h : eqv d m) (hm : inv m) (b i w : Int32) : (if isLn d b i then toldV d b i w else -2000000) = (if isLn m b i then toldV m b i w else -2000000) := by
  by_cases q : isLn m b i
  · rw [if_pos q, if_pos ((q_isLn h).mpr q)]
    have e := fun k (hk : k < 6) => q_ln h hm.L q hk
    unfold toldV
    simp only [e 0 (by decide), e 1 (by decide), e 2 (by decide), e 3 (by decide), e 4 (by decide), e 5 (by decide), h.n]
  · rw [if_neg q, if_neg (fun z => q ((q_isLn h).mp z))]
theorem group_eq (h : eqv d m) (hm : inv m) (g w : Int32) : (if isMd d g then gvD d (nv g) w else -20000000) = (if isMd m g then grV m (nv g) w else -20000000) := by
  unfold isMd
  rw [h.g]
  by_cases q : nI 0 ≤ g ∧ g < m.1 16 0
  · rw [if_pos q, if_pos q]
    have gi := (md_in hm.G q).2.1
    have r := h.r _ gi
    have e15 : d.1 15 (nv g) = (if m.1 15 (nv g) = 0 then nI 0 else nI 1) := by
      rw [r.2.2.2.2]
      rcases hm.K _ gi with e | e
      · rw [e]; rfl
      · rw [e]; rfl
    unfold gvD grV zL zI
    rw [q_gDf h hm.V gi, Int64.toInt32_ofInt, r.1, r.2.1, r.2.2.1, r.2.2.2.1, e15]
  · rw [if_neg q, if_neg q]
theorem count_eq (h : eqv d m) (h46 : d.1 46 0 = m.1 46 0) (w : Int32) : cntV d w = cntV m w := by
  unfold cntV
  rw [h.l 0 (by decide), h.l 1 (by decide), h.g, q_thG h, h46, h.n]
theorem fit_eq (h : eqv d m) (hm : inv m) (a b : Int32) : fitR d a b = fitR m a b := by
  unfold fitR
  by_cases q : isLn m (nI 0) a ∧ isLn m (nI 1) b
  · rw [if_pos q, if_pos ⟨(q_isLn h).mpr q.1, (q_isLn h).mpr q.2⟩]
    have l0 := ln_in hm.L q.1
    have l1 := ln_in hm.L q.2
    have e0 : nv (nI 0) = 0 := nv_nI (by decide)
    have e1 : nv (nI 1) = 1 := nv_nI (by decide)
    rw [e0] at l0
    rw [e1] at l1
    have k0 := (hm.L 0 (by decide)).2
    have k1 := (hm.L 1 (by decide)).2
    obtain ⟨_, _, l0, _⟩ := l0
    obtain ⟨_, _, l1, _⟩ := l1
    exact q_fitV h hm.V ⟨by omega, by rw [Nat.mod_eq_of_lt (by omega), Nat.div_eq_of_lt (by omega)]; exact l0⟩ ⟨by omega, by rw [show (80 + nv b) % 80 = nv b by omega, show (80 + nv b) / 80 = 1 by omega]; exact l1⟩
  · rw [if_neg q, if_neg (fun z => q ⟨(q_isLn h).mp z.1, (q_isLn h).mp z.2⟩)]
end ANS
