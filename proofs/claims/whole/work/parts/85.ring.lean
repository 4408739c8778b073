/-! ===== the relation, 7: the desk's ring of acts ===== -/
abbrev rp (d : mS) (n t : Nat) : Nat := (nX d + 60 - n + t) % 60
abbrev ring (d : mS) (m : mS) : Prop := (iX d) ∧ (d.1 46 0 = m.1 46 0) ∧ (∀ t, t < nA m → d.1 51 (rp d (nA m) t) = m.1 43 t ∧ d.1 52 (rp d (nA m) t) = m.1 44 t ∧ d.1 53 (rp d (nA m) t) = m.1 45 t)
theorem ring.x {d : mS} {m : mS} (h_ : ring d m) : iX d := h_.1
theorem ring.n {d : mS} {m : mS} (h_ : ring d m) : d.1 46 0 = m.1 46 0 := h_.2.1
theorem ring.a {d : mS} {m : mS} (h_ : ring d m) : ∀ t, t < nA m → d.1 51 (rp d (nA m) t) = m.1 43 t ∧ d.1 52 (rp d (nA m) t) = m.1 44 t ∧ d.1 53 (rp d (nA m) t) = m.1 45 t := h_.2.2
section RING
variable {d m : mS}
theorem ring_A (h : ring d m) (hA : iA m) : iA d ∧ nA d = nA m := by
  have e : nA d = nA m := by unfold nA; rw [h.n]
  exact ⟨⟨by rw [e, h.n]; exact hA.1, by rw [e]; exact hA.2⟩, e⟩
theorem ring_k {d' m' : mS} (h : ring d m) (e46 : d'.1 46 = d.1 46) (e51 : d'.1 51 = d.1 51) (e52 : d'.1 52 = d.1 52) (e53 : d'.1 53 = d.1 53) (e54 : d'.1 54 = d.1 54) (m46 : m'.1 46 = m.1 46) (m43 : m'.1 43 = m.1 43) (m44 : m'.1 44 = m.1 44) (m45 : m'.1 45 = m.1 45) : ring d' m' := by
  have nx : nX d' = nX d := by unfold nX; rw [e54]
  have na : nA m' = nA m := by unfold nA; rw [m46]
  refine ⟨iX_k e54 h.x, by rw [e46, m46]; exact h.n, fun t ht => ?_⟩
  rw [na] at ht ⊢
  show d'.1 51 ((nX d' + 60 - nA m + t) % 60) = _ ∧ d'.1 52 ((nX d' + 60 - nA m + t) % 60) = _ ∧ d'.1 53 ((nX d' + 60 - nA m + t) % 60) = _
  rw [nx, e51, e52, e53, m43, m44, m45]
  exact h.a t ht
theorem co_at {kd o w : Int32} : (coD d kd o w).1 51 (nX d) = kd ∧ (coD d kd o w).1 52 (nX d) = o ∧ (coD d kd o w).1 53 (nX d) = w ∧ (∀ x, x ≠ nX d → (coD d kd o w).1 51 x = d.1 51 x ∧ (coD d kd o w).1 52 x = d.1 52 x ∧ (coD d kd o w).1 53 x = d.1 53 x) ∧ (coD d kd o w).1 50 0 = d.1 50 0 + nI 1 := by
  unfold coD puD
  refine ⟨?_, ?_, ?_, fun x hx => ⟨?_, ?_, ?_⟩, mset_at _ _ _ _⟩
  · rw [mset_ne (by decide), mset_ne (by decide), mset_ne (by decide), mset_ne (by decide), mset_ne (by decide), mset_at]
  · rw [mset_ne (by decide), mset_ne (by decide), mset_ne (by decide), mset_ne (by decide), mset_at]
  · rw [mset_ne (by decide), mset_ne (by decide), mset_ne (by decide), mset_at]
  · rw [mset_ne (by decide), mset_ne (by decide), mset_ne (by decide), mset_ne (by decide), mset_ne (by decide), mset_off hx]
  · rw [mset_ne (by decide), mset_ne (by decide), mset_ne (by decide), mset_ne (by decide), mset_off hx, mset_ne (by decide)]
  · rw [mset_ne (by decide), mset_ne (by decide), mset_ne (by decide), mset_off hx, mset_ne (by decide), mset_ne (by decide)]
/-- an act more on both sides -/
theorem ring_co {m' : mS} {kd o w : Int32} (h : ring d m) (hA : iA m) (hd : didR m kd o w m') : ring (coD d kd o w) m' := by
  obtain ⟨d1, d2, d3, d4, d5, d6, d7⟩ := hd
  have ra := ring_A h hA
  have l := hA.2
  have cx := coD_X (kd := kd) (o := o) (w := w) h.x
  have ca := coD_A (kd := kd) (o := o) (w := w) ra.1
  have at_ := co_at (d := d) (kd := kd) (o := o) (w := w)
  have lx := h.x.2
  have dd : dOff d = dOff m := by unfold dOff; rw [ra.2]
  have n' : nA m' = nA m - dOff m + 1 := by
    show nv (m'.1 46 0) = _
    rw [d5]; exact nv_nI (by omega)
  refine ⟨cx.1, ?_, fun t ht => ?_⟩
  · rw [ca.1.1, ca.2, ra.2, dd, d5]
  · rw [n'] at ht ⊢
    show (coD d kd o w).1 51 ((nX (coD d kd o w) + 60 - (nA m - dOff m + 1) + t) % 60) = _ ∧ (coD d kd o w).1 52 ((nX (coD d kd o w) + 60 - (nA m - dOff m + 1) + t) % 60) = _ ∧ (coD d kd o w).1 53 ((nX (coD d kd o w) + 60 - (nA m - dOff m + 1) + t) % 60) = _
    rw [cx.2]
    rcases Nat.lt_or_ge t (nA m - dOff m) with q | q
    · have z := d6 t q
      rw [z.1, z.2.1, z.2.2]
      have pe : ((nX d + 1) % 60 + 60 - (nA m - dOff m + 1) + t) % 60 = (nX d + 60 - nA m + (t + dOff m)) % 60 ∧ (nX d + 60 - nA m + (t + dOff m)) % 60 ≠ nX d := by
        by_cases e : nA m = 60
        · have eo : dOff m = 1 := if_pos e
          rw [eo] at q ⊢
          rw [e] at q ⊢
          omega
        · have eo : dOff m = 0 := if_neg e
          rw [eo] at q ⊢
          omega
      rw [pe.1]
      have oo := at_.2.2.2.1 _ pe.2
      rw [oo.1, oo.2.1, oo.2.2]
      exact h.a (t + dOff m) (by
        have : dOff m ≤ 1 := by unfold dOff; split <;> omega
        omega)
    · have et : t = nA m - dOff m := by omega
      have pe : ((nX d + 1) % 60 + 60 - (nA m - dOff m + 1) + t) % 60 = nX d := by
        have : nA m - dOff m + 1 ≤ 60 := by unfold dOff; split <;> omega
        omega
      rw [pe, et, d7.1, d7.2.1, d7.2.2]
      exact ⟨at_.1, at_.2.1, at_.2.2.1⟩
/-- the newest act -/
theorem ring_top (h : ring d m) (hA : iA m) (h0 : nA m ≠ 0) : d.1 51 (actAt d) = m.1 43 (nA m - 1) ∧ d.1 52 (actAt d) = m.1 44 (nA m - 1) ∧ d.1 53 (actAt d) = m.1 45 (nA m - 1) := by
  have z := h.a (nA m - 1) (by omega)
  have l := hA.2
  have e : rp d (nA m) (nA m - 1) = actAt d := by
    show (nX d + 60 - nA m + (nA m - 1)) % 60 = (nX d + 59) % 60
    have := h.x.2
    congr 1
    omega
  rw [e] at z
  exact z
theorem tk_at : (tkD d).1 54 0 = nI ((nX d + 59) % 60) ∧ (tkD d).1 46 0 = nI (nA d - 1) := by
  unfold tkD
  exact ⟨by rw [mset_ne (by decide), mset_at], mset_at _ _ _ _⟩
theorem ring_tk {m' : mS} (h : ring d m) (hA : iA m) (h0 : nA m ≠ 0) (m46 : m'.1 46 0 = nI (nA m - 1)) (m43 : m'.1 43 = m.1 43) (m44 : m'.1 44 = m.1 44) (m45 : m'.1 45 = m.1 45) : ring (tkD d) m' := by
  have ra := ring_A h hA
  have l := hA.2
  have lx := h.x.2
  have nx : nX (tkD d) = (nX d + 59) % 60 := by
    show nv ((tkD d).1 54 0) = _
    rw [tk_at.1]; exact nv_nI (by omega)
  have n' : nA m' = nA m - 1 := by
    show nv (m'.1 46 0) = _
    rw [m46]; exact nv_nI (by omega)
  refine ⟨⟨by rw [nx]; exact tk_at.1, by rw [nx]; exact Nat.mod_lt _ (by decide)⟩, by rw [tk_at.2, m46, ra.2], fun t ht => ?_⟩
  rw [n'] at ht ⊢
  show (tkD d).1 51 ((nX (tkD d) + 60 - (nA m - 1) + t) % 60) = _ ∧ (tkD d).1 52 ((nX (tkD d) + 60 - (nA m - 1) + t) % 60) = _ ∧ (tkD d).1 53 ((nX (tkD d) + 60 - (nA m - 1) + t) % 60) = _
  rw [nx, show ((nX d + 59) % 60 + 60 - (nA m - 1) + t) % 60 = (nX d + 60 - nA m + t) % 60 by omega, tk_ne (by decide) (by decide), tk_ne (by decide) (by decide), tk_ne (by decide) (by decide), m43, m44, m45]
  exact h.a t (by omega)
/-- no act can be undone any more -/
theorem ring_eu {m' : mS} (h : ring d m) (m46 : m'.1 46 0 = nI 0) : ring (euD d) m' := by
  have e54 : (euD d).1 54 = d.1 54 := by unfold euD; rw [mset_ne (by decide), mset_ne (by decide)]
  have n' : nA m' = 0 := by
    show nv (m'.1 46 0) = _
    rw [m46]; exact nv_nI (by decide)
  refine ⟨iX_k e54 h.x, ?_, fun t ht => by omega⟩
  rw [m46]
  unfold euD
  rw [mset_ne (by decide), mset_at]
end RING
