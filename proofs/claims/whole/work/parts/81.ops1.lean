/-! ===== the relation, 3: a line comes; a group is locked ===== -/
section LINE
variable {m : mS} {B D : Nat} {v w : Int32}
theorem lm_7 {j : Nat} (h : 7 ≤ j) : (lineM m B v D w).1 j = m.1 j := lineM_ne h
theorem lm_o {j x : Nat} (hj : j < 6) (hx : x ≠ 80 * B + nL m B) : (lineM m B v D w).1 j x = m.1 j x := by
  unfold lineM
  rw [mset_ne (by omega)]
  have pt : ∀ (q : mS) (k : Nat) (u : Int32), (mset q k (80 * B + nL m B) u).1 j x = q.1 j x := fun q k u => by
    by_cases e : j = k
    · subst e; exact mset_off hx
    · rw [mset_ne e]
  rw [pt, pt, pt, pt, pt, pt]
theorem lm_n : (lineM m B v D w).1 0 (80 * B + nL m B) = v ∧ (lineM m B v D w).1 1 (80 * B + nL m B) = nI (D / 10000) ∧ (lineM m B v D w).1 3 (80 * B + nL m B) = nI (D % 10000) ∧ (lineM m B v D w).1 2 (80 * B + nL m B) = w ∧ (lineM m B v D w).1 4 (80 * B + nL m B) = m.1 7 0 ∧ (lineM m B v D w).1 5 (80 * B + nL m B) = -1 := by
  unfold lineM
  refine ⟨?_, ?_, ?_, ?_, ?_, ?_⟩
  · rw [mset_ne (by decide), mset_ne (by decide), mset_ne (by decide), mset_ne (by decide), mset_ne (by decide), mset_ne (by decide), mset_at]
  · rw [mset_ne (by decide), mset_ne (by decide), mset_ne (by decide), mset_ne (by decide), mset_ne (by decide), mset_at]
  · rw [mset_ne (by decide), mset_ne (by decide), mset_ne (by decide), mset_ne (by decide), mset_at]
  · rw [mset_ne (by decide), mset_ne (by decide), mset_ne (by decide), mset_at]
  · rw [mset_ne (by decide), mset_ne (by decide), mset_at]
  · rw [mset_ne (by decide), mset_at]
theorem lm_6 : (lineM m B v D w).1 6 B = nI (nL m B + 1) ∧ ∀ b, b ≠ B → (lineM m B v D w).1 6 b = m.1 6 b := by
  unfold lineM
  refine ⟨mset_at _ _ _ _, fun b hb => ?_⟩
  rw [mset_off hb, mset_ne (by decide), mset_ne (by decide), mset_ne (by decide), mset_ne (by decide), mset_ne (by decide), mset_ne (by decide)]
theorem lm_nL (h : nL m B < 80) : nL (lineM m B v D w) B = nL m B + 1 ∧ ∀ b, b ≠ B → nL (lineM m B v D w) b = nL m b := by
  refine ⟨?_, fun b hb => ?_⟩
  · show nv ((lineM m B v D w).1 6 B) = _
    rw [lm_6.1]; exact nv_nI (by omega)
  · unfold nL; rw [lm_6.2 b hb]
/-- a line of the new desk is the new one or an old one -/
theorem lm_case (hL : iL m) (h : nL m B < 80) {b i : Nat} (hb : b < 2) (hi : i < nL (lineM m B v D w) b) : (b = B ∧ i = nL m B) ∨ (i < nL m b ∧ 80 * b + i ≠ 80 * B + nL m B) := by
  have n := lm_nL (m := m) (v := v) (D := D) (w := w) h
  by_cases q : b = B
  · subst q
    rw [n.1] at hi
    rcases Nat.lt_or_ge i (nL m b) with z | z
    · exact Or.inr ⟨z, by omega⟩
    · exact Or.inl ⟨rfl, by omega⟩
  · rw [n.2 b q] at hi
    have := (hL b hb).2
    exact Or.inr ⟨hi, by omega⟩
theorem lm_inv (hm : inv m) (hB : B < 2) (h : nL m B < 80) (hv : amB v) (hD : D < 100000000) : inv (lineM m B v D w) := by
  have hL := hm.L
  have n := lm_nL (m := m) (v := v) (D := D) (w := w) h
  have ng : nG (lineM m B v D w) = nG m := nG_k (lm_7 (by decide))
  have nm : ∀ x, nM (lineM m B v D w) x = nM m x := fun x => nM_k (lm_7 (by decide))
  have mbe : ∀ g k, mb (lineM m B v D w) g k = mb m g k := fun g k => by unfold mb; rw [lm_7 (by decide)]
  have nw : (lineM m B v D w).1 7 0 = m.1 7 0 := by rw [lm_7 (by decide)]
  have nle : ∀ b, nL m b ≤ nL (lineM m B v D w) b := fun b => by
    by_cases q : b = B
    · rw [q, n.1]; omega
    · rw [n.2 b q]; exact Nat.le_refl _
  have ln := lm_n (m := m) (B := B) (v := v) (D := D) (w := w)
  have off : ∀ g k, g < nG m → k < nM m g → mb m g k ≠ 80 * B + nL m B := fun g k hg hk q => by
    have z := hm.V g hg k hk
    rw [q, show (80 * B + nL m B) % 80 = nL m B by omega, show (80 * B + nL m B) / 80 = B by omega] at z
    omega
  refine ⟨fun b hb => ?_, iG_k (lm_7 (by decide)) hm.G, iMs_k (lm_7 (by decide)) (lm_7 (by decide)) (lm_7 (by decide)) hm.M, fun b hb i hi => ?_, fun b hb i hi => ?_, dP_k (lm_7 (by decide)) (lm_7 (by decide)) hm.P, fun g hg => ?_, fun g hg k hk => ?_, by rw [nw]; exact hm.nw, fun b hb i hi => ?_, fun g hg => ?_, fun b hb i hi => ?_, fun g hg hp k hk => ?_, fun g hg hp => ?_⟩
  · by_cases q : b = B
    · rw [q, n.1, lm_6.1]; exact ⟨rfl, by omega⟩
    · rw [n.2 b q, lm_6.2 b q]; exact hL b hb
  · unfold fOk
    rcases lm_case hL h hb hi with ⟨q1, q2⟩ | ⟨q1, q2⟩
    · rw [q1, q2, ln.1, ln.2.1, nI_T _ (by omega)]
      exact ⟨hv, by omega, by omega⟩
    · rw [lm_o (by decide) q2, lm_o (by decide) q2]; exact hm.F b hb i q1
  · rcases lm_case hL h hb hi with ⟨q1, q2⟩ | ⟨q1, q2⟩
    · rw [q1, q2, ln.2.2.2.2.2]; exact fun _ => rfl
    · rw [lm_o (by decide) q2]; exact hm.N b hb i q1
  · rw [ng] at hg
    rw [lm_7 (by decide)]; exact hm.K g hg
  · rw [ng] at hg
    rw [nm] at hk
    rw [mbe]
    have := hm.V g hg k hk
    have := nle (mb m g k / 80)
    omega
  · rw [nw]
    rcases lm_case hL h hb hi with ⟨q1, q2⟩ | ⟨q1, q2⟩
    · rw [q1, q2, ln.2.2.2.2.1]; exact ⟨hm.nw.1, Int.le_refl _⟩
    · rw [lm_o (by decide) q2]; exact hm.kn b hb i q1
  · rw [ng] at hg
    rw [nw, lm_7 (by decide), lm_7 (by decide)]; exact hm.T g hg
  · rcases lm_case hL h hb hi with ⟨q1, q2⟩ | ⟨q1, q2⟩
    · rw [q1, q2]; exact Or.inl ln.2.2.2.2.2
    · rw [lm_o (by decide) q2]
      rcases hm.J1 b hb i q1 with z | ⟨g, k, g1, k1, z1, z2, z3⟩
      · exact Or.inl z
      · exact Or.inr ⟨g, k, by rw [ng]; exact g1, by rw [nm]; exact k1, z1, by rw [lm_7 (by decide)]; exact z2, by rw [mbe]; exact z3⟩
  · rw [ng] at hg
    rw [nm] at hk ⊢
    rw [lm_7 (by decide)] at hp
    have z := hm.J2 g hg hp k hk
    rw [mbe, lm_o (by decide) (off g k hg hk)]
    exact ⟨z.1, fun j hj e => z.2 j hj (by rw [mbe] at e; exact e)⟩
  · rw [ng] at hg
    rw [lm_7 (by decide)] at hp
    rw [nm]
    obtain ⟨⟨k1, a1, a2⟩, k2, b1, b2⟩ := hm.J3 g hg hp
    exact ⟨⟨k1, a1, by rw [mbe]; exact a2⟩, k2, b1, by rw [mbe]; exact b2⟩
theorem lm_un (hm : inv m) (hB : B < 2) (h : nL m B < 80) (u : Int32) : tbOk (lineM m B v D w) 0 B ∧ eqv (tbD (lineM m B v D w) 0 B u) m := by
  have hL := hm.L
  have n := lm_nL (m := m) (v := v) (D := D) (w := w) h
  refine ⟨⟨by decide, fun _ => ⟨hB, by omega⟩, fun q => absurd rfl q, fun q => absurd q (by decide)⟩, ?_⟩
  have et : tbD (lineM m B v D w) 0 B u = mset (lineM m B v D w) 6 B (nI (nL m B)) := by
    unfold tbD
    rw [if_pos rfl, n.1, Nat.add_sub_cancel]
  rw [et]
  have k : ∀ j, 7 ≤ j → (mset (lineM m B v D w) 6 B (nI (nL m B))).1 j = m.1 j := fun j hj => by rw [mset_ne (by omega), lm_7 hj]
  refine ⟨fun b hb => ?_, by rw [k 7 (by decide)], by rw [k 8 (by decide)], by rw [k 9 (by decide)], by rw [k 16 (by decide)], fun j hj b hb i hi => ?_, fun g hg => ?_, fun g hg j hj => by rw [k 11 (by decide)]⟩
  · by_cases q : b = B
    · rw [q, mset_at]; exact (hL B hB).1.symm
    · rw [mset_off q, lm_6.2 b q]
  · have := (hL b hb).2
    rw [mset_ne (by omega), lm_o hj (by
      intro e
      have e1 : b = B := by omega
      subst e1
      omega)]
  · rw [k 10 (by decide), k 12 (by decide), k 13 (by decide), k 14 (by decide), k 15 (by decide)]
    exact ⟨rfl, rfl, rfl, rfl, rfl⟩
theorem lm_eqv {d : mS} (h : eqv d m) (hL : iL m) (hB : B < 2) (h8 : nL m B < 80) : eqv (lineM d B v D w) (lineM m B v D w) := by
  have nd : nL d B = nL m B := q_nL h hB
  have hd8 : nL d B < 80 := by omega
  have n := lm_nL (m := m) (v := v) (D := D) (w := w) h8
  have ng : nG (lineM m B v D w) = nG m := nG_k (lm_7 (by decide))
  have nm : ∀ x, nM (lineM m B v D w) x = nM m x := fun x => nM_k (lm_7 (by decide))
  have a1 := lm_n (m := d) (B := B) (v := v) (D := D) (w := w)
  have a2 := lm_n (m := m) (B := B) (v := v) (D := D) (w := w)
  rw [nd] at a1
  refine ⟨fun b hb => ?_, by rw [lm_7 (by decide), lm_7 (by decide)]; exact h.n, by rw [lm_7 (by decide), lm_7 (by decide)]; exact h.s, by rw [lm_7 (by decide), lm_7 (by decide)]; exact h.c, by rw [lm_7 (by decide), lm_7 (by decide)]; exact h.g, fun j hj b hb i hi => ?_, fun g hg => ?_, fun g hg k hk => ?_⟩
  · by_cases q : b = B
    · rw [q, lm_6.1, lm_6.1, nd]
    · rw [lm_6.2 b q, lm_6.2 b q]; exact h.l b hb
  · rcases lm_case hL h8 hb hi with ⟨q1, q2⟩ | ⟨q1, q2⟩
    · rw [q1, q2]
      rcases (show j = 0 ∨ j = 1 ∨ j = 2 ∨ j = 3 ∨ j = 4 ∨ j = 5 by omega) with e | e | e | e | e | e <;> subst e
      · rw [a1.1, a2.1]
      · rw [a1.2.1, a2.2.1]
      · rw [a1.2.2.2.1, a2.2.2.2.1]
      · rw [a1.2.2.1, a2.2.2.1]
      · rw [a1.2.2.2.2.1, a2.2.2.2.2.1, h.n]
      · rw [a1.2.2.2.2.2, a2.2.2.2.2.2]
    · rw [lm_o hj q2, lm_o hj (by rw [nd]; exact q2)]; exact h.a j hj b hb i q1
  · rw [ng] at hg
    simp only [lm_7 (show 7 ≤ 10 by decide), lm_7 (show 7 ≤ 12 by decide), lm_7 (show 7 ≤ 13 by decide), lm_7 (show 7 ≤ 14 by decide), lm_7 (show 7 ≤ 15 by decide)]
    exact h.r g hg
  · rw [ng] at hg
    rw [nm] at hk
    rw [lm_7 (by decide), lm_7 (by decide)]; exact h.m g hg k hk
end LINE
/-- a group is locked or not -/
theorem lk_inv {m : mS} {g : Nat} {s : Int32} (hm : inv m) (hg : g < nG m) (hs : s = nI 0 ∨ s = nI 1) : inv (mset m 15 g s) := by
  have k : ∀ j, j ≠ 15 → (mset m 15 g s).1 j = m.1 j := fun j hj => mset_ne hj
  have ng : nG (mset m 15 g s) = nG m := nG_k (k 16 (by decide))
  have nm : ∀ x, nM (mset m 15 g s) x = nM m x := fun x => nM_k (k 12 (by decide))
  have mbe : ∀ x j, mb (mset m 15 g s) x j = mb m x j := fun x j => by unfold mb; rw [k 11 (by decide)]
  have nl : ∀ b, nL (mset m 15 g s) b = nL m b := fun b => nL_k (k 6 (by decide))
  refine ⟨iL_k (k 6 (by decide)) hm.L, iG_k (k 16 (by decide)) hm.G, iMs_k (k 11 (by decide)) (k 12 (by decide)) (k 16 (by decide)) hm.M, fun b hb i hi => ?_, dN_k (k 5 (by decide)) (k 6 (by decide)) hm.N, dP_k (k 14 (by decide)) (k 16 (by decide)) hm.P, fun x hx => ?_, fun x hx j hj => ?_, by rw [k 7 (by decide)]; exact hm.nw, fun b hb i hi => ?_, fun x hx => ?_, fun b hb i hi => ?_, fun x hx hp j hj => ?_, fun x hx hp => ?_⟩
  · rw [nl] at hi
    unfold fOk
    rw [k 0 (by decide), k 1 (by decide)]; exact hm.F b hb i hi
  · rw [ng] at hx
    by_cases q : x = g
    · rw [q, mset_at]; exact hs
    · rw [mset_off q]; exact hm.K x hx
  · rw [ng] at hx
    rw [nm] at hj
    rw [mbe, nl]; exact hm.V x hx j hj
  · rw [nl] at hi
    rw [k 4 (by decide), k 7 (by decide)]; exact hm.kn b hb i hi
  · rw [ng] at hx
    rw [k 13 (by decide), k 14 (by decide), k 7 (by decide)]; exact hm.T x hx
  · rw [nl] at hi
    rw [k 5 (by decide)]
    rcases hm.J1 b hb i hi with z | ⟨x, j, g1, k1, z1, z2, z3⟩
    · exact Or.inl z
    · exact Or.inr ⟨x, j, by rw [ng]; exact g1, by rw [nm]; exact k1, z1, by rw [k 14 (by decide)]; exact z2, by rw [mbe]; exact z3⟩
  · rw [ng] at hx
    rw [nm] at hj ⊢
    rw [k 14 (by decide)] at hp
    have z := hm.J2 x hx hp j hj
    rw [mbe, k 5 (by decide)]
    exact ⟨z.1, fun i hi e => z.2 i hi (by rw [mbe] at e; exact e)⟩
  · rw [ng] at hx
    rw [k 14 (by decide)] at hp
    rw [nm]
    obtain ⟨⟨k1, a1, a2⟩, k2, b1, b2⟩ := hm.J3 x hx hp
    exact ⟨⟨k1, a1, by rw [mbe]; exact a2⟩, k2, b1, by rw [mbe]; exact b2⟩
theorem lk_un {m : mS} {g : Nat} {s : Int32} (hm : inv m) (hg : g < nG m) : tbOk (mset m 15 g s) 4 g ∧ eqv (tbD (mset m 15 g s) 4 g (m.1 15 g)) m := by
  have k : ∀ j, j ≠ 15 → (mset m 15 g s).1 j = m.1 j := fun j hj => mset_ne hj
  have ng : nG (mset m 15 g s) = nG m := nG_k (k 16 (by decide))
  refine ⟨⟨by decide, fun q => absurd q (by decide), fun _ => ⟨by rw [ng]; exact hg, iMb_k (k 11 (by decide)) (k 12 (by decide)) (hm.M g hg)⟩, fun q => absurd q (by decide)⟩, ?_⟩
  have et : tbD (mset m 15 g s) 4 g (m.1 15 g) = m := by
    unfold tbD
    rw [if_neg (by decide), if_neg (by decide), if_neg (by decide), if_neg (by decide), mset_tw, mset_id]
  rw [et]; exact eqv_refl m
