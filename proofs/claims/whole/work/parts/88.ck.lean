/-! ===== the sums agree: what is in groups is what the groups differ by ===== -/
theorem si_swap (F : Nat → Nat → Int) (N : Nat) : ∀ n, fb_si (fun g => fb_si (fun a => F g a) N) n = fb_si (fun a => fb_si (fun g => F g a) n) N
  | 0 => by
    show (0 : Int) = fb_si (fun _ => 0) N
    exact ((si_ext0 (m := 0) (Nat.zero_le _) (fun _ _ _ => rfl)).trans rfl).symm
  | n + 1 => by
    rw [fb_si_succ, si_swap F N n, ← si_add]
    rfl
theorem si_one {f : Nat → Int} {n g0 : Nat} (hg : g0 < n) (h : ∀ g, g < n → g ≠ g0 → f g = 0) : fb_si f n = f g0 := by
  have up := si_upd (f := f) (g := fun _ => 0) (i := g0) hg h
  have z : fb_si (fun _ => (0 : Int)) n = 0 := (si_ext0 (m := 0) (Nat.zero_le _) (fun _ _ _ => rfl)).trans rfl
  have up' : fb_si f n + 0 = fb_si (fun _ => (0 : Int)) n + f g0 := up
  rw [z] at up'
  omega
/-- a sum over different places -/
theorem si_inj {f : Nat → Nat} {s : Nat → Int} {N : Nat} : ∀ K, (∀ k, k < K → f k < N) → (∀ k k', k < K → k' < K → f k = f k' → k = k') → fb_si (fun k => s (f k)) K = fb_si (fun a => if 0 < fb_ct (fun k => decide (f k = a)) K then s a else 0) N
  | 0, _, _ => by
    show (0 : Int) = _
    refine ((si_ext0 (m := 0) (Nat.zero_le _) (fun a _ _ => ?_)).trans rfl).symm
    exact if_neg (Nat.lt_irrefl 0)
  | K + 1, h1, h2 => by
    have ih := si_inj (f := f) (s := s) (N := N) K (fun k hk => h1 k (by omega)) (fun k k' hk hk' => h2 k k' (by omega) (by omega))
    rw [fb_si_succ, ih]
    have n0 : ¬ 0 < fb_ct (fun k => decide (f k = f K)) K := fun q => by
      obtain ⟨k, k1, k2⟩ := fb_ct_pos.mp q
      have := h2 k K (by omega) (by omega) (of_decide_eq_true k2)
      omega
    have up := si_upd (f := fun a => if 0 < fb_ct (fun k => decide (f k = a)) (K + 1) then s a else 0) (g := fun a => if 0 < fb_ct (fun k => decide (f k = a)) K then s a else 0) (i := f K) (n := N) (h1 K (by omega)) (fun a _ ha => by
      show (if 0 < fb_ct (fun k => decide (f k = a)) K + (if decide (f K = a) = true then 1 else 0) then s a else 0) = (if 0 < fb_ct (fun k => decide (f k = a)) K then s a else 0)
      rw [show (if decide (f K = a) = true then 1 else 0) = 0 from if_neg (fun z => ha (of_decide_eq_true z).symm), Nat.add_zero])
    have e1 : (if 0 < fb_ct (fun k => decide (f k = f K)) K then s (f K) else 0) = 0 := if_neg n0
    have e2 : (if 0 < fb_ct (fun k => decide (f k = f K)) (K + 1) then s (f K) else 0) = s (f K) := if_pos (fb_ct_pos.mpr ⟨K, by omega, decide_eq_true rfl⟩)
    have up' : fb_si (fun a => if 0 < fb_ct (fun k => decide (f k = a)) (K + 1) then s a else 0) N + (if 0 < fb_ct (fun k => decide (f k = f K)) K then s (f K) else 0) = fb_si (fun a => if 0 < fb_ct (fun k => decide (f k = a)) K then s a else 0) N + (if 0 < fb_ct (fun k => decide (f k = f K)) (K + 1) then s (f K) else 0) := up
    rw [e1, e2] at up'
    omega
def sgA (m : mS) (a : Nat) : Int := if a < 80 then (m.1 0 a).toInt else -(m.1 0 a).toInt
section CK
variable {m : mS}
theorem J1a (hm : inv m) {a : Nat} (ha : a < 160) (hl : inL m a) : m.1 5 a = -1 ∨ ∃ g k, g < nG m ∧ k < nM m g ∧ m.1 5 a = nI g ∧ m.1 14 g < 0 ∧ mb m g k = a := by
  have := hm.J1 (a / 80) (by omega) (a % 80) hl
  rwa [show 80 * (a / 80) + a % 80 = a by omega] at this
theorem gT_line (hm : inv m) {g : Nat} (hg : g < nG m) : gT m g = fb_si (fun a => if inL m a ∧ m.1 5 a = nI g then sgA m a else 0) 160 := by
  have l16 := hm.G.2
  unfold gT
  by_cases q : m.1 14 g < 0
  · rw [if_pos q]
    have e := si_inj (f := mb m g) (s := sgA m) (N := 160) (nM m g) (fun k hk => (hm.V g hg k hk).1) (fun k k' hk hk' e => (hm.J2 g hg q k' hk').2 k hk e)
    have e2 : gDf m g = fb_si (fun k => sgA m (mb m g k)) (nM m g) := rfl
    rw [e2, e]
    refine fb_si_ext (fun a ha => ?_)
    show (if 0 < fb_ct (fun k => decide (mb m g k = a)) (nM m g) then sgA m a else 0) = (if inL m a ∧ m.1 5 a = nI g then sgA m a else 0)
    by_cases z : 0 < fb_ct (fun k => decide (mb m g k = a)) (nM m g)
    · obtain ⟨k, k1, k2⟩ := fb_ct_pos.mp z
      have ek : mb m g k = a := of_decide_eq_true k2
      rw [if_pos z, if_pos ⟨by rw [← ek]; exact (hm.V g hg k k1).2, by rw [← ek]; exact (hm.J2 g hg q k k1).1⟩]
    · rw [if_neg z, if_neg (fun w => z ?_)]
      rcases J1a hm ha w.1 with y | ⟨x, k, x1, k1, y1, y2, y3⟩
      · rw [y] at w; exact absurd w.2.symm (nIm1 (by omega))
      · have ex : x = g := nI_inj (by omega) (by omega) (y1.symm.trans w.2)
        subst ex
        exact fb_ct_pos.mpr ⟨k, k1, decide_eq_true y3⟩
  · rw [if_neg q]
    refine ((si_ext0 (m := 0) (Nat.zero_le _) (fun a _ ha => ?_)).trans rfl).symm
    refine if_neg (fun w => ?_)
    rcases J1a hm ha w.1 with y | ⟨x, k, x1, k1, y1, y2, y3⟩
    · rw [y] at w; exact absurd w.2.symm (nIm1 (by omega))
    · have ex : x = g := nI_inj (by omega) (by omega) (y1.symm.trans w.2)
      subst ex
      exact q y2
theorem gT_all (hm : inv m) : fb_si (gT m) (nG m) = fb_si (fun a => if inL m a ∧ ¬ m.1 5 a < 0 then sgA m a else 0) 160 := by
  have l16 := hm.G.2
  rw [fb_si_ext (f := gT m) (g := fun g => fb_si (fun a => if inL m a ∧ m.1 5 a = nI g then sgA m a else 0) 160) (fun g hg => gT_line hm hg), si_swap (fun g a => if inL m a ∧ m.1 5 a = nI g then sgA m a else 0) 160]
  refine fb_si_ext (fun a ha => ?_)
  by_cases q : inL m a ∧ ¬ m.1 5 a < 0
  · rw [if_pos q]
    rcases J1a hm ha q.1 with y | ⟨x, k, x1, k1, y1, y2, y3⟩
    · rw [y] at q; exact absurd m1_neg q.2
    · rw [si_one (g0 := x) x1 (fun g hg hne => if_neg (fun w => hne (nI_inj (by omega) (by omega) (w.2.symm.trans y1)))), if_pos ⟨q.1, y1⟩]
  · rw [if_neg q]
    refine (si_ext0 (m := 0) (Nat.zero_le _) (fun g _ hg => ?_)).trans rfl
    refine if_neg (fun w => q ⟨w.1, ?_⟩)
    rw [w.2]; exact nI_nn (by omega)
/-- the identity of the sums -/
theorem ck_sum (hm : inv m) : bD m = fb_si (aB m 0) (nL m 0) - fb_si (aB m 1) (nL m 1) + fb_si (gT m) (nG m) := by
  have l0 := (hm.L 0 (by decide)).2
  have l1 := (hm.L 1 (by decide)).2
  rw [gT_all hm, sum_books hm.L (g0 := fun i => aL m 0 i - aB m 0 i) (g1 := fun i => -(aL m 1 i - aB m 1 i)) (fun i hi => ?_) (fun i hi h8 => ?_) (fun i hi => ?_) (fun i hi h8 => ?_), si_neg]
  · have s0 := si_add (fun i => aL m 0 i - aB m 0 i) (aB m 0) (nL m 0)
    have s1 := si_add (fun i => aL m 1 i - aB m 1 i) (aB m 1) (nL m 1)
    have e0 : fb_si (fun k => (aL m 0 k - aB m 0 k) + aB m 0 k) (nL m 0) = fb_si (aL m 0) (nL m 0) := fb_si_ext (fun k _ => by omega)
    have e1 : fb_si (fun k => (aL m 1 k - aB m 1 k) + aB m 1 k) (nL m 1) = fb_si (aL m 1) (nL m 1) := fb_si_ext (fun k _ => by omega)
    unfold bD
    omega
  · have e : 80 * 0 + i = i := by omega
    show (if inL m i ∧ ¬ m.1 5 i < 0 then sgA m i else 0) = aL m 0 i - aB m 0 i
    unfold aL aB sgA
    rw [e]
    by_cases q : m.1 5 i < 0
    · rw [if_neg (fun z => z.2 q), if_pos q]; omega
    · rw [if_pos ⟨(inL_0 (by omega)).mpr hi, q⟩, if_neg q, if_pos (by omega)]; omega
  · exact if_neg (fun z => by have := (inL_0 (m := m) h8).mp z.1; omega)
  · show (if inL m (80 + i) ∧ ¬ m.1 5 (80 + i) < 0 then sgA m (80 + i) else 0) = -(aL m 1 i - aB m 1 i)
    unfold aL aB sgA
    by_cases q : m.1 5 (80 + i) < 0
    · rw [if_neg (fun z => z.2 q), show 80 * 1 + i = 80 + i by omega, if_pos q]; omega
    · rw [if_pos ⟨(inL_1 (by omega)).mpr hi, q⟩, show 80 * 1 + i = 80 + i by omega, if_neg q, if_neg (by omega)]; omega
  · exact if_neg (fun z => by have := (inL_1 (m := m) h8).mp z.1; omega)
end CK
