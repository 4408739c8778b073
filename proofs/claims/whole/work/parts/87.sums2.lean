/-! ===== the sums, on both sides ===== -/
theorem si_split (f : Nat → Int) (a : Nat) : ∀ b, fb_si f (a + b) = fb_si f a + fb_si (fun i => f (a + i)) b
  | 0 => by show fb_si f a = fb_si f a + 0; omega
  | b + 1 => by
    show fb_si f (a + b) + f (a + b) = fb_si f a + (fb_si (fun i => f (a + i)) b + f (a + b))
    rw [si_split f a b]; omega
theorem si_lim {f g : Nat → Int} {n N : Nat} (h : n ≤ N) (h1 : ∀ i, i < n → f i = g i) (h0 : ∀ i, n ≤ i → i < N → f i = 0) : fb_si f N = fb_si g n := by
  rw [si_ext0 h h0]; exact fb_si_ext h1
theorem si_neg {f : Nat → Int} : ∀ n, fb_si (fun i => -f i) n = -fb_si f n
  | 0 => rfl
  | n + 1 => by rw [fb_si_succ, fb_si_succ, si_neg n]; omega
theorem sum_books {m : mS} (hL : iL m) {f g0 g1 : Nat → Int} (h0 : ∀ i, i < nL m 0 → f i = g0 i) (z0 : ∀ i, nL m 0 ≤ i → i < 80 → f i = 0) (h1 : ∀ i, i < nL m 1 → f (80 + i) = g1 i) (z1 : ∀ i, nL m 1 ≤ i → i < 80 → f (80 + i) = 0) : fb_si f 160 = fb_si g0 (nL m 0) + fb_si g1 (nL m 1) := by
  have s := si_split f 80 80
  have a := si_lim (f := f) (g := g0) (hL 0 (by decide)).2 h0 z0
  have b := si_lim (f := fun i => f (80 + i)) (g := g1) (hL 1 (by decide)).2 h1 z1
  have s' : fb_si f 160 = fb_si f 80 + fb_si (fun i => f (80 + i)) 80 := s
  rw [s', a, b]
theorem inL_0 {m : mS} {i : Nat} (h : i < 80) : inL m i ↔ i < nL m 0 := by
  unfold inL
  rw [show i % 80 = i by omega, show i / 80 = 0 by omega]
theorem inL_1 {m : mS} {i : Nat} (h : i < 80) : inL m (80 + i) ↔ i < nL m 1 := by
  unfold inL
  rw [show (80 + i) % 80 = i by omega, show (80 + i) / 80 = 1 by omega]
section SUMS
variable {m : mS}
theorem sV_0 (hL : iL m) : sumV m 0 = bD m := by
  have l0 := (hL 0 (by decide)).2
  have l1 := (hL 1 (by decide)).2
  unfold sumV
  rw [if_neg (by decide), sum_books hL (g0 := aL m 0) (g1 := fun i => -aL m 1 i) (fun i hi => ?_) (fun i hi h8 => ?_) (fun i hi => ?_) (fun i hi h8 => ?_), si_neg]
  · unfold bD; omega
  · unfold sT aL
    rw [if_pos ((inL_0 (by omega)).mpr hi), if_pos rfl, if_pos (by omega), show 80 * 0 + i = i by omega]
  · unfold sT
    rw [if_neg (fun z => by have := (inL_0 (m := m) h8).mp z; omega)]
  · unfold sT aL
    rw [if_pos ((inL_1 (by omega)).mpr hi), if_pos rfl, if_neg (by omega)]
  · unfold sT
    rw [if_neg (fun z => by have := (inL_1 (m := m) h8).mp z; omega)]
theorem sV_1 (hL : iL m) : sumV m 1 = fb_si (aB m 0) (nL m 0) := by
  have l0 := (hL 0 (by decide)).2
  have l1 := (hL 1 (by decide)).2
  unfold sumV
  rw [if_neg (by decide), sum_books hL (g0 := aB m 0) (g1 := fun _ => 0) (fun i hi => ?_) (fun i hi h8 => ?_) (fun i hi => ?_) (fun i hi h8 => ?_)]
  · have : fb_si (fun _ => (0 : Int)) (nL m 1) = 0 := (si_ext0 (m := 0) (Nat.zero_le _) (fun _ _ _ => rfl)).trans rfl
    rw [this]; omega
  · unfold sT aB
    rw [if_pos ((inL_0 (by omega)).mpr hi), if_neg (by decide), show i / 80 = 0 by omega, show 80 * 0 + i = i by omega]
    by_cases q : m.1 5 i < 0
    · rw [if_pos ⟨by decide, q⟩, if_pos q]
    · rw [if_neg (fun z => q z.2), if_neg q]
  · unfold sT
    rw [if_neg (fun z => by have := (inL_0 (m := m) h8).mp z; omega)]
  · unfold sT
    rw [if_pos ((inL_1 (by omega)).mpr hi), if_neg (by decide), show (80 + i) / 80 = 1 by omega, if_neg (fun z => absurd z.1 (by decide))]
  · unfold sT
    rw [if_neg (fun z => by have := (inL_1 (m := m) h8).mp z; omega)]
theorem sV_2 (hL : iL m) : sumV m 2 = fb_si (aB m 1) (nL m 1) := by
  have l0 := (hL 0 (by decide)).2
  have l1 := (hL 1 (by decide)).2
  unfold sumV
  rw [if_neg (by decide), sum_books hL (g0 := fun _ => 0) (g1 := aB m 1) (fun i hi => ?_) (fun i hi h8 => ?_) (fun i hi => ?_) (fun i hi h8 => ?_)]
  · have : fb_si (fun _ => (0 : Int)) (nL m 0) = 0 := (si_ext0 (m := 0) (Nat.zero_le _) (fun _ _ _ => rfl)).trans rfl
    rw [this]; omega
  · unfold sT
    rw [if_pos ((inL_0 (by omega)).mpr hi), if_neg (by decide), show i / 80 = 0 by omega, if_neg (fun z => absurd z.1 (by decide))]
  · unfold sT
    rw [if_neg (fun z => by have := (inL_0 (m := m) h8).mp z; omega)]
  · unfold sT aB
    rw [if_pos ((inL_1 (by omega)).mpr hi), if_neg (by decide), show (80 + i) / 80 = 1 by omega]
    by_cases q : m.1 5 (80 + i) < 0
    · rw [if_pos ⟨by decide, q⟩, if_pos q]
    · rw [if_neg (fun z => q z.2), if_neg q]
  · unfold sT
    rw [if_neg (fun z => by have := (inL_1 (m := m) h8).mp z; omega)]
theorem sT_z {w : Int32} (h0 : ¬ w = 0) (h1 : ¬ w = nI 1) (h2 : ¬ w = nI 2) : fb_si (sT m w) 160 = 0 := by
  refine (si_ext0 (m := 0) (Nat.zero_le _) (fun a _ ha => ?_)).trans rfl
  unfold sT
  by_cases il : inL m a
  · rw [if_pos il, if_neg h0, if_neg (fun z => ?_)]
    rcases (show a / 80 = 0 ∨ a / 80 = 1 by omega) with q | q
    · rw [q] at z; exact h1 z.1
    · rw [q] at z; exact h2 z.1
  · rw [if_neg il]
theorem sV_3 : sumV m 3 = fb_si (gT m) (nG m) := by
  unfold sumV
  rw [if_pos (by decide), sT_z (by decide) (by decide) (by decide)]
  omega
theorem sV_x {w : Int32} (h0 : ¬ w = 0) (h1 : ¬ w = 1) (h2 : ¬ w = 2) (h3 : ¬ w = 3) : sumV m w = 0 := by
  have e1 : nI 1 = 1 := by decide
  have e2 : nI 2 = 2 := by decide
  have e3 : nI 3 = 3 := by decide
  unfold sumV
  rw [if_neg (by rw [e3]; exact h3), sT_z h0 (by rw [e1]; exact h1) (by rw [e2]; exact h2)]
  rfl
/-- the bounds -/
theorem aB_bd (hm : inv m) {b : Nat} (hb : b < 2) : (-80000000 ≤ fb_si (aB m b) (nL m b) ∧ fb_si (aB m b) (nL m b) ≤ 80000000) ∧ -80000000 ≤ fb_si (aL m b) (nL m b) ∧ fb_si (aL m b) (nL m b) ≤ 80000000 := by
  have l := (hm.L b hb).2
  have key : ∀ n, n ≤ nL m b → (-1000000 * (n : Int) ≤ fb_si (aB m b) n ∧ fb_si (aB m b) n ≤ 1000000 * (n : Int)) ∧ -1000000 * (n : Int) ≤ fb_si (aL m b) n ∧ fb_si (aL m b) n ≤ 1000000 * (n : Int) := by
    intro n
    induction n with
    | zero => intro _; exact ⟨⟨Int.le_refl _, Int.le_refl _⟩, Int.le_refl _, Int.le_refl _⟩
    | succ n ih =>
      intro hn
      have h1 := ih (by omega)
      have f := (hm.F b hb n (by omega)).1
      have e1 : aL m b n = (m.1 0 (80 * b + n)).toInt := rfl
      have e2 : aB m b n = 0 ∨ aB m b n = (m.1 0 (80 * b + n)).toInt := by
        unfold aB
        split
        · exact Or.inr rfl
        · exact Or.inl rfl
      rw [fb_si_succ, fb_si_succ]
      omega
  have := key (nL m b) (Nat.le_refl _)
  omega
theorem gT_bd (hm : inv m) : -1600000000 ≤ fb_si (gT m) (nG m) ∧ fb_si (gT m) (nG m) ≤ 1600000000 := by
  have l := hm.G.2
  have gd := inv_gd hm
  have key : ∀ n, n ≤ nG m → -8000000 * (n : Int) ≤ fb_si (gT m) n ∧ fb_si (gT m) n ≤ 8000000 * (n : Int) := by
    intro n
    induction n with
    | zero => intro _; exact ⟨Int.le_refl _, Int.le_refl _⟩
    | succ n ih =>
      intro hn
      have h1 := ih (by omega)
      have g := gd n (by omega)
      rw [fb_si_succ]
      unfold gT at h1 ⊢
      split <;> omega
  have := key (nG m) (Nat.le_refl _)
  omega
/-- sum() answers alike -/
theorem sum_eq {d : mS} (h : eqv d m) (hm : inv m) (w : Int32) : smD d w = zL (sumV m w) := by
  have a0 := aB_bd hm (b := 0) (by decide)
  have a1 := aB_bd hm (b := 1) (by decide)
  have gt := gT_bd hm
  unfold smD
  rw [q_bD h, q_aB h (by decide), q_aB h (by decide), q_gT h hm.V]
  by_cases w0 : w = 0
  · rw [if_pos w0, w0, sV_0 hm.L]
    exact zI_L (by unfold bD; omega) (by unfold bD; omega)
  · rw [if_neg w0]
    by_cases w1 : w = 1
    · rw [if_pos w1, w1, sV_1 hm.L]
      exact zI_L (by omega) (by omega)
    · rw [if_neg w1]
      by_cases w2 : w = 2
      · rw [if_pos w2, w2, sV_2 hm.L]
        exact zI_L (by omega) (by omega)
      · rw [if_neg w2]
        by_cases w3 : w = 3
        · rw [if_pos w3, w3, sV_3]
          exact zI_L (by omega) (by omega)
        · rw [if_neg w3, sV_x w0 w1 w2 w3]
          exact zL_0.symm
end SUMS
