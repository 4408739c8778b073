/-! ===== seats, 7: the seats against the reckoned best ===== -/
abbrev dR (d : mS) (n : Nat) (f : Nat → Nat → Int32) (n0 T : Nat) : Prop := (n0 ≤ n ∧ T ≤ n) ∧ (∀ i j, i < n0 → j < T → d.1 (200 + i) j = f i j) ∧ (∀ i j, i < n → j < n → (n0 ≤ i ∨ T ≤ j) → ww d i j = 0)
theorem dR.a {d : mS} {n : Nat} {f : Nat → Nat → Int32} {n0 T : Nat} (h_ : dR d n f n0 T) : n0 ≤ n ∧ T ≤ n := h_.1
theorem dR.e {d : mS} {n : Nat} {f : Nat → Nat → Int32} {n0 T : Nat} (h_ : dR d n f n0 T) : ∀ i j, i < n0 → j < T → d.1 (200 + i) j = f i j := h_.2.1
theorem dR.z {d : mS} {n : Nat} {f : Nat → Nat → Int32} {n0 T : Nat} (h_ : dR d n f n0 T) : ∀ i j, i < n → j < n → (n0 ≤ i ∨ T ≤ j) → ww d i j = 0 := h_.2.2
theorem dR_sm {d : mS} {n : Nat} {f : Nat → Nat → Int32} {n0 T : Nat} (h : dR d n f n0 T) (t : tbl d n) : smT f n0 T := by
  have n14 := t.n14
  have a := h.a
  refine ⟨by omega, by omega, fun i j hi hj => ?_⟩
  rw [← h.e i j hi hj]
  exact t.w i j (by omega) (by omega)
def tot (d : mS) (n : Nat) : Int := fb_si (fun j => ww d (ro d j) j) n
section FAV
variable {d : mS} {n : Nat} {f : Nat → Nat → Int32} {n0 T : Nat} {β : Int}
theorem sg_inj (h : fvG d n β) {i i' : Nat} (hi : i < n) (hi' : i' < n) (e : sgF d n i = sgF d n i') : i = i' := by
  have a := mat_gs h.T.n14 h.M hi
  have b := mat_gs h.T.n14 h.M hi'
  rw [← a.2, ← b.2, e]
theorem ro_perm (h : fvG d n β) (g : Nat → Int) : fb_si (fun j => g (ro d j)) n = fb_si g n := si_perm (h := g) (f := ro d) (fun c hc => (mat_ro h.T.n14 h.M hc).2) (fun c c' hc hc' e => mat_inj h.T.n14 h.M hc hc' e)
theorem tot_row (h : fvG d n β) : tot d n = fb_si (fun i => ww d i (sgF d n i)) n := by
  rw [← ro_perm h (fun i => ww d i (sgF d n i))]
  refine fb_si_ext (fun j hj => ?_)
  show ww d (ro d j) j = ww d (ro d j) (sgF d n (ro d j))
  rw [mat_sg h.T.n14 h.M hj]
theorem gn_ww (h : fvG d n β) (r : dR d n f n0 T) {i : Nat} (hi : i < n0) : gn f (noP (-1) (-1)) T (sgF d n) i = ww d i (sgF d n i) := by
  have n14 := h.T.n14
  have a := r.a
  have s := mat_gs n14 h.M (r := i) (by omega)
  have w := h.T.w i _ (by omega) s.1
  by_cases q : sgF d n i < T
  · have e : ww d i (sgF d n i) = (f i (sgF d n i)).toInt := by
      show (d.1 (200 + i) (sgF d n i)).toInt = _
      rw [r.e i _ hi q]
    by_cases p : 0 < f i (sgF d n i)
    · rw [e]; exact if_pos ⟨q, p, no0 (by omega)⟩
    · have e2 : gn f (noP (-1) (-1)) T (sgF d n) i = 0 := if_neg (fun z => p z.2.1)
      rw [e2]
      have := t_le.mp (iNL.mp p)
      have e0 : ((0 : Int32)).toInt = 0 := by decide
      omega
  · rw [r.z i _ (by omega) s.1 (Or.inr (by omega))]
    exact if_neg (fun z => q z.1)
theorem tot_gn (h : fvG d n β) (r : dR d n f n0 T) : tot d n = fb_si (gn f (noP (-1) (-1)) T (sgF d n)) n0 := by
  have a := r.a
  rw [tot_row h, si_ext0 (m := n0) (n := n) a.1 (fun k h1 h2 => r.z k _ h2 (mat_gs h.T.n14 h.M h2).1 (Or.inl h1))]
  exact fb_si_ext (fun k hk => (gn_ww h r hk).symm)
theorem prices (h : fvG d n β) : fb_si (fun j => uu d (ro d j) + vv d j) n = tot d n := fb_si_ext (fun j hj => h.P.t j hj (mat_full h.T.n14 h.M hj))
theorem tot_opt (h : fvG d n β) (r : dR d n f n0 T) : tot d n = (rk f (noP (-1) (-1)) n0 T n0 0).toInt := by
  have n14 := h.T.n14
  have a := r.a
  have sm := dR_sm r h.T
  have ge := rk_ge (f := f) (no := noP (-1) (-1)) sm (σ := sgF d n) n0 (Nat.le_refl _) 0 (fun i _ _ => Or.inl (bz_0 _)) (fun i i' _ a2 _ a4 e => sg_inj h (by omega) (by omega) e)
  rw [suT_full, ← tot_gn h r] at ge
  rcases Nat.eq_zero_or_pos n with z | z
  · have e0 : n0 = 0 := by omega
    have e1 : tot d n = 0 := by rw [z]; rfl
    have e2 : (rk f (noP (-1) (-1)) n0 T n0 0).toInt = 0 := by rw [e0]; show (nI 0).toInt = 0; decide
    omega
  · have le := dual_le (f := f) (no := noP (-1) (-1)) (t := n0) (s := 0) sm a.1 a.2 (Nat.le_refl _) (A := fun _ => true) (B := fun _ => true) (w := ww d) (u := uu d) (v := vv d) (fun _ _ _ => rfl) (fun _ _ _ => rfl) (fun i j h1 h2 => (h.T.w i j h1 h2).1) (fun i j h1 h2 _ => by
      show (f i j).toInt ≤ (d.1 (200 + i) j).toInt
      rw [r.e i j h1 h2]; exact Int.le_refl _) (fun i j h1 h2 _ _ => h.P.f i h1 h1 j h2) ⟨0, z, rfl⟩ rfl
    have e1 : fb_si (fun i => if true = true then uu d i else 0) n = fb_si (uu d) n := fb_si_ext (fun k _ => if_pos rfl)
    have e2 : fb_si (fun i => if true = true then vv d i else 0) n = fb_si (vv d) n := fb_si_ext (fun k _ => if_pos rfl)
    have le' : (rk f (noP (-1) (-1)) n0 T n0 0).toInt ≤ fb_si (fun i => if true = true then uu d i else 0) n + fb_si (fun i => if true = true then vv d i else 0) n := le
    rw [e1, e2, ← ro_perm h (uu d), ← si_add, prices h] at le'
    omega
end FAV
abbrev fvI (d : mS) (n : Nat) (f : Nat → Nat → Int32) (n0 T r : Nat) : Prop := (fvB d n) ∧ (dR d n f n0 T) ∧ (∀ k, k < r → pI f n0 T k = -1 ∨ ∃ j, j < T ∧ pI f n0 T k = nI j ∧ d.1 68 j = nI k ∧ ¬ d.1 75 j = 0) ∧ (∀ j, j < n → ¬ d.1 75 j = 0 → ∃ k, k < r ∧ pI f n0 T k = nI j)
theorem fvI.B {d : mS} {n : Nat} {f : Nat → Nat → Int32} {n0 T r : Nat} (h_ : fvI d n f n0 T r) : fvB d n := h_.1
theorem fvI.R {d : mS} {n : Nat} {f : Nat → Nat → Int32} {n0 T r : Nat} (h_ : fvI d n f n0 T r) : dR d n f n0 T := h_.2.1
theorem fvI.c {d : mS} {n : Nat} {f : Nat → Nat → Int32} {n0 T r : Nat} (h_ : fvI d n f n0 T r) : ∀ k, k < r → pI f n0 T k = -1 ∨ ∃ j, j < T ∧ pI f n0 T k = nI j ∧ d.1 68 j = nI k ∧ ¬ d.1 75 j = 0 := h_.2.2.1
theorem fvI.s {d : mS} {n : Nat} {f : Nat → Nat → Int32} {n0 T r : Nat} (h_ : fvI d n f n0 T r) : ∀ j, j < n → ¬ d.1 75 j = 0 → ∃ k, k < r ∧ pI f n0 T k = nI j := h_.2.2.2
section FVI
variable {d : mS} {n : Nat} {f : Nat → Nat → Int32} {n0 T r : Nat}
/-- who sits at a settled column chose it -/
theorem set_row (h : fvI d n f n0 T r) (hr : r ≤ n0) {j : Nat} (hj : j < n) (s : ¬ d.1 75 j = 0) : ro d j < r ∧ pI f n0 T (ro d j) = nI j := by
  have n14 := h.B.T.n14
  have a := h.R.a
  obtain ⟨k, k1, k2⟩ := h.s j hj s
  rcases h.c k k1 with q | ⟨x, x1, x2, x3, x4⟩
  · rw [q] at k2
    exact absurd k2.symm (nIm1 (by omega))
  · have e : x = j := nI_inj (by omega) (by omega) (x2.symm.trans k2)
    subst e
    have : ro d x = k := ro_nI x3 (by omega)
    rw [this]; exact ⟨k1, k2⟩
theorem free_row (h : fvI d n f n0 T r) (hr : r ≤ n0) {i : Nat} (hi : i < n) (hri : r ≤ i) : d.1 75 (sgF d n i) = 0 := by
  have g := mat_gs h.B.T.n14 h.B.M hi
  refine Decidable.of_not_not (fun q => ?_)
  have := (set_row h hr g.1 q).1
  omega
theorem set_sum (h : fvI d n f n0 T r) (hr : r ≤ n0) : fb_si (fun j => if d.1 75 j = 0 then 0 else ww d (ro d j) j) n = fb_si (pg f n0 T) r := by
  have n14 := h.B.T.n14
  have a := h.R.a
  have e1 : fb_si (fun j => if d.1 75 j = 0 then 0 else ww d (ro d j) j) n = fb_si (fun j => (fun i => if d.1 75 (sgF d n i) = 0 then 0 else ww d i (sgF d n i)) (ro d j)) n := fb_si_ext (fun j hj => by
    show (if d.1 75 j = 0 then 0 else ww d (ro d j) j) = (if d.1 75 (sgF d n (ro d j)) = 0 then 0 else ww d (ro d j) (sgF d n (ro d j)))
    rw [mat_sg n14 h.B.M hj])
  rw [e1, ro_perm h.B (fun i => if d.1 75 (sgF d n i) = 0 then 0 else ww d i (sgF d n i)), si_ext0 (m := r) (n := n) (by omega) (fun k h1 h2 => if_pos (free_row h hr h2 h1))]
  refine fb_si_ext (fun k hk => ?_)
  show (if d.1 75 (sgF d n k) = 0 then 0 else ww d k (sgF d n k)) = pg f n0 T k
  have g := mat_gs n14 h.B.M (r := k) (by omega)
  unfold pg
  rcases h.c k hk with q | ⟨x, x1, x2, x3, x4⟩
  · rw [if_pos q, if_pos (Decidable.of_not_not (fun z => ?_))]
    have := (set_row h hr g.1 z).2
    rw [g.2, q] at this
    exact nIm1 (by omega) this.symm
  · have rx : ro d x = k := ro_nI x3 (by omega)
    have sx : sgF d n k = x := by rw [← rx]; exact mat_sg n14 h.B.M (by omega)
    rw [sx, if_neg x4, x2, if_neg (nIm1 (by omega)), nv_nI (by omega)]
    show (d.1 (200 + k) x).toInt = _
    rw [h.R.e k x (by omega) x1]
theorem rest_sum (h : fvI d n f n0 T r) (hr : r ≤ n0) : fb_si (fun j => if d.1 75 j = 0 then ww d (ro d j) j else 0) n = (rk f (noP (-1) (-1)) n0 T (n0 - r) (grF f n0 T r)).toInt := by
  have e : tot d n = fb_si (fun j => (if d.1 75 j = 0 then 0 else ww d (ro d j) j) + (if d.1 75 j = 0 then ww d (ro d j) j else 0)) n := fb_si_ext (fun j _ => by
    by_cases q : d.1 75 j = 0
    · rw [if_pos q, if_pos q]; omega
    · rw [if_neg q, if_neg q]; omega)
  rw [si_add, set_sum h hr, tot_opt h.B h.R] at e
  have := pg_all (dR_sm h.R h.B.T) r hr
  omega
theorem sumA (h : fvI d n f n0 T r) (hr : r < n0) (g : Nat → Int) : fb_si (fun i => if decide (d.1 75 (sgF d n i) = 0 ∧ i ≠ r) = true then g i else 0) n + g r = fb_si (fun j => if d.1 75 j = 0 then g (ro d j) else 0) n := by
  have n14 := h.B.T.n14
  have a := h.R.a
  have s := mat_gs n14 h.B.M (r := r) (by omega)
  have f0 := free_row h (by omega) (i := r) (by omega) (Nat.le_refl _)
  rw [← ro_perm h.B (fun i => if decide (d.1 75 (sgF d n i) = 0 ∧ i ≠ r) = true then g i else 0)]
  have up := si_upd (f := fun j => if d.1 75 j = 0 then g (ro d j) else 0) (g := fun j => (fun i => if decide (d.1 75 (sgF d n i) = 0 ∧ i ≠ r) = true then g i else 0) (ro d j)) (i := sgF d n r) (n := n) s.1 (fun k hk hne => by
    show (if d.1 75 k = 0 then g (ro d k) else 0) = (if decide (d.1 75 (sgF d n (ro d k)) = 0 ∧ ro d k ≠ r) = true then g (ro d k) else 0)
    rw [mat_sg n14 h.B.M hk]
    by_cases q : d.1 75 k = 0
    · rw [if_pos q, if_pos (decide_eq_true ⟨q, fun z => hne (by rw [← z, mat_sg n14 h.B.M hk])⟩)]
    · rw [if_neg q, if_neg (fun z => q (of_decide_eq_true z).1)])
  have e1 : (if decide (d.1 75 (sgF d n (ro d (sgF d n r))) = 0 ∧ ro d (sgF d n r) ≠ r) = true then g (ro d (sgF d n r)) else 0) = 0 := if_neg (fun z => (of_decide_eq_true z).2 s.2)
  have e2 : (if d.1 75 (sgF d n r) = 0 then g (ro d (sgF d n r)) else 0) = g r := by rw [if_pos f0, s.2]
  have up' : fb_si (fun j => if d.1 75 j = 0 then g (ro d j) else 0) n + (if decide (d.1 75 (sgF d n (ro d (sgF d n r))) = 0 ∧ ro d (sgF d n r) ≠ r) = true then g (ro d (sgF d n r)) else 0) = fb_si (fun j => (fun i => if decide (d.1 75 (sgF d n i) = 0 ∧ i ≠ r) = true then g i else 0) (ro d j)) n + (if d.1 75 (sgF d n r) = 0 then g (ro d (sgF d n r)) else 0) := up
  rw [e1, e2] at up'
  have fin : fb_si (fun j => (fun i => if decide (d.1 75 (sgF d n i) = 0 ∧ i ≠ r) = true then g i else 0) (ro d j)) n + g r = fb_si (fun j => if d.1 75 j = 0 then g (ro d j) else 0) n := by omega
  exact fin
theorem sumB {c : Nat} (hc : c < n) (s0 : d.1 75 c = 0) (g : Nat → Int) : fb_si (fun j => if decide (d.1 75 j = 0 ∧ j ≠ c) = true then g j else 0) n + g c = fb_si (fun j => if d.1 75 j = 0 then g j else 0) n := by
  have up := si_upd (f := fun j => if d.1 75 j = 0 then g j else 0) (g := fun j => if decide (d.1 75 j = 0 ∧ j ≠ c) = true then g j else 0) (i := c) (n := n) hc (fun k hk hne => by
    show (if d.1 75 k = 0 then g k else 0) = (if decide (d.1 75 k = 0 ∧ k ≠ c) = true then g k else 0)
    by_cases q : d.1 75 k = 0
    · rw [if_pos q, if_pos (decide_eq_true ⟨q, hne⟩)]
    · rw [if_neg q, if_neg (fun z => q (of_decide_eq_true z).1)])
  have e1 : (if decide (d.1 75 c = 0 ∧ c ≠ c) = true then g c else 0) = 0 := if_neg (fun z => (of_decide_eq_true z).2 rfl)
  have e2 : (if d.1 75 c = 0 then g c else 0) = g c := if_pos s0
  have up' : fb_si (fun j => if d.1 75 j = 0 then g j else 0) n + (if decide (d.1 75 c = 0 ∧ c ≠ c) = true then g c else 0) = fb_si (fun j => if decide (d.1 75 j = 0 ∧ j ≠ c) = true then g j else 0) n + (if d.1 75 c = 0 then g c else 0) := up
  rw [e1, e2] at up'
  omega
/-- prices for what is left when a row takes a column -/
theorem rest_le (h : fvI d n f n0 T r) (hr : r < n0) {c : Nat} (hc : c < n) (s0 : d.1 75 c = 0) (hl : sgF d n r ≠ c) {u v : Nat → Int} (hf : ∀ i j, i < n → j < n → d.1 75 (sgF d n i) = 0 → i ≠ r → d.1 75 j = 0 → j ≠ c → ww d i j ≤ u i + v j) : (rk f (noP (-1) (-1)) n0 T (n0 - (r + 1)) (grF f n0 T r ||| 2 ^ c)).toInt + u r + v c ≤ fb_si (fun j => if d.1 75 j = 0 then u (ro d j) + v j else 0) n := by
  have n14 := h.B.T.n14
  have a := h.R.a
  have sm := dR_sm h.R h.B.T
  have s := mat_gs n14 h.B.M (r := r) (by omega)
  have f0 := free_row h (by omega) (i := r) (by omega) (Nat.le_refl _)
  have le := dual_le (f := f) (no := noP (-1) (-1)) (t := n0 - (r + 1)) (s := grF f n0 T r ||| 2 ^ c) sm a.1 a.2 (by omega) (A := fun i => decide (d.1 75 (sgF d n i) = 0 ∧ i ≠ r)) (B := fun j => decide (d.1 75 j = 0 ∧ j ≠ c)) (w := ww d) (u := u) (v := v) (fun i h1 h2 => decide_eq_true ⟨free_row h (by omega) (by omega) (by omega), by omega⟩) (fun j h1 h2 => by
      have z := bz_or.mp h2
      refine decide_eq_true ⟨Decidable.of_not_not (fun q => ?_), z.2⟩
      obtain ⟨k, k1, k2⟩ := h.s j (by omega) q
      exact (gr_bit (by omega) (by omega) r).mp z.1 k k1 k2) (fun i j h1 h2 => (h.B.T.w i j h1 h2).1) (fun i j h1 h2 _ => by
      show (f i j).toInt ≤ (d.1 (200 + i) j).toInt
      rw [h.R.e i j h1 h2]; exact Int.le_refl _) (fun i j h1 h2 p q => hf i j h1 h2 (of_decide_eq_true p).1 (of_decide_eq_true p).2 (of_decide_eq_true q).1 (of_decide_eq_true q).2) ⟨sgF d n r, s.1, decide_eq_true ⟨f0, hl⟩⟩ (by
      have x := sumA h hr (fun _ => 1)
      have y := sumB (n := n) hc s0 (fun _ => 1)
      have x' : fb_si (fun i => if decide (d.1 75 (sgF d n i) = 0 ∧ i ≠ r) = true then 1 else 0) n + 1 = fb_si (fun j => if d.1 75 j = 0 then 1 else 0) n := x
      have y' : fb_si (fun j => if decide (d.1 75 j = 0 ∧ j ≠ c) = true then 1 else 0) n + 1 = fb_si (fun j => if d.1 75 j = 0 then 1 else 0) n := y
      show fb_si (fun i => if decide (d.1 75 (sgF d n i) = 0 ∧ i ≠ r) = true then 1 else 0) n = fb_si (fun j => if decide (d.1 75 j = 0 ∧ j ≠ c) = true then 1 else 0) n
      omega)
  have x := sumA h hr u
  have y := sumB (n := n) hc s0 v
  have e : fb_si (fun j => if d.1 75 j = 0 then u (ro d j) + v j else 0) n = fb_si (fun j => (if d.1 75 j = 0 then u (ro d j) else 0) + (if d.1 75 j = 0 then v j else 0)) n := fb_si_ext (fun j _ => by
    by_cases q : d.1 75 j = 0
    · rw [if_pos q, if_pos q, if_pos q]
    · rw [if_neg q, if_neg q, if_neg q]; omega)
  rw [e, si_add]
  have le' : (rk f (noP (-1) (-1)) n0 T (n0 - (r + 1)) (grF f n0 T r ||| 2 ^ c)).toInt ≤ fb_si (fun i => if decide (d.1 75 (sgF d n i) = 0 ∧ i ≠ r) = true then u i else 0) n + fb_si (fun j => if decide (d.1 75 j = 0 ∧ j ≠ c) = true then v j else 0) n := le
  omega
theorem not_ch (h : fvI d n f n0 T r) (hr : r < n0) {c : Nat} (hc : c < T) (hlt : (f r c).toInt + (rk f (noP (-1) (-1)) n0 T (n0 - (r + 1)) (grF f n0 T r ||| 2 ^ c)).toInt < fb_si (fun j => if d.1 75 j = 0 then ww d (ro d j) j else 0) n) : ¬ chC f n0 T r c := by
  intro q
  have z := (chC_I (dR_sm h.R h.B.T) hr hc).mp q
  rw [rest_sum h (by omega)] at hlt
  omega
theorem no_tight (h : fvI d n f n0 T r) (hr : r < n0) {c : Nat} (hc : c < T) (s0 : d.1 75 c = 0) (ht : ¬ tgt d r c) : ¬ chC f n0 T r c := by
  have n14 := h.B.T.n14
  have a := h.R.a
  have s := mat_gs n14 h.B.M (r := r) (by omega)
  have nt : ¬ uu d r + vv d c = ww d r c := fun q => ht ((tgt_iff h.B (by omega) (by omega)).mpr q)
  have fe := h.B.P.f r (by omega) (by omega) c (by omega)
  have hl : sgF d n r ≠ c := fun q => nt (by
    have t := h.B.P.t _ s.1 (mat_full n14 h.B.M s.1)
    rw [s.2, q] at t; exact t)
  have le := rest_le h hr (by omega) s0 hl (u := uu d) (v := vv d) (fun i j h1 h2 _ _ _ _ => h.B.P.f i h1 h1 j h2)
  have e : fb_si (fun j => if d.1 75 j = 0 then uu d (ro d j) + vv d j else 0) n = fb_si (fun j => if d.1 75 j = 0 then ww d (ro d j) j else 0) n := fb_si_ext (fun j hj => by
    rw [h.B.P.t j hj (mat_full n14 h.B.M hj)])
  have ew : ww d r c = (f r c).toInt := by
    show (d.1 (200 + r) c).toInt = _
    rw [h.R.e r c hr hc]
  rw [e] at le
  refine not_ch h hr hc ?_
  omega
theorem no_sit (h : fvI d n f n0 T r) (hr : r < n0) {c : Nat} (hc : c < T) (s0 : d.1 75 c = 0) (ht : tgt d r c) {R : Nat → Prop} {e : mS} (hN : csN d n r c R e) : ¬ chC f n0 T r c := by
  haveI : DecidablePred R := fun _ => Classical.propDecidable _
  have n14 := h.B.T.n14
  have a := h.R.a
  have s := mat_gs n14 h.B.M (r := r) (by omega)
  have tt := (tgt_iff h.B (r := r) (c := c) (by omega) (by omega)).mp ht
  have rl : ¬ R (sgF d n r) := fun q => hN.l _ s.1 q (by rw [(mat_ro n14 h.B.M s.1).1, s.2])
  have hl : sgF d n r ≠ c := fun q => rl (q ▸ hN.c)
  have le := rest_le h hr (c := c) (by omega) s0 hl (u := fun i => uu d i - (if R (sgF d n i) then 1 else 0)) (v := fun j => vv d j + (if R j ∧ j ≠ c then 1 else 0)) (fun i j h1 h2 si ri sj rj => by
    have fe := h.B.P.f i h1 h1 j h2
    have gi := mat_gs n14 h.B.M h1
    by_cases q : R (sgF d n i)
    · by_cases t : tgt d i j
      · have Rj : R j := hN.t _ gi.1 q j h2 sj (by rw [gi.2]; exact t)
        rw [if_pos q, if_pos ⟨Rj, rj⟩]; omega
      · have nt : ¬ uu d i + vv d j = ww d i j := fun z => t ((tgt_iff h.B h1 h2).mpr z)
        rw [if_pos q]
        by_cases z : R j ∧ j ≠ c
        · rw [if_pos z]; omega
        · rw [if_neg z]; omega
    · rw [if_neg q]
      by_cases z : R j ∧ j ≠ c
      · rw [if_pos z]; omega
      · rw [if_neg z]; omega)
  have e1 : fb_si (fun j => if d.1 75 j = 0 then (uu d (ro d j) - (if R (sgF d n (ro d j)) then 1 else 0)) + (vv d j + (if R j ∧ j ≠ c then 1 else 0)) else 0) n + 1 = fb_si (fun j => if d.1 75 j = 0 then ww d (ro d j) j else 0) n := by
    have up := si_upd (f := fun j => if d.1 75 j = 0 then (uu d (ro d j) - (if R (sgF d n (ro d j)) then 1 else 0)) + (vv d j + (if R j ∧ j ≠ c then 1 else 0)) else 0) (g := fun j => if d.1 75 j = 0 then ww d (ro d j) j else 0) (i := c) (n := n) (by omega) (fun k hk hne => by
      show (if d.1 75 k = 0 then (uu d (ro d k) - (if R (sgF d n (ro d k)) then 1 else 0)) + (vv d k + (if R k ∧ k ≠ c then 1 else 0)) else 0) = (if d.1 75 k = 0 then ww d (ro d k) k else 0)
      have t := h.B.P.t k hk (mat_full n14 h.B.M hk)
      rw [mat_sg n14 h.B.M hk]
      by_cases q : d.1 75 k = 0
      · rw [if_pos q, if_pos q]
        by_cases z : R k
        · rw [if_pos z, if_pos ⟨z, hne⟩]; omega
        · rw [if_neg z, if_neg (fun y => z y.1)]; omega
      · rw [if_neg q, if_neg q])
    have t := h.B.P.t c (by omega) (mat_full n14 h.B.M (by omega))
    have a1 : (if d.1 75 c = 0 then (uu d (ro d c) - (if R (sgF d n (ro d c)) then 1 else 0)) + (vv d c + (if R c ∧ c ≠ c then 1 else 0)) else 0) = ww d (ro d c) c - 1 := by
      rw [if_pos s0, mat_sg n14 h.B.M (by omega), if_pos hN.c, if_neg (fun y => y.2 rfl)]; omega
    have a2 : (if d.1 75 c = 0 then ww d (ro d c) c else 0) = ww d (ro d c) c := if_pos s0
    have up' : fb_si (fun j => if d.1 75 j = 0 then (uu d (ro d j) - (if R (sgF d n (ro d j)) then 1 else 0)) + (vv d j + (if R j ∧ j ≠ c then 1 else 0)) else 0) n + (if d.1 75 c = 0 then ww d (ro d c) c else 0) = fb_si (fun j => if d.1 75 j = 0 then ww d (ro d j) j else 0) n + (if d.1 75 c = 0 then (uu d (ro d c) - (if R (sgF d n (ro d c)) then 1 else 0)) + (vv d c + (if R c ∧ c ≠ c then 1 else 0)) else 0) := up
    rw [a1, a2] at up'
    omega
  have le' : (rk f (noP (-1) (-1)) n0 T (n0 - (r + 1)) (grF f n0 T r ||| 2 ^ c)).toInt + (uu d r - (if R (sgF d n r) then 1 else 0)) + (vv d c + (if R c ∧ c ≠ c then 1 else 0)) ≤ fb_si (fun j => if d.1 75 j = 0 then (uu d (ro d j) - (if R (sgF d n (ro d j)) then 1 else 0)) + (vv d j + (if R j ∧ j ≠ c then 1 else 0)) else 0) n := le
  rw [if_neg rl, if_neg (fun y => y.2 rfl)] at le'
  have ew : ww d r c = (f r c).toInt := by
    show (d.1 (200 + r) c).toInt = _
    rw [h.R.e r c hr hc]
  refine not_ch h hr hc ?_
  omega
/-- another seating that keeps what is settled -/
theorem fvI_k {e : mS} (h : fvI d n f n0 T r) (hB : fvB e n) (hw : ∀ i, e.1 (200 + i) = d.1 (200 + i)) (h75 : e.1 75 = d.1 75) (hs : ∀ j, j < n → ¬ d.1 75 j = 0 → e.1 68 j = d.1 68 j) : fvI e n f n0 T r := by
  have a := h.R.a
  refine ⟨hB, ⟨a, fun i j h1 h2 => by rw [hw]; exact h.R.e i j h1 h2, fun i j h1 h2 h3 => by show (e.1 (200 + i) j).toInt = 0; rw [hw]; exact h.R.z i j h1 h2 h3⟩, ?_, by rw [h75]; exact h.s⟩
  intro k hk
  rcases h.c k hk with q | ⟨x, x1, x2, x3, x4⟩
  · exact Or.inl q
  · exact Or.inr ⟨x, x1, x2, by rw [hs x (by omega) x4]; exact x3, by rw [h75]; exact x4⟩
theorem yes_sit (h : fvI d n f n0 T r) (hr : r < n0) {c : Nat} (hc : c < T) (s0 : d.1 75 c = 0) (hw : 0 < f r c) {e : mS} (hY : csY d n r c e) : fvI e n f n0 T r ∧ e.1 75 = d.1 75 ∧ chC f n0 T r c := by
  have n14 := h.B.T.n14
  have a := h.R.a
  have sm := dR_sm h.R h.B.T
  have e75 : e.1 75 = d.1 75 := hY.k 75 (by decide) (by decide) (by decide) (by decide)
  have he := fvI_k h hY.B (fun i => hY.k (200 + i) (by omega) (by omega) (by omega) (by omega)) e75 hY.s
  refine ⟨he, e75, ?_⟩
  have sr : sgF e n r = c := by
    have rc : ro e c = r := ro_nI hY.c (by omega)
    rw [← rc]; exact mat_sg n14 hY.B.M (by omega)
  have hi : ∀ i i', i < n0 → i' < n0 → sgF e n i = sgF e n i' → i = i' := fun i i' h1 h2 q => sg_inj hY.B (by omega) (by omega) q
  have hs : ∀ k j, k < r → j < T → pI f n0 T k = nI j → sgF e n k = j := by
    intro k j hk hj hp
    rcases he.c k hk with q | ⟨x, x1, x2, x3, x4⟩
    · rw [q] at hp
      exact absurd hp.symm (nIm1 (by omega))
    · have ex : x = j := nI_inj (by omega) (by omega) (x2.symm.trans hp)
      subst ex
      have rx : ro e x = k := ro_nI x3 (by omega)
      rw [← rx]; exact mat_sg n14 hY.B.M (by omega)
  have tg := tot_gn hY.B he.R
  have to := tot_opt hY.B he.R
  have gp := gn_pg (f := f) (n := n0) (T := T) (r := r) sm (by omega) (σ := sgF e n) hi hs (by omega) r (Nat.le_refl _)
  have b0 : ∀ j, j < T → d.1 75 j = 0 → grF f n0 T r / 2 ^ j % 2 = 0 := by
    intro j hj h0
    refine (gr_bit (by omega) (by omega) r).mpr (fun k hk hp => ?_)
    rcases h.c k hk with q | ⟨x, x1, x2, x3, x4⟩
    · rw [q] at hp
      exact nIm1 (by omega) hp.symm
    · have ex : x = j := nI_inj (by omega) (by omega) (x2.symm.trans hp)
      exact x4 (ex ▸ h0)
  have ge := rk_ge (f := f) (no := noP (-1) (-1)) sm (σ := sgF e n) (n0 - (r + 1)) (by omega) (grF f n0 T r ||| 2 ^ c) (fun i p q => by
    by_cases gi : sgF e n i < T
    · left
      have fr := free_row he (by omega) (i := i) (by omega) (by omega)
      rw [e75] at fr
      exact bz_or.mpr ⟨b0 _ gi fr, fun z => by
        have := hi i r q hr (by rw [z, sr])
        omega⟩
    · right
      exact if_neg (fun z => gi z.1)) (fun i i' _ a2 _ a4 => hi i i' a2 a4)
  have sa := suT_all (gn f (noP (-1) (-1)) T (sgF e n)) n0 (n0 - (r + 1)) (by omega)
  rw [show n0 - (n0 - (r + 1)) = r + 1 by omega, fb_si_succ] at sa
  have sp := fb_si_ext (f := gn f (noP (-1) (-1)) T (sgF e n)) (g := pg f n0 T) (n := r) gp
  have pa := pg_all sm r (by omega)
  have gr : gn f (noP (-1) (-1)) T (sgF e n) r = (f r c).toInt := by
    show (if sgF e n r < T ∧ 0 < f r (sgF e n r) ∧ noP (-1) (-1) r (sgF e n r) = false then (f r (sgF e n r)).toInt else 0) = _
    rw [sr, if_pos ⟨hc, hw, no0 (by omega)⟩]
  have st := (rk_step (f := f) (no := noP (-1) (-1)) (n := n0) (T := T) (t := n0 - (r + 1)) (s := grF f n0 T r) sm (by omega)).1 c hc
  rw [show n0 - (r + 1) + 1 = n0 - r by omega, show n0 - (n0 - r) = r by omega] at st
  have st2 := st ⟨b0 c hc s0, hw, no0 (by omega)⟩
  refine (chC_I sm hr hc).mpr ⟨b0 c hc s0, hw, ?_⟩
  omega
/-- the row's choice is made -/
theorem fvI_yes (h : fvI d n f n0 T r) (hr : r < n0) {c : Nat} (hc : c < T) (hch : chC f n0 T r c) (hno : ∀ j, j < c → ¬ chC f n0 T r j) (ha : d.1 68 c = nI r) : fvI (mset d 75 c (nI 1)) n f n0 T (r + 1) := by
  have n14 := h.B.T.n14
  have a := h.R.a
  have hp : pI f n0 T r = nI c := by
    rcases pI_spec (f := f) (n := n0) (T := T) (i := r) with q | ⟨x, x1, x2, x3, x4⟩
    · exact absurd hch (q.2 c hc)
    · have ex : x = c := by
        rcases Nat.lt_trichotomy x c with y | y | y
        · exact absurd x2 (hno x y)
        · exact y
        · exact absurd hch (x3 c y)
      rw [x4, ex]
  have k : ∀ j, j ≠ 75 → (mset d 75 c (nI 1)).1 j = d.1 j := fun j hj => mset_ne hj
  have B : fvB (mset d 75 c (nI 1)) n := by
    have e68 : (mset d 75 c (nI 1)).1 68 = d.1 68 := k 68 (by decide)
    have e66 : (mset d 75 c (nI 1)).1 66 = d.1 66 := k 66 (by decide)
    have e67 : (mset d 75 c (nI 1)).1 67 = d.1 67 := k 67 (by decide)
    have ew : ∀ i, (mset d 75 c (nI 1)).1 (200 + i) = d.1 (200 + i) := fun i => k (200 + i) (by omega)
    obtain ⟨T1, M1, P1⟩ := h.B
    refine ⟨⟨by rw [k 65 (by decide)]; exact T1.s, n14, ?_⟩, ⟨?_, ?_, ?_⟩, ⟨?_, ?_, ?_, ?_⟩⟩
    · intro i j h1 h2
      show 0 ≤ ((mset d 75 c (nI 1)).1 (200 + i) j).toInt ∧ ((mset d 75 c (nI 1)).1 (200 + i) j).toInt ≤ 230
      rw [ew]; exact T1.w i j h1 h2
    · unfold ro; rw [e68]; exact M1.a
    · rw [e68]; exact M1.i
    · rw [e68]; exact M1.p
    · intro i h1 h2 j h3
      show ((mset d 75 c (nI 1)).1 (200 + i) j).toInt ≤ ((mset d 75 c (nI 1)).1 66 i).toInt + ((mset d 75 c (nI 1)).1 67 j).toInt
      rw [ew, e66, e67]; exact P1.f i h1 h2 j h3
    · intro j h1 h2
      show ((mset d 75 c (nI 1)).1 66 (nv ((mset d 75 c (nI 1)).1 68 j))).toInt + ((mset d 75 c (nI 1)).1 67 j).toInt = ((mset d 75 c (nI 1)).1 (200 + nv ((mset d 75 c (nI 1)).1 68 j)) j).toInt
      rw [e68] at h2 ⊢
      rw [ew, e66, e67]; exact P1.t j h1 h2
    · intro j h1
      show 0 ≤ ((mset d 75 c (nI 1)).1 67 j).toInt ∧ ((mset d 75 c (nI 1)).1 67 j).toInt ≤ 230 + 0
      rw [e67]; exact P1.v j h1
    · intro i h1 h2
      show ((mset d 75 c (nI 1)).1 66 i).toInt ≤ 230 + 0
      rw [e66]; exact P1.u i h1 h2
  refine ⟨B, ⟨a, fun i j h1 h2 => by rw [k (200 + i) (by omega)]; exact h.R.e i j h1 h2, fun i j h1 h2 h3 => by show ((mset d 75 c (nI 1)).1 (200 + i) j).toInt = 0; rw [k (200 + i) (by omega)]; exact h.R.z i j h1 h2 h3⟩, ?_, ?_⟩
  · intro q hq
    rw [k 68 (by decide)]
    rcases Nat.lt_or_ge q r with y | y
    · rcases h.c q y with z | ⟨x, x1, x2, x3, x4⟩
      · exact Or.inl z
      · refine Or.inr ⟨x, x1, x2, x3, ?_⟩
        by_cases w : x = c
        · rw [w, mset_at]; decide
        · rw [mset_off w]; exact x4
    · have eq : q = r := by omega
      subst eq
      exact Or.inr ⟨c, hc, hp, ha, by rw [mset_at]; decide⟩
  · intro j hj h1
    by_cases w : j = c
    · exact ⟨r, by omega, by rw [w]; exact hp⟩
    · rw [mset_off w] at h1
      obtain ⟨q, q1, q2⟩ := h.s j hj h1
      exact ⟨q, by omega, q2⟩
theorem fvI_no (h : fvI d n f n0 T r) (hno : ∀ j, j < T → ¬ chC f n0 T r j) : fvI d n f n0 T (r + 1) := by
  have hp : pI f n0 T r = -1 := by
    rcases pI_spec (f := f) (n := n0) (T := T) (i := r) with q | ⟨x, x1, x2, x3, x4⟩
    · exact q.1
    · exact absurd x2 (hno x x1)
  refine ⟨h.B, h.R, ?_, fun j hj h1 => ?_⟩
  · intro q hq
    rcases Nat.lt_or_ge q r with y | y
    · exact h.c q y
    · have eq : q = r := by omega
      subst eq
      exact Or.inl hp
  · obtain ⟨q, q1, q2⟩ := h.s j hj h1
    exact ⟨q, by omega, q2⟩
/-- what is written in the end: the partner of a row -/
theorem partner_eq (h : fvI d n f n0 T n0) {i : Nat} (hi : i < n0) : pI f n0 T i = (if 0 < d.1 (200 + i) (sgF d n i) then nI (sgF d n i) else -1) := by
  have n14 := h.B.T.n14
  have a := h.R.a
  have sm := dR_sm h.R h.B.T
  have hinj : ∀ i i', i < n0 → i' < n0 → sgF d n i = sgF d n i' → i = i' := fun i i' h1 h2 q => sg_inj h.B (by omega) (by omega) q
  have hs : ∀ k j, k < n0 → j < T → pI f n0 T k = nI j → sgF d n k = j := by
    intro k j hk hj hp
    rcases h.c k hk with q | ⟨x, x1, x2, x3, x4⟩
    · rw [q] at hp
      exact absurd hp.symm (nIm1 (by omega))
    · have ex : x = j := nI_inj (by omega) (by omega) (x2.symm.trans hp)
      subst ex
      have rx : ro d x = k := ro_nI x3 (by omega)
      rw [← rx]; exact mat_sg n14 h.B.M (by omega)
  have tg := tot_gn h.B h.R
  have to := tot_opt h.B h.R
  have gp := gn_pg (f := f) (n := n0) (T := T) (r := n0) sm (Nat.le_refl _) (σ := sgF d n) hinj hs (by omega) n0 (Nat.le_refl _) i hi
  rw [gn_ww h.B h.R hi] at gp
  rcases pI_spec (f := f) (n := n0) (T := T) (i := i) with q | ⟨x, x1, x2, x3, x4⟩
  · have e1 : pg f n0 T i = 0 := if_pos q.1
    rw [e1] at gp
    rw [q.1, if_neg (fun z => by
      have := t_lt.mp z
      have e0 : ((0 : Int32)).toInt = 0 := by decide
      have gp' : (d.1 (200 + i) (sgF d n i)).toInt = 0 := gp
      omega)]
  · have e1 := hs i x hi x1 x4
    have y := ((chC_I sm hi x1).mp x2).2.1
    rw [x4, e1, if_pos (by rw [h.R.e i x hi x1]; exact y)]
end FVI
