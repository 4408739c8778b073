/-! ===== seats, 5: whether a row can sit at a column ===== -/
abbrev fvG (d : mS) (n : Nat) (β : Int) : Prop := (tbl d n) ∧ (mat d n (fun q => q < n)) ∧ (pri d n (fun q => q < n) β)
theorem fvG.T {d : mS} {n : Nat} {β : Int} (h_ : fvG d n β) : tbl d n := h_.1
theorem fvG.M {d : mS} {n : Nat} {β : Int} (h_ : fvG d n β) : mat d n (fun q => q < n) := h_.2.1
theorem fvG.P {d : mS} {n : Nat} {β : Int} (h_ : fvG d n β) : pri d n (fun q => q < n) β := h_.2.2
abbrev fvB (d : mS) (n : Nat) : Prop := fvG d n 0
/-- the column of a row -/
def sgF (d : mS) (n r : Nat) : Nat := fa_first (fun c => decide (d.1 68 c = nI r)) n
theorem sgF_in {d : mS} {n r : Nat} (h : ∃ c, c < n ∧ d.1 68 c = nI r) : sgF d n r < n ∧ d.1 68 (sgF d n r) = nI r := by
  obtain ⟨c, c1, c2⟩ := h
  have hl : sgF d n r < n := by
    rcases Nat.lt_or_ge (sgF d n r) n with q | q
    · exact q
    · have := fa_first_no (fun c => decide (d.1 68 c = nI r)) n c (by show c < sgF d n r; omega)
      exact absurd c2 (of_decide_eq_false this)
  exact ⟨hl, of_decide_eq_true (fa_first_yes (fun c => decide (d.1 68 c = nI r)) n hl)⟩
theorem mat_full {d : mS} {n : Nat} (n14 : n ≤ 14) (h : mat d n (fun q => q < n)) {c : Nat} (hc : c < n) : ¬ d.1 68 c = -1 := by
  intro q
  refine php_miss (row := c) (f := sgF d n) hc (fun r hr => ?_) (fun r r' hr hr' e => ?_)
  · have := sgF_in (h.p r hr hr)
    refine ⟨this.1, fun z => ?_⟩
    rw [z, q] at this
    exact nIm1 (r := r) (by omega) this.2.symm
  · have a := (sgF_in (h.p r hr hr)).2
    have b := (sgF_in (h.p r' hr' hr')).2
    rw [e, b] at a
    exact (nI_inj (by omega) (by omega) a).symm
theorem mat_ro {d : mS} {n : Nat} (n14 : n ≤ 14) (h : mat d n (fun q => q < n)) {c : Nat} (hc : c < n) : d.1 68 c = nI (ro d c) ∧ ro d c < n := by
  have := (h.a c hc).resolve_left (mat_full n14 h hc)
  exact ⟨this.1, this.2.1⟩
theorem mat_inj {d : mS} {n : Nat} (n14 : n ≤ 14) (h : mat d n (fun q => q < n)) {c c' : Nat} (hc : c < n) (hc' : c' < n) (e : ro d c = ro d c') : c = c' := by
  have a := mat_ro n14 h hc
  have b := mat_ro n14 h hc'
  exact h.i c c' hc hc' (mat_full n14 h hc) (by rw [a.1, b.1, e])
theorem mat_sg {d : mS} {n : Nat} (n14 : n ≤ 14) (h : mat d n (fun q => q < n)) {c : Nat} (hc : c < n) : sgF d n (ro d c) = c := by
  have a := mat_ro n14 h hc
  have b := sgF_in (h.p (ro d c) a.2 a.2)
  exact h.i _ _ b.1 hc (mat_full n14 h b.1) (by rw [b.2, a.1])
theorem mat_gs {d : mS} {n : Nat} (n14 : n ≤ 14) (h : mat d n (fun q => q < n)) {r : Nat} (hr : r < n) : sgF d n r < n ∧ ro d (sgF d n r) = r := by
  have b := sgF_in (h.p r hr hr)
  exact ⟨b.1, ro_nI b.2 (by omega)⟩
/-- the bounds of all prices -/
theorem fvB_u {d : mS} {n r : Nat} (h : fvB d n) (hr : r < n) : -230 ≤ uu d r ∧ uu d r ≤ 230 := by
  have n14 := h.T.n14
  obtain ⟨a, b⟩ := mat_gs n14 h.M hr
  have t := h.P.t _ a (mat_full n14 h.M a)
  rw [b] at t
  have v := h.P.v _ a
  have w := h.T.w r _ hr a
  have u := h.P.u r hr hr
  omega
theorem tgt_iff {d : mS} {n r c : Nat} (h : fvB d n) (hr : r < n) (hc : c < n) : tgt d r c ↔ uu d r + vv d c = ww d r c := by
  have u := fvB_u h hr
  have v := h.P.v c hc
  unfold tgt
  rw [t_eq, t_add (show -2147483648 ≤ uu d r + vv d c by omega) (show uu d r + vv d c < 2147483648 by omega)]
abbrev csX (d : mS) (n row c c1 : Nat) : mS := mset (mset (mset (csD d n (n + 1)) 74 c (nI 1)) 68 c1 (-1)) 68 c (nI row)
abbrev csY (d : mS) (n row c : Nat) (e : mS) : Prop := (∀ j, j ≠ 68 → j ≠ 72 → j ≠ 73 → j ≠ 74 → e.1 j = d.1 j) ∧ (fvB e n) ∧ (e.1 68 c = nI row) ∧ (∀ c', c' < n → ¬ d.1 75 c' = 0 → e.1 68 c' = d.1 68 c')
theorem csY.k {d : mS} {n row c : Nat} {e : mS} (h_ : csY d n row c e) : ∀ j, j ≠ 68 → j ≠ 72 → j ≠ 73 → j ≠ 74 → e.1 j = d.1 j := h_.1
theorem csY.B {d : mS} {n row c : Nat} {e : mS} (h_ : csY d n row c e) : fvB e n := h_.2.1
theorem csY.c {d : mS} {n row c : Nat} {e : mS} (h_ : csY d n row c e) : e.1 68 c = nI row := h_.2.2.1
theorem csY.s {d : mS} {n row c : Nat} {e : mS} (h_ : csY d n row c e) : ∀ c', c' < n → ¬ d.1 75 c' = 0 → e.1 68 c' = d.1 68 c' := h_.2.2.2
abbrev csN (d : mS) (n row c : Nat) (R : Nat → Prop) (e : mS) : Prop := (∀ j, j ≠ 68 → j ≠ 72 → j ≠ 73 → j ≠ 74 → e.1 j = d.1 j) ∧ (∀ c', c' < n → e.1 68 c' = d.1 68 c') ∧ (R c) ∧ (∀ c', c' < n → R c' → ¬ d.1 68 c' = nI row) ∧ (∀ c', c' < n → R c' → d.1 75 c' = 0) ∧ (∀ c', c' < n → R c' → ∀ x, x < n → d.1 75 x = 0 → tgt d (ro d c') x → R x)
theorem csN.k {d : mS} {n row c : Nat} {R : Nat → Prop} {e : mS} (h_ : csN d n row c R e) : ∀ j, j ≠ 68 → j ≠ 72 → j ≠ 73 → j ≠ 74 → e.1 j = d.1 j := h_.1
theorem csN.a {d : mS} {n row c : Nat} {R : Nat → Prop} {e : mS} (h_ : csN d n row c R e) : ∀ c', c' < n → e.1 68 c' = d.1 68 c' := h_.2.1
theorem csN.c {d : mS} {n row c : Nat} {R : Nat → Prop} {e : mS} (h_ : csN d n row c R e) : R c := h_.2.2.1
theorem csN.l {d : mS} {n row c : Nat} {R : Nat → Prop} {e : mS} (h_ : csN d n row c R e) : ∀ c', c' < n → R c' → ¬ d.1 68 c' = nI row := h_.2.2.2.1
theorem csN.s {d : mS} {n row c : Nat} {R : Nat → Prop} {e : mS} (h_ : csN d n row c R e) : ∀ c', c' < n → R c' → d.1 75 c' = 0 := h_.2.2.2.2.1
theorem csN.t {d : mS} {n row c : Nat} {R : Nat → Prop} {e : mS} (h_ : csN d n row c R e) : ∀ c', c' < n → R c' → ∀ x, x < n → d.1 75 x = 0 → tgt d (ro d c') x → R x := h_.2.2.2.2.2
section CSX
variable {d : mS} {n row c c1 : Nat}
theorem csX_k {j : Nat} (h1 : j ≠ 68) (h2 : j ≠ 72) (h3 : j ≠ 73) (h4 : j ≠ 74) : (csX d n row c c1).1 j = d.1 j := by
  show (mset (mset (mset (csD d n (n + 1)) 74 c (nI 1)) 68 c1 (-1)) 68 c (nI row)).1 j = _
  rw [mset_ne h1, mset_ne h1, mset_ne h4, csD_ne h2 h3 h4]
theorem csX_at : (csX d n row c c1).1 68 c = nI row := mset_at _ _ _ _
theorem csX_l (h : c1 ≠ c) : (csX d n row c c1).1 68 c1 = -1 := by
  show (mset (mset (mset (csD d n (n + 1)) 74 c (nI 1)) 68 c1 (-1)) 68 c (nI row)).1 68 c1 = _
  rw [mset_off h, mset_at]
theorem csX_o {x : Nat} (h1 : x ≠ c) (h2 : x ≠ c1) : (csX d n row c c1).1 68 x = d.1 68 x := by
  show (mset (mset (mset (csD d n (n + 1)) 74 c (nI 1)) 68 c1 (-1)) 68 c (nI row)).1 68 x = _
  rw [mset_off h1, mset_off h2, mset_ne (by decide), csD_ne (by decide) (by decide) (by decide)]
theorem csX_r : ¬ (csX d n row c c1).1 74 c = 0 := by
  show ¬ (mset (mset (mset (csD d n (n + 1)) 74 c (nI 1)) 68 c1 (-1)) 68 c (nI row)).1 74 c = 0
  rw [mset_ne (by decide), mset_ne (by decide), mset_at]; decide
theorem csX_r0 {x : Nat} (hx : x < n + 1) (h : x ≠ c) : (csX d n row c c1).1 74 x = 0 := by
  show (mset (mset (mset (csD d n (n + 1)) 74 c (nI 1)) 68 c1 (-1)) 68 c (nI row)).1 74 x = 0
  rw [mset_ne (by decide), mset_ne (by decide), mset_off h, (csD_at (n + 1) x hx).2.2]; exact nI_0
end CSX
/-- the state in which the other row is moved on -/
theorem csX_pre {d : mS} {n row c c1 : Nat} (h : fvB d n) (hrow : row < n) (hc : c < n) (h1 : c1 < n) (e1 : d.1 68 c1 = nI row) (hne : ro d c ≠ row) : c1 ≠ c ∧ vAt (csX d n row c c1) n ∧ mvPre n (csX d n row c c1) (ro d c) n ∧ unr n (csX d n row c c1) < 14 := by
  have n14 := h.T.n14
  have rc := mat_ro n14 h.M hc
  have cc : c1 ≠ c := fun q => by
    rw [q, rc.1] at e1
    exact hne (nI_inj (by omega) (by omega) e1)
  have row0 : ∀ x, x < n → x ≠ c1 → ¬ d.1 68 x = nI row := fun x hx hx1 q => hx1 (h.M.i x c1 hx h1 (mat_full n14 h.M hx) (by rw [q, e1]))
  have va : vAt (csX d n row c c1) n := by
    intro x hx
    by_cases z : x = c
    · rw [z, csX_at]; right; rw [nv_nI (by omega)]; exact ⟨rfl, hrow⟩
    · by_cases y : x = c1
      · rw [y, csX_l cc]; exact Or.inl rfl
      · rw [csX_o z y]; exact Or.inr (mat_ro n14 h.M hx)
  refine ⟨cc, va, ⟨va, rc.2, ?_, ?_, fun q => absurd q (Nat.lt_irrefl _)⟩, ?_⟩
  · intro x y hx hy _ _ hm e
    by_cases z : x = c
    · by_cases z2 : y = c
      · omega
      · rw [z, csX_at] at e
        by_cases y1 : y = c1
        · rw [y1, csX_l cc] at e
          exact absurd e (nIm1 (by omega))
        · rw [csX_o z2 y1] at e
          exact absurd e.symm (row0 y hy y1)
    · by_cases x1 : x = c1
      · rw [x1, csX_l cc] at hm
        exact absurd rfl hm
      · rw [csX_o z x1] at e hm
        by_cases z2 : y = c
        · rw [z2, csX_at] at e
          exact absurd e (row0 x hx x1)
        · by_cases y1 : y = c1
          · rw [y1, csX_l cc] at e
            exact absurd e hm
          · rw [csX_o z2 y1] at e
            exact h.M.i x y hx hy hm e
  · intro x hx _ e
    by_cases z : x = c
    · rw [z, csX_at] at e
      exact hne (nI_inj (by omega) (by omega) e).symm
    · by_cases x1 : x = c1
      · rw [x1, csX_l cc] at e
        exact nIm1 (r := ro d c) (by omega) e.symm
      · rw [csX_o z x1] at e
        exact z (h.M.i x c hx hc (mat_full n14 h.M hx) (by rw [e, rc.1]))
  · have := ct_lt (p := fun k => decide ((csX d n row c c1).1 74 k = 0)) (i := c) (n := n) hc (decide_eq_false csX_r)
    unfold unr
    omega
theorem cs_yes {d e : mS} {n row c c1 : Nat} (h : fvB d n) (hrow : row < n) (hc : c < n) (h1 : c1 < n) (e1 : d.1 68 c1 = nI row) (hne : ro d c ≠ row) (ht : tgt d row c) (s0 : d.1 75 c = 0) (s1 : d.1 75 c1 = 0) (hv : vAt e n) (ok : mvOk n (csX d n row c c1) (ro d c) n e) : csY d n row c e := by
  have n14 := h.T.n14
  obtain ⟨cc, va, pre, _⟩ := csX_pre h hrow hc h1 e1 hne
  have rc := mat_ro n14 h.M hc
  have kk : ∀ j, j ≠ 68 → j ≠ 72 → j ≠ 73 → j ≠ 74 → e.1 j = d.1 j := fun j a b g f => (ok.k j a f).trans (csX_k a b g f)
  have ec : e.1 68 c = nI row := by
    by_cases z : e.1 68 c = (csX d n row c c1).1 68 c
    · rw [z]; exact csX_at
    · exact absurd (ok.t c hc z).1 csX_r
  have x75 : (csX d n row c c1).1 75 = d.1 75 := csX_k (by decide) (by decide) (by decide) (by decide)
  have tk : ∀ r x, tgt (csX d n row c c1) r x ↔ tgt d r x := fun r x => by
    unfold tgt
    rw [csX_k (by decide) (by decide) (by decide) (by decide), csX_k (by decide) (by decide) (by decide) (by decide), csX_k (by omega) (by omega) (by omega) (by omega)]
  have M : mat e n (fun q => q < n) := by
    refine ⟨?_, ?_, ?_⟩
    · intro x hx
      rcases hv x hx with y | y
      · exact Or.inl y
      · exact Or.inr ⟨y.1, y.2, y.2⟩
    · intro x y hx hy hm e2
      exact ok.i x y hx hy (by omega) (by omega) hm e2
    · intro r hr _
      have src : r = ro d c ∨ ∃ x, x < n ∧ x ≠ n ∧ (csX d n row c c1).1 68 x = nI r := by
        by_cases z : r = ro d c
        · exact Or.inl z
        · right
          by_cases y : r = row
          · exact ⟨c, hc, by omega, by rw [y]; exact csX_at⟩
          · obtain ⟨x, x1, x2⟩ := h.M.p r hr hr
            refine ⟨x, x1, by omega, ?_⟩
            rw [csX_o (fun q => z ?_) (fun q => y ?_)]
            · exact x2
            · rw [q, rc.1] at x2
              exact (nI_inj (by omega) (by omega) x2).symm
            · rw [q, e1] at x2
              exact (nI_inj (by omega) (by omega) x2).symm
      obtain ⟨x, x1, _, x3⟩ := ok.p r hr src
      exact ⟨x, x1, x3⟩
  have k66 : ∀ r, uu e r = uu d r := fun r => by show (e.1 66 r).toInt = _; rw [kk 66 (by decide) (by decide) (by decide) (by decide)]
  have k67 : ∀ r, vv e r = vv d r := fun r => by show (e.1 67 r).toInt = _; rw [kk 67 (by decide) (by decide) (by decide) (by decide)]
  have kw : ∀ r x, ww e r x = ww d r x := fun r x => by show (e.1 (200 + r) x).toInt = _; rw [kk (200 + r) (by omega) (by omega) (by omega) (by omega)]
  have tight : ∀ x, x < n → tgt d (ro e x) x := by
    intro x hx
    by_cases z : e.1 68 x = (csX d n row c c1).1 68 x
    · by_cases y : x = c
      · rw [y, ro_nI ec (by omega)]; exact ht
      · by_cases y1 : x = c1
        · rw [y1, csX_l cc] at z
          exact absurd z (mat_full n14 M h1)
        · rw [csX_o y y1] at z
          have : ro e x = ro d x := by show nv _ = nv _; rw [z]
          rw [this]
          exact (tgt_iff h (mat_ro n14 h.M hx).2 hx).mpr (h.P.t x hx (mat_full n14 h.M hx))
    · exact (tk _ _).mp (ok.t x hx z).2.2.2.2
  refine ⟨kk, ⟨⟨by rw [kk 65 (by decide) (by decide) (by decide) (by decide)]; exact h.T.s, n14, fun r x a b => by rw [kw]; exact h.T.w r x a b⟩, M, ⟨?_, ?_, ?_, ?_⟩⟩, ec, ?_⟩
  · intro r hr hs x hx
    rw [k66, k67, kw]; exact h.P.f r hr hs x hx
  · intro x hx _
    rw [k66, k67, kw]
    exact (tgt_iff h (mat_ro n14 M hx).2 hx).mp (tight x hx)
  · intro x hx
    rw [k67]; exact h.P.v x hx
  · intro r hr hs
    rw [k66]; exact h.P.u r hr hs
  · intro x hx hs
    have xc : x ≠ c := fun q => hs (q ▸ s0)
    have xc1 : x ≠ c1 := fun q => hs (q ▸ s1)
    by_cases z : e.1 68 x = (csX d n row c c1).1 68 x
    · rw [z, csX_o xc xc1]
    · exact absurd (x75 ▸ (ok.t x hx z).2.1) hs
theorem cs_self {d : mS} {n row c : Nat} (h : fvB d n) (hc : c < n) (e : ro d c = row) : csY d n row c d := ⟨fun _ _ _ _ _ => rfl, h, by rw [← e]; exact (mat_ro h.T.n14 h.M hc).1, fun _ _ _ => rfl⟩
theorem cs_no {d e : mS} {n row c c1 : Nat} (h : fvB d n) (hrow : row < n) (hc : c < n) (h1 : c1 < n) (e1 : d.1 68 c1 = nI row) (hne : ro d c ≠ row) (s0 : d.1 75 c = 0) (cl : mvCl n (csX d n row c c1) e) (hd : ∀ x, x < n → (csX d n row c c1).1 75 x = 0 → tgt (csX d n row c c1) (ro d c) x → ¬ e.1 74 x = 0) : csN d n row c (fun x => ¬ e.1 74 x = 0) (mset (mset e 68 c1 (nI row)) 68 c (nI (ro d c))) := by
  have n14 := h.T.n14
  obtain ⟨cc, va, pre, _⟩ := csX_pre h hrow hc h1 e1 hne
  have rc := mat_ro n14 h.M hc
  have x75 : (csX d n row c c1).1 75 = d.1 75 := csX_k (by decide) (by decide) (by decide) (by decide)
  have tk : ∀ r x, tgt (csX d n row c c1) r x ↔ tgt d r x := fun r x => by
    unfold tgt
    rw [csX_k (by decide) (by decide) (by decide) (by decide), csX_k (by decide) (by decide) (by decide) (by decide), csX_k (by omega) (by omega) (by omega) (by omega)]
  have nl : ¬ e.1 74 c1 = 0 → False := fun q => (cl.c c1 h1 (csX_r0 (by omega) cc) q).2.1 (csX_l cc)
  have row0 : ∀ x, x < n → x ≠ c1 → ¬ d.1 68 x = nI row := fun x hx hx1 q => hx1 (h.M.i x c1 hx h1 (mat_full n14 h.M hx) (by rw [q, e1]))
  refine ⟨fun j a b g f => by rw [mset_ne a, mset_ne a, cl.k j a f, csX_k a b g f], ?_, cl.r c csX_r, ?_, ?_, ?_⟩
  · intro x hx
    by_cases z : x = c
    · rw [z, mset_at, rc.1]
    · rw [mset_off z]
      by_cases y : x = c1
      · rw [y, mset_at, e1]
      · rw [mset_off y, cl.a, csX_o z y]
  · intro x hx hR
    exact row0 x hx (fun q => nl (q ▸ hR))
  · intro x hx hR
    by_cases z : x = c
    · rw [z]; exact s0
    · rw [← x75]; exact (cl.c x hx (csX_r0 (by omega) z) hR).1
  · intro x hx hR y hy sy ty
    by_cases z : x = c
    · rw [z] at ty
      exact hd y hy (by rw [x75]; exact sy) ((tk _ _).mpr ty)
    · have x1 : x ≠ c1 := fun q => nl (q ▸ hR)
      refine (cl.c x hx (csX_r0 (by omega) z) hR).2.2 y hy (by rw [x75]; exact sy) ((tk _ _).mpr ?_)
      have : ro (csX d n row c c1) x = ro d x := by show nv _ = nv _; rw [csX_o z x1]
      rw [this]; exact ty
