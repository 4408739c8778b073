/-! ===== the model's methods, 15: best, the walk ===== -/
abbrev gqC (f nx : Nat → Int32) (due : Int32) (t j : Nat) : Prop := t / 2 ^ j % 2 = 0 ∧ 0 < f j ∧ f j + nx (t ||| 2 ^ j) = due
def gq (f nx : Nat → Int32) (due : Int32) (t T : Nat) : Nat → Int32
  | 0 => -1
  | k + 1 => if gqC f nx due t (T - (k + 1)) then nI (T - (k + 1)) else gq f nx due t T k
theorem gq_in {f nx : Nat → Int32} {due : Int32} {t T : Nat} : ∀ k, k ≤ T → gq f nx due t T k = -1 ∨ ∃ j, j < T ∧ gq f nx due t T k = nI j
  | 0, _ => Or.inl rfl
  | k + 1, h => by
    show (if gqC f nx due t (T - (k + 1)) then nI (T - (k + 1)) else gq f nx due t T k) = -1 ∨ ∃ j, j < T ∧ (if gqC f nx due t (T - (k + 1)) then nI (T - (k + 1)) else gq f nx due t T k) = nI j
    split
    · exact Or.inr ⟨T - (k + 1), by omega, rfl⟩
    · exact gq_in k (by omega)
def rkA (m : mS) : Nat → Nat → Int32 := rkM m (-1) (-1)
/-- the column of row i, with the columns of t taken -/
def pkW (m : mS) (i t : Nat) : Int32 := gq (fM m i) (rkA m (nO m - (i + 1))) (rkA m (nO m - i) t) t (nTh2 m) (nTh2 m)
def grT (m : mS) : Nat → Nat
  | 0 => 0
  | i + 1 => if pkW m i (grT m i) < 0 then grT m i else grT m i ||| 2 ^ nv (pkW m i (grT m i))
theorem grT_lt (m : mS) (hT : nTh2 m ≤ 14) : ∀ i, grT m i < 2 ^ nTh2 m
  | 0 => Nat.pow_pos (by decide)
  | i + 1 => by
    have ih := grT_lt m hT i
    show (if pkW m i (grT m i) < 0 then grT m i else grT m i ||| 2 ^ nv (pkW m i (grT m i))) < _
    split
    · exact ih
    · rename_i h
      rcases gq_in (f := fM m i) (nx := rkA m (nO m - (i + 1))) (due := rkA m (nO m - i) (grT m i)) (t := grT m i) (T := nTh2 m) (nTh2 m) (Nat.le_refl _) with e | ⟨j, hj, e⟩
      · exact absurd (show pkW m i (grT m i) < 0 by unfold pkW; rw [e]; decide) h
      · have e2 : nv (pkW m i (grT m i)) = j := by unfold pkW; rw [e]; exact nv_nI (by omega)
        rw [e2]
        exact or_lt ih hj
def wlI (m : mS) (sm : Int32) (i : Nat) (m' : mS) : Prop := m'.2 = m.2 ∧ (∀ j, j ≠ 24 → j ≠ 26 → m'.1 j = m.1 j) ∧ (∀ a, a < i → m'.1 24 a = pkW m a (grT m a) ∧ m'.1 26 a = (if m.1 26 a = 0 ∨ sm = 0 then nI 0 else nI 1)) ∧ (∀ a, i ≤ a → m'.1 26 a = m.1 26 a)
theorem wlI_step {m m' : mS} {sm h : Int32} {i : Nat} (hI : wlI m sm i m') (hh : h = (if m.1 26 i = 0 ∨ sm = 0 then nI 0 else nI 1)) : wlI m sm (i + 1) (mset (mset m' 24 i (pkW m i (grT m i))) 26 i h) := by
  obtain ⟨h1, h2, h3, h4⟩ := hI
  refine ⟨h1, fun j a1 a2 => by rw [mset_ne a2, mset_ne a1]; exact h2 j a1 a2, fun a ha => ?_, fun a ha => ?_⟩
  · by_cases e : a = i
    · subst e
      rw [mset_at, mset_ne (by decide), mset_at]
      exact ⟨rfl, hh⟩
    · refine ⟨?_, ?_⟩
      · rw [mset_ne (by decide), mset_off e]
        exact (h3 a (by omega)).1
      · rw [mset_off e, mset_ne (by decide)]
        exact (h3 a (by omega)).2
  · rw [mset_off (by omega), mset_ne (by decide)]
    exact h4 a (by omega)
def bsW (m2 m3 : mS) (c0 c1 : Nat) (r : Int32) (m6 : mS) : Prop := m6.2 = m3.2 ∧ (∀ j, j ≠ 23 → j ≠ 25 → j ≠ 27 → j ≠ 28 → m6.1 j = m3.1 j) ∧ m6.1 27 0 = nI c0 ∧ m6.1 28 0 = nI c1 ∧ m6.1 25 0 = r ∧ r = rkA m6 (nO m6) 0
def bestR (m : mS) (r : Int32) (m' : mS) : Prop := ∃ m2, bsA m m2 ∧ (if 14 < cBr m 0 ∨ 14 < cBr m 1 then r = -4 ∧ m' = mset m2 17 0 (nI 0) else ∃ sm m3, ftI m m2 (cBr m 0) 0 sm m3 ∧ ∃ m6, bsW m2 m3 (cBr m 0) (cBr m 1) r m6 ∧ ∃ m7, wlI m6 sm (cBr m 0) m7 ∧ m' = mset m7 17 0 (nI 1))

set_option maxHeartbeats 4000000 in
theorem k_best (G : vx_G) (x : vx_H) (m : mS) (hL : iL m) (hG : iG m) (hM : iMs m) : xK G M_X10_best 2 [(.ref MB)] NT (hp x m) 0 0 (QI (fun r n' h' => n' = NT ∧ ∃ m', h' = hp x m' ∧ bestR m r m')) := by
  have l0 := (hL 0 (by decide)).2
  have l1 := (hL 1 (by decide)).2
  have b0 : cBr m 0 ≤ 80 := Nat.le_trans (fb_ct_le _ _) l0
  have b1 : cBr m 1 ≤ 80 := Nat.le_trans (fb_ct_le _ _) l1
  have j322 : ∀ (m6 m' : mS) (sm : Int32) (i : Nat), (iP m6) → (i < nO m6) → (sm = 0 ∨ sm = 1) → (wlI m6 sm i m') → (∀ m8, wlI m6 sm (i + 1) m8 → xV (mF G M_X10_best 2 0 0 (QI (fun r n' h' => n' = NT ∧ ∃ m', h' = hp x m' ∧ bestR m r m'))) 221 [some (.ref MB), some (.int sm), some (.int (nI (grT m6 (i + 1)))), some (.int (nI (i + 1))), none, none, none, none] [] NT (hp x m8) 0 0) → xV (mF G M_X10_best 2 0 0 (QI (fun r n' h' => n' = NT ∧ ∃ m', h' = hp x m' ∧ bestR m r m'))) 322 [some (.ref MB), some (.int sm), some (.int (nI (grT m6 i))), some (.int (nI (i))), none, some (.int ((pkW m6 i (grT m6 i)))), none, none] [] NT (hp x m') 0 0 := by
    intro m6 m' sm i hP6 hi hsm hI kk
    have hi14 : i < 14 := by have := hP6.1.2; omega
    have e26 : m'.1 26 i = m6.1 26 i := hI.2.2.2 i (Nat.le_refl _)
    have hT6 := hP6.2.2
    refine x_aload0 dX10_best_322 ?_
    refine gm24 fgX10_67 dX10_best_323 ?_
    refine x_iload3 dX10_best_326 ?_
    refine x_iload5 dX10_best_327 ?_
    refine sm24 (i) rfl (by omega) dX10_best_329 ?_
    refine x_aload0 dX10_best_330 ?_
    refine gm26 fgX10_70 dX10_best_331 ?_
    refine x_iload3 dX10_best_334 ?_
    refine x_aload0 dX10_best_335 ?_
    refine gm26 fgX10_70 dX10_best_336 ?_
    refine x_iload3 dX10_best_339 ?_
    refine lm26 (i) rfl (by omega) dX10_best_340 ?_
    refine xV.toi (m6.1 26 i) (by first | exact e26 | (rw [mset_ne (by decide)]; exact e26)) ?_
    refine x_if_eq 352 dX10_best_341 (by decide) (fun c341 => ?_) (fun c341 => ?_)
    · have hh : nI 0 = (if m6.1 26 i = 0 ∨ sm = 0 then nI 0 else nI 1) := (if_pos (Or.inl c341)).symm
      refine x_iconst (nI 0) dX10_best_352 (by decide) ?_
      refine sm26 (i) rfl (by omega) (by first | exact Or.inl nI_0 | exact Or.inr nI1 | exact bI_01 _) dX10_best_353 ?_
      refine x_iload2 dX10_best_354 ?_
      refine x_iload5 dX10_best_355 ?_
      refine x_if_lt 367 dX10_best_357 (by decide) (fun c357 => ?_) (fun c357 => ?_)
      · have hg : grT m6 (i + 1) = grT m6 i := if_pos c357
        refine x_iconst (nI 0) dX10_best_367 (by decide) ?_
        refine x_ior dX10_best_368 ?_
        refine xV.toi (nI (grT m6 (i + 1))) (by first | (rw [hg]; exact fa_or _ _) | (rw [fa_or, hg, Nat.or_zero])) ?_
        refine x_istore2 dX10_best_369 rfl rfl rfl ?_
        refine x_iinc3 (nI (i + 1)) dX10_best_370 (nI_add i 1) rfl rfl rfl ?_
        refine x_goto 221 dX10_best_373 (by decide) ?_
        refine xV.lvle (L' := [some (.ref _), some (.int _), some (.int _), some (.int _), none, none, none, none]) ⟨rfl, rfl, rfl, rfl, trivial⟩ ?_
        refine xV.lvle (L' := [some (.ref MB), some (.int sm), some (.int (nI (grT m6 (i + 1)))), some (.int (nI (i + 1))), none, none, none, none]) ⟨rfl, rfl, rfl, rfl, trivial⟩ (kk _ (wlI_step hI hh))
      · have hg : grT m6 (i + 1) = grT m6 i ||| 2 ^ nv (pkW m6 i (grT m6 i)) := if_neg c357
        obtain ⟨j, hj, ej⟩ := (gq_in (f := fM m6 i) (nx := rkA m6 (nO m6 - (i + 1))) (due := rkA m6 (nO m6 - i) (grT m6 i)) (t := grT m6 i) (T := nTh2 m6) (nTh2 m6) (Nat.le_refl _)).resolve_left (fun e => c357 (by unfold pkW; rw [e]; decide))
        have ep : pkW m6 i (grT m6 i) = nI j := ej
        have en : nv (pkW m6 i (grT m6 i)) = j := by rw [ep]; exact nv_nI (by omega)
        refine x_iconst (nI 1) dX10_best_360 (by decide) ?_
        refine x_iload5 dX10_best_361 ?_
        refine x_ishl dX10_best_363 ?_
        refine xV.toi (nI (2 ^ nv (pkW m6 i (grT m6 i)))) (by rw [ep, nv_nI (by omega)]; exact sh_1 (by omega)) ?_
        refine x_goto 368 dX10_best_364 (by decide) ?_
        refine x_ior dX10_best_368 ?_
        refine xV.toi (nI (grT m6 (i + 1))) (by first | (rw [hg]; exact fa_or _ _) | (rw [fa_or, hg, Nat.or_zero])) ?_
        refine x_istore2 dX10_best_369 rfl rfl rfl ?_
        refine x_iinc3 (nI (i + 1)) dX10_best_370 (nI_add i 1) rfl rfl rfl ?_
        refine x_goto 221 dX10_best_373 (by decide) ?_
        refine xV.lvle (L' := [some (.ref _), some (.int _), some (.int _), some (.int _), none, none, none, none]) ⟨rfl, rfl, rfl, rfl, trivial⟩ ?_
        refine xV.lvle (L' := [some (.ref MB), some (.int sm), some (.int (nI (grT m6 (i + 1)))), some (.int (nI (i + 1))), none, none, none, none]) ⟨rfl, rfl, rfl, rfl, trivial⟩ (kk _ (wlI_step hI hh))
    · refine x_iload1 dX10_best_344 ?_
      refine x_if_eq 352 dX10_best_345 (by decide) (fun c345 => ?_) (fun c345 => ?_)
      · have hh : nI 0 = (if m6.1 26 i = 0 ∨ sm = 0 then nI 0 else nI 1) := (if_pos (Or.inr c345)).symm
        refine x_iconst (nI 0) dX10_best_352 (by decide) ?_
        refine sm26 (i) rfl (by omega) (by first | exact Or.inl nI_0 | exact Or.inr nI1 | exact bI_01 _) dX10_best_353 ?_
        refine x_iload2 dX10_best_354 ?_
        refine x_iload5 dX10_best_355 ?_
        refine x_if_lt 367 dX10_best_357 (by decide) (fun c357 => ?_) (fun c357 => ?_)
        · have hg : grT m6 (i + 1) = grT m6 i := if_pos c357
          refine x_iconst (nI 0) dX10_best_367 (by decide) ?_
          refine x_ior dX10_best_368 ?_
          refine xV.toi (nI (grT m6 (i + 1))) (by first | (rw [hg]; exact fa_or _ _) | (rw [fa_or, hg, Nat.or_zero])) ?_
          refine x_istore2 dX10_best_369 rfl rfl rfl ?_
          refine x_iinc3 (nI (i + 1)) dX10_best_370 (nI_add i 1) rfl rfl rfl ?_
          refine x_goto 221 dX10_best_373 (by decide) ?_
          refine xV.lvle (L' := [some (.ref _), some (.int _), some (.int _), some (.int _), none, none, none, none]) ⟨rfl, rfl, rfl, rfl, trivial⟩ ?_
          refine xV.lvle (L' := [some (.ref MB), some (.int sm), some (.int (nI (grT m6 (i + 1)))), some (.int (nI (i + 1))), none, none, none, none]) ⟨rfl, rfl, rfl, rfl, trivial⟩ (kk _ (wlI_step hI hh))
        · have hg : grT m6 (i + 1) = grT m6 i ||| 2 ^ nv (pkW m6 i (grT m6 i)) := if_neg c357
          obtain ⟨j, hj, ej⟩ := (gq_in (f := fM m6 i) (nx := rkA m6 (nO m6 - (i + 1))) (due := rkA m6 (nO m6 - i) (grT m6 i)) (t := grT m6 i) (T := nTh2 m6) (nTh2 m6) (Nat.le_refl _)).resolve_left (fun e => c357 (by unfold pkW; rw [e]; decide))
          have ep : pkW m6 i (grT m6 i) = nI j := ej
          have en : nv (pkW m6 i (grT m6 i)) = j := by rw [ep]; exact nv_nI (by omega)
          refine x_iconst (nI 1) dX10_best_360 (by decide) ?_
          refine x_iload5 dX10_best_361 ?_
          refine x_ishl dX10_best_363 ?_
          refine xV.toi (nI (2 ^ nv (pkW m6 i (grT m6 i)))) (by rw [ep, nv_nI (by omega)]; exact sh_1 (by omega)) ?_
          refine x_goto 368 dX10_best_364 (by decide) ?_
          refine x_ior dX10_best_368 ?_
          refine xV.toi (nI (grT m6 (i + 1))) (by first | (rw [hg]; exact fa_or _ _) | (rw [fa_or, hg, Nat.or_zero])) ?_
          refine x_istore2 dX10_best_369 rfl rfl rfl ?_
          refine x_iinc3 (nI (i + 1)) dX10_best_370 (nI_add i 1) rfl rfl rfl ?_
          refine x_goto 221 dX10_best_373 (by decide) ?_
          refine xV.lvle (L' := [some (.ref _), some (.int _), some (.int _), some (.int _), none, none, none, none]) ⟨rfl, rfl, rfl, rfl, trivial⟩ ?_
          refine xV.lvle (L' := [some (.ref MB), some (.int sm), some (.int (nI (grT m6 (i + 1)))), some (.int (nI (i + 1))), none, none, none, none]) ⟨rfl, rfl, rfl, rfl, trivial⟩ (kk _ (wlI_step hI hh))
      · have hh : nI 1 = (if m6.1 26 i = 0 ∨ sm = 0 then nI 0 else nI 1) := (if_neg (fun q => Or.elim q c341 c345)).symm
        refine x_iconst (nI 1) dX10_best_348 (by decide) ?_
        refine x_goto 353 dX10_best_349 (by decide) ?_
        refine sm26 (i) rfl (by omega) (by first | exact Or.inl nI_0 | exact Or.inr nI1 | exact bI_01 _) dX10_best_353 ?_
        refine x_iload2 dX10_best_354 ?_
        refine x_iload5 dX10_best_355 ?_
        refine x_if_lt 367 dX10_best_357 (by decide) (fun c357 => ?_) (fun c357 => ?_)
        · have hg : grT m6 (i + 1) = grT m6 i := if_pos c357
          refine x_iconst (nI 0) dX10_best_367 (by decide) ?_
          refine x_ior dX10_best_368 ?_
          refine xV.toi (nI (grT m6 (i + 1))) (by first | (rw [hg]; exact fa_or _ _) | (rw [fa_or, hg, Nat.or_zero])) ?_
          refine x_istore2 dX10_best_369 rfl rfl rfl ?_
          refine x_iinc3 (nI (i + 1)) dX10_best_370 (nI_add i 1) rfl rfl rfl ?_
          refine x_goto 221 dX10_best_373 (by decide) ?_
          refine xV.lvle (L' := [some (.ref _), some (.int _), some (.int _), some (.int _), none, none, none, none]) ⟨rfl, rfl, rfl, rfl, trivial⟩ ?_
          refine xV.lvle (L' := [some (.ref MB), some (.int sm), some (.int (nI (grT m6 (i + 1)))), some (.int (nI (i + 1))), none, none, none, none]) ⟨rfl, rfl, rfl, rfl, trivial⟩ (kk _ (wlI_step hI hh))
        · have hg : grT m6 (i + 1) = grT m6 i ||| 2 ^ nv (pkW m6 i (grT m6 i)) := if_neg c357
          obtain ⟨j, hj, ej⟩ := (gq_in (f := fM m6 i) (nx := rkA m6 (nO m6 - (i + 1))) (due := rkA m6 (nO m6 - i) (grT m6 i)) (t := grT m6 i) (T := nTh2 m6) (nTh2 m6) (Nat.le_refl _)).resolve_left (fun e => c357 (by unfold pkW; rw [e]; decide))
          have ep : pkW m6 i (grT m6 i) = nI j := ej
          have en : nv (pkW m6 i (grT m6 i)) = j := by rw [ep]; exact nv_nI (by omega)
          refine x_iconst (nI 1) dX10_best_360 (by decide) ?_
          refine x_iload5 dX10_best_361 ?_
          refine x_ishl dX10_best_363 ?_
          refine xV.toi (nI (2 ^ nv (pkW m6 i (grT m6 i)))) (by rw [ep, nv_nI (by omega)]; exact sh_1 (by omega)) ?_
          refine x_goto 368 dX10_best_364 (by decide) ?_
          refine x_ior dX10_best_368 ?_
          refine xV.toi (nI (grT m6 (i + 1))) (by first | (rw [hg]; exact fa_or _ _) | (rw [fa_or, hg, Nat.or_zero])) ?_
          refine x_istore2 dX10_best_369 rfl rfl rfl ?_
          refine x_iinc3 (nI (i + 1)) dX10_best_370 (nI_add i 1) rfl rfl rfl ?_
          refine x_goto 221 dX10_best_373 (by decide) ?_
          refine xV.lvle (L' := [some (.ref _), some (.int _), some (.int _), some (.int _), none, none, none, none]) ⟨rfl, rfl, rfl, rfl, trivial⟩ ?_
          refine xV.lvle (L' := [some (.ref MB), some (.int sm), some (.int (nI (grT m6 (i + 1)))), some (.int (nI (i + 1))), none, none, none, none]) ⟨rfl, rfl, rfl, rfl, trivial⟩ (kk _ (wlI_step hI hh))
  have lc : ∀ (m6 m' : mS) (sm : Int32) (i : Nat), (iP m6) → (i < nO m6) → (wlI m6 sm i m') → (∀ i, i ≤ nO m6 → ∀ s, s < 2 ^ nTh2 m6 → m6.1 23 (16384 * i + s) = rkA m6 (nO m6 - i) s) → (xV (mF G M_X10_best 2 0 0 (QI (fun r n' h' => n' = NT ∧ ∃ m', h' = hp x m' ∧ bestR m r m'))) 322 [some (.ref MB), some (.int sm), some (.int (nI (grT m6 i))), some (.int (nI (i))), none, some (.int ((pkW m6 i (grT m6 i)))), none, none] [] NT (hp x m') 0 0) → ∀ (n_ : Nat) (u k : Nat) (v be : Int32), u ≤ nTh2 m6 → nTh2 m6 + 1 ≤ u + n_ → (u + k = nTh2 m6) → (v = nI k - nI 1) → (be = gq (fM m6 i) (rkA m6 (nO m6 - (i + 1))) (rkA m6 (nO m6 - i) (grT m6 i)) (grT m6 i) (nTh2 m6) u) → xV (mF G M_X10_best 2 0 0 (QI (fun r n' h' => n' = NT ∧ ∃ m', h' = hp x m' ∧ bestR m r m'))) 253 [some (.ref MB), some (.int sm), some (.int (nI (grT m6 i))), some (.int (nI (i))), some (.int ((rkA m6 (nO m6 - i) (grT m6 i)))), some (.int be), some (.int v), none] [] NT (hp x m') 0 0 := by
    intro m6 m' sm i hP6 hi hI hTb kk
    have hi14 : i < 14 := by have := hP6.1.2; omega
    have hT6 := hP6.2.2
    have hlt := grT_lt m6 hT6 i
    have hpw := pw_14 hT6
    have f22 := hI.2.1 22 (by decide) (by decide)
    have f23 := hI.2.1 23 (by decide) (by decide)
    intro n_
    induction n_ with
    | zero => intro u k v be hi_ hn_; omega
    | succ n_ ih =>
      intro u k v be hi_ hn_ huk hv hbe
      refine x_iload6 dX10_best_253 ?_
      refine x_if_lt 322 dX10_best_255 (by decide) (fun c255 => ?_) (fun c255 => ?_)
      · have k0 := dn_t (by omega) hv c255
        subst k0
        refine xV.lvle (L' := [some (.ref _), some (.int _), some (.int _), some (.int _), none, some (.int _), none, none]) ⟨rfl, rfl, rfl, rfl, rfl, trivial⟩ ?_
        have eb : be = pkW m6 i (grT m6 i) := by rw [hbe, show u = nTh2 m6 by omega]; rfl
        subst eb
        refine xV.lvle (L' := [some (.ref MB), some (.int sm), some (.int (nI (grT m6 i))), some (.int (nI (i))), none, some (.int ((pkW m6 i (grT m6 i)))), none, none]) ⟨rfl, rfl, rfl, rfl, rfl, trivial⟩ kk
      · obtain ⟨j, rfl, rfl⟩ := dn_f (by omega) hv c255
        have eJ : nTh2 m6 - (u + 1) = j := by omega
        refine x_aload0 dX10_best_258 ?_
        refine gm22 fgX10_60 dX10_best_259 ?_
        refine x_bipush (nI 14) dX10_best_262 (by decide) ?_
        refine x_iload3 dX10_best_264 ?_
        refine n_imul dX10_best_265 ?_
        refine x_iload6 dX10_best_266 ?_
        refine n_iadd dX10_best_268 ?_
        refine lm22 ((14 * i) + j) rfl (by omega) dX10_best_269 ?_
        refine xV.toi (fM m6 i j) (by rw [f22]; rfl) ?_
        refine x_istore7 dX10_best_270 rfl rfl rfl ?_
        refine x_iload2 dX10_best_272 ?_
        refine x_iload6 dX10_best_273 ?_
        refine x_ishr dX10_best_275 ?_
        refine x_iconst (nI 1) dX10_best_276 (by decide) ?_
        refine x_iand dX10_best_277 ?_
        refine xV.toi (nI (grT m6 i / 2 ^ j % 2)) (bit_n (by omega) (by omega)) ?_
        refine n_if_ne 316 dX10_best_278 (by decide) (by omega) (fun c278 => ?_) (fun c278 => ?_)
        · have hn : ¬ gqC (fM m6 i) (rkA m6 (nO m6 - (i + 1))) (rkA m6 (nO m6 - i) (grT m6 i)) (grT m6 i) (nTh2 m6 - (u + 1)) := by rw [eJ]; exact fun q => c278 q.1
          refine x_iinc6 _ dX10_best_316 rfl rfl rfl rfl ?_
          refine x_goto 253 dX10_best_319 (by decide) ?_
          refine xV.lvle (L' := [some (.ref _), some (.int _), some (.int _), some (.int _), some (.int _), some (.int _), some (.int _), none]) ⟨rfl, rfl, rfl, rfl, rfl, rfl, rfl, trivial⟩ ?_
          exact ih (u + 1) j _ _ (by omega) (by omega) (by omega) (dec_1 j) (by rw [hbe]; exact (if_neg hn).symm)
        · refine x_iload7 dX10_best_281 ?_
          refine x_if_le 316 dX10_best_283 (by decide) (fun c283 => ?_) (fun c283 => ?_)
          · have hn : ¬ gqC (fM m6 i) (rkA m6 (nO m6 - (i + 1))) (rkA m6 (nO m6 - i) (grT m6 i)) (grT m6 i) (nTh2 m6 - (u + 1)) := by rw [eJ]; exact fun q => absurd q.2.1 (iNL.mpr c283)
            refine x_iinc6 _ dX10_best_316 rfl rfl rfl rfl ?_
            refine x_goto 253 dX10_best_319 (by decide) ?_
            refine xV.lvle (L' := [some (.ref _), some (.int _), some (.int _), some (.int _), some (.int _), some (.int _), some (.int _), none]) ⟨rfl, rfl, rfl, rfl, rfl, rfl, rfl, trivial⟩ ?_
            exact ih (u + 1) j _ _ (by omega) (by omega) (by omega) (dec_1 j) (by rw [hbe]; exact (if_neg hn).symm)
          · refine x_iload7 dX10_best_286 ?_
            refine x_aload0 dX10_best_288 ?_
            refine gm23 fgX10_64 dX10_best_289 ?_
            refine x_iload3 dX10_best_292 ?_
            refine x_iconst (nI 1) dX10_best_293 (by decide) ?_
            refine n_iadd dX10_best_294 ?_
            refine x_bipush (nI 14) dX10_best_295 (by decide) ?_
            refine x_ishl dX10_best_297 ?_
            refine xV.toi (nI (16384 * (i + 1))) (sh_14 (by omega)) ?_
            refine x_iload2 dX10_best_298 ?_
            refine x_iconst (nI 1) dX10_best_299 (by decide) ?_
            refine x_iload6 dX10_best_300 ?_
            refine x_ishl dX10_best_302 ?_
            refine xV.toi (nI (2 ^ j)) (sh_1 (by omega)) ?_
            refine x_ior dX10_best_303 ?_
            refine xV.toi (nI (grT m6 i ||| 2 ^ j)) (fa_or _ _) ?_
            have hor : grT m6 i ||| 2 ^ j < 2 ^ nTh2 m6 := or_lt hlt (by omega)
            refine n_iadd dX10_best_304 ?_
            refine lm23 ((16384 * (i + 1)) + (grT m6 i ||| 2 ^ j)) rfl (by omega) dX10_best_305 ?_
            refine xV.toi (rkA m6 (nO m6 - (i + 1)) (grT m6 i ||| 2 ^ j)) (by rw [f23]; exact hTb (i + 1) (by omega) _ hor) ?_
            refine x_iadd dX10_best_306 ?_
            refine x_iload4 dX10_best_307 ?_
            refine x_icmp_ne 316 dX10_best_309 (by decide) (fun c309 => ?_) (fun c309 => ?_)
            · have hn : ¬ gqC (fM m6 i) (rkA m6 (nO m6 - (i + 1))) (rkA m6 (nO m6 - i) (grT m6 i)) (grT m6 i) (nTh2 m6 - (u + 1)) := by rw [eJ]; exact fun q => c309 q.2.2
              refine x_iinc6 _ dX10_best_316 rfl rfl rfl rfl ?_
              refine x_goto 253 dX10_best_319 (by decide) ?_
              refine xV.lvle (L' := [some (.ref _), some (.int _), some (.int _), some (.int _), some (.int _), some (.int _), some (.int _), none]) ⟨rfl, rfl, rfl, rfl, rfl, rfl, rfl, trivial⟩ ?_
              exact ih (u + 1) j _ _ (by omega) (by omega) (by omega) (dec_1 j) (by rw [hbe]; exact (if_neg hn).symm)
            · have hy : gqC (fM m6 i) (rkA m6 (nO m6 - (i + 1))) (rkA m6 (nO m6 - i) (grT m6 i)) (grT m6 i) (nTh2 m6 - (u + 1)) := by rw [eJ]; exact ⟨c278, iNE.mp c283, c309⟩
              refine x_iload6 dX10_best_312 ?_
              refine x_istore5 dX10_best_314 rfl rfl rfl ?_
              refine x_iinc6 _ dX10_best_316 rfl rfl rfl rfl ?_
              refine x_goto 253 dX10_best_319 (by decide) ?_
              refine xV.lvle (L' := [some (.ref _), some (.int _), some (.int _), some (.int _), some (.int _), some (.int _), some (.int _), none]) ⟨rfl, rfl, rfl, rfl, rfl, rfl, rfl, trivial⟩ ?_
              exact ih (u + 1) j _ _ (by omega) (by omega) (by omega) (dec_1 j) (by rw [← eJ]; exact (if_pos hy).symm)
  have lr : ∀ (m2 m3 m6 : mS) (sm r : Int32), (iP m6) → (nO m6 = cBr m 0) → (∀ i, i ≤ nO m6 → ∀ s, s < 2 ^ nTh2 m6 → m6.1 23 (16384 * i + s) = rkA m6 (nO m6 - i) s) → (bsA m m2) → (ftI m m2 (cBr m 0) 0 sm m3) → (bsW m2 m3 (cBr m 0) (cBr m 1) r m6) → (¬ (14 < cBr m 0 ∨ 14 < cBr m 1)) → ∀ (n_ : Nat) (i : Nat) (m' : mS), i ≤ nO m6 → nO m6 + 1 ≤ i + n_ → (wlI m6 sm i m') → xV (mF G M_X10_best 2 0 0 (QI (fun r n' h' => n' = NT ∧ ∃ m', h' = hp x m' ∧ bestR m r m'))) 221 [some (.ref MB), some (.int sm), some (.int (nI (grT m6 i))), some (.int (nI (i))), none, none, none, none] [] NT (hp x m') 0 0 := by
    intro m2 m3 m6 sm r hP6 hO6 hTb hA2 hF hW6 hn14
    have hT6 := hP6.2.2
    have hO7 := hP6.1.2
    have hpw := pw_14 hT6
    intro n_
    induction n_ with
    | zero => intro i m' hi_ hn_; omega
    | succ n_ ih =>
      intro i m' hi_ hn_ hI
      have hlt := grT_lt m6 hT6 i
      have f20 := hI.2.1 20 (by decide) (by decide)
      have f21 := hI.2.1 21 (by decide) (by decide)
      have f23 := hI.2.1 23 (by decide) (by decide)
      have f25 := hI.2.1 25 (by decide) (by decide)
      refine x_iload3 dX10_best_221 ?_
      refine x_aload0 dX10_best_222 ?_
      refine gm20 fgX10_168 dX10_best_223 ?_
      refine xV.toi (nI (nO m6)) (by rw [f20]; exact hP6.1.1) ?_
      refine n_icmp_ge 376 dX10_best_226 (by decide) (by omega) (by omega) (fun c226 => ?_) (fun c226 => ?_)
      · refine x_aload0 dX10_best_376 ?_
        refine x_iconst (nI 1) dX10_best_377 (by decide) ?_
        refine pm17 fpX10_123 dX10_best_378 (Or.inr nI1) ?_
        refine x_aload0 dX10_best_381 ?_
        refine gm25 fgX10_178 dX10_best_382 ?_
        refine xV.toi (r) ((congrFun f25 0).trans hW6.2.2.2.2.1) ?_
        refine x_iret dX10_best_385 rfl ?_ (Nat.zero_le _) (Nat.zero_le _)
        refine ⟨rfl, _, rfl, m2, hA2, ?_⟩
        rw [if_neg hn14]
        exact ⟨sm, m3, hF, m6, hW6, m', by rw [show i = cBr m 0 by omega] at hI; exact hI, rfl⟩
      · refine x_aload0 dX10_best_229 ?_
        refine gm23 fgX10_64 dX10_best_230 ?_
        refine x_iload3 dX10_best_233 ?_
        refine x_bipush (nI 14) dX10_best_234 (by decide) ?_
        refine x_ishl dX10_best_236 ?_
        refine xV.toi (nI (16384 * i)) (sh_14 (by omega)) ?_
        refine x_iload2 dX10_best_237 ?_
        refine n_iadd dX10_best_238 ?_
        refine lm23 ((16384 * i) + (grT m6 i)) rfl (by omega) dX10_best_239 ?_
        refine xV.toi (rkA m6 (nO m6 - i) (grT m6 i)) (by rw [f23]; exact hTb i (by omega) _ hlt) ?_
        refine x_istore4 dX10_best_240 rfl rfl rfl ?_
        refine x_iconst (-1) dX10_best_242 (by decide) ?_
        refine x_istore5 dX10_best_243 rfl rfl rfl ?_
        refine x_aload0 dX10_best_245 ?_
        refine gm21 fgX10_165 dX10_best_246 ?_
        refine xV.toi (nI (nTh2 m6)) (by rw [f21]; exact hP6.2.1) ?_
        refine x_iconst (nI 1) dX10_best_249 (by decide) ?_
        refine x_isub dX10_best_250 ?_
        refine xV.topi (fun v ev => ?_)
        refine x_istore6 dX10_best_251 rfl rfl rfl ?_
        exact lc m6 m' sm i hP6 c226 hI hTb (j322 m6 m' sm i hP6 c226 hF.2.2.2.1 hI (fun m8 h8 => ih (i + 1) m8 (by omega) (by omega) h8)) (nTh2 m6 + 1) 0 (nTh2 m6) v (-1) (Nat.zero_le _) (by omega) (by omega) ev rfl
  have j191 : ∀ (m2 m3 : mS) (sm : Int32), (bsA m m2) → (ftI m m2 (cBr m 0) 0 sm m3) → (¬ (14 < cBr m 0 ∨ 14 < cBr m 1)) → xV (mF G M_X10_best 2 0 0 (QI (fun r n' h' => n' = NT ∧ ∃ m', h' = hp x m' ∧ bestR m r m'))) 191 [some (.ref MB), some (.int sm), none, none, none, none, none, none] [] NT (hp x m3) 0 0 := by
    intro m2 m3 sm hA2 hF hn14
    have e20 : m3.1 20 0 = nI (cBr m 0) := by rw [hF.2.1 20 (by decide)]; exact hA2.2.2.1
    have e21 : m3.1 21 0 = nI (cBr m 1) := by rw [hF.2.1 21 (by decide)]; exact hA2.2.2.2.1
    have n20 : ∀ q : mS, q.1 20 0 = m3.1 20 0 → nO q = cBr m 0 := fun q e => by unfold nO; rw [e, e20]; exact nv_nI (by omega)
    have n21 : ∀ q : mS, q.1 21 0 = m3.1 21 0 → nTh2 q = cBr m 1 := fun q e => by unfold nTh2; rw [e, e21]; exact nv_nI (by omega)
    have iPq : ∀ q : mS, q.1 20 0 = m3.1 20 0 → q.1 21 0 = m3.1 21 0 → iP q := fun q e1 e2 => by unfold iP; rw [n20 q e1, n21 q e2, e1, e2]; exact ⟨⟨e20, by omega⟩, e21, by omega⟩
    refine x_aload0 dX10_best_191 ?_
    refine x_aload0 dX10_best_192 ?_
    refine gm20 fgX10_168 dX10_best_193 ?_
    refine xV.toi (nI (cBr m 0)) (e20) ?_
    refine pm27 fpX10_73 dX10_best_196 ?_
    refine x_aload0 dX10_best_199 ?_
    refine x_aload0 dX10_best_200 ?_
    refine gm21 fgX10_165 dX10_best_201 ?_
    refine xV.toi (nI (cBr m 1)) (e21) ?_
    refine pm28 fpX10_76 dX10_best_204 ?_
    refine x_aload0 dX10_best_207 ?_
    refine x_aload0 dX10_best_208 ?_
    refine x_iconst (-1) dX10_best_209 (by decide) ?_
    refine x_iconst (-1) dX10_best_210 (by decide) ?_
    refine x_callV2i mvX10_175 (k_reckon G x (mset (mset m3 27 0 (nI (cBr m 0))) 28 0 (nI (cBr m 1))) (iPq _ rfl rfl) (-1) (-1)) mb_lt0 (hp_m0 _ _) (xRoom.of rfl) (Nat.le_of_ble_eq_true rfl) dX10_best_211 (fun r_ n_ h_ hq => ?_)
    obtain ⟨rfl, m5, rfl, hR⟩ := hq
    refine pm25 fpX10_178 dX10_best_214 ?_
    refine x_iconst (nI 0) dX10_best_217 (by decide) ?_
    refine x_istore2 dX10_best_218 rfl rfl rfl ?_
    refine x_iconst (nI 0) dX10_best_219 (by decide) ?_
    refine x_istore3 dX10_best_220 rfl rfl rfl ?_
    have g20 : m5.1 20 0 = m3.1 20 0 := by rw [hR.2.1 20 (by decide)]; rfl
    have g21 : m5.1 21 0 = m3.1 21 0 := by rw [hR.2.1 21 (by decide)]; rfl
    have hP6 : iP (mset m5 25 0 r_) := iPq _ g20 g21
    have hk : rkA (mset m5 25 0 r_) = rkM (mset (mset m3 27 0 (nI (cBr m 0))) 28 0 (nI (cBr m 1))) (-1) (-1) := rkM_of (by rw [mset_ne (by decide)]; exact hR.2.1 22 (by decide)) (by rw [mset_ne (by decide)]; exact hR.2.1 20 (by decide)) (by rw [mset_ne (by decide)]; exact hR.2.1 21 (by decide))
    have nO6 : nO (mset m5 25 0 r_) = cBr m 0 := n20 _ g20
    have nT6 : nTh2 (mset m5 25 0 r_) = cBr m 1 := n21 _ g21
    have nO4 : nO (mset (mset m3 27 0 (nI (cBr m 0))) 28 0 (nI (cBr m 1))) = cBr m 0 := n20 _ rfl
    have nT4 : nTh2 (mset (mset m3 27 0 (nI (cBr m 0))) 28 0 (nI (cBr m 1))) = cBr m 1 := n21 _ rfl
    have h3 := hR.2.2.1
    have h4 := hR.2.2.2
    rw [nO4, nT4] at h3
    rw [nO4] at h4
    exact lr m2 m3 (mset m5 25 0 r_) sm r_ hP6 nO6 (by rw [nO6, nT6, hk]; exact fun i hi s hs => (congrFun (mset_ne (by decide)) _).trans (h3 i hi s hs)) hA2 hF ⟨hR.1, fun j a1 a2 a3 a4 => by rw [mset_ne a2, hR.2.1 j a1, mset_ne a4, mset_ne a3], by rw [mset_ne (by decide), hR.2.1 27 (by decide), mset_ne (by decide), mset_at], by rw [mset_ne (by decide), hR.2.1 28 (by decide), mset_at], mset_at _ _ _ _, by rw [nO6, hk]; exact h4⟩ hn14 (nO (mset m5 25 0 r_) + 1) 0 _ (Nat.zero_le _) (by omega) ⟨rfl, fun _ _ _ => rfl, fun a ha => absurd ha (Nat.not_lt_zero a), fun _ _ => rfl⟩
  have lj : ∀ (m2 : mS) (i : Nat), (bsA m m2) → (¬ (14 < cBr m 0 ∨ 14 < cBr m 1)) → (i < cBr m 0) → (∀ sm m', ftI m m2 i (cBr m 1) sm m' → xV (mF G M_X10_best 2 0 0 (QI (fun r n' h' => n' = NT ∧ ∃ m', h' = hp x m' ∧ bestR m r m'))) 185 [some (.ref MB), some (.int sm), some (.int (nI (i))), none, none, none, none, none] [] NT (hp x m') 0 0) → ∀ (n_ : Nat) (j : Nat) (sm : Int32) (m' : mS), j ≤ cBr m 1 → cBr m 1 + 1 ≤ j + n_ → (ftI m m2 i j sm m') → xV (mF G M_X10_best 2 0 0 (QI (fun r n' h' => n' = NT ∧ ∃ m', h' = hp x m' ∧ bestR m r m'))) 114 [some (.ref MB), some (.int sm), some (.int (nI (i))), some (.int (nI (j))), none, none, none, none] [] NT (hp x m') 0 0 := by
    intro m2 i hA2 hn14 hi kk
    obtain ⟨a, ha, ea⟩ := bsA_18 hA2 (by omega) hi
    have na : nv (m2.1 18 i) = a := by rw [ea]; exact nv_nI (by omega)
    intro n_
    induction n_ with
    | zero => intro j sm m' hi_ hn_; omega
    | succ n_ ih =>
      intro j sm m' hi_ hn_ hF
      have hsm : smB m m' := fun k hk => (hF.2.1 k (by unfold isPr at hk; omega)).trans (bsA_sm hA2 k hk)
      refine x_iload3 dX10_best_114 ?_
      refine x_aload0 dX10_best_115 ?_
      refine gm21 fgX10_165 dX10_best_116 ?_
      refine xV.toi (nI (cBr m 1)) (by rw [hF.2.1 21 (by decide)]; exact hA2.2.2.2.1) ?_
      refine n_icmp_ge 185 dX10_best_119 (by decide) (by omega) (by omega) (fun c119 => ?_) (fun c119 => ?_)
      · refine xV.lvle (L' := [some (.ref MB), some (.int sm), some (.int (nI (i))), none, none, none, none, none]) ⟨rfl, rfl, rfl, trivial⟩ (kk sm m' (by rw [show j = cBr m 1 by omega] at hF; exact hF))
      · obtain ⟨b, hb, eb⟩ := bsA_19 hA2 (by omega) c119
        have nb : nv (m2.1 19 j) = b := by rw [eb]; exact nv_nI (by omega)
        refine x_aload0 dX10_best_122 ?_
        refine x_aload0 dX10_best_123 ?_
        refine gm18 fgX10_54 dX10_best_124 ?_
        refine x_iload2 dX10_best_127 ?_
        refine lm18 (i) rfl (by omega) dX10_best_128 ?_
        refine xV.toi (nI (nv (m2.1 18 i))) (by rw [hF.2.1 18 (by decide), na]; exact ea) ?_
        refine x_aload0 dX10_best_129 ?_
        refine gm19 fgX10_57 dX10_best_130 ?_
        refine x_iload3 dX10_best_133 ?_
        refine lm19 (j) rfl (by omega) dX10_best_134 ?_
        refine xV.toi (nI (nv (m2.1 19 j))) (by rw [hF.2.1 19 (by decide), nb]; exact eb) ?_
        refine x_callV2i mvX10_162 (k_fitOf G x m' (smB_G hsm hG) (smB_M hsm hM) (nv (m2.1 18 i)) (nv (m2.1 19 j)) (by omega) (by omega)) mb_lt0 (hp_m0 _ _) (xRoom.of rfl) (Nat.le_of_ble_eq_true rfl) dX10_best_135 (fun r_ n_ h_ hq => ?_)
        obtain ⟨rfl, rfl, rfl⟩ := hq
        refine xV.toi (fW m m2 i j) (smB_fit hsm _ _) ?_
        refine x_istore4 dX10_best_138 rfl rfl rfl ?_
        refine x_iload1 dX10_best_140 ?_
        refine x_if_eq 164 dX10_best_141 (by decide) (fun c141 => ?_) (fun c141 => ?_)
        · have hs : ∀ q : Int32, q = nI 0 → (q = 0 ∨ q = 1) ∧ (¬ q = 0 → ¬ sm = 0 ∧ m'.1 22 (14 * i + j) = fW m m2 i j) := fun q e => ⟨Or.inl (e.trans nI_0), fun z => absurd (e.trans nI_0) z⟩
          refine x_iconst (nI 0) dX10_best_164 (by decide) ?_
          refine x_istore1 dX10_best_165 rfl rfl rfl ?_
          refine x_aload0 dX10_best_166 ?_
          refine gm22 fgX10_60 dX10_best_167 ?_
          refine x_bipush (nI 14) dX10_best_170 (by decide) ?_
          refine x_iload2 dX10_best_172 ?_
          refine n_imul dX10_best_173 ?_
          refine x_iload3 dX10_best_174 ?_
          refine n_iadd dX10_best_175 ?_
          refine x_iload4 dX10_best_176 ?_
          refine sm22 ((14 * i) + j) rfl (by omega) dX10_best_178 ?_
          refine x_iinc3 (nI (j + 1)) dX10_best_179 (nI_add j 1) rfl rfl rfl ?_
          refine x_goto 114 dX10_best_182 (by decide) ?_
          refine xV.lvle (L' := [some (.ref _), some (.int _), some (.int _), some (.int _), none, none, none, none]) ⟨rfl, rfl, rfl, rfl, trivial⟩ ?_
          obtain ⟨g1, g2⟩ := hs _ rfl
          exact ih (j + 1) _ _ (by omega) (by omega) (ftI_step c119 (by omega) hF g1 g2)
        · refine x_aload0 dX10_best_144 ?_
          refine gm22 fgX10_60 dX10_best_145 ?_
          refine x_bipush (nI 14) dX10_best_148 (by decide) ?_
          refine x_iload2 dX10_best_150 ?_
          refine n_imul dX10_best_151 ?_
          refine x_iload3 dX10_best_152 ?_
          refine n_iadd dX10_best_153 ?_
          refine lm22 ((14 * i) + j) rfl (by omega) dX10_best_154 ?_
          refine x_iload4 dX10_best_155 ?_
          refine x_icmp_ne 164 dX10_best_157 (by decide) (fun c157 => ?_) (fun c157 => ?_)
          · have hs : ∀ q : Int32, q = nI 0 → (q = 0 ∨ q = 1) ∧ (¬ q = 0 → ¬ sm = 0 ∧ m'.1 22 (14 * i + j) = fW m m2 i j) := fun q e => ⟨Or.inl (e.trans nI_0), fun z => absurd (e.trans nI_0) z⟩
            refine x_iconst (nI 0) dX10_best_164 (by decide) ?_
            refine x_istore1 dX10_best_165 rfl rfl rfl ?_
            refine x_aload0 dX10_best_166 ?_
            refine gm22 fgX10_60 dX10_best_167 ?_
            refine x_bipush (nI 14) dX10_best_170 (by decide) ?_
            refine x_iload2 dX10_best_172 ?_
            refine n_imul dX10_best_173 ?_
            refine x_iload3 dX10_best_174 ?_
            refine n_iadd dX10_best_175 ?_
            refine x_iload4 dX10_best_176 ?_
            refine sm22 ((14 * i) + j) rfl (by omega) dX10_best_178 ?_
            refine x_iinc3 (nI (j + 1)) dX10_best_179 (nI_add j 1) rfl rfl rfl ?_
            refine x_goto 114 dX10_best_182 (by decide) ?_
            refine xV.lvle (L' := [some (.ref _), some (.int _), some (.int _), some (.int _), none, none, none, none]) ⟨rfl, rfl, rfl, rfl, trivial⟩ ?_
            obtain ⟨g1, g2⟩ := hs _ rfl
            exact ih (j + 1) _ _ (by omega) (by omega) (ftI_step c119 (by omega) hF g1 g2)
          · have hs : ∀ q : Int32, q = nI 1 → (q = 0 ∨ q = 1) ∧ (¬ q = 0 → ¬ sm = 0 ∧ m'.1 22 (14 * i + j) = fW m m2 i j) := fun q e => ⟨Or.inr (e.trans nI1), fun _ => ⟨c141, c157⟩⟩
            refine x_iconst (nI 1) dX10_best_160 (by decide) ?_
            refine x_goto 165 dX10_best_161 (by decide) ?_
            refine x_istore1 dX10_best_165 rfl rfl rfl ?_
            refine x_aload0 dX10_best_166 ?_
            refine gm22 fgX10_60 dX10_best_167 ?_
            refine x_bipush (nI 14) dX10_best_170 (by decide) ?_
            refine x_iload2 dX10_best_172 ?_
            refine n_imul dX10_best_173 ?_
            refine x_iload3 dX10_best_174 ?_
            refine n_iadd dX10_best_175 ?_
            refine x_iload4 dX10_best_176 ?_
            refine sm22 ((14 * i) + j) rfl (by omega) dX10_best_178 ?_
            refine x_iinc3 (nI (j + 1)) dX10_best_179 (nI_add j 1) rfl rfl rfl ?_
            refine x_goto 114 dX10_best_182 (by decide) ?_
            refine xV.lvle (L' := [some (.ref _), some (.int _), some (.int _), some (.int _), none, none, none, none]) ⟨rfl, rfl, rfl, rfl, trivial⟩ ?_
            obtain ⟨g1, g2⟩ := hs _ rfl
            exact ih (j + 1) _ _ (by omega) (by omega) (ftI_step c119 (by omega) hF g1 g2)
  have li : ∀ (m2 : mS), (bsA m m2) → (¬ (14 < cBr m 0 ∨ 14 < cBr m 1)) → ∀ (n_ : Nat) (i : Nat) (sm : Int32) (m' : mS), i ≤ cBr m 0 → cBr m 0 + 1 ≤ i + n_ → (ftI m m2 i 0 sm m') → xV (mF G M_X10_best 2 0 0 (QI (fun r n' h' => n' = NT ∧ ∃ m', h' = hp x m' ∧ bestR m r m'))) 104 [some (.ref MB), some (.int sm), some (.int (nI (i))), none, none, none, none, none] [] NT (hp x m') 0 0 := by
    intro m2 hA2 hn14
    intro n_
    induction n_ with
    | zero => intro i sm m' hi_ hn_; omega
    | succ n_ ih =>
      intro i sm m' hi_ hn_ hF
      refine x_iload2 dX10_best_104 ?_
      refine x_aload0 dX10_best_105 ?_
      refine gm20 fgX10_168 dX10_best_106 ?_
      refine xV.toi (nI (cBr m 0)) (by rw [hF.2.1 20 (by decide)]; exact hA2.2.2.1) ?_
      refine n_icmp_ge 191 dX10_best_109 (by decide) (by omega) (by omega) (fun c109 => ?_) (fun c109 => ?_)
      · refine xV.lvle (L' := [some (.ref _), some (.int _), none, none, none, none, none, none]) ⟨rfl, rfl, trivial⟩ ?_
        refine xV.lvle (L' := [some (.ref MB), some (.int sm), none, none, none, none, none, none]) ⟨rfl, rfl, trivial⟩ (j191 m2 m' sm hA2 (by rw [show i = cBr m 0 by omega] at hF; exact hF) hn14)
      · refine x_iconst (nI 0) dX10_best_112 (by decide) ?_
        refine x_istore3 dX10_best_113 rfl rfl rfl ?_
        refine lj m2 i hA2 hn14 c109 (fun sm2 m3 h3 => ?_) (cBr m 1 + 1) 0 sm m' (Nat.zero_le _) (by omega) hF
        refine x_iinc2 (nI (i + 1)) dX10_best_185 (nI_add i 1) rfl rfl rfl ?_
        refine x_goto 104 dX10_best_188 (by decide) ?_
        exact ih (i + 1) sm2 m3 (by omega) (by omega) (ftI_row h3)
  have j48 : ∀ (m2 : mS), (bsA m m2) → xV (mF G M_X10_best 2 0 0 (QI (fun r n' h' => n' = NT ∧ ∃ m', h' = hp x m' ∧ bestR m r m'))) 48 [some (.ref MB), none, none, none, none, none, none, none] [] NT (hp x m2) 0 0 := by
    intro m2 hA2
    refine x_aload0 dX10_best_48 ?_
    refine gm20 fgX10_168 dX10_best_49 ?_
    refine xV.toi (nI (cBr m 0)) (hA2.2.2.1) ?_
    refine x_bipush (nI 14) dX10_best_52 (by decide) ?_
    refine n_icmp_gt 66 dX10_best_54 (by decide) (by omega) (by omega) (fun c54 => ?_) (fun c54 => ?_)
    · refine x_aload0 dX10_best_66 ?_
      refine x_iconst (nI 0) dX10_best_67 (by decide) ?_
      refine pm17 fpX10_123 dX10_best_68 (Or.inl nI_0) ?_
      refine x_bipush (-4) dX10_best_71 (by decide) ?_
      refine x_iret dX10_best_73 rfl ?_ (Nat.zero_le _) (Nat.zero_le _)
      refine ⟨rfl, _, rfl, m2, hA2, ?_⟩
      rw [if_pos (by omega)]
      exact ⟨rfl, rfl⟩
    · refine x_aload0 dX10_best_57 ?_
      refine gm21 fgX10_165 dX10_best_58 ?_
      refine xV.toi (nI (cBr m 1)) (hA2.2.2.2.1) ?_
      refine x_bipush (nI 14) dX10_best_61 (by decide) ?_
      refine n_icmp_le 74 dX10_best_63 (by decide) (by omega) (by omega) (fun c63 => ?_) (fun c63 => ?_)
      · refine x_aload0 dX10_best_74 ?_
        refine gm20 fgX10_168 dX10_best_75 ?_
        refine xV.toi (nI (cBr m 0)) (hA2.2.2.1) ?_
        refine x_aload0 dX10_best_78 ?_
        refine gm27 fgX10_73 dX10_best_79 ?_
        refine x_icmp_ne 100 dX10_best_82 (by decide) (fun c82 => ?_) (fun c82 => ?_)
        · have hs : ∀ q : Int32, q = nI 0 → (q = 0 ∨ q = 1) ∧ (¬ q = 0 → (m2.1 27 0 = nI (cBr m 0) ∧ m2.1 28 0 = nI (cBr m 1)) ∧ ∀ k, m2.1 22 k = m2.1 22 k) := fun q e => ⟨Or.inl (e.trans nI_0), fun z => absurd (e.trans nI_0) z⟩
          refine x_iconst (nI 0) dX10_best_100 (by decide) ?_
          refine x_istore1 dX10_best_101 rfl rfl rfl ?_
          refine x_iconst (nI 0) dX10_best_102 (by decide) ?_
          refine x_istore2 dX10_best_103 rfl rfl rfl ?_
          obtain ⟨g1, g2⟩ := hs _ rfl
          exact li m2 hA2 (by omega) (cBr m 0 + 1) 0 _ m2 (Nat.zero_le _) (by omega) ⟨rfl, fun _ _ => rfl, fun a b _ h => by omega, g1, g2⟩
        · refine x_aload0 dX10_best_85 ?_
          refine gm21 fgX10_165 dX10_best_86 ?_
          refine xV.toi (nI (cBr m 1)) (hA2.2.2.2.1) ?_
          refine x_aload0 dX10_best_89 ?_
          refine gm28 fgX10_76 dX10_best_90 ?_
          refine x_icmp_ne 100 dX10_best_93 (by decide) (fun c93 => ?_) (fun c93 => ?_)
          · have hs : ∀ q : Int32, q = nI 0 → (q = 0 ∨ q = 1) ∧ (¬ q = 0 → (m2.1 27 0 = nI (cBr m 0) ∧ m2.1 28 0 = nI (cBr m 1)) ∧ ∀ k, m2.1 22 k = m2.1 22 k) := fun q e => ⟨Or.inl (e.trans nI_0), fun z => absurd (e.trans nI_0) z⟩
            refine x_iconst (nI 0) dX10_best_100 (by decide) ?_
            refine x_istore1 dX10_best_101 rfl rfl rfl ?_
            refine x_iconst (nI 0) dX10_best_102 (by decide) ?_
            refine x_istore2 dX10_best_103 rfl rfl rfl ?_
            obtain ⟨g1, g2⟩ := hs _ rfl
            exact li m2 hA2 (by omega) (cBr m 0 + 1) 0 _ m2 (Nat.zero_le _) (by omega) ⟨rfl, fun _ _ => rfl, fun a b _ h => by omega, g1, g2⟩
          · have hs : ∀ q : Int32, q = nI 1 → (q = 0 ∨ q = 1) ∧ (¬ q = 0 → (m2.1 27 0 = nI (cBr m 0) ∧ m2.1 28 0 = nI (cBr m 1)) ∧ ∀ k, m2.1 22 k = m2.1 22 k) := fun q e => ⟨Or.inr (e.trans nI1), fun _ => ⟨⟨c82.symm, c93.symm⟩, fun _ => rfl⟩⟩
            refine x_iconst (nI 1) dX10_best_96 (by decide) ?_
            refine x_goto 101 dX10_best_97 (by decide) ?_
            refine x_istore1 dX10_best_101 rfl rfl rfl ?_
            refine x_iconst (nI 0) dX10_best_102 (by decide) ?_
            refine x_istore2 dX10_best_103 rfl rfl rfl ?_
            obtain ⟨g1, g2⟩ := hs _ rfl
            exact li m2 hA2 (by omega) (cBr m 0 + 1) 0 _ m2 (Nat.zero_le _) (by omega) ⟨rfl, fun _ _ => rfl, fun a b _ h => by omega, g1, g2⟩
      · refine x_aload0 dX10_best_66 ?_
        refine x_iconst (nI 0) dX10_best_67 (by decide) ?_
        refine pm17 fpX10_123 dX10_best_68 (Or.inl nI_0) ?_
        refine x_bipush (-4) dX10_best_71 (by decide) ?_
        refine x_iret dX10_best_73 rfl ?_ (Nat.zero_le _) (Nat.zero_le _)
        refine ⟨rfl, _, rfl, m2, hA2, ?_⟩
        rw [if_pos (by omega)]
        exact ⟨rfl, rfl⟩
  refine xK.ofV (by decide) (Nat.le_of_ble_eq_true rfl) ?_
  refine xV.lveq (L' := [some (.ref MB), none, none, none, none, none, none, none]) rfl ?_
  refine x_aload0 dX10_best_0 ?_
  refine x_aload0 dX10_best_1 ?_
  refine gm18 fgX10_54 dX10_best_2 ?_
  refine x_iconst (nI 0) dX10_best_5 (by decide) ?_
  refine x_aload0 dX10_best_6 ?_
  refine gm6 fgX10_28 dX10_best_7 ?_
  refine x_iconst (nI 0) dX10_best_10 (by decide) ?_
  refine lm6 (0) rfl (by omega) dX10_best_11 ?_
  refine xV.toi (nI (nL m 0)) ((hL 0 (by decide)).1) ?_
  refine x_aload0 dX10_best_12 ?_
  refine gm5 fgX10_25 dX10_best_13 ?_
  refine x_callS4i msX10_171 (k_breaksOf18 G x m 0 (nL m 0) (Nat.zero_le _) (by omega)) (xRoom.of rfl) (Nat.le_of_ble_eq_true rfl) dX10_best_16 (fun r_ n_ h_ hq => ?_)
  obtain ⟨rfl, m1, rfl, hR1, rfl⟩ := hq
  refine pm20 fpX10_168 dX10_best_19 ?_
  refine x_aload0 dX10_best_22 ?_
  refine x_aload0 dX10_best_23 ?_
  refine gm19 fgX10_57 dX10_best_24 ?_
  refine x_bipush (nI 80) dX10_best_27 (by decide) ?_
  refine x_bipush (nI 80) dX10_best_29 (by decide) ?_
  refine x_aload0 dX10_best_31 ?_
  refine gm6 fgX10_28 dX10_best_32 ?_
  refine x_iconst (nI 1) dX10_best_35 (by decide) ?_
  refine lm6 (1) rfl (by omega) dX10_best_36 ?_
  refine xV.toi (nI (nL m 1)) (by rw [mset_ne (by decide), hR1.2.1 6 (by decide)]; exact (hL 1 (by decide)).1) ?_
  refine n_iadd dX10_best_37 ?_
  refine x_aload0 dX10_best_38 ?_
  refine gm5 fgX10_25 dX10_best_39 ?_
  refine x_callS4i msX10_171 (k_breaksOf19 G x _ 80 (80 + nL m 1) (by omega) (by omega)) (xRoom.of rfl) (Nat.le_of_ble_eq_true rfl) dX10_best_42 (fun r_ n_ h_ hq => ?_)
  obtain ⟨rfl, m1b, rfl, hR2, rfl⟩ := hq
  rw [Nat.add_sub_cancel_left] at hR2 ⊢
  have hbr : brF (mset m1 20 0 (nI (fb_ct (brF m 0) (nL m 0 - 0)))) 80 = brF m 80 := by funext i; unfold brF; rw [mset_ne (by decide), hR1.2.1 5 (by decide)]
  rw [hbr]
  refine pm21 fpX10_165 dX10_best_45 ?_
  have hA2 : bsA m (mset m1b 21 0 (nI (fb_ct (brF m 80) (nL m 1)))) := by
    have q5 : ∀ j, j ≠ 19 → m1b.1 j = (mset m1 20 0 (nI (fb_ct (brF m 0) (nL m 0 - 0)))).1 j := hR2.2.1
    refine ⟨hR2.1.trans hR1.1, fun j a1 a2 a3 a4 => ?_, ?_, mset_at _ _ _ _, fun a h1 h2 h3 => ?_, fun a h1 h2 h3 => ?_⟩
    · rw [mset_ne a4, q5 j a2, mset_ne a3]; exact hR1.2.1 j a1
    · rw [mset_ne (by decide), q5 20 (by decide), mset_at]; rfl
    · rw [mset_ne (by decide), q5 18 (by decide), mset_ne (by decide)]; exact hR1.2.2 a (by omega) h2 h3
    · rw [mset_ne (by decide)]
      have h4 := hR2.2.2 a h1
      rw [hbr] at h4
      exact h4 h2 h3
  generalize mset m1b 21 0 (nI (fb_ct (brF m 80) (nL m 1))) = m2 at hA2 ⊢
  exact j48 m2 hA2
