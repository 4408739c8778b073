/-! ===== the desk's methods, 14: gather, best ===== -/
theorem boI_ext {m m' : mS} {k f i : Nat} (h : boI m k f i m') (hb : 14 ≤ fb_ct (brF m f) i) : ∀ N, i ≤ N → boI m k f N m' := by
  intro N hN
  refine ⟨h.1, h.2.1, fun a ha hb2 hc => ?_⟩
  rcases Nat.lt_or_ge a i with q | q
  · exact h.2.2 a q hb2 hc
  · have := fb_ct_mono (brF m f) q
    omega
theorem boI_0 (m : mS) (k f : Nat) : boI m k f 0 m := ⟨rfl, fun _ _ => rfl, fun a ha => absurd ha (Nat.not_lt_zero a)⟩

set_option maxHeartbeats 4000000 in
theorem kd_gatherBreaks57 (G : vx_G) (d m : mS) (hL : iL d) (b : Nat) (hb : b < 2) (hN : dN d) : xK G M_X5_gatherBreaks 1 [(.ref (bC b)), (.ref 198)] NT (hp (dk d) m) 0 0 (QI (fun r n' h' => n' = NT ∧ ∃ e, h' = hp (dk e) m ∧ boI d 57 (80 * b) (nL d b) e ∧ r = nI (min (cBr d b) 14))) := by
  obtain ⟨e6, l6⟩ := hL b hb
  have lp : ∀ (n_ : Nat) (i c : Nat) (e : mS), i ≤ nL d b → nL d b + 1 ≤ i + n_ → (c = min (fb_ct (brF d (80 * b)) i) 14) → (boI d 57 (80 * b) i e) → xV (mF G M_X5_gatherBreaks 1 0 0 (QI (fun r n' h' => n' = NT ∧ ∃ e, h' = hp (dk e) m ∧ boI d 57 (80 * b) (nL d b) e ∧ r = nI (min (cBr d b) 14)))) 4 [some (.ref (bC b)), some (.ref 198), some (.int (nI (c))), some (.int (nI (i)))] [] NT (hp (dk e) m) 0 0 := by
    intro n_
    induction n_ with
    | zero => intro i c e hi_ hn_; omega
    | succ n_ ih =>
      intro i c e hi_ hn_ hc hB
      have hmn := fb_ct_mono (brF d (80 * b)) hi_
      have k5 : e.1 5 = d.1 5 := hB.2.1 5 (by decide)
      have k6 : e.1 6 = d.1 6 := hB.2.1 6 (by decide)
      refine x_iload3 dX5_gatherBreaks_4 ?_
      refine x_aload0 dX5_gatherBreaks_5 ?_
      refine gB1 (by omega) fgX5_58 dX5_gatherBreaks_6 ?_
      refine xV.toi (nI (nL d b)) ((by rw [k6]; exact e6)) ?_
      refine n_icmp_ge 43 dX5_gatherBreaks_9 (by decide) (by omega) (by omega) (fun c9 => ?_) (fun c9 => ?_)
      · refine x_iload2 dX5_gatherBreaks_43 ?_
        refine x_iret dX5_gatherBreaks_44 rfl ?_ (Nat.zero_le _) (Nat.zero_le _)
        by_cases ei : i = nL d b
        · rw [ei] at hc hB
          exact ⟨rfl, _, rfl, hB, by rw [hc]; rfl⟩
        · refine ⟨rfl, _, rfl, boI_ext hB (by omega) _ (by omega), ?_⟩
          show nI c = nI (min (fb_ct (brF d (80 * b)) (nL d b)) 14)
          rw [show c = min (fb_ct (brF d (80 * b)) (nL d b)) 14 by omega]
      · refine x_iload2 dX5_gatherBreaks_12 ?_
        refine x_bipush (nI 14) dX5_gatherBreaks_13 (by decide) ?_
        refine n_icmp_ge 43 dX5_gatherBreaks_15 (by decide) (by omega) (by omega) (fun c15 => ?_) (fun c15 => ?_)
        · refine x_iload2 dX5_gatherBreaks_43 ?_
          refine x_iret dX5_gatherBreaks_44 rfl ?_ (Nat.zero_le _) (Nat.zero_le _)
          by_cases ei : i = nL d b
          · rw [ei] at hc hB
            exact ⟨rfl, _, rfl, hB, by rw [hc]; rfl⟩
          · refine ⟨rfl, _, rfl, boI_ext hB (by omega) _ (by omega), ?_⟩
            show nI c = nI (min (fb_ct (brF d (80 * b)) (nL d b)) 14)
            rw [show c = min (fb_ct (brF d (80 * b)) (nL d b)) 14 by omega]
        · refine x_aload0 dX5_gatherBreaks_18 ?_
          refine gB0 (by omega) fgX5_63 dX5_gatherBreaks_19 ?_
          refine x_iload3 dX5_gatherBreaks_22 ?_
          refine lBL (by omega) (i) rfl (by omega) dX5_gatherBreaks_23 ?_
          have ec : c = fb_ct (brF d (80 * b)) i := by omega
          refine x_callV0i mvX5_67 (k_isBreak G e m (80 * b + i) (by omega) (by rw [k5]; exact hN b hb i (by omega))) (lt_L (by omega)) (hd_L (by omega)) (xRoom.of rfl) (Nat.le_of_ble_eq_true rfl) dX5_gatherBreaks_24 (fun r_ n_ h_ hq => ?_)
          obtain ⟨rfl, rfl, rfl⟩ := hq
          refine b_if_eq 37 dX5_gatherBreaks_27 (by decide) (fun c27 => ?_) (fun c27 => ?_)
          · rw [k5] at c27
            have hf : brF d (80 * b) i = false := decide_eq_false c27
            refine x_iinc3 (nI (i + 1)) dX5_gatherBreaks_37 (nI_add i 1) rfl rfl rfl ?_
            refine x_goto 4 dX5_gatherBreaks_40 (by decide) ?_
            first | exact ih (i + 1) _ _ (by omega) (by omega) (by rw [fb_ct_succ, hf]; simp only [if_true]; omega) (by rw [ec]; exact boI_yes hB hf) | exact ih (i + 1) _ _ (by omega) (by omega) (by rw [fb_ct_succ, hf]; simp only [Bool.false_eq_true, if_false]; omega) (boI_no hB hf)
          · rw [k5] at c27
            have hf : brF d (80 * b) i = true := decide_eq_true c27
            refine x_aload1 dX5_gatherBreaks_30 ?_
            refine x_iload2 dX5_gatherBreaks_31 ?_
            refine x_iload3 dX5_gatherBreaks_32 ?_
            refine sa198 (c) rfl (by omega) dX5_gatherBreaks_33 ?_
            refine x_iinc2 (nI (c + 1)) dX5_gatherBreaks_34 (nI_add c 1) rfl rfl rfl ?_
            refine x_iinc3 (nI (i + 1)) dX5_gatherBreaks_37 (nI_add i 1) rfl rfl rfl ?_
            refine x_goto 4 dX5_gatherBreaks_40 (by decide) ?_
            first | exact ih (i + 1) _ _ (by omega) (by omega) (by rw [fb_ct_succ, hf]; simp only [if_true]; omega) (by rw [ec]; exact boI_yes hB hf) | exact ih (i + 1) _ _ (by omega) (by omega) (by rw [fb_ct_succ, hf]; simp only [Bool.false_eq_true, if_false]; omega) (boI_no hB hf)
  refine xK.ofV (by decide) (Nat.le_of_ble_eq_true rfl) ?_
  refine xV.lveq (L' := [some (.ref (bC b)), some (.ref 198), none, none]) rfl ?_
  refine x_iconst (nI 0) dX5_gatherBreaks_0 (by decide) ?_
  refine x_istore2 dX5_gatherBreaks_1 rfl rfl rfl ?_
  refine x_iconst (nI 0) dX5_gatherBreaks_2 (by decide) ?_
  refine x_istore3 dX5_gatherBreaks_3 rfl rfl rfl ?_
  exact lp (nL d b + 1) 0 0 d (Nat.zero_le _) (by omega) rfl (boI_0 _ _ _)

set_option maxHeartbeats 4000000 in
theorem kd_gatherBreaks58 (G : vx_G) (d m : mS) (hL : iL d) (b : Nat) (hb : b < 2) (hN : dN d) : xK G M_X5_gatherBreaks 1 [(.ref (bC b)), (.ref 199)] NT (hp (dk d) m) 0 0 (QI (fun r n' h' => n' = NT ∧ ∃ e, h' = hp (dk e) m ∧ boI d 58 (80 * b) (nL d b) e ∧ r = nI (min (cBr d b) 14))) := by
  obtain ⟨e6, l6⟩ := hL b hb
  have lp : ∀ (n_ : Nat) (i c : Nat) (e : mS), i ≤ nL d b → nL d b + 1 ≤ i + n_ → (c = min (fb_ct (brF d (80 * b)) i) 14) → (boI d 58 (80 * b) i e) → xV (mF G M_X5_gatherBreaks 1 0 0 (QI (fun r n' h' => n' = NT ∧ ∃ e, h' = hp (dk e) m ∧ boI d 58 (80 * b) (nL d b) e ∧ r = nI (min (cBr d b) 14)))) 4 [some (.ref (bC b)), some (.ref 199), some (.int (nI (c))), some (.int (nI (i)))] [] NT (hp (dk e) m) 0 0 := by
    intro n_
    induction n_ with
    | zero => intro i c e hi_ hn_; omega
    | succ n_ ih =>
      intro i c e hi_ hn_ hc hB
      have hmn := fb_ct_mono (brF d (80 * b)) hi_
      have k5 : e.1 5 = d.1 5 := hB.2.1 5 (by decide)
      have k6 : e.1 6 = d.1 6 := hB.2.1 6 (by decide)
      refine x_iload3 dX5_gatherBreaks_4 ?_
      refine x_aload0 dX5_gatherBreaks_5 ?_
      refine gB1 (by omega) fgX5_58 dX5_gatherBreaks_6 ?_
      refine xV.toi (nI (nL d b)) ((by rw [k6]; exact e6)) ?_
      refine n_icmp_ge 43 dX5_gatherBreaks_9 (by decide) (by omega) (by omega) (fun c9 => ?_) (fun c9 => ?_)
      · refine x_iload2 dX5_gatherBreaks_43 ?_
        refine x_iret dX5_gatherBreaks_44 rfl ?_ (Nat.zero_le _) (Nat.zero_le _)
        by_cases ei : i = nL d b
        · rw [ei] at hc hB
          exact ⟨rfl, _, rfl, hB, by rw [hc]; rfl⟩
        · refine ⟨rfl, _, rfl, boI_ext hB (by omega) _ (by omega), ?_⟩
          show nI c = nI (min (fb_ct (brF d (80 * b)) (nL d b)) 14)
          rw [show c = min (fb_ct (brF d (80 * b)) (nL d b)) 14 by omega]
      · refine x_iload2 dX5_gatherBreaks_12 ?_
        refine x_bipush (nI 14) dX5_gatherBreaks_13 (by decide) ?_
        refine n_icmp_ge 43 dX5_gatherBreaks_15 (by decide) (by omega) (by omega) (fun c15 => ?_) (fun c15 => ?_)
        · refine x_iload2 dX5_gatherBreaks_43 ?_
          refine x_iret dX5_gatherBreaks_44 rfl ?_ (Nat.zero_le _) (Nat.zero_le _)
          by_cases ei : i = nL d b
          · rw [ei] at hc hB
            exact ⟨rfl, _, rfl, hB, by rw [hc]; rfl⟩
          · refine ⟨rfl, _, rfl, boI_ext hB (by omega) _ (by omega), ?_⟩
            show nI c = nI (min (fb_ct (brF d (80 * b)) (nL d b)) 14)
            rw [show c = min (fb_ct (brF d (80 * b)) (nL d b)) 14 by omega]
        · refine x_aload0 dX5_gatherBreaks_18 ?_
          refine gB0 (by omega) fgX5_63 dX5_gatherBreaks_19 ?_
          refine x_iload3 dX5_gatherBreaks_22 ?_
          refine lBL (by omega) (i) rfl (by omega) dX5_gatherBreaks_23 ?_
          have ec : c = fb_ct (brF d (80 * b)) i := by omega
          refine x_callV0i mvX5_67 (k_isBreak G e m (80 * b + i) (by omega) (by rw [k5]; exact hN b hb i (by omega))) (lt_L (by omega)) (hd_L (by omega)) (xRoom.of rfl) (Nat.le_of_ble_eq_true rfl) dX5_gatherBreaks_24 (fun r_ n_ h_ hq => ?_)
          obtain ⟨rfl, rfl, rfl⟩ := hq
          refine b_if_eq 37 dX5_gatherBreaks_27 (by decide) (fun c27 => ?_) (fun c27 => ?_)
          · rw [k5] at c27
            have hf : brF d (80 * b) i = false := decide_eq_false c27
            refine x_iinc3 (nI (i + 1)) dX5_gatherBreaks_37 (nI_add i 1) rfl rfl rfl ?_
            refine x_goto 4 dX5_gatherBreaks_40 (by decide) ?_
            first | exact ih (i + 1) _ _ (by omega) (by omega) (by rw [fb_ct_succ, hf]; simp only [if_true]; omega) (by rw [ec]; exact boI_yes hB hf) | exact ih (i + 1) _ _ (by omega) (by omega) (by rw [fb_ct_succ, hf]; simp only [Bool.false_eq_true, if_false]; omega) (boI_no hB hf)
          · rw [k5] at c27
            have hf : brF d (80 * b) i = true := decide_eq_true c27
            refine x_aload1 dX5_gatherBreaks_30 ?_
            refine x_iload2 dX5_gatherBreaks_31 ?_
            refine x_iload3 dX5_gatherBreaks_32 ?_
            refine sa199 (c) rfl (by omega) dX5_gatherBreaks_33 ?_
            refine x_iinc2 (nI (c + 1)) dX5_gatherBreaks_34 (nI_add c 1) rfl rfl rfl ?_
            refine x_iinc3 (nI (i + 1)) dX5_gatherBreaks_37 (nI_add i 1) rfl rfl rfl ?_
            refine x_goto 4 dX5_gatherBreaks_40 (by decide) ?_
            first | exact ih (i + 1) _ _ (by omega) (by omega) (by rw [fb_ct_succ, hf]; simp only [if_true]; omega) (by rw [ec]; exact boI_yes hB hf) | exact ih (i + 1) _ _ (by omega) (by omega) (by rw [fb_ct_succ, hf]; simp only [Bool.false_eq_true, if_false]; omega) (boI_no hB hf)
  refine xK.ofV (by decide) (Nat.le_of_ble_eq_true rfl) ?_
  refine xV.lveq (L' := [some (.ref (bC b)), some (.ref 199), none, none]) rfl ?_
  refine x_iconst (nI 0) dX5_gatherBreaks_0 (by decide) ?_
  refine x_istore2 dX5_gatherBreaks_1 rfl rfl rfl ?_
  refine x_iconst (nI 0) dX5_gatherBreaks_2 (by decide) ?_
  refine x_istore3 dX5_gatherBreaks_3 rfl rfl rfl ?_
  exact lp (nL d b + 1) 0 0 d (Nat.zero_le _) (by omega) rfl (boI_0 _ _ _)

theorem brF_k {d e : mS} (h : e.1 5 = d.1 5) (f : Nat) : brF e f = brF d f := by unfold brF; rw [h]
theorem cBr_k {d e : mS} (h5 : e.1 5 = d.1 5) (h6 : e.1 6 = d.1 6) (b : Nat) : cBr e b = cBr d b := by unfold cBr nL; rw [brF_k h5, h6]
abbrev jG (j : Nat) : Prop := j < 57 ∨ j = 59 ∨ j = 60 ∨ j = 63 ∨ j = 64 ∨ (69 ≤ j ∧ j ≤ 74) ∨ (76 ≤ j ∧ j < 200)
/-- what gathering leaves -/
abbrev gaR (d : mS) (n0 n1 : Nat) (g : mS) : Prop := (∀ j, jG j → g.1 j = d.1 j) ∧ (∀ a, a < nL d 0 → brF d 0 a = true → fb_ct (brF d 0) a < 14 → g.1 57 (fb_ct (brF d 0) a) = nI a) ∧ (∀ a, a < nL d 1 → brF d 80 a = true → fb_ct (brF d 80) a < 14 → g.1 58 (fb_ct (brF d 80) a) = nI a) ∧ g.1 61 0 = nI n0 ∧ g.1 62 0 = nI n1 ∧ g.1 65 0 = nI (max n0 n1) ∧ (∀ i, i < 14 → g.1 66 i = 0) ∧ (∀ i, i < 15 → g.1 67 i = 0) ∧ (∀ i, i < 15 → g.1 68 i = -1) ∧ (∀ r, r < max n0 n1 → g.1 75 r = 0) ∧ ∀ r, r < max n0 n1 → ∀ c, c < 14 → g.1 (200 + r) c = 0
theorem clS_at {d : mS} : ∀ N r, r < N → (clS d N).1 75 r = nI 0 ∧ ∀ c, c < 14 → (clS d N).1 (200 + r) c = nI 0
  | 0, r, h => absurd h (Nat.not_lt_zero r)
  | N + 1, r, h => by
    show (mset (flD (clS d N) (200 + N) 14 (nI 0)) 75 N (nI 0)).1 75 r = nI 0 ∧ ∀ c, c < 14 → (mset (flD (clS d N) (200 + N) 14 (nI 0)) 75 N (nI 0)).1 (200 + r) c = nI 0
    rcases Nat.lt_or_ge r N with q | q
    · obtain ⟨h1, h2⟩ := clS_at (d := d) N r q
      refine ⟨?_, fun c hc => ?_⟩
      · rw [mset_off (by omega), flD_ne (by omega)]; exact h1
      · rw [mset_ne (by omega), flD_ne (by omega)]; exact h2 c hc
    · have e : r = N := by omega
      subst e
      refine ⟨mset_at _ _ _ _, fun c hc => ?_⟩
      rw [mset_ne (by omega), flD_at hc]
theorem clear_ne {d : mS} {n j : Nat} (h1 : j ≠ 65) (h2 : j ≠ 66) (h3 : j ≠ 67) (h4 : j ≠ 68) (h5 : j ≠ 75) (h6 : j < 200) : (clearD d n).1 j = d.1 j := by
  unfold clearD
  rw [flD_ne h4, flD_ne h3, flD_ne h2, clS_ne h5 h6, mset_ne h1]
theorem clear_at {d : mS} {n : Nat} : (clearD d n).1 65 0 = nI n ∧ (∀ i, i < 14 → (clearD d n).1 66 i = 0) ∧ (∀ i, i < 15 → (clearD d n).1 67 i = 0) ∧ (∀ i, i < 15 → (clearD d n).1 68 i = -1) ∧ (∀ r, r < n → (clearD d n).1 75 r = 0) ∧ ∀ r, r < n → ∀ c, c < 14 → (clearD d n).1 (200 + r) c = 0 := by
  unfold clearD
  refine ⟨?_, fun i hi => ?_, fun i hi => ?_, fun i hi => ?_, fun r hr => ?_, fun r hr c hc => ?_⟩
  · rw [flD_ne (by decide), flD_ne (by decide), flD_ne (by decide), clS_ne (by decide) (by decide), mset_at]
  · rw [flD_ne (by decide), flD_ne (by decide), flD_at hi]; exact nI_0
  · rw [flD_ne (by decide), flD_at hi]; exact nI_0
  · rw [flD_at hi]
  · rw [flD_ne (by decide), flD_ne (by decide), flD_ne (by decide), (clS_at n r hr).1]; exact nI_0
  · rw [flD_ne (by omega), flD_ne (by omega), flD_ne (by omega), (clS_at n r hr).2 c hc]; exact nI_0
theorem max_n {a b : Nat} (ha : a < 2147483648) (hb : b < 2147483648) : (if nI a < nI b then nI b else nI a) = nI (max a b) := by
  by_cases q : a < b
  · rw [if_pos (nI_lt q hb), Nat.max_eq_right (Nat.le_of_lt q)]
  · rw [if_neg (fun z => q ((nI_ltI ha hb).mp z)), Nat.max_eq_left (by omega)]
theorem ga_end {d e1 e2 : mS} {n0 n1 : Nat} (h1 : boI d 57 0 (nL d 0) e1) (h2 : boI (mset e1 61 0 (nI n0)) 58 80 (nL d 1) e2) : gaR d n0 n1 (clearD (mset e2 62 0 (nI n1)) (max n0 n1)) := by
  have k1 : ∀ j, j ≠ 57 → j ≠ 61 → (mset e1 61 0 (nI n0)).1 j = d.1 j := fun j a b => (mset_ne b).trans (h1.2.1 j a)
  have k2 : ∀ j, j ≠ 57 → j ≠ 58 → j ≠ 61 → j ≠ 62 → (mset e2 62 0 (nI n1)).1 j = d.1 j := fun j a b c d' => (mset_ne d').trans ((h2.2.1 j b).trans (k1 j a c))
  have ca := clear_at (d := mset e2 62 0 (nI n1)) (n := max n0 n1)
  have b5 : brF (mset e1 61 0 (nI n0)) 80 = brF d 80 := brF_k (k1 5 (by decide) (by decide)) 80
  refine ⟨fun j hj => ?_, fun a p q s => ?_, fun a p q s => ?_, ?_, ?_, ca⟩
  · rw [clear_ne (by omega) (by omega) (by omega) (by omega) (by omega) (by omega)]
    exact k2 j (by omega) (by omega) (by omega) (by omega)
  · rw [clear_ne (by decide) (by decide) (by decide) (by decide) (by decide) (by decide), mset_ne (by decide), h2.2.1 57 (by decide), mset_ne (by decide)]
    exact h1.2.2 a p q s
  · rw [clear_ne (by decide) (by decide) (by decide) (by decide) (by decide) (by decide), mset_ne (by decide)]
    have := h2.2.2 a p
    rw [b5] at this
    exact this q s
  · rw [clear_ne (by decide) (by decide) (by decide) (by decide) (by decide) (by decide), mset_ne (by decide), h2.2.1 61 (by decide), mset_at]
  · rw [clear_ne (by decide) (by decide) (by decide) (by decide) (by decide) (by decide), mset_at]

set_option maxHeartbeats 4000000 in
theorem kd_gather (G : vx_G) (d m : mS) (hL : iL d) (hN : dN d) : xK G M_X5_gather 2 [(.ref 171), (.ref (bC 0)), (.ref (bC 1))] NT (hp (dk d) m) 0 0 (QV (fun n' h' => n' = NT ∧ ∃ g, h' = hp (dk g) m ∧ gaR d (min (cBr d 0) 14) (min (cBr d 1) 14) g)) := by
  refine xK.ofV (by decide) (Nat.le_of_ble_eq_true rfl) ?_
  refine xV.lveq (L' := [some (.ref 171), some (.ref (bC 0)), some (.ref (bC 1))]) rfl ?_
  refine x_aload0 dX5_gather_0 ?_
  refine x_aload1 dX5_gather_1 ?_
  refine x_aload0 dX5_gather_2 ?_
  refine go171_1 fgX5_18 dX5_gather_3 ?_
  refine x_callS2i msX5_44 (kd_gatherBreaks57 G d m hL 0 (by decide) hN) (xRoom.of rfl) (Nat.le_of_ble_eq_true rfl) dX5_gather_6 (fun r_ n_ h_ hq => ?_)
  obtain ⟨rfl, e1, rfl, h1, rfl⟩ := hq
  have k1 : ∀ j, j ≠ 57 → j ≠ 61 → (mset e1 61 0 (nI (min (cBr d 0) 14))).1 j = d.1 j := fun j a b => (mset_ne b).trans (h1.2.1 j a)
  refine po171_5 fpX5_31 dX5_gather_9 ?_
  refine x_aload0 dX5_gather_12 ?_
  refine x_aload2 dX5_gather_13 ?_
  refine x_aload0 dX5_gather_14 ?_
  refine go171_2 fgX5_22 dX5_gather_15 ?_
  refine x_callS2i msX5_44 (kd_gatherBreaks58 G (mset e1 61 0 (nI (min (cBr d 0) 14))) m (iL_k (k1 6 (by decide) (by decide)) hL) 1 (by decide) (dN_k (k1 5 (by decide) (by decide)) (k1 6 (by decide) (by decide)) hN)) (xRoom.of rfl) (Nat.le_of_ble_eq_true rfl) dX5_gather_18 (fun r_ n_ h_ hq => ?_)
  obtain ⟨rfl, e2, rfl, h2, rfl⟩ := hq
  rw [cBr_k (k1 5 (by decide) (by decide)) (k1 6 (by decide) (by decide)) 1]
  rw [nL_k (b := 1) (k1 6 (by decide) (by decide))] at h2
  refine po171_6 fpX5_35 dX5_gather_21 ?_
  refine x_aload0 dX5_gather_24 ?_
  refine go171_0 fgX5_12 dX5_gather_25 ?_
  refine x_aload0 dX5_gather_28 ?_
  refine go171_5 fgX5_31 dX5_gather_29 ?_
  refine xV.toi (nI (min (cBr d 0) 14)) ((by rw [mset_ne (by decide), h2.2.1 61 (by decide), mset_at])) ?_
  refine x_aload0 dX5_gather_32 ?_
  refine go171_6 fgX5_35 dX5_gather_33 ?_
  refine xV.toi (nI (min (cBr d 1) 14)) (mset_at _ _ _ _) ?_
  refine x_max mmX5_48 (Nat.le_of_ble_eq_true rfl) (Nat.le_of_ble_eq_true rfl) (Nat.le_of_ble_eq_true rfl) (Nat.le_of_ble_eq_true rfl) dX5_gather_36 ?_
  refine xV.toi (nI (max (min (cBr d 0) 14) (min (cBr d 1) 14))) (max_n (by omega) (by omega)) ?_
  refine x_callV1v mvX5_54 (kd_clear G (mset e2 62 0 (nI (min (cBr d 1) 14))) m (max (min (cBr d 0) 14) (min (cBr d 1) 14)) (by omega)) (show (172 : Nat) < NT by decide) (hd_at (a := 172) (by decide) rfl) (xRoom.of rfl) (Nat.le_of_ble_eq_true rfl) dX5_gather_39 (fun n_ h_ hq => ?_)
  obtain ⟨rfl, rfl⟩ := hq
  refine x_vret dX5_gather_42 rfl ?_ (Nat.zero_le _) (Nat.zero_le _)
  exact ⟨rfl, _, rfl, ga_end h1 h2⟩

/-- the bounds of a fit -/
theorem ap_n {a b : Int32} (h1 : -1000000 ≤ a.toInt) (h2 : a.toInt ≤ 1000000) (h3 : -1000000 ≤ b.toInt) (h4 : b.toInt ≤ 1000000) : ∃ k, k ≤ 2000000 ∧ apI a b = nI k ∧ (k : Int) = (if a.toInt < b.toInt then b.toInt - a.toInt else a.toInt - b.toInt) := by
  unfold apI
  by_cases q : a < b
  · have q' := t_lt.mp q
    have e : (b - a).toInt = b.toInt - a.toInt := t_sub (by omega) (by omega)
    refine ⟨(b.toInt - a.toInt).toNat, by omega, ?_, ?_⟩
    · rw [if_pos q, t_eq, e, nI_T _ (by omega)]; omega
    · rw [if_pos q']; omega
  · have q' : ¬ a.toInt < b.toInt := fun z => q (t_lt.mpr z)
    have e : (a - b).toInt = a.toInt - b.toInt := t_sub (by omega) (by omega)
    refine ⟨(a.toInt - b.toInt).toNat, by omega, ?_, ?_⟩
    · rw [if_neg q, t_eq, e, nI_T _ (by omega)]; omega
    · rw [if_neg q']; omega
theorem fit_bd {d : mS} {A C : Nat} (hA : fOk d A) (hC : fOk d C) : 0 ≤ (fitV d A C).toInt ∧ (fitV d A C).toInt ≤ 230 := by
  have a1 := hA.2
  have c1 := hC.2
  obtain ⟨k, k1, k2, _⟩ := ap_n hA.1.1 hA.1.2 hC.1.1 hC.1.2
  obtain ⟨q, q1, q2, q3⟩ := ap_n (a := d.1 1 A) (b := d.1 1 C) (by omega) (by omega) (by omega) (by omega)
  have q4 : q ≤ 9999 := by
    by_cases z : (d.1 1 A).toInt < (d.1 1 C).toInt
    · rw [if_pos z] at q3; omega
    · rw [if_neg z] at q3; omega
  unfold fitV
  split
  · decide
  · split
    · decide
    · next h1 h2 =>
      have lo := t_le.mp (iNL.mp h2)
      have e1 : ((nI 1 : Int32)).toInt = 1 := by decide
      refine ⟨by omega, ?_⟩
      unfold fitF
      rw [k2, q2, show nI k / nI 100 = nI (k / 100) from pk_div (by omega) (by decide) (by decide)]
      have m2 : nI 2 * nI q = nI (2 * q) := by rw [← zI_n, ← zI_n, ← zI_n, zI_mul]; rfl
      rw [m2]
      generalize hx : (if ¬ d.1 3 A = 0 ∧ d.1 3 A = d.1 3 C then nI 50 else nI 0) = X
      generalize hy : (if d.1 2 A = d.1 2 C then nI 30 else nI 0) = Y
      have bx : 0 ≤ X.toInt ∧ X.toInt ≤ 50 := by rw [← hx]; split <;> decide
      have bY : 0 ≤ Y.toInt ∧ Y.toInt ≤ 30 := by rw [← hy]; split <;> decide
      have z1 : (nI 100).toInt = 100 := by decide
      have z2 : (nI (2 * q)).toInt = ((2 * q : Nat) : Int) := nI_T _ (by omega)
      have z3 : (nI (k / 100)).toInt = ((k / 100 : Nat) : Int) := nI_T _ (by omega)
      have z4 : (nI (10 * min (hdN d A C) 5)).toInt = ((10 * min (hdN d A C) 5 : Nat) : Int) := nI_T _ (by omega)
      have w1 : (nI 100 - nI (2 * q)).toInt = 100 - ((2 * q : Nat) : Int) := by rw [t_sub (by omega) (by omega), z1, z2]
      have w2 : (nI 100 - nI (2 * q) - nI (k / 100)).toInt = 100 - ((2 * q : Nat) : Int) - ((k / 100 : Nat) : Int) := by rw [t_sub (by omega) (by omega), w1, z3]
      have w3 : (nI 100 - nI (2 * q) - nI (k / 100) + X).toInt = 100 - ((2 * q : Nat) : Int) - ((k / 100 : Nat) : Int) + X.toInt := by rw [t_add (by omega) (by omega), w2]
      have w4 : (nI 100 - nI (2 * q) - nI (k / 100) + X + Y).toInt = 100 - ((2 * q : Nat) : Int) - ((k / 100 : Nat) : Int) + X.toInt + Y.toInt := by rw [t_add (by omega) (by omega), w3]
      rw [t_add (by omega) (by omega), w4, z4]
      omega
theorem fitV_k {d e : mS} (h : ∀ j, j < 17 → e.1 j = d.1 j) (A C : Nat) : fitV e A C = fitV d A C := by
  unfold fitV noFit fitF hdN hdP wdP nG nM mb
  rw [h 0 (by decide), h 1 (by decide), h 2 (by decide), h 3 (by decide), h 8 (by decide), h 9 (by decide), h 10 (by decide), h 11 (by decide), h 12 (by decide), h 14 (by decide), h 16 (by decide)]
