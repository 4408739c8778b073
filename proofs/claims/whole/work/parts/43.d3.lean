/-! ===== the desk's methods, 3: what serves the others ===== -/
theorem mset_comm {m : mS} {k k' i i' : Nat} {v v' : Int32} (h : k ≠ k') : mset (mset m k i v) k' i' v' = mset (mset m k' i' v') k i v := by
  have e : ∀ j, (mset (mset m k i v) k' i' v').1 j = (mset (mset m k' i' v') k i v).1 j := by
    intro j
    by_cases h1 : j = k
    · subst h1; rw [mset_ne h, mset_same, mset_same, mset_ne h]
    · by_cases h2 : j = k'
      · subst h2; rw [mset_same, mset_ne h1, mset_ne h1, mset_same]
      · rw [mset_ne h2, mset_ne h1, mset_ne h1, mset_ne h2]
  exact Prod.ext (funext e) rfl
theorem iL_k {d d' : mS} (h : d'.1 6 = d.1 6) (hL : iL d) : iL d' := by
  intro b hb
  have := hL b hb
  unfold nL at this ⊢
  rw [h]; exact this
theorem iG_k {d d' : mS} (h : d'.1 16 = d.1 16) (hG : iG d) : iG d' := by
  unfold iG nG at hG ⊢
  rw [h]; exact hG
theorem iA_k {d d' : mS} (h : d'.1 46 = d.1 46) (hG : iA d) : iA d' := by
  unfold iA nA at hG ⊢
  rw [h]; exact hG
theorem iX_k {d d' : mS} (h : d'.1 54 = d.1 54) (hG : iX d) : iX d' := by
  unfold iX nX at hG ⊢
  rw [h]; exact hG
theorem iMb_k {d d' : mS} {g : Nat} (h1 : d'.1 11 = d.1 11) (h2 : d'.1 12 = d.1 12) (hb : iMb d g) : iMb d' g := by
  unfold iMb nM mb at hb ⊢
  rw [h1, h2]; exact hb
theorem nM_k {d d' : mS} {g : Nat} (h2 : d'.1 12 = d.1 12) : nM d' g = nM d g := by unfold nM; rw [h2]
theorem nv_lt (v : Int32) : nv v < 2147483648 := by
  have h := Int32.toInt_lt v
  show v.toInt.toNat < 2147483648
  omega
abbrev isBk (b : Int32) : Prop := nI 0 ≤ b ∧ b ≤ nI 1
theorem bk01 {b : Int32} : isBk b ↔ b = 0 ∨ b = nI 1 := by
  constructor
  · intro h
    obtain ⟨j, hj, e⟩ := w_nat h (by decide)
    rcases Nat.lt_or_ge j 1 with q | q
    · left; rw [e, show j = 0 by omega]; exact nI_0
    · right; rw [e, show j = 1 by omega]
  · rintro (h | h)
    · rw [h]; decide
    · rw [h]; decide
theorem bk_nv {b : Int32} (h : isBk b) : b = nI (nv b) ∧ nv b < 2 := by
  rcases bk01.mp h with q | q
  · rw [q]; decide
  · rw [q]; decide
theorem wi1 {v : Int32} {n : Nat} (hn : n < 2147483648) : (nI 0 ≤ v ∧ v ≤ nI n - nI 1) ↔ (nI 0 ≤ v ∧ v < nI n) := by
  constructor
  · rintro ⟨h1, h2⟩
    refine ⟨h1, ?_⟩
    rcases Nat.eq_zero_or_pos n with q | q
    · subst q
      have := Int32.le_trans h1 h2
      exact absurd this (by decide)
    · rw [pk_sub (by omega)] at h2
      exact Int32.lt_of_le_of_lt h2 (nI_lt (by omega) (by omega))
  · rintro ⟨h1, h2⟩
    refine ⟨h1, ?_⟩
    have q : ¬ v < 0 := iNL.mpr (nI_0 ▸ h1)
    have e := nv_of q
    rw [e] at h2 ⊢
    have := (nI_ltI (nv_lt v) (by omega)).mp h2
    rw [pk_sub (by omega)]
    exact nI_le (by omega) (by omega)

set_option maxHeartbeats 4000000 in
theorem kd_isWithin (G : vx_G) (d m : mS) (v a b : Int32) : xK G M_X9_isWithin 0 [(.int v), (.int a), (.int b)] NT (hp (dk d) m) 0 0 (QI (fun r n' h' => r = bI (a ≤ v ∧ v ≤ b) ∧ n' = NT ∧ h' = hp (dk d) m)) := by
  refine xK.ofV (by decide) (Nat.le_of_ble_eq_true rfl) ?_
  refine xV.lveq (L' := [some (.int v), some (.int a), some (.int b)]) rfl ?_
  refine x_iload0 dX9_isWithin_0 ?_
  refine x_iload1 dX9_isWithin_1 ?_
  refine x_icmp_lt 14 dX9_isWithin_2 (by decide) (fun c2 => ?_) (fun c2 => ?_)
  · refine x_iconst (nI 0) dX9_isWithin_14 (by decide) ?_
    refine x_zret dX9_isWithin_15 rfl (by first | exact Or.inl nI_0 | exact Or.inr nI1 | exact bI_01 _) ?_ (Nat.zero_le _) (Nat.zero_le _)
    first | exact ⟨(bI_f (c := a ≤ v ∧ v ≤ b) (fun q => absurd q.1 (iNE.mpr c2))).symm, rfl, rfl⟩ | exact ⟨(bI_f (c := a ≤ v ∧ v ≤ b) (fun q => absurd q.2 (iNE.mpr c7))).symm, rfl, rfl⟩ | exact ⟨(bI_t (c := a ≤ v ∧ v ≤ b) ⟨iNL.mp c2, iNL.mp c7⟩).symm, rfl, rfl⟩
  · refine x_iload0 dX9_isWithin_5 ?_
    refine x_iload2 dX9_isWithin_6 ?_
    refine x_icmp_gt 14 dX9_isWithin_7 (by decide) (fun c7 => ?_) (fun c7 => ?_)
    · refine x_iconst (nI 0) dX9_isWithin_14 (by decide) ?_
      refine x_zret dX9_isWithin_15 rfl (by first | exact Or.inl nI_0 | exact Or.inr nI1 | exact bI_01 _) ?_ (Nat.zero_le _) (Nat.zero_le _)
      first | exact ⟨(bI_f (c := a ≤ v ∧ v ≤ b) (fun q => absurd q.1 (iNE.mpr c2))).symm, rfl, rfl⟩ | exact ⟨(bI_f (c := a ≤ v ∧ v ≤ b) (fun q => absurd q.2 (iNE.mpr c7))).symm, rfl, rfl⟩ | exact ⟨(bI_t (c := a ≤ v ∧ v ≤ b) ⟨iNL.mp c2, iNL.mp c7⟩).symm, rfl, rfl⟩
    · refine x_iconst (nI 1) dX9_isWithin_10 (by decide) ?_
      refine x_goto 15 dX9_isWithin_11 (by decide) ?_
      refine x_zret dX9_isWithin_15 rfl (by first | exact Or.inl nI_0 | exact Or.inr nI1 | exact bI_01 _) ?_ (Nat.zero_le _) (Nat.zero_le _)
      first | exact ⟨(bI_f (c := a ≤ v ∧ v ≤ b) (fun q => absurd q.1 (iNE.mpr c2))).symm, rfl, rfl⟩ | exact ⟨(bI_f (c := a ≤ v ∧ v ≤ b) (fun q => absurd q.2 (iNE.mpr c7))).symm, rfl, rfl⟩ | exact ⟨(bI_t (c := a ≤ v ∧ v ≤ b) ⟨iNL.mp c2, iNL.mp c7⟩).symm, rfl, rfl⟩

set_option maxHeartbeats 4000000 in
theorem kd_isBook (G : vx_G) (d m : mS) (b : Int32) : xK G M_X9_isBook 0 [(.int b)] NT (hp (dk d) m) 0 0 (QI (fun r n' h' => r = bI (isBk b) ∧ n' = NT ∧ h' = hp (dk d) m)) := by
  refine xK.ofV (by decide) (Nat.le_of_ble_eq_true rfl) ?_
  refine xV.lveq (L' := [some (.int b)]) rfl ?_
  refine x_iload0 dX9_isBook_0 ?_
  refine x_if_eq 9 dX9_isBook_1 (by decide) (fun c1 => ?_) (fun c1 => ?_)
  · refine x_iconst (nI 1) dX9_isBook_9 (by decide) ?_
    refine x_goto 14 dX9_isBook_10 (by decide) ?_
    refine x_zret dX9_isBook_14 rfl (by first | exact Or.inl nI_0 | exact Or.inr nI1 | exact bI_01 _) ?_ (Nat.zero_le _) (Nat.zero_le _)
    first | exact ⟨(bI_t (c := isBk b) (bk01.mpr (Or.inl c1))).symm, rfl, rfl⟩ | exact ⟨(bI_t (c := isBk b) (bk01.mpr (Or.inr c6))).symm, rfl, rfl⟩ | exact ⟨(bI_f (c := isBk b) (fun q => (bk01.mp q).elim c1 c6)).symm, rfl, rfl⟩
  · refine x_iload0 dX9_isBook_4 ?_
    refine x_iconst (nI 1) dX9_isBook_5 (by decide) ?_
    refine x_icmp_ne 13 dX9_isBook_6 (by decide) (fun c6 => ?_) (fun c6 => ?_)
    · refine x_iconst (nI 0) dX9_isBook_13 (by decide) ?_
      refine x_zret dX9_isBook_14 rfl (by first | exact Or.inl nI_0 | exact Or.inr nI1 | exact bI_01 _) ?_ (Nat.zero_le _) (Nat.zero_le _)
      first | exact ⟨(bI_t (c := isBk b) (bk01.mpr (Or.inl c1))).symm, rfl, rfl⟩ | exact ⟨(bI_t (c := isBk b) (bk01.mpr (Or.inr c6))).symm, rfl, rfl⟩ | exact ⟨(bI_f (c := isBk b) (fun q => (bk01.mp q).elim c1 c6)).symm, rfl, rfl⟩
    · refine x_iconst (nI 1) dX9_isBook_9 (by decide) ?_
      refine x_goto 14 dX9_isBook_10 (by decide) ?_
      refine x_zret dX9_isBook_14 rfl (by first | exact Or.inl nI_0 | exact Or.inr nI1 | exact bI_01 _) ?_ (Nat.zero_le _) (Nat.zero_le _)
      first | exact ⟨(bI_t (c := isBk b) (bk01.mpr (Or.inl c1))).symm, rfl, rfl⟩ | exact ⟨(bI_t (c := isBk b) (bk01.mpr (Or.inr c6))).symm, rfl, rfl⟩ | exact ⟨(bI_f (c := isBk b) (fun q => (bk01.mp q).elim c1 c6)).symm, rfl, rfl⟩

theorem ln_in {d : mS} {b i : Int32} (hL : iL d) (h : isLn d b i) : (b = nI (nv b) ∧ nv b < 2) ∧ i = nI (nv i) ∧ nv i < nL d (nv b) ∧ nL d (nv b) ≤ 80 := by
  have hb := bk_nv h.1
  obtain ⟨e6, l6⟩ := hL _ hb.2
  have e := nv_of (iNL.mpr (nI_0 ▸ h.2.1))
  have hi := h.2.2
  rw [e6, e] at hi
  exact ⟨hb, e, (nI_ltI (nv_lt i) (by omega)).mp hi, l6⟩
theorem ln_iff {d : mS} {b i : Int32} (hL : iL d) (hb : isBk b) : (nI 0 ≤ i ∧ i ≤ d.1 6 (nv b) - nI 1) ↔ isLn d b i := by
  obtain ⟨e6, l6⟩ := hL _ (bk_nv hb).2
  rw [e6, wi1 (by omega), ← e6]
  exact ⟨fun h => ⟨hb, h⟩, fun h => h.2⟩

set_option maxHeartbeats 4000000 in
theorem kd_lineAt (G : vx_G) (d m : mS) (hL : iL d) (b i : Int32) : xK G M_X9_lineAt 1 [(.ref 0), (.int b), (.int i)] NT (hp (dk d) m) 0 0 (QA (fun r n' h' => ((isLn d b i ∧ r = some (lC (80 * nv b + nv i))) ∨ (¬ isLn d b i ∧ r = none)) ∧ n' = NT ∧ h' = hp (dk d) m)) := by
  refine xK.ofV (by decide) (Nat.le_of_ble_eq_true rfl) ?_
  refine xV.lveq (L' := [some (.ref 0), some (.int b), some (.int i)]) rfl ?_
  refine x_iload1 dX9_lineAt_0 ?_
  refine x_callS1i msX9_69 (kd_isBook G d m b) (xRoom.of rfl) (Nat.le_of_ble_eq_true rfl) dX9_lineAt_1 (fun r_ n_ h_ hq => ?_)
  obtain ⟨rfl, rfl, rfl⟩ := hq
  refine b_if_eq 40 dX9_lineAt_4 (by decide) (fun c4 => ?_) (fun c4 => ?_)
  · refine x_aconst_null dX9_lineAt_40 ?_
    refine x_aret (r := none) dX9_lineAt_41 rfl ?_ (Nat.zero_le _) (Nat.zero_le _)
    first | exact ⟨Or.inl ⟨hl, rfl⟩, rfl, rfl⟩ | exact ⟨Or.inr ⟨fun q => c4 q.1, rfl⟩, rfl, rfl⟩ | exact ⟨Or.inr ⟨fun q => c23 ((ln_iff hL c4).mpr q), rfl⟩, rfl, rfl⟩
  · refine x_iload2 dX9_lineAt_7 ?_
    refine x_iconst (nI 0) dX9_lineAt_8 (by decide) ?_
    refine x_aload0 dX9_lineAt_9 ?_
    refine go0_0 fgX9_12 dX9_lineAt_10 ?_
    refine x_iload1 dX9_lineAt_13 ?_
    refine lBK (nv b) ((bk_nv c4).1) ((bk_nv c4).2) dX9_lineAt_14 ?_
    refine gB1 ((bk_nv c4).2) fgX9_80 dX9_lineAt_15 ?_
    refine x_iconst (nI 1) dX9_lineAt_18 (by decide) ?_
    refine x_isub dX9_lineAt_19 ?_
    refine x_callS3i msX9_75 (kd_isWithin G d m i (nI 0) (d.1 6 (nv b) - nI 1)) (xRoom.of rfl) (Nat.le_of_ble_eq_true rfl) dX9_lineAt_20 (fun r_ n_ h_ hq => ?_)
    obtain ⟨rfl, rfl, rfl⟩ := hq
    refine b_if_eq 40 dX9_lineAt_23 (by decide) (fun c23 => ?_) (fun c23 => ?_)
    · refine x_aconst_null dX9_lineAt_40 ?_
      refine x_aret (r := none) dX9_lineAt_41 rfl ?_ (Nat.zero_le _) (Nat.zero_le _)
      first | exact ⟨Or.inl ⟨hl, rfl⟩, rfl, rfl⟩ | exact ⟨Or.inr ⟨fun q => c4 q.1, rfl⟩, rfl, rfl⟩ | exact ⟨Or.inr ⟨fun q => c23 ((ln_iff hL c4).mpr q), rfl⟩, rfl, rfl⟩
    · have hl := (ln_iff hL c4).mp c23
      have hz := ln_in hL hl
      refine x_aload0 dX9_lineAt_26 ?_
      refine go0_0 fgX9_12 dX9_lineAt_27 ?_
      refine x_iload1 dX9_lineAt_30 ?_
      refine lBK (nv b) ((bk_nv c4).1) ((bk_nv c4).2) dX9_lineAt_31 ?_
      refine gB0 ((bk_nv c4).2) fgX9_83 dX9_lineAt_32 ?_
      refine x_iload2 dX9_lineAt_35 ?_
      refine lBL ((bk_nv c4).2) (nv i) (hz.2.1) (by omega) dX9_lineAt_36 ?_
      refine x_goto 41 dX9_lineAt_37 (by decide) ?_
      refine x_aret (r := some _) dX9_lineAt_41 rfl ?_ (Nat.zero_le _) (Nat.zero_le _)
      first | exact ⟨Or.inl ⟨hl, rfl⟩, rfl, rfl⟩ | exact ⟨Or.inr ⟨fun q => c4 q.1, rfl⟩, rfl, rfl⟩ | exact ⟨Or.inr ⟨fun q => c23 ((ln_iff hL c4).mpr q), rfl⟩, rfl, rfl⟩

theorem gr_iff {d : mS} {g : Int32} (hG : iG d) : (nI 0 ≤ g ∧ g ≤ d.1 16 0 - nI 1) ↔ isMd d g := by
  obtain ⟨e6, l6⟩ := hG
  rw [e6, wi1 (by omega), ← e6]
theorem md_in {d : mS} {g : Int32} (hG : iG d) (h : isMd d g) : g = nI (nv g) ∧ nv g < nG d ∧ nG d ≤ 200 := by
  obtain ⟨e6, l6⟩ := hG
  have e := nv_of (iNL.mpr (nI_0 ▸ h.1))
  have hi := h.2
  rw [e6, e] at hi
  exact ⟨e, (nI_ltI (nv_lt g) (by omega)).mp hi, l6⟩

set_option maxHeartbeats 4000000 in
theorem kd_isGroupThere (G : vx_G) (d m : mS) (hG : iG d) (hp_ : dP d) (g : Int32) : xK G M_X9_isGroupThere 1 [(.ref 0), (.int g)] NT (hp (dk d) m) 0 0 (QI (fun r n' h' => r = bI (isGr d g) ∧ n' = NT ∧ h' = hp (dk d) m)) := by
  refine xK.ofV (by decide) (Nat.le_of_ble_eq_true rfl) ?_
  refine xV.lveq (L' := [some (.ref 0), some (.int g)]) rfl ?_
  refine x_iload1 dX9_isGroupThere_0 ?_
  refine x_iconst (nI 0) dX9_isGroupThere_1 (by decide) ?_
  refine x_aload0 dX9_isGroupThere_2 ?_
  refine go0_6 fgX9_52 dX9_isGroupThere_3 ?_
  refine x_iconst (nI 1) dX9_isGroupThere_6 (by decide) ?_
  refine x_isub dX9_isGroupThere_7 ?_
  refine x_callS3i msX9_75 (kd_isWithin G d m g (nI 0) (d.1 16 0 - nI 1)) (xRoom.of rfl) (Nat.le_of_ble_eq_true rfl) dX9_isGroupThere_8 (fun r_ n_ h_ hq => ?_)
  obtain ⟨rfl, rfl, rfl⟩ := hq
  refine b_if_eq 30 dX9_isGroupThere_11 (by decide) (fun c11 => ?_) (fun c11 => ?_)
  · refine x_iconst (nI 0) dX9_isGroupThere_30 (by decide) ?_
    refine x_zret dX9_isGroupThere_31 rfl (by first | exact Or.inl nI_0 | exact Or.inr nI1 | exact bI_01 _) ?_ (Nat.zero_le _) (Nat.zero_le _)
    first | exact ⟨(bI_f (c := isGr d g) (fun q => c11 ((gr_iff hG).mpr q.1))).symm, rfl, rfl⟩ | exact ⟨(bI_f (c := isGr d g) (fun q => c23 q.2)).symm, rfl, rfl⟩ | exact ⟨(bI_t (c := isGr d g) ⟨hl, c23⟩).symm, rfl, rfl⟩
  · have hl := (gr_iff hG).mp c11
    have hz := md_in hG hl
    refine x_aload0 dX9_isGroupThere_14 ?_
    refine go0_1 fgX9_20 dX9_isGroupThere_15 ?_
    refine x_iload1 dX9_isGroupThere_18 ?_
    refine lGS (nv g) (hz.1) (by omega) dX9_isGroupThere_19 ?_
    refine x_callV0i mvX9_319 (kd_isThere G d m (nv g) (by omega) (hp_ _ hz.2.1)) (lt_G (by omega)) (hd_G (by omega)) (xRoom.of rfl) (Nat.le_of_ble_eq_true rfl) dX9_isGroupThere_20 (fun r_ n_ h_ hq => ?_)
    obtain ⟨rfl, rfl, rfl⟩ := hq
    refine b_if_eq 30 dX9_isGroupThere_23 (by decide) (fun c23 => ?_) (fun c23 => ?_)
    · refine x_iconst (nI 0) dX9_isGroupThere_30 (by decide) ?_
      refine x_zret dX9_isGroupThere_31 rfl (by first | exact Or.inl nI_0 | exact Or.inr nI1 | exact bI_01 _) ?_ (Nat.zero_le _) (Nat.zero_le _)
      first | exact ⟨(bI_f (c := isGr d g) (fun q => c11 ((gr_iff hG).mpr q.1))).symm, rfl, rfl⟩ | exact ⟨(bI_f (c := isGr d g) (fun q => c23 q.2)).symm, rfl, rfl⟩ | exact ⟨(bI_t (c := isGr d g) ⟨hl, c23⟩).symm, rfl, rfl⟩
    · refine x_iconst (nI 1) dX9_isGroupThere_26 (by decide) ?_
      refine x_goto 31 dX9_isGroupThere_27 (by decide) ?_
      refine x_zret dX9_isGroupThere_31 rfl (by first | exact Or.inl nI_0 | exact Or.inr nI1 | exact bI_01 _) ?_ (Nat.zero_le _) (Nat.zero_le _)
      first | exact ⟨(bI_f (c := isGr d g) (fun q => c11 ((gr_iff hG).mpr q.1))).symm, rfl, rfl⟩ | exact ⟨(bI_f (c := isGr d g) (fun q => c23 q.2)).symm, rfl, rfl⟩ | exact ⟨(bI_t (c := isGr d g) ⟨hl, c23⟩).symm, rfl, rfl⟩

set_option maxHeartbeats 4000000 in
theorem kd_learnt (G : vx_G) (d m : mS) (hG : iG d) (hp_ : dP d) (hM : iMs d) (wa wc : Int32) : xK G M_X9_learnt 1 [(.ref 0), (.int wa), (.int wc)] NT (hp (dk d) m) 0 0 (QI (fun r n' h' => r = nI (min (fb_ct (hdP d wa wc) (nG d)) 5) ∧ n' = NT ∧ h' = hp (dk d) m)) := by
  obtain ⟨e16, l16⟩ := hG
  have lp : ∀ (n_ : Nat) (g c : Nat), g ≤ nG d → nG d + 1 ≤ g + n_ → (c = min (fb_ct (hdP d wa wc) g) 5) → xV (mF G M_X9_learnt 1 0 0 (QI (fun r n' h' => r = nI (min (fb_ct (hdP d wa wc) (nG d)) 5) ∧ n' = NT ∧ h' = hp (dk d) m))) 5 [some (.ref 0), some (.int wa), some (.int wc), some (.int (nI (c))), some (.int (nI (g))), none] [] NT (hp (dk d) m) 0 0 := by
    intro n_
    induction n_ with
    | zero => intro g c hi_ hn_; omega
    | succ n_ ih =>
      intro g c hi_ hn_ hc
      have hmn := fb_ct_mono (hdP d wa wc) hi_
      refine x_iload4 dX9_learnt_5 ?_
      refine x_aload0 dX9_learnt_7 ?_
      refine go0_6 fgX9_52 dX9_learnt_8 ?_
      refine xV.toi (nI (nG d)) (e16) ?_
      refine n_icmp_ge 74 dX9_learnt_11 (by decide) (by omega) (by omega) (fun c11 => ?_) (fun c11 => ?_)
      · refine x_iload3 dX9_learnt_74 ?_
        refine x_iret dX9_learnt_75 rfl ?_ (Nat.zero_le _) (Nat.zero_le _)
        first | exact ⟨by rw [hc, show g = nG d by omega], rfl, rfl⟩ | exact ⟨by rw [show c = min (fb_ct (hdP d wa wc) (nG d)) 5 by omega], rfl, rfl⟩
      · refine x_iload3 dX9_learnt_14 ?_
        refine x_iconst (nI 5) dX9_learnt_15 (by decide) ?_
        refine n_icmp_ge 74 dX9_learnt_16 (by decide) (by omega) (by omega) (fun c16 => ?_) (fun c16 => ?_)
        · refine x_iload3 dX9_learnt_74 ?_
          refine x_iret dX9_learnt_75 rfl ?_ (Nat.zero_le _) (Nat.zero_le _)
          first | exact ⟨by rw [hc, show g = nG d by omega], rfl, rfl⟩ | exact ⟨by rw [show c = min (fb_ct (hdP d wa wc) (nG d)) 5 by omega], rfl, rfl⟩
        · refine x_aload0 dX9_learnt_19 ?_
          refine go0_1 fgX9_20 dX9_learnt_20 ?_
          refine x_iload4 dX9_learnt_23 ?_
          refine lGS (g) rfl (by omega) dX9_learnt_25 ?_
          refine x_astore5 dX9_learnt_26 rfl rfl rfl ?_
          refine x_aload5 dX9_learnt_28 ?_
          refine x_callV0i mvX9_319 (kd_isThere G d m g (by omega) (hp_ _ (by omega))) (lt_G (by omega)) (hd_G (by omega)) (xRoom.of rfl) (Nat.le_of_ble_eq_true rfl) dX9_learnt_30 (fun r_ n_ h_ hq => ?_)
          obtain ⟨rfl, rfl, rfl⟩ := hq
          refine b_if_eq 68 dX9_learnt_33 (by decide) (fun c33 => ?_) (fun c33 => ?_)
          · refine x_iinc4 (nI (g + 1)) dX9_learnt_68 (nI_add g 1) rfl rfl rfl ?_
            refine x_goto 5 dX9_learnt_71 (by decide) ?_
            refine xV.lvle (L' := [some (.ref _), some (.int _), some (.int _), some (.int _), some (.int _), none]) ⟨rfl, rfl, rfl, rfl, rfl, trivial⟩ ?_
            first | exact ih (g + 1) _ (by omega) (by omega) (by rw [fb_ct_succ, show hdP d wa wc g = false from decide_eq_false (fun q => c33 q.1)]; simp only [Bool.false_eq_true, if_false, if_true]; omega) | exact ih (g + 1) _ (by omega) (by omega) (by rw [fb_ct_succ, show hdP d wa wc g = false from decide_eq_false (fun q => c42 q.2.1)]; simp only [Bool.false_eq_true, if_false, if_true]; omega) | exact ih (g + 1) _ (by omega) (by omega) (by rw [fb_ct_succ, show hdP d wa wc g = false from decide_eq_false (fun q => c52 q.2.2.1)]; simp only [Bool.false_eq_true, if_false, if_true]; omega) | exact ih (g + 1) _ (by omega) (by omega) (by rw [fb_ct_succ, show hdP d wa wc g = false from decide_eq_false (fun q => c62 q.2.2.2)]; simp only [Bool.false_eq_true, if_false, if_true]; omega) | exact ih (g + 1) _ (by omega) (by omega) (by rw [fb_ct_succ, show hdP d wa wc g = true from decide_eq_true ⟨c33, c42, c52, c62⟩]; simp only [Bool.false_eq_true, if_false, if_true]; omega)
          · refine x_aload5 dX9_learnt_36 ?_
            refine gG2 (by omega) fgX9_229 dX9_learnt_38 ?_
            refine x_iconst (nI 2) dX9_learnt_41 (by decide) ?_
            refine x_icmp_ne 68 dX9_learnt_42 (by decide) (fun c42 => ?_) (fun c42 => ?_)
            · refine x_iinc4 (nI (g + 1)) dX9_learnt_68 (nI_add g 1) rfl rfl rfl ?_
              refine x_goto 5 dX9_learnt_71 (by decide) ?_
              refine xV.lvle (L' := [some (.ref _), some (.int _), some (.int _), some (.int _), some (.int _), none]) ⟨rfl, rfl, rfl, rfl, rfl, trivial⟩ ?_
              first | exact ih (g + 1) _ (by omega) (by omega) (by rw [fb_ct_succ, show hdP d wa wc g = false from decide_eq_false (fun q => c33 q.1)]; simp only [Bool.false_eq_true, if_false, if_true]; omega) | exact ih (g + 1) _ (by omega) (by omega) (by rw [fb_ct_succ, show hdP d wa wc g = false from decide_eq_false (fun q => c42 q.2.1)]; simp only [Bool.false_eq_true, if_false, if_true]; omega) | exact ih (g + 1) _ (by omega) (by omega) (by rw [fb_ct_succ, show hdP d wa wc g = false from decide_eq_false (fun q => c52 q.2.2.1)]; simp only [Bool.false_eq_true, if_false, if_true]; omega) | exact ih (g + 1) _ (by omega) (by omega) (by rw [fb_ct_succ, show hdP d wa wc g = false from decide_eq_false (fun q => c62 q.2.2.2)]; simp only [Bool.false_eq_true, if_false, if_true]; omega) | exact ih (g + 1) _ (by omega) (by omega) (by rw [fb_ct_succ, show hdP d wa wc g = true from decide_eq_true ⟨c33, c42, c52, c62⟩]; simp only [Bool.false_eq_true, if_false, if_true]; omega)
            · refine x_aload5 dX9_learnt_45 ?_
              refine x_iconst (nI 0) dX9_learnt_47 (by decide) ?_
              refine x_iload1 dX9_learnt_48 ?_
              refine x_callV2i mvX9_332 (kd_hasWord G d m g (by omega) (hM g (by omega)) 0 (by omega) wa) (lt_G (by omega)) (hd_G (by omega)) (xRoom.of rfl) (Nat.le_of_ble_eq_true rfl) dX9_learnt_49 (fun r_ n_ h_ hq => ?_)
              obtain ⟨rfl, rfl, rfl⟩ := hq
              refine b_if_eq 68 dX9_learnt_52 (by decide) (fun c52 => ?_) (fun c52 => ?_)
              · refine x_iinc4 (nI (g + 1)) dX9_learnt_68 (nI_add g 1) rfl rfl rfl ?_
                refine x_goto 5 dX9_learnt_71 (by decide) ?_
                refine xV.lvle (L' := [some (.ref _), some (.int _), some (.int _), some (.int _), some (.int _), none]) ⟨rfl, rfl, rfl, rfl, rfl, trivial⟩ ?_
                first | exact ih (g + 1) _ (by omega) (by omega) (by rw [fb_ct_succ, show hdP d wa wc g = false from decide_eq_false (fun q => c33 q.1)]; simp only [Bool.false_eq_true, if_false, if_true]; omega) | exact ih (g + 1) _ (by omega) (by omega) (by rw [fb_ct_succ, show hdP d wa wc g = false from decide_eq_false (fun q => c42 q.2.1)]; simp only [Bool.false_eq_true, if_false, if_true]; omega) | exact ih (g + 1) _ (by omega) (by omega) (by rw [fb_ct_succ, show hdP d wa wc g = false from decide_eq_false (fun q => c52 q.2.2.1)]; simp only [Bool.false_eq_true, if_false, if_true]; omega) | exact ih (g + 1) _ (by omega) (by omega) (by rw [fb_ct_succ, show hdP d wa wc g = false from decide_eq_false (fun q => c62 q.2.2.2)]; simp only [Bool.false_eq_true, if_false, if_true]; omega) | exact ih (g + 1) _ (by omega) (by omega) (by rw [fb_ct_succ, show hdP d wa wc g = true from decide_eq_true ⟨c33, c42, c52, c62⟩]; simp only [Bool.false_eq_true, if_false, if_true]; omega)
              · refine x_aload5 dX9_learnt_55 ?_
                refine x_iconst (nI 1) dX9_learnt_57 (by decide) ?_
                refine x_iload2 dX9_learnt_58 ?_
                refine x_callV2i mvX9_332 (kd_hasWord G d m g (by omega) (hM g (by omega)) 1 (by omega) wc) (lt_G (by omega)) (hd_G (by omega)) (xRoom.of rfl) (Nat.le_of_ble_eq_true rfl) dX9_learnt_59 (fun r_ n_ h_ hq => ?_)
                obtain ⟨rfl, rfl, rfl⟩ := hq
                refine b_if_eq 68 dX9_learnt_62 (by decide) (fun c62 => ?_) (fun c62 => ?_)
                · refine x_iinc4 (nI (g + 1)) dX9_learnt_68 (nI_add g 1) rfl rfl rfl ?_
                  refine x_goto 5 dX9_learnt_71 (by decide) ?_
                  refine xV.lvle (L' := [some (.ref _), some (.int _), some (.int _), some (.int _), some (.int _), none]) ⟨rfl, rfl, rfl, rfl, rfl, trivial⟩ ?_
                  first | exact ih (g + 1) _ (by omega) (by omega) (by rw [fb_ct_succ, show hdP d wa wc g = false from decide_eq_false (fun q => c33 q.1)]; simp only [Bool.false_eq_true, if_false, if_true]; omega) | exact ih (g + 1) _ (by omega) (by omega) (by rw [fb_ct_succ, show hdP d wa wc g = false from decide_eq_false (fun q => c42 q.2.1)]; simp only [Bool.false_eq_true, if_false, if_true]; omega) | exact ih (g + 1) _ (by omega) (by omega) (by rw [fb_ct_succ, show hdP d wa wc g = false from decide_eq_false (fun q => c52 q.2.2.1)]; simp only [Bool.false_eq_true, if_false, if_true]; omega) | exact ih (g + 1) _ (by omega) (by omega) (by rw [fb_ct_succ, show hdP d wa wc g = false from decide_eq_false (fun q => c62 q.2.2.2)]; simp only [Bool.false_eq_true, if_false, if_true]; omega) | exact ih (g + 1) _ (by omega) (by omega) (by rw [fb_ct_succ, show hdP d wa wc g = true from decide_eq_true ⟨c33, c42, c52, c62⟩]; simp only [Bool.false_eq_true, if_false, if_true]; omega)
                · refine x_iinc3 (nI (c + 1)) dX9_learnt_65 (nI_add c 1) rfl rfl rfl ?_
                  refine x_iinc4 (nI (g + 1)) dX9_learnt_68 (nI_add g 1) rfl rfl rfl ?_
                  refine x_goto 5 dX9_learnt_71 (by decide) ?_
                  refine xV.lvle (L' := [some (.ref _), some (.int _), some (.int _), some (.int _), some (.int _), none]) ⟨rfl, rfl, rfl, rfl, rfl, trivial⟩ ?_
                  first | exact ih (g + 1) _ (by omega) (by omega) (by rw [fb_ct_succ, show hdP d wa wc g = false from decide_eq_false (fun q => c33 q.1)]; simp only [Bool.false_eq_true, if_false, if_true]; omega) | exact ih (g + 1) _ (by omega) (by omega) (by rw [fb_ct_succ, show hdP d wa wc g = false from decide_eq_false (fun q => c42 q.2.1)]; simp only [Bool.false_eq_true, if_false, if_true]; omega) | exact ih (g + 1) _ (by omega) (by omega) (by rw [fb_ct_succ, show hdP d wa wc g = false from decide_eq_false (fun q => c52 q.2.2.1)]; simp only [Bool.false_eq_true, if_false, if_true]; omega) | exact ih (g + 1) _ (by omega) (by omega) (by rw [fb_ct_succ, show hdP d wa wc g = false from decide_eq_false (fun q => c62 q.2.2.2)]; simp only [Bool.false_eq_true, if_false, if_true]; omega) | exact ih (g + 1) _ (by omega) (by omega) (by rw [fb_ct_succ, show hdP d wa wc g = true from decide_eq_true ⟨c33, c42, c52, c62⟩]; simp only [Bool.false_eq_true, if_false, if_true]; omega)
  refine xK.ofV (by decide) (Nat.le_of_ble_eq_true rfl) ?_
  refine xV.lveq (L' := [some (.ref 0), some (.int wa), some (.int wc), none, none, none]) rfl ?_
  refine x_iconst (nI 0) dX9_learnt_0 (by decide) ?_
  refine x_istore3 dX9_learnt_1 rfl rfl rfl ?_
  refine x_iconst (nI 0) dX9_learnt_2 (by decide) ?_
  refine x_istore4 dX9_learnt_3 rfl rfl rfl ?_
  exact lp (nG d + 1) 0 0 (Nat.zero_le _) (by omega) rfl
