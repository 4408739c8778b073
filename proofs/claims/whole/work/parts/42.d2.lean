/-! ===== the desk's methods, 2: Group and Acts ===== -/
theorem nI_npos {n : Nat} (h : 0 < n) (hn : n < 2147483648) : ¬ nI n ≤ 0 := fun q => by
  have := (nI_leI (a := n) (b := 0) (by omega) (by omega)).mp (nI_0.symm ▸ q)
  omega
def dP (d : mS) : Prop := ∀ g, g < nG d → d.1 14 g < 0 → d.1 14 g = -1
def opD (d : mS) (g : Nat) (s dy : Int32) : mS := mset (mset (mset (mset (mset d 12 g (nI 0)) 10 g s) 13 g dy) 14 g (-1)) 15 g (nI 0)
def agD (d : mS) (g a : Nat) : mS := mset (mset d 11 (8 * g + nM d g) (nI a)) 12 g (nI (nM d g + 1))
def drD (d : mS) (g : Nat) : mS := mset (mset d 12 g (nI (nM d g - 1))) 5 (mb d g (nM d g - 1)) (-1)

set_option maxHeartbeats 4000000 in
theorem kd_open (G : vx_G) (d m : mS) (g : Nat) (hg : g < 200) (s dy : Int32) : xK G M_X3_open 0 [(.ref (gC g)), (.int s), (.int dy)] NT (hp (dk d) m) 0 0 (QV (fun n' h' => n' = NT ∧ h' = hp (dk (opD d g s dy)) m)) := by
  refine xK.ofV (by decide) (Nat.le_of_ble_eq_true rfl) ?_
  refine xV.lveq (L' := [some (.ref (gC g)), some (.int s), some (.int dy)]) rfl ?_
  refine x_aload0 dX3_open_0 ?_
  refine x_iconst (nI 0) dX3_open_1 (by decide) ?_
  refine pG1 (by omega) fpX3_17 dX3_open_2 ?_
  refine x_aload0 dX3_open_5 ?_
  refine x_iload1 dX3_open_6 ?_
  refine pG2 (by omega) fpX3_21 dX3_open_7 ?_
  refine x_aload0 dX3_open_10 ?_
  refine x_iload2 dX3_open_11 ?_
  refine pG3 (by omega) fpX3_24 dX3_open_12 ?_
  refine x_aload0 dX3_open_15 ?_
  refine x_iconst (-1) dX3_open_16 (by decide) ?_
  refine pG4 (by omega) fpX3_27 dX3_open_17 ?_
  refine x_aload0 dX3_open_20 ?_
  refine x_iconst (nI 0) dX3_open_21 (by decide) ?_
  refine pG5 (by omega) fpX3_30 dX3_open_22 ?_
  refine x_vret dX3_open_25 rfl ?_ (Nat.zero_le _) (Nat.zero_le _)
  exact ⟨rfl, rfl⟩

set_option maxHeartbeats 4000000 in
theorem kd_add (G : vx_G) (d m : mS) (g : Nat) (hg : g < 200) (a : Nat) (ha : a < 160) (e12 : d.1 12 g = nI (nM d g)) (h8 : nM d g < 8) : xK G M_X3_add 0 [(.ref (gC g)), (.ref (lC a))] NT (hp (dk d) m) 0 0 (QV (fun n' h' => n' = NT ∧ h' = hp (dk (agD d g a)) m)) := by
  refine xK.ofV (by decide) (Nat.le_of_ble_eq_true rfl) ?_
  refine xV.lveq (L' := [some (.ref (gC g)), some (.ref (lC a))]) rfl ?_
  refine x_aload0 dX3_add_0 ?_
  refine gG1 (by omega) fgX3_17 dX3_add_1 ?_
  refine xV.toi (nI (nM d g)) (e12) ?_
  refine x_bipush (nI 8) dX3_add_4 (by decide) ?_
  refine n_icmp_ge 29 dX3_add_6 (by decide) (by omega) (by omega) (fun c6 => absurd c6 (by omega)) (fun c6 => ?_)
  refine x_aload0 dX3_add_9 ?_
  refine gG0 (by omega) fgX3_11 dX3_add_10 ?_
  refine x_aload0 dX3_add_13 ?_
  refine gG1 (by omega) fgX3_17 dX3_add_14 ?_
  refine xV.toi (nI (nM d g)) (e12) ?_
  refine x_aload1 dX3_add_17 ?_
  refine sGL (by omega) (nM d g) rfl (by omega) (ha) dX3_add_18 ?_
  refine x_aload0 dX3_add_19 ?_
  refine x_dup dX3_add_20 rfl ?_
  refine gG1 (by omega) fgX3_17 dX3_add_21 ?_
  refine xV.toi (nI (nM d g)) ((by rw [mset_ne (by decide)]; exact e12)) ?_
  refine x_iconst (nI 1) dX3_add_24 (by decide) ?_
  refine n_iadd dX3_add_25 ?_
  refine pG1 (by omega) fpX3_17 dX3_add_26 ?_
  refine x_vret dX3_add_29 rfl ?_ (Nat.zero_le _) (Nat.zero_le _)
  exact ⟨rfl, rfl⟩

set_option maxHeartbeats 4000000 in
theorem kd_dropLatest (G : vx_G) (d m : mS) (g : Nat) (hg : g < 200) (hb : iMb d g) (h1 : 1 ≤ nM d g) : xK G M_X3_dropLatest 0 [(.ref (gC g))] NT (hp (dk d) m) 0 0 (QV (fun n' h' => n' = NT ∧ h' = hp (dk (drD d g)) m)) := by
  obtain ⟨e12, l12, hm⟩ := hb
  refine xK.ofV (by decide) (Nat.le_of_ble_eq_true rfl) ?_
  refine xV.lveq (L' := [some (.ref (gC g))]) rfl ?_
  refine x_aload0 dX3_dropLatest_0 ?_
  refine gG1 (by omega) fgX3_17 dX3_dropLatest_1 ?_
  refine xV.toi (nI (nM d g)) (e12) ?_
  refine x_if_le 30 dX3_dropLatest_4 (by decide) (fun c4 => absurd c4 (nI_npos (by omega) (by omega))) (fun c4 => ?_)
  refine x_aload0 dX3_dropLatest_7 ?_
  refine x_dup dX3_dropLatest_8 rfl ?_
  refine gG1 (by omega) fgX3_17 dX3_dropLatest_9 ?_
  refine xV.toi (nI (nM d g)) (e12) ?_
  refine x_iconst (nI 1) dX3_dropLatest_12 (by decide) ?_
  refine n_isub dX3_dropLatest_13 (by omega) ?_
  refine pG1 (by omega) fpX3_17 dX3_dropLatest_14 ?_
  refine x_aload0 dX3_dropLatest_17 ?_
  refine gG0 (by omega) fgX3_11 dX3_dropLatest_18 ?_
  refine x_aload0 dX3_dropLatest_21 ?_
  refine gG1 (by omega) fgX3_17 dX3_dropLatest_22 ?_
  refine xV.toi (nI (nM d g - 1)) (mset_at _ _ _ _) ?_
  refine lGL (by omega) (nM d g - 1) rfl (by omega) (q := mb d g (nM d g - 1)) ((by rw [mset_ne (by decide)]; exact (hm _ (by omega)).1)) ((hm _ (by omega)).2) dX3_dropLatest_25 ?_
  refine x_iconst (-1) dX3_dropLatest_26 (by decide) ?_
  refine pL7 ((hm _ (by omega)).2) fpX3_33 dX3_dropLatest_27 ?_
  refine x_vret dX3_dropLatest_30 rfl ?_ (Nat.zero_le _) (Nat.zero_le _)
  exact ⟨rfl, rfl⟩

set_option maxHeartbeats 4000000 in
theorem kd_claimLines (G : vx_G) (d m : mS) (g : Nat) (hg : g < 200) (hb : iMb d g) (v : Int32) : xK G M_X3_claimLines 0 [(.ref (gC g)), (.int v)] NT (hp (dk d) m) 0 0 (QV (fun n' h' => n' = NT ∧ h' = hp (dk (clM d g v (nM d g))) m)) := by
  obtain ⟨e12, l12, hm⟩ := hb
  have lp : ∀ (n_ : Nat) (j : Nat), j ≤ nM d g → nM d g + 1 ≤ j + n_ → xV (mF G M_X3_claimLines 0 0 0 (QV (fun n' h' => n' = NT ∧ h' = hp (dk (clM d g v (nM d g))) m))) 2 [some (.ref (gC g)), some (.int v), some (.int (nI (j)))] [] NT (hp (dk (clM d g v j)) m) 0 0 := by
    intro n_
    induction n_ with
    | zero => intro j hi_ hn_; omega
    | succ n_ ih =>
      intro j hi_ hn_ 
      refine x_iload2 dX3_claimLines_2 ?_
      refine x_aload0 dX3_claimLines_3 ?_
      refine gG1 (by omega) fgX3_17 dX3_claimLines_4 ?_
      refine xV.toi (nI (nM d g)) ((by rw [clM_ne (by decide)]; exact e12)) ?_
      refine n_icmp_ge 26 dX3_claimLines_7 (by decide) (by omega) (by omega) (fun c7 => ?_) (fun c7 => ?_)
      · refine x_vret dX3_claimLines_26 rfl ?_ (Nat.zero_le _) (Nat.zero_le _)
        exact ⟨rfl, by rw [show j = nM d g by omega]⟩
      · refine x_aload0 dX3_claimLines_10 ?_
        refine gG0 (by omega) fgX3_11 dX3_claimLines_11 ?_
        refine x_iload2 dX3_claimLines_14 ?_
        refine lGL (by omega) (j) rfl (by omega) (q := mb d g j) ((by rw [clM_ne (by decide)]; exact (hm j (by omega)).1)) ((hm j (by omega)).2) dX3_claimLines_15 ?_
        refine x_iload1 dX3_claimLines_16 ?_
        refine pL7 ((hm j (by omega)).2) fpX3_33 dX3_claimLines_17 ?_
        refine x_iinc2 (nI (j + 1)) dX3_claimLines_20 (nI_add j 1) rfl rfl rfl ?_
        refine x_goto 2 dX3_claimLines_23 (by decide) ?_
        exact ih (j + 1) (by omega) (by omega)
  refine xK.ofV (by decide) (Nat.le_of_ble_eq_true rfl) ?_
  refine xV.lveq (L' := [some (.ref (gC g)), some (.int v), none]) rfl ?_
  refine x_iconst (nI 0) dX3_claimLines_0 (by decide) ?_
  refine x_istore2 dX3_claimLines_1 rfl rfl rfl ?_
  exact lp (nM d g + 1) 0 (Nat.zero_le _) (by omega)

def hlD (d : mS) (g : Nat) : Nat → mS
  | 0 => d
  | k + 1 => mset (hlD d g k) 56 (mb d g k) ((hlD d g k).1 56 (mb d g k) + nI 1)
theorem hlD_ne {d : mS} {g : Nat} {j : Nat} (h : j ≠ 56) : ∀ n, (hlD d g n).1 j = d.1 j
  | 0 => rfl
  | k + 1 => by
    show (mset (hlD d g k) 56 (mb d g k) _).1 j = _
    rw [mset_ne h, hlD_ne h k]

set_option maxHeartbeats 4000000 in
theorem kd_holdLines (G : vx_G) (d m : mS) (g : Nat) (hg : g < 200) (hb : iMb d g) : xK G M_X3_holdLines 0 [(.ref (gC g))] NT (hp (dk d) m) 0 0 (QV (fun n' h' => n' = NT ∧ h' = hp (dk (hlD d g (nM d g))) m)) := by
  obtain ⟨e12, l12, hm⟩ := hb
  have lp : ∀ (n_ : Nat) (j : Nat), j ≤ nM d g → nM d g + 1 ≤ j + n_ → xV (mF G M_X3_holdLines 0 0 0 (QV (fun n' h' => n' = NT ∧ h' = hp (dk (hlD d g (nM d g))) m))) 2 [some (.ref (gC g)), some (.int (nI (j)))] [] NT (hp (dk (hlD d g j)) m) 0 0 := by
    intro n_
    induction n_ with
    | zero => intro j hi_ hn_; omega
    | succ n_ ih =>
      intro j hi_ hn_ 
      refine x_iload1 dX3_holdLines_2 ?_
      refine x_aload0 dX3_holdLines_3 ?_
      refine gG1 (by omega) fgX3_17 dX3_holdLines_4 ?_
      refine xV.toi (nI (nM d g)) ((by rw [hlD_ne (by decide)]; exact e12)) ?_
      refine n_icmp_ge 31 dX3_holdLines_7 (by decide) (by omega) (by omega) (fun c7 => ?_) (fun c7 => ?_)
      · refine x_vret dX3_holdLines_31 rfl ?_ (Nat.zero_le _) (Nat.zero_le _)
        exact ⟨rfl, by rw [show j = nM d g by omega]⟩
      · refine x_aload0 dX3_holdLines_10 ?_
        refine gG0 (by omega) fgX3_11 dX3_holdLines_11 ?_
        refine x_iload1 dX3_holdLines_14 ?_
        refine lGL (by omega) (j) rfl (by omega) (q := mb d g j) ((by rw [hlD_ne (by decide)]; exact (hm j (by omega)).1)) ((hm j (by omega)).2) dX3_holdLines_15 ?_
        refine x_dup dX3_holdLines_16 rfl ?_
        refine gL8 ((hm j (by omega)).2) fgX3_36 dX3_holdLines_17 ?_
        refine x_iconst (nI 1) dX3_holdLines_20 (by decide) ?_
        refine x_iadd dX3_holdLines_21 ?_
        refine pL8 ((hm j (by omega)).2) fpX3_36 dX3_holdLines_22 ?_
        refine x_iinc1 (nI (j + 1)) dX3_holdLines_25 (nI_add j 1) rfl rfl rfl ?_
        refine x_goto 2 dX3_holdLines_28 (by decide) ?_
        exact ih (j + 1) (by omega) (by omega)
  refine xK.ofV (by decide) (Nat.le_of_ble_eq_true rfl) ?_
  refine xV.lveq (L' := [some (.ref (gC g)), none]) rfl ?_
  refine x_iconst (nI 0) dX3_holdLines_0 (by decide) ?_
  refine x_istore1 dX3_holdLines_1 rfl rfl rfl ?_
  exact lp (nM d g + 1) 0 (Nat.zero_le _) (by omega)

set_option maxHeartbeats 4000000 in
theorem kd_isThere (G : vx_G) (d m : mS) (g : Nat) (hg : g < 200) (hn : d.1 14 g < 0 → d.1 14 g = -1) : xK G M_X3_isThere 0 [(.ref (gC g))] NT (hp (dk d) m) 0 0 (QI (fun r n' h' => r = bI (d.1 14 g < 0) ∧ n' = NT ∧ h' = hp (dk d) m)) := by
  refine xK.ofV (by decide) (Nat.le_of_ble_eq_true rfl) ?_
  refine xV.lveq (L' := [some (.ref (gC g))]) rfl ?_
  refine x_aload0 dX3_isThere_0 ?_
  refine gG4 (by omega) fgX3_27 dX3_isThere_1 ?_
  refine x_iconst (-1) dX3_isThere_4 (by decide) ?_
  refine x_icmp_ne 12 dX3_isThere_5 (by decide) (fun c5 => ?_) (fun c5 => ?_)
  · refine x_iconst (nI 0) dX3_isThere_12 (by decide) ?_
    refine x_zret dX3_isThere_13 rfl (by first | exact Or.inl nI_0 | exact Or.inr nI1 | exact bI_01 _) ?_ (Nat.zero_le _) (Nat.zero_le _)
    first | exact ⟨(bI_f (c := d.1 14 g < 0) (fun q => c5 (hn q))).symm, rfl, rfl⟩ | exact ⟨(bI_t (c := d.1 14 g < 0) (by rw [c5]; exact m1_lt)).symm, rfl, rfl⟩
  · refine x_iconst (nI 1) dX3_isThere_8 (by decide) ?_
    refine x_goto 13 dX3_isThere_9 (by decide) ?_
    refine x_zret dX3_isThere_13 rfl (by first | exact Or.inl nI_0 | exact Or.inr nI1 | exact bI_01 _) ?_ (Nat.zero_le _) (Nat.zero_le _)
    first | exact ⟨(bI_f (c := d.1 14 g < 0) (fun q => c5 (hn q))).symm, rfl, rfl⟩ | exact ⟨(bI_t (c := d.1 14 g < 0) (by rw [c5]; exact m1_lt)).symm, rfl, rfl⟩

set_option maxHeartbeats 4000000 in
theorem kd_isStandingOn (G : vx_G) (d m : mS) (g : Nat) (hg : g < 200) (hn : d.1 14 g < 0 → d.1 14 g = -1) (dy : Int32) : xK G M_X3_isStandingOn 0 [(.ref (gC g)), (.int dy)] NT (hp (dk d) m) 0 0 (QI (fun r n' h' => r = bI (was d g dy) ∧ n' = NT ∧ h' = hp (dk d) m)) := by
  refine xK.ofV (by decide) (Nat.le_of_ble_eq_true rfl) ?_
  refine xV.lveq (L' := [some (.ref (gC g)), some (.int dy)]) rfl ?_
  refine x_aload0 dX3_isStandingOn_0 ?_
  refine gG3 (by omega) fgX3_24 dX3_isStandingOn_1 ?_
  refine x_iload1 dX3_isStandingOn_4 ?_
  refine x_icmp_gt 28 dX3_isStandingOn_5 (by decide) (fun c5 => ?_) (fun c5 => ?_)
  · refine x_iconst (nI 0) dX3_isStandingOn_28 (by decide) ?_
    refine x_zret dX3_isStandingOn_29 rfl (by first | exact Or.inl nI_0 | exact Or.inr nI1 | exact bI_01 _) ?_ (Nat.zero_le _) (Nat.zero_le _)
    first | exact ⟨(bI_f (c := was d g dy) (fun q => absurd q.1 (iNE.mpr c5))).symm, rfl, rfl⟩ | exact ⟨(bI_t (c := was d g dy) ⟨iNL.mp c5, Or.inl (by rw [c13]; exact m1_lt)⟩).symm, rfl, rfl⟩ | exact ⟨(bI_f (c := was d g dy) (fun q => q.2.elim (fun z => c13 (hn z)) (fun z => absurd c21 (iNE.mpr z)))).symm, rfl, rfl⟩ | exact ⟨(bI_t (c := was d g dy) ⟨iNL.mp c5, Or.inr (iNE.mp c21)⟩).symm, rfl, rfl⟩
  · refine x_aload0 dX3_isStandingOn_8 ?_
    refine gG4 (by omega) fgX3_27 dX3_isStandingOn_9 ?_
    refine x_iconst (-1) dX3_isStandingOn_12 (by decide) ?_
    refine x_icmp_eq 24 dX3_isStandingOn_13 (by decide) (fun c13 => ?_) (fun c13 => ?_)
    · refine x_iconst (nI 1) dX3_isStandingOn_24 (by decide) ?_
      refine x_goto 29 dX3_isStandingOn_25 (by decide) ?_
      refine x_zret dX3_isStandingOn_29 rfl (by first | exact Or.inl nI_0 | exact Or.inr nI1 | exact bI_01 _) ?_ (Nat.zero_le _) (Nat.zero_le _)
      first | exact ⟨(bI_f (c := was d g dy) (fun q => absurd q.1 (iNE.mpr c5))).symm, rfl, rfl⟩ | exact ⟨(bI_t (c := was d g dy) ⟨iNL.mp c5, Or.inl (by rw [c13]; exact m1_lt)⟩).symm, rfl, rfl⟩ | exact ⟨(bI_f (c := was d g dy) (fun q => q.2.elim (fun z => c13 (hn z)) (fun z => absurd c21 (iNE.mpr z)))).symm, rfl, rfl⟩ | exact ⟨(bI_t (c := was d g dy) ⟨iNL.mp c5, Or.inr (iNE.mp c21)⟩).symm, rfl, rfl⟩
    · refine x_aload0 dX3_isStandingOn_16 ?_
      refine gG4 (by omega) fgX3_27 dX3_isStandingOn_17 ?_
      refine x_iload1 dX3_isStandingOn_20 ?_
      refine x_icmp_le 28 dX3_isStandingOn_21 (by decide) (fun c21 => ?_) (fun c21 => ?_)
      · refine x_iconst (nI 0) dX3_isStandingOn_28 (by decide) ?_
        refine x_zret dX3_isStandingOn_29 rfl (by first | exact Or.inl nI_0 | exact Or.inr nI1 | exact bI_01 _) ?_ (Nat.zero_le _) (Nat.zero_le _)
        first | exact ⟨(bI_f (c := was d g dy) (fun q => absurd q.1 (iNE.mpr c5))).symm, rfl, rfl⟩ | exact ⟨(bI_t (c := was d g dy) ⟨iNL.mp c5, Or.inl (by rw [c13]; exact m1_lt)⟩).symm, rfl, rfl⟩ | exact ⟨(bI_f (c := was d g dy) (fun q => q.2.elim (fun z => c13 (hn z)) (fun z => absurd c21 (iNE.mpr z)))).symm, rfl, rfl⟩ | exact ⟨(bI_t (c := was d g dy) ⟨iNL.mp c5, Or.inr (iNE.mp c21)⟩).symm, rfl, rfl⟩
      · refine x_iconst (nI 1) dX3_isStandingOn_24 (by decide) ?_
        refine x_goto 29 dX3_isStandingOn_25 (by decide) ?_
        refine x_zret dX3_isStandingOn_29 rfl (by first | exact Or.inl nI_0 | exact Or.inr nI1 | exact bI_01 _) ?_ (Nat.zero_le _) (Nat.zero_le _)
        first | exact ⟨(bI_f (c := was d g dy) (fun q => absurd q.1 (iNE.mpr c5))).symm, rfl, rfl⟩ | exact ⟨(bI_t (c := was d g dy) ⟨iNL.mp c5, Or.inl (by rw [c13]; exact m1_lt)⟩).symm, rfl, rfl⟩ | exact ⟨(bI_f (c := was d g dy) (fun q => q.2.elim (fun z => c13 (hn z)) (fun z => absurd c21 (iNE.mpr z)))).symm, rfl, rfl⟩ | exact ⟨(bI_t (c := was d g dy) ⟨iNL.mp c5, Or.inr (iNE.mp c21)⟩).symm, rfl, rfl⟩

theorem bk0 {a : Nat} (h : a < 160) : nI (a / 80) = 0 ↔ a < 80 := by
  constructor
  · intro q
    have := nI_inj (a := a / 80) (b := 0) (by omega) (by omega) (q.trans nI_0.symm)
    omega
  · intro q
    rw [show a / 80 = 0 by omega]; exact nI_0
theorem bkn {a B : Nat} (h : a < 160) (hB : B < 2) : nI (a / 80) = nI B ↔ a / 80 = B := ⟨fun q => nI_inj (by omega) (by omega) q, fun q => by rw [q]⟩

set_option maxHeartbeats 4000000 in
theorem kd_difference (G : vx_G) (d m : mS) (g : Nat) (hg : g < 200) (hb : iMb d g) : xK G M_X3_difference 0 [(.ref (gC g))] NT (hp (dk d) m) 0 0 (QI (fun r n' h' => r = zI (gDf d g) ∧ n' = NT ∧ h' = hp (dk d) m)) := by
  obtain ⟨e12, l12, hm⟩ := hb
  have lp : ∀ (n_ : Nat) (j : Nat) (s : Int32), j ≤ nM d g → nM d g + 1 ≤ j + n_ → (s = zI (fb_si (gAm d g) j)) → xV (mF G M_X3_difference 0 0 0 (QI (fun r n' h' => r = zI (gDf d g) ∧ n' = NT ∧ h' = hp (dk d) m))) 4 [some (.ref (gC g)), some (.int s), some (.int (nI (j)))] [] NT (hp (dk d) m) 0 0 := by
    intro n_
    induction n_ with
    | zero => intro j s hi_ hn_; omega
    | succ n_ ih =>
      intro j s hi_ hn_ hc
      refine x_iload2 dX3_difference_4 ?_
      refine x_aload0 dX3_difference_5 ?_
      refine gG1 (by omega) fgX3_17 dX3_difference_6 ?_
      refine xV.toi (nI (nM d g)) (e12) ?_
      refine n_icmp_ge 55 dX3_difference_9 (by decide) (by omega) (by omega) (fun c9 => ?_) (fun c9 => ?_)
      · refine x_iload1 dX3_difference_55 ?_
        refine x_iret dX3_difference_56 rfl ?_ (Nat.zero_le _) (Nat.zero_le _)
        exact ⟨by rw [hc, show j = nM d g by omega]; rfl, rfl, rfl⟩
      · refine x_iload1 dX3_difference_12 ?_
        refine x_aload0 dX3_difference_13 ?_
        refine gG0 (by omega) fgX3_11 dX3_difference_14 ?_
        refine x_iload2 dX3_difference_17 ?_
        refine lGL (by omega) (j) rfl (by omega) (q := mb d g j) ((hm j (by omega)).1) ((hm j (by omega)).2) dX3_difference_18 ?_
        refine gL0 ((hm j (by omega)).2) fgX3_47 dX3_difference_19 ?_
        refine x_if_ne 37 dX3_difference_22 (by decide) (fun c22 => ?_) (fun c22 => ?_)
        · refine x_aload0 dX3_difference_37 ?_
          refine gG0 (by omega) fgX3_11 dX3_difference_38 ?_
          refine x_iload2 dX3_difference_41 ?_
          refine lGL (by omega) (j) rfl (by omega) (q := mb d g j) ((hm j (by omega)).1) ((hm j (by omega)).2) dX3_difference_42 ?_
          refine gL2 ((hm j (by omega)).2) fgX3_50 dX3_difference_43 ?_
          refine x_ineg dX3_difference_46 ?_
          refine x_iadd dX3_difference_47 ?_
          refine x_istore1 dX3_difference_48 rfl rfl rfl ?_
          refine x_iinc2 (nI (j + 1)) dX3_difference_49 (nI_add j 1) rfl rfl rfl ?_
          refine x_goto 4 dX3_difference_52 (by decide) ?_
          first | exact ih (j + 1) _ (by omega) (by omega) (by rw [fb_si_succ, hc, zI_addv, show gAm d g j = (d.1 0 (mb d g j)).toInt from if_pos ((bk0 (hm j (by omega)).2).mp c22)]) | exact ih (j + 1) _ (by omega) (by omega) (by rw [fb_si_succ, hc, ← zI_add, show gAm d g j = -(d.1 0 (mb d g j)).toInt from if_neg (fun q => c22 ((bk0 (hm j (by omega)).2).mpr q)), ← zI_neg, ← zI_of])
        · refine x_aload0 dX3_difference_25 ?_
          refine gG0 (by omega) fgX3_11 dX3_difference_26 ?_
          refine x_iload2 dX3_difference_29 ?_
          refine lGL (by omega) (j) rfl (by omega) (q := mb d g j) ((hm j (by omega)).1) ((hm j (by omega)).2) dX3_difference_30 ?_
          refine gL2 ((hm j (by omega)).2) fgX3_50 dX3_difference_31 ?_
          refine x_goto 47 dX3_difference_34 (by decide) ?_
          refine x_iadd dX3_difference_47 ?_
          refine x_istore1 dX3_difference_48 rfl rfl rfl ?_
          refine x_iinc2 (nI (j + 1)) dX3_difference_49 (nI_add j 1) rfl rfl rfl ?_
          refine x_goto 4 dX3_difference_52 (by decide) ?_
          first | exact ih (j + 1) _ (by omega) (by omega) (by rw [fb_si_succ, hc, zI_addv, show gAm d g j = (d.1 0 (mb d g j)).toInt from if_pos ((bk0 (hm j (by omega)).2).mp c22)]) | exact ih (j + 1) _ (by omega) (by omega) (by rw [fb_si_succ, hc, ← zI_add, show gAm d g j = -(d.1 0 (mb d g j)).toInt from if_neg (fun q => c22 ((bk0 (hm j (by omega)).2).mpr q)), ← zI_neg, ← zI_of])
  refine xK.ofV (by decide) (Nat.le_of_ble_eq_true rfl) ?_
  refine xV.lveq (L' := [some (.ref (gC g)), none, none]) rfl ?_
  refine x_iconst (nI 0) dX3_difference_0 (by decide) ?_
  refine x_istore1 dX3_difference_1 rfl rfl rfl ?_
  refine x_iconst (nI 0) dX3_difference_2 (by decide) ?_
  refine x_istore2 dX3_difference_3 rfl rfl rfl ?_
  exact lp (nM d g + 1) 0 (nI 0) (Nat.zero_le _) (by omega) nI_0

set_option maxHeartbeats 4000000 in
theorem kd_isUneven (G : vx_G) (d m : mS) (g : Nat) (hg : g < 200) (hb : iMb d g) (hn : d.1 14 g < 0 → d.1 14 g = -1) : xK G M_X3_isUneven 1 [(.ref (gC g))] NT (hp (dk d) m) 0 0 (QI (fun r n' h' => r = bI (d.1 14 g < 0 ∧ ¬ zI (gDf d g) = 0) ∧ n' = NT ∧ h' = hp (dk d) m)) := by
  refine xK.ofV (by decide) (Nat.le_of_ble_eq_true rfl) ?_
  refine xV.lveq (L' := [some (.ref (gC g))]) rfl ?_
  refine x_aload0 dX3_isUneven_0 ?_
  refine x_callV0i mvX3_39 (kd_isThere G d m g hg hn) (lt_G (by omega)) (hd_G (by omega)) (xRoom.of rfl) (Nat.le_of_ble_eq_true rfl) dX3_isUneven_1 (fun r_ n_ h_ hq => ?_)
  obtain ⟨rfl, rfl, rfl⟩ := hq
  refine b_if_eq 18 dX3_isUneven_4 (by decide) (fun c4 => ?_) (fun c4 => ?_)
  · refine x_iconst (nI 0) dX3_isUneven_18 (by decide) ?_
    refine x_zret dX3_isUneven_19 rfl (by first | exact Or.inl nI_0 | exact Or.inr nI1 | exact bI_01 _) ?_ (Nat.zero_le _) (Nat.zero_le _)
    first | exact ⟨(bI_f (c := d.1 14 g < 0 ∧ ¬ zI (gDf d g) = 0) (fun q => c4 q.1)).symm, rfl, rfl⟩ | exact ⟨(bI_f (c := d.1 14 g < 0 ∧ ¬ zI (gDf d g) = 0) (fun q => q.2 c11)).symm, rfl, rfl⟩ | exact ⟨(bI_t (c := d.1 14 g < 0 ∧ ¬ zI (gDf d g) = 0) ⟨c4, c11⟩).symm, rfl, rfl⟩
  · refine x_aload0 dX3_isUneven_7 ?_
    refine x_callV0i mvX3_43 (kd_difference G d m g hg hb) (lt_G (by omega)) (hd_G (by omega)) (xRoom.of rfl) (Nat.le_of_ble_eq_true rfl) dX3_isUneven_8 (fun r_ n_ h_ hq => ?_)
    obtain ⟨rfl, rfl, rfl⟩ := hq
    refine x_if_eq 18 dX3_isUneven_11 (by decide) (fun c11 => ?_) (fun c11 => ?_)
    · refine x_iconst (nI 0) dX3_isUneven_18 (by decide) ?_
      refine x_zret dX3_isUneven_19 rfl (by first | exact Or.inl nI_0 | exact Or.inr nI1 | exact bI_01 _) ?_ (Nat.zero_le _) (Nat.zero_le _)
      first | exact ⟨(bI_f (c := d.1 14 g < 0 ∧ ¬ zI (gDf d g) = 0) (fun q => c4 q.1)).symm, rfl, rfl⟩ | exact ⟨(bI_f (c := d.1 14 g < 0 ∧ ¬ zI (gDf d g) = 0) (fun q => q.2 c11)).symm, rfl, rfl⟩ | exact ⟨(bI_t (c := d.1 14 g < 0 ∧ ¬ zI (gDf d g) = 0) ⟨c4, c11⟩).symm, rfl, rfl⟩
    · refine x_iconst (nI 1) dX3_isUneven_14 (by decide) ?_
      refine x_goto 19 dX3_isUneven_15 (by decide) ?_
      refine x_zret dX3_isUneven_19 rfl (by first | exact Or.inl nI_0 | exact Or.inr nI1 | exact bI_01 _) ?_ (Nat.zero_le _) (Nat.zero_le _)
      first | exact ⟨(bI_f (c := d.1 14 g < 0 ∧ ¬ zI (gDf d g) = 0) (fun q => c4 q.1)).symm, rfl, rfl⟩ | exact ⟨(bI_f (c := d.1 14 g < 0 ∧ ¬ zI (gDf d g) = 0) (fun q => q.2 c11)).symm, rfl, rfl⟩ | exact ⟨(bI_t (c := d.1 14 g < 0 ∧ ¬ zI (gDf d g) = 0) ⟨c4, c11⟩).symm, rfl, rfl⟩

set_option maxHeartbeats 4000000 in
theorem kd_hasWord (G : vx_G) (d m : mS) (g : Nat) (hg : g < 200) (hb : iMb d g) (B : Nat) (hB : B < 2) (w : Int32) : xK G M_X3_hasWord 0 [(.ref (gC g)), (.int (nI (B))), (.int w)] NT (hp (dk d) m) 0 0 (QI (fun r n' h' => r = bI (0 < fb_ct (wdP d g B w) (nM d g)) ∧ n' = NT ∧ h' = hp (dk d) m)) := by
  obtain ⟨e12, l12, hm⟩ := hb
  have lp : ∀ (n_ : Nat) (j : Nat), j ≤ nM d g → nM d g + 1 ≤ j + n_ → (fb_ct (wdP d g B w) j = 0) → xV (mF G M_X3_hasWord 0 0 0 (QI (fun r n' h' => r = bI (0 < fb_ct (wdP d g B w) (nM d g)) ∧ n' = NT ∧ h' = hp (dk d) m))) 2 [some (.ref (gC g)), some (.int (nI (B))), some (.int w), some (.int (nI (j)))] [] NT (hp (dk d) m) 0 0 := by
    intro n_
    induction n_ with
    | zero => intro j hi_ hn_; omega
    | succ n_ ih =>
      intro j hi_ hn_ hc
      refine x_iload3 dX3_hasWord_2 ?_
      refine x_aload0 dX3_hasWord_3 ?_
      refine gG1 (by omega) fgX3_17 dX3_hasWord_4 ?_
      refine xV.toi (nI (nM d g)) (e12) ?_
      refine n_icmp_ge 44 dX3_hasWord_7 (by decide) (by omega) (by omega) (fun c7 => ?_) (fun c7 => ?_)
      · refine x_iconst (nI 0) dX3_hasWord_44 (by decide) ?_
        refine x_zret dX3_hasWord_45 rfl (by first | exact Or.inl nI_0 | exact Or.inr nI1 | exact bI_01 _) ?_ (Nat.zero_le _) (Nat.zero_le _)
        exact ⟨nI_0.trans (bI_f (by rw [show nM d g = j by omega, hc]; exact Nat.lt_irrefl 0)).symm, rfl, rfl⟩
      · refine x_aload0 dX3_hasWord_10 ?_
        refine gG0 (by omega) fgX3_11 dX3_hasWord_11 ?_
        refine x_iload3 dX3_hasWord_14 ?_
        refine lGL (by omega) (j) rfl (by omega) (q := mb d g j) ((hm j (by omega)).1) ((hm j (by omega)).2) dX3_hasWord_15 ?_
        refine gL0 ((hm j (by omega)).2) fgX3_47 dX3_hasWord_16 ?_
        refine x_iload1 dX3_hasWord_19 ?_
        refine x_icmp_ne 38 dX3_hasWord_20 (by decide) (fun c20 => ?_) (fun c20 => ?_)
        · refine x_iinc3 (nI (j + 1)) dX3_hasWord_38 (nI_add j 1) rfl rfl rfl ?_
          refine x_goto 2 dX3_hasWord_41 (by decide) ?_
          first | exact ih (j + 1) (by omega) (by omega) (by rw [fb_ct_succ, hc, show wdP d g B w j = false from decide_eq_false (fun q => c20 ((bkn (hm j (by omega)).2 hB).mpr q.1))]; rfl) | exact ih (j + 1) (by omega) (by omega) (by rw [fb_ct_succ, hc, show wdP d g B w j = false from decide_eq_false (fun q => c33 q.2)]; rfl)
        · refine x_aload0 dX3_hasWord_23 ?_
          refine gG0 (by omega) fgX3_11 dX3_hasWord_24 ?_
          refine x_iload3 dX3_hasWord_27 ?_
          refine lGL (by omega) (j) rfl (by omega) (q := mb d g j) ((hm j (by omega)).1) ((hm j (by omega)).2) dX3_hasWord_28 ?_
          refine gL5 ((hm j (by omega)).2) fgX3_53 dX3_hasWord_29 ?_
          refine x_iload2 dX3_hasWord_32 ?_
          refine x_icmp_ne 38 dX3_hasWord_33 (by decide) (fun c33 => ?_) (fun c33 => ?_)
          · refine x_iinc3 (nI (j + 1)) dX3_hasWord_38 (nI_add j 1) rfl rfl rfl ?_
            refine x_goto 2 dX3_hasWord_41 (by decide) ?_
            first | exact ih (j + 1) (by omega) (by omega) (by rw [fb_ct_succ, hc, show wdP d g B w j = false from decide_eq_false (fun q => c20 ((bkn (hm j (by omega)).2 hB).mpr q.1))]; rfl) | exact ih (j + 1) (by omega) (by omega) (by rw [fb_ct_succ, hc, show wdP d g B w j = false from decide_eq_false (fun q => c33 q.2)]; rfl)
          · refine x_iconst (nI 1) dX3_hasWord_36 (by decide) ?_
            refine x_zret dX3_hasWord_37 rfl (by first | exact Or.inl nI_0 | exact Or.inr nI1 | exact bI_01 _) ?_ (Nat.zero_le _) (Nat.zero_le _)
            exact ⟨nI1.trans (bI_t (fb_ct_pos.mpr ⟨j, by omega, decide_eq_true ⟨(bkn (hm j (by omega)).2 hB).mp c20, c33⟩⟩)).symm, rfl, rfl⟩
  refine xK.ofV (by decide) (Nat.le_of_ble_eq_true rfl) ?_
  refine xV.lveq (L' := [some (.ref (gC g)), some (.int (nI (B))), some (.int w), none]) rfl ?_
  refine x_iconst (nI 0) dX3_hasWord_0 (by decide) ?_
  refine x_istore3 dX3_hasWord_1 rfl rfl rfl ?_
  exact lp (nM d g + 1) 0 (Nat.zero_le _) (by omega) rfl

def b0P (d : mS) (g k : Nat) : Bool := decide (mb d g k < 80)

set_option maxHeartbeats 4000000 in
theorem kd_hasBothBooks (G : vx_G) (d m : mS) (g : Nat) (hg : g < 200) (hb : iMb d g) (h0 : 0 < fb_ct (b0P d g) (nM d g)) (h1 : fb_ct (b0P d g) (nM d g) < nM d g) : xK G M_X3_hasBothBooks 0 [(.ref (gC g))] NT (hp (dk d) m) 0 0 (QI (fun r n' h' => r = 1 ∧ n' = NT ∧ h' = hp (dk d) m)) := by
  obtain ⟨e12, l12, hm⟩ := hb
  have lp : ∀ (n_ : Nat) (j : Nat) (c : Nat), j ≤ nM d g → nM d g + 1 ≤ j + n_ → (c = fb_ct (b0P d g) j) → xV (mF G M_X3_hasBothBooks 0 0 0 (QI (fun r n' h' => r = 1 ∧ n' = NT ∧ h' = hp (dk d) m))) 4 [some (.ref (gC g)), some (.int (nI (c))), some (.int (nI (j)))] [] NT (hp (dk d) m) 0 0 := by
    intro n_
    induction n_ with
    | zero => intro j c hi_ hn_; omega
    | succ n_ ih =>
      intro j c hi_ hn_ hc
      refine x_iload2 dX3_hasBothBooks_4 ?_
      refine x_aload0 dX3_hasBothBooks_5 ?_
      refine gG1 (by omega) fgX3_17 dX3_hasBothBooks_6 ?_
      refine xV.toi (nI (nM d g)) (e12) ?_
      refine n_icmp_ge 33 dX3_hasBothBooks_9 (by decide) (by omega) (by omega) (fun c9 => ?_) (fun c9 => ?_)
      · have ej : j = nM d g := by omega
        have g0 : 0 < c := by rw [hc, ej]; exact h0
        have g1 : c < nM d g := by rw [hc, ej]; exact h1
        refine x_iload1 dX3_hasBothBooks_33 ?_
        refine x_if_le 49 dX3_hasBothBooks_34 (by decide) (fun c34 => absurd c34 (nI_npos (by omega) (by omega))) (fun c34 => ?_)
        refine x_iload1 dX3_hasBothBooks_37 ?_
        refine x_aload0 dX3_hasBothBooks_38 ?_
        refine gG1 (by omega) fgX3_17 dX3_hasBothBooks_39 ?_
        refine xV.toi (nI (nM d g)) (e12) ?_
        refine n_icmp_ge 49 dX3_hasBothBooks_42 (by decide) (by omega) (by omega) (fun c42 => absurd c42 (by omega)) (fun c42 => ?_)
        refine x_iconst (nI 1) dX3_hasBothBooks_45 (by decide) ?_
        refine x_goto 50 dX3_hasBothBooks_46 (by decide) ?_
        refine x_zret dX3_hasBothBooks_50 rfl (by first | exact Or.inl nI_0 | exact Or.inr nI1 | exact bI_01 _) ?_ (Nat.zero_le _) (Nat.zero_le _)
        exact ⟨nI1, rfl, rfl⟩
      · refine x_aload0 dX3_hasBothBooks_12 ?_
        refine gG0 (by omega) fgX3_11 dX3_hasBothBooks_13 ?_
        refine x_iload2 dX3_hasBothBooks_16 ?_
        refine lGL (by omega) (j) rfl (by omega) (q := mb d g j) ((hm j (by omega)).1) ((hm j (by omega)).2) dX3_hasBothBooks_17 ?_
        refine gL0 ((hm j (by omega)).2) fgX3_47 dX3_hasBothBooks_18 ?_
        refine x_if_ne 27 dX3_hasBothBooks_21 (by decide) (fun c21 => ?_) (fun c21 => ?_)
        · refine x_iinc2 (nI (j + 1)) dX3_hasBothBooks_27 (nI_add j 1) rfl rfl rfl ?_
          refine x_goto 4 dX3_hasBothBooks_30 (by decide) ?_
          first | exact ih (j + 1) _ (by omega) (by omega) (by rw [fb_ct_succ, ← hc, show b0P d g j = true from decide_eq_true ((bk0 (hm j (by omega)).2).mp c21)]; rfl) | exact ih (j + 1) _ (by omega) (by omega) (by rw [fb_ct_succ, ← hc, show b0P d g j = false from decide_eq_false (fun q => c21 ((bk0 (hm j (by omega)).2).mpr q))]; rfl)
        · refine x_iinc1 (nI (c + 1)) dX3_hasBothBooks_24 (nI_add c 1) rfl rfl rfl ?_
          refine x_iinc2 (nI (j + 1)) dX3_hasBothBooks_27 (nI_add j 1) rfl rfl rfl ?_
          refine x_goto 4 dX3_hasBothBooks_30 (by decide) ?_
          first | exact ih (j + 1) _ (by omega) (by omega) (by rw [fb_ct_succ, ← hc, show b0P d g j = true from decide_eq_true ((bk0 (hm j (by omega)).2).mp c21)]; rfl) | exact ih (j + 1) _ (by omega) (by omega) (by rw [fb_ct_succ, ← hc, show b0P d g j = false from decide_eq_false (fun q => c21 ((bk0 (hm j (by omega)).2).mpr q))]; rfl)
  refine xK.ofV (by decide) (Nat.le_of_ble_eq_true rfl) ?_
  refine xV.lveq (L' := [some (.ref (gC g)), none, none]) rfl ?_
  refine x_iconst (nI 0) dX3_hasBothBooks_0 (by decide) ?_
  refine x_istore1 dX3_hasBothBooks_1 rfl rfl rfl ?_
  refine x_iconst (nI 0) dX3_hasBothBooks_2 (by decide) ?_
  refine x_istore2 dX3_hasBothBooks_3 rfl rfl rfl ?_
  exact lp (nM d g + 1) 0 0 (Nat.zero_le _) (by omega) rfl

def nX (d : mS) : Nat := nv (d.1 54 0)
def iX (d : mS) : Prop := d.1 54 0 = nI (nX d) ∧ nX d < 60
def puD (d : mS) (kd o w : Int32) : mS := mset (mset (mset (mset (mset d 51 (nX d) kd) 52 (nX d) o) 53 (nX d) w) 54 0 (nI ((nX d + 1) % 60))) 46 0 (nI (nA d - dOff d + 1))
def tkD (d : mS) : mS := mset (mset d 54 0 (nI ((nX d + 59) % 60))) 46 0 (nI (nA d - 1))
theorem min60 {u : Nat} (h : u ≤ 60) (m : mS) (e : u = nA m) : (if nI 60 < nI (u + 1) then nI 60 else nI (u + 1)) = nI (nA m - dOff m + 1) := by
  unfold dOff
  by_cases q : u = 60
  · subst q; rw [← e]; decide
  · rw [if_neg (fun z => by have := (nI_ltI (by omega) (by omega)).mp z; omega), ← e, if_neg q]; rfl

set_option maxHeartbeats 4000000 in
theorem kd_put (G : vx_G) (d m : mS) (hX : iX d) (hA : iA d) (kd o w : Int32) : xK G M_X0_put 1 [(.ref 167), (.int kd), (.int o), (.int w)] NT (hp (dk d) m) 0 0 (QV (fun n' h' => n' = NT ∧ h' = hp (dk (puD d kd o w)) m)) := by
  obtain ⟨eX, lX⟩ := hX
  obtain ⟨eA, lA⟩ := hA
  refine xK.ofV (by decide) (Nat.le_of_ble_eq_true rfl) ?_
  refine xV.lveq (L' := [some (.ref 167), some (.int kd), some (.int o), some (.int w)]) rfl ?_
  refine x_aload0 dX0_put_0 ?_
  refine go167_0 fgX0_9 dX0_put_1 ?_
  refine x_aload0 dX0_put_4 ?_
  refine go167_3 fgX0_21 dX0_put_5 ?_
  refine xV.toi (nI (nX d)) (eX) ?_
  refine x_iload1 dX0_put_8 ?_
  refine sa168 (nX d) rfl (by omega) dX0_put_9 ?_
  refine x_aload0 dX0_put_10 ?_
  refine go167_1 fgX0_15 dX0_put_11 ?_
  refine x_aload0 dX0_put_14 ?_
  refine go167_3 fgX0_21 dX0_put_15 ?_
  refine xV.toi (nI (nX d)) ((by rw [mset_ne (by decide)]; exact eX)) ?_
  refine x_iload2 dX0_put_18 ?_
  refine sa169 (nX d) rfl (by omega) dX0_put_19 ?_
  refine x_aload0 dX0_put_20 ?_
  refine go167_2 fgX0_18 dX0_put_21 ?_
  refine x_aload0 dX0_put_24 ?_
  refine go167_3 fgX0_21 dX0_put_25 ?_
  refine xV.toi (nI (nX d)) ((by rw [mset_ne (by decide), mset_ne (by decide)]; exact eX)) ?_
  refine x_iload3 dX0_put_28 ?_
  refine sa170 (nX d) rfl (by omega) dX0_put_29 ?_
  refine x_aload0 dX0_put_30 ?_
  refine x_aload0 dX0_put_31 ?_
  refine go167_3 fgX0_21 dX0_put_32 ?_
  refine xV.toi (nI (nX d)) ((by rw [mset_ne (by decide), mset_ne (by decide), mset_ne (by decide)]; exact eX)) ?_
  refine x_iconst (nI 1) dX0_put_35 (by decide) ?_
  refine n_iadd dX0_put_36 ?_
  refine x_bipush (nI 60) dX0_put_37 (by decide) ?_
  refine n_irem dX0_put_39 (by omega) (by omega) (by omega) ?_
  refine po167_3 fpX0_21 dX0_put_40 ?_
  refine x_aload0 dX0_put_43 ?_
  refine x_aload0 dX0_put_44 ?_
  refine go167_4 fgX0_25 dX0_put_45 ?_
  refine xV.toi (nI (nA d)) ((by rw [mset_ne (by decide), mset_ne (by decide), mset_ne (by decide), mset_ne (by decide)]; exact eA)) ?_
  refine x_iconst (nI 1) dX0_put_48 (by decide) ?_
  refine n_iadd dX0_put_49 ?_
  refine x_bipush (nI 60) dX0_put_50 (by decide) ?_
  refine x_min mmX0_28 (Nat.le_of_ble_eq_true rfl) (Nat.le_of_ble_eq_true rfl) (Nat.le_of_ble_eq_true rfl) (Nat.le_of_ble_eq_true rfl) dX0_put_52 ?_
  refine xV.toi (nI (nA d - dOff d + 1)) (min60 lA d rfl) ?_
  refine po167_4 fpX0_25 dX0_put_55 ?_
  refine x_vret dX0_put_58 rfl ?_ (Nat.zero_le _) (Nat.zero_le _)
  exact ⟨rfl, rfl⟩

set_option maxHeartbeats 4000000 in
theorem kd_takeLatest (G : vx_G) (d m : mS) (hX : iX d) (hA : iA d) (h1 : nA d ≠ 0) : xK G M_X0_takeLatest 0 [(.ref 167)] NT (hp (dk d) m) 0 0 (QI (fun r n' h' => r = nI ((nX d + 59) % 60) ∧ n' = NT ∧ h' = hp (dk (tkD d)) m)) := by
  obtain ⟨eX, lX⟩ := hX
  obtain ⟨eA, lA⟩ := hA
  refine xK.ofV (by decide) (Nat.le_of_ble_eq_true rfl) ?_
  refine xV.lveq (L' := [some (.ref 167)]) rfl ?_
  refine x_aload0 dX0_takeLatest_0 ?_
  refine x_aload0 dX0_takeLatest_1 ?_
  refine go167_3 fgX0_21 dX0_takeLatest_2 ?_
  refine xV.toi (nI (nX d)) (eX) ?_
  refine x_bipush (nI 60) dX0_takeLatest_5 (by decide) ?_
  refine n_iadd dX0_takeLatest_7 ?_
  refine x_iconst (nI 1) dX0_takeLatest_8 (by decide) ?_
  refine n_isub dX0_takeLatest_9 (by omega) ?_
  refine x_bipush (nI 60) dX0_takeLatest_10 (by decide) ?_
  refine n_irem dX0_takeLatest_12 (by omega) (by omega) (by omega) ?_
  refine xV.toi (nI ((nX d + 59) % 60)) ((by rw [show nX d + 60 - 1 = nX d + 59 by omega])) ?_
  refine po167_3 fpX0_21 dX0_takeLatest_13 ?_
  refine x_aload0 dX0_takeLatest_16 ?_
  refine x_dup dX0_takeLatest_17 rfl ?_
  refine go167_4 fgX0_25 dX0_takeLatest_18 ?_
  refine xV.toi (nI (nA d)) ((by rw [mset_ne (by decide)]; exact eA)) ?_
  refine x_iconst (nI 1) dX0_takeLatest_21 (by decide) ?_
  refine n_isub dX0_takeLatest_22 (by omega) ?_
  refine po167_4 fpX0_25 dX0_takeLatest_23 ?_
  refine x_aload0 dX0_takeLatest_26 ?_
  refine go167_3 fgX0_21 dX0_takeLatest_27 ?_
  refine xV.toi (nI ((nX d + 59) % 60)) ((by rw [mset_ne (by decide)]; exact mset_at _ _ _ _)) ?_
  refine x_iret dX0_takeLatest_30 rfl ?_ (Nat.zero_le _) (Nat.zero_le _)
  exact ⟨rfl, rfl, rfl⟩
