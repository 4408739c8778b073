/-! ===== the model's methods, 4: in, explained, wasThere, count, breaks, broken, hasWord, differenceOf ===== -/
def mb (m : mS) (g k : Nat) : Nat := nv (m.1 11 (8 * g + k))
/-- a group's list of lines -/
def iMb (m : mS) (g : Nat) : Prop := m.1 12 g = nI (nM m g) ∧ nM m g ≤ 8 ∧ ∀ k, k < nM m g → m.1 11 (8 * g + k) = nI (mb m g k) ∧ mb m g k < 160
/-- the sets found: sizes and members -/
def iSs (m : mS) : Prop := ∀ k, k < nS m → m.1 33 k = nI (nv (m.1 33 k)) ∧ nv (m.1 33 k) ≤ 4
abbrev isIn (m : mS) (k j : Int32) : Prop := isSt m k ∧ nI 0 ≤ j ∧ j < m.1 33 (nv k)

set_option maxHeartbeats 4000000 in
theorem k_in (G : vx_G) (x : vx_H) (m : mS) (hS : iS m) (hs : iSs m) (k j : Int32) : xK G M_X10_in 0 [(.ref MB), (.int k), (.int j)] NT (hp x m) 0 0 (QI (fun r n' h' => r = (if isIn m k j then m.1 34 (4 * nv k + nv j) else -1) ∧ n' = NT ∧ h' = hp x m)) := by
  refine xK.ofV (by decide) (Nat.le_of_ble_eq_true rfl) ?_
  refine xV.lveq (L' := [some (.ref MB), some (.int k), some (.int j)]) rfl ?_
  refine x_iload1 dX10_in_0 ?_
  refine x_if_lt 39 dX10_in_1 (by decide) (fun c1 => ?_) (fun c1 => ?_)
  · refine x_iconst (-1) dX10_in_39 (by decide) ?_
    refine x_iret dX10_in_40 rfl ?_ (Nat.zero_le _) (Nat.zero_le _)
    first | exact ⟨by rw [if_pos h23, eK, eJ], rfl, rfl⟩ | exact ⟨(if_neg (fun q => absurd q.2.2 (by rw [eK]; exact iNL.mpr c23))).symm, rfl, rfl⟩ | exact ⟨(if_neg (fun q => absurd q.2.1 (iNE.mpr c13))).symm, rfl, rfl⟩ | exact ⟨(if_neg (fun q => absurd q.1.2 (iNL.mpr c9))).symm, rfl, rfl⟩ | exact ⟨(if_neg (fun q => absurd q.1.1 (iNE.mpr c1))).symm, rfl, rfl⟩
  · refine x_iload1 dX10_in_4 ?_
    refine x_aload0 dX10_in_5 ?_
    refine gm35 fgX10_195 dX10_in_6 ?_
    refine x_icmp_ge 39 dX10_in_9 (by decide) (fun c9 => ?_) (fun c9 => ?_)
    · refine x_iconst (-1) dX10_in_39 (by decide) ?_
      refine x_iret dX10_in_40 rfl ?_ (Nat.zero_le _) (Nat.zero_le _)
      first | exact ⟨by rw [if_pos h23, eK, eJ], rfl, rfl⟩ | exact ⟨(if_neg (fun q => absurd q.2.2 (by rw [eK]; exact iNL.mpr c23))).symm, rfl, rfl⟩ | exact ⟨(if_neg (fun q => absurd q.2.1 (iNE.mpr c13))).symm, rfl, rfl⟩ | exact ⟨(if_neg (fun q => absurd q.1.2 (iNL.mpr c9))).symm, rfl, rfl⟩ | exact ⟨(if_neg (fun q => absurd q.1.1 (iNE.mpr c1))).symm, rfl, rfl⟩
    · have h9 : isSt m k := ⟨iNL.mp c1, iNE.mp c9⟩
      obtain ⟨K, hK, rfl⟩ := isSt_nat hS h9
      have h5 := hS.2
      have eK : nv (nI K) = K := nv_nI (by omega)
      obtain ⟨e3, l3⟩ := hs K hK
      refine x_iload2 dX10_in_12 ?_
      refine x_if_lt 39 dX10_in_13 (by decide) (fun c13 => ?_) (fun c13 => ?_)
      · refine x_iconst (-1) dX10_in_39 (by decide) ?_
        refine x_iret dX10_in_40 rfl ?_ (Nat.zero_le _) (Nat.zero_le _)
        first | exact ⟨by rw [if_pos h23, eK, eJ], rfl, rfl⟩ | exact ⟨(if_neg (fun q => absurd q.2.2 (by rw [eK]; exact iNL.mpr c23))).symm, rfl, rfl⟩ | exact ⟨(if_neg (fun q => absurd q.2.1 (iNE.mpr c13))).symm, rfl, rfl⟩ | exact ⟨(if_neg (fun q => absurd q.1.2 (iNL.mpr c9))).symm, rfl, rfl⟩ | exact ⟨(if_neg (fun q => absurd q.1.1 (iNE.mpr c1))).symm, rfl, rfl⟩
      · refine x_iload2 dX10_in_16 ?_
        refine x_aload0 dX10_in_17 ?_
        refine gm33 fgX10_82 dX10_in_18 ?_
        refine x_iload1 dX10_in_21 ?_
        refine lm33 (K) rfl (by omega) dX10_in_22 ?_
        refine x_icmp_ge 39 dX10_in_23 (by decide) (fun c23 => ?_) (fun c23 => ?_)
        · refine x_iconst (-1) dX10_in_39 (by decide) ?_
          refine x_iret dX10_in_40 rfl ?_ (Nat.zero_le _) (Nat.zero_le _)
          first | exact ⟨by rw [if_pos h23, eK, eJ], rfl, rfl⟩ | exact ⟨(if_neg (fun q => absurd q.2.2 (by rw [eK]; exact iNL.mpr c23))).symm, rfl, rfl⟩ | exact ⟨(if_neg (fun q => absurd q.2.1 (iNE.mpr c13))).symm, rfl, rfl⟩ | exact ⟨(if_neg (fun q => absurd q.1.2 (iNL.mpr c9))).symm, rfl, rfl⟩ | exact ⟨(if_neg (fun q => absurd q.1.1 (iNE.mpr c1))).symm, rfl, rfl⟩
        · have h23 : isIn m (nI K) j := ⟨h9, iNL.mp c13, by rw [eK]; exact iNE.mp c23⟩
          have q23 := iNE.mp c23
          rw [e3] at q23
          obtain ⟨J, hJ, rfl⟩ := w_nat (n := nv (m.1 33 K)) ⟨iNL.mp c13, Int32.le_of_lt q23⟩ (by omega)
          have lJ := (nI_ltI (by omega) (by omega)).mp q23
          have eJ : nv (nI J) = J := nv_nI (by omega)
          refine x_aload0 dX10_in_26 ?_
          refine gm34 fgX10_85 dX10_in_27 ?_
          refine x_iconst (nI 4) dX10_in_30 (by decide) ?_
          refine x_iload1 dX10_in_31 ?_
          refine n_imul dX10_in_32 ?_
          refine x_iload2 dX10_in_33 ?_
          refine n_iadd dX10_in_34 ?_
          refine lm34 ((4 * K) + J) rfl (by omega) dX10_in_35 ?_
          refine x_goto 40 dX10_in_36 (by decide) ?_
          refine x_iret dX10_in_40 rfl ?_ (Nat.zero_le _) (Nat.zero_le _)
          first | exact ⟨by rw [if_pos h23, eK, eJ], rfl, rfl⟩ | exact ⟨(if_neg (fun q => absurd q.2.2 (by rw [eK]; exact iNL.mpr c23))).symm, rfl, rfl⟩ | exact ⟨(if_neg (fun q => absurd q.2.1 (iNE.mpr c13))).symm, rfl, rfl⟩ | exact ⟨(if_neg (fun q => absurd q.1.2 (iNL.mpr c9))).symm, rfl, rfl⟩ | exact ⟨(if_neg (fun q => absurd q.1.1 (iNE.mpr c1))).symm, rfl, rfl⟩

def nE (m : mS) : Nat := nv (m.1 42 0)
def iE (m : mS) : Prop := m.1 42 0 = nI (nE m) ∧ nE m ≤ 18
abbrev isEx (m : mS) (j w : Int32) : Prop := (nI 0 ≤ j ∧ j < m.1 42 0) ∧ nI 0 ≤ w ∧ w ≤ nI 1

set_option maxHeartbeats 4000000 in
theorem k_explained (G : vx_G) (x : vx_H) (m : mS) (hE : iE m) (j w : Int32) : xK G M_X10_explained 1 [(.ref MB), (.int j), (.int w)] NT (hp x m) 0 0 (QI (fun r n' h' => r = (if isEx m j w then (if w = 0 then m.1 40 (nv j) else m.1 41 (nv j)) else -1) ∧ n' = NT ∧ h' = hp x m)) := by
  refine xK.ofV (by decide) (Nat.le_of_ble_eq_true rfl) ?_
  refine xV.lveq (L' := [some (.ref MB), some (.int j), some (.int w)]) rfl ?_
  refine x_iload1 dX10_explained_0 ?_
  refine x_if_lt 21 dX10_explained_1 (by decide) (fun c1 => ?_) (fun c1 => ?_)
  · refine x_iconst (-1) dX10_explained_21 (by decide) ?_
    refine x_iret dX10_explained_22 rfl ?_ (Nat.zero_le _) (Nat.zero_le _)
    first | exact ⟨(if_neg (fun q => c18 q.2)).symm, rfl, rfl⟩ | exact ⟨(if_neg (fun q => absurd q.1.2 (iNL.mpr c9))).symm, rfl, rfl⟩ | exact ⟨(if_neg (fun q => absurd q.1.1 (iNE.mpr c1))).symm, rfl, rfl⟩
  · refine x_iload1 dX10_explained_4 ?_
    refine x_aload0 dX10_explained_5 ?_
    refine gm42 fgX10_232 dX10_explained_6 ?_
    refine x_icmp_ge 21 dX10_explained_9 (by decide) (fun c9 => ?_) (fun c9 => ?_)
    · refine x_iconst (-1) dX10_explained_21 (by decide) ?_
      refine x_iret dX10_explained_22 rfl ?_ (Nat.zero_le _) (Nat.zero_le _)
      first | exact ⟨(if_neg (fun q => c18 q.2)).symm, rfl, rfl⟩ | exact ⟨(if_neg (fun q => absurd q.1.2 (iNL.mpr c9))).symm, rfl, rfl⟩ | exact ⟨(if_neg (fun q => absurd q.1.1 (iNE.mpr c1))).symm, rfl, rfl⟩
    · have h9 := iNE.mp c9
      have h8 := h9
      rw [hE.1] at h9
      have h5 := hE.2
      obtain ⟨J, hJ, rfl⟩ := w_nat (n := nE m) ⟨iNL.mp c1, Int32.le_of_lt h9⟩ (by omega)
      have lJ := (nI_ltI (by omega) (by omega)).mp h9
      have eJ : nv (nI J) = J := nv_nI (by omega)
      refine x_iload2 dX10_explained_12 ?_
      refine x_iconst (nI 0) dX10_explained_13 (by decide) ?_
      refine x_iconst (nI 1) dX10_explained_14 (by decide) ?_
      refine x_callS3i msX10_116 (k_within G w (nI 0) (nI 1)) (xRoom.of rfl) (by decide) dX10_explained_15 (fun r_ n_ h_ hq => ?_)
      obtain ⟨rfl, rfl, rfl⟩ := hq
      refine b_if_ne 23 dX10_explained_18 (by decide) (fun c18 => ?_) (fun c18 => ?_)
      · refine x_iload2 dX10_explained_23 ?_
        refine x_if_ne 36 dX10_explained_24 (by decide) (fun c24 => ?_) (fun c24 => ?_)
        · refine x_aload0 dX10_explained_36 ?_
          refine gm41 fgX10_104 dX10_explained_37 ?_
          refine x_iload1 dX10_explained_40 ?_
          refine lm41 (J) rfl (by omega) dX10_explained_41 ?_
          refine x_iret dX10_explained_42 rfl ?_ (Nat.zero_le _) (Nat.zero_le _)
          first | exact ⟨by rw [if_pos ⟨⟨iNL.mp c1, h8⟩, c18⟩, if_pos c24, eJ], rfl, rfl⟩ | exact ⟨by rw [if_pos ⟨⟨iNL.mp c1, h8⟩, c18⟩, if_neg c24, eJ], rfl, rfl⟩
        · refine x_aload0 dX10_explained_27 ?_
          refine gm40 fgX10_101 dX10_explained_28 ?_
          refine x_iload1 dX10_explained_31 ?_
          refine lm40 (J) rfl (by omega) dX10_explained_32 ?_
          refine x_goto 42 dX10_explained_33 (by decide) ?_
          refine x_iret dX10_explained_42 rfl ?_ (Nat.zero_le _) (Nat.zero_le _)
          first | exact ⟨by rw [if_pos ⟨⟨iNL.mp c1, h8⟩, c18⟩, if_pos c24, eJ], rfl, rfl⟩ | exact ⟨by rw [if_pos ⟨⟨iNL.mp c1, h8⟩, c18⟩, if_neg c24, eJ], rfl, rfl⟩
      · refine x_iconst (-1) dX10_explained_21 (by decide) ?_
        refine x_iret dX10_explained_22 rfl ?_ (Nat.zero_le _) (Nat.zero_le _)
        first | exact ⟨(if_neg (fun q => c18 q.2)).symm, rfl, rfl⟩ | exact ⟨(if_neg (fun q => absurd q.1.2 (iNL.mpr c9))).symm, rfl, rfl⟩ | exact ⟨(if_neg (fun q => absurd q.1.1 (iNE.mpr c1))).symm, rfl, rfl⟩

abbrev was (m : mS) (g : Nat) (d : Int32) : Prop := m.1 13 g ≤ d ∧ (m.1 14 g < 0 ∨ d < m.1 14 g)

set_option maxHeartbeats 4000000 in
theorem k_wasThere (G : vx_G) (x : vx_H) (m : mS) (g : Nat) (hg : g < 200) (d : Int32) : xK G M_X10_wasThere 0 [(.ref MB), (.int (nI (g))), (.int d)] NT (hp x m) 0 0 (QI (fun r n' h' => r = bI (was m g d) ∧ n' = NT ∧ h' = hp x m)) := by
  refine xK.ofV (by decide) (Nat.le_of_ble_eq_true rfl) ?_
  refine xV.lveq (L' := [some (.ref MB), some (.int (nI (g))), some (.int d)]) rfl ?_
  refine x_aload0 dX10_wasThere_0 ?_
  refine gm13 fgX10_44 dX10_wasThere_1 ?_
  refine x_iload1 dX10_wasThere_4 ?_
  refine lm13 (g) rfl (by omega) dX10_wasThere_5 ?_
  refine x_iload2 dX10_wasThere_6 ?_
  refine x_icmp_gt 33 dX10_wasThere_7 (by decide) (fun c7 => ?_) (fun c7 => ?_)
  · refine x_iconst (nI 0) dX10_wasThere_33 (by decide) ?_
    refine x_zret dX10_wasThere_34 rfl (by first | exact Or.inl nI_0 | exact Or.inr nI1 | exact bI_01 _) ?_ (Nat.zero_le _) (Nat.zero_le _)
    first | exact ⟨(bI_f (c := was m g d) (fun q => absurd q.1 (iNE.mpr c7))).symm, rfl, rfl⟩ | exact ⟨(bI_t (c := was m g d) ⟨iNL.mp c7, Or.inl c16⟩).symm, rfl, rfl⟩ | exact ⟨(bI_t (c := was m g d) ⟨iNL.mp c7, Or.inr (iNE.mp c26)⟩).symm, rfl, rfl⟩ | exact ⟨(bI_f (c := was m g d) (fun q => Or.elim q.2 c16 (iNL.mpr c26))).symm, rfl, rfl⟩
  · refine x_aload0 dX10_wasThere_10 ?_
    refine gm14 fgX10_47 dX10_wasThere_11 ?_
    refine x_iload1 dX10_wasThere_14 ?_
    refine lm14 (g) rfl (by omega) dX10_wasThere_15 ?_
    refine x_if_lt 29 dX10_wasThere_16 (by decide) (fun c16 => ?_) (fun c16 => ?_)
    · refine x_iconst (nI 1) dX10_wasThere_29 (by decide) ?_
      refine x_goto 34 dX10_wasThere_30 (by decide) ?_
      refine x_zret dX10_wasThere_34 rfl (by first | exact Or.inl nI_0 | exact Or.inr nI1 | exact bI_01 _) ?_ (Nat.zero_le _) (Nat.zero_le _)
      first | exact ⟨(bI_f (c := was m g d) (fun q => absurd q.1 (iNE.mpr c7))).symm, rfl, rfl⟩ | exact ⟨(bI_t (c := was m g d) ⟨iNL.mp c7, Or.inl c16⟩).symm, rfl, rfl⟩ | exact ⟨(bI_t (c := was m g d) ⟨iNL.mp c7, Or.inr (iNE.mp c26)⟩).symm, rfl, rfl⟩ | exact ⟨(bI_f (c := was m g d) (fun q => Or.elim q.2 c16 (iNL.mpr c26))).symm, rfl, rfl⟩
    · refine x_aload0 dX10_wasThere_19 ?_
      refine gm14 fgX10_47 dX10_wasThere_20 ?_
      refine x_iload1 dX10_wasThere_23 ?_
      refine lm14 (g) rfl (by omega) dX10_wasThere_24 ?_
      refine x_iload2 dX10_wasThere_25 ?_
      refine x_icmp_le 33 dX10_wasThere_26 (by decide) (fun c26 => ?_) (fun c26 => ?_)
      · refine x_iconst (nI 0) dX10_wasThere_33 (by decide) ?_
        refine x_zret dX10_wasThere_34 rfl (by first | exact Or.inl nI_0 | exact Or.inr nI1 | exact bI_01 _) ?_ (Nat.zero_le _) (Nat.zero_le _)
        first | exact ⟨(bI_f (c := was m g d) (fun q => absurd q.1 (iNE.mpr c7))).symm, rfl, rfl⟩ | exact ⟨(bI_t (c := was m g d) ⟨iNL.mp c7, Or.inl c16⟩).symm, rfl, rfl⟩ | exact ⟨(bI_t (c := was m g d) ⟨iNL.mp c7, Or.inr (iNE.mp c26)⟩).symm, rfl, rfl⟩ | exact ⟨(bI_f (c := was m g d) (fun q => Or.elim q.2 c16 (iNL.mpr c26))).symm, rfl, rfl⟩
      · refine x_iconst (nI 1) dX10_wasThere_29 (by decide) ?_
        refine x_goto 34 dX10_wasThere_30 (by decide) ?_
        refine x_zret dX10_wasThere_34 rfl (by first | exact Or.inl nI_0 | exact Or.inr nI1 | exact bI_01 _) ?_ (Nat.zero_le _) (Nat.zero_le _)
        first | exact ⟨(bI_f (c := was m g d) (fun q => absurd q.1 (iNE.mpr c7))).symm, rfl, rfl⟩ | exact ⟨(bI_t (c := was m g d) ⟨iNL.mp c7, Or.inl c16⟩).symm, rfl, rfl⟩ | exact ⟨(bI_t (c := was m g d) ⟨iNL.mp c7, Or.inr (iNE.mp c26)⟩).symm, rfl, rfl⟩ | exact ⟨(bI_f (c := was m g d) (fun q => Or.elim q.2 c16 (iNL.mpr c26))).symm, rfl, rfl⟩

def thG (m : mS) (g : Nat) : Bool := decide (m.1 14 g < 0)
def nTh (m : mS) : Nat := fb_ct (thG m) (nG m)
def cntV (m : mS) (w : Int32) : Int32 := if w = 0 then m.1 6 0 else if w = 1 then m.1 6 1 else if w = 2 then m.1 16 0 else if w = 3 then nI (nTh m) else if w = 4 then m.1 46 0 else if w = 5 then m.1 7 0 else -1

set_option maxHeartbeats 4000000 in
theorem k_count (G : vx_G) (x : vx_H) (m : mS) (hG : iG m) (w : Int32) : xK G M_X10_count 0 [(.ref MB), (.int w)] NT (hp x m) 0 0 (QI (fun r n' h' => r = cntV m w ∧ n' = NT ∧ h' = hp x m)) := by
  have hG2 := hG.2
  have lp : ∀ (n_ : Nat) (i c : Nat), i ≤ nG m → nG m + 1 ≤ i + n_ → (c = fb_ct (thG m) i) → (¬ w = 0) → (¬ w = 1) → (¬ w = 2) → (w = 3) → xV (mF G M_X10_count 0 0 0 (QI (fun r n' h' => r = cntV m w ∧ n' = NT ∧ h' = hp x m))) 54 [some (.ref MB), some (.int w), some (.int (nI (c))), some (.int (nI (i)))] [] NT (hp x m) 0 0 := by
    intro n_
    induction n_ with
    | zero => intro i c hi_ hn_; omega
    | succ n_ ih =>
      intro i c hi_ hn_ hc cs0 cs1 cs2 cs3
      refine x_iload3 dX10_count_54 ?_
      refine x_aload0 dX10_count_55 ?_
      refine gm16 fgX10_120 dX10_count_56 ?_
      refine xV.toi (nI (nG m)) (hG.1) ?_
      refine n_icmp_ge 85 dX10_count_59 (by decide) (by omega) (by omega) (fun c59 => ?_) (fun c59 => ?_)
      · refine x_iload2 dX10_count_85 ?_
        refine x_iret dX10_count_86 rfl ?_ (Nat.zero_le _) (Nat.zero_le _)
        refine ⟨?_, rfl, rfl⟩
        unfold cntV
        rw [if_neg cs0, if_neg cs1, if_neg cs2, if_pos cs3, hc, show i = nG m by omega]
        rfl
      · refine x_iload2 dX10_count_62 ?_
        refine x_aload0 dX10_count_63 ?_
        refine gm14 fgX10_47 dX10_count_64 ?_
        refine x_iload3 dX10_count_67 ?_
        refine lm14 (i) rfl (by omega) dX10_count_68 ?_
        refine x_if_ge 76 dX10_count_69 (by decide) (fun c69 => ?_) (fun c69 => ?_)
        · refine x_iconst (nI 0) dX10_count_76 (by decide) ?_
          refine n_iadd dX10_count_77 ?_
          refine x_istore2 dX10_count_78 rfl rfl rfl ?_
          refine x_iinc3 (nI (i + 1)) dX10_count_79 (nI_add i 1) rfl rfl rfl ?_
          refine x_goto 54 dX10_count_82 (by decide) ?_
          exact ih (i + 1) _ (by omega) (by omega) (by rw [fb_ct_succ, ← hc]; first | simp [thG, iNE.mp c69] | simp [thG, iNL.mpr c69]) cs0 cs1 cs2 cs3
        · refine x_iconst (nI 1) dX10_count_72 (by decide) ?_
          refine x_goto 77 dX10_count_73 (by decide) ?_
          refine n_iadd dX10_count_77 ?_
          refine x_istore2 dX10_count_78 rfl rfl rfl ?_
          refine x_iinc3 (nI (i + 1)) dX10_count_79 (nI_add i 1) rfl rfl rfl ?_
          refine x_goto 54 dX10_count_82 (by decide) ?_
          exact ih (i + 1) _ (by omega) (by omega) (by rw [fb_ct_succ, ← hc]; first | simp [thG, iNE.mp c69] | simp [thG, iNL.mpr c69]) cs0 cs1 cs2 cs3
  refine xK.ofV (by decide) (Nat.le_of_ble_eq_true rfl) ?_
  refine xV.lveq (L' := [some (.ref MB), some (.int w), none, none]) rfl ?_
  refine x_iconst (nI 0) dX10_count_0 (by decide) ?_
  refine x_istore2 dX10_count_1 rfl rfl rfl ?_
  refine x_iload1 dX10_count_2 ?_
  by_cases cs0 : w = 0
  · refine x_tableIn 40 dX10_count_3 (by rw [cs0]; decide) (by rw [cs0]; decide) (off := 37) (by rw [cs0]; decide) (by decide) ?_
    refine x_aload0 dX10_count_40 ?_
    refine gm6 fgX10_28 dX10_count_41 ?_
    refine x_iload1 dX10_count_44 ?_
    refine lm6 (nv w) (by first | (rw [cs0]; decide) | (rw [cs1]; decide)) (by first | (rw [cs0]; decide) | (rw [cs1]; decide)) dX10_count_45 ?_
    refine x_iret dX10_count_46 rfl ?_ (Nat.zero_le _) (Nat.zero_le _)
    refine ⟨?_, rfl, rfl⟩
    unfold cntV
    first | (simp [*]; done) | (simp [*, show nv 0 = 0 by decide, show nv 1 = 1 by decide]; done)
  by_cases cs1 : w = 1
  · refine x_tableIn 40 dX10_count_3 (by rw [cs1]; decide) (by rw [cs1]; decide) (off := 37) (by rw [cs1]; decide) (by decide) ?_
    refine x_aload0 dX10_count_40 ?_
    refine gm6 fgX10_28 dX10_count_41 ?_
    refine x_iload1 dX10_count_44 ?_
    refine lm6 (nv w) (by first | (rw [cs0]; decide) | (rw [cs1]; decide)) (by first | (rw [cs0]; decide) | (rw [cs1]; decide)) dX10_count_45 ?_
    refine x_iret dX10_count_46 rfl ?_ (Nat.zero_le _) (Nat.zero_le _)
    refine ⟨?_, rfl, rfl⟩
    unfold cntV
    first | (simp [*]; done) | (simp [*, show nv 0 = 0 by decide, show nv 1 = 1 by decide]; done)
  by_cases cs2 : w = 2
  · refine x_tableIn 47 dX10_count_3 (by rw [cs2]; decide) (by rw [cs2]; decide) (off := 44) (by rw [cs2]; decide) (by decide) ?_
    refine x_aload0 dX10_count_47 ?_
    refine gm16 fgX10_120 dX10_count_48 ?_
    refine x_iret dX10_count_51 rfl ?_ (Nat.zero_le _) (Nat.zero_le _)
    refine ⟨?_, rfl, rfl⟩
    unfold cntV
    first | (simp [*]; done) | (simp [*, show nv 0 = 0 by decide, show nv 1 = 1 by decide]; done)
  by_cases cs3 : w = 3
  · refine x_tableIn 52 dX10_count_3 (by rw [cs3]; decide) (by rw [cs3]; decide) (off := 49) (by rw [cs3]; decide) (by decide) ?_
    refine x_iconst (nI 0) dX10_count_52 (by decide) ?_
    refine x_istore3 dX10_count_53 rfl rfl rfl ?_
    exact lp (nG m + 1) 0 0 (Nat.zero_le _) (by omega) rfl cs0 cs1 cs2 cs3
  by_cases cs4 : w = 4
  · refine x_tableIn 87 dX10_count_3 (by rw [cs4]; decide) (by rw [cs4]; decide) (off := 84) (by rw [cs4]; decide) (by decide) ?_
    refine x_aload0 dX10_count_87 ?_
    refine gm46 fgX10_130 dX10_count_88 ?_
    refine x_iret dX10_count_91 rfl ?_ (Nat.zero_le _) (Nat.zero_le _)
    refine ⟨?_, rfl, rfl⟩
    unfold cntV
    first | (simp [*]; done) | (simp [*, show nv 0 = 0 by decide, show nv 1 = 1 by decide]; done)
  by_cases cs5 : w = 5
  · refine x_tableIn 92 dX10_count_3 (by rw [cs5]; decide) (by rw [cs5]; decide) (off := 89) (by rw [cs5]; decide) (by decide) ?_
    refine x_aload0 dX10_count_92 ?_
    refine gm7 fgX10_136 dX10_count_93 ?_
    refine x_iret dX10_count_96 rfl ?_ (Nat.zero_le _) (Nat.zero_le _)
    refine ⟨?_, rfl, rfl⟩
    unfold cntV
    first | (simp [*]; done) | (simp [*, show nv 0 = 0 by decide, show nv 1 = 1 by decide]; done)
  refine x_tableOut 97 dX10_count_3 (sw_out 6 (by decide) (fun k hk => by rcases (show k = 0 ∨ k = 1 ∨ k = 2 ∨ k = 3 ∨ k = 4 ∨ k = 5 by omega) with rfl | rfl | rfl | rfl | rfl | rfl <;> assumption)) (by decide) ?_
  refine x_iconst (-1) dX10_count_97 (by decide) ?_
  refine x_iret dX10_count_98 rfl ?_ (Nat.zero_le _) (Nat.zero_le _)
  refine ⟨?_, rfl, rfl⟩
  unfold cntV
  first | (simp [*]; done) | (simp [*, show nv 0 = 0 by decide, show nv 1 = 1 by decide]; done)

def brB (m : mS) (B i : Nat) : Bool := decide (m.1 5 (80 * B + i) < 0)
def brA (m : mS) (B : Nat) (a : Int32) (i : Nat) : Bool := decide (m.1 5 (80 * B + i) < 0 ∧ a ≤ m.1 7 0 - m.1 4 (80 * B + i))

set_option maxHeartbeats 4000000 in
theorem k_breaks (G : vx_G) (x : vx_H) (m : mS) (hL : iL m) (b a : Int32) : xK G M_X10_breaks 1 [(.ref MB), (.int b), (.int a)] NT (hp x m) 0 0 (QI (fun r n' h' => r = (if (nI 0 ≤ b ∧ b ≤ nI 1) ∧ 0 ≤ a then nI (fb_ct (brA m (nv b) a) (nL m (nv b))) else -1) ∧ n' = NT ∧ h' = hp x m)) := by
  have lp : ∀ (B : Nat), (b = nI B) → (B ≤ 1) → (nI 0 ≤ nI B ∧ nI B ≤ nI 1) → (0 ≤ a) → (m.1 6 B = nI (nL m B)) → (nL m B ≤ 80) → (nv (nI B) = B) → ∀ (n_ : Nat) (i c : Nat), i ≤ nL m B → nL m B + 1 ≤ i + n_ → (c = fb_ct (brA m B a) i) → xV (mF G M_X10_breaks 1 0 0 (QI (fun r n' h' => r = (if (nI 0 ≤ b ∧ b ≤ nI 1) ∧ 0 ≤ a then nI (fb_ct (brA m (nv b) a) (nL m (nv b))) else -1) ∧ n' = NT ∧ h' = hp x m))) 20 [some (.ref MB), some (.int (nI (B))), some (.int a), some (.int (nI (c))), some (.int (nI (i))), none] [] NT (hp x m) 0 0 := by
    intro B eb hB hb c10 e6 l6 eB
    subst eb
    intro n_
    induction n_ with
    | zero => intro i c hi_ hn_; omega
    | succ n_ ih =>
      intro i c hi_ hn_ hc
      refine x_iload4 dX10_breaks_20 ?_
      refine x_aload0 dX10_breaks_22 ?_
      refine gm6 fgX10_28 dX10_breaks_23 ?_
      refine x_iload1 dX10_breaks_26 ?_
      refine lm6 (B) rfl (by omega) dX10_breaks_27 ?_
      refine xV.toi (nI (nL m B)) (e6) ?_
      refine n_icmp_ge 80 dX10_breaks_28 (by decide) (by omega) (by omega) (fun c28 => ?_) (fun c28 => ?_)
      · refine x_iload3 dX10_breaks_80 ?_
        refine x_iret dX10_breaks_81 rfl ?_ (Nat.zero_le _) (Nat.zero_le _)
        refine ⟨?_, rfl, rfl⟩
        rw [if_pos ⟨hb, c10⟩, hc, eB, show i = nL m B by omega]
      · refine x_bipush (nI 80) dX10_breaks_31 (by decide) ?_
        refine x_iload1 dX10_breaks_33 ?_
        refine n_imul dX10_breaks_34 ?_
        refine x_iload4 dX10_breaks_35 ?_
        refine n_iadd dX10_breaks_37 ?_
        refine x_istore5 dX10_breaks_38 rfl rfl rfl ?_
        refine x_iload3 dX10_breaks_40 ?_
        refine x_aload0 dX10_breaks_41 ?_
        refine gm5 fgX10_25 dX10_breaks_42 ?_
        refine x_iload5 dX10_breaks_45 ?_
        refine lm5 ((80 * B) + i) rfl (by omega) dX10_breaks_47 ?_
        refine x_if_ge 71 dX10_breaks_48 (by decide) (fun c48 => ?_) (fun c48 => ?_)
        · refine x_iconst (nI 0) dX10_breaks_71 (by decide) ?_
          refine n_iadd dX10_breaks_72 ?_
          refine x_istore3 dX10_breaks_73 rfl rfl rfl ?_
          refine x_iinc4 (nI (i + 1)) dX10_breaks_74 (nI_add i 1) rfl rfl rfl ?_
          refine x_goto 20 dX10_breaks_77 (by decide) ?_
          refine xV.lvle (L' := [some (.ref _), some (.int _), some (.int _), some (.int _), some (.int _), none]) ⟨rfl, rfl, rfl, rfl, rfl, trivial⟩ ?_
          exact ih (i + 1) _ (by omega) (by omega) (by rw [fb_ct_succ, ← hc]; first | simp [brA, iNL.mpr c48] | simp [brA, iNE.mp c48, iNE.mpr c64] | simp [brA, iNE.mp c48, iNL.mp c64])
        · refine x_aload0 dX10_breaks_51 ?_
          refine gm7 fgX10_136 dX10_breaks_52 ?_
          refine x_aload0 dX10_breaks_55 ?_
          refine gm4 fgX10_22 dX10_breaks_56 ?_
          refine x_iload5 dX10_breaks_59 ?_
          refine lm4 ((80 * B) + i) rfl (by omega) dX10_breaks_61 ?_
          refine x_isub dX10_breaks_62 ?_
          refine x_iload2 dX10_breaks_63 ?_
          refine x_icmp_lt 71 dX10_breaks_64 (by decide) (fun c64 => ?_) (fun c64 => ?_)
          · refine x_iconst (nI 0) dX10_breaks_71 (by decide) ?_
            refine n_iadd dX10_breaks_72 ?_
            refine x_istore3 dX10_breaks_73 rfl rfl rfl ?_
            refine x_iinc4 (nI (i + 1)) dX10_breaks_74 (nI_add i 1) rfl rfl rfl ?_
            refine x_goto 20 dX10_breaks_77 (by decide) ?_
            refine xV.lvle (L' := [some (.ref _), some (.int _), some (.int _), some (.int _), some (.int _), none]) ⟨rfl, rfl, rfl, rfl, rfl, trivial⟩ ?_
            exact ih (i + 1) _ (by omega) (by omega) (by rw [fb_ct_succ, ← hc]; first | simp [brA, iNL.mpr c48] | simp [brA, iNE.mp c48, iNE.mpr c64] | simp [brA, iNE.mp c48, iNL.mp c64])
          · refine x_iconst (nI 1) dX10_breaks_67 (by decide) ?_
            refine x_goto 72 dX10_breaks_68 (by decide) ?_
            refine n_iadd dX10_breaks_72 ?_
            refine x_istore3 dX10_breaks_73 rfl rfl rfl ?_
            refine x_iinc4 (nI (i + 1)) dX10_breaks_74 (nI_add i 1) rfl rfl rfl ?_
            refine x_goto 20 dX10_breaks_77 (by decide) ?_
            refine xV.lvle (L' := [some (.ref _), some (.int _), some (.int _), some (.int _), some (.int _), none]) ⟨rfl, rfl, rfl, rfl, rfl, trivial⟩ ?_
            exact ih (i + 1) _ (by omega) (by omega) (by rw [fb_ct_succ, ← hc]; first | simp [brA, iNL.mpr c48] | simp [brA, iNE.mp c48, iNE.mpr c64] | simp [brA, iNE.mp c48, iNL.mp c64])
  refine xK.ofV (by decide) (Nat.le_of_ble_eq_true rfl) ?_
  refine xV.lveq (L' := [some (.ref MB), some (.int b), some (.int a), none, none, none]) rfl ?_
  refine x_iload1 dX10_breaks_0 ?_
  refine x_iconst (nI 0) dX10_breaks_1 (by decide) ?_
  refine x_iconst (nI 1) dX10_breaks_2 (by decide) ?_
  refine x_callS3i msX10_116 (k_within G b (nI 0) (nI 1)) (xRoom.of rfl) (by decide) dX10_breaks_3 (fun r_ n_ h_ hq => ?_)
  obtain ⟨rfl, rfl, rfl⟩ := hq
  refine b_if_eq 13 dX10_breaks_6 (by decide) (fun c6 => ?_) (fun c6 => ?_)
  · refine x_iconst (-1) dX10_breaks_13 (by decide) ?_
    refine x_iret dX10_breaks_14 rfl ?_ (Nat.zero_le _) (Nat.zero_le _)
    first | exact ⟨(if_neg (fun q => c6 q.1)).symm, rfl, rfl⟩ | exact ⟨(if_neg (fun q => c10 q.2)).symm, rfl, rfl⟩
  · have hb := c6
    obtain ⟨B, hB, rfl⟩ := w_nat c6 (by decide)
    obtain ⟨e6, l6⟩ := hL B (by omega)
    have eB : nv (nI B) = B := nv_nI (by omega)
    refine x_iload2 dX10_breaks_9 ?_
    refine x_if_ge 15 dX10_breaks_10 (by decide) (fun c10 => ?_) (fun c10 => ?_)
    · refine x_iconst (nI 0) dX10_breaks_15 (by decide) ?_
      refine x_istore3 dX10_breaks_16 rfl rfl rfl ?_
      refine x_iconst (nI 0) dX10_breaks_17 (by decide) ?_
      refine x_istore4 dX10_breaks_18 rfl rfl rfl ?_
      exact lp B rfl hB hb c10 e6 l6 eB (nL m B + 1) 0 0 (Nat.zero_le _) (by omega) rfl
    · refine x_iconst (-1) dX10_breaks_13 (by decide) ?_
      refine x_iret dX10_breaks_14 rfl ?_ (Nat.zero_le _) (Nat.zero_le _)
      first | exact ⟨(if_neg (fun q => c6 q.1)).symm, rfl, rfl⟩ | exact ⟨(if_neg (fun q => c10 q.2)).symm, rfl, rfl⟩

theorem hno_step {p : Nat → Bool} {i J : Nat} (h : ∀ k, k < i → p k = true → fb_ct p k ≠ J) (hi : p i = true → fb_ct p i ≠ J) : ∀ k, k < i + 1 → p k = true → fb_ct p k ≠ J := by
  intro k hk hp
  rcases Nat.lt_or_ge k i with q | q
  · exact h k q hp
  · have e : k = i := by omega
    subst e
    exact hi hp
def brkR (m : mS) (B : Nat) (i r : Int32) : Prop := (∃ k, k < nL m B ∧ brB m B k = true ∧ i = nI (fb_ct (brB m B) k) ∧ r = nI k) ∨ (r = -1 ∧ ∀ k, k < nL m B → brB m B k = true → i ≠ nI (fb_ct (brB m B) k))

set_option maxHeartbeats 4000000 in
theorem k_broken (G : vx_G) (x : vx_H) (m : mS) (hL : iL m) (b j : Int32) : xK G M_X10_broken 1 [(.ref MB), (.int b), (.int j)] NT (hp x m) 0 0 (QI (fun r n' h' => (if nI 0 ≤ b ∧ b ≤ nI 1 then brkR m (nv b) j r else r = -1) ∧ n' = NT ∧ h' = hp x m)) := by
  have lp : ∀ (B J : Nat), (b = nI B) → (j = nI J) → (B ≤ 1) → (nI 0 ≤ nI B ∧ nI B ≤ nI 1) → (J < 2147483648) → (m.1 6 B = nI (nL m B)) → (nL m B ≤ 80) → (nv (nI B) = B) → ∀ (n_ : Nat) (i c : Nat), i ≤ nL m B → nL m B + 1 ≤ i + n_ → (c + fb_ct (brB m B) i = J) → (∀ k, k < i → brB m B k = true → fb_ct (brB m B) k ≠ J) → xV (mF G M_X10_broken 1 0 0 (QI (fun r n' h' => (if nI 0 ≤ b ∧ b ≤ nI 1 then brkR m (nv b) j r else r = -1) ∧ n' = NT ∧ h' = hp x m))) 20 [some (.ref MB), some (.int (nI (B))), some (.int (nI (J))), some (.int (nI (c))), some (.int (nI (i)))] [] NT (hp x m) 0 0 := by
    intro B J eb ej hB hb hJ e6 l6 eB
    subst eb
    subst ej
    intro n_
    induction n_ with
    | zero => intro i c hi_ hn_; omega
    | succ n_ ih =>
      intro i c hi_ hn_ hc hno
      refine x_iload4 dX10_broken_20 ?_
      refine x_aload0 dX10_broken_22 ?_
      refine gm6 fgX10_28 dX10_broken_23 ?_
      refine x_iload1 dX10_broken_26 ?_
      refine lm6 (B) rfl (by omega) dX10_broken_27 ?_
      refine xV.toi (nI (nL m B)) (e6) ?_
      refine n_icmp_ge 62 dX10_broken_28 (by decide) (by omega) (by omega) (fun c28 => ?_) (fun c28 => ?_)
      · refine x_iconst (-1) dX10_broken_62 (by decide) ?_
        refine x_iret dX10_broken_63 rfl ?_ (Nat.zero_le _) (Nat.zero_le _)
        refine ⟨?_, rfl, rfl⟩
        rw [if_pos hb, eB]
        exact Or.inr ⟨rfl, fun k hk hb2 e => hno k (by omega) hb2 (nI_inj (by have := fb_ct_le (brB m B) k; omega) hJ e.symm)⟩
      · refine x_aload0 dX10_broken_31 ?_
        refine gm5 fgX10_25 dX10_broken_32 ?_
        refine x_bipush (nI 80) dX10_broken_35 (by decide) ?_
        refine x_iload1 dX10_broken_37 ?_
        refine n_imul dX10_broken_38 ?_
        refine x_iload4 dX10_broken_39 ?_
        refine n_iadd dX10_broken_41 ?_
        refine lm5 ((80 * B) + i) rfl (by omega) dX10_broken_42 ?_
        refine x_if_ge 56 dX10_broken_43 (by decide) (fun c43 => ?_) (fun c43 => ?_)
        · refine x_iinc4 (nI (i + 1)) dX10_broken_56 (nI_add i 1) rfl rfl rfl ?_
          refine x_goto 20 dX10_broken_59 (by decide) ?_
          first | exact ih (i + 1) _ (by omega) (by omega) (by rw [fb_ct_succ]; simp [brB, iNL.mpr c43]; exact hc) (hno_step hno (fun q => absurd (of_decide_eq_true q) (iNL.mpr c43))) | exact ih (i + 1) _ (by omega) (by omega) (by rw [fb_ct_succ]; simp [brB, iNE.mp c43]; omega) (hno_step hno (fun _ => by omega))
        · refine x_iload3 dX10_broken_46 ?_
          refine n_if_ne 53 dX10_broken_47 (by decide) (by omega) (fun c47 => ?_) (fun c47 => ?_)
          · refine x_iinc3 (nI (c - 1)) dX10_broken_53 (nI_m1 (by omega)) rfl rfl rfl ?_
            refine x_iinc4 (nI (i + 1)) dX10_broken_56 (nI_add i 1) rfl rfl rfl ?_
            refine x_goto 20 dX10_broken_59 (by decide) ?_
            first | exact ih (i + 1) _ (by omega) (by omega) (by rw [fb_ct_succ]; simp [brB, iNL.mpr c43]; exact hc) (hno_step hno (fun q => absurd (of_decide_eq_true q) (iNL.mpr c43))) | exact ih (i + 1) _ (by omega) (by omega) (by rw [fb_ct_succ]; simp [brB, iNE.mp c43]; omega) (hno_step hno (fun _ => by omega))
          · refine x_iload4 dX10_broken_50 ?_
            refine x_iret dX10_broken_52 rfl ?_ (Nat.zero_le _) (Nat.zero_le _)
            refine ⟨?_, rfl, rfl⟩
            rw [if_pos hb, eB]
            exact Or.inl ⟨i, by omega, by simp [brB, iNE.mp c43], by rw [show J = fb_ct (brB m B) i by omega], rfl⟩
  refine xK.ofV (by decide) (Nat.le_of_ble_eq_true rfl) ?_
  refine xV.lveq (L' := [some (.ref MB), some (.int b), some (.int j), none, none]) rfl ?_
  refine x_iload1 dX10_broken_0 ?_
  refine x_iconst (nI 0) dX10_broken_1 (by decide) ?_
  refine x_iconst (nI 1) dX10_broken_2 (by decide) ?_
  refine x_callS3i msX10_116 (k_within G b (nI 0) (nI 1)) (xRoom.of rfl) (by decide) dX10_broken_3 (fun r_ n_ h_ hq => ?_)
  obtain ⟨rfl, rfl, rfl⟩ := hq
  refine b_if_eq 13 dX10_broken_6 (by decide) (fun c6 => ?_) (fun c6 => ?_)
  · refine x_iconst (-1) dX10_broken_13 (by decide) ?_
    refine x_iret dX10_broken_14 rfl ?_ (Nat.zero_le _) (Nat.zero_le _)
    refine ⟨?_, rfl, rfl⟩
    first | (rw [if_neg c6]; done) | (rw [if_pos hb]; refine Or.inr ⟨rfl, fun k hk _ e => c10 ?_⟩; rw [e]; rw [eB] at hk; have := fb_ct_le (brB m (nv (nI B))) k; exact nI_pos' (by omega))
  · have hb := c6
    obtain ⟨B, hB, rfl⟩ := w_nat c6 (by decide)
    obtain ⟨e6, l6⟩ := hL B (by omega)
    have eB : nv (nI B) = B := nv_nI (by omega)
    refine x_iload2 dX10_broken_9 ?_
    refine x_if_ge 15 dX10_broken_10 (by decide) (fun c10 => ?_) (fun c10 => ?_)
    · obtain ⟨J, hJ, rfl⟩ := nI_of (iNL.mpr c10)
      refine x_iload2 dX10_broken_15 ?_
      refine x_istore3 dX10_broken_16 rfl rfl rfl ?_
      refine x_iconst (nI 0) dX10_broken_17 (by decide) ?_
      refine x_istore4 dX10_broken_18 rfl rfl rfl ?_
      exact lp B J rfl rfl hB hb (by omega) e6 l6 eB (nL m B + 1) 0 J (Nat.zero_le _) (by omega) (by simp [fb_ct]) (fun k hk => absurd hk (Nat.not_lt_zero k))
    · refine x_iconst (-1) dX10_broken_13 (by decide) ?_
      refine x_iret dX10_broken_14 rfl ?_ (Nat.zero_le _) (Nat.zero_le _)
      refine ⟨?_, rfl, rfl⟩
      first | (rw [if_neg c6]; done) | (rw [if_pos hb]; refine Or.inr ⟨rfl, fun k hk _ e => c10 ?_⟩; rw [e]; rw [eB] at hk; have := fb_ct_le (brB m (nv (nI B))) k; exact nI_pos' (by omega))

def wdP (m : mS) (g B : Nat) (w : Int32) (k : Nat) : Bool := decide (mb m g k / 80 = B ∧ m.1 2 (mb m g k) = w)
def gAm (m : mS) (g k : Nat) : Int := if mb m g k < 80 then (m.1 0 (mb m g k)).toInt else -(m.1 0 (mb m g k)).toInt
def gDf (m : mS) (g : Nat) : Int := fb_si (gAm m g) (nM m g)

set_option maxHeartbeats 4000000 in
theorem k_hasWord (G : vx_G) (x : vx_H) (m : mS) (g B : Nat) (hg : g < 200) (hB : B < 2) (hb : iMb m g) (w : Int32) : xK G M_X10_hasWord 0 [(.ref MB), (.int (nI (g))), (.int (nI (B))), (.int w)] NT (hp x m) 0 0 (QI (fun r n' h' => r = bI (0 < fb_ct (wdP m g B w) (nM m g)) ∧ n' = NT ∧ h' = hp x m)) := by
  have hb2 := hb.2.1
  have lp : ∀ (n_ : Nat) (i : Nat) (hs : Int32), i ≤ nM m g → nM m g + 1 ≤ i + n_ → (hs = bI (0 < fb_ct (wdP m g B w) i)) → xV (mF G M_X10_hasWord 0 0 0 (QI (fun r n' h' => r = bI (0 < fb_ct (wdP m g B w) (nM m g)) ∧ n' = NT ∧ h' = hp x m))) 6 [some (.ref MB), some (.int (nI (g))), some (.int (nI (B))), some (.int w), some (.int hs), some (.int (nI (i))), none] [] NT (hp x m) 0 0 := by
    intro n_
    induction n_ with
    | zero => intro i hs hi_ hn_; omega
    | succ n_ ih =>
      intro i hs hi_ hn_ hc
      refine x_iload5 dX10_hasWord_6 ?_
      refine x_aload0 dX10_hasWord_8 ?_
      refine gm12 fgX10_41 dX10_hasWord_9 ?_
      refine x_iload1 dX10_hasWord_12 ?_
      refine lm12 (g) rfl (by omega) dX10_hasWord_13 ?_
      refine xV.toi (nI (nM m g)) (hb.1) ?_
      refine n_icmp_ge 69 dX10_hasWord_14 (by decide) (by omega) (by omega) (fun c14 => ?_) (fun c14 => ?_)
      · refine x_iload4 dX10_hasWord_69 ?_
        refine x_zret dX10_hasWord_71 rfl (hc ▸ bI_01 _) ?_ (Nat.zero_le _) (Nat.zero_le _)
        exact ⟨by rw [hc, show i = nM m g by omega], rfl, rfl⟩
      · obtain ⟨e1, l1⟩ := hb.2.2 i (by omega)
        refine x_aload0 dX10_hasWord_17 ?_
        refine gm11 fgX10_38 dX10_hasWord_18 ?_
        refine x_bipush (nI 8) dX10_hasWord_21 (by decide) ?_
        refine x_iload1 dX10_hasWord_23 ?_
        refine n_imul dX10_hasWord_24 ?_
        refine x_iload5 dX10_hasWord_25 ?_
        refine n_iadd dX10_hasWord_27 ?_
        refine lm11 ((8 * g) + i) rfl (by omega) dX10_hasWord_28 ?_
        refine xV.toi (nI (mb m g i)) (e1) ?_
        refine x_istore6 dX10_hasWord_29 rfl rfl rfl ?_
        refine x_iload4 dX10_hasWord_31 ?_
        refine x_if_ne 56 dX10_hasWord_33 (by decide) (fun c33 => ?_) (fun c33 => ?_)
        · refine x_iconst (nI 1) dX10_hasWord_56 (by decide) ?_
          refine x_goto 61 dX10_hasWord_57 (by decide) ?_
          refine x_istore4 dX10_hasWord_61 rfl rfl rfl ?_
          refine x_iinc5 (nI (i + 1)) dX10_hasWord_63 (nI_add i 1) rfl rfl rfl ?_
          refine x_goto 6 dX10_hasWord_66 (by decide) ?_
          refine xV.lvle (L' := [some (.ref _), some (.int _), some (.int _), some (.int _), some (.int _), some (.int _), none]) ⟨rfl, rfl, rfl, rfl, rfl, rfl, trivial⟩ ?_
          first | exact ih (i + 1) _ (by omega) (by omega) (by rw [nI1]; refine (bI_t ?_).symm; rw [fb_ct_succ]; rw [hc] at c33; have := bI_n0.mp c33; omega) | exact ih (i + 1) _ (by omega) (by omega) (by rw [nI1]; refine (bI_t ?_).symm; rw [fb_ct_succ]; simp [wdP, c42, c53]) | exact ih (i + 1) _ (by omega) (by omega) (by rw [nI_0]; refine (bI_f ?_).symm; rw [fb_ct_succ]; rw [hc] at c33; have := bI_0.mp c33; simp [wdP, c42]; omega) | exact ih (i + 1) _ (by omega) (by omega) (by rw [nI_0]; refine (bI_f ?_).symm; rw [fb_ct_succ]; rw [hc] at c33; have := bI_0.mp c33; simp [wdP, c53]; omega)
        · refine x_iload6 dX10_hasWord_36 ?_
          refine x_bipush (nI 80) dX10_hasWord_38 (by decide) ?_
          refine n_idiv dX10_hasWord_40 (by omega) (by omega) (by omega) ?_
          refine x_iload2 dX10_hasWord_41 ?_
          refine n_icmp_ne 60 dX10_hasWord_42 (by decide) (by omega) (by omega) (fun c42 => ?_) (fun c42 => ?_)
          · refine x_iconst (nI 0) dX10_hasWord_60 (by decide) ?_
            refine x_istore4 dX10_hasWord_61 rfl rfl rfl ?_
            refine x_iinc5 (nI (i + 1)) dX10_hasWord_63 (nI_add i 1) rfl rfl rfl ?_
            refine x_goto 6 dX10_hasWord_66 (by decide) ?_
            refine xV.lvle (L' := [some (.ref _), some (.int _), some (.int _), some (.int _), some (.int _), some (.int _), none]) ⟨rfl, rfl, rfl, rfl, rfl, rfl, trivial⟩ ?_
            first | exact ih (i + 1) _ (by omega) (by omega) (by rw [nI1]; refine (bI_t ?_).symm; rw [fb_ct_succ]; rw [hc] at c33; have := bI_n0.mp c33; omega) | exact ih (i + 1) _ (by omega) (by omega) (by rw [nI1]; refine (bI_t ?_).symm; rw [fb_ct_succ]; simp [wdP, c42, c53]) | exact ih (i + 1) _ (by omega) (by omega) (by rw [nI_0]; refine (bI_f ?_).symm; rw [fb_ct_succ]; rw [hc] at c33; have := bI_0.mp c33; simp [wdP, c42]; omega) | exact ih (i + 1) _ (by omega) (by omega) (by rw [nI_0]; refine (bI_f ?_).symm; rw [fb_ct_succ]; rw [hc] at c33; have := bI_0.mp c33; simp [wdP, c53]; omega)
          · refine x_aload0 dX10_hasWord_45 ?_
            refine gm2 fgX10_16 dX10_hasWord_46 ?_
            refine x_iload6 dX10_hasWord_49 ?_
            refine lm2 (mb m g i) rfl (by omega) dX10_hasWord_51 ?_
            refine x_iload3 dX10_hasWord_52 ?_
            refine x_icmp_ne 60 dX10_hasWord_53 (by decide) (fun c53 => ?_) (fun c53 => ?_)
            · refine x_iconst (nI 0) dX10_hasWord_60 (by decide) ?_
              refine x_istore4 dX10_hasWord_61 rfl rfl rfl ?_
              refine x_iinc5 (nI (i + 1)) dX10_hasWord_63 (nI_add i 1) rfl rfl rfl ?_
              refine x_goto 6 dX10_hasWord_66 (by decide) ?_
              refine xV.lvle (L' := [some (.ref _), some (.int _), some (.int _), some (.int _), some (.int _), some (.int _), none]) ⟨rfl, rfl, rfl, rfl, rfl, rfl, trivial⟩ ?_
              first | exact ih (i + 1) _ (by omega) (by omega) (by rw [nI1]; refine (bI_t ?_).symm; rw [fb_ct_succ]; rw [hc] at c33; have := bI_n0.mp c33; omega) | exact ih (i + 1) _ (by omega) (by omega) (by rw [nI1]; refine (bI_t ?_).symm; rw [fb_ct_succ]; simp [wdP, c42, c53]) | exact ih (i + 1) _ (by omega) (by omega) (by rw [nI_0]; refine (bI_f ?_).symm; rw [fb_ct_succ]; rw [hc] at c33; have := bI_0.mp c33; simp [wdP, c42]; omega) | exact ih (i + 1) _ (by omega) (by omega) (by rw [nI_0]; refine (bI_f ?_).symm; rw [fb_ct_succ]; rw [hc] at c33; have := bI_0.mp c33; simp [wdP, c53]; omega)
            · refine x_iconst (nI 1) dX10_hasWord_56 (by decide) ?_
              refine x_goto 61 dX10_hasWord_57 (by decide) ?_
              refine x_istore4 dX10_hasWord_61 rfl rfl rfl ?_
              refine x_iinc5 (nI (i + 1)) dX10_hasWord_63 (nI_add i 1) rfl rfl rfl ?_
              refine x_goto 6 dX10_hasWord_66 (by decide) ?_
              refine xV.lvle (L' := [some (.ref _), some (.int _), some (.int _), some (.int _), some (.int _), some (.int _), none]) ⟨rfl, rfl, rfl, rfl, rfl, rfl, trivial⟩ ?_
              first | exact ih (i + 1) _ (by omega) (by omega) (by rw [nI1]; refine (bI_t ?_).symm; rw [fb_ct_succ]; rw [hc] at c33; have := bI_n0.mp c33; omega) | exact ih (i + 1) _ (by omega) (by omega) (by rw [nI1]; refine (bI_t ?_).symm; rw [fb_ct_succ]; simp [wdP, c42, c53]) | exact ih (i + 1) _ (by omega) (by omega) (by rw [nI_0]; refine (bI_f ?_).symm; rw [fb_ct_succ]; rw [hc] at c33; have := bI_0.mp c33; simp [wdP, c42]; omega) | exact ih (i + 1) _ (by omega) (by omega) (by rw [nI_0]; refine (bI_f ?_).symm; rw [fb_ct_succ]; rw [hc] at c33; have := bI_0.mp c33; simp [wdP, c53]; omega)
  refine xK.ofV (by decide) (Nat.le_of_ble_eq_true rfl) ?_
  refine xV.lveq (L' := [some (.ref MB), some (.int (nI (g))), some (.int (nI (B))), some (.int w), none, none, none]) rfl ?_
  refine x_iconst (nI 0) dX10_hasWord_0 (by decide) ?_
  refine x_istore4 dX10_hasWord_1 rfl rfl rfl ?_
  refine x_iconst (nI 0) dX10_hasWord_3 (by decide) ?_
  refine x_istore5 dX10_hasWord_4 rfl rfl rfl ?_
  exact lp (nM m g + 1) 0 (nI 0) (Nat.zero_le _) (by omega) (by rw [nI_0]; exact (bI_f (by simp [fb_ct])).symm)

set_option maxHeartbeats 4000000 in
theorem k_differenceOf (G : vx_G) (x : vx_H) (m : mS) (g : Nat) (hg : g < 200) (hb : iMb m g) (hv : ∀ k, k < nM m g → (m.1 0 (mb m g k)).toInt ≠ -2147483648) : xK G M_X10_differenceOf 0 [(.ref MB), (.int (nI (g)))] NT (hp x m) 0 0 (QJ (fun r n' h' => r = zL (gDf m g) ∧ n' = NT ∧ h' = hp x m)) := by
  have hb2 := hb.2.1
  have lp : ∀ (n_ : Nat) (i : Nat) (s : Int64), i ≤ nM m g → nM m g + 1 ≤ i + n_ → (s = zL (fb_si (gAm m g) i)) → xV (mF G M_X10_differenceOf 0 0 0 (QJ (fun r n' h' => r = zL (gDf m g) ∧ n' = NT ∧ h' = hp x m))) 5 [some (.ref MB), some (.int (nI (g))), some (.long s), none, some (.int (nI (i))), none] [] NT (hp x m) 0 0 := by
    intro n_
    induction n_ with
    | zero => intro i s hi_ hn_; omega
    | succ n_ ih =>
      intro i s hi_ hn_ hc
      refine x_iload4 dX10_differenceOf_5 ?_
      refine x_aload0 dX10_differenceOf_7 ?_
      refine gm12 fgX10_41 dX10_differenceOf_8 ?_
      refine x_iload1 dX10_differenceOf_11 ?_
      refine lm12 (g) rfl (by omega) dX10_differenceOf_12 ?_
      refine xV.toi (nI (nM m g)) (hb.1) ?_
      refine n_icmp_ge 66 dX10_differenceOf_13 (by decide) (by omega) (by omega) (fun c13 => ?_) (fun c13 => ?_)
      · refine x_lload2 dX10_differenceOf_66 ?_
        refine x_lret dX10_differenceOf_67 rfl ?_ (Nat.zero_le _) (Nat.zero_le _)
        exact ⟨by rw [hc, show i = nM m g by omega]; rfl, rfl, rfl⟩
      · obtain ⟨e1, l1⟩ := hb.2.2 i (by omega)
        refine x_aload0 dX10_differenceOf_16 ?_
        refine gm11 fgX10_38 dX10_differenceOf_17 ?_
        refine x_bipush (nI 8) dX10_differenceOf_20 (by decide) ?_
        refine x_iload1 dX10_differenceOf_22 ?_
        refine n_imul dX10_differenceOf_23 ?_
        refine x_iload4 dX10_differenceOf_24 ?_
        refine n_iadd dX10_differenceOf_26 ?_
        refine lm11 ((8 * g) + i) rfl (by omega) dX10_differenceOf_27 ?_
        refine xV.toi (nI (mb m g i)) (e1) ?_
        refine x_istore5 dX10_differenceOf_28 rfl rfl rfl ?_
        refine x_lload2 dX10_differenceOf_30 ?_
        refine x_iload5 dX10_differenceOf_31 ?_
        refine x_bipush (nI 80) dX10_differenceOf_33 (by decide) ?_
        refine n_icmp_ge 49 dX10_differenceOf_35 (by decide) (by omega) (by omega) (fun c35 => ?_) (fun c35 => ?_)
        · have hg0 : gAm m g i = -(m.1 0 (mb m g i)).toInt := if_neg (by omega)
          refine x_aload0 dX10_differenceOf_49 ?_
          refine gm0 fgX10_9 dX10_differenceOf_50 ?_
          refine x_iload5 dX10_differenceOf_53 ?_
          refine lm0 (mb m g i) rfl (by omega) dX10_differenceOf_55 ?_
          refine x_ineg dX10_differenceOf_56 ?_
          refine x_i2l dX10_differenceOf_57 ?_
          refine x_ladd dX10_differenceOf_58 ?_
          refine x_lstore2 dX10_differenceOf_59 rfl rfl rfl ?_
          refine x_iinc4 (nI (i + 1)) dX10_differenceOf_60 (nI_add i 1) rfl rfl rfl ?_
          refine x_goto 5 dX10_differenceOf_63 (by decide) ?_
          refine xV.lvle (L' := [some (.ref _), some (.int _), some (.long _), none, some (.int _), none]) ⟨rfl, rfl, rfl, rfl, trivial⟩ ?_
          first | exact ih (i + 1) _ (by omega) (by omega) (by rw [fb_si_succ, hc, hg0, negL (hv i (by omega)), zL_add]) | exact ih (i + 1) _ (by omega) (by omega) (by rw [fb_si_succ, hc, hg0, toL, zL_add])
        · have hg0 : gAm m g i = (m.1 0 (mb m g i)).toInt := if_pos c35
          refine x_aload0 dX10_differenceOf_38 ?_
          refine gm0 fgX10_9 dX10_differenceOf_39 ?_
          refine x_iload5 dX10_differenceOf_42 ?_
          refine lm0 (mb m g i) rfl (by omega) dX10_differenceOf_44 ?_
          refine x_i2l dX10_differenceOf_45 ?_
          refine x_goto 58 dX10_differenceOf_46 (by decide) ?_
          refine x_ladd dX10_differenceOf_58 ?_
          refine x_lstore2 dX10_differenceOf_59 rfl rfl rfl ?_
          refine x_iinc4 (nI (i + 1)) dX10_differenceOf_60 (nI_add i 1) rfl rfl rfl ?_
          refine x_goto 5 dX10_differenceOf_63 (by decide) ?_
          refine xV.lvle (L' := [some (.ref _), some (.int _), some (.long _), none, some (.int _), none]) ⟨rfl, rfl, rfl, rfl, trivial⟩ ?_
          first | exact ih (i + 1) _ (by omega) (by omega) (by rw [fb_si_succ, hc, hg0, negL (hv i (by omega)), zL_add]) | exact ih (i + 1) _ (by omega) (by omega) (by rw [fb_si_succ, hc, hg0, toL, zL_add])
  refine xK.ofV (by decide) (Nat.le_of_ble_eq_true rfl) ?_
  refine xV.lveq (L' := [some (.ref MB), some (.int (nI (g))), none, none, none, none]) rfl ?_
  refine x_lconst 0 dX10_differenceOf_0 (by decide) ?_
  refine x_lstore2 dX10_differenceOf_1 rfl rfl rfl ?_
  refine x_iconst (nI 0) dX10_differenceOf_2 (by decide) ?_
  refine x_istore4 dX10_differenceOf_3 rfl rfl rfl ?_
  exact lp (nM m g + 1) 0 0 (Nat.zero_le _) (by omega) zL_0.symm
