/-! ===== the model's methods, 1: small questions, today, terms, told ===== -/
def nL (m : mS) (b : Nat) : Nat := nv (m.1 6 b)
def nG (m : mS) : Nat := nv (m.1 16 0)
def nA (m : mS) : Nat := nv (m.1 46 0)
def iL (m : mS) : Prop := ∀ b, b < 2 → m.1 6 b = nI (nL m b) ∧ nL m b ≤ 80
def iG (m : mS) : Prop := m.1 16 0 = nI (nG m) ∧ nG m ≤ 200
def iA (m : mS) : Prop := m.1 46 0 = nI (nA m) ∧ nA m ≤ 60
/-- a line's book and number, as the calls name them -/
abbrev isLn (m : mS) (b i : Int32) : Prop := (nI 0 ≤ b ∧ b ≤ nI 1) ∧ nI 0 ≤ i ∧ i < m.1 6 (nv b)
/-- the group of a number stands -/
abbrev isGr (m : mS) (g : Int32) : Prop := (nI 0 ≤ g ∧ g < m.1 16 0) ∧ m.1 14 (nv g) < nI 0
theorem isLn_nat {m : mS} (hL : iL m) {b i : Int32} (h : isLn m b i) : ∃ B I : Nat, B < 2 ∧ b = nI B ∧ I < nL m B ∧ i = nI I := by
  obtain ⟨h1, h2, h3⟩ := h
  obtain ⟨B, hB, rfl⟩ := w_nat h1 (by decide)
  rw [nv_nI (by omega)] at h3
  obtain ⟨e, l⟩ := hL B (by omega)
  rw [e] at h3
  obtain ⟨I, hI, rfl⟩ := w_nat (n := nL m B) ⟨h2, Int32.le_of_lt h3⟩ (by omega)
  exact ⟨B, I, by omega, rfl, (nI_ltI (by omega) (by omega)).mp h3, rfl⟩
theorem isLn_of {m : mS} (hL : iL m) {B I : Nat} (hB : B < 2) (hI : I < nL m B) : isLn m (nI B) (nI I) := by
  obtain ⟨e, l⟩ := hL B hB
  refine ⟨w_of (by omega) (by decide), nI_le (Nat.zero_le _) (by omega), ?_⟩
  rw [nv_nI (by omega), e]
  exact nI_lt hI (by omega)
theorem isGr_nat {m : mS} (hG : iG m) {g : Int32} (h : isGr m g) : ∃ k : Nat, k < nG m ∧ g = nI k ∧ m.1 14 k < nI 0 := by
  obtain ⟨⟨h1, h2⟩, h3⟩ := h
  rw [hG.1] at h2
  have := hG.2
  obtain ⟨I, hI, rfl⟩ := w_nat (n := nG m) ⟨h1, Int32.le_of_lt h2⟩ (by omega)
  rw [nv_nI (by omega)] at h3
  exact ⟨I, (nI_ltI (by omega) (by omega)).mp h2, rfl, h3⟩

set_option maxHeartbeats 4000000 in
theorem k_within (G : vx_G) {h : vx_H} (v a b : Int32) : xK G M_X10_within 0 [(.int v), (.int a), (.int b)] NT h 0 0 (QI (fun r n' h' => r = bI (a ≤ v ∧ v ≤ b) ∧ n' = NT ∧ h' = h)) := by
  refine xK.ofV (by decide) (Nat.le_of_ble_eq_true rfl) ?_
  refine xV.lveq (L' := [some (.int v), some (.int a), some (.int b)]) rfl ?_
  refine x_iload0 dX10_within_0 ?_
  refine x_iload1 dX10_within_1 ?_
  refine x_icmp_lt 14 dX10_within_2 (by decide) (fun c2 => ?_) (fun c2 => ?_)
  · refine x_iconst (nI 0) dX10_within_14 (by decide) ?_
    refine x_zret dX10_within_15 rfl (by first | exact Or.inl nI_0 | exact Or.inr nI1 | exact bI_01 _) ?_ (Nat.zero_le _) (Nat.zero_le _)
    exact ⟨by first | exact (bI_t ⟨iNL.mp c2, iNL.mp c7⟩).symm | exact (bI_f (fun q => absurd c7 (iNL.mpr q.2))).symm | exact (bI_f (fun q => absurd c2 (iNL.mpr q.1))).symm, rfl, rfl⟩
  · refine x_iload0 dX10_within_5 ?_
    refine x_iload2 dX10_within_6 ?_
    refine x_icmp_gt 14 dX10_within_7 (by decide) (fun c7 => ?_) (fun c7 => ?_)
    · refine x_iconst (nI 0) dX10_within_14 (by decide) ?_
      refine x_zret dX10_within_15 rfl (by first | exact Or.inl nI_0 | exact Or.inr nI1 | exact bI_01 _) ?_ (Nat.zero_le _) (Nat.zero_le _)
      exact ⟨by first | exact (bI_t ⟨iNL.mp c2, iNL.mp c7⟩).symm | exact (bI_f (fun q => absurd c7 (iNL.mpr q.2))).symm | exact (bI_f (fun q => absurd c2 (iNL.mpr q.1))).symm, rfl, rfl⟩
    · refine x_iconst (nI 1) dX10_within_10 (by decide) ?_
      refine x_goto 15 dX10_within_11 (by decide) ?_
      refine x_zret dX10_within_15 rfl (by first | exact Or.inl nI_0 | exact Or.inr nI1 | exact bI_01 _) ?_ (Nat.zero_le _) (Nat.zero_le _)
      exact ⟨by first | exact (bI_t ⟨iNL.mp c2, iNL.mp c7⟩).symm | exact (bI_f (fun q => absurd c7 (iNL.mpr q.2))).symm | exact (bI_f (fun q => absurd c2 (iNL.mpr q.1))).symm, rfl, rfl⟩

set_option maxHeartbeats 4000000 in
theorem k_isLine (G : vx_G) (x : vx_H) (m : mS) (hL : iL m) (b i : Int32) : xK G M_X10_isLine 1 [(.ref MB), (.int b), (.int i)] NT (hp x m) 0 0 (QI (fun r n' h' => r = bI (isLn m b i) ∧ n' = NT ∧ h' = hp x m)) := by
  refine xK.ofV (by decide) (Nat.le_of_ble_eq_true rfl) ?_
  refine xV.lveq (L' := [some (.ref MB), some (.int b), some (.int i)]) rfl ?_
  refine x_iload1 dX10_isLine_0 ?_
  refine x_iconst (nI 0) dX10_isLine_1 (by decide) ?_
  refine x_iconst (nI 1) dX10_isLine_2 (by decide) ?_
  refine x_callS3i msX10_116 (k_within G b (nI 0) (nI 1)) (xRoom.of rfl) (by decide) dX10_isLine_3 (fun r_ n_ h_ hq => ?_)
  obtain ⟨rfl, rfl, rfl⟩ := hq
  refine b_if_eq 27 dX10_isLine_6 (by decide) (fun c6 => ?_) (fun c6 => ?_)
  · have hz : (0 : Int32) = nI 0 := rfl
    refine x_iconst (nI 0) dX10_isLine_27 (by decide) ?_
    refine x_zret dX10_isLine_28 rfl (by first | exact Or.inl nI_0 | exact Or.inr nI1 | exact bI_01 _) ?_ (Nat.zero_le _) (Nat.zero_le _)
    exact ⟨by first | exact (bI_t ⟨c6, iNL.mp c10, by rw [nv_nI (by omega)]; exact iNE.mp c20⟩).symm | exact (bI_f (fun q => absurd q.2.2 (by rw [nv_nI (by omega)]; exact iNL.mpr c20))).symm | exact (bI_f (fun q => absurd q.2.1 (iNE.mpr c10))).symm | exact (bI_f (fun q => c6 q.1)).symm, rfl, rfl⟩
  · obtain ⟨B, hB, rfl⟩ := w_nat c6 (by decide)
    refine x_iload2 dX10_isLine_9 ?_
    refine x_if_lt 27 dX10_isLine_10 (by decide) (fun c10 => ?_) (fun c10 => ?_)
    · have hz : (0 : Int32) = nI 0 := rfl
      refine x_iconst (nI 0) dX10_isLine_27 (by decide) ?_
      refine x_zret dX10_isLine_28 rfl (by first | exact Or.inl nI_0 | exact Or.inr nI1 | exact bI_01 _) ?_ (Nat.zero_le _) (Nat.zero_le _)
      exact ⟨by first | exact (bI_t ⟨c6, iNL.mp c10, by rw [nv_nI (by omega)]; exact iNE.mp c20⟩).symm | exact (bI_f (fun q => absurd q.2.2 (by rw [nv_nI (by omega)]; exact iNL.mpr c20))).symm | exact (bI_f (fun q => absurd q.2.1 (iNE.mpr c10))).symm | exact (bI_f (fun q => c6 q.1)).symm, rfl, rfl⟩
    · refine x_iload2 dX10_isLine_13 ?_
      refine x_aload0 dX10_isLine_14 ?_
      refine gm6 fgX10_28 dX10_isLine_15 ?_
      refine x_iload1 dX10_isLine_18 ?_
      refine lm6 (B) rfl (by omega) dX10_isLine_19 ?_
      refine x_icmp_ge 27 dX10_isLine_20 (by decide) (fun c20 => ?_) (fun c20 => ?_)
      · have hz : (0 : Int32) = nI 0 := rfl
        refine x_iconst (nI 0) dX10_isLine_27 (by decide) ?_
        refine x_zret dX10_isLine_28 rfl (by first | exact Or.inl nI_0 | exact Or.inr nI1 | exact bI_01 _) ?_ (Nat.zero_le _) (Nat.zero_le _)
        exact ⟨by first | exact (bI_t ⟨c6, iNL.mp c10, by rw [nv_nI (by omega)]; exact iNE.mp c20⟩).symm | exact (bI_f (fun q => absurd q.2.2 (by rw [nv_nI (by omega)]; exact iNL.mpr c20))).symm | exact (bI_f (fun q => absurd q.2.1 (iNE.mpr c10))).symm | exact (bI_f (fun q => c6 q.1)).symm, rfl, rfl⟩
      · refine x_iconst (nI 1) dX10_isLine_23 (by decide) ?_
        refine x_goto 28 dX10_isLine_24 (by decide) ?_
        refine x_zret dX10_isLine_28 rfl (by first | exact Or.inl nI_0 | exact Or.inr nI1 | exact bI_01 _) ?_ (Nat.zero_le _) (Nat.zero_le _)
        exact ⟨by first | exact (bI_t ⟨c6, iNL.mp c10, by rw [nv_nI (by omega)]; exact iNE.mp c20⟩).symm | exact (bI_f (fun q => absurd q.2.2 (by rw [nv_nI (by omega)]; exact iNL.mpr c20))).symm | exact (bI_f (fun q => absurd q.2.1 (iNE.mpr c10))).symm | exact (bI_f (fun q => c6 q.1)).symm, rfl, rfl⟩

set_option maxHeartbeats 4000000 in
theorem k_isThere (G : vx_G) (x : vx_H) (m : mS) (hG : iG m) (g : Int32) : xK G M_X10_isThere 0 [(.ref MB), (.int g)] NT (hp x m) 0 0 (QI (fun r n' h' => r = bI (isGr m g) ∧ n' = NT ∧ h' = hp x m)) := by
  refine xK.ofV (by decide) (Nat.le_of_ble_eq_true rfl) ?_
  refine xV.lveq (L' := [some (.ref MB), some (.int g)]) rfl ?_
  refine x_iload1 dX10_isThere_0 ?_
  refine x_if_lt 25 dX10_isThere_1 (by decide) (fun c1 => ?_) (fun c1 => ?_)
  · refine x_iconst (nI 0) dX10_isThere_25 (by decide) ?_
    refine x_zret dX10_isThere_26 rfl (by first | exact Or.inl nI_0 | exact Or.inr nI1 | exact bI_01 _) ?_ (Nat.zero_le _) (Nat.zero_le _)
    exact ⟨by first | exact (bI_t ⟨⟨iNL.mp c1, iNE.mp c9⟩, by rw [nv_nI (by omega)]; exact iNE.mp c18⟩).symm | exact (bI_f (fun q => absurd q.2 (by rw [nv_nI (by omega)]; exact iNL.mpr c18))).symm | exact (bI_f (fun q => absurd q.1.2 (iNL.mpr c9))).symm | exact (bI_f (fun q => absurd q.1.1 (iNE.mpr c1))).symm, rfl, rfl⟩
  · refine x_iload1 dX10_isThere_4 ?_
    refine x_aload0 dX10_isThere_5 ?_
    refine gm16 fgX10_120 dX10_isThere_6 ?_
    refine x_icmp_ge 25 dX10_isThere_9 (by decide) (fun c9 => ?_) (fun c9 => ?_)
    · refine x_iconst (nI 0) dX10_isThere_25 (by decide) ?_
      refine x_zret dX10_isThere_26 rfl (by first | exact Or.inl nI_0 | exact Or.inr nI1 | exact bI_01 _) ?_ (Nat.zero_le _) (Nat.zero_le _)
      exact ⟨by first | exact (bI_t ⟨⟨iNL.mp c1, iNE.mp c9⟩, by rw [nv_nI (by omega)]; exact iNE.mp c18⟩).symm | exact (bI_f (fun q => absurd q.2 (by rw [nv_nI (by omega)]; exact iNL.mpr c18))).symm | exact (bI_f (fun q => absurd q.1.2 (iNL.mpr c9))).symm | exact (bI_f (fun q => absurd q.1.1 (iNE.mpr c1))).symm, rfl, rfl⟩
    · have h8 := iNE.mp c9
      rw [hG.1] at h8
      have l8 := hG.2
      obtain ⟨k, hk, rfl⟩ := w_nat (n := nG m) ⟨iNL.mp c1, Int32.le_of_lt h8⟩ (by omega)
      have h7 := (nI_ltI (by omega) (by omega)).mp h8
      refine x_aload0 dX10_isThere_12 ?_
      refine gm14 fgX10_47 dX10_isThere_13 ?_
      refine x_iload1 dX10_isThere_16 ?_
      refine lm14 (k) rfl (by omega) dX10_isThere_17 ?_
      refine x_if_ge 25 dX10_isThere_18 (by decide) (fun c18 => ?_) (fun c18 => ?_)
      · refine x_iconst (nI 0) dX10_isThere_25 (by decide) ?_
        refine x_zret dX10_isThere_26 rfl (by first | exact Or.inl nI_0 | exact Or.inr nI1 | exact bI_01 _) ?_ (Nat.zero_le _) (Nat.zero_le _)
        exact ⟨by first | exact (bI_t ⟨⟨iNL.mp c1, iNE.mp c9⟩, by rw [nv_nI (by omega)]; exact iNE.mp c18⟩).symm | exact (bI_f (fun q => absurd q.2 (by rw [nv_nI (by omega)]; exact iNL.mpr c18))).symm | exact (bI_f (fun q => absurd q.1.2 (iNL.mpr c9))).symm | exact (bI_f (fun q => absurd q.1.1 (iNE.mpr c1))).symm, rfl, rfl⟩
      · refine x_iconst (nI 1) dX10_isThere_21 (by decide) ?_
        refine x_goto 26 dX10_isThere_22 (by decide) ?_
        refine x_zret dX10_isThere_26 rfl (by first | exact Or.inl nI_0 | exact Or.inr nI1 | exact bI_01 _) ?_ (Nat.zero_le _) (Nat.zero_le _)
        exact ⟨by first | exact (bI_t ⟨⟨iNL.mp c1, iNE.mp c9⟩, by rw [nv_nI (by omega)]; exact iNE.mp c18⟩).symm | exact (bI_f (fun q => absurd q.2 (by rw [nv_nI (by omega)]; exact iNL.mpr c18))).symm | exact (bI_f (fun q => absurd q.1.2 (iNL.mpr c9))).symm | exact (bI_f (fun q => absurd q.1.1 (iNE.mpr c1))).symm, rfl, rfl⟩

def chM (m : mS) : mS := mset (mset (mset m 17 0 (nI 0)) 30 0 (nI 0)) 46 0 (nI 0)

set_option maxHeartbeats 4000000 in
theorem k_changed (G : vx_G) (x : vx_H) (m : mS) : xK G M_X10_changed 0 [(.ref MB)] NT (hp x m) 0 0 (QV (fun n' h' => n' = NT ∧ h' = hp x (chM m))) := by
  refine xK.ofV (by decide) (Nat.le_of_ble_eq_true rfl) ?_
  refine xV.lveq (L' := [some (.ref MB)]) rfl ?_
  refine x_aload0 dX10_changed_0 ?_
  refine x_iconst (nI 0) dX10_changed_1 (by decide) ?_
  refine pm17 fpX10_123 dX10_changed_2 (Or.inl nI_0) ?_
  refine x_aload0 dX10_changed_5 ?_
  refine x_iconst (nI 0) dX10_changed_6 (by decide) ?_
  refine pm30 fpX10_127 dX10_changed_7 (Or.inl nI_0) ?_
  refine x_aload0 dX10_changed_10 ?_
  refine x_iconst (nI 0) dX10_changed_11 (by decide) ?_
  refine pm46 fpX10_130 dX10_changed_12 ?_
  refine x_vret dX10_changed_15 rfl ?_ (Nat.zero_le _) (Nat.zero_le _)
  exact ⟨rfl, rfl⟩

def toM (m : mS) (d : Int32) : mS := if d = m.1 7 0 then m else mset (chM m) 7 0 d

set_option maxHeartbeats 4000000 in
theorem k_today (G : vx_G) (x : vx_H) (m : mS) (d : Int32) : xK G M_X10_today 1 [(.ref MB), (.int d)] NT (hp x m) 0 0 (QI (fun r n' h' => r = (if m.1 7 0 ≤ d ∧ d ≤ nI 99999 then m.1 7 0 else -1) ∧ n' = NT ∧ h' = hp x (if m.1 7 0 ≤ d ∧ d ≤ nI 99999 then toM m d else m))) := by
  refine xK.ofV (by decide) (Nat.le_of_ble_eq_true rfl) ?_
  refine xV.lveq (L' := [some (.ref MB), some (.int d), none]) rfl ?_
  refine x_iload1 dX10_today_0 ?_
  refine x_aload0 dX10_today_1 ?_
  refine gm7 fgX10_136 dX10_today_2 ?_
  refine x_ldc kcX10_143 dX10_today_5 ?_
  refine xV.toi (nI 99999) (by decide) ?_
  refine x_callS3i msX10_116 (k_within G d (m.1 7 0) (nI 99999)) (xRoom.of rfl) (by decide) dX10_today_7 (fun r_ n_ h_ hq => ?_)
  obtain ⟨rfl, rfl, rfl⟩ := hq
  refine b_if_ne 15 dX10_today_10 (by decide) (fun c10 => ?_) (fun c10 => ?_)
  · refine x_aload0 dX10_today_15 ?_
    refine gm7 fgX10_136 dX10_today_16 ?_
    refine x_istore2 dX10_today_19 rfl rfl rfl ?_
    refine x_iload1 dX10_today_20 ?_
    refine x_aload0 dX10_today_21 ?_
    refine gm7 fgX10_136 dX10_today_22 ?_
    refine x_icmp_eq 32 dX10_today_25 (by decide) (fun c25 => ?_) (fun c25 => ?_)
    · refine x_aload0 dX10_today_32 ?_
      refine x_iload1 dX10_today_33 ?_
      refine pm7 fpX10_136 dX10_today_34 ?_
      refine x_iload2 dX10_today_37 ?_
      refine x_iret dX10_today_38 rfl ?_ (Nat.zero_le _) (Nat.zero_le _)
      refine ⟨(if_pos c10).symm, rfl, ?_⟩
      rw [if_pos c10]
      unfold toM
      first | (rw [if_neg c25]) | (rw [if_pos c25]; subst c25; exact congrArg _ (mset_id m 7 0))
    · refine x_aload0 dX10_today_28 ?_
      refine x_callV0v mvX10_144 (k_changed G _ _) mb_lt0 (hp_m0 _ _) (xRoom.of rfl) (by decide) dX10_today_29 (fun n_ h_ hq => ?_)
      obtain ⟨rfl, rfl⟩ := hq
      refine x_aload0 dX10_today_32 ?_
      refine x_iload1 dX10_today_33 ?_
      refine pm7 fpX10_136 dX10_today_34 ?_
      refine x_iload2 dX10_today_37 ?_
      refine x_iret dX10_today_38 rfl ?_ (Nat.zero_le _) (Nat.zero_le _)
      refine ⟨(if_pos c10).symm, rfl, ?_⟩
      rw [if_pos c10]
      unfold toM
      first | (rw [if_neg c25]) | (rw [if_pos c25]; subst c25; exact congrArg _ (mset_id m 7 0))
  · refine x_iconst (-1) dX10_today_13 (by decide) ?_
    refine x_iret dX10_today_14 rfl ?_ (Nat.zero_le _) (Nat.zero_le _)
    exact ⟨(if_neg c10).symm, rfl, by rw [if_neg c10]⟩
