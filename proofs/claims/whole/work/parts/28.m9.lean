/-! ===== the model's methods, 9: withoutPair, paired, with, rival, addItem, breaksOf ===== -/
/-- of the pairing that stands: row i has column nv (with i), or none -/
def iW (m : mS) : Prop := ∀ i, i < nO m → m.1 24 i = -1 ∨ (m.1 24 i = nI (nv (m.1 24 i)) ∧ nv (m.1 24 i) < nTh2 m)
def woR (m : mS) (i : Nat) (r : Int32) (m' : mS) : Prop := if m.1 26 i = 0 then ∃ m1, rcR m (nI i) (m.1 24 i) r m1 ∧ m' = mset (mset m1 29 i r) 26 i (nI 1) else r = m.1 29 i ∧ m' = m

set_option maxHeartbeats 4000000 in
theorem k_withoutPair (G : vx_G) (x : vx_H) (m : mS) (hP : iP m) (i : Nat) (hi : i < 14) : xK G M_X10_withoutPair 1 [(.ref MB), (.int (nI (i)))] NT (hp x m) 0 0 (QI (fun r n' h' => n' = NT ∧ ∃ m', h' = hp x m' ∧ woR m i r m')) := by
  refine xK.ofV (by decide) (Nat.le_of_ble_eq_true rfl) ?_
  refine xV.lveq (L' := [some (.ref MB), some (.int (nI (i)))]) rfl ?_
  refine x_aload0 dX10_withoutPair_0 ?_
  refine gm26 fgX10_70 dX10_withoutPair_1 ?_
  refine x_iload1 dX10_withoutPair_4 ?_
  refine lm26 (i) rfl (by omega) dX10_withoutPair_5 ?_
  refine x_if_ne 33 dX10_withoutPair_6 (by decide) (fun c6 => ?_) (fun c6 => ?_)
  · refine x_aload0 dX10_withoutPair_33 ?_
    refine gm29 fgX10_79 dX10_withoutPair_34 ?_
    refine x_iload1 dX10_withoutPair_37 ?_
    refine lm29 (i) rfl (by omega) dX10_withoutPair_38 ?_
    refine x_iret dX10_withoutPair_39 rfl ?_ (Nat.zero_le _) (Nat.zero_le _)
    refine ⟨rfl, _, rfl, ?_⟩
    unfold woR
    first | (rw [if_neg c6]; exact ⟨rfl, rfl⟩) | (rw [if_pos c6]; refine ⟨m1, ?_, ?_⟩ <;> rw [mset_ne (by decide), mset_at]; exact hR)
  · refine x_aload0 dX10_withoutPair_9 ?_
    refine gm29 fgX10_79 dX10_withoutPair_10 ?_
    refine x_iload1 dX10_withoutPair_13 ?_
    refine x_aload0 dX10_withoutPair_14 ?_
    refine x_iload1 dX10_withoutPair_15 ?_
    refine x_aload0 dX10_withoutPair_16 ?_
    refine gm24 fgX10_67 dX10_withoutPair_17 ?_
    refine x_iload1 dX10_withoutPair_20 ?_
    refine lm24 (i) rfl (by omega) dX10_withoutPair_21 ?_
    refine x_callV2i mvX10_175 (k_reckon G x m hP (nI i) (m.1 24 i)) mb_lt0 (hp_m0 _ _) (xRoom.of rfl) (Nat.le_of_ble_eq_true rfl) dX10_withoutPair_22 (fun r_ n_ h_ hq => ?_)
    obtain ⟨rfl, m1, rfl, hR⟩ := hq
    refine sm29 (i) rfl (by omega) dX10_withoutPair_25 ?_
    refine x_aload0 dX10_withoutPair_26 ?_
    refine gm26 fgX10_70 dX10_withoutPair_27 ?_
    refine x_iload1 dX10_withoutPair_30 ?_
    refine x_iconst (nI 1) dX10_withoutPair_31 (by decide) ?_
    refine sm26 (i) rfl (by omega) (by first | exact Or.inl nI_0 | exact Or.inr nI1 | exact bI_01 _) dX10_withoutPair_32 ?_
    refine x_aload0 dX10_withoutPair_33 ?_
    refine gm29 fgX10_79 dX10_withoutPair_34 ?_
    refine x_iload1 dX10_withoutPair_37 ?_
    refine lm29 (i) rfl (by omega) dX10_withoutPair_38 ?_
    refine x_iret dX10_withoutPair_39 rfl ?_ (Nat.zero_le _) (Nat.zero_le _)
    refine ⟨rfl, _, rfl, ?_⟩
    unfold woR
    first | (rw [if_neg c6]; exact ⟨rfl, rfl⟩) | (rw [if_pos c6]; refine ⟨m1, ?_, ?_⟩ <;> rw [mset_ne (by decide), mset_at]; exact hR)

abbrev prP (m : mS) (a : Int32) (i : Nat) : Prop := m.1 18 i = a ∧ ¬ m.1 24 i < 0
def prR (m : mS) (a r : Int32) : Prop := (¬ m.1 17 0 = 0 ∧ ∃ i, i < nO m ∧ prP m a i ∧ (∀ k, k < i → ¬ prP m a k) ∧ r = nI i) ∨ ((m.1 17 0 = 0 ∨ ∀ i, i < nO m → ¬ prP m a i) ∧ r = -1)

set_option maxHeartbeats 4000000 in
theorem k_paired (G : vx_G) (x : vx_H) (m : mS) (hP : iP m) (a : Int32) : xK G M_X10_paired 0 [(.ref MB), (.int a)] NT (hp x m) 0 0 (QI (fun r n' h' => prR m a r ∧ n' = NT ∧ h' = hp x m)) := by
  have hO := hP.1.2
  have lp : ∀ (n_ : Nat) (i : Nat), i ≤ nO m → nO m + 1 ≤ i + n_ → (∀ k, k < i → ¬ prP m a k) → xV (mF G M_X10_paired 0 0 0 (QI (fun r n' h' => prR m a r ∧ n' = NT ∧ h' = hp x m))) 2 [some (.ref MB), some (.int a), some (.int (nI (i)))] [] NT (hp x m) 0 0 := by
    intro n_
    induction n_ with
    | zero => intro i hi_ hn_; omega
    | succ n_ ih =>
      intro i hi_ hn_ hn
      refine x_aload0 dX10_paired_2 ?_
      refine gm17 fgX10_123 dX10_paired_3 ?_
      refine x_if_eq 44 dX10_paired_6 (by decide) (fun c6 => ?_) (fun c6 => ?_)
      · refine x_iconst (-1) dX10_paired_44 (by decide) ?_
        refine x_iret dX10_paired_45 rfl ?_ (Nat.zero_le _) (Nat.zero_le _)
        first | exact ⟨Or.inr ⟨Or.inl c6, rfl⟩, rfl, rfl⟩ | exact ⟨Or.inr ⟨Or.inr (fun k hk => hn k (by omega)), rfl⟩, rfl, rfl⟩
      · refine x_iload2 dX10_paired_9 ?_
        refine x_aload0 dX10_paired_10 ?_
        refine gm20 fgX10_168 dX10_paired_11 ?_
        refine xV.toi (nI (nO m)) (hP.1.1) ?_
        refine n_icmp_ge 44 dX10_paired_14 (by decide) (by omega) (by omega) (fun c14 => ?_) (fun c14 => ?_)
        · refine x_iconst (-1) dX10_paired_44 (by decide) ?_
          refine x_iret dX10_paired_45 rfl ?_ (Nat.zero_le _) (Nat.zero_le _)
          first | exact ⟨Or.inr ⟨Or.inl c6, rfl⟩, rfl, rfl⟩ | exact ⟨Or.inr ⟨Or.inr (fun k hk => hn k (by omega)), rfl⟩, rfl, rfl⟩
        · refine x_aload0 dX10_paired_17 ?_
          refine gm18 fgX10_54 dX10_paired_18 ?_
          refine x_iload2 dX10_paired_21 ?_
          refine lm18 (i) rfl (by omega) dX10_paired_22 ?_
          refine x_iload1 dX10_paired_23 ?_
          refine x_icmp_ne 38 dX10_paired_24 (by decide) (fun c24 => ?_) (fun c24 => ?_)
          · have hx : ¬ prP m a i := fun q => c24 q.1
            refine x_iinc2 (nI (i + 1)) dX10_paired_38 (nI_add i 1) rfl rfl rfl ?_
            refine x_goto 2 dX10_paired_41 (by decide) ?_
            exact ih (i + 1) (by omega) (by omega) (lt_s hn hx)
          · refine x_aload0 dX10_paired_27 ?_
            refine gm24 fgX10_67 dX10_paired_28 ?_
            refine x_iload2 dX10_paired_31 ?_
            refine lm24 (i) rfl (by omega) dX10_paired_32 ?_
            refine x_if_lt 38 dX10_paired_33 (by decide) (fun c33 => ?_) (fun c33 => ?_)
            · have hx : ¬ prP m a i := fun q => q.2 c33
              refine x_iinc2 (nI (i + 1)) dX10_paired_38 (nI_add i 1) rfl rfl rfl ?_
              refine x_goto 2 dX10_paired_41 (by decide) ?_
              exact ih (i + 1) (by omega) (by omega) (lt_s hn hx)
            · refine x_iload2 dX10_paired_36 ?_
              refine x_iret dX10_paired_37 rfl ?_ (Nat.zero_le _) (Nat.zero_le _)
              exact ⟨Or.inl ⟨c6, i, c14, ⟨c24, c33⟩, hn, rfl⟩, rfl, rfl⟩
  refine xK.ofV (by decide) (Nat.le_of_ble_eq_true rfl) ?_
  refine xV.lveq (L' := [some (.ref MB), some (.int a), none]) rfl ?_
  refine x_iconst (nI 0) dX10_paired_0 (by decide) ?_
  refine x_istore2 dX10_paired_1 rfl rfl rfl ?_
  exact lp (nO m + 1) 0 (Nat.zero_le _) (by omega) (fun k hk => absurd hk (Nat.not_lt_zero k))

def wiR (m : mS) (a r : Int32) : Prop := (∃ i, prR m a (nI i) ∧ i < nO m ∧ r = m.1 19 (nv (m.1 24 i))) ∨ (prR m a (-1) ∧ r = -1)

set_option maxHeartbeats 4000000 in
theorem k_with (G : vx_G) (x : vx_H) (m : mS) (hP : iP m) (hW : iW m) (a : Int32) : xK G M_X10_with 1 [(.ref MB), (.int a)] NT (hp x m) 0 0 (QI (fun r n' h' => wiR m a r ∧ n' = NT ∧ h' = hp x m)) := by
  refine xK.ofV (by decide) (Nat.le_of_ble_eq_true rfl) ?_
  refine xV.lveq (L' := [some (.ref MB), some (.int a), none]) rfl ?_
  refine x_aload0 dX10_with_0 ?_
  refine x_iload1 dX10_with_1 ?_
  refine x_callV1i mvX10_181 (k_paired G x m hP a) mb_lt0 (hp_m0 _ _) (xRoom.of rfl) (Nat.le_of_ble_eq_true rfl) dX10_with_2 (fun r_ n_ h_ hq => ?_)
  obtain ⟨hq0, rfl, rfl⟩ := hq
  refine x_istore2 dX10_with_5 rfl rfl rfl ?_
  refine x_iload2 dX10_with_6 ?_
  refine x_if_ge 14 dX10_with_7 (by decide) (fun c7 => ?_) (fun c7 => ?_)
  · rcases id hq0 with ⟨h0, i, hi, ⟨p1, p2⟩, hn, rfl⟩ | ⟨h0, rfl⟩
    rotate_left
    · exact absurd c7 (by decide)
    have hO := hP.1.2
    have hT := hP.2.2
    have hw : m.1 24 i = nI (nv (m.1 24 i)) ∧ nv (m.1 24 i) < nTh2 m := (hW i hi).elim (fun z => absurd (z ▸ p2) (by decide)) id
    refine x_aload0 dX10_with_14 ?_
    refine gm19 fgX10_57 dX10_with_15 ?_
    refine x_aload0 dX10_with_18 ?_
    refine gm24 fgX10_67 dX10_with_19 ?_
    refine x_iload2 dX10_with_22 ?_
    refine lm24 (i) rfl (by omega) dX10_with_23 ?_
    refine xV.toi (nI (nv (m.1 24 i))) (hw.1) ?_
    refine lm19 (nv (m.1 24 i)) rfl (by omega) dX10_with_24 ?_
    refine x_iret dX10_with_25 rfl ?_ (Nat.zero_le _) (Nat.zero_le _)
    first | exact ⟨Or.inr ⟨hq0, rfl⟩, rfl, rfl⟩ | exact ⟨Or.inl ⟨i, hq0, hi, rfl⟩, rfl, rfl⟩
  · rcases id hq0 with ⟨h0, i, hi, ⟨p1, p2⟩, hn, rfl⟩ | ⟨h0, rfl⟩
    · exact absurd (nI_pos' (by have := hP.1.2; omega)) c7
    refine x_iconst (-1) dX10_with_10 (by decide) ?_
    refine x_goto 25 dX10_with_11 (by decide) ?_
    refine x_iret dX10_with_25 rfl ?_ (Nat.zero_le _) (Nat.zero_le _)
    first | exact ⟨Or.inr ⟨hq0, rfl⟩, rfl, rfl⟩ | exact ⟨Or.inl ⟨i, hq0, hi, rfl⟩, rfl, rfl⟩

def rvR (m : mS) (a r : Int32) (m' : mS) : Prop := (∃ i v, prR m a (nI i) ∧ i < nO m ∧ woR m i v m' ∧ r = v - m.1 25 0) ∨ (prR m a (-1) ∧ r = nI 1 ∧ m' = m)
theorem woR_25 {m m' : mS} {i : Nat} {r : Int32} (h : woR m i r m') : ∀ j, j ≠ 23 → j ≠ 26 → j ≠ 29 → m'.1 j = m.1 j := by
  intro j a1 a2 a3
  unfold woR at h
  by_cases h0 : m.1 26 i = 0
  · rw [if_pos h0] at h
    obtain ⟨m1, h1, rfl⟩ := h
    rw [mset_ne a2, mset_ne a3]
    exact h1.2.1 j a1
  · rw [if_neg h0] at h
    rw [h.2]

set_option maxHeartbeats 4000000 in
theorem k_rival (G : vx_G) (x : vx_H) (m : mS) (hP : iP m) (a : Int32) : xK G M_X10_rival 2 [(.ref MB), (.int a)] NT (hp x m) 0 0 (QI (fun r n' h' => n' = NT ∧ ∃ m', h' = hp x m' ∧ rvR m a r m')) := by
  refine xK.ofV (by decide) (Nat.le_of_ble_eq_true rfl) ?_
  refine xV.lveq (L' := [some (.ref MB), some (.int a), none]) rfl ?_
  refine x_aload0 dX10_rival_0 ?_
  refine x_iload1 dX10_rival_1 ?_
  refine x_callV1i mvX10_181 (k_paired G x m hP a) mb_lt0 (hp_m0 _ _) (xRoom.of rfl) (Nat.le_of_ble_eq_true rfl) dX10_rival_2 (fun r_ n_ h_ hq => ?_)
  obtain ⟨hq0, rfl, rfl⟩ := hq
  refine x_istore2 dX10_rival_5 rfl rfl rfl ?_
  refine x_iload2 dX10_rival_6 ?_
  refine x_if_ge 14 dX10_rival_7 (by decide) (fun c7 => ?_) (fun c7 => ?_)
  · rcases id hq0 with ⟨h0, i, hi, ⟨p1, p2⟩, hn, rfl⟩ | ⟨h0, rfl⟩
    rotate_left
    · exact absurd c7 (by decide)
    have hO := hP.1.2
    refine x_aload0 dX10_rival_14 ?_
    refine x_iload2 dX10_rival_15 ?_
    refine x_callV1i mvX10_185 (k_withoutPair G x m hP i (by omega)) mb_lt0 (hp_m0 _ _) (xRoom.of rfl) (Nat.le_of_ble_eq_true rfl) dX10_rival_16 (fun r_ n_ h_ hq => ?_)
    obtain ⟨rfl, m1, rfl, hR⟩ := hq
    refine x_aload0 dX10_rival_19 ?_
    refine gm25 fgX10_178 dX10_rival_20 ?_
    refine xV.toi (m.1 25 0) (by rw [woR_25 hR 25 (by decide) (by decide) (by decide)]) ?_
    refine x_isub dX10_rival_23 ?_
    refine x_iret dX10_rival_24 rfl ?_ (Nat.zero_le _) (Nat.zero_le _)
    refine ⟨rfl, _, rfl, ?_⟩
    first | exact Or.inl ⟨i, _, hq0, hi, hR, rfl⟩ | exact Or.inr ⟨hq0, rfl, rfl⟩
  · rcases id hq0 with ⟨h0, i, hi, ⟨p1, p2⟩, hn, rfl⟩ | ⟨h0, rfl⟩
    · exact absurd (nI_pos' (by have := hP.1.2; omega)) c7
    refine x_iconst (nI 1) dX10_rival_10 (by decide) ?_
    refine x_goto 24 dX10_rival_11 (by decide) ?_
    refine x_iret dX10_rival_24 rfl ?_ (Nat.zero_le _) (Nat.zero_le _)
    refine ⟨rfl, _, rfl, ?_⟩
    first | exact Or.inl ⟨i, _, hq0, hi, hR, rfl⟩ | exact Or.inr ⟨hq0, rfl, rfl⟩

def aiM (m : mS) (n : Nat) (o k : Int32) (v : Int64) : mS := if n < 18 then msetL (mset (mset m 37 n o) 38 n k) n v else m

set_option maxHeartbeats 4000000 in
theorem k_addItem (G : vx_G) (x : vx_H) (m : mS) (n : Nat) (hn : n < 1000) (o k : Int32) (v : Int64) : xK G M_X10_addItem 0 [(.ref MB), (.int (nI (n))), (.int o), (.int k), (.long v)] NT (hp x m) 0 0 (QI (fun r n' h' => r = nI (n + 1) ∧ n' = NT ∧ h' = hp x (aiM m n o k v))) := by
  refine xK.ofV (by decide) (Nat.le_of_ble_eq_true rfl) ?_
  refine xV.lveq (L' := [some (.ref MB), some (.int (nI (n))), some (.int o), some (.int k), some (.long v), none]) rfl ?_
  refine x_iload1 dX10_addItem_0 ?_
  refine x_bipush (nI 18) dX10_addItem_1 (by decide) ?_
  refine n_icmp_ge 28 dX10_addItem_3 (by decide) (by omega) (by omega) (fun c3 => ?_) (fun c3 => ?_)
  · refine x_iload1 dX10_addItem_28 ?_
    refine x_iconst (nI 1) dX10_addItem_29 (by decide) ?_
    refine n_iadd dX10_addItem_30 ?_
    refine x_iret dX10_addItem_31 rfl ?_ (Nat.zero_le _) (Nat.zero_le _)
    refine ⟨rfl, rfl, ?_⟩
    unfold aiM
    first | rw [if_pos c3] | rw [if_neg (by omega)]
  · refine x_aload0 dX10_addItem_6 ?_
    refine gm37 fgX10_91 dX10_addItem_7 ?_
    refine x_iload1 dX10_addItem_10 ?_
    refine x_iload2 dX10_addItem_11 ?_
    refine sm37 (n) rfl (by omega) dX10_addItem_12 ?_
    refine x_aload0 dX10_addItem_13 ?_
    refine gm38 fgX10_94 dX10_addItem_14 ?_
    refine x_iload1 dX10_addItem_17 ?_
    refine x_iload3 dX10_addItem_18 ?_
    refine sm38 (n) rfl (by omega) dX10_addItem_19 ?_
    refine x_aload0 dX10_addItem_20 ?_
    refine gm39 fgX10_97 dX10_addItem_21 ?_
    refine x_iload1 dX10_addItem_24 ?_
    refine x_lload4 dX10_addItem_25 ?_
    refine sm39 (n) rfl (by omega) dX10_addItem_27 ?_
    refine x_iload1 dX10_addItem_28 ?_
    refine x_iconst (nI 1) dX10_addItem_29 (by decide) ?_
    refine n_iadd dX10_addItem_30 ?_
    refine x_iret dX10_addItem_31 rfl ?_ (Nat.zero_le _) (Nat.zero_le _)
    refine ⟨rfl, rfl, ?_⟩
    unfold aiM
    first | rw [if_pos c3] | rw [if_neg (by omega)]
