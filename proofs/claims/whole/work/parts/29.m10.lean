/-! ===== the model's methods, 10: breaksOf, a pairing that does not stand ===== -/
def brF (m : mS) (f i : Nat) : Bool := decide (m.1 5 (f + i) < 0)
/-- the breaks behind f, the first i lines of them, stand in the array k by their order, up to 14 -/
def boI (m : mS) (k f i : Nat) (m' : mS) : Prop := m'.2 = m.2 ∧ (∀ j, j ≠ k → m'.1 j = m.1 j) ∧ ∀ a, a < i → brF m f a = true → fb_ct (brF m f) a < 14 → m'.1 k (fb_ct (brF m f) a) = nI a
theorem boI_no {m m' : mS} {k f i : Nat} (h : boI m k f i m') (hb : brF m f i = false) : boI m k f (i + 1) m' := by
  refine ⟨h.1, h.2.1, fun a ha hb2 hc => ?_⟩
  by_cases e : a = i
  · subst e
    rw [hb] at hb2
    cases hb2
  · exact h.2.2 a (by omega) hb2 hc
theorem boI_big {m m' : mS} {k f i : Nat} (h : boI m k f i m') (hb : 14 ≤ fb_ct (brF m f) i) : boI m k f (i + 1) m' := by
  refine ⟨h.1, h.2.1, fun a ha hb2 hc => ?_⟩
  by_cases e : a = i
  · subst e
    omega
  · exact h.2.2 a (by omega) hb2 hc
theorem boI_yes {m m' : mS} {k f i : Nat} (h : boI m k f i m') (hb : brF m f i = true) : boI m k f (i + 1) (mset m' k (fb_ct (brF m f) i) (nI i)) := by
  refine ⟨h.1, fun j hj => by rw [mset_ne hj]; exact h.2.1 j hj, fun a ha hb2 hc => ?_⟩
  by_cases e : a = i
  · subst e
    exact mset_at _ _ _ _
  · have h1 := fb_ct_mono (brF m f) (show a + 1 ≤ i by omega)
    rw [fb_ct_succ, hb2, if_pos rfl] at h1
    rw [mset_off (by omega)]
    exact h.2.2 a (by omega) hb2 hc

set_option maxHeartbeats 4000000 in
theorem k_breaksOf18 (G : vx_G) (x : vx_H) (m : mS) (f t : Nat) (hft : f ≤ t) (ht : t ≤ 160) : xK G M_X10_breaksOf 0 [(.ref (MB + 14)), (.int (nI (f))), (.int (nI (t))), (.ref (MB + 6))] NT (hp x m) 0 0 (QI (fun r n' h' => n' = NT ∧ ∃ m', h' = hp x m' ∧ boI m 18 f (t - f) m' ∧ r = nI (fb_ct (brF m f) (t - f)))) := by
  have lp : ∀ (n_ : Nat) (i c : Nat) (m' : mS), i ≤ t - f → t - f + 1 ≤ i + n_ → (c = fb_ct (brF m f) i) → (boI m 18 f i m') → xV (mF G M_X10_breaksOf 0 0 0 (QI (fun r n' h' => n' = NT ∧ ∃ m', h' = hp x m' ∧ boI m 18 f (t - f) m' ∧ r = nI (fb_ct (brF m f) (t - f))))) 6 [some (.ref (MB + 14)), some (.int (nI (f))), some (.int (nI (t))), some (.ref (MB + 6)), some (.int (nI (c))), some (.int (nI (f + i)))] [] NT (hp x m') 0 0 := by
    intro n_
    induction n_ with
    | zero => intro i c m' hi_ hn_; omega
    | succ n_ ih =>
      intro i c m' hi_ hn_ hc hR
      have hct := fb_ct_le (brF m f) i
      have e5 : m'.1 5 = m.1 5 := hR.2.1 5 (by decide)
      refine x_iload5 dX10_breaksOf_6 ?_
      refine x_iload2 dX10_breaksOf_8 ?_
      refine n_icmp_ge 43 dX10_breaksOf_9 (by decide) (by omega) (by omega) (fun c9 => ?_) (fun c9 => ?_)
      · refine x_iload4 dX10_breaksOf_43 ?_
        refine x_iret dX10_breaksOf_45 rfl ?_ (Nat.zero_le _) (Nat.zero_le _)
        exact ⟨rfl, m', rfl, by rw [show i = t - f by omega] at hR; exact hR, by rw [hc, show i = t - f by omega]⟩
      · refine x_aload3 dX10_breaksOf_12 ?_
        refine x_iload5 dX10_breaksOf_13 ?_
        refine lm5 (f + i) rfl (by omega) dX10_breaksOf_15 ?_
        refine x_if_ge 37 dX10_breaksOf_16 (by decide) (fun c16 => ?_) (fun c16 => ?_)
        · have hb : brF m f i = false := decide_eq_false (by rw [← e5]; exact iNL.mpr c16)
          refine x_iinc5 (nI (f + i + 1)) dX10_breaksOf_37 (nI_add (f + i) 1) rfl rfl rfl ?_
          refine x_goto 6 dX10_breaksOf_40 (by decide) ?_
          exact ih (i + 1) c m' (by omega) (by omega) (by rw [fb_ct_succ, hb, ← hc]; rfl) (boI_no hR hb)
        · have hb : brF m f i = true := decide_eq_true (by rw [← e5]; exact iNE.mp c16)
          refine x_iload4 dX10_breaksOf_19 ?_
          refine x_aload0 dX10_breaksOf_21 ?_
          refine x_alen (v := nI 14) (by decide) (mb_lt (by decide)) (hp_m _ _ 14) rfl dX10_breaksOf_22 ?_
          refine n_icmp_ge 34 dX10_breaksOf_23 (by decide) (by omega) (by omega) (fun c23 => ?_) (fun c23 => ?_)
          · have hR2 := boI_big hR (by omega)
            refine x_iinc4 (nI (c + 1)) dX10_breaksOf_34 (nI_add c 1) rfl rfl rfl ?_
            refine x_iinc5 (nI (f + i + 1)) dX10_breaksOf_37 (nI_add (f + i) 1) rfl rfl rfl ?_
            refine x_goto 6 dX10_breaksOf_40 (by decide) ?_
            exact ih (i + 1) _ _ (by omega) (by omega) (by rw [fb_ct_succ, hb, if_pos rfl, ← hc]) hR2
          · have hR2 := boI_yes hR hb
            rw [← hc] at hR2
            refine x_aload0 dX10_breaksOf_26 ?_
            refine x_iload4 dX10_breaksOf_27 ?_
            refine x_iload5 dX10_breaksOf_29 ?_
            refine x_iload1 dX10_breaksOf_31 ?_
            refine n_isub dX10_breaksOf_32 (by omega) ?_
            refine xV.toi (nI (i)) (by rw [Nat.add_sub_cancel_left]) ?_
            refine sm18 (c) rfl (by omega) dX10_breaksOf_33 ?_
            refine x_iinc4 (nI (c + 1)) dX10_breaksOf_34 (nI_add c 1) rfl rfl rfl ?_
            refine x_iinc5 (nI (f + i + 1)) dX10_breaksOf_37 (nI_add (f + i) 1) rfl rfl rfl ?_
            refine x_goto 6 dX10_breaksOf_40 (by decide) ?_
            exact ih (i + 1) _ _ (by omega) (by omega) (by rw [fb_ct_succ, hb, if_pos rfl, ← hc]) hR2
  refine xK.ofV (by decide) (Nat.le_of_ble_eq_true rfl) ?_
  refine xV.lveq (L' := [some (.ref (MB + 14)), some (.int (nI (f))), some (.int (nI (t))), some (.ref (MB + 6)), none, none]) rfl ?_
  refine x_iconst (nI 0) dX10_breaksOf_0 (by decide) ?_
  refine x_istore4 dX10_breaksOf_1 rfl rfl rfl ?_
  refine x_iload1 dX10_breaksOf_3 ?_
  refine x_istore5 dX10_breaksOf_4 rfl rfl rfl ?_
  exact lp (t - f + 1) 0 0 m (Nat.zero_le _) (by omega) rfl ⟨rfl, fun _ _ => rfl, fun a ha => absurd ha (Nat.not_lt_zero a)⟩

set_option maxHeartbeats 4000000 in
theorem k_breaksOf19 (G : vx_G) (x : vx_H) (m : mS) (f t : Nat) (hft : f ≤ t) (ht : t ≤ 160) : xK G M_X10_breaksOf 0 [(.ref (MB + 15)), (.int (nI (f))), (.int (nI (t))), (.ref (MB + 6))] NT (hp x m) 0 0 (QI (fun r n' h' => n' = NT ∧ ∃ m', h' = hp x m' ∧ boI m 19 f (t - f) m' ∧ r = nI (fb_ct (brF m f) (t - f)))) := by
  have lp : ∀ (n_ : Nat) (i c : Nat) (m' : mS), i ≤ t - f → t - f + 1 ≤ i + n_ → (c = fb_ct (brF m f) i) → (boI m 19 f i m') → xV (mF G M_X10_breaksOf 0 0 0 (QI (fun r n' h' => n' = NT ∧ ∃ m', h' = hp x m' ∧ boI m 19 f (t - f) m' ∧ r = nI (fb_ct (brF m f) (t - f))))) 6 [some (.ref (MB + 15)), some (.int (nI (f))), some (.int (nI (t))), some (.ref (MB + 6)), some (.int (nI (c))), some (.int (nI (f + i)))] [] NT (hp x m') 0 0 := by
    intro n_
    induction n_ with
    | zero => intro i c m' hi_ hn_; omega
    | succ n_ ih =>
      intro i c m' hi_ hn_ hc hR
      have hct := fb_ct_le (brF m f) i
      have e5 : m'.1 5 = m.1 5 := hR.2.1 5 (by decide)
      refine x_iload5 dX10_breaksOf_6 ?_
      refine x_iload2 dX10_breaksOf_8 ?_
      refine n_icmp_ge 43 dX10_breaksOf_9 (by decide) (by omega) (by omega) (fun c9 => ?_) (fun c9 => ?_)
      · refine x_iload4 dX10_breaksOf_43 ?_
        refine x_iret dX10_breaksOf_45 rfl ?_ (Nat.zero_le _) (Nat.zero_le _)
        exact ⟨rfl, m', rfl, by rw [show i = t - f by omega] at hR; exact hR, by rw [hc, show i = t - f by omega]⟩
      · refine x_aload3 dX10_breaksOf_12 ?_
        refine x_iload5 dX10_breaksOf_13 ?_
        refine lm5 (f + i) rfl (by omega) dX10_breaksOf_15 ?_
        refine x_if_ge 37 dX10_breaksOf_16 (by decide) (fun c16 => ?_) (fun c16 => ?_)
        · have hb : brF m f i = false := decide_eq_false (by rw [← e5]; exact iNL.mpr c16)
          refine x_iinc5 (nI (f + i + 1)) dX10_breaksOf_37 (nI_add (f + i) 1) rfl rfl rfl ?_
          refine x_goto 6 dX10_breaksOf_40 (by decide) ?_
          exact ih (i + 1) c m' (by omega) (by omega) (by rw [fb_ct_succ, hb, ← hc]; rfl) (boI_no hR hb)
        · have hb : brF m f i = true := decide_eq_true (by rw [← e5]; exact iNE.mp c16)
          refine x_iload4 dX10_breaksOf_19 ?_
          refine x_aload0 dX10_breaksOf_21 ?_
          refine x_alen (v := nI 14) (by decide) (mb_lt (by decide)) (hp_m _ _ 15) rfl dX10_breaksOf_22 ?_
          refine n_icmp_ge 34 dX10_breaksOf_23 (by decide) (by omega) (by omega) (fun c23 => ?_) (fun c23 => ?_)
          · have hR2 := boI_big hR (by omega)
            refine x_iinc4 (nI (c + 1)) dX10_breaksOf_34 (nI_add c 1) rfl rfl rfl ?_
            refine x_iinc5 (nI (f + i + 1)) dX10_breaksOf_37 (nI_add (f + i) 1) rfl rfl rfl ?_
            refine x_goto 6 dX10_breaksOf_40 (by decide) ?_
            exact ih (i + 1) _ _ (by omega) (by omega) (by rw [fb_ct_succ, hb, if_pos rfl, ← hc]) hR2
          · have hR2 := boI_yes hR hb
            rw [← hc] at hR2
            refine x_aload0 dX10_breaksOf_26 ?_
            refine x_iload4 dX10_breaksOf_27 ?_
            refine x_iload5 dX10_breaksOf_29 ?_
            refine x_iload1 dX10_breaksOf_31 ?_
            refine n_isub dX10_breaksOf_32 (by omega) ?_
            refine xV.toi (nI (i)) (by rw [Nat.add_sub_cancel_left]) ?_
            refine sm19 (c) rfl (by omega) dX10_breaksOf_33 ?_
            refine x_iinc4 (nI (c + 1)) dX10_breaksOf_34 (nI_add c 1) rfl rfl rfl ?_
            refine x_iinc5 (nI (f + i + 1)) dX10_breaksOf_37 (nI_add (f + i) 1) rfl rfl rfl ?_
            refine x_goto 6 dX10_breaksOf_40 (by decide) ?_
            exact ih (i + 1) _ _ (by omega) (by omega) (by rw [fb_ct_succ, hb, if_pos rfl, ← hc]) hR2
  refine xK.ofV (by decide) (Nat.le_of_ble_eq_true rfl) ?_
  refine xV.lveq (L' := [some (.ref (MB + 15)), some (.int (nI (f))), some (.int (nI (t))), some (.ref (MB + 6)), none, none]) rfl ?_
  refine x_iconst (nI 0) dX10_breaksOf_0 (by decide) ?_
  refine x_istore4 dX10_breaksOf_1 rfl rfl rfl ?_
  refine x_iload1 dX10_breaksOf_3 ?_
  refine x_istore5 dX10_breaksOf_4 rfl rfl rfl ?_
  exact lp (t - f + 1) 0 0 m (Nat.zero_le _) (by omega) rfl ⟨rfl, fun _ _ => rfl, fun a ha => absurd ha (Nat.not_lt_zero a)⟩

set_option maxHeartbeats 4000000 in
theorem k_paired0 (G : vx_G) (x : vx_H) (m : mS) (h0 : m.1 17 0 = 0) (a : Int32) : xK G M_X10_paired 0 [(.ref MB), (.int a)] NT (hp x m) 0 0 (QI (fun r n' h' => r = -1 ∧ n' = NT ∧ h' = hp x m)) := by
  refine xK.ofV (by decide) (Nat.le_of_ble_eq_true rfl) ?_
  refine xV.lveq (L' := [some (.ref MB), some (.int a), none]) rfl ?_
  refine x_iconst (nI 0) dX10_paired_0 (by decide) ?_
  refine x_istore2 dX10_paired_1 rfl rfl rfl ?_
  refine x_aload0 dX10_paired_2 ?_
  refine gm17 fgX10_123 dX10_paired_3 ?_
  refine x_if_eq 44 dX10_paired_6 (by decide) (fun c6 => ?_) (fun c6 => absurd h0 c6)
  refine x_iconst (-1) dX10_paired_44 (by decide) ?_
  refine x_iret dX10_paired_45 rfl ?_ (Nat.zero_le _) (Nat.zero_le _)
  exact ⟨rfl, rfl, rfl⟩

set_option maxHeartbeats 4000000 in
theorem k_with0 (G : vx_G) (x : vx_H) (m : mS) (h0 : m.1 17 0 = 0) (a : Int32) : xK G M_X10_with 1 [(.ref MB), (.int a)] NT (hp x m) 0 0 (QI (fun r n' h' => r = -1 ∧ n' = NT ∧ h' = hp x m)) := by
  refine xK.ofV (by decide) (Nat.le_of_ble_eq_true rfl) ?_
  refine xV.lveq (L' := [some (.ref MB), some (.int a), none]) rfl ?_
  refine x_aload0 dX10_with_0 ?_
  refine x_iload1 dX10_with_1 ?_
  refine x_callV1i mvX10_181 (k_paired0 G x m h0 a) mb_lt0 (hp_m0 _ _) (xRoom.of rfl) (Nat.le_of_ble_eq_true rfl) dX10_with_2 (fun r_ n_ h_ hq => ?_)
  obtain ⟨rfl, rfl, rfl⟩ := hq
  refine x_istore2 dX10_with_5 rfl rfl rfl ?_
  refine x_iload2 dX10_with_6 ?_
  refine x_if_ge 14 dX10_with_7 (by decide) (fun c7 => absurd c7 (by decide)) (fun c7 => ?_)
  refine x_iconst (-1) dX10_with_10 (by decide) ?_
  refine x_goto 25 dX10_with_11 (by decide) ?_
  refine x_iret dX10_with_25 rfl ?_ (Nat.zero_le _) (Nat.zero_le _)
  exact ⟨rfl, rfl, rfl⟩

set_option maxHeartbeats 4000000 in
theorem k_rival0 (G : vx_G) (x : vx_H) (m : mS) (h0 : m.1 17 0 = 0) (a : Int32) : xK G M_X10_rival 1 [(.ref MB), (.int a)] NT (hp x m) 0 0 (QI (fun r n' h' => r = nI 1 ∧ n' = NT ∧ h' = hp x m)) := by
  refine xK.ofV (by decide) (Nat.le_of_ble_eq_true rfl) ?_
  refine xV.lveq (L' := [some (.ref MB), some (.int a), none]) rfl ?_
  refine x_aload0 dX10_rival_0 ?_
  refine x_iload1 dX10_rival_1 ?_
  refine x_callV1i mvX10_181 (k_paired0 G x m h0 a) mb_lt0 (hp_m0 _ _) (xRoom.of rfl) (Nat.le_of_ble_eq_true rfl) dX10_rival_2 (fun r_ n_ h_ hq => ?_)
  obtain ⟨rfl, rfl, rfl⟩ := hq
  refine x_istore2 dX10_rival_5 rfl rfl rfl ?_
  refine x_iload2 dX10_rival_6 ?_
  refine x_if_ge 14 dX10_rival_7 (by decide) (fun c7 => absurd c7 (by decide)) (fun c7 => ?_)
  refine x_iconst (nI 1) dX10_rival_10 (by decide) ?_
  refine x_goto 24 dX10_rival_11 (by decide) ?_
  refine x_iret dX10_rival_24 rfl ?_ (Nat.zero_le _) (Nat.zero_le _)
  exact ⟨rfl, rfl, rfl⟩
