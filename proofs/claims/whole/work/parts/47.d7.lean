/-! ===== the desk's methods, 7: group, what is left, sums, as, undo, count, check ===== -/
def gvD (d : mS) (g : Nat) (w : Int32) : Int32 := if w = 0 then d.1 10 g else if w = 1 then d.1 12 g else if w = 2 then zI (gDf d g) else if w = 3 then d.1 13 g else if w = 4 then d.1 14 g else if w = 5 then d.1 15 g else -20000000

set_option maxHeartbeats 4000000 in
theorem kd_group (G : vx_G) (d m : mS) (hG : iG d) (hM : iMs d) (g w : Int32) : xK G M_X9_group 1 [(.ref 0), (.int g), (.int w)] NT (hp (dk d) m) 0 0 (QI (fun r n' h' => r = (if isMd d g then gvD d (nv g) w else -20000000) ∧ n' = NT ∧ h' = hp (dk d) m)) := by
  refine xK.ofV (by decide) (Nat.le_of_ble_eq_true rfl) ?_
  refine xV.lveq (L' := [some (.ref 0), some (.int g), some (.int w), none]) rfl ?_
  refine x_iload1 dX9_group_0 ?_
  refine x_iconst (nI 0) dX9_group_1 (by decide) ?_
  refine x_aload0 dX9_group_2 ?_
  refine go0_6 fgX9_52 dX9_group_3 ?_
  refine x_iconst (nI 1) dX9_group_6 (by decide) ?_
  refine x_isub dX9_group_7 ?_
  refine x_callS3i msX9_75 (kd_isWithin G d m g (nI 0) (d.1 16 0 - nI 1)) (xRoom.of rfl) (Nat.le_of_ble_eq_true rfl) dX9_group_8 (fun r_ n_ h_ hq => ?_)
  obtain ⟨rfl, rfl, rfl⟩ := hq
  refine b_if_ne 17 dX9_group_11 (by decide) (fun c11 => ?_) (fun c11 => ?_)
  · have hl := (gr_iff hG).mp c11
    obtain ⟨eg, lg, l2⟩ := md_in hG hl
    have hb := hM _ lg
    refine x_aload0 dX9_group_17 ?_
    refine go0_1 fgX9_20 dX9_group_18 ?_
    refine x_iload1 dX9_group_21 ?_
    refine lGS (nv g) (eg) (by omega) dX9_group_22 ?_
    refine x_astore3 dX9_group_23 rfl rfl rfl ?_
    refine x_iload2 dX9_group_24 ?_
    by_cases cs0 : w = 0
    · refine x_tableIn 64 dX9_group_25 (by rw [cs0]; decide) (by rw [cs0]; decide) (off := 39) (by rw [cs0]; decide) (by decide) ?_
      refine x_aload3 dX9_group_64 ?_
      refine gG2 (by omega) fgX9_229 dX9_group_65 ?_
      refine x_iret dX9_group_68 rfl ?_ (Nat.zero_le _) (Nat.zero_le _)
      refine ⟨?_, rfl, rfl⟩
      rw [if_pos hl]
      clear eg hl c11 hb hG hM
      unfold gvD
      simp [*]
    by_cases cs1 : w = 1
    · refine x_tableIn 69 dX9_group_25 (by rw [cs1]; decide) (by rw [cs1]; decide) (off := 44) (by rw [cs1]; decide) (by decide) ?_
      refine x_aload3 dX9_group_69 ?_
      refine gG1 (by omega) fgX9_228 dX9_group_70 ?_
      refine x_iret dX9_group_73 rfl ?_ (Nat.zero_le _) (Nat.zero_le _)
      refine ⟨?_, rfl, rfl⟩
      rw [if_pos hl]
      clear eg hl c11 hb hG hM
      unfold gvD
      simp [*]
    by_cases cs2 : w = 2
    · refine x_tableIn 74 dX9_group_25 (by rw [cs2]; decide) (by rw [cs2]; decide) (off := 49) (by rw [cs2]; decide) (by decide) ?_
      refine x_aload3 dX9_group_74 ?_
      refine x_callV0i mvX9_239 (kd_difference G d m (nv g) (by omega) hb) (lt_G (by omega)) (hd_G (by omega)) (xRoom.of rfl) (Nat.le_of_ble_eq_true rfl) dX9_group_75 (fun r_ n_ h_ hq => ?_)
      obtain ⟨rfl, rfl, rfl⟩ := hq
      refine x_iret dX9_group_78 rfl ?_ (Nat.zero_le _) (Nat.zero_le _)
      refine ⟨?_, rfl, rfl⟩
      rw [if_pos hl]
      clear eg hl c11 hb hG hM
      unfold gvD
      simp [*]
    by_cases cs3 : w = 3
    · refine x_tableIn 79 dX9_group_25 (by rw [cs3]; decide) (by rw [cs3]; decide) (off := 54) (by rw [cs3]; decide) (by decide) ?_
      refine x_aload3 dX9_group_79 ?_
      refine gG3 (by omega) fgX9_243 dX9_group_80 ?_
      refine x_iret dX9_group_83 rfl ?_ (Nat.zero_le _) (Nat.zero_le _)
      refine ⟨?_, rfl, rfl⟩
      rw [if_pos hl]
      clear eg hl c11 hb hG hM
      unfold gvD
      simp [*]
    by_cases cs4 : w = 4
    · refine x_tableIn 84 dX9_group_25 (by rw [cs4]; decide) (by rw [cs4]; decide) (off := 59) (by rw [cs4]; decide) (by decide) ?_
      refine x_aload3 dX9_group_84 ?_
      refine gG4 (by omega) fgX9_232 dX9_group_85 ?_
      refine x_iret dX9_group_88 rfl ?_ (Nat.zero_le _) (Nat.zero_le _)
      refine ⟨?_, rfl, rfl⟩
      rw [if_pos hl]
      clear eg hl c11 hb hG hM
      unfold gvD
      simp [*]
    by_cases cs5 : w = 5
    · refine x_tableIn 89 dX9_group_25 (by rw [cs5]; decide) (by rw [cs5]; decide) (off := 64) (by rw [cs5]; decide) (by decide) ?_
      refine x_aload3 dX9_group_89 ?_
      refine gG5 (by omega) fgX9_225 dX9_group_90 ?_
      refine x_iret dX9_group_93 rfl ?_ (Nat.zero_le _) (Nat.zero_le _)
      refine ⟨?_, rfl, rfl⟩
      rw [if_pos hl]
      clear eg hl c11 hb hG hM
      unfold gvD
      simp [*]
    refine x_tableOut 94 dX9_group_25 (sw_out 6 (by decide) (fun k hk => by rcases (show k = 0 ∨ k = 1 ∨ k = 2 ∨ k = 3 ∨ k = 4 ∨ k = 5 by omega) with rfl | rfl | rfl | rfl | rfl | rfl <;> assumption)) (by decide) ?_
    refine x_ldc kcX9_238 dX9_group_94 ?_
    refine x_iret dX9_group_96 rfl ?_ (Nat.zero_le _) (Nat.zero_le _)
    refine ⟨?_, rfl, rfl⟩
    rw [if_pos hl]
    clear eg hl c11 hb hG hM
    unfold gvD
    simp [*]
  · refine x_ldc kcX9_238 dX9_group_14 ?_
    refine x_iret dX9_group_16 rfl ?_ (Nat.zero_le _) (Nat.zero_le _)
    exact ⟨(if_neg (fun q => c11 ((gr_iff hG).mpr q))).symm, rfl, rfl⟩

set_option maxHeartbeats 4000000 in
theorem kd_breaks (G : vx_G) (d m : mS) (hL : iL d) (hN : dN d) (b a : Int32) : xK G M_X9_breaks 2 [(.ref 0), (.int b), (.int a)] NT (hp (dk d) m) 0 0 (QI (fun r n' h' => r = (if isBk b ∧ 0 ≤ a then nI (fb_ct (brA d (nv b) a) (nL d (nv b))) else -1) ∧ n' = NT ∧ h' = hp (dk d) m)) := by
  refine xK.ofV (by decide) (Nat.le_of_ble_eq_true rfl) ?_
  refine xV.lveq (L' := [some (.ref 0), some (.int b), some (.int a)]) rfl ?_
  refine x_iload1 dX9_breaks_0 ?_
  refine x_callS1i msX9_69 (kd_isBook G d m b) (xRoom.of rfl) (Nat.le_of_ble_eq_true rfl) dX9_breaks_1 (fun r_ n_ h_ hq => ?_)
  obtain ⟨rfl, rfl, rfl⟩ := hq
  refine b_if_eq 28 dX9_breaks_4 (by decide) (fun c4 => ?_) (fun c4 => ?_)
  · refine x_iconst (-1) dX9_breaks_28 (by decide) ?_
    refine x_iret dX9_breaks_29 rfl ?_ (Nat.zero_le _) (Nat.zero_le _)
    first | exact ⟨(if_neg (fun q : isBk b ∧ 0 ≤ a => c4 q.1)).symm, rfl, rfl⟩ | exact ⟨(if_neg (fun q : isBk b ∧ 0 ≤ a => absurd q.2 (iNE.mpr c8))).symm, rfl, rfl⟩ | exact ⟨(if_pos (show isBk b ∧ 0 ≤ a from ⟨c4, iNL.mp c8⟩)).symm, rfl, rfl⟩
  · refine x_iload2 dX9_breaks_7 ?_
    refine x_if_lt 28 dX9_breaks_8 (by decide) (fun c8 => ?_) (fun c8 => ?_)
    · refine x_iconst (-1) dX9_breaks_28 (by decide) ?_
      refine x_iret dX9_breaks_29 rfl ?_ (Nat.zero_le _) (Nat.zero_le _)
      first | exact ⟨(if_neg (fun q : isBk b ∧ 0 ≤ a => c4 q.1)).symm, rfl, rfl⟩ | exact ⟨(if_neg (fun q : isBk b ∧ 0 ≤ a => absurd q.2 (iNE.mpr c8))).symm, rfl, rfl⟩ | exact ⟨(if_pos (show isBk b ∧ 0 ≤ a from ⟨c4, iNL.mp c8⟩)).symm, rfl, rfl⟩
    · refine x_aload0 dX9_breaks_11 ?_
      refine go0_0 fgX9_12 dX9_breaks_12 ?_
      refine x_iload1 dX9_breaks_15 ?_
      refine lBK (nv b) ((bk_nv c4).1) ((bk_nv c4).2) dX9_breaks_16 ?_
      refine x_iload2 dX9_breaks_17 ?_
      refine x_aload0 dX9_breaks_18 ?_
      refine go0_7 fgX9_56 dX9_breaks_19 ?_
      refine x_callV2i mvX9_132 (k_breaksAged G d m hL (nv b) (bk_nv c4).2 hN a) (lt_B _) (hd_B ((bk_nv c4).2)) (xRoom.of rfl) (Nat.le_of_ble_eq_true rfl) dX9_breaks_22 (fun r_ n_ h_ hq => ?_)
      obtain ⟨rfl, rfl, rfl⟩ := hq
      refine x_goto 29 dX9_breaks_25 (by decide) ?_
      refine x_iret dX9_breaks_29 rfl ?_ (Nat.zero_le _) (Nat.zero_le _)
      first | exact ⟨(if_neg (fun q : isBk b ∧ 0 ≤ a => c4 q.1)).symm, rfl, rfl⟩ | exact ⟨(if_neg (fun q : isBk b ∧ 0 ≤ a => absurd q.2 (iNE.mpr c8))).symm, rfl, rfl⟩ | exact ⟨(if_pos (show isBk b ∧ 0 ≤ a from ⟨c4, iNL.mp c8⟩)).symm, rfl, rfl⟩

set_option maxHeartbeats 4000000 in
theorem kd_broken (G : vx_G) (d m : mS) (hL : iL d) (hN : dN d) (b j : Int32) : xK G M_X9_broken 2 [(.ref 0), (.int b), (.int j)] NT (hp (dk d) m) 0 0 (QI (fun r n' h' => (if isBk b then brkR d (nv b) j r else r = -1) ∧ n' = NT ∧ h' = hp (dk d) m)) := by
  refine xK.ofV (by decide) (Nat.le_of_ble_eq_true rfl) ?_
  refine xV.lveq (L' := [some (.ref 0), some (.int b), some (.int j)]) rfl ?_
  refine x_iload1 dX9_broken_0 ?_
  refine x_callS1i msX9_69 (kd_isBook G d m b) (xRoom.of rfl) (Nat.le_of_ble_eq_true rfl) dX9_broken_1 (fun r_ n_ h_ hq => ?_)
  obtain ⟨rfl, rfl, rfl⟩ := hq
  refine b_if_eq 20 dX9_broken_4 (by decide) (fun c4 => ?_) (fun c4 => ?_)
  · refine x_iconst (-1) dX9_broken_20 (by decide) ?_
    refine x_iret dX9_broken_21 rfl ?_ (Nat.zero_le _) (Nat.zero_le _)
    first | exact ⟨by rw [if_pos c4]; exact hr, rfl, rfl⟩ | exact ⟨by rw [if_neg c4], rfl, rfl⟩
  · refine x_aload0 dX9_broken_7 ?_
    refine go0_0 fgX9_12 dX9_broken_8 ?_
    refine x_iload1 dX9_broken_11 ?_
    refine lBK (nv b) ((bk_nv c4).1) ((bk_nv c4).2) dX9_broken_12 ?_
    refine x_iload2 dX9_broken_13 ?_
    refine x_callV1i mvX9_246 (k_breakAt G d m hL (nv b) (bk_nv c4).2 hN j) (lt_B _) (hd_B ((bk_nv c4).2)) (xRoom.of rfl) (Nat.le_of_ble_eq_true rfl) dX9_broken_14 (fun r_ n_ h_ hq => ?_)
    obtain ⟨hr, rfl, rfl⟩ := hq
    refine x_goto 21 dX9_broken_17 (by decide) ?_
    refine x_iret dX9_broken_21 rfl ?_ (Nat.zero_le _) (Nat.zero_le _)
    first | exact ⟨by rw [if_pos c4]; exact hr, rfl, rfl⟩ | exact ⟨by rw [if_neg c4], rfl, rfl⟩

def smD (d : mS) (w : Int32) : Int64 := if w = 0 then (zI (bD d)).toInt64 else if w = 1 then (zI (fb_si (aB d 0) (nL d 0))).toInt64 else if w = 2 then (zI (fb_si (aB d 1) (nL d 1))).toInt64 else if w = 3 then (zI (fb_si (gT d) (nG d))).toInt64 else 0

set_option maxHeartbeats 4000000 in
theorem kd_sum (G : vx_G) (d m : mS) (hL : iL d) (hN : dN d) (hG : iG d) (hp_ : dP d) (hM : iMs d) (w : Int32) : xK G M_X9_sum 2 [(.ref 0), (.int w)] NT (hp (dk d) m) 0 0 (QJ (fun r n' h' => r = smD d w ∧ n' = NT ∧ h' = hp (dk d) m)) := by
  refine xK.ofV (by decide) (Nat.le_of_ble_eq_true rfl) ?_
  refine xV.lveq (L' := [some (.ref 0), some (.int w)]) rfl ?_
  refine x_iload1 dX9_sum_0 ?_
  by_cases cs0 : w = 0
  · refine x_tableIn 32 dX9_sum_1 (by rw [cs0]; decide) (by rw [cs0]; decide) (off := 31) (by rw [cs0]; decide) (by decide) ?_
    refine x_aload0 dX9_sum_32 ?_
    refine x_callV0i mvX9_249 (kd_booksDifference G d m hL) (show (0 : Nat) < NT by decide) (hd_at (a := 0) (by decide) rfl) (xRoom.of rfl) (Nat.le_of_ble_eq_true rfl) dX9_sum_33 (fun r_ n_ h_ hq => ?_)
    obtain ⟨rfl, rfl, rfl⟩ := hq
    refine x_i2l dX9_sum_36 ?_
    refine x_lret dX9_sum_37 rfl ?_ (Nat.zero_le _) (Nat.zero_le _)
    refine ⟨?_, rfl, rfl⟩
    unfold smD
    simp [*]
  by_cases cs1 : w = 1
  · refine x_tableIn 38 dX9_sum_1 (by rw [cs1]; decide) (by rw [cs1]; decide) (off := 37) (by rw [cs1]; decide) (by decide) ?_
    refine x_aload0 dX9_sum_38 ?_
    refine go0_0 fgX9_12 dX9_sum_39 ?_
    refine x_iconst (nI 0) dX9_sum_42 (by decide) ?_
    refine lBK (0) rfl (by omega) dX9_sum_43 ?_
    refine x_callV0i mvX9_252 (k_sumOfBreaks G d m hL 0 (by decide) hN) (lt_B _) (hd_B (by omega)) (xRoom.of rfl) (Nat.le_of_ble_eq_true rfl) dX9_sum_44 (fun r_ n_ h_ hq => ?_)
    obtain ⟨rfl, rfl, rfl⟩ := hq
    refine x_i2l dX9_sum_47 ?_
    refine x_lret dX9_sum_48 rfl ?_ (Nat.zero_le _) (Nat.zero_le _)
    refine ⟨?_, rfl, rfl⟩
    unfold smD
    simp [*]
  by_cases cs2 : w = 2
  · refine x_tableIn 49 dX9_sum_1 (by rw [cs2]; decide) (by rw [cs2]; decide) (off := 48) (by rw [cs2]; decide) (by decide) ?_
    refine x_aload0 dX9_sum_49 ?_
    refine go0_0 fgX9_12 dX9_sum_50 ?_
    refine x_iconst (nI 1) dX9_sum_53 (by decide) ?_
    refine lBK (1) rfl (by omega) dX9_sum_54 ?_
    refine x_callV0i mvX9_252 (k_sumOfBreaks G d m hL 1 (by decide) hN) (lt_B _) (hd_B (by omega)) (xRoom.of rfl) (Nat.le_of_ble_eq_true rfl) dX9_sum_55 (fun r_ n_ h_ hq => ?_)
    obtain ⟨rfl, rfl, rfl⟩ := hq
    refine x_i2l dX9_sum_58 ?_
    refine x_lret dX9_sum_59 rfl ?_ (Nat.zero_le _) (Nat.zero_le _)
    refine ⟨?_, rfl, rfl⟩
    unfold smD
    simp [*]
  by_cases cs3 : w = 3
  · refine x_tableIn 60 dX9_sum_1 (by rw [cs3]; decide) (by rw [cs3]; decide) (off := 59) (by rw [cs3]; decide) (by decide) ?_
    refine x_aload0 dX9_sum_60 ?_
    refine x_callV0i mvX9_255 (kd_groupsDifference G d m hG hp_ hM) (show (0 : Nat) < NT by decide) (hd_at (a := 0) (by decide) rfl) (xRoom.of rfl) (Nat.le_of_ble_eq_true rfl) dX9_sum_61 (fun r_ n_ h_ hq => ?_)
    obtain ⟨rfl, rfl, rfl⟩ := hq
    refine x_i2l dX9_sum_64 ?_
    refine x_lret dX9_sum_65 rfl ?_ (Nat.zero_le _) (Nat.zero_le _)
    refine ⟨?_, rfl, rfl⟩
    unfold smD
    simp [*]
  refine x_tableOut 66 dX9_sum_1 (sw_out 4 (by decide) (fun k hk => by rcases (show k = 0 ∨ k = 1 ∨ k = 2 ∨ k = 3 by omega) with rfl | rfl | rfl | rfl <;> assumption)) (by decide) ?_
  refine x_lconst 0 dX9_sum_66 (by decide) ?_
  refine x_lret dX9_sum_67 rfl ?_ (Nat.zero_le _) (Nat.zero_le _)
  refine ⟨?_, rfl, rfl⟩
  unfold smD
  simp [*]

def asD (d : mS) (dy w : Int32) : Int64 := if okAs d dy w then (if w = 0 then (nI (fb_ct (cU (cgD d dy (nG d)) 0 dy) (nL d 0)) + nI (fb_ct (cU (cgD d dy (nG d)) 1 dy) (nL d 1))).toInt64 else if w = 1 then (zI (fb_si (aU (cgD d dy (nG d)) 0 dy) (nL d 0)) - zI (fb_si (aU (cgD d dy (nG d)) 1 dy) (nL d 1))).toInt64 else (nI (fb_ct (wsB d dy) (nG d))).toInt64) else -2000000000000

set_option maxHeartbeats 4000000 in
theorem kd_as (G : vx_G) (d m : mS) (hL : iL d) (hG : iG d) (hp_ : dP d) (hM : iMs d) (dy w : Int32) : xK G M_X9_as 2 [(.ref 0), (.int dy), (.int w)] NT (hp (dk d) m) 0 0 (QJ (fun r n' h' => r = asD d dy w ∧ n' = NT ∧ h' = hp (dk (if okAs d dy w then (cgD d dy (nG d)) else d)) m)) := by
  refine xK.ofV (by decide) (Nat.le_of_ble_eq_true rfl) ?_
  refine xV.lveq (L' := [some (.ref 0), some (.int dy), some (.int w), none]) rfl ?_
  refine x_iload1 dX9_as_0 ?_
  refine x_iconst (nI 0) dX9_as_1 (by decide) ?_
  refine x_aload0 dX9_as_2 ?_
  refine go0_7 fgX9_56 dX9_as_3 ?_
  refine x_callS3i msX9_75 (kd_isWithin G d m dy (nI 0) (d.1 7 0)) (xRoom.of rfl) (Nat.le_of_ble_eq_true rfl) dX9_as_6 (fun r_ n_ h_ hq => ?_)
  obtain ⟨rfl, rfl, rfl⟩ := hq
  refine b_if_eq 21 dX9_as_9 (by decide) (fun c9 => ?_) (fun c9 => ?_)
  · refine x_ldc2 kcX9_258 dX9_as_21 ?_
    refine x_lret dX9_as_24 rfl ?_ (Nat.zero_le _) (Nat.zero_le _)
    first | exact ⟨(if_neg (fun q : okAs d dy w => c9 q.1)).symm, rfl, congrArg (fun z => hp (dk z) m) (if_neg (fun q : okAs d dy w => c9 q.1)).symm⟩ | exact ⟨(if_neg (fun q : okAs d dy w => c18 q.2)).symm, rfl, congrArg (fun z => hp (dk z) m) (if_neg (fun q : okAs d dy w => c18 q.2)).symm⟩
  · refine x_iload2 dX9_as_12 ?_
    refine x_iconst (nI 0) dX9_as_13 (by decide) ?_
    refine x_iconst (nI 2) dX9_as_14 (by decide) ?_
    refine x_callS3i msX9_75 (kd_isWithin G d m w (nI 0) (nI 2)) (xRoom.of rfl) (Nat.le_of_ble_eq_true rfl) dX9_as_15 (fun r_ n_ h_ hq => ?_)
    obtain ⟨rfl, rfl, rfl⟩ := hq
    refine b_if_ne 25 dX9_as_18 (by decide) (fun c18 => ?_) (fun c18 => ?_)
    · have hk : okAs d dy w := ⟨c9, c18⟩
      have hL2 : iL (cgD d dy (nG d)) := iL_k (cgD_ne d dy (by decide) (nG d)) hL
      refine x_aload0 dX9_as_25 ?_
      refine x_iload1 dX9_as_26 ?_
      refine x_callV1i mvX9_260 (kd_countHolders G d m hL hG hp_ hM dy) (show (0 : Nat) < NT by decide) (hd_at (a := 0) (by decide) rfl) (xRoom.of rfl) (Nat.le_of_ble_eq_true rfl) dX9_as_27 (fun r_ n_ h_ hq => ?_)
      obtain ⟨rfl, rfl, rfl⟩ := hq
      refine x_istore3 dX9_as_30 rfl rfl rfl ?_
      refine x_iload2 dX9_as_31 ?_
      by_cases cs0 : w = 0
      · refine x_lookup 60 dX9_as_32 (by decide) (off := 28) (by rw [cs0]; decide) (by decide) ?_
        refine x_aload0 dX9_as_60 ?_
        refine go0_0 fgX9_12 dX9_as_61 ?_
        refine x_iconst (nI 0) dX9_as_64 (by decide) ?_
        refine lBK (0) rfl (by omega) dX9_as_65 ?_
        refine x_iload1 dX9_as_66 ?_
        refine x_callV1i mvX9_263 (k_countUnheld G (cgD d dy (nG d)) m hL2 0 (by decide) dy) (lt_B _) (hd_B (by omega)) (xRoom.of rfl) (Nat.le_of_ble_eq_true rfl) dX9_as_67 (fun r_ n_ h_ hq => ?_)
        obtain ⟨rfl, rfl, rfl⟩ := hq
        rw [nL_k (b := 0) (cgD_ne d dy (by decide) (nG d))]
        refine x_aload0 dX9_as_70 ?_
        refine go0_0 fgX9_12 dX9_as_71 ?_
        refine x_iconst (nI 1) dX9_as_74 (by decide) ?_
        refine lBK (1) rfl (by omega) dX9_as_75 ?_
        refine x_iload1 dX9_as_76 ?_
        refine x_callV1i mvX9_263 (k_countUnheld G (cgD d dy (nG d)) m hL2 1 (by decide) dy) (lt_B _) (hd_B (by omega)) (xRoom.of rfl) (Nat.le_of_ble_eq_true rfl) dX9_as_77 (fun r_ n_ h_ hq => ?_)
        obtain ⟨rfl, rfl, rfl⟩ := hq
        rw [nL_k (b := 1) (cgD_ne d dy (by decide) (nG d))]
        refine x_iadd dX9_as_80 ?_
        refine x_i2l dX9_as_81 ?_
        refine x_lret dX9_as_82 rfl ?_ (Nat.zero_le _) (Nat.zero_le _)
        refine ⟨?_, rfl, congrArg (fun z => hp (dk z) m) (if_pos hk).symm⟩
        unfold asD
        rw [if_pos hk]
        first | exact (if_pos cs0).symm | exact ((if_neg cs0).trans (if_pos cs1)).symm | exact ((if_neg cs0).trans (if_neg cs1)).symm
      by_cases cs1 : w = 1
      · refine x_lookup 83 dX9_as_32 (by decide) (off := 51) (by rw [cs1]; decide) (by decide) ?_
        refine x_aload0 dX9_as_83 ?_
        refine go0_0 fgX9_12 dX9_as_84 ?_
        refine x_iconst (nI 0) dX9_as_87 (by decide) ?_
        refine lBK (0) rfl (by omega) dX9_as_88 ?_
        refine x_iload1 dX9_as_89 ?_
        refine x_callV1i mvX9_266 (k_sumUnheld G (cgD d dy (nG d)) m hL2 0 (by decide) dy) (lt_B _) (hd_B (by omega)) (xRoom.of rfl) (Nat.le_of_ble_eq_true rfl) dX9_as_90 (fun r_ n_ h_ hq => ?_)
        obtain ⟨rfl, rfl, rfl⟩ := hq
        rw [nL_k (b := 0) (cgD_ne d dy (by decide) (nG d))]
        refine x_aload0 dX9_as_93 ?_
        refine go0_0 fgX9_12 dX9_as_94 ?_
        refine x_iconst (nI 1) dX9_as_97 (by decide) ?_
        refine lBK (1) rfl (by omega) dX9_as_98 ?_
        refine x_iload1 dX9_as_99 ?_
        refine x_callV1i mvX9_266 (k_sumUnheld G (cgD d dy (nG d)) m hL2 1 (by decide) dy) (lt_B _) (hd_B (by omega)) (xRoom.of rfl) (Nat.le_of_ble_eq_true rfl) dX9_as_100 (fun r_ n_ h_ hq => ?_)
        obtain ⟨rfl, rfl, rfl⟩ := hq
        rw [nL_k (b := 1) (cgD_ne d dy (by decide) (nG d))]
        refine x_isub dX9_as_103 ?_
        refine x_i2l dX9_as_104 ?_
        refine x_lret dX9_as_105 rfl ?_ (Nat.zero_le _) (Nat.zero_le _)
        refine ⟨?_, rfl, congrArg (fun z => hp (dk z) m) (if_pos hk).symm⟩
        unfold asD
        rw [if_pos hk]
        first | exact (if_pos cs0).symm | exact ((if_neg cs0).trans (if_pos cs1)).symm | exact ((if_neg cs0).trans (if_neg cs1)).symm
      refine x_lookup 106 dX9_as_32 (by decide) (off := 74) (lk2 cs0 cs1) (by decide) ?_
      refine x_iload3 dX9_as_106 ?_
      refine x_i2l dX9_as_107 ?_
      refine x_lret dX9_as_108 rfl ?_ (Nat.zero_le _) (Nat.zero_le _)
      refine ⟨?_, rfl, congrArg (fun z => hp (dk z) m) (if_pos hk).symm⟩
      unfold asD
      rw [if_pos hk]
      first | exact (if_pos cs0).symm | exact ((if_neg cs0).trans (if_pos cs1)).symm | exact ((if_neg cs0).trans (if_neg cs1)).symm
    · refine x_ldc2 kcX9_258 dX9_as_21 ?_
      refine x_lret dX9_as_24 rfl ?_ (Nat.zero_le _) (Nat.zero_le _)
      first | exact ⟨(if_neg (fun q : okAs d dy w => c9 q.1)).symm, rfl, congrArg (fun z => hp (dk z) m) (if_neg (fun q : okAs d dy w => c9 q.1)).symm⟩ | exact ⟨(if_neg (fun q : okAs d dy w => c18 q.2)).symm, rfl, congrArg (fun z => hp (dk z) m) (if_neg (fun q : okAs d dy w => c18 q.2)).symm⟩

def actAt (d : mS) : Nat := (nX d + 59) % 60
def unD (d : mS) (k O : Nat) : mS := mset (tbD (tkD d) k O (d.1 53 (actAt d))) 50 0 (d.1 50 0 + nI 1)
def unOk (d : mS) (k O : Nat) : Prop := d.1 51 (actAt d) = nI k ∧ d.1 52 (actAt d) = nI O ∧ tbOk d k O
theorem tk_ne {d : mS} {j : Nat} (h : j ≠ 46) (h2 : j ≠ 54) : (tkD d).1 j = d.1 j := by
  unfold tkD
  rw [mset_ne h, mset_ne h2]
theorem tbOk_k {d d' : mS} {k O : Nat} (h6 : d'.1 6 = d.1 6) (h11 : d'.1 11 = d.1 11) (h12 : d'.1 12 = d.1 12) (h16 : d'.1 16 = d.1 16) (h : tbOk d k O) : tbOk d' k O := by
  unfold tbOk nL nG iMb nM mb at h ⊢
  rw [h6, h11, h12, h16]; exact h
theorem tb_ne {d : mS} {k O : Nat} {w : Int32} {j : Nat} (h : 17 ≤ j) : (tbD d k O w).1 j = d.1 j := by
  unfold tbD drD
  split
  · exact mset_ne (by omega)
  · split
    · rw [mset_ne (by omega), clM_ne (by omega)]
    · split
      · rw [mset_ne (by omega), mset_ne (by omega), mset_ne (by omega)]
      · split
        · rw [clM_ne (by omega), mset_ne (by omega)]
        · exact mset_ne (by omega)

set_option maxHeartbeats 4000000 in
theorem kd_undo (G : vx_G) (d m : mS) (hL : iL d) (hG : iG d) (hX : iX d) (hA : iA d) (k O : Nat) (hU : nA d ≠ 0 → unOk d k O) : xK G M_X9_undo 2 [(.ref 0)] NT (hp (dk d) m) 0 0 (QI (fun r n' h' => r = (if nA d = 0 then -1 else nI (nA d - 1)) ∧ n' = NT ∧ h' = hp (dk (if nA d = 0 then d else unD d k O)) m)) := by
  refine xK.ofV (by decide) (Nat.le_of_ble_eq_true rfl) ?_
  refine xV.lveq (L' := [some (.ref 0), none]) rfl ?_
  refine x_aload0 dX9_undo_0 ?_
  refine go0_2 fgX9_27 dX9_undo_1 ?_
  refine go167_4 fgX9_294 dX9_undo_4 ?_
  refine xV.toi (nI (nA d)) (hA.1) ?_
  refine n_if_ne 12 dX9_undo_7 (by decide) (by have := hA.2; omega) (fun c7 => ?_) (fun c7 => ?_)
  · obtain ⟨u1, u2, u3⟩ := hU c7
    have lx : actAt d < 60 := Nat.mod_lt _ (by decide)
    refine x_aload0 dX9_undo_12 ?_
    refine go0_2 fgX9_27 dX9_undo_13 ?_
    refine x_callV0i mvX9_295 (kd_takeLatest G d m hX hA c7) (show (167 : Nat) < NT by decide) (hd_at (a := 167) (by decide) rfl) (xRoom.of rfl) (Nat.le_of_ble_eq_true rfl) dX9_undo_16 (fun r_ n_ h_ hq => ?_)
    obtain ⟨rfl, rfl, rfl⟩ := hq
    refine x_istore1 dX9_undo_19 rfl rfl rfl ?_
    refine x_aload0 dX9_undo_20 ?_
    refine x_aload0 dX9_undo_21 ?_
    refine go0_2 fgX9_27 dX9_undo_22 ?_
    refine go167_0 fgX9_298 dX9_undo_25 ?_
    refine x_iload1 dX9_undo_28 ?_
    refine la168 (actAt d) rfl (by omega) dX9_undo_29 ?_
    refine xV.toi (nI (k)) ((by rw [tk_ne (by decide) (by decide)]; exact u1)) ?_
    refine x_aload0 dX9_undo_30 ?_
    refine go0_2 fgX9_27 dX9_undo_31 ?_
    refine go167_1 fgX9_301 dX9_undo_34 ?_
    refine x_iload1 dX9_undo_37 ?_
    refine la169 (actAt d) rfl (by omega) dX9_undo_38 ?_
    refine xV.toi (nI (O)) ((by rw [tk_ne (by decide) (by decide)]; exact u2)) ?_
    refine x_aload0 dX9_undo_39 ?_
    refine go0_2 fgX9_27 dX9_undo_40 ?_
    refine go167_2 fgX9_304 dX9_undo_43 ?_
    refine x_iload1 dX9_undo_46 ?_
    refine la170 (actAt d) rfl (by omega) dX9_undo_47 ?_
    refine xV.toi (d.1 53 (actAt d)) ((by rw [tk_ne (by decide) (by decide)])) ?_
    refine x_callV3v mvX9_307 (kd_takeBack G (tkD d) m (iL_k (tk_ne (by decide) (by decide)) hL) (iG_k (tk_ne (by decide) (by decide)) hG) k O (tbOk_k (tk_ne (by decide) (by decide)) (tk_ne (by decide) (by decide)) (tk_ne (by decide) (by decide)) (tk_ne (by decide) (by decide)) u3) (d.1 53 (actAt d))) (show (0 : Nat) < NT by decide) (hd_at (a := 0) (by decide) rfl) (xRoom.of rfl) (Nat.le_of_ble_eq_true rfl) dX9_undo_48 (fun n_ h_ hq => ?_)
    obtain ⟨rfl, rfl⟩ := hq
    refine x_aload0 dX9_undo_51 ?_
    refine x_dup dX9_undo_52 rfl ?_
    refine go0_10 fgX9_65 dX9_undo_53 ?_
    refine x_iconst (nI 1) dX9_undo_56 (by decide) ?_
    refine x_iadd dX9_undo_57 ?_
    refine xV.toi (d.1 50 0 + nI 1) ((by rw [tb_ne (by decide), tk_ne (by decide) (by decide)])) ?_
    refine po0_10 fpX9_65 dX9_undo_58 ?_
    refine x_aload0 dX9_undo_61 ?_
    refine go0_2 fgX9_27 dX9_undo_62 ?_
    refine go167_4 fgX9_294 dX9_undo_65 ?_
    refine xV.toi (nI (nA d - 1)) ((by rw [mset_ne (by decide), tb_ne (by decide)]; exact mset_at _ _ _ _)) ?_
    refine x_iret dX9_undo_68 rfl ?_ (Nat.zero_le _) (Nat.zero_le _)
    exact ⟨(if_neg c7).symm, rfl, congrArg (fun z => hp (dk z) m) (if_neg c7).symm⟩
  · refine x_iconst (-1) dX9_undo_10 (by decide) ?_
    refine x_iret dX9_undo_11 rfl ?_ (Nat.zero_le _) (Nat.zero_le _)
    exact ⟨(if_pos c7).symm, rfl, congrArg (fun z => hp (dk z) m) (if_pos c7).symm⟩

set_option maxHeartbeats 4000000 in
theorem kd_count (G : vx_G) (d m : mS) (hG : iG d) (hp_ : dP d) (w : Int32) : xK G M_X9_count 2 [(.ref 0), (.int w)] NT (hp (dk d) m) 0 0 (QI (fun r n' h' => r = cntV d w ∧ n' = NT ∧ h' = hp (dk d) m)) := by
  refine xK.ofV (by decide) (Nat.le_of_ble_eq_true rfl) ?_
  refine xV.lveq (L' := [some (.ref 0), some (.int w)]) rfl ?_
  refine x_iload1 dX9_count_0 ?_
  by_cases cs0 : w = 0
  · refine x_tableIn 40 dX9_count_1 (by rw [cs0]; decide) (by rw [cs0]; decide) (off := 39) (by rw [cs0]; decide) (by decide) ?_
    refine x_aload0 dX9_count_40 ?_
    refine go0_0 fgX9_12 dX9_count_41 ?_
    refine x_iconst (nI 0) dX9_count_44 (by decide) ?_
    refine lBK (0) rfl (by omega) dX9_count_45 ?_
    refine gB1 (by omega) fgX9_80 dX9_count_46 ?_
    refine x_iret dX9_count_49 rfl ?_ (Nat.zero_le _) (Nat.zero_le _)
    refine ⟨?_, rfl, rfl⟩
    unfold cntV nTh
    simp [*]
  by_cases cs1 : w = 1
  · refine x_tableIn 50 dX9_count_1 (by rw [cs1]; decide) (by rw [cs1]; decide) (off := 49) (by rw [cs1]; decide) (by decide) ?_
    refine x_aload0 dX9_count_50 ?_
    refine go0_0 fgX9_12 dX9_count_51 ?_
    refine x_iconst (nI 1) dX9_count_54 (by decide) ?_
    refine lBK (1) rfl (by omega) dX9_count_55 ?_
    refine gB1 (by omega) fgX9_80 dX9_count_56 ?_
    refine x_iret dX9_count_59 rfl ?_ (Nat.zero_le _) (Nat.zero_le _)
    refine ⟨?_, rfl, rfl⟩
    unfold cntV nTh
    simp [*]
  by_cases cs2 : w = 2
  · refine x_tableIn 60 dX9_count_1 (by rw [cs2]; decide) (by rw [cs2]; decide) (off := 59) (by rw [cs2]; decide) (by decide) ?_
    refine x_aload0 dX9_count_60 ?_
    refine go0_6 fgX9_52 dX9_count_61 ?_
    refine x_iret dX9_count_64 rfl ?_ (Nat.zero_le _) (Nat.zero_le _)
    refine ⟨?_, rfl, rfl⟩
    unfold cntV nTh
    simp [*]
  by_cases cs3 : w = 3
  · refine x_tableIn 65 dX9_count_1 (by rw [cs3]; decide) (by rw [cs3]; decide) (off := 64) (by rw [cs3]; decide) (by decide) ?_
    refine x_aload0 dX9_count_65 ?_
    refine x_callV0i mvX9_310 (kd_countThere G d m hG hp_) (show (0 : Nat) < NT by decide) (hd_at (a := 0) (by decide) rfl) (xRoom.of rfl) (Nat.le_of_ble_eq_true rfl) dX9_count_66 (fun r_ n_ h_ hq => ?_)
    obtain ⟨rfl, rfl, rfl⟩ := hq
    refine x_iret dX9_count_69 rfl ?_ (Nat.zero_le _) (Nat.zero_le _)
    refine ⟨?_, rfl, rfl⟩
    unfold cntV nTh
    simp [*]
  by_cases cs4 : w = 4
  · refine x_tableIn 70 dX9_count_1 (by rw [cs4]; decide) (by rw [cs4]; decide) (off := 69) (by rw [cs4]; decide) (by decide) ?_
    refine x_aload0 dX9_count_70 ?_
    refine go0_2 fgX9_27 dX9_count_71 ?_
    refine go167_4 fgX9_294 dX9_count_74 ?_
    refine x_iret dX9_count_77 rfl ?_ (Nat.zero_le _) (Nat.zero_le _)
    refine ⟨?_, rfl, rfl⟩
    unfold cntV nTh
    simp [*]
  by_cases cs5 : w = 5
  · refine x_tableIn 78 dX9_count_1 (by rw [cs5]; decide) (by rw [cs5]; decide) (off := 77) (by rw [cs5]; decide) (by decide) ?_
    refine x_aload0 dX9_count_78 ?_
    refine go0_7 fgX9_56 dX9_count_79 ?_
    refine x_iret dX9_count_82 rfl ?_ (Nat.zero_le _) (Nat.zero_le _)
    refine ⟨?_, rfl, rfl⟩
    unfold cntV nTh
    simp [*]
  refine x_tableOut 83 dX9_count_1 (sw_out 6 (by decide) (fun k hk => by rcases (show k = 0 ∨ k = 1 ∨ k = 2 ∨ k = 3 ∨ k = 4 ∨ k = 5 by omega) with rfl | rfl | rfl | rfl | rfl | rfl <;> assumption)) (by decide) ?_
  refine x_iconst (-1) dX9_count_83 (by decide) ?_
  refine x_iret dX9_count_84 rfl ?_ (Nat.zero_le _) (Nat.zero_le _)
  refine ⟨?_, rfl, rfl⟩
  unfold cntV nTh
  simp [*]

theorem fb_si_ext {f g : Nat → Int} {n : Nat} (h : ∀ k, k < n → f k = g k) : fb_si f n = fb_si g n := by
  induction n with
  | zero => rfl
  | succ n ih => rw [fb_si_succ, fb_si_succ, ih (fun k hk => h k (by omega)), h n (by omega)]
theorem bD_k {d d' : mS} (h0 : d'.1 0 = d.1 0) (h6 : d'.1 6 = d.1 6) : bD d' = bD d := by
  unfold bD aL nL; rw [h0, h6]
theorem aB_k {d d' : mS} (h0 : d'.1 0 = d.1 0) (h5 : d'.1 5 = d.1 5) : aB d' = aB d := by
  unfold aB; rw [h0, h5]
theorem gT_k {d d' : mS} (h0 : d'.1 0 = d.1 0) (h11 : d'.1 11 = d.1 11) (h12 : d'.1 12 = d.1 12) (h14 : d'.1 14 = d.1 14) : gT d' = gT d := by
  unfold gT gDf gAm nM mb; rw [h0, h11, h12, h14]
theorem nG_k {d d' : mS} (h : d'.1 16 = d.1 16) : nG d' = nG d := by unfold nG; rw [h]
theorem dN_k {d d' : mS} (h5 : d'.1 5 = d.1 5) (h6 : d'.1 6 = d.1 6) (h : dN d) : dN d' := by
  unfold dN nL at h ⊢; rw [h5, h6]; exact h
theorem dP_k {d d' : mS} (h14 : d'.1 14 = d.1 14) (h16 : d'.1 16 = d.1 16) (h : dP d) : dP d' := by
  unfold dP nG at h ⊢; rw [h14, h16]; exact h
theorem iMs_k {d d' : mS} (h11 : d'.1 11 = d.1 11) (h12 : d'.1 12 = d.1 12) (h16 : d'.1 16 = d.1 16) (h : iMs d) : iMs d' := by
  unfold iMs iMb nG nM mb at h ⊢; rw [h11, h12, h16]; exact h
theorem bbG_k {d d' : mS} (h11 : d'.1 11 = d.1 11) (h12 : d'.1 12 = d.1 12) (h14 : d'.1 14 = d.1 14) (h16 : d'.1 16 = d.1 16) (h : bbG d) : bbG d' := by
  unfold bbG b0P nG nM mb at h ⊢; rw [h11, h12, h14, h16]; exact h

set_option maxHeartbeats 4000000 in
theorem kd_check (G : vx_G) (d m : mS) (hL : iL d) (hN : dN d) (hG : iG d) (hp_ : dP d) (hM : iMs d) (h0 : hrA (cgD d (d.1 7 0) (nG d)) 0) (h1 : hrA (cgD d (d.1 7 0) (nG d)) 1) (hS : zI (bD d) = zI (fb_si (aB d 0) (nL d 0)) - zI (fb_si (aB d 1) (nL d 1)) + zI (fb_si (gT d) (nG d))) (hB : bbG d) : xK G M_X9_check 2 [(.ref 0)] NT (hp (dk d) m) 0 0 (QI (fun r n' h' => r = nI 0 ∧ n' = NT ∧ h' = hp (dk (cgD d (d.1 7 0) (nG d))) m)) := by
  refine xK.ofV (by decide) (Nat.le_of_ble_eq_true rfl) ?_
  refine xV.lveq (L' := [some (.ref 0), none]) rfl ?_
  refine x_aload0 dX9_check_0 ?_
  refine x_aload0 dX9_check_1 ?_
  refine go0_7 fgX9_56 dX9_check_2 ?_
  refine x_callV1i mvX9_260 (kd_countHolders G d m hL hG hp_ hM (d.1 7 0)) (show (0 : Nat) < NT by decide) (hd_at (a := 0) (by decide) rfl) (xRoom.of rfl) (Nat.le_of_ble_eq_true rfl) dX9_check_5 (fun r_ n_ h_ hq => ?_)
  obtain ⟨rfl, rfl, rfl⟩ := hq
  have zL2 : iL (cgD d (d.1 7 0) (nG d)) := iL_k (cgD_ne d (d.1 7 0) (by decide) (nG d)) hL
  have zN : dN (cgD d (d.1 7 0) (nG d)) := dN_k (cgD_ne d (d.1 7 0) (by decide) (nG d)) (cgD_ne d (d.1 7 0) (by decide) (nG d)) hN
  have zG : iG (cgD d (d.1 7 0) (nG d)) := iG_k (cgD_ne d (d.1 7 0) (by decide) (nG d)) hG
  have zP : dP (cgD d (d.1 7 0) (nG d)) := dP_k (cgD_ne d (d.1 7 0) (by decide) (nG d)) (cgD_ne d (d.1 7 0) (by decide) (nG d)) hp_
  have zM : iMs (cgD d (d.1 7 0) (nG d)) := iMs_k (cgD_ne d (d.1 7 0) (by decide) (nG d)) (cgD_ne d (d.1 7 0) (by decide) (nG d)) (cgD_ne d (d.1 7 0) (by decide) (nG d)) hM
  have zB : bbG (cgD d (d.1 7 0) (nG d)) := bbG_k (cgD_ne d (d.1 7 0) (by decide) (nG d)) (cgD_ne d (d.1 7 0) (by decide) (nG d)) (cgD_ne d (d.1 7 0) (by decide) (nG d)) (cgD_ne d (d.1 7 0) (by decide) (nG d)) hB
  refine x_pop dX9_check_8 rfl ?_
  refine x_iconst (nI 0) dX9_check_9 (by decide) ?_
  refine x_istore1 dX9_check_10 rfl rfl rfl ?_
  refine x_aload0 dX9_check_11 ?_
  refine go0_0 fgX9_12 dX9_check_12 ?_
  refine x_iconst (nI 0) dX9_check_15 (by decide) ?_
  refine lBK (0) rfl (by omega) dX9_check_16 ?_
  refine x_callV0i mvX9_313 (k_isHeldRightly G (cgD d (d.1 7 0) (nG d)) m zL2 0 (by decide) zN h0) (lt_B _) (hd_B (by omega)) (xRoom.of rfl) (Nat.le_of_ble_eq_true rfl) dX9_check_17 (fun r_ n_ h_ hq => ?_)
  obtain ⟨rfl, rfl, rfl⟩ := hq
  refine x_if_eq 35 dX9_check_20 (by decide) (fun c20 => absurd c20 (by decide)) (fun c20 => ?_)
  refine x_aload0 dX9_check_23 ?_
  refine go0_0 fgX9_12 dX9_check_24 ?_
  refine x_iconst (nI 1) dX9_check_27 (by decide) ?_
  refine lBK (1) rfl (by omega) dX9_check_28 ?_
  refine x_callV0i mvX9_313 (k_isHeldRightly G (cgD d (d.1 7 0) (nG d)) m zL2 1 (by decide) zN h1) (lt_B _) (hd_B (by omega)) (xRoom.of rfl) (Nat.le_of_ble_eq_true rfl) dX9_check_29 (fun r_ n_ h_ hq => ?_)
  obtain ⟨rfl, rfl, rfl⟩ := hq
  refine x_if_ne 38 dX9_check_32 (by decide) (fun c32 => ?_) (fun c32 => absurd c32 (by decide))
  refine x_aload0 dX9_check_38 ?_
  refine x_callV0i mvX9_249 (kd_booksDifference G (cgD d (d.1 7 0) (nG d)) m zL2) (show (0 : Nat) < NT by decide) (hd_at (a := 0) (by decide) rfl) (xRoom.of rfl) (Nat.le_of_ble_eq_true rfl) dX9_check_39 (fun r_ n_ h_ hq => ?_)
  obtain ⟨rfl, rfl, rfl⟩ := hq
  rw [bD_k (cgD_ne d (d.1 7 0) (by decide) (nG d)) (cgD_ne d (d.1 7 0) (by decide) (nG d))]
  refine x_aload0 dX9_check_42 ?_
  refine go0_0 fgX9_12 dX9_check_43 ?_
  refine x_iconst (nI 0) dX9_check_46 (by decide) ?_
  refine lBK (0) rfl (by omega) dX9_check_47 ?_
  refine x_callV0i mvX9_252 (k_sumOfBreaks G (cgD d (d.1 7 0) (nG d)) m zL2 0 (by decide) zN) (lt_B _) (hd_B (by omega)) (xRoom.of rfl) (Nat.le_of_ble_eq_true rfl) dX9_check_48 (fun r_ n_ h_ hq => ?_)
  obtain ⟨rfl, rfl, rfl⟩ := hq
  rw [aB_k (cgD_ne d (d.1 7 0) (by decide) (nG d)) (cgD_ne d (d.1 7 0) (by decide) (nG d)), nL_k (b := 0) (cgD_ne d (d.1 7 0) (by decide) (nG d))]
  refine x_aload0 dX9_check_51 ?_
  refine go0_0 fgX9_12 dX9_check_52 ?_
  refine x_iconst (nI 1) dX9_check_55 (by decide) ?_
  refine lBK (1) rfl (by omega) dX9_check_56 ?_
  refine x_callV0i mvX9_252 (k_sumOfBreaks G (cgD d (d.1 7 0) (nG d)) m zL2 1 (by decide) zN) (lt_B _) (hd_B (by omega)) (xRoom.of rfl) (Nat.le_of_ble_eq_true rfl) dX9_check_57 (fun r_ n_ h_ hq => ?_)
  obtain ⟨rfl, rfl, rfl⟩ := hq
  rw [aB_k (cgD_ne d (d.1 7 0) (by decide) (nG d)) (cgD_ne d (d.1 7 0) (by decide) (nG d)), nL_k (b := 1) (cgD_ne d (d.1 7 0) (by decide) (nG d))]
  refine x_isub dX9_check_60 ?_
  refine x_aload0 dX9_check_61 ?_
  refine x_callV0i mvX9_255 (kd_groupsDifference G (cgD d (d.1 7 0) (nG d)) m zG zP zM) (show (0 : Nat) < NT by decide) (hd_at (a := 0) (by decide) rfl) (xRoom.of rfl) (Nat.le_of_ble_eq_true rfl) dX9_check_62 (fun r_ n_ h_ hq => ?_)
  obtain ⟨rfl, rfl, rfl⟩ := hq
  rw [gT_k (cgD_ne d (d.1 7 0) (by decide) (nG d)) (cgD_ne d (d.1 7 0) (by decide) (nG d)) (cgD_ne d (d.1 7 0) (by decide) (nG d)) (cgD_ne d (d.1 7 0) (by decide) (nG d)), nG_k (cgD_ne d (d.1 7 0) (by decide) (nG d))]
  refine x_iadd dX9_check_65 ?_
  refine x_icmp_eq 72 dX9_check_66 (by decide) (fun c66 => ?_) (fun c66 => absurd hS c66)
  refine x_aload0 dX9_check_72 ?_
  refine x_callV0i mvX9_316 (kd_allHaveBothBooks G (cgD d (d.1 7 0) (nG d)) m zG zP zM zB) (show (0 : Nat) < NT by decide) (hd_at (a := 0) (by decide) rfl) (xRoom.of rfl) (Nat.le_of_ble_eq_true rfl) dX9_check_73 (fun r_ n_ h_ hq => ?_)
  obtain ⟨rfl, rfl, rfl⟩ := hq
  refine x_if_ne 82 dX9_check_76 (by decide) (fun c76 => ?_) (fun c76 => absurd c76 (by decide))
  refine x_iload1 dX9_check_82 ?_
  refine x_iret dX9_check_83 rfl ?_ (Nat.zero_le _) (Nat.zero_le _)
  exact ⟨rfl, rfl, rfl⟩
