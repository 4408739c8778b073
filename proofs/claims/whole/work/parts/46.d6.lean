/-! ===== the desk's methods, 6: line, today, terms, told, fit, hands, groups ===== -/
theorem lk2 {x : Int32} {a b d : Int} (h0 : ¬ x = 0) (h1 : ¬ x = 1) : Op.lookupswitch.offset [(0, a), (1, b)] d x.toInt = d := by
  rw [Op.lookupswitch.offset_cons, if_neg, Op.lookupswitch.offset_cons, if_neg, Op.lookupswitch.offset_nil]
  · intro q; apply h1; rw [zI_of x, ← q]; decide
  · intro q; apply h0; rw [zI_of x, ← q]; decide
def lineD (d : mS) (b v dm w r : Int32) (d' : mS) : Prop := if okLn b v dm w then (if nL d (nv b) = 80 then r = -5 ∧ d' = d else r = nI (nL d (nv b)) ∧ d' = coD (lineM d (nv b) v (nv dm) w) (nI 0) b (nI 0)) else r = -1 ∧ d' = d
theorem lineD_no {d : mS} {b v dm w : Int32} (h : ¬ okLn b v dm w) : lineD d b v dm w (-1) d := by unfold lineD; rw [if_neg h]; exact ⟨rfl, rfl⟩
theorem lineD_full {d : mS} {b v dm w : Int32} (h : okLn b v dm w) (h1 : nL d (nv b) = 80) : lineD d b v dm w (-5) d := by unfold lineD; rw [if_pos h, if_pos h1]; exact ⟨rfl, rfl⟩
theorem lineD_yes {d : mS} {b v dm w : Int32} (h : okLn b v dm w) (h1 : ¬ nL d (nv b) = 80) : lineD d b v dm w (nI (nL d (nv b))) (coD (lineM d (nv b) v (nv dm) w) (nI 0) b (nI 0)) := by unfold lineD; rw [if_pos h, if_neg h1]; exact ⟨rfl, rfl⟩
theorem wr_ne {d : mS} {a : Nat} {v dy mk w kn : Int32} {j : Nat} (h : 6 ≤ j) : (wrD d a v dy mk w kn).1 j = d.1 j := by
  unfold wrD
  rw [mset_ne (by omega), mset_ne (by omega), mset_ne (by omega), mset_ne (by omega), mset_ne (by omega), mset_ne (by omega)]
theorem coD_ne {d : mS} {kd o w : Int32} {j : Nat} (h : j ≠ 46) (h1 : j < 50) : (coD d kd o w).1 j = d.1 j := by
  unfold coD puD
  rw [mset_ne (by omega), mset_ne h, mset_ne (by omega), mset_ne (by omega), mset_ne (by omega), mset_ne (by omega)]

theorem lineM_ne {d : mS} {B D : Nat} {v w : Int32} {j : Nat} (h : 7 ≤ j) : (lineM d B v D w).1 j = d.1 j := by
  unfold lineM
  rw [mset_ne (by omega), mset_ne (by omega), mset_ne (by omega), mset_ne (by omega), mset_ne (by omega), mset_ne (by omega), mset_ne (by omega)]

set_option maxHeartbeats 4000000 in
theorem kd_line (G : vx_G) (d m : mS) (hL : iL d) (hX : iX d) (hA : iA d) (b v dm w : Int32) : xK G M_X9_line 3 [(.ref 0), (.int b), (.int v), (.int dm), (.int w)] NT (hp (dk d) m) 0 0 (QI (fun r n' h' => n' = NT ∧ ∃ d', h' = hp (dk d') m ∧ lineD d b v dm w r d')) := by
  refine xK.ofV (by decide) (Nat.le_of_ble_eq_true rfl) ?_
  refine xV.lveq (L' := [some (.ref 0), some (.int b), some (.int v), some (.int dm), some (.int w), none]) rfl ?_
  refine x_iload1 dX9_line_0 ?_
  refine x_callS1i msX9_69 (kd_isBook G d m b) (xRoom.of rfl) (Nat.le_of_ble_eq_true rfl) dX9_line_1 (fun r_ n_ h_ hq => ?_)
  obtain ⟨rfl, rfl, rfl⟩ := hq
  refine b_if_eq 43 dX9_line_4 (by decide) (fun c4 => ?_) (fun c4 => ?_)
  · refine x_iconst (-1) dX9_line_43 (by decide) ?_
    refine x_iret dX9_line_44 rfl ?_ (Nat.zero_le _) (Nat.zero_le _)
    first | exact ⟨rfl, _, rfl, lineD_no (fun q => c4 q.1)⟩ | exact ⟨rfl, _, rfl, lineD_no (fun q => q.2.2.1 c8)⟩ | exact ⟨rfl, _, rfl, lineD_no (fun q => c19 q.2.1)⟩ | exact ⟨rfl, _, rfl, lineD_no (fun q => c29 q.2.2.2.1)⟩ | exact ⟨rfl, _, rfl, lineD_no (fun q => c40 q.2.2.2.2)⟩
  · refine x_iload2 dX9_line_7 ?_
    refine x_if_eq 43 dX9_line_8 (by decide) (fun c8 => ?_) (fun c8 => ?_)
    · refine x_iconst (-1) dX9_line_43 (by decide) ?_
      refine x_iret dX9_line_44 rfl ?_ (Nat.zero_le _) (Nat.zero_le _)
      first | exact ⟨rfl, _, rfl, lineD_no (fun q => c4 q.1)⟩ | exact ⟨rfl, _, rfl, lineD_no (fun q => q.2.2.1 c8)⟩ | exact ⟨rfl, _, rfl, lineD_no (fun q => c19 q.2.1)⟩ | exact ⟨rfl, _, rfl, lineD_no (fun q => c29 q.2.2.2.1)⟩ | exact ⟨rfl, _, rfl, lineD_no (fun q => c40 q.2.2.2.2)⟩
    · refine x_iload2 dX9_line_11 ?_
      refine x_ldc kcX9_73 dX9_line_12 ?_
      refine x_ldc kcX9_74 dX9_line_14 ?_
      refine xV.toi (nI 1000000) (by decide) ?_
      refine x_callS3i msX9_75 (kd_isWithin G d m v (-1000000) (nI 1000000)) (xRoom.of rfl) (Nat.le_of_ble_eq_true rfl) dX9_line_16 (fun r_ n_ h_ hq => ?_)
      obtain ⟨rfl, rfl, rfl⟩ := hq
      refine b_if_eq 43 dX9_line_19 (by decide) (fun c19 => ?_) (fun c19 => ?_)
      · refine x_iconst (-1) dX9_line_43 (by decide) ?_
        refine x_iret dX9_line_44 rfl ?_ (Nat.zero_le _) (Nat.zero_le _)
        first | exact ⟨rfl, _, rfl, lineD_no (fun q => c4 q.1)⟩ | exact ⟨rfl, _, rfl, lineD_no (fun q => q.2.2.1 c8)⟩ | exact ⟨rfl, _, rfl, lineD_no (fun q => c19 q.2.1)⟩ | exact ⟨rfl, _, rfl, lineD_no (fun q => c29 q.2.2.2.1)⟩ | exact ⟨rfl, _, rfl, lineD_no (fun q => c40 q.2.2.2.2)⟩
      · refine x_iload3 dX9_line_22 ?_
        refine x_iconst (nI 0) dX9_line_23 (by decide) ?_
        refine x_ldc kcX9_79 dX9_line_24 ?_
        refine xV.toi (nI 99999999) (by decide) ?_
        refine x_callS3i msX9_75 (kd_isWithin G d m dm (nI 0) (nI 99999999)) (xRoom.of rfl) (Nat.le_of_ble_eq_true rfl) dX9_line_26 (fun r_ n_ h_ hq => ?_)
        obtain ⟨rfl, rfl, rfl⟩ := hq
        refine b_if_eq 43 dX9_line_29 (by decide) (fun c29 => ?_) (fun c29 => ?_)
        · refine x_iconst (-1) dX9_line_43 (by decide) ?_
          refine x_iret dX9_line_44 rfl ?_ (Nat.zero_le _) (Nat.zero_le _)
          first | exact ⟨rfl, _, rfl, lineD_no (fun q => c4 q.1)⟩ | exact ⟨rfl, _, rfl, lineD_no (fun q => q.2.2.1 c8)⟩ | exact ⟨rfl, _, rfl, lineD_no (fun q => c19 q.2.1)⟩ | exact ⟨rfl, _, rfl, lineD_no (fun q => c29 q.2.2.2.1)⟩ | exact ⟨rfl, _, rfl, lineD_no (fun q => c40 q.2.2.2.2)⟩
        · refine x_iload4 dX9_line_32 ?_
          refine x_iconst (nI 0) dX9_line_34 (by decide) ?_
          refine x_bipush (nI 99) dX9_line_35 (by decide) ?_
          refine x_callS3i msX9_75 (kd_isWithin G d m w (nI 0) (nI 99)) (xRoom.of rfl) (Nat.le_of_ble_eq_true rfl) dX9_line_37 (fun r_ n_ h_ hq => ?_)
          obtain ⟨rfl, rfl, rfl⟩ := hq
          refine b_if_ne 45 dX9_line_40 (by decide) (fun c40 => ?_) (fun c40 => ?_)
          · have hk : okLn b v dm w := ⟨c4, c19, c8, c29, c40⟩
            obtain ⟨eb, lb⟩ := bk_nv c4
            obtain ⟨e6, l6⟩ := hL _ lb
            have edm := nv_of (iNL.mpr (nI_0 ▸ c29.1))
            refine x_aload0 dX9_line_45 ?_
            refine go0_0 fgX9_12 dX9_line_46 ?_
            refine x_iload1 dX9_line_49 ?_
            refine lBK (nv b) (eb) (by omega) dX9_line_50 ?_
            refine x_astore5 dX9_line_51 rfl rfl rfl ?_
            refine x_aload5 dX9_line_53 ?_
            refine gB1 (by omega) fgX9_80 dX9_line_55 ?_
            refine xV.toi (nI (nL d (nv b))) (e6) ?_
            refine x_bipush (nI 80) dX9_line_58 (by decide) ?_
            refine n_icmp_lt 66 dX9_line_60 (by decide) (by omega) (by omega) (fun c60 => ?_) (fun c60 => ?_)
            · refine x_aload5 dX9_line_66 ?_
              refine gB0 (by omega) fgX9_83 dX9_line_68 ?_
              refine x_aload5 dX9_line_71 ?_
              refine gB1 (by omega) fgX9_80 dX9_line_73 ?_
              refine xV.toi (nI (nL d (nv b))) (e6) ?_
              refine lBL (by omega) (nL d (nv b)) rfl (by omega) dX9_line_76 ?_
              refine x_iload2 dX9_line_77 ?_
              refine x_iload3 dX9_line_78 ?_
              refine x_sipush (nI 10000) dX9_line_79 (by decide) ?_
              refine x_idiv dX9_line_82 (by decide) ?_
              refine xV.toi (nI (nv dm / 10000)) ((by rw [edm, nv_nI (nv_lt dm)]; exact pk_div (nv_lt dm) (by decide) (by decide))) ?_
              refine x_iload3 dX9_line_83 ?_
              refine x_sipush (nI 10000) dX9_line_84 (by decide) ?_
              refine x_irem dX9_line_87 (by decide) ?_
              refine xV.toi (nI (nv dm % 10000)) ((by rw [edm, nv_nI (nv_lt dm)]; exact pk_rem (nv_lt dm) (by decide) (by decide))) ?_
              refine x_iload4 dX9_line_88 ?_
              refine x_aload0 dX9_line_90 ?_
              refine go0_7 fgX9_56 dX9_line_91 ?_
              refine x_callV5v mvX9_87 (k_write G d m (80 * nv b + nL d (nv b)) (by omega) v (nI (nv dm / 10000)) (nI (nv dm % 10000)) w (d.1 7 0)) (lt_L (by omega)) (hd_L (by omega)) (xRoom.of rfl) (Nat.le_of_ble_eq_true rfl) dX9_line_94 (fun n_ h_ hq => ?_)
              obtain ⟨rfl, rfl⟩ := hq
              refine x_aload5 dX9_line_97 ?_
              refine x_dup dX9_line_99 rfl ?_
              refine gB1 (by omega) fgX9_80 dX9_line_100 ?_
              refine xV.toi (nI (nL d (nv b))) ((by rw [wr_ne (by decide)]; exact e6)) ?_
              refine x_iconst (nI 1) dX9_line_103 (by decide) ?_
              refine n_iadd dX9_line_104 ?_
              refine pB1 (by omega) fpX9_80 dX9_line_105 ?_
              refine x_aload0 dX9_line_108 ?_
              refine x_iconst (nI 0) dX9_line_109 (by decide) ?_
              refine x_iload1 dX9_line_110 ?_
              refine x_iconst (nI 0) dX9_line_111 (by decide) ?_
              refine x_callV3v mvX9_93 (kd_carriedOut G (lineM d (nv b) v (nv dm) w) m (iX_k (lineM_ne (by decide)) hX) (iA_k (lineM_ne (by decide)) hA) (nI 0) b (nI 0)) (show (0 : Nat) < NT by decide) (hd_at (a := 0) (by decide) rfl) (xRoom.of rfl) (Nat.le_of_ble_eq_true rfl) dX9_line_112 (fun n_ h_ hq => ?_)
              obtain ⟨rfl, rfl⟩ := hq
              refine x_aload5 dX9_line_115 ?_
              refine gB1 (by omega) fgX9_80 dX9_line_117 ?_
              refine xV.toi (nI (nL d (nv b) + 1)) ((by rw [coD_ne (by decide) (by decide)]; exact mset_at _ _ _ _)) ?_
              refine x_iconst (nI 1) dX9_line_120 (by decide) ?_
              refine n_isub dX9_line_121 (by omega) ?_
              refine x_iret dX9_line_122 rfl ?_ (Nat.zero_le _) (Nat.zero_le _)
              exact ⟨rfl, _, rfl, lineD_yes hk (by omega)⟩
            · refine x_bipush (-5) dX9_line_63 (by decide) ?_
              refine x_iret dX9_line_65 rfl ?_ (Nat.zero_le _) (Nat.zero_le _)
              exact ⟨rfl, _, rfl, lineD_full hk (by omega)⟩
          · refine x_iconst (-1) dX9_line_43 (by decide) ?_
            refine x_iret dX9_line_44 rfl ?_ (Nat.zero_le _) (Nat.zero_le _)
            first | exact ⟨rfl, _, rfl, lineD_no (fun q => c4 q.1)⟩ | exact ⟨rfl, _, rfl, lineD_no (fun q => q.2.2.1 c8)⟩ | exact ⟨rfl, _, rfl, lineD_no (fun q => c19 q.2.1)⟩ | exact ⟨rfl, _, rfl, lineD_no (fun q => c29 q.2.2.2.1)⟩ | exact ⟨rfl, _, rfl, lineD_no (fun q => c40 q.2.2.2.2)⟩

def toD (d : mS) (t : Int32) : mS := if t = d.1 7 0 then d else euD (mset d 7 0 t)
def teD (d : mS) (s c : Int32) : mS := if s = d.1 8 0 ∧ c = d.1 9 0 then d else euD (mset (mset d 8 0 s) 9 0 c)

set_option maxHeartbeats 4000000 in
theorem kd_today (G : vx_G) (d m : mS) (t : Int32) : xK G M_X9_today 1 [(.ref 0), (.int t)] NT (hp (dk d) m) 0 0 (QI (fun r n' h' => r = (if d.1 7 0 ≤ t ∧ t ≤ nI 99999 then d.1 7 0 else -1) ∧ n' = NT ∧ h' = hp (dk (if d.1 7 0 ≤ t ∧ t ≤ nI 99999 then toD d t else d)) m)) := by
  refine xK.ofV (by decide) (Nat.le_of_ble_eq_true rfl) ?_
  refine xV.lveq (L' := [some (.ref 0), some (.int t), none]) rfl ?_
  refine x_iload1 dX9_today_0 ?_
  refine x_aload0 dX9_today_1 ?_
  refine go0_7 fgX9_56 dX9_today_2 ?_
  refine x_ldc kcX9_97 dX9_today_5 ?_
  refine xV.toi (nI 99999) (by decide) ?_
  refine x_callS3i msX9_75 (kd_isWithin G d m t (d.1 7 0) (nI 99999)) (xRoom.of rfl) (Nat.le_of_ble_eq_true rfl) dX9_today_7 (fun r_ n_ h_ hq => ?_)
  obtain ⟨rfl, rfl, rfl⟩ := hq
  refine b_if_ne 15 dX9_today_10 (by decide) (fun c10 => ?_) (fun c10 => ?_)
  · refine x_aload0 dX9_today_15 ?_
    refine go0_7 fgX9_56 dX9_today_16 ?_
    refine x_istore2 dX9_today_19 rfl rfl rfl ?_
    refine x_iload1 dX9_today_20 ?_
    refine x_iload2 dX9_today_21 ?_
    refine x_icmp_eq 34 dX9_today_22 (by decide) (fun c22 => ?_) (fun c22 => ?_)
    · refine x_iload2 dX9_today_34 ?_
      refine x_iret dX9_today_35 rfl ?_ (Nat.zero_le _) (Nat.zero_le _)
      first | exact ⟨(if_pos c10).symm, rfl, congrArg (fun z => hp (dk z) m) ((if_pos c22).symm.trans (if_pos c10).symm)⟩ | exact ⟨(if_pos c10).symm, rfl, congrArg (fun z => hp (dk z) m) ((show euD (mset d 7 0 t) = toD d t from (if_neg c22).symm).trans (if_pos c10).symm)⟩
    · refine x_aload0 dX9_today_25 ?_
      refine x_iload1 dX9_today_26 ?_
      refine po0_7 fpX9_56 dX9_today_27 ?_
      refine x_aload0 dX9_today_30 ?_
      refine x_callV0v mvX9_98 (kd_endUndoing G (mset d 7 0 t) m) (show (0 : Nat) < NT by decide) (hd_at (a := 0) (by decide) rfl) (xRoom.of rfl) (Nat.le_of_ble_eq_true rfl) dX9_today_31 (fun n_ h_ hq => ?_)
      obtain ⟨rfl, rfl⟩ := hq
      refine x_iload2 dX9_today_34 ?_
      refine x_iret dX9_today_35 rfl ?_ (Nat.zero_le _) (Nat.zero_le _)
      first | exact ⟨(if_pos c10).symm, rfl, congrArg (fun z => hp (dk z) m) ((if_pos c22).symm.trans (if_pos c10).symm)⟩ | exact ⟨(if_pos c10).symm, rfl, congrArg (fun z => hp (dk z) m) ((show euD (mset d 7 0 t) = toD d t from (if_neg c22).symm).trans (if_pos c10).symm)⟩
  · refine x_iconst (-1) dX9_today_13 (by decide) ?_
    refine x_iret dX9_today_14 rfl ?_ (Nat.zero_le _) (Nat.zero_le _)
    exact ⟨(if_neg c10).symm, rfl, by rw [if_neg c10]⟩

set_option maxHeartbeats 4000000 in
theorem kd_terms (G : vx_G) (d m : mS) (s c : Int32) : xK G M_X9_terms 1 [(.ref 0), (.int s), (.int c)] NT (hp (dk d) m) 0 0 (QI (fun r n' h' => r = (if okT s c then 1 else -1) ∧ n' = NT ∧ h' = hp (dk (if okT s c then teD d s c else d)) m)) := by
  refine xK.ofV (by decide) (Nat.le_of_ble_eq_true rfl) ?_
  refine xV.lveq (L' := [some (.ref 0), some (.int s), some (.int c)]) rfl ?_
  refine x_iload1 dX9_terms_0 ?_
  refine x_iconst (nI 0) dX9_terms_1 (by decide) ?_
  refine x_bipush (nI 99) dX9_terms_2 (by decide) ?_
  refine x_callS3i msX9_75 (kd_isWithin G d m s (nI 0) (nI 99)) (xRoom.of rfl) (Nat.le_of_ble_eq_true rfl) dX9_terms_4 (fun r_ n_ h_ hq => ?_)
  obtain ⟨rfl, rfl, rfl⟩ := hq
  refine b_if_eq 21 dX9_terms_7 (by decide) (fun c7 => ?_) (fun c7 => ?_)
  · refine x_iconst (-1) dX9_terms_21 (by decide) ?_
    refine x_iret dX9_terms_22 rfl ?_ (Nat.zero_le _) (Nat.zero_le _)
    first | exact ⟨(if_neg (fun q : okT s c => c7 q.1)).symm, rfl, by rw [if_neg (fun q : okT s c => c7 q.1)]⟩ | exact ⟨(if_neg (fun q : okT s c => c18 q.2)).symm, rfl, by rw [if_neg (fun q : okT s c => c18 q.2)]⟩
  · refine x_iload2 dX9_terms_10 ?_
    refine x_iconst (nI 0) dX9_terms_11 (by decide) ?_
    refine x_sipush (nI 10000) dX9_terms_12 (by decide) ?_
    refine x_callS3i msX9_75 (kd_isWithin G d m c (nI 0) (nI 10000)) (xRoom.of rfl) (Nat.le_of_ble_eq_true rfl) dX9_terms_15 (fun r_ n_ h_ hq => ?_)
    obtain ⟨rfl, rfl, rfl⟩ := hq
    refine b_if_ne 23 dX9_terms_18 (by decide) (fun c18 => ?_) (fun c18 => ?_)
    · refine x_iload1 dX9_terms_23 ?_
      refine x_aload0 dX9_terms_24 ?_
      refine go0_8 fgX9_59 dX9_terms_25 ?_
      refine x_icmp_ne 39 dX9_terms_28 (by decide) (fun c28 => ?_) (fun c28 => ?_)
      · refine x_aload0 dX9_terms_39 ?_
        refine x_iload1 dX9_terms_40 ?_
        refine po0_8 fpX9_59 dX9_terms_41 ?_
        refine x_aload0 dX9_terms_44 ?_
        refine x_iload2 dX9_terms_45 ?_
        refine po0_9 fpX9_62 dX9_terms_46 ?_
        refine x_aload0 dX9_terms_49 ?_
        refine x_callV0v mvX9_98 (kd_endUndoing G (mset (mset d 8 0 s) 9 0 c) m) (show (0 : Nat) < NT by decide) (hd_at (a := 0) (by decide) rfl) (xRoom.of rfl) (Nat.le_of_ble_eq_true rfl) dX9_terms_50 (fun n_ h_ hq => ?_)
        obtain ⟨rfl, rfl⟩ := hq
        refine x_iconst (nI 1) dX9_terms_53 (by decide) ?_
        refine x_iret dX9_terms_54 rfl ?_ (Nat.zero_le _) (Nat.zero_le _)
        have ho : okT s c := ⟨c7, c18⟩
        refine ⟨nI1.trans (if_pos ho).symm, rfl, ?_⟩
        rw [if_pos ho]
        first | exact congrArg (fun z => hp (dk z) m) (if_neg (fun q : s = d.1 8 0 ∧ c = d.1 9 0 => c28 q.1)).symm | exact congrArg (fun z => hp (dk z) m) (if_pos (show s = d.1 8 0 ∧ c = d.1 9 0 from ⟨c28, c36⟩)).symm | exact congrArg (fun z => hp (dk z) m) (if_neg (fun q : s = d.1 8 0 ∧ c = d.1 9 0 => c36 q.2)).symm
      · refine x_iload2 dX9_terms_31 ?_
        refine x_aload0 dX9_terms_32 ?_
        refine go0_9 fgX9_62 dX9_terms_33 ?_
        refine x_icmp_eq 53 dX9_terms_36 (by decide) (fun c36 => ?_) (fun c36 => ?_)
        · refine x_iconst (nI 1) dX9_terms_53 (by decide) ?_
          refine x_iret dX9_terms_54 rfl ?_ (Nat.zero_le _) (Nat.zero_le _)
          have ho : okT s c := ⟨c7, c18⟩
          refine ⟨nI1.trans (if_pos ho).symm, rfl, ?_⟩
          rw [if_pos ho]
          first | exact congrArg (fun z => hp (dk z) m) (if_neg (fun q : s = d.1 8 0 ∧ c = d.1 9 0 => c28 q.1)).symm | exact congrArg (fun z => hp (dk z) m) (if_pos (show s = d.1 8 0 ∧ c = d.1 9 0 from ⟨c28, c36⟩)).symm | exact congrArg (fun z => hp (dk z) m) (if_neg (fun q : s = d.1 8 0 ∧ c = d.1 9 0 => c36 q.2)).symm
        · refine x_aload0 dX9_terms_39 ?_
          refine x_iload1 dX9_terms_40 ?_
          refine po0_8 fpX9_59 dX9_terms_41 ?_
          refine x_aload0 dX9_terms_44 ?_
          refine x_iload2 dX9_terms_45 ?_
          refine po0_9 fpX9_62 dX9_terms_46 ?_
          refine x_aload0 dX9_terms_49 ?_
          refine x_callV0v mvX9_98 (kd_endUndoing G (mset (mset d 8 0 s) 9 0 c) m) (show (0 : Nat) < NT by decide) (hd_at (a := 0) (by decide) rfl) (xRoom.of rfl) (Nat.le_of_ble_eq_true rfl) dX9_terms_50 (fun n_ h_ hq => ?_)
          obtain ⟨rfl, rfl⟩ := hq
          refine x_iconst (nI 1) dX9_terms_53 (by decide) ?_
          refine x_iret dX9_terms_54 rfl ?_ (Nat.zero_le _) (Nat.zero_le _)
          have ho : okT s c := ⟨c7, c18⟩
          refine ⟨nI1.trans (if_pos ho).symm, rfl, ?_⟩
          rw [if_pos ho]
          first | exact congrArg (fun z => hp (dk z) m) (if_neg (fun q : s = d.1 8 0 ∧ c = d.1 9 0 => c28 q.1)).symm | exact congrArg (fun z => hp (dk z) m) (if_pos (show s = d.1 8 0 ∧ c = d.1 9 0 from ⟨c28, c36⟩)).symm | exact congrArg (fun z => hp (dk z) m) (if_neg (fun q : s = d.1 8 0 ∧ c = d.1 9 0 => c36 q.2)).symm
    · refine x_iconst (-1) dX9_terms_21 (by decide) ?_
      refine x_iret dX9_terms_22 rfl ?_ (Nat.zero_le _) (Nat.zero_le _)
      first | exact ⟨(if_neg (fun q : okT s c => c7 q.1)).symm, rfl, by rw [if_neg (fun q : okT s c => c7 q.1)]⟩ | exact ⟨(if_neg (fun q : okT s c => c18 q.2)).symm, rfl, by rw [if_neg (fun q : okT s c => c18 q.2)]⟩

set_option maxHeartbeats 4000000 in
theorem kd_told (G : vx_G) (d m : mS) (hL : iL d) (hN : dN d) (b i w : Int32) : xK G M_X9_told 2 [(.ref 0), (.int b), (.int i), (.int w)] NT (hp (dk d) m) 0 0 (QI (fun r n' h' => r = (if isLn d b i then toldV d b i w else -2000000) ∧ n' = NT ∧ h' = hp (dk d) m)) := by
  refine xK.ofV (by decide) (Nat.le_of_ble_eq_true rfl) ?_
  refine xV.lveq (L' := [some (.ref 0), some (.int b), some (.int i), some (.int w), none]) rfl ?_
  refine x_aload0 dX9_told_0 ?_
  refine x_iload1 dX9_told_1 ?_
  refine x_iload2 dX9_told_2 ?_
  refine x_callV2a mvX9_101 (kd_lineAt G d m hL b i) (show (0 : Nat) < NT by decide) (hd_at (a := 0) (by decide) rfl) (xRoom.of rfl) (Nat.le_of_ble_eq_true rfl) dX9_told_3 (fun r_ n_ h_ hq => ?_)
  rcases hq with ⟨⟨hl, rfl⟩ | ⟨hl, rfl⟩, rfl, rfl⟩
  · have hz := ln_in hL hl
    have ha : 80 * nv b + nv i < 160 := by omega
    refine x_astore4 dX9_told_6 rfl rfl rfl ?_
    refine x_aload4 dX9_told_8 ?_
    refine x_ifnonnull_r 16 dX9_told_10 (by decide) ?_
    refine x_iload3 dX9_told_16 ?_
    by_cases cs0 : w = 0
    · refine x_tableIn 60 dX9_told_17 (by rw [cs0]; decide) (by rw [cs0]; decide) (off := 43) (by rw [cs0]; decide) (by decide) ?_
      refine x_aload4 dX9_told_60 ?_
      refine gL2 (by omega) fgX9_106 dX9_told_62 ?_
      refine x_iret dX9_told_65 rfl ?_ (Nat.zero_le _) (Nat.zero_le _)
      refine ⟨?_, rfl, rfl⟩
      rw [if_pos hl]
      clear hz hl hL hN ha
      unfold toldV
      simp [*]
    by_cases cs1 : w = 1
    · refine x_tableIn 66 dX9_told_17 (by rw [cs1]; decide) (by rw [cs1]; decide) (off := 49) (by rw [cs1]; decide) (by decide) ?_
      refine x_aload4 dX9_told_66 ?_
      refine gL3 (by omega) fgX9_109 dX9_told_68 ?_
      refine x_iret dX9_told_71 rfl ?_ (Nat.zero_le _) (Nat.zero_le _)
      refine ⟨?_, rfl, rfl⟩
      rw [if_pos hl]
      clear hz hl hL hN ha
      unfold toldV
      simp [*]
    by_cases cs2 : w = 2
    · refine x_tableIn 72 dX9_told_17 (by rw [cs2]; decide) (by rw [cs2]; decide) (off := 55) (by rw [cs2]; decide) (by decide) ?_
      refine x_aload4 dX9_told_72 ?_
      refine gL5 (by omega) fgX9_112 dX9_told_74 ?_
      refine x_iret dX9_told_77 rfl ?_ (Nat.zero_le _) (Nat.zero_le _)
      refine ⟨?_, rfl, rfl⟩
      rw [if_pos hl]
      clear hz hl hL hN ha
      unfold toldV
      simp [*]
    by_cases cs3 : w = 3
    · refine x_tableIn 78 dX9_told_17 (by rw [cs3]; decide) (by rw [cs3]; decide) (off := 61) (by rw [cs3]; decide) (by decide) ?_
      refine x_aload4 dX9_told_78 ?_
      refine gL4 (by omega) fgX9_115 dX9_told_80 ?_
      refine x_iret dX9_told_83 rfl ?_ (Nat.zero_le _) (Nat.zero_le _)
      refine ⟨?_, rfl, rfl⟩
      rw [if_pos hl]
      clear hz hl hL hN ha
      unfold toldV
      simp [*]
    by_cases cs4 : w = 4
    · refine x_tableIn 84 dX9_told_17 (by rw [cs4]; decide) (by rw [cs4]; decide) (off := 67) (by rw [cs4]; decide) (by decide) ?_
      refine x_aload4 dX9_told_84 ?_
      refine gL6 (by omega) fgX9_118 dX9_told_86 ?_
      refine x_iret dX9_told_89 rfl ?_ (Nat.zero_le _) (Nat.zero_le _)
      refine ⟨?_, rfl, rfl⟩
      rw [if_pos hl]
      clear hz hl hL hN ha
      unfold toldV
      simp [*]
    by_cases cs5 : w = 5
    · refine x_tableIn 90 dX9_told_17 (by rw [cs5]; decide) (by rw [cs5]; decide) (off := 73) (by rw [cs5]; decide) (by decide) ?_
      refine x_aload4 dX9_told_90 ?_
      refine gL7 (by omega) fgX9_121 dX9_told_92 ?_
      refine x_iret dX9_told_95 rfl ?_ (Nat.zero_le _) (Nat.zero_le _)
      refine ⟨?_, rfl, rfl⟩
      rw [if_pos hl]
      clear hz hl hL hN ha
      unfold toldV
      simp [*]
    by_cases cs6 : w = 6
    · refine x_tableIn 96 dX9_told_17 (by rw [cs6]; decide) (by rw [cs6]; decide) (off := 79) (by rw [cs6]; decide) (by decide) ?_
      refine x_aload4 dX9_told_96 ?_
      refine x_callV0i mvX9_124 (k_isBreak G d m (80 * nv b + nv i) ha (hN (nv b) hz.1.2 (nv i) hz.2.2.1)) (lt_L (by omega)) (hd_L (by omega)) (xRoom.of rfl) (Nat.le_of_ble_eq_true rfl) dX9_told_98 (fun r_ n_ h_ hq => ?_)
      obtain ⟨rfl, rfl, rfl⟩ := hq
      refine b_if_eq 117 dX9_told_101 (by decide) (fun c101 => ?_) (fun c101 => ?_)
      · refine x_iconst (-1) dX9_told_117 (by decide) ?_
        refine x_iret dX9_told_118 rfl ?_ (Nat.zero_le _) (Nat.zero_le _)
        refine ⟨?_, rfl, rfl⟩
        rw [if_pos hl]
        clear hz hl hL hN ha
        unfold toldV
        simp [*]
      · refine x_aload0 dX9_told_104 ?_
        refine go0_7 fgX9_56 dX9_told_105 ?_
        refine x_aload4 dX9_told_108 ?_
        refine gL6 (by omega) fgX9_118 dX9_told_110 ?_
        refine x_isub dX9_told_113 ?_
        refine x_goto 118 dX9_told_114 (by decide) ?_
        refine x_iret dX9_told_118 rfl ?_ (Nat.zero_le _) (Nat.zero_le _)
        refine ⟨?_, rfl, rfl⟩
        rw [if_pos hl]
        clear hz hl hL hN ha
        unfold toldV
        simp [*]
    refine x_tableOut 119 dX9_told_17 (sw_out 7 (by decide) (fun k hk => by rcases (show k = 0 ∨ k = 1 ∨ k = 2 ∨ k = 3 ∨ k = 4 ∨ k = 5 ∨ k = 6 by omega) with rfl | rfl | rfl | rfl | rfl | rfl | rfl <;> assumption)) (by decide) ?_
    refine x_ldc kcX9_105 dX9_told_119 ?_
    refine x_iret dX9_told_121 rfl ?_ (Nat.zero_le _) (Nat.zero_le _)
    refine ⟨?_, rfl, rfl⟩
    rw [if_pos hl]
    clear hz hl hL hN ha
    unfold toldV
    simp [*]
  · skip
    refine x_astoreN4 dX9_told_6 rfl rfl rfl ?_
    refine x_aloadN4 dX9_told_8 ?_
    refine x_ifnonnull_n dX9_told_10 ?_
    refine x_ldc kcX9_105 dX9_told_13 ?_
    refine x_iret dX9_told_15 rfl ?_ (Nat.zero_le _) (Nat.zero_le _)
    exact ⟨(if_neg hl).symm, rfl, rfl⟩

theorem kd_lineAt0 (G : vx_G) (d m : mS) (hL : iL d) (a : Int32) : xK G M_X9_lineAt 1 [.ref 0, .int (nI 0), .int a] NT (hp (dk d) m) 0 0 (QA (fun r n' h' => ((isLn d (nI 0) a ∧ r = some (lC (nv a))) ∨ (¬ isLn d (nI 0) a ∧ r = none)) ∧ n' = NT ∧ h' = hp (dk d) m)) := by
  have h := kd_lineAt G d m hL (nI 0) a
  rw [show 80 * nv (nI 0) + nv a = nv a by rw [nv_nI (by decide)]; omega] at h
  exact h
theorem kd_lineAt1 (G : vx_G) (d m : mS) (hL : iL d) (a : Int32) : xK G M_X9_lineAt 1 [.ref 0, .int (nI 1), .int a] NT (hp (dk d) m) 0 0 (QA (fun r n' h' => ((isLn d (nI 1) a ∧ r = some (lC (80 + nv a))) ∨ (¬ isLn d (nI 1) a ∧ r = none)) ∧ n' = NT ∧ h' = hp (dk d) m)) := by
  have h := kd_lineAt G d m hL (nI 1) a
  rw [show 80 * nv (nI 1) + nv a = 80 + nv a by rw [nv_nI (by decide)]] at h
  exact h
theorem ln_in0 {d : mS} {i : Int32} (hL : iL d) (h : isLn d (nI 0) i) : i = nI (nv i) ∧ nv i < nL d 0 ∧ nL d 0 ≤ 80 := by
  have := ln_in hL h
  rw [nv_nI (by decide)] at this
  exact this.2
theorem ln_in1 {d : mS} {i : Int32} (hL : iL d) (h : isLn d (nI 1) i) : i = nI (nv i) ∧ nv i < nL d 1 ∧ nL d 1 ≤ 80 := by
  have := ln_in hL h
  rw [nv_nI (by decide)] at this
  exact this.2
def iF (d : mS) : Prop := ∀ b, b < 2 → ∀ i, i < nL d b → fOk d (80 * b + i)
theorem iF_0 {d : mS} {i : Nat} (h : iF d) (hi : i < nL d 0) : fOk d i := by
  have := h 0 (by decide) i hi
  rwa [show 80 * 0 + i = i by omega] at this
theorem dN_0 {d : mS} {i : Nat} (h : dN d) (hi : i < nL d 0) : d.1 5 i < 0 → d.1 5 i = -1 := by
  have := h 0 (by decide) i hi
  rwa [show 80 * 0 + i = i by omega] at this

set_option maxHeartbeats 4000000 in
theorem kd_fit (G : vx_G) (d m : mS) (hL : iL d) (hG : iG d) (hp_ : dP d) (hM : iMs d) (hF : iF d) (a b : Int32) : xK G M_X9_fit 3 [(.ref 0), (.int a), (.int b)] NT (hp (dk d) m) 0 0 (QI (fun r n' h' => r = fitR d a b ∧ n' = NT ∧ h' = hp (dk d) m)) := by
  refine xK.ofV (by decide) (Nat.le_of_ble_eq_true rfl) ?_
  refine xV.lveq (L' := [some (.ref 0), some (.int a), some (.int b), none, none]) rfl ?_
  refine x_aload0 dX9_fit_0 ?_
  refine x_iconst (nI 0) dX9_fit_1 (by decide) ?_
  refine x_iload1 dX9_fit_2 ?_
  refine x_callV2a mvX9_101 (kd_lineAt0 G d m hL a) (show (0 : Nat) < NT by decide) (hd_at (a := 0) (by decide) rfl) (xRoom.of rfl) (Nat.le_of_ble_eq_true rfl) dX9_fit_3 (fun r_ n_ h_ hq => ?_)
  rcases hq with ⟨⟨hl, rfl⟩ | ⟨hl, rfl⟩, rfl, rfl⟩
  · have ha := ln_in0 hL hl
    have hl0 := hl
    clear hl
    refine x_astore3 dX9_fit_6 rfl rfl rfl ?_
    refine x_aload0 dX9_fit_7 ?_
    refine x_iconst (nI 1) dX9_fit_8 (by decide) ?_
    refine x_iload2 dX9_fit_9 ?_
    refine x_callV2a mvX9_101 (kd_lineAt1 G d m hL b) (show (0 : Nat) < NT by decide) (hd_at (a := 0) (by decide) rfl) (xRoom.of rfl) (Nat.le_of_ble_eq_true rfl) dX9_fit_10 (fun r_ n_ h_ hq => ?_)
    rcases hq with ⟨⟨hl, rfl⟩ | ⟨hl, rfl⟩, rfl, rfl⟩
    · have hb := ln_in1 hL hl
      refine x_astore4 dX9_fit_13 rfl rfl rfl ?_
      refine x_aload3 dX9_fit_15 ?_
      refine x_ifnull_r dX9_fit_16 ?_
      refine x_aload4 dX9_fit_19 ?_
      refine x_ifnonnull_r 28 dX9_fit_21 (by decide) ?_
      refine x_aload0 dX9_fit_28 ?_
      refine x_aload3 dX9_fit_29 ?_
      refine x_aload4 dX9_fit_30 ?_
      refine x_callV2i mvX9_128 (kd_fitOf G d m hG hp_ hM (nv a) (80 + nv b) (by omega) (by omega) (iF_0 hF ha.2.1) (hF 1 (by decide) (nv b) hb.2.1)) (show (0 : Nat) < NT by decide) (hd_at (a := 0) (by decide) rfl) (xRoom.of rfl) (Nat.le_of_ble_eq_true rfl) dX9_fit_32 (fun r_ n_ h_ hq => ?_)
      obtain ⟨rfl, rfl, rfl⟩ := hq
      refine x_iret dX9_fit_35 rfl ?_ (Nat.zero_le _) (Nat.zero_le _)
      first | exact ⟨(if_pos (show isLn d (nI 0) a ∧ isLn d (nI 1) b from ⟨hl0, hl⟩)).symm, rfl, rfl⟩ | exact ⟨(if_neg (fun q : isLn d (nI 0) a ∧ isLn d (nI 1) b => hl0 q.1)).symm, rfl, rfl⟩ | exact ⟨(if_neg (fun q : isLn d (nI 0) a ∧ isLn d (nI 1) b => hl q.2)).symm, rfl, rfl⟩
    · skip
      refine x_astoreN4 dX9_fit_13 rfl rfl rfl ?_
      refine x_aload3 dX9_fit_15 ?_
      refine x_ifnull_r dX9_fit_16 ?_
      refine x_aloadN4 dX9_fit_19 ?_
      refine x_ifnonnull_n dX9_fit_21 ?_
      refine x_iconst (-1) dX9_fit_24 (by decide) ?_
      refine x_goto 35 dX9_fit_25 (by decide) ?_
      refine x_iret dX9_fit_35 rfl ?_ (Nat.zero_le _) (Nat.zero_le _)
      first | exact ⟨(if_pos (show isLn d (nI 0) a ∧ isLn d (nI 1) b from ⟨hl0, hl⟩)).symm, rfl, rfl⟩ | exact ⟨(if_neg (fun q : isLn d (nI 0) a ∧ isLn d (nI 1) b => hl0 q.1)).symm, rfl, rfl⟩ | exact ⟨(if_neg (fun q : isLn d (nI 0) a ∧ isLn d (nI 1) b => hl q.2)).symm, rfl, rfl⟩
  · have hl0 := hl
    clear hl
    refine x_astoreN3 dX9_fit_6 rfl rfl rfl ?_
    refine x_aload0 dX9_fit_7 ?_
    refine x_iconst (nI 1) dX9_fit_8 (by decide) ?_
    refine x_iload2 dX9_fit_9 ?_
    refine x_callV2a mvX9_101 (kd_lineAt1 G d m hL b) (show (0 : Nat) < NT by decide) (hd_at (a := 0) (by decide) rfl) (xRoom.of rfl) (Nat.le_of_ble_eq_true rfl) dX9_fit_10 (fun r_ n_ h_ hq => ?_)
    rcases hq with ⟨⟨hl, rfl⟩ | ⟨hl, rfl⟩, rfl, rfl⟩
    · have hb := ln_in1 hL hl
      refine x_astore4 dX9_fit_13 rfl rfl rfl ?_
      refine x_aloadN3 dX9_fit_15 ?_
      refine x_ifnull_n 24 dX9_fit_16 (by decide) ?_
      refine x_iconst (-1) dX9_fit_24 (by decide) ?_
      refine x_goto 35 dX9_fit_25 (by decide) ?_
      refine x_iret dX9_fit_35 rfl ?_ (Nat.zero_le _) (Nat.zero_le _)
      first | exact ⟨(if_pos (show isLn d (nI 0) a ∧ isLn d (nI 1) b from ⟨hl0, hl⟩)).symm, rfl, rfl⟩ | exact ⟨(if_neg (fun q : isLn d (nI 0) a ∧ isLn d (nI 1) b => hl0 q.1)).symm, rfl, rfl⟩ | exact ⟨(if_neg (fun q : isLn d (nI 0) a ∧ isLn d (nI 1) b => hl q.2)).symm, rfl, rfl⟩
    · skip
      refine x_astoreN4 dX9_fit_13 rfl rfl rfl ?_
      refine x_aloadN3 dX9_fit_15 ?_
      refine x_ifnull_n 24 dX9_fit_16 (by decide) ?_
      refine x_iconst (-1) dX9_fit_24 (by decide) ?_
      refine x_goto 35 dX9_fit_25 (by decide) ?_
      refine x_iret dX9_fit_35 rfl ?_ (Nat.zero_le _) (Nat.zero_le _)
      first | exact ⟨(if_pos (show isLn d (nI 0) a ∧ isLn d (nI 1) b from ⟨hl0, hl⟩)).symm, rfl, rfl⟩ | exact ⟨(if_neg (fun q : isLn d (nI 0) a ∧ isLn d (nI 1) b => hl0 q.1)).symm, rfl, rfl⟩ | exact ⟨(if_neg (fun q : isLn d (nI 0) a ∧ isLn d (nI 1) b => hl q.2)).symm, rfl, rfl⟩

def handD (d : mS) (a b r : Int32) (d' : mS) : Prop := if isLn d (nI 0) a ∧ isLn d (nI 1) b then (if d.1 5 (nv a) < 0 ∧ d.1 5 (80 + nv b) < 0 then (if nG d = 200 then r = -5 ∧ d' = d else r = nI (nG d) ∧ d' = coD (hdM d (nI 2) (nv a) (80 + nv b)) (nI 1) (nI (nG d)) (nI 0)) else r = -2 ∧ d' = d) else r = -1 ∧ d' = d
section HAND
variable {d : mS}
theorem handD_1 {a b : Int32} (h : ¬ (isLn d (nI 0) a ∧ isLn d (nI 1) b)) : handD d a b (-1) d := by unfold handD; rw [if_neg h]; exact ⟨rfl, rfl⟩
theorem handD_2 {a b : Int32} (h : isLn d (nI 0) a ∧ isLn d (nI 1) b) (h2 : ¬ (d.1 5 (nv a) < 0 ∧ d.1 5 (80 + nv b) < 0)) : handD d a b (-2) d := by unfold handD; rw [if_pos h, if_neg h2]; exact ⟨rfl, rfl⟩
theorem handD_3 {a b : Int32} (h : isLn d (nI 0) a ∧ isLn d (nI 1) b) (h2 : d.1 5 (nv a) < 0 ∧ d.1 5 (80 + nv b) < 0) (h3 : nG d = 200) : handD d a b (-5) d := by unfold handD; rw [if_pos h, if_pos h2, if_pos h3]; exact ⟨rfl, rfl⟩
theorem handD_4 {a b : Int32} (h : isLn d (nI 0) a ∧ isLn d (nI 1) b) (h2 : d.1 5 (nv a) < 0 ∧ d.1 5 (80 + nv b) < 0) (h3 : ¬ nG d = 200) : handD d a b (nI (nG d)) (coD (hdM d (nI 2) (nv a) (80 + nv b)) (nI 1) (nI (nG d)) (nI 0)) := by unfold handD; rw [if_pos h, if_pos h2, if_neg h3]; exact ⟨rfl, rfl⟩
end HAND
theorem hdD_ne {d : mS} {s : Int32} {A C j : Nat} (h : 17 ≤ j) : (hdM d s A C).1 j = d.1 j := by
  unfold hdM adM ngM
  repeat rw [mset_ne (by omega)]

set_option maxHeartbeats 4000000 in
theorem kd_hand (G : vx_G) (d m : mS) (hL : iL d) (hN : dN d) (hG : iG d) (hX : iX d) (hA : iA d) (a b : Int32) : xK G M_X9_hand 3 [(.ref 0), (.int a), (.int b)] NT (hp (dk d) m) 0 0 (QI (fun r n' h' => n' = NT ∧ ∃ d', h' = hp (dk d') m ∧ handD d a b r d')) := by
  refine xK.ofV (by decide) (Nat.le_of_ble_eq_true rfl) ?_
  refine xV.lveq (L' := [some (.ref 0), some (.int a), some (.int b), none, none, none]) rfl ?_
  refine x_aload0 dX9_hand_0 ?_
  refine x_iconst (nI 0) dX9_hand_1 (by decide) ?_
  refine x_iload1 dX9_hand_2 ?_
  refine x_callV2a mvX9_101 (kd_lineAt0 G d m hL a) (show (0 : Nat) < NT by decide) (hd_at (a := 0) (by decide) rfl) (xRoom.of rfl) (Nat.le_of_ble_eq_true rfl) dX9_hand_3 (fun r_ n_ h_ hq => ?_)
  rcases hq with ⟨⟨hl, rfl⟩ | ⟨hl, rfl⟩, rfl, rfl⟩
  · have ha := ln_in0 hL hl
    have hl0 := hl
    clear hl
    refine x_astore3 dX9_hand_6 rfl rfl rfl ?_
    refine x_aload0 dX9_hand_7 ?_
    refine x_iconst (nI 1) dX9_hand_8 (by decide) ?_
    refine x_iload2 dX9_hand_9 ?_
    refine x_callV2a mvX9_101 (kd_lineAt1 G d m hL b) (show (0 : Nat) < NT by decide) (hd_at (a := 0) (by decide) rfl) (xRoom.of rfl) (Nat.le_of_ble_eq_true rfl) dX9_hand_10 (fun r_ n_ h_ hq => ?_)
    rcases hq with ⟨⟨hl, rfl⟩ | ⟨hl, rfl⟩, rfl, rfl⟩
    · have hb := ln_in1 hL hl
      refine x_astore4 dX9_hand_13 rfl rfl rfl ?_
      refine x_aload3 dX9_hand_15 ?_
      refine x_ifnull_r dX9_hand_16 ?_
      refine x_aload4 dX9_hand_19 ?_
      refine x_ifnonnull_r 26 dX9_hand_21 (by decide) ?_
      refine x_aload3 dX9_hand_26 ?_
      refine x_callV0i mvX9_124 (k_isBreak G d m (nv a) (by omega) (dN_0 hN ha.2.1)) (lt_L (by omega)) (hd_L (by omega)) (xRoom.of rfl) (Nat.le_of_ble_eq_true rfl) dX9_hand_27 (fun r_ n_ h_ hq => ?_)
      obtain ⟨rfl, rfl, rfl⟩ := hq
      refine b_if_eq 41 dX9_hand_30 (by decide) (fun c30 => ?_) (fun c30 => ?_)
      · refine x_bipush (-2) dX9_hand_41 (by decide) ?_
        refine x_iret dX9_hand_43 rfl ?_ (Nat.zero_le _) (Nat.zero_le _)
        first | exact ⟨rfl, _, rfl, handD_2 ⟨hl0, hl⟩ (fun q => c30 q.1)⟩ | exact ⟨rfl, _, rfl, handD_2 ⟨hl0, hl⟩ (fun q => c38 q.2)⟩
      · refine x_aload4 dX9_hand_33 ?_
        refine x_callV0i mvX9_124 (k_isBreak G d m (80 + nv b) (by omega) (hN 1 (by decide) _ hb.2.1)) (lt_L (by omega)) (hd_L (by omega)) (xRoom.of rfl) (Nat.le_of_ble_eq_true rfl) dX9_hand_35 (fun r_ n_ h_ hq => ?_)
        obtain ⟨rfl, rfl, rfl⟩ := hq
        refine b_if_ne 44 dX9_hand_38 (by decide) (fun c38 => ?_) (fun c38 => ?_)
        · refine x_aload0 dX9_hand_44 ?_
          have l16 := hG.2
          refine go0_6 fgX9_52 dX9_hand_45 ?_
          refine xV.toi (nI (nG d)) (hG.1) ?_
          refine x_sipush (nI 200) dX9_hand_48 (by decide) ?_
          refine n_icmp_lt 57 dX9_hand_51 (by decide) (by omega) (by omega) (fun c51 => ?_) (fun c51 => ?_)
          · refine x_aload0 dX9_hand_57 ?_
            refine x_iconst (nI 2) dX9_hand_58 (by decide) ?_
            refine x_aload3 dX9_hand_59 ?_
            refine x_aload4 dX9_hand_60 ?_
            refine x_callV3i mvX9_189 (kd_makeGroup G d m hG (by omega) (nI 2) (nv a) (80 + nv b) (by omega) (by omega)) (show (0 : Nat) < NT by decide) (hd_at (a := 0) (by decide) rfl) (xRoom.of rfl) (Nat.le_of_ble_eq_true rfl) dX9_hand_62 (fun r_ n_ h_ hq => ?_)
            obtain ⟨rfl, rfl, rfl⟩ := hq
            refine x_istore5 dX9_hand_65 rfl rfl rfl ?_
            refine x_aload0 dX9_hand_67 ?_
            refine x_iconst (nI 1) dX9_hand_68 (by decide) ?_
            refine x_iload5 dX9_hand_69 ?_
            refine x_iconst (nI 0) dX9_hand_71 (by decide) ?_
            refine x_callV3v mvX9_93 (kd_carriedOut G (hdM d (nI 2) (nv a) (80 + nv b)) m (iX_k (hdD_ne (by decide)) hX) (iA_k (hdD_ne (by decide)) hA) (nI 1) (nI (nG d)) (nI 0)) (show (0 : Nat) < NT by decide) (hd_at (a := 0) (by decide) rfl) (xRoom.of rfl) (Nat.le_of_ble_eq_true rfl) dX9_hand_72 (fun n_ h_ hq => ?_)
            obtain ⟨rfl, rfl⟩ := hq
            refine x_iload5 dX9_hand_75 ?_
            refine x_iret dX9_hand_77 rfl ?_ (Nat.zero_le _) (Nat.zero_le _)
            exact ⟨rfl, _, rfl, handD_4 ⟨hl0, hl⟩ ⟨c30, c38⟩ (by omega)⟩
          · refine x_bipush (-5) dX9_hand_54 (by decide) ?_
            refine x_iret dX9_hand_56 rfl ?_ (Nat.zero_le _) (Nat.zero_le _)
            exact ⟨rfl, _, rfl, handD_3 ⟨hl0, hl⟩ ⟨c30, c38⟩ (by omega)⟩
        · refine x_bipush (-2) dX9_hand_41 (by decide) ?_
          refine x_iret dX9_hand_43 rfl ?_ (Nat.zero_le _) (Nat.zero_le _)
          first | exact ⟨rfl, _, rfl, handD_2 ⟨hl0, hl⟩ (fun q => c30 q.1)⟩ | exact ⟨rfl, _, rfl, handD_2 ⟨hl0, hl⟩ (fun q => c38 q.2)⟩
    · skip
      refine x_astoreN4 dX9_hand_13 rfl rfl rfl ?_
      refine x_aload3 dX9_hand_15 ?_
      refine x_ifnull_r dX9_hand_16 ?_
      refine x_aloadN4 dX9_hand_19 ?_
      refine x_ifnonnull_n dX9_hand_21 ?_
      refine x_iconst (-1) dX9_hand_24 (by decide) ?_
      refine x_iret dX9_hand_25 rfl ?_ (Nat.zero_le _) (Nat.zero_le _)
      first | exact ⟨rfl, _, rfl, handD_1 (fun q => hl0 q.1)⟩ | exact ⟨rfl, _, rfl, handD_1 (fun q => hl q.2)⟩
  · have hl0 := hl
    clear hl
    refine x_astoreN3 dX9_hand_6 rfl rfl rfl ?_
    refine x_aload0 dX9_hand_7 ?_
    refine x_iconst (nI 1) dX9_hand_8 (by decide) ?_
    refine x_iload2 dX9_hand_9 ?_
    refine x_callV2a mvX9_101 (kd_lineAt1 G d m hL b) (show (0 : Nat) < NT by decide) (hd_at (a := 0) (by decide) rfl) (xRoom.of rfl) (Nat.le_of_ble_eq_true rfl) dX9_hand_10 (fun r_ n_ h_ hq => ?_)
    rcases hq with ⟨⟨hl, rfl⟩ | ⟨hl, rfl⟩, rfl, rfl⟩
    · have hb := ln_in1 hL hl
      refine x_astore4 dX9_hand_13 rfl rfl rfl ?_
      refine x_aloadN3 dX9_hand_15 ?_
      refine x_ifnull_n 24 dX9_hand_16 (by decide) ?_
      refine x_iconst (-1) dX9_hand_24 (by decide) ?_
      refine x_iret dX9_hand_25 rfl ?_ (Nat.zero_le _) (Nat.zero_le _)
      first | exact ⟨rfl, _, rfl, handD_1 (fun q => hl0 q.1)⟩ | exact ⟨rfl, _, rfl, handD_1 (fun q => hl q.2)⟩
    · skip
      refine x_astoreN4 dX9_hand_13 rfl rfl rfl ?_
      refine x_aloadN3 dX9_hand_15 ?_
      refine x_ifnull_n 24 dX9_hand_16 (by decide) ?_
      refine x_iconst (-1) dX9_hand_24 (by decide) ?_
      refine x_iret dX9_hand_25 rfl ?_ (Nat.zero_le _) (Nat.zero_le _)
      first | exact ⟨rfl, _, rfl, handD_1 (fun q => hl0 q.1)⟩ | exact ⟨rfl, _, rfl, handD_1 (fun q => hl q.2)⟩

def iK (d : mS) : Prop := ∀ g, g < nG d → d.1 15 g = nI 0 ∨ d.1 15 g = nI 1
def joinD (d : mS) (g b i r : Int32) (d' : mS) : Prop := if isGr d g ∧ isLn d b i then (if d.1 5 (80 * nv b + nv i) < 0 then (if d.1 15 (nv g) = 0 then (if nM d (nv g) = 8 then r = -5 ∧ d' = d else r = nI (nM d (nv g) + 1) ∧ d' = coD (adM (mset d 10 (nv g) (nI 2)) (nv g) (80 * nv b + nv i)) (nI 2) g (d.1 10 (nv g))) else r = -3 ∧ d' = d) else r = -2 ∧ d' = d) else r = -1 ∧ d' = d
def partD (d : mS) (g r : Int32) (d' : mS) : Prop := if isGr d g then (if d.1 15 (nv g) = 0 then r = d.1 12 (nv g) ∧ d' = coD (clM (mset d 14 (nv g) (d.1 7 0)) (nv g) (-1) (nM d (nv g))) (nI 3) g (nI 0) else r = -3 ∧ d' = d) else r = -1 ∧ d' = d
def lockD (d : mS) (g s r : Int32) (d' : mS) : Prop := if isGr d g ∧ nI 0 ≤ s ∧ s ≤ nI 1 then r = d.1 15 (nv g) ∧ d' = coD (mset d 15 (nv g) s) (nI 4) g (d.1 15 (nv g)) else r = -1 ∧ d' = d
section JOIN
variable {d : mS} {g b i s : Int32}
theorem joinD_1 (h : ¬ (isGr d g ∧ isLn d b i)) : joinD d g b i (-1) d := by unfold joinD; rw [if_neg h]; exact ⟨rfl, rfl⟩
theorem joinD_2 (h : isGr d g ∧ isLn d b i) (h2 : ¬ d.1 5 (80 * nv b + nv i) < 0) : joinD d g b i (-2) d := by unfold joinD; rw [if_pos h, if_neg h2]; exact ⟨rfl, rfl⟩
theorem joinD_3 (h : isGr d g ∧ isLn d b i) (h2 : d.1 5 (80 * nv b + nv i) < 0) (h3 : ¬ d.1 15 (nv g) = 0) : joinD d g b i (-3) d := by unfold joinD; rw [if_pos h, if_pos h2, if_neg h3]; exact ⟨rfl, rfl⟩
theorem joinD_4 (h : isGr d g ∧ isLn d b i) (h2 : d.1 5 (80 * nv b + nv i) < 0) (h3 : d.1 15 (nv g) = 0) (h4 : nM d (nv g) = 8) : joinD d g b i (-5) d := by unfold joinD; rw [if_pos h, if_pos h2, if_pos h3, if_pos h4]; exact ⟨rfl, rfl⟩
theorem joinD_5 (h : isGr d g ∧ isLn d b i) (h2 : d.1 5 (80 * nv b + nv i) < 0) (h3 : d.1 15 (nv g) = 0) (h4 : ¬ nM d (nv g) = 8) : joinD d g b i (nI (nM d (nv g) + 1)) (coD (adM (mset d 10 (nv g) (nI 2)) (nv g) (80 * nv b + nv i)) (nI 2) g (d.1 10 (nv g))) := by unfold joinD; rw [if_pos h, if_pos h2, if_pos h3, if_neg h4]; exact ⟨rfl, rfl⟩
theorem partD_1 (h : ¬ isGr d g) : partD d g (-1) d := by unfold partD; rw [if_neg h]; exact ⟨rfl, rfl⟩
theorem partD_2 (h : isGr d g) (h2 : ¬ d.1 15 (nv g) = 0) : partD d g (-3) d := by unfold partD; rw [if_pos h, if_neg h2]; exact ⟨rfl, rfl⟩
theorem partD_3 (h : isGr d g) (h2 : d.1 15 (nv g) = 0) : partD d g (d.1 12 (nv g)) (coD (clM (mset d 14 (nv g) (d.1 7 0)) (nv g) (-1) (nM d (nv g))) (nI 3) g (nI 0)) := by unfold partD; rw [if_pos h, if_pos h2]; exact ⟨rfl, rfl⟩
theorem lockD_1 (h : ¬ (isGr d g ∧ nI 0 ≤ s ∧ s ≤ nI 1)) : lockD d g s (-1) d := by unfold lockD; rw [if_neg h]; exact ⟨rfl, rfl⟩
theorem lockD_2 (h : isGr d g ∧ nI 0 ≤ s ∧ s ≤ nI 1) : lockD d g s (d.1 15 (nv g)) (coD (mset d 15 (nv g) s) (nI 4) g (d.1 15 (nv g))) := by unfold lockD; rw [if_pos h]; exact ⟨rfl, rfl⟩
theorem lk01 {G : Nat} (h : d.1 15 G = nI 0 ∨ d.1 15 G = nI 1) (q : ¬ d.1 15 G = nI 1) : d.1 15 G = 0 := h.elim (fun z => z.trans nI_0) (fun z => absurd z q)
theorem lk10 {G : Nat} (q : d.1 15 G = nI 1) : ¬ d.1 15 G = 0 := by rw [q]; decide
end JOIN
theorem adD_ne {d : mS} {g a j : Nat} (h : 13 ≤ j) : (adM d g a).1 j = d.1 j := by
  unfold adM
  rw [mset_ne (by omega), mset_ne (by omega), mset_ne (by omega)]

set_option maxHeartbeats 4000000 in
theorem kd_join (G : vx_G) (d m : mS) (hL : iL d) (hN : dN d) (hG : iG d) (hp_ : dP d) (hM : iMs d) (hK : iK d) (hX : iX d) (hA : iA d) (g b i : Int32) : xK G M_X9_join 3 [(.ref 0), (.int g), (.int b), (.int i)] NT (hp (dk d) m) 0 0 (QI (fun r n' h' => n' = NT ∧ ∃ d', h' = hp (dk d') m ∧ joinD d g b i r d')) := by
  refine xK.ofV (by decide) (Nat.le_of_ble_eq_true rfl) ?_
  refine xV.lveq (L' := [some (.ref 0), some (.int g), some (.int b), some (.int i), none, none, none]) rfl ?_
  refine x_aload0 dX9_join_0 ?_
  refine x_iload2 dX9_join_1 ?_
  refine x_iload3 dX9_join_2 ?_
  refine x_callV2a mvX9_101 (kd_lineAt G d m hL b i) (show (0 : Nat) < NT by decide) (hd_at (a := 0) (by decide) rfl) (xRoom.of rfl) (Nat.le_of_ble_eq_true rfl) dX9_join_3 (fun r_ n_ h_ hq => ?_)
  rcases hq with ⟨⟨hl, rfl⟩ | ⟨hl, rfl⟩, rfl, rfl⟩
  · have hz := ln_in hL hl
    have ha : 80 * nv b + nv i < 160 := by omega
    refine x_astore4 dX9_join_6 rfl rfl rfl ?_
    refine x_aload0 dX9_join_8 ?_
    refine x_iload1 dX9_join_9 ?_
    refine x_callV1i mvX9_222 (kd_isGroupThere G d m hG hp_ g) (show (0 : Nat) < NT by decide) (hd_at (a := 0) (by decide) rfl) (xRoom.of rfl) (Nat.le_of_ble_eq_true rfl) dX9_join_10 (fun r_ n_ h_ hq => ?_)
    obtain ⟨rfl, rfl, rfl⟩ := hq
    refine b_if_eq 21 dX9_join_13 (by decide) (fun c13 => ?_) (fun c13 => ?_)
    · refine x_iconst (-1) dX9_join_21 (by decide) ?_
      refine x_iret dX9_join_22 rfl ?_ (Nat.zero_le _) (Nat.zero_le _)
      first | exact ⟨rfl, _, rfl, joinD_1 (fun q => c13 q.1)⟩ | exact ⟨rfl, _, rfl, joinD_1 (fun q => hl q.2)⟩
    · refine x_aload4 dX9_join_16 ?_
      refine x_ifnonnull_r 23 dX9_join_18 (by decide) ?_
      refine x_aload4 dX9_join_23 ?_
      refine x_callV0i mvX9_124 (k_isBreak G d m (80 * nv b + nv i) ha (hN (nv b) hz.1.2 (nv i) hz.2.2.1)) (lt_L (by omega)) (hd_L (by omega)) (xRoom.of rfl) (Nat.le_of_ble_eq_true rfl) dX9_join_25 (fun r_ n_ h_ hq => ?_)
      obtain ⟨rfl, rfl, rfl⟩ := hq
      refine b_if_ne 34 dX9_join_28 (by decide) (fun c28 => ?_) (fun c28 => ?_)
      · obtain ⟨eg, lg, l2⟩ := md_in hG c13.1
        obtain ⟨e12, l12, hm⟩ := hM _ lg
        refine x_aload0 dX9_join_34 ?_
        refine go0_1 fgX9_20 dX9_join_35 ?_
        refine x_iload1 dX9_join_38 ?_
        refine lGS (nv g) (eg) (by omega) dX9_join_39 ?_
        refine x_astore5 dX9_join_40 rfl rfl rfl ?_
        refine x_aload5 dX9_join_42 ?_
        refine gG5 (by omega) fgX9_225 dX9_join_44 ?_
        refine x_iconst (nI 1) dX9_join_47 (by decide) ?_
        refine x_icmp_ne 54 dX9_join_48 (by decide) (fun c48 => ?_) (fun c48 => ?_)
        · have h0 := lk01 (hK _ lg) c48
          refine x_aload5 dX9_join_54 ?_
          refine gG1 (by omega) fgX9_228 dX9_join_56 ?_
          refine xV.toi (nI (nM d (nv g))) (e12) ?_
          refine x_bipush (nI 8) dX9_join_59 (by decide) ?_
          refine n_icmp_lt 67 dX9_join_61 (by decide) (by omega) (by omega) (fun c61 => ?_) (fun c61 => ?_)
          · refine x_aload5 dX9_join_67 ?_
            refine gG2 (by omega) fgX9_229 dX9_join_69 ?_
            refine x_istore6 dX9_join_72 rfl rfl rfl ?_
            refine x_aload5 dX9_join_74 ?_
            refine x_iconst (nI 2) dX9_join_76 (by decide) ?_
            refine pG2 (by omega) fpX9_229 dX9_join_77 ?_
            have en : nM (mset d 10 (nv g) (nI 2)) (nv g) = nM d (nv g) := nM_k (mset_ne (by decide))
            have qa := ad12 (d := mset d 10 (nv g) (nI 2)) (g := nv g) (a := 80 * nv b + nv i) (by omega)
            refine x_aload0 dX9_join_80 ?_
            refine x_iload1 dX9_join_81 ?_
            refine x_aload4 dX9_join_82 ?_
            rw [show Value.int g = Value.int (nI (nv g)) by rw [← eg]]
            refine x_callV2v mvX9_218 (kd_addTo G (mset d 10 (nv g) (nI 2)) m (nv g) (80 * nv b + nv i) (by omega) ha (by rw [en, mset_ne (by decide)]; exact e12) (by omega)) (show (0 : Nat) < NT by decide) (hd_at (a := 0) (by decide) rfl) (xRoom.of rfl) (Nat.le_of_ble_eq_true rfl) dX9_join_84 (fun n_ h_ hq => ?_)
            obtain ⟨rfl, rfl⟩ := hq
            rw [← eg]
            refine x_aload0 dX9_join_87 ?_
            refine x_iconst (nI 2) dX9_join_88 (by decide) ?_
            refine x_iload1 dX9_join_89 ?_
            refine x_iload6 dX9_join_90 ?_
            refine x_callV3v mvX9_93 (kd_carriedOut G (adM (mset d 10 (nv g) (nI 2)) (nv g) (80 * nv b + nv i)) m (iX_k ((adD_ne (by decide)).trans (mset_ne (by decide))) hX) (iA_k ((adD_ne (by decide)).trans (mset_ne (by decide))) hA) (nI 2) g (d.1 10 (nv g))) (show (0 : Nat) < NT by decide) (hd_at (a := 0) (by decide) rfl) (xRoom.of rfl) (Nat.le_of_ble_eq_true rfl) dX9_join_92 (fun n_ h_ hq => ?_)
            obtain ⟨rfl, rfl⟩ := hq
            refine x_aload5 dX9_join_95 ?_
            refine gG1 (by omega) fgX9_228 dX9_join_97 ?_
            refine xV.toi (nI (nM d (nv g) + 1)) ((by rw [coD_ne (by decide) (by decide), qa.1, en])) ?_
            refine x_iret dX9_join_100 rfl ?_ (Nat.zero_le _) (Nat.zero_le _)
            exact ⟨rfl, _, rfl, joinD_5 ⟨c13, hl⟩ c28 h0 (by omega)⟩
          · refine x_bipush (-5) dX9_join_64 (by decide) ?_
            refine x_iret dX9_join_66 rfl ?_ (Nat.zero_le _) (Nat.zero_le _)
            exact ⟨rfl, _, rfl, joinD_4 ⟨c13, hl⟩ c28 h0 (by omega)⟩
        · refine x_bipush (-3) dX9_join_51 (by decide) ?_
          refine x_iret dX9_join_53 rfl ?_ (Nat.zero_le _) (Nat.zero_le _)
          exact ⟨rfl, _, rfl, joinD_3 ⟨c13, hl⟩ c28 (lk10 c48)⟩
      · refine x_bipush (-2) dX9_join_31 (by decide) ?_
        refine x_iret dX9_join_33 rfl ?_ (Nat.zero_le _) (Nat.zero_le _)
        exact ⟨rfl, _, rfl, joinD_2 ⟨c13, hl⟩ c28⟩
  · skip
    refine x_astoreN4 dX9_join_6 rfl rfl rfl ?_
    refine x_aload0 dX9_join_8 ?_
    refine x_iload1 dX9_join_9 ?_
    refine x_callV1i mvX9_222 (kd_isGroupThere G d m hG hp_ g) (show (0 : Nat) < NT by decide) (hd_at (a := 0) (by decide) rfl) (xRoom.of rfl) (Nat.le_of_ble_eq_true rfl) dX9_join_10 (fun r_ n_ h_ hq => ?_)
    obtain ⟨rfl, rfl, rfl⟩ := hq
    refine b_if_eq 21 dX9_join_13 (by decide) (fun c13 => ?_) (fun c13 => ?_)
    · refine x_iconst (-1) dX9_join_21 (by decide) ?_
      refine x_iret dX9_join_22 rfl ?_ (Nat.zero_le _) (Nat.zero_le _)
      first | exact ⟨rfl, _, rfl, joinD_1 (fun q => c13 q.1)⟩ | exact ⟨rfl, _, rfl, joinD_1 (fun q => hl q.2)⟩
    · refine x_aloadN4 dX9_join_16 ?_
      refine x_ifnonnull_n dX9_join_18 ?_
      refine x_iconst (-1) dX9_join_21 (by decide) ?_
      refine x_iret dX9_join_22 rfl ?_ (Nat.zero_le _) (Nat.zero_le _)
      first | exact ⟨rfl, _, rfl, joinD_1 (fun q => c13 q.1)⟩ | exact ⟨rfl, _, rfl, joinD_1 (fun q => hl q.2)⟩

set_option maxHeartbeats 4000000 in
theorem kd_part (G : vx_G) (d m : mS) (hG : iG d) (hp_ : dP d) (hM : iMs d) (hK : iK d) (hX : iX d) (hA : iA d) (g : Int32) : xK G M_X9_part 3 [(.ref 0), (.int g)] NT (hp (dk d) m) 0 0 (QI (fun r n' h' => n' = NT ∧ ∃ d', h' = hp (dk d') m ∧ partD d g r d')) := by
  refine xK.ofV (by decide) (Nat.le_of_ble_eq_true rfl) ?_
  refine xV.lveq (L' := [some (.ref 0), some (.int g), none]) rfl ?_
  refine x_aload0 dX9_part_0 ?_
  refine x_iload1 dX9_part_1 ?_
  refine x_callV1i mvX9_222 (kd_isGroupThere G d m hG hp_ g) (show (0 : Nat) < NT by decide) (hd_at (a := 0) (by decide) rfl) (xRoom.of rfl) (Nat.le_of_ble_eq_true rfl) dX9_part_2 (fun r_ n_ h_ hq => ?_)
  obtain ⟨rfl, rfl, rfl⟩ := hq
  refine b_if_ne 10 dX9_part_5 (by decide) (fun c5 => ?_) (fun c5 => ?_)
  · obtain ⟨eg, lg, l2⟩ := md_in hG c5.1
    have hb := hM _ lg
    refine x_aload0 dX9_part_10 ?_
    refine go0_1 fgX9_20 dX9_part_11 ?_
    refine x_iload1 dX9_part_14 ?_
    refine lGS (nv g) (eg) (by omega) dX9_part_15 ?_
    refine x_astore2 dX9_part_16 rfl rfl rfl ?_
    refine x_aload2 dX9_part_17 ?_
    refine gG5 (by omega) fgX9_225 dX9_part_18 ?_
    refine x_iconst (nI 1) dX9_part_21 (by decide) ?_
    refine x_icmp_ne 28 dX9_part_22 (by decide) (fun c22 => ?_) (fun c22 => ?_)
    · have h0 := lk01 (hK _ lg) c22
      refine x_aload2 dX9_part_28 ?_
      refine x_aload0 dX9_part_29 ?_
      refine go0_7 fgX9_56 dX9_part_30 ?_
      refine pG4 (by omega) fpX9_232 dX9_part_33 ?_
      have en : nM (mset d 14 (nv g) (d.1 7 0)) (nv g) = nM d (nv g) := nM_k (mset_ne (by decide))
      refine x_aload2 dX9_part_36 ?_
      refine x_iconst (-1) dX9_part_37 (by decide) ?_
      refine x_callV1v mvX9_235 (kd_claimLines G (mset d 14 (nv g) (d.1 7 0)) m (nv g) (by omega) (iMb_k (mset_ne (by decide)) (mset_ne (by decide)) hb) (-1)) (lt_G (by omega)) (hd_G (by omega)) (xRoom.of rfl) (Nat.le_of_ble_eq_true rfl) dX9_part_38 (fun n_ h_ hq => ?_)
      obtain ⟨rfl, rfl⟩ := hq
      rw [en]
      refine x_aload0 dX9_part_41 ?_
      refine x_iconst (nI 3) dX9_part_42 (by decide) ?_
      refine x_iload1 dX9_part_43 ?_
      refine x_iconst (nI 0) dX9_part_44 (by decide) ?_
      refine x_callV3v mvX9_93 (kd_carriedOut G (clM (mset d 14 (nv g) (d.1 7 0)) (nv g) (-1) (nM d (nv g))) m (iX_k ((clM_ne (by decide) _).trans (mset_ne (by decide))) hX) (iA_k ((clM_ne (by decide) _).trans (mset_ne (by decide))) hA) (nI 3) g (nI 0)) (show (0 : Nat) < NT by decide) (hd_at (a := 0) (by decide) rfl) (xRoom.of rfl) (Nat.le_of_ble_eq_true rfl) dX9_part_45 (fun n_ h_ hq => ?_)
      obtain ⟨rfl, rfl⟩ := hq
      refine x_aload2 dX9_part_48 ?_
      refine gG1 (by omega) fgX9_228 dX9_part_49 ?_
      refine xV.toi (d.1 12 (nv g)) ((by rw [coD_ne (by decide) (by decide), clM_ne (by decide), mset_ne (by decide)])) ?_
      refine x_iret dX9_part_52 rfl ?_ (Nat.zero_le _) (Nat.zero_le _)
      exact ⟨rfl, _, rfl, partD_3 c5 h0⟩
    · refine x_bipush (-3) dX9_part_25 (by decide) ?_
      refine x_iret dX9_part_27 rfl ?_ (Nat.zero_le _) (Nat.zero_le _)
      exact ⟨rfl, _, rfl, partD_2 c5 (lk10 c22)⟩
  · refine x_iconst (-1) dX9_part_8 (by decide) ?_
    refine x_iret dX9_part_9 rfl ?_ (Nat.zero_le _) (Nat.zero_le _)
    exact ⟨rfl, _, rfl, partD_1 c5⟩

set_option maxHeartbeats 4000000 in
theorem kd_lock (G : vx_G) (d m : mS) (hG : iG d) (hp_ : dP d) (hX : iX d) (hA : iA d) (g s : Int32) : xK G M_X9_lock 3 [(.ref 0), (.int g), (.int s)] NT (hp (dk d) m) 0 0 (QI (fun r n' h' => n' = NT ∧ ∃ d', h' = hp (dk d') m ∧ lockD d g s r d')) := by
  refine xK.ofV (by decide) (Nat.le_of_ble_eq_true rfl) ?_
  refine xV.lveq (L' := [some (.ref 0), some (.int g), some (.int s), none]) rfl ?_
  refine x_aload0 dX9_lock_0 ?_
  refine x_iload1 dX9_lock_1 ?_
  refine x_callV1i mvX9_222 (kd_isGroupThere G d m hG hp_ g) (show (0 : Nat) < NT by decide) (hd_at (a := 0) (by decide) rfl) (xRoom.of rfl) (Nat.le_of_ble_eq_true rfl) dX9_lock_2 (fun r_ n_ h_ hq => ?_)
  obtain ⟨rfl, rfl, rfl⟩ := hq
  refine b_if_eq 17 dX9_lock_5 (by decide) (fun c5 => ?_) (fun c5 => ?_)
  · refine x_iconst (-1) dX9_lock_17 (by decide) ?_
    refine x_iret dX9_lock_18 rfl ?_ (Nat.zero_le _) (Nat.zero_le _)
    first | exact ⟨rfl, _, rfl, lockD_1 (fun q => c5 q.1)⟩ | exact ⟨rfl, _, rfl, lockD_1 (fun q => c14 q.2)⟩
  · refine x_iload2 dX9_lock_8 ?_
    refine x_iconst (nI 0) dX9_lock_9 (by decide) ?_
    refine x_iconst (nI 1) dX9_lock_10 (by decide) ?_
    refine x_callS3i msX9_75 (kd_isWithin G d m s (nI 0) (nI 1)) (xRoom.of rfl) (Nat.le_of_ble_eq_true rfl) dX9_lock_11 (fun r_ n_ h_ hq => ?_)
    obtain ⟨rfl, rfl, rfl⟩ := hq
    refine b_if_ne 19 dX9_lock_14 (by decide) (fun c14 => ?_) (fun c14 => ?_)
    · obtain ⟨eg, lg, l2⟩ := md_in hG c5.1
      refine x_aload0 dX9_lock_19 ?_
      refine go0_1 fgX9_20 dX9_lock_20 ?_
      refine x_iload1 dX9_lock_23 ?_
      refine lGS (nv g) (eg) (by omega) dX9_lock_24 ?_
      refine gG5 (by omega) fgX9_225 dX9_lock_25 ?_
      refine x_istore3 dX9_lock_28 rfl rfl rfl ?_
      refine x_aload0 dX9_lock_29 ?_
      refine go0_1 fgX9_20 dX9_lock_30 ?_
      refine x_iload1 dX9_lock_33 ?_
      refine lGS (nv g) (eg) (by omega) dX9_lock_34 ?_
      refine x_iload2 dX9_lock_35 ?_
      refine pG5 (by omega) fpX9_225 dX9_lock_36 ?_
      refine x_aload0 dX9_lock_39 ?_
      refine x_iconst (nI 4) dX9_lock_40 (by decide) ?_
      refine x_iload1 dX9_lock_41 ?_
      refine x_iload3 dX9_lock_42 ?_
      refine x_callV3v mvX9_93 (kd_carriedOut G (mset d 15 (nv g) s) m (iX_k (mset_ne (by decide)) hX) (iA_k (mset_ne (by decide)) hA) (nI 4) g (d.1 15 (nv g))) (show (0 : Nat) < NT by decide) (hd_at (a := 0) (by decide) rfl) (xRoom.of rfl) (Nat.le_of_ble_eq_true rfl) dX9_lock_43 (fun n_ h_ hq => ?_)
      obtain ⟨rfl, rfl⟩ := hq
      refine x_iload3 dX9_lock_46 ?_
      refine x_iret dX9_lock_47 rfl ?_ (Nat.zero_le _) (Nat.zero_le _)
      exact ⟨rfl, _, rfl, lockD_2 ⟨c5, c14⟩⟩
    · refine x_iconst (-1) dX9_lock_17 (by decide) ?_
      refine x_iret dX9_lock_18 rfl ?_ (Nat.zero_le _) (Nat.zero_le _)
      first | exact ⟨rfl, _, rfl, lockD_1 (fun q => c5 q.1)⟩ | exact ⟨rfl, _, rfl, lockD_1 (fun q => c14 q.2)⟩
