/-! ===== the desk's methods, 5: groups made, acts carried out and taken back, sums and counts ===== -/

set_option maxHeartbeats 4000000 in
theorem kd_addTo (G : vx_G) (d m : mS) (g a : Nat) (hg : g < 200) (ha : a < 160) (e12 : d.1 12 g = nI (nM d g)) (h8 : nM d g < 8) : xK G M_X9_addTo 1 [(.ref 0), (.int (nI (g))), (.ref (lC a))] NT (hp (dk d) m) 0 0 (QV (fun n' h' => n' = NT ∧ h' = hp (dk (adM d g a)) m)) := by
  refine xK.ofV (by decide) (Nat.le_of_ble_eq_true rfl) ?_
  refine xV.lveq (L' := [some (.ref 0), some (.int (nI (g))), some (.ref (lC a))]) rfl ?_
  refine x_aload0 dX9_addTo_0 ?_
  refine go0_1 fgX9_20 dX9_addTo_1 ?_
  refine x_iload1 dX9_addTo_4 ?_
  refine lGS (g) rfl (by omega) dX9_addTo_5 ?_
  refine x_aload2 dX9_addTo_6 ?_
  refine x_callV1v mvX9_341 (kd_add G d m g hg a ha e12 h8) (lt_G (by omega)) (hd_G (by omega)) (xRoom.of rfl) (Nat.le_of_ble_eq_true rfl) dX9_addTo_7 (fun n_ h_ hq => ?_)
  obtain ⟨rfl, rfl⟩ := hq
  refine x_aload2 dX9_addTo_10 ?_
  refine x_iload1 dX9_addTo_11 ?_
  refine pL7 (by omega) fpX9_121 dX9_addTo_12 ?_
  refine x_vret dX9_addTo_15 rfl ?_ (Nat.zero_le _) (Nat.zero_le _)
  exact ⟨rfl, rfl⟩

theorem op_ng {d : mS} {s : Int32} (hG : iG d) : mset (opD d (nG d) s (d.1 7 0)) 16 0 (nI (nG d + 1)) = ngM d s := by
  unfold opD ngM
  rw [mset_comm (m := d) (k := 12) (k' := 10) (by decide)]
theorem ng12 (d : mS) (s : Int32) : (ngM d s).1 12 (nG d) = nI 0 ∧ nM (ngM d s) (nG d) = 0 := by
  have e : (ngM d s).1 12 (nG d) = nI 0 := by
    unfold ngM
    rw [mset_ne (by decide), mset_ne (by decide), mset_ne (by decide), mset_ne (by decide), mset_at]
  exact ⟨e, by unfold nM; rw [e]; exact nv_nI (by decide)⟩
theorem ad12 {d : mS} {g a : Nat} (h : nM d g < 100) : (adM d g a).1 12 g = nI (nM d g + 1) ∧ nM (adM d g a) g = nM d g + 1 := by
  have e : (adM d g a).1 12 g = nI (nM d g + 1) := by
    unfold adM
    rw [mset_ne (by decide), mset_at]
  exact ⟨e, by rw [nM, e]; exact nv_nI (by omega)⟩
theorem op16 {d : mS} {g : Nat} {s t : Int32} : (opD d g s t).1 16 = d.1 16 := by
  unfold opD
  rw [mset_ne (by decide), mset_ne (by decide), mset_ne (by decide), mset_ne (by decide), mset_ne (by decide)]

set_option maxHeartbeats 4000000 in
theorem kd_makeGroup (G : vx_G) (d m : mS) (hG : iG d) (h2 : nG d < 200) (s : Int32) (A C : Nat) (hA : A < 160) (hC : C < 160) : xK G M_X9_makeGroup 2 [(.ref 0), (.int s), (.ref (lC A)), (.ref (lC C))] NT (hp (dk d) m) 0 0 (QI (fun r n' h' => r = nI (nG d) ∧ n' = NT ∧ h' = hp (dk (hdM d s A C)) m)) := by
  obtain ⟨e16, l16⟩ := hG
  refine xK.ofV (by decide) (Nat.le_of_ble_eq_true rfl) ?_
  refine xV.lveq (L' := [some (.ref 0), some (.int s), some (.ref (lC A)), some (.ref (lC C)), none]) rfl ?_
  refine x_aload0 dX9_makeGroup_0 ?_
  refine go0_6 fgX9_52 dX9_makeGroup_1 ?_
  refine xV.toi (nI (nG d)) (e16) ?_
  refine x_istore4 dX9_makeGroup_4 rfl rfl rfl ?_
  refine x_aload0 dX9_makeGroup_6 ?_
  refine go0_1 fgX9_20 dX9_makeGroup_7 ?_
  refine x_iload4 dX9_makeGroup_10 ?_
  refine lGS (nG d) rfl (by omega) dX9_makeGroup_12 ?_
  refine x_iload1 dX9_makeGroup_13 ?_
  refine x_aload0 dX9_makeGroup_14 ?_
  refine go0_7 fgX9_56 dX9_makeGroup_15 ?_
  refine x_callV2v mvX9_338 (kd_open G d m (nG d) h2 s (d.1 7 0)) (lt_G (by omega)) (hd_G (by omega)) (xRoom.of rfl) (Nat.le_of_ble_eq_true rfl) dX9_makeGroup_18 (fun n_ h_ hq => ?_)
  obtain ⟨rfl, rfl⟩ := hq
  refine x_aload0 dX9_makeGroup_21 ?_
  refine x_dup dX9_makeGroup_22 rfl ?_
  refine go0_6 fgX9_52 dX9_makeGroup_23 ?_
  refine xV.toi (nI (nG d)) ((by rw [op16]; exact e16)) ?_
  refine x_iconst (nI 1) dX9_makeGroup_26 (by decide) ?_
  refine n_iadd dX9_makeGroup_27 ?_
  refine po0_6 fpX9_52 dX9_makeGroup_28 ?_
  rw [op_ng ⟨e16, l16⟩]
  have q1 := ng12 d s
  have q2 := ad12 (d := ngM d s) (g := nG d) (a := A) (by omega)
  refine x_aload0 dX9_makeGroup_31 ?_
  refine x_iload4 dX9_makeGroup_32 ?_
  refine x_aload2 dX9_makeGroup_34 ?_
  refine x_callV2v mvX9_218 (kd_addTo G (ngM d s) m (nG d) A h2 hA (by rw [q1.2]; exact q1.1) (by omega)) (show (0 : Nat) < NT by decide) (hd_at (a := 0) (by decide) rfl) (xRoom.of rfl) (Nat.le_of_ble_eq_true rfl) dX9_makeGroup_35 (fun n_ h_ hq => ?_)
  obtain ⟨rfl, rfl⟩ := hq
  refine x_aload0 dX9_makeGroup_38 ?_
  refine x_iload4 dX9_makeGroup_39 ?_
  refine x_aload3 dX9_makeGroup_41 ?_
  refine x_callV2v mvX9_218 (kd_addTo G (adM (ngM d s) (nG d) A) m (nG d) C h2 hC (by rw [q2.2]; exact q2.1) (by omega)) (show (0 : Nat) < NT by decide) (hd_at (a := 0) (by decide) rfl) (xRoom.of rfl) (Nat.le_of_ble_eq_true rfl) dX9_makeGroup_42 (fun n_ h_ hq => ?_)
  obtain ⟨rfl, rfl⟩ := hq
  refine x_iload4 dX9_makeGroup_45 ?_
  refine x_iret dX9_makeGroup_47 rfl ?_ (Nat.zero_le _) (Nat.zero_le _)
  exact ⟨rfl, rfl, rfl⟩

def coD (d : mS) (kd o w : Int32) : mS := mset (puD d kd o w) 50 0 (d.1 50 0 + nI 1)
theorem pu50 {d : mS} {kd o w : Int32} : (puD d kd o w).1 50 = d.1 50 := by
  unfold puD
  rw [mset_ne (by decide), mset_ne (by decide), mset_ne (by decide), mset_ne (by decide), mset_ne (by decide)]
def euD (d : mS) : mS := mset (mset d 46 0 (nI 0)) 50 0 (d.1 50 0 + nI 1)

set_option maxHeartbeats 4000000 in
theorem kd_carriedOut (G : vx_G) (d m : mS) (hX : iX d) (hA : iA d) (kd o w : Int32) : xK G M_X9_carriedOut 2 [(.ref 0), (.int kd), (.int o), (.int w)] NT (hp (dk d) m) 0 0 (QV (fun n' h' => n' = NT ∧ h' = hp (dk (coD d kd o w)) m)) := by
  refine xK.ofV (by decide) (Nat.le_of_ble_eq_true rfl) ?_
  refine xV.lveq (L' := [some (.ref 0), some (.int kd), some (.int o), some (.int w)]) rfl ?_
  refine x_aload0 dX9_carriedOut_0 ?_
  refine go0_2 fgX9_27 dX9_carriedOut_1 ?_
  refine x_iload1 dX9_carriedOut_4 ?_
  refine x_iload2 dX9_carriedOut_5 ?_
  refine x_iload3 dX9_carriedOut_6 ?_
  refine x_callV3v mvX9_344 (kd_put G d m hX hA kd o w) (show (167 : Nat) < NT by decide) (hd_at (a := 167) (by decide) rfl) (xRoom.of rfl) (Nat.le_of_ble_eq_true rfl) dX9_carriedOut_7 (fun n_ h_ hq => ?_)
  obtain ⟨rfl, rfl⟩ := hq
  refine x_aload0 dX9_carriedOut_10 ?_
  refine x_dup dX9_carriedOut_11 rfl ?_
  refine go0_10 fgX9_65 dX9_carriedOut_12 ?_
  refine x_iconst (nI 1) dX9_carriedOut_15 (by decide) ?_
  refine x_iadd dX9_carriedOut_16 ?_
  refine xV.toi (d.1 50 0 + nI 1) ((by rw [pu50])) ?_
  refine po0_10 fpX9_65 dX9_carriedOut_17 ?_
  refine x_vret dX9_carriedOut_20 rfl ?_ (Nat.zero_le _) (Nat.zero_le _)
  exact ⟨rfl, rfl⟩

set_option maxHeartbeats 4000000 in
theorem kd_endUndoing (G : vx_G) (d m : mS)  : xK G M_X9_endUndoing 0 [(.ref 0)] NT (hp (dk d) m) 0 0 (QV (fun n' h' => n' = NT ∧ h' = hp (dk (euD d)) m)) := by
  refine xK.ofV (by decide) (Nat.le_of_ble_eq_true rfl) ?_
  refine xV.lveq (L' := [some (.ref 0)]) rfl ?_
  refine x_aload0 dX9_endUndoing_0 ?_
  refine go0_2 fgX9_27 dX9_endUndoing_1 ?_
  refine x_iconst (nI 0) dX9_endUndoing_4 (by decide) ?_
  refine po167_4 fpX9_294 dX9_endUndoing_5 ?_
  refine x_aload0 dX9_endUndoing_8 ?_
  refine x_dup dX9_endUndoing_9 rfl ?_
  refine go0_10 fgX9_65 dX9_endUndoing_10 ?_
  refine x_iconst (nI 1) dX9_endUndoing_13 (by decide) ?_
  refine x_iadd dX9_endUndoing_14 ?_
  refine xV.toi (d.1 50 0 + nI 1) ((by rw [mset_ne (by decide)])) ?_
  refine po0_10 fpX9_65 dX9_endUndoing_15 ?_
  refine x_vret dX9_endUndoing_18 rfl ?_ (Nat.zero_le _) (Nat.zero_le _)
  exact ⟨rfl, rfl⟩

def tbD (d : mS) (k O : Nat) (w : Int32) : mS := if k = 0 then mset d 6 O (nI (nL d O - 1)) else if k = 1 then mset (clM d O (-1) (nM d O)) 16 0 (nI (nG d - 1)) else if k = 2 then mset (drD d O) 10 O w else if k = 3 then clM (mset d 14 O (-1)) O (nI O) (nM d O) else mset d 15 O w
def tbOk (d : mS) (k O : Nat) : Prop := k ≤ 4 ∧ (k = 0 → O < 2 ∧ 1 ≤ nL d O) ∧ (k ≠ 0 → O < nG d ∧ iMb d O) ∧ (k = 2 → 1 ≤ nM d O)

set_option maxHeartbeats 4000000 in
theorem kd_takeBack (G : vx_G) (d m : mS) (hL : iL d) (hG : iG d) (k O : Nat) (hU : tbOk d k O) (w : Int32) : xK G M_X9_takeBack 1 [(.ref 0), (.int (nI (k))), (.int (nI (O))), (.int w)] NT (hp (dk d) m) 0 0 (QV (fun n' h' => n' = NT ∧ h' = hp (dk (tbD d k O w)) m)) := by
  obtain ⟨hk4, u0, u1, u2⟩ := hU
  obtain ⟨e16, l16⟩ := hG
  refine xK.ofV (by decide) (Nat.le_of_ble_eq_true rfl) ?_
  refine xV.lveq (L' := [some (.ref 0), some (.int (nI (k))), some (.int (nI (O))), some (.int w)]) rfl ?_
  refine x_iload1 dX9_takeBack_0 ?_
  by_cases cs0 : k = 0
  · subst cs0
    obtain ⟨ho, h1⟩ := u0 rfl
    obtain ⟨e6, l6⟩ := hL O ho
    refine x_tableIn 32 dX9_takeBack_1 (by decide) (by decide) (off := 31) (by decide) (by decide) ?_
    refine x_aload0 dX9_takeBack_32 ?_
    refine go0_0 fgX9_12 dX9_takeBack_33 ?_
    refine x_iload2 dX9_takeBack_36 ?_
    refine lBK (O) rfl (by omega) dX9_takeBack_37 ?_
    refine x_dup dX9_takeBack_38 rfl ?_
    refine gB1 (by omega) fgX9_80 dX9_takeBack_39 ?_
    refine xV.toi (nI (nL d O)) (e6) ?_
    refine x_iconst (nI 1) dX9_takeBack_42 (by decide) ?_
    refine n_isub dX9_takeBack_43 (by omega) ?_
    refine pB1 (by omega) fpX9_80 dX9_takeBack_44 ?_
    refine x_goto 128 dX9_takeBack_47 (by decide) ?_
    refine x_vret dX9_takeBack_128 rfl ?_ (Nat.zero_le _) (Nat.zero_le _)
    exact ⟨rfl, rfl⟩
  by_cases cs1 : k = 1
  · subst cs1
    obtain ⟨ho, hb⟩ := u1 (by decide)
    refine x_tableIn 50 dX9_takeBack_1 (by decide) (by decide) (off := 49) (by decide) (by decide) ?_
    refine x_aload0 dX9_takeBack_50 ?_
    refine go0_1 fgX9_20 dX9_takeBack_51 ?_
    refine x_iload2 dX9_takeBack_54 ?_
    refine lGS (O) rfl (by omega) dX9_takeBack_55 ?_
    refine x_iconst (-1) dX9_takeBack_56 (by decide) ?_
    refine x_callV1v mvX9_235 (kd_claimLines G d m O (by omega) hb (-1)) (lt_G (by omega)) (hd_G (by omega)) (xRoom.of rfl) (Nat.le_of_ble_eq_true rfl) dX9_takeBack_57 (fun n_ h_ hq => ?_)
    obtain ⟨rfl, rfl⟩ := hq
    refine x_aload0 dX9_takeBack_60 ?_
    refine x_dup dX9_takeBack_61 rfl ?_
    refine go0_6 fgX9_52 dX9_takeBack_62 ?_
    refine xV.toi (nI (nG d)) ((by rw [clM_ne (by decide)]; exact e16)) ?_
    refine x_iconst (nI 1) dX9_takeBack_65 (by decide) ?_
    refine n_isub dX9_takeBack_66 (by omega) ?_
    refine po0_6 fpX9_52 dX9_takeBack_67 ?_
    refine x_goto 128 dX9_takeBack_70 (by decide) ?_
    refine x_vret dX9_takeBack_128 rfl ?_ (Nat.zero_le _) (Nat.zero_le _)
    exact ⟨rfl, rfl⟩
  by_cases cs2 : k = 2
  · subst cs2
    obtain ⟨ho, hb⟩ := u1 (by decide)
    refine x_tableIn 73 dX9_takeBack_1 (by decide) (by decide) (off := 72) (by decide) (by decide) ?_
    refine x_aload0 dX9_takeBack_73 ?_
    refine go0_1 fgX9_20 dX9_takeBack_74 ?_
    refine x_iload2 dX9_takeBack_77 ?_
    refine lGS (O) rfl (by omega) dX9_takeBack_78 ?_
    refine x_callV0v mvX9_347 (kd_dropLatest G d m O (by omega) hb (u2 rfl)) (lt_G (by omega)) (hd_G (by omega)) (xRoom.of rfl) (Nat.le_of_ble_eq_true rfl) dX9_takeBack_79 (fun n_ h_ hq => ?_)
    obtain ⟨rfl, rfl⟩ := hq
    refine x_aload0 dX9_takeBack_82 ?_
    refine go0_1 fgX9_20 dX9_takeBack_83 ?_
    refine x_iload2 dX9_takeBack_86 ?_
    refine lGS (O) rfl (by omega) dX9_takeBack_87 ?_
    refine x_iload3 dX9_takeBack_88 ?_
    refine pG2 (by omega) fpX9_229 dX9_takeBack_89 ?_
    refine x_goto 128 dX9_takeBack_92 (by decide) ?_
    refine x_vret dX9_takeBack_128 rfl ?_ (Nat.zero_le _) (Nat.zero_le _)
    exact ⟨rfl, rfl⟩
  by_cases cs3 : k = 3
  · subst cs3
    obtain ⟨ho, hb⟩ := u1 (by decide)
    have hb2 : iMb (mset d 14 O (-1)) O := iMb_k (mset_ne (by decide)) (mset_ne (by decide)) hb
    have en : nM (mset d 14 O (-1)) O = nM d O := nM_k (mset_ne (by decide))
    refine x_tableIn 95 dX9_takeBack_1 (by decide) (by decide) (off := 94) (by decide) (by decide) ?_
    refine x_aload0 dX9_takeBack_95 ?_
    refine go0_1 fgX9_20 dX9_takeBack_96 ?_
    refine x_iload2 dX9_takeBack_99 ?_
    refine lGS (O) rfl (by omega) dX9_takeBack_100 ?_
    refine x_iconst (-1) dX9_takeBack_101 (by decide) ?_
    refine pG4 (by omega) fpX9_232 dX9_takeBack_102 ?_
    refine x_aload0 dX9_takeBack_105 ?_
    refine go0_1 fgX9_20 dX9_takeBack_106 ?_
    refine x_iload2 dX9_takeBack_109 ?_
    refine lGS (O) rfl (by omega) dX9_takeBack_110 ?_
    refine x_iload2 dX9_takeBack_111 ?_
    refine x_callV1v mvX9_235 (kd_claimLines G (mset d 14 O (-1)) m O (by omega) hb2 (nI O)) (lt_G (by omega)) (hd_G (by omega)) (xRoom.of rfl) (Nat.le_of_ble_eq_true rfl) dX9_takeBack_112 (fun n_ h_ hq => ?_)
    obtain ⟨rfl, rfl⟩ := hq
    rw [en]
    refine x_goto 128 dX9_takeBack_115 (by decide) ?_
    refine x_vret dX9_takeBack_128 rfl ?_ (Nat.zero_le _) (Nat.zero_le _)
    exact ⟨rfl, rfl⟩
  have cs4 : k = 4 := by omega
  subst cs4
  obtain ⟨ho, hb⟩ := u1 (by decide)
  refine x_tableOut 118 dX9_takeBack_1 (by decide) (by decide) ?_
  refine x_aload0 dX9_takeBack_118 ?_
  refine go0_1 fgX9_20 dX9_takeBack_119 ?_
  refine x_iload2 dX9_takeBack_122 ?_
  refine lGS (O) rfl (by omega) dX9_takeBack_123 ?_
  refine x_iload3 dX9_takeBack_124 ?_
  refine pG5 (by omega) fpX9_225 dX9_takeBack_125 ?_
  refine x_vret dX9_takeBack_128 rfl ?_ (Nat.zero_le _) (Nat.zero_le _)
  exact ⟨rfl, rfl⟩

def bD (d : mS) : Int := fb_si (aL d 0) (nL d 0) - fb_si (aL d 1) (nL d 1)

set_option maxHeartbeats 4000000 in
theorem kd_booksDifference (G : vx_G) (d m : mS) (hL : iL d) : xK G M_X9_booksDifference 1 [(.ref 0)] NT (hp (dk d) m) 0 0 (QI (fun r n' h' => r = zI (bD d) ∧ n' = NT ∧ h' = hp (dk d) m)) := by
  refine xK.ofV (by decide) (Nat.le_of_ble_eq_true rfl) ?_
  refine xV.lveq (L' := [some (.ref 0)]) rfl ?_
  refine x_aload0 dX9_booksDifference_0 ?_
  refine go0_0 fgX9_12 dX9_booksDifference_1 ?_
  refine x_iconst (nI 0) dX9_booksDifference_4 (by decide) ?_
  refine lBK (0) rfl (by omega) dX9_booksDifference_5 ?_
  refine x_callV0i mvX9_350 (k_sumOfAll G d m hL 0 (by decide)) (lt_B _) (hd_B (by omega)) (xRoom.of rfl) (Nat.le_of_ble_eq_true rfl) dX9_booksDifference_6 (fun r_ n_ h_ hq => ?_)
  obtain ⟨rfl, rfl, rfl⟩ := hq
  refine x_aload0 dX9_booksDifference_9 ?_
  refine go0_0 fgX9_12 dX9_booksDifference_10 ?_
  refine x_iconst (nI 1) dX9_booksDifference_13 (by decide) ?_
  refine lBK (1) rfl (by omega) dX9_booksDifference_14 ?_
  refine x_callV0i mvX9_350 (k_sumOfAll G d m hL 1 (by decide)) (lt_B _) (hd_B (by omega)) (xRoom.of rfl) (Nat.le_of_ble_eq_true rfl) dX9_booksDifference_15 (fun r_ n_ h_ hq => ?_)
  obtain ⟨rfl, rfl, rfl⟩ := hq
  refine x_isub dX9_booksDifference_18 ?_
  refine x_iret dX9_booksDifference_19 rfl ?_ (Nat.zero_le _) (Nat.zero_le _)
  exact ⟨zI_sub _ _, rfl, rfl⟩

set_option maxHeartbeats 4000000 in
theorem kd_groupsDifference (G : vx_G) (d m : mS) (hG : iG d) (hp_ : dP d) (hM : iMs d) : xK G M_X9_groupsDifference 1 [(.ref 0)] NT (hp (dk d) m) 0 0 (QI (fun r n' h' => r = zI (fb_si (gT d) (nG d)) ∧ n' = NT ∧ h' = hp (dk d) m)) := by
  obtain ⟨e16, l16⟩ := hG
  have lp : ∀ (n_ : Nat) (g : Nat) (s : Int32), g ≤ nG d → nG d + 1 ≤ g + n_ → (s = zI (fb_si (gT d) g)) → xV (mF G M_X9_groupsDifference 1 0 0 (QI (fun r n' h' => r = zI (fb_si (gT d) (nG d)) ∧ n' = NT ∧ h' = hp (dk d) m))) 4 [some (.ref 0), some (.int s), some (.int (nI (g)))] [] NT (hp (dk d) m) 0 0 := by
    intro n_
    induction n_ with
    | zero => intro g s hi_ hn_; omega
    | succ n_ ih =>
      intro g s hi_ hn_ hc
      refine x_iload2 dX9_groupsDifference_4 ?_
      refine x_aload0 dX9_groupsDifference_5 ?_
      refine go0_6 fgX9_52 dX9_groupsDifference_6 ?_
      refine xV.toi (nI (nG d)) (e16) ?_
      refine n_icmp_ge 42 dX9_groupsDifference_9 (by decide) (by omega) (by omega) (fun c9 => ?_) (fun c9 => ?_)
      · refine x_iload1 dX9_groupsDifference_42 ?_
        refine x_iret dX9_groupsDifference_43 rfl ?_ (Nat.zero_le _) (Nat.zero_le _)
        exact ⟨by rw [hc, show g = nG d by omega], rfl, rfl⟩
      · refine x_aload0 dX9_groupsDifference_12 ?_
        refine go0_1 fgX9_20 dX9_groupsDifference_13 ?_
        refine x_iload2 dX9_groupsDifference_16 ?_
        refine lGS (g) rfl (by omega) dX9_groupsDifference_17 ?_
        refine x_callV0i mvX9_319 (kd_isThere G d m g (by omega) (hp_ g (by omega))) (lt_G (by omega)) (hd_G (by omega)) (xRoom.of rfl) (Nat.le_of_ble_eq_true rfl) dX9_groupsDifference_18 (fun r_ n_ h_ hq => ?_)
        obtain ⟨rfl, rfl, rfl⟩ := hq
        refine b_if_eq 36 dX9_groupsDifference_21 (by decide) (fun c21 => ?_) (fun c21 => ?_)
        · refine x_iinc2 (nI (g + 1)) dX9_groupsDifference_36 (nI_add g 1) rfl rfl rfl ?_
          refine x_goto 4 dX9_groupsDifference_39 (by decide) ?_
          first | exact ih (g + 1) _ (by omega) (by omega) (by rw [fb_si_succ, hc, zI_add, show gT d g = gDf d g from if_pos c21]) | exact ih (g + 1) _ (by omega) (by omega) (by rw [fb_si_succ, hc, show gT d g = 0 from if_neg c21, Int.add_zero])
        · refine x_iload1 dX9_groupsDifference_24 ?_
          refine x_aload0 dX9_groupsDifference_25 ?_
          refine go0_1 fgX9_20 dX9_groupsDifference_26 ?_
          refine x_iload2 dX9_groupsDifference_29 ?_
          refine lGS (g) rfl (by omega) dX9_groupsDifference_30 ?_
          refine x_callV0i mvX9_239 (kd_difference G d m g (by omega) (hM g (by omega))) (lt_G (by omega)) (hd_G (by omega)) (xRoom.of rfl) (Nat.le_of_ble_eq_true rfl) dX9_groupsDifference_31 (fun r_ n_ h_ hq => ?_)
          obtain ⟨rfl, rfl, rfl⟩ := hq
          refine x_iadd dX9_groupsDifference_34 ?_
          refine x_istore1 dX9_groupsDifference_35 rfl rfl rfl ?_
          refine x_iinc2 (nI (g + 1)) dX9_groupsDifference_36 (nI_add g 1) rfl rfl rfl ?_
          refine x_goto 4 dX9_groupsDifference_39 (by decide) ?_
          first | exact ih (g + 1) _ (by omega) (by omega) (by rw [fb_si_succ, hc, zI_add, show gT d g = gDf d g from if_pos c21]) | exact ih (g + 1) _ (by omega) (by omega) (by rw [fb_si_succ, hc, show gT d g = 0 from if_neg c21, Int.add_zero])
  refine xK.ofV (by decide) (Nat.le_of_ble_eq_true rfl) ?_
  refine xV.lveq (L' := [some (.ref 0), none, none]) rfl ?_
  refine x_iconst (nI 0) dX9_groupsDifference_0 (by decide) ?_
  refine x_istore1 dX9_groupsDifference_1 rfl rfl rfl ?_
  refine x_iconst (nI 0) dX9_groupsDifference_2 (by decide) ?_
  refine x_istore2 dX9_groupsDifference_3 rfl rfl rfl ?_
  exact lp (nG d + 1) 0 (nI 0) (Nat.zero_le _) (by omega) nI_0

set_option maxHeartbeats 4000000 in
theorem kd_countThere (G : vx_G) (d m : mS) (hG : iG d) (hp_ : dP d) : xK G M_X9_countThere 1 [(.ref 0)] NT (hp (dk d) m) 0 0 (QI (fun r n' h' => r = nI (fb_ct (thG d) (nG d)) ∧ n' = NT ∧ h' = hp (dk d) m)) := by
  obtain ⟨e16, l16⟩ := hG
  have lp : ∀ (n_ : Nat) (g : Nat) (c : Nat), g ≤ nG d → nG d + 1 ≤ g + n_ → (c = fb_ct (thG d) g) → xV (mF G M_X9_countThere 1 0 0 (QI (fun r n' h' => r = nI (fb_ct (thG d) (nG d)) ∧ n' = NT ∧ h' = hp (dk d) m))) 4 [some (.ref 0), some (.int (nI (c))), some (.int (nI (g)))] [] NT (hp (dk d) m) 0 0 := by
    intro n_
    induction n_ with
    | zero => intro g c hi_ hn_; omega
    | succ n_ ih =>
      intro g c hi_ hn_ hc
      refine x_iload2 dX9_countThere_4 ?_
      refine x_aload0 dX9_countThere_5 ?_
      refine go0_6 fgX9_52 dX9_countThere_6 ?_
      refine xV.toi (nI (nG d)) (e16) ?_
      refine n_icmp_ge 33 dX9_countThere_9 (by decide) (by omega) (by omega) (fun c9 => ?_) (fun c9 => ?_)
      · refine x_iload1 dX9_countThere_33 ?_
        refine x_iret dX9_countThere_34 rfl ?_ (Nat.zero_le _) (Nat.zero_le _)
        exact ⟨by rw [hc, show g = nG d by omega], rfl, rfl⟩
      · refine x_aload0 dX9_countThere_12 ?_
        refine go0_1 fgX9_20 dX9_countThere_13 ?_
        refine x_iload2 dX9_countThere_16 ?_
        refine lGS (g) rfl (by omega) dX9_countThere_17 ?_
        refine x_callV0i mvX9_319 (kd_isThere G d m g (by omega) (hp_ g (by omega))) (lt_G (by omega)) (hd_G (by omega)) (xRoom.of rfl) (Nat.le_of_ble_eq_true rfl) dX9_countThere_18 (fun r_ n_ h_ hq => ?_)
        obtain ⟨rfl, rfl, rfl⟩ := hq
        refine b_if_eq 27 dX9_countThere_21 (by decide) (fun c21 => ?_) (fun c21 => ?_)
        · refine x_iinc2 (nI (g + 1)) dX9_countThere_27 (nI_add g 1) rfl rfl rfl ?_
          refine x_goto 4 dX9_countThere_30 (by decide) ?_
          first | exact ih (g + 1) _ (by omega) (by omega) (by rw [fb_ct_succ, ← hc, show thG d g = true from decide_eq_true c21]; rfl) | exact ih (g + 1) _ (by omega) (by omega) (by rw [fb_ct_succ, ← hc, show thG d g = false from decide_eq_false c21]; rfl)
        · refine x_iinc1 (nI (c + 1)) dX9_countThere_24 (nI_add c 1) rfl rfl rfl ?_
          refine x_iinc2 (nI (g + 1)) dX9_countThere_27 (nI_add g 1) rfl rfl rfl ?_
          refine x_goto 4 dX9_countThere_30 (by decide) ?_
          first | exact ih (g + 1) _ (by omega) (by omega) (by rw [fb_ct_succ, ← hc, show thG d g = true from decide_eq_true c21]; rfl) | exact ih (g + 1) _ (by omega) (by omega) (by rw [fb_ct_succ, ← hc, show thG d g = false from decide_eq_false c21]; rfl)
  refine xK.ofV (by decide) (Nat.le_of_ble_eq_true rfl) ?_
  refine xV.lveq (L' := [some (.ref 0), none, none]) rfl ?_
  refine x_iconst (nI 0) dX9_countThere_0 (by decide) ?_
  refine x_istore1 dX9_countThere_1 rfl rfl rfl ?_
  refine x_iconst (nI 0) dX9_countThere_2 (by decide) ?_
  refine x_istore2 dX9_countThere_3 rfl rfl rfl ?_
  exact lp (nG d + 1) 0 0 (Nat.zero_le _) (by omega) rfl

def unE (d : mS) (g : Nat) : Bool := decide (d.1 14 g < 0 ∧ ¬ zI (gDf d g) = 0)

set_option maxHeartbeats 4000000 in
theorem kd_countUneven (G : vx_G) (d m : mS) (hG : iG d) (hp_ : dP d) (hM : iMs d) : xK G M_X9_countUneven 2 [(.ref 0)] NT (hp (dk d) m) 0 0 (QI (fun r n' h' => r = nI (fb_ct (unE d) (nG d)) ∧ n' = NT ∧ h' = hp (dk d) m)) := by
  obtain ⟨e16, l16⟩ := hG
  have lp : ∀ (n_ : Nat) (g : Nat) (c : Nat), g ≤ nG d → nG d + 1 ≤ g + n_ → (c = fb_ct (unE d) g) → xV (mF G M_X9_countUneven 2 0 0 (QI (fun r n' h' => r = nI (fb_ct (unE d) (nG d)) ∧ n' = NT ∧ h' = hp (dk d) m))) 4 [some (.ref 0), some (.int (nI (c))), some (.int (nI (g)))] [] NT (hp (dk d) m) 0 0 := by
    intro n_
    induction n_ with
    | zero => intro g c hi_ hn_; omega
    | succ n_ ih =>
      intro g c hi_ hn_ hc
      refine x_iload2 dX9_countUneven_4 ?_
      refine x_aload0 dX9_countUneven_5 ?_
      refine go0_6 fgX9_52 dX9_countUneven_6 ?_
      refine xV.toi (nI (nG d)) (e16) ?_
      refine n_icmp_ge 33 dX9_countUneven_9 (by decide) (by omega) (by omega) (fun c9 => ?_) (fun c9 => ?_)
      · refine x_iload1 dX9_countUneven_33 ?_
        refine x_iret dX9_countUneven_34 rfl ?_ (Nat.zero_le _) (Nat.zero_le _)
        exact ⟨by rw [hc, show g = nG d by omega], rfl, rfl⟩
      · refine x_aload0 dX9_countUneven_12 ?_
        refine go0_1 fgX9_20 dX9_countUneven_13 ?_
        refine x_iload2 dX9_countUneven_16 ?_
        refine lGS (g) rfl (by omega) dX9_countUneven_17 ?_
        refine x_callV0i mvX9_279 (kd_isUneven G d m g (by omega) (hM g (by omega)) (hp_ g (by omega))) (lt_G (by omega)) (hd_G (by omega)) (xRoom.of rfl) (Nat.le_of_ble_eq_true rfl) dX9_countUneven_18 (fun r_ n_ h_ hq => ?_)
        obtain ⟨rfl, rfl, rfl⟩ := hq
        refine b_if_eq 27 dX9_countUneven_21 (by decide) (fun c21 => ?_) (fun c21 => ?_)
        · refine x_iinc2 (nI (g + 1)) dX9_countUneven_27 (nI_add g 1) rfl rfl rfl ?_
          refine x_goto 4 dX9_countUneven_30 (by decide) ?_
          first | exact ih (g + 1) _ (by omega) (by omega) (by rw [fb_ct_succ, ← hc, show unE d g = true from decide_eq_true c21]; rfl) | exact ih (g + 1) _ (by omega) (by omega) (by rw [fb_ct_succ, ← hc, show unE d g = false from decide_eq_false c21]; rfl)
        · refine x_iinc1 (nI (c + 1)) dX9_countUneven_24 (nI_add c 1) rfl rfl rfl ?_
          refine x_iinc2 (nI (g + 1)) dX9_countUneven_27 (nI_add g 1) rfl rfl rfl ?_
          refine x_goto 4 dX9_countUneven_30 (by decide) ?_
          first | exact ih (g + 1) _ (by omega) (by omega) (by rw [fb_ct_succ, ← hc, show unE d g = true from decide_eq_true c21]; rfl) | exact ih (g + 1) _ (by omega) (by omega) (by rw [fb_ct_succ, ← hc, show unE d g = false from decide_eq_false c21]; rfl)
  refine xK.ofV (by decide) (Nat.le_of_ble_eq_true rfl) ?_
  refine xV.lveq (L' := [some (.ref 0), none, none]) rfl ?_
  refine x_iconst (nI 0) dX9_countUneven_0 (by decide) ?_
  refine x_istore1 dX9_countUneven_1 rfl rfl rfl ?_
  refine x_iconst (nI 0) dX9_countUneven_2 (by decide) ?_
  refine x_istore2 dX9_countUneven_3 rfl rfl rfl ?_
  exact lp (nG d + 1) 0 0 (Nat.zero_le _) (by omega) rfl

def bbG (d : mS) : Prop := ∀ g, g < nG d → d.1 14 g < 0 → 0 < fb_ct (b0P d g) (nM d g) ∧ fb_ct (b0P d g) (nM d g) < nM d g

set_option maxHeartbeats 4000000 in
theorem kd_allHaveBothBooks (G : vx_G) (d m : mS) (hG : iG d) (hp_ : dP d) (hM : iMs d) (hB : bbG d) : xK G M_X9_allHaveBothBooks 1 [(.ref 0)] NT (hp (dk d) m) 0 0 (QI (fun r n' h' => r = 1 ∧ n' = NT ∧ h' = hp (dk d) m)) := by
  obtain ⟨e16, l16⟩ := hG
  have lp : ∀ (n_ : Nat) (g : Nat), g ≤ nG d → nG d + 1 ≤ g + n_ → xV (mF G M_X9_allHaveBothBooks 1 0 0 (QI (fun r n' h' => r = 1 ∧ n' = NT ∧ h' = hp (dk d) m))) 2 [some (.ref 0), some (.int (nI (g)))] [] NT (hp (dk d) m) 0 0 := by
    intro n_
    induction n_ with
    | zero => intro g hi_ hn_; omega
    | succ n_ ih =>
      intro g hi_ hn_ 
      refine x_iload1 dX9_allHaveBothBooks_2 ?_
      refine x_aload0 dX9_allHaveBothBooks_3 ?_
      refine go0_6 fgX9_52 dX9_allHaveBothBooks_4 ?_
      refine xV.toi (nI (nG d)) (e16) ?_
      refine n_icmp_ge 42 dX9_allHaveBothBooks_7 (by decide) (by omega) (by omega) (fun c7 => ?_) (fun c7 => ?_)
      · refine x_iconst (nI 1) dX9_allHaveBothBooks_42 (by decide) ?_
        refine x_zret dX9_allHaveBothBooks_43 rfl (by first | exact Or.inl nI_0 | exact Or.inr nI1 | exact bI_01 _) ?_ (Nat.zero_le _) (Nat.zero_le _)
        exact ⟨nI1, rfl, rfl⟩
      · refine x_aload0 dX9_allHaveBothBooks_10 ?_
        refine go0_1 fgX9_20 dX9_allHaveBothBooks_11 ?_
        refine x_iload1 dX9_allHaveBothBooks_14 ?_
        refine lGS (g) rfl (by omega) dX9_allHaveBothBooks_15 ?_
        refine x_callV0i mvX9_319 (kd_isThere G d m g (by omega) (hp_ g (by omega))) (lt_G (by omega)) (hd_G (by omega)) (xRoom.of rfl) (Nat.le_of_ble_eq_true rfl) dX9_allHaveBothBooks_16 (fun r_ n_ h_ hq => ?_)
        obtain ⟨rfl, rfl, rfl⟩ := hq
        refine b_if_eq 36 dX9_allHaveBothBooks_19 (by decide) (fun c19 => ?_) (fun c19 => ?_)
        · refine x_iinc1 (nI (g + 1)) dX9_allHaveBothBooks_36 (nI_add g 1) rfl rfl rfl ?_
          refine x_goto 2 dX9_allHaveBothBooks_39 (by decide) ?_
          exact ih (g + 1) (by omega) (by omega)
        · refine x_aload0 dX9_allHaveBothBooks_22 ?_
          refine go0_1 fgX9_20 dX9_allHaveBothBooks_23 ?_
          refine x_iload1 dX9_allHaveBothBooks_26 ?_
          refine lGS (g) rfl (by omega) dX9_allHaveBothBooks_27 ?_
          refine x_callV0i mvX9_353 (kd_hasBothBooks G d m g (by omega) (hM g (by omega)) (hB g (by omega) c19).1 (hB g (by omega) c19).2) (lt_G (by omega)) (hd_G (by omega)) (xRoom.of rfl) (Nat.le_of_ble_eq_true rfl) dX9_allHaveBothBooks_28 (fun r_ n_ h_ hq => ?_)
          obtain ⟨rfl, rfl, rfl⟩ := hq
          refine x_if_ne 36 dX9_allHaveBothBooks_31 (by decide) (fun c31 => ?_) (fun c31 => absurd c31 (by decide))
          refine x_iinc1 (nI (g + 1)) dX9_allHaveBothBooks_36 (nI_add g 1) rfl rfl rfl ?_
          refine x_goto 2 dX9_allHaveBothBooks_39 (by decide) ?_
          exact ih (g + 1) (by omega) (by omega)
  refine xK.ofV (by decide) (Nat.le_of_ble_eq_true rfl) ?_
  refine xV.lveq (L' := [some (.ref 0), none]) rfl ?_
  refine x_iconst (nI 0) dX9_allHaveBothBooks_0 (by decide) ?_
  refine x_istore1 dX9_allHaveBothBooks_1 rfl rfl rfl ?_
  exact lp (nG d + 1) 0 (Nat.zero_le _) (by omega)

def ch2 (d : mS) : mS := chD (chD d 0 (nL d 0)) 1 (nL d 1)
def cgD (d : mS) (dy : Int32) : Nat → mS
  | 0 => ch2 d
  | g + 1 => if was d g dy then hlD (cgD d dy g) g (nM d g) else cgD d dy g
theorem ch2_ne (d : mS) {j : Nat} (h : j ≠ 56) : (ch2 d).1 j = d.1 j := by
  unfold ch2
  rw [chD_ne _ _ h, chD_ne _ _ h]
theorem cgD_ne (d : mS) (dy : Int32) {j : Nat} (h : j ≠ 56) : ∀ g, (cgD d dy g).1 j = d.1 j
  | 0 => ch2_ne d h
  | g + 1 => by
    show (if was d g dy then hlD (cgD d dy g) g (nM d g) else cgD d dy g).1 j = _
    by_cases q : was d g dy
    · rw [if_pos q, hlD_ne h, cgD_ne d dy h g]
    · rw [if_neg q, cgD_ne d dy h g]
theorem nL_k {d d' : mS} {b : Nat} (h : d'.1 6 = d.1 6) : nL d' b = nL d b := by unfold nL; rw [h]
theorem was_k {d d' : mS} {g : Nat} {dy : Int32} (h1 : d'.1 13 = d.1 13) (h2 : d'.1 14 = d.1 14) : was d' g dy ↔ was d g dy := by
  unfold was; rw [h1, h2]

set_option maxHeartbeats 4000000 in
theorem kd_countHolders (G : vx_G) (d m : mS) (hL : iL d) (hG : iG d) (hp_ : dP d) (hM : iMs d) (dy : Int32) : xK G M_X9_countHolders 1 [(.ref 0), (.int dy)] NT (hp (dk d) m) 0 0 (QI (fun r n' h' => r = nI (fb_ct (wsB d dy) (nG d)) ∧ n' = NT ∧ h' = hp (dk (cgD d dy (nG d))) m)) := by
  obtain ⟨e16, l16⟩ := hG
  have lp : ∀ (n_ : Nat) (g : Nat) (c : Nat), g ≤ nG d → nG d + 1 ≤ g + n_ → (c = fb_ct (wsB d dy) g) → xV (mF G M_X9_countHolders 1 0 0 (QI (fun r n' h' => r = nI (fb_ct (wsB d dy) (nG d)) ∧ n' = NT ∧ h' = hp (dk (cgD d dy (nG d))) m))) 22 [some (.ref 0), some (.int dy), some (.int (nI (c))), some (.int (nI (g)))] [] NT (hp (dk (cgD d dy g)) m) 0 0 := by
    intro n_
    induction n_ with
    | zero => intro g c hi_ hn_; omega
    | succ n_ ih =>
      intro g c hi_ hn_ hc
      refine x_iload3 dX9_countHolders_22 ?_
      refine x_aload0 dX9_countHolders_23 ?_
      refine go0_6 fgX9_52 dX9_countHolders_24 ?_
      refine xV.toi (nI (nG d)) ((by rw [cgD_ne d dy (by decide)]; exact e16)) ?_
      refine n_icmp_ge 61 dX9_countHolders_27 (by decide) (by omega) (by omega) (fun c27 => ?_) (fun c27 => ?_)
      · refine x_iload2 dX9_countHolders_61 ?_
        refine x_iret dX9_countHolders_62 rfl ?_ (Nat.zero_le _) (Nat.zero_le _)
        exact ⟨by rw [hc, show g = nG d by omega], rfl, by rw [show g = nG d by omega]⟩
      · refine x_aload0 dX9_countHolders_30 ?_
        refine go0_1 fgX9_20 dX9_countHolders_31 ?_
        refine x_iload3 dX9_countHolders_34 ?_
        refine lGS (g) rfl (by omega) dX9_countHolders_35 ?_
        refine x_iload1 dX9_countHolders_36 ?_
        refine x_callV1i mvX9_359 (kd_isStandingOn G (cgD d dy g) m g (by omega) (by rw [cgD_ne d dy (by decide)]; exact hp_ g (by omega)) dy) (lt_G (by omega)) (hd_G (by omega)) (xRoom.of rfl) (Nat.le_of_ble_eq_true rfl) dX9_countHolders_37 (fun r_ n_ h_ hq => ?_)
        obtain ⟨rfl, rfl, rfl⟩ := hq
        refine b_if_eq 55 dX9_countHolders_40 (by decide) (fun c40 => ?_) (fun c40 => ?_)
        · have c40 := fun q => c40 ((was_k (cgD_ne d dy (by decide) g) (cgD_ne d dy (by decide) g)).mpr q)
          refine x_iinc3 (nI (g + 1)) dX9_countHolders_55 (nI_add g 1) rfl rfl rfl ?_
          refine x_goto 22 dX9_countHolders_58 (by decide) ?_
          first | (rw [show cgD d dy g = cgD d dy (g + 1) from (if_neg c40).symm]; exact ih (g + 1) _ (by omega) (by omega) (by rw [fb_ct_succ, ← hc, show wsB d dy g = false from decide_eq_false c40]; rfl)) | exact ih (g + 1) _ (by omega) (by omega) (by rw [fb_ct_succ, ← hc, show wsB d dy g = true from decide_eq_true c40]; rfl)
        · have c40 := (was_k (cgD_ne d dy (by decide) g) (cgD_ne d dy (by decide) g)).mp c40
          refine x_aload0 dX9_countHolders_43 ?_
          refine go0_1 fgX9_20 dX9_countHolders_44 ?_
          refine x_iload3 dX9_countHolders_47 ?_
          refine lGS (g) rfl (by omega) dX9_countHolders_48 ?_
          refine x_callV0v mvX9_362 (kd_holdLines G (cgD d dy g) m g (by omega) (iMb_k (cgD_ne d dy (by decide) g) (cgD_ne d dy (by decide) g) (hM g (by omega)))) (lt_G (by omega)) (hd_G (by omega)) (xRoom.of rfl) (Nat.le_of_ble_eq_true rfl) dX9_countHolders_49 (fun n_ h_ hq => ?_)
          obtain ⟨rfl, rfl⟩ := hq
          rw [show nM (cgD d dy g) g = nM d g from nM_k (cgD_ne d dy (by decide) g), show hlD (cgD d dy g) g (nM d g) = cgD d dy (g + 1) from (if_pos c40).symm]
          refine x_iinc2 (nI (c + 1)) dX9_countHolders_52 (nI_add c 1) rfl rfl rfl ?_
          refine x_iinc3 (nI (g + 1)) dX9_countHolders_55 (nI_add g 1) rfl rfl rfl ?_
          refine x_goto 22 dX9_countHolders_58 (by decide) ?_
          first | (rw [show cgD d dy g = cgD d dy (g + 1) from (if_neg c40).symm]; exact ih (g + 1) _ (by omega) (by omega) (by rw [fb_ct_succ, ← hc, show wsB d dy g = false from decide_eq_false c40]; rfl)) | exact ih (g + 1) _ (by omega) (by omega) (by rw [fb_ct_succ, ← hc, show wsB d dy g = true from decide_eq_true c40]; rfl)
  refine xK.ofV (by decide) (Nat.le_of_ble_eq_true rfl) ?_
  refine xV.lveq (L' := [some (.ref 0), some (.int dy), none, none]) rfl ?_
  refine x_aload0 dX9_countHolders_0 ?_
  refine go0_0 fgX9_12 dX9_countHolders_1 ?_
  refine x_iconst (nI 0) dX9_countHolders_4 (by decide) ?_
  refine lBK (0) rfl (by omega) dX9_countHolders_5 ?_
  refine x_callV0v mvX9_356 (k_clearHolders G d m hL 0 (by decide)) (lt_B _) (hd_B (by omega)) (xRoom.of rfl) (Nat.le_of_ble_eq_true rfl) dX9_countHolders_6 (fun n_ h_ hq => ?_)
  obtain ⟨rfl, rfl⟩ := hq
  refine x_aload0 dX9_countHolders_9 ?_
  refine go0_0 fgX9_12 dX9_countHolders_10 ?_
  refine x_iconst (nI 1) dX9_countHolders_13 (by decide) ?_
  refine lBK (1) rfl (by omega) dX9_countHolders_14 ?_
  refine x_callV0v mvX9_356 (k_clearHolders G (chD d 0 (nL d 0)) m (iL_k (chD_ne d 0 (by decide) _) hL) 1 (by decide)) (lt_B _) (hd_B (by omega)) (xRoom.of rfl) (Nat.le_of_ble_eq_true rfl) dX9_countHolders_15 (fun n_ h_ hq => ?_)
  obtain ⟨rfl, rfl⟩ := hq
  rw [show nL (chD d 0 (nL d 0)) 1 = nL d 1 from nL_k (chD_ne d 0 (by decide) _)]
  refine x_iconst (nI 0) dX9_countHolders_18 (by decide) ?_
  refine x_istore2 dX9_countHolders_19 rfl rfl rfl ?_
  refine x_iconst (nI 0) dX9_countHolders_20 (by decide) ?_
  refine x_istore3 dX9_countHolders_21 rfl rfl rfl ?_
  exact lp (nG d + 1) 0 0 (Nat.zero_le _) (by omega) rfl
