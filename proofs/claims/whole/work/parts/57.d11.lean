/-! ===== the desk's methods, 11: canSit ===== -/
def csR (d : mS) (n row c : Nat) (r : Int32) (e : mS) : Prop := (r = nI 1 ∧ csY d n row c e) ∨ (r = nI 0 ∧ ∃ R, csN d n row c R e)
theorem co_in {d : mS} {n row : Nat} {r : Int32} (h : coR d n (nI row) r) (hp : ∃ c, c < n ∧ d.1 68 c = nI row) : ∃ c, c < n ∧ d.1 68 c = nI row ∧ r = nI c := by
  rcases h with q | q
  · exact q
  · obtain ⟨c, c1, c2⟩ := hp
    exact absurd c2 (q.1 c c1)

set_option maxHeartbeats 4000000 in
theorem kd_canSit (G : vx_G) (d m : mS) (n row c : Nat) (h : fvB d n) (hrow : row < n) (hc : c < n) (ht : tgt d row c) (s0 : d.1 75 c = 0) (s1 : ∀ c1, c1 < n → d.1 68 c1 = nI row → d.1 75 c1 = 0) : xK G M_X6_canSit 16 [(.ref 172), (.int (nI (row))), (.int (nI (c)))] NT (hp (dk d) m) 0 0 (QI (fun r n' h' => n' = NT ∧ ∃ e, h' = hp (dk e) m ∧ csR d n row c r e)) := by
  have n14 := h.T.n14
  have rc := mat_ro n14 h.M hc
  refine xK.ofV (by decide) (Nat.le_of_ble_eq_true rfl) ?_
  refine xV.lveq (L' := [some (.ref 172), some (.int (nI (row))), some (.int (nI (c))), none, none]) rfl ?_
  refine x_aload0 dX6_canSit_0 ?_
  refine go172_4 fgX6_27 dX6_canSit_1 ?_
  refine x_iload2 dX6_canSit_4 ?_
  refine la190 (c) rfl (by omega) dX6_canSit_5 ?_
  refine xV.toi (nI (ro d c)) (rc.1) ?_
  refine x_istore3 dX6_canSit_6 rfl rfl rfl ?_
  refine x_iload3 dX6_canSit_7 ?_
  refine x_iload1 dX6_canSit_8 ?_
  refine n_icmp_ne 14 dX6_canSit_9 (by decide) (by omega) (by omega) (fun c9 => ?_) (fun c9 => ?_)
  · refine x_aload0 dX6_canSit_14 ?_
    refine x_iload1 dX6_canSit_15 ?_
    refine x_callV1i mvX6_80 (kd_columnOf G d m n n14 h.T.s (nI row)) (show (172 : Nat) < NT by decide) (hd_at (a := 172) (by decide) rfl) (xRoom.of rfl) (Nat.le_of_ble_eq_true rfl) dX6_canSit_16 (fun r_ n_ h_ hq => ?_)
    obtain ⟨hco, rfl, rfl⟩ := hq
    obtain ⟨c1, k1, k2, rfl⟩ := co_in hco (h.M.p row hrow hrow)
    obtain ⟨cc, va, pre, hu⟩ := csX_pre h hrow hc k1 k2 c9
    have sp := mvF_sp n14 14 _ _ _ pre hu
    have okv := mvF_ok n14 14 (csX d n row c c1) (ro d c) rc.2 va
    refine x_istore4 dX6_canSit_19 rfl rfl rfl ?_
    refine x_aload0 dX6_canSit_21 ?_
    refine x_callV0v mvX6_62 (kd_clearSearch G d m n n14 h.T.s) (show (172 : Nat) < NT by decide) (hd_at (a := 172) (by decide) rfl) (xRoom.of rfl) (Nat.le_of_ble_eq_true rfl) dX6_canSit_22 (fun n_ h_ hq => ?_)
    obtain ⟨rfl, rfl⟩ := hq
    refine x_aload0 dX6_canSit_25 ?_
    refine go172_10 fgX6_45 dX6_canSit_26 ?_
    refine x_iload2 dX6_canSit_29 ?_
    refine x_iconst (nI 1) dX6_canSit_30 (by decide) ?_
    refine sa196 (c) rfl (by omega) (by first | exact Or.inl nI_0 | exact Or.inr nI1 | exact bI_01 _) dX6_canSit_31 ?_
    refine x_aload0 dX6_canSit_32 ?_
    refine go172_4 fgX6_27 dX6_canSit_33 ?_
    refine x_iload4 dX6_canSit_36 ?_
    refine x_iconst (-1) dX6_canSit_38 (by decide) ?_
    refine sa190 (c1) rfl (by omega) dX6_canSit_39 ?_
    refine x_aload0 dX6_canSit_40 ?_
    refine go172_4 fgX6_27 dX6_canSit_41 ?_
    refine x_iload2 dX6_canSit_44 ?_
    refine x_iload1 dX6_canSit_45 ?_
    refine sa190 (c) rfl (by omega) dX6_canSit_46 ?_
    refine x_iload3 dX6_canSit_47 ?_
    refine x_iconst (-1) dX6_canSit_48 (by decide) ?_
    refine x_icmp_eq 61 dX6_canSit_49 (by decide) (fun c49 => absurd c49 (nIm1 (by omega))) (fun c49 => ?_)
    refine x_aload0 dX6_canSit_52 ?_
    refine x_iload3 dX6_canSit_53 ?_
    refine x_iconst (nI 0) dX6_canSit_54 (by decide) ?_
    refine x_callV2i mvX6_83 (kd_moves G m n n14 14 (csX d n row c c1) (ro d c) (Nat.le_refl _) (by rw [csX_k (by decide) (by decide) (by decide) (by decide)]; exact h.T.s) va rc.2) (show (172 : Nat) < NT by decide) (hd_at (a := 172) (by decide) rfl) (xRoom.of rfl) (Nat.le_of_ble_eq_true rfl) dX6_canSit_55 (fun r_ n_ h_ hq => ?_)
    obtain ⟨rfl, rfl, rfl⟩ := hq
    refine b_if_eq 63 dX6_canSit_58 (by decide) (fun c58 => ?_) (fun c58 => ?_)
    · refine x_aload0 dX6_canSit_63 ?_
      refine go172_4 fgX6_27 dX6_canSit_64 ?_
      refine x_iload4 dX6_canSit_67 ?_
      refine x_iload1 dX6_canSit_69 ?_
      refine sa190 (c1) rfl (by omega) dX6_canSit_70 ?_
      refine x_aload0 dX6_canSit_71 ?_
      refine go172_4 fgX6_27 dX6_canSit_72 ?_
      refine x_iload2 dX6_canSit_75 ?_
      refine x_iload3 dX6_canSit_76 ?_
      refine sa190 (c) rfl (by omega) dX6_canSit_77 ?_
      refine x_iconst (nI 0) dX6_canSit_78 (by decide) ?_
      refine x_zret dX6_canSit_79 rfl (by first | exact Or.inl nI_0 | exact Or.inr nI1 | exact bI_01 _) ?_ (Nat.zero_le _) (Nat.zero_le _)
      unfold mvSp at sp
      rw [if_neg c58] at sp
      exact ⟨rfl, _, rfl, Or.inr ⟨rfl, _, cs_no h hrow hc k1 k2 c9 s0 sp.1 sp.2⟩⟩
    · refine x_iconst (nI 1) dX6_canSit_61 (by decide) ?_
      refine x_zret dX6_canSit_62 rfl (by first | exact Or.inl nI_0 | exact Or.inr nI1 | exact bI_01 _) ?_ (Nat.zero_le _) (Nat.zero_le _)
      refine ⟨rfl, _, rfl, Or.inl ⟨rfl, ?_⟩⟩
      unfold mvSp at sp
      rw [if_pos c58] at sp
      exact cs_yes h hrow hc k1 k2 c9 ht s0 (s1 c1 k1 k2) okv.2 sp
  · refine x_iconst (nI 1) dX6_canSit_12 (by decide) ?_
    refine x_zret dX6_canSit_13 rfl (by first | exact Or.inl nI_0 | exact Or.inr nI1 | exact bI_01 _) ?_ (Nat.zero_le _) (Nat.zero_le _)
    exact ⟨rfl, _, rfl, Or.inl ⟨rfl, cs_self h hc c9⟩⟩
