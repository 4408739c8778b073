/-! ===== the desk's methods, 13: totalWithout, find ===== -/
def rvV (f : Nat → Nat → Int32) (n0 T i : Nat) : Int32 := if pI f n0 T i = -1 then nI 1 else rk f (noP (nI i) (pI f n0 T i)) n0 T n0 0 - rk f (noP (-1) (-1)) n0 T n0 0
abbrev jF (j : Nat) : Prop := j < 59 ∨ j = 61 ∨ j = 62 ∨ j = 64 ∨ j = 65 ∨ 76 ≤ j
theorem pI_in {f : Nat → Nat → Int32} {n T i : Nat} (h : ¬ pI f n T i = -1) : ∃ c, c < T ∧ pI f n T i = nI c := by
  rcases pI_spec (f := f) (n := n) (T := T) (i := i) with q | ⟨x, x1, x2, x3, x4⟩
  · exact absurd q.1 h
  · exact ⟨x, x1, x4⟩

set_option maxHeartbeats 4000000 in
theorem kd_totalWithout (G : vx_G) (d m : mS) (n : Nat) (f : Nat → Nat → Int32) (n0 T : Nat) (row c : Nat) (hrow : row < n0) (hc : c < T) (h : rvI d n f n0 T) (ha : d.1 68 c = nI row) : xK G M_X6_totalWithout 2 [(.ref 172), (.int (nI (row))), (.int (nI (c)))] NT (hp (dk d) m) 0 0 (QI (fun r n' h' => r = rk f (noP (nI row) (nI c)) n0 T n0 0 ∧ n' = NT ∧ ∃ g, h' = hp (dk g) m ∧ twK d g)) := by
  have n14 := h.B.T.n14
  have ab := h.R.a
  refine xK.ofV (by decide) (Nat.le_of_ble_eq_true rfl) ?_
  refine xV.lveq (L' := [some (.ref 172), some (.int (nI (row))), some (.int (nI (c))), none, none]) rfl ?_
  refine x_aload0 dX6_totalWithout_0 ?_
  refine go172_0 fgX6_11 dX6_totalWithout_1 ?_
  refine x_iload1 dX6_totalWithout_4 ?_
  refine lWO (row) rfl (by omega) dX6_totalWithout_5 ?_
  refine x_iload2 dX6_totalWithout_6 ?_
  refine lW (by omega) (c) rfl (by omega) dX6_totalWithout_7 ?_
  refine x_istore3 dX6_totalWithout_8 rfl rfl rfl ?_
  refine x_aload0 dX6_totalWithout_9 ?_
  refine go172_0 fgX6_11 dX6_totalWithout_10 ?_
  refine x_iload1 dX6_totalWithout_13 ?_
  refine lWO (row) rfl (by omega) dX6_totalWithout_14 ?_
  refine x_iload2 dX6_totalWithout_15 ?_
  refine x_iconst (nI 0) dX6_totalWithout_16 (by decide) ?_
  refine sW (by omega) (c) rfl (by omega) dX6_totalWithout_17 ?_
  refine x_aload0 dX6_totalWithout_18 ?_
  refine go172_4 fgX6_27 dX6_totalWithout_19 ?_
  refine x_iload2 dX6_totalWithout_22 ?_
  refine x_iconst (-1) dX6_totalWithout_23 (by decide) ?_
  refine sa190 (c) rfl (by omega) dX6_totalWithout_24 ?_
  have z := tw_0 h.B (row := row) (c := c) (by omega) (by omega) ha
  refine x_aload0 dX6_totalWithout_25 ?_
  refine x_iload1 dX6_totalWithout_26 ?_
  refine x_callV1v mvX6_58 (kd_seat G (twX d row c) m n row (fun q => q < n ∧ q ≠ row) 230 c z.1 z.2.1 z.2.2.1 (by omega) ⟨by omega, fun q => q.2 rfl⟩ ⟨by omega, twX_c, z.2.2.2.1⟩ z.2.2.2.2) (show (172 : Nat) < NT by decide) (hd_at (a := 172) (by decide) rfl) (xRoom.of rfl) (Nat.le_of_ble_eq_true rfl) dX6_totalWithout_27 (fun n_ h_ hq => ?_)
  obtain ⟨rfl, e, rfl, hs⟩ := hq
  obtain ⟨G1, eT⟩ := tw_1 h.B h.R hrow hc hs
  refine x_aload0 dX6_totalWithout_30 ?_
  refine x_callV0i mvX6_92 (kd_total G e m n n14 G1.T.s (toV_v G1)) (show (172 : Nat) < NT by decide) (hd_at (a := 172) (by decide) rfl) (xRoom.of rfl) (Nat.le_of_ble_eq_true rfl) dX6_totalWithout_31 (fun r_ n_ h_ hq => ?_)
  obtain ⟨rfl, rfl, rfl⟩ := hq
  refine x_istore4 dX6_totalWithout_34 rfl rfl rfl ?_
  refine x_aload0 dX6_totalWithout_36 ?_
  refine go172_0 fgX6_11 dX6_totalWithout_37 ?_
  refine x_iload1 dX6_totalWithout_40 ?_
  refine lWO (row) rfl (by omega) dX6_totalWithout_41 ?_
  refine x_iload2 dX6_totalWithout_42 ?_
  refine x_iload3 dX6_totalWithout_43 ?_
  refine sW (by omega) (c) rfl (by omega) dX6_totalWithout_44 ?_
  refine x_aload0 dX6_totalWithout_45 ?_
  refine x_callV0v mvX6_96 (kd_restore G (mset e (200 + row) c (d.1 (200 + row) c)) m) (show (172 : Nat) < NT by decide) (hd_at (a := 172) (by decide) rfl) (xRoom.of rfl) (Nat.le_of_ble_eq_true rfl) dX6_totalWithout_46 (fun n_ h_ hq => ?_)
  obtain ⟨rfl, rfl⟩ := hq
  refine x_iload4 dX6_totalWithout_49 ?_
  refine x_iret dX6_totalWithout_51 rfl ?_ (Nat.zero_le _) (Nat.zero_le _)
  exact ⟨eT, rfl, _, rfl, rest_twK h.k hs⟩

abbrev fnR (d : mS) (f : Nat → Nat → Int32) (n0 T : Nat) (e : mS) : Prop := e.1 63 0 = rk f (noP (-1) (-1)) n0 T n0 0 ∧ (∀ k, k < n0 → e.1 59 k = pI f n0 T k) ∧ (∀ k, k < n0 → e.1 60 k = rvV f n0 T k) ∧ ∀ j, jF j → e.1 j = d.1 j
theorem fvI_63 {d : mS} {n : Nat} {f : Nat → Nat → Int32} {n0 T r : Nat} {k i : Nat} {v : Int32} (h : fvI d n f n0 T r) (hk : 57 ≤ k ∧ k ≤ 64) : fvI (mset d k i v) n f n0 T r := by
  have e : ∀ j, 65 ≤ j → (mset d k i v).1 j = d.1 j := fun j hj => mset_ne (by omega)
  exact fvI_k h (fvG_k h.B (by rw [e 65 (by decide)]) (fun i hi => by rw [e 66 (by decide)]) (fun i hi => by rw [e 67 (by decide)]) (fun i hi => by rw [e 68 (by decide)]) (fun i hi j hj => by rw [e (200 + i) (by omega)])) (fun i => e (200 + i) (by omega)) (e 75 (by decide)) (fun j _ _ => by rw [e 68 (by decide)])
theorem alI_fv {d e : mS} {n : Nat} {f : Nat → Nat → Int32} {n0 T : Nat} (h : alI d n n e) (hR : dR d n f n0 T) (hs : ∀ j, j < n → d.1 75 j = 0) : fvI e n f n0 T 0 := by
  have ew : ∀ i, e.1 (200 + i) = d.1 (200 + i) := fun i => h.2.2.2 (200 + i) (by omega) (by omega) (by omega) (by omega) (by omega) (by omega)
  refine ⟨⟨h.1.1, h.1.2.1, h.1.2.2⟩, ⟨hR.a, fun i j h1 h2 => by rw [ew]; exact hR.e i j h1 h2, fun i j h1 h2 h3 => by show (e.1 (200 + i) j).toInt = 0; rw [ew]; exact hR.z i j h1 h2 h3⟩, fun k hk => absurd hk (Nat.not_lt_zero k), fun j hj h1 => ?_⟩
  rw [h.2.2.2 75 (by decide) (by decide) (by decide) (by decide) (by decide) (by decide)] at h1
  exact absurd (hs j hj) h1

theorem rvV_y {f : Nat → Nat → Int32} {n0 T i c : Nat} (h : ¬ pI f n0 T i = -1) (hc : pI f n0 T i = nI c) : rk f (noP (nI i) (nI c)) n0 T n0 0 - rk f (noP (-1) (-1)) n0 T n0 0 = rvV f n0 T i := by
  unfold rvV
  rw [if_neg h, hc]

set_option maxHeartbeats 4000000 in
theorem kd_find (G : vx_G) (d m : mS) (n : Nat) (f : Nat → Nat → Int32) (n0 T : Nat) (h0 : alI d n 0 d) (hR : dR d n f n0 T) (hs : ∀ j, j < n → d.1 75 j = 0) (e61 : d.1 61 0 = nI n0) : xK G M_X5_find 19 [(.ref 171)] NT (hp (dk d) m) 0 0 (QV (fun n' h' => n' = NT ∧ ∃ e, h' = hp (dk e) m ∧ fnR d f n0 T e)) := by
  have n14 := h0.1.1.n14
  have ab := hR.a
  have l2 : ∀ (n_ : Nat) (r : Nat) (e : mS), r ≤ n0 → n0 + 1 ≤ r + n_ → (rvI e n f n0 T) → (e.1 61 0 = nI n0) → (e.1 63 0 = rk f (noP (-1) (-1)) n0 T n0 0) → (∀ k, k < n0 → e.1 59 k = pI f n0 T k) → (∀ k, k < r → e.1 60 k = rvV f n0 T k) → (∀ j, jF j → e.1 j = d.1 j) → xV (mF G M_X5_find 19 0 0 (QV (fun n' h' => n' = NT ∧ ∃ e, h' = hp (dk e) m ∧ fnR d f n0 T e))) 84 [some (.ref 171), some (.int (nI (r))), none] [] NT (hp (dk e) m) 0 0 := by
    intro n_
    induction n_ with
    | zero => intro r e hi_ hn_; omega
    | succ n_ ih =>
      intro r e hi_ hn_ hI h61 h63 h59 h60 hF
      refine x_iload1 dX5_find_84 ?_
      refine x_aload0 dX5_find_85 ?_
      refine go171_5 fgX5_31 dX5_find_86 ?_
      refine xV.toi (nI (n0)) (h61) ?_
      refine n_icmp_ge 137 dX5_find_89 (by decide) (by omega) (by omega) (fun c89 => ?_) (fun c89 => ?_)
      · refine x_vret dX5_find_137 rfl ?_ (Nat.zero_le _) (Nat.zero_le _)
        have er : r = n0 := by omega
        subst er
        exact ⟨rfl, _, rfl, h63, h59, h60, hF⟩
      · refine x_aload0 dX5_find_92 ?_
        refine go171_4 fgX5_28 dX5_find_93 ?_
        refine x_iload1 dX5_find_96 ?_
        refine x_aload0 dX5_find_97 ?_
        refine go171_3 fgX5_25 dX5_find_98 ?_
        refine x_iload1 dX5_find_101 ?_
        refine la200 (r) rfl (by omega) dX5_find_102 ?_
        refine xV.toi (pI f n0 T r) (h59 r (by omega)) ?_
        refine x_iconst (-1) dX5_find_103 (by decide) ?_
        refine x_icmp_ne 111 dX5_find_104 (by decide) (fun c104 => ?_) (fun c104 => ?_)
        · obtain ⟨c, hcT, hpc⟩ := pI_in c104
          refine x_aload0 dX5_find_111 ?_
          refine go171_0 fgX5_12 dX5_find_112 ?_
          refine x_iload1 dX5_find_115 ?_
          refine x_aload0 dX5_find_116 ?_
          refine go171_3 fgX5_25 dX5_find_117 ?_
          refine x_iload1 dX5_find_120 ?_
          refine la200 (r) rfl (by omega) dX5_find_121 ?_
          refine xV.toi (nI (c)) ((by rw [h59 r (by omega)]; exact hpc)) ?_
          refine x_callV2i mvX5_93 (kd_totalWithout G e m n f n0 T r c (by omega) hcT hI (hI.c r c (by omega) hcT hpc)) (show (172 : Nat) < NT by decide) (hd_at (a := 172) (by decide) rfl) (xRoom.of rfl) (Nat.le_of_ble_eq_true rfl) dX5_find_122 (fun r_ n_ h_ hq => ?_)
          obtain ⟨rfl, rfl, g, rfl, hg⟩ := hq
          have gk : ∀ j, j ≠ 66 → j ≠ 67 → j ≠ 68 → j ≠ 72 → j ≠ 73 → j ≠ 74 → g.1 j = e.1 j := hg.k
          refine x_aload0 dX5_find_125 ?_
          refine go171_7 fgX5_38 dX5_find_126 ?_
          refine xV.toi (rk f (noP (-1) (-1)) n0 T n0 0) ((by rw [gk 63 (by decide) (by decide) (by decide) (by decide) (by decide) (by decide)]; exact h63)) ?_
          refine x_isub dX5_find_129 ?_
          refine sa201 (r) rfl (by omega) dX5_find_130 ?_
          refine x_iinc1 (nI (r + 1)) dX5_find_131 (nI_add r 1) rfl rfl rfl ?_
          refine x_goto 84 dX5_find_134 (by decide) ?_
          first | (refine ih (r + 1) _ (by omega) (by omega) (rvI_set (k := 60) (rvI_tw hI hg) (by omega)) (by rw [mset_ne (by decide), gk 61 (by decide) (by decide) (by decide) (by decide) (by decide) (by decide)]; exact h61) (by rw [mset_ne (by decide), gk 63 (by decide) (by decide) (by decide) (by decide) (by decide) (by decide)]; exact h63) (fun k hk => by rw [mset_ne (by decide), gk 59 (by decide) (by decide) (by decide) (by decide) (by decide) (by decide)]; exact h59 k hk) ?_ (fun j hj => by rw [mset_ne (by omega), gk j (by omega) (by omega) (by omega) (by omega) (by omega) (by omega)]; exact hF j hj); refine al_next (fun k hk => by rw [mset_off (by omega), gk 60 (by decide) (by decide) (by decide) (by decide) (by decide) (by decide)]; exact h60 k hk) ?_; rw [mset_at]; exact rvV_y c104 hpc) | (refine ih (r + 1) _ (by omega) (by omega) (rvI_set (k := 60) hI (by omega)) (by rw [mset_ne (by decide)]; exact h61) (by rw [mset_ne (by decide)]; exact h63) (fun k hk => by rw [mset_ne (by decide)]; exact h59 k hk) ?_ (fun j hj => by rw [mset_ne (by omega)]; exact hF j hj); refine al_next (fun k hk => by rw [mset_off (by omega)]; exact h60 k hk) ?_; rw [mset_at]; exact (if_pos c104).symm)
        · refine x_iconst (nI 1) dX5_find_107 (by decide) ?_
          refine x_goto 130 dX5_find_108 (by decide) ?_
          refine sa201 (r) rfl (by omega) dX5_find_130 ?_
          refine x_iinc1 (nI (r + 1)) dX5_find_131 (nI_add r 1) rfl rfl rfl ?_
          refine x_goto 84 dX5_find_134 (by decide) ?_
          first | (refine ih (r + 1) _ (by omega) (by omega) (rvI_set (k := 60) (rvI_tw hI hg) (by omega)) (by rw [mset_ne (by decide), gk 61 (by decide) (by decide) (by decide) (by decide) (by decide) (by decide)]; exact h61) (by rw [mset_ne (by decide), gk 63 (by decide) (by decide) (by decide) (by decide) (by decide) (by decide)]; exact h63) (fun k hk => by rw [mset_ne (by decide), gk 59 (by decide) (by decide) (by decide) (by decide) (by decide) (by decide)]; exact h59 k hk) ?_ (fun j hj => by rw [mset_ne (by omega), gk j (by omega) (by omega) (by omega) (by omega) (by omega) (by omega)]; exact hF j hj); refine al_next (fun k hk => by rw [mset_off (by omega), gk 60 (by decide) (by decide) (by decide) (by decide) (by decide) (by decide)]; exact h60 k hk) ?_; rw [mset_at]; exact rvV_y c104 hpc) | (refine ih (r + 1) _ (by omega) (by omega) (rvI_set (k := 60) hI (by omega)) (by rw [mset_ne (by decide)]; exact h61) (by rw [mset_ne (by decide)]; exact h63) (fun k hk => by rw [mset_ne (by decide)]; exact h59 k hk) ?_ (fun j hj => by rw [mset_ne (by omega)]; exact hF j hj); refine al_next (fun k hk => by rw [mset_off (by omega)]; exact h60 k hk) ?_; rw [mset_at]; exact (if_pos c104).symm)
  have l1 : ∀ (n_ : Nat) (r : Nat) (e b : mS), r ≤ n0 → n0 + 1 ≤ r + n_ → (fvI b n f n0 T n0) → (b.1 61 0 = nI n0) → (b.1 63 0 = rk f (noP (-1) (-1)) n0 T n0 0) → (∀ j, jF j → b.1 j = d.1 j) → (∀ j, j ≠ 59 → e.1 j = b.1 j) → (∀ k, k < r → e.1 59 k = pI f n0 T k) → xV (mF G M_X5_find 19 0 0 (QV (fun n' h' => n' = NT ∧ ∃ e, h' = hp (dk e) m ∧ fnR d f n0 T e))) 27 [some (.ref 171), some (.int (nI (r))), none] [] NT (hp (dk e) m) 0 0 := by
    intro n_
    induction n_ with
    | zero => intro r e b hi_ hn_; omega
    | succ n_ ih =>
      intro r e b hi_ hn_ hI h61 h63 hF he h59
      refine x_iload1 dX5_find_27 ?_
      refine x_aload0 dX5_find_28 ?_
      refine go171_5 fgX5_31 dX5_find_29 ?_
      refine xV.toi (nI (n0)) ((by rw [he 61 (by decide)]; exact h61)) ?_
      refine n_icmp_ge 75 dX5_find_32 (by decide) (by omega) (by omega) (fun c32 => ?_) (fun c32 => ?_)
      · refine x_aload0 dX5_find_75 ?_
        refine go171_0 fgX5_12 dX5_find_76 ?_
        refine x_callV0v mvX5_90 (kd_keep G e m) (show (172 : Nat) < NT by decide) (hd_at (a := 172) (by decide) rfl) (xRoom.of rfl) (Nat.le_of_ble_eq_true rfl) dX5_find_79 (fun n_ h_ hq => ?_)
        obtain ⟨rfl, rfl⟩ := hq
        refine x_iconst (nI 0) dX5_find_82 (by decide) ?_
        refine x_istore1 dX5_find_83 rfl rfl rfl ?_
        have er : r = n0 := by omega
        subst er
        have ke : ∀ j, j ≠ 69 → j ≠ 70 → j ≠ 71 → (keepD e).1 j = e.1 j := fun j h1 h2 h3 => by unfold keepD; rw [cpD_ne h3, cpD_ne h2, cpD_ne h1]
        have hIe : fvI e n f r T r := fvI_k hI (fvG_k hI.B (by rw [he 65 (by decide)]) (fun i hi => by rw [he 66 (by decide)]) (fun i hi => by rw [he 67 (by decide)]) (fun i hi => by rw [he 68 (by decide)]) (fun i hi j hj => by rw [he (200 + i) (by omega)])) (fun i => he (200 + i) (by omega)) (he 75 (by decide)) (fun j _ _ => by rw [he 68 (by decide)])
        exact l2 (r + 1) 0 _ (Nat.zero_le _) (by omega) (keep_rv hIe) (by rw [ke 61 (by decide) (by decide) (by decide), he 61 (by decide)]; exact h61) (by rw [ke 63 (by decide) (by decide) (by decide), he 63 (by decide)]; exact h63) (fun k hk => by rw [ke 59 (by decide) (by decide) (by decide)]; exact h59 k hk) (fun k hk => absurd hk (Nat.not_lt_zero k)) (fun j hj => by rw [ke j (by omega) (by omega) (by omega), he j (by omega)]; exact hF j hj)
      · refine x_aload0 dX5_find_35 ?_
        refine go171_0 fgX5_12 dX5_find_36 ?_
        refine x_iload1 dX5_find_39 ?_
        refine x_callV1i mvX5_82 (kd_columnOf G e m n n14 (by rw [he 65 (by decide)]; exact hI.B.T.s) (nI r)) (show (172 : Nat) < NT by decide) (hd_at (a := 172) (by decide) rfl) (xRoom.of rfl) (Nat.le_of_ble_eq_true rfl) dX5_find_40 (fun r_ n_ h_ hq => ?_)
        obtain ⟨hco, rfl, rfl⟩ := hq
        obtain ⟨c, k1, k2, rfl⟩ := co_in hco (by rw [he 68 (by decide)]; exact hI.B.M.p r (by omega) (by omega))
        have ec : sgF b n r = c := by
          rw [he 68 (by decide)] at k2
          have rx : ro b c = r := ro_nI k2 (by omega)
          rw [← rx]; exact mat_sg n14 hI.B.M k1
        have pe := partner_eq hI (i := r) (by omega)
        rw [ec] at pe
        refine x_istore2 dX5_find_43 rfl rfl rfl ?_
        refine x_aload0 dX5_find_44 ?_
        refine go171_3 fgX5_25 dX5_find_45 ?_
        refine x_iload1 dX5_find_48 ?_
        refine x_aload0 dX5_find_49 ?_
        refine go171_0 fgX5_12 dX5_find_50 ?_
        refine go172_0 fgX5_86 dX5_find_53 ?_
        refine x_iload1 dX5_find_56 ?_
        refine lWO (r) rfl (by omega) dX5_find_57 ?_
        refine x_iload2 dX5_find_58 ?_
        refine lW (by omega) (c) rfl (by omega) dX5_find_59 ?_
        refine xV.toi (b.1 (200 + r) c) ((by rw [he (200 + r) (by omega)])) ?_
        refine x_if_le 67 dX5_find_60 (by decide) (fun c60 => ?_) (fun c60 => ?_)
        · refine x_iconst (-1) dX5_find_67 (by decide) ?_
          refine sa200 (r) rfl (by omega) dX5_find_68 ?_
          refine x_iinc1 (nI (r + 1)) dX5_find_69 (nI_add r 1) rfl rfl rfl ?_
          refine x_goto 27 dX5_find_72 (by decide) ?_
          refine xV.lvle (L' := [some (.ref _), some (.int _), none]) ⟨rfl, rfl, trivial⟩ ?_
          first | (refine ih (r + 1) _ b (by omega) (by omega) hI h61 h63 hF (fun j hj => by rw [mset_ne hj]; exact he j hj) ?_; refine al_next (fun k hk => by rw [mset_off (by omega)]; exact h59 k hk) ?_; rw [mset_at]; exact (pe.trans (if_pos (iNE.mp c60))).symm) | (refine ih (r + 1) _ b (by omega) (by omega) hI h61 h63 hF (fun j hj => by rw [mset_ne hj]; exact he j hj) ?_; refine al_next (fun k hk => by rw [mset_off (by omega)]; exact h59 k hk) ?_; rw [mset_at]; exact (pe.trans (if_neg (fun q => absurd c60 (iNE.mpr q)))).symm)
        · refine x_iload2 dX5_find_63 ?_
          refine x_goto 68 dX5_find_64 (by decide) ?_
          refine sa200 (r) rfl (by omega) dX5_find_68 ?_
          refine x_iinc1 (nI (r + 1)) dX5_find_69 (nI_add r 1) rfl rfl rfl ?_
          refine x_goto 27 dX5_find_72 (by decide) ?_
          refine xV.lvle (L' := [some (.ref _), some (.int _), none]) ⟨rfl, rfl, trivial⟩ ?_
          first | (refine ih (r + 1) _ b (by omega) (by omega) hI h61 h63 hF (fun j hj => by rw [mset_ne hj]; exact he j hj) ?_; refine al_next (fun k hk => by rw [mset_off (by omega)]; exact h59 k hk) ?_; rw [mset_at]; exact (pe.trans (if_pos (iNE.mp c60))).symm) | (refine ih (r + 1) _ b (by omega) (by omega) hI h61 h63 hF (fun j hj => by rw [mset_ne hj]; exact he j hj) ?_; refine al_next (fun k hk => by rw [mset_off (by omega)]; exact h59 k hk) ?_; rw [mset_at]; exact (pe.trans (if_neg (fun q => absurd c60 (iNE.mpr q)))).symm)
  refine xK.ofV (by decide) (Nat.le_of_ble_eq_true rfl) ?_
  refine xV.lveq (L' := [some (.ref 171), none, none]) rfl ?_
  refine x_aload0 dX5_find_0 ?_
  refine go171_0 fgX5_12 dX5_find_1 ?_
  refine x_callV0v mvX5_73 (kd_seatAll G d m n h0) (show (172 : Nat) < NT by decide) (hd_at (a := 172) (by decide) rfl) (xRoom.of rfl) (Nat.le_of_ble_eq_true rfl) dX5_find_4 (fun n_ h_ hq => ?_)
  obtain ⟨rfl, e1, rfl, hA⟩ := hq
  have hI0 := alI_fv hA hR hs
  refine x_aload0 dX5_find_7 ?_
  refine go171_0 fgX5_12 dX5_find_8 ?_
  refine x_callV0v mvX5_76 (kd_favourFirst G e1 m n f n0 T hI0) (show (172 : Nat) < NT by decide) (hd_at (a := 172) (by decide) rfl) (xRoom.of rfl) (Nat.le_of_ble_eq_true rfl) dX5_find_11 (fun n_ h_ hq => ?_)
  obtain ⟨rfl, e2, rfl, hI, hK⟩ := hq
  have k2 : ∀ j, jF j → e2.1 j = d.1 j := fun j hj => (hK j (by omega) (by omega) (by omega) (by omega) (by omega)).trans (hA.2.2.2 j (by omega) (by omega) (by omega) (by omega) (by omega) (by omega))
  refine x_aload0 dX5_find_14 ?_
  refine x_aload0 dX5_find_15 ?_
  refine go171_0 fgX5_12 dX5_find_16 ?_
  refine x_callV0i mvX5_79 (kd_total G e2 m n n14 hI.B.T.s (toV_v hI.B)) (show (172 : Nat) < NT by decide) (hd_at (a := 172) (by decide) rfl) (xRoom.of rfl) (Nat.le_of_ble_eq_true rfl) dX5_find_19 (fun r_ n_ h_ hq => ?_)
  obtain ⟨rfl, rfl, rfl⟩ := hq
  refine xV.toi (rk f (noP (-1) (-1)) n0 T n0 0) (toV_rk hI.B hI.R) ?_
  refine po171_7 fpX5_38 dX5_find_22 ?_
  refine x_iconst (nI 0) dX5_find_25 (by decide) ?_
  refine x_istore1 dX5_find_26 rfl rfl rfl ?_
  exact l1 (n0 + 1) 0 _ _ (Nat.zero_le _) (by omega) (fvI_63 hI (by omega)) (by rw [mset_ne (by decide), k2 61 (by omega)]; exact e61) (mset_at _ _ _ _) (fun j hj => by rw [mset_ne (by omega)]; exact k2 j hj) (fun _ _ => rfl) (fun k hk => absurd hk (Nat.not_lt_zero k))

def roR (d : mS) (k : Nat) (v r : Int32) : Prop := (∃ i, i < k ∧ d.1 57 i = v ∧ (∀ j, j < i → ¬ d.1 57 j = v) ∧ r = nI i) ∨ ((∀ i, i < k → ¬ d.1 57 i = v) ∧ r = -1)

set_option maxHeartbeats 4000000 in
theorem kd_rowOf (G : vx_G) (d m : mS) (k : Nat) (hk : k ≤ 14) (e61 : d.1 61 0 = nI k) (v : Int32) : xK G M_X5_rowOf 0 [(.ref 171), (.int v)] NT (hp (dk d) m) 0 0 (QI (fun r n' h' => roR d k v r ∧ n' = NT ∧ h' = hp (dk d) m)) := by
  have lp : ∀ (n_ : Nat) (i : Nat), i ≤ k → k + 1 ≤ i + n_ → (∀ j, j < i → ¬ d.1 57 j = v) → xV (mF G M_X5_rowOf 0 0 0 (QI (fun r n' h' => roR d k v r ∧ n' = NT ∧ h' = hp (dk d) m))) 2 [some (.ref 171), some (.int v), some (.int (nI (i)))] [] NT (hp (dk d) m) 0 0 := by
    intro n_
    induction n_ with
    | zero => intro i hi_ hn_; omega
    | succ n_ ih =>
      intro i hi_ hn_ hc
      refine x_iload2 dX5_rowOf_2 ?_
      refine x_aload0 dX5_rowOf_3 ?_
      refine go171_5 fgX5_31 dX5_rowOf_4 ?_
      refine xV.toi (nI (k)) (e61) ?_
      refine n_icmp_ge 28 dX5_rowOf_7 (by decide) (by omega) (by omega) (fun c7 => ?_) (fun c7 => ?_)
      · refine x_iconst (-1) dX5_rowOf_28 (by decide) ?_
        refine x_iret dX5_rowOf_29 rfl ?_ (Nat.zero_le _) (Nat.zero_le _)
        exact ⟨Or.inr ⟨fun j hj => hc j (by omega), rfl⟩, rfl, rfl⟩
      · refine x_aload0 dX5_rowOf_10 ?_
        refine go171_1 fgX5_18 dX5_rowOf_11 ?_
        refine x_iload2 dX5_rowOf_14 ?_
        refine la198 (i) rfl (by omega) dX5_rowOf_15 ?_
        refine x_iload1 dX5_rowOf_16 ?_
        refine x_icmp_ne 22 dX5_rowOf_17 (by decide) (fun c17 => ?_) (fun c17 => ?_)
        · refine x_iinc2 (nI (i + 1)) dX5_rowOf_22 (nI_add i 1) rfl rfl rfl ?_
          refine x_goto 2 dX5_rowOf_25 (by decide) ?_
          exact ih (i + 1) (by omega) (by omega) (al_next hc c17)
        · refine x_iload2 dX5_rowOf_20 ?_
          refine x_iret dX5_rowOf_21 rfl ?_ (Nat.zero_le _) (Nat.zero_le _)
          exact ⟨Or.inl ⟨i, by omega, c17, hc, rfl⟩, rfl, rfl⟩
  refine xK.ofV (by decide) (Nat.le_of_ble_eq_true rfl) ?_
  refine xV.lveq (L' := [some (.ref 171), some (.int v), none]) rfl ?_
  refine x_iconst (nI 0) dX5_rowOf_0 (by decide) ?_
  refine x_istore2 dX5_rowOf_1 rfl rfl rfl ?_
  exact lp (k + 1) 0 (Nat.zero_le _) (by omega) (fun c hc => absurd hc (Nat.not_lt_zero c))

abbrev sureD (d : mS) (s : Int32) (i : Nat) : Prop := ¬ d.1 59 i = -1 ∧ d.1 60 i ≤ -s

set_option maxHeartbeats 4000000 in
theorem kd_isSure (G : vx_G) (d m : mS) (i : Nat) (hi : i < 14) (s : Int32) : xK G M_X5_isSure 0 [(.ref 171), (.int (nI (i))), (.int s)] NT (hp (dk d) m) 0 0 (QI (fun r n' h' => r = bI (sureD d s i) ∧ n' = NT ∧ h' = hp (dk d) m)) := by
  refine xK.ofV (by decide) (Nat.le_of_ble_eq_true rfl) ?_
  refine xV.lveq (L' := [some (.ref 171), some (.int (nI (i))), some (.int s)]) rfl ?_
  refine x_aload0 dX5_isSure_0 ?_
  refine go171_3 fgX5_25 dX5_isSure_1 ?_
  refine x_iload1 dX5_isSure_4 ?_
  refine la200 (i) rfl (by omega) dX5_isSure_5 ?_
  refine x_iconst (-1) dX5_isSure_6 (by decide) ?_
  refine x_icmp_eq 25 dX5_isSure_7 (by decide) (fun c7 => ?_) (fun c7 => ?_)
  · refine x_iconst (nI 0) dX5_isSure_25 (by decide) ?_
    refine x_zret dX5_isSure_26 rfl (by first | exact Or.inl nI_0 | exact Or.inr nI1 | exact bI_01 _) ?_ (Nat.zero_le _) (Nat.zero_le _)
    first | exact ⟨(bI_f (c := sureD d s i) (fun q => q.1 c7)).symm, rfl, rfl⟩ | exact ⟨(bI_f (c := sureD d s i) (fun q => absurd q.2 (iNE.mpr c18))).symm, rfl, rfl⟩ | exact ⟨(bI_t (c := sureD d s i) ⟨c7, iNL.mp c18⟩).symm, rfl, rfl⟩
  · refine x_aload0 dX5_isSure_10 ?_
    refine go171_4 fgX5_28 dX5_isSure_11 ?_
    refine x_iload1 dX5_isSure_14 ?_
    refine la201 (i) rfl (by omega) dX5_isSure_15 ?_
    refine x_iload2 dX5_isSure_16 ?_
    refine x_ineg dX5_isSure_17 ?_
    refine x_icmp_gt 25 dX5_isSure_18 (by decide) (fun c18 => ?_) (fun c18 => ?_)
    · refine x_iconst (nI 0) dX5_isSure_25 (by decide) ?_
      refine x_zret dX5_isSure_26 rfl (by first | exact Or.inl nI_0 | exact Or.inr nI1 | exact bI_01 _) ?_ (Nat.zero_le _) (Nat.zero_le _)
      first | exact ⟨(bI_f (c := sureD d s i) (fun q => q.1 c7)).symm, rfl, rfl⟩ | exact ⟨(bI_f (c := sureD d s i) (fun q => absurd q.2 (iNE.mpr c18))).symm, rfl, rfl⟩ | exact ⟨(bI_t (c := sureD d s i) ⟨c7, iNL.mp c18⟩).symm, rfl, rfl⟩
    · refine x_iconst (nI 1) dX5_isSure_21 (by decide) ?_
      refine x_goto 26 dX5_isSure_22 (by decide) ?_
      refine x_zret dX5_isSure_26 rfl (by first | exact Or.inl nI_0 | exact Or.inr nI1 | exact bI_01 _) ?_ (Nat.zero_le _) (Nat.zero_le _)
      first | exact ⟨(bI_f (c := sureD d s i) (fun q => q.1 c7)).symm, rfl, rfl⟩ | exact ⟨(bI_f (c := sureD d s i) (fun q => absurd q.2 (iNE.mpr c18))).symm, rfl, rfl⟩ | exact ⟨(bI_t (c := sureD d s i) ⟨c7, iNL.mp c18⟩).symm, rfl, rfl⟩

set_option maxHeartbeats 4000000 in
theorem kd_countSure (G : vx_G) (d m : mS) (k : Nat) (hk : k ≤ 14) (e61 : d.1 61 0 = nI k) (s : Int32) : xK G M_X5_countSure 1 [(.ref 171), (.int s)] NT (hp (dk d) m) 0 0 (QI (fun r n' h' => r = nI (fb_ct (fun i => decide (sureD d s i)) k) ∧ n' = NT ∧ h' = hp (dk d) m)) := by
  have lp : ∀ (n_ : Nat) (i c : Nat), i ≤ k → k + 1 ≤ i + n_ → (c = fb_ct (fun i => decide (sureD d s i)) i) → xV (mF G M_X5_countSure 1 0 0 (QI (fun r n' h' => r = nI (fb_ct (fun i => decide (sureD d s i)) k) ∧ n' = NT ∧ h' = hp (dk d) m))) 4 [some (.ref 171), some (.int s), some (.int (nI (c))), some (.int (nI (i)))] [] NT (hp (dk d) m) 0 0 := by
    intro n_
    induction n_ with
    | zero => intro i c hi_ hn_; omega
    | succ n_ ih =>
      intro i c hi_ hn_ hc
      refine x_iload3 dX5_countSure_4 ?_
      refine x_aload0 dX5_countSure_5 ?_
      refine go171_5 fgX5_31 dX5_countSure_6 ?_
      refine xV.toi (nI (k)) (e61) ?_
      refine n_icmp_ge 30 dX5_countSure_9 (by decide) (by omega) (by omega) (fun c9 => ?_) (fun c9 => ?_)
      · refine x_iload2 dX5_countSure_30 ?_
        refine x_iret dX5_countSure_31 rfl ?_ (Nat.zero_le _) (Nat.zero_le _)
        exact ⟨by rw [hc, show i = k by omega], rfl, rfl⟩
      · refine x_aload0 dX5_countSure_12 ?_
        refine x_iload3 dX5_countSure_13 ?_
        refine x_iload1 dX5_countSure_14 ?_
        refine x_callV2i mvX5_96 (kd_isSure G d m i (by omega) s) (show (171 : Nat) < NT by decide) (hd_at (a := 171) (by decide) rfl) (xRoom.of rfl) (Nat.le_of_ble_eq_true rfl) dX5_countSure_15 (fun r_ n_ h_ hq => ?_)
        obtain ⟨rfl, rfl, rfl⟩ := hq
        refine b_if_eq 24 dX5_countSure_18 (by decide) (fun c18 => ?_) (fun c18 => ?_)
        · refine x_iinc3 (nI (i + 1)) dX5_countSure_24 (nI_add i 1) rfl rfl rfl ?_
          refine x_goto 4 dX5_countSure_27 (by decide) ?_
          first | exact ih (i + 1) _ (by omega) (by omega) (by rw [fb_ct_succ, ← hc, if_pos (decide_eq_true c18)]) | exact ih (i + 1) _ (by omega) (by omega) (by rw [fb_ct_succ, ← hc, if_neg (fun q => c18 (of_decide_eq_true q)), Nat.add_zero])
        · refine x_iinc2 (nI (c + 1)) dX5_countSure_21 (nI_add c 1) rfl rfl rfl ?_
          refine x_iinc3 (nI (i + 1)) dX5_countSure_24 (nI_add i 1) rfl rfl rfl ?_
          refine x_goto 4 dX5_countSure_27 (by decide) ?_
          first | exact ih (i + 1) _ (by omega) (by omega) (by rw [fb_ct_succ, ← hc, if_pos (decide_eq_true c18)]) | exact ih (i + 1) _ (by omega) (by omega) (by rw [fb_ct_succ, ← hc, if_neg (fun q => c18 (of_decide_eq_true q)), Nat.add_zero])
  refine xK.ofV (by decide) (Nat.le_of_ble_eq_true rfl) ?_
  refine xV.lveq (L' := [some (.ref 171), some (.int s), none, none]) rfl ?_
  refine x_iconst (nI 0) dX5_countSure_0 (by decide) ?_
  refine x_istore2 dX5_countSure_1 rfl rfl rfl ?_
  refine x_iconst (nI 0) dX5_countSure_2 (by decide) ?_
  refine x_istore3 dX5_countSure_3 rfl rfl rfl ?_
  exact lp (k + 1) 0 0 (Nat.zero_le _) (by omega) rfl
