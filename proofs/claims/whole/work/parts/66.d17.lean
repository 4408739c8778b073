/-! ===== the desk's methods, 17: Sets: what is small, and gather ===== -/
def nSd (d : mS) : Nat := nv (d.1 85 0)
def iSd (d : mS) : Prop := d.1 85 0 = nI (nSd d) ∧ nSd d ≤ 5000
abbrev isSd (d : mS) (k : Int32) : Prop := nI 0 ≤ k ∧ k < d.1 85 0

set_option maxHeartbeats 4000000 in
theorem kd_isThereS (G : vx_G) (d m : mS) (k : Int32) : xK G M_X7_isThere 0 [(.ref 202), (.int k)] NT (hp (dk d) m) 0 0 (QI (fun r n' h' => r = bI (isSd d k) ∧ n' = NT ∧ h' = hp (dk d) m)) := by
  refine xK.ofV (by decide) (Nat.le_of_ble_eq_true rfl) ?_
  refine xV.lveq (L' := [some (.ref 202), some (.int k)]) rfl ?_
  refine x_iload1 dX7_isThere_0 ?_
  refine x_if_lt 16 dX7_isThere_1 (by decide) (fun c1 => ?_) (fun c1 => ?_)
  · refine x_iconst (nI 0) dX7_isThere_16 (by decide) ?_
    refine x_zret dX7_isThere_17 rfl (by first | exact Or.inl nI_0 | exact Or.inr nI1 | exact bI_01 _) ?_ (Nat.zero_le _) (Nat.zero_le _)
    first | exact ⟨(bI_f (c := isSd d k) (fun q => absurd (nI_0 ▸ q.1 : (0 : Int32) ≤ k) (iNE.mpr c1))).symm, rfl, rfl⟩ | exact ⟨(bI_f (c := isSd d k) (fun q => absurd c9 (iNE.mpr q.2))).symm, rfl, rfl⟩ | exact ⟨(bI_t (c := isSd d k) ⟨nI_0.symm ▸ iNL.mp c1, iNE.mp c9⟩).symm, rfl, rfl⟩
  · refine x_iload1 dX7_isThere_4 ?_
    refine x_aload0 dX7_isThere_5 ?_
    refine go202_9 fgX7_40 dX7_isThere_6 ?_
    refine x_icmp_ge 16 dX7_isThere_9 (by decide) (fun c9 => ?_) (fun c9 => ?_)
    · refine x_iconst (nI 0) dX7_isThere_16 (by decide) ?_
      refine x_zret dX7_isThere_17 rfl (by first | exact Or.inl nI_0 | exact Or.inr nI1 | exact bI_01 _) ?_ (Nat.zero_le _) (Nat.zero_le _)
      first | exact ⟨(bI_f (c := isSd d k) (fun q => absurd (nI_0 ▸ q.1 : (0 : Int32) ≤ k) (iNE.mpr c1))).symm, rfl, rfl⟩ | exact ⟨(bI_f (c := isSd d k) (fun q => absurd c9 (iNE.mpr q.2))).symm, rfl, rfl⟩ | exact ⟨(bI_t (c := isSd d k) ⟨nI_0.symm ▸ iNL.mp c1, iNE.mp c9⟩).symm, rfl, rfl⟩
    · refine x_iconst (nI 1) dX7_isThere_12 (by decide) ?_
      refine x_goto 17 dX7_isThere_13 (by decide) ?_
      refine x_zret dX7_isThere_17 rfl (by first | exact Or.inl nI_0 | exact Or.inr nI1 | exact bI_01 _) ?_ (Nat.zero_le _) (Nat.zero_le _)
      first | exact ⟨(bI_f (c := isSd d k) (fun q => absurd (nI_0 ▸ q.1 : (0 : Int32) ≤ k) (iNE.mpr c1))).symm, rfl, rfl⟩ | exact ⟨(bI_f (c := isSd d k) (fun q => absurd c9 (iNE.mpr q.2))).symm, rfl, rfl⟩ | exact ⟨(bI_t (c := isSd d k) ⟨nI_0.symm ▸ iNL.mp c1, iNE.mp c9⟩).symm, rfl, rfl⟩

set_option maxHeartbeats 4000000 in
theorem kd_sizeOf (G : vx_G) (d m : mS) (k : Nat) (hk : k < 5000) : xK G M_X7_sizeOf 0 [(.ref 202), (.int (nI (k)))] NT (hp (dk d) m) 0 0 (QI (fun r n' h' => r = d.1 76 k >>> (nI 28 &&& 31) ∧ n' = NT ∧ h' = hp (dk d) m)) := by
  refine xK.ofV (by decide) (Nat.le_of_ble_eq_true rfl) ?_
  refine xV.lveq (L' := [some (.ref 202), some (.int (nI (k)))]) rfl ?_
  refine x_aload0 dX7_sizeOf_0 ?_
  refine go202_0 fgX7_9 dX7_sizeOf_1 ?_
  refine x_iload1 dX7_sizeOf_4 ?_
  refine la203 (k) rfl (by omega) dX7_sizeOf_5 ?_
  refine x_bipush (nI 28) dX7_sizeOf_6 (by decide) ?_
  refine x_ishr dX7_sizeOf_8 ?_
  refine x_iret dX7_sizeOf_9 rfl ?_ (Nat.zero_le _) (Nat.zero_le _)
  exact ⟨rfl, rfl, rfl⟩

set_option maxHeartbeats 4000000 in
theorem kd_lineIn (G : vx_G) (d m : mS) (k z j : Nat) (hk : k < 5000) (hz : d.1 76 k >>> (nI 28 &&& 31) = nI z) (hj : j < z) : xK G M_X7_lineIn 1 [(.ref 202), (.int (nI (k))), (.int (nI (j)))] NT (hp (dk d) m) 0 0 (QI (fun r n' h' => r = (d.1 76 k >>> (nI (7 * (z - 1 - j)) &&& 31)) &&& nI 127 ∧ n' = NT ∧ h' = hp (dk d) m)) := by
  refine xK.ofV (by decide) (Nat.le_of_ble_eq_true rfl) ?_
  refine xV.lveq (L' := [some (.ref 202), some (.int (nI (k))), some (.int (nI (j)))]) rfl ?_
  refine x_aload0 dX7_lineIn_0 ?_
  refine go202_0 fgX7_9 dX7_lineIn_1 ?_
  refine x_iload1 dX7_lineIn_4 ?_
  refine la203 (k) rfl (by omega) dX7_lineIn_5 ?_
  refine x_bipush (nI 7) dX7_lineIn_6 (by decide) ?_
  refine x_aload0 dX7_lineIn_8 ?_
  refine x_iload1 dX7_lineIn_9 ?_
  refine x_callV1i mvX7_103 (kd_sizeOf G d m k hk) (show (202 : Nat) < NT by decide) (hd_at (a := 202) (by decide) rfl) (xRoom.of rfl) (Nat.le_of_ble_eq_true rfl) dX7_lineIn_10 (fun r_ n_ h_ hq => ?_)
  obtain ⟨rfl, rfl, rfl⟩ := hq
  refine xV.toi (nI (z)) (hz) ?_
  refine x_iconst (nI 1) dX7_lineIn_13 (by decide) ?_
  refine n_isub dX7_lineIn_14 (by omega) ?_
  refine x_iload2 dX7_lineIn_15 ?_
  refine n_isub dX7_lineIn_16 (by omega) ?_
  refine n_imul dX7_lineIn_17 ?_
  refine x_ishr dX7_lineIn_18 ?_
  refine x_bipush (nI 127) dX7_lineIn_19 (by decide) ?_
  refine x_iand dX7_lineIn_21 ?_
  refine x_iret dX7_lineIn_22 rfl ?_ (Nat.zero_le _) (Nat.zero_le _)
  exact ⟨rfl, rfl, rfl⟩

abbrev crD (d : mS) (c l : Nat) (rest : Int32) : Prop := nI l * d.1 79 c - d.1 83 0 ≤ rest ∧ rest ≤ nI l * d.1 80 c + d.1 83 0

set_option maxHeartbeats 4000000 in
theorem kd_canReach (G : vx_G) (d m : mS) (c l : Nat) (hc : c < 80) (rest : Int32) : xK G M_X7_canReach 0 [(.ref 202), (.int (nI (c))), (.int (nI (l))), (.int rest)] NT (hp (dk d) m) 0 0 (QI (fun r n' h' => r = bI (crD d c l rest) ∧ n' = NT ∧ h' = hp (dk d) m)) := by
  refine xK.ofV (by decide) (Nat.le_of_ble_eq_true rfl) ?_
  refine xV.lveq (L' := [some (.ref 202), some (.int (nI (c))), some (.int (nI (l))), some (.int rest)]) rfl ?_
  refine x_iload2 dX7_canReach_0 ?_
  refine x_aload0 dX7_canReach_1 ?_
  refine go202_3 fgX7_21 dX7_canReach_2 ?_
  refine x_iload1 dX7_canReach_5 ?_
  refine la206 (c) rfl (by omega) dX7_canReach_6 ?_
  refine x_imul dX7_canReach_7 ?_
  refine x_aload0 dX7_canReach_8 ?_
  refine go202_7 fgX7_34 dX7_canReach_9 ?_
  refine x_isub dX7_canReach_12 ?_
  refine x_iload3 dX7_canReach_13 ?_
  refine x_icmp_gt 38 dX7_canReach_14 (by decide) (fun c14 => ?_) (fun c14 => ?_)
  · refine x_iconst (nI 0) dX7_canReach_38 (by decide) ?_
    refine x_zret dX7_canReach_39 rfl (by first | exact Or.inl nI_0 | exact Or.inr nI1 | exact bI_01 _) ?_ (Nat.zero_le _) (Nat.zero_le _)
    first | exact ⟨(bI_f (c := crD d c l rest) (fun q => absurd q.1 (iNE.mpr c14))).symm, rfl, rfl⟩ | exact ⟨(bI_f (c := crD d c l rest) (fun q => absurd q.2 (iNE.mpr c31))).symm, rfl, rfl⟩ | exact ⟨(bI_t (c := crD d c l rest) ⟨iNL.mp c14, iNL.mp c31⟩).symm, rfl, rfl⟩
  · refine x_iload2 dX7_canReach_17 ?_
    refine x_aload0 dX7_canReach_18 ?_
    refine go202_4 fgX7_24 dX7_canReach_19 ?_
    refine x_iload1 dX7_canReach_22 ?_
    refine la207 (c) rfl (by omega) dX7_canReach_23 ?_
    refine x_imul dX7_canReach_24 ?_
    refine x_aload0 dX7_canReach_25 ?_
    refine go202_7 fgX7_34 dX7_canReach_26 ?_
    refine x_iadd dX7_canReach_29 ?_
    refine x_iload3 dX7_canReach_30 ?_
    refine x_icmp_lt 38 dX7_canReach_31 (by decide) (fun c31 => ?_) (fun c31 => ?_)
    · refine x_iconst (nI 0) dX7_canReach_38 (by decide) ?_
      refine x_zret dX7_canReach_39 rfl (by first | exact Or.inl nI_0 | exact Or.inr nI1 | exact bI_01 _) ?_ (Nat.zero_le _) (Nat.zero_le _)
      first | exact ⟨(bI_f (c := crD d c l rest) (fun q => absurd q.1 (iNE.mpr c14))).symm, rfl, rfl⟩ | exact ⟨(bI_f (c := crD d c l rest) (fun q => absurd q.2 (iNE.mpr c31))).symm, rfl, rfl⟩ | exact ⟨(bI_t (c := crD d c l rest) ⟨iNL.mp c14, iNL.mp c31⟩).symm, rfl, rfl⟩
    · refine x_iconst (nI 1) dX7_canReach_34 (by decide) ?_
      refine x_goto 39 dX7_canReach_35 (by decide) ?_
      refine x_zret dX7_canReach_39 rfl (by first | exact Or.inl nI_0 | exact Or.inr nI1 | exact bI_01 _) ?_ (Nat.zero_le _) (Nat.zero_le _)
      first | exact ⟨(bI_f (c := crD d c l rest) (fun q => absurd q.1 (iNE.mpr c14))).symm, rfl, rfl⟩ | exact ⟨(bI_f (c := crD d c l rest) (fun q => absurd q.2 (iNE.mpr c31))).symm, rfl, rfl⟩ | exact ⟨(bI_t (c := crD d c l rest) ⟨iNL.mp c14, iNL.mp c31⟩).symm, rfl, rfl⟩

theorem min_le {a b : Int32} : (if b < a then b else a) ≤ a ∧ (if b < a then b else a) ≤ b := by
  by_cases q : b < a
  · rw [if_pos q]; exact ⟨Int32.le_of_lt q, Int32.le_refl _⟩
  · rw [if_neg q]; exact ⟨Int32.le_refl _, iNL.mp q⟩
theorem max_le {a b : Int32} : a ≤ (if a < b then b else a) ∧ b ≤ (if a < b then b else a) := by
  by_cases q : a < b
  · rw [if_pos q]; exact ⟨Int32.le_of_lt q, Int32.le_refl _⟩
  · rw [if_neg q]; exact ⟨Int32.le_refl _, iNL.mp q⟩
abbrev amB (v : Int32) : Prop := -1000000 ≤ v.toInt ∧ v.toInt ≤ 1000000
theorem min_am {a b : Int32} (ha : amB a) (hb : amB b) : amB (if b < a then b else a) := by split <;> assumption
theorem max_am {a b : Int32} (ha : amB a) (hb : amB b) : amB (if a < b then b else a) := by split <;> assumption
/-- the bounds stand from c on -/
def bdI (d : mS) (K c : Nat) (e : mS) : Prop := (∀ j, j ≠ 79 → j ≠ 80 → e.1 j = d.1 j) ∧ ∀ x, c ≤ x → x < K → (amB (e.1 79 x) ∧ amB (e.1 80 x)) ∧ ∀ y, x ≤ y → y < K → e.1 79 x ≤ d.1 78 y ∧ d.1 78 y ≤ e.1 80 x
theorem bdI_step {d e : mS} {K c : Nat} {lo hi : Int32} (h : bdI d K (c + 1) e) (ha : amB lo ∧ amB hi) (hb : ∀ y, c ≤ y → y < K → lo ≤ d.1 78 y ∧ d.1 78 y ≤ hi) : bdI d K c (mset (mset e 79 c lo) 80 c hi) := by
  refine ⟨fun j h1 h2 => by rw [mset_ne h2, mset_ne h1]; exact h.1 j h1 h2, fun x h1 h2 => ?_⟩
  rw [mset_ne (k := 80) (j := 79) (by decide)]
  by_cases q : x = c
  · subst q
    rw [mset_at, mset_at]
    exact ⟨ha, hb⟩
  · rw [mset_off q, mset_off q, mset_ne (by decide)]
    exact h.2 x (by omega) h2

theorem dn_z {v : Int32} (h : v = nI 0 - nI 1) : v < 0 := by rw [h]; decide
theorem dn_s (c : Nat) : nI (c + 1) - nI 1 = nI c := by rw [pk_sub (by omega), Nat.add_sub_cancel]
theorem bd_last {d e : mS} {K c : Nat} (h : bdI d K (c + 1) e) (hc : c + 1 = K) (ha : amB (d.1 78 c)) : bdI d K c (mset (mset e 79 c (d.1 78 c)) 80 c (d.1 78 c)) := by
  refine bdI_step h ⟨ha, ha⟩ (fun y h1 h2 => ?_)
  have ey : y = c := by omega
  subst ey
  exact ⟨Int32.le_refl _, Int32.le_refl _⟩
theorem bd_more {d e : mS} {K c : Nat} (h : bdI d K (c + 1) e) (hc : c + 1 < K) (ha : amB (d.1 78 c)) : bdI d K c (mset (mset e 79 c (if e.1 79 (c + 1) < d.1 78 c then e.1 79 (c + 1) else d.1 78 c)) 80 c (if d.1 78 c < e.1 80 (c + 1) then e.1 80 (c + 1) else d.1 78 c)) := by
  obtain ⟨⟨a1, a2⟩, a3⟩ := h.2 (c + 1) (Nat.le_refl _) hc
  refine bdI_step h ⟨min_am ha a1, max_am ha a2⟩ (fun y h1 h2 => ?_)
  have mi := min_le (a := d.1 78 c) (b := e.1 79 (c + 1))
  have ma := max_le (a := d.1 78 c) (b := e.1 80 (c + 1))
  by_cases q : y = c
  · subst q; exact ⟨mi.1, ma.1⟩
  · have := a3 y (by omega) h2
    exact ⟨Int32.le_trans mi.2 this.1, Int32.le_trans this.2 ma.2⟩

set_option maxHeartbeats 4000000 in
theorem kd_boundAmounts (G : vx_G) (d m : mS) (K : Nat) (hK : K ≤ 80) (e81 : d.1 81 0 = nI K) (hA : ∀ c, c < K → amB (d.1 78 c)) : xK G M_X7_boundAmounts 1 [(.ref 202)] NT (hp (dk d) m) 0 0 (QV (fun n' h' => n' = NT ∧ ∃ e, h' = hp (dk e) m ∧ bdI d K 0 e)) := by
  have lp : ∀ (t : Nat) (e : mS) (v : Int32), t ≤ K → v = nI t - nI 1 → bdI d K t e → xV (mF G M_X7_boundAmounts 1 0 0 (QV (fun n' h' => n' = NT ∧ ∃ e, h' = hp (dk e) m ∧ bdI d K 0 e))) 7 [some (.ref 202), some (.int v), none] [] NT (hp (dk e) m) 0 0 := by
    intro t
    induction t with
    | zero =>
      intro e v ht hv hB
      refine x_iload1 dX7_boundAmounts_7 ?_
      refine x_if_lt 105 dX7_boundAmounts_8 (by decide) (fun c8 => ?_) (fun c8 => absurd (dn_z hv) c8)
      refine x_vret dX7_boundAmounts_105 rfl ?_ (Nat.zero_le _) (Nat.zero_le _)
      exact ⟨rfl, _, rfl, hB⟩
    | succ c ih =>
      intro e v ht hv hB
      rw [show nI (c + 1) - nI 1 = nI c from dn_s c] at hv
      subst hv
      have k81 : e.1 81 0 = nI K := by rw [hB.1 81 (by decide) (by decide)]; exact e81
      have k78 : e.1 78 = d.1 78 := hB.1 78 (by decide) (by decide)
      by_cases hl : c + 1 = K
      · refine x_iload1 dX7_boundAmounts_7 ?_
        refine n_if_lt dX7_boundAmounts_8 105 (by decide) (by omega) ?_
        refine x_iload1 dX7_boundAmounts_11 ?_
        refine x_aload0 dX7_boundAmounts_12 ?_
        refine go202_5 fgX7_27 dX7_boundAmounts_13 ?_
        refine xV.toi (nI (K)) (k81) ?_
        refine x_iconst (nI 1) dX7_boundAmounts_16 (by decide) ?_
        refine n_isub dX7_boundAmounts_17 (by omega) ?_
        refine n_icmp_ne 25 dX7_boundAmounts_18 (by decide) (by omega) (by omega) (fun c18 => absurd c18 (by omega)) (fun c18 => ?_)
        refine x_iconst (nI 1) dX7_boundAmounts_21 (by decide) ?_
        refine x_goto 26 dX7_boundAmounts_22 (by decide) ?_
        refine x_istore2 dX7_boundAmounts_26 rfl rfl rfl ?_
        refine x_aload0 dX7_boundAmounts_27 ?_
        refine go202_3 fgX7_21 dX7_boundAmounts_28 ?_
        refine x_iload1 dX7_boundAmounts_31 ?_
        refine x_iload2 dX7_boundAmounts_32 ?_
        refine n_if_eq 45 dX7_boundAmounts_33 (by decide) (by omega) (fun c33 => absurd c33 (by decide)) (fun c33 => ?_)
        refine x_aload0 dX7_boundAmounts_36 ?_
        refine go202_2 fgX7_18 dX7_boundAmounts_37 ?_
        refine x_iload1 dX7_boundAmounts_40 ?_
        refine la205 (c) rfl (by omega) dX7_boundAmounts_41 ?_
        refine xV.toi (d.1 78 c) ((by rw [k78])) ?_
        refine x_goto 62 dX7_boundAmounts_42 (by decide) ?_
        refine sa206 (c) rfl (by omega) dX7_boundAmounts_62 ?_
        refine x_aload0 dX7_boundAmounts_63 ?_
        refine go202_4 fgX7_24 dX7_boundAmounts_64 ?_
        refine x_iload1 dX7_boundAmounts_67 ?_
        refine x_iload2 dX7_boundAmounts_68 ?_
        refine n_if_eq 81 dX7_boundAmounts_69 (by decide) (by omega) (fun c69 => absurd c69 (by decide)) (fun c69 => ?_)
        refine x_aload0 dX7_boundAmounts_72 ?_
        refine go202_2 fgX7_18 dX7_boundAmounts_73 ?_
        refine x_iload1 dX7_boundAmounts_76 ?_
        refine la205 (c) rfl (by omega) dX7_boundAmounts_77 ?_
        refine xV.toi (d.1 78 c) ((by rw [mset_ne (by decide), k78])) ?_
        refine x_goto 98 dX7_boundAmounts_78 (by decide) ?_
        refine sa207 (c) rfl (by omega) dX7_boundAmounts_98 ?_
        refine x_iinc1 _ dX7_boundAmounts_99 rfl rfl rfl rfl ?_
        refine x_goto 7 dX7_boundAmounts_102 (by decide) ?_
        refine xV.lvle (L' := [some (.ref _), some (.int _), none]) ⟨rfl, rfl, trivial⟩ ?_
        exact ih _ _ (by omega) (dec_1 c) (bd_last hB (by omega) (hA c (by omega)))
      · refine x_iload1 dX7_boundAmounts_7 ?_
        refine n_if_lt dX7_boundAmounts_8 105 (by decide) (by omega) ?_
        refine x_iload1 dX7_boundAmounts_11 ?_
        refine x_aload0 dX7_boundAmounts_12 ?_
        refine go202_5 fgX7_27 dX7_boundAmounts_13 ?_
        refine xV.toi (nI (K)) (k81) ?_
        refine x_iconst (nI 1) dX7_boundAmounts_16 (by decide) ?_
        refine n_isub dX7_boundAmounts_17 (by omega) ?_
        refine n_icmp_ne 25 dX7_boundAmounts_18 (by decide) (by omega) (by omega) (fun c18 => ?_) (fun c18 => absurd c18 (by omega))
        refine x_iconst (nI 0) dX7_boundAmounts_25 (by decide) ?_
        refine x_istore2 dX7_boundAmounts_26 rfl rfl rfl ?_
        refine x_aload0 dX7_boundAmounts_27 ?_
        refine go202_3 fgX7_21 dX7_boundAmounts_28 ?_
        refine x_iload1 dX7_boundAmounts_31 ?_
        refine x_iload2 dX7_boundAmounts_32 ?_
        refine n_if_eq 45 dX7_boundAmounts_33 (by decide) (by omega) (fun c33 => ?_) (fun c33 => absurd c33 (by decide))
        refine x_aload0 dX7_boundAmounts_45 ?_
        refine go202_2 fgX7_18 dX7_boundAmounts_46 ?_
        refine x_iload1 dX7_boundAmounts_49 ?_
        refine la205 (c) rfl (by omega) dX7_boundAmounts_50 ?_
        refine xV.toi (d.1 78 c) ((by rw [k78])) ?_
        refine x_aload0 dX7_boundAmounts_51 ?_
        refine go202_3 fgX7_21 dX7_boundAmounts_52 ?_
        refine x_iload1 dX7_boundAmounts_55 ?_
        refine x_iconst (nI 1) dX7_boundAmounts_56 (by decide) ?_
        refine n_iadd dX7_boundAmounts_57 ?_
        refine la206 (c + 1) rfl (by omega) dX7_boundAmounts_58 ?_
        refine x_min mmX7_84 (Nat.le_of_ble_eq_true rfl) (Nat.le_of_ble_eq_true rfl) (Nat.le_of_ble_eq_true rfl) (Nat.le_of_ble_eq_true rfl) dX7_boundAmounts_59 ?_
        refine sa206 (c) rfl (by omega) dX7_boundAmounts_62 ?_
        refine x_aload0 dX7_boundAmounts_63 ?_
        refine go202_4 fgX7_24 dX7_boundAmounts_64 ?_
        refine x_iload1 dX7_boundAmounts_67 ?_
        refine x_iload2 dX7_boundAmounts_68 ?_
        refine n_if_eq 81 dX7_boundAmounts_69 (by decide) (by omega) (fun c69 => ?_) (fun c69 => absurd c69 (by decide))
        refine x_aload0 dX7_boundAmounts_81 ?_
        refine go202_2 fgX7_18 dX7_boundAmounts_82 ?_
        refine x_iload1 dX7_boundAmounts_85 ?_
        refine la205 (c) rfl (by omega) dX7_boundAmounts_86 ?_
        refine xV.toi (d.1 78 c) ((by rw [mset_ne (by decide), k78])) ?_
        refine x_aload0 dX7_boundAmounts_87 ?_
        refine go202_4 fgX7_24 dX7_boundAmounts_88 ?_
        refine x_iload1 dX7_boundAmounts_91 ?_
        refine x_iconst (nI 1) dX7_boundAmounts_92 (by decide) ?_
        refine n_iadd dX7_boundAmounts_93 ?_
        refine la207 (c + 1) rfl (by omega) dX7_boundAmounts_94 ?_
        refine xV.toi (e.1 80 (c + 1)) ((by rw [mset_ne (by decide)])) ?_
        refine x_max mmX7_88 (Nat.le_of_ble_eq_true rfl) (Nat.le_of_ble_eq_true rfl) (Nat.le_of_ble_eq_true rfl) (Nat.le_of_ble_eq_true rfl) dX7_boundAmounts_95 ?_
        refine sa207 (c) rfl (by omega) dX7_boundAmounts_98 ?_
        refine x_iinc1 _ dX7_boundAmounts_99 rfl rfl rfl rfl ?_
        refine x_goto 7 dX7_boundAmounts_102 (by decide) ?_
        refine xV.lvle (L' := [some (.ref _), some (.int _), none]) ⟨rfl, rfl, trivial⟩ ?_
        exact ih _ _ (by omega) (dec_1 c) (bd_more hB (by omega) (hA c (by omega)))
  refine xK.ofV (by decide) (Nat.le_of_ble_eq_true rfl) ?_
  refine xV.lveq (L' := [some (.ref 202), none, none]) rfl ?_
  refine x_aload0 dX7_boundAmounts_0 ?_
  refine go202_5 fgX7_27 dX7_boundAmounts_1 ?_
  refine xV.toi (nI (K)) (e81) ?_
  refine x_iconst (nI 1) dX7_boundAmounts_4 (by decide) ?_
  refine x_isub dX7_boundAmounts_5 ?_
  refine x_istore1 dX7_boundAmounts_6 rfl rfl rfl ?_
  exact lp K d _ (Nat.le_refl _) rfl ⟨fun _ _ _ => rfl, fun x h1 h2 => by omega⟩

def cdP (d : mS) (b A : Nat) (sp : Int32) (i : Nat) : Bool := decide (d.1 5 (80 * b + i) < 0 ∧ apI (d.1 1 (80 * b + i)) (d.1 1 A) ≤ sp)
abbrev jS (j : Nat) : Prop := j ≠ 77 ∧ j ≠ 78 ∧ j ≠ 79 ∧ j ≠ 80 ∧ j ≠ 81 ∧ j ≠ 82 ∧ j ≠ 86 ∧ j ≠ 87
abbrev gsI (d : mS) (A b : Nat) (sp : Int32) (i : Nat) (e : mS) : Prop := (∀ j, jS j → e.1 j = d.1 j) ∧ (e.1 82 0 = d.1 0 A ∧ e.1 86 0 = nI (A / 80) ∧ e.1 87 0 = nI (A % 80)) ∧ e.1 81 0 = nI (fb_ct (cdP d b A sp) i) ∧ ∀ a, a < i → cdP d b A sp a = true → e.1 77 (fb_ct (cdP d b A sp) a) = nI a ∧ e.1 78 (fb_ct (cdP d b A sp) a) = d.1 0 (80 * b + a)
theorem gsI_no {d e : mS} {A b i : Nat} {sp : Int32} (h : gsI d A b sp i e) (hc : cdP d b A sp i = false) : gsI d A b sp (i + 1) e := by
  refine ⟨h.1, h.2.1, by rw [fb_ct_succ, hc]; exact h.2.2.1, fun a ha hp => ?_⟩
  rcases Nat.lt_or_ge a i with q | q
  · exact h.2.2.2 a q hp
  · have : a = i := by omega
    subst this
    rw [hc] at hp; exact absurd hp Bool.false_ne_true
theorem gsI_yes {d e : mS} {A b i : Nat} {sp : Int32} (h : gsI d A b sp i e) (hc : cdP d b A sp i = true) : gsI d A b sp (i + 1) (mset (mset (mset e 77 (fb_ct (cdP d b A sp) i) (nI i)) 78 (fb_ct (cdP d b A sp) i) (d.1 0 (80 * b + i))) 81 0 (nI (fb_ct (cdP d b A sp) i + 1))) := by
  refine ⟨fun j hj => by rw [mset_ne (by omega), mset_ne (by omega), mset_ne (by omega)]; exact h.1 j hj, ⟨?_, ?_, ?_⟩, by rw [mset_at, fb_ct_succ, hc]; rfl, fun a ha hp => ?_⟩
  · rw [mset_ne (by decide), mset_ne (by decide), mset_ne (by decide)]; exact h.2.1.1
  · rw [mset_ne (by decide), mset_ne (by decide), mset_ne (by decide)]; exact h.2.1.2.1
  · rw [mset_ne (by decide), mset_ne (by decide), mset_ne (by decide)]; exact h.2.1.2.2
  · have e77 : ∀ x, (mset (mset (mset e 77 (fb_ct (cdP d b A sp) i) (nI i)) 78 (fb_ct (cdP d b A sp) i) (d.1 0 (80 * b + i))) 81 0 (nI (fb_ct (cdP d b A sp) i + 1))).1 77 x = (mset e 77 (fb_ct (cdP d b A sp) i) (nI i)).1 77 x := fun x => by rw [mset_ne (by decide), mset_ne (by decide)]
    have e78 : ∀ x, (mset (mset (mset e 77 (fb_ct (cdP d b A sp) i) (nI i)) 78 (fb_ct (cdP d b A sp) i) (d.1 0 (80 * b + i))) 81 0 (nI (fb_ct (cdP d b A sp) i + 1))).1 78 x = (mset (mset e 77 (fb_ct (cdP d b A sp) i) (nI i)) 78 (fb_ct (cdP d b A sp) i) (d.1 0 (80 * b + i))).1 78 x := fun x => by rw [mset_ne (by decide)]
    rw [e77, e78]
    rcases Nat.lt_or_ge a i with q | q
    · have lt := ct_lt_all (p := cdP d b A sp) (a := a) (n := i) q hp
      rw [mset_off (by omega), mset_off (by omega), mset_ne (by decide)]
      exact h.2.2.2 a q hp
    · have : a = i := by omega
      subst this
      rw [mset_at, mset_at]; exact ⟨rfl, rfl⟩
abbrev gsR (d : mS) (A b : Nat) (sp : Int32) (g : mS) : Prop := gsI d A b sp (nL d b) g ∧ ∀ x, x < fb_ct (cdP d b A sp) (nL d b) → (amB (g.1 79 x) ∧ amB (g.1 80 x)) ∧ ∀ y, x ≤ y → y < fb_ct (cdP d b A sp) (nL d b) → g.1 79 x ≤ g.1 78 y ∧ g.1 78 y ≤ g.1 80 x
theorem gs_end {d e g : mS} {A b : Nat} {sp : Int32} (h : gsI d A b sp (nL d b) e) (hb : bdI e (fb_ct (cdP d b A sp) (nL d b)) 0 g) : gsR d A b sp g := by
  have k : ∀ j, j ≠ 79 → j ≠ 80 → g.1 j = e.1 j := hb.1
  refine ⟨⟨fun j hj => by rw [k j (by omega) (by omega)]; exact h.1 j hj, ?_, ?_, ?_⟩, fun x hx => ?_⟩
  · rw [k 82 (by decide) (by decide), k 86 (by decide) (by decide), k 87 (by decide) (by decide)]; exact h.2.1
  · rw [k 81 (by decide) (by decide)]; exact h.2.2.1
  · rw [k 77 (by decide) (by decide), k 78 (by decide) (by decide)]; exact h.2.2.2
  · have := hb.2 x (Nat.zero_le _) hx
    rw [k 78 (by decide) (by decide)]; exact this
theorem gs_am {d e : mS} {A b : Nat} {sp : Int32} (h : gsI d A b sp (nL d b) e) (hF : iF d) (hb : b < 2) : ∀ c, c < fb_ct (cdP d b A sp) (nL d b) → amB (e.1 78 c) := by
  intro c hc
  obtain ⟨a, a1, a2, a3⟩ := fb_ct_kth hc
  have := (h.2.2.2 a a1 a2).2
  rw [a3] at this
  rw [this]; exact (hF b hb a a1).1

set_option maxHeartbeats 4000000 in
theorem kd_gatherS (G : vx_G) (d m : mS) (hL : iL d) (hN : dN d) (hF : iF d) (A b : Nat) (hA : A < 160) (hA1 : fOk d A) (hb : b < 2) (sp : Int32) : xK G M_X7_gather 2 [(.ref 202), (.ref (lC A)), (.ref (bC b)), (.int sp)] NT (hp (dk d) m) 0 0 (QV (fun n' h' => n' = NT ∧ ∃ g, h' = hp (dk g) m ∧ gsR d A b sp g)) := by
  obtain ⟨e6, l6⟩ := hL b hb
  have lp : ∀ (n_ : Nat) (i : Nat) (e : mS), i ≤ nL d b → nL d b + 1 ≤ i + n_ → (gsI d A b sp i e) → xV (mF G M_X7_gather 2 0 0 (QV (fun n' h' => n' = NT ∧ ∃ g, h' = hp (dk g) m ∧ gsR d A b sp g))) 32 [some (.ref 202), some (.ref (lC A)), some (.ref (bC b)), some (.int sp), some (.int (nI (i))), none] [] NT (hp (dk e) m) 0 0 := by
    intro n_
    induction n_ with
    | zero => intro i e hi_ hn_; omega
    | succ n_ ih =>
      intro i e hi_ hn_ hI
      have k : ∀ j, j < 57 → e.1 j = d.1 j := fun j hj => hI.1 j (by omega)
      have hcl := fb_ct_le (cdP d b A sp) i
      refine x_iload4 dX7_gather_32 ?_
      refine x_aload2 dX7_gather_34 ?_
      refine gB1 (by omega) fgX7_59 dX7_gather_35 ?_
      refine xV.toi (nI (nL d b)) ((by rw [k 6 (by decide)]; exact e6)) ?_
      refine n_icmp_ge 116 dX7_gather_38 (by decide) (by omega) (by omega) (fun c38 => ?_) (fun c38 => ?_)
      · have ei : i = nL d b := by omega
        rw [ei] at hI
        refine x_aload0 dX7_gather_116 ?_
        refine x_callV0v mvX7_81 (kd_boundAmounts G e m (fb_ct (cdP d b A sp) (nL d b)) (by have := fb_ct_le (cdP d b A sp) (nL d b); omega) hI.2.2.1 (gs_am hI hF hb)) (show (202 : Nat) < NT by decide) (hd_at (a := 202) (by decide) rfl) (xRoom.of rfl) (Nat.le_of_ble_eq_true rfl) dX7_gather_117 (fun n_ h_ hq => ?_)
        obtain ⟨rfl, g, rfl, hg⟩ := hq
        refine x_vret dX7_gather_120 rfl ?_ (Nat.zero_le _) (Nat.zero_le _)
        exact ⟨rfl, _, rfl, gs_end hI hg⟩
      · refine x_aload2 dX7_gather_41 ?_
        refine gB0 (by omega) fgX7_64 dX7_gather_42 ?_
        refine x_iload4 dX7_gather_45 ?_
        refine lBL (by omega) (i) rfl (by omega) dX7_gather_47 ?_
        refine x_astore5 dX7_gather_48 rfl rfl rfl ?_
        refine x_aload5 dX7_gather_50 ?_
        refine x_callV0i mvX7_68 (k_isBreak G e m (80 * b + i) (by omega) (by rw [k 5 (by decide)]; exact hN b hb i (by omega))) (lt_L (by omega)) (hd_L (by omega)) (xRoom.of rfl) (Nat.le_of_ble_eq_true rfl) dX7_gather_52 (fun r_ n_ h_ hq => ?_)
        obtain ⟨rfl, rfl, rfl⟩ := hq
        refine b_if_eq 110 dX7_gather_55 (by decide) (fun c55 => ?_) (fun c55 => ?_)
        · rw [k 5 (by decide)] at c55
          have hf : cdP d b A sp i = false := decide_eq_false (fun q => c55 q.1)
          refine x_iinc4 (nI (i + 1)) dX7_gather_110 (nI_add i 1) rfl rfl rfl ?_
          refine x_goto 32 dX7_gather_113 (by decide) ?_
          refine xV.lvle (L' := [some (.ref _), some (.ref _), some (.ref _), some (.int _), some (.int _), none]) ⟨rfl, rfl, rfl, rfl, rfl, trivial⟩ ?_
          first | exact ih (i + 1) _ (by omega) (by omega) (gsI_yes hI hf) | exact ih (i + 1) _ (by omega) (by omega) (gsI_no hI hf)
        · rw [k 5 (by decide)] at c55
          refine x_aload5 dX7_gather_58 ?_
          refine gL3 (by omega) fgX7_72 dX7_gather_60 ?_
          refine x_aload1 dX7_gather_63 ?_
          refine gL3 (by omega) fgX7_72 dX7_gather_64 ?_
          refine x_isub dX7_gather_67 ?_
          refine x_abs mmX7_75 (Nat.le_of_ble_eq_true rfl) (Nat.le_of_ble_eq_true rfl) (Nat.le_of_ble_eq_true rfl) (Nat.le_of_ble_eq_true rfl) dX7_gather_68 ?_
          refine xV.toi (apI (d.1 1 (80 * b + i)) (d.1 1 A)) ((by rw [k 1 (by decide)]; have f1 := (hF b hb i (by omega)).2; have f2 := hA1.2; exact ap_abs (by omega) (by omega) (by omega) (by omega))) ?_
          refine x_iload3 dX7_gather_71 ?_
          refine x_icmp_gt 110 dX7_gather_72 (by decide) (fun c72 => ?_) (fun c72 => ?_)
          · have hf : cdP d b A sp i = false := decide_eq_false (fun q => absurd q.2 (iNE.mpr c72))
            refine x_iinc4 (nI (i + 1)) dX7_gather_110 (nI_add i 1) rfl rfl rfl ?_
            refine x_goto 32 dX7_gather_113 (by decide) ?_
            refine xV.lvle (L' := [some (.ref _), some (.ref _), some (.ref _), some (.int _), some (.int _), none]) ⟨rfl, rfl, rfl, rfl, rfl, trivial⟩ ?_
            first | exact ih (i + 1) _ (by omega) (by omega) (gsI_yes hI hf) | exact ih (i + 1) _ (by omega) (by omega) (gsI_no hI hf)
          · have hf : cdP d b A sp i = true := decide_eq_true ⟨c55, iNL.mp c72⟩
            refine x_aload0 dX7_gather_75 ?_
            refine go202_1 fgX7_15 dX7_gather_76 ?_
            refine x_aload0 dX7_gather_79 ?_
            refine go202_5 fgX7_27 dX7_gather_80 ?_
            refine xV.toi (nI (fb_ct (cdP d b A sp) i)) (hI.2.2.1) ?_
            refine x_iload4 dX7_gather_83 ?_
            refine sa204 (fb_ct (cdP d b A sp) i) rfl (by omega) dX7_gather_85 ?_
            refine x_aload0 dX7_gather_86 ?_
            refine go202_2 fgX7_18 dX7_gather_87 ?_
            refine x_aload0 dX7_gather_90 ?_
            refine go202_5 fgX7_27 dX7_gather_91 ?_
            refine xV.toi (nI (fb_ct (cdP d b A sp) i)) ((by rw [mset_ne (by decide)]; exact hI.2.2.1)) ?_
            refine x_aload5 dX7_gather_94 ?_
            refine gL2 (by omega) fgX7_57 dX7_gather_96 ?_
            refine xV.toi (d.1 0 (80 * b + i)) ((by rw [mset_ne (by decide), k 0 (by decide)])) ?_
            refine sa205 (fb_ct (cdP d b A sp) i) rfl (by omega) dX7_gather_99 ?_
            refine x_aload0 dX7_gather_100 ?_
            refine x_dup dX7_gather_101 rfl ?_
            refine go202_5 fgX7_27 dX7_gather_102 ?_
            refine xV.toi (nI (fb_ct (cdP d b A sp) i)) ((by rw [mset_ne (by decide), mset_ne (by decide)]; exact hI.2.2.1)) ?_
            refine x_iconst (nI 1) dX7_gather_105 (by decide) ?_
            refine n_iadd dX7_gather_106 ?_
            refine po202_5 fpX7_27 dX7_gather_107 ?_
            refine x_iinc4 (nI (i + 1)) dX7_gather_110 (nI_add i 1) rfl rfl rfl ?_
            refine x_goto 32 dX7_gather_113 (by decide) ?_
            refine xV.lvle (L' := [some (.ref _), some (.ref _), some (.ref _), some (.int _), some (.int _), none]) ⟨rfl, rfl, rfl, rfl, rfl, trivial⟩ ?_
            first | exact ih (i + 1) _ (by omega) (by omega) (gsI_yes hI hf) | exact ih (i + 1) _ (by omega) (by omega) (gsI_no hI hf)
  refine xK.ofV (by decide) (Nat.le_of_ble_eq_true rfl) ?_
  refine xV.lveq (L' := [some (.ref 202), some (.ref (lC A)), some (.ref (bC b)), some (.int sp), none, none]) rfl ?_
  refine x_aload0 dX7_gather_0 ?_
  refine x_aload1 dX7_gather_1 ?_
  refine gL0 (by omega) fgX7_52 dX7_gather_2 ?_
  refine po202_10 fpX7_43 dX7_gather_5 ?_
  refine x_aload0 dX7_gather_8 ?_
  refine x_aload1 dX7_gather_9 ?_
  refine gL1 (by omega) fgX7_55 dX7_gather_10 ?_
  refine po202_11 fpX7_46 dX7_gather_13 ?_
  refine x_aload0 dX7_gather_16 ?_
  refine x_aload1 dX7_gather_17 ?_
  refine gL2 (by omega) fgX7_57 dX7_gather_18 ?_
  refine xV.toi (d.1 0 A) ((by rw [mset_ne (by decide), mset_ne (by decide)])) ?_
  refine po202_6 fpX7_31 dX7_gather_21 ?_
  refine x_aload0 dX7_gather_24 ?_
  refine x_iconst (nI 0) dX7_gather_25 (by decide) ?_
  refine po202_5 fpX7_27 dX7_gather_26 ?_
  refine x_iconst (nI 0) dX7_gather_29 (by decide) ?_
  refine x_istore4 dX7_gather_30 rfl rfl rfl ?_
  exact lp (nL d b + 1) 0 _ (Nat.zero_le _) (by omega) ⟨fun j hj => by rw [mset_ne (by omega), mset_ne (by omega), mset_ne (by omega), mset_ne (by omega)], ⟨by rw [mset_ne (by decide), mset_at], by rw [mset_ne (by decide), mset_ne (by decide), mset_ne (by decide), mset_at], by rw [mset_ne (by decide), mset_ne (by decide), mset_at]⟩, mset_at _ _ _ _, fun a ha => absurd ha (Nat.not_lt_zero a)⟩
