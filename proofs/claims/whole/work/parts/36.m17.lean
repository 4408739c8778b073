/-! ===== the model's methods, 17: sets ===== -/
def st0 (m : mS) (B I : Nat) : mS := mset (mset (mset (mset m 35 0 (nI 0)) 31 0 (nI B)) 32 0 (nI I)) 30 0 (nI 1)
def stL (m : mS) (B I : Nat) (e : Int32) : Nat → mS
  | 0 => st0 m B I
  | z + 1 => chS (st0 m B I) (1 - B) (z + 1) e (z + 1) 0 (m.1 0 (80 * B + I)).toInt64 (stL m B I e z)
theorem stL_ok (m : mS) (B I : Nat) (e : Int32) : ∀ z, smC (st0 m B I) (stL m B I e z) ∧ iS (stL m B I e z)
  | 0 => ⟨⟨rfl, fun _ _ _ _ _ => rfl⟩, ⟨by show nI 0 = nI (nv (nI 0)); rw [nv_nI (by decide)], by show nv (nI 0) ≤ 5000; rw [nv_nI (by decide)]; decide⟩⟩
  | z + 1 => chS_ok _ _ _ _ (stL_ok m B I e z).1 (stL_ok m B I e z).2
abbrev okSt (m : mS) (b i z e : Int32) : Prop := isLn m b i ∧ (nI 1 ≤ z ∧ z ≤ nI 4) ∧ nI 0 ≤ e ∧ e ≤ nI 10000
def setsR (m : mS) (b i z e r : Int32) (m' : mS) : Prop := if okSt m b i z e then (if m.1 5 (80 * nv b + nv i) < 0 then m' = stL m (nv b) (nv i) e (nv z) ∧ r = m'.1 35 0 else r = -2 ∧ m' = m) else r = -1 ∧ m' = m

set_option maxHeartbeats 4000000 in
theorem k_sets (G : vx_G) (x : vx_H) (m : mS) (hL : iL m) (b i z e : Int32) : xK G M_X10_sets 6 [(.ref MB), (.int b), (.int i), (.int z), (.int e)] NT (hp x m) 0 0 (QI (fun r n' h' => n' = NT ∧ ∃ m', h' = hp x m' ∧ setsR m b i z e r m')) := by
  have lp : ∀ (B I Z : Nat), (b = nI B) → (i = nI I) → (z = nI Z) → (B < 2) → (I < nL m B) → (Z ≤ 4) → (okSt m b i z e) → (m.1 5 (80 * B + I) < 0) → ∀ (n_ : Nat) (k : Nat), k ≤ Z + 1 → Z + 1 + 1 ≤ k + n_ → (1 ≤ k) → xV (mF G M_X10_sets 6 0 0 (QI (fun r n' h' => n' = NT ∧ ∃ m', h' = hp x m' ∧ setsR m b i z e r m'))) 72 [some (.ref MB), some (.int (nI (B))), some (.int (nI (I))), some (.int (nI (Z))), some (.int e), some (.int (nI (k)))] [] NT (hp x (stL m B I e (k - 1))) 0 0 := by
    intro B I Z eb ei ez hB hI hZ hok c43
    subst eb
    subst ei
    subst ez
    have l0 := (hL B hB).2
    have eB : nv (nI B) = B := nv_nI (by omega)
    have eI : nv (nI I) = I := nv_nI (by omega)
    have eZ : nv (nI Z) = Z := nv_nI (by omega)
    have s1 : sBk (st0 m B I) = B := eB
    have s2 : sLn (st0 m B I) = I := eI
    intro n_
    induction n_ with
    | zero => intro k hi_ hn_; omega
    | succ n_ ih =>
      intro k hi_ hn_ hk1
      obtain ⟨hC, hS⟩ := stL_ok m B I e (k - 1)
      obtain ⟨n, en⟩ : ∃ n, k = n + 1 := ⟨k - 1, by omega⟩
      refine x_iload5 dX10_sets_72 ?_
      refine x_iload3 dX10_sets_74 ?_
      refine n_icmp_gt 110 dX10_sets_75 (by decide) (by omega) (by omega) (fun c75 => ?_) (fun c75 => ?_)
      · refine x_aload0 dX10_sets_110 ?_
        refine gm35 fgX10_195 dX10_sets_111 ?_
        refine x_iret dX10_sets_114 rfl ?_ (Nat.zero_le _) (Nat.zero_le _)
        refine ⟨rfl, _, rfl, ?_⟩
        unfold setsR
        rw [if_pos hok, eB, eI, if_pos c43, eZ, show k - 1 = Z by omega]
        exact ⟨rfl, rfl⟩
      · refine x_aload0 dX10_sets_78 ?_
        refine x_iconst (nI 1) dX10_sets_79 (by decide) ?_
        refine x_iload1 dX10_sets_80 ?_
        refine n_isub dX10_sets_81 (by omega) ?_
        refine x_iconst (nI 0) dX10_sets_82 (by decide) ?_
        refine x_iload5 dX10_sets_83 ?_
        refine x_iload5 dX10_sets_85 ?_
        refine x_aload0 dX10_sets_87 ?_
        refine gm0 fgX10_9 dX10_sets_88 ?_
        refine x_bipush (nI 80) dX10_sets_91 (by decide) ?_
        refine x_iload1 dX10_sets_93 ?_
        refine n_imul dX10_sets_94 ?_
        refine x_iload2 dX10_sets_95 ?_
        refine n_iadd dX10_sets_96 ?_
        refine lm0 ((80 * B) + I) rfl (by omega) dX10_sets_97 ?_
        refine xV.toi (m.1 0 (80 * B + I)) (by rw [hC.2 0 (by decide) (by decide) (by decide) (by decide)]; rfl) ?_
        refine x_i2l dX10_sets_98 ?_
        refine x_iload4 dX10_sets_99 ?_
        refine x_callV6v mvX10_204 (k_choose G x (st0 m B I) hL ⟨⟨by rw [s1]; rfl, by omega⟩, by rw [s2]; rfl, by omega⟩ (1 - B) k (by omega) (by omega) e k 0 (m.1 0 (80 * B + I)).toInt64 (stL m B I e (k - 1)) (Nat.le_refl _) (by omega) hC hS) mb_lt0 (hp_m0 _ _) (xRoom.le (l := 5) (by decide) (by omega)) (Nat.le_of_ble_eq_true rfl) dX10_sets_101 (fun n_ h_ hq => ?_)
        obtain ⟨rfl, rfl⟩ := hq
        refine x_iinc5 (nI (k + 1)) dX10_sets_104 (nI_add k 1) rfl rfl rfl ?_
        refine x_goto 72 dX10_sets_107 (by decide) ?_
        subst en
        exact ih (n + 1 + 1) (by omega) (by omega) (by omega)
  refine xK.ofV (by decide) (Nat.le_of_ble_eq_true rfl) ?_
  refine xV.lveq (L' := [some (.ref MB), some (.int b), some (.int i), some (.int z), some (.int e), none]) rfl ?_
  refine x_aload0 dX10_sets_0 ?_
  refine x_iload1 dX10_sets_1 ?_
  refine x_iload2 dX10_sets_2 ?_
  refine x_callV2i mvX10_150 (k_isLine G x m hL b i) mb_lt0 (hp_m0 _ _) (xRoom.of rfl) (Nat.le_of_ble_eq_true rfl) dX10_sets_3 (fun r_ n_ h_ hq => ?_)
  obtain ⟨rfl, rfl, rfl⟩ := hq
  refine b_if_eq 30 dX10_sets_6 (by decide) (fun c6 => ?_) (fun c6 => ?_)
  · refine x_iconst (-1) dX10_sets_30 (by decide) ?_
    refine x_iret dX10_sets_31 rfl ?_ (Nat.zero_le _) (Nat.zero_le _)
    refine ⟨rfl, m, rfl, ?_⟩
    unfold setsR
    rw [if_neg (by intro q; first | exact c6 q.1 | exact c15 q.2.1 | exact c27 q.2.2)]
    exact ⟨rfl, rfl⟩
  · refine x_iload3 dX10_sets_9 ?_
    refine x_iconst (nI 1) dX10_sets_10 (by decide) ?_
    refine x_iconst (nI 4) dX10_sets_11 (by decide) ?_
    refine x_callS3i msX10_116 (k_within G z (nI 1) (nI 4)) (xRoom.of rfl) (Nat.le_of_ble_eq_true rfl) dX10_sets_12 (fun r_ n_ h_ hq => ?_)
    obtain ⟨rfl, rfl, rfl⟩ := hq
    refine b_if_eq 30 dX10_sets_15 (by decide) (fun c15 => ?_) (fun c15 => ?_)
    · refine x_iconst (-1) dX10_sets_30 (by decide) ?_
      refine x_iret dX10_sets_31 rfl ?_ (Nat.zero_le _) (Nat.zero_le _)
      refine ⟨rfl, m, rfl, ?_⟩
      unfold setsR
      rw [if_neg (by intro q; first | exact c6 q.1 | exact c15 q.2.1 | exact c27 q.2.2)]
      exact ⟨rfl, rfl⟩
    · refine x_iload4 dX10_sets_18 ?_
      refine x_iconst (nI 0) dX10_sets_20 (by decide) ?_
      refine x_sipush (nI 10000) dX10_sets_21 (by decide) ?_
      refine x_callS3i msX10_116 (k_within G e (nI 0) (nI 10000)) (xRoom.of rfl) (Nat.le_of_ble_eq_true rfl) dX10_sets_24 (fun r_ n_ h_ hq => ?_)
      obtain ⟨rfl, rfl, rfl⟩ := hq
      refine b_if_ne 32 dX10_sets_27 (by decide) (fun c27 => ?_) (fun c27 => ?_)
      · have hok : okSt m b i z e := ⟨c6, c15, c27⟩
        obtain ⟨B, I, hB, rfl, hI, rfl⟩ := isLn_nat hL c6
        obtain ⟨Z, hZ, rfl⟩ := w_nat (v := z) (n := 4) ⟨Int32.le_trans (by decide) c15.1, c15.2⟩ (by decide)
        have l0 := (hL B hB).2
        have eB : nv (nI B) = B := nv_nI (by omega)
        have eI : nv (nI I) = I := nv_nI (by omega)
        have eZ : nv (nI Z) = Z := nv_nI (by omega)
        refine x_aload0 dX10_sets_32 ?_
        refine gm5 fgX10_25 dX10_sets_33 ?_
        refine x_bipush (nI 80) dX10_sets_36 (by decide) ?_
        refine x_iload1 dX10_sets_38 ?_
        refine n_imul dX10_sets_39 ?_
        refine x_iload2 dX10_sets_40 ?_
        refine n_iadd dX10_sets_41 ?_
        refine lm5 ((80 * B) + I) rfl (by omega) dX10_sets_42 ?_
        refine x_if_lt 49 dX10_sets_43 (by decide) (fun c43 => ?_) (fun c43 => ?_)
        · refine x_aload0 dX10_sets_49 ?_
          refine x_iconst (nI 0) dX10_sets_50 (by decide) ?_
          refine pm35 fpX10_195 dX10_sets_51 ?_
          refine x_aload0 dX10_sets_54 ?_
          refine x_iload1 dX10_sets_55 ?_
          refine pm31 fpX10_198 dX10_sets_56 ?_
          refine x_aload0 dX10_sets_59 ?_
          refine x_iload2 dX10_sets_60 ?_
          refine pm32 fpX10_201 dX10_sets_61 ?_
          refine x_aload0 dX10_sets_64 ?_
          refine x_iconst (nI 1) dX10_sets_65 (by decide) ?_
          refine pm30 fpX10_127 dX10_sets_66 (Or.inr nI1) ?_
          refine x_iconst (nI 1) dX10_sets_69 (by decide) ?_
          refine x_istore5 dX10_sets_70 rfl rfl rfl ?_
          exact lp B I Z rfl rfl rfl hB hI hZ hok c43 (Z + 2) 1 (by omega) (by omega) (by omega)
        · refine x_bipush (-2) dX10_sets_46 (by decide) ?_
          refine x_iret dX10_sets_48 rfl ?_ (Nat.zero_le _) (Nat.zero_le _)
          refine ⟨rfl, m, rfl, ?_⟩
          unfold setsR
          rw [if_pos hok, eB, eI, if_neg c43]
          exact ⟨rfl, rfl⟩
      · refine x_iconst (-1) dX10_sets_30 (by decide) ?_
        refine x_iret dX10_sets_31 rfl ?_ (Nat.zero_le _) (Nat.zero_le _)
        refine ⟨rfl, m, rfl, ?_⟩
        unfold setsR
        rw [if_neg (by intro q; first | exact c6 q.1 | exact c15 q.2.1 | exact c27 q.2.2)]
        exact ⟨rfl, rfl⟩
