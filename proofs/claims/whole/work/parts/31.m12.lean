/-! ===== the model's methods, 12: set ===== -/
/-- n lines more in group g -/
def addL (m : mS) (g : Nat) (a : Nat → Nat) : Nat → mS
  | 0 => m
  | j + 1 => adM (addL m g a j) g (a j)
theorem adM_ne {m : mS} {g a j : Nat} (h1 : j ≠ 11) (h2 : j ≠ 12) (h3 : j ≠ 5) : (adM m g a).1 j = m.1 j := by
  unfold adM
  rw [mset_ne h3, mset_ne h2, mset_ne h1]
theorem addL_ne {m : mS} {g : Nat} {a : Nat → Nat} {j : Nat} (h1 : j ≠ 11) (h2 : j ≠ 12) (h3 : j ≠ 5) : ∀ n, (addL m g a n).1 j = m.1 j
  | 0 => rfl
  | n + 1 => by
    show (adM (addL m g a n) g (a n)).1 j = _
    rw [adM_ne h1 h2 h3]
    exact addL_ne h1 h2 h3 n
theorem addL_m {m : mS} {g : Nat} {a : Nat → Nat} {c : Nat} (h : m.1 12 g = nI c) (hc : c < 50) : ∀ n, n ≤ 8 → (addL m g a n).1 12 g = nI (c + n) ∧ nM (addL m g a n) g = c + n
  | 0, _ => ⟨h, by show nv (m.1 12 g) = _; rw [h]; exact nv_nI (by omega)⟩
  | n + 1, hn => by
    obtain ⟨h1, h2⟩ := addL_m (a := a) h hc n (by omega)
    obtain ⟨h3, h4⟩ := ad_m (addL m g a n) g (a n) (by omega)
    rw [h2] at h3 h4
    exact ⟨h3, h4⟩
def sBk (m : mS) : Nat := nv (m.1 31 0)
def sLn (m : mS) : Nat := nv (m.1 32 0)
def stIn (m : mS) (k j : Nat) : Nat := nv (m.1 34 (4 * k + j))
/-- what the sets found tell of lines -/
def iSt (m : mS) : Prop := (m.1 31 0 = nI (sBk m) ∧ sBk m < 2) ∧ (m.1 32 0 = nI (sLn m) ∧ sLn m < 80) ∧ ∀ k, k < nS m → ∀ j, j < nv (m.1 33 k) → m.1 34 (4 * k + j) = nI (stIn m k j) ∧ stIn m k j < 80
def stM (m : mS) (k : Nat) : mS := addL (adM (ngM m (nI 1)) (nG m) (80 * sBk m + sLn m)) (nG m) (fun j => 80 * (1 - sBk m) + stIn m k j) (nv (m.1 33 k))
def setR (m : mS) (k r : Int32) (m' : mS) : Prop := if ¬ m.1 30 0 = 0 ∧ isSt m k then (if nG m = 200 then r = -5 ∧ m' = m else r = nI (nG m) ∧ didR (stM m (nv k)) (nI 1) (nI (nG m)) (nI 0) m') else r = -1 ∧ m' = m

set_option maxHeartbeats 4000000 in
theorem k_set (G : vx_G) (x : vx_H) (m : mS) (hG : iG m) (hA : iA m) (hS : iS m) (hs : iSs m) (ht : iSt m) (k : Int32) : xK G M_X10_set 1 [(.ref MB), (.int k)] NT (hp x m) 0 0 (QI (fun r n' h' => n' = NT ∧ ∃ m', h' = hp x m' ∧ setR m k r m')) := by
  have hG2 := hG.2
  have lp : ∀ (K : Nat), (k = nI K) → (K < nS m) → (¬ m.1 30 0 = 0 ∧ isSt m k) → (nG m ≠ 200) → ∀ (n_ : Nat) (j : Nat), j ≤ nv (m.1 33 K) → nv (m.1 33 K) + 1 ≤ j + n_ → xV (mF G M_X10_set 1 0 0 (QI (fun r n' h' => n' = NT ∧ ∃ m', h' = hp x m' ∧ setR m k r m'))) 59 [some (.ref MB), some (.int (nI (K))), some (.int (nI (nG m))), some (.int (nI (j)))] [] NT (hp x (addL (adM (ngM m (nI 1)) (nG m) (80 * sBk m + sLn m)) (nG m) (fun j => 80 * (1 - sBk m) + stIn m K j) j)) 0 0 := by
    intro K ek hK hc c28
    subst ek
    have h5 := hS.2
    have eK : nv (nI K) = K := nv_nI (by omega)
    obtain ⟨e3, l3⟩ := hs K hK
    obtain ⟨⟨t1, t2⟩, ⟨t3, t4⟩, t5⟩ := ht
    have hg2 : nG m < 200 := by omega
    obtain ⟨q1, q2⟩ := ng_m m (nI 1)
    obtain ⟨q3, q4⟩ := ad_m (ngM m (nI 1)) (nG m) (80 * sBk m + sLn m) (by omega)
    intro n_
    induction n_ with
    | zero => intro j hi_ hn_; omega
    | succ n_ ih =>
      intro j hi_ hn_ 
      obtain ⟨q5, q6⟩ := addL_m (a := fun j => 80 * (1 - sBk m) + stIn m K j) q3 (by omega) j (by omega)
      refine x_iload3 dX10_set_59 ?_
      refine x_aload0 dX10_set_60 ?_
      refine gm33 fgX10_82 dX10_set_61 ?_
      refine x_iload1 dX10_set_64 ?_
      refine lm33 (K) rfl (by omega) dX10_set_65 ?_
      refine xV.toi (nI (nv (m.1 33 K))) (by rw [addL_ne (by decide) (by decide) (by decide), adM_ne (by decide) (by decide) (by decide)]; exact e3) ?_
      refine n_icmp_ge 100 dX10_set_66 (by decide) (by omega) (by omega) (fun c66 => ?_) (fun c66 => ?_)
      · have ej : j = nv (m.1 33 K) := by omega
        subst ej
        refine x_aload0 dX10_set_100 ?_
        refine x_iconst (nI 1) dX10_set_101 (by decide) ?_
        refine x_iload2 dX10_set_102 ?_
        refine x_iconst (nI 0) dX10_set_103 (by decide) ?_
        refine x_callV3v mvX10_139 (k_did G x (stM m K) (iA_of (m := m) (by unfold stM; rw [addL_ne (by decide) (by decide) (by decide), adM_ne (by decide) (by decide) (by decide)]; rfl) hA) (nI 1) (nI (nG m)) (nI 0)) mb_lt0 (hp_m0 _ _) (xRoom.of rfl) (Nat.le_of_ble_eq_true rfl) dX10_set_104 (fun n_ h_ hq => ?_)
        obtain ⟨rfl, m2, rfl, hR⟩ := hq
        refine x_iload2 dX10_set_107 ?_
        refine x_iret dX10_set_108 rfl ?_ (Nat.zero_le _) (Nat.zero_le _)
        refine ⟨rfl, m2, rfl, ?_⟩
        unfold setR
        rw [if_pos hc, if_neg c28, eK]
        exact ⟨rfl, hR⟩
      · obtain ⟨e5, l5⟩ := t5 K hK j (by omega)
        refine x_aload0 dX10_set_69 ?_
        refine x_iload2 dX10_set_70 ?_
        refine x_bipush (nI 80) dX10_set_71 (by decide) ?_
        refine x_iconst (nI 1) dX10_set_73 (by decide) ?_
        refine x_aload0 dX10_set_74 ?_
        refine gm31 fgX10_198 dX10_set_75 ?_
        refine xV.toi (nI (sBk m)) (by rw [addL_ne (by decide) (by decide) (by decide), adM_ne (by decide) (by decide) (by decide)]; exact t1) ?_
        refine n_isub dX10_set_78 (by omega) ?_
        refine n_imul dX10_set_79 ?_
        refine x_aload0 dX10_set_80 ?_
        refine gm34 fgX10_85 dX10_set_81 ?_
        refine x_iconst (nI 4) dX10_set_84 (by decide) ?_
        refine x_iload1 dX10_set_85 ?_
        refine n_imul dX10_set_86 ?_
        refine x_iload3 dX10_set_87 ?_
        refine n_iadd dX10_set_88 ?_
        refine lm34 ((4 * K) + j) rfl (by omega) dX10_set_89 ?_
        refine xV.toi (nI (stIn m K j)) (by rw [addL_ne (by decide) (by decide) (by decide), adM_ne (by decide) (by decide) (by decide)]; exact e5) ?_
        refine n_iadd dX10_set_90 ?_
        refine x_callV2v mvX10_191 (k_add G x _ (nG m) (80 * (1 - sBk m) + stIn m K j) hg2 (by omega) (by rw [q6]; exact q5) (by omega)) mb_lt0 (hp_m0 _ _) (xRoom.of rfl) (Nat.le_of_ble_eq_true rfl) dX10_set_91 (fun n_ h_ hq => ?_)
        obtain ⟨rfl, rfl⟩ := hq
        refine x_iinc3 (nI (j + 1)) dX10_set_94 (nI_add j 1) rfl rfl rfl ?_
        refine x_goto 59 dX10_set_97 (by decide) ?_
        exact ih (j + 1) (by omega) (by omega)
  refine xK.ofV (by decide) (Nat.le_of_ble_eq_true rfl) ?_
  refine xV.lveq (L' := [some (.ref MB), some (.int k), none, none]) rfl ?_
  refine x_aload0 dX10_set_0 ?_
  refine gm30 fgX10_127 dX10_set_1 ?_
  refine x_if_eq 19 dX10_set_4 (by decide) (fun c4 => ?_) (fun c4 => ?_)
  · refine x_iconst (-1) dX10_set_19 (by decide) ?_
    refine x_iret dX10_set_20 rfl ?_ (Nat.zero_le _) (Nat.zero_le _)
    refine ⟨rfl, m, rfl, ?_⟩
    unfold setR
    rw [if_neg (by intro q; first | exact q.1 c4 | exact absurd q.2.1 (iNE.mpr c8) | exact c16 q.2.2)]
    exact ⟨rfl, rfl⟩
  · refine x_iload1 dX10_set_7 ?_
    refine x_if_lt 19 dX10_set_8 (by decide) (fun c8 => ?_) (fun c8 => ?_)
    · refine x_iconst (-1) dX10_set_19 (by decide) ?_
      refine x_iret dX10_set_20 rfl ?_ (Nat.zero_le _) (Nat.zero_le _)
      refine ⟨rfl, m, rfl, ?_⟩
      unfold setR
      rw [if_neg (by intro q; first | exact q.1 c4 | exact absurd q.2.1 (iNE.mpr c8) | exact c16 q.2.2)]
      exact ⟨rfl, rfl⟩
    · refine x_iload1 dX10_set_11 ?_
      refine x_aload0 dX10_set_12 ?_
      refine gm35 fgX10_195 dX10_set_13 ?_
      refine x_icmp_lt 21 dX10_set_16 (by decide) (fun c16 => ?_) (fun c16 => ?_)
      · have hst : isSt m k := ⟨iNL.mp c8, c16⟩
        have hc : ¬ m.1 30 0 = 0 ∧ isSt m k := ⟨c4, hst⟩
        obtain ⟨K, hK, rfl⟩ := isSt_nat hS hst
        have h5 := hS.2
        have eK : nv (nI K) = K := nv_nI (by omega)
        obtain ⟨e3, l3⟩ := hs K hK
        obtain ⟨⟨t1, t2⟩, ⟨t3, t4⟩, t5⟩ := ht
        refine x_aload0 dX10_set_21 ?_
        refine gm16 fgX10_120 dX10_set_22 ?_
        refine xV.toi (nI (nG m)) (hG.1) ?_
        refine x_sipush (nI 200) dX10_set_25 (by decide) ?_
        refine n_icmp_ne 34 dX10_set_28 (by decide) (by omega) (by omega) (fun c28 => ?_) (fun c28 => ?_)
        · have hg2 : nG m < 200 := by omega
          obtain ⟨q1, q2⟩ := ng_m m (nI 1)
          obtain ⟨q3, q4⟩ := ad_m (ngM m (nI 1)) (nG m) (80 * sBk m + sLn m) (by omega)
          refine x_aload0 dX10_set_34 ?_
          refine x_iconst (nI 1) dX10_set_35 (by decide) ?_
          refine x_callV1i mvX10_188 (k_newGroup G x m hG hg2 (nI 1)) mb_lt0 (hp_m0 _ _) (xRoom.of rfl) (Nat.le_of_ble_eq_true rfl) dX10_set_36 (fun r_ n_ h_ hq => ?_)
          obtain ⟨rfl, rfl, rfl⟩ := hq
          refine x_istore2 dX10_set_39 rfl rfl rfl ?_
          refine x_aload0 dX10_set_40 ?_
          refine x_iload2 dX10_set_41 ?_
          refine x_bipush (nI 80) dX10_set_42 (by decide) ?_
          refine x_aload0 dX10_set_44 ?_
          refine gm31 fgX10_198 dX10_set_45 ?_
          refine xV.toi (nI (sBk m)) (t1) ?_
          refine n_imul dX10_set_48 ?_
          refine x_aload0 dX10_set_49 ?_
          refine gm32 fgX10_201 dX10_set_50 ?_
          refine xV.toi (nI (sLn m)) (t3) ?_
          refine n_iadd dX10_set_53 ?_
          refine x_callV2v mvX10_191 (k_add G x (ngM m (nI 1)) (nG m) (80 * sBk m + sLn m) hg2 (by omega) (by rw [q2]; exact q1) (by omega)) mb_lt0 (hp_m0 _ _) (xRoom.of rfl) (Nat.le_of_ble_eq_true rfl) dX10_set_54 (fun n_ h_ hq => ?_)
          obtain ⟨rfl, rfl⟩ := hq
          refine x_iconst (nI 0) dX10_set_57 (by decide) ?_
          refine x_istore3 dX10_set_58 rfl rfl rfl ?_
          exact lp K rfl hK hc c28 (nv (m.1 33 K) + 1) 0 (Nat.zero_le _) (by omega)
        · refine x_bipush (-5) dX10_set_31 (by decide) ?_
          refine x_iret dX10_set_33 rfl ?_ (Nat.zero_le _) (Nat.zero_le _)
          refine ⟨rfl, m, rfl, ?_⟩
          unfold setR
          rw [if_pos hc, if_pos c28]
          exact ⟨rfl, rfl⟩
      · refine x_iconst (-1) dX10_set_19 (by decide) ?_
        refine x_iret dX10_set_20 rfl ?_ (Nat.zero_le _) (Nat.zero_le _)
        refine ⟨rfl, m, rfl, ?_⟩
        unfold setR
        rw [if_neg (by intro q; first | exact q.1 c4 | exact absurd q.2.1 (iNE.mpr c8) | exact c16 q.2.2)]
        exact ⟨rfl, rfl⟩
