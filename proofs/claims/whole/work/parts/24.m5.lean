/-! ===== the model's methods, 5: group, lock, part, hand, join ===== -/
def grV (m : mS) (g : Nat) (w : Int32) : Int32 := if w = 0 then m.1 10 g else if w = 1 then m.1 12 g else if w = 2 then (zL (gDf m g)).toInt32 else if w = 3 then m.1 13 g else if w = 4 then m.1 14 g else if w = 5 then (if m.1 15 g = 0 then nI 0 else nI 1) else -20000000
abbrev isMd (m : mS) (g : Int32) : Prop := nI 0 ≤ g ∧ g < m.1 16 0
def iMs (m : mS) : Prop := ∀ g, g < nG m → iMb m g
/-- amounts of the lines that groups hold -/
def iGa (m : mS) : Prop := ∀ g, g < nG m → ∀ k, k < nM m g → (m.1 0 (mb m g k)).toInt ≠ -2147483648
theorem isMd_nat {m : mS} (hG : iG m) {g : Int32} (h : isMd m g) : ∃ k : Nat, k < nG m ∧ g = nI k := by
  obtain ⟨h1, h2⟩ := h
  rw [hG.1] at h2
  have := hG.2
  obtain ⟨I, hI, rfl⟩ := w_nat (n := nG m) ⟨h1, Int32.le_of_lt h2⟩ (by omega)
  exact ⟨I, (nI_ltI (by omega) (by omega)).mp h2, rfl⟩

set_option maxHeartbeats 4000000 in
theorem k_group (G : vx_G) (x : vx_H) (m : mS) (hG : iG m) (hM : iMs m) (hV : iGa m) (g w : Int32) : xK G M_X10_group 1 [(.ref MB), (.int g), (.int w)] NT (hp x m) 0 0 (QI (fun r n' h' => r = (if isMd m g then grV m (nv g) w else -20000000) ∧ n' = NT ∧ h' = hp x m)) := by
  have hG2 := hG.2
  refine xK.ofV (by decide) (Nat.le_of_ble_eq_true rfl) ?_
  refine xV.lveq (L' := [some (.ref MB), some (.int g), some (.int w)]) rfl ?_
  refine x_iload1 dX10_group_0 ?_
  refine x_if_lt 12 dX10_group_1 (by decide) (fun c1 => ?_) (fun c1 => ?_)
  · refine x_ldc kcX10_212 dX10_group_12 ?_
    refine x_iret dX10_group_14 rfl ?_ (Nat.zero_le _) (Nat.zero_le _)
    first | exact ⟨(if_neg (fun q => c9 q.2)).symm, rfl, rfl⟩ | exact ⟨(if_neg (fun q => absurd q.1 (iNE.mpr c1))).symm, rfl, rfl⟩
  · refine x_iload1 dX10_group_4 ?_
    refine x_aload0 dX10_group_5 ?_
    refine gm16 fgX10_120 dX10_group_6 ?_
    refine x_icmp_lt 15 dX10_group_9 (by decide) (fun c9 => ?_) (fun c9 => ?_)
    · have hmd : isMd m g := ⟨iNL.mp c1, c9⟩
      obtain ⟨K, hK, rfl⟩ := isMd_nat hG hmd
      have eK : nv (nI K) = K := nv_nI (by omega)
      refine x_iload2 dX10_group_15 ?_
      by_cases cs0 : w = 0
      · refine x_tableIn 56 dX10_group_16 (by rw [cs0]; decide) (by rw [cs0]; decide) (off := 40) (by rw [cs0]; decide) (by decide) ?_
        refine x_aload0 dX10_group_56 ?_
        refine gm10 fgX10_35 dX10_group_57 ?_
        refine x_iload1 dX10_group_60 ?_
        refine lm10 (K) rfl (by omega) dX10_group_61 ?_
        refine x_iret dX10_group_62 rfl ?_ (Nat.zero_le _) (Nat.zero_le _)
        refine ⟨?_, rfl, rfl⟩
        rw [if_pos hmd, eK]
        unfold grV
        simp [*]
      by_cases cs1 : w = 1
      · refine x_tableIn 63 dX10_group_16 (by rw [cs1]; decide) (by rw [cs1]; decide) (off := 47) (by rw [cs1]; decide) (by decide) ?_
        refine x_aload0 dX10_group_63 ?_
        refine gm12 fgX10_41 dX10_group_64 ?_
        refine x_iload1 dX10_group_67 ?_
        refine lm12 (K) rfl (by omega) dX10_group_68 ?_
        refine x_iret dX10_group_69 rfl ?_ (Nat.zero_le _) (Nat.zero_le _)
        refine ⟨?_, rfl, rfl⟩
        rw [if_pos hmd, eK]
        unfold grV
        simp [*]
      by_cases cs2 : w = 2
      · refine x_tableIn 70 dX10_group_16 (by rw [cs2]; decide) (by rw [cs2]; decide) (off := 54) (by rw [cs2]; decide) (by decide) ?_
        refine x_aload0 dX10_group_70 ?_
        refine x_iload1 dX10_group_71 ?_
        refine x_callV1l mvX10_213 (k_differenceOf G x m K (by omega) (hM K hK) (hV K hK)) mb_lt0 (hp_m0 _ _) (xRoom.of rfl) (by decide) dX10_group_72 (fun r_ n_ h_ hq => ?_)
        obtain ⟨rfl, rfl, rfl⟩ := hq
        refine x_l2i dX10_group_75 ?_
        refine x_iret dX10_group_76 rfl ?_ (Nat.zero_le _) (Nat.zero_le _)
        refine ⟨?_, rfl, rfl⟩
        rw [if_pos hmd, eK]
        unfold grV
        simp [*]
      by_cases cs3 : w = 3
      · refine x_tableIn 77 dX10_group_16 (by rw [cs3]; decide) (by rw [cs3]; decide) (off := 61) (by rw [cs3]; decide) (by decide) ?_
        refine x_aload0 dX10_group_77 ?_
        refine gm13 fgX10_44 dX10_group_78 ?_
        refine x_iload1 dX10_group_81 ?_
        refine lm13 (K) rfl (by omega) dX10_group_82 ?_
        refine x_iret dX10_group_83 rfl ?_ (Nat.zero_le _) (Nat.zero_le _)
        refine ⟨?_, rfl, rfl⟩
        rw [if_pos hmd, eK]
        unfold grV
        simp [*]
      by_cases cs4 : w = 4
      · refine x_tableIn 84 dX10_group_16 (by rw [cs4]; decide) (by rw [cs4]; decide) (off := 68) (by rw [cs4]; decide) (by decide) ?_
        refine x_aload0 dX10_group_84 ?_
        refine gm14 fgX10_47 dX10_group_85 ?_
        refine x_iload1 dX10_group_88 ?_
        refine lm14 (K) rfl (by omega) dX10_group_89 ?_
        refine x_iret dX10_group_90 rfl ?_ (Nat.zero_le _) (Nat.zero_le _)
        refine ⟨?_, rfl, rfl⟩
        rw [if_pos hmd, eK]
        unfold grV
        simp [*]
      by_cases cs5 : w = 5
      · refine x_tableIn 91 dX10_group_16 (by rw [cs5]; decide) (by rw [cs5]; decide) (off := 75) (by rw [cs5]; decide) (by decide) ?_
        refine x_aload0 dX10_group_91 ?_
        refine gm15 fgX10_50 dX10_group_92 ?_
        refine x_iload1 dX10_group_95 ?_
        refine lm15 (K) rfl (by omega) dX10_group_96 ?_
        refine x_if_eq 104 dX10_group_97 (by decide) (fun c97 => ?_) (fun c97 => ?_)
        · refine x_iconst (nI 0) dX10_group_104 (by decide) ?_
          refine x_iret dX10_group_105 rfl ?_ (Nat.zero_le _) (Nat.zero_le _)
          refine ⟨?_, rfl, rfl⟩
          rw [if_pos hmd, eK]
          unfold grV
          simp [*]
        · refine x_iconst (nI 1) dX10_group_100 (by decide) ?_
          refine x_goto 105 dX10_group_101 (by decide) ?_
          refine x_iret dX10_group_105 rfl ?_ (Nat.zero_le _) (Nat.zero_le _)
          refine ⟨?_, rfl, rfl⟩
          rw [if_pos hmd, eK]
          unfold grV
          simp [*]
      refine x_tableOut 106 dX10_group_16 (sw_out 6 (by decide) (fun k hk => by rcases (show k = 0 ∨ k = 1 ∨ k = 2 ∨ k = 3 ∨ k = 4 ∨ k = 5 by omega) with rfl | rfl | rfl | rfl | rfl | rfl <;> assumption)) (by decide) ?_
      refine x_ldc kcX10_212 dX10_group_106 ?_
      refine x_iret dX10_group_108 rfl ?_ (Nat.zero_le _) (Nat.zero_le _)
      refine ⟨?_, rfl, rfl⟩
      rw [if_pos hmd, eK]
      unfold grV
      simp [*]
    · refine x_ldc kcX10_212 dX10_group_12 ?_
      refine x_iret dX10_group_14 rfl ?_ (Nat.zero_le _) (Nat.zero_le _)
      first | exact ⟨(if_neg (fun q => c9 q.2)).symm, rfl, rfl⟩ | exact ⟨(if_neg (fun q => absurd q.1 (iNE.mpr c1))).symm, rfl, rfl⟩

def lockR (m : mS) (g s r : Int32) (m' : mS) : Prop := if isGr m g ∧ nI 0 ≤ s ∧ s ≤ nI 1 then r = (if m.1 15 (nv g) = 0 then nI 0 else nI 1) ∧ didR (mset m 15 (nv g) (if s = nI 1 then nI 1 else nI 0)) (nI 4) g r m' else r = -1 ∧ m' = m

set_option maxHeartbeats 4000000 in
theorem k_lock (G : vx_G) (x : vx_H) (m : mS) (hG : iG m) (hA : iA m) (g s : Int32) : xK G M_X10_lock 1 [(.ref MB), (.int g), (.int s)] NT (hp x m) 0 0 (QI (fun r n' h' => n' = NT ∧ ∃ m', h' = hp x m' ∧ lockR m g s r m')) := by
  have hG2 := hG.2
  refine xK.ofV (by decide) (Nat.le_of_ble_eq_true rfl) ?_
  refine xV.lveq (L' := [some (.ref MB), some (.int g), some (.int s), none]) rfl ?_
  refine x_aload0 dX10_lock_0 ?_
  refine x_iload1 dX10_lock_1 ?_
  refine x_callV1i mvX10_208 (k_isThere G x m hG g) mb_lt0 (hp_m0 _ _) (xRoom.of rfl) (by decide) dX10_lock_2 (fun r_ n_ h_ hq => ?_)
  obtain ⟨rfl, rfl, rfl⟩ := hq
  refine b_if_eq 17 dX10_lock_5 (by decide) (fun c5 => ?_) (fun c5 => ?_)
  · refine x_iconst (-1) dX10_lock_17 (by decide) ?_
    refine x_iret dX10_lock_18 rfl ?_ (Nat.zero_le _) (Nat.zero_le _)
    refine ⟨rfl, m, rfl, ?_⟩
    unfold lockR
    rw [if_neg (by intro q; first | exact c5 q.1 | exact c14 q.2)]
    exact ⟨rfl, rfl⟩
  · refine x_iload2 dX10_lock_8 ?_
    refine x_iconst (nI 0) dX10_lock_9 (by decide) ?_
    refine x_iconst (nI 1) dX10_lock_10 (by decide) ?_
    refine x_callS3i msX10_116 (k_within G s (nI 0) (nI 1)) (xRoom.of rfl) (by decide) dX10_lock_11 (fun r_ n_ h_ hq => ?_)
    obtain ⟨rfl, rfl, rfl⟩ := hq
    refine b_if_ne 19 dX10_lock_14 (by decide) (fun c14 => ?_) (fun c14 => ?_)
    · have hc : isGr m g ∧ nI 0 ≤ s ∧ s ≤ nI 1 := ⟨c5, c14⟩
      obtain ⟨K, hK, rfl, hp0⟩ := isGr_nat hG c5
      have eK : nv (nI K) = K := nv_nI (by omega)
      refine x_aload0 dX10_lock_19 ?_
      refine gm15 fgX10_50 dX10_lock_20 ?_
      refine x_iload1 dX10_lock_23 ?_
      refine lm15 (K) rfl (by omega) dX10_lock_24 ?_
      refine x_if_eq 32 dX10_lock_25 (by decide) (fun c25 => ?_) (fun c25 => ?_)
      · have e15 : (if m.1 15 K = 0 then nI 0 else nI 1) = nI 0 := if_pos c25
        refine x_iconst (nI 0) dX10_lock_32 (by decide) ?_
        refine x_istore3 dX10_lock_33 rfl rfl rfl ?_
        refine x_aload0 dX10_lock_34 ?_
        refine gm15 fgX10_50 dX10_lock_35 ?_
        refine x_iload1 dX10_lock_38 ?_
        refine x_iload2 dX10_lock_39 ?_
        refine x_iconst (nI 1) dX10_lock_40 (by decide) ?_
        refine x_icmp_ne 48 dX10_lock_41 (by decide) (fun c41 => ?_) (fun c41 => ?_)
        · have e1 : (if s = nI 1 then nI 1 else nI 0) = nI 0 := if_neg c41
          refine x_iconst (nI 0) dX10_lock_48 (by decide) ?_
          refine sm15 (K) rfl (by omega) (by first | exact Or.inl nI_0 | exact Or.inr nI1 | exact bI_01 _) dX10_lock_49 ?_
          refine x_aload0 dX10_lock_50 ?_
          refine x_iconst (nI 4) dX10_lock_51 (by decide) ?_
          refine x_iload1 dX10_lock_52 ?_
          refine x_iload3 dX10_lock_53 ?_
          refine x_callV3v mvX10_139 (k_did G x _ (by exact hA) (nI 4) (nI K) (nI 0)) mb_lt0 (hp_m0 _ _) (xRoom.of rfl) (by decide) dX10_lock_54 (fun n_ h_ hq => ?_)
          obtain ⟨rfl, m2, rfl, hR⟩ := hq
          refine x_iload3 dX10_lock_57 ?_
          refine x_iret dX10_lock_58 rfl ?_ (Nat.zero_le _) (Nat.zero_le _)
          refine ⟨rfl, m2, rfl, ?_⟩
          unfold lockR
          rw [if_pos hc, eK, e1, e15]
          exact ⟨rfl, hR⟩
        · have e1 : (if s = nI 1 then nI 1 else nI 0) = nI 1 := if_pos c41
          refine x_iconst (nI 1) dX10_lock_44 (by decide) ?_
          refine x_goto 49 dX10_lock_45 (by decide) ?_
          refine sm15 (K) rfl (by omega) (by first | exact Or.inl nI_0 | exact Or.inr nI1 | exact bI_01 _) dX10_lock_49 ?_
          refine x_aload0 dX10_lock_50 ?_
          refine x_iconst (nI 4) dX10_lock_51 (by decide) ?_
          refine x_iload1 dX10_lock_52 ?_
          refine x_iload3 dX10_lock_53 ?_
          refine x_callV3v mvX10_139 (k_did G x _ (by exact hA) (nI 4) (nI K) (nI 0)) mb_lt0 (hp_m0 _ _) (xRoom.of rfl) (by decide) dX10_lock_54 (fun n_ h_ hq => ?_)
          obtain ⟨rfl, m2, rfl, hR⟩ := hq
          refine x_iload3 dX10_lock_57 ?_
          refine x_iret dX10_lock_58 rfl ?_ (Nat.zero_le _) (Nat.zero_le _)
          refine ⟨rfl, m2, rfl, ?_⟩
          unfold lockR
          rw [if_pos hc, eK, e1, e15]
          exact ⟨rfl, hR⟩
      · have e15 : (if m.1 15 K = 0 then nI 0 else nI 1) = nI 1 := if_neg c25
        refine x_iconst (nI 1) dX10_lock_28 (by decide) ?_
        refine x_goto 33 dX10_lock_29 (by decide) ?_
        refine x_istore3 dX10_lock_33 rfl rfl rfl ?_
        refine x_aload0 dX10_lock_34 ?_
        refine gm15 fgX10_50 dX10_lock_35 ?_
        refine x_iload1 dX10_lock_38 ?_
        refine x_iload2 dX10_lock_39 ?_
        refine x_iconst (nI 1) dX10_lock_40 (by decide) ?_
        refine x_icmp_ne 48 dX10_lock_41 (by decide) (fun c41 => ?_) (fun c41 => ?_)
        · have e1 : (if s = nI 1 then nI 1 else nI 0) = nI 0 := if_neg c41
          refine x_iconst (nI 0) dX10_lock_48 (by decide) ?_
          refine sm15 (K) rfl (by omega) (by first | exact Or.inl nI_0 | exact Or.inr nI1 | exact bI_01 _) dX10_lock_49 ?_
          refine x_aload0 dX10_lock_50 ?_
          refine x_iconst (nI 4) dX10_lock_51 (by decide) ?_
          refine x_iload1 dX10_lock_52 ?_
          refine x_iload3 dX10_lock_53 ?_
          refine x_callV3v mvX10_139 (k_did G x _ (by exact hA) (nI 4) (nI K) (nI 1)) mb_lt0 (hp_m0 _ _) (xRoom.of rfl) (by decide) dX10_lock_54 (fun n_ h_ hq => ?_)
          obtain ⟨rfl, m2, rfl, hR⟩ := hq
          refine x_iload3 dX10_lock_57 ?_
          refine x_iret dX10_lock_58 rfl ?_ (Nat.zero_le _) (Nat.zero_le _)
          refine ⟨rfl, m2, rfl, ?_⟩
          unfold lockR
          rw [if_pos hc, eK, e1, e15]
          exact ⟨rfl, hR⟩
        · have e1 : (if s = nI 1 then nI 1 else nI 0) = nI 1 := if_pos c41
          refine x_iconst (nI 1) dX10_lock_44 (by decide) ?_
          refine x_goto 49 dX10_lock_45 (by decide) ?_
          refine sm15 (K) rfl (by omega) (by first | exact Or.inl nI_0 | exact Or.inr nI1 | exact bI_01 _) dX10_lock_49 ?_
          refine x_aload0 dX10_lock_50 ?_
          refine x_iconst (nI 4) dX10_lock_51 (by decide) ?_
          refine x_iload1 dX10_lock_52 ?_
          refine x_iload3 dX10_lock_53 ?_
          refine x_callV3v mvX10_139 (k_did G x _ (by exact hA) (nI 4) (nI K) (nI 1)) mb_lt0 (hp_m0 _ _) (xRoom.of rfl) (by decide) dX10_lock_54 (fun n_ h_ hq => ?_)
          obtain ⟨rfl, m2, rfl, hR⟩ := hq
          refine x_iload3 dX10_lock_57 ?_
          refine x_iret dX10_lock_58 rfl ?_ (Nat.zero_le _) (Nat.zero_le _)
          refine ⟨rfl, m2, rfl, ?_⟩
          unfold lockR
          rw [if_pos hc, eK, e1, e15]
          exact ⟨rfl, hR⟩
    · refine x_iconst (-1) dX10_lock_17 (by decide) ?_
      refine x_iret dX10_lock_18 rfl ?_ (Nat.zero_le _) (Nat.zero_le _)
      refine ⟨rfl, m, rfl, ?_⟩
      unfold lockR
      rw [if_neg (by intro q; first | exact c5 q.1 | exact c14 q.2)]
      exact ⟨rfl, rfl⟩

/-- the lines of a group, the first n of them, get the number v -/
def clM (m : mS) (g : Nat) (v : Int32) : Nat → mS
  | 0 => m
  | k + 1 => mset (clM m g v k) 5 (mb m g k) v
theorem clM_ne {m : mS} {g : Nat} {v : Int32} {j : Nat} (h : j ≠ 5) : ∀ n, (clM m g v n).1 j = m.1 j
  | 0 => rfl
  | n + 1 => by
    show (mset (clM m g v n) 5 (mb m g n) v).1 j = _
    rw [mset_ne h]
    exact clM_ne h n
theorem iA_of {m m' : mS} (h : m'.1 46 = m.1 46) (hA : iA m) : iA m' := by
  unfold iA nA at *
  rw [h]
  exact hA
def partR (m : mS) (g r : Int32) (m' : mS) : Prop := if isGr m g then (if m.1 15 (nv g) = 0 then r = m.1 12 (nv g) ∧ didR (clM (mset m 14 (nv g) (m.1 7 0)) (nv g) (-1) (nM m (nv g))) (nI 3) g (nI 0) m' else r = -3 ∧ m' = m) else r = -1 ∧ m' = m

set_option maxHeartbeats 4000000 in
theorem k_part (G : vx_G) (x : vx_H) (m : mS) (hG : iG m) (hA : iA m) (hM : iMs m) (g : Int32) : xK G M_X10_part 1 [(.ref MB), (.int g)] NT (hp x m) 0 0 (QI (fun r n' h' => n' = NT ∧ ∃ m', h' = hp x m' ∧ partR m g r m')) := by
  have hG2 := hG.2
  have lp : ∀ (K : Nat), (g = nI K) → (K < nG m) → (isGr m g) → (nv g = K) → (m.1 15 K = 0) → ∀ (n_ : Nat) (i : Nat), i ≤ nM m K → nM m K + 1 ≤ i + n_ → xV (mF G M_X10_part 1 0 0 (QI (fun r n' h' => n' = NT ∧ ∃ m', h' = hp x m' ∧ partR m g r m'))) 34 [some (.ref MB), some (.int (nI (K))), some (.int (nI (i)))] [] NT (hp x (clM (mset m 14 K (m.1 7 0)) K (-1) i)) 0 0 := by
    intro K eg hK hc eK c16
    obtain ⟨b1, b2, b3⟩ := hM K hK
    subst eg
    intro n_
    induction n_ with
    | zero => intro i hi_ hn_; omega
    | succ n_ ih =>
      intro i hi_ hn_ 
      refine x_iload2 dX10_part_34 ?_
      refine x_aload0 dX10_part_35 ?_
      refine gm12 fgX10_41 dX10_part_36 ?_
      refine x_iload1 dX10_part_39 ?_
      refine lm12 (K) rfl (by omega) dX10_part_40 ?_
      refine xV.toi (nI (nM m K)) (by rw [clM_ne (by decide)]; exact b1) ?_
      refine n_icmp_ge 67 dX10_part_41 (by decide) (by omega) (by omega) (fun c41 => ?_) (fun c41 => ?_)
      · have ei : i = nM m K := by omega
        subst ei
        refine x_aload0 dX10_part_67 ?_
        refine x_iconst (nI 3) dX10_part_68 (by decide) ?_
        refine x_iload1 dX10_part_69 ?_
        refine x_iconst (nI 0) dX10_part_70 (by decide) ?_
        refine x_callV3v mvX10_139 (k_did G x _ (iA_of (m := mset m 14 K (m.1 7 0)) (clM_ne (by decide) _) (by exact hA)) (nI 3) (nI K) (nI 0)) mb_lt0 (hp_m0 _ _) (xRoom.of rfl) (by decide) dX10_part_71 (fun n_ h_ hq => ?_)
        obtain ⟨rfl, m2, rfl, hR⟩ := hq
        have e2 : m2.1 12 K = m.1 12 K := by rw [hR.2.1 12 (by decide) (by decide) (by decide) (by decide) (by decide) (by decide), clM_ne (by decide)]; rfl
        refine x_aload0 dX10_part_74 ?_
        refine gm12 fgX10_41 dX10_part_75 ?_
        refine x_iload1 dX10_part_78 ?_
        refine lm12 (K) rfl (by omega) dX10_part_79 ?_
        refine x_iret dX10_part_80 rfl ?_ (Nat.zero_le _) (Nat.zero_le _)
        refine ⟨rfl, m2, rfl, ?_⟩
        unfold partR
        rw [if_pos hc, eK, if_pos c16, e2]
        exact ⟨rfl, hR⟩
      · refine x_aload0 dX10_part_44 ?_
        refine gm5 fgX10_25 dX10_part_45 ?_
        refine x_aload0 dX10_part_48 ?_
        refine gm11 fgX10_38 dX10_part_49 ?_
        refine x_bipush (nI 8) dX10_part_52 (by decide) ?_
        refine x_iload1 dX10_part_54 ?_
        refine n_imul dX10_part_55 ?_
        refine x_iload2 dX10_part_56 ?_
        refine n_iadd dX10_part_57 ?_
        refine lm11 ((8 * K) + i) rfl (by omega) dX10_part_58 ?_
        refine xV.toi (nI (mb m K i)) (by rw [clM_ne (by decide)]; exact (b3 i (by omega)).1) ?_
        refine x_iconst (-1) dX10_part_59 (by decide) ?_
        refine sm5 (mb m K i) rfl ((b3 i (by omega)).2) dX10_part_60 ?_
        refine x_iinc2 (nI (i + 1)) dX10_part_61 (nI_add i 1) rfl rfl rfl ?_
        refine x_goto 34 dX10_part_64 (by decide) ?_
        exact ih (i + 1) (by omega) (by omega)
  refine xK.ofV (by decide) (Nat.le_of_ble_eq_true rfl) ?_
  refine xV.lveq (L' := [some (.ref MB), some (.int g), none]) rfl ?_
  refine x_aload0 dX10_part_0 ?_
  refine x_iload1 dX10_part_1 ?_
  refine x_callV1i mvX10_208 (k_isThere G x m hG g) mb_lt0 (hp_m0 _ _) (xRoom.of rfl) (by decide) dX10_part_2 (fun r_ n_ h_ hq => ?_)
  obtain ⟨rfl, rfl, rfl⟩ := hq
  refine b_if_ne 10 dX10_part_5 (by decide) (fun c5 => ?_) (fun c5 => ?_)
  · have hc := c5
    obtain ⟨K, hK, rfl, hp0⟩ := isGr_nat hG c5
    have eK : nv (nI K) = K := nv_nI (by omega)
    refine x_aload0 dX10_part_10 ?_
    refine gm15 fgX10_50 dX10_part_11 ?_
    refine x_iload1 dX10_part_14 ?_
    refine lm15 (K) rfl (by omega) dX10_part_15 ?_
    refine x_if_eq 22 dX10_part_16 (by decide) (fun c16 => ?_) (fun c16 => ?_)
    · refine x_aload0 dX10_part_22 ?_
      refine gm14 fgX10_47 dX10_part_23 ?_
      refine x_iload1 dX10_part_26 ?_
      refine x_aload0 dX10_part_27 ?_
      refine gm7 fgX10_136 dX10_part_28 ?_
      refine sm14 (K) rfl (by omega) dX10_part_31 ?_
      refine x_iconst (nI 0) dX10_part_32 (by decide) ?_
      refine x_istore2 dX10_part_33 rfl rfl rfl ?_
      exact lp K rfl hK hc eK c16 (nM m K + 1) 0 (Nat.zero_le _) (by omega)
    · refine x_bipush (-3) dX10_part_19 (by decide) ?_
      refine x_iret dX10_part_21 rfl ?_ (Nat.zero_le _) (Nat.zero_le _)
      refine ⟨rfl, m, rfl, ?_⟩
      unfold partR
      rw [if_pos hc, eK, if_neg c16]
      exact ⟨rfl, rfl⟩
  · refine x_iconst (-1) dX10_part_8 (by decide) ?_
    refine x_iret dX10_part_9 rfl ?_ (Nat.zero_le _) (Nat.zero_le _)
    refine ⟨rfl, m, rfl, ?_⟩
    unfold partR
    rw [if_neg c5]
    exact ⟨rfl, rfl⟩

theorem ng_m (m : mS) (s : Int32) : (ngM m s).1 12 (nG m) = nI 0 ∧ nM (ngM m s) (nG m) = 0 := by
  have h : (ngM m s).1 12 (nG m) = nI 0 := by simp [ngM, mset, upd]
  exact ⟨h, by unfold nM; rw [h]; exact nv_nI (by decide)⟩
theorem ad_m (m : mS) (g a : Nat) (h : nM m g < 100) : (adM m g a).1 12 g = nI (nM m g + 1) ∧ nM (adM m g a) g = nM m g + 1 := by
  have h : (adM m g a).1 12 g = nI (nM m g + 1) := by simp [adM, mset, upd]
  exact ⟨h, by unfold nM at *; rw [h]; exact nv_nI (by omega)⟩
def hdM (m : mS) (s : Int32) (a c : Nat) : mS := adM (adM (ngM m s) (nG m) a) (nG m) c
def handR (m : mS) (a b r : Int32) (m' : mS) : Prop := if isLn m (nI 0) a ∧ isLn m (nI 1) b then (if m.1 5 (nv a) < 0 ∧ m.1 5 (80 + nv b) < 0 then (if nG m = 200 then r = -5 ∧ m' = m else r = nI (nG m) ∧ didR (hdM m (nI 2) (nv a) (80 + nv b)) (nI 1) (nI (nG m)) (nI 0) m') else r = -2 ∧ m' = m) else r = -1 ∧ m' = m

set_option maxHeartbeats 4000000 in
theorem k_hand (G : vx_G) (x : vx_H) (m : mS) (hL : iL m) (hG : iG m) (hA : iA m) (a b : Int32) : xK G M_X10_hand 2 [(.ref MB), (.int a), (.int b)] NT (hp x m) 0 0 (QI (fun r n' h' => n' = NT ∧ ∃ m', h' = hp x m' ∧ handR m a b r m')) := by
  have hG2 := hG.2
  refine xK.ofV (by decide) (Nat.le_of_ble_eq_true rfl) ?_
  refine xV.lveq (L' := [some (.ref MB), some (.int a), some (.int b), none]) rfl ?_
  refine x_aload0 dX10_hand_0 ?_
  refine x_iconst (nI 0) dX10_hand_1 (by decide) ?_
  refine x_iload1 dX10_hand_2 ?_
  refine x_callV2i mvX10_150 (k_isLine G x m hL (nI 0) a) mb_lt0 (hp_m0 _ _) (xRoom.of rfl) (by decide) dX10_hand_3 (fun r_ n_ h_ hq => ?_)
  obtain ⟨rfl, rfl, rfl⟩ := hq
  refine b_if_eq 18 dX10_hand_6 (by decide) (fun c6 => ?_) (fun c6 => ?_)
  · refine x_iconst (-1) dX10_hand_18 (by decide) ?_
    refine x_iret dX10_hand_19 rfl ?_ (Nat.zero_le _) (Nat.zero_le _)
    refine ⟨rfl, m, rfl, ?_⟩
    unfold handR
    rw [if_neg (by intro q; first | exact c6 q.1 | exact c15 q.2)]
    exact ⟨rfl, rfl⟩
  · refine x_aload0 dX10_hand_9 ?_
    refine x_iconst (nI 1) dX10_hand_10 (by decide) ?_
    refine x_iload2 dX10_hand_11 ?_
    refine x_callV2i mvX10_150 (k_isLine G x m hL (nI 1) b) mb_lt0 (hp_m0 _ _) (xRoom.of rfl) (by decide) dX10_hand_12 (fun r_ n_ h_ hq => ?_)
    obtain ⟨rfl, rfl, rfl⟩ := hq
    refine b_if_ne 20 dX10_hand_15 (by decide) (fun c15 => ?_) (fun c15 => ?_)
    · have hc : isLn m (nI 0) a ∧ isLn m (nI 1) b := ⟨c6, c15⟩
      obtain ⟨B0, I, hB0, e0, hI, rfl⟩ := isLn_nat hL c6
      obtain ⟨B1, J, hB1, e1, hJ, rfl⟩ := isLn_nat hL c15
      have f0 : 0 = B0 := nI_inj (by decide) (by omega) e0
      have f1 : 1 = B1 := nI_inj (by decide) (by omega) e1
      subst f0
      subst f1
      have l0 := (hL 0 (by decide)).2
      have l1 := (hL 1 (by decide)).2
      have eI : nv (nI I) = I := nv_nI (by omega)
      have eJ : nv (nI J) = J := nv_nI (by omega)
      refine x_aload0 dX10_hand_20 ?_
      refine gm5 fgX10_25 dX10_hand_21 ?_
      refine x_iload1 dX10_hand_24 ?_
      refine lm5 (I) rfl (by omega) dX10_hand_25 ?_
      refine x_if_ge 41 dX10_hand_26 (by decide) (fun c26 => ?_) (fun c26 => ?_)
      · refine x_bipush (-2) dX10_hand_41 (by decide) ?_
        refine x_iret dX10_hand_43 rfl ?_ (Nat.zero_le _) (Nat.zero_le _)
        refine ⟨rfl, m, rfl, ?_⟩
        unfold handR
        rw [if_pos hc, eI, eJ, if_neg (by intro q; first | exact absurd q.1 (iNL.mpr c26) | exact c38 q.2)]
        exact ⟨rfl, rfl⟩
      · refine x_aload0 dX10_hand_29 ?_
        refine gm5 fgX10_25 dX10_hand_30 ?_
        refine x_bipush (nI 80) dX10_hand_33 (by decide) ?_
        refine x_iload2 dX10_hand_35 ?_
        refine n_iadd dX10_hand_36 ?_
        refine lm5 (80 + J) rfl (by omega) dX10_hand_37 ?_
        refine x_if_lt 44 dX10_hand_38 (by decide) (fun c38 => ?_) (fun c38 => ?_)
        · refine x_aload0 dX10_hand_44 ?_
          refine gm16 fgX10_120 dX10_hand_45 ?_
          refine xV.toi (nI (nG m)) (hG.1) ?_
          refine x_sipush (nI 200) dX10_hand_48 (by decide) ?_
          refine n_icmp_ne 57 dX10_hand_51 (by decide) (by omega) (by omega) (fun c51 => ?_) (fun c51 => ?_)
          · have hg2 : nG m < 200 := by omega
            obtain ⟨q1, q2⟩ := ng_m m (nI 2)
            obtain ⟨q3, q4⟩ := ad_m (ngM m (nI 2)) (nG m) I (by omega)
            refine x_aload0 dX10_hand_57 ?_
            refine x_iconst (nI 2) dX10_hand_58 (by decide) ?_
            refine x_callV1i mvX10_188 (k_newGroup G x m hG hg2 (nI 2)) mb_lt0 (hp_m0 _ _) (xRoom.of rfl) (by decide) dX10_hand_59 (fun r_ n_ h_ hq => ?_)
            obtain ⟨rfl, rfl, rfl⟩ := hq
            refine x_istore3 dX10_hand_62 rfl rfl rfl ?_
            refine x_aload0 dX10_hand_63 ?_
            refine x_iload3 dX10_hand_64 ?_
            refine x_iload1 dX10_hand_65 ?_
            refine x_callV2v mvX10_191 (k_add G x (ngM m (nI 2)) (nG m) I hg2 (by omega) (by rw [q2]; exact q1) (by omega)) mb_lt0 (hp_m0 _ _) (xRoom.of rfl) (by decide) dX10_hand_66 (fun n_ h_ hq => ?_)
            obtain ⟨rfl, rfl⟩ := hq
            refine x_aload0 dX10_hand_69 ?_
            refine x_iload3 dX10_hand_70 ?_
            refine x_bipush (nI 80) dX10_hand_71 (by decide) ?_
            refine x_iload2 dX10_hand_73 ?_
            refine n_iadd dX10_hand_74 ?_
            refine x_callV2v mvX10_191 (k_add G x (adM (ngM m (nI 2)) (nG m) I) (nG m) (80 + J) hg2 (by omega) (by rw [q4]; exact q3) (by omega)) mb_lt0 (hp_m0 _ _) (xRoom.of rfl) (by decide) dX10_hand_75 (fun n_ h_ hq => ?_)
            obtain ⟨rfl, rfl⟩ := hq
            refine x_aload0 dX10_hand_78 ?_
            refine x_iconst (nI 1) dX10_hand_79 (by decide) ?_
            refine x_iload3 dX10_hand_80 ?_
            refine x_iconst (nI 0) dX10_hand_81 (by decide) ?_
            refine x_callV3v mvX10_139 (k_did G x (hdM m (nI 2) I (80 + J)) hA (nI 1) (nI (nG m)) (nI 0)) mb_lt0 (hp_m0 _ _) (xRoom.of rfl) (by decide) dX10_hand_82 (fun n_ h_ hq => ?_)
            obtain ⟨rfl, m2, rfl, hR⟩ := hq
            refine x_iload3 dX10_hand_85 ?_
            refine x_iret dX10_hand_86 rfl ?_ (Nat.zero_le _) (Nat.zero_le _)
            refine ⟨rfl, m2, rfl, ?_⟩
            unfold handR
            rw [if_pos hc, eI, eJ, if_pos ⟨iNE.mp c26, c38⟩, if_neg c51]
            exact ⟨rfl, hR⟩
          · refine x_bipush (-5) dX10_hand_54 (by decide) ?_
            refine x_iret dX10_hand_56 rfl ?_ (Nat.zero_le _) (Nat.zero_le _)
            refine ⟨rfl, m, rfl, ?_⟩
            unfold handR
            rw [if_pos hc, eI, eJ, if_pos ⟨iNE.mp c26, c38⟩, if_pos c51]
            exact ⟨rfl, rfl⟩
        · refine x_bipush (-2) dX10_hand_41 (by decide) ?_
          refine x_iret dX10_hand_43 rfl ?_ (Nat.zero_le _) (Nat.zero_le _)
          refine ⟨rfl, m, rfl, ?_⟩
          unfold handR
          rw [if_pos hc, eI, eJ, if_neg (by intro q; first | exact absurd q.1 (iNL.mpr c26) | exact c38 q.2)]
          exact ⟨rfl, rfl⟩
    · refine x_iconst (-1) dX10_hand_18 (by decide) ?_
      refine x_iret dX10_hand_19 rfl ?_ (Nat.zero_le _) (Nat.zero_le _)
      refine ⟨rfl, m, rfl, ?_⟩
      unfold handR
      rw [if_neg (by intro q; first | exact c6 q.1 | exact c15 q.2)]
      exact ⟨rfl, rfl⟩

def joinR (m : mS) (g b i r : Int32) (m' : mS) : Prop := if isGr m g ∧ isLn m b i then (if m.1 5 (80 * nv b + nv i) < 0 then (if m.1 15 (nv g) = 0 then (if nM m (nv g) = 8 then r = -5 ∧ m' = m else r = nI (nM m (nv g) + 1) ∧ ∃ m2, didR (adM m (nv g) (80 * nv b + nv i)) (nI 2) g (m.1 10 (nv g)) m2 ∧ m' = mset m2 10 (nv g) (nI 2)) else r = -3 ∧ m' = m) else r = -2 ∧ m' = m) else r = -1 ∧ m' = m

set_option maxHeartbeats 4000000 in
theorem k_join (G : vx_G) (x : vx_H) (m : mS) (hL : iL m) (hG : iG m) (hA : iA m) (hM : iMs m) (g b i : Int32) : xK G M_X10_join 2 [(.ref MB), (.int g), (.int b), (.int i)] NT (hp x m) 0 0 (QI (fun r n' h' => n' = NT ∧ ∃ m', h' = hp x m' ∧ joinR m g b i r m')) := by
  have hG2 := hG.2
  refine xK.ofV (by decide) (Nat.le_of_ble_eq_true rfl) ?_
  refine xV.lveq (L' := [some (.ref MB), some (.int g), some (.int b), some (.int i)]) rfl ?_
  refine x_aload0 dX10_join_0 ?_
  refine x_iload1 dX10_join_1 ?_
  refine x_callV1i mvX10_208 (k_isThere G x m hG g) mb_lt0 (hp_m0 _ _) (xRoom.of rfl) (by decide) dX10_join_2 (fun r_ n_ h_ hq => ?_)
  obtain ⟨rfl, rfl, rfl⟩ := hq
  refine b_if_eq 17 dX10_join_5 (by decide) (fun c5 => ?_) (fun c5 => ?_)
  · refine x_iconst (-1) dX10_join_17 (by decide) ?_
    refine x_iret dX10_join_18 rfl ?_ (Nat.zero_le _) (Nat.zero_le _)
    refine ⟨rfl, m, rfl, ?_⟩
    unfold joinR
    rw [if_neg (by intro q; first | exact c5 q.1 | exact c14 q.2)]
    exact ⟨rfl, rfl⟩
  · refine x_aload0 dX10_join_8 ?_
    refine x_iload2 dX10_join_9 ?_
    refine x_iload3 dX10_join_10 ?_
    refine x_callV2i mvX10_150 (k_isLine G x m hL b i) mb_lt0 (hp_m0 _ _) (xRoom.of rfl) (by decide) dX10_join_11 (fun r_ n_ h_ hq => ?_)
    obtain ⟨rfl, rfl, rfl⟩ := hq
    refine b_if_ne 19 dX10_join_14 (by decide) (fun c14 => ?_) (fun c14 => ?_)
    · have hc : isGr m g ∧ isLn m b i := ⟨c5, c14⟩
      obtain ⟨K, hK, rfl, hp0⟩ := isGr_nat hG c5
      obtain ⟨B, I, hB, rfl, hI, rfl⟩ := isLn_nat hL c14
      have l0 := (hL B hB).2
      have eI : nv (nI I) = I := nv_nI (by omega)
      have eB : nv (nI B) = B := nv_nI (by omega)
      have eK : nv (nI K) = K := nv_nI (by omega)
      obtain ⟨b1, b2, b3⟩ := hM K hK
      refine x_aload0 dX10_join_19 ?_
      refine gm5 fgX10_25 dX10_join_20 ?_
      refine x_bipush (nI 80) dX10_join_23 (by decide) ?_
      refine x_iload2 dX10_join_25 ?_
      refine n_imul dX10_join_26 ?_
      refine x_iload3 dX10_join_27 ?_
      refine n_iadd dX10_join_28 ?_
      refine lm5 ((80 * B) + I) rfl (by omega) dX10_join_29 ?_
      refine x_if_lt 36 dX10_join_30 (by decide) (fun c30 => ?_) (fun c30 => ?_)
      · refine x_aload0 dX10_join_36 ?_
        refine gm15 fgX10_50 dX10_join_37 ?_
        refine x_iload1 dX10_join_40 ?_
        refine lm15 (K) rfl (by omega) dX10_join_41 ?_
        refine x_if_eq 48 dX10_join_42 (by decide) (fun c42 => ?_) (fun c42 => ?_)
        · refine x_aload0 dX10_join_48 ?_
          refine gm12 fgX10_41 dX10_join_49 ?_
          refine x_iload1 dX10_join_52 ?_
          refine lm12 (K) rfl (by omega) dX10_join_53 ?_
          refine xV.toi (nI (nM m K)) (b1) ?_
          refine x_bipush (nI 8) dX10_join_54 (by decide) ?_
          refine n_icmp_ne 62 dX10_join_56 (by decide) (by omega) (by omega) (fun c56 => ?_) (fun c56 => ?_)
          · have h8 : nM m K < 8 := by omega
            obtain ⟨q3, q4⟩ := ad_m m K (80 * B + I) (by omega)
            refine x_aload0 dX10_join_62 ?_
            refine x_iload1 dX10_join_63 ?_
            refine x_bipush (nI 80) dX10_join_64 (by decide) ?_
            refine x_iload2 dX10_join_66 ?_
            refine n_imul dX10_join_67 ?_
            refine x_iload3 dX10_join_68 ?_
            refine n_iadd dX10_join_69 ?_
            refine x_callV2v mvX10_191 (k_add G x m K (80 * B + I) (by omega) (by omega) b1 h8) mb_lt0 (hp_m0 _ _) (xRoom.of rfl) (by decide) dX10_join_70 (fun n_ h_ hq => ?_)
            obtain ⟨rfl, rfl⟩ := hq
            refine x_aload0 dX10_join_73 ?_
            refine x_iconst (nI 2) dX10_join_74 (by decide) ?_
            refine x_iload1 dX10_join_75 ?_
            refine x_aload0 dX10_join_76 ?_
            refine gm10 fgX10_35 dX10_join_77 ?_
            refine x_iload1 dX10_join_80 ?_
            refine lm10 (K) rfl (by omega) dX10_join_81 ?_
            refine x_callV3v mvX10_139 (k_did G x (adM m K (80 * B + I)) hA (nI 2) (nI K) (m.1 10 K)) mb_lt0 (hp_m0 _ _) (xRoom.of rfl) (by decide) dX10_join_82 (fun n_ h_ hq => ?_)
            obtain ⟨rfl, m2, rfl, hR⟩ := hq
            have e2 : m2.1 12 K = nI (nM m K + 1) := by rw [hR.2.1 12 (by decide) (by decide) (by decide) (by decide) (by decide) (by decide)]; exact q3
            refine x_aload0 dX10_join_85 ?_
            refine gm10 fgX10_35 dX10_join_86 ?_
            refine x_iload1 dX10_join_89 ?_
            refine x_iconst (nI 2) dX10_join_90 (by decide) ?_
            refine sm10 (K) rfl (by omega) dX10_join_91 ?_
            refine x_aload0 dX10_join_92 ?_
            refine gm12 fgX10_41 dX10_join_93 ?_
            refine x_iload1 dX10_join_96 ?_
            refine lm12 (K) rfl (by omega) dX10_join_97 ?_
            refine xV.toi (nI (nM m K + 1)) (e2) ?_
            refine x_iret dX10_join_98 rfl ?_ (Nat.zero_le _) (Nat.zero_le _)
            refine ⟨rfl, _, rfl, ?_⟩
            unfold joinR
            rw [if_pos hc, eB, eI, eK, if_pos c30, if_pos c42, if_neg c56]
            exact ⟨rfl, m2, hR, rfl⟩
          · refine x_bipush (-5) dX10_join_59 (by decide) ?_
            refine x_iret dX10_join_61 rfl ?_ (Nat.zero_le _) (Nat.zero_le _)
            refine ⟨rfl, m, rfl, ?_⟩
            unfold joinR
            rw [if_pos hc, eB, eI, eK, if_pos c30, if_pos c42, if_pos c56]
            exact ⟨rfl, rfl⟩
        · refine x_bipush (-3) dX10_join_45 (by decide) ?_
          refine x_iret dX10_join_47 rfl ?_ (Nat.zero_le _) (Nat.zero_le _)
          refine ⟨rfl, m, rfl, ?_⟩
          unfold joinR
          rw [if_pos hc, eB, eI, eK, if_pos c30, if_neg c42]
          exact ⟨rfl, rfl⟩
      · refine x_bipush (-2) dX10_join_33 (by decide) ?_
        refine x_iret dX10_join_35 rfl ?_ (Nat.zero_le _) (Nat.zero_le _)
        refine ⟨rfl, m, rfl, ?_⟩
        unfold joinR
        rw [if_pos hc, eB, eI, if_neg c30]
        exact ⟨rfl, rfl⟩
    · refine x_iconst (-1) dX10_join_17 (by decide) ?_
      refine x_iret dX10_join_18 rfl ?_ (Nat.zero_le _) (Nat.zero_le _)
      refine ⟨rfl, m, rfl, ?_⟩
      unfold joinR
      rw [if_neg (by intro q; first | exact c5 q.1 | exact c14 q.2)]
      exact ⟨rfl, rfl⟩
