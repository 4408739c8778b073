/-! ===== the model's methods, 2: terms, told, did, count ===== -/
def teM (m : mS) (s c : Int32) : mS := if s = m.1 8 0 ∧ c = m.1 9 0 then m else mset (mset (chM m) 8 0 s) 9 0 c
abbrev okT (s c : Int32) : Prop := (nI 0 ≤ s ∧ s ≤ nI 99) ∧ nI 0 ≤ c ∧ c ≤ nI 10000

set_option maxHeartbeats 4000000 in
theorem k_terms (G : vx_G) (x : vx_H) (m : mS) (s c : Int32) : xK G M_X10_terms 1 [(.ref MB), (.int s), (.int c)] NT (hp x m) 0 0 (QI (fun r n' h' => r = (if okT s c then 1 else -1) ∧ n' = NT ∧ h' = hp x (if okT s c then teM m s c else m))) := by
  refine xK.ofV (by decide) (Nat.le_of_ble_eq_true rfl) ?_
  refine xV.lveq (L' := [some (.ref MB), some (.int s), some (.int c)]) rfl ?_
  refine x_iload1 dX10_terms_0 ?_
  refine x_iconst (nI 0) dX10_terms_1 (by decide) ?_
  refine x_bipush (nI 99) dX10_terms_2 (by decide) ?_
  refine x_callS3i msX10_116 (k_within G s (nI 0) (nI 99)) (xRoom.of rfl) (by decide) dX10_terms_4 (fun r_ n_ h_ hq => ?_)
  obtain ⟨rfl, rfl, rfl⟩ := hq
  refine b_if_eq 21 dX10_terms_7 (by decide) (fun c7 => ?_) (fun c7 => ?_)
  · refine x_iconst (-1) dX10_terms_21 (by decide) ?_
    refine x_iret dX10_terms_22 rfl ?_ (Nat.zero_le _) (Nat.zero_le _)
    first | exact ⟨(if_neg (fun q => c7 q.1)).symm, rfl, by rw [if_neg (fun q => c7 q.1)]⟩ | exact ⟨(if_neg (fun q => c18 q.2)).symm, rfl, by rw [if_neg (fun q => c18 q.2)]⟩
  · refine x_iload2 dX10_terms_10 ?_
    refine x_iconst (nI 0) dX10_terms_11 (by decide) ?_
    refine x_sipush (nI 10000) dX10_terms_12 (by decide) ?_
    refine x_callS3i msX10_116 (k_within G c (nI 0) (nI 10000)) (xRoom.of rfl) (by decide) dX10_terms_15 (fun r_ n_ h_ hq => ?_)
    obtain ⟨rfl, rfl, rfl⟩ := hq
    refine b_if_ne 23 dX10_terms_18 (by decide) (fun c18 => ?_) (fun c18 => ?_)
    · refine x_iload1 dX10_terms_23 ?_
      refine x_aload0 dX10_terms_24 ?_
      refine gm8 fgX10_31 dX10_terms_25 ?_
      refine x_icmp_ne 39 dX10_terms_28 (by decide) (fun c28 => ?_) (fun c28 => ?_)
      · refine x_aload0 dX10_terms_39 ?_
        refine x_callV0v mvX10_144 (k_changed G _ _) mb_lt0 (hp_m0 _ _) (xRoom.of rfl) (by decide) dX10_terms_40 (fun n_ h_ hq => ?_)
        obtain ⟨rfl, rfl⟩ := hq
        refine x_aload0 dX10_terms_43 ?_
        refine x_iload1 dX10_terms_44 ?_
        refine pm8 fpX10_31 dX10_terms_45 ?_
        refine x_aload0 dX10_terms_48 ?_
        refine x_iload2 dX10_terms_49 ?_
        refine pm9 fpX10_147 dX10_terms_50 ?_
        refine x_iconst (nI 1) dX10_terms_53 (by decide) ?_
        refine x_iret dX10_terms_54 rfl ?_ (Nat.zero_le _) (Nat.zero_le _)
        refine ⟨(if_pos ⟨c7, c18⟩).symm.trans rfl |>.trans rfl, rfl, ?_⟩
        rw [if_pos ⟨c7, c18⟩]
        unfold teM
        first | rw [if_neg (fun q => c28 q.1)] | rw [if_neg (fun q => c36 q.2)] | (rw [if_pos ⟨c28, c36⟩]; subst c28; subst c36; exact congrArg _ (by rw [mset_id]; exact mset_id m 9 0))
      · refine x_iload2 dX10_terms_31 ?_
        refine x_aload0 dX10_terms_32 ?_
        refine gm9 fgX10_147 dX10_terms_33 ?_
        refine x_icmp_eq 43 dX10_terms_36 (by decide) (fun c36 => ?_) (fun c36 => ?_)
        · refine x_aload0 dX10_terms_43 ?_
          refine x_iload1 dX10_terms_44 ?_
          refine pm8 fpX10_31 dX10_terms_45 ?_
          refine x_aload0 dX10_terms_48 ?_
          refine x_iload2 dX10_terms_49 ?_
          refine pm9 fpX10_147 dX10_terms_50 ?_
          refine x_iconst (nI 1) dX10_terms_53 (by decide) ?_
          refine x_iret dX10_terms_54 rfl ?_ (Nat.zero_le _) (Nat.zero_le _)
          refine ⟨(if_pos ⟨c7, c18⟩).symm.trans rfl |>.trans rfl, rfl, ?_⟩
          rw [if_pos ⟨c7, c18⟩]
          unfold teM
          first | rw [if_neg (fun q => c28 q.1)] | rw [if_neg (fun q => c36 q.2)] | (rw [if_pos ⟨c28, c36⟩]; subst c28; subst c36; exact congrArg _ (by rw [mset_id]; exact mset_id m 9 0))
        · refine x_aload0 dX10_terms_39 ?_
          refine x_callV0v mvX10_144 (k_changed G _ _) mb_lt0 (hp_m0 _ _) (xRoom.of rfl) (by decide) dX10_terms_40 (fun n_ h_ hq => ?_)
          obtain ⟨rfl, rfl⟩ := hq
          refine x_aload0 dX10_terms_43 ?_
          refine x_iload1 dX10_terms_44 ?_
          refine pm8 fpX10_31 dX10_terms_45 ?_
          refine x_aload0 dX10_terms_48 ?_
          refine x_iload2 dX10_terms_49 ?_
          refine pm9 fpX10_147 dX10_terms_50 ?_
          refine x_iconst (nI 1) dX10_terms_53 (by decide) ?_
          refine x_iret dX10_terms_54 rfl ?_ (Nat.zero_le _) (Nat.zero_le _)
          refine ⟨(if_pos ⟨c7, c18⟩).symm.trans rfl |>.trans rfl, rfl, ?_⟩
          rw [if_pos ⟨c7, c18⟩]
          unfold teM
          first | rw [if_neg (fun q => c28 q.1)] | rw [if_neg (fun q => c36 q.2)] | (rw [if_pos ⟨c28, c36⟩]; subst c28; subst c36; exact congrArg _ (by rw [mset_id]; exact mset_id m 9 0))
    · refine x_iconst (-1) dX10_terms_21 (by decide) ?_
      refine x_iret dX10_terms_22 rfl ?_ (Nat.zero_le _) (Nat.zero_le _)
      first | exact ⟨(if_neg (fun q => c7 q.1)).symm, rfl, by rw [if_neg (fun q => c7 q.1)]⟩ | exact ⟨(if_neg (fun q => c18 q.2)).symm, rfl, by rw [if_neg (fun q => c18 q.2)]⟩

/-- what told() tells of a line -/
def toldV (m : mS) (b i w : Int32) : Int32 := let a := 80 * nv b + nv i
  if w = 0 then m.1 0 a else if w = 1 then m.1 1 a else if w = 2 then m.1 2 a else if w = 3 then m.1 3 a else if w = 4 then m.1 4 a else if w = 5 then m.1 5 a else if w = 6 then (if m.1 5 a < 0 then m.1 7 0 - m.1 4 a else -1) else -2000000
theorem sw_out {w : Int32} (n : Nat) (hn : n < 2147483648) (h : ∀ k, k < n → ¬ w = nI k) : w.toInt < 0 ∨ ((n : Int) - 1) < w.toInt := by
  by_cases h0 : w.toInt < 0
  · exact Or.inl h0
  · right
    by_cases h1 : (n : Int) - 1 < w.toInt
    · exact h1
    · exfalso
      obtain ⟨j, hj, e⟩ := w_nat (v := w) (n := n - 1) ⟨by rw [iLE, nI_T 0 (by decide)]; omega, by rw [iLE, nI_T (n - 1) (by omega)]; omega⟩ (by omega)
      have : n ≠ 0 := by
        intro z
        subst z
        have := nI_T 0 (by decide)
        omega
      exact h j (by omega) e

set_option maxHeartbeats 4000000 in
theorem k_told (G : vx_G) (x : vx_H) (m : mS) (hL : iL m) (b i w : Int32) : xK G M_X10_told 2 [(.ref MB), (.int b), (.int i), (.int w)] NT (hp x m) 0 0 (QI (fun r n' h' => r = (if isLn m b i then toldV m b i w else -2000000) ∧ n' = NT ∧ h' = hp x m)) := by
  refine xK.ofV (by decide) (Nat.le_of_ble_eq_true rfl) ?_
  refine xV.lveq (L' := [some (.ref MB), some (.int b), some (.int i), some (.int w), none]) rfl ?_
  refine x_aload0 dX10_told_0 ?_
  refine x_iload1 dX10_told_1 ?_
  refine x_iload2 dX10_told_2 ?_
  refine x_callV2i mvX10_150 (k_isLine G x m hL b i) mb_lt0 (hp_m0 _ _) (xRoom.of rfl) (by decide) dX10_told_3 (fun r_ n_ h_ hq => ?_)
  obtain ⟨rfl, rfl, rfl⟩ := hq
  refine b_if_ne 12 dX10_told_6 (by decide) (fun c6 => ?_) (fun c6 => ?_)
  · obtain ⟨B, I, hB, rfl, hI, rfl⟩ := isLn_nat hL c6
    have hl := (hL B hB).2
    refine x_bipush (nI 80) dX10_told_12 (by decide) ?_
    refine x_iload1 dX10_told_14 ?_
    refine n_imul dX10_told_15 ?_
    refine x_iload2 dX10_told_16 ?_
    refine n_iadd dX10_told_17 ?_
    refine x_istore4 dX10_told_18 rfl rfl rfl ?_
    refine x_iload3 dX10_told_20 ?_
    by_cases cs0 : w = 0
    · refine x_tableIn 64 dX10_told_21 (by rw [cs0]; decide) (by rw [cs0]; decide) (off := 43) (by rw [cs0]; decide) (by decide) ?_
      refine x_aload0 dX10_told_64 ?_
      refine gm0 fgX10_9 dX10_told_65 ?_
      refine x_iload4 dX10_told_68 ?_
      refine lm0 ((80 * B) + I) rfl (by omega) dX10_told_70 ?_
      refine x_iret dX10_told_71 rfl ?_ (Nat.zero_le _) (Nat.zero_le _)
      refine ⟨?_, rfl, rfl⟩
      rw [if_pos c6]
      unfold toldV
      rw [nv_nI (by omega), nv_nI (by omega)]
      first | (simp [*]; done) | (simp [*]; intro q; exact absurd q (iNL.mpr c119))
    by_cases cs1 : w = 1
    · refine x_tableIn 72 dX10_told_21 (by rw [cs1]; decide) (by rw [cs1]; decide) (off := 51) (by rw [cs1]; decide) (by decide) ?_
      refine x_aload0 dX10_told_72 ?_
      refine gm1 fgX10_13 dX10_told_73 ?_
      refine x_iload4 dX10_told_76 ?_
      refine lm1 ((80 * B) + I) rfl (by omega) dX10_told_78 ?_
      refine x_iret dX10_told_79 rfl ?_ (Nat.zero_le _) (Nat.zero_le _)
      refine ⟨?_, rfl, rfl⟩
      rw [if_pos c6]
      unfold toldV
      rw [nv_nI (by omega), nv_nI (by omega)]
      first | (simp [*]; done) | (simp [*]; intro q; exact absurd q (iNL.mpr c119))
    by_cases cs2 : w = 2
    · refine x_tableIn 80 dX10_told_21 (by rw [cs2]; decide) (by rw [cs2]; decide) (off := 59) (by rw [cs2]; decide) (by decide) ?_
      refine x_aload0 dX10_told_80 ?_
      refine gm2 fgX10_16 dX10_told_81 ?_
      refine x_iload4 dX10_told_84 ?_
      refine lm2 ((80 * B) + I) rfl (by omega) dX10_told_86 ?_
      refine x_iret dX10_told_87 rfl ?_ (Nat.zero_le _) (Nat.zero_le _)
      refine ⟨?_, rfl, rfl⟩
      rw [if_pos c6]
      unfold toldV
      rw [nv_nI (by omega), nv_nI (by omega)]
      first | (simp [*]; done) | (simp [*]; intro q; exact absurd q (iNL.mpr c119))
    by_cases cs3 : w = 3
    · refine x_tableIn 88 dX10_told_21 (by rw [cs3]; decide) (by rw [cs3]; decide) (off := 67) (by rw [cs3]; decide) (by decide) ?_
      refine x_aload0 dX10_told_88 ?_
      refine gm3 fgX10_19 dX10_told_89 ?_
      refine x_iload4 dX10_told_92 ?_
      refine lm3 ((80 * B) + I) rfl (by omega) dX10_told_94 ?_
      refine x_iret dX10_told_95 rfl ?_ (Nat.zero_le _) (Nat.zero_le _)
      refine ⟨?_, rfl, rfl⟩
      rw [if_pos c6]
      unfold toldV
      rw [nv_nI (by omega), nv_nI (by omega)]
      first | (simp [*]; done) | (simp [*]; intro q; exact absurd q (iNL.mpr c119))
    by_cases cs4 : w = 4
    · refine x_tableIn 96 dX10_told_21 (by rw [cs4]; decide) (by rw [cs4]; decide) (off := 75) (by rw [cs4]; decide) (by decide) ?_
      refine x_aload0 dX10_told_96 ?_
      refine gm4 fgX10_22 dX10_told_97 ?_
      refine x_iload4 dX10_told_100 ?_
      refine lm4 ((80 * B) + I) rfl (by omega) dX10_told_102 ?_
      refine x_iret dX10_told_103 rfl ?_ (Nat.zero_le _) (Nat.zero_le _)
      refine ⟨?_, rfl, rfl⟩
      rw [if_pos c6]
      unfold toldV
      rw [nv_nI (by omega), nv_nI (by omega)]
      first | (simp [*]; done) | (simp [*]; intro q; exact absurd q (iNL.mpr c119))
    by_cases cs5 : w = 5
    · refine x_tableIn 104 dX10_told_21 (by rw [cs5]; decide) (by rw [cs5]; decide) (off := 83) (by rw [cs5]; decide) (by decide) ?_
      refine x_aload0 dX10_told_104 ?_
      refine gm5 fgX10_25 dX10_told_105 ?_
      refine x_iload4 dX10_told_108 ?_
      refine lm5 ((80 * B) + I) rfl (by omega) dX10_told_110 ?_
      refine x_iret dX10_told_111 rfl ?_ (Nat.zero_le _) (Nat.zero_le _)
      refine ⟨?_, rfl, rfl⟩
      rw [if_pos c6]
      unfold toldV
      rw [nv_nI (by omega), nv_nI (by omega)]
      first | (simp [*]; done) | (simp [*]; intro q; exact absurd q (iNL.mpr c119))
    by_cases cs6 : w = 6
    · refine x_tableIn 112 dX10_told_21 (by rw [cs6]; decide) (by rw [cs6]; decide) (off := 91) (by rw [cs6]; decide) (by decide) ?_
      refine x_aload0 dX10_told_112 ?_
      refine gm5 fgX10_25 dX10_told_113 ?_
      refine x_iload4 dX10_told_116 ?_
      refine lm5 ((80 * B) + I) rfl (by omega) dX10_told_118 ?_
      refine x_if_ge 137 dX10_told_119 (by decide) (fun c119 => ?_) (fun c119 => ?_)
      · refine x_iconst (-1) dX10_told_137 (by decide) ?_
        refine x_iret dX10_told_138 rfl ?_ (Nat.zero_le _) (Nat.zero_le _)
        refine ⟨?_, rfl, rfl⟩
        rw [if_pos c6]
        unfold toldV
        rw [nv_nI (by omega), nv_nI (by omega)]
        first | (simp [*]; done) | (simp [*]; intro q; exact absurd q (iNL.mpr c119))
      · refine x_aload0 dX10_told_122 ?_
        refine gm7 fgX10_136 dX10_told_123 ?_
        refine x_aload0 dX10_told_126 ?_
        refine gm4 fgX10_22 dX10_told_127 ?_
        refine x_iload4 dX10_told_130 ?_
        refine lm4 ((80 * B) + I) rfl (by omega) dX10_told_132 ?_
        refine x_isub dX10_told_133 ?_
        refine x_goto 138 dX10_told_134 (by decide) ?_
        refine x_iret dX10_told_138 rfl ?_ (Nat.zero_le _) (Nat.zero_le _)
        refine ⟨?_, rfl, rfl⟩
        rw [if_pos c6]
        unfold toldV
        rw [nv_nI (by omega), nv_nI (by omega)]
        first | (simp [*]; done) | (simp [*]; intro q; exact absurd q (iNL.mpr c119))
    refine x_tableOut 139 dX10_told_21 (sw_out 7 (by decide) (fun k hk => by rcases (show k = 0 ∨ k = 1 ∨ k = 2 ∨ k = 3 ∨ k = 4 ∨ k = 5 ∨ k = 6 by omega) with rfl | rfl | rfl | rfl | rfl | rfl | rfl <;> assumption)) (by decide) ?_
    refine x_ldc kcX10_154 dX10_told_139 ?_
    refine x_iret dX10_told_141 rfl ?_ (Nat.zero_le _) (Nat.zero_le _)
    refine ⟨?_, rfl, rfl⟩
    rw [if_pos c6]
    unfold toldV
    rw [nv_nI (by omega), nv_nI (by omega)]
    first | (simp [*]; done) | (simp [*]; intro q; exact absurd q (iNL.mpr c119))
  · refine x_ldc kcX10_154 dX10_told_9 ?_
    refine x_iret dX10_told_11 rfl ?_ (Nat.zero_le _) (Nat.zero_le _)
    exact ⟨(if_neg c6).symm, rfl, rfl⟩

/-- an act is written down: the oldest goes when there are 60 -/
def dOff (m : mS) : Nat := if nA m = 60 then 1 else 0
def didR (m : mS) (kd o w : Int32) (m' : mS) : Prop := m'.2 = m.2 ∧ (∀ j, j ≠ 17 → j ≠ 30 → j ≠ 43 → j ≠ 44 → j ≠ 45 → j ≠ 46 → m'.1 j = m.1 j) ∧ m'.1 17 0 = nI 0 ∧ m'.1 30 0 = nI 0 ∧ m'.1 46 0 = nI (nA m - dOff m + 1) ∧
  (∀ t, t < nA m - dOff m → m'.1 43 t = m.1 43 (t + dOff m) ∧ m'.1 44 t = m.1 44 (t + dOff m) ∧ m'.1 45 t = m.1 45 (t + dOff m)) ∧ m'.1 43 (nA m - dOff m) = kd ∧ m'.1 44 (nA m - dOff m) = o ∧ m'.1 45 (nA m - dOff m) = w
/-- ahead of the writing -/
def didP (m m' : mS) : Prop := m'.2 = m.2 ∧ (∀ j, j ≠ 17 → j ≠ 30 → j ≠ 43 → j ≠ 44 → j ≠ 45 → j ≠ 46 → m'.1 j = m.1 j) ∧ m'.1 17 0 = nI 0 ∧ m'.1 30 0 = nI 0 ∧ m'.1 46 0 = nI (nA m - dOff m) ∧
  (∀ t, t < nA m - dOff m → m'.1 43 t = m.1 43 (t + dOff m) ∧ m'.1 44 t = m.1 44 (t + dOff m) ∧ m'.1 45 t = m.1 45 (t + dOff m))
/-- in the loop that moves the acts down, with the first i - 1 moved -/
def didI (m : mS) (i : Nat) (m' : mS) : Prop := m'.2 = m.2 ∧ (∀ j, j ≠ 17 → j ≠ 30 → j ≠ 43 → j ≠ 44 → j ≠ 45 → m'.1 j = m.1 j) ∧ m'.1 17 0 = nI 0 ∧ m'.1 30 0 = nI 0 ∧
  (∀ t, t + 1 < i → m'.1 43 t = m.1 43 (t + 1) ∧ m'.1 44 t = m.1 44 (t + 1) ∧ m'.1 45 t = m.1 45 (t + 1)) ∧ (∀ t, i ≤ t + 1 → m'.1 43 t = m.1 43 t ∧ m'.1 44 t = m.1 44 t ∧ m'.1 45 t = m.1 45 t)
theorem didI_step {m m' : mS} {i : Nat} (hi : 1 ≤ i) (h : didI m i m') : didI m (i + 1) (mset (mset (mset m' 43 (i - 1) (m'.1 43 i)) 44 (i - 1) (m'.1 44 i)) 45 (i - 1) (m'.1 45 i)) := by
  obtain ⟨h1, h2, h3, h4, h5, h6⟩ := h
  refine ⟨h1, fun j a1 a2 a3 a4 a5 => ?_, h3, h4, fun t ht => ?_, fun t ht => ?_⟩
  · rw [mset_ne a5, mset_ne a4, mset_ne a3]
    exact h2 j a1 a2 a3 a4 a5
  · by_cases e : t = i - 1
    · subst e
      obtain ⟨q1, q2, q3⟩ := h6 i (by omega)
      have e2 : i - 1 + 1 = i := by omega
      rw [e2]
      simp [mset, upd, q1, q2, q3]
    · obtain ⟨q1, q2, q3⟩ := h5 t (by omega)
      simp [mset, upd, e, q1, q2, q3]
  · obtain ⟨q1, q2, q3⟩ := h6 t (by omega)
    have e : t ≠ i - 1 := by omega
    simp [mset, upd, e, q1, q2, q3]
theorem didP_end {m m' : mS} {kd o w : Int32} (h : didP m m') : didR m kd o w (mset (mset (mset (mset m' 43 (nA m - dOff m) kd) 44 (nA m - dOff m) o) 45 (nA m - dOff m) w) 46 0 (nI (nA m - dOff m + 1))) := by
  obtain ⟨h1, h2, h3, h4, h5, h6⟩ := h
  refine ⟨h1, fun j a1 a2 a3 a4 a5 a6 => ?_, h3, h4, mset_at _ _ _ _, fun t ht => ?_, ?_, ?_, ?_⟩
  · rw [mset_ne a6, mset_ne a5, mset_ne a4, mset_ne a3]
    exact h2 j a1 a2 a3 a4 a5 a6
  · obtain ⟨q1, q2, q3⟩ := h6 t ht
    have e : t ≠ nA m - dOff m := by omega
    simp [mset, upd, e, q1, q2, q3]
  · simp [mset, upd]
  · simp [mset, upd]
  · simp [mset, upd]

set_option maxHeartbeats 4000000 in
theorem k_did (G : vx_G) (x : vx_H) (m : mS) (hA : iA m) (kd o w : Int32) : xK G M_X10_did 0 [(.ref MB), (.int kd), (.int o), (.int w)] NT (hp x m) 0 0 (QV (fun n' h' => n' = NT ∧ ∃ m', h' = hp x m' ∧ didR m kd o w m')) := by
  have hA2 := hA.2
  have j93 : ∀ (m' : mS), (didP m m') → xV (mF G M_X10_did 0 0 0 (QV (fun n' h' => n' = NT ∧ ∃ m', h' = hp x m' ∧ didR m kd o w m'))) 93 [some (.ref MB), some (.int kd), some (.int o), some (.int w), none] [] NT (hp x m') 0 0 := by
    intro m' hd0
    have hlt : nA m - dOff m < 60 := by unfold dOff; split <;> omega
    refine x_aload0 dX10_did_93 ?_
    refine gm43 fgX10_107 dX10_did_94 ?_
    refine x_aload0 dX10_did_97 ?_
    refine gm46 fgX10_130 dX10_did_98 ?_
    refine xV.toi (nI (nA m - dOff m)) (hd0.2.2.2.2.1) ?_
    refine x_iload1 dX10_did_101 ?_
    refine sm43 (nA m - dOff m) rfl (by omega) dX10_did_102 ?_
    refine x_aload0 dX10_did_103 ?_
    refine gm44 fgX10_110 dX10_did_104 ?_
    refine x_aload0 dX10_did_107 ?_
    refine gm46 fgX10_130 dX10_did_108 ?_
    refine xV.toi (nI (nA m - dOff m)) (hd0.2.2.2.2.1) ?_
    refine x_iload2 dX10_did_111 ?_
    refine sm44 (nA m - dOff m) rfl (by omega) dX10_did_112 ?_
    refine x_aload0 dX10_did_113 ?_
    refine gm45 fgX10_113 dX10_did_114 ?_
    refine x_aload0 dX10_did_117 ?_
    refine gm46 fgX10_130 dX10_did_118 ?_
    refine xV.toi (nI (nA m - dOff m)) (hd0.2.2.2.2.1) ?_
    refine x_iload3 dX10_did_121 ?_
    refine sm45 (nA m - dOff m) rfl (by omega) dX10_did_122 ?_
    refine x_aload0 dX10_did_123 ?_
    refine x_dup dX10_did_124 rfl ?_
    refine gm46 fgX10_130 dX10_did_125 ?_
    refine xV.toi (nI (nA m - dOff m)) (hd0.2.2.2.2.1) ?_
    refine x_iconst (nI 1) dX10_did_128 (by decide) ?_
    refine n_iadd dX10_did_129 ?_
    refine pm46 fpX10_130 dX10_did_130 ?_
    refine x_vret dX10_did_133 rfl ?_ (Nat.zero_le _) (Nat.zero_le _)
    exact ⟨rfl, _, rfl, didP_end hd0⟩
  have lp : ∀ (n_ : Nat) (i : Nat) (m' : mS), i ≤ 60 → 60 + 1 ≤ i + n_ → (1 ≤ i) → (didI m i m') → (dOff m = 1) → (nA m = 60) → xV (mF G M_X10_did 0 0 0 (QV (fun n' h' => n' = NT ∧ ∃ m', h' = hp x m' ∧ didR m kd o w m'))) 22 [some (.ref MB), some (.int kd), some (.int o), some (.int w), some (.int (nI (i)))] [] NT (hp x m') 0 0 := by
    intro n_
    induction n_ with
    | zero => intro i m' hi_ hn_; omega
    | succ n_ ih =>
      intro i m' hi_ hn_ h1 hv ho hc
      refine x_iload4 dX10_did_22 ?_
      refine x_bipush (nI 60) dX10_did_24 (by decide) ?_
      refine n_icmp_ge 83 dX10_did_26 (by decide) (by omega) (by omega) (fun c26 => ?_) (fun c26 => ?_)
      · have e60 : i = 60 := by omega
        subst e60
        refine x_aload0 dX10_did_83 ?_
        refine x_dup dX10_did_84 rfl ?_
        refine gm46 fgX10_130 dX10_did_85 ?_
        refine xV.toi (nI (60)) ((hv.2.1 46 (by decide) (by decide) (by decide) (by decide) (by decide)) ▸ (hc ▸ hA.1)) ?_
        refine x_iconst (nI 1) dX10_did_88 (by decide) ?_
        refine n_isub dX10_did_89 (by omega) ?_
        refine pm46 fpX10_130 dX10_did_90 ?_
        refine xV.lvle (L' := [some (.ref MB), some (.int kd), some (.int o), some (.int w), none]) ⟨rfl, rfl, rfl, rfl, trivial⟩ (j93 _ ?_)
        obtain ⟨g1, g2, g3, g4, g5, g6⟩ := hv
        refine ⟨g1, fun j a1 a2 a3 a4 a5 a6 => by rw [mset_ne a6]; exact g2 j a1 a2 a3 a4 a5, g3, g4, ?_, fun t ht => ?_⟩
        · rw [mset_at, ho, hc]
        · rw [ho] at ht ⊢; exact g5 t (by omega)
      · refine x_aload0 dX10_did_29 ?_
        refine gm43 fgX10_107 dX10_did_30 ?_
        refine x_iload4 dX10_did_33 ?_
        refine x_iconst (nI 1) dX10_did_35 (by decide) ?_
        refine n_isub dX10_did_36 (by omega) ?_
        refine x_aload0 dX10_did_37 ?_
        refine gm43 fgX10_107 dX10_did_38 ?_
        refine x_iload4 dX10_did_41 ?_
        refine lm43 (i) rfl (by omega) dX10_did_43 ?_
        refine sm43 (i - 1) rfl (by omega) dX10_did_44 ?_
        refine x_aload0 dX10_did_45 ?_
        refine gm44 fgX10_110 dX10_did_46 ?_
        refine x_iload4 dX10_did_49 ?_
        refine x_iconst (nI 1) dX10_did_51 (by decide) ?_
        refine n_isub dX10_did_52 (by omega) ?_
        refine x_aload0 dX10_did_53 ?_
        refine gm44 fgX10_110 dX10_did_54 ?_
        refine x_iload4 dX10_did_57 ?_
        refine lm44 (i) rfl (by omega) dX10_did_59 ?_
        refine sm44 (i - 1) rfl (by omega) dX10_did_60 ?_
        refine x_aload0 dX10_did_61 ?_
        refine gm45 fgX10_113 dX10_did_62 ?_
        refine x_iload4 dX10_did_65 ?_
        refine x_iconst (nI 1) dX10_did_67 (by decide) ?_
        refine n_isub dX10_did_68 (by omega) ?_
        refine x_aload0 dX10_did_69 ?_
        refine gm45 fgX10_113 dX10_did_70 ?_
        refine x_iload4 dX10_did_73 ?_
        refine lm45 (i) rfl (by omega) dX10_did_75 ?_
        refine sm45 (i - 1) rfl (by omega) dX10_did_76 ?_
        refine x_iinc4 (nI (i + 1)) dX10_did_77 (nI_add i 1) rfl rfl rfl ?_
        refine x_goto 22 dX10_did_80 (by decide) ?_
        exact ih (i + 1) _ (by omega) (by omega) (by omega) (didI_step h1 hv) ho hc
  refine xK.ofV (by decide) (Nat.le_of_ble_eq_true rfl) ?_
  refine xV.lveq (L' := [some (.ref MB), some (.int kd), some (.int o), some (.int w), none]) rfl ?_
  refine x_aload0 dX10_did_0 ?_
  refine x_iconst (nI 0) dX10_did_1 (by decide) ?_
  refine pm17 fpX10_123 dX10_did_2 (Or.inl nI_0) ?_
  refine x_aload0 dX10_did_5 ?_
  refine x_iconst (nI 0) dX10_did_6 (by decide) ?_
  refine pm30 fpX10_127 dX10_did_7 (Or.inl nI_0) ?_
  refine x_aload0 dX10_did_10 ?_
  refine gm46 fgX10_130 dX10_did_11 ?_
  refine xV.toi (nI (nA m)) (hA.1) ?_
  refine x_bipush (nI 60) dX10_did_14 (by decide) ?_
  refine n_icmp_ne 93 dX10_did_16 (by decide) (by omega) (by omega) (fun c16 => ?_) (fun c16 => ?_)
  · have ho : dOff m = 0 := if_neg c16
    refine xV.lvle (L' := [some (.ref MB), some (.int kd), some (.int o), some (.int w), none]) ⟨rfl, rfl, rfl, rfl, trivial⟩ (j93 _ ?_)
    refine ⟨rfl, fun j a1 a2 a3 a4 a5 a6 => by rw [mset_ne a2, mset_ne a1], rfl, rfl, ?_, fun t ht => ?_⟩
    · rw [ho]; exact hA.1
    · rw [ho]; exact ⟨rfl, rfl, rfl⟩
  · have ho : dOff m = 1 := if_pos c16
    refine x_iconst (nI 1) dX10_did_19 (by decide) ?_
    refine x_istore4 dX10_did_20 rfl rfl rfl ?_
    refine lp 60 1 _ (by decide) (by decide) (by decide) ⟨rfl, fun j a1 a2 a3 a4 a5 => by rw [mset_ne a2, mset_ne a1], rfl, rfl, fun t ht => absurd ht (by omega), fun t ht => ⟨rfl, rfl, rfl⟩⟩ ho c16
