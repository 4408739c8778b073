/-! ===== the desk's methods, 4: fit, groups made, acts carried out and taken back ===== -/
def fOk (d : mS) (A : Nat) : Prop := (-1000000 ≤ (d.1 0 A).toInt ∧ (d.1 0 A).toInt ≤ 1000000) ∧ 0 ≤ (d.1 1 A).toInt ∧ (d.1 1 A).toInt ≤ 9999
theorem ap_abs {a b : Int32} (h1 : -1000000 ≤ a.toInt) (h2 : a.toInt ≤ 1000000) (h3 : -1000000 ≤ b.toInt) (h4 : b.toInt ≤ 1000000) : (if 0 ≤ a - b then a - b else 0 - (a - b)) = apI a b := by
  unfold apI
  have e : (a - b).toInt = a.toInt - b.toInt := by
    rw [zI_of a, zI_of b, zI_sub, zI_T (by omega) (by omega), zI_T (by omega) (by omega), zI_T (by omega) (by omega)]
  by_cases q : a < b
  · have q' := Int32.lt_iff_toInt_lt.mp q
    rw [if_neg (fun z => by have := Int32.le_iff_toInt_le.mp z; rw [e] at this; simp at this; omega), if_pos q]
    rw [zI_of a, zI_of b, zI_sub, zI_sub, show (0 : Int32) = zI 0 from zI_0.symm, zI_sub]
    congr 1; omega
  · have q' : b.toInt ≤ a.toInt := Int32.le_iff_toInt_le.mp (iNL.mp q)
    rw [if_pos (Int32.le_iff_toInt_le.mpr (by rw [e]; simp; omega)), if_neg q]
theorem mx1 (F : Int32) : (if nI 1 < F then F else nI 1) = (if F < nI 1 then nI 1 else F) := by
  by_cases q : F < nI 1
  · rw [if_pos q, if_neg (fun z => Int32.lt_irrefl (Int32.lt_trans q z))]
  · rw [if_neg q]
    by_cases z : nI 1 < F
    · rw [if_pos z]
    · rw [if_neg z]; exact Int32.le_antisymm (iNL.mp q) (iNL.mp z)

theorem ft_no {d : mS} {A C : Nat} (h : noFit d A C) : nI 0 = fitV d A C := (if_pos h).symm
theorem ft_yes {d : mS} {A C : Nat} (h : ¬ noFit d A C) : (if nI 1 < fitF d A C then fitF d A C else nI 1) = fitV d A C := by
  unfold fitV
  rw [if_neg h, mx1]

theorem i_add0 (v : Int32) : v + nI 0 = v := by rw [nI_0]; exact Int32.add_zero v
theorem mk_eq {d : mS} {A C : Nat} (h : ¬ noFit d A C) (hk : (¬ d.1 3 A = 0 ∧ ¬ d.1 3 C = 0)) : d.1 3 A = d.1 3 C := Decidable.of_not_not (fun q => h (Or.inr (Or.inr ⟨hk.1, hk.2, q⟩)))
theorem e50 {d : mS} {A C : Nat} (h : ¬ noFit d A C) (hk : (¬ d.1 3 A = 0 ∧ ¬ d.1 3 C = 0)) : (nI 100 - nI 2 * apI (d.1 1 A) (d.1 1 C) - apI (d.1 0 A) (d.1 0 C) / nI 100 + (if ¬ d.1 3 A = 0 ∧ d.1 3 A = d.1 3 C then nI 50 else nI 0)) = nI 100 - nI 2 * apI (d.1 1 A) (d.1 1 C) - apI (d.1 0 A) (d.1 0 C) / nI 100 + nI 50 := by rw [if_pos ⟨hk.1, mk_eq h hk⟩]
theorem e50n {d : mS} {A C : Nat} (hk : ¬ (¬ d.1 3 A = 0 ∧ ¬ d.1 3 C = 0)) : (nI 100 - nI 2 * apI (d.1 1 A) (d.1 1 C) - apI (d.1 0 A) (d.1 0 C) / nI 100 + (if ¬ d.1 3 A = 0 ∧ d.1 3 A = d.1 3 C then nI 50 else nI 0)) = nI 100 - nI 2 * apI (d.1 1 A) (d.1 1 C) - apI (d.1 0 A) (d.1 0 C) / nI 100 := by rw [if_neg (fun q => hk ⟨q.1, fun z => q.1 (q.2.trans z)⟩), i_add0]
theorem e30 {d : mS} {A C : Nat} (h : d.1 2 A = d.1 2 C) : (nI 100 - nI 2 * apI (d.1 1 A) (d.1 1 C) - apI (d.1 0 A) (d.1 0 C) / nI 100 + (if ¬ d.1 3 A = 0 ∧ d.1 3 A = d.1 3 C then nI 50 else nI 0)) + nI 30 = ((nI 100 - nI 2 * apI (d.1 1 A) (d.1 1 C) - apI (d.1 0 A) (d.1 0 C) / nI 100 + (if ¬ d.1 3 A = 0 ∧ d.1 3 A = d.1 3 C then nI 50 else nI 0)) + (if d.1 2 A = d.1 2 C then nI 30 else nI 0)) := by rw [if_pos h]
theorem e30n {d : mS} {A C : Nat} (h : ¬ d.1 2 A = d.1 2 C) : (nI 100 - nI 2 * apI (d.1 1 A) (d.1 1 C) - apI (d.1 0 A) (d.1 0 C) / nI 100 + (if ¬ d.1 3 A = 0 ∧ d.1 3 A = d.1 3 C then nI 50 else nI 0)) = ((nI 100 - nI 2 * apI (d.1 1 A) (d.1 1 C) - apI (d.1 0 A) (d.1 0 C) / nI 100 + (if ¬ d.1 3 A = 0 ∧ d.1 3 A = d.1 3 C then nI 50 else nI 0)) + (if d.1 2 A = d.1 2 C then nI 30 else nI 0)) := by rw [if_neg h]; exact (i_add0 _).symm
theorem mk_t {d : mS} {A C : Nat} (h1 : ¬ d.1 3 A = 0) (h2 : ¬ d.1 3 C = 0) : nI 1 = bI (¬ d.1 3 A = 0 ∧ ¬ d.1 3 C = 0) := by rw [bI_t ⟨h1, h2⟩]; exact nI1
theorem mk_f1 {d : mS} {A C : Nat} (h1 : d.1 3 A = 0) : nI 0 = bI (¬ d.1 3 A = 0 ∧ ¬ d.1 3 C = 0) := by rw [bI_f (fun q => q.1 h1)]; exact nI_0
theorem mk_f2 {d : mS} {A C : Nat} (h1 : d.1 3 C = 0) : nI 0 = bI (¬ d.1 3 A = 0 ∧ ¬ d.1 3 C = 0) := by rw [bI_f (fun q => q.2 h1)]; exact nI_0

set_option maxHeartbeats 4000000 in
theorem kd_fitOf (G : vx_G) (d m : mS) (hG : iG d) (hp_ : dP d) (hM : iMs d) (A C : Nat) (hA : A < 160) (hC : C < 160) (hA1 : fOk d A) (hC1 : fOk d C) : xK G M_X9_fitOf 2 [(.ref 0), (.ref (lC A)), (.ref (lC C))] NT (hp (dk d) m) 0 0 (QI (fun r n' h' => r = fitV d A C ∧ n' = NT ∧ h' = hp (dk d) m)) := by
  have b119 : (¬ noFit d A C) → xV (mF G M_X9_fitOf 2 0 0 (QI (fun r n' h' => r = fitV d A C ∧ n' = NT ∧ h' = hp (dk d) m))) 119 [some (.ref 0), some (.ref (lC A)), some (.ref (lC C)), some (.int (apI (d.1 1 A) (d.1 1 C))), some (.int (apI (d.1 0 A) (d.1 0 C))), some (.int (bI (¬ d.1 3 A = 0 ∧ ¬ d.1 3 C = 0))), some (.int (((nI 100 - nI 2 * apI (d.1 1 A) (d.1 1 C) - apI (d.1 0 A) (d.1 0 C) / nI 100 + (if ¬ d.1 3 A = 0 ∧ d.1 3 A = d.1 3 C then nI 50 else nI 0)) + (if d.1 2 A = d.1 2 C then nI 30 else nI 0))))] [] NT (hp (dk d) m) 0 0 := by
    intro  hf
    refine x_iconst (nI 1) dX9_fitOf_119 (by decide) ?_
    refine x_iload6 dX9_fitOf_120 ?_
    refine x_bipush (nI 10) dX9_fitOf_122 (by decide) ?_
    refine x_aload0 dX9_fitOf_124 ?_
    refine x_aload1 dX9_fitOf_125 ?_
    refine gL5 (by omega) fgX9_112 dX9_fitOf_126 ?_
    refine x_aload2 dX9_fitOf_129 ?_
    refine gL5 (by omega) fgX9_112 dX9_fitOf_130 ?_
    refine x_callV2i mvX9_326 (kd_learnt G d m hG hp_ hM (d.1 2 A) (d.1 2 C)) (show (0 : Nat) < NT by decide) (hd_at (a := 0) (by decide) rfl) (xRoom.of rfl) (Nat.le_of_ble_eq_true rfl) dX9_fitOf_133 (fun r_ n_ h_ hq => ?_)
    obtain ⟨rfl, rfl, rfl⟩ := hq
    refine n_imul dX9_fitOf_136 ?_
    refine x_iadd dX9_fitOf_137 ?_
    refine x_max mmX9_329 (Nat.le_of_ble_eq_true rfl) (Nat.le_of_ble_eq_true rfl) (Nat.le_of_ble_eq_true rfl) (Nat.le_of_ble_eq_true rfl) dX9_fitOf_138 ?_
    refine x_iret dX9_fitOf_141 rfl ?_ (Nat.zero_le _) (Nat.zero_le _)
    exact ⟨ft_yes hf, rfl, rfl⟩
  have b105 : (¬ noFit d A C) → xV (mF G M_X9_fitOf 2 0 0 (QI (fun r n' h' => r = fitV d A C ∧ n' = NT ∧ h' = hp (dk d) m))) 105 [some (.ref 0), some (.ref (lC A)), some (.ref (lC C)), some (.int (apI (d.1 1 A) (d.1 1 C))), some (.int (apI (d.1 0 A) (d.1 0 C))), some (.int (bI (¬ d.1 3 A = 0 ∧ ¬ d.1 3 C = 0))), some (.int ((nI 100 - nI 2 * apI (d.1 1 A) (d.1 1 C) - apI (d.1 0 A) (d.1 0 C) / nI 100 + (if ¬ d.1 3 A = 0 ∧ d.1 3 A = d.1 3 C then nI 50 else nI 0))))] [] NT (hp (dk d) m) 0 0 := by
    intro  hf
    refine x_aload1 dX9_fitOf_105 ?_
    refine gL5 (by omega) fgX9_112 dX9_fitOf_106 ?_
    refine x_aload2 dX9_fitOf_109 ?_
    refine gL5 (by omega) fgX9_112 dX9_fitOf_110 ?_
    refine x_icmp_ne 119 dX9_fitOf_113 (by decide) (fun c113 => ?_) (fun c113 => ?_)
    · first | (rw [e30 c113]; exact b119 hf) | (rw [e30n c113]; exact b119 hf)
    · refine x_iinc6 ((nI 100 - nI 2 * apI (d.1 1 A) (d.1 1 C) - apI (d.1 0 A) (d.1 0 C) / nI 100 + (if ¬ d.1 3 A = 0 ∧ d.1 3 A = d.1 3 C then nI 50 else nI 0)) + nI 30) dX9_fitOf_116 (rfl) rfl rfl rfl ?_
      first | (rw [e30 c113]; exact b119 hf) | (rw [e30n c113]; exact b119 hf)
  have b83 : (¬ noFit d A C) → xV (mF G M_X9_fitOf 2 0 0 (QI (fun r n' h' => r = fitV d A C ∧ n' = NT ∧ h' = hp (dk d) m))) 83 [some (.ref 0), some (.ref (lC A)), some (.ref (lC C)), some (.int (apI (d.1 1 A) (d.1 1 C))), some (.int (apI (d.1 0 A) (d.1 0 C))), some (.int (bI (¬ d.1 3 A = 0 ∧ ¬ d.1 3 C = 0))), none] [] NT (hp (dk d) m) 0 0 := by
    intro  hf
    refine x_bipush (nI 100) dX9_fitOf_83 (by decide) ?_
    refine x_iconst (nI 2) dX9_fitOf_85 (by decide) ?_
    refine x_iload3 dX9_fitOf_86 ?_
    refine x_imul dX9_fitOf_87 ?_
    refine x_isub dX9_fitOf_88 ?_
    refine x_iload4 dX9_fitOf_89 ?_
    refine x_bipush (nI 100) dX9_fitOf_91 (by decide) ?_
    refine x_idiv dX9_fitOf_93 (by decide) ?_
    refine x_isub dX9_fitOf_94 ?_
    refine x_istore6 dX9_fitOf_95 rfl rfl rfl ?_
    refine x_iload5 dX9_fitOf_97 ?_
    refine b_if_eq 105 dX9_fitOf_99 (by decide) (fun c99 => ?_) (fun c99 => ?_)
    · first | (rw [← e50 hf c99]; exact b105 hf) | (rw [← e50n c99]; exact b105 hf)
    · refine x_iinc6 (nI 100 - nI 2 * apI (d.1 1 A) (d.1 1 C) - apI (d.1 0 A) (d.1 0 C) / nI 100 + nI 50) dX9_fitOf_102 (rfl) rfl rfl rfl ?_
      first | (rw [← e50 hf c99]; exact b105 hf) | (rw [← e50n c99]; exact b105 hf)
  have b48 : xV (mF G M_X9_fitOf 2 0 0 (QI (fun r n' h' => r = fitV d A C ∧ n' = NT ∧ h' = hp (dk d) m))) 48 [some (.ref 0), some (.ref (lC A)), some (.ref (lC C)), some (.int (apI (d.1 1 A) (d.1 1 C))), some (.int (apI (d.1 0 A) (d.1 0 C))), some (.int (bI (¬ d.1 3 A = 0 ∧ ¬ d.1 3 C = 0))), none] [] NT (hp (dk d) m) 0 0 := by
    refine x_iload3 dX9_fitOf_48 ?_
    refine x_aload0 dX9_fitOf_49 ?_
    refine go0_8 fgX9_59 dX9_fitOf_50 ?_
    refine x_icmp_gt 81 dX9_fitOf_53 (by decide) (fun c53 => ?_) (fun c53 => ?_)
    · refine x_iconst (nI 0) dX9_fitOf_81 (by decide) ?_
      refine x_iret dX9_fitOf_82 rfl ?_ (Nat.zero_le _) (Nat.zero_le _)
      first | exact ⟨ft_no (Or.inl c53), rfl, rfl⟩ | exact ⟨ft_no (Or.inr (Or.inl c62)), rfl, rfl⟩ | exact ⟨ft_no (Or.inr (Or.inr ⟨c67.1, c67.2, c78⟩)), rfl, rfl⟩
    · refine x_iload4 dX9_fitOf_56 ?_
      refine x_aload0 dX9_fitOf_58 ?_
      refine go0_9 fgX9_62 dX9_fitOf_59 ?_
      refine x_icmp_gt 81 dX9_fitOf_62 (by decide) (fun c62 => ?_) (fun c62 => ?_)
      · refine x_iconst (nI 0) dX9_fitOf_81 (by decide) ?_
        refine x_iret dX9_fitOf_82 rfl ?_ (Nat.zero_le _) (Nat.zero_le _)
        first | exact ⟨ft_no (Or.inl c53), rfl, rfl⟩ | exact ⟨ft_no (Or.inr (Or.inl c62)), rfl, rfl⟩ | exact ⟨ft_no (Or.inr (Or.inr ⟨c67.1, c67.2, c78⟩)), rfl, rfl⟩
      · refine x_iload5 dX9_fitOf_65 ?_
        refine b_if_eq 83 dX9_fitOf_67 (by decide) (fun c67 => ?_) (fun c67 => ?_)
        · first | exact b83 (fun q => q.elim c53 (fun q => q.elim c62 (fun q => c67 ⟨q.1, q.2.1⟩))) | exact b83 (fun q => q.elim c53 (fun q => q.elim c62 (fun q => q.2.2 c78)))
        · refine x_aload1 dX9_fitOf_70 ?_
          refine gL4 (by omega) fgX9_115 dX9_fitOf_71 ?_
          refine x_aload2 dX9_fitOf_74 ?_
          refine gL4 (by omega) fgX9_115 dX9_fitOf_75 ?_
          refine x_icmp_eq 83 dX9_fitOf_78 (by decide) (fun c78 => ?_) (fun c78 => ?_)
          · first | exact b83 (fun q => q.elim c53 (fun q => q.elim c62 (fun q => c67 ⟨q.1, q.2.1⟩))) | exact b83 (fun q => q.elim c53 (fun q => q.elim c62 (fun q => q.2.2 c78)))
          · refine x_iconst (nI 0) dX9_fitOf_81 (by decide) ?_
            refine x_iret dX9_fitOf_82 rfl ?_ (Nat.zero_le _) (Nat.zero_le _)
            first | exact ⟨ft_no (Or.inl c53), rfl, rfl⟩ | exact ⟨ft_no (Or.inr (Or.inl c62)), rfl, rfl⟩ | exact ⟨ft_no (Or.inr (Or.inr ⟨c67.1, c67.2, c78⟩)), rfl, rfl⟩
  refine xK.ofV (by decide) (Nat.le_of_ble_eq_true rfl) ?_
  refine xV.lveq (L' := [some (.ref 0), some (.ref (lC A)), some (.ref (lC C)), none, none, none, none]) rfl ?_
  refine x_aload1 dX9_fitOf_0 ?_
  refine gL3 (by omega) fgX9_109 dX9_fitOf_1 ?_
  refine x_aload2 dX9_fitOf_4 ?_
  refine gL3 (by omega) fgX9_109 dX9_fitOf_5 ?_
  refine x_isub dX9_fitOf_8 ?_
  refine x_abs mmX9_321 (Nat.le_of_ble_eq_true rfl) (Nat.le_of_ble_eq_true rfl) (Nat.le_of_ble_eq_true rfl) (Nat.le_of_ble_eq_true rfl) dX9_fitOf_9 ?_
  refine xV.toi (apI (d.1 1 A) (d.1 1 C)) (ap_abs (by have := hA1.2; omega) (by have := hA1.2; omega) (by have := hC1.2; omega) (by have := hC1.2; omega)) ?_
  refine x_istore3 dX9_fitOf_12 rfl rfl rfl ?_
  refine x_aload1 dX9_fitOf_13 ?_
  refine gL2 (by omega) fgX9_106 dX9_fitOf_14 ?_
  refine x_aload2 dX9_fitOf_17 ?_
  refine gL2 (by omega) fgX9_106 dX9_fitOf_18 ?_
  refine x_isub dX9_fitOf_21 ?_
  refine x_abs mmX9_321 (Nat.le_of_ble_eq_true rfl) (Nat.le_of_ble_eq_true rfl) (Nat.le_of_ble_eq_true rfl) (Nat.le_of_ble_eq_true rfl) dX9_fitOf_22 ?_
  refine xV.toi (apI (d.1 0 A) (d.1 0 C)) (ap_abs hA1.1.1 hA1.1.2 hC1.1.1 hC1.1.2) ?_
  refine x_istore4 dX9_fitOf_25 rfl rfl rfl ?_
  refine x_aload1 dX9_fitOf_27 ?_
  refine gL4 (by omega) fgX9_115 dX9_fitOf_28 ?_
  refine x_if_eq 45 dX9_fitOf_31 (by decide) (fun c31 => ?_) (fun c31 => ?_)
  · refine x_iconst (nI 0) dX9_fitOf_45 (by decide) ?_
    refine x_istore5 dX9_fitOf_46 rfl rfl rfl ?_
    first | (rw [mk_t (A := A) (C := C) c31 c38]; exact b48) | (rw [mk_f1 (A := A) (C := C) c31]; exact b48) | (rw [mk_f2 (A := A) (C := C) c38]; exact b48)
  · refine x_aload2 dX9_fitOf_34 ?_
    refine gL4 (by omega) fgX9_115 dX9_fitOf_35 ?_
    refine x_if_eq 45 dX9_fitOf_38 (by decide) (fun c38 => ?_) (fun c38 => ?_)
    · refine x_iconst (nI 0) dX9_fitOf_45 (by decide) ?_
      refine x_istore5 dX9_fitOf_46 rfl rfl rfl ?_
      first | (rw [mk_t (A := A) (C := C) c31 c38]; exact b48) | (rw [mk_f1 (A := A) (C := C) c31]; exact b48) | (rw [mk_f2 (A := A) (C := C) c38]; exact b48)
    · refine x_iconst (nI 1) dX9_fitOf_41 (by decide) ?_
      refine x_goto 46 dX9_fitOf_42 (by decide) ?_
      refine x_istore5 dX9_fitOf_46 rfl rfl rfl ?_
      first | (rw [mk_t (A := A) (C := C) c31 c38]; exact b48) | (rw [mk_f1 (A := A) (C := C) c31]; exact b48) | (rw [mk_f2 (A := A) (C := C) c38]; exact b48)
