/-! ===== the model's methods, 3: line, newGroup, add, apart ===== -/
abbrev okLn (b v dm w : Int32) : Prop := (nI 0 ≤ b ∧ b ≤ nI 1) ∧ ((-1000000) ≤ v ∧ v ≤ nI 1000000) ∧ ¬ v = 0 ∧ (nI 0 ≤ dm ∧ dm ≤ nI 99999999) ∧ nI 0 ≤ w ∧ w ≤ nI 99
/-- a line is written behind the last one of book B -/
def lineM (m : mS) (B : Nat) (v : Int32) (D : Nat) (w : Int32) : mS := mset (mset (mset (mset (mset (mset (mset m 0 (80 * B + nL m B) v) 1 (80 * B + nL m B) (nI (D / 10000))) 3 (80 * B + nL m B) (nI (D % 10000))) 2 (80 * B + nL m B) w) 4 (80 * B + nL m B) (m.1 7 0)) 5 (80 * B + nL m B) (-1)) 6 B (nI (nL m B + 1))
def lineR (m : mS) (b v dm w : Int32) (r : Int32) (m' : mS) : Prop := if okLn b v dm w then (if nL m (nv b) = 80 then r = -5 ∧ m' = m else r = nI (nL m (nv b)) ∧ didR (lineM m (nv b) v (nv dm) w) (nI 0) b (nI 0) m') else r = -1 ∧ m' = m

set_option maxHeartbeats 4000000 in
theorem k_line (G : vx_G) (x : vx_H) (m : mS) (hL : iL m) (hA : iA m) (b v dm w : Int32) : xK G M_X10_line 1 [(.ref MB), (.int b), (.int v), (.int dm), (.int w)] NT (hp x m) 0 0 (QI (fun r n' h' => n' = NT ∧ ∃ m', h' = hp x m' ∧ lineR m b v dm w r m')) := by
  refine xK.ofV (by decide) (Nat.le_of_ble_eq_true rfl) ?_
  refine xV.lveq (L' := [some (.ref MB), some (.int b), some (.int v), some (.int dm), some (.int w), none]) rfl ?_
  refine x_iload1 dX10_line_0 ?_
  refine x_iconst (nI 0) dX10_line_1 (by decide) ?_
  refine x_iconst (nI 1) dX10_line_2 (by decide) ?_
  refine x_callS3i msX10_116 (k_within G b (nI 0) (nI 1)) (xRoom.of rfl) (by decide) dX10_line_3 (fun r_ n_ h_ hq => ?_)
  obtain ⟨rfl, rfl, rfl⟩ := hq
  refine b_if_eq 45 dX10_line_6 (by decide) (fun c6 => ?_) (fun c6 => ?_)
  · refine x_iconst (-1) dX10_line_45 (by decide) ?_
    refine x_iret dX10_line_46 rfl ?_ (Nat.zero_le _) (Nat.zero_le _)
    refine ⟨rfl, m, rfl, ?_⟩
    unfold lineR
    rw [if_neg (by intro q; first | exact c6 q.1 | exact c17 q.2.1 | exact q.2.2.1 c21 | exact c31 q.2.2.2.1 | exact c42 q.2.2.2.2)]
    exact ⟨rfl, rfl⟩
  · refine x_iload2 dX10_line_9 ?_
    refine x_ldc kcX10_133 dX10_line_10 ?_
    refine x_ldc kcX10_134 dX10_line_12 ?_
    refine xV.toi (nI 1000000) (by decide) ?_
    refine x_callS3i msX10_116 (k_within G v (-1000000) (nI 1000000)) (xRoom.of rfl) (by decide) dX10_line_14 (fun r_ n_ h_ hq => ?_)
    obtain ⟨rfl, rfl, rfl⟩ := hq
    refine b_if_eq 45 dX10_line_17 (by decide) (fun c17 => ?_) (fun c17 => ?_)
    · refine x_iconst (-1) dX10_line_45 (by decide) ?_
      refine x_iret dX10_line_46 rfl ?_ (Nat.zero_le _) (Nat.zero_le _)
      refine ⟨rfl, m, rfl, ?_⟩
      unfold lineR
      rw [if_neg (by intro q; first | exact c6 q.1 | exact c17 q.2.1 | exact q.2.2.1 c21 | exact c31 q.2.2.2.1 | exact c42 q.2.2.2.2)]
      exact ⟨rfl, rfl⟩
    · refine x_iload2 dX10_line_20 ?_
      refine x_if_eq 45 dX10_line_21 (by decide) (fun c21 => ?_) (fun c21 => ?_)
      · refine x_iconst (-1) dX10_line_45 (by decide) ?_
        refine x_iret dX10_line_46 rfl ?_ (Nat.zero_le _) (Nat.zero_le _)
        refine ⟨rfl, m, rfl, ?_⟩
        unfold lineR
        rw [if_neg (by intro q; first | exact c6 q.1 | exact c17 q.2.1 | exact q.2.2.1 c21 | exact c31 q.2.2.2.1 | exact c42 q.2.2.2.2)]
        exact ⟨rfl, rfl⟩
      · refine x_iload3 dX10_line_24 ?_
        refine x_iconst (nI 0) dX10_line_25 (by decide) ?_
        refine x_ldc kcX10_135 dX10_line_26 ?_
        refine xV.toi (nI 99999999) (by decide) ?_
        refine x_callS3i msX10_116 (k_within G dm (nI 0) (nI 99999999)) (xRoom.of rfl) (by decide) dX10_line_28 (fun r_ n_ h_ hq => ?_)
        obtain ⟨rfl, rfl, rfl⟩ := hq
        refine b_if_eq 45 dX10_line_31 (by decide) (fun c31 => ?_) (fun c31 => ?_)
        · refine x_iconst (-1) dX10_line_45 (by decide) ?_
          refine x_iret dX10_line_46 rfl ?_ (Nat.zero_le _) (Nat.zero_le _)
          refine ⟨rfl, m, rfl, ?_⟩
          unfold lineR
          rw [if_neg (by intro q; first | exact c6 q.1 | exact c17 q.2.1 | exact q.2.2.1 c21 | exact c31 q.2.2.2.1 | exact c42 q.2.2.2.2)]
          exact ⟨rfl, rfl⟩
        · refine x_iload4 dX10_line_34 ?_
          refine x_iconst (nI 0) dX10_line_36 (by decide) ?_
          refine x_bipush (nI 99) dX10_line_37 (by decide) ?_
          refine x_callS3i msX10_116 (k_within G w (nI 0) (nI 99)) (xRoom.of rfl) (by decide) dX10_line_39 (fun r_ n_ h_ hq => ?_)
          obtain ⟨rfl, rfl, rfl⟩ := hq
          refine b_if_ne 47 dX10_line_42 (by decide) (fun c42 => ?_) (fun c42 => ?_)
          · have hok : okLn b v dm w := ⟨c6, c17, c21, c31, c42⟩
            obtain ⟨B, hB, rfl⟩ := w_nat c6 (by decide)
            obtain ⟨D, hD, rfl⟩ := w_nat c31 (by decide)
            obtain ⟨e6, l6⟩ := hL B (by omega)
            have eB : nv (nI B) = B := nv_nI (by omega)
            have eD : nv (nI D) = D := nv_nI (by omega)
            refine x_aload0 dX10_line_47 ?_
            refine gm6 fgX10_28 dX10_line_48 ?_
            refine x_iload1 dX10_line_51 ?_
            refine lm6 (B) rfl (by omega) dX10_line_52 ?_
            refine xV.toi (nI (nL m B)) (e6) ?_
            refine x_bipush (nI 80) dX10_line_53 (by decide) ?_
            refine n_icmp_ne 61 dX10_line_55 (by decide) (by omega) (by omega) (fun c55 => ?_) (fun c55 => ?_)
            · refine x_bipush (nI 80) dX10_line_61 (by decide) ?_
              refine x_iload1 dX10_line_63 ?_
              refine n_imul dX10_line_64 ?_
              refine x_aload0 dX10_line_65 ?_
              refine gm6 fgX10_28 dX10_line_66 ?_
              refine x_iload1 dX10_line_69 ?_
              refine lm6 (B) rfl (by omega) dX10_line_70 ?_
              refine xV.toi (nI (nL m B)) (e6) ?_
              refine n_iadd dX10_line_71 ?_
              refine x_istore5 dX10_line_72 rfl rfl rfl ?_
              refine x_aload0 dX10_line_74 ?_
              refine gm0 fgX10_9 dX10_line_75 ?_
              refine x_iload5 dX10_line_78 ?_
              refine x_iload2 dX10_line_80 ?_
              refine sm0 ((80 * B) + (nL m B)) rfl (by omega) dX10_line_81 ?_
              refine x_aload0 dX10_line_82 ?_
              refine gm1 fgX10_13 dX10_line_83 ?_
              refine x_iload5 dX10_line_86 ?_
              refine x_iload3 dX10_line_88 ?_
              refine x_sipush (nI 10000) dX10_line_89 (by decide) ?_
              refine n_idiv dX10_line_92 (by omega) (by omega) (by omega) ?_
              refine sm1 ((80 * B) + (nL m B)) rfl (by omega) dX10_line_93 ?_
              refine x_aload0 dX10_line_94 ?_
              refine gm3 fgX10_19 dX10_line_95 ?_
              refine x_iload5 dX10_line_98 ?_
              refine x_iload3 dX10_line_100 ?_
              refine x_sipush (nI 10000) dX10_line_101 (by decide) ?_
              refine n_irem dX10_line_104 (by omega) (by omega) (by omega) ?_
              refine sm3 ((80 * B) + (nL m B)) rfl (by omega) dX10_line_105 ?_
              refine x_aload0 dX10_line_106 ?_
              refine gm2 fgX10_16 dX10_line_107 ?_
              refine x_iload5 dX10_line_110 ?_
              refine x_iload4 dX10_line_112 ?_
              refine sm2 ((80 * B) + (nL m B)) rfl (by omega) dX10_line_114 ?_
              refine x_aload0 dX10_line_115 ?_
              refine gm4 fgX10_22 dX10_line_116 ?_
              refine x_iload5 dX10_line_119 ?_
              refine x_aload0 dX10_line_121 ?_
              refine gm7 fgX10_136 dX10_line_122 ?_
              refine sm4 ((80 * B) + (nL m B)) rfl (by omega) dX10_line_125 ?_
              refine x_aload0 dX10_line_126 ?_
              refine gm5 fgX10_25 dX10_line_127 ?_
              refine x_iload5 dX10_line_130 ?_
              refine x_iconst (-1) dX10_line_132 (by decide) ?_
              refine sm5 ((80 * B) + (nL m B)) rfl (by omega) dX10_line_133 ?_
              refine x_aload0 dX10_line_134 ?_
              refine gm6 fgX10_28 dX10_line_135 ?_
              refine x_iload1 dX10_line_138 ?_
              refine x_dup2 dX10_line_139 rfl rfl ?_
              refine lm6 (B) rfl (by omega) dX10_line_140 ?_
              refine xV.toi (nI (nL m B)) (e6) ?_
              refine x_iconst (nI 1) dX10_line_141 (by decide) ?_
              refine n_iadd dX10_line_142 ?_
              refine sm6 (B) rfl (by omega) dX10_line_143 ?_
              refine x_aload0 dX10_line_144 ?_
              refine x_iconst (nI 0) dX10_line_145 (by decide) ?_
              refine x_iload1 dX10_line_146 ?_
              refine x_iconst (nI 0) dX10_line_147 (by decide) ?_
              refine x_callV3v mvX10_139 (k_did G x (lineM m B v D w) hA (nI 0) (nI B) (nI 0)) mb_lt0 (hp_m0 _ _) (xRoom.of rfl) (by decide) dX10_line_148 (fun n_ h_ hq => ?_)
              obtain ⟨rfl, m2, rfl, hR⟩ := hq
              have e2 : m2.1 6 B = nI (nL m B + 1) := by rw [hR.2.1 6 (by decide) (by decide) (by decide) (by decide) (by decide) (by decide)]; exact mset_at _ _ _ _
              refine x_aload0 dX10_line_151 ?_
              refine gm6 fgX10_28 dX10_line_152 ?_
              refine x_iload1 dX10_line_155 ?_
              refine lm6 (B) rfl (by omega) dX10_line_156 ?_
              refine xV.toi (nI (nL m B + 1)) (e2) ?_
              refine x_iconst (nI 1) dX10_line_157 (by decide) ?_
              refine n_isub dX10_line_158 (by omega) ?_
              refine x_iret dX10_line_159 rfl ?_ (Nat.zero_le _) (Nat.zero_le _)
              refine ⟨rfl, m2, rfl, ?_⟩
              unfold lineR
              rw [if_pos hok, eB, if_neg c55, eD]
              exact ⟨by rw [Nat.add_sub_cancel], hR⟩
            · refine x_bipush (-5) dX10_line_58 (by decide) ?_
              refine x_iret dX10_line_60 rfl ?_ (Nat.zero_le _) (Nat.zero_le _)
              refine ⟨rfl, m, rfl, ?_⟩
              unfold lineR
              rw [if_pos hok, eB, if_pos c55]
              exact ⟨rfl, rfl⟩
          · refine x_iconst (-1) dX10_line_45 (by decide) ?_
            refine x_iret dX10_line_46 rfl ?_ (Nat.zero_le _) (Nat.zero_le _)
            refine ⟨rfl, m, rfl, ?_⟩
            unfold lineR
            rw [if_neg (by intro q; first | exact c6 q.1 | exact c17 q.2.1 | exact q.2.2.1 c21 | exact c31 q.2.2.2.1 | exact c42 q.2.2.2.2)]
            exact ⟨rfl, rfl⟩

def ngM (m : mS) (s : Int32) : mS := mset (mset (mset (mset (mset (mset m 10 (nG m) s) 12 (nG m) (nI 0)) 13 (nG m) (m.1 7 0)) 14 (nG m) (-1)) 15 (nG m) (nI 0)) 16 0 (nI (nG m + 1))

set_option maxHeartbeats 4000000 in
theorem k_newGroup (G : vx_G) (x : vx_H) (m : mS) (hG : iG m) (hg : nG m < 200) (s : Int32) : xK G M_X10_newGroup 0 [(.ref MB), (.int s)] NT (hp x m) 0 0 (QI (fun r n' h' => r = nI (nG m) ∧ n' = NT ∧ h' = hp x (ngM m s))) := by
  refine xK.ofV (by decide) (Nat.le_of_ble_eq_true rfl) ?_
  refine xV.lveq (L' := [some (.ref MB), some (.int s), none]) rfl ?_
  refine x_aload0 dX10_newGroup_0 ?_
  refine gm16 fgX10_120 dX10_newGroup_1 ?_
  refine xV.toi (nI (nG m)) (hG.1) ?_
  refine x_istore2 dX10_newGroup_4 rfl rfl rfl ?_
  refine x_aload0 dX10_newGroup_5 ?_
  refine gm10 fgX10_35 dX10_newGroup_6 ?_
  refine x_iload2 dX10_newGroup_9 ?_
  refine x_iload1 dX10_newGroup_10 ?_
  refine sm10 (nG m) rfl (by omega) dX10_newGroup_11 ?_
  refine x_aload0 dX10_newGroup_12 ?_
  refine gm12 fgX10_41 dX10_newGroup_13 ?_
  refine x_iload2 dX10_newGroup_16 ?_
  refine x_iconst (nI 0) dX10_newGroup_17 (by decide) ?_
  refine sm12 (nG m) rfl (by omega) dX10_newGroup_18 ?_
  refine x_aload0 dX10_newGroup_19 ?_
  refine gm13 fgX10_44 dX10_newGroup_20 ?_
  refine x_iload2 dX10_newGroup_23 ?_
  refine x_aload0 dX10_newGroup_24 ?_
  refine gm7 fgX10_136 dX10_newGroup_25 ?_
  refine sm13 (nG m) rfl (by omega) dX10_newGroup_28 ?_
  refine x_aload0 dX10_newGroup_29 ?_
  refine gm14 fgX10_47 dX10_newGroup_30 ?_
  refine x_iload2 dX10_newGroup_33 ?_
  refine x_iconst (-1) dX10_newGroup_34 (by decide) ?_
  refine sm14 (nG m) rfl (by omega) dX10_newGroup_35 ?_
  refine x_aload0 dX10_newGroup_36 ?_
  refine gm15 fgX10_50 dX10_newGroup_37 ?_
  refine x_iload2 dX10_newGroup_40 ?_
  refine x_iconst (nI 0) dX10_newGroup_41 (by decide) ?_
  refine sm15 (nG m) rfl (by omega) (by first | exact Or.inl nI_0 | exact Or.inr nI1 | exact bI_01 _) dX10_newGroup_42 ?_
  refine x_aload0 dX10_newGroup_43 ?_
  refine x_dup dX10_newGroup_44 rfl ?_
  refine gm16 fgX10_120 dX10_newGroup_45 ?_
  refine xV.toi (nI (nG m)) (hG.1) ?_
  refine x_iconst (nI 1) dX10_newGroup_48 (by decide) ?_
  refine n_iadd dX10_newGroup_49 ?_
  refine pm16 fpX10_120 dX10_newGroup_50 ?_
  refine x_iload2 dX10_newGroup_53 ?_
  refine x_iret dX10_newGroup_54 rfl ?_ (Nat.zero_le _) (Nat.zero_le _)
  exact ⟨rfl, rfl, rfl⟩

def nM (m : mS) (g : Nat) : Nat := nv (m.1 12 g)
def adM (m : mS) (g a : Nat) : mS := mset (mset (mset m 11 (8 * g + nM m g) (nI a)) 12 g (nI (nM m g + 1))) 5 a (nI g)

set_option maxHeartbeats 4000000 in
theorem k_add (G : vx_G) (x : vx_H) (m : mS) (g a : Nat) (hg : g < 200) (ha : a < 160) (hm : m.1 12 g = nI (nM m g)) (h8 : nM m g < 8) : xK G M_X10_add 0 [(.ref MB), (.int (nI (g))), (.int (nI (a)))] NT (hp x m) 0 0 (QV (fun n' h' => n' = NT ∧ h' = hp x (adM m g a))) := by
  refine xK.ofV (by decide) (Nat.le_of_ble_eq_true rfl) ?_
  refine xV.lveq (L' := [some (.ref MB), some (.int (nI (g))), some (.int (nI (a)))]) rfl ?_
  refine x_aload0 dX10_add_0 ?_
  refine gm11 fgX10_38 dX10_add_1 ?_
  refine x_bipush (nI 8) dX10_add_4 (by decide) ?_
  refine x_iload1 dX10_add_6 ?_
  refine n_imul dX10_add_7 ?_
  refine x_aload0 dX10_add_8 ?_
  refine gm12 fgX10_41 dX10_add_9 ?_
  refine x_iload1 dX10_add_12 ?_
  refine lm12 (g) rfl (by omega) dX10_add_13 ?_
  refine xV.toi (nI (nM m g)) (hm) ?_
  refine n_iadd dX10_add_14 ?_
  refine x_iload2 dX10_add_15 ?_
  refine sm11 ((8 * g) + (nM m g)) rfl (by omega) dX10_add_16 ?_
  refine x_aload0 dX10_add_17 ?_
  refine gm12 fgX10_41 dX10_add_18 ?_
  refine x_iload1 dX10_add_21 ?_
  refine x_dup2 dX10_add_22 rfl rfl ?_
  refine lm12 (g) rfl (by omega) dX10_add_23 ?_
  refine xV.toi (nI (nM m g)) (hm) ?_
  refine x_iconst (nI 1) dX10_add_24 (by decide) ?_
  refine n_iadd dX10_add_25 ?_
  refine sm12 (g) rfl (by omega) dX10_add_26 ?_
  refine x_aload0 dX10_add_27 ?_
  refine gm5 fgX10_25 dX10_add_28 ?_
  refine x_iload2 dX10_add_31 ?_
  refine x_iload1 dX10_add_32 ?_
  refine sm5 (a) rfl (by omega) dX10_add_33 ?_
  refine x_vret dX10_add_34 rfl ?_ (Nat.zero_le _) (Nat.zero_le _)
  exact ⟨rfl, rfl⟩

set_option maxHeartbeats 4000000 in
theorem k_apart (G : vx_G) {h : vx_H} (a b : Int32) : xK G M_X10_apart 0 [(.int a), (.int b)] NT h 0 0 (QI (fun r n' h' => r = (if a < b then b - a else a - b) ∧ n' = NT ∧ h' = h)) := by
  refine xK.ofV (by decide) (Nat.le_of_ble_eq_true rfl) ?_
  refine xV.lveq (L' := [some (.int a), some (.int b)]) rfl ?_
  refine x_iload0 dX10_apart_0 ?_
  refine x_iload1 dX10_apart_1 ?_
  refine x_icmp_ge 11 dX10_apart_2 (by decide) (fun c2 => ?_) (fun c2 => ?_)
  · refine x_iload0 dX10_apart_11 ?_
    refine x_iload1 dX10_apart_12 ?_
    refine x_isub dX10_apart_13 ?_
    refine x_iret dX10_apart_14 rfl ?_ (Nat.zero_le _) (Nat.zero_le _)
    first | exact ⟨(if_pos (iNE.mp c2)).symm, rfl, rfl⟩ | exact ⟨(if_neg (iNL.mpr c2)).symm, rfl, rfl⟩
  · refine x_iload1 dX10_apart_5 ?_
    refine x_iload0 dX10_apart_6 ?_
    refine x_isub dX10_apart_7 ?_
    refine x_goto 14 dX10_apart_8 (by decide) ?_
    refine x_iret dX10_apart_14 rfl ?_ (Nat.zero_le _) (Nat.zero_le _)
    first | exact ⟨(if_pos (iNE.mp c2)).symm, rfl, rfl⟩ | exact ⟨(if_neg (iNL.mpr c2)).symm, rfl, rfl⟩

def nS (m : mS) : Nat := nv (m.1 35 0)
def iS (m : mS) : Prop := m.1 35 0 = nI (nS m) ∧ nS m ≤ 5000
abbrev isSt (m : mS) (k : Int32) : Prop := nI 0 ≤ k ∧ k < m.1 35 0
theorem isSt_nat {m : mS} (hS : iS m) {k : Int32} (h : isSt m k) : ∃ K : Nat, K < nS m ∧ k = nI K := by
  obtain ⟨h1, h2⟩ := h
  rw [hS.1] at h2
  have := hS.2
  obtain ⟨I, hI, rfl⟩ := w_nat (n := nS m) ⟨h1, Int32.le_of_lt h2⟩ (by omega)
  exact ⟨I, (nI_ltI (by omega) (by omega)).mp h2, rfl⟩

set_option maxHeartbeats 4000000 in
theorem k_size (G : vx_G) (x : vx_H) (m : mS) (hS : iS m) (k : Int32) : xK G M_X10_size 0 [(.ref MB), (.int k)] NT (hp x m) 0 0 (QI (fun r n' h' => r = (if isSt m k then m.1 33 (nv k) else -1) ∧ n' = NT ∧ h' = hp x m)) := by
  refine xK.ofV (by decide) (Nat.le_of_ble_eq_true rfl) ?_
  refine xV.lveq (L' := [some (.ref MB), some (.int k)]) rfl ?_
  refine x_iload1 dX10_size_0 ?_
  refine x_if_lt 21 dX10_size_1 (by decide) (fun c1 => ?_) (fun c1 => ?_)
  · refine x_iconst (-1) dX10_size_21 (by decide) ?_
    refine x_iret dX10_size_22 rfl ?_ (Nat.zero_le _) (Nat.zero_le _)
    first | exact ⟨by rw [if_pos hs, nv_nI (by omega)], rfl, rfl⟩ | exact ⟨(if_neg (fun q => absurd q.2 (iNL.mpr cA))).symm, rfl, rfl⟩ | exact ⟨(if_neg (fun q => absurd q.1 (iNE.mpr c1))).symm, rfl, rfl⟩
  · refine x_iload1 dX10_size_4 ?_
    refine x_aload0 dX10_size_5 ?_
    refine gm35 fgX10_195 dX10_size_6 ?_
    refine x_icmp_ge 21 dX10_size_9 (by decide) (fun cA => ?_) (fun cA => ?_)
    · refine x_iconst (-1) dX10_size_21 (by decide) ?_
      refine x_iret dX10_size_22 rfl ?_ (Nat.zero_le _) (Nat.zero_le _)
      first | exact ⟨by rw [if_pos hs, nv_nI (by omega)], rfl, rfl⟩ | exact ⟨(if_neg (fun q => absurd q.2 (iNL.mpr cA))).symm, rfl, rfl⟩ | exact ⟨(if_neg (fun q => absurd q.1 (iNE.mpr c1))).symm, rfl, rfl⟩
    · have hs : isSt m k := ⟨iNL.mp c1, iNE.mp cA⟩
      obtain ⟨K, hK, rfl⟩ := isSt_nat hS hs
      have := hS.2
      refine x_aload0 dX10_size_12 ?_
      refine gm33 fgX10_82 dX10_size_13 ?_
      refine x_iload1 dX10_size_16 ?_
      refine lm33 (K) rfl (by omega) dX10_size_17 ?_
      refine x_goto 22 dX10_size_18 (by decide) ?_
      refine x_iret dX10_size_22 rfl ?_ (Nat.zero_le _) (Nat.zero_le _)
      first | exact ⟨by rw [if_pos hs, nv_nI (by omega)], rfl, rfl⟩ | exact ⟨(if_neg (fun q => absurd q.2 (iNL.mpr cA))).symm, rfl, rfl⟩ | exact ⟨(if_neg (fun q => absurd q.1 (iNE.mpr c1))).symm, rfl, rfl⟩
