/-! ===== the model's methods, 19: check ===== -/
def bkM (m : mS) (g : Nat) : Nat → Nat
  | 0 => 0
  | k + 1 => bkM m g k ||| 2 ^ (mb m g k / 80)
theorem bkM_lt {m : mS} {g : Nat} : ∀ n, (∀ k, k < n → mb m g k < 160) → bkM m g n < 4
  | 0, _ => by show 0 < 4; decide
  | n + 1, h => by
    have ih := bkM_lt n (fun k hk => h k (by omega))
    have hl := h n (by omega)
    show bkM m g n ||| 2 ^ (mb m g n / 80) < 2 ^ 2
    exact or_lt ih (by omega)
theorem bkM_bit {m : mS} {g B : Nat} : ∀ n k, k < n → mb m g k / 80 = B → (bkM m g n).testBit B = true
  | 0, k, h, _ => absurd h (Nat.not_lt_zero k)
  | n + 1, k, h, e => by
    show (bkM m g n ||| 2 ^ (mb m g n / 80)).testBit B = true
    rw [Nat.testBit_or]
    by_cases hk : k = n
    · subst hk
      rw [e, Nat.testBit_two_pow_self, Bool.or_true]
    · rw [bkM_bit n k (by omega) e, Bool.true_or]
theorem b3_of {b : Nat} (h : b < 4) (h0 : b.testBit 0 = true) (h1 : b.testBit 1 = true) : b = 3 := by
  rcases (show b = 0 ∨ b = 1 ∨ b = 2 ∨ b = 3 by omega) with rfl | rfl | rfl | rfl
  · exact absurd h0 (by decide)
  · exact absurd h1 (by decide)
  · exact absurd h0 (by decide)
  · rfl
/-- what check() looks at, as it must be -/
def iCk (m : mS) : Prop := (∀ g, g < nG m → m.1 14 g < 0 → (∀ k, k < nM m g → m.1 5 (mb m g k) = nI g) ∧ (∃ k, k < nM m g ∧ mb m g k / 80 = 0) ∧ ∃ k, k < nM m g ∧ mb m g k / 80 = 1) ∧ zL (sumV m (nI 0)) = zL (sumV m (nI 1)) - zL (sumV m (nI 2)) + zL (sumV m (nI 3))

set_option maxHeartbeats 4000000 in
theorem k_check (G : vx_G) (x : vx_H) (m : mS) (hL : iL m) (hG : iG m) (hM : iMs m) (hV : iGa m) (hAm : iAm m) (hC : iCk m) : xK G M_X10_check 2 [(.ref MB)] NT (hp x m) 0 0 (QI (fun r n' h' => r = nI 0 ∧ n' = NT ∧ h' = hp x m)) := by
  have hG2 := hG.2
  have j93 : ∀ (g b : Nat), (g < nG m) → (b < 4) → (m.1 14 g < 0 → b = 3) → (xV (mF G M_X10_check 2 0 0 (QI (fun r n' h' => r = nI 0 ∧ n' = NT ∧ h' = hp x m))) 6 [some (.ref MB), some (.int (nI (1))), some (.int (nI (1))), some (.int (nI (g + 1))), none, none, none] [] NT (hp x m) 0 0) → xV (mF G M_X10_check 2 0 0 (QI (fun r n' h' => r = nI 0 ∧ n' = NT ∧ h' = hp x m))) 93 [some (.ref MB), some (.int (nI (1))), some (.int (nI (1))), some (.int (nI (g))), some (.int (nI (b))), none, none] [] NT (hp x m) 0 0 := by
    intro g b hg hb4 hb kk
    refine x_iload2 dX10_check_93 ?_
    refine n_if_eq 116 dX10_check_94 (by decide) (by omega) (fun c94 => absurd c94 (by decide)) (fun c94 => ?_)
    refine x_aload0 dX10_check_97 ?_
    refine gm14 fgX10_47 dX10_check_98 ?_
    refine x_iload3 dX10_check_101 ?_
    refine lm14 (g) rfl (by omega) dX10_check_102 ?_
    refine x_if_ge 112 dX10_check_103 (by decide) (fun c103 => ?_) (fun c103 => ?_)
    · refine x_iconst (nI 1) dX10_check_112 (by decide) ?_
      refine x_goto 117 dX10_check_113 (by decide) ?_
      refine x_istore2 dX10_check_117 rfl rfl rfl ?_
      refine x_iinc3 (nI (g + 1)) dX10_check_118 (nI_add g 1) rfl rfl rfl ?_
      refine x_goto 6 dX10_check_121 (by decide) ?_
      refine xV.lvle (L' := [some (.ref _), some (.int _), some (.int _), some (.int _), none, none, none]) ⟨rfl, rfl, rfl, rfl, trivial⟩ ?_
      refine xV.lvle (L' := [some (.ref MB), some (.int (nI (1))), some (.int (nI (1))), some (.int (nI (g + 1))), none, none, none]) ⟨rfl, rfl, rfl, rfl, trivial⟩ kk
    · refine x_iload4 dX10_check_106 ?_
      refine x_iconst (nI 3) dX10_check_108 (by decide) ?_
      refine n_icmp_ne 116 dX10_check_109 (by decide) (by omega) (by omega) (fun c109 => absurd c109 (fun q => q (hb (iNE.mp c103)))) (fun c109 => ?_)
      refine x_iconst (nI 1) dX10_check_112 (by decide) ?_
      refine x_goto 117 dX10_check_113 (by decide) ?_
      refine x_istore2 dX10_check_117 rfl rfl rfl ?_
      refine x_iinc3 (nI (g + 1)) dX10_check_118 (nI_add g 1) rfl rfl rfl ?_
      refine x_goto 6 dX10_check_121 (by decide) ?_
      refine xV.lvle (L' := [some (.ref _), some (.int _), some (.int _), some (.int _), none, none, none]) ⟨rfl, rfl, rfl, rfl, trivial⟩ ?_
      refine xV.lvle (L' := [some (.ref MB), some (.int (nI (1))), some (.int (nI (1))), some (.int (nI (g + 1))), none, none, none]) ⟨rfl, rfl, rfl, rfl, trivial⟩ kk
  have lk : ∀ (g : Nat), (g < nG m) → (∀ b, b < 4 → (m.1 14 g < 0 → b = 3) → xV (mF G M_X10_check 2 0 0 (QI (fun r n' h' => r = nI 0 ∧ n' = NT ∧ h' = hp x m))) 93 [some (.ref MB), some (.int (nI (1))), some (.int (nI (1))), some (.int (nI (g))), some (.int (nI (b))), none, none] [] NT (hp x m) 0 0) → ∀ (n_ : Nat) (k b : Nat), k ≤ nM m g → nM m g + 1 ≤ k + n_ → (b = bkM m g k) → xV (mF G M_X10_check 2 0 0 (QI (fun r n' h' => r = nI 0 ∧ n' = NT ∧ h' = hp x m))) 20 [some (.ref MB), some (.int (nI (1))), some (.int (nI (1))), some (.int (nI (g))), some (.int (nI (b))), some (.int (nI (k))), none] [] NT (hp x m) 0 0 := by
    intro g hg kk
    obtain ⟨b1, b2, b3⟩ := hM g hg
    intro n_
    induction n_ with
    | zero => intro k b hi_ hn_; omega
    | succ n_ ih =>
      intro k b hi_ hn_ hb
      have hb4 : b < 4 := by rw [hb]; exact bkM_lt k (fun j hj => (b3 j (by omega)).2)
      refine x_iload5 dX10_check_20 ?_
      refine x_aload0 dX10_check_22 ?_
      refine gm12 fgX10_41 dX10_check_23 ?_
      refine x_iload3 dX10_check_26 ?_
      refine lm12 (g) rfl (by omega) dX10_check_27 ?_
      refine xV.toi (nI (nM m g)) (b1) ?_
      refine n_icmp_ge 93 dX10_check_28 (by decide) (by omega) (by omega) (fun c28 => ?_) (fun c28 => ?_)
      · have h3 : m.1 14 g < 0 → b = 3 := fun hp => by
          obtain ⟨-, ⟨k0, h0, e0⟩, ⟨k1, h1, e1⟩⟩ := hC.1 g hg hp
          have ek : k = nM m g := by omega
          rw [hb, ek] at hb4 ⊢
          exact b3_of hb4 (bkM_bit _ k0 h0 e0) (bkM_bit _ k1 h1 e1)
        refine xV.lvle (L' := [some (.ref _), some (.int _), some (.int _), some (.int _), some (.int _), none, none]) ⟨rfl, rfl, rfl, rfl, rfl, trivial⟩ ?_
        refine xV.lvle (L' := [some (.ref MB), some (.int (nI (1))), some (.int (nI (1))), some (.int (nI (g))), some (.int (nI (b))), none, none]) ⟨rfl, rfl, rfl, rfl, rfl, trivial⟩ (kk b hb4 h3)
      · refine x_aload0 dX10_check_31 ?_
        refine gm14 fgX10_47 dX10_check_32 ?_
        refine x_iload3 dX10_check_35 ?_
        refine lm14 (g) rfl (by omega) dX10_check_36 ?_
        refine x_if_ge 93 dX10_check_37 (by decide) (fun c37 => ?_) (fun c37 => ?_)
        · have h3 : m.1 14 g < 0 → b = 3 := fun hp => absurd hp (iNL.mpr c37)
          refine xV.lvle (L' := [some (.ref _), some (.int _), some (.int _), some (.int _), some (.int _), none, none]) ⟨rfl, rfl, rfl, rfl, rfl, trivial⟩ ?_
          refine xV.lvle (L' := [some (.ref MB), some (.int (nI (1))), some (.int (nI (1))), some (.int (nI (g))), some (.int (nI (b))), none, none]) ⟨rfl, rfl, rfl, rfl, rfl, trivial⟩ (kk b hb4 h3)
        · obtain ⟨e1, l1⟩ := b3 k c28
          obtain ⟨o1, -⟩ := hC.1 g hg (iNE.mp c37)
          refine x_aload0 dX10_check_40 ?_
          refine gm11 fgX10_38 dX10_check_41 ?_
          refine x_bipush (nI 8) dX10_check_44 (by decide) ?_
          refine x_iload3 dX10_check_46 ?_
          refine n_imul dX10_check_47 ?_
          refine x_iload5 dX10_check_48 ?_
          refine n_iadd dX10_check_50 ?_
          refine lm11 ((8 * g) + k) rfl (by omega) dX10_check_51 ?_
          refine xV.toi (nI (mb m g k)) (e1) ?_
          refine x_istore6 dX10_check_52 rfl rfl rfl ?_
          refine x_iload1 dX10_check_54 ?_
          refine n_if_eq 73 dX10_check_55 (by decide) (by omega) (fun c55 => absurd c55 (by decide)) (fun c55 => ?_)
          refine x_aload0 dX10_check_58 ?_
          refine gm5 fgX10_25 dX10_check_59 ?_
          refine x_iload6 dX10_check_62 ?_
          refine lm5 (mb m g k) rfl (by omega) dX10_check_64 ?_
          refine xV.toi (nI (g)) (o1 k c28) ?_
          refine x_iload3 dX10_check_65 ?_
          refine n_icmp_ne 73 dX10_check_66 (by decide) (by omega) (by omega) (fun c66 => absurd c66 (fun q => q rfl)) (fun c66 => ?_)
          refine x_iconst (nI 1) dX10_check_69 (by decide) ?_
          refine x_goto 74 dX10_check_70 (by decide) ?_
          refine x_istore1 dX10_check_74 rfl rfl rfl ?_
          refine x_iload4 dX10_check_75 ?_
          refine x_iconst (nI 1) dX10_check_77 (by decide) ?_
          refine x_iload6 dX10_check_78 ?_
          refine x_bipush (nI 80) dX10_check_80 (by decide) ?_
          refine n_idiv dX10_check_82 (by omega) (by omega) (by omega) ?_
          refine x_ishl dX10_check_83 ?_
          refine xV.toi (nI (2 ^ (mb m g k / 80))) (sh_1 (by omega)) ?_
          refine x_ior dX10_check_84 ?_
          refine xV.toi (nI (b ||| 2 ^ (mb m g k / 80))) (fa_or _ _) ?_
          refine x_istore4 dX10_check_85 rfl rfl rfl ?_
          refine x_iinc5 (nI (k + 1)) dX10_check_87 (nI_add k 1) rfl rfl rfl ?_
          refine x_goto 20 dX10_check_90 (by decide) ?_
          refine xV.lvle (L' := [some (.ref _), some (.int _), some (.int _), some (.int _), some (.int _), some (.int _), none]) ⟨rfl, rfl, rfl, rfl, rfl, rfl, trivial⟩ ?_
          exact ih (k + 1) _ (by omega) (by omega) (by rw [hb]; rfl)
  have lg : ∀ (n_ : Nat) (g : Nat), g ≤ nG m → nG m + 1 ≤ g + n_ → xV (mF G M_X10_check 2 0 0 (QI (fun r n' h' => r = nI 0 ∧ n' = NT ∧ h' = hp x m))) 6 [some (.ref MB), some (.int (nI (1))), some (.int (nI (1))), some (.int (nI (g))), none, none, none] [] NT (hp x m) 0 0 := by
    intro n_
    induction n_ with
    | zero => intro g hi_ hn_; omega
    | succ n_ ih =>
      intro g hi_ hn_ 
      refine x_iload3 dX10_check_6 ?_
      refine x_aload0 dX10_check_7 ?_
      refine gm16 fgX10_120 dX10_check_8 ?_
      refine xV.toi (nI (nG m)) (hG.1) ?_
      refine n_icmp_ge 124 dX10_check_11 (by decide) (by omega) (by omega) (fun c11 => ?_) (fun c11 => ?_)
      · refine x_iload1 dX10_check_124 ?_
        refine n_if_eq 132 dX10_check_125 (by decide) (by omega) (fun c125 => absurd c125 (by decide)) (fun c125 => ?_)
        refine x_iconst (nI 0) dX10_check_128 (by decide) ?_
        refine x_goto 133 dX10_check_129 (by decide) ?_
        refine x_aload0 dX10_check_133 ?_
        refine x_iconst (nI 0) dX10_check_134 (by decide) ?_
        refine x_callV1l mvX10_229 (k_sum G x m hL hG hM hV hAm (nI 0)) mb_lt0 (hp_m0 _ _) (xRoom.of rfl) (Nat.le_of_ble_eq_true rfl) dX10_check_135 (fun r_ n_ h_ hq => ?_)
        obtain ⟨rfl, rfl, rfl⟩ := hq
        refine x_aload0 dX10_check_138 ?_
        refine x_iconst (nI 1) dX10_check_139 (by decide) ?_
        refine x_callV1l mvX10_229 (k_sum G x m hL hG hM hV hAm (nI 1)) mb_lt0 (hp_m0 _ _) (xRoom.of rfl) (Nat.le_of_ble_eq_true rfl) dX10_check_140 (fun r_ n_ h_ hq => ?_)
        obtain ⟨rfl, rfl, rfl⟩ := hq
        refine x_aload0 dX10_check_143 ?_
        refine x_iconst (nI 2) dX10_check_144 (by decide) ?_
        refine x_callV1l mvX10_229 (k_sum G x m hL hG hM hV hAm (nI 2)) mb_lt0 (hp_m0 _ _) (xRoom.of rfl) (Nat.le_of_ble_eq_true rfl) dX10_check_145 (fun r_ n_ h_ hq => ?_)
        obtain ⟨rfl, rfl, rfl⟩ := hq
        refine x_lsub dX10_check_148 ?_
        refine x_aload0 dX10_check_149 ?_
        refine x_iconst (nI 3) dX10_check_150 (by decide) ?_
        refine x_callV1l mvX10_229 (k_sum G x m hL hG hM hV hAm (nI 3)) mb_lt0 (hp_m0 _ _) (xRoom.of rfl) (Nat.le_of_ble_eq_true rfl) dX10_check_151 (fun r_ n_ h_ hq => ?_)
        obtain ⟨rfl, rfl, rfl⟩ := hq
        refine x_ladd dX10_check_154 ?_
        refine x_lcmp dX10_check_155 ?_
        refine x_if_ne 163 dX10_check_156 (by decide) (fun c156 => absurd c156 (fun q => q ((lc_eq _ _).mpr hC.2))) (fun c156 => ?_)
        refine x_iconst (nI 0) dX10_check_159 (by decide) ?_
        refine x_goto 164 dX10_check_160 (by decide) ?_
        refine n_iadd dX10_check_164 ?_
        refine x_iload2 dX10_check_165 ?_
        refine n_if_eq 173 dX10_check_166 (by decide) (by omega) (fun c166 => absurd c166 (by decide)) (fun c166 => ?_)
        refine x_iconst (nI 0) dX10_check_169 (by decide) ?_
        refine x_goto 174 dX10_check_170 (by decide) ?_
        refine n_iadd dX10_check_174 ?_
        refine x_iret dX10_check_175 rfl ?_ (Nat.zero_le _) (Nat.zero_le _)
        exact ⟨rfl, rfl, rfl⟩
      · refine x_iconst (nI 0) dX10_check_14 (by decide) ?_
        refine x_istore4 dX10_check_15 rfl rfl rfl ?_
        refine x_iconst (nI 0) dX10_check_17 (by decide) ?_
        refine x_istore5 dX10_check_18 rfl rfl rfl ?_
        exact lk g c11 (fun b hb4 h3 => j93 g b c11 hb4 h3 (ih (g + 1) (by omega) (by omega))) (nM m g + 1) 0 0 (Nat.zero_le _) (by omega) rfl
  refine xK.ofV (by decide) (Nat.le_of_ble_eq_true rfl) ?_
  refine xV.lveq (L' := [some (.ref MB), none, none, none, none, none, none]) rfl ?_
  refine x_iconst (nI 1) dX10_check_0 (by decide) ?_
  refine x_istore1 dX10_check_1 rfl rfl rfl ?_
  refine x_iconst (nI 1) dX10_check_2 (by decide) ?_
  refine x_istore2 dX10_check_3 rfl rfl rfl ?_
  refine x_iconst (nI 0) dX10_check_4 (by decide) ?_
  refine x_istore3 dX10_check_5 rfl rfl rfl ?_
  exact lg (nG m + 1) 0 (Nat.zero_le _) (by omega)
