/-! ===== pair once more: what is kept of the sums without a pair ===== -/
def woJ (m : mS) (i : Nat) (m' : mS) : Prop := m'.2 = m.2 ∧ (∀ j, j ≠ 23 → j ≠ 26 → j ≠ 29 → m'.1 j = m.1 j) ∧ (∀ k, i ≤ k → m'.1 26 k = m.1 26 k ∧ m'.1 29 k = m.1 29 k) ∧ ∀ k, k < i → (m'.1 26 k = m.1 26 k ∧ m'.1 29 k = m.1 29 k) ∨ m'.1 29 k = rkM m (nI k) (m.1 24 k) (nO m) 0
theorem woJ_step {m m' m2 : mS} {i : Nat} {r : Int32} (h : woJ m i m') (hw : woR m' i r m2) : r = woV m i ∧ woJ m (i + 1) m2 := by
  obtain ⟨h1, h2, h3, h4⟩ := h
  obtain ⟨a1, a2⟩ := h3 i (Nat.le_refl _)
  have e24 := h2 24 (by decide) (by decide) (by decide)
  have e20 := h2 20 (by decide) (by decide) (by decide)
  have er := rkM_of (wi := nI i) (wj := m.1 24 i) (h2 22 (by decide) (by decide) (by decide)) e20 (h2 21 (by decide) (by decide) (by decide))
  unfold woR at hw
  rw [a1] at hw
  unfold woV
  by_cases h0 : m.1 26 i = 0
  · rw [if_pos h0] at hw ⊢
    obtain ⟨m1, g, rfl⟩ := hw
    have er2 : r = rkM m (nI i) (m.1 24 i) (nO m) 0 := by
      have := g.2.2.2
      rw [e24, er] at this
      unfold nO at this ⊢
      rw [e20] at this
      exact this
    refine ⟨er2, g.1.trans h1, fun j b1 b2 b3 => ?_, fun k hk => ?_, fun k hk => ?_⟩
    · rw [mset_ne b2, mset_ne b3, g.2.1 j b1]
      exact h2 j b1 b2 b3
    · obtain ⟨c1, c2⟩ := h3 k (by omega)
      rw [mset_off (by omega), mset_ne (by decide), mset_ne (by decide), mset_off (by omega), g.2.1 26 (by decide), g.2.1 29 (by decide)]
      exact ⟨c1, c2⟩
    · by_cases e : k = i
      · subst e
        exact Or.inr (by rw [mset_ne (by decide), mset_at, er2])
      · rw [mset_off e, mset_ne (by decide), mset_ne (by decide), mset_off e, g.2.1 26 (by decide), g.2.1 29 (by decide)]
        exact h4 k (by omega)
  · rw [if_neg h0] at hw ⊢
    obtain ⟨rfl, rfl⟩ := hw
    refine ⟨a2, h1, h2, fun k hk => h3 k (by omega), fun k hk => ?_⟩
    by_cases e : k = i
    · subst e
      exact Or.inl ⟨a1, a2⟩
    · exact h4 k (by omega)
theorem woJ_no {m m' : mS} {i : Nat} (h : woJ m i m') : woJ m (i + 1) m' := ⟨h.1, h.2.1, fun k hk => h.2.2.1 k (by omega), fun k hk => by
  by_cases e : k = i
  · subst e
    exact Or.inl (h.2.2.1 k (Nat.le_refl _))
  · exact h.2.2.2 k (by omega)⟩
def prtJ (m : mS) (s r : Int32) (m' : mS) : Prop := if (nI 0 ≤ s ∧ s ≤ nI 1000) ∧ ¬ m.1 17 0 = 0 then ∃ m1, woJ m (nO m) m1 ∧ (if nG m = 200 ∨ 200 < nG m + fb_ct (suP m s) (nO m) then r = -5 ∧ m' = m1 else r = nI (fb_ct (suP m s) (nO m)) ∧ pgR m1 (suP m s) (nO m) m') else r = -1 ∧ m' = m

set_option maxHeartbeats 4000000 in
theorem k_pairJ (G : vx_G) (x : vx_H) (m : mS) (s : Int32) (hP : ¬ m.1 17 0 = 0 → iP m ∧ iO m) (hW3 : (nI 0 ≤ s ∧ s ≤ nI 1000) ∧ ¬ m.1 17 0 = 0 → ∀ i, i < nO m → ¬ m.1 24 i < 0 → nv (m.1 24 i) < 14) (hG : iG m) (hA : iA m) : xK G M_X10_pair 2 [(.ref MB), (.int s)] NT (hp x m) 0 0 (QI (fun r n' h' => n' = NT ∧ ∃ m', h' = hp x m' ∧ prtJ m s r m')) := by
  have hG2 := hG.2
  have lg : ∀ (m1 : mS), ((nI 0 ≤ s ∧ s ≤ nI 1000) ∧ ¬ m.1 17 0 = 0) → (woJ m (nO m) m1) → (¬ (nG m = 200 ∨ 200 < nG m + fb_ct (suP m s) (nO m))) → ∀ (n_ : Nat) (i : Nat) (m' : mS), i ≤ nO m → nO m + 1 ≤ i + n_ → (pgR m1 (suP m s) i m') → xV (mF G M_X10_pair 2 0 0 (QI (fun r n' h' => n' = NT ∧ ∃ m', h' = hp x m' ∧ prtJ m s r m'))) 106 [some (.ref MB), some (.int s), some (.int (nI (fb_ct (suP m s) (nO m)))), some (.int (nI (mkB (suP m s) (nO m)))), some (.int (nI (i))), none] [] NT (hp x m') 0 0 := by
    intro m1 hc hI hn
    obtain ⟨⟨⟨p1, p2⟩, p3, p4⟩, o1, o2⟩ := hP hc.2
    have f18 := hI.2.1 18 (by decide) (by decide) (by decide)
    have f19 := hI.2.1 19 (by decide) (by decide) (by decide)
    have f20 := hI.2.1 20 (by decide) (by decide) (by decide)
    have f24 := hI.2.1 24 (by decide) (by decide) (by decide)
    have f16 := hI.2.1 16 (by decide) (by decide) (by decide)
    have gE : nG m1 = nG m := by unfold nG; rw [f16]
    have hG1 : iG m1 := by unfold iG; rw [gE, f16]; exact hG
    have hA1 : iA m1 := iA_of (hI.2.1 46 (by decide) (by decide) (by decide)) hA
    have hml := mkB_lt (suP m s) (nO m)
    have hm2 : 2 ^ nO m ≤ 16384 := pw_14 p2
    have hfl := fb_ct_le (suP m s) (nO m)
    have ePO : ∀ i, pO m1 i = pO m i := fun i => by unfold pO; rw [f18]
    have ePT : ∀ i, pT m1 i = pT m i := fun i => by unfold pT; rw [f19, f24]
    intro n_
    induction n_ with
    | zero => intro i m' hi_ hn_; omega
    | succ n_ ih =>
      intro i m' hi_ hn_ hR
      have hmo := fb_ct_mono (suP m s) (show i ≤ nO m by omega)
      obtain ⟨k1, ⟨k2, k3⟩, k4⟩ := pgR_keep hA1 hG1 i m' hR (by omega)
      have kG : iG m' := ⟨by rw [k3]; exact k2, by rw [k3]; omega⟩
      refine x_iload4 dX10_pair_106 ?_
      refine x_aload0 dX10_pair_108 ?_
      refine gm20 fgX10_168 dX10_pair_109 ?_
      refine xV.toi (nI (nO m)) (by rw [k1 20 (by decide), f20]; exact p1) ?_
      refine n_icmp_ge 180 dX10_pair_112 (by decide) (by omega) (by omega) (fun c112 => ?_) (fun c112 => ?_)
      · refine x_iload2 dX10_pair_180 ?_
        refine x_iret dX10_pair_181 rfl ?_ (Nat.zero_le _) (Nat.zero_le _)
        refine ⟨rfl, m', rfl, ?_⟩
        unfold prtJ
        rw [if_pos hc]
        refine ⟨m1, hI, ?_⟩
        rw [if_neg hn]
        exact ⟨rfl, by rw [show i = nO m by omega] at hR; exact hR⟩
      · refine x_iload3 dX10_pair_115 ?_
        refine x_iload4 dX10_pair_116 ?_
        refine x_ishr dX10_pair_118 ?_
        refine x_iconst (nI 1) dX10_pair_119 (by decide) ?_
        refine x_iand dX10_pair_120 ?_
        refine xV.toi (nI (mkB (suP m s) (nO m) / 2 ^ i % 2)) (bit_n (by omega) (by omega)) ?_
        refine x_iconst (nI 1) dX10_pair_121 (by decide) ?_
        refine n_icmp_ne 174 dX10_pair_122 (by decide) (by omega) (by omega) (fun c122 => ?_) (fun c122 => ?_)
        · have hp : suP m s i = false := by rw [bit_tb, mkB_bit _ _ _ c112] at c122; simpa using c122
          refine x_iinc4 (nI (i + 1)) dX10_pair_174 (nI_add i 1) rfl rfl rfl ?_
          refine x_goto 106 dX10_pair_177 (by decide) ?_
          exact ih (i + 1) m' (by omega) (by omega) ((if_neg (by rw [hp]; decide)).mpr hR)
        · have hp : suP m s i = true := by rw [bit_tb, mkB_bit _ _ _ c112] at c122; simpa using c122
          have hw : ¬ m.1 24 i < 0 := (of_decide_eq_true hp).1
          obtain ⟨e1, l1⟩ := o1 i c112
          obtain ⟨e2, l2⟩ := o2 i c112 hw
          have hst : fb_ct (suP m s) i + 1 ≤ fb_ct (suP m s) (nO m) := by have h1 := fb_ct_mono (suP m s) (show i + 1 ≤ nO m by omega); rw [fb_ct_succ, hp, if_pos rfl] at h1; exact h1
          have hg2 : nG m' < 200 := by rw [k3]; omega
          obtain ⟨q1, q2⟩ := ng_m m' (nI 0)
          obtain ⟨q3, q4⟩ := ad_m (ngM m' (nI 0)) (nG m') (pO m1 i) (by omega)
          have hw2 : m.1 24 i = nI (nv (m.1 24 i)) := nv_of hw
          have hw3 : nv (m.1 24 i) < 14 := hW3 hc i c112 hw
          refine x_aload0 dX10_pair_125 ?_
          refine x_iconst (nI 0) dX10_pair_126 (by decide) ?_
          refine x_callV1i mvX10_188 (k_newGroup G x m' kG hg2 (nI 0)) mb_lt0 (hp_m0 _ _) (xRoom.of rfl) (Nat.le_of_ble_eq_true rfl) dX10_pair_127 (fun r_ n_ h_ hq => ?_)
          obtain ⟨rfl, rfl, rfl⟩ := hq
          refine x_istore5 dX10_pair_130 rfl rfl rfl ?_
          refine x_aload0 dX10_pair_132 ?_
          refine x_iload5 dX10_pair_133 ?_
          refine x_aload0 dX10_pair_135 ?_
          refine gm18 fgX10_54 dX10_pair_136 ?_
          refine x_iload4 dX10_pair_139 ?_
          refine lm18 (i) rfl (by omega) dX10_pair_141 ?_
          refine xV.toi (nI (pO m1 i)) ((congrFun (k1 18 (by decide)) i).trans (by rw [f18, ePO]; exact e1)) ?_
          refine x_callV2v mvX10_191 (k_add G x (ngM m' (nI 0)) (nG m') (pO m1 i) hg2 (by rw [ePO]; omega) (by rw [q2]; exact q1) (by omega)) mb_lt0 (hp_m0 _ _) (xRoom.of rfl) (Nat.le_of_ble_eq_true rfl) dX10_pair_142 (fun n_ h_ hq => ?_)
          obtain ⟨rfl, rfl⟩ := hq
          refine x_aload0 dX10_pair_145 ?_
          refine x_iload5 dX10_pair_146 ?_
          refine x_bipush (nI 80) dX10_pair_148 (by decide) ?_
          refine x_aload0 dX10_pair_150 ?_
          refine gm19 fgX10_57 dX10_pair_151 ?_
          refine x_aload0 dX10_pair_154 ?_
          refine gm24 fgX10_67 dX10_pair_155 ?_
          refine x_iload4 dX10_pair_158 ?_
          refine lm24 (i) rfl (by omega) dX10_pair_160 ?_
          refine xV.toi (nI (nv (m.1 24 i))) ((congrFun (k1 24 (by decide)) i).trans (by rw [f24]; exact hw2)) ?_
          refine lm19 (nv (m.1 24 i)) rfl (by omega) dX10_pair_161 ?_
          refine xV.toi (nI (pT m1 i)) ((congrFun (k1 19 (by decide)) _).trans (by rw [f19, ePT]; exact e2)) ?_
          refine n_iadd dX10_pair_162 ?_
          refine x_callV2v mvX10_191 (k_add G x (adM (ngM m' (nI 0)) (nG m') (pO m1 i)) (nG m') (80 + pT m1 i) hg2 (by rw [ePT]; omega) (by rw [q4]; exact q3) (by omega)) mb_lt0 (hp_m0 _ _) (xRoom.of rfl) (Nat.le_of_ble_eq_true rfl) dX10_pair_163 (fun n_ h_ hq => ?_)
          obtain ⟨rfl, rfl⟩ := hq
          refine x_aload0 dX10_pair_166 ?_
          refine x_iconst (nI 1) dX10_pair_167 (by decide) ?_
          refine x_iload5 dX10_pair_168 ?_
          refine x_iconst (nI 0) dX10_pair_170 (by decide) ?_
          refine x_callV3v mvX10_139 (k_did G x (hdM m' (nI 0) (pO m1 i) (80 + pT m1 i)) k4 (nI 1) (nI (nG m')) (nI 0)) mb_lt0 (hp_m0 _ _) (xRoom.of rfl) (Nat.le_of_ble_eq_true rfl) dX10_pair_171 (fun n_ h_ hq => ?_)
          obtain ⟨rfl, m3, rfl, hD⟩ := hq
          have hR2 : pgR m1 (suP m s) (i + 1) m3 := (if_pos hp).mpr ⟨m', hR, hD⟩
          refine x_iinc4 (nI (i + 1)) dX10_pair_174 (nI_add i 1) rfl rfl rfl ?_
          refine x_goto 106 dX10_pair_177 (by decide) ?_
          refine xV.lvle (L' := [some (.ref _), some (.int _), some (.int _), some (.int _), some (.int _), none]) ⟨rfl, rfl, rfl, rfl, rfl, trivial⟩ ?_
          exact ih (i + 1) _ (by omega) (by omega) hR2
  have lp : ((nI 0 ≤ s ∧ s ≤ nI 1000) ∧ ¬ m.1 17 0 = 0) → ∀ (n_ : Nat) (i c b : Nat) (m' : mS), i ≤ nO m → nO m + 1 ≤ i + n_ → (c = fb_ct (suP m s) i) → (b = mkB (suP m s) i) → (woJ m i m') → xV (mF G M_X10_pair 2 0 0 (QI (fun r n' h' => n' = NT ∧ ∃ m', h' = hp x m' ∧ prtJ m s r m'))) 27 [some (.ref MB), some (.int s), some (.int (nI (c))), some (.int (nI (b))), some (.int (nI (i))), none] [] NT (hp x m') 0 0 := by
    intro  hc
    obtain ⟨⟨⟨p1, p2⟩, p3, p4⟩, o1, o2⟩ := hP hc.2
    intro n_
    induction n_ with
    | zero => intro i c b m' hi_ hn_; omega
    | succ n_ ih =>
      intro i c b m' hi_ hn_ ec eb hI
      have hct := fb_ct_le (suP m s) i
      have f20 := hI.2.1 20 (by decide) (by decide) (by decide)
      have f24 := hI.2.1 24 (by decide) (by decide) (by decide)
      have f21 := hI.2.1 21 (by decide) (by decide) (by decide)
      have hP2 : iP m' := by unfold iP nO nTh2; rw [f20, f21]; exact ⟨⟨p1, p2⟩, p3, p4⟩
      refine x_iload4 dX10_pair_27 ?_
      refine x_aload0 dX10_pair_29 ?_
      refine gm20 fgX10_168 dX10_pair_30 ?_
      refine xV.toi (nI (nO m)) (by rw [f20]; exact p1) ?_
      refine n_icmp_ge 78 dX10_pair_33 (by decide) (by omega) (by omega) (fun c33 => ?_) (fun c33 => ?_)
      · have ei : i = nO m := by omega
        subst ei
        have g16 : m'.1 16 0 = nI (nG m) := by rw [hI.2.1 16 (by decide) (by decide) (by decide)]; exact hG.1
        refine x_aload0 dX10_pair_78 ?_
        refine gm16 fgX10_120 dX10_pair_79 ?_
        refine xV.toi (nI (nG m)) (g16) ?_
        refine x_sipush (nI 200) dX10_pair_82 (by decide) ?_
        refine n_icmp_eq 100 dX10_pair_85 (by decide) (by omega) (by omega) (fun c85 => ?_) (fun c85 => ?_)
        · refine x_bipush (-5) dX10_pair_100 (by decide) ?_
          refine x_iret dX10_pair_102 rfl ?_ (Nat.zero_le _) (Nat.zero_le _)
          refine ⟨rfl, m', rfl, ?_⟩
          unfold prtJ
          rw [if_pos hc]
          refine ⟨m', hI, ?_⟩
          rw [if_pos (by first | exact Or.inl c85 | exact Or.inr (by omega))]
          exact ⟨rfl, rfl⟩
        · refine x_aload0 dX10_pair_88 ?_
          refine gm16 fgX10_120 dX10_pair_89 ?_
          refine xV.toi (nI (nG m)) (g16) ?_
          refine x_iload2 dX10_pair_92 ?_
          refine n_iadd dX10_pair_93 ?_
          refine x_sipush (nI 200) dX10_pair_94 (by decide) ?_
          refine n_icmp_le 103 dX10_pair_97 (by decide) (by omega) (by omega) (fun c97 => ?_) (fun c97 => ?_)
          · refine x_iconst (nI 0) dX10_pair_103 (by decide) ?_
            refine x_istore4 dX10_pair_104 rfl rfl rfl ?_
            subst ec
            subst eb
            exact lg m' hc hI (by omega) (nO m + 1) 0 m' (Nat.zero_le _) (by omega) rfl
          · refine x_bipush (-5) dX10_pair_100 (by decide) ?_
            refine x_iret dX10_pair_102 rfl ?_ (Nat.zero_le _) (Nat.zero_le _)
            refine ⟨rfl, m', rfl, ?_⟩
            unfold prtJ
            rw [if_pos hc]
            refine ⟨m', hI, ?_⟩
            rw [if_pos (by first | exact Or.inl c85 | exact Or.inr (by omega))]
            exact ⟨rfl, rfl⟩
      · refine x_aload0 dX10_pair_36 ?_
        refine gm24 fgX10_67 dX10_pair_37 ?_
        refine x_iload4 dX10_pair_40 ?_
        refine lm24 (i) rfl (by omega) dX10_pair_42 ?_
        refine x_if_lt 72 dX10_pair_43 (by decide) (fun c43 => ?_) (fun c43 => ?_)
        · have hp : suP m s i = false := decide_eq_false (fun q => q.1 (f24 ▸ c43))
          have hI2 := woJ_no hI
          refine x_iinc4 (nI (i + 1)) dX10_pair_72 (nI_add i 1) rfl rfl rfl ?_
          refine x_goto 27 dX10_pair_75 (by decide) ?_
          exact ih (i + 1) _ _ _ (by omega) (by omega) (by rw [fb_ct_succ, hp, ec]; rfl) (by rw [eb]; exact (if_neg (by rw [hp]; decide)).symm) hI2
        · refine x_aload0 dX10_pair_46 ?_
          refine x_iload4 dX10_pair_47 ?_
          refine x_callV1i mvX10_185 (k_withoutPair G x m' hP2 i (by omega)) mb_lt0 (hp_m0 _ _) (xRoom.of rfl) (Nat.le_of_ble_eq_true rfl) dX10_pair_49 (fun r_ n_ h_ hq => ?_)
          obtain ⟨rfl, m2, rfl, hR⟩ := hq
          obtain ⟨rfl, hI2⟩ := woJ_step hI hR
          refine x_aload0 dX10_pair_52 ?_
          refine gm25 fgX10_178 dX10_pair_53 ?_
          refine xV.toi (m.1 25 0) (by rw [hI2.2.1 25 (by decide) (by decide) (by decide)]) ?_
          refine x_isub dX10_pair_56 ?_
          refine x_iload1 dX10_pair_57 ?_
          refine x_ineg dX10_pair_58 ?_
          refine x_icmp_gt 72 dX10_pair_59 (by decide) (fun c59 => ?_) (fun c59 => ?_)
          · have hp : suP m s i = false := decide_eq_false (fun q => absurd q.2 (iNE.mpr c59))
            refine x_iinc4 (nI (i + 1)) dX10_pair_72 (nI_add i 1) rfl rfl rfl ?_
            refine x_goto 27 dX10_pair_75 (by decide) ?_
            exact ih (i + 1) _ _ _ (by omega) (by omega) (by rw [fb_ct_succ, hp, ec]; rfl) (by rw [eb]; exact (if_neg (by rw [hp]; decide)).symm) hI2
          · have hp : suP m s i = true := decide_eq_true ⟨f24 ▸ c43, iNL.mp c59⟩
            refine x_iload3 dX10_pair_62 ?_
            refine x_iconst (nI 1) dX10_pair_63 (by decide) ?_
            refine x_iload4 dX10_pair_64 ?_
            refine x_ishl dX10_pair_66 ?_
            refine xV.toi (nI (2 ^ i)) (sh_1 (by omega)) ?_
            refine x_ior dX10_pair_67 ?_
            refine xV.toi (nI (b ||| 2 ^ i)) (fa_or _ _) ?_
            refine x_istore3 dX10_pair_68 rfl rfl rfl ?_
            refine x_iinc2 (nI (c + 1)) dX10_pair_69 (nI_add c 1) rfl rfl rfl ?_
            refine x_iinc4 (nI (i + 1)) dX10_pair_72 (nI_add i 1) rfl rfl rfl ?_
            refine x_goto 27 dX10_pair_75 (by decide) ?_
            exact ih (i + 1) _ _ _ (by omega) (by omega) (by rw [fb_ct_succ, hp, if_pos rfl, ec]) (by rw [eb]; exact (if_pos hp).symm) hI2
  refine xK.ofV (by decide) (Nat.le_of_ble_eq_true rfl) ?_
  refine xV.lveq (L' := [some (.ref MB), some (.int s), none, none, none, none]) rfl ?_
  refine x_iload1 dX10_pair_0 ?_
  refine x_iconst (nI 0) dX10_pair_1 (by decide) ?_
  refine x_sipush (nI 1000) dX10_pair_2 (by decide) ?_
  refine x_callS3i msX10_116 (k_within G s (nI 0) (nI 1000)) (xRoom.of rfl) (Nat.le_of_ble_eq_true rfl) dX10_pair_5 (fun r_ n_ h_ hq => ?_)
  obtain ⟨rfl, rfl, rfl⟩ := hq
  refine b_if_eq 18 dX10_pair_8 (by decide) (fun c8 => ?_) (fun c8 => ?_)
  · refine x_iconst (-1) dX10_pair_18 (by decide) ?_
    refine x_iret dX10_pair_19 rfl ?_ (Nat.zero_le _) (Nat.zero_le _)
    refine ⟨rfl, m, rfl, ?_⟩
    unfold prtJ
    rw [if_neg (by intro q; first | exact c8 q.1 | exact q.2 c15)]
    exact ⟨rfl, rfl⟩
  · refine x_aload0 dX10_pair_11 ?_
    refine gm17 fgX10_123 dX10_pair_12 ?_
    refine x_if_ne 20 dX10_pair_15 (by decide) (fun c15 => ?_) (fun c15 => ?_)
    · refine x_iconst (nI 0) dX10_pair_20 (by decide) ?_
      refine x_istore2 dX10_pair_21 rfl rfl rfl ?_
      refine x_iconst (nI 0) dX10_pair_22 (by decide) ?_
      refine x_istore3 dX10_pair_23 rfl rfl rfl ?_
      refine x_iconst (nI 0) dX10_pair_24 (by decide) ?_
      refine x_istore4 dX10_pair_25 rfl rfl rfl ?_
      exact lp ⟨c8, c15⟩ (nO m + 1) 0 0 0 m (Nat.zero_le _) (by omega) rfl rfl ⟨rfl, fun _ _ _ _ => rfl, fun _ _ => ⟨rfl, rfl⟩, fun _ h => absurd h (Nat.not_lt_zero _)⟩
    · refine x_iconst (-1) dX10_pair_18 (by decide) ?_
      refine x_iret dX10_pair_19 rfl ?_ (Nat.zero_le _) (Nat.zero_le _)
      refine ⟨rfl, m, rfl, ?_⟩
      unfold prtJ
      rw [if_neg (by intro q; first | exact c8 q.1 | exact q.2 c15)]
      exact ⟨rfl, rfl⟩
