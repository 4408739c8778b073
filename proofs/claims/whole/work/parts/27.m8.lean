/-! ===== the model's methods, 8: reckon, withoutPair, paired, with, rival ===== -/
def nO (m : mS) : Nat := nv (m.1 20 0)
def nTh2 (m : mS) : Nat := nv (m.1 21 0)
def iP (m : mS) : Prop := (m.1 20 0 = nI (nO m) ∧ nO m ≤ 14) ∧ m.1 21 0 = nI (nTh2 m) ∧ nTh2 m ≤ 14
def fM (m : mS) (i j : Nat) : Int32 := m.1 22 (14 * i + j)
/-- the greatest sum of the first j columns' worth in row i, the rest by nx -/
def rkJ (f : Nat → Int32) (nx : Nat → Int32) (no : Nat → Bool) (s : Nat) : Nat → Int32
  | 0 => nx s
  | j + 1 => if s / 2 ^ j % 2 = 0 ∧ 0 < f j ∧ no j = false then (if rkJ f nx no s j < f j + nx (s ||| 2 ^ j) then f j + nx (s ||| 2 ^ j) else rkJ f nx no s j) else rkJ f nx no s j
def noP (wi wj : Int32) (i j : Nat) : Bool := decide (nI i = wi ∧ nI j = wj)
/-- t rows are left, of n; the columns of s are taken -/
def rk (f : Nat → Nat → Int32) (no : Nat → Nat → Bool) (n T : Nat) : Nat → Nat → Int32
  | 0, _ => nI 0
  | t + 1, s => rkJ (f (n - (t + 1))) (rk f no n T t) (no (n - (t + 1))) s T
def rkM (m : mS) (wi wj : Int32) : Nat → Nat → Int32 := rk (fM m) (noP wi wj) (nO m) (nTh2 m)
def rcR (m : mS) (wi wj r : Int32) (m' : mS) : Prop := m'.2 = m.2 ∧ (∀ j, j ≠ 23 → m'.1 j = m.1 j) ∧ (∀ i, i ≤ nO m → ∀ s, s < 2 ^ nTh2 m → m'.1 23 (16384 * i + s) = rkM m wi wj (nO m - i) s) ∧ r = rkM m wi wj (nO m) 0
def rcI (m : mS) (wi wj : Int32) (i s : Nat) (m' : mS) : Prop := m'.2 = m.2 ∧ (∀ j, j ≠ 23 → m'.1 j = m.1 j) ∧ (∀ a, i < a → a ≤ nO m → ∀ q, q < 2 ^ nTh2 m → m'.1 23 (16384 * a + q) = rkM m wi wj (nO m - a) q) ∧ (∀ q, q < s → m'.1 23 (16384 * i + q) = rkM m wi wj (nO m - i) q)
theorem rcI_step {m m' : mS} {wi wj v : Int32} {i s : Nat} (hT : nTh2 m ≤ 14) (hs : s < 2 ^ nTh2 m) (h : rcI m wi wj i s m') (hv : v = rkM m wi wj (nO m - i) s) : rcI m wi wj i (s + 1) (mset m' 23 (16384 * i + s) v) := by
  have hp := pw_14 hT
  obtain ⟨h1, h2, h3, h4⟩ := h
  refine ⟨h1, fun j hj => by rw [mset_ne hj]; exact h2 j hj, fun a ha ha2 q hq => ?_, fun q hq => ?_⟩
  · rw [mset_off (by omega)]
    exact h3 a ha ha2 q hq
  · by_cases e : q = s
    · subst e
      rw [mset_at]
      exact hv
    · rw [mset_off (by omega)]
      exact h4 q (by omega)
theorem rcI_row {m m' : mS} {wi wj : Int32} {i : Nat} (h : rcI m wi wj (i + 1) (2 ^ nTh2 m) m') (hi : i + 1 ≤ nO m) : rcI m wi wj i 0 m' := by
  obtain ⟨h1, h2, h3, h4⟩ := h
  refine ⟨h1, h2, fun a ha ha2 q hq => ?_, fun q hq => absurd hq (Nat.not_lt_zero q)⟩
  by_cases e : a = i + 1
  · subst e
    exact h4 q hq
  · exact h3 a (by omega) ha2 q hq

set_option maxHeartbeats 4000000 in
theorem k_reckon (G : vx_G) (x : vx_H) (m : mS) (hP : iP m) (wi wj : Int32) : xK G M_X10_reckon 0 [(.ref MB), (.int wi), (.int wj)] NT (hp x m) 0 0 (QI (fun r n' h' => n' = NT ∧ ∃ m', h' = hp x m' ∧ rcR m wi wj r m')) := by
  have hT2 := pw_14 hP.2.2
  have hT1 : 0 < 2 ^ nTh2 m := Nat.pow_pos (by decide)
  have hO2 := hP.1.2
  have hT3 := hP.2.2
  have lj : ∀ (m' : mS) (i s : Nat), (i < nO m) → (s < 2 ^ nTh2 m) → (rcI m wi wj i s m') → (∀ v, v = rkM m wi wj (nO m - i) s → xV (mF G M_X10_reckon 0 0 0 (QI (fun r n' h' => n' = NT ∧ ∃ m', h' = hp x m' ∧ rcR m wi wj r m'))) 178 [some (.ref MB), some (.int wi), some (.int wj), some (.int (nI (2 ^ nTh2 m))), some (.int (nI i)), some (.int (nI s)), some (.int v), none, none, none] [] NT (hp x m') 0 0) → ∀ (n_ : Nat) (j : Nat) (mo : Int32), j ≤ nTh2 m → nTh2 m + 1 ≤ j + n_ → (mo = rkJ (fM m i) (rkM m wi wj (nO m - (i + 1))) (noP wi wj i) s j) → xV (mF G M_X10_reckon 0 0 0 (QI (fun r n' h' => n' = NT ∧ ∃ m', h' = hp x m' ∧ rcR m wi wj r m'))) 80 [some (.ref MB), some (.int wi), some (.int wj), some (.int (nI (2 ^ nTh2 m))), some (.int (nI (i))), some (.int (nI (s))), some (.int mo), some (.int (nI (j))), none, none] [] NT (hp x m') 0 0 := by
    intro m' i s hi hs hR kk
    have eR : nO m - (nO m - i) = i := by omega
    obtain ⟨t, et⟩ : ∃ t, nO m - i = t + 1 := ⟨nO m - i - 1, by omega⟩
    have et2 : nO m - (t + 1) = i := by omega
    have et3 : nO m - (i + 1) = t := by omega
    intro n_
    induction n_ with
    | zero => intro j mo hi_ hn_; omega
    | succ n_ ih =>
      intro j mo hi_ hn_ hm
      refine x_iload7 dX10_reckon_80 ?_
      refine x_aload0 dX10_reckon_82 ?_
      refine gm21 fgX10_165 dX10_reckon_83 ?_
      refine xV.toi (nI (nTh2 m)) (by rw [hR.2.1 21 (by decide)]; exact hP.2.1) ?_
      refine n_icmp_ge 178 dX10_reckon_86 (by decide) (by omega) (by omega) (fun c86 => ?_) (fun c86 => ?_)
      · refine xV.lvle (L' := [some (.ref _), some (.int _), some (.int _), some (.int _), some (.int _), some (.int _), some (.int _), none, none, none]) ⟨rfl, rfl, rfl, rfl, rfl, rfl, rfl, trivial⟩ ?_
        refine xV.lvle (L' := [some (.ref MB), some (.int wi), some (.int wj), some (.int (nI (2 ^ nTh2 m))), some (.int (nI i)), some (.int (nI s)), some (.int mo), none, none, none]) ⟨rfl, rfl, rfl, rfl, rfl, rfl, rfl, trivial⟩ ?_
        exact kk mo (by rw [hm, show j = nTh2 m by omega, et3, et]; unfold rkM; show _ = rkJ _ _ _ _ _; rw [et2])
      · refine x_aload0 dX10_reckon_89 ?_
        refine gm22 fgX10_60 dX10_reckon_90 ?_
        refine x_bipush (nI 14) dX10_reckon_93 (by decide) ?_
        refine x_iload4 dX10_reckon_95 ?_
        refine n_imul dX10_reckon_97 ?_
        refine x_iload7 dX10_reckon_98 ?_
        refine n_iadd dX10_reckon_100 ?_
        refine lm22 ((14 * i) + j) rfl (by omega) dX10_reckon_101 ?_
        refine xV.toi (fM m i j) (by rw [hR.2.1 22 (by decide)]; rfl) ?_
        refine x_istore8 dX10_reckon_102 rfl rfl rfl ?_
        refine x_iload5 dX10_reckon_104 ?_
        refine x_iload7 dX10_reckon_106 ?_
        refine x_ishr dX10_reckon_108 ?_
        refine x_iconst (nI 1) dX10_reckon_109 (by decide) ?_
        refine x_iand dX10_reckon_110 ?_
        refine xV.toi (nI (s / 2 ^ j % 2)) (bit_n (by omega) (by omega)) ?_
        refine n_if_ne 172 dX10_reckon_111 (by decide) (by omega) (fun c111 => ?_) (fun c111 => ?_)
        · have hu : rkJ (fM m i) (rkM m wi wj (nO m - (i + 1))) (noP wi wj i) s (j + 1) = mo := by rw [hm]; exact if_neg (fun q => c111 q.1)
          refine x_iinc7 (nI (j + 1)) dX10_reckon_172 (nI_add j 1) rfl rfl rfl ?_
          refine x_goto 80 dX10_reckon_175 (by decide) ?_
          refine xV.lvle (L' := [some (.ref _), some (.int _), some (.int _), some (.int _), some (.int _), some (.int _), some (.int _), some (.int _), none, none]) ⟨rfl, rfl, rfl, rfl, rfl, rfl, rfl, rfl, trivial⟩ ?_
          exact ih (j + 1) _ (by omega) (by omega) hu.symm
        · refine x_iload8 dX10_reckon_114 ?_
          refine x_if_le 172 dX10_reckon_116 (by decide) (fun c116 => ?_) (fun c116 => ?_)
          · have hu : rkJ (fM m i) (rkM m wi wj (nO m - (i + 1))) (noP wi wj i) s (j + 1) = mo := by rw [hm]; exact if_neg (fun q => absurd q.2.1 (iNL.mpr c116))
            refine x_iinc7 (nI (j + 1)) dX10_reckon_172 (nI_add j 1) rfl rfl rfl ?_
            refine x_goto 80 dX10_reckon_175 (by decide) ?_
            refine xV.lvle (L' := [some (.ref _), some (.int _), some (.int _), some (.int _), some (.int _), some (.int _), some (.int _), some (.int _), none, none]) ⟨rfl, rfl, rfl, rfl, rfl, rfl, rfl, rfl, trivial⟩ ?_
            exact ih (j + 1) _ (by omega) (by omega) hu.symm
          · refine x_iload4 dX10_reckon_119 ?_
            refine x_iload1 dX10_reckon_121 ?_
            refine x_icmp_ne 131 dX10_reckon_122 (by decide) (fun c122 => ?_) (fun c122 => ?_)
            · have hno : noP wi wj i j = false := decide_eq_false (fun q => c122 q.1)
              refine x_iload8 dX10_reckon_131 ?_
              refine x_aload0 dX10_reckon_133 ?_
              refine gm23 fgX10_64 dX10_reckon_134 ?_
              refine x_iload4 dX10_reckon_137 ?_
              refine x_iconst (nI 1) dX10_reckon_139 (by decide) ?_
              refine n_iadd dX10_reckon_140 ?_
              refine x_bipush (nI 14) dX10_reckon_141 (by decide) ?_
              refine x_ishl dX10_reckon_143 ?_
              refine xV.toi (nI (16384 * (i + 1))) (sh_14 (by omega)) ?_
              refine x_iload5 dX10_reckon_144 ?_
              refine x_iconst (nI 1) dX10_reckon_146 (by decide) ?_
              refine x_iload7 dX10_reckon_147 ?_
              refine x_ishl dX10_reckon_149 ?_
              refine xV.toi (nI (2 ^ j)) (sh_1 (by omega)) ?_
              refine x_ior dX10_reckon_150 ?_
              refine xV.toi (nI (s ||| 2 ^ j)) (fa_or _ _) ?_
              have hor : s ||| 2 ^ j < 2 ^ nTh2 m := or_lt hs c86
              refine n_iadd dX10_reckon_151 ?_
              refine lm23 ((16384 * (i + 1)) + (s ||| 2 ^ j)) rfl (by omega) dX10_reckon_152 ?_
              refine xV.toi (rkM m wi wj (nO m - (i + 1)) (s ||| 2 ^ j)) (hR.2.2.1 (i + 1) (by omega) (by omega) _ hor) ?_
              refine x_iadd dX10_reckon_153 ?_
              refine xV.topi (fun v ev => ?_)
              refine x_istore9 dX10_reckon_154 rfl rfl rfl ?_
              refine x_iload9 dX10_reckon_156 ?_
              refine x_iload6 dX10_reckon_158 ?_
              refine x_icmp_le 168 dX10_reckon_160 (by decide) (fun c160 => ?_) (fun c160 => ?_)
              · have hu : rkJ (fM m i) (rkM m wi wj (nO m - (i + 1))) (noP wi wj i) s (j + 1) = mo := by rw [ev] at c160; rw [hm] at c160 ⊢; exact (if_pos ⟨c111, iNE.mp c116, hno⟩).trans (if_neg (iNL.mpr c160))
                refine x_iload6 dX10_reckon_168 ?_
                refine x_istore6 dX10_reckon_170 rfl rfl rfl ?_
                refine x_iinc7 (nI (j + 1)) dX10_reckon_172 (nI_add j 1) rfl rfl rfl ?_
                refine x_goto 80 dX10_reckon_175 (by decide) ?_
                refine xV.lvle (L' := [some (.ref _), some (.int _), some (.int _), some (.int _), some (.int _), some (.int _), some (.int _), some (.int _), none, none]) ⟨rfl, rfl, rfl, rfl, rfl, rfl, rfl, rfl, trivial⟩ ?_
                exact ih (j + 1) _ (by omega) (by omega) hu.symm
              · have hu : rkJ (fM m i) (rkM m wi wj (nO m - (i + 1))) (noP wi wj i) s (j + 1) = v := by rw [ev] at c160 ⊢; rw [hm] at c160; exact (if_pos ⟨c111, iNE.mp c116, hno⟩).trans (if_pos (iNE.mp c160))
                refine x_iload9 dX10_reckon_163 ?_
                refine x_goto 170 dX10_reckon_165 (by decide) ?_
                refine x_istore6 dX10_reckon_170 rfl rfl rfl ?_
                refine x_iinc7 (nI (j + 1)) dX10_reckon_172 (nI_add j 1) rfl rfl rfl ?_
                refine x_goto 80 dX10_reckon_175 (by decide) ?_
                refine xV.lvle (L' := [some (.ref _), some (.int _), some (.int _), some (.int _), some (.int _), some (.int _), some (.int _), some (.int _), none, none]) ⟨rfl, rfl, rfl, rfl, rfl, rfl, rfl, rfl, trivial⟩ ?_
                exact ih (j + 1) _ (by omega) (by omega) hu.symm
            · refine x_iload7 dX10_reckon_125 ?_
              refine x_iload2 dX10_reckon_127 ?_
              refine x_icmp_eq 172 dX10_reckon_128 (by decide) (fun c128 => ?_) (fun c128 => ?_)
              · have hu : rkJ (fM m i) (rkM m wi wj (nO m - (i + 1))) (noP wi wj i) s (j + 1) = mo := by rw [hm]; exact if_neg (fun q => absurd q.2.2 (by rw [show noP wi wj i j = true from decide_eq_true ⟨c122, c128⟩]; decide))
                refine x_iinc7 (nI (j + 1)) dX10_reckon_172 (nI_add j 1) rfl rfl rfl ?_
                refine x_goto 80 dX10_reckon_175 (by decide) ?_
                refine xV.lvle (L' := [some (.ref _), some (.int _), some (.int _), some (.int _), some (.int _), some (.int _), some (.int _), some (.int _), none, none]) ⟨rfl, rfl, rfl, rfl, rfl, rfl, rfl, rfl, trivial⟩ ?_
                exact ih (j + 1) _ (by omega) (by omega) hu.symm
              · have hno : noP wi wj i j = false := decide_eq_false (fun q => c128 q.2)
                refine x_iload8 dX10_reckon_131 ?_
                refine x_aload0 dX10_reckon_133 ?_
                refine gm23 fgX10_64 dX10_reckon_134 ?_
                refine x_iload4 dX10_reckon_137 ?_
                refine x_iconst (nI 1) dX10_reckon_139 (by decide) ?_
                refine n_iadd dX10_reckon_140 ?_
                refine x_bipush (nI 14) dX10_reckon_141 (by decide) ?_
                refine x_ishl dX10_reckon_143 ?_
                refine xV.toi (nI (16384 * (i + 1))) (sh_14 (by omega)) ?_
                refine x_iload5 dX10_reckon_144 ?_
                refine x_iconst (nI 1) dX10_reckon_146 (by decide) ?_
                refine x_iload7 dX10_reckon_147 ?_
                refine x_ishl dX10_reckon_149 ?_
                refine xV.toi (nI (2 ^ j)) (sh_1 (by omega)) ?_
                refine x_ior dX10_reckon_150 ?_
                refine xV.toi (nI (s ||| 2 ^ j)) (fa_or _ _) ?_
                have hor : s ||| 2 ^ j < 2 ^ nTh2 m := or_lt hs c86
                refine n_iadd dX10_reckon_151 ?_
                refine lm23 ((16384 * (i + 1)) + (s ||| 2 ^ j)) rfl (by omega) dX10_reckon_152 ?_
                refine xV.toi (rkM m wi wj (nO m - (i + 1)) (s ||| 2 ^ j)) (hR.2.2.1 (i + 1) (by omega) (by omega) _ hor) ?_
                refine x_iadd dX10_reckon_153 ?_
                refine xV.topi (fun v ev => ?_)
                refine x_istore9 dX10_reckon_154 rfl rfl rfl ?_
                refine x_iload9 dX10_reckon_156 ?_
                refine x_iload6 dX10_reckon_158 ?_
                refine x_icmp_le 168 dX10_reckon_160 (by decide) (fun c160 => ?_) (fun c160 => ?_)
                · have hu : rkJ (fM m i) (rkM m wi wj (nO m - (i + 1))) (noP wi wj i) s (j + 1) = mo := by rw [ev] at c160; rw [hm] at c160 ⊢; exact (if_pos ⟨c111, iNE.mp c116, hno⟩).trans (if_neg (iNL.mpr c160))
                  refine x_iload6 dX10_reckon_168 ?_
                  refine x_istore6 dX10_reckon_170 rfl rfl rfl ?_
                  refine x_iinc7 (nI (j + 1)) dX10_reckon_172 (nI_add j 1) rfl rfl rfl ?_
                  refine x_goto 80 dX10_reckon_175 (by decide) ?_
                  refine xV.lvle (L' := [some (.ref _), some (.int _), some (.int _), some (.int _), some (.int _), some (.int _), some (.int _), some (.int _), none, none]) ⟨rfl, rfl, rfl, rfl, rfl, rfl, rfl, rfl, trivial⟩ ?_
                  exact ih (j + 1) _ (by omega) (by omega) hu.symm
                · have hu : rkJ (fM m i) (rkM m wi wj (nO m - (i + 1))) (noP wi wj i) s (j + 1) = v := by rw [ev] at c160 ⊢; rw [hm] at c160; exact (if_pos ⟨c111, iNE.mp c116, hno⟩).trans (if_pos (iNE.mp c160))
                  refine x_iload9 dX10_reckon_163 ?_
                  refine x_goto 170 dX10_reckon_165 (by decide) ?_
                  refine x_istore6 dX10_reckon_170 rfl rfl rfl ?_
                  refine x_iinc7 (nI (j + 1)) dX10_reckon_172 (nI_add j 1) rfl rfl rfl ?_
                  refine x_goto 80 dX10_reckon_175 (by decide) ?_
                  refine xV.lvle (L' := [some (.ref _), some (.int _), some (.int _), some (.int _), some (.int _), some (.int _), some (.int _), some (.int _), none, none]) ⟨rfl, rfl, rfl, rfl, rfl, rfl, rfl, rfl, trivial⟩ ?_
                  exact ih (j + 1) _ (by omega) (by omega) hu.symm
  have jj : ∀ (m' : mS) (i s : Nat) (v : Int32), (i < nO m) → (s < 2 ^ nTh2 m) → (rcI m wi wj i s m') → (v = rkM m wi wj (nO m - i) s) → (∀ m2, rcI m wi wj i (s + 1) m2 → xV (mF G M_X10_reckon 0 0 0 (QI (fun r n' h' => n' = NT ∧ ∃ m', h' = hp x m' ∧ rcR m wi wj r m'))) 54 [some (.ref MB), some (.int wi), some (.int wj), some (.int (nI (2 ^ nTh2 m))), some (.int (nI i)), some (.int (nI (s + 1))), none, none, none, none] [] NT (hp x m2) 0 0) → xV (mF G M_X10_reckon 0 0 0 (QI (fun r n' h' => n' = NT ∧ ∃ m', h' = hp x m' ∧ rcR m wi wj r m'))) 178 [some (.ref MB), some (.int wi), some (.int wj), some (.int (nI (2 ^ nTh2 m))), some (.int (nI (i))), some (.int (nI (s))), some (.int v), none, none, none] [] NT (hp x m') 0 0 := by
    intro m' i s v hi hs hR hv kk
    refine x_aload0 dX10_reckon_178 ?_
    refine gm23 fgX10_64 dX10_reckon_179 ?_
    refine x_iload4 dX10_reckon_182 ?_
    refine x_bipush (nI 14) dX10_reckon_184 (by decide) ?_
    refine x_ishl dX10_reckon_186 ?_
    refine xV.toi (nI (16384 * i)) (sh_14 (by omega)) ?_
    refine x_iload5 dX10_reckon_187 ?_
    refine n_iadd dX10_reckon_189 ?_
    refine x_iload6 dX10_reckon_190 ?_
    refine sm23 ((16384 * i) + s) rfl (by omega) dX10_reckon_192 ?_
    refine x_iinc5 (nI (s + 1)) dX10_reckon_193 (nI_add s 1) rfl rfl rfl ?_
    refine x_goto 54 dX10_reckon_196 (by decide) ?_
    refine xV.lvle (L' := [some (.ref _), some (.int _), some (.int _), some (.int _), some (.int _), some (.int _), none, none, none, none]) ⟨rfl, rfl, rfl, rfl, rfl, rfl, trivial⟩ ?_
    exact kk _ (rcI_step hT3 hs hR hv)
  have ls : ∀ (i : Nat), (i < nO m) → (∀ m', rcI m wi wj i (2 ^ nTh2 m) m' → xV (mF G M_X10_reckon 0 0 0 (QI (fun r n' h' => n' = NT ∧ ∃ m', h' = hp x m' ∧ rcR m wi wj r m'))) 199 [some (.ref MB), some (.int wi), some (.int wj), some (.int (nI (2 ^ nTh2 m))), some (.int (nI i)), none, none, none, none, none] [] NT (hp x m') 0 0) → ∀ (n_ : Nat) (s : Nat) (m' : mS), s ≤ 2 ^ nTh2 m → 2 ^ nTh2 m + 1 ≤ s + n_ → (rcI m wi wj i s m') → xV (mF G M_X10_reckon 0 0 0 (QI (fun r n' h' => n' = NT ∧ ∃ m', h' = hp x m' ∧ rcR m wi wj r m'))) 54 [some (.ref MB), some (.int wi), some (.int wj), some (.int (nI (2 ^ nTh2 m))), some (.int (nI (i))), some (.int (nI (s))), none, none, none, none] [] NT (hp x m') 0 0 := by
    intro i hi kk
    intro n_
    induction n_ with
    | zero => intro s m' hi_ hn_; omega
    | succ n_ ih =>
      intro s m' hi_ hn_ hR
      refine x_iload5 dX10_reckon_54 ?_
      refine x_iload3 dX10_reckon_56 ?_
      refine n_icmp_ge 199 dX10_reckon_57 (by decide) (by omega) (by omega) (fun c57 => ?_) (fun c57 => ?_)
      · refine xV.lvle (L' := [some (.ref MB), some (.int wi), some (.int wj), some (.int (nI (2 ^ nTh2 m))), some (.int (nI i)), none, none, none, none, none]) ⟨rfl, rfl, rfl, rfl, rfl, trivial⟩ ?_
        exact kk m' (by rw [show s = 2 ^ nTh2 m by omega] at hR; exact hR)
      · refine x_aload0 dX10_reckon_60 ?_
        refine gm23 fgX10_64 dX10_reckon_61 ?_
        refine x_iload4 dX10_reckon_64 ?_
        refine x_iconst (nI 1) dX10_reckon_66 (by decide) ?_
        refine n_iadd dX10_reckon_67 ?_
        refine x_bipush (nI 14) dX10_reckon_68 (by decide) ?_
        refine x_ishl dX10_reckon_70 ?_
        refine xV.toi (nI (16384 * (i + 1))) (sh_14 (by omega)) ?_
        refine x_iload5 dX10_reckon_71 ?_
        refine n_iadd dX10_reckon_73 ?_
        refine lm23 ((16384 * (i + 1)) + s) rfl (by omega) dX10_reckon_74 ?_
        refine xV.topi (fun mo emo => ?_)
        refine x_istore6 dX10_reckon_75 rfl rfl rfl ?_
        refine x_iconst (nI 0) dX10_reckon_77 (by decide) ?_
        refine x_istore7 dX10_reckon_78 rfl rfl rfl ?_
        refine lj m' i s hi c57 hR (fun v hv => ?_) (nTh2 m + 1) 0 mo (Nat.zero_le _) (by omega) (by rw [emo]; exact hR.2.2.1 (i + 1) (by omega) (by omega) s c57)
        exact jj m' i s v hi c57 hR hv (fun m2 h2 => ih (s + 1) m2 (by omega) (by omega) h2)
  have li : ∀ (n_ : Nat) (u t : Nat) (v : Int32) (m' : mS), u ≤ nO m → nO m + 1 ≤ u + n_ → (u + t = nO m) → (v = nI t - nI 1) → (rcI m wi wj t (2 ^ nTh2 m) m') → xV (mF G M_X10_reckon 0 0 0 (QI (fun r n' h' => n' = NT ∧ ∃ m', h' = hp x m' ∧ rcR m wi wj r m'))) 46 [some (.ref MB), some (.int wi), some (.int wj), some (.int (nI (2 ^ nTh2 m))), some (.int v), none, none, none, none, none] [] NT (hp x m') 0 0 := by
    intro n_
    induction n_ with
    | zero => intro u t v m' hi_ hn_; omega
    | succ n_ ih =>
      intro u t v m' hi_ hn_ hut hv hR
      refine x_iload4 dX10_reckon_46 ?_
      refine x_if_lt 205 dX10_reckon_48 (by decide) (fun c48 => ?_) (fun c48 => ?_)
      · have t0 := dn_t (by omega) hv c48
        subst t0
        refine x_aload0 dX10_reckon_205 ?_
        refine gm23 fgX10_64 dX10_reckon_206 ?_
        refine x_iconst (nI 0) dX10_reckon_209 (by decide) ?_
        refine lm23 (0) rfl (by omega) dX10_reckon_210 ?_
        refine x_iret dX10_reckon_211 rfl ?_ (Nat.zero_le _) (Nat.zero_le _)
        refine ⟨rfl, m', rfl, hR.1, hR.2.1, fun i hi s hs => ?_, ?_⟩
        · by_cases e : i = 0
          · subst e; exact hR.2.2.2 s hs
          · exact hR.2.2.1 i (by omega) hi s hs
        · exact hR.2.2.2 0 hT1
      · obtain ⟨i, rfl, rfl⟩ := dn_f (by omega) hv c48
        refine x_iconst (nI 0) dX10_reckon_51 (by decide) ?_
        refine x_istore5 dX10_reckon_52 rfl rfl rfl ?_
        refine ls i (by omega) (fun m2 h2 => ?_) (2 ^ nTh2 m + 1) 0 m' (Nat.zero_le _) (by omega) (rcI_row hR (by omega))
        refine x_iinc4 _ dX10_reckon_199 rfl rfl rfl rfl ?_
        refine x_goto 46 dX10_reckon_202 (by decide) ?_
        exact ih (u + 1) i _ m2 (by omega) (by omega) (by omega) (dec_1 i) h2
  have lz : ∀ (n_ : Nat) (s : Nat) (m' : mS), s ≤ 2 ^ nTh2 m → 2 ^ nTh2 m + 1 ≤ s + n_ → (rcI m wi wj (nO m) s m') → xV (mF G M_X10_reckon 0 0 0 (QI (fun r n' h' => n' = NT ∧ ∃ m', h' = hp x m' ∧ rcR m wi wj r m'))) 10 [some (.ref MB), some (.int wi), some (.int wj), some (.int (nI (2 ^ nTh2 m))), some (.int (nI (s))), none, none, none, none, none] [] NT (hp x m') 0 0 := by
    intro n_
    induction n_ with
    | zero => intro s m' hi_ hn_; omega
    | succ n_ ih =>
      intro s m' hi_ hn_ hR
      refine x_iload4 dX10_reckon_10 ?_
      refine x_iload3 dX10_reckon_12 ?_
      refine n_icmp_ge 38 dX10_reckon_13 (by decide) (by omega) (by omega) (fun c13 => ?_) (fun c13 => ?_)
      · refine x_aload0 dX10_reckon_38 ?_
        refine gm20 fgX10_168 dX10_reckon_39 ?_
        refine xV.toi (nI (nO m)) (by rw [hR.2.1 20 (by decide)]; exact hP.1.1) ?_
        refine x_iconst (nI 1) dX10_reckon_42 (by decide) ?_
        refine x_isub dX10_reckon_43 ?_
        refine xV.topi (fun v ev => ?_)
        refine x_istore4 dX10_reckon_44 rfl rfl rfl ?_
        exact li (nO m + 1) 0 (nO m) v m' (Nat.zero_le _) (by omega) (by omega) ev (by rw [show s = 2 ^ nTh2 m by omega] at hR; exact hR)
      · refine x_aload0 dX10_reckon_16 ?_
        refine gm23 fgX10_64 dX10_reckon_17 ?_
        refine x_aload0 dX10_reckon_20 ?_
        refine gm20 fgX10_168 dX10_reckon_21 ?_
        refine xV.toi (nI (nO m)) (by rw [hR.2.1 20 (by decide)]; exact hP.1.1) ?_
        refine x_bipush (nI 14) dX10_reckon_24 (by decide) ?_
        refine x_ishl dX10_reckon_26 ?_
        refine xV.toi (nI (16384 * nO m)) (sh_14 (by omega)) ?_
        refine x_iload4 dX10_reckon_27 ?_
        refine n_iadd dX10_reckon_29 ?_
        refine x_iconst (nI 0) dX10_reckon_30 (by decide) ?_
        refine sm23 ((16384 * nO m) + s) rfl (by omega) dX10_reckon_31 ?_
        refine x_iinc4 (nI (s + 1)) dX10_reckon_32 (nI_add s 1) rfl rfl rfl ?_
        refine x_goto 10 dX10_reckon_35 (by decide) ?_
        exact ih (s + 1) _ (by omega) (by omega) (rcI_step hT3 c13 hR (by rw [Nat.sub_self]; rfl))
  refine xK.ofV (by decide) (Nat.le_of_ble_eq_true rfl) ?_
  refine xV.lveq (L' := [some (.ref MB), some (.int wi), some (.int wj), none, none, none, none, none, none, none]) rfl ?_
  refine x_iconst (nI 1) dX10_reckon_0 (by decide) ?_
  refine x_aload0 dX10_reckon_1 ?_
  refine gm21 fgX10_165 dX10_reckon_2 ?_
  refine xV.toi (nI (nTh2 m)) (hP.2.1) ?_
  refine x_ishl dX10_reckon_5 ?_
  refine xV.toi (nI (2 ^ nTh2 m)) (sh_1 (by omega)) ?_
  refine x_istore3 dX10_reckon_6 rfl rfl rfl ?_
  refine x_iconst (nI 0) dX10_reckon_7 (by decide) ?_
  refine x_istore4 dX10_reckon_8 rfl rfl rfl ?_
  exact lz (2 ^ nTh2 m + 1) 0 m (Nat.zero_le _) (by omega) ⟨rfl, fun _ _ => rfl, fun a h1 h2 => absurd h1 (by omega), fun q hq => absurd hq (Nat.not_lt_zero q)⟩
