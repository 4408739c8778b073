/-! ===== the model's methods, 7: sum, as, addItem, breaksOf, paired, with ===== -/
abbrev inL (m : mS) (a : Nat) : Prop := a % 80 < nL m (a / 80)
def iAm (m : mS) : Prop := ∀ a, a < 160 → inL m a → (m.1 0 a).toInt ≠ -2147483648
def sT (m : mS) (w : Int32) (a : Nat) : Int := if inL m a then (if w = 0 then (if a / 80 = 0 then (m.1 0 a).toInt else -(m.1 0 a).toInt) else if w = nI (1 + a / 80) ∧ m.1 5 a < 0 then (m.1 0 a).toInt else 0) else 0
def gT (m : mS) (g : Nat) : Int := if m.1 14 g < 0 then gDf m g else 0
def sumV (m : mS) (w : Int32) : Int := fb_si (sT m w) 160 + (if w = nI 3 then fb_si (gT m) (nG m) else 0)

set_option maxHeartbeats 4000000 in
theorem k_sum (G : vx_G) (x : vx_H) (m : mS) (hL : iL m) (hG : iG m) (hM : iMs m) (hV : iGa m) (hAm : iAm m) (w : Int32) : xK G M_X10_sum 1 [(.ref MB), (.int w)] NT (hp x m) 0 0 (QJ (fun r n' h' => r = zL (sumV m w) ∧ n' = NT ∧ h' = hp x m)) := by
  have hG2 := hG.2
  have lg : ∀ (n_ : Nat) (g : Nat) (s : Int64), g ≤ nG m → nG m + 1 ≤ g + n_ → (s = zL (fb_si (sT m w) 160 + (if w = nI 3 then fb_si (gT m) g else 0))) → xV (mF G M_X10_sum 1 0 0 (QJ (fun r n' h' => r = zL (sumV m w) ∧ n' = NT ∧ h' = hp x m))) 109 [some (.ref MB), some (.int w), some (.long s), none, some (.int (nI (g))), none] [] NT (hp x m) 0 0 := by
    intro n_
    induction n_ with
    | zero => intro g s hi_ hn_; omega
    | succ n_ ih =>
      intro g s hi_ hn_ hc
      refine x_iload4 dX10_sum_109 ?_
      refine x_aload0 dX10_sum_111 ?_
      refine gm16 fgX10_120 dX10_sum_112 ?_
      refine xV.toi (nI (nG m)) (hG.1) ?_
      refine n_icmp_ge 152 dX10_sum_115 (by decide) (by omega) (by omega) (fun c115 => ?_) (fun c115 => ?_)
      · refine x_lload2 dX10_sum_152 ?_
        refine x_lret dX10_sum_153 rfl ?_ (Nat.zero_le _) (Nat.zero_le _)
        first | exact ⟨by rw [hc, if_neg c120]; unfold sumV; rw [if_neg c120], rfl, rfl⟩ | exact ⟨by rw [hc, show g = nG m by omega]; rfl, rfl, rfl⟩
      · refine x_iload1 dX10_sum_118 ?_
        refine x_iconst (nI 3) dX10_sum_119 (by decide) ?_
        refine x_icmp_ne 152 dX10_sum_120 (by decide) (fun c120 => ?_) (fun c120 => ?_)
        · refine x_lload2 dX10_sum_152 ?_
          refine x_lret dX10_sum_153 rfl ?_ (Nat.zero_le _) (Nat.zero_le _)
          first | exact ⟨by rw [hc, if_neg c120]; unfold sumV; rw [if_neg c120], rfl, rfl⟩ | exact ⟨by rw [hc, show g = nG m by omega]; rfl, rfl, rfl⟩
        · refine x_lload2 dX10_sum_123 ?_
          refine x_aload0 dX10_sum_124 ?_
          refine gm14 fgX10_47 dX10_sum_125 ?_
          refine x_iload4 dX10_sum_128 ?_
          refine lm14 (g) rfl (by omega) dX10_sum_130 ?_
          refine x_if_ge 143 dX10_sum_131 (by decide) (fun c131 => ?_) (fun c131 => ?_)
          · have hs : gT m g = 0 := if_neg (iNL.mpr c131)
            refine x_lconst 0 dX10_sum_143 (by decide) ?_
            refine x_ladd dX10_sum_144 ?_
            refine xV.tol (zL (fb_si (sT m w) 160 + (if w = nI 3 then fb_si (gT m) (g + 1) else 0))) ?_ ?_
            · rw [hc, if_pos c120, if_pos c120, fb_si_succ (gT m) g, hs]
              first | (rw [zL_add, Int.add_assoc]; done) | (rw [← zL_0, zL_add, Int.add_assoc]; done)
            refine x_lstore2 dX10_sum_145 rfl rfl rfl ?_
            refine x_iinc4 (nI (g + 1)) dX10_sum_146 (nI_add g 1) rfl rfl rfl ?_
            refine x_goto 109 dX10_sum_149 (by decide) ?_
            exact ih (g + 1) _ (by omega) (by omega) rfl
          · have hs : gT m g = gDf m g := if_pos (iNE.mp c131)
            refine x_aload0 dX10_sum_134 ?_
            refine x_iload4 dX10_sum_135 ?_
            refine x_callV1l mvX10_213 (k_differenceOf G x m g (by omega) (hM g c115) (hV g c115)) mb_lt0 (hp_m0 _ _) (xRoom.of rfl) (Nat.le_of_ble_eq_true rfl) dX10_sum_137 (fun r_ n_ h_ hq => ?_)
            obtain ⟨rfl, rfl, rfl⟩ := hq
            refine x_goto 144 dX10_sum_140 (by decide) ?_
            refine x_ladd dX10_sum_144 ?_
            refine xV.tol (zL (fb_si (sT m w) 160 + (if w = nI 3 then fb_si (gT m) (g + 1) else 0))) ?_ ?_
            · rw [hc, if_pos c120, if_pos c120, fb_si_succ (gT m) g, hs]
              first | (rw [zL_add, Int.add_assoc]; done) | (rw [← zL_0, zL_add, Int.add_assoc]; done)
            refine x_lstore2 dX10_sum_145 rfl rfl rfl ?_
            refine x_iinc4 (nI (g + 1)) dX10_sum_146 (nI_add g 1) rfl rfl rfl ?_
            refine x_goto 109 dX10_sum_149 (by decide) ?_
            exact ih (g + 1) _ (by omega) (by omega) rfl
  have lp : ∀ (n_ : Nat) (i : Nat) (s : Int64), i ≤ 160 → 160 + 1 ≤ i + n_ → (s = zL (fb_si (sT m w) i)) → xV (mF G M_X10_sum 1 0 0 (QJ (fun r n' h' => r = zL (sumV m w) ∧ n' = NT ∧ h' = hp x m))) 5 [some (.ref MB), some (.int w), some (.long s), none, some (.int (nI (i))), none] [] NT (hp x m) 0 0 := by
    intro n_
    induction n_ with
    | zero => intro i s hi_ hn_; omega
    | succ n_ ih =>
      intro i s hi_ hn_ hc
      refine x_iload4 dX10_sum_5 ?_
      refine x_sipush (nI 160) dX10_sum_7 (by decide) ?_
      refine n_icmp_ge 106 dX10_sum_10 (by decide) (by omega) (by omega) (fun c10 => ?_) (fun c10 => ?_)
      · have ei : i = 160 := by omega
        subst ei
        refine x_iconst (nI 0) dX10_sum_106 (by decide) ?_
        refine x_istore4 dX10_sum_107 rfl rfl rfl ?_
        exact lg (nG m + 1) 0 s (Nat.zero_le _) (by omega) (by rw [hc, show (if w = nI 3 then fb_si (gT m) 0 else 0) = 0 by split <;> rfl, Int.add_zero])
      · have hi2 : i / 80 < 2 := by omega
        obtain ⟨e6, l6⟩ := hL (i / 80) hi2
        refine x_iload4 dX10_sum_13 ?_
        refine x_bipush (nI 80) dX10_sum_15 (by decide) ?_
        refine n_idiv dX10_sum_17 (by omega) (by omega) (by omega) ?_
        refine x_istore5 dX10_sum_18 rfl rfl rfl ?_
        refine x_iload4 dX10_sum_20 ?_
        refine x_bipush (nI 80) dX10_sum_22 (by decide) ?_
        refine n_irem dX10_sum_24 (by omega) (by omega) (by omega) ?_
        refine x_aload0 dX10_sum_25 ?_
        refine gm6 fgX10_28 dX10_sum_26 ?_
        refine x_iload5 dX10_sum_29 ?_
        refine lm6 (i / 80) rfl (by omega) dX10_sum_31 ?_
        refine xV.toi (nI (nL m (i / 80))) (e6) ?_
        refine n_icmp_ge 100 dX10_sum_32 (by decide) (by omega) (by omega) (fun c32 => ?_) (fun c32 => ?_)
        · have hs : sT m w i = 0 := if_neg (by omega)
          refine x_iinc4 (nI (i + 1)) dX10_sum_100 (nI_add i 1) rfl rfl rfl ?_
          refine x_goto 5 dX10_sum_103 (by decide) ?_
          refine xV.lvle (L' := [some (.ref _), some (.int _), some (.long _), none, some (.int _), none]) ⟨rfl, rfl, rfl, rfl, trivial⟩ ?_
          first | exact ih (i + 1) _ (by omega) (by omega) rfl | exact ih (i + 1) s (by omega) (by omega) (by rw [fb_si_succ, hs, hc, Int.add_zero])
        · have hne := hAm i (by omega) c32
          refine x_lload2 dX10_sum_35 ?_
          refine x_iload1 dX10_sum_36 ?_
          refine x_if_ne 68 dX10_sum_37 (by decide) (fun c37 => ?_) (fun c37 => ?_)
          · refine x_iload1 dX10_sum_68 ?_
            refine x_iconst (nI 1) dX10_sum_69 (by decide) ?_
            refine x_iload5 dX10_sum_70 ?_
            refine n_iadd dX10_sum_72 ?_
            refine x_icmp_ne 97 dX10_sum_73 (by decide) (fun c73 => ?_) (fun c73 => ?_)
            · have hs : sT m w i = 0 := by unfold sT; rw [if_pos c32, if_neg c37, if_neg (fun q => c73 q.1)]
              refine x_lconst 0 dX10_sum_97 (by decide) ?_
              refine x_ladd dX10_sum_98 ?_
              refine xV.tol (zL (fb_si (sT m w) (i + 1))) ?_ ?_
              · rw [fb_si_succ, hc, hs]
                first | (rw [negL hne, zL_add]; done) | (rw [toL, zL_add]; done) | (rw [← zL_0, zL_add]; done)
              refine x_lstore2 dX10_sum_99 rfl rfl rfl ?_
              refine x_iinc4 (nI (i + 1)) dX10_sum_100 (nI_add i 1) rfl rfl rfl ?_
              refine x_goto 5 dX10_sum_103 (by decide) ?_
              refine xV.lvle (L' := [some (.ref _), some (.int _), some (.long _), none, some (.int _), none]) ⟨rfl, rfl, rfl, rfl, trivial⟩ ?_
              first | exact ih (i + 1) _ (by omega) (by omega) rfl | exact ih (i + 1) s (by omega) (by omega) (by rw [fb_si_succ, hs, hc, Int.add_zero])
            · refine x_aload0 dX10_sum_76 ?_
              refine gm5 fgX10_25 dX10_sum_77 ?_
              refine x_iload4 dX10_sum_80 ?_
              refine lm5 (i) rfl (by omega) dX10_sum_82 ?_
              refine x_if_ge 97 dX10_sum_83 (by decide) (fun c83 => ?_) (fun c83 => ?_)
              · have hs : sT m w i = 0 := by unfold sT; rw [if_pos c32, if_neg c37, if_neg (fun q => iNL.mpr c83 q.2)]
                refine x_lconst 0 dX10_sum_97 (by decide) ?_
                refine x_ladd dX10_sum_98 ?_
                refine xV.tol (zL (fb_si (sT m w) (i + 1))) ?_ ?_
                · rw [fb_si_succ, hc, hs]
                  first | (rw [negL hne, zL_add]; done) | (rw [toL, zL_add]; done) | (rw [← zL_0, zL_add]; done)
                refine x_lstore2 dX10_sum_99 rfl rfl rfl ?_
                refine x_iinc4 (nI (i + 1)) dX10_sum_100 (nI_add i 1) rfl rfl rfl ?_
                refine x_goto 5 dX10_sum_103 (by decide) ?_
                refine xV.lvle (L' := [some (.ref _), some (.int _), some (.long _), none, some (.int _), none]) ⟨rfl, rfl, rfl, rfl, trivial⟩ ?_
                first | exact ih (i + 1) _ (by omega) (by omega) rfl | exact ih (i + 1) s (by omega) (by omega) (by rw [fb_si_succ, hs, hc, Int.add_zero])
              · have hs : sT m w i = (m.1 0 i).toInt := by unfold sT; rw [if_pos c32, if_neg c37, if_pos ⟨c73, iNE.mp c83⟩]
                refine x_aload0 dX10_sum_86 ?_
                refine gm0 fgX10_9 dX10_sum_87 ?_
                refine x_iload4 dX10_sum_90 ?_
                refine lm0 (i) rfl (by omega) dX10_sum_92 ?_
                refine x_i2l dX10_sum_93 ?_
                refine x_goto 98 dX10_sum_94 (by decide) ?_
                refine x_ladd dX10_sum_98 ?_
                refine xV.tol (zL (fb_si (sT m w) (i + 1))) ?_ ?_
                · rw [fb_si_succ, hc, hs]
                  first | (rw [negL hne, zL_add]; done) | (rw [toL, zL_add]; done) | (rw [← zL_0, zL_add]; done)
                refine x_lstore2 dX10_sum_99 rfl rfl rfl ?_
                refine x_iinc4 (nI (i + 1)) dX10_sum_100 (nI_add i 1) rfl rfl rfl ?_
                refine x_goto 5 dX10_sum_103 (by decide) ?_
                refine xV.lvle (L' := [some (.ref _), some (.int _), some (.long _), none, some (.int _), none]) ⟨rfl, rfl, rfl, rfl, trivial⟩ ?_
                first | exact ih (i + 1) _ (by omega) (by omega) rfl | exact ih (i + 1) s (by omega) (by omega) (by rw [fb_si_succ, hs, hc, Int.add_zero])
          · refine x_iload5 dX10_sum_40 ?_
            refine n_if_ne 56 dX10_sum_42 (by decide) (by omega) (fun c42 => ?_) (fun c42 => ?_)
            · have hs : sT m w i = -(m.1 0 i).toInt := by unfold sT; rw [if_pos c32, if_pos c37, if_neg c42]
              refine x_aload0 dX10_sum_56 ?_
              refine gm0 fgX10_9 dX10_sum_57 ?_
              refine x_iload4 dX10_sum_60 ?_
              refine lm0 (i) rfl (by omega) dX10_sum_62 ?_
              refine x_ineg dX10_sum_63 ?_
              refine x_i2l dX10_sum_64 ?_
              refine x_goto 98 dX10_sum_65 (by decide) ?_
              refine x_ladd dX10_sum_98 ?_
              refine xV.tol (zL (fb_si (sT m w) (i + 1))) ?_ ?_
              · rw [fb_si_succ, hc, hs]
                first | (rw [negL hne, zL_add]; done) | (rw [toL, zL_add]; done) | (rw [← zL_0, zL_add]; done)
              refine x_lstore2 dX10_sum_99 rfl rfl rfl ?_
              refine x_iinc4 (nI (i + 1)) dX10_sum_100 (nI_add i 1) rfl rfl rfl ?_
              refine x_goto 5 dX10_sum_103 (by decide) ?_
              refine xV.lvle (L' := [some (.ref _), some (.int _), some (.long _), none, some (.int _), none]) ⟨rfl, rfl, rfl, rfl, trivial⟩ ?_
              first | exact ih (i + 1) _ (by omega) (by omega) rfl | exact ih (i + 1) s (by omega) (by omega) (by rw [fb_si_succ, hs, hc, Int.add_zero])
            · have hs : sT m w i = (m.1 0 i).toInt := by unfold sT; rw [if_pos c32, if_pos c37, if_pos c42]
              refine x_aload0 dX10_sum_45 ?_
              refine gm0 fgX10_9 dX10_sum_46 ?_
              refine x_iload4 dX10_sum_49 ?_
              refine lm0 (i) rfl (by omega) dX10_sum_51 ?_
              refine x_i2l dX10_sum_52 ?_
              refine x_goto 98 dX10_sum_53 (by decide) ?_
              refine x_ladd dX10_sum_98 ?_
              refine xV.tol (zL (fb_si (sT m w) (i + 1))) ?_ ?_
              · rw [fb_si_succ, hc, hs]
                first | (rw [negL hne, zL_add]; done) | (rw [toL, zL_add]; done) | (rw [← zL_0, zL_add]; done)
              refine x_lstore2 dX10_sum_99 rfl rfl rfl ?_
              refine x_iinc4 (nI (i + 1)) dX10_sum_100 (nI_add i 1) rfl rfl rfl ?_
              refine x_goto 5 dX10_sum_103 (by decide) ?_
              refine xV.lvle (L' := [some (.ref _), some (.int _), some (.long _), none, some (.int _), none]) ⟨rfl, rfl, rfl, rfl, trivial⟩ ?_
              first | exact ih (i + 1) _ (by omega) (by omega) rfl | exact ih (i + 1) s (by omega) (by omega) (by rw [fb_si_succ, hs, hc, Int.add_zero])
  refine xK.ofV (by decide) (Nat.le_of_ble_eq_true rfl) ?_
  refine xV.lveq (L' := [some (.ref MB), some (.int w), none, none, none, none]) rfl ?_
  refine x_lconst 0 dX10_sum_0 (by decide) ?_
  refine x_lstore2 dX10_sum_1 rfl rfl rfl ?_
  refine x_iconst (nI 0) dX10_sum_2 (by decide) ?_
  refine x_istore4 dX10_sum_3 rfl rfl rfl ?_
  exact lp 161 0 0 (by decide) (by decide) zL_0.symm

def atB (m : mS) (g a k : Nat) : Bool := decide (mb m g k = a)
def hG_ (m : mS) (d : Int32) (a g : Nat) : Bool := decide (was m g d ∧ 0 < fb_ct (atB m g a) (nM m g))
abbrev unh (m : mS) (d : Int32) (a : Nat) : Prop := (inL m a ∧ m.1 4 a ≤ d) ∧ fb_ct (hG_ m d a) (nG m) = 0
def aT (m : mS) (d w : Int32) (a : Nat) : Int := if unh m d a then (if w = 0 then 1 else if a < 80 then (m.1 0 a).toInt else -(m.1 0 a).toInt) else 0
abbrev okAs (m : mS) (d w : Int32) : Prop := (nI 0 ≤ d ∧ d ≤ m.1 7 0) ∧ nI 0 ≤ w ∧ w ≤ nI 2
def wsB (m : mS) (d : Int32) (g : Nat) : Bool := decide (was m g d)
def asV (m : mS) (d w : Int32) : Int64 := if okAs m d w then (if w = nI 2 then zL (fb_ct (wsB m d) (nG m)) else zL (fb_si (aT m d w) 160)) else -2000000000000

set_option maxHeartbeats 4000000 in
theorem k_as (G : vx_G) (x : vx_H) (m : mS) (hL : iL m) (hG : iG m) (hM : iMs m) (hAm : iAm m) (d w : Int32) : xK G M_X10_as 1 [(.ref MB), (.int d), (.int w)] NT (hp x m) 0 0 (QJ (fun r n' h' => r = asV m d w ∧ n' = NT ∧ h' = hp x m)) := by
  have hG2 := hG.2
  have lw : (okAs m d w) → (w = nI 2) → ∀ (n_ : Nat) (g : Nat) (s : Int64), g ≤ nG m → nG m + 1 ≤ g + n_ → (s = zL (fb_ct (wsB m d) g)) → xV (mF G M_X10_as 1 0 0 (QJ (fun r n' h' => r = asV m d w ∧ n' = NT ∧ h' = hp x m))) 35 [some (.ref MB), some (.int d), some (.int w), some (.long s), none, some (.int (nI (g))), none, none, none] [] NT (hp x m) 0 0 := by
    intro  hok c29
    intro n_
    induction n_ with
    | zero => intro g s hi_ hn_; omega
    | succ n_ ih =>
      intro g s hi_ hn_ hc
      refine x_iload5 dX10_as_35 ?_
      refine x_aload0 dX10_as_37 ?_
      refine gm16 fgX10_120 dX10_as_38 ?_
      refine xV.toi (nI (nG m)) (hG.1) ?_
      refine n_icmp_ge 68 dX10_as_41 (by decide) (by omega) (by omega) (fun c41 => ?_) (fun c41 => ?_)
      · refine x_lload3 dX10_as_68 ?_
        refine x_lret dX10_as_69 rfl ?_ (Nat.zero_le _) (Nat.zero_le _)
        exact ⟨by unfold asV; rw [if_pos hok, if_pos c29, hc, show g = nG m by omega], rfl, rfl⟩
      · refine x_lload3 dX10_as_44 ?_
        refine x_aload0 dX10_as_45 ?_
        refine x_iload5 dX10_as_46 ?_
        refine x_iload1 dX10_as_48 ?_
        refine x_callV2i mvX10_219 (k_wasThere G x m g (by omega) d) mb_lt0 (hp_m0 _ _) (xRoom.of rfl) (Nat.le_of_ble_eq_true rfl) dX10_as_49 (fun r_ n_ h_ hq => ?_)
        obtain ⟨rfl, rfl, rfl⟩ := hq
        refine b_if_eq 59 dX10_as_52 (by decide) (fun c52 => ?_) (fun c52 => ?_)
        · have hs : wsB m d g = false := decide_eq_false c52
          refine x_lconst 0 dX10_as_59 (by decide) ?_
          refine x_ladd dX10_as_60 ?_
          refine xV.tol (zL (fb_ct (wsB m d) (g + 1))) ?_ ?_
          · rw [hc, fb_ct_succ, hs]
            first | (rw [← zL_1, zL_add]; rfl) | (rw [← zL_0, zL_add]; rfl)
          refine x_lstore3 dX10_as_61 rfl rfl rfl ?_
          refine x_iinc5 (nI (g + 1)) dX10_as_62 (nI_add g 1) rfl rfl rfl ?_
          refine x_goto 35 dX10_as_65 (by decide) ?_
          exact ih (g + 1) _ (by omega) (by omega) rfl
        · have hs : wsB m d g = true := decide_eq_true c52
          refine x_lconst 1 dX10_as_55 (by decide) ?_
          refine x_goto 60 dX10_as_56 (by decide) ?_
          refine x_ladd dX10_as_60 ?_
          refine xV.tol (zL (fb_ct (wsB m d) (g + 1))) ?_ ?_
          · rw [hc, fb_ct_succ, hs]
            first | (rw [← zL_1, zL_add]; rfl) | (rw [← zL_0, zL_add]; rfl)
          refine x_lstore3 dX10_as_61 rfl rfl rfl ?_
          refine x_iinc5 (nI (g + 1)) dX10_as_62 (nI_add g 1) rfl rfl rfl ?_
          refine x_goto 35 dX10_as_65 (by decide) ?_
          exact ih (g + 1) _ (by omega) (by omega) rfl
  have ja : ∀ (i : Nat) (s : Int64) (u : Int32), (i < 160) → (okAs m d w) → (¬ w = nI 2) → (s = zL (fb_si (aT m d w) i)) → (u = bI (unh m d i)) → (∀ s', s' = zL (fb_si (aT m d w) (i + 1)) → xV (mF G M_X10_as 1 0 0 (QJ (fun r n' h' => r = asV m d w ∧ n' = NT ∧ h' = hp x m))) 73 [some (.ref MB), some (.int d), some (.int w), some (.long s'), none, some (.int (nI (i + 1))), none, none, none] [] NT (hp x m) 0 0) → xV (mF G M_X10_as 1 0 0 (QJ (fun r n' h' => r = asV m d w ∧ n' = NT ∧ h' = hp x m))) 201 [some (.ref MB), some (.int d), some (.int w), some (.long s), none, some (.int (nI (i))), some (.int u), none, none] [] NT (hp x m) 0 0 := by
    intro i s u hi hok c29 hc hu kk
    subst hu
    have hi2 : i / 80 < 2 := by omega
    refine x_lload3 dX10_as_201 ?_
    refine x_iload6 dX10_as_202 ?_
    refine b_if_ne 211 dX10_as_204 (by decide) (fun c204 => ?_) (fun c204 => ?_)
    · have hne := hAm i hi c204.1.1
      refine x_iload2 dX10_as_211 ?_
      refine x_if_ne 219 dX10_as_212 (by decide) (fun c212 => ?_) (fun c212 => ?_)
      · refine x_iload5 dX10_as_219 ?_
        refine x_bipush (nI 80) dX10_as_221 (by decide) ?_
        refine n_icmp_ge 237 dX10_as_223 (by decide) (by omega) (by omega) (fun c223 => ?_) (fun c223 => ?_)
        · have hs : aT m d w i = -(m.1 0 i).toInt := by unfold aT; rw [if_pos c204, if_neg c212, if_neg (by omega)]
          refine x_aload0 dX10_as_237 ?_
          refine gm0 fgX10_9 dX10_as_238 ?_
          refine x_iload5 dX10_as_241 ?_
          refine lm0 (i) rfl (by omega) dX10_as_243 ?_
          refine x_ineg dX10_as_244 ?_
          refine x_i2l dX10_as_245 ?_
          refine x_ladd dX10_as_246 ?_
          refine xV.tol (zL (fb_si (aT m d w) (i + 1))) ?_ ?_
          · rw [fb_si_succ, hc, hs]
            first | (rw [negL hne, zL_add]; done) | (rw [toL, zL_add]; done) | (rw [← zL_0, zL_add]; done) | (rw [← zL_1, zL_add]; done)
          refine x_lstore3 dX10_as_247 rfl rfl rfl ?_
          refine x_iinc5 (nI (i + 1)) dX10_as_248 (nI_add i 1) rfl rfl rfl ?_
          refine x_goto 73 dX10_as_251 (by decide) ?_
          refine xV.lvle (L' := [some (.ref _), some (.int _), some (.int _), some (.long _), none, some (.int _), none, none, none]) ⟨rfl, rfl, rfl, rfl, rfl, trivial⟩ ?_
          exact kk _ rfl
        · have hs : aT m d w i = (m.1 0 i).toInt := by unfold aT; rw [if_pos c204, if_neg c212, if_pos c223]
          refine x_aload0 dX10_as_226 ?_
          refine gm0 fgX10_9 dX10_as_227 ?_
          refine x_iload5 dX10_as_230 ?_
          refine lm0 (i) rfl (by omega) dX10_as_232 ?_
          refine x_i2l dX10_as_233 ?_
          refine x_goto 246 dX10_as_234 (by decide) ?_
          refine x_ladd dX10_as_246 ?_
          refine xV.tol (zL (fb_si (aT m d w) (i + 1))) ?_ ?_
          · rw [fb_si_succ, hc, hs]
            first | (rw [negL hne, zL_add]; done) | (rw [toL, zL_add]; done) | (rw [← zL_0, zL_add]; done) | (rw [← zL_1, zL_add]; done)
          refine x_lstore3 dX10_as_247 rfl rfl rfl ?_
          refine x_iinc5 (nI (i + 1)) dX10_as_248 (nI_add i 1) rfl rfl rfl ?_
          refine x_goto 73 dX10_as_251 (by decide) ?_
          refine xV.lvle (L' := [some (.ref _), some (.int _), some (.int _), some (.long _), none, some (.int _), none, none, none]) ⟨rfl, rfl, rfl, rfl, rfl, trivial⟩ ?_
          exact kk _ rfl
      · have hs : aT m d w i = 1 := by unfold aT; rw [if_pos c204, if_pos c212]
        refine x_lconst 1 dX10_as_215 (by decide) ?_
        refine x_goto 246 dX10_as_216 (by decide) ?_
        refine x_ladd dX10_as_246 ?_
        refine xV.tol (zL (fb_si (aT m d w) (i + 1))) ?_ ?_
        · rw [fb_si_succ, hc, hs]
          first | (rw [negL hne, zL_add]; done) | (rw [toL, zL_add]; done) | (rw [← zL_0, zL_add]; done) | (rw [← zL_1, zL_add]; done)
        refine x_lstore3 dX10_as_247 rfl rfl rfl ?_
        refine x_iinc5 (nI (i + 1)) dX10_as_248 (nI_add i 1) rfl rfl rfl ?_
        refine x_goto 73 dX10_as_251 (by decide) ?_
        refine xV.lvle (L' := [some (.ref _), some (.int _), some (.int _), some (.long _), none, some (.int _), none, none, none]) ⟨rfl, rfl, rfl, rfl, rfl, trivial⟩ ?_
        exact kk _ rfl
    · have hs : aT m d w i = 0 := if_neg c204
      refine x_lconst 0 dX10_as_207 (by decide) ?_
      refine x_goto 246 dX10_as_208 (by decide) ?_
      refine x_ladd dX10_as_246 ?_
      refine xV.tol (zL (fb_si (aT m d w) (i + 1))) ?_ ?_
      · rw [fb_si_succ, hc, hs]
        first | (rw [negL hne, zL_add]; done) | (rw [toL, zL_add]; done) | (rw [← zL_0, zL_add]; done) | (rw [← zL_1, zL_add]; done)
      refine x_lstore3 dX10_as_247 rfl rfl rfl ?_
      refine x_iinc5 (nI (i + 1)) dX10_as_248 (nI_add i 1) rfl rfl rfl ?_
      refine x_goto 73 dX10_as_251 (by decide) ?_
      refine xV.lvle (L' := [some (.ref _), some (.int _), some (.int _), some (.long _), none, some (.int _), none, none, none]) ⟨rfl, rfl, rfl, rfl, rfl, trivial⟩ ?_
      exact kk _ rfl
  have lk : ∀ (i g : Nat) (s : Int64) (u0 : Int32), (i < 160) → (g < nG m) → (u0 = 1) → (∀ u, u = bI (¬ hG_ m d i g = true) → xV (mF G M_X10_as 1 0 0 (QJ (fun r n' h' => r = asV m d w ∧ n' = NT ∧ h' = hp x m))) 120 [some (.ref MB), some (.int d), some (.int w), some (.long s), none, some (.int (nI i)), some (.int u), some (.int (nI (g + 1))), none] [] NT (hp x m) 0 0) → ∀ (n_ : Nat) (k : Nat) (u : Int32), k ≤ nM m g → nM m g + 1 ≤ k + n_ → (u = bI (¬ (was m g d ∧ 0 < fb_ct (atB m g i) k))) → xV (mF G M_X10_as 1 0 0 (QJ (fun r n' h' => r = asV m d w ∧ n' = NT ∧ h' = hp x m))) 137 [some (.ref MB), some (.int d), some (.int w), some (.long s), none, some (.int (nI (i))), some (.int u), some (.int (nI (g))), some (.int (nI (k)))] [] NT (hp x m) 0 0 := by
    intro i g s u0 hi hg hu0 kk
    obtain ⟨b1, b2, b3⟩ := hM g hg
    intro n_
    induction n_ with
    | zero => intro k u hi_ hn_; omega
    | succ n_ ih =>
      intro k u hi_ hn_ hu
      refine x_iload8 dX10_as_137 ?_
      refine x_aload0 dX10_as_139 ?_
      refine gm12 fgX10_41 dX10_as_140 ?_
      refine x_iload7 dX10_as_143 ?_
      refine lm12 (g) rfl (by omega) dX10_as_145 ?_
      refine xV.toi (nI (nM m g)) (b1) ?_
      refine n_icmp_ge 195 dX10_as_146 (by decide) (by omega) (by omega) (fun c146 => ?_) (fun c146 => ?_)
      · have ek : k = nM m g := by omega
        subst ek
        refine x_iinc7 (nI (g + 1)) dX10_as_195 (nI_add g 1) rfl rfl rfl ?_
        refine x_goto 120 dX10_as_198 (by decide) ?_
        refine xV.lvle (L' := [some (.ref _), some (.int _), some (.int _), some (.long _), none, some (.int _), some (.int _), some (.int _), none]) ⟨rfl, rfl, rfl, rfl, rfl, rfl, rfl, trivial⟩ ?_
        exact kk _ (by rw [hu]; exact bI_iff (by unfold hG_; simp))
      · obtain ⟨e1, l1⟩ := b3 k (by omega)
        have hct := fb_ct_succ (atB m g i) k
        refine x_iload6 dX10_as_149 ?_
        refine x_if_eq 186 dX10_as_151 (by decide) (fun c151 => ?_) (fun c151 => ?_)
        · have hn : ¬ ¬ (was m g d ∧ 0 < fb_ct (atB m g i) k) := by rw [hu] at c151; exact bI_0.mp c151
          have hs : nI 0 = bI (¬ (was m g d ∧ 0 < fb_ct (atB m g i) (k + 1))) := by rw [nI_0]; exact (bI_f (fun q => hn (fun z => q ⟨z.1, by omega⟩))).symm
          refine x_iconst (nI 0) dX10_as_186 (by decide) ?_
          refine x_istore6 dX10_as_187 rfl rfl rfl ?_
          refine x_iinc8 (nI (k + 1)) dX10_as_189 (nI_add k 1) rfl rfl rfl ?_
          refine x_goto 137 dX10_as_192 (by decide) ?_
          exact ih (k + 1) _ (by omega) (by omega) hs
        · have hn : ¬ (was m g d ∧ 0 < fb_ct (atB m g i) k) := by rw [hu] at c151; exact bI_n0.mp c151
          refine x_aload0 dX10_as_154 ?_
          refine gm11 fgX10_38 dX10_as_155 ?_
          refine x_bipush (nI 8) dX10_as_158 (by decide) ?_
          refine x_iload7 dX10_as_160 ?_
          refine n_imul dX10_as_162 ?_
          refine x_iload8 dX10_as_163 ?_
          refine n_iadd dX10_as_165 ?_
          refine lm11 ((8 * g) + k) rfl (by omega) dX10_as_166 ?_
          refine xV.toi (nI (mb m g k)) (e1) ?_
          refine x_iload5 dX10_as_167 ?_
          refine n_icmp_ne 182 dX10_as_169 (by decide) (by omega) (by omega) (fun c169 => ?_) (fun c169 => ?_)
          · have hf : atB m g i k = false := decide_eq_false c169
            rw [hf] at hct
            have hs : nI 1 = bI (¬ (was m g d ∧ 0 < fb_ct (atB m g i) (k + 1))) := by rw [nI1]; exact (bI_t (c := ¬ (was m g d ∧ 0 < fb_ct (atB m g i) (k + 1))) (fun q => hn ⟨q.1, by simp at hct; omega⟩)).symm
            refine x_iconst (nI 1) dX10_as_182 (by decide) ?_
            refine x_goto 187 dX10_as_183 (by decide) ?_
            refine x_istore6 dX10_as_187 rfl rfl rfl ?_
            refine x_iinc8 (nI (k + 1)) dX10_as_189 (nI_add k 1) rfl rfl rfl ?_
            refine x_goto 137 dX10_as_192 (by decide) ?_
            exact ih (k + 1) _ (by omega) (by omega) hs
          · have hf : atB m g i k = true := decide_eq_true c169
            rw [hf] at hct
            refine x_aload0 dX10_as_172 ?_
            refine x_iload7 dX10_as_173 ?_
            refine x_iload1 dX10_as_175 ?_
            refine x_callV2i mvX10_219 (k_wasThere G x m g (by omega) d) mb_lt0 (hp_m0 _ _) (xRoom.of rfl) (Nat.le_of_ble_eq_true rfl) dX10_as_176 (fun r_ n_ h_ hq => ?_)
            obtain ⟨rfl, rfl, rfl⟩ := hq
            refine b_if_ne 186 dX10_as_179 (by decide) (fun c179 => ?_) (fun c179 => ?_)
            · have hs : nI 0 = bI (¬ (was m g d ∧ 0 < fb_ct (atB m g i) (k + 1))) := by rw [nI_0]; exact (bI_f (fun q => q ⟨c179, by simp at hct; omega⟩)).symm
              refine x_iconst (nI 0) dX10_as_186 (by decide) ?_
              refine x_istore6 dX10_as_187 rfl rfl rfl ?_
              refine x_iinc8 (nI (k + 1)) dX10_as_189 (nI_add k 1) rfl rfl rfl ?_
              refine x_goto 137 dX10_as_192 (by decide) ?_
              exact ih (k + 1) _ (by omega) (by omega) hs
            · have hs : nI 1 = bI (¬ (was m g d ∧ 0 < fb_ct (atB m g i) (k + 1))) := by rw [nI1]; exact (bI_t (c := ¬ (was m g d ∧ 0 < fb_ct (atB m g i) (k + 1))) (fun q => c179 q.1)).symm
              refine x_iconst (nI 1) dX10_as_182 (by decide) ?_
              refine x_goto 187 dX10_as_183 (by decide) ?_
              refine x_istore6 dX10_as_187 rfl rfl rfl ?_
              refine x_iinc8 (nI (k + 1)) dX10_as_189 (nI_add k 1) rfl rfl rfl ?_
              refine x_goto 137 dX10_as_192 (by decide) ?_
              exact ih (k + 1) _ (by omega) (by omega) hs
  have lg : ∀ (i : Nat) (s : Int64), (i < 160) → (∀ u, u = bI (unh m d i) → xV (mF G M_X10_as 1 0 0 (QJ (fun r n' h' => r = asV m d w ∧ n' = NT ∧ h' = hp x m))) 201 [some (.ref MB), some (.int d), some (.int w), some (.long s), none, some (.int (nI i)), some (.int u), none, none] [] NT (hp x m) 0 0) → ∀ (n_ : Nat) (g : Nat) (u : Int32), g ≤ nG m → nG m + 1 ≤ g + n_ → (u = bI ((inL m i ∧ m.1 4 i ≤ d) ∧ fb_ct (hG_ m d i) g = 0)) → xV (mF G M_X10_as 1 0 0 (QJ (fun r n' h' => r = asV m d w ∧ n' = NT ∧ h' = hp x m))) 120 [some (.ref MB), some (.int d), some (.int w), some (.long s), none, some (.int (nI (i))), some (.int u), some (.int (nI (g))), none] [] NT (hp x m) 0 0 := by
    intro i s hi kk
    intro n_
    induction n_ with
    | zero => intro g u hi_ hn_; omega
    | succ n_ ih =>
      intro g u hi_ hn_ hu
      refine x_iload7 dX10_as_120 ?_
      refine x_aload0 dX10_as_122 ?_
      refine gm16 fgX10_120 dX10_as_123 ?_
      refine xV.toi (nI (nG m)) (hG.1) ?_
      refine n_icmp_ge 201 dX10_as_126 (by decide) (by omega) (by omega) (fun c126 => ?_) (fun c126 => ?_)
      · have hs : u = bI (unh m d i) := by rw [hu, show g = nG m by omega]
        refine xV.lvle (L' := [some (.ref _), some (.int _), some (.int _), some (.long _), none, some (.int _), some (.int _), none, none]) ⟨rfl, rfl, rfl, rfl, rfl, rfl, trivial⟩ ?_
        exact kk _ hs
      · refine x_iload6 dX10_as_129 ?_
        refine x_if_eq 201 dX10_as_131 (by decide) (fun c131 => ?_) (fun c131 => ?_)
        · have hn : ¬ ((inL m i ∧ m.1 4 i ≤ d) ∧ fb_ct (hG_ m d i) g = 0) := by rw [hu] at c131; exact bI_0.mp c131
          have hs : u = bI (unh m d i) := by rw [hu]; exact (bI_f hn).trans (bI_f (fun q => hn ⟨q.1, by have := fb_ct_mono (hG_ m d i) (show g ≤ nG m by omega); omega⟩)).symm
          refine xV.lvle (L' := [some (.ref _), some (.int _), some (.int _), some (.long _), none, some (.int _), some (.int _), none, none]) ⟨rfl, rfl, rfl, rfl, rfl, rfl, trivial⟩ ?_
          exact kk _ hs
        · have hn : (inL m i ∧ m.1 4 i ≤ d) ∧ fb_ct (hG_ m d i) g = 0 := by rw [hu] at c131; exact bI_n0.mp c131
          have hu1 : u = 1 := by rw [hu]; exact bI_t hn
          refine x_iconst (nI 0) dX10_as_134 (by decide) ?_
          refine x_istore8 dX10_as_135 rfl rfl rfl ?_
          exact lk i g s u hi c126 hu1 (fun u2 h2 => ih (g + 1) u2 (by omega) (by omega) (by rw [h2, fb_ct_succ]; refine bI_iff ⟨fun q => ⟨hn.1, ?_⟩, fun q z => ?_⟩ <;> simp_all)) (nM m g + 1) 0 u (Nat.zero_le _) (by omega) (by rw [hu1]; exact (bI_t (by simp [fb_ct])).symm)
  have la : (okAs m d w) → (¬ w = nI 2) → ∀ (n_ : Nat) (i : Nat) (s : Int64), i ≤ 160 → 160 + 1 ≤ i + n_ → (s = zL (fb_si (aT m d w) i)) → xV (mF G M_X10_as 1 0 0 (QJ (fun r n' h' => r = asV m d w ∧ n' = NT ∧ h' = hp x m))) 73 [some (.ref MB), some (.int d), some (.int w), some (.long s), none, some (.int (nI (i))), none, none, none] [] NT (hp x m) 0 0 := by
    intro  hok c29
    intro n_
    induction n_ with
    | zero => intro i s hi_ hn_; omega
    | succ n_ ih =>
      intro i s hi_ hn_ hc
      refine x_iload5 dX10_as_73 ?_
      refine x_sipush (nI 160) dX10_as_75 (by decide) ?_
      refine n_icmp_ge 254 dX10_as_78 (by decide) (by omega) (by omega) (fun c78 => ?_) (fun c78 => ?_)
      · refine x_lload3 dX10_as_254 ?_
        refine x_lret dX10_as_255 rfl ?_ (Nat.zero_le _) (Nat.zero_le _)
        exact ⟨by unfold asV; rw [if_pos hok, if_neg c29, hc, show i = 160 by omega], rfl, rfl⟩
      · have hi2 : i / 80 < 2 := by omega
        obtain ⟨e6, l6⟩ := hL (i / 80) hi2
        refine x_iload5 dX10_as_81 ?_
        refine x_bipush (nI 80) dX10_as_83 (by decide) ?_
        refine n_irem dX10_as_85 (by omega) (by omega) (by omega) ?_
        refine x_aload0 dX10_as_86 ?_
        refine gm6 fgX10_28 dX10_as_87 ?_
        refine x_iload5 dX10_as_90 ?_
        refine x_bipush (nI 80) dX10_as_92 (by decide) ?_
        refine n_idiv dX10_as_94 (by omega) (by omega) (by omega) ?_
        refine lm6 (i / 80) rfl (by omega) dX10_as_95 ?_
        refine xV.toi (nI (nL m (i / 80))) (e6) ?_
        refine n_icmp_ge 114 dX10_as_96 (by decide) (by omega) (by omega) (fun c96 => ?_) (fun c96 => ?_)
        · have hs : nI 0 = bI ((inL m i ∧ m.1 4 i ≤ d) ∧ fb_ct (hG_ m d i) 0 = 0) := by rw [nI_0]; exact (bI_f (fun q => absurd q.1.1 (by omega))).symm
          refine x_iconst (nI 0) dX10_as_114 (by decide) ?_
          refine x_istore6 dX10_as_115 rfl rfl rfl ?_
          refine x_iconst (nI 0) dX10_as_117 (by decide) ?_
          refine x_istore7 dX10_as_118 rfl rfl rfl ?_
          exact lg i s (by omega) (fun u hu => ja i s u (by omega) hok c29 hc hu (fun s2 h2 => ih (i + 1) s2 (by omega) (by omega) h2)) (nG m + 1) 0 _ (Nat.zero_le _) (by omega) hs
        · refine x_aload0 dX10_as_99 ?_
          refine gm4 fgX10_22 dX10_as_100 ?_
          refine x_iload5 dX10_as_103 ?_
          refine lm4 (i) rfl (by omega) dX10_as_105 ?_
          refine x_iload1 dX10_as_106 ?_
          refine x_icmp_gt 114 dX10_as_107 (by decide) (fun c107 => ?_) (fun c107 => ?_)
          · have hs : nI 0 = bI ((inL m i ∧ m.1 4 i ≤ d) ∧ fb_ct (hG_ m d i) 0 = 0) := by rw [nI_0]; exact (bI_f (fun q => absurd q.1.2 (iNE.mpr c107))).symm
            refine x_iconst (nI 0) dX10_as_114 (by decide) ?_
            refine x_istore6 dX10_as_115 rfl rfl rfl ?_
            refine x_iconst (nI 0) dX10_as_117 (by decide) ?_
            refine x_istore7 dX10_as_118 rfl rfl rfl ?_
            exact lg i s (by omega) (fun u hu => ja i s u (by omega) hok c29 hc hu (fun s2 h2 => ih (i + 1) s2 (by omega) (by omega) h2)) (nG m + 1) 0 _ (Nat.zero_le _) (by omega) hs
          · have hs : nI 1 = bI ((inL m i ∧ m.1 4 i ≤ d) ∧ fb_ct (hG_ m d i) 0 = 0) := by rw [nI1]; exact (bI_t ⟨⟨c96, iNL.mp c107⟩, rfl⟩).symm
            refine x_iconst (nI 1) dX10_as_110 (by decide) ?_
            refine x_goto 115 dX10_as_111 (by decide) ?_
            refine x_istore6 dX10_as_115 rfl rfl rfl ?_
            refine x_iconst (nI 0) dX10_as_117 (by decide) ?_
            refine x_istore7 dX10_as_118 rfl rfl rfl ?_
            exact lg i s (by omega) (fun u hu => ja i s u (by omega) hok c29 hc hu (fun s2 h2 => ih (i + 1) s2 (by omega) (by omega) h2)) (nG m + 1) 0 _ (Nat.zero_le _) (by omega) hs
  refine xK.ofV (by decide) (Nat.le_of_ble_eq_true rfl) ?_
  refine xV.lveq (L' := [some (.ref MB), some (.int d), some (.int w), none, none, none, none, none, none]) rfl ?_
  refine x_iload1 dX10_as_0 ?_
  refine x_iconst (nI 0) dX10_as_1 (by decide) ?_
  refine x_aload0 dX10_as_2 ?_
  refine gm7 fgX10_136 dX10_as_3 ?_
  refine x_callS3i msX10_116 (k_within G d (nI 0) (m.1 7 0)) (xRoom.of rfl) (Nat.le_of_ble_eq_true rfl) dX10_as_6 (fun r_ n_ h_ hq => ?_)
  obtain ⟨rfl, rfl, rfl⟩ := hq
  refine b_if_eq 21 dX10_as_9 (by decide) (fun c9 => ?_) (fun c9 => ?_)
  · refine x_ldc2 kcX10_217 dX10_as_21 ?_
    refine x_lret dX10_as_24 rfl ?_ (Nat.zero_le _) (Nat.zero_le _)
    refine ⟨?_, rfl, rfl⟩
    unfold asV
    first | rw [if_neg (fun q => c9 q.1)] | rw [if_neg (fun q => c18 q.2)]
  · refine x_iload2 dX10_as_12 ?_
    refine x_iconst (nI 0) dX10_as_13 (by decide) ?_
    refine x_iconst (nI 2) dX10_as_14 (by decide) ?_
    refine x_callS3i msX10_116 (k_within G w (nI 0) (nI 2)) (xRoom.of rfl) (Nat.le_of_ble_eq_true rfl) dX10_as_15 (fun r_ n_ h_ hq => ?_)
    obtain ⟨rfl, rfl, rfl⟩ := hq
    refine b_if_ne 25 dX10_as_18 (by decide) (fun c18 => ?_) (fun c18 => ?_)
    · have hok : okAs m d w := ⟨c9, c18⟩
      refine x_lconst 0 dX10_as_25 (by decide) ?_
      refine x_lstore3 dX10_as_26 rfl rfl rfl ?_
      refine x_iload2 dX10_as_27 ?_
      refine x_iconst (nI 2) dX10_as_28 (by decide) ?_
      refine x_icmp_ne 70 dX10_as_29 (by decide) (fun c29 => ?_) (fun c29 => ?_)
      · refine x_iconst (nI 0) dX10_as_70 (by decide) ?_
        refine x_istore5 dX10_as_71 rfl rfl rfl ?_
        exact la hok c29 161 0 0 (by decide) (by decide) zL_0.symm
      · refine x_iconst (nI 0) dX10_as_32 (by decide) ?_
        refine x_istore5 dX10_as_33 rfl rfl rfl ?_
        exact lw hok c29 (nG m + 1) 0 0 (Nat.zero_le _) (by omega) zL_0.symm
    · refine x_ldc2 kcX10_217 dX10_as_21 ?_
      refine x_lret dX10_as_24 rfl ?_ (Nat.zero_le _) (Nat.zero_le _)
      refine ⟨?_, rfl, rfl⟩
      unfold asV
      first | rw [if_neg (fun q => c9 q.1)] | rw [if_neg (fun q => c18 q.2)]
