/-! ===== the desk's methods, 1: Line and Book ===== -/
def dN (d : mS) : Prop := ∀ b, b < 2 → ∀ i, i < nL d b → d.1 5 (80 * b + i) < 0 → d.1 5 (80 * b + i) = -1
theorem hno_next {P : Nat → Prop} {Q : Nat → Prop} {i : Nat} (h : ∀ k, k < i → P k → Q k) (hi : P i → Q i) : ∀ k, k < i + 1 → P k → Q k := fun k hk hp => if q : k < i then h k q hp else by
  have e : k = i := by omega
  subst e
  exact hi hp
theorem m1_lt : (-1 : Int32) < 0 := by decide

set_option maxHeartbeats 4000000 in
theorem k_isBreak (G : vx_G) (d m : mS) (a : Nat) (ha : a < 160) (hn : d.1 5 a < 0 → d.1 5 a = -1) : xK G M_X4_isBreak 0 [(.ref (lC a))] NT (hp (dk d) m) 0 0 (QI (fun r n' h' => r = bI (d.1 5 a < 0) ∧ n' = NT ∧ h' = hp (dk d) m)) := by
  refine xK.ofV (by decide) (Nat.le_of_ble_eq_true rfl) ?_
  refine xV.lveq (L' := [some (.ref (lC a))]) rfl ?_
  refine x_aload0 dX4_isBreak_0 ?_
  refine gL7 (by omega) fgX4_9 dX4_isBreak_1 ?_
  refine x_iconst (-1) dX4_isBreak_4 (by decide) ?_
  refine x_icmp_ne 12 dX4_isBreak_5 (by decide) (fun c5 => ?_) (fun c5 => ?_)
  · refine x_iconst (nI 0) dX4_isBreak_12 (by decide) ?_
    refine x_zret dX4_isBreak_13 rfl (by first | exact Or.inl nI_0 | exact Or.inr nI1 | exact bI_01 _) ?_ (Nat.zero_le _) (Nat.zero_le _)
    first | exact ⟨(bI_f (c := d.1 5 a < 0) (fun q => c5 (hn q))).symm, rfl, rfl⟩ | exact ⟨(bI_t (c := d.1 5 a < 0) (by rw [c5]; exact m1_lt)).symm, rfl, rfl⟩
  · refine x_iconst (nI 1) dX4_isBreak_8 (by decide) ?_
    refine x_goto 13 dX4_isBreak_9 (by decide) ?_
    refine x_zret dX4_isBreak_13 rfl (by first | exact Or.inl nI_0 | exact Or.inr nI1 | exact bI_01 _) ?_ (Nat.zero_le _) (Nat.zero_le _)
    first | exact ⟨(bI_f (c := d.1 5 a < 0) (fun q => c5 (hn q))).symm, rfl, rfl⟩ | exact ⟨(bI_t (c := d.1 5 a < 0) (by rw [c5]; exact m1_lt)).symm, rfl, rfl⟩

abbrev uhD (d : mS) (day : Int32) (a : Nat) : Prop := d.1 4 a ≤ day ∧ d.1 56 a = 0

set_option maxHeartbeats 4000000 in
theorem k_isUnheld (G : vx_G) (d m : mS) (a : Nat) (ha : a < 160) (day : Int32) : xK G M_X4_isUnheld 0 [(.ref (lC a)), (.int day)] NT (hp (dk d) m) 0 0 (QI (fun r n' h' => r = bI (uhD d day a) ∧ n' = NT ∧ h' = hp (dk d) m)) := by
  refine xK.ofV (by decide) (Nat.le_of_ble_eq_true rfl) ?_
  refine xV.lveq (L' := [some (.ref (lC a)), some (.int day)]) rfl ?_
  refine x_aload0 dX4_isUnheld_0 ?_
  refine gL6 (by omega) fgX4_33 dX4_isUnheld_1 ?_
  refine x_iload1 dX4_isUnheld_4 ?_
  refine x_icmp_gt 19 dX4_isUnheld_5 (by decide) (fun c5 => ?_) (fun c5 => ?_)
  · refine x_iconst (nI 0) dX4_isUnheld_19 (by decide) ?_
    refine x_zret dX4_isUnheld_20 rfl (by first | exact Or.inl nI_0 | exact Or.inr nI1 | exact bI_01 _) ?_ (Nat.zero_le _) (Nat.zero_le _)
    first | exact ⟨(bI_f (c := uhD d day a) (fun q => absurd q.1 (iNE.mpr c5))).symm, rfl, rfl⟩ | exact ⟨(bI_f (c := uhD d day a) (fun q => c12 q.2)).symm, rfl, rfl⟩ | exact ⟨(bI_t (c := uhD d day a) ⟨iNL.mp c5, c12⟩).symm, rfl, rfl⟩
  · refine x_aload0 dX4_isUnheld_8 ?_
    refine gL8 (by omega) fgX4_36 dX4_isUnheld_9 ?_
    refine x_if_ne 19 dX4_isUnheld_12 (by decide) (fun c12 => ?_) (fun c12 => ?_)
    · refine x_iconst (nI 0) dX4_isUnheld_19 (by decide) ?_
      refine x_zret dX4_isUnheld_20 rfl (by first | exact Or.inl nI_0 | exact Or.inr nI1 | exact bI_01 _) ?_ (Nat.zero_le _) (Nat.zero_le _)
      first | exact ⟨(bI_f (c := uhD d day a) (fun q => absurd q.1 (iNE.mpr c5))).symm, rfl, rfl⟩ | exact ⟨(bI_f (c := uhD d day a) (fun q => c12 q.2)).symm, rfl, rfl⟩ | exact ⟨(bI_t (c := uhD d day a) ⟨iNL.mp c5, c12⟩).symm, rfl, rfl⟩
    · refine x_iconst (nI 1) dX4_isUnheld_15 (by decide) ?_
      refine x_goto 20 dX4_isUnheld_16 (by decide) ?_
      refine x_zret dX4_isUnheld_20 rfl (by first | exact Or.inl nI_0 | exact Or.inr nI1 | exact bI_01 _) ?_ (Nat.zero_le _) (Nat.zero_le _)
      first | exact ⟨(bI_f (c := uhD d day a) (fun q => absurd q.1 (iNE.mpr c5))).symm, rfl, rfl⟩ | exact ⟨(bI_f (c := uhD d day a) (fun q => c12 q.2)).symm, rfl, rfl⟩ | exact ⟨(bI_t (c := uhD d day a) ⟨iNL.mp c5, c12⟩).symm, rfl, rfl⟩

def wrD (d : mS) (a : Nat) (v dy mk w kn : Int32) : mS := mset (mset (mset (mset (mset (mset d 0 a v) 1 a dy) 3 a mk) 2 a w) 4 a kn) 5 a (-1)

set_option maxHeartbeats 4000000 in
theorem k_write (G : vx_G) (d m : mS) (a : Nat) (ha : a < 160) (v dy mk w kn : Int32) : xK G M_X4_write 0 [(.ref (lC a)), (.int v), (.int dy), (.int mk), (.int w), (.int kn)] NT (hp (dk d) m) 0 0 (QV (fun n' h' => n' = NT ∧ h' = hp (dk (wrD d a v dy mk w kn)) m)) := by
  refine xK.ofV (by decide) (Nat.le_of_ble_eq_true rfl) ?_
  refine xV.lveq (L' := [some (.ref (lC a)), some (.int v), some (.int dy), some (.int mk), some (.int w), some (.int kn)]) rfl ?_
  refine x_aload0 dX4_write_0 ?_
  refine x_iload1 dX4_write_1 ?_
  refine pL2 (by omega) fpX4_21 dX4_write_2 ?_
  refine x_aload0 dX4_write_5 ?_
  refine x_iload2 dX4_write_6 ?_
  refine pL3 (by omega) fpX4_24 dX4_write_7 ?_
  refine x_aload0 dX4_write_10 ?_
  refine x_iload3 dX4_write_11 ?_
  refine pL4 (by omega) fpX4_27 dX4_write_12 ?_
  refine x_aload0 dX4_write_15 ?_
  refine x_iload4 dX4_write_16 ?_
  refine pL5 (by omega) fpX4_30 dX4_write_18 ?_
  refine x_aload0 dX4_write_21 ?_
  refine x_iload5 dX4_write_22 ?_
  refine pL6 (by omega) fpX4_33 dX4_write_24 ?_
  refine x_aload0 dX4_write_27 ?_
  refine x_iconst (-1) dX4_write_28 (by decide) ?_
  refine pL7 (by omega) fpX4_9 dX4_write_29 ?_
  refine x_vret dX4_write_32 rfl ?_ (Nat.zero_le _) (Nat.zero_le _)
  exact ⟨rfl, rfl⟩

set_option maxHeartbeats 4000000 in
theorem k_breaksAged (G : vx_G) (d m : mS) (hL : iL d) (b : Nat) (hb : b < 2) (hN : dN d) (a : Int32) : xK G M_X1_breaksAged 1 [(.ref (bC b)), (.int a), (.int (d.1 7 0))] NT (hp (dk d) m) 0 0 (QI (fun r n' h' => r = nI (fb_ct (brA d b a) (nL d b)) ∧ n' = NT ∧ h' = hp (dk d) m)) := by
  obtain ⟨e6, l6⟩ := hL b hb
  have lp : ∀ (n_ : Nat) (i c : Nat), i ≤ nL d b → nL d b + 1 ≤ i + n_ → (c = fb_ct (brA d b a) i) → xV (mF G M_X1_breaksAged 1 0 0 (QI (fun r n' h' => r = nI (fb_ct (brA d b a) (nL d b)) ∧ n' = NT ∧ h' = hp (dk d) m))) 5 [some (.ref (bC b)), some (.int a), some (.int (d.1 7 0)), some (.int (nI (c))), some (.int (nI (i)))] [] NT (hp (dk d) m) 0 0 := by
    intro n_
    induction n_ with
    | zero => intro i c hi_ hn_; omega
    | succ n_ ih =>
      intro i c hi_ hn_ hc
      refine x_iload4 dX1_breaksAged_5 ?_
      refine x_aload0 dX1_breaksAged_7 ?_
      refine gB1 (by omega) fgX1_17 dX1_breaksAged_8 ?_
      refine xV.toi (nI (nL d b)) (e6) ?_
      refine n_icmp_ge 52 dX1_breaksAged_11 (by decide) (by omega) (by omega) (fun c11 => ?_) (fun c11 => ?_)
      · refine x_iload3 dX1_breaksAged_52 ?_
        refine x_iret dX1_breaksAged_53 rfl ?_ (Nat.zero_le _) (Nat.zero_le _)
        exact ⟨by rw [hc, show i = nL d b by omega], rfl, rfl⟩
      · refine x_aload0 dX1_breaksAged_14 ?_
        refine gB0 (by omega) fgX1_11 dX1_breaksAged_15 ?_
        refine x_iload4 dX1_breaksAged_18 ?_
        refine lBL (by omega) (i) rfl (by omega) dX1_breaksAged_20 ?_
        refine x_callV0i mvX1_24 (k_isBreak G d m (80 * b + i) (by omega) (hN b hb i (by omega))) (lt_L (by omega)) (hd_L (by omega)) (xRoom.of rfl) (Nat.le_of_ble_eq_true rfl) dX1_breaksAged_21 (fun r_ n_ h_ hq => ?_)
        obtain ⟨rfl, rfl, rfl⟩ := hq
        refine b_if_eq 46 dX1_breaksAged_24 (by decide) (fun c24 => ?_) (fun c24 => ?_)
        · refine x_iinc4 (nI (i + 1)) dX1_breaksAged_46 (nI_add i 1) rfl rfl rfl ?_
          refine x_goto 5 dX1_breaksAged_49 (by decide) ?_
          first | exact ih (i + 1) _ (by omega) (by omega) (by rw [fb_ct_succ, ← hc, show brA d b a i = false from decide_eq_false (fun q => c24 q.1)]; rfl) | exact ih (i + 1) _ (by omega) (by omega) (by rw [fb_ct_succ, ← hc, show brA d b a i = false from decide_eq_false (fun q => absurd q.2 (iNE.mpr c40))]; rfl) | exact ih (i + 1) _ (by omega) (by omega) (by rw [fb_ct_succ, ← hc, show brA d b a i = true from decide_eq_true ⟨c24, iNL.mp c40⟩]; rfl)
        · refine x_iload2 dX1_breaksAged_27 ?_
          refine x_aload0 dX1_breaksAged_28 ?_
          refine gB0 (by omega) fgX1_11 dX1_breaksAged_29 ?_
          refine x_iload4 dX1_breaksAged_32 ?_
          refine lBL (by omega) (i) rfl (by omega) dX1_breaksAged_34 ?_
          refine gL6 (by omega) fgX1_28 dX1_breaksAged_35 ?_
          refine x_isub dX1_breaksAged_38 ?_
          refine x_iload1 dX1_breaksAged_39 ?_
          refine x_icmp_lt 46 dX1_breaksAged_40 (by decide) (fun c40 => ?_) (fun c40 => ?_)
          · refine x_iinc4 (nI (i + 1)) dX1_breaksAged_46 (nI_add i 1) rfl rfl rfl ?_
            refine x_goto 5 dX1_breaksAged_49 (by decide) ?_
            first | exact ih (i + 1) _ (by omega) (by omega) (by rw [fb_ct_succ, ← hc, show brA d b a i = false from decide_eq_false (fun q => c24 q.1)]; rfl) | exact ih (i + 1) _ (by omega) (by omega) (by rw [fb_ct_succ, ← hc, show brA d b a i = false from decide_eq_false (fun q => absurd q.2 (iNE.mpr c40))]; rfl) | exact ih (i + 1) _ (by omega) (by omega) (by rw [fb_ct_succ, ← hc, show brA d b a i = true from decide_eq_true ⟨c24, iNL.mp c40⟩]; rfl)
          · refine x_iinc3 (nI (c + 1)) dX1_breaksAged_43 (nI_add c 1) rfl rfl rfl ?_
            refine x_iinc4 (nI (i + 1)) dX1_breaksAged_46 (nI_add i 1) rfl rfl rfl ?_
            refine x_goto 5 dX1_breaksAged_49 (by decide) ?_
            first | exact ih (i + 1) _ (by omega) (by omega) (by rw [fb_ct_succ, ← hc, show brA d b a i = false from decide_eq_false (fun q => c24 q.1)]; rfl) | exact ih (i + 1) _ (by omega) (by omega) (by rw [fb_ct_succ, ← hc, show brA d b a i = false from decide_eq_false (fun q => absurd q.2 (iNE.mpr c40))]; rfl) | exact ih (i + 1) _ (by omega) (by omega) (by rw [fb_ct_succ, ← hc, show brA d b a i = true from decide_eq_true ⟨c24, iNL.mp c40⟩]; rfl)
  refine xK.ofV (by decide) (Nat.le_of_ble_eq_true rfl) ?_
  refine xV.lveq (L' := [some (.ref (bC b)), some (.int a), some (.int (d.1 7 0)), none, none]) rfl ?_
  refine x_iconst (nI 0) dX1_breaksAged_0 (by decide) ?_
  refine x_istore3 dX1_breaksAged_1 rfl rfl rfl ?_
  refine x_iconst (nI 0) dX1_breaksAged_2 (by decide) ?_
  refine x_istore4 dX1_breaksAged_3 rfl rfl rfl ?_
  exact lp (nL d b + 1) 0 0 (Nat.zero_le _) (by omega) rfl

set_option maxHeartbeats 4000000 in
theorem k_breakAt (G : vx_G) (d m : mS) (hL : iL d) (b : Nat) (hb : b < 2) (hN : dN d) (p : Int32) : xK G M_X1_breakAt 1 [(.ref (bC b)), (.int p)] NT (hp (dk d) m) 0 0 (QI (fun r n' h' => brkR d b p r ∧ n' = NT ∧ h' = hp (dk d) m)) := by
  obtain ⟨e6, l6⟩ := hL b hb
  have lp : ∀ (n_ : Nat) (i c : Nat), i ≤ nL d b → nL d b + 1 ≤ i + n_ → (c = fb_ct (brB d b) i) → (∀ k, k < i → brB d b k = true → p ≠ nI (fb_ct (brB d b) k)) → xV (mF G M_X1_breakAt 1 0 0 (QI (fun r n' h' => brkR d b p r ∧ n' = NT ∧ h' = hp (dk d) m))) 4 [some (.ref (bC b)), some (.int p), some (.int (nI (c))), some (.int (nI (i)))] [] NT (hp (dk d) m) 0 0 := by
    intro n_
    induction n_ with
    | zero => intro i c hi_ hn_; omega
    | succ n_ ih =>
      intro i c hi_ hn_ hc hno
      have hcl := fb_ct_le (brB d b) i
      refine x_iload3 dX1_breakAt_4 ?_
      refine x_aload0 dX1_breakAt_5 ?_
      refine gB1 (by omega) fgX1_17 dX1_breakAt_6 ?_
      refine xV.toi (nI (nL d b)) (e6) ?_
      refine n_icmp_ge 40 dX1_breakAt_9 (by decide) (by omega) (by omega) (fun c9 => ?_) (fun c9 => ?_)
      · refine x_iconst (-1) dX1_breakAt_40 (by decide) ?_
        refine x_iret dX1_breakAt_41 rfl ?_ (Nat.zero_le _) (Nat.zero_le _)
        exact ⟨Or.inr ⟨rfl, fun k hk hb2 => hno k (by omega) hb2⟩, rfl, rfl⟩
      · refine x_aload0 dX1_breakAt_12 ?_
        refine gB0 (by omega) fgX1_11 dX1_breakAt_13 ?_
        refine x_iload3 dX1_breakAt_16 ?_
        refine lBL (by omega) (i) rfl (by omega) dX1_breakAt_17 ?_
        refine x_callV0i mvX1_24 (k_isBreak G d m (80 * b + i) (by omega) (hN b hb i (by omega))) (lt_L (by omega)) (hd_L (by omega)) (xRoom.of rfl) (Nat.le_of_ble_eq_true rfl) dX1_breakAt_18 (fun r_ n_ h_ hq => ?_)
        obtain ⟨rfl, rfl, rfl⟩ := hq
        refine b_if_eq 34 dX1_breakAt_21 (by decide) (fun c21 => ?_) (fun c21 => ?_)
        · refine x_iinc3 (nI (i + 1)) dX1_breakAt_34 (nI_add i 1) rfl rfl rfl ?_
          refine x_goto 4 dX1_breakAt_37 (by decide) ?_
          first | exact ih (i + 1) _ (by omega) (by omega) (by rw [fb_ct_succ, ← hc, show brB d b i = false from decide_eq_false c21]; rfl) (hno_next hno (fun hb2 => absurd (of_decide_eq_true hb2) c21)) | exact ih (i + 1) _ (by omega) (by omega) (by rw [fb_ct_succ, ← hc, show brB d b i = true from decide_eq_true c21]; rfl) (hno_next hno (fun _ => by rw [← hc]; exact fun q => c26 q.symm))
        · refine x_iload2 dX1_breakAt_24 ?_
          refine x_iload1 dX1_breakAt_25 ?_
          refine x_icmp_ne 31 dX1_breakAt_26 (by decide) (fun c26 => ?_) (fun c26 => ?_)
          · refine x_iinc2 (nI (c + 1)) dX1_breakAt_31 (nI_add c 1) rfl rfl rfl ?_
            refine x_iinc3 (nI (i + 1)) dX1_breakAt_34 (nI_add i 1) rfl rfl rfl ?_
            refine x_goto 4 dX1_breakAt_37 (by decide) ?_
            first | exact ih (i + 1) _ (by omega) (by omega) (by rw [fb_ct_succ, ← hc, show brB d b i = false from decide_eq_false c21]; rfl) (hno_next hno (fun hb2 => absurd (of_decide_eq_true hb2) c21)) | exact ih (i + 1) _ (by omega) (by omega) (by rw [fb_ct_succ, ← hc, show brB d b i = true from decide_eq_true c21]; rfl) (hno_next hno (fun _ => by rw [← hc]; exact fun q => c26 q.symm))
          · refine x_iload3 dX1_breakAt_29 ?_
            refine x_iret dX1_breakAt_30 rfl ?_ (Nat.zero_le _) (Nat.zero_le _)
            exact ⟨Or.inl ⟨i, by omega, by simp [brB, c21], by rw [← hc]; exact c26.symm, rfl⟩, rfl, rfl⟩
  refine xK.ofV (by decide) (Nat.le_of_ble_eq_true rfl) ?_
  refine xV.lveq (L' := [some (.ref (bC b)), some (.int p), none, none]) rfl ?_
  refine x_iconst (nI 0) dX1_breakAt_0 (by decide) ?_
  refine x_istore2 dX1_breakAt_1 rfl rfl rfl ?_
  refine x_iconst (nI 0) dX1_breakAt_2 (by decide) ?_
  refine x_istore3 dX1_breakAt_3 rfl rfl rfl ?_
  exact lp (nL d b + 1) 0 0 (Nat.zero_le _) (by omega) rfl (fun k hk => absurd hk (Nat.not_lt_zero k))

def aL (d : mS) (b i : Nat) : Int := (d.1 0 (80 * b + i)).toInt
def aB (d : mS) (b i : Nat) : Int := if d.1 5 (80 * b + i) < 0 then (d.1 0 (80 * b + i)).toInt else 0
def aU (d : mS) (b : Nat) (day : Int32) (i : Nat) : Int := if uhD d day (80 * b + i) then (d.1 0 (80 * b + i)).toInt else 0
def cU (d : mS) (b : Nat) (day : Int32) (i : Nat) : Bool := decide (uhD d day (80 * b + i))
theorem zI_addv (z : Int) (v : Int32) : zI z + v = zI (z + v.toInt) := by rw [← zI_add, ← zI_of]

set_option maxHeartbeats 4000000 in
theorem k_sumOfAll (G : vx_G) (d m : mS) (hL : iL d) (b : Nat) (hb : b < 2) : xK G M_X1_sumOfAll 0 [(.ref (bC b))] NT (hp (dk d) m) 0 0 (QI (fun r n' h' => r = zI (fb_si (aL d b) (nL d b)) ∧ n' = NT ∧ h' = hp (dk d) m)) := by
  obtain ⟨e6, l6⟩ := hL b hb
  have lp : ∀ (n_ : Nat) (i : Nat) (s : Int32), i ≤ nL d b → nL d b + 1 ≤ i + n_ → (s = zI (fb_si (aL d b) i)) → xV (mF G M_X1_sumOfAll 0 0 0 (QI (fun r n' h' => r = zI (fb_si (aL d b) (nL d b)) ∧ n' = NT ∧ h' = hp (dk d) m))) 4 [some (.ref (bC b)), some (.int s), some (.int (nI (i)))] [] NT (hp (dk d) m) 0 0 := by
    intro n_
    induction n_ with
    | zero => intro i s hi_ hn_; omega
    | succ n_ ih =>
      intro i s hi_ hn_ hc
      refine x_iload2 dX1_sumOfAll_4 ?_
      refine x_aload0 dX1_sumOfAll_5 ?_
      refine gB1 (by omega) fgX1_17 dX1_sumOfAll_6 ?_
      refine xV.toi (nI (nL d b)) (e6) ?_
      refine n_icmp_ge 30 dX1_sumOfAll_9 (by decide) (by omega) (by omega) (fun c9 => ?_) (fun c9 => ?_)
      · refine x_iload1 dX1_sumOfAll_30 ?_
        refine x_iret dX1_sumOfAll_31 rfl ?_ (Nat.zero_le _) (Nat.zero_le _)
        exact ⟨by rw [hc, show i = nL d b by omega], rfl, rfl⟩
      · refine x_iload1 dX1_sumOfAll_12 ?_
        refine x_aload0 dX1_sumOfAll_13 ?_
        refine gB0 (by omega) fgX1_11 dX1_sumOfAll_14 ?_
        refine x_iload2 dX1_sumOfAll_17 ?_
        refine lBL (by omega) (i) rfl (by omega) dX1_sumOfAll_18 ?_
        refine gL2 (by omega) fgX1_31 dX1_sumOfAll_19 ?_
        refine x_iadd dX1_sumOfAll_22 ?_
        refine x_istore1 dX1_sumOfAll_23 rfl rfl rfl ?_
        refine x_iinc2 (nI (i + 1)) dX1_sumOfAll_24 (nI_add i 1) rfl rfl rfl ?_
        refine x_goto 4 dX1_sumOfAll_27 (by decide) ?_
        exact ih (i + 1) _ (by omega) (by omega) (by rw [fb_si_succ, hc, zI_addv]; rfl)
  refine xK.ofV (by decide) (Nat.le_of_ble_eq_true rfl) ?_
  refine xV.lveq (L' := [some (.ref (bC b)), none, none]) rfl ?_
  refine x_iconst (nI 0) dX1_sumOfAll_0 (by decide) ?_
  refine x_istore1 dX1_sumOfAll_1 rfl rfl rfl ?_
  refine x_iconst (nI 0) dX1_sumOfAll_2 (by decide) ?_
  refine x_istore2 dX1_sumOfAll_3 rfl rfl rfl ?_
  exact lp (nL d b + 1) 0 (nI 0) (Nat.zero_le _) (by omega) nI_0

set_option maxHeartbeats 4000000 in
theorem k_sumOfBreaks (G : vx_G) (d m : mS) (hL : iL d) (b : Nat) (hb : b < 2) (hN : dN d) : xK G M_X1_sumOfBreaks 1 [(.ref (bC b))] NT (hp (dk d) m) 0 0 (QI (fun r n' h' => r = zI (fb_si (aB d b) (nL d b)) ∧ n' = NT ∧ h' = hp (dk d) m)) := by
  obtain ⟨e6, l6⟩ := hL b hb
  have lp : ∀ (n_ : Nat) (i : Nat) (s : Int32), i ≤ nL d b → nL d b + 1 ≤ i + n_ → (s = zI (fb_si (aB d b) i)) → xV (mF G M_X1_sumOfBreaks 1 0 0 (QI (fun r n' h' => r = zI (fb_si (aB d b) (nL d b)) ∧ n' = NT ∧ h' = hp (dk d) m))) 4 [some (.ref (bC b)), some (.int s), some (.int (nI (i)))] [] NT (hp (dk d) m) 0 0 := by
    intro n_
    induction n_ with
    | zero => intro i s hi_ hn_; omega
    | succ n_ ih =>
      intro i s hi_ hn_ hc
      refine x_iload2 dX1_sumOfBreaks_4 ?_
      refine x_aload0 dX1_sumOfBreaks_5 ?_
      refine gB1 (by omega) fgX1_17 dX1_sumOfBreaks_6 ?_
      refine xV.toi (nI (nL d b)) (e6) ?_
      refine n_icmp_ge 42 dX1_sumOfBreaks_9 (by decide) (by omega) (by omega) (fun c9 => ?_) (fun c9 => ?_)
      · refine x_iload1 dX1_sumOfBreaks_42 ?_
        refine x_iret dX1_sumOfBreaks_43 rfl ?_ (Nat.zero_le _) (Nat.zero_le _)
        exact ⟨by rw [hc, show i = nL d b by omega], rfl, rfl⟩
      · refine x_aload0 dX1_sumOfBreaks_12 ?_
        refine gB0 (by omega) fgX1_11 dX1_sumOfBreaks_13 ?_
        refine x_iload2 dX1_sumOfBreaks_16 ?_
        refine lBL (by omega) (i) rfl (by omega) dX1_sumOfBreaks_17 ?_
        refine x_callV0i mvX1_24 (k_isBreak G d m (80 * b + i) (by omega) (hN b hb i (by omega))) (lt_L (by omega)) (hd_L (by omega)) (xRoom.of rfl) (Nat.le_of_ble_eq_true rfl) dX1_sumOfBreaks_18 (fun r_ n_ h_ hq => ?_)
        obtain ⟨rfl, rfl, rfl⟩ := hq
        refine b_if_eq 36 dX1_sumOfBreaks_21 (by decide) (fun c21 => ?_) (fun c21 => ?_)
        · refine x_iinc2 (nI (i + 1)) dX1_sumOfBreaks_36 (nI_add i 1) rfl rfl rfl ?_
          refine x_goto 4 dX1_sumOfBreaks_39 (by decide) ?_
          first | exact ih (i + 1) _ (by omega) (by omega) (by rw [fb_si_succ, hc, zI_addv, show aB d b i = (d.1 0 (80 * b + i)).toInt from if_pos c21]) | exact ih (i + 1) _ (by omega) (by omega) (by rw [fb_si_succ, hc, show aB d b i = 0 from if_neg c21, Int.add_zero])
        · refine x_iload1 dX1_sumOfBreaks_24 ?_
          refine x_aload0 dX1_sumOfBreaks_25 ?_
          refine gB0 (by omega) fgX1_11 dX1_sumOfBreaks_26 ?_
          refine x_iload2 dX1_sumOfBreaks_29 ?_
          refine lBL (by omega) (i) rfl (by omega) dX1_sumOfBreaks_30 ?_
          refine gL2 (by omega) fgX1_31 dX1_sumOfBreaks_31 ?_
          refine x_iadd dX1_sumOfBreaks_34 ?_
          refine x_istore1 dX1_sumOfBreaks_35 rfl rfl rfl ?_
          refine x_iinc2 (nI (i + 1)) dX1_sumOfBreaks_36 (nI_add i 1) rfl rfl rfl ?_
          refine x_goto 4 dX1_sumOfBreaks_39 (by decide) ?_
          first | exact ih (i + 1) _ (by omega) (by omega) (by rw [fb_si_succ, hc, zI_addv, show aB d b i = (d.1 0 (80 * b + i)).toInt from if_pos c21]) | exact ih (i + 1) _ (by omega) (by omega) (by rw [fb_si_succ, hc, show aB d b i = 0 from if_neg c21, Int.add_zero])
  refine xK.ofV (by decide) (Nat.le_of_ble_eq_true rfl) ?_
  refine xV.lveq (L' := [some (.ref (bC b)), none, none]) rfl ?_
  refine x_iconst (nI 0) dX1_sumOfBreaks_0 (by decide) ?_
  refine x_istore1 dX1_sumOfBreaks_1 rfl rfl rfl ?_
  refine x_iconst (nI 0) dX1_sumOfBreaks_2 (by decide) ?_
  refine x_istore2 dX1_sumOfBreaks_3 rfl rfl rfl ?_
  exact lp (nL d b + 1) 0 (nI 0) (Nat.zero_le _) (by omega) nI_0

def chD (d : mS) (b : Nat) : Nat → mS
  | 0 => d
  | i + 1 => mset (chD d b i) 56 (80 * b + i) (nI 0)
theorem chD_ne (d : mS) (b : Nat) {j : Nat} (h : j ≠ 56) : ∀ i, (chD d b i).1 j = d.1 j
  | 0 => rfl
  | i + 1 => by
    show (mset (chD d b i) 56 (80 * b + i) (nI 0)).1 j = _
    rw [mset_ne h, chD_ne d b h i]

set_option maxHeartbeats 4000000 in
theorem k_clearHolders (G : vx_G) (d m : mS) (hL : iL d) (b : Nat) (hb : b < 2) : xK G M_X1_clearHolders 0 [(.ref (bC b))] NT (hp (dk d) m) 0 0 (QV (fun n' h' => n' = NT ∧ h' = hp (dk (chD d b (nL d b))) m)) := by
  obtain ⟨e6, l6⟩ := hL b hb
  have lp : ∀ (n_ : Nat) (i : Nat), i ≤ nL d b → nL d b + 1 ≤ i + n_ → xV (mF G M_X1_clearHolders 0 0 0 (QV (fun n' h' => n' = NT ∧ h' = hp (dk (chD d b (nL d b))) m))) 2 [some (.ref (bC b)), some (.int (nI (i)))] [] NT (hp (dk (chD d b i)) m) 0 0 := by
    intro n_
    induction n_ with
    | zero => intro i hi_ hn_; omega
    | succ n_ ih =>
      intro i hi_ hn_ 
      refine x_iload1 dX1_clearHolders_2 ?_
      refine x_aload0 dX1_clearHolders_3 ?_
      refine gB1 (by omega) fgX1_17 dX1_clearHolders_4 ?_
      refine xV.toi (nI (nL d b)) ((by rw [chD_ne d b (by decide)]; exact e6)) ?_
      refine n_icmp_ge 26 dX1_clearHolders_7 (by decide) (by omega) (by omega) (fun c7 => ?_) (fun c7 => ?_)
      · refine x_vret dX1_clearHolders_26 rfl ?_ (Nat.zero_le _) (Nat.zero_le _)
        exact ⟨rfl, by rw [show i = nL d b by omega]⟩
      · refine x_aload0 dX1_clearHolders_10 ?_
        refine gB0 (by omega) fgX1_11 dX1_clearHolders_11 ?_
        refine x_iload1 dX1_clearHolders_14 ?_
        refine lBL (by omega) (i) rfl (by omega) dX1_clearHolders_15 ?_
        refine x_iconst (nI 0) dX1_clearHolders_16 (by decide) ?_
        refine pL8 (by omega) fpX1_34 dX1_clearHolders_17 ?_
        refine x_iinc1 (nI (i + 1)) dX1_clearHolders_20 (nI_add i 1) rfl rfl rfl ?_
        refine x_goto 2 dX1_clearHolders_23 (by decide) ?_
        exact ih (i + 1) (by omega) (by omega)
  refine xK.ofV (by decide) (Nat.le_of_ble_eq_true rfl) ?_
  refine xV.lveq (L' := [some (.ref (bC b)), none]) rfl ?_
  refine x_iconst (nI 0) dX1_clearHolders_0 (by decide) ?_
  refine x_istore1 dX1_clearHolders_1 rfl rfl rfl ?_
  exact lp (nL d b + 1) 0 (Nat.zero_le _) (by omega)

set_option maxHeartbeats 4000000 in
theorem k_countUnheld (G : vx_G) (d m : mS) (hL : iL d) (b : Nat) (hb : b < 2) (day : Int32) : xK G M_X1_countUnheld 1 [(.ref (bC b)), (.int day)] NT (hp (dk d) m) 0 0 (QI (fun r n' h' => r = nI (fb_ct (cU d b day) (nL d b)) ∧ n' = NT ∧ h' = hp (dk d) m)) := by
  obtain ⟨e6, l6⟩ := hL b hb
  have lp : ∀ (n_ : Nat) (i c : Nat), i ≤ nL d b → nL d b + 1 ≤ i + n_ → (c = fb_ct (cU d b day) i) → xV (mF G M_X1_countUnheld 1 0 0 (QI (fun r n' h' => r = nI (fb_ct (cU d b day) (nL d b)) ∧ n' = NT ∧ h' = hp (dk d) m))) 4 [some (.ref (bC b)), some (.int day), some (.int (nI (c))), some (.int (nI (i)))] [] NT (hp (dk d) m) 0 0 := by
    intro n_
    induction n_ with
    | zero => intro i c hi_ hn_; omega
    | succ n_ ih =>
      intro i c hi_ hn_ hc
      refine x_iload3 dX1_countUnheld_4 ?_
      refine x_aload0 dX1_countUnheld_5 ?_
      refine gB1 (by omega) fgX1_17 dX1_countUnheld_6 ?_
      refine xV.toi (nI (nL d b)) (e6) ?_
      refine n_icmp_ge 34 dX1_countUnheld_9 (by decide) (by omega) (by omega) (fun c9 => ?_) (fun c9 => ?_)
      · refine x_iload2 dX1_countUnheld_34 ?_
        refine x_iret dX1_countUnheld_35 rfl ?_ (Nat.zero_le _) (Nat.zero_le _)
        exact ⟨by rw [hc, show i = nL d b by omega], rfl, rfl⟩
      · refine x_aload0 dX1_countUnheld_12 ?_
        refine gB0 (by omega) fgX1_11 dX1_countUnheld_13 ?_
        refine x_iload3 dX1_countUnheld_16 ?_
        refine lBL (by omega) (i) rfl (by omega) dX1_countUnheld_17 ?_
        refine x_iload1 dX1_countUnheld_18 ?_
        refine x_callV1i mvX1_37 (k_isUnheld G d m (80 * b + i) (by omega) day) (lt_L (by omega)) (hd_L (by omega)) (xRoom.of rfl) (Nat.le_of_ble_eq_true rfl) dX1_countUnheld_19 (fun r_ n_ h_ hq => ?_)
        obtain ⟨rfl, rfl, rfl⟩ := hq
        refine b_if_eq 28 dX1_countUnheld_22 (by decide) (fun c22 => ?_) (fun c22 => ?_)
        · refine x_iinc3 (nI (i + 1)) dX1_countUnheld_28 (nI_add i 1) rfl rfl rfl ?_
          refine x_goto 4 dX1_countUnheld_31 (by decide) ?_
          first | exact ih (i + 1) _ (by omega) (by omega) (by rw [fb_ct_succ, ← hc, show cU d b day i = true from decide_eq_true c22]; rfl) | exact ih (i + 1) _ (by omega) (by omega) (by rw [fb_ct_succ, ← hc, show cU d b day i = false from decide_eq_false c22]; rfl)
        · refine x_iinc2 (nI (c + 1)) dX1_countUnheld_25 (nI_add c 1) rfl rfl rfl ?_
          refine x_iinc3 (nI (i + 1)) dX1_countUnheld_28 (nI_add i 1) rfl rfl rfl ?_
          refine x_goto 4 dX1_countUnheld_31 (by decide) ?_
          first | exact ih (i + 1) _ (by omega) (by omega) (by rw [fb_ct_succ, ← hc, show cU d b day i = true from decide_eq_true c22]; rfl) | exact ih (i + 1) _ (by omega) (by omega) (by rw [fb_ct_succ, ← hc, show cU d b day i = false from decide_eq_false c22]; rfl)
  refine xK.ofV (by decide) (Nat.le_of_ble_eq_true rfl) ?_
  refine xV.lveq (L' := [some (.ref (bC b)), some (.int day), none, none]) rfl ?_
  refine x_iconst (nI 0) dX1_countUnheld_0 (by decide) ?_
  refine x_istore2 dX1_countUnheld_1 rfl rfl rfl ?_
  refine x_iconst (nI 0) dX1_countUnheld_2 (by decide) ?_
  refine x_istore3 dX1_countUnheld_3 rfl rfl rfl ?_
  exact lp (nL d b + 1) 0 0 (Nat.zero_le _) (by omega) rfl

set_option maxHeartbeats 4000000 in
theorem k_sumUnheld (G : vx_G) (d m : mS) (hL : iL d) (b : Nat) (hb : b < 2) (day : Int32) : xK G M_X1_sumUnheld 1 [(.ref (bC b)), (.int day)] NT (hp (dk d) m) 0 0 (QI (fun r n' h' => r = zI (fb_si (aU d b day) (nL d b)) ∧ n' = NT ∧ h' = hp (dk d) m)) := by
  obtain ⟨e6, l6⟩ := hL b hb
  have lp : ∀ (n_ : Nat) (i : Nat) (s : Int32), i ≤ nL d b → nL d b + 1 ≤ i + n_ → (s = zI (fb_si (aU d b day) i)) → xV (mF G M_X1_sumUnheld 1 0 0 (QI (fun r n' h' => r = zI (fb_si (aU d b day) (nL d b)) ∧ n' = NT ∧ h' = hp (dk d) m))) 4 [some (.ref (bC b)), some (.int day), some (.int s), some (.int (nI (i)))] [] NT (hp (dk d) m) 0 0 := by
    intro n_
    induction n_ with
    | zero => intro i s hi_ hn_; omega
    | succ n_ ih =>
      intro i s hi_ hn_ hc
      refine x_iload3 dX1_sumUnheld_4 ?_
      refine x_aload0 dX1_sumUnheld_5 ?_
      refine gB1 (by omega) fgX1_17 dX1_sumUnheld_6 ?_
      refine xV.toi (nI (nL d b)) (e6) ?_
      refine n_icmp_ge 43 dX1_sumUnheld_9 (by decide) (by omega) (by omega) (fun c9 => ?_) (fun c9 => ?_)
      · refine x_iload2 dX1_sumUnheld_43 ?_
        refine x_iret dX1_sumUnheld_44 rfl ?_ (Nat.zero_le _) (Nat.zero_le _)
        exact ⟨by rw [hc, show i = nL d b by omega], rfl, rfl⟩
      · refine x_aload0 dX1_sumUnheld_12 ?_
        refine gB0 (by omega) fgX1_11 dX1_sumUnheld_13 ?_
        refine x_iload3 dX1_sumUnheld_16 ?_
        refine lBL (by omega) (i) rfl (by omega) dX1_sumUnheld_17 ?_
        refine x_iload1 dX1_sumUnheld_18 ?_
        refine x_callV1i mvX1_37 (k_isUnheld G d m (80 * b + i) (by omega) day) (lt_L (by omega)) (hd_L (by omega)) (xRoom.of rfl) (Nat.le_of_ble_eq_true rfl) dX1_sumUnheld_19 (fun r_ n_ h_ hq => ?_)
        obtain ⟨rfl, rfl, rfl⟩ := hq
        refine b_if_eq 37 dX1_sumUnheld_22 (by decide) (fun c22 => ?_) (fun c22 => ?_)
        · refine x_iinc3 (nI (i + 1)) dX1_sumUnheld_37 (nI_add i 1) rfl rfl rfl ?_
          refine x_goto 4 dX1_sumUnheld_40 (by decide) ?_
          first | exact ih (i + 1) _ (by omega) (by omega) (by rw [fb_si_succ, hc, zI_addv, show aU d b day i = (d.1 0 (80 * b + i)).toInt from if_pos c22]) | exact ih (i + 1) _ (by omega) (by omega) (by rw [fb_si_succ, hc, show aU d b day i = 0 from if_neg c22, Int.add_zero])
        · refine x_iload2 dX1_sumUnheld_25 ?_
          refine x_aload0 dX1_sumUnheld_26 ?_
          refine gB0 (by omega) fgX1_11 dX1_sumUnheld_27 ?_
          refine x_iload3 dX1_sumUnheld_30 ?_
          refine lBL (by omega) (i) rfl (by omega) dX1_sumUnheld_31 ?_
          refine gL2 (by omega) fgX1_31 dX1_sumUnheld_32 ?_
          refine x_iadd dX1_sumUnheld_35 ?_
          refine x_istore2 dX1_sumUnheld_36 rfl rfl rfl ?_
          refine x_iinc3 (nI (i + 1)) dX1_sumUnheld_37 (nI_add i 1) rfl rfl rfl ?_
          refine x_goto 4 dX1_sumUnheld_40 (by decide) ?_
          first | exact ih (i + 1) _ (by omega) (by omega) (by rw [fb_si_succ, hc, zI_addv, show aU d b day i = (d.1 0 (80 * b + i)).toInt from if_pos c22]) | exact ih (i + 1) _ (by omega) (by omega) (by rw [fb_si_succ, hc, show aU d b day i = 0 from if_neg c22, Int.add_zero])
  refine xK.ofV (by decide) (Nat.le_of_ble_eq_true rfl) ?_
  refine xV.lveq (L' := [some (.ref (bC b)), some (.int day), none, none]) rfl ?_
  refine x_iconst (nI 0) dX1_sumUnheld_0 (by decide) ?_
  refine x_istore2 dX1_sumUnheld_1 rfl rfl rfl ?_
  refine x_iconst (nI 0) dX1_sumUnheld_2 (by decide) ?_
  refine x_istore3 dX1_sumUnheld_3 rfl rfl rfl ?_
  exact lp (nL d b + 1) 0 (nI 0) (Nat.zero_le _) (by omega) nI_0

abbrev hrP (d : mS) (b i : Nat) : Prop := d.1 56 (80 * b + i) = (if d.1 5 (80 * b + i) < 0 then nI 0 else nI 1)
abbrev hrA (d : mS) (b : Nat) : Prop := ∀ i, i < nL d b → hrP d b i

set_option maxHeartbeats 4000000 in
theorem k_isHeldRightly (G : vx_G) (d m : mS) (hL : iL d) (b : Nat) (hb : b < 2) (hN : dN d) (hr : hrA d b) : xK G M_X1_isHeldRightly 1 [(.ref (bC b))] NT (hp (dk d) m) 0 0 (QI (fun r n' h' => r = 1 ∧ n' = NT ∧ h' = hp (dk d) m)) := by
  obtain ⟨e6, l6⟩ := hL b hb
  have lp : ∀ (n_ : Nat) (i : Nat), i ≤ nL d b → nL d b + 1 ≤ i + n_ → xV (mF G M_X1_isHeldRightly 1 0 0 (QI (fun r n' h' => r = 1 ∧ n' = NT ∧ h' = hp (dk d) m))) 2 [some (.ref (bC b)), some (.int (nI (i)))] [] NT (hp (dk d) m) 0 0 := by
    intro n_
    induction n_ with
    | zero => intro i hi_ hn_; omega
    | succ n_ ih =>
      intro i hi_ hn_ 
      refine x_iload1 dX1_isHeldRightly_2 ?_
      refine x_aload0 dX1_isHeldRightly_3 ?_
      refine gB1 (by omega) fgX1_17 dX1_isHeldRightly_4 ?_
      refine xV.toi (nI (nL d b)) (e6) ?_
      refine n_icmp_ge 47 dX1_isHeldRightly_7 (by decide) (by omega) (by omega) (fun c7 => ?_) (fun c7 => ?_)
      · refine x_iconst (nI 1) dX1_isHeldRightly_47 (by decide) ?_
        refine x_zret dX1_isHeldRightly_48 rfl (by first | exact Or.inl nI_0 | exact Or.inr nI1 | exact bI_01 _) ?_ (Nat.zero_le _) (Nat.zero_le _)
        exact ⟨nI1, rfl, rfl⟩
      · refine x_aload0 dX1_isHeldRightly_10 ?_
        refine gB0 (by omega) fgX1_11 dX1_isHeldRightly_11 ?_
        refine x_iload1 dX1_isHeldRightly_14 ?_
        refine lBL (by omega) (i) rfl (by omega) dX1_isHeldRightly_15 ?_
        refine gL8 (by omega) fgX1_34 dX1_isHeldRightly_16 ?_
        refine x_aload0 dX1_isHeldRightly_19 ?_
        refine gB0 (by omega) fgX1_11 dX1_isHeldRightly_20 ?_
        refine x_iload1 dX1_isHeldRightly_23 ?_
        refine lBL (by omega) (i) rfl (by omega) dX1_isHeldRightly_24 ?_
        have hh := hr i (by omega)
        refine x_callV0i mvX1_24 (k_isBreak G d m (80 * b + i) (by omega) (hN b hb i (by omega))) (lt_L (by omega)) (hd_L (by omega)) (xRoom.of rfl) (Nat.le_of_ble_eq_true rfl) dX1_isHeldRightly_25 (fun r_ n_ h_ hq => ?_)
        obtain ⟨rfl, rfl, rfl⟩ := hq
        refine b_if_eq 35 dX1_isHeldRightly_28 (by decide) (fun c28 => ?_) (fun c28 => ?_)
        · rw [show hrP d b i = (d.1 56 (80 * b + i) = nI 1) by unfold hrP; rw [if_neg c28]] at hh
          refine x_iconst (nI 1) dX1_isHeldRightly_35 (by decide) ?_
          refine x_icmp_eq 41 dX1_isHeldRightly_36 (by decide) (fun c36 => ?_) (fun c36 => absurd hh c36)
          refine x_iinc1 (nI (i + 1)) dX1_isHeldRightly_41 (nI_add i 1) rfl rfl rfl ?_
          refine x_goto 2 dX1_isHeldRightly_44 (by decide) ?_
          exact ih (i + 1) (by omega) (by omega)
        · rw [show hrP d b i = (d.1 56 (80 * b + i) = nI 0) by unfold hrP; rw [if_pos c28]] at hh
          refine x_iconst (nI 0) dX1_isHeldRightly_31 (by decide) ?_
          refine x_goto 36 dX1_isHeldRightly_32 (by decide) ?_
          refine x_icmp_eq 41 dX1_isHeldRightly_36 (by decide) (fun c36 => ?_) (fun c36 => absurd hh c36)
          refine x_iinc1 (nI (i + 1)) dX1_isHeldRightly_41 (nI_add i 1) rfl rfl rfl ?_
          refine x_goto 2 dX1_isHeldRightly_44 (by decide) ?_
          exact ih (i + 1) (by omega) (by omega)
  refine xK.ofV (by decide) (Nat.le_of_ble_eq_true rfl) ?_
  refine xV.lveq (L' := [some (.ref (bC b)), none]) rfl ?_
  refine x_iconst (nI 0) dX1_isHeldRightly_0 (by decide) ?_
  refine x_istore1 dX1_isHeldRightly_1 rfl rfl rfl ?_
  exact lp (nL d b + 1) 0 (Nat.zero_le _) (by omega)
