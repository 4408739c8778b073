/-! ===== the desk's methods, 24: addBreaks, explain, explained ===== -/
def itE (e : mS) (x : Nat) (kd nu a : Int32) : Prop := e.1 89 x = kd ∧ e.1 90 x = nu ∧ e.1 91 x = a
abbrev jI (j : Nat) : Prop := j ≠ 89 ∧ j ≠ 90 ∧ j ≠ 91 ∧ j ≠ 92
theorem ae_k {e : mS} {t : Nat} {kd nu a : Int32} : (∀ j, jI j → (aeD e t kd nu a).1 j = e.1 j) ∧ (aeD e t kd nu a).1 92 0 = nI (t + 1) ∧ itE (aeD e t kd nu a) t kd nu a := by
  unfold aeD itE
  refine ⟨fun j hj => by rw [mset_ne (by omega), mset_ne (by omega), mset_ne (by omega), mset_ne (by omega)], mset_at _ _ _ _, ?_, ?_, ?_⟩
  · rw [mset_ne (by decide), mset_ne (by decide), mset_ne (by decide), mset_at]
  · rw [mset_ne (by decide), mset_ne (by decide), mset_at]
  · rw [mset_ne (by decide), mset_at]
theorem ae_o {e : mS} {t x : Nat} {kd nu a k' n' a' : Int32} (hx : x ≠ t) (h : itE e x k' n' a') : itE (aeD e t kd nu a) x k' n' a' := by
  unfold aeD itE at *
  refine ⟨?_, ?_, ?_⟩
  · rw [mset_ne (by decide), mset_ne (by decide), mset_ne (by decide), mset_off hx]; exact h.1
  · rw [mset_ne (by decide), mset_ne (by decide), mset_off hx, mset_ne (by decide)]; exact h.2.1
  · rw [mset_ne (by decide), mset_off hx, mset_ne (by decide), mset_ne (by decide)]; exact h.2.2
/-- things of a kind, put behind t0 others in their order -/
abbrev puI (d : mS) (t0 : Nat) (p : Nat → Bool) (k : Int32) (f : Nat → Int32) (i : Nat) (e : mS) : Prop := (∀ j, jI j → e.1 j = d.1 j) ∧ e.1 92 0 = nI (t0 + fb_ct p i) ∧ (∀ x, x < t0 → ∀ k' n' a', itE d x k' n' a' → itE e x k' n' a') ∧ ∀ a, a < i → p a = true → itE e (t0 + fb_ct p a) k (nI a) (f a)
theorem puI_0 {d : mS} {t0 : Nat} {p : Nat → Bool} {k : Int32} {f : Nat → Int32} (h : d.1 92 0 = nI t0) : puI d t0 p k f 0 d := ⟨fun _ _ => rfl, h, fun _ _ _ _ _ q => q, fun a ha => absurd ha (Nat.not_lt_zero a)⟩
theorem puI_no {d e : mS} {t0 i : Nat} {p : Nat → Bool} {k : Int32} {f : Nat → Int32} (h : puI d t0 p k f i e) (hp : p i = false) : puI d t0 p k f (i + 1) e := by
  refine ⟨h.1, by rw [fb_ct_succ, hp]; exact h.2.1, h.2.2.1, fun a ha hq => ?_⟩
  rcases Nat.lt_or_ge a i with z | z
  · exact h.2.2.2 a z hq
  · have : a = i := by omega
    rw [this, hp] at hq; exact absurd hq Bool.false_ne_true
theorem puI_yes {d e : mS} {t0 i : Nat} {p : Nat → Bool} {k : Int32} {f : Nat → Int32} (h : puI d t0 p k f i e) (hp : p i = true) : puI d t0 p k f (i + 1) (aeD e (t0 + fb_ct p i) k (nI i) (f i)) := by
  have ak := ae_k (e := e) (t := t0 + fb_ct p i) (kd := k) (nu := nI i) (a := f i)
  refine ⟨fun j hj => (ak.1 j hj).trans (h.1 j hj), by rw [ak.2.1, fb_ct_succ, hp]; rfl, fun x hx k' n' a' q => ae_o (by omega) (h.2.2.1 x hx k' n' a' q), fun a ha hq => ?_⟩
  rcases Nat.lt_or_ge a i with z | z
  · have lt := ct_lt_all (p := p) z hq
    exact ae_o (by omega) (h.2.2.2 a z hq)
  · have : a = i := by omega
    subst this
    exact ak.2.2

set_option maxHeartbeats 4000000 in
theorem kd_addBreaks (G : vx_G) (d m : mS) (hL : iL d) (b : Nat) (hb : b < 2) (hN : dN d) (t0 : Nat) (e92 : d.1 92 0 = nI t0) (h18 : t0 + cBr d b ≤ 18) (sg : Int32) : xK G M_X2_addBreaks 1 [(.ref 208), (.ref (bC b)), (.int sg)] NT (hp (dk d) m) 0 0 (QV (fun n' h' => n' = NT ∧ ∃ e, h' = hp (dk e) m ∧ puI d t0 (brF d (80 * b)) (nI b) (fun i => sg * d.1 0 (80 * b + i)) (nL d b) e)) := by
  obtain ⟨e6, l6⟩ := hL b hb
  have lp : ∀ (n_ : Nat) (i : Nat) (e : mS), i ≤ nL d b → nL d b + 1 ≤ i + n_ → (puI d t0 (brF d (80 * b)) (nI b) (fun i => sg * d.1 0 (80 * b + i)) i e) → xV (mF G M_X2_addBreaks 1 0 0 (QV (fun n' h' => n' = NT ∧ ∃ e, h' = hp (dk e) m ∧ puI d t0 (brF d (80 * b)) (nI b) (fun i => sg * d.1 0 (80 * b + i)) (nL d b) e))) 2 [some (.ref 208), some (.ref (bC b)), some (.int sg), some (.int (nI (i)))] [] NT (hp (dk e) m) 0 0 := by
    intro n_
    induction n_ with
    | zero => intro i e hi_ hn_; omega
    | succ n_ ih =>
      intro i e hi_ hn_ h
      have ke : ∀ j, j < 57 → e.1 j = d.1 j := fun j hj => h.1 j (by omega)
      have hmn := fb_ct_mono (brF d (80 * b)) hi_
      have hcb : fb_ct (brF d (80 * b)) (nL d b) = cBr d b := rfl
      refine x_iload3 dX2_addBreaks_2 ?_
      refine x_aload1 dX2_addBreaks_3 ?_
      refine gB1 (by omega) fgX2_47 dX2_addBreaks_4 ?_
      refine xV.toi (nI (nL d b)) ((by rw [ke 6 (by decide)]; exact e6)) ?_
      refine n_icmp_ge 53 dX2_addBreaks_7 (by decide) (by omega) (by omega) (fun c7 => ?_) (fun c7 => ?_)
      · refine x_vret dX2_addBreaks_53 rfl ?_ (Nat.zero_le _) (Nat.zero_le _)
        have ei : i = nL d b := by omega
        rw [ei] at h
        exact ⟨rfl, _, rfl, h⟩
      · refine x_aload1 dX2_addBreaks_10 ?_
        refine gB0 (by omega) fgX2_52 dX2_addBreaks_11 ?_
        refine x_iload3 dX2_addBreaks_14 ?_
        refine lBL (by omega) (i) rfl (by omega) dX2_addBreaks_15 ?_
        refine x_callV0i mvX2_56 (k_isBreak G e m (80 * b + i) (by omega) (by rw [ke 5 (by decide)]; exact hN b hb i (by omega))) (lt_L (by omega)) (hd_L (by omega)) (xRoom.of rfl) (Nat.le_of_ble_eq_true rfl) dX2_addBreaks_16 (fun r_ n_ h_ hq => ?_)
        obtain ⟨rfl, rfl, rfl⟩ := hq
        refine b_if_eq 47 dX2_addBreaks_19 (by decide) (fun c19 => ?_) (fun c19 => ?_)
        · rw [ke 5 (by decide)] at c19
          have hf : brF d (80 * b) i = false := decide_eq_false c19
          refine x_iinc3 (nI (i + 1)) dX2_addBreaks_47 (nI_add i 1) rfl rfl rfl ?_
          refine x_goto 2 dX2_addBreaks_50 (by decide) ?_
          first | exact ih (i + 1) _ (by omega) (by omega) (puI_yes h hf) | exact ih (i + 1) _ (by omega) (by omega) (puI_no h hf)
        · rw [ke 5 (by decide)] at c19
          have hf : brF d (80 * b) i = true := decide_eq_true c19
          have lt := ct_lt_all (p := brF d (80 * b)) (a := i) (n := nL d b) (by omega) hf
          refine x_aload0 dX2_addBreaks_22 ?_
          refine x_aload1 dX2_addBreaks_23 ?_
          refine gB0 (by omega) fgX2_52 dX2_addBreaks_24 ?_
          refine x_iload3 dX2_addBreaks_27 ?_
          refine lBL (by omega) (i) rfl (by omega) dX2_addBreaks_28 ?_
          refine gL0 (by omega) fgX2_62 dX2_addBreaks_29 ?_
          refine xV.toi (nI b) ((by rw [show (80 * b + i) / 80 = b by omega])) ?_
          refine x_iload3 dX2_addBreaks_32 ?_
          refine x_iload2 dX2_addBreaks_33 ?_
          refine x_aload1 dX2_addBreaks_34 ?_
          refine gB0 (by omega) fgX2_52 dX2_addBreaks_35 ?_
          refine x_iload3 dX2_addBreaks_38 ?_
          refine lBL (by omega) (i) rfl (by omega) dX2_addBreaks_39 ?_
          refine gL2 (by omega) fgX2_65 dX2_addBreaks_40 ?_
          refine xV.toi (d.1 0 (80 * b + i)) ((by rw [ke 0 (by decide)])) ?_
          refine x_imul dX2_addBreaks_43 ?_
          refine x_callV3v mvX2_67 (kd_addE G e m (t0 + fb_ct (brF d (80 * b)) i) (by omega) h.2.1 (nI b) (nI i) (sg * d.1 0 (80 * b + i))) (show (208 : Nat) < NT by decide) (hd_at (a := 208) (by decide) rfl) (xRoom.of rfl) (Nat.le_of_ble_eq_true rfl) dX2_addBreaks_44 (fun n_ h_ hq => ?_)
          obtain ⟨rfl, rfl⟩ := hq
          refine x_iinc3 (nI (i + 1)) dX2_addBreaks_47 (nI_add i 1) rfl rfl rfl ?_
          refine x_goto 2 dX2_addBreaks_50 (by decide) ?_
          first | exact ih (i + 1) _ (by omega) (by omega) (puI_yes h hf) | exact ih (i + 1) _ (by omega) (by omega) (puI_no h hf)
  refine xK.ofV (by decide) (Nat.le_of_ble_eq_true rfl) ?_
  refine xV.lveq (L' := [some (.ref 208), some (.ref (bC b)), some (.int sg), none]) rfl ?_
  refine x_iconst (nI 0) dX2_addBreaks_0 (by decide) ?_
  refine x_istore3 dX2_addBreaks_1 rfl rfl rfl ?_
  exact lp (nL d b + 1) 0 d (Nat.zero_le _) (by omega) (puI_0 e92)

theorem neg_1 (v : Int32) : (-1) * v = -v := by
  have e := zI_mul (-1) v.toInt
  rw [← zI_of, show zI (-1) = (-1 : Int32) by decide] at e
  rw [e, show (-1 : Int) * v.toInt = -v.toInt by omega, ← zI_neg, ← zI_of]
theorem t_neg {v : Int32} (h : v.toInt ≠ -2147483648) : (-v).toInt = -v.toInt := by
  have h1 := Int32.le_toInt v
  have h2 := Int32.toInt_lt v
  have e := zI_neg v.toInt
  rw [← zI_of] at e
  rw [e, zI_T (by omega) (by omega)]

def nEx (d : mS) : Nat := cBr d 0 + cBr d 1 + fb_ct (unE d) (nG d)
abbrev xiR (d e : mS) : Prop := (∀ j, jI j → e.1 j = d.1 j) ∧ e.1 92 0 = nI (nEx d) ∧ (∀ a, a < nL d 0 → brF d 0 a = true → itE e (fb_ct (brF d 0) a) (nI 0) (nI a) (nI 1 * d.1 0 a)) ∧ (∀ a, a < nL d 1 → brF d 80 a = true → itE e (cBr d 0 + fb_ct (brF d 80) a) (nI 1) (nI a) ((-1) * d.1 0 (80 + a))) ∧ ∀ g, g < nG d → unE d g = true → itE e (cBr d 0 + cBr d 1 + fb_ct (unE d) g) (nI 2) (nI g) (zI (gDf d g))
theorem unE_k {d e : mS} (h : ∀ j, j < 57 → e.1 j = d.1 j) : unE e = unE d ∧ ∀ g, gDf e g = gDf d g := by
  have hg : ∀ g, gDf e g = gDf d g := fun g => by unfold gDf gAm nM mb; rw [h 0 (by decide), h 11 (by decide), h 12 (by decide)]
  refine ⟨funext fun g => ?_, hg⟩
  unfold unE
  rw [hg, h 14 (by decide)]
theorem xi_end {d e1 e2 e3 : mS} (h1 : puI (mset d 92 0 (nI 0)) 0 (brF d (80 * 0)) (nI 0) (fun i => nI 1 * d.1 0 (80 * 0 + i)) (nL d 0) e1) (h2 : puI e1 (cBr d 0) (brF d (80 * 1)) (nI 1) (fun i => (-1) * d.1 0 (80 * 1 + i)) (nL d 1) e2) (h3 : puI e2 (cBr d 0 + cBr d 1) (unE d) (nI 2) (fun g => zI (gDf d g)) (nG d) e3) : xiR d e3 := by
  refine ⟨fun j hj => ?_, h3.2.1, fun a ha hp => ?_, fun a ha hp => ?_, fun g hg hp => h3.2.2.2 g hg hp⟩
  · rw [h3.1 j hj, h2.1 j hj, h1.1 j hj, mset_ne (by omega)]
  · have q := h1.2.2.2 a ha hp
    rw [Nat.zero_add] at q
    have lt : fb_ct (brF d (80 * 0)) a < cBr d 0 := ct_lt_all (p := brF d (80 * 0)) ha hp
    have w := h3.2.2.1 _ (by omega) _ _ _ (h2.2.2.1 _ lt _ _ _ q)
    have e0 : 80 * 0 + a = a := by omega
    have w' : itE e3 (fb_ct (brF d (80 * 0)) a) (nI 0) (nI a) (nI 1 * d.1 0 (80 * 0 + a)) := w
    rw [e0] at w'
    exact w'
  · have q := h2.2.2.2 a ha hp
    have lt : fb_ct (brF d (80 * 1)) a < cBr d 1 := ct_lt_all (p := brF d (80 * 1)) ha hp
    exact h3.2.2.1 (cBr d 0 + fb_ct (brF d (80 * 1)) a) (by omega) _ _ _ q
theorem xi_bd {d e : mS} (h : xiR d e) (hF : iF d) (hg : ∀ g, g < nG d → -8000000 ≤ gDf d g ∧ gDf d g ≤ 8000000) : ∀ t, t < nEx d → -8000000 ≤ amE e t ∧ amE e t ≤ 8000000 := by
  intro t ht
  unfold nEx at ht
  unfold amE
  rcases Nat.lt_or_ge t (cBr d 0) with z | z
  · obtain ⟨a, a1, a2, a3⟩ := fb_ct_kth (p := brF d (80 * 0)) (n := nL d 0) z
    have q := (h.2.2.1 a a1 a2).2.2
    have a3' : fb_ct (brF d 0) a = t := a3
    rw [a3'] at q
    have f := (iF_0 hF a1).1
    rw [q, mul_I (l := 1) (by decide) f]
    omega
  · rcases Nat.lt_or_ge t (cBr d 0 + cBr d 1) with y | y
    · obtain ⟨a, a1, a2, a3⟩ := fb_ct_kth (p := brF d (80 * 1)) (n := nL d 1) (k := t - cBr d 0) (by show t - cBr d 0 < cBr d 1; omega)
      have q := (h.2.2.2.1 a a1 a2).2.2
      have a3' : fb_ct (brF d 80) a = t - cBr d 0 := a3
      rw [a3', show cBr d 0 + (t - cBr d 0) = t by omega] at q
      have f := (hF 1 (by decide) a a1).1
      have f' : amB (d.1 0 (80 + a)) := f
      rw [q, neg_1, t_neg (by omega)]
      omega
    · obtain ⟨g, g1, g2, g3⟩ := fb_ct_kth (p := unE d) (n := nG d) (k := t - (cBr d 0 + cBr d 1)) (by omega)
      have q := (h.2.2.2.2 g g1 g2).2.2
      rw [g3, show cBr d 0 + cBr d 1 + (t - (cBr d 0 + cBr d 1)) = t by omega] at q
      have b := hg g g1
      rw [q, zI_T (by omega) (by omega)]
      exact b
def xpD (d : mS) (r : Int32) (g : mS) : Prop := if 18 < nEx d then r = -4 ∧ g = d else ∃ e f, xiR d e ∧ feR e (nEx d) (zI (bD d)) f g ∧ r = (if f = 0 then -6 else g.1 95 0)
theorem xpD_1 {d : mS} (h : 18 < nEx d) : xpD d (-4) d := by unfold xpD; rw [if_pos h]; exact ⟨rfl, rfl⟩
theorem xpD_2 {d e g : mS} {f r : Int32} (h : ¬ 18 < nEx d) (h1 : xiR d e) (h2 : feR e (nEx d) (zI (bD d)) f g) (hr : r = (if f = 0 then -6 else g.1 95 0)) : xpD d r g := by unfold xpD; rw [if_neg h]; exact ⟨e, f, h1, h2, hr⟩

set_option maxHeartbeats 4000000 in
theorem kd_explain (G : vx_G) (d m : mS) (hL : iL d) (hN : dN d) (hG : iG d) (hp_ : dP d) (hM : iMs d) (hF : iF d) (hkn : iKn d) (hgd : ∀ g, g < nG d → -8000000 ≤ gDf d g ∧ gDf d g ≤ 8000000) : xK G M_X9_explain 4 [(.ref 0)] NT (hp (dk d) m) 0 0 (QI (fun r n' h' => n' = NT ∧ ∃ g, h' = hp (dk g) m ∧ xpD d r g)) := by
  have hb0 := fb_ct_le (brF d (80 * 0)) (nL d 0)
  have hb1 := fb_ct_le (brF d (80 * 1)) (nL d 1)
  have hl0 := (hL 0 (by decide)).2
  have hl1 := (hL 1 (by decide)).2
  have hl2 := hG.2
  have hbu := fb_ct_le (unE d) (nG d)
  have hc0 : cBr d 0 ≤ 80 := by show fb_ct (brF d (80 * 0)) (nL d 0) ≤ 80; omega
  have hc1 : cBr d 1 ≤ 80 := by show fb_ct (brF d (80 * 1)) (nL d 1) ≤ 80; omega
  have lp : ∀ (h18 : nEx d ≤ 18) (e1 e2 : mS), (puI (mset d 92 0 (nI 0)) 0 (brF d (80 * 0)) (nI 0) (fun i => nI 1 * d.1 0 (80 * 0 + i)) (nL d 0) e1) → (puI e1 (cBr d 0) (brF d (80 * 1)) (nI 1) (fun i => (-1) * d.1 0 (80 * 1 + i)) (nL d 1) e2) → ∀ (n_ : Nat) (g : Nat) (e : mS), g ≤ nG d → nG d + 1 ≤ g + n_ → (puI e2 (cBr d 0 + cBr d 1) (unE d) (nI 2) (fun g => zI (gDf d g)) g e) → xV (mF G M_X9_explain 4 0 0 (QI (fun r n' h' => n' = NT ∧ ∃ g, h' = hp (dk g) m ∧ xpD d r g))) 79 [some (.ref 0), some (.int (nI (g)))] [] NT (hp (dk e) m) 0 0 := by
    intro h18 e1 e2 h1 h2
    have k2 : ∀ j, jI j → e2.1 j = d.1 j := fun j hj => by rw [h2.1 j hj, h1.1 j hj, mset_ne (by omega)]
    intro n_
    induction n_ with
    | zero => intro g e hi_ hn_; omega
    | succ n_ ih =>
      intro g e hi_ hn_ h
      have ke : ∀ j, j < 57 → e.1 j = d.1 j := fun j hj => (h.1 j (by omega)).trans (k2 j (by omega))
      have uk := unE_k ke
      have hmn := fb_ct_mono (unE d) hi_
      have hbe : iMs e := iMs_k (ke 11 (by decide)) (ke 12 (by decide)) (ke 16 (by decide)) hM
      have hpe : dP e := dP_k (ke 14 (by decide)) (ke 16 (by decide)) hp_
      have ng : nG e = nG d := nG_k (ke 16 (by decide))
      refine x_iload1 dX9_explain_79 ?_
      refine x_aload0 dX9_explain_80 ?_
      refine go0_6 fgX9_52 dX9_explain_81 ?_
      refine xV.toi (nI (nG d)) ((by rw [ke 16 (by decide)]; exact hG.1)) ?_
      refine n_icmp_ge 123 dX9_explain_84 (by decide) (by omega) (by omega) (fun c84 => ?_) (fun c84 => ?_)
      · have eg : g = nG d := by omega
        rw [eg] at h
        have xi := xi_end h1 h2 h
        have hLe : iL e := iL_k (ke 6 (by decide)) hL
        refine x_aload0 dX9_explain_123 ?_
        refine go0_5 fgX9_48 dX9_explain_124 ?_
        refine x_aload0 dX9_explain_127 ?_
        refine x_callV0i mvX9_249 (kd_booksDifference G e m hLe) (show (0 : Nat) < NT by decide) (hd_at (a := 0) (by decide) rfl) (xRoom.of rfl) (Nat.le_of_ble_eq_true rfl) dX9_explain_128 (fun r_ n_ h_ hq => ?_)
        obtain ⟨rfl, rfl, rfl⟩ := hq
        refine xV.toi (zI (bD d)) ((by rw [bD_k (ke 0 (by decide)) (ke 6 (by decide))])) ?_
        refine x_callV1i mvX9_285 (kd_findE G e m (nEx d) h18 xi.2.1 (xi_bd xi hF hgd) (zI (bD d))) (show (208 : Nat) < NT by decide) (hd_at (a := 208) (by decide) rfl) (xRoom.of rfl) (Nat.le_of_ble_eq_true rfl) dX9_explain_131 (fun r_ n_ h_ hq => ?_)
        obtain ⟨rfl, f, rfl, hfe⟩ := hq
        refine x_if_eq 147 dX9_explain_134 (by decide) (fun c134 => ?_) (fun c134 => ?_)
        · refine x_bipush (-6) dX9_explain_147 (by decide) ?_
          refine x_iret dX9_explain_149 rfl ?_ (Nat.zero_le _) (Nat.zero_le _)
          first | exact ⟨rfl, _, rfl, xpD_2 (by omega) xi hfe (if_pos c134).symm⟩ | exact ⟨rfl, _, rfl, xpD_2 (by omega) xi hfe (if_neg c134).symm⟩
        · refine x_aload0 dX9_explain_137 ?_
          refine go0_5 fgX9_48 dX9_explain_138 ?_
          refine go208_9 fgX9_287 dX9_explain_141 ?_
          refine x_goto 149 dX9_explain_144 (by decide) ?_
          refine x_iret dX9_explain_149 rfl ?_ (Nat.zero_le _) (Nat.zero_le _)
          first | exact ⟨rfl, _, rfl, xpD_2 (by omega) xi hfe (if_pos c134).symm⟩ | exact ⟨rfl, _, rfl, xpD_2 (by omega) xi hfe (if_neg c134).symm⟩
      · refine x_aload0 dX9_explain_87 ?_
        refine go0_1 fgX9_20 dX9_explain_88 ?_
        refine x_iload1 dX9_explain_91 ?_
        refine lGS (g) rfl (by omega) dX9_explain_92 ?_
        refine x_callV0i mvX9_279 (kd_isUneven G e m g (by omega) (hbe g (by omega)) (hpe g (by omega))) (lt_G (by omega)) (hd_G (by omega)) (xRoom.of rfl) (Nat.le_of_ble_eq_true rfl) dX9_explain_93 (fun r_ n_ h_ hq => ?_)
        obtain ⟨rfl, rfl, rfl⟩ := hq
        refine b_if_eq 117 dX9_explain_96 (by decide) (fun c96 => ?_) (fun c96 => ?_)
        · have hf : unE d g = false := by rw [← uk.1]; exact decide_eq_false c96
          refine x_iinc1 (nI (g + 1)) dX9_explain_117 (nI_add g 1) rfl rfl rfl ?_
          refine x_goto 79 dX9_explain_120 (by decide) ?_
          first | exact ih (g + 1) _ (by omega) (by omega) (puI_yes h hf) | exact ih (g + 1) _ (by omega) (by omega) (puI_no h hf)
        · have hf : unE d g = true := by rw [← uk.1]; exact decide_eq_true c96
          have lt := ct_lt_all (p := unE d) (a := g) (n := nG d) (by omega) hf
          refine x_aload0 dX9_explain_99 ?_
          refine go0_5 fgX9_48 dX9_explain_100 ?_
          refine x_iconst (nI 2) dX9_explain_103 (by decide) ?_
          refine x_iload1 dX9_explain_104 ?_
          refine x_aload0 dX9_explain_105 ?_
          refine go0_1 fgX9_20 dX9_explain_106 ?_
          refine x_iload1 dX9_explain_109 ?_
          refine lGS (g) rfl (by omega) dX9_explain_110 ?_
          refine x_callV0i mvX9_239 (kd_difference G e m g (by omega) (hbe g (by omega))) (lt_G (by omega)) (hd_G (by omega)) (xRoom.of rfl) (Nat.le_of_ble_eq_true rfl) dX9_explain_111 (fun r_ n_ h_ hq => ?_)
          obtain ⟨rfl, rfl, rfl⟩ := hq
          refine xV.toi (zI (gDf d g)) ((by rw [uk.2])) ?_
          refine x_callV3v mvX9_282 (kd_addE G e m (cBr d 0 + cBr d 1 + fb_ct (unE d) g) (by unfold nEx at h18; omega) h.2.1 (nI 2) (nI g) (zI (gDf d g))) (show (208 : Nat) < NT by decide) (hd_at (a := 208) (by decide) rfl) (xRoom.of rfl) (Nat.le_of_ble_eq_true rfl) dX9_explain_114 (fun n_ h_ hq => ?_)
          obtain ⟨rfl, rfl⟩ := hq
          refine x_iinc1 (nI (g + 1)) dX9_explain_117 (nI_add g 1) rfl rfl rfl ?_
          refine x_goto 79 dX9_explain_120 (by decide) ?_
          first | exact ih (g + 1) _ (by omega) (by omega) (puI_yes h hf) | exact ih (g + 1) _ (by omega) (by omega) (puI_no h hf)
  refine xK.ofV (by decide) (Nat.le_of_ble_eq_true rfl) ?_
  refine xV.lveq (L' := [some (.ref 0), none]) rfl ?_
  refine x_aload0 dX9_explain_0 ?_
  refine go0_0 fgX9_12 dX9_explain_1 ?_
  refine x_iconst (nI 0) dX9_explain_4 (by decide) ?_
  refine lBK (0) rfl (by omega) dX9_explain_5 ?_
  refine x_iconst (nI 0) dX9_explain_6 (by decide) ?_
  refine x_aload0 dX9_explain_7 ?_
  refine go0_7 fgX9_56 dX9_explain_8 ?_
  refine x_callV2i mvX9_132 (k_breaksAged G d m hL 0 (by decide) hN (nI 0)) (lt_B _) (hd_B (by omega)) (xRoom.of rfl) (Nat.le_of_ble_eq_true rfl) dX9_explain_11 (fun r_ n_ h_ hq => ?_)
  obtain ⟨rfl, rfl, rfl⟩ := hq
  refine xV.toi (nI (cBr d 0)) (bA_c (by decide) hkn) ?_
  refine x_aload0 dX9_explain_14 ?_
  refine go0_0 fgX9_12 dX9_explain_15 ?_
  refine x_iconst (nI 1) dX9_explain_18 (by decide) ?_
  refine lBK (1) rfl (by omega) dX9_explain_19 ?_
  refine x_iconst (nI 0) dX9_explain_20 (by decide) ?_
  refine x_aload0 dX9_explain_21 ?_
  refine go0_7 fgX9_56 dX9_explain_22 ?_
  refine x_callV2i mvX9_132 (k_breaksAged G d m hL 1 (by decide) hN (nI 0)) (lt_B _) (hd_B (by omega)) (xRoom.of rfl) (Nat.le_of_ble_eq_true rfl) dX9_explain_25 (fun r_ n_ h_ hq => ?_)
  obtain ⟨rfl, rfl, rfl⟩ := hq
  refine xV.toi (nI (cBr d 1)) (bA_c (by decide) hkn) ?_
  refine n_iadd dX9_explain_28 ?_
  refine x_aload0 dX9_explain_29 ?_
  refine x_callV0i mvX9_269 (kd_countUneven G d m hG hp_ hM) (show (0 : Nat) < NT by decide) (hd_at (a := 0) (by decide) rfl) (xRoom.of rfl) (Nat.le_of_ble_eq_true rfl) dX9_explain_30 (fun r_ n_ h_ hq => ?_)
  obtain ⟨rfl, rfl, rfl⟩ := hq
  refine n_iadd dX9_explain_33 ?_
  refine x_bipush (nI 18) dX9_explain_34 (by decide) ?_
  refine n_icmp_le 42 dX9_explain_36 (by decide) (by omega) (by omega) (fun c36 => ?_) (fun c36 => ?_)
  · have h18 : nEx d ≤ 18 := by unfold nEx; omega
    have k0 : ∀ j, j ≠ 92 → (mset d 92 0 (nI 0)).1 j = d.1 j := fun j hj => mset_ne hj
    refine x_aload0 dX9_explain_42 ?_
    refine go0_5 fgX9_48 dX9_explain_43 ?_
    refine x_callV0v mvX9_272 (kd_startE G d m) (show (208 : Nat) < NT by decide) (hd_at (a := 208) (by decide) rfl) (xRoom.of rfl) (Nat.le_of_ble_eq_true rfl) dX9_explain_46 (fun n_ h_ hq => ?_)
    obtain ⟨rfl, rfl⟩ := hq
    refine x_aload0 dX9_explain_49 ?_
    refine go0_5 fgX9_48 dX9_explain_50 ?_
    refine x_aload0 dX9_explain_53 ?_
    refine go0_0 fgX9_12 dX9_explain_54 ?_
    refine x_iconst (nI 0) dX9_explain_57 (by decide) ?_
    refine lBK (0) rfl (by omega) dX9_explain_58 ?_
    refine x_iconst (nI 1) dX9_explain_59 (by decide) ?_
    refine x_callV2v mvX9_275 (kd_addBreaks G (mset d 92 0 (nI 0)) m (iL_k (k0 6 (by decide)) hL) 0 (by decide) (dN_k (k0 5 (by decide)) (k0 6 (by decide)) hN) 0 (mset_at _ _ _ _) (by rw [cBr_k (k0 5 (by decide)) (k0 6 (by decide))]; omega) (nI 1)) (show (208 : Nat) < NT by decide) (hd_at (a := 208) (by decide) rfl) (xRoom.of rfl) (Nat.le_of_ble_eq_true rfl) dX9_explain_60 (fun n_ h_ hq => ?_)
    obtain ⟨rfl, e1, rfl, h1⟩ := hq
    rw [brF_k (k0 5 (by decide)), nL_k (b := 0) (k0 6 (by decide)), k0 0 (by decide)] at h1
    have k1 : ∀ j, j < 57 → e1.1 j = d.1 j := fun j hj => (h1.1 j (by omega)).trans (k0 j (by omega))
    refine x_aload0 dX9_explain_63 ?_
    refine go0_5 fgX9_48 dX9_explain_64 ?_
    refine x_aload0 dX9_explain_67 ?_
    refine go0_0 fgX9_12 dX9_explain_68 ?_
    refine x_iconst (nI 1) dX9_explain_71 (by decide) ?_
    refine lBK (1) rfl (by omega) dX9_explain_72 ?_
    refine x_iconst (-1) dX9_explain_73 (by decide) ?_
    refine x_callV2v mvX9_275 (kd_addBreaks G e1 m (iL_k (k1 6 (by decide)) hL) 1 (by decide) (dN_k (k1 5 (by decide)) (k1 6 (by decide)) hN) (cBr d 0) (by have q := h1.2.1; rw [Nat.zero_add] at q; exact q) (by rw [cBr_k (k1 5 (by decide)) (k1 6 (by decide))]; omega) (-1)) (show (208 : Nat) < NT by decide) (hd_at (a := 208) (by decide) rfl) (xRoom.of rfl) (Nat.le_of_ble_eq_true rfl) dX9_explain_74 (fun n_ h_ hq => ?_)
    obtain ⟨rfl, e2, rfl, h2⟩ := hq
    rw [brF_k (k1 5 (by decide)), nL_k (b := 1) (k1 6 (by decide)), k1 0 (by decide)] at h2
    refine x_iconst (nI 0) dX9_explain_77 (by decide) ?_
    refine x_istore1 dX9_explain_78 rfl rfl rfl ?_
    exact lp h18 e1 e2 h1 h2 (nG d + 1) 0 e2 (Nat.zero_le _) (by omega) (puI_0 h2.2.1)
  · refine x_bipush (-4) dX9_explain_39 (by decide) ?_
    refine x_iret dX9_explain_41 rfl ?_ (Nat.zero_le _) (Nat.zero_le _)
    exact ⟨rfl, _, rfl, xpD_1 (by unfold nEx; omega)⟩

abbrev exK (d : mS) (j : Int32) : Prop := nI 0 ≤ j ∧ j < d.1 95 0
def edV (d : mS) (j w : Int32) : Int32 := if exK d j then (if w = 0 then d.1 93 (nv j) else if w = 1 then d.1 94 (nv j) else -1) else -1

set_option maxHeartbeats 4000000 in
theorem kd_explained (G : vx_G) (d m : mS) (N : Nat) (hN : N ≤ 18) (e95 : d.1 95 0 = nI N) (j w : Int32) : xK G M_X9_explained 1 [(.ref 0), (.int j), (.int w)] NT (hp (dk d) m) 0 0 (QI (fun r n' h' => r = edV d j w ∧ n' = NT ∧ h' = hp (dk d) m)) := by
  refine xK.ofV (by decide) (Nat.le_of_ble_eq_true rfl) ?_
  refine xV.lveq (L' := [some (.ref 0), some (.int j), some (.int w)]) rfl ?_
  refine x_iload1 dX9_explained_0 ?_
  refine x_iconst (nI 0) dX9_explained_1 (by decide) ?_
  refine x_aload0 dX9_explained_2 ?_
  refine go0_5 fgX9_48 dX9_explained_3 ?_
  refine go208_9 fgX9_287 dX9_explained_6 ?_
  refine x_iconst (nI 1) dX9_explained_9 (by decide) ?_
  refine x_isub dX9_explained_10 ?_
  refine x_callS3i msX9_75 (kd_isWithin G d m j (nI 0) (d.1 95 0 - nI 1)) (xRoom.of rfl) (Nat.le_of_ble_eq_true rfl) dX9_explained_11 (fun r_ n_ h_ hq => ?_)
  obtain ⟨rfl, rfl, rfl⟩ := hq
  refine b_if_ne 19 dX9_explained_14 (by decide) (fun c14 => ?_) (fun c14 => ?_)
  · rw [e95] at c14
    have hk2 := (wi1 (n := N) (by omega)).mp c14
    have hk : exK d j := by unfold exK; rw [e95]; exact hk2
    have ej := nv_of (iNL.mpr (nI_0 ▸ hk2.1))
    have lj : nv j < N := by
      have q := hk2.2
      rw [ej] at q
      exact (nI_ltI (nv_lt j) (by omega)).mp q
    refine x_iload2 dX9_explained_19 ?_
    by_cases cs0 : w = 0
    · refine x_lookup 48 dX9_explained_20 (by decide) (off := 28) (by rw [cs0]; decide) (by decide) ?_
      refine x_aload0 dX9_explained_48 ?_
      refine go0_5 fgX9_48 dX9_explained_49 ?_
      refine go208_7 fgX9_288 dX9_explained_52 ?_
      refine x_iload1 dX9_explained_55 ?_
      refine la221 (nv j) (ej) (by omega) dX9_explained_56 ?_
      refine x_iret dX9_explained_57 rfl ?_ (Nat.zero_le _) (Nat.zero_le _)
      refine ⟨?_, rfl, rfl⟩
      unfold edV
      rw [if_pos hk]
      first | exact (if_pos cs0).symm | exact ((if_neg cs0).trans (if_pos cs1)).symm | exact ((if_neg cs0).trans (if_neg cs1)).symm
    by_cases cs1 : w = 1
    · refine x_lookup 58 dX9_explained_20 (by decide) (off := 38) (by rw [cs1]; decide) (by decide) ?_
      refine x_aload0 dX9_explained_58 ?_
      refine go0_5 fgX9_48 dX9_explained_59 ?_
      refine go208_8 fgX9_291 dX9_explained_62 ?_
      refine x_iload1 dX9_explained_65 ?_
      refine la222 (nv j) (ej) (by omega) dX9_explained_66 ?_
      refine x_iret dX9_explained_67 rfl ?_ (Nat.zero_le _) (Nat.zero_le _)
      refine ⟨?_, rfl, rfl⟩
      unfold edV
      rw [if_pos hk]
      first | exact (if_pos cs0).symm | exact ((if_neg cs0).trans (if_pos cs1)).symm | exact ((if_neg cs0).trans (if_neg cs1)).symm
    refine x_lookup 68 dX9_explained_20 (by decide) (off := 48) (lk2 cs0 cs1) (by decide) ?_
    refine x_iconst (-1) dX9_explained_68 (by decide) ?_
    refine x_iret dX9_explained_69 rfl ?_ (Nat.zero_le _) (Nat.zero_le _)
    refine ⟨?_, rfl, rfl⟩
    unfold edV
    rw [if_pos hk]
    first | exact (if_pos cs0).symm | exact ((if_neg cs0).trans (if_pos cs1)).symm | exact ((if_neg cs0).trans (if_neg cs1)).symm
  · refine x_iconst (-1) dX9_explained_17 (by decide) ?_
    refine x_iret dX9_explained_18 rfl ?_ (Nat.zero_le _) (Nat.zero_le _)
    exact ⟨(if_neg (fun q : exK d j => c14 (by rw [e95]; exact (wi1 (n := N) (by omega)).mpr (by unfold exK at q; rw [e95] at q; exact q)))).symm, rfl, rfl⟩
