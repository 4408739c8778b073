/-! ===== the desk's methods, 19: Sets: find; sets, size, in, set ===== -/
def stLs (d : mS) (K E : Nat) (o : Int) : Nat → List Nat
  | 0 => []
  | z + 1 => ap (stLs d K E o z) ((cmD d K E (z + 1) 0 o).map (fS d (z + 1) 0))
abbrev fx0 (d : mS) (K : Nat) : Prop := (d.1 81 0 = nI K ∧ K ≤ 80) ∧ ∀ c, c < K → (d.1 77 c = nI (nuD d c) ∧ nuD d c < 128) ∧ amB (d.1 78 c) ∧ (amB (d.1 79 c) ∧ amB (d.1 80 c)) ∧ ∀ y, c ≤ y → y < K → d.1 79 c ≤ d.1 78 y ∧ d.1 78 y ≤ d.1 80 c
def fiR (d e : mS) : Prop := ∀ j, j ≠ 76 → j ≠ 83 → j ≠ 84 → j ≠ 85 → e.1 j = d.1 j
theorem fiR_x {d e f : mS} {v : Int32} (h : fiR d e) (g : exR (mset e 84 0 v) f) : fiR d f := fun j a b c d' => (g j a d').trans ((mset_ne c).trans (h j a b c d'))
theorem fiR_fx {d e : mS} {K E z : Nat} (h : fiR d e) (hf : fx0 d K) (h83 : e.1 83 0 = nI E) (hE : E ≤ 10000) (hz : z ≤ 4) : fxD (mset e 84 0 (nI z)) K E z := by
  have k : ∀ j, j ≠ 76 → j ≠ 83 → j ≠ 84 → j ≠ 85 → (mset e 84 0 (nI z)).1 j = d.1 j := fun j a b c d' => (mset_ne c).trans (h j a b c d')
  refine ⟨by rw [k 81 (by decide) (by decide) (by decide) (by decide)]; exact hf.1, ⟨by rw [mset_ne (by decide)]; exact h83, hE⟩, ⟨mset_at _ _ _ _, hz⟩, ?_⟩
  unfold nuD
  rw [k 77 (by decide) (by decide) (by decide) (by decide), k 78 (by decide) (by decide) (by decide) (by decide), k 79 (by decide) (by decide) (by decide) (by decide), k 80 (by decide) (by decide) (by decide) (by decide)]
  exact hf.2
theorem fiR_l {d e : mS} {v : Int32} (h : fiR d e) : amD (mset e 84 0 v) = amD d ∧ nuD (mset e 84 0 v) = nuD d := by
  unfold amD nuD
  rw [mset_ne (by decide), mset_ne (by decide), h 77 (by decide) (by decide) (by decide) (by decide), h 78 (by decide) (by decide) (by decide) (by decide)]
  exact ⟨rfl, rfl⟩
theorem dS_84 {e : mS} {L : List Nat} {v : Int32} (h : dS e L) : dS (mset e 84 0 v) L := by
  unfold dS
  rw [mset_ne (by decide), mset_ne (by decide)]; exact h

set_option maxHeartbeats 4000000 in
theorem kd_findS (G : vx_G) (d m : mS) (K E z : Nat) (hf : fx0 d K) (hE : E ≤ 10000) (hz : z ≤ 4) (ht : amB (d.1 82 0)) : xK G M_X7_find 6 [(.ref 202), (.int (nI (z))), (.int (nI (E)))] NT (hp (dk d) m) 0 0 (QV (fun n' h' => n' = NT ∧ ∃ e, h' = hp (dk e) m ∧ fiR d e ∧ dS e (stLs d K E (d.1 82 0).toInt z))) := by
  have lp : ∀ (n_ : Nat) (l : Nat) (e : mS), l ≤ z → z + 1 ≤ l + n_ → (fiR d e) → (e.1 83 0 = nI E) → (dS e (stLs d K E (d.1 82 0).toInt l)) → xV (mF G M_X7_find 6 0 0 (QV (fun n' h' => n' = NT ∧ ∃ e, h' = hp (dk e) m ∧ fiR d e ∧ dS e (stLs d K E (d.1 82 0).toInt z)))) 12 [some (.ref 202), some (.int (nI (z))), some (.int (nI (E))), some (.int (nI (l + 1)))] [] NT (hp (dk e) m) 0 0 := by
    intro n_
    induction n_ with
    | zero => intro l e hi_ hn_; omega
    | succ n_ ih =>
      intro l e hi_ hn_ hI h83 hS
      refine x_iload3 dX7_find_12 ?_
      refine x_iload1 dX7_find_13 ?_
      refine n_icmp_gt 39 dX7_find_14 (by decide) (by omega) (by omega) (fun c14 => ?_) (fun c14 => ?_)
      · refine x_vret dX7_find_39 rfl ?_ (Nat.zero_le _) (Nat.zero_le _)
        have el : l = z := by omega
        rw [el] at hS
        exact ⟨rfl, _, rfl, hI, hS⟩
      · refine x_aload0 dX7_find_17 ?_
        refine x_iload3 dX7_find_18 ?_
        refine po202_8 fpX7_37 dX7_find_19 ?_
        refine x_aload0 dX7_find_22 ?_
        refine x_iconst (nI 0) dX7_find_23 (by decide) ?_
        refine x_iload3 dX7_find_24 ?_
        refine x_aload0 dX7_find_25 ?_
        refine go202_6 fgX7_31 dX7_find_26 ?_
        refine xV.toi (d.1 82 0) ((by rw [mset_ne (by decide), hI 82 (by decide) (by decide) (by decide) (by decide)])) ?_
        refine x_iconst (nI 0) dX7_find_29 (by decide) ?_
        refine x_callV4v mvX7_91 (kd_extend G m K E (l + 1) l (by omega) (mset e 84 0 (nI (l + 1))) _ 0 0 (d.1 82 0) (fiR_fx hI hf h83 hE (by omega)) (dS_84 hS) (by omega) (Nat.pow_pos (by decide)) (by unfold rB; have t1 : -1000000 ≤ (d.1 82 0).toInt := ht.1; have t2 : (d.1 82 0).toInt ≤ 1000000 := ht.2; omega)) (show (202 : Nat) < NT by decide) (hd_at (a := 202) (by decide) rfl) (xRoom.le (l := 5) (by decide) (by omega)) (Nat.le_of_ble_eq_true rfl) dX7_find_30 (fun n_ h_ hq => ?_)
        obtain ⟨rfl, e2, rfl, h1, h2⟩ := hq
        have fl := fiR_l (v := nI (l + 1)) hI
        rw [show fS (mset e 84 0 (nI (l + 1))) (l + 1) 0 = fS d (l + 1) 0 by unfold fS; rw [fl.2], show cmD (mset e 84 0 (nI (l + 1))) K E (l + 1) 0 (d.1 82 0).toInt = cmD d K E (l + 1) 0 (d.1 82 0).toInt by unfold cmD; rw [fl.1]] at h2
        refine x_iinc3 (nI (l + 1 + 1)) dX7_find_33 (nI_add (l + 1) 1) rfl rfl rfl ?_
        refine x_goto 12 dX7_find_36 (by decide) ?_
        exact ih (l + 1) e2 (by omega) (by omega) (fiR_x hI h1) (by rw [h1 83 (by decide) (by decide), mset_ne (by decide)]; exact h83) h2
  refine xK.ofV (by decide) (Nat.le_of_ble_eq_true rfl) ?_
  refine xV.lveq (L' := [some (.ref 202), some (.int (nI (z))), some (.int (nI (E))), none]) rfl ?_
  refine x_aload0 dX7_find_0 ?_
  refine x_iconst (nI 0) dX7_find_1 (by decide) ?_
  refine po202_9 fpX7_40 dX7_find_2 ?_
  refine x_aload0 dX7_find_5 ?_
  refine x_iload2 dX7_find_6 ?_
  refine po202_7 fpX7_34 dX7_find_7 ?_
  refine x_iconst (nI 1) dX7_find_10 (by decide) ?_
  refine x_istore3 dX7_find_11 rfl rfl rfl ?_
  exact lp (z + 1) 0 _ (Nat.zero_le _) (by omega) (fun j a b c d' => by rw [mset_ne b, mset_ne d']) (by rw [mset_at]) ⟨by rw [mset_ne (by decide), mset_at]; rfl, Nat.zero_le _, fun k hk => absurd hk (Nat.not_lt_zero k)⟩

/-- the sets of a line, as lists of lines -/
def setL (p : Nat → Bool) (am : Nat → Int) (N : Nat) (E o : Int) : Nat → List (List Nat)
  | 0 => []
  | z + 1 => ap (setL p am N E o z) (cm p am N E (z + 1) 0 o)
def amL (d : mS) (b i : Nat) : Int := (d.1 0 (80 * b + i)).toInt
theorem stLs_eq {d g : mS} {A b E : Nat} {sp : Int32} {o : Int} (hg : gsR d A b sp g) (hN : nL d b ≤ 80) : ∀ z, stLs g (fb_ct (cdP d b A sp) (nL d b)) E o z = (setL (cdP d b A sp) (amL d b) (nL d b) (E : Int) o z).map pkS
  | 0 => rfl
  | z + 1 => by
    have ih := stLs_eq (E := E) (o := o) hg hN z
    show ap (stLs g _ E o z) ((cmD g _ E (z + 1) 0 o).map (fS g (z + 1) 0)) = (ap (setL (cdP d b A sp) (amL d b) (nL d b) (E : Int) o z) (cm (cdP d b A sp) (amL d b) (nL d b) (E : Int) (z + 1) 0 o)).map pkS
    have hn : ∀ i, i < nL d b → cdP d b A sp i = true → nuD g (fb_ct (cdP d b A sp) i) = i ∧ amD g (fb_ct (cdP d b A sp) i) = amL d b i := by
      intro i hi hp
      obtain ⟨a1, a2⟩ := hg.1.2.2.2 i hi hp
      unfold nuD amD amL
      rw [a1, a2]
      exact ⟨nv_nI (by omega), rfl⟩
    have rk := cm_rank (p := cdP d b A sp) (am := amL d b) (am' := amD g) (num := nuD g) (N := nL d b) (e := (E : Int)) hN hn (z + 1) 0 o (Nat.zero_le _)
    have e0 : fb_ct (cdP d b A sp) 0 = 0 := rfl
    rw [e0] at rk
    rw [ap_map, ih, rk, List.map_map]
    refine congrArg (ap _) (List.map_congr_left (fun t ht => ?_))
    have ml := cm_mem (by have := fb_ct_le (cdP d b A sp) (nL d b); omega) (z + 1) 0 o t ht
    show (z + 1) * 268435456 + pkA 0 (t.map (nuD g)) = (t.map (nuD g)).length * 268435456 + pkA 0 (t.map (nuD g))
    rw [List.length_map, ml.1]
/-- what is found is small -/
def okL (N : Nat) (L : List (List Nat)) : Prop := ∀ t, t ∈ L → (1 ≤ t.length ∧ t.length ≤ 4) ∧ ∀ x, x ∈ t → x < N
theorem setL_ok {p : Nat → Bool} {am : Nat → Int} {N : Nat} {E o : Int} (hN : N ≤ 80) : ∀ z, z ≤ 4 → okL N (setL p am N E o z)
  | 0, _ => fun t ht => by simp [setL] at ht
  | z + 1, hz => fun t ht => by
    have ht' : t ∈ ap (setL p am N E o z) (cm p am N E (z + 1) 0 o) := ht
    unfold ap at ht'
    rcases List.mem_append.mp (List.mem_of_mem_take ht') with q | q
    · exact setL_ok hN z (by omega) t q
    · have ml := cm_mem hN (z + 1) 0 o t q
      exact ⟨by rw [ml.1]; omega, fun x hx => (ml.2.1 x hx).2⟩
theorem gs_fx {d g : mS} {A b : Nat} {sp : Int32} (hg : gsR d A b sp g) (hN : nL d b ≤ 80) (hF : iF d) (hb : b < 2) : fx0 g (fb_ct (cdP d b A sp) (nL d b)) := by
  have hl := fb_ct_le (cdP d b A sp) (nL d b)
  refine ⟨⟨hg.1.2.2.1, by omega⟩, fun c hc => ?_⟩
  obtain ⟨a, a1, a2, a3⟩ := fb_ct_kth hc
  obtain ⟨b1, b2⟩ := hg.1.2.2.2 a a1 a2
  rw [a3] at b1 b2
  have e : nuD g c = a := by unfold nuD; rw [b1]; exact nv_nI (by omega)
  refine ⟨⟨by rw [e]; exact b1, by rw [e]; omega⟩, by rw [b2]; exact (hF b hb a a1).1, hg.2 c hc⟩
abbrev jT (j : Nat) : Prop := j < 76 ∨ 88 < j
abbrev stY (d : mS) (A b z E : Nat) (r : Int32) (g : mS) : Prop := (∀ j, jT j → g.1 j = d.1 j) ∧ g.1 86 0 = nI (A / 80) ∧ g.1 87 0 = nI (A % 80) ∧ g.1 88 0 = d.1 50 0 ∧ r = g.1 85 0 ∧ dS g ((setL (cdP d b A (d.1 8 0)) (amL d b) (nL d b) (E : Int) (d.1 0 A).toInt z).map pkS)
def stD (d : mS) (b i z e r : Int32) (g : mS) : Prop := if okSt d b i z e then (if d.1 5 (80 * nv b + nv i) < 0 then stY d (80 * nv b + nv i) (1 - nv b) (nv z) (nv e) r g else r = -2 ∧ g = d) else r = -1 ∧ g = d
theorem stD_1 {d : mS} {b i z e : Int32} (h : ¬ okSt d b i z e) : stD d b i z e (-1) d := by unfold stD; rw [if_neg h]; exact ⟨rfl, rfl⟩
theorem stD_2 {d : mS} {b i z e : Int32} (h : okSt d b i z e) (h2 : ¬ d.1 5 (80 * nv b + nv i) < 0) : stD d b i z e (-2) d := by unfold stD; rw [if_pos h, if_neg h2]; exact ⟨rfl, rfl⟩
theorem stD_3 {d g : mS} {b i z e r : Int32} (h : okSt d b i z e) (h2 : d.1 5 (80 * nv b + nv i) < 0) (h3 : stY d (80 * nv b + nv i) (1 - nv b) (nv z) (nv e) r g) : stD d b i z e r g := by unfold stD; rw [if_pos h, if_pos h2]; exact h3
theorem nv_w {v : Int32} {a n : Nat} (hn : n < 2147483648) (h : nI a ≤ v ∧ v ≤ nI n) : v = nI (nv v) ∧ nv v ≤ n ∧ a ≤ nv v ∨ n < a := by
  by_cases q : a ≤ n
  · left
    have h0 : ¬ v < 0 := fun z => by
      have z1 := t_lt.mp z
      have z2 := t_le.mp h.1
      rw [nI_T a (by omega)] at z2
      have e0 : ((0 : Int32)).toInt = 0 := by decide
      omega
    have e := nv_of h0
    have h1 := h.1
    have h2 := h.2
    rw [e] at h1 h2
    exact ⟨e, (nI_leI (nv_lt v) (by omega)).mp h2, (nI_leI (by omega) (nv_lt v)).mp h1⟩
  · right; omega
theorem st_end {d g f : mS} {b i z e : Int32} {v : Int32} (hg : gsR d (80 * nv b + nv i) (1 - nv b) (d.1 8 0) g) (hN : nL d (1 - nv b) ≤ 80) (hf : fiR g f) (hS : dS f (stLs g (fb_ct (cdP d (1 - nv b) (80 * nv b + nv i) (d.1 8 0)) (nL d (1 - nv b))) (nv e) (d.1 0 (80 * nv b + nv i)).toInt (nv z))) (hv : v = d.1 50 0) : stY d (80 * nv b + nv i) (1 - nv b) (nv z) (nv e) (f.1 85 0) (mset f 88 0 v) := by
  have k : ∀ j, jT j → (mset f 88 0 v).1 j = d.1 j := fun j hj => by
    rw [mset_ne (by omega), hf j (by omega) (by omega) (by omega) (by omega)]
    exact hg.1.1 j (by omega)
  refine ⟨k, ?_, ?_, ?_, by rw [mset_ne (by decide)], ?_⟩
  · rw [mset_ne (by decide), hf 86 (by decide) (by decide) (by decide) (by decide)]; exact hg.1.2.1.2.1
  · rw [mset_ne (by decide), hf 87 (by decide) (by decide) (by decide) (by decide)]; exact hg.1.2.1.2.2
  · rw [mset_at]; exact hv
  · rw [stLs_eq hg hN] at hS
    unfold dS
    rw [mset_ne (by decide), mset_ne (by decide)]; exact hS

set_option maxHeartbeats 4000000 in
theorem kd_sets (G : vx_G) (d m : mS) (hL : iL d) (hN : dN d) (hF : iF d) (b i z e : Int32) : xK G M_X9_sets 7 [(.ref 0), (.int b), (.int i), (.int z), (.int e)] NT (hp (dk d) m) 0 0 (QI (fun r n' h' => n' = NT ∧ ∃ g, h' = hp (dk g) m ∧ stD d b i z e r g)) := by
  refine xK.ofV (by decide) (Nat.le_of_ble_eq_true rfl) ?_
  refine xV.lveq (L' := [some (.ref 0), some (.int b), some (.int i), some (.int z), some (.int e), none]) rfl ?_
  refine x_aload0 dX9_sets_0 ?_
  refine x_iload1 dX9_sets_1 ?_
  refine x_iload2 dX9_sets_2 ?_
  refine x_callV2a mvX9_101 (kd_lineAt G d m hL b i) (show (0 : Nat) < NT by decide) (hd_at (a := 0) (by decide) rfl) (xRoom.of rfl) (Nat.le_of_ble_eq_true rfl) dX9_sets_3 (fun r_ n_ h_ hq => ?_)
  rcases hq with ⟨⟨hl, rfl⟩ | ⟨hl, rfl⟩, rfl, rfl⟩
  · have hz := ln_in hL hl
    have ha : 80 * nv b + nv i < 160 := by omega
    refine x_astore5 dX9_sets_6 rfl rfl rfl ?_
    refine x_aload5 dX9_sets_8 ?_
    refine x_ifnull_r dX9_sets_10 ?_
    refine x_iload3 dX9_sets_13 ?_
    refine x_iconst (nI 1) dX9_sets_14 (by decide) ?_
    refine x_iconst (nI 4) dX9_sets_15 (by decide) ?_
    refine x_callS3i msX9_75 (kd_isWithin G d m z (nI 1) (nI 4)) (xRoom.of rfl) (Nat.le_of_ble_eq_true rfl) dX9_sets_16 (fun r_ n_ h_ hq => ?_)
    obtain ⟨rfl, rfl, rfl⟩ := hq
    refine b_if_eq 34 dX9_sets_19 (by decide) (fun c19 => ?_) (fun c19 => ?_)
    · refine x_iconst (-1) dX9_sets_34 (by decide) ?_
      refine x_iret dX9_sets_35 rfl ?_ (Nat.zero_le _) (Nat.zero_le _)
      first | exact ⟨rfl, _, rfl, stD_1 (fun q => hl q.1)⟩ | exact ⟨rfl, _, rfl, stD_1 (fun q => c19 q.2.1)⟩ | exact ⟨rfl, _, rfl, stD_1 (fun q => c31 q.2.2)⟩
    · refine x_iload4 dX9_sets_22 ?_
      refine x_iconst (nI 0) dX9_sets_24 (by decide) ?_
      refine x_sipush (nI 10000) dX9_sets_25 (by decide) ?_
      refine x_callS3i msX9_75 (kd_isWithin G d m e (nI 0) (nI 10000)) (xRoom.of rfl) (Nat.le_of_ble_eq_true rfl) dX9_sets_28 (fun r_ n_ h_ hq => ?_)
      obtain ⟨rfl, rfl, rfl⟩ := hq
      refine b_if_ne 36 dX9_sets_31 (by decide) (fun c31 => ?_) (fun c31 => ?_)
      · have hk : okSt d b i z e := ⟨hl, c19, c31⟩
        obtain ⟨ez, lz, l1⟩ := (nv_w (by decide) c19).resolve_right (by decide)
        obtain ⟨ee, le, _⟩ := (nv_w (by decide) c31).resolve_right (by decide)
        have hN2 := (hL (1 - nv b) (by omega)).2
        refine x_aload5 dX9_sets_36 ?_
        refine x_callV0i mvX9_124 (k_isBreak G d m (80 * nv b + nv i) ha (hN (nv b) hz.1.2 (nv i) hz.2.2.1)) (lt_L (by omega)) (hd_L (by omega)) (xRoom.of rfl) (Nat.le_of_ble_eq_true rfl) dX9_sets_38 (fun r_ n_ h_ hq => ?_)
        obtain ⟨rfl, rfl, rfl⟩ := hq
        refine b_if_ne 47 dX9_sets_41 (by decide) (fun c41 => ?_) (fun c41 => ?_)
        · refine x_aload0 dX9_sets_47 ?_
          refine go0_4 fgX9_41 dX9_sets_48 ?_
          refine x_aload5 dX9_sets_51 ?_
          refine x_aload0 dX9_sets_53 ?_
          refine go0_0 fgX9_12 dX9_sets_54 ?_
          refine x_iconst (nI 1) dX9_sets_57 (by decide) ?_
          refine x_iload1 dX9_sets_58 ?_
          refine x_isub dX9_sets_59 ?_
          refine xV.toi (nI (1 - nv b)) ((by rw [hz.1.1, nv_nI (nv_lt b)]; exact pk_sub (by omega))) ?_
          refine lBK (1 - nv b) rfl (by omega) dX9_sets_60 ?_
          refine x_aload0 dX9_sets_61 ?_
          refine go0_8 fgX9_59 dX9_sets_62 ?_
          refine x_callV3v mvX9_193 (kd_gatherS G d m hL hN hF (80 * nv b + nv i) (1 - nv b) ha (hF (nv b) hz.1.2 (nv i) hz.2.2.1) (by omega) (d.1 8 0)) (show (202 : Nat) < NT by decide) (hd_at (a := 202) (by decide) rfl) (xRoom.of rfl) (Nat.le_of_ble_eq_true rfl) dX9_sets_65 (fun n_ h_ hq => ?_)
          obtain ⟨rfl, g, rfl, hg⟩ := hq
          have fx := gs_fx hg hN2 hF (by omega)
          have g82 : g.1 82 0 = d.1 0 (80 * nv b + nv i) := hg.1.2.1.1
          refine x_aload0 dX9_sets_68 ?_
          refine go0_4 fgX9_41 dX9_sets_69 ?_
          refine x_iload3 dX9_sets_72 ?_
          refine x_iload4 dX9_sets_73 ?_
          rw [show Value.int z = Value.int (nI (nv z)) by rw [← ez], show Value.int e = Value.int (nI (nv e)) by rw [← ee]]
          refine x_callV2v mvX9_196 (kd_findS G g m _ (nv e) (nv z) fx le (by omega) (by rw [g82]; exact (hF (nv b) hz.1.2 (nv i) hz.2.2.1).1)) (show (202 : Nat) < NT by decide) (hd_at (a := 202) (by decide) rfl) (xRoom.of rfl) (Nat.le_of_ble_eq_true rfl) dX9_sets_75 (fun n_ h_ hq => ?_)
          obtain ⟨rfl, f, rfl, hf, hS⟩ := hq
          rw [g82] at hS
          refine x_aload0 dX9_sets_78 ?_
          refine go0_4 fgX9_41 dX9_sets_79 ?_
          refine x_aload0 dX9_sets_82 ?_
          refine go0_10 fgX9_65 dX9_sets_83 ?_
          refine po202_12 fpX9_199 dX9_sets_86 ?_
          refine x_aload0 dX9_sets_89 ?_
          refine go0_4 fgX9_41 dX9_sets_90 ?_
          refine go202_9 fgX9_200 dX9_sets_93 ?_
          refine xV.toi (f.1 85 0) ((by rw [mset_ne (by decide)])) ?_
          refine x_iret dX9_sets_96 rfl ?_ (Nat.zero_le _) (Nat.zero_le _)
          exact ⟨rfl, _, rfl, stD_3 hk c41 (st_end hg hN2 hf hS (by rw [hf 50 (by decide) (by decide) (by decide) (by decide)]; exact congrFun (hg.1.1 50 (by omega)) 0))⟩
        · refine x_bipush (-2) dX9_sets_44 (by decide) ?_
          refine x_iret dX9_sets_46 rfl ?_ (Nat.zero_le _) (Nat.zero_le _)
          exact ⟨rfl, _, rfl, stD_2 hk c41⟩
      · refine x_iconst (-1) dX9_sets_34 (by decide) ?_
        refine x_iret dX9_sets_35 rfl ?_ (Nat.zero_le _) (Nat.zero_le _)
        first | exact ⟨rfl, _, rfl, stD_1 (fun q => hl q.1)⟩ | exact ⟨rfl, _, rfl, stD_1 (fun q => c19 q.2.1)⟩ | exact ⟨rfl, _, rfl, stD_1 (fun q => c31 q.2.2)⟩
  · skip
    refine x_astoreN5 dX9_sets_6 rfl rfl rfl ?_
    refine x_aloadN5 dX9_sets_8 ?_
    refine x_ifnull_n 34 dX9_sets_10 (by decide) ?_
    refine x_iconst (-1) dX9_sets_34 (by decide) ?_
    refine x_iret dX9_sets_35 rfl ?_ (Nat.zero_le _) (Nat.zero_le _)
    first | exact ⟨rfl, _, rfl, stD_1 (fun q => hl q.1)⟩ | exact ⟨rfl, _, rfl, stD_1 (fun q => c19 q.2.1)⟩ | exact ⟨rfl, _, rfl, stD_1 (fun q => c31 q.2.2)⟩

theorem gd_mem {α : Type} {l : List α} {d0 : α} {j : Nat} (h : j < l.length) : l.getD j d0 ∈ l := by
  simp [List.getD, List.getElem?_eq_getElem h]
/-- the desk holds these sets -/
abbrev hsD (d : mS) (L : List (List Nat)) : Prop := dS d (L.map pkS) ∧ okL 80 L
theorem hs_in {d : mS} {L : List (List Nat)} {k : Int32} (h : hsD d L) (hk : isSd d k) : k = nI (nv k) ∧ nv k < L.length ∧ L.length ≤ 5000 := by
  have e1 := h.1.1
  have e2 := h.1.2.1
  rw [List.length_map] at e1 e2
  have e := nv_of (iNL.mpr (nI_0 ▸ hk.1))
  have h2 := hk.2
  rw [e1, e] at h2
  exact ⟨e, (nI_ltI (nv_lt k) (by omega)).mp h2, e2⟩
theorem hs_at {d : mS} {L : List (List Nat)} {k : Nat} (h : hsD d L) (hk : k < L.length) : d.1 76 k = nI (pkS (L.getD k [])) ∧ ((1 ≤ (L.getD k []).length ∧ (L.getD k []).length ≤ 4) ∧ ∀ x, x ∈ L.getD k [] → x < 80) := by
  have e := h.1.2.2 k (by rw [List.length_map]; exact hk)
  have em : (L.map pkS).getD k 0 = pkS (L.getD k []) := by
    simp [List.getD, List.getElem?_map, List.getElem?_eq_getElem hk]
  have mm : L.getD k [] ∈ L := by
    simp [List.getD, List.getElem?_eq_getElem hk]
  rw [em] at e
  exact ⟨e, h.2 _ mm⟩
theorem hs_size {d : mS} {L : List (List Nat)} {k : Nat} (h : hsD d L) (hk : k < L.length) : d.1 76 k >>> (nI 28 &&& 31) = nI (L.getD k []).length := by
  obtain ⟨a1, a2, a3⟩ := hs_at h hk
  obtain ⟨p1, p2⟩ := pkS_size (fun x hx => by have := a3 x hx; omega) a2.2
  rw [a1, sh_r p2 (by decide)]
  congr 1
theorem hs_line {d : mS} {L : List (List Nat)} {k j : Nat} (h : hsD d L) (hk : k < L.length) (hj : j < (L.getD k []).length) : (d.1 76 k >>> (nI (7 * ((L.getD k []).length - 1 - j)) &&& 31)) &&& nI 127 = nI ((L.getD k []).getD j 0) ∧ (L.getD k []).getD j 0 < 80 := by
  obtain ⟨a1, a2, a3⟩ := hs_at h hk
  obtain ⟨p1, p2⟩ := pkS_size (fun x hx => by have := a3 x hx; omega) a2.2
  have p3 := pkS_at (fun x hx => by have := a3 x hx; omega) a2.2 hj
  refine ⟨?_, ?_⟩
  · rw [a1, sh_r p2 (by omega), pk_andN (n := pkS (L.getD k []) / 2 ^ (7 * ((L.getD k []).length - 1 - j))) (by
      have := Nat.div_le_self (pkS (L.getD k [])) (2 ^ (7 * ((L.getD k []).length - 1 - j)))
      omega) 7 (by decide)]
    congr 1
  · exact a3 _ (gd_mem hj)

set_option maxHeartbeats 4000000 in
theorem kd_size (G : vx_G) (d m : mS) (L : List (List Nat)) (hS : hsD d L) (k : Int32) : xK G M_X9_size 1 [(.ref 0), (.int k)] NT (hp (dk d) m) 0 0 (QI (fun r n' h' => r = (if isSd d k then nI (L.getD (nv k) []).length else -1) ∧ n' = NT ∧ h' = hp (dk d) m)) := by
  refine xK.ofV (by decide) (Nat.le_of_ble_eq_true rfl) ?_
  refine xV.lveq (L' := [some (.ref 0), some (.int k)]) rfl ?_
  refine x_aload0 dX9_size_0 ?_
  refine go0_4 fgX9_41 dX9_size_1 ?_
  refine x_iload1 dX9_size_4 ?_
  refine x_callV1i mvX9_203 (kd_isThereS G d m k) (show (202 : Nat) < NT by decide) (hd_at (a := 202) (by decide) rfl) (xRoom.of rfl) (Nat.le_of_ble_eq_true rfl) dX9_size_5 (fun r_ n_ h_ hq => ?_)
  obtain ⟨rfl, rfl, rfl⟩ := hq
  refine b_if_eq 22 dX9_size_8 (by decide) (fun c8 => ?_) (fun c8 => ?_)
  · refine x_iconst (-1) dX9_size_22 (by decide) ?_
    refine x_iret dX9_size_23 rfl ?_ (Nat.zero_le _) (Nat.zero_le _)
    first | exact ⟨(hs_size hS lk).trans (if_pos c8).symm, rfl, rfl⟩ | exact ⟨(if_neg c8).symm, rfl, rfl⟩
  · obtain ⟨ek, lk, l5⟩ := hs_in hS c8
    refine x_aload0 dX9_size_11 ?_
    refine go0_4 fgX9_41 dX9_size_12 ?_
    refine x_iload1 dX9_size_15 ?_
    rw [show Value.int k = Value.int (nI (nv k)) by rw [← ek]]
    refine x_callV1i mvX9_206 (kd_sizeOf G d m (nv k) (by omega)) (show (202 : Nat) < NT by decide) (hd_at (a := 202) (by decide) rfl) (xRoom.of rfl) (Nat.le_of_ble_eq_true rfl) dX9_size_16 (fun r_ n_ h_ hq => ?_)
    obtain ⟨rfl, rfl, rfl⟩ := hq
    refine x_goto 23 dX9_size_19 (by decide) ?_
    refine x_iret dX9_size_23 rfl ?_ (Nat.zero_le _) (Nat.zero_le _)
    first | exact ⟨(hs_size hS lk).trans (if_pos c8).symm, rfl, rfl⟩ | exact ⟨(if_neg c8).symm, rfl, rfl⟩

abbrev inD (d : mS) (L : List (List Nat)) (k j : Int32) : Prop := isSd d k ∧ nI 0 ≤ j ∧ j < nI (L.getD (nv k) []).length

set_option maxHeartbeats 4000000 in
theorem kd_in (G : vx_G) (d m : mS) (L : List (List Nat)) (hS : hsD d L) (k j : Int32) : xK G M_X9_in 2 [(.ref 0), (.int k), (.int j)] NT (hp (dk d) m) 0 0 (QI (fun r n' h' => r = (if inD d L k j then nI ((L.getD (nv k) []).getD (nv j) 0) else -1) ∧ n' = NT ∧ h' = hp (dk d) m)) := by
  refine xK.ofV (by decide) (Nat.le_of_ble_eq_true rfl) ?_
  refine xV.lveq (L' := [some (.ref 0), some (.int k), some (.int j)]) rfl ?_
  refine x_aload0 dX9_in_0 ?_
  refine go0_4 fgX9_41 dX9_in_1 ?_
  refine x_iload1 dX9_in_4 ?_
  refine x_callV1i mvX9_203 (kd_isThereS G d m k) (show (202 : Nat) < NT by decide) (hd_at (a := 202) (by decide) rfl) (xRoom.of rfl) (Nat.le_of_ble_eq_true rfl) dX9_in_5 (fun r_ n_ h_ hq => ?_)
  obtain ⟨rfl, rfl, rfl⟩ := hq
  refine b_if_eq 41 dX9_in_8 (by decide) (fun c8 => ?_) (fun c8 => ?_)
  · refine x_iconst (-1) dX9_in_41 (by decide) ?_
    refine x_iret dX9_in_42 rfl ?_ (Nat.zero_le _) (Nat.zero_le _)
    first | exact ⟨(hs_line hS lk lj).1.trans (if_pos (show inD d L k j from ⟨c8, hj⟩)).symm, rfl, rfl⟩ | exact ⟨(if_neg (fun q : inD d L k j => c8 q.1)).symm, rfl, rfl⟩ | exact ⟨(if_neg (fun q : inD d L k j => c26 ((wi1 (n := (L.getD (nv k) []).length) (by omega)).mpr q.2))).symm, rfl, rfl⟩
  · obtain ⟨ek, lk, l5⟩ := hs_in hS c8
    have h4 := (hs_at hS lk).2.1
    rw [show Value.int k = Value.int (nI (nv k)) by rw [← ek]]
    refine x_iload2 dX9_in_11 ?_
    refine x_iconst (nI 0) dX9_in_12 (by decide) ?_
    refine x_aload0 dX9_in_13 ?_
    refine go0_4 fgX9_41 dX9_in_14 ?_
    refine x_iload1 dX9_in_17 ?_
    refine x_callV1i mvX9_206 (kd_sizeOf G d m (nv k) (by omega)) (show (202 : Nat) < NT by decide) (hd_at (a := 202) (by decide) rfl) (xRoom.of rfl) (Nat.le_of_ble_eq_true rfl) dX9_in_18 (fun r_ n_ h_ hq => ?_)
    obtain ⟨rfl, rfl, rfl⟩ := hq
    refine xV.toi (nI (L.getD (nv k) []).length) (hs_size hS lk) ?_
    refine x_iconst (nI 1) dX9_in_21 (by decide) ?_
    refine x_isub dX9_in_22 ?_
    refine xV.toi (nI (L.getD (nv k) []).length - nI 1) (rfl) ?_
    refine x_callS3i msX9_75 (kd_isWithin G d m j (nI 0) (nI (L.getD (nv k) []).length - nI 1)) (xRoom.of rfl) (Nat.le_of_ble_eq_true rfl) dX9_in_23 (fun r_ n_ h_ hq => ?_)
    obtain ⟨rfl, rfl, rfl⟩ := hq
    refine b_if_eq 41 dX9_in_26 (by decide) (fun c26 => ?_) (fun c26 => ?_)
    · refine x_iconst (-1) dX9_in_41 (by decide) ?_
      refine x_iret dX9_in_42 rfl ?_ (Nat.zero_le _) (Nat.zero_le _)
      first | exact ⟨(hs_line hS lk lj).1.trans (if_pos (show inD d L k j from ⟨c8, hj⟩)).symm, rfl, rfl⟩ | exact ⟨(if_neg (fun q : inD d L k j => c8 q.1)).symm, rfl, rfl⟩ | exact ⟨(if_neg (fun q : inD d L k j => c26 ((wi1 (n := (L.getD (nv k) []).length) (by omega)).mpr q.2))).symm, rfl, rfl⟩
    · have hj := (wi1 (n := (L.getD (nv k) []).length) (by omega)).mp c26
      have ej := nv_of (iNL.mpr (nI_0 ▸ hj.1))
      have lj : nv j < (L.getD (nv k) []).length := by
        have q := hj.2
        rw [ej] at q
        exact (nI_ltI (nv_lt j) (by omega)).mp q
      refine x_aload0 dX9_in_29 ?_
      refine go0_4 fgX9_41 dX9_in_30 ?_
      refine x_iload1 dX9_in_33 ?_
      refine x_iload2 dX9_in_34 ?_
      rw [show Value.int j = Value.int (nI (nv j)) by rw [← ej]]
      refine x_callV2i mvX9_209 (kd_lineIn G d m (nv k) (L.getD (nv k) []).length (nv j) (by omega) (hs_size hS lk) lj) (show (202 : Nat) < NT by decide) (hd_at (a := 202) (by decide) rfl) (xRoom.of rfl) (Nat.le_of_ble_eq_true rfl) dX9_in_35 (fun r_ n_ h_ hq => ?_)
      obtain ⟨rfl, rfl, rfl⟩ := hq
      refine x_goto 42 dX9_in_38 (by decide) ?_
      refine x_iret dX9_in_42 rfl ?_ (Nat.zero_le _) (Nat.zero_le _)
      first | exact ⟨(hs_line hS lk lj).1.trans (if_pos (show inD d L k j from ⟨c8, hj⟩)).symm, rfl, rfl⟩ | exact ⟨(if_neg (fun q : inD d L k j => c8 q.1)).symm, rfl, rfl⟩ | exact ⟨(if_neg (fun q : inD d L k j => c26 ((wi1 (n := (L.getD (nv k) []).length) (by omega)).mpr q.2))).symm, rfl, rfl⟩
