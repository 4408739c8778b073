/-! ===== the desk's methods, 12: settle, favourFirst ===== -/
theorem fvG_k {d e : mS} {n : Nat} {β : Int} (h : fvG d n β) (h65 : e.1 65 0 = d.1 65 0) (h66 : ∀ i, i < n → e.1 66 i = d.1 66 i) (h67 : ∀ i, i < n → e.1 67 i = d.1 67 i) (h68 : ∀ i, i < n → e.1 68 i = d.1 68 i) (hw : ∀ i, i < n → ∀ j, j < n → e.1 (200 + i) j = d.1 (200 + i) j) : fvG e n β := by
  obtain ⟨T1, M1, P1⟩ := h
  have n14 := T1.n14
  have hr : ∀ c, c < n → ro e c = ro d c := fun c hc => by show nv _ = nv _; rw [h68 c hc]
  have ku : ∀ i, i < n → uu e i = uu d i := fun i hi => by show (e.1 66 i).toInt = _; rw [h66 i hi]
  have kv : ∀ i, i < n → vv e i = vv d i := fun i hi => by show (e.1 67 i).toInt = _; rw [h67 i hi]
  have kw : ∀ i j, i < n → j < n → ww e i j = ww d i j := fun i j hi hj => by show (e.1 (200 + i) j).toInt = _; rw [hw i hi j hj]
  refine ⟨⟨by rw [h65]; exact T1.s, n14, ?_⟩, ⟨?_, ?_, ?_⟩, ⟨?_, ?_, ?_, ?_⟩⟩
  · intro i j h1 h2
    rw [kw i j h1 h2]; exact T1.w i j h1 h2
  · intro c hc
    rw [h68 c hc, hr c hc]; exact M1.a c hc
  · intro c c' hc hc'
    rw [h68 c hc, h68 c' hc']; exact M1.i c c' hc hc'
  · intro r h1 h2
    obtain ⟨c, c1, c2⟩ := M1.p r h1 h2
    exact ⟨c, c1, by rw [h68 c c1]; exact c2⟩
  · intro i h1 h2 j h3
    rw [kw i j h1 h3, ku i h1, kv j h3]; exact P1.f i h1 h2 j h3
  · intro c hc hm
    rw [h68 c hc] at hm
    have q := (M1.a c hc).resolve_left hm
    rw [hr c hc, kw _ c q.2.1 hc, ku _ q.2.1, kv c hc]
    exact P1.t c hc hm
  · intro c hc
    rw [kv c hc]; exact P1.v c hc
  · intro i h1 h2
    rw [ku i h1]; exact P1.u i h1 h2
theorem csN_fv {d e : mS} {n : Nat} {f : Nat → Nat → Int32} {n0 T r row c : Nat} {R : Nat → Prop} (h : fvI d n f n0 T r) (hN : csN d n row c R e) : fvI e n f n0 T r := by
  have B : fvB e n := fvG_k h.B (by rw [hN.k 65 (by decide) (by decide) (by decide) (by decide)]) (fun i _ => by rw [hN.k 66 (by decide) (by decide) (by decide) (by decide)]) (fun i _ => by rw [hN.k 67 (by decide) (by decide) (by decide) (by decide)]) hN.a (fun i _ j _ => by rw [hN.k (200 + i) (by omega) (by omega) (by omega) (by omega)])
  exact fvI_k h B (fun i => hN.k (200 + i) (by omega) (by omega) (by omega) (by omega)) (hN.k 75 (by decide) (by decide) (by decide) (by decide)) (fun j hj _ => hN.a j hj)
theorem no_set {d : mS} {n : Nat} {f : Nat → Nat → Int32} {n0 T r c : Nat} (h : fvI d n f n0 T r) (hr : r ≤ n0) (hc : c < T) (s : ¬ d.1 75 c = 0) : ¬ chC f n0 T r c := by
  intro q
  have a := h.R.a
  have n14 := h.B.T.n14
  obtain ⟨k, k1, k2⟩ := h.s c (by omega) s
  exact (gr_bit (by omega) (by omega) r).mp q.1 k k1 k2
theorem no_pos {d : mS} {n : Nat} {f : Nat → Nat → Int32} {n0 T r c : Nat} (h : fvI d n f n0 T r) (hr : r < n0) (hc : c < T) (s : d.1 (200 + r) c ≤ 0) : ¬ chC f n0 T r c := by
  intro q
  rw [h.R.e r c hr hc] at s
  exact absurd q.2.1 (iNL.mpr s)
theorem fvI_min {d : mS} {n : Nat} {f : Nat → Nat → Int32} {n0 T r : Nat} (p : r < n0) (h : fvI d n f n0 T (min r n0)) : fvI d n f n0 T r := by
  rw [show min r n0 = r by omega] at h; exact h
/-- what settling leaves as it was -/
def sfK (d e : mS) : Prop := ∀ j, j ≠ 68 → j ≠ 72 → j ≠ 73 → j ≠ 74 → j ≠ 75 → e.1 j = d.1 j
theorem sfK_N {d e g : mS} {n row c : Nat} {R : Nat → Prop} (h : sfK d e) (hN : csN e n row c R g) : sfK d g := fun j a1 a2 a3 a4 a5 => (hN.k j a1 a2 a3 a4).trans (h j a1 a2 a3 a4 a5)
theorem sfK_Y {d e g : mS} {n row c : Nat} {v : Int32} (h : sfK d e) (hY : csY e n row c g) : sfK d (mset g 75 c v) := fun j a1 a2 a3 a4 a5 => ((mset_ne a5).trans (hY.k j a1 a2 a3 a4)).trans (h j a1 a2 a3 a4 a5)
theorem al_if {P : Prop} {Q : Nat → Prop} {T c : Nat} (h : P → ∀ j, j < c → j < T → ¬ Q j) (hc : P → c < T → ¬ Q c) : P → ∀ j, j < c + 1 → j < T → ¬ Q j := fun p j hj ht => if q : j < c then h p j q ht else by
  have e : j = c := by omega
  subst e
  exact hc p ht
theorem pos_in {d : mS} {n : Nat} {f : Nat → Nat → Int32} {n0 T r c k : Nat} (h : fvI d n f n0 T k) (hr : r < n) (hc : c < n) (q : ¬ d.1 (200 + r) c ≤ 0) : r < n0 ∧ c < T ∧ 0 < f r c := by
  have e0 : ((0 : Int32)).toInt = 0 := by decide
  have p : 0 < (d.1 (200 + r) c).toInt := by
    have := t_lt.mp (iNE.mp q)
    omega
  have hr0 : r < n0 := by
    rcases Nat.lt_or_ge r n0 with y | y
    · exact y
    · have : (d.1 (200 + r) c).toInt = 0 := h.R.z r c hr hc (Or.inl y)
      omega
  have hc0 : c < T := by
    rcases Nat.lt_or_ge c T with y | y
    · exact y
    · have : (d.1 (200 + r) c).toInt = 0 := h.R.z r c hr hc (Or.inr y)
      omega
  exact ⟨hr0, hc0, by rw [← h.R.e r c hr0 hc0]; exact iNE.mp q⟩

set_option maxHeartbeats 4000000 in
theorem kd_settle (G : vx_G) (d m : mS) (n : Nat) (f : Nat → Nat → Int32) (n0 T : Nat) (r : Nat) (hr : r < n) (h : fvI d n f n0 T (min r n0)) : xK G M_X6_settle 17 [(.ref 172), (.int (nI (r)))] NT (hp (dk d) m) 0 0 (QV (fun n' h' => n' = NT ∧ ∃ e, h' = hp (dk e) m ∧ fvI e n f n0 T (min (r + 1) n0) ∧ sfK d e)) := by
  have n14 := h.B.T.n14
  have ha := h.R.a
  have lp : ∀ (n_ : Nat) (c : Nat) (e : mS), c ≤ n → n + 1 ≤ c + n_ → (fvI e n f n0 T (min r n0)) → (sfK d e) → (r < n0 → ∀ j, j < c → j < T → ¬ chC f n0 T r j) → xV (mF G M_X6_settle 17 0 0 (QV (fun n' h' => n' = NT ∧ ∃ e, h' = hp (dk e) m ∧ fvI e n f n0 T (min (r + 1) n0) ∧ sfK d e))) 2 [some (.ref 172), some (.int (nI (r))), some (.int (nI (c)))] [] NT (hp (dk e) m) 0 0 := by
    intro n_
    induction n_ with
    | zero => intro c e hi_ hn_; omega
    | succ n_ ih =>
      intro c e hi_ hn_ hI hK hno
      refine x_iload2 dX6_settle_2 ?_
      refine x_aload0 dX6_settle_3 ?_
      refine go172_1 fgX6_16 dX6_settle_4 ?_
      refine xV.toi (nI (n)) (hI.B.T.s) ?_
      refine n_icmp_ge 62 dX6_settle_7 (by decide) (by omega) (by omega) (fun c7 => ?_) (fun c7 => ?_)
      · refine x_vret dX6_settle_62 rfl ?_ (Nat.zero_le _) (Nat.zero_le _)
        refine ⟨rfl, _, rfl, ?_, hK⟩
        by_cases p : r < n0
        · rw [show min (r + 1) n0 = r + 1 by omega]
          rw [show min r n0 = r by omega] at hI
          exact fvI_no hI (fun j hj => hno p j (by omega) hj)
        · rw [show min (r + 1) n0 = min r n0 by omega]; exact hI
      · refine x_aload0 dX6_settle_10 ?_
        refine go172_11 fgX6_49 dX6_settle_11 ?_
        refine x_iload2 dX6_settle_14 ?_
        refine la197 (c) rfl (by omega) dX6_settle_15 ?_
        refine x_if_ne 56 dX6_settle_16 (by decide) (fun c16 => ?_) (fun c16 => ?_)
        · refine x_iinc2 (nI (c + 1)) dX6_settle_56 (nI_add c 1) rfl rfl rfl ?_
          refine x_goto 2 dX6_settle_59 (by decide) ?_
          first | exact ih (c + 1) e2 (by omega) (by omega) (csN_fv hI hN) (sfK_N hK hN) (al_if hno (fun _ _ => no_sit hI2 hr0 hcT c16 c36 hN)) | exact ih (c + 1) e (by omega) (by omega) hI hK (al_if hno (fun p ht => no_tight hI2 p ht c16 c36)) | exact ih (c + 1) e (by omega) (by omega) hI hK (al_if hno (fun p ht => no_pos (fvI_min p hI) p ht c27)) | exact ih (c + 1) e (by omega) (by omega) hI hK (al_if hno (fun p ht => no_set (fvI_min p hI) (Nat.le_of_lt p) ht c16))
        · refine x_aload0 dX6_settle_19 ?_
          refine go172_0 fgX6_11 dX6_settle_20 ?_
          refine x_iload1 dX6_settle_23 ?_
          refine lWO (r) rfl (by omega) dX6_settle_24 ?_
          refine x_iload2 dX6_settle_25 ?_
          refine lW (by omega) (c) rfl (by omega) dX6_settle_26 ?_
          refine x_if_le 56 dX6_settle_27 (by decide) (fun c27 => ?_) (fun c27 => ?_)
          · refine x_iinc2 (nI (c + 1)) dX6_settle_56 (nI_add c 1) rfl rfl rfl ?_
            refine x_goto 2 dX6_settle_59 (by decide) ?_
            first | exact ih (c + 1) e2 (by omega) (by omega) (csN_fv hI hN) (sfK_N hK hN) (al_if hno (fun _ _ => no_sit hI2 hr0 hcT c16 c36 hN)) | exact ih (c + 1) e (by omega) (by omega) hI hK (al_if hno (fun p ht => no_tight hI2 p ht c16 c36)) | exact ih (c + 1) e (by omega) (by omega) hI hK (al_if hno (fun p ht => no_pos (fvI_min p hI) p ht c27)) | exact ih (c + 1) e (by omega) (by omega) hI hK (al_if hno (fun p ht => no_set (fvI_min p hI) (Nat.le_of_lt p) ht c16))
          · obtain ⟨hr0, hcT, hpos⟩ := pos_in hI hr (by omega) c27
            have em : min r n0 = r := by omega
            have hI2 : fvI e n f n0 T r := by rw [em] at hI; exact hI
            refine x_aload0 dX6_settle_30 ?_
            refine x_iload1 dX6_settle_31 ?_
            refine x_iload2 dX6_settle_32 ?_
            refine x_callV2i mvX6_73 (kd_isTight G e m r c (by omega) (by omega)) (show (172 : Nat) < NT by decide) (hd_at (a := 172) (by decide) rfl) (xRoom.of rfl) (Nat.le_of_ble_eq_true rfl) dX6_settle_33 (fun r_ n_ h_ hq => ?_)
            obtain ⟨rfl, rfl, rfl⟩ := hq
            refine b_if_eq 56 dX6_settle_36 (by decide) (fun c36 => ?_) (fun c36 => ?_)
            · refine x_iinc2 (nI (c + 1)) dX6_settle_56 (nI_add c 1) rfl rfl rfl ?_
              refine x_goto 2 dX6_settle_59 (by decide) ?_
              first | exact ih (c + 1) e2 (by omega) (by omega) (csN_fv hI hN) (sfK_N hK hN) (al_if hno (fun _ _ => no_sit hI2 hr0 hcT c16 c36 hN)) | exact ih (c + 1) e (by omega) (by omega) hI hK (al_if hno (fun p ht => no_tight hI2 p ht c16 c36)) | exact ih (c + 1) e (by omega) (by omega) hI hK (al_if hno (fun p ht => no_pos (fvI_min p hI) p ht c27)) | exact ih (c + 1) e (by omega) (by omega) hI hK (al_if hno (fun p ht => no_set (fvI_min p hI) (Nat.le_of_lt p) ht c16))
            · refine x_aload0 dX6_settle_39 ?_
              refine x_iload1 dX6_settle_40 ?_
              refine x_iload2 dX6_settle_41 ?_
              refine x_callV2i mvX6_77 (kd_canSit G e m n r c hI.B hr (by omega) c36 c16 (fun c1 h1 h2 => by have q := free_row hI2 (by omega) (i := r) hr (Nat.le_refl _); have rx : ro e c1 = r := ro_nI h2 (by omega); rw [← rx, mat_sg n14 hI.B.M h1] at q; exact q)) (show (172 : Nat) < NT by decide) (hd_at (a := 172) (by decide) rfl) (xRoom.of rfl) (Nat.le_of_ble_eq_true rfl) dX6_settle_42 (fun r_ n_ h_ hq => ?_)
              obtain ⟨rfl, e2, rfl, hcs⟩ := hq
              refine x_if_eq 56 dX6_settle_45 (by decide) (fun c45 => ?_) (fun c45 => ?_)
              · have hN : ∃ R, csN e n r c R e2 := by
                  rcases hcs with q | q
                  · rw [q.1] at c45; exact absurd c45 (by decide)
                  · exact q.2
                obtain ⟨R, hN⟩ := hN
                refine x_iinc2 (nI (c + 1)) dX6_settle_56 (nI_add c 1) rfl rfl rfl ?_
                refine x_goto 2 dX6_settle_59 (by decide) ?_
                first | exact ih (c + 1) e2 (by omega) (by omega) (csN_fv hI hN) (sfK_N hK hN) (al_if hno (fun _ _ => no_sit hI2 hr0 hcT c16 c36 hN)) | exact ih (c + 1) e (by omega) (by omega) hI hK (al_if hno (fun p ht => no_tight hI2 p ht c16 c36)) | exact ih (c + 1) e (by omega) (by omega) hI hK (al_if hno (fun p ht => no_pos (fvI_min p hI) p ht c27)) | exact ih (c + 1) e (by omega) (by omega) hI hK (al_if hno (fun p ht => no_set (fvI_min p hI) (Nat.le_of_lt p) ht c16))
              · have hY : csY e n r c e2 := by
                  rcases hcs with q | q
                  · exact q.2
                  · rw [q.1] at c45; exact absurd nI_0 c45
                refine x_aload0 dX6_settle_48 ?_
                refine go172_11 fgX6_49 dX6_settle_49 ?_
                refine x_iload2 dX6_settle_52 ?_
                refine x_iconst (nI 1) dX6_settle_53 (by decide) ?_
                refine sa197 (c) rfl (by omega) (by first | exact Or.inl nI_0 | exact Or.inr nI1 | exact bI_01 _) dX6_settle_54 ?_
                refine x_vret dX6_settle_55 rfl ?_ (Nat.zero_le _) (Nat.zero_le _)
                obtain ⟨w1, w2, w3⟩ := yes_sit hI2 hr0 hcT c16 hpos hY
                refine ⟨rfl, _, rfl, ?_, sfK_Y hK hY⟩
                rw [show min (r + 1) n0 = r + 1 by omega]
                exact fvI_yes w1 hr0 hcT w3 (fun j hj => hno hr0 j hj (by omega)) hY.c
  refine xK.ofV (by decide) (Nat.le_of_ble_eq_true rfl) ?_
  refine xV.lveq (L' := [some (.ref 172), some (.int (nI (r))), none]) rfl ?_
  refine x_iconst (nI 0) dX6_settle_0 (by decide) ?_
  refine x_istore2 dX6_settle_1 rfl rfl rfl ?_
  exact lp (n + 1) 0 d (Nat.zero_le _) (by omega) h (fun _ _ _ _ _ _ => rfl) (fun _ j hj => absurd hj (Nat.not_lt_zero j))

set_option maxHeartbeats 4000000 in
theorem kd_favourFirst (G : vx_G) (d m : mS) (n : Nat) (f : Nat → Nat → Int32) (n0 T : Nat) (h : fvI d n f n0 T 0) : xK G M_X6_favourFirst 18 [(.ref 172)] NT (hp (dk d) m) 0 0 (QV (fun n' h' => n' = NT ∧ ∃ e, h' = hp (dk e) m ∧ fvI e n f n0 T n0 ∧ sfK d e)) := by
  have n14 := h.B.T.n14
  have ha := h.R.a
  have lp : ∀ (n_ : Nat) (r : Nat) (e : mS), r ≤ n → n + 1 ≤ r + n_ → (fvI e n f n0 T (min r n0)) → (sfK d e) → xV (mF G M_X6_favourFirst 18 0 0 (QV (fun n' h' => n' = NT ∧ ∃ e, h' = hp (dk e) m ∧ fvI e n f n0 T n0 ∧ sfK d e))) 2 [some (.ref 172), some (.int (nI (r)))] [] NT (hp (dk e) m) 0 0 := by
    intro n_
    induction n_ with
    | zero => intro r e hi_ hn_; omega
    | succ n_ ih =>
      intro r e hi_ hn_ hI hK
      refine x_iload1 dX6_favourFirst_2 ?_
      refine x_aload0 dX6_favourFirst_3 ?_
      refine go172_1 fgX6_16 dX6_favourFirst_4 ?_
      refine xV.toi (nI (n)) (hI.B.T.s) ?_
      refine n_icmp_ge 21 dX6_favourFirst_7 (by decide) (by omega) (by omega) (fun c7 => ?_) (fun c7 => ?_)
      · refine x_vret dX6_favourFirst_21 rfl ?_ (Nat.zero_le _) (Nat.zero_le _)
        refine ⟨rfl, _, rfl, ?_, hK⟩
        rw [show min r n0 = n0 by omega] at hI
        exact hI
      · refine x_aload0 dX6_favourFirst_10 ?_
        refine x_iload1 dX6_favourFirst_11 ?_
        refine x_callV1v mvX6_70 (kd_settle G e m n f n0 T r (by omega) hI) (show (172 : Nat) < NT by decide) (hd_at (a := 172) (by decide) rfl) (xRoom.of rfl) (Nat.le_of_ble_eq_true rfl) dX6_favourFirst_12 (fun n_ h_ hq => ?_)
        obtain ⟨rfl, e2, rfl, h2, h3⟩ := hq
        refine x_iinc1 (nI (r + 1)) dX6_favourFirst_15 (nI_add r 1) rfl rfl rfl ?_
        refine x_goto 2 dX6_favourFirst_18 (by decide) ?_
        exact ih (r + 1) e2 (by omega) (by omega) h2 (fun j a1 a2 a3 a4 a5 => (h3 j a1 a2 a3 a4 a5).trans (hK j a1 a2 a3 a4 a5))
  refine xK.ofV (by decide) (Nat.le_of_ble_eq_true rfl) ?_
  refine xV.lveq (L' := [some (.ref 172), none]) rfl ?_
  refine x_iconst (nI 0) dX6_favourFirst_0 (by decide) ?_
  refine x_istore1 dX6_favourFirst_1 rfl rfl rfl ?_
  exact lp (n + 1) 0 d (Nat.zero_le _) (by omega) (by rw [Nat.zero_min]; exact h) (fun _ _ _ _ _ _ => rfl)
