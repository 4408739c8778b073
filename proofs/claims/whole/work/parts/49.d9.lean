/-! ===== the desk's methods, 9: Seats: kept, restored, moved ===== -/
def cpD (d : mS) (k0 k1 N : Nat) : mS := msetA d k1 (va_cpy (d.1 k0) (d.1 k1) (nI 0).toNatClampNeg (nI 0).toNatClampNeg (nI N).toNatClampNeg)
theorem cpD_ne {d : mS} {k0 k1 N j : Nat} (h : j ≠ k1) : (cpD d k0 k1 N).1 j = d.1 j := msetA_ne h
theorem cpD_at {d : mS} {k0 k1 N i : Nat} (hN : N < 2147483648) (h : i < N) : (cpD d k0 k1 N).1 k1 i = d.1 k0 i := by
  unfold cpD
  have e0 : (nI 0).toNatClampNeg = 0 := nv_nI (n := 0) (by decide)
  have eN : (nI N).toNatClampNeg = N := nv_nI hN
  rw [msetA_same, e0, eN]
  simp [va_cpy, h]
def keepD (d : mS) : mS := cpD (cpD (cpD d 66 69 14) 67 70 15) 68 71 15
def restD (d : mS) : mS := cpD (cpD (cpD d 69 66 14) 70 67 15) 71 68 15

set_option maxHeartbeats 4000000 in
theorem kd_keep (G : vx_G) (d m : mS)  : xK G M_X6_keep 1 [(.ref 172)] NT (hp (dk d) m) 0 0 (QV (fun n' h' => n' = NT ∧ h' = hp (dk (keepD d)) m)) := by
  refine xK.ofV (by decide) (Nat.le_of_ble_eq_true rfl) ?_
  refine xV.lveq (L' := [some (.ref 172)]) rfl ?_
  refine x_aload0 dX6_keep_0 ?_
  refine go172_2 fgX6_20 dX6_keep_1 ?_
  refine x_iconst (nI 0) dX6_keep_4 (by decide) ?_
  refine x_aload0 dX6_keep_5 ?_
  refine go172_5 fgX6_30 dX6_keep_6 ?_
  refine x_iconst (nI 0) dX6_keep_9 (by decide) ?_
  refine x_bipush (nI 14) dX6_keep_10 (by decide) ?_
  refine x_copy myX6_86 (a0 := 188) (a := 191) (by decide) (by decide) (hd_at (a := 188) (by decide) rfl) (hd_at (a := 191) (by decide) rfl) (by decide) (by decide) (by decide) (by decide) (by decide) (Nat.le_of_ble_eq_true rfl) (Nat.le_of_ble_eq_true rfl) dX6_keep_12 (xV.heap (d_putA 69 _ (fun _ => rfl) (by decide) rfl) ?_)
  refine x_aload0 dX6_keep_15 ?_
  refine go172_3 fgX6_24 dX6_keep_16 ?_
  refine x_iconst (nI 0) dX6_keep_19 (by decide) ?_
  refine x_aload0 dX6_keep_20 ?_
  refine go172_6 fgX6_33 dX6_keep_21 ?_
  refine x_iconst (nI 0) dX6_keep_24 (by decide) ?_
  refine x_bipush (nI 15) dX6_keep_25 (by decide) ?_
  refine x_copy myX6_86 (a0 := 189) (a := 192) (by decide) (by decide) (hd_at (a := 189) (by decide) rfl) (hd_at (a := 192) (by decide) rfl) (by decide) (by decide) (by decide) (by decide) (by decide) (Nat.le_of_ble_eq_true rfl) (Nat.le_of_ble_eq_true rfl) dX6_keep_27 (xV.heap (d_putA 70 _ (fun _ => rfl) (by decide) rfl) ?_)
  refine x_aload0 dX6_keep_30 ?_
  refine go172_4 fgX6_27 dX6_keep_31 ?_
  refine x_iconst (nI 0) dX6_keep_34 (by decide) ?_
  refine x_aload0 dX6_keep_35 ?_
  refine go172_7 fgX6_36 dX6_keep_36 ?_
  refine x_iconst (nI 0) dX6_keep_39 (by decide) ?_
  refine x_bipush (nI 15) dX6_keep_40 (by decide) ?_
  refine x_copy myX6_86 (a0 := 190) (a := 193) (by decide) (by decide) (hd_at (a := 190) (by decide) rfl) (hd_at (a := 193) (by decide) rfl) (by decide) (by decide) (by decide) (by decide) (by decide) (Nat.le_of_ble_eq_true rfl) (Nat.le_of_ble_eq_true rfl) dX6_keep_42 (xV.heap (d_putA 71 _ (fun _ => rfl) (by decide) rfl) ?_)
  refine x_vret dX6_keep_45 rfl ?_ (Nat.zero_le _) (Nat.zero_le _)
  exact ⟨rfl, rfl⟩

set_option maxHeartbeats 4000000 in
theorem kd_restore (G : vx_G) (d m : mS)  : xK G M_X6_restore 1 [(.ref 172)] NT (hp (dk d) m) 0 0 (QV (fun n' h' => n' = NT ∧ h' = hp (dk (restD d)) m)) := by
  refine xK.ofV (by decide) (Nat.le_of_ble_eq_true rfl) ?_
  refine xV.lveq (L' := [some (.ref 172)]) rfl ?_
  refine x_aload0 dX6_restore_0 ?_
  refine go172_5 fgX6_30 dX6_restore_1 ?_
  refine x_iconst (nI 0) dX6_restore_4 (by decide) ?_
  refine x_aload0 dX6_restore_5 ?_
  refine go172_2 fgX6_20 dX6_restore_6 ?_
  refine x_iconst (nI 0) dX6_restore_9 (by decide) ?_
  refine x_bipush (nI 14) dX6_restore_10 (by decide) ?_
  refine x_copy myX6_86 (a0 := 191) (a := 188) (by decide) (by decide) (hd_at (a := 191) (by decide) rfl) (hd_at (a := 188) (by decide) rfl) (by decide) (by decide) (by decide) (by decide) (by decide) (Nat.le_of_ble_eq_true rfl) (Nat.le_of_ble_eq_true rfl) dX6_restore_12 (xV.heap (d_putA 66 _ (fun _ => rfl) (by decide) rfl) ?_)
  refine x_aload0 dX6_restore_15 ?_
  refine go172_6 fgX6_33 dX6_restore_16 ?_
  refine x_iconst (nI 0) dX6_restore_19 (by decide) ?_
  refine x_aload0 dX6_restore_20 ?_
  refine go172_3 fgX6_24 dX6_restore_21 ?_
  refine x_iconst (nI 0) dX6_restore_24 (by decide) ?_
  refine x_bipush (nI 15) dX6_restore_25 (by decide) ?_
  refine x_copy myX6_86 (a0 := 192) (a := 189) (by decide) (by decide) (hd_at (a := 192) (by decide) rfl) (hd_at (a := 189) (by decide) rfl) (by decide) (by decide) (by decide) (by decide) (by decide) (Nat.le_of_ble_eq_true rfl) (Nat.le_of_ble_eq_true rfl) dX6_restore_27 (xV.heap (d_putA 67 _ (fun _ => rfl) (by decide) rfl) ?_)
  refine x_aload0 dX6_restore_30 ?_
  refine go172_7 fgX6_36 dX6_restore_31 ?_
  refine x_iconst (nI 0) dX6_restore_34 (by decide) ?_
  refine x_aload0 dX6_restore_35 ?_
  refine go172_4 fgX6_27 dX6_restore_36 ?_
  refine x_iconst (nI 0) dX6_restore_39 (by decide) ?_
  refine x_bipush (nI 15) dX6_restore_40 (by decide) ?_
  refine x_copy myX6_86 (a0 := 193) (a := 190) (by decide) (by decide) (hd_at (a := 193) (by decide) rfl) (hd_at (a := 190) (by decide) rfl) (by decide) (by decide) (by decide) (by decide) (by decide) (Nat.le_of_ble_eq_true rfl) (Nat.le_of_ble_eq_true rfl) dX6_restore_42 (xV.heap (d_putA 68 _ (fun _ => rfl) (by decide) rfl) ?_)
  refine x_vret dX6_restore_45 rfl ?_ (Nat.zero_le _) (Nat.zero_le _)
  exact ⟨rfl, rfl⟩

/-- the columns c, c + 1, .. (j of them) are tried for a row; sub moves a row on -/
def mvS (sub : mS → Nat → Bool × mS) (p n : Nat) : Nat → mS → Bool × mS
  | 0, d => (false, d)
  | j + 1, d => if d.1 74 (n - (j + 1)) = 0 ∧ d.1 75 (n - (j + 1)) = 0 ∧ tgt d p (n - (j + 1)) then (if d.1 68 (n - (j + 1)) = -1 then (true, mset (mset d 74 (n - (j + 1)) (nI 1)) 68 (n - (j + 1)) (nI p)) else if (sub (mset d 74 (n - (j + 1)) (nI 1)) (nv (d.1 68 (n - (j + 1))))).1 = true then (true, mset (sub (mset d 74 (n - (j + 1)) (nI 1)) (nv (d.1 68 (n - (j + 1))))).2 68 (n - (j + 1)) (nI p)) else mvS sub p n j (sub (mset d 74 (n - (j + 1)) (nI 1)) (nv (d.1 68 (n - (j + 1))))).2) else mvS sub p n j d
def mvF (n : Nat) : Nat → mS → Nat → Bool × mS
  | 0, d, _ => (false, d)
  | k + 1, d, p => mvS (mvF n k) p n n d
def mvP (n : Nat) (d d' : mS) : Prop := (∀ j, j ≠ 68 → j ≠ 74 → d'.1 j = d.1 j) ∧ vAt d' n
theorem mvS_ok {n : Nat} (hn : n ≤ 14) {sub : mS → Nat → Bool × mS} (hs : ∀ d p, p < n → vAt d n → mvP n d (sub d p).2) {p : Nat} (hp : p < n) : ∀ j d, j ≤ n → vAt d n → mvP n d (mvS sub p n j d).2
  | 0, d, _, hv => ⟨fun _ _ _ => rfl, hv⟩
  | j + 1, d, hj, hv => by
    have v1 : vAt (mset d 74 (n - (j + 1)) (nI 1)) n := fun c hc => by rw [mset_ne (by decide)]; exact hv c hc
    have put : ∀ (e : mS), vAt e n → vAt (mset e 68 (n - (j + 1)) (nI p)) n := fun e he c hc => by
      by_cases q : c = n - (j + 1)
      · subst q; rw [mset_at]; exact Or.inr (by rw [nv_nI (by omega)]; exact ⟨rfl, hp⟩)
      · rw [mset_off q]; exact he c hc
    show mvP n d (if d.1 74 (n - (j + 1)) = 0 ∧ d.1 75 (n - (j + 1)) = 0 ∧ tgt d p (n - (j + 1)) then (if d.1 68 (n - (j + 1)) = -1 then (true, mset (mset d 74 (n - (j + 1)) (nI 1)) 68 (n - (j + 1)) (nI p)) else if (sub (mset d 74 (n - (j + 1)) (nI 1)) (nv (d.1 68 (n - (j + 1))))).1 = true then (true, mset (sub (mset d 74 (n - (j + 1)) (nI 1)) (nv (d.1 68 (n - (j + 1))))).2 68 (n - (j + 1)) (nI p)) else mvS sub p n j (sub (mset d 74 (n - (j + 1)) (nI 1)) (nv (d.1 68 (n - (j + 1))))).2) else mvS sub p n j d).2
    split
    · split
      · exact ⟨fun i h1 h2 => by rw [mset_ne h1, mset_ne h2], put _ v1⟩
      · next h68 =>
        have hr := vAt_row hv (c := n - (j + 1)) (by omega) h68
        have h2 := hs (mset d 74 (n - (j + 1)) (nI 1)) _ hr.2 v1
        split
        · exact ⟨fun i a1 a2 => by rw [mset_ne a1, h2.1 i a1 a2, mset_ne a2], put _ h2.2⟩
        · have h3 := mvS_ok hn hs hp j _ (by omega) h2.2
          exact ⟨fun i a1 a2 => by rw [h3.1 i a1 a2, h2.1 i a1 a2, mset_ne a2], h3.2⟩
    · exact mvS_ok hn hs hp j d (by omega) hv
theorem mvF_ok {n : Nat} (hn : n ≤ 14) : ∀ k d p, p < n → vAt d n → mvP n d (mvF n k d p).2
  | 0, d, _, _, hv => ⟨fun _ _ _ => rfl, hv⟩
  | k + 1, d, p, hp, hv => mvS_ok hn (mvF_ok hn k) hp n d (Nat.le_refl _) hv
section MVS
variable {sub : mS → Nat → Bool × mS} {p n c : Nat} {d : mS}
theorem mvS_end (h : n ≤ c) : mvS sub p n (n - c) d = (false, d) := by rw [show n - c = 0 by omega]; rfl
theorem mvS_no (h : c < n) (q : ¬ (d.1 74 c = 0 ∧ d.1 75 c = 0 ∧ tgt d p c)) : mvS sub p n (n - c) d = mvS sub p n (n - (c + 1)) d := by
  rw [show n - c = n - (c + 1) + 1 by omega]
  have e : n - (n - (c + 1) + 1) = c := by omega
  show (if d.1 74 (n - (n - (c + 1) + 1)) = 0 ∧ _ then _ else _) = _
  rw [e, if_neg q]
theorem mvS_free (h : c < n) (q : d.1 74 c = 0 ∧ d.1 75 c = 0 ∧ tgt d p c) (f : d.1 68 c = -1) : mvS sub p n (n - c) d = (true, mset (mset d 74 c (nI 1)) 68 c (nI p)) := by
  rw [show n - c = n - (c + 1) + 1 by omega]
  have e : n - (n - (c + 1) + 1) = c := by omega
  show (if d.1 74 (n - (n - (c + 1) + 1)) = 0 ∧ _ then _ else _) = _
  rw [e, if_pos q, if_pos f]
theorem mvS_yes (h : c < n) (q : d.1 74 c = 0 ∧ d.1 75 c = 0 ∧ tgt d p c) (f : ¬ d.1 68 c = -1) (s : (sub (mset d 74 c (nI 1)) (nv (d.1 68 c))).1 = true) : mvS sub p n (n - c) d = (true, mset (sub (mset d 74 c (nI 1)) (nv (d.1 68 c))).2 68 c (nI p)) := by
  rw [show n - c = n - (c + 1) + 1 by omega]
  have e : n - (n - (c + 1) + 1) = c := by omega
  show (if d.1 74 (n - (n - (c + 1) + 1)) = 0 ∧ _ then _ else _) = _
  rw [e, if_pos q, if_neg f, if_pos s]
theorem mvS_back (h : c < n) (q : d.1 74 c = 0 ∧ d.1 75 c = 0 ∧ tgt d p c) (f : ¬ d.1 68 c = -1) (s : ¬ (sub (mset d 74 c (nI 1)) (nv (d.1 68 c))).1 = true) : mvS sub p n (n - c) d = mvS sub p n (n - (c + 1)) (sub (mset d 74 c (nI 1)) (nv (d.1 68 c))).2 := by
  rw [show n - c = n - (c + 1) + 1 by omega]
  have e : n - (n - (c + 1) + 1) = c := by omega
  show (if d.1 74 (n - (n - (c + 1) + 1)) = 0 ∧ _ then _ else _) = _
  rw [e, if_pos q, if_neg f, if_neg s]
end MVS

set_option maxHeartbeats 4000000 in
theorem kd_moves0 (G : vx_G) (d m : mS) (n p : Nat) : xK G M_X6_moves 1 [(.ref 172), (.int (nI (p))), (.int (nI (14)))] NT (hp (dk d) m) 0 0 (QI (fun r n' h' => r = bI ((mvF n 0 d p).1 = true) ∧ n' = NT ∧ h' = hp (dk (mvF n 0 d p).2) m)) := by
  refine xK.ofV (by decide) (Nat.le_of_ble_eq_true rfl) ?_
  refine xV.lveq (L' := [some (.ref 172), some (.int (nI (p))), some (.int (nI (14))), none]) rfl ?_
  refine x_iload2 dX6_moves_0 ?_
  refine x_bipush (nI 14) dX6_moves_1 (by decide) ?_
  refine n_icmp_lt 8 dX6_moves_3 (by decide) (by omega) (by omega) (fun c3 => absurd c3 (by omega)) (fun c3 => ?_)
  refine x_iconst (nI 0) dX6_moves_6 (by decide) ?_
  refine x_zret dX6_moves_7 rfl (by first | exact Or.inl nI_0 | exact Or.inr nI1 | exact bI_01 _) ?_ (Nat.zero_le _) (Nat.zero_le _)
  exact ⟨rfl, rfl, rfl⟩

set_option maxHeartbeats 4000000 in
theorem kd_movesS (G : vx_G) (d m : mS) (n k : Nat) (hn : n ≤ 14) (hk : k + 1 ≤ 14) (e65 : d.1 65 0 = nI n) (hv : vAt d n) (p : Nat) (hp_ : p < n) (ihk : ∀ (d2 : mS) (p2 : Nat), d2.1 65 0 = nI n → vAt d2 n → p2 < n → xK G M_X6_moves (k + 1) [.ref 172, .int (nI p2), .int (nI (14 - k))] NT (hp (dk d2) m) 0 0 (QI (fun r n' h' => r = bI ((mvF n k d2 p2).1 = true) ∧ n' = NT ∧ h' = hp (dk (mvF n k d2 p2).2) m))) : xK G M_X6_moves (k + 2) [(.ref 172), (.int (nI (p))), (.int (nI (14 - (k + 1))))] NT (hp (dk d) m) 0 0 (QI (fun r n' h' => r = bI ((mvF n (k + 1) d p).1 = true) ∧ n' = NT ∧ h' = hp (dk (mvF n (k + 1) d p).2) m)) := by
  have lp : ∀ (n_ : Nat) (c : Nat) (e : mS), c ≤ n → n + 1 ≤ c + n_ → (e.1 65 0 = nI n) → (vAt e n) → (mvS (mvF n k) p n n d = mvS (mvF n k) p n (n - c) e) → xV (mF G M_X6_moves (k + 2) 0 0 (QI (fun r n' h' => r = bI ((mvF n (k + 1) d p).1 = true) ∧ n' = NT ∧ h' = hp (dk (mvF n (k + 1) d p).2) m))) 10 [some (.ref 172), some (.int (nI (p))), some (.int (nI (14 - (k + 1)))), some (.int (nI (c)))] [] NT (hp (dk e) m) 0 0 := by
    intro n_
    induction n_ with
    | zero => intro c e hi_ hn_; omega
    | succ n_ ih =>
      intro c e hi_ hn_ h65 hv2 hc
      refine x_iload3 dX6_moves_10 ?_
      refine x_aload0 dX6_moves_11 ?_
      refine go172_1 fgX6_16 dX6_moves_12 ?_
      refine xV.toi (nI (n)) (h65) ?_
      refine n_icmp_ge 93 dX6_moves_15 (by decide) (by omega) (by omega) (fun c15 => ?_) (fun c15 => ?_)
      · refine x_iconst (nI 0) dX6_moves_93 (by decide) ?_
        refine x_zret dX6_moves_94 rfl (by first | exact Or.inl nI_0 | exact Or.inr nI1 | exact bI_01 _) ?_ (Nat.zero_le _) (Nat.zero_le _)
        have h9 : mvF n (k + 1) d p = (false, e) := hc.trans (mvS_end (by omega))
        exact ⟨nI_0.trans (bI_f (by rw [h9]; exact Bool.false_ne_true)).symm, rfl, by rw [h9]⟩
      · refine x_aload0 dX6_moves_18 ?_
        refine go172_10 fgX6_45 dX6_moves_19 ?_
        refine x_iload3 dX6_moves_22 ?_
        refine la196 (c) rfl (by omega) dX6_moves_23 ?_
        refine x_if_ne 87 dX6_moves_24 (by decide) (fun c24 => ?_) (fun c24 => ?_)
        · refine x_iinc3 (nI (c + 1)) dX6_moves_87 (nI_add c 1) rfl rfl rfl ?_
          refine x_goto 10 dX6_moves_90 (by decide) ?_
          first | exact ih (c + 1) _ (by omega) (by omega) h65 hv2 (hc.trans (mvS_no (by omega) (fun q => c24 q.1))) | exact ih (c + 1) _ (by omega) (by omega) h65 hv2 (hc.trans (mvS_no (by omega) (fun q => c33 q.2.1))) | exact ih (c + 1) _ (by omega) (by omega) h65 hv2 (hc.trans (mvS_no (by omega) (fun q => c42 q.2.2))) | exact ih (c + 1) _ (by omega) (by omega) (by rw [ok.1 65 (by decide) (by decide)]; exact w65) ok.2 (hc.trans (mvS_back (by omega) ⟨c24, c33, c42⟩ c59 c75))
        · refine x_aload0 dX6_moves_27 ?_
          refine go172_11 fgX6_49 dX6_moves_28 ?_
          refine x_iload3 dX6_moves_31 ?_
          refine la197 (c) rfl (by omega) dX6_moves_32 ?_
          refine x_if_ne 87 dX6_moves_33 (by decide) (fun c33 => ?_) (fun c33 => ?_)
          · refine x_iinc3 (nI (c + 1)) dX6_moves_87 (nI_add c 1) rfl rfl rfl ?_
            refine x_goto 10 dX6_moves_90 (by decide) ?_
            first | exact ih (c + 1) _ (by omega) (by omega) h65 hv2 (hc.trans (mvS_no (by omega) (fun q => c24 q.1))) | exact ih (c + 1) _ (by omega) (by omega) h65 hv2 (hc.trans (mvS_no (by omega) (fun q => c33 q.2.1))) | exact ih (c + 1) _ (by omega) (by omega) h65 hv2 (hc.trans (mvS_no (by omega) (fun q => c42 q.2.2))) | exact ih (c + 1) _ (by omega) (by omega) (by rw [ok.1 65 (by decide) (by decide)]; exact w65) ok.2 (hc.trans (mvS_back (by omega) ⟨c24, c33, c42⟩ c59 c75))
          · refine x_aload0 dX6_moves_36 ?_
            refine x_iload1 dX6_moves_37 ?_
            refine x_iload3 dX6_moves_38 ?_
            refine x_callV2i mvX6_73 (kd_isTight G e m p c (by omega) (by omega)) (show (172 : Nat) < NT by decide) (hd_at (a := 172) (by decide) rfl) (xRoom.of rfl) (Nat.le_of_ble_eq_true rfl) dX6_moves_39 (fun r_ n_ h_ hq => ?_)
            obtain ⟨rfl, rfl, rfl⟩ := hq
            refine b_if_eq 87 dX6_moves_42 (by decide) (fun c42 => ?_) (fun c42 => ?_)
            · refine x_iinc3 (nI (c + 1)) dX6_moves_87 (nI_add c 1) rfl rfl rfl ?_
              refine x_goto 10 dX6_moves_90 (by decide) ?_
              first | exact ih (c + 1) _ (by omega) (by omega) h65 hv2 (hc.trans (mvS_no (by omega) (fun q => c24 q.1))) | exact ih (c + 1) _ (by omega) (by omega) h65 hv2 (hc.trans (mvS_no (by omega) (fun q => c33 q.2.1))) | exact ih (c + 1) _ (by omega) (by omega) h65 hv2 (hc.trans (mvS_no (by omega) (fun q => c42 q.2.2))) | exact ih (c + 1) _ (by omega) (by omega) (by rw [ok.1 65 (by decide) (by decide)]; exact w65) ok.2 (hc.trans (mvS_back (by omega) ⟨c24, c33, c42⟩ c59 c75))
            · refine x_aload0 dX6_moves_45 ?_
              refine go172_10 fgX6_45 dX6_moves_46 ?_
              refine x_iload3 dX6_moves_49 ?_
              refine x_iconst (nI 1) dX6_moves_50 (by decide) ?_
              refine sa196 (c) rfl (by omega) (by first | exact Or.inl nI_0 | exact Or.inr nI1 | exact bI_01 _) dX6_moves_51 ?_
              refine x_aload0 dX6_moves_52 ?_
              refine go172_4 fgX6_27 dX6_moves_53 ?_
              refine x_iload3 dX6_moves_56 ?_
              refine la190 (c) rfl (by omega) dX6_moves_57 ?_
              refine xV.toi (e.1 68 c) ((by rw [mset_ne (by decide)])) ?_
              refine x_iconst (-1) dX6_moves_58 (by decide) ?_
              refine x_icmp_eq 78 dX6_moves_59 (by decide) (fun c59 => ?_) (fun c59 => ?_)
              · skip
                refine x_aload0 dX6_moves_78 ?_
                refine go172_4 fgX6_27 dX6_moves_79 ?_
                refine x_iload3 dX6_moves_82 ?_
                refine x_iload1 dX6_moves_83 ?_
                refine sa190 (c) rfl (by omega) dX6_moves_84 ?_
                refine x_iconst (nI 1) dX6_moves_85 (by decide) ?_
                refine x_zret dX6_moves_86 rfl (by first | exact Or.inl nI_0 | exact Or.inr nI1 | exact bI_01 _) ?_ (Nat.zero_le _) (Nat.zero_le _)
                first | exact ⟨nI1.trans (bI_t (show (mvF n (k + 1) d p).1 = true from (congrArg Prod.fst (hc.trans (mvS_free (by omega) ⟨c24, c33, c42⟩ c59))))).symm, rfl, congrArg (fun z => hp (dk z) m) (congrArg Prod.snd (hc.trans (mvS_free (by omega) ⟨c24, c33, c42⟩ c59))).symm⟩ | exact ⟨nI1.trans (bI_t (show (mvF n (k + 1) d p).1 = true from (congrArg Prod.fst (hc.trans (mvS_yes (by omega) ⟨c24, c33, c42⟩ c59 c75))))).symm, rfl, congrArg (fun z => hp (dk z) m) (congrArg Prod.snd (hc.trans (mvS_yes (by omega) ⟨c24, c33, c42⟩ c59 c75))).symm⟩
              · have hr := vAt_row hv2 (by omega) c59
                have v1 : vAt (mset e 74 c (nI 1)) n := fun c2 h2 => by rw [mset_ne (by decide)]; exact hv2 c2 h2
                have w65 : (mset e 74 c (nI 1)).1 65 0 = nI n := by rw [mset_ne (by decide)]; exact h65
                have ok := mvF_ok hn k (mset e 74 c (nI 1)) (nv (e.1 68 c)) hr.2 v1
                refine x_aload0 dX6_moves_62 ?_
                refine x_aload0 dX6_moves_63 ?_
                refine go172_4 fgX6_27 dX6_moves_64 ?_
                refine x_iload3 dX6_moves_67 ?_
                refine la190 (c) rfl (by omega) dX6_moves_68 ?_
                refine xV.toi (nI (nv (e.1 68 c))) ((by rw [mset_ne (by decide)]; exact hr.1)) ?_
                refine x_iload2 dX6_moves_69 ?_
                refine x_iconst (nI 1) dX6_moves_70 (by decide) ?_
                refine n_iadd dX6_moves_71 ?_
                refine xV.toi (nI (14 - k)) ((by rw [show 14 - (k + 1) + 1 = 14 - k by omega])) ?_
                refine x_callV2i mvX6_83 (ihk (mset e 74 c (nI 1)) (nv (e.1 68 c)) w65 v1 hr.2) (show (172 : Nat) < NT by decide) (hd_at (a := 172) (by decide) rfl) (xRoom.rc (l := k + 1) (by decide)) (Nat.le_of_ble_eq_true rfl) dX6_moves_72 (fun r_ n_ h_ hq => ?_)
                obtain ⟨rfl, rfl, rfl⟩ := hq
                refine b_if_eq 87 dX6_moves_75 (by decide) (fun c75 => ?_) (fun c75 => ?_)
                · refine x_iinc3 (nI (c + 1)) dX6_moves_87 (nI_add c 1) rfl rfl rfl ?_
                  refine x_goto 10 dX6_moves_90 (by decide) ?_
                  first | exact ih (c + 1) _ (by omega) (by omega) h65 hv2 (hc.trans (mvS_no (by omega) (fun q => c24 q.1))) | exact ih (c + 1) _ (by omega) (by omega) h65 hv2 (hc.trans (mvS_no (by omega) (fun q => c33 q.2.1))) | exact ih (c + 1) _ (by omega) (by omega) h65 hv2 (hc.trans (mvS_no (by omega) (fun q => c42 q.2.2))) | exact ih (c + 1) _ (by omega) (by omega) (by rw [ok.1 65 (by decide) (by decide)]; exact w65) ok.2 (hc.trans (mvS_back (by omega) ⟨c24, c33, c42⟩ c59 c75))
                · refine x_aload0 dX6_moves_78 ?_
                  refine go172_4 fgX6_27 dX6_moves_79 ?_
                  refine x_iload3 dX6_moves_82 ?_
                  refine x_iload1 dX6_moves_83 ?_
                  refine sa190 (c) rfl (by omega) dX6_moves_84 ?_
                  refine x_iconst (nI 1) dX6_moves_85 (by decide) ?_
                  refine x_zret dX6_moves_86 rfl (by first | exact Or.inl nI_0 | exact Or.inr nI1 | exact bI_01 _) ?_ (Nat.zero_le _) (Nat.zero_le _)
                  first | exact ⟨nI1.trans (bI_t (show (mvF n (k + 1) d p).1 = true from (congrArg Prod.fst (hc.trans (mvS_free (by omega) ⟨c24, c33, c42⟩ c59))))).symm, rfl, congrArg (fun z => hp (dk z) m) (congrArg Prod.snd (hc.trans (mvS_free (by omega) ⟨c24, c33, c42⟩ c59))).symm⟩ | exact ⟨nI1.trans (bI_t (show (mvF n (k + 1) d p).1 = true from (congrArg Prod.fst (hc.trans (mvS_yes (by omega) ⟨c24, c33, c42⟩ c59 c75))))).symm, rfl, congrArg (fun z => hp (dk z) m) (congrArg Prod.snd (hc.trans (mvS_yes (by omega) ⟨c24, c33, c42⟩ c59 c75))).symm⟩
  refine xK.ofV (by decide) (Nat.le_of_ble_eq_true rfl) ?_
  refine xV.lveq (L' := [some (.ref 172), some (.int (nI (p))), some (.int (nI (14 - (k + 1)))), none]) rfl ?_
  refine x_iload2 dX6_moves_0 ?_
  refine x_bipush (nI 14) dX6_moves_1 (by decide) ?_
  refine n_icmp_lt 8 dX6_moves_3 (by decide) (by omega) (by omega) (fun c3 => ?_) (fun c3 => absurd c3 (by omega))
  refine x_iconst (nI 0) dX6_moves_8 (by decide) ?_
  refine x_istore3 dX6_moves_9 rfl rfl rfl ?_
  exact lp (n + 1) 0 d (Nat.zero_le _) (by omega) e65 hv rfl

theorem kd_moves (G : vx_G) (m : mS) (n : Nat) (hn : n ≤ 14) : ∀ (k : Nat) (d : mS) (p : Nat), k ≤ 14 → d.1 65 0 = nI n → vAt d n → p < n → xK G M_X6_moves (k + 1) [.ref 172, .int (nI p), .int (nI (14 - k))] NT (hp (dk d) m) 0 0 (QI (fun r n' h' => r = bI ((mvF n k d p).1 = true) ∧ n' = NT ∧ h' = hp (dk (mvF n k d p).2) m)) := by
  intro k
  induction k with
  | zero => intro d p _ _ _ _; exact kd_moves0 G d m n p
  | succ k ih => intro d p hk h65 hv hp_; exact kd_movesS G d m n k hn hk h65 hv p hp_ (fun d2 p2 a1 a2 a3 => ih d2 p2 (by omega) a1 a2 a3)
