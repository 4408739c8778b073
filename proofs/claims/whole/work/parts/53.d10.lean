/-! ===== the desk's methods, 10: seat and seatAll ===== -/
theorem sea_row {d : mS} {n row : Nat} {S : Nat → Prop} {β : Int} {cf col st : Nat} {ρ : Nat → Nat} (h : sea d n row S β cf col st ρ) (hc : ¬ d.1 68 col = -1) : col < n + 1 ∧ d.1 68 col = nI (ro d col) ∧ ro d col < n := by
  have n14 := h.T.n14
  have hr := h.r
  rcases h.co with q | q
  · have rn : ro d n = row := ro_nI hr.2.2 (by omega)
    rw [q.2, rn]
    exact ⟨by omega, hr.2.2, hr.1⟩
  · have := (h.M.a col q.2.1).resolve_left hc
    exact ⟨by omega, this.1, this.2.1⟩
theorem sea_val {d : mS} {n row : Nat} {S : Nat → Prop} {β : Int} {cf col st : Nat} {ρ : Nat → Nat} (h : sea d n row S β cf col st ρ) (hcol : ¬ d.1 68 col = -1) : ∀ c, c < n + 1 → ¬ (mset d 74 col (nI 1)).1 74 c = 0 → (mset d 74 col (nI 1)).1 68 c = nI (nv ((mset d 74 col (nI 1)).1 68 c)) ∧ nv ((mset d 74 col (nI 1)).1 68 c) < 14 := by
  have n14 := h.T.n14
  have hr := h.r
  intro c hc h1
  rw [mset_ne (by decide)]
  rcases Nat.lt_or_ge c n with z | z
  · have ha : ¬ d.1 68 c = -1 := by
      by_cases y : c = col
      · rw [y]; exact hcol
      · rw [mset_off y] at h1; exact h.x c z h1
    have := (h.M.a c z).resolve_left ha
    exact ⟨this.1, by have := this.2.1; show ro d c < 14; omega⟩
  · have rn : ro d n = row := ro_nI hr.2.2 (by omega)
    rw [show c = n by omega]
    show d.1 68 n = nI (ro d n) ∧ ro d n < 14
    rw [rn]
    exact ⟨hr.2.2, by omega⟩
def augE (d : mS) (n row : Nat) (S : Nat → Prop) (β : Int) (e : mS) (col k : Nat) : Prop := ∃ (b : mS) (cf col0 st : Nat) (ρ ρ' : Nat → Nat) (Pt : Nat → Prop), sea b n row S β cf col0 st ρ ∧ 0 < st ∧ sfr (mset d 68 n (nI row)) n row S b ∧ (∀ j, j ≠ 68 → e.1 j = b.1 j) ∧ aug e n (fun r => S r ∨ r = row) (fun c => b.1 68 c = -1) col k ρ' Pt
section AUGE
variable {d e : mS} {n row : Nat} {S : Nat → Prop} {β : Int} {col k : Nat}
theorem augE_0 {cf st : Nat} {ρ : Nat → Nat} (h : sea e n row S β cf col st ρ) (hc : e.1 68 col = -1) (hf : sfr (mset d 68 n (nI row)) n row S e) : augE d n row S β e col 0 := by
  have hr := h.r
  have n14 := h.T.n14
  refine ⟨e, cf, col, st, ρ, _, _, h, ?_, hf, fun _ _ => rfl, aug_0 h hc⟩
  rcases h.co with q | q
  · rw [q.2, hr.2.2] at hc
    exact absurd hc (nIm1 (by omega))
  · exact q.1
theorem augE_in (h : augE d n row S β e col k) : e.1 65 0 = nI n ∧ n ≤ 14 ∧ col < n + 1 ∧ k ≤ n := by
  obtain ⟨b, cf, col0, st, ρ, ρ', Pt, hs, h0, hf, hb, ha⟩ := h
  have hk := ha.k
  exact ⟨by rw [hb 65 (by decide)]; exact hs.T.s, hs.T.n14, ha.c, by omega⟩
theorem augE_step (h : augE d n row S β e col k) (hc : col < n) : ∃ q, q < n + 1 ∧ e.1 73 col = nI q ∧ augE d n row S β (mset e 68 col (e.1 68 q)) q (k + 1) := by
  obtain ⟨b, cf, col0, st, ρ, ρ', Pt, hs, h0, hf, hb, ha⟩ := h
  obtain ⟨q, q1, q2, q3, q4⟩ := aug_step hs.T.n14 ha hc
  exact ⟨q, q1, q2, b, cf, col0, st, ρ, ρ', Pt, hs, h0, hf, fun j hj => (mset_ne hj).trans (hb j hj), q4⟩
theorem augE_end (h : augE d n row S β e col k) (hc : col = n) : seR d n row S β (mset e 68 n (-1)) := by
  obtain ⟨b, cf, col0, st, ρ, ρ', Pt, hs, h0, hf, hb, ha⟩ := h
  subst hc
  exact aug_end hs h0 hf hb ha
end AUGE

set_option maxHeartbeats 4000000 in
theorem kd_seat (G : vx_G) (d m : mS) (n row : Nat) (S : Nat → Prop) (β : Int) (cf : Nat) (hT : tbl d n) (hM : mat d n S) (hP : pri d n S β) (hb : 0 ≤ β ∧ β ≤ 230) (hr : row < n ∧ ¬ S row) (hc : cf < n ∧ d.1 68 cf = -1 ∧ vv d cf ≤ β) (hu : -500 ≤ uu d row ∧ uu d row ≤ 500) : xK G M_X6_seat 1 [(.ref 172), (.int (nI (row)))] NT (hp (dk d) m) 0 0 (QV (fun n' h' => n' = NT ∧ ∃ e, h' = hp (dk e) m ∧ seR d n row S β e)) := by
  have n14 := hT.n14
  have e65 := hT.s
  have l2 : ∀ (n_ : Nat) (k : Nat) (e : mS) (col : Nat), k ≤ n + 1 → n + 1 + 1 ≤ k + n_ → (augE d n row S β e col k) → xV (mF G M_X6_seat 1 0 0 (QV (fun n' h' => n' = NT ∧ ∃ e, h' = hp (dk e) m ∧ seR d n row S β e))) 60 [some (.ref 172), some (.int (nI (row))), some (.int (nI (col))), some (.int (nI (k))), none] [] NT (hp (dk e) m) 0 0 := by
    intro n_
    induction n_ with
    | zero => intro k e col hi_ hn_; omega
    | succ n_ ih =>
      intro k e col hi_ hn_ hA
      obtain ⟨h65, h14, hcl, hkn⟩ := augE_in hA
      refine x_iload3 dX6_seat_60 ?_
      refine x_aload0 dX6_seat_61 ?_
      refine go172_1 fgX6_16 dX6_seat_62 ?_
      refine xV.toi (nI (n)) (h65) ?_
      refine n_icmp_gt 106 dX6_seat_65 (by decide) (by omega) (by omega) (fun c65 => absurd c65 (by omega)) (fun c65 => ?_)
      refine x_iload2 dX6_seat_68 ?_
      refine x_aload0 dX6_seat_69 ?_
      refine go172_1 fgX6_16 dX6_seat_70 ?_
      refine xV.toi (nI (n)) (h65) ?_
      refine n_icmp_eq 106 dX6_seat_73 (by decide) (by omega) (by omega) (fun c73 => ?_) (fun c73 => ?_)
      · refine x_aload0 dX6_seat_106 ?_
        refine go172_4 fgX6_27 dX6_seat_107 ?_
        refine x_aload0 dX6_seat_110 ?_
        refine go172_1 fgX6_16 dX6_seat_111 ?_
        refine xV.toi (nI (n)) (h65) ?_
        refine x_iconst (-1) dX6_seat_114 (by decide) ?_
        refine sa190 (n) rfl (by omega) dX6_seat_115 ?_
        refine x_vret dX6_seat_116 rfl ?_ (Nat.zero_le _) (Nat.zero_le _)
        exact ⟨rfl, _, rfl, augE_end hA c73⟩
      · obtain ⟨q, q1, q2, q3⟩ := augE_step hA (by omega)
        refine x_aload0 dX6_seat_76 ?_
        refine go172_9 fgX6_42 dX6_seat_77 ?_
        refine x_iload2 dX6_seat_80 ?_
        refine la195 (col) rfl (by omega) dX6_seat_81 ?_
        refine xV.toi (nI (q)) (q2) ?_
        refine x_istore4 dX6_seat_82 rfl rfl rfl ?_
        refine x_aload0 dX6_seat_84 ?_
        refine go172_4 fgX6_27 dX6_seat_85 ?_
        refine x_iload2 dX6_seat_88 ?_
        refine x_aload0 dX6_seat_89 ?_
        refine go172_4 fgX6_27 dX6_seat_90 ?_
        refine x_iload4 dX6_seat_93 ?_
        refine la190 (q) rfl (by omega) dX6_seat_95 ?_
        refine sa190 (col) rfl (by omega) dX6_seat_96 ?_
        refine x_iload4 dX6_seat_97 ?_
        refine x_istore2 dX6_seat_99 rfl rfl rfl ?_
        refine x_iinc3 (nI (k + 1)) dX6_seat_100 (nI_add k 1) rfl rfl rfl ?_
        refine x_goto 60 dX6_seat_103 (by decide) ?_
        refine xV.lvle (L' := [some (.ref _), some (.int _), some (.int _), some (.int _), none]) ⟨rfl, rfl, rfl, rfl, trivial⟩ ?_
        exact ih (k + 1) _ q (by omega) (by omega) q3
  have l1 : ∀ (n_ : Nat) (st : Nat) (e : mS) (col : Nat) (ρ : Nat → Nat), st ≤ n + 1 → n + 1 + 1 ≤ st + n_ → (sea e n row S β cf col st ρ) → (sfr (mset d 68 n (nI row)) n row S e) → xV (mF G M_X6_seat 1 0 0 (QV (fun n' h' => n' = NT ∧ ∃ e, h' = hp (dk e) m ∧ seR d n row S β e))) 21 [some (.ref 172), some (.int (nI (row))), some (.int (nI (col))), some (.int (nI (st))), none] [] NT (hp (dk e) m) 0 0 := by
    intro n_
    induction n_ with
    | zero => intro st e col ρ hi_ hn_; omega
    | succ n_ ih =>
      intro st e col ρ hi_ hn_ hs hf
      have h65 := hs.T.s
      have hst := sea_le hs
      have hcl : col < n + 1 := by rcases hs.co with q | q <;> omega
      refine x_iload3 dX6_seat_21 ?_
      refine x_aload0 dX6_seat_22 ?_
      refine go172_1 fgX6_16 dX6_seat_23 ?_
      refine xV.toi (nI (n)) (h65) ?_
      refine n_icmp_gt 58 dX6_seat_26 (by decide) (by omega) (by omega) (fun c26 => absurd c26 (by omega)) (fun c26 => ?_)
      refine x_aload0 dX6_seat_29 ?_
      refine go172_4 fgX6_27 dX6_seat_30 ?_
      refine x_iload2 dX6_seat_33 ?_
      refine la190 (col) rfl (by omega) dX6_seat_34 ?_
      refine x_iconst (-1) dX6_seat_35 (by decide) ?_
      refine x_icmp_eq 58 dX6_seat_36 (by decide) (fun c36 => ?_) (fun c36 => ?_)
      · refine x_iconst (nI 0) dX6_seat_58 (by decide) ?_
        refine x_istore3 dX6_seat_59 rfl rfl rfl ?_
        exact l2 (n + 2) 0 e col (Nat.zero_le _) (by omega) (augE_0 hs c36 hf)
      · obtain ⟨w1, w2, w3⟩ := sea_row hs c36
        refine x_aload0 dX6_seat_39 ?_
        refine go172_10 fgX6_45 dX6_seat_40 ?_
        refine x_iload2 dX6_seat_43 ?_
        refine x_iconst (nI 1) dX6_seat_44 (by decide) ?_
        refine sa196 (col) rfl (by omega) (by first | exact Or.inl nI_0 | exact Or.inr nI1 | exact bI_01 _) dX6_seat_45 ?_
        refine x_aload0 dX6_seat_46 ?_
        refine x_iload2 dX6_seat_47 ?_
        refine x_callV1i mvX6_65 (kd_nextColumn G (mset e 74 col (nI 1)) m n n14 (by rw [mset_ne (by decide)]; exact h65) col (ro e col) (by omega) (by rw [mset_ne (by decide)]; exact w2) (by omega) (sea_val hs c36)) (show (172 : Nat) < NT by decide) (hd_at (a := 172) (by decide) rfl) (xRoom.of rfl) (Nat.le_of_ble_eq_true rfl) dX6_seat_48 (fun r_ n_ h_ hq => ?_)
        obtain ⟨rfl, rfl, rfl⟩ := hq
        refine x_istore2 dX6_seat_51 rfl rfl rfl ?_
        refine x_iinc3 (nI (st + 1)) dX6_seat_52 (nI_add st 1) rfl rfl rfl ?_
        refine x_goto 21 dX6_seat_55 (by decide) ?_
        have hs2 := sea_step hs c36
        exact ih (st + 1) _ _ _ (by have := sea_le hs2; omega) (by omega) hs2 (sea_fr hs c36 hf)
  refine xK.ofV (by decide) (Nat.le_of_ble_eq_true rfl) ?_
  refine xV.lveq (L' := [some (.ref 172), some (.int (nI (row))), none, none, none]) rfl ?_
  refine x_aload0 dX6_seat_0 ?_
  refine x_callV0v mvX6_62 (kd_clearSearch G d m n n14 e65) (show (172 : Nat) < NT by decide) (hd_at (a := 172) (by decide) rfl) (xRoom.of rfl) (Nat.le_of_ble_eq_true rfl) dX6_seat_1 (fun n_ h_ hq => ?_)
  obtain ⟨rfl, rfl⟩ := hq
  refine x_aload0 dX6_seat_4 ?_
  refine go172_1 fgX6_16 dX6_seat_5 ?_
  refine xV.toi (nI (n)) ((by rw [csD_ne (by decide) (by decide) (by decide)]; exact e65)) ?_
  refine x_istore2 dX6_seat_8 rfl rfl rfl ?_
  refine x_aload0 dX6_seat_9 ?_
  refine go172_4 fgX6_27 dX6_seat_10 ?_
  refine x_aload0 dX6_seat_13 ?_
  refine go172_1 fgX6_16 dX6_seat_14 ?_
  refine xV.toi (nI (n)) ((by rw [csD_ne (by decide) (by decide) (by decide)]; exact e65)) ?_
  refine x_iload1 dX6_seat_17 ?_
  refine sa190 (n) rfl (by omega) dX6_seat_18 ?_
  refine x_iconst (nI 0) dX6_seat_19 (by decide) ?_
  refine x_istore3 dX6_seat_20 rfl rfl rfl ?_
  have z := sea_0 hT hM hP hb hr hc hu
  exact l1 (n + 2) 0 _ n _ (Nat.zero_le _) (by omega) z.1 z.2

abbrev alI (d : mS) (n r : Nat) (e : mS) : Prop := (tbl e n ∧ mat e n (fun q => q < r) ∧ pri e n (fun q => q < r) 0) ∧ (∀ c, c < n → e.1 68 c = -1 → vv e c = 0) ∧ (∀ q, q < n → r ≤ q → uu e q = 0) ∧ ∀ j, j ≠ 66 → j ≠ 67 → j ≠ 68 → j ≠ 72 → j ≠ 73 → j ≠ 74 → e.1 j = d.1 j
theorem alI_free {d e : mS} {n r : Nat} (h : alI d n r e) (hr : r < n) : ∃ cf, cf < n ∧ e.1 68 cf = -1 ∧ vv e cf ≤ 0 := by
  by_cases q : ∃ cf, cf < n ∧ e.1 68 cf = -1
  · obtain ⟨cf, a, b⟩ := q
    exact ⟨cf, a, b, by rw [h.2.1 cf a b]; exact Int.le_refl _⟩
  · have ha : ∀ c, c < n → ¬ e.1 68 c = -1 := fun c hc z => q ⟨c, hc, z⟩
    have := php r n (ro e) (fun c hc => ((h.1.2.1.a c hc).resolve_left (ha c hc)).2.2) (fun c c' hc hc' er => by
      have m1 := (h.1.2.1.a c hc).resolve_left (ha c hc)
      have m2 := (h.1.2.1.a c' hc').resolve_left (ha c' hc')
      exact h.1.2.1.i c c' hc hc' (ha c hc) (by rw [m1.1, m2.1, er]))
    omega
theorem alI_step {d e f : mS} {n r : Nat} (h : alI d n r e) (hr : r < n) (hs : seR e n r (fun q => q < r) 0 f) : alI d n (r + 1) f := by
  have ee : (fun q => q < r ∨ q = r) = (fun q => q < r + 1) := funext fun q => propext ⟨fun z => by omega, fun z => by omega⟩
  have hM := hs.M
  have hP := hs.P
  rw [ee] at hM hP
  refine ⟨⟨hs.T, hM, hP⟩, ?_, ?_, ?_⟩
  · intro c hc h1
    have z := hs.z c hc h1
    show (f.1 67 c).toInt = 0
    rw [z.2]; exact h.2.1 c hc z.1
  · intro q hq hle
    show (f.1 66 q).toInt = 0
    rw [hs.u q (by omega) (by omega)]; exact h.2.2.1 q hq (by omega)
  · intro j a1 a2 a3 a4 a5 a6
    rw [hs.o j a1 a2 a3 a4 a5 a6]; exact h.2.2.2 j a1 a2 a3 a4 a5 a6

set_option maxHeartbeats 4000000 in
theorem kd_seatAll (G : vx_G) (d m : mS) (n : Nat) (h0 : alI d n 0 d) : xK G M_X6_seatAll 2 [(.ref 172)] NT (hp (dk d) m) 0 0 (QV (fun n' h' => n' = NT ∧ ∃ e, h' = hp (dk e) m ∧ alI d n n e)) := by
  have n14 := h0.1.1.n14
  have lp : ∀ (n_ : Nat) (r : Nat) (e : mS), r ≤ n → n + 1 ≤ r + n_ → (alI d n r e) → xV (mF G M_X6_seatAll 2 0 0 (QV (fun n' h' => n' = NT ∧ ∃ e, h' = hp (dk e) m ∧ alI d n n e))) 2 [some (.ref 172), some (.int (nI (r)))] [] NT (hp (dk e) m) 0 0 := by
    intro n_
    induction n_ with
    | zero => intro r e hi_ hn_; omega
    | succ n_ ih =>
      intro r e hi_ hn_ hA
      refine x_iload1 dX6_seatAll_2 ?_
      refine x_aload0 dX6_seatAll_3 ?_
      refine go172_1 fgX6_16 dX6_seatAll_4 ?_
      refine xV.toi (nI (n)) (hA.1.1.s) ?_
      refine n_icmp_ge 21 dX6_seatAll_7 (by decide) (by omega) (by omega) (fun c7 => ?_) (fun c7 => ?_)
      · refine x_vret dX6_seatAll_21 rfl ?_ (Nat.zero_le _) (Nat.zero_le _)
        have er : r = n := by omega
        subst er
        exact ⟨rfl, _, rfl, hA⟩
      · obtain ⟨cf, f1, f2, f3⟩ := alI_free hA (by omega)
        refine x_aload0 dX6_seatAll_10 ?_
        refine x_iload1 dX6_seatAll_11 ?_
        refine x_callV1v mvX6_58 (kd_seat G e m n r (fun q => q < r) 0 cf hA.1.1 hA.1.2.1 hA.1.2.2 (by omega) ⟨by omega, Nat.lt_irrefl _⟩ ⟨f1, f2, f3⟩ (by rw [hA.2.2.1 r (by omega) (Nat.le_refl _)]; omega)) (show (172 : Nat) < NT by decide) (hd_at (a := 172) (by decide) rfl) (xRoom.of rfl) (Nat.le_of_ble_eq_true rfl) dX6_seatAll_12 (fun n_ h_ hq => ?_)
        obtain ⟨rfl, e2, rfl, hse⟩ := hq
        refine x_iinc1 (nI (r + 1)) dX6_seatAll_15 (nI_add r 1) rfl rfl rfl ?_
        refine x_goto 2 dX6_seatAll_18 (by decide) ?_
        exact ih (r + 1) e2 (by omega) (by omega) (alI_step hA (by omega) hse)
  refine xK.ofV (by decide) (Nat.le_of_ble_eq_true rfl) ?_
  refine xV.lveq (L' := [some (.ref 172), none]) rfl ?_
  refine x_iconst (nI 0) dX6_seatAll_0 (by decide) ?_
  refine x_istore1 dX6_seatAll_1 rfl rfl rfl ?_
  exact lp (n + 1) 0 d (Nat.zero_le _) (by omega) h0
