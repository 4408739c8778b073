/-! ===== the desk's methods, 23: find, explain, explained ===== -/
abbrev jE (j : Nat) : Prop := j < 96 ∨ (96 < j ∧ j < 100) ∨ 105 < j
abbrev fnE (d : mS) (N mid t : Nat) (e : mS) : Prop := (∀ j, jE j → e.1 j = d.1 j) ∧ (∃ n, smI e 0 (amE d) prT N 0 (min t mid) n) ∧ ∃ n, smI e 1 (amE d) prT N mid (t - mid) n
theorem cy_k {e : mS} {s n : Nat} : (∀ j, jE j → (cyD e s n).1 j = e.1 j) ∧ (cyD e s n).1 96 2 = nI n ∧ (∀ x, x ≠ 2 → (cyD e s n).1 96 x = e.1 96 x) ∧ (∀ q, q < 2 → (cyD e s n).1 (100 + q) = e.1 (100 + q) ∧ (cyD e s n).1 (103 + q) = e.1 (103 + q)) := by
  unfold cyD
  refine ⟨fun j hj => by rw [mset_ne (by omega), cpD_ne (by omega), cpD_ne (by omega)], mset_at _ _ _ _, fun x hx => by rw [mset_off hx, cpD_ne (by decide), cpD_ne (by decide)], fun q hq => ⟨?_, ?_⟩⟩
  · rw [mset_ne (by omega), cpD_ne (by omega), cpD_ne (by omega)]
  · rw [mset_ne (by omega), cpD_ne (by omega), cpD_ne (by omega)]
theorem cy_sm {e : mS} {s n : Nat} {am pr : Nat → Int} {N lo k : Nat} (hs : s < 2) (hn : n ≤ 512) (h : smI e s am pr N lo k n) : smI (cyD e s n) 2 am pr N lo k n := by
  refine sm_k h (cy_k).2.1 (fun x hx => ?_) (fun x hx => ?_)
  · show (mset (cpD (cpD e (100 + s) 102 n) (103 + s) 105 n) 96 2 (nI n)).1 102 x = _
    rw [mset_ne (by decide), cpD_ne (by decide), cpD_at (by omega) hx]
  · show (mset (cpD (cpD e (100 + s) 102 n) (103 + s) 105 n) 96 2 (nI n)).1 105 x = _
    rw [mset_ne (by decide), cpD_at (by omega) hx, cpD_ne (by omega)]
theorem n256 {k n : Nat} (hk : k ≤ 8) (h : n ≤ 2 ^ k) : n ≤ 256 := by
  have := Nat.pow_le_pow_right (n := 2) (by decide) hk
  have e : (2 : Nat) ^ 8 = 256 := by decide
  omega
theorem n512 {k n : Nat} (hk : k ≤ 9) (h : n ≤ 2 ^ k) : n ≤ 512 := by
  have := Nat.pow_le_pow_right (n := 2) (by decide) hk
  have e : (2 : Nat) ^ 9 = 512 := by decide
  omega
theorem fn_mo {d e : mS} {s n lo k N : Nat} (hs : s < 2) (hk : k ≤ 8) (hl : lo + k < N) (ha : ∀ t, t < N → -8000000 ≤ amE d t ∧ amE d t ≤ 8000000) (h : smI e s (amE d) prT N lo k n) : moK (cyD e s n) 2 n (d.1 91 (lo + k)) (nI (262144 - 2 ^ (17 - (lo + k)))) ∧ ∀ x y, x < y → y < n → eS (cyD e s n) 2 x < eS (cyD e s n) 2 y := by
  have hn := n256 hk h.n.2
  have h2 := cy_sm hs (by omega) h
  have pw := pw17 (lo + k)
  refine ⟨⟨⟨hn, sm_bd ha (by omega) (by omega) h2⟩, ha (lo + k) hl, ?_, ?_⟩, h2.i⟩
  · rw [prT_I]; exact (prT_bd _).1
  · rw [prT_I]; exact (prT_bd _).2
theorem fn_step {d e f : mS} {s n lo k N u : Nat} (hs : s < 2) (hk : k ≤ 8) (hl : lo + k < N) (h : smI e s (amE d) prT N lo k n) (hm : mgI (cyD e s n) s 2 n (d.1 91 (lo + k)).toInt (nI (262144 - 2 ^ (17 - (lo + k)))).toInt u n n f) : smI f s (amE d) prT N lo (k + 1) u ∧ (∀ j, jE j → f.1 j = e.1 j) ∧ ∀ q, q < 2 → q ≠ s → f.1 (100 + q) = e.1 (100 + q) ∧ f.1 (103 + q) = e.1 (103 + q) ∧ f.1 96 q = e.1 96 q := by
  have hn := n256 hk h.n.2
  have h2 := cy_sm hs (by omega) h
  have ck := cy_k (e := e) (s := s) (n := n)
  rw [prT_I] at hm
  refine ⟨mg_end hl h2 hm, fun j hj => by rw [hm.o j (by omega) (by omega) (by omega)]; exact ck.1 j hj, fun q hq hqs => ⟨?_, ?_, ?_⟩⟩
  · rw [hm.o (100 + q) (by omega) (by omega) (by omega)]; exact (ck.2.2.2 q hq).1
  · rw [hm.o (103 + q) (by omega) (by omega) (by omega)]; exact (ck.2.2.2 q hq).2
  · rw [hm.w.2 q hqs]; exact ck.2.2.1 q (by omega)
/-- what find leaves -/
abbrev jH (j : Nat) : Prop := j < 93 ∨ (96 < j ∧ j < 100) ∨ 105 < j
abbrev feR (d : mS) (N : Nat) (g r : Int32) (e : mS) : Prop := (∀ j, jH j → e.1 j = d.1 j) ∧ ∃ (S : Nat → Bool) (p : Int32), r = bI (¬ p = -1) ∧ fdS (amE d) N g p S ∧ e.1 95 0 = nI (fb_ct S N) ∧ ∀ x, x < N → S x = true → e.1 93 (fb_ct S x) = d.1 89 x ∧ e.1 94 (fb_ct S x) = d.1 90 x
theorem fn_co {d e f : mS} {N : Nat} {g p : Int32} {S : Nat → Bool} (he : ∀ j, jE j → e.1 j = d.1 j) (hs : fdS (amE d) N g p S) (h : coI e S N f) : feR d N g (bI (¬ p = -1)) f := by
  refine ⟨fun j hj => by rw [h.1 j (by omega) (by omega) (by omega)]; exact he j (by omega), S, p, rfl, hs, h.2.1, fun x hx hS => ?_⟩
  rw [← he 89 (by omega), ← he 90 (by omega)]
  exact h.2.2 x hx hS

theorem fn_co1 {d e f : mS} {N : Nat} {g p : Int32} {S : Nat → Bool} (he : ∀ j, jE j → e.1 j = d.1 j) (hs : fdS (amE d) N g p S) (h : coI e S N f) (hp : ¬ p = -1) : feR d N g (nI 1) f := by
  have := fn_co he hs h
  rw [bI_t hp, ← nI1] at this; exact this
theorem fn_co0 {d e f : mS} {N : Nat} {g p : Int32} {S : Nat → Bool} (he : ∀ j, jE j → e.1 j = d.1 j) (hs : fdS (amE d) N g p S) (h : coI e S N f) (hp : p = -1) : feR d N g (nI 0) f := by
  have := fn_co he hs h
  rw [bI_f (fun q => q hp), ← nI_0] at this; exact this

set_option maxHeartbeats 4000000 in
theorem kd_findE (G : vx_G) (d m : mS) (N : Nat) (hN : N ≤ 18) (e92 : d.1 92 0 = nI N) (ha : ∀ t, t < N → -8000000 ≤ amE d t ∧ amE d t ≤ 8000000) (g : Int32) : xK G M_X2_find 2 [(.ref 208), (.int g)] NT (hp (dk d) m) 0 0 (QI (fun r n' h' => n' = NT ∧ ∃ e, h' = hp (dk e) m ∧ feR d N g r e)) := by
  have lp : ∀ (n_ : Nat) (t : Nat) (e : mS), t ≤ N → N + 1 ≤ t + n_ → (fnE d N (N / 2) t e) → xV (mF G M_X2_find 2 0 0 (QI (fun r n' h' => n' = NT ∧ ∃ e, h' = hp (dk e) m ∧ feR d N g r e))) 23 [some (.ref 208), some (.int g), some (.int (nI (N / 2))), some (.int (nI (t))), none] [] NT (hp (dk e) m) 0 0 := by
    intro n_
    induction n_ with
    | zero => intro t e hi_ hn_; omega
    | succ n_ ih =>
      intro t e hi_ hn_ hI
      obtain ⟨ke, ⟨n1, h1⟩, ⟨n2, h2⟩⟩ := hI
      refine x_iload3 dX2_find_23 ?_
      refine x_aload0 dX2_find_24 ?_
      refine go208_6 fgX2_34 dX2_find_25 ?_
      refine xV.toi (nI (N)) ((by rw [ke 92 (by omega)]; exact e92)) ?_
      refine n_icmp_ge 86 dX2_find_28 (by decide) (by omega) (by omega) (fun c28 => ?_) (fun c28 => ?_)
      · have et : t = N := by omega
        rw [show min t (N / 2) = N / 2 by omega] at h1
        rw [et] at h2
        have hl1 := n512 (by omega) h1.n.2
        have hl2 := n512 (by omega) h2.n.2
        have hk : cwK e n1 n2 := ⟨sm_bd ha (by omega) (by omega) h1, sm_bd ha (by omega) (by omega) h2, h1.i, h2.i⟩
        refine x_aload0 dX2_find_86 ?_
        refine go208_3 fgX2_24 dX2_find_87 ?_
        refine x_aload0 dX2_find_90 ?_
        refine go208_4 fgX2_28 dX2_find_91 ?_
        refine x_iload1 dX2_find_94 ?_
        refine x_callV2i mvX2_87 (kd_cheapestWith G e m n1 n2 hl1 hl2 h1.u h2.u hk g) (lt_S (s := 0) (by decide)) (hd_S (s := 0) (by decide)) (xRoom.of rfl) (Nat.le_of_ble_eq_true rfl) dX2_find_95 (fun r_ n_ h_ hq => ?_)
        obtain ⟨hch, rfl, rfl⟩ := hq
        obtain ⟨S, B, b1, b2, b3, b4⟩ := ch_sel hN (by omega) h1 h2 hch
        refine x_istore3 dX2_find_98 rfl rfl rfl ?_
        refine x_aload0 dX2_find_99 ?_
        refine x_iload3 dX2_find_100 ?_
        refine x_callV1v mvX2_91 (kd_choose G e m N B hN (by rw [ke 92 (by omega)]; exact e92) b1 S b2 r_ b3) (show (208 : Nat) < NT by decide) (hd_at (a := 208) (by decide) rfl) (xRoom.of rfl) (Nat.le_of_ble_eq_true rfl) dX2_find_101 (fun n_ h_ hq => ?_)
        obtain ⟨rfl, f, rfl, hf⟩ := hq
        refine x_iload3 dX2_find_104 ?_
        refine x_iconst (-1) dX2_find_105 (by decide) ?_
        refine x_icmp_eq 113 dX2_find_106 (by decide) (fun c106 => ?_) (fun c106 => ?_)
        · refine x_iconst (nI 0) dX2_find_113 (by decide) ?_
          refine x_zret dX2_find_114 rfl (by first | exact Or.inl nI_0 | exact Or.inr nI1 | exact bI_01 _) ?_ (Nat.zero_le _) (Nat.zero_le _)
          first | exact ⟨rfl, _, rfl, fn_co1 ke b4 hf c106⟩ | exact ⟨rfl, _, rfl, fn_co0 ke b4 hf c106⟩
        · refine x_iconst (nI 1) dX2_find_109 (by decide) ?_
          refine x_goto 114 dX2_find_110 (by decide) ?_
          refine x_zret dX2_find_114 rfl (by first | exact Or.inl nI_0 | exact Or.inr nI1 | exact bI_01 _) ?_ (Nat.zero_le _) (Nat.zero_le _)
          first | exact ⟨rfl, _, rfl, fn_co1 ke b4 hf c106⟩ | exact ⟨rfl, _, rfl, fn_co0 ke b4 hf c106⟩
      · refine x_iload3 dX2_find_31 ?_
        refine x_iload2 dX2_find_32 ?_
        refine n_icmp_ge 43 dX2_find_33 (by decide) (by omega) (by omega) (fun c33 => ?_) (fun c33 => ?_)
        · have et : N / 2 + (t - N / 2) = t := by omega
          have mo := fn_mo (s := 1) (by decide) (by omega) (by omega) ha h2
          rw [et] at mo
          have ck := cy_k (e := e) (s := 1) (n := n2)
          have hn := n256 (by omega) h2.n.2
          have pw := pw17 t
          refine x_aload0 dX2_find_43 ?_
          refine go208_4 fgX2_28 dX2_find_44 ?_
          refine x_astore4 dX2_find_47 rfl rfl rfl ?_
          refine x_aload0 dX2_find_49 ?_
          refine go208_5 fgX2_31 dX2_find_50 ?_
          refine x_aload4 dX2_find_53 ?_
          refine x_callV1v mvX2_74 (kd_copy G e m 1 n2 (by decide) (by omega) h2.u) (lt_S (s := 2) (by decide)) (hd_S (s := 2) (by decide)) (xRoom.of rfl) (Nat.le_of_ble_eq_true rfl) dX2_find_55 (fun n_ h_ hq => ?_)
          obtain ⟨rfl, rfl⟩ := hq
          refine x_aload4 dX2_find_58 ?_
          refine x_aload0 dX2_find_60 ?_
          refine go208_5 fgX2_31 dX2_find_61 ?_
          refine x_aload0 dX2_find_64 ?_
          refine go208_2 fgX2_18 dX2_find_65 ?_
          refine x_iload3 dX2_find_68 ?_
          refine la211 (t) rfl (by omega) dX2_find_69 ?_
          refine xV.toi (d.1 91 t) ((by rw [ck.1 91 (by omega), ke 91 (by omega)])) ?_
          refine x_ldc kcX2_78 dX2_find_70 ?_
          refine xV.toi (nI 262144) (by decide) ?_
          refine x_iload3 dX2_find_72 ?_
          refine x_callS1i msX2_79 (kd_bitOf G (cyD e 1 n2) m t (by omega)) (xRoom.of rfl) (Nat.le_of_ble_eq_true rfl) dX2_find_73 (fun r_ n_ h_ hq => ?_)
          obtain ⟨rfl, rfl, rfl⟩ := hq
          refine n_isub dX2_find_76 (by omega) ?_
          refine x_callV3v mvX2_83 (kd_merge G (cyD e 1 n2) m 1 n2 (by decide) (d.1 91 t) (nI (262144 - 2 ^ (17 - t))) ck.2.1 mo.1 mo.2) (lt_S (s := 1) (by decide)) (hd_S (s := 1) (by decide)) (xRoom.of rfl) (Nat.le_of_ble_eq_true rfl) dX2_find_77 (fun n_ h_ hq => ?_)
          obtain ⟨rfl, f, u, rfl, hm⟩ := hq
          refine x_iinc3 (nI (t + 1)) dX2_find_80 (nI_add t 1) rfl rfl rfl ?_
          refine x_goto 23 dX2_find_83 (by decide) ?_
          refine xV.lvle (L' := [some (.ref _), some (.int _), some (.int _), some (.int _), none]) ⟨rfl, rfl, rfl, rfl, trivial⟩ ?_
          rw [← et] at hm
          obtain ⟨w1, w2, w3⟩ := fn_step (s := 1) (by decide) (by omega) (by omega) h2 hm
          have w4 := w3 0 (by decide) (by decide)
          exact ih (t + 1) f (by omega) (by omega) ⟨fun j hj => (w2 j hj).trans (ke j hj), ⟨n1, by rw [show min (t + 1) (N / 2) = min t (N / 2) by omega]; exact sm_k h1 (by rw [w4.2.2]; exact h1.u) (fun x _ => by rw [w4.1]) (fun x _ => by rw [w4.2.1])⟩, ⟨u, by rw [show t + 1 - N / 2 = t - N / 2 + 1 by omega]; exact w1⟩⟩
        · have et : 0 + min t (N / 2) = t := by omega
          have mo := fn_mo (s := 0) (by decide) (by omega) (by omega) ha h1
          rw [et] at mo
          have ck := cy_k (e := e) (s := 0) (n := n1)
          have hn := n256 (by omega) h1.n.2
          have pw := pw17 t
          refine x_aload0 dX2_find_36 ?_
          refine go208_3 fgX2_24 dX2_find_37 ?_
          refine x_goto 47 dX2_find_40 (by decide) ?_
          refine x_astore4 dX2_find_47 rfl rfl rfl ?_
          refine x_aload0 dX2_find_49 ?_
          refine go208_5 fgX2_31 dX2_find_50 ?_
          refine x_aload4 dX2_find_53 ?_
          refine x_callV1v mvX2_74 (kd_copy G e m 0 n1 (by decide) (by omega) h1.u) (lt_S (s := 2) (by decide)) (hd_S (s := 2) (by decide)) (xRoom.of rfl) (Nat.le_of_ble_eq_true rfl) dX2_find_55 (fun n_ h_ hq => ?_)
          obtain ⟨rfl, rfl⟩ := hq
          refine x_aload4 dX2_find_58 ?_
          refine x_aload0 dX2_find_60 ?_
          refine go208_5 fgX2_31 dX2_find_61 ?_
          refine x_aload0 dX2_find_64 ?_
          refine go208_2 fgX2_18 dX2_find_65 ?_
          refine x_iload3 dX2_find_68 ?_
          refine la211 (t) rfl (by omega) dX2_find_69 ?_
          refine xV.toi (d.1 91 t) ((by rw [ck.1 91 (by omega), ke 91 (by omega)])) ?_
          refine x_ldc kcX2_78 dX2_find_70 ?_
          refine xV.toi (nI 262144) (by decide) ?_
          refine x_iload3 dX2_find_72 ?_
          refine x_callS1i msX2_79 (kd_bitOf G (cyD e 0 n1) m t (by omega)) (xRoom.of rfl) (Nat.le_of_ble_eq_true rfl) dX2_find_73 (fun r_ n_ h_ hq => ?_)
          obtain ⟨rfl, rfl, rfl⟩ := hq
          refine n_isub dX2_find_76 (by omega) ?_
          refine x_callV3v mvX2_83 (kd_merge G (cyD e 0 n1) m 0 n1 (by decide) (d.1 91 t) (nI (262144 - 2 ^ (17 - t))) ck.2.1 mo.1 mo.2) (lt_S (s := 0) (by decide)) (hd_S (s := 0) (by decide)) (xRoom.of rfl) (Nat.le_of_ble_eq_true rfl) dX2_find_77 (fun n_ h_ hq => ?_)
          obtain ⟨rfl, f, u, rfl, hm⟩ := hq
          refine x_iinc3 (nI (t + 1)) dX2_find_80 (nI_add t 1) rfl rfl rfl ?_
          refine x_goto 23 dX2_find_83 (by decide) ?_
          refine xV.lvle (L' := [some (.ref _), some (.int _), some (.int _), some (.int _), none]) ⟨rfl, rfl, rfl, rfl, trivial⟩ ?_
          rw [← et] at hm
          obtain ⟨w1, w2, w3⟩ := fn_step (s := 0) (by decide) (by omega) (by omega) h1 hm
          have w4 := w3 1 (by decide) (by decide)
          exact ih (t + 1) f (by omega) (by omega) ⟨fun j hj => (w2 j hj).trans (ke j hj), ⟨u, by rw [show min (t + 1) (N / 2) = min t (N / 2) + 1 by omega]; exact w1⟩, ⟨n2, by rw [show t + 1 - N / 2 = t - N / 2 by omega]; exact sm_k h2 (by rw [w4.2.2]; exact h2.u) (fun x _ => by rw [w4.1]) (fun x _ => by rw [w4.2.1])⟩⟩
  refine xK.ofV (by decide) (Nat.le_of_ble_eq_true rfl) ?_
  refine xV.lveq (L' := [some (.ref 208), some (.int g), none, none, none]) rfl ?_
  refine x_aload0 dX2_find_0 ?_
  refine go208_6 fgX2_34 dX2_find_1 ?_
  refine xV.toi (nI (N)) (e92) ?_
  refine x_iconst (nI 2) dX2_find_4 (by decide) ?_
  refine n_idiv dX2_find_5 (by omega) (by omega) (by omega) ?_
  refine x_istore2 dX2_find_6 rfl rfl rfl ?_
  refine x_aload0 dX2_find_7 ?_
  refine go208_3 fgX2_24 dX2_find_8 ?_
  refine x_callV0v mvX2_71 (kd_startS G d m 0 (by decide)) (lt_S (s := 0) (by decide)) (hd_S (s := 0) (by decide)) (xRoom.of rfl) (Nat.le_of_ble_eq_true rfl) dX2_find_11 (fun n_ h_ hq => ?_)
  obtain ⟨rfl, rfl⟩ := hq
  refine x_aload0 dX2_find_14 ?_
  refine go208_4 fgX2_28 dX2_find_15 ?_
  refine x_callV0v mvX2_71 (kd_startS G (ssD d 0) m 1 (by decide)) (lt_S (s := 1) (by decide)) (hd_S (s := 1) (by decide)) (xRoom.of rfl) (Nat.le_of_ble_eq_true rfl) dX2_find_18 (fun n_ h_ hq => ?_)
  obtain ⟨rfl, rfl⟩ := hq
  refine x_iconst (nI 0) dX2_find_21 (by decide) ?_
  refine x_istore3 dX2_find_22 rfl rfl rfl ?_
  refine lp (N + 1) 0 _ (Nat.zero_le _) (by omega) ⟨fun j hj => ?_, ⟨1, ?_⟩, ⟨1, ?_⟩⟩
  · unfold ssD
    rw [mset_ne (by omega), mset_ne (by omega), mset_ne (by omega), mset_ne (by omega), mset_ne (by omega), mset_ne (by omega)]
  · rw [Nat.zero_min]
    refine sm_0 ?_ ?_ ?_
    · unfold ssD; rw [mset_off (by decide), mset_ne (by decide), mset_ne (by decide), mset_at]
    · unfold ssD; rw [mset_ne (by decide), mset_ne (by decide), mset_ne (by decide), mset_ne (by decide), mset_ne (by decide), mset_at]
    · unfold ssD; rw [mset_ne (by decide), mset_ne (by decide), mset_ne (by decide), mset_ne (by decide), mset_at]
  · rw [Nat.zero_sub]
    refine sm_0 ?_ ?_ ?_
    · unfold ssD; rw [mset_at]
    · unfold ssD; rw [mset_ne (by decide), mset_ne (by decide), mset_at]
    · unfold ssD; rw [mset_ne (by decide), mset_at]
