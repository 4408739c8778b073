/-! ===== the desk's methods, 8: Seats, as they run ===== -/
theorem mset_A {d : mS} {k i : Nat} {F : Nat → Int32} {v : Int32} : mset (msetA d k F) k i v = msetA d k (upd F i v) := by
  refine Prod.ext (funext fun j => ?_) rfl
  by_cases h : j = k
  · subst h; rw [mset_same, msetA_same, msetA_same]
  · rw [mset_ne h, msetA_ne h, msetA_ne h]
theorem msetA_id (d : mS) (k : Nat) : msetA d k (d.1 k) = d := by
  refine Prod.ext (funext fun j => ?_) rfl
  by_cases h : j = k
  · subst h; rw [msetA_same]
  · rw [msetA_ne h]
def flD (d : mS) (k N : Nat) (v : Int32) : mS := msetA d k (fa_fill (fun _ => v) (d.1 k) N)
theorem flD_0 (d : mS) (k : Nat) (v : Int32) : flD d k 0 v = d := by unfold flD; rw [fa_fill_0, msetA_id]
theorem flD_s (d : mS) (k i : Nat) (v : Int32) : mset (flD d k i v) k i v = flD d k (i + 1) v := by
  unfold flD
  rw [mset_A, ← fa_fill_succ (fun _ => v) (d.1 k) i]
theorem flD_ne {d : mS} {k N j : Nat} {v : Int32} (h : j ≠ k) : (flD d k N v).1 j = d.1 j := msetA_ne h
theorem flD_at {d : mS} {k N i : Nat} {v : Int32} (h : i < N) : (flD d k N v).1 k i = v := by
  unfold flD; rw [msetA_same, fa_fill_in h]

set_option maxHeartbeats 4000000 in
theorem kd_fill188 (G : vx_G) (d m : mS)  (v : Int32) : xK G M_J7_fill_53178 0 [(.ref 188), (.int v)] NT (hp (dk d) m) 0 0 (QV (fun n' h' => n' = NT ∧ h' = hp (dk (flD d 66 14 v)) m)) := by
  have lp : ∀ (n_ : Nat) (i : Nat), i ≤ 14 → 14 + 1 ≤ i + n_ → xV (mF G M_J7_fill_53178 0 0 0 (QV (fun n' h' => n' = NT ∧ h' = hp (dk (flD d 66 14 v)) m))) 5 [some (.ref 188), some (.int v), some (.int (nI (i))), some (.int (nI (14)))] [] NT (hp (dk (flD d 66 i v)) m) 0 0 := by
    intro n_
    induction n_ with
    | zero => intro i hi_ hn_; omega
    | succ n_ ih =>
      intro i hi_ hn_ 
      refine x_iload2 dJ7_fill_53178_5 ?_
      refine x_iload3 dJ7_fill_53178_6 ?_
      refine n_icmp_ge 20 dJ7_fill_53178_7 (by decide) (by omega) (by omega) (fun c7 => ?_) (fun c7 => ?_)
      · refine x_vret dJ7_fill_53178_20 rfl ?_ (Nat.zero_le _) (Nat.zero_le _)
        exact ⟨rfl, by rw [show i = 14 by omega]⟩
      · refine x_aload0 dJ7_fill_53178_10 ?_
        refine x_iload2 dJ7_fill_53178_11 ?_
        refine x_iload1 dJ7_fill_53178_12 ?_
        refine sa188 (i) rfl (by omega) dJ7_fill_53178_13 ?_
        refine x_iinc2 (nI (i + 1)) dJ7_fill_53178_14 (nI_add i 1) rfl rfl rfl ?_
        refine x_goto 5 dJ7_fill_53178_17 (by decide) ?_
        rw [flD_s]
        exact ih (i + 1) (by omega) (by omega)
  refine xK.ofV (by decide) (Nat.le_of_ble_eq_true rfl) ?_
  refine xV.lveq (L' := [some (.ref 188), some (.int v), none, none]) rfl ?_
  refine x_iconst (nI 0) dJ7_fill_53178_0 (by decide) ?_
  refine x_istore2 dJ7_fill_53178_1 rfl rfl rfl ?_
  refine x_aload0 dJ7_fill_53178_2 ?_
  refine x_alen (v := nI 14) (by decide) (by decide) (hd_at (a := 188) (by decide) rfl) rfl dJ7_fill_53178_3 ?_
  refine x_istore3 dJ7_fill_53178_4 rfl rfl rfl ?_
  have h0 := lp 15 0 (Nat.zero_le _) (by omega)
  rw [flD_0] at h0
  exact h0

set_option maxHeartbeats 4000000 in
theorem kd_fill189 (G : vx_G) (d m : mS)  (v : Int32) : xK G M_J7_fill_53178 0 [(.ref 189), (.int v)] NT (hp (dk d) m) 0 0 (QV (fun n' h' => n' = NT ∧ h' = hp (dk (flD d 67 15 v)) m)) := by
  have lp : ∀ (n_ : Nat) (i : Nat), i ≤ 15 → 15 + 1 ≤ i + n_ → xV (mF G M_J7_fill_53178 0 0 0 (QV (fun n' h' => n' = NT ∧ h' = hp (dk (flD d 67 15 v)) m))) 5 [some (.ref 189), some (.int v), some (.int (nI (i))), some (.int (nI (15)))] [] NT (hp (dk (flD d 67 i v)) m) 0 0 := by
    intro n_
    induction n_ with
    | zero => intro i hi_ hn_; omega
    | succ n_ ih =>
      intro i hi_ hn_ 
      refine x_iload2 dJ7_fill_53178_5 ?_
      refine x_iload3 dJ7_fill_53178_6 ?_
      refine n_icmp_ge 20 dJ7_fill_53178_7 (by decide) (by omega) (by omega) (fun c7 => ?_) (fun c7 => ?_)
      · refine x_vret dJ7_fill_53178_20 rfl ?_ (Nat.zero_le _) (Nat.zero_le _)
        exact ⟨rfl, by rw [show i = 15 by omega]⟩
      · refine x_aload0 dJ7_fill_53178_10 ?_
        refine x_iload2 dJ7_fill_53178_11 ?_
        refine x_iload1 dJ7_fill_53178_12 ?_
        refine sa189 (i) rfl (by omega) dJ7_fill_53178_13 ?_
        refine x_iinc2 (nI (i + 1)) dJ7_fill_53178_14 (nI_add i 1) rfl rfl rfl ?_
        refine x_goto 5 dJ7_fill_53178_17 (by decide) ?_
        rw [flD_s]
        exact ih (i + 1) (by omega) (by omega)
  refine xK.ofV (by decide) (Nat.le_of_ble_eq_true rfl) ?_
  refine xV.lveq (L' := [some (.ref 189), some (.int v), none, none]) rfl ?_
  refine x_iconst (nI 0) dJ7_fill_53178_0 (by decide) ?_
  refine x_istore2 dJ7_fill_53178_1 rfl rfl rfl ?_
  refine x_aload0 dJ7_fill_53178_2 ?_
  refine x_alen (v := nI 15) (by decide) (by decide) (hd_at (a := 189) (by decide) rfl) rfl dJ7_fill_53178_3 ?_
  refine x_istore3 dJ7_fill_53178_4 rfl rfl rfl ?_
  have h0 := lp 16 0 (Nat.zero_le _) (by omega)
  rw [flD_0] at h0
  exact h0

set_option maxHeartbeats 4000000 in
theorem kd_fill190 (G : vx_G) (d m : mS)  (v : Int32) : xK G M_J7_fill_53178 0 [(.ref 190), (.int v)] NT (hp (dk d) m) 0 0 (QV (fun n' h' => n' = NT ∧ h' = hp (dk (flD d 68 15 v)) m)) := by
  have lp : ∀ (n_ : Nat) (i : Nat), i ≤ 15 → 15 + 1 ≤ i + n_ → xV (mF G M_J7_fill_53178 0 0 0 (QV (fun n' h' => n' = NT ∧ h' = hp (dk (flD d 68 15 v)) m))) 5 [some (.ref 190), some (.int v), some (.int (nI (i))), some (.int (nI (15)))] [] NT (hp (dk (flD d 68 i v)) m) 0 0 := by
    intro n_
    induction n_ with
    | zero => intro i hi_ hn_; omega
    | succ n_ ih =>
      intro i hi_ hn_ 
      refine x_iload2 dJ7_fill_53178_5 ?_
      refine x_iload3 dJ7_fill_53178_6 ?_
      refine n_icmp_ge 20 dJ7_fill_53178_7 (by decide) (by omega) (by omega) (fun c7 => ?_) (fun c7 => ?_)
      · refine x_vret dJ7_fill_53178_20 rfl ?_ (Nat.zero_le _) (Nat.zero_le _)
        exact ⟨rfl, by rw [show i = 15 by omega]⟩
      · refine x_aload0 dJ7_fill_53178_10 ?_
        refine x_iload2 dJ7_fill_53178_11 ?_
        refine x_iload1 dJ7_fill_53178_12 ?_
        refine sa190 (i) rfl (by omega) dJ7_fill_53178_13 ?_
        refine x_iinc2 (nI (i + 1)) dJ7_fill_53178_14 (nI_add i 1) rfl rfl rfl ?_
        refine x_goto 5 dJ7_fill_53178_17 (by decide) ?_
        rw [flD_s]
        exact ih (i + 1) (by omega) (by omega)
  refine xK.ofV (by decide) (Nat.le_of_ble_eq_true rfl) ?_
  refine xV.lveq (L' := [some (.ref 190), some (.int v), none, none]) rfl ?_
  refine x_iconst (nI 0) dJ7_fill_53178_0 (by decide) ?_
  refine x_istore2 dJ7_fill_53178_1 rfl rfl rfl ?_
  refine x_aload0 dJ7_fill_53178_2 ?_
  refine x_alen (v := nI 15) (by decide) (by decide) (hd_at (a := 190) (by decide) rfl) rfl dJ7_fill_53178_3 ?_
  refine x_istore3 dJ7_fill_53178_4 rfl rfl rfl ?_
  have h0 := lp 16 0 (Nat.zero_le _) (by omega)
  rw [flD_0] at h0
  exact h0

set_option maxHeartbeats 4000000 in
theorem kd_fillW (G : vx_G) (d m : mS) (r : Nat) (hr : r < 14) (v : Int32) : xK G M_J7_fill_53178 0 [(.ref (174 + r)), (.int v)] NT (hp (dk d) m) 0 0 (QV (fun n' h' => n' = NT ∧ h' = hp (dk (flD d (200 + r) 14 v)) m)) := by
  have lp : ∀ (n_ : Nat) (i : Nat), i ≤ 14 → 14 + 1 ≤ i + n_ → xV (mF G M_J7_fill_53178 0 0 0 (QV (fun n' h' => n' = NT ∧ h' = hp (dk (flD d (200 + r) 14 v)) m))) 5 [some (.ref (174 + r)), some (.int v), some (.int (nI (i))), some (.int (nI (14)))] [] NT (hp (dk (flD d (200 + r) i v)) m) 0 0 := by
    intro n_
    induction n_ with
    | zero => intro i hi_ hn_; omega
    | succ n_ ih =>
      intro i hi_ hn_ 
      refine x_iload2 dJ7_fill_53178_5 ?_
      refine x_iload3 dJ7_fill_53178_6 ?_
      refine n_icmp_ge 20 dJ7_fill_53178_7 (by decide) (by omega) (by omega) (fun c7 => ?_) (fun c7 => ?_)
      · refine x_vret dJ7_fill_53178_20 rfl ?_ (Nat.zero_le _) (Nat.zero_le _)
        exact ⟨rfl, by rw [show i = 14 by omega]⟩
      · refine x_aload0 dJ7_fill_53178_10 ?_
        refine x_iload2 dJ7_fill_53178_11 ?_
        refine x_iload1 dJ7_fill_53178_12 ?_
        refine sW (by omega) (i) rfl (by omega) dJ7_fill_53178_13 ?_
        refine x_iinc2 (nI (i + 1)) dJ7_fill_53178_14 (nI_add i 1) rfl rfl rfl ?_
        refine x_goto 5 dJ7_fill_53178_17 (by decide) ?_
        rw [flD_s]
        exact ih (i + 1) (by omega) (by omega)
  refine xK.ofV (by decide) (Nat.le_of_ble_eq_true rfl) ?_
  refine xV.lveq (L' := [some (.ref (174 + r)), some (.int v), none, none]) rfl ?_
  refine x_iconst (nI 0) dJ7_fill_53178_0 (by decide) ?_
  refine x_istore2 dJ7_fill_53178_1 rfl rfl rfl ?_
  refine x_aload0 dJ7_fill_53178_2 ?_
  refine x_alen (v := nI 14) (by decide) (dk_lt (W_lt (by omega))) (hd_W (by omega)) rfl dJ7_fill_53178_3 ?_
  refine x_istore3 dJ7_fill_53178_4 rfl rfl rfl ?_
  have h0 := lp 15 0 (Nat.zero_le _) (by omega)
  rw [flD_0] at h0
  exact h0

def clS (d : mS) : Nat → mS
  | 0 => d
  | r + 1 => mset (flD (clS d r) (200 + r) 14 (nI 0)) 75 r (nI 0)
def clearD (d : mS) (n : Nat) : mS := flD (flD (flD (clS (mset d 65 0 (nI n)) n) 66 14 (nI 0)) 67 15 (nI 0)) 68 15 (-1)
theorem clS_ne {d : mS} {j : Nat} (h : j ≠ 75) (h2 : j < 200) : ∀ r, (clS d r).1 j = d.1 j
  | 0 => rfl
  | r + 1 => by
    show (mset (flD (clS d r) (200 + r) 14 (nI 0)) 75 r (nI 0)).1 j = _
    rw [mset_ne h, flD_ne (by omega), clS_ne h h2 r]

set_option maxHeartbeats 4000000 in
theorem kd_clear (G : vx_G) (d m : mS) (n : Nat) (hn : n ≤ 14) : xK G M_X6_clear 1 [(.ref 172), (.int (nI (n)))] NT (hp (dk d) m) 0 0 (QV (fun n' h' => n' = NT ∧ h' = hp (dk (clearD d n)) m)) := by
  have lp : ∀ (n_ : Nat) (r : Nat), r ≤ n → n + 1 ≤ r + n_ → xV (mF G M_X6_clear 1 0 0 (QV (fun n' h' => n' = NT ∧ h' = hp (dk (clearD d n)) m))) 7 [some (.ref 172), some (.int (nI (n))), some (.int (nI (r)))] [] NT (hp (dk (clS (mset d 65 0 (nI n)) r)) m) 0 0 := by
    intro n_
    induction n_ with
    | zero => intro r hi_ hn_; omega
    | succ n_ ih =>
      intro r hi_ hn_ 
      refine x_iload2 dX6_clear_7 ?_
      refine x_aload0 dX6_clear_8 ?_
      refine go172_1 fgX6_16 dX6_clear_9 ?_
      refine xV.toi (nI (n)) ((by rw [clS_ne (by decide) (by decide)]; exact mset_at _ _ _ _)) ?_
      refine n_icmp_ge 38 dX6_clear_12 (by decide) (by omega) (by omega) (fun c12 => ?_) (fun c12 => ?_)
      · have er : r = n := by omega
        rw [er]
        refine x_aload0 dX6_clear_38 ?_
        refine go172_2 fgX6_20 dX6_clear_39 ?_
        refine x_iconst (nI 0) dX6_clear_42 (by decide) ?_
        refine x_callS2v msX6_52 (kd_fill188 G (clS (mset d 65 0 (nI n)) n) m (nI 0)) (xRoom.of rfl) (Nat.le_of_ble_eq_true rfl) dX6_clear_43 (fun n_ h_ hq => ?_)
        obtain ⟨rfl, rfl⟩ := hq
        refine x_aload0 dX6_clear_46 ?_
        refine go172_3 fgX6_24 dX6_clear_47 ?_
        refine x_iconst (nI 0) dX6_clear_50 (by decide) ?_
        refine x_callS2v msX6_52 (kd_fill189 G _ m (nI 0)) (xRoom.of rfl) (Nat.le_of_ble_eq_true rfl) dX6_clear_51 (fun n_ h_ hq => ?_)
        obtain ⟨rfl, rfl⟩ := hq
        refine x_aload0 dX6_clear_54 ?_
        refine go172_4 fgX6_27 dX6_clear_55 ?_
        refine x_iconst (-1) dX6_clear_58 (by decide) ?_
        refine x_callS2v msX6_52 (kd_fill190 G _ m (-1)) (xRoom.of rfl) (Nat.le_of_ble_eq_true rfl) dX6_clear_59 (fun n_ h_ hq => ?_)
        obtain ⟨rfl, rfl⟩ := hq
        refine x_vret dX6_clear_62 rfl ?_ (Nat.zero_le _) (Nat.zero_le _)
        exact ⟨rfl, rfl⟩
      · refine x_aload0 dX6_clear_15 ?_
        refine go172_0 fgX6_11 dX6_clear_16 ?_
        refine x_iload2 dX6_clear_19 ?_
        refine lWO (r) rfl (by omega) dX6_clear_20 ?_
        refine x_iconst (nI 0) dX6_clear_21 (by decide) ?_
        refine x_callS2v msX6_52 (kd_fillW G (clS (mset d 65 0 (nI n)) r) m r (by omega) (nI 0)) (xRoom.of rfl) (Nat.le_of_ble_eq_true rfl) dX6_clear_22 (fun n_ h_ hq => ?_)
        obtain ⟨rfl, rfl⟩ := hq
        refine x_aload0 dX6_clear_25 ?_
        refine go172_11 fgX6_49 dX6_clear_26 ?_
        refine x_iload2 dX6_clear_29 ?_
        refine x_iconst (nI 0) dX6_clear_30 (by decide) ?_
        refine sa197 (r) rfl (by omega) (by first | exact Or.inl nI_0 | exact Or.inr nI1 | exact bI_01 _) dX6_clear_31 ?_
        refine x_iinc2 (nI (r + 1)) dX6_clear_32 (nI_add r 1) rfl rfl rfl ?_
        refine x_goto 7 dX6_clear_35 (by decide) ?_
        exact ih (r + 1) (by omega) (by omega)
  refine xK.ofV (by decide) (Nat.le_of_ble_eq_true rfl) ?_
  refine xV.lveq (L' := [some (.ref 172), some (.int (nI (n))), none]) rfl ?_
  refine x_aload0 dX6_clear_0 ?_
  refine x_iload1 dX6_clear_1 ?_
  refine po172_1 fpX6_16 dX6_clear_2 ?_
  refine x_iconst (nI 0) dX6_clear_5 (by decide) ?_
  refine x_istore2 dX6_clear_6 rfl rfl rfl ?_
  exact lp (n + 1) 0 (Nat.zero_le _) (by omega)

def csD (d : mS) (n : Nat) : Nat → mS
  | 0 => d
  | c + 1 => mset (mset (mset (csD d n c) 72 c (nI 1000000000)) 73 c (nI n)) 74 c (nI 0)
theorem csD_ne {d : mS} {n j : Nat} (h1 : j ≠ 72) (h2 : j ≠ 73) (h3 : j ≠ 74) : ∀ c, (csD d n c).1 j = d.1 j
  | 0 => rfl
  | c + 1 => by
    show (mset (mset (mset (csD d n c) 72 c (nI 1000000000)) 73 c (nI n)) 74 c (nI 0)).1 j = _
    rw [mset_ne h3, mset_ne h2, mset_ne h1, csD_ne h1 h2 h3 c]
theorem csD_at {d : mS} {n : Nat} : ∀ N c, c < N → (csD d n N).1 72 c = nI 1000000000 ∧ (csD d n N).1 73 c = nI n ∧ (csD d n N).1 74 c = nI 0
  | 0, c, h => absurd h (Nat.not_lt_zero c)
  | N + 1, c, h => by
    show (mset (mset (mset (csD d n N) 72 N (nI 1000000000)) 73 N (nI n)) 74 N (nI 0)).1 72 c = _ ∧ (mset (mset (mset (csD d n N) 72 N (nI 1000000000)) 73 N (nI n)) 74 N (nI 0)).1 73 c = _ ∧ (mset (mset (mset (csD d n N) 72 N (nI 1000000000)) 73 N (nI n)) 74 N (nI 0)).1 74 c = _
    rcases Nat.lt_or_ge c N with q | q
    · obtain ⟨a1, a2, a3⟩ := csD_at (d := d) (n := n) N c q
      have ne : c ≠ N := by omega
      rw [mset_ne (by decide), mset_ne (by decide), mset_off ne, mset_ne (by decide), mset_off ne, mset_ne (by decide), mset_off ne, mset_ne (by decide), mset_ne (by decide)]
      exact ⟨a1, a2, a3⟩
    · have e : c = N := by omega
      subst e
      rw [mset_ne (by decide), mset_ne (by decide), mset_at, mset_ne (by decide), mset_at, mset_at]
      exact ⟨rfl, rfl, rfl⟩

set_option maxHeartbeats 4000000 in
theorem kd_clearSearch (G : vx_G) (d m : mS) (n : Nat) (hn : n ≤ 14) (e65 : d.1 65 0 = nI n) : xK G M_X6_clearSearch 0 [(.ref 172)] NT (hp (dk d) m) 0 0 (QV (fun n' h' => n' = NT ∧ h' = hp (dk (csD d n (n + 1))) m)) := by
  have lp : ∀ (n_ : Nat) (c : Nat), c ≤ n + 1 → n + 1 + 1 ≤ c + n_ → xV (mF G M_X6_clearSearch 0 0 0 (QV (fun n' h' => n' = NT ∧ h' = hp (dk (csD d n (n + 1))) m))) 2 [some (.ref 172), some (.int (nI (c)))] [] NT (hp (dk (csD d n c)) m) 0 0 := by
    intro n_
    induction n_ with
    | zero => intro c hi_ hn_; omega
    | succ n_ ih =>
      intro c hi_ hn_ 
      refine x_iload1 dX6_clearSearch_2 ?_
      refine x_aload0 dX6_clearSearch_3 ?_
      refine go172_1 fgX6_16 dX6_clearSearch_4 ?_
      refine xV.toi (nI (n)) ((by rw [csD_ne (by decide) (by decide) (by decide)]; exact e65)) ?_
      refine n_icmp_gt 41 dX6_clearSearch_7 (by decide) (by omega) (by omega) (fun c7 => ?_) (fun c7 => ?_)
      · refine x_vret dX6_clearSearch_41 rfl ?_ (Nat.zero_le _) (Nat.zero_le _)
        exact ⟨rfl, by rw [show c = n + 1 by omega]⟩
      · refine x_aload0 dX6_clearSearch_10 ?_
        refine go172_8 fgX6_39 dX6_clearSearch_11 ?_
        refine x_iload1 dX6_clearSearch_14 ?_
        refine x_ldc kcX6_69 dX6_clearSearch_15 ?_
        refine xV.toi (nI 1000000000) (by decide) ?_
        refine sa194 (c) rfl (by omega) dX6_clearSearch_17 ?_
        refine x_aload0 dX6_clearSearch_18 ?_
        refine go172_9 fgX6_42 dX6_clearSearch_19 ?_
        refine x_iload1 dX6_clearSearch_22 ?_
        refine x_aload0 dX6_clearSearch_23 ?_
        refine go172_1 fgX6_16 dX6_clearSearch_24 ?_
        refine xV.toi (nI (n)) ((by rw [mset_ne (by decide), csD_ne (by decide) (by decide) (by decide)]; exact e65)) ?_
        refine sa195 (c) rfl (by omega) dX6_clearSearch_27 ?_
        refine x_aload0 dX6_clearSearch_28 ?_
        refine go172_10 fgX6_45 dX6_clearSearch_29 ?_
        refine x_iload1 dX6_clearSearch_32 ?_
        refine x_iconst (nI 0) dX6_clearSearch_33 (by decide) ?_
        refine sa196 (c) rfl (by omega) (by first | exact Or.inl nI_0 | exact Or.inr nI1 | exact bI_01 _) dX6_clearSearch_34 ?_
        refine x_iinc1 (nI (c + 1)) dX6_clearSearch_35 (nI_add c 1) rfl rfl rfl ?_
        refine x_goto 2 dX6_clearSearch_38 (by decide) ?_
        exact ih (c + 1) (by omega) (by omega)
  refine xK.ofV (by decide) (Nat.le_of_ble_eq_true rfl) ?_
  refine xV.lveq (L' := [some (.ref 172), none]) rfl ?_
  refine x_iconst (nI 0) dX6_clearSearch_0 (by decide) ?_
  refine x_istore1 dX6_clearSearch_1 rfl rfl rfl ?_
  exact lp (n + 2) 0 (Nat.zero_le _) (by omega)

abbrev tgt (d : mS) (r c : Nat) : Prop := d.1 66 r + d.1 67 c = d.1 (200 + r) c

set_option maxHeartbeats 4000000 in
theorem kd_isTight (G : vx_G) (d m : mS) (p q : Nat) (hr : p < 14) (hc : q < 14) : xK G M_X6_isTight 0 [(.ref 172), (.int (nI (p))), (.int (nI (q)))] NT (hp (dk d) m) 0 0 (QI (fun r n' h' => r = bI (tgt d p q) ∧ n' = NT ∧ h' = hp (dk d) m)) := by
  refine xK.ofV (by decide) (Nat.le_of_ble_eq_true rfl) ?_
  refine xV.lveq (L' := [some (.ref 172), some (.int (nI (p))), some (.int (nI (q)))]) rfl ?_
  refine x_aload0 dX6_isTight_0 ?_
  refine go172_2 fgX6_20 dX6_isTight_1 ?_
  refine x_iload1 dX6_isTight_4 ?_
  refine la188 (p) rfl (by omega) dX6_isTight_5 ?_
  refine x_aload0 dX6_isTight_6 ?_
  refine go172_3 fgX6_24 dX6_isTight_7 ?_
  refine x_iload2 dX6_isTight_10 ?_
  refine la189 (q) rfl (by omega) dX6_isTight_11 ?_
  refine x_iadd dX6_isTight_12 ?_
  refine x_aload0 dX6_isTight_13 ?_
  refine go172_0 fgX6_11 dX6_isTight_14 ?_
  refine x_iload1 dX6_isTight_17 ?_
  refine lWO (p) rfl (by omega) dX6_isTight_18 ?_
  refine x_iload2 dX6_isTight_19 ?_
  refine lW (by omega) (q) rfl (by omega) dX6_isTight_20 ?_
  refine x_icmp_ne 28 dX6_isTight_21 (by decide) (fun c21 => ?_) (fun c21 => ?_)
  · refine x_iconst (nI 0) dX6_isTight_28 (by decide) ?_
    refine x_zret dX6_isTight_29 rfl (by first | exact Or.inl nI_0 | exact Or.inr nI1 | exact bI_01 _) ?_ (Nat.zero_le _) (Nat.zero_le _)
    first | exact ⟨(bI_t (c := tgt d p q) c21).symm, rfl, rfl⟩ | exact ⟨(bI_f (c := tgt d p q) c21).symm, rfl, rfl⟩
  · refine x_iconst (nI 1) dX6_isTight_24 (by decide) ?_
    refine x_goto 29 dX6_isTight_25 (by decide) ?_
    refine x_zret dX6_isTight_29 rfl (by first | exact Or.inl nI_0 | exact Or.inr nI1 | exact bI_01 _) ?_ (Nat.zero_le _) (Nat.zero_le _)
    first | exact ⟨(bI_t (c := tgt d p q) c21).symm, rfl, rfl⟩ | exact ⟨(bI_f (c := tgt d p q) c21).symm, rfl, rfl⟩

def coR (d : mS) (n : Nat) (v r : Int32) : Prop := (∃ c, c < n ∧ d.1 68 c = v ∧ r = nI c) ∨ ((∀ c, c < n → ¬ d.1 68 c = v) ∧ r = nI 0)
theorem al_next {P : Nat → Prop} {i : Nat} (h : ∀ k, k < i → P k) (hi : P i) : ∀ k, k < i + 1 → P k := fun k hk => if q : k < i then h k q else by
  have e : k = i := by omega
  subst e
  exact hi

set_option maxHeartbeats 4000000 in
theorem kd_columnOf (G : vx_G) (d m : mS) (n : Nat) (hn : n ≤ 14) (e65 : d.1 65 0 = nI n) (v : Int32) : xK G M_X6_columnOf 0 [(.ref 172), (.int v)] NT (hp (dk d) m) 0 0 (QI (fun r n' h' => coR d n v r ∧ n' = NT ∧ h' = hp (dk d) m)) := by
  have lp : ∀ (n_ : Nat) (c : Nat), c ≤ n → n + 1 ≤ c + n_ → (∀ k, k < c → ¬ d.1 68 k = v) → xV (mF G M_X6_columnOf 0 0 0 (QI (fun r n' h' => coR d n v r ∧ n' = NT ∧ h' = hp (dk d) m))) 2 [some (.ref 172), some (.int v), some (.int (nI (c)))] [] NT (hp (dk d) m) 0 0 := by
    intro n_
    induction n_ with
    | zero => intro c hi_ hn_; omega
    | succ n_ ih =>
      intro c hi_ hn_ hc
      refine x_iload2 dX6_columnOf_2 ?_
      refine x_aload0 dX6_columnOf_3 ?_
      refine go172_1 fgX6_16 dX6_columnOf_4 ?_
      refine xV.toi (nI (n)) (e65) ?_
      refine n_icmp_ge 28 dX6_columnOf_7 (by decide) (by omega) (by omega) (fun c7 => ?_) (fun c7 => ?_)
      · refine x_iconst (nI 0) dX6_columnOf_28 (by decide) ?_
        refine x_iret dX6_columnOf_29 rfl ?_ (Nat.zero_le _) (Nat.zero_le _)
        exact ⟨Or.inr ⟨fun k hk => hc k (by omega), rfl⟩, rfl, rfl⟩
      · refine x_aload0 dX6_columnOf_10 ?_
        refine go172_4 fgX6_27 dX6_columnOf_11 ?_
        refine x_iload2 dX6_columnOf_14 ?_
        refine la190 (c) rfl (by omega) dX6_columnOf_15 ?_
        refine x_iload1 dX6_columnOf_16 ?_
        refine x_icmp_ne 22 dX6_columnOf_17 (by decide) (fun c17 => ?_) (fun c17 => ?_)
        · refine x_iinc2 (nI (c + 1)) dX6_columnOf_22 (nI_add c 1) rfl rfl rfl ?_
          refine x_goto 2 dX6_columnOf_25 (by decide) ?_
          exact ih (c + 1) (by omega) (by omega) (al_next hc c17)
        · refine x_iload2 dX6_columnOf_20 ?_
          refine x_iret dX6_columnOf_21 rfl ?_ (Nat.zero_le _) (Nat.zero_le _)
          exact ⟨Or.inl ⟨c, by omega, c17, rfl⟩, rfl, rfl⟩
  refine xK.ofV (by decide) (Nat.le_of_ble_eq_true rfl) ?_
  refine xV.lveq (L' := [some (.ref 172), some (.int v), none]) rfl ?_
  refine x_iconst (nI 0) dX6_columnOf_0 (by decide) ?_
  refine x_istore2 dX6_columnOf_1 rfl rfl rfl ?_
  exact lp (n + 1) 0 (Nat.zero_le _) (by omega) (fun c hc => absurd hc (Nat.not_lt_zero c))

def toV (d : mS) : Nat → Int32
  | 0 => nI 0
  | c + 1 => if d.1 68 c = -1 then toV d c else toV d c + d.1 (200 + nv (d.1 68 c)) c
/-- what stands in a column: none, or a row -/
def vAt (d : mS) (n : Nat) : Prop := ∀ c, c < n → d.1 68 c = -1 ∨ (d.1 68 c = nI (nv (d.1 68 c)) ∧ nv (d.1 68 c) < n)
theorem vAt_row {d : mS} {n c : Nat} (h : vAt d n) (hc : c < n) (q : ¬ d.1 68 c = -1) : d.1 68 c = nI (nv (d.1 68 c)) ∧ nv (d.1 68 c) < n := (h c hc).resolve_left q

set_option maxHeartbeats 4000000 in
theorem kd_total (G : vx_G) (d m : mS) (n : Nat) (hn : n ≤ 14) (e65 : d.1 65 0 = nI n) (hv : vAt d n) : xK G M_X6_total 0 [(.ref 172)] NT (hp (dk d) m) 0 0 (QI (fun r n' h' => r = toV d n ∧ n' = NT ∧ h' = hp (dk d) m)) := by
  have lp : ∀ (n_ : Nat) (c : Nat) (s : Int32), c ≤ n → n + 1 ≤ c + n_ → (s = toV d c) → xV (mF G M_X6_total 0 0 0 (QI (fun r n' h' => r = toV d n ∧ n' = NT ∧ h' = hp (dk d) m))) 4 [some (.ref 172), some (.int s), some (.int (nI (c)))] [] NT (hp (dk d) m) 0 0 := by
    intro n_
    induction n_ with
    | zero => intro c s hi_ hn_; omega
    | succ n_ ih =>
      intro c s hi_ hn_ hc
      refine x_iload2 dX6_total_4 ?_
      refine x_aload0 dX6_total_5 ?_
      refine go172_1 fgX6_16 dX6_total_6 ?_
      refine xV.toi (nI (n)) (e65) ?_
      refine n_icmp_ge 44 dX6_total_9 (by decide) (by omega) (by omega) (fun c9 => ?_) (fun c9 => ?_)
      · refine x_iload1 dX6_total_44 ?_
        refine x_iret dX6_total_45 rfl ?_ (Nat.zero_le _) (Nat.zero_le _)
        exact ⟨by rw [hc, show c = n by omega], rfl, rfl⟩
      · refine x_aload0 dX6_total_12 ?_
        refine go172_4 fgX6_27 dX6_total_13 ?_
        refine x_iload2 dX6_total_16 ?_
        refine la190 (c) rfl (by omega) dX6_total_17 ?_
        refine x_iconst (-1) dX6_total_18 (by decide) ?_
        refine x_icmp_eq 38 dX6_total_19 (by decide) (fun c19 => ?_) (fun c19 => ?_)
        · refine x_iinc2 (nI (c + 1)) dX6_total_38 (nI_add c 1) rfl rfl rfl ?_
          refine x_goto 4 dX6_total_41 (by decide) ?_
          first | exact ih (c + 1) _ (by omega) (by omega) (hc.trans (if_pos c19).symm) | exact ih (c + 1) _ (by omega) (by omega) ((congrArg (fun z => z + d.1 (200 + nv (d.1 68 c)) c) hc).trans (if_neg c19).symm)
        · have hr := vAt_row hv (by omega) c19
          refine x_iload1 dX6_total_22 ?_
          refine x_aload0 dX6_total_23 ?_
          refine go172_0 fgX6_11 dX6_total_24 ?_
          refine x_aload0 dX6_total_27 ?_
          refine go172_4 fgX6_27 dX6_total_28 ?_
          refine x_iload2 dX6_total_31 ?_
          refine la190 (c) rfl (by omega) dX6_total_32 ?_
          refine xV.toi (nI (nv (d.1 68 c))) (hr.1) ?_
          refine lWO (nv (d.1 68 c)) rfl (by omega) dX6_total_33 ?_
          refine x_iload2 dX6_total_34 ?_
          refine lW (by omega) (c) rfl (by omega) dX6_total_35 ?_
          refine x_iadd dX6_total_36 ?_
          refine x_istore1 dX6_total_37 rfl rfl rfl ?_
          refine x_iinc2 (nI (c + 1)) dX6_total_38 (nI_add c 1) rfl rfl rfl ?_
          refine x_goto 4 dX6_total_41 (by decide) ?_
          first | exact ih (c + 1) _ (by omega) (by omega) (hc.trans (if_pos c19).symm) | exact ih (c + 1) _ (by omega) (by omega) ((congrArg (fun z => z + d.1 (200 + nv (d.1 68 c)) c) hc).trans (if_neg c19).symm)
  refine xK.ofV (by decide) (Nat.le_of_ble_eq_true rfl) ?_
  refine xV.lveq (L' := [some (.ref 172), none, none]) rfl ?_
  refine x_iconst (nI 0) dX6_total_0 (by decide) ?_
  refine x_istore1 dX6_total_1 rfl rfl rfl ?_
  refine x_iconst (nI 0) dX6_total_2 (by decide) ?_
  refine x_istore2 dX6_total_3 rfl rfl rfl ?_
  exact lp (n + 1) 0 (nI 0) (Nat.zero_le _) (by omega) rfl

def dirV (e : mS) (R c : Nat) : Int32 := e.1 66 R + e.1 67 c - e.1 (200 + R) c
def gpS (e : mS) (C R c : Nat) : mS := if dirV e R c < e.1 72 c then mset (mset e 72 c (dirV e R c)) 73 c (nI C) else e
def ncL (d : mS) (n C R : Nat) : Nat → mS × Int32 × Nat
  | 0 => (d, nI 1000000000, n)
  | c + 1 => if (ncL d n C R c).1.1 74 c = 0 then (if (gpS (ncL d n C R c).1 C R c).1 72 c < (ncL d n C R c).2.1 then (gpS (ncL d n C R c).1 C R c, (gpS (ncL d n C R c).1 C R c).1 72 c, c) else (gpS (ncL d n C R c).1 C R c, (ncL d n C R c).2.1, (ncL d n C R c).2.2)) else ncL d n C R c
theorem gpS_ne {e : mS} {C R c j : Nat} (h1 : j ≠ 72) (h2 : j ≠ 73) : (gpS e C R c).1 j = e.1 j := by
  unfold gpS
  split
  · rw [mset_ne h2, mset_ne h1]
  · rfl
theorem gpS_y {e : mS} {C R c : Nat} (h : dirV e R c < e.1 72 c) : gpS e C R c = mset (mset e 72 c (dirV e R c)) 73 c (nI C) := if_pos h
theorem gpS_n {e : mS} {C R c : Nat} (h : ¬ dirV e R c < e.1 72 c) : gpS e C R c = e := if_neg h
section NCL
variable {d e : mS} {n C R c k : Nat} {l : Int32}
theorem ncL_r (hc : ncL d n C R c = (e, l, k)) (h : ¬ e.1 74 c = 0) : ncL d n C R (c + 1) = (e, l, k) := by
  show (if (ncL d n C R c).1.1 74 c = 0 then _ else _) = _
  rw [hc, if_neg h]
theorem ncL_a (hc : ncL d n C R c = (e, l, k)) (h : e.1 74 c = 0) (h2 : (gpS e C R c).1 72 c < l) : ncL d n C R (c + 1) = (gpS e C R c, (gpS e C R c).1 72 c, c) := by
  show (if (ncL d n C R c).1.1 74 c = 0 then _ else _) = _
  rw [hc, if_pos h, if_pos h2]
theorem ncL_b (hc : ncL d n C R c = (e, l, k)) (h : e.1 74 c = 0) (h2 : ¬ (gpS e C R c).1 72 c < l) : ncL d n C R (c + 1) = (gpS e C R c, l, k) := by
  show (if (ncL d n C R c).1.1 74 c = 0 then _ else _) = _
  rw [hc, if_pos h, if_neg h2]
end NCL
theorem ncL_ne {d : mS} {n C R j : Nat} (h1 : j ≠ 72) (h2 : j ≠ 73) : ∀ c, (ncL d n C R c).1.1 j = d.1 j
  | 0 => rfl
  | c + 1 => by
    have ih := ncL_ne (d := d) (n := n) (C := C) (R := R) h1 h2 c
    show (if (ncL d n C R c).1.1 74 c = 0 then (if (gpS (ncL d n C R c).1 C R c).1 72 c < (ncL d n C R c).2.1 then (gpS (ncL d n C R c).1 C R c, (gpS (ncL d n C R c).1 C R c).1 72 c, c) else (gpS (ncL d n C R c).1 C R c, (ncL d n C R c).2.1, (ncL d n C R c).2.2)) else ncL d n C R c).1.1 j = _
    split
    · split
      · exact (gpS_ne h1 h2).trans ih
      · exact (gpS_ne h1 h2).trans ih
    · exact ih
def ncU (e : mS) (l : Int32) : Nat → mS
  | 0 => e
  | c + 1 => if (ncU e l c).1 74 c = 0 then mset (ncU e l c) 72 c ((ncU e l c).1 72 c - l) else mset (mset (ncU e l c) 66 (nv ((ncU e l c).1 68 c)) ((ncU e l c).1 66 (nv ((ncU e l c).1 68 c)) - l)) 67 c ((ncU e l c).1 67 c + l)
theorem ncU_ne {e : mS} {l : Int32} {j : Nat} (h1 : j ≠ 72) (h2 : j ≠ 66) (h3 : j ≠ 67) : ∀ c, (ncU e l c).1 j = e.1 j
  | 0 => rfl
  | c + 1 => by
    have ih := ncU_ne (e := e) (l := l) h1 h2 h3 c
    show (if (ncU e l c).1 74 c = 0 then mset (ncU e l c) 72 c ((ncU e l c).1 72 c - l) else mset (mset (ncU e l c) 66 (nv ((ncU e l c).1 68 c)) ((ncU e l c).1 66 (nv ((ncU e l c).1 68 c)) - l)) 67 c ((ncU e l c).1 67 c + l)).1 j = _
    split
    · rw [mset_ne h1, ih]
    · rw [mset_ne h3, mset_ne h2, ih]
def ncD (d : mS) (n C R : Nat) : mS := ncU (ncL d n C R n).1 (ncL d n C R n).2.1 (n + 1)

set_option maxHeartbeats 4000000 in
theorem kd_nextColumn (G : vx_G) (d m : mS) (n : Nat) (hn : n ≤ 14) (e65 : d.1 65 0 = nI n) (C R : Nat) (hC : C ≤ n) (eR : d.1 68 C = nI R) (hR : R < 14) (hv : ∀ c, c < n + 1 → ¬ d.1 74 c = 0 → d.1 68 c = nI (nv (d.1 68 c)) ∧ nv (d.1 68 c) < 14) : xK G M_X6_nextColumn 0 [(.ref 172), (.int (nI (C)))] NT (hp (dk d) m) 0 0 (QI (fun r n' h' => r = nI (ncL d n C R n).2.2 ∧ n' = NT ∧ h' = hp (dk (ncD d n C R)) m)) := by
  have l2 : ∀ (n_ : Nat) (c : Nat) (e : mS) (l : Int32) (k : Nat), c ≤ n + 1 → n + 1 + 1 ≤ c + n_ → (ncL d n C R n = (e, l, k)) → xV (mF G M_X6_nextColumn 0 0 0 (QI (fun r n' h' => r = nI (ncL d n C R n).2.2 ∧ n' = NT ∧ h' = hp (dk (ncD d n C R)) m))) 126 [some (.ref 172), some (.int (nI (C))), some (.int (nI (R))), some (.int (nI (k))), some (.int l), some (.int (nI (c))), none] [] NT (hp (dk (ncU e l c)) m) 0 0 := by
    intro n_
    induction n_ with
    | zero => intro c e l k hi_ hn_; omega
    | succ n_ ih =>
      intro c e l k hi_ hn_ hc
      have e0 : ∀ j, j ≠ 72 → j ≠ 73 → e.1 j = d.1 j := fun j h1 h2 => by have := ncL_ne (d := d) (n := n) (C := C) (R := R) h1 h2 n; rw [hc] at this; exact this
      have e1 : ∀ j, j ≠ 72 → j ≠ 73 → j ≠ 66 → j ≠ 67 → (ncU e l c).1 j = d.1 j := fun j h1 h2 h3 h4 => (ncU_ne h1 h3 h4 c).trans (e0 j h1 h2)
      refine x_iload5 dX6_nextColumn_126 ?_
      refine x_aload0 dX6_nextColumn_128 ?_
      refine go172_1 fgX6_16 dX6_nextColumn_129 ?_
      refine xV.toi (nI (n)) ((by rw [e1 65 (by decide) (by decide) (by decide) (by decide)]; exact e65)) ?_
      refine n_icmp_gt 195 dX6_nextColumn_132 (by decide) (by omega) (by omega) (fun c132 => ?_) (fun c132 => ?_)
      · refine x_iload3 dX6_nextColumn_195 ?_
        refine x_iret dX6_nextColumn_196 rfl ?_ (Nat.zero_le _) (Nat.zero_le _)
        refine ⟨by rw [hc], rfl, ?_⟩
        unfold ncD
        rw [hc, show c = n + 1 by omega]
      · refine x_aload0 dX6_nextColumn_135 ?_
        refine go172_10 fgX6_45 dX6_nextColumn_136 ?_
        refine x_iload5 dX6_nextColumn_139 ?_
        refine la196 (c) rfl (by omega) dX6_nextColumn_141 ?_
        refine x_if_eq 177 dX6_nextColumn_142 (by decide) (fun c142 => ?_) (fun c142 => ?_)
        · refine x_aload0 dX6_nextColumn_177 ?_
          refine go172_8 fgX6_39 dX6_nextColumn_178 ?_
          refine x_iload5 dX6_nextColumn_181 ?_
          refine x_dup2 dX6_nextColumn_183 rfl rfl ?_
          refine la194 (c) rfl (by omega) dX6_nextColumn_184 ?_
          refine x_iload4 dX6_nextColumn_185 ?_
          refine x_isub dX6_nextColumn_187 ?_
          refine sa194 (c) rfl (by omega) dX6_nextColumn_188 ?_
          refine x_iinc5 (nI (c + 1)) dX6_nextColumn_189 (nI_add c 1) rfl rfl rfl ?_
          refine x_goto 126 dX6_nextColumn_192 (by decide) ?_
          first | (rw [show mset (ncU e l c) 72 c ((ncU e l c).1 72 c - l) = ncU e l (c + 1) from (if_pos c142).symm]; exact ih (c + 1) e l k (by omega) (by omega) hc) | (rw [show mset (mset (ncU e l c) 66 (nv ((ncU e l c).1 68 c)) ((ncU e l c).1 66 (nv ((ncU e l c).1 68 c)) - l)) 67 c ((ncU e l c).1 67 c + l) = ncU e l (c + 1) from (if_neg c142).symm]; exact ih (c + 1) e l k (by omega) (by omega) hc)
        · have hr := hv c (by omega) (by rw [← e1 74 (by decide) (by decide) (by decide) (by decide)]; exact c142)
          refine x_aload0 dX6_nextColumn_145 ?_
          refine go172_2 fgX6_20 dX6_nextColumn_146 ?_
          refine x_aload0 dX6_nextColumn_149 ?_
          refine go172_4 fgX6_27 dX6_nextColumn_150 ?_
          refine x_iload5 dX6_nextColumn_153 ?_
          refine la190 (c) rfl (by omega) dX6_nextColumn_155 ?_
          refine xV.toi (nI (nv ((ncU e l c).1 68 c))) ((by rw [e1 68 (by decide) (by decide) (by decide) (by decide)]; exact hr.1)) ?_
          refine x_dup2 dX6_nextColumn_156 rfl rfl ?_
          refine la188 (nv ((ncU e l c).1 68 c)) rfl ((by rw [e1 68 (by decide) (by decide) (by decide) (by decide)]; exact hr.2)) dX6_nextColumn_157 ?_
          refine x_iload4 dX6_nextColumn_158 ?_
          refine x_isub dX6_nextColumn_160 ?_
          refine sa188 (nv ((ncU e l c).1 68 c)) rfl ((by rw [e1 68 (by decide) (by decide) (by decide) (by decide)]; exact hr.2)) dX6_nextColumn_161 ?_
          refine x_aload0 dX6_nextColumn_162 ?_
          refine go172_3 fgX6_24 dX6_nextColumn_163 ?_
          refine x_iload5 dX6_nextColumn_166 ?_
          refine x_dup2 dX6_nextColumn_168 rfl rfl ?_
          refine la189 (c) rfl (by omega) dX6_nextColumn_169 ?_
          refine xV.toi ((ncU e l c).1 67 c) ((by rw [mset_ne (by decide)])) ?_
          refine x_iload4 dX6_nextColumn_170 ?_
          refine x_iadd dX6_nextColumn_172 ?_
          refine sa189 (c) rfl (by omega) dX6_nextColumn_173 ?_
          refine x_goto 189 dX6_nextColumn_174 (by decide) ?_
          refine x_iinc5 (nI (c + 1)) dX6_nextColumn_189 (nI_add c 1) rfl rfl rfl ?_
          refine x_goto 126 dX6_nextColumn_192 (by decide) ?_
          first | (rw [show mset (ncU e l c) 72 c ((ncU e l c).1 72 c - l) = ncU e l (c + 1) from (if_pos c142).symm]; exact ih (c + 1) e l k (by omega) (by omega) hc) | (rw [show mset (mset (ncU e l c) 66 (nv ((ncU e l c).1 68 c)) ((ncU e l c).1 66 (nv ((ncU e l c).1 68 c)) - l)) 67 c ((ncU e l c).1 67 c + l) = ncU e l (c + 1) from (if_neg c142).symm]; exact ih (c + 1) e l k (by omega) (by omega) hc)
  have j93 : ∀ (c : Nat) (e : mS) (l : Int32) (k : Nat) (v : Int32), (c < n) → (ncL d n C R c = (e, l, k)) → (e.1 74 c = 0) → (∀ (e2 : mS) (l2 : Int32) (k2 : Nat), ncL d n C R (c + 1) = (e2, l2, k2) → xV (mF G M_X6_nextColumn 0 0 0 (QI (fun r n' h' => r = nI (ncL d n C R n).2.2 ∧ n' = NT ∧ h' = hp (dk (ncD d n C R)) m))) 19 [some (.ref 172), some (.int (nI C)), some (.int (nI R)), some (.int (nI k2)), some (.int l2), some (.int (nI (c + 1))), none] [] NT (hp (dk e2) m) 0 0) → xV (mF G M_X6_nextColumn 0 0 0 (QI (fun r n' h' => r = nI (ncL d n C R n).2.2 ∧ n' = NT ∧ h' = hp (dk (ncD d n C R)) m))) 93 [some (.ref 172), some (.int (nI (C))), some (.int (nI (R))), some (.int (nI (k))), some (.int l), some (.int (nI (c))), some (.int v)] [] NT (hp (dk (gpS e C R c)) m) 0 0 := by
    intro c e l k v hcn hc h0 ihc
    refine x_aload0 dX6_nextColumn_93 ?_
    refine go172_8 fgX6_39 dX6_nextColumn_94 ?_
    refine x_iload5 dX6_nextColumn_97 ?_
    refine la194 (c) rfl (by omega) dX6_nextColumn_99 ?_
    refine x_iload4 dX6_nextColumn_100 ?_
    refine x_icmp_ge 117 dX6_nextColumn_102 (by decide) (fun c102 => ?_) (fun c102 => ?_)
    · refine x_iinc5 (nI (c + 1)) dX6_nextColumn_117 (nI_add c 1) rfl rfl rfl ?_
      refine x_goto 19 dX6_nextColumn_120 (by decide) ?_
      refine xV.lvle (L' := [some (.ref _), some (.int _), some (.int _), some (.int _), some (.int _), some (.int _), none]) ⟨rfl, rfl, rfl, rfl, rfl, rfl, trivial⟩ ?_
      first | exact ihc _ _ _ (ncL_a hc h0 (iNE.mp c102)) | exact ihc _ _ _ (ncL_b hc h0 (iNL.mpr c102))
    · refine x_aload0 dX6_nextColumn_105 ?_
      refine go172_8 fgX6_39 dX6_nextColumn_106 ?_
      refine x_iload5 dX6_nextColumn_109 ?_
      refine la194 (c) rfl (by omega) dX6_nextColumn_111 ?_
      refine x_istore4 dX6_nextColumn_112 rfl rfl rfl ?_
      refine x_iload5 dX6_nextColumn_114 ?_
      refine x_istore3 dX6_nextColumn_116 rfl rfl rfl ?_
      refine x_iinc5 (nI (c + 1)) dX6_nextColumn_117 (nI_add c 1) rfl rfl rfl ?_
      refine x_goto 19 dX6_nextColumn_120 (by decide) ?_
      refine xV.lvle (L' := [some (.ref _), some (.int _), some (.int _), some (.int _), some (.int _), some (.int _), none]) ⟨rfl, rfl, rfl, rfl, rfl, rfl, trivial⟩ ?_
      first | exact ihc _ _ _ (ncL_a hc h0 (iNE.mp c102)) | exact ihc _ _ _ (ncL_b hc h0 (iNL.mpr c102))
  have lp : ∀ (n_ : Nat) (c : Nat) (e : mS) (l : Int32) (k : Nat), c ≤ n → n + 1 ≤ c + n_ → (ncL d n C R c = (e, l, k)) → xV (mF G M_X6_nextColumn 0 0 0 (QI (fun r n' h' => r = nI (ncL d n C R n).2.2 ∧ n' = NT ∧ h' = hp (dk (ncD d n C R)) m))) 19 [some (.ref 172), some (.int (nI (C))), some (.int (nI (R))), some (.int (nI (k))), some (.int l), some (.int (nI (c))), none] [] NT (hp (dk e) m) 0 0 := by
    intro n_
    induction n_ with
    | zero => intro c e l k hi_ hn_; omega
    | succ n_ ih =>
      intro c e l k hi_ hn_ hc
      have e0 : ∀ j, j ≠ 72 → j ≠ 73 → e.1 j = d.1 j := fun j h1 h2 => by have := ncL_ne (d := d) (n := n) (C := C) (R := R) h1 h2 c; rw [hc] at this; exact this
      refine x_iload5 dX6_nextColumn_19 ?_
      refine x_aload0 dX6_nextColumn_21 ?_
      refine go172_1 fgX6_16 dX6_nextColumn_22 ?_
      refine xV.toi (nI (n)) ((by rw [e0 65 (by decide) (by decide)]; exact e65)) ?_
      refine n_icmp_ge 123 dX6_nextColumn_25 (by decide) (by omega) (by omega) (fun c25 => ?_) (fun c25 => ?_)
      · refine x_iconst (nI 0) dX6_nextColumn_123 (by decide) ?_
        refine x_istore5 dX6_nextColumn_124 rfl rfl rfl ?_
        have ec : c = n := by omega
        subst ec
        exact l2 (c + 2) 0 e l k (Nat.zero_le _) (by omega) hc
      · refine x_aload0 dX6_nextColumn_28 ?_
        refine go172_10 fgX6_45 dX6_nextColumn_29 ?_
        refine x_iload5 dX6_nextColumn_32 ?_
        refine la196 (c) rfl (by omega) dX6_nextColumn_34 ?_
        refine x_if_ne 117 dX6_nextColumn_35 (by decide) (fun c35 => ?_) (fun c35 => ?_)
        · refine x_iinc5 (nI (c + 1)) dX6_nextColumn_117 (nI_add c 1) rfl rfl rfl ?_
          refine x_goto 19 dX6_nextColumn_120 (by decide) ?_
          exact ih (c + 1) _ _ _ (by omega) (by omega) (ncL_r hc c35)
        · refine x_aload0 dX6_nextColumn_38 ?_
          refine go172_2 fgX6_20 dX6_nextColumn_39 ?_
          refine x_iload2 dX6_nextColumn_42 ?_
          refine la188 (R) rfl (by omega) dX6_nextColumn_43 ?_
          refine x_aload0 dX6_nextColumn_44 ?_
          refine go172_3 fgX6_24 dX6_nextColumn_45 ?_
          refine x_iload5 dX6_nextColumn_48 ?_
          refine la189 (c) rfl (by omega) dX6_nextColumn_50 ?_
          refine x_iadd dX6_nextColumn_51 ?_
          refine x_aload0 dX6_nextColumn_52 ?_
          refine go172_0 fgX6_11 dX6_nextColumn_53 ?_
          refine x_iload2 dX6_nextColumn_56 ?_
          refine lWO (R) rfl (by omega) dX6_nextColumn_57 ?_
          refine x_iload5 dX6_nextColumn_58 ?_
          refine lW (by omega) (c) rfl (by omega) dX6_nextColumn_60 ?_
          refine x_isub dX6_nextColumn_61 ?_
          refine xV.toi (dirV e R c) (rfl) ?_
          refine x_istore6 dX6_nextColumn_62 rfl rfl rfl ?_
          refine x_iload6 dX6_nextColumn_64 ?_
          refine x_aload0 dX6_nextColumn_66 ?_
          refine go172_8 fgX6_39 dX6_nextColumn_67 ?_
          refine x_iload5 dX6_nextColumn_70 ?_
          refine la194 (c) rfl (by omega) dX6_nextColumn_72 ?_
          refine x_icmp_ge 93 dX6_nextColumn_73 (by decide) (fun c73 => ?_) (fun c73 => ?_)
          · first | (rw [← gpS_n (C := C) (iNL.mpr c73)]; exact j93 c e l k _ (by omega) hc c35 (fun e2 l2 k2 h2 => ih (c + 1) e2 l2 k2 (by omega) (by omega) h2)) | (rw [← gpS_y (C := C) (iNE.mp c73)]; exact j93 c e l k _ (by omega) hc c35 (fun e2 l2 k2 h2 => ih (c + 1) e2 l2 k2 (by omega) (by omega) h2))
          · refine x_aload0 dX6_nextColumn_76 ?_
            refine go172_8 fgX6_39 dX6_nextColumn_77 ?_
            refine x_iload5 dX6_nextColumn_80 ?_
            refine x_iload6 dX6_nextColumn_82 ?_
            refine sa194 (c) rfl (by omega) dX6_nextColumn_84 ?_
            refine x_aload0 dX6_nextColumn_85 ?_
            refine go172_9 fgX6_42 dX6_nextColumn_86 ?_
            refine x_iload5 dX6_nextColumn_89 ?_
            refine x_iload1 dX6_nextColumn_91 ?_
            refine sa195 (c) rfl (by omega) dX6_nextColumn_92 ?_
            first | (rw [← gpS_n (C := C) (iNL.mpr c73)]; exact j93 c e l k _ (by omega) hc c35 (fun e2 l2 k2 h2 => ih (c + 1) e2 l2 k2 (by omega) (by omega) h2)) | (rw [← gpS_y (C := C) (iNE.mp c73)]; exact j93 c e l k _ (by omega) hc c35 (fun e2 l2 k2 h2 => ih (c + 1) e2 l2 k2 (by omega) (by omega) h2))
  refine xK.ofV (by decide) (Nat.le_of_ble_eq_true rfl) ?_
  refine xV.lveq (L' := [some (.ref 172), some (.int (nI (C))), none, none, none, none, none]) rfl ?_
  refine x_aload0 dX6_nextColumn_0 ?_
  refine go172_4 fgX6_27 dX6_nextColumn_1 ?_
  refine x_iload1 dX6_nextColumn_4 ?_
  refine la190 (C) rfl (by omega) dX6_nextColumn_5 ?_
  refine xV.toi (nI (R)) (eR) ?_
  refine x_istore2 dX6_nextColumn_6 rfl rfl rfl ?_
  refine x_aload0 dX6_nextColumn_7 ?_
  refine go172_1 fgX6_16 dX6_nextColumn_8 ?_
  refine xV.toi (nI (n)) (e65) ?_
  refine x_istore3 dX6_nextColumn_11 rfl rfl rfl ?_
  refine x_ldc kcX6_69 dX6_nextColumn_12 ?_
  refine xV.toi (nI 1000000000) (by decide) ?_
  refine x_istore4 dX6_nextColumn_14 rfl rfl rfl ?_
  refine x_iconst (nI 0) dX6_nextColumn_16 (by decide) ?_
  refine x_istore5 dX6_nextColumn_17 rfl rfl rfl ?_
  exact lp (n + 1) 0 d _ n (Nat.zero_le _) (by omega) rfl
