/-! ===== the desk's methods, 21: Sums ===== -/
def ssD (d : mS) (s : Nat) : mS := mset (mset (mset d (100 + s) 0 (nI 0)) (103 + s) 0 (nI 0)) 96 s (nI 1)
def cyD (d : mS) (s n : Nat) : mS := mset (cpD (cpD d (100 + s) 102 n) (103 + s) 105 n) 96 2 (nI n)
theorem mset_tw {m : mS} {k i : Nat} {a b : Int32} : mset (mset m k i a) k i b = mset m k i b := by
  refine Prod.ext (funext fun j => ?_) rfl
  by_cases h : j = k
  · subst h; rw [mset_same, mset_same, mset_same, fa_upd_twice]
  · rw [mset_ne h, mset_ne h, mset_ne h]

set_option maxHeartbeats 4000000 in
theorem kd_startS (G : vx_G) (d m : mS) (s : Nat) (hs : s < 3) : xK G M_X8_start 0 [(.ref (sC s))] NT (hp (dk d) m) 0 0 (QV (fun n' h' => n' = NT ∧ h' = hp (dk (ssD d s)) m)) := by
  refine xK.ofV (by decide) (Nat.le_of_ble_eq_true rfl) ?_
  refine xV.lveq (L' := [some (.ref (sC s))]) rfl ?_
  refine x_aload0 dX8_start_0 ?_
  refine gS0 (by omega) fgX8_11 dX8_start_1 ?_
  refine x_iconst (nI 0) dX8_start_4 (by decide) ?_
  refine x_iconst (nI 0) dX8_start_5 (by decide) ?_
  refine sS1 (by omega) (0) rfl (by omega) dX8_start_6 ?_
  refine x_aload0 dX8_start_7 ?_
  refine gS1 (by omega) fgX8_15 dX8_start_8 ?_
  refine x_iconst (nI 0) dX8_start_11 (by decide) ?_
  refine x_iconst (nI 0) dX8_start_12 (by decide) ?_
  refine sS2 (by omega) (0) rfl (by omega) dX8_start_13 ?_
  refine x_aload0 dX8_start_14 ?_
  refine x_iconst (nI 1) dX8_start_15 (by decide) ?_
  refine pS2 (by omega) fpX8_18 dX8_start_16 ?_
  refine x_vret dX8_start_19 rfl ?_ (Nat.zero_le _) (Nat.zero_le _)
  exact ⟨rfl, rfl⟩

set_option maxHeartbeats 4000000 in
theorem kd_copy (G : vx_G) (d m : mS) (s n : Nat) (hs : s < 2) (hn : n ≤ 512) (e96 : d.1 96 s = nI n) : xK G M_X8_copy 1 [(.ref (sC 2)), (.ref (sC s))] NT (hp (dk d) m) 0 0 (QV (fun n' h' => n' = NT ∧ h' = hp (dk (cyD d s n)) m)) := by
  have hs3 : s < 3 := by omega
  refine xK.ofV (by decide) (Nat.le_of_ble_eq_true rfl) ?_
  refine xV.lveq (L' := [some (.ref (sC 2)), some (.ref (sC s))]) rfl ?_
  refine x_aload1 dX8_copy_0 ?_
  refine gS0 (by omega) fgX8_11 dX8_copy_1 ?_
  refine x_iconst (nI 0) dX8_copy_4 (by decide) ?_
  refine x_aload0 dX8_copy_5 ?_
  refine gS0 (by omega) fgX8_11 dX8_copy_6 ?_
  refine x_iconst (nI 0) dX8_copy_9 (by decide) ?_
  refine x_aload1 dX8_copy_10 ?_
  refine gS2 (by omega) fgX8_18 dX8_copy_11 ?_
  refine xV.toi (nI (n)) (e96) ?_
  refine x_copy myX8_22 (a0 := sC s + 1) (a := sC 2 + 1) (dk_lt (sC_l1 hs3)) (dk_lt (sC_l1 (by decide))) (hd_S1 hs3) (hd_S1 (by decide)) (by decide) (by decide) (nI_nn (by omega)) (by show nv (nI 0) + nv (nI n) ≤ 512; rw [nv_nI (by decide), nv_nI (by omega)]; omega) (by show nv (nI 0) + nv (nI n) ≤ 512; rw [nv_nI (by decide), nv_nI (by omega)]; omega) (Nat.le_of_ble_eq_true rfl) (Nat.le_of_ble_eq_true rfl) dX8_copy_14 (xV.heap (d_putA (100 + 2) (va_cpy (d.1 (100 + s)) (d.1 (100 + 2)) (nI 0).toNatClampNeg (nI 0).toNatClampNeg (nI n).toNatClampNeg) (own_S (by decide)).1 (sC_l1 (by decide)) ((congrArg (ceD _) (dC_S (by decide)).2.1).trans (by simp [ceD, msetA_same, cpD]))) ?_)
  refine x_aload1 dX8_copy_17 ?_
  refine gS1 (by omega) fgX8_15 dX8_copy_18 ?_
  refine x_iconst (nI 0) dX8_copy_21 (by decide) ?_
  refine x_aload0 dX8_copy_22 ?_
  refine gS1 (by omega) fgX8_15 dX8_copy_23 ?_
  refine x_iconst (nI 0) dX8_copy_26 (by decide) ?_
  refine x_aload1 dX8_copy_27 ?_
  refine gS2 (by omega) fgX8_18 dX8_copy_28 ?_
  refine xV.toi (nI (n)) ((by show (cpD d (100 + s) 102 n).1 96 s = _; rw [cpD_ne (by decide)]; exact e96)) ?_
  refine x_copy myX8_22 (a0 := sC s + 2) (a := sC 2 + 2) (dk_lt (sC_lt hs3)) (dk_lt (sC_lt (by decide))) (hd_S2 hs3) (hd_S2 (by decide)) (by decide) (by decide) (nI_nn (by omega)) (by show nv (nI 0) + nv (nI n) ≤ 512; rw [nv_nI (by decide), nv_nI (by omega)]; omega) (by show nv (nI 0) + nv (nI n) ≤ 512; rw [nv_nI (by decide), nv_nI (by omega)]; omega) (Nat.le_of_ble_eq_true rfl) (Nat.le_of_ble_eq_true rfl) dX8_copy_31 (xV.heap (d_putA (103 + 2) (va_cpy ((cpD d (100 + s) 102 n).1 (103 + s)) ((cpD d (100 + s) 102 n).1 (103 + 2)) (nI 0).toNatClampNeg (nI 0).toNatClampNeg (nI n).toNatClampNeg) (own_S (by decide)).2 (sC_lt (by decide)) ((congrArg (ceD _) (dC_S (by decide)).2.2).trans (by simp [ceD, msetA_same, cpD]))) ?_)
  refine x_aload0 dX8_copy_34 ?_
  refine x_aload1 dX8_copy_35 ?_
  refine gS2 (by omega) fgX8_18 dX8_copy_36 ?_
  refine xV.toi (nI (n)) ((by show (cpD (cpD d (100 + s) 102 n) (103 + s) 105 n).1 96 s = _; rw [cpD_ne (by decide), cpD_ne (by decide)]; exact e96)) ?_
  refine pS2 (by omega) fpX8_18 dX8_copy_39 ?_
  refine x_vret dX8_copy_42 rfl ?_ (Nat.zero_le _) (Nat.zero_le _)
  exact ⟨rfl, rfl⟩

/-- what merging rests on -/
abbrev moK (d : mS) (q n : Nat) (a c : Int32) : Prop := (n ≤ 256 ∧ ∀ x, x < n → (-100000000 ≤ eS d q x ∧ eS d q x ≤ 100000000) ∧ 0 ≤ pS d q x ∧ pS d q x ≤ 10000000) ∧ (-8000000 ≤ a.toInt ∧ a.toInt ≤ 8000000) ∧ 0 ≤ c.toInt ∧ c.toInt ≤ 262144
abbrev plP (d : mS) (q n i : Nat) (v : Int32) : Prop := (i < n ∧ v = d.1 (100 + q) i) ∨ (i = n ∧ v = nI 1000000000)
abbrev raP (d : mS) (q n j : Nat) (a v : Int32) : Prop := (j < n ∧ v = d.1 (100 + q) j + a) ∨ (j = n ∧ v = nI 1000000000)
theorem mg_min {d : mS} {q n i j : Nat} {a c pl ra : Int32} (h : moK d q n a c) (hp : plP d q n i pl) (hr : raP d q n j a ra) (hij : i < n ∨ j < n) : (pl = (if ra < pl then ra else pl) → i < n ∧ (if ra < pl then ra else pl).toInt = eS d q i) ∧ (¬ pl = (if ra < pl then ra else pl) → i < n → (if ra < pl then ra else pl).toInt < eS d q i) ∧ (ra = (if ra < pl then ra else pl) → j < n ∧ (if ra < pl then ra else pl).toInt = eS d q j + a.toInt) ∧ (¬ ra = (if ra < pl then ra else pl) → j < n → (if ra < pl then ra else pl).toInt < eS d q j + a.toInt) := by
  have e9 : (nI 1000000000).toInt = 1000000000 := by decide
  have ad : ∀ j, j < n → (d.1 (100 + q) j + a).toInt = eS d q j + a.toInt := fun j hj => by
    have := h.1.2 j hj
    exact t_add (show -2147483648 ≤ eS d q j + a.toInt by omega) (show eS d q j + a.toInt < 2147483648 by omega)
  have pI_ : (i < n ∧ pl.toInt = eS d q i) ∨ (i = n ∧ pl.toInt = 1000000000) := by
    rcases hp with z | z
    · left; exact ⟨z.1, by rw [z.2]⟩
    · right; exact ⟨z.1, by rw [z.2]; exact e9⟩
  have rI_ : (j < n ∧ ra.toInt = eS d q j + a.toInt) ∨ (j = n ∧ ra.toInt = 1000000000) := by
    rcases hr with z | z
    · left; exact ⟨z.1, by rw [z.2]; exact ad j z.1⟩
    · right; exact ⟨z.1, by rw [z.2]; exact e9⟩
  have b1 : i < n → -100000000 ≤ eS d q i ∧ eS d q i ≤ 100000000 := fun z => (h.1.2 i z).1
  have b2 : j < n → -100000000 ≤ eS d q j ∧ eS d q j ≤ 100000000 := fun z => (h.1.2 j z).1
  by_cases g : ra < pl
  · rw [if_pos g]
    have g' := t_lt.mp g
    have ne : ¬ pl = ra := fun z => by rw [z] at g'; omega
    refine ⟨fun z => absurd z ne, fun _ hi => ?_, fun _ => ?_, fun z => absurd rfl z⟩
    · rcases pI_ with w | w <;> omega
    · rcases rI_ with w | w
      · exact w
      · exfalso
        rcases pI_ with y | y
        · have := b1 y.1; omega
        · omega
  · rw [if_neg g]
    have g' : pl.toInt ≤ ra.toInt := t_le.mp (iNL.mp g)
    refine ⟨fun _ => ?_, fun z => absurd rfl z, fun z => ?_, fun z hj => ?_⟩
    · rcases pI_ with w | w
      · exact w
      · exfalso
        rcases rI_ with y | y
        · have := b2 y.1; have := h.2.1; omega
        · omega
    · have z' : ra.toInt = pl.toInt := by rw [z]
      rcases rI_ with w | w
      · exact ⟨w.1, by rw [← z']; exact w.2⟩
      · exfalso
        rcases pI_ with y | y
        · have := b1 y.1; omega
        · omega
    · have z' : ra.toInt ≠ pl.toInt := fun q => z (t_eq.mpr q)
      rcases rI_ with w | w <;> omega
theorem mg_pr {d : mS} {q n j : Nat} {a c : Int32} (h : moK d q n a c) (hj : j < n) : (d.1 (103 + q) j + c).toInt = pS d q j + c.toInt ∧ pS d q j + c.toInt < 1000000000 := by
  have := h.1.2 j hj
  exact ⟨t_add (show -2147483648 ≤ pS d q j + c.toInt by omega) (show pS d q j + c.toInt < 2147483648 by omega), by omega⟩
theorem mg_b {d e : mS} {s q n u i j : Nat} {a c pl ra : Int32} (h : mgI d s q n a.toInt c.toInt u i j e) (hs : s < 2) (hq : ∀ x y, x < y → y < n → eS d q x < eS d q y) (ho : moK d q n a c) (hp : plP d q n i pl) (hr : raP d q n j a ra) (hij : i < n ∨ j < n) (h1 : pl = (if ra < pl then ra else pl)) (h2 : ra = (if ra < pl then ra else pl)) : mgI d s q n a.toInt c.toInt (u + 1) (i + 1) (j + 1) (mset (mset (mset e (100 + s) u (if ra < pl then ra else pl)) (103 + s) u (if d.1 (103 + q) j + c < d.1 (103 + q) i then d.1 (103 + q) j + c else d.1 (103 + q) i)) 96 s (nI (u + 1))) := by
  obtain ⟨m1, m2, m3, m4⟩ := mg_min ho hp hr hij
  have y1 := m1 h1
  have y2 := m3 h2
  have mp := mg_pr ho y2.1
  have mn := min_le (a := d.1 (103 + q) i) (b := d.1 (103 + q) j + c)
  refine mg_step h hs hq ⟨Nat.le_refl _, Nat.le_refl _, by omega⟩ (fun _ => ⟨y1.1, y1.2, t_le.mp mn.1⟩) (fun z => absurd z (by omega)) (fun _ => ⟨y2.1, y2.2, by rw [← mp.1]; exact t_le.mp mn.2⟩) (fun z => absurd z (by omega)) ?_
  by_cases g : d.1 (103 + q) j + c < d.1 (103 + q) i
  · rw [if_pos g]; exact Or.inr ⟨rfl, mp.1⟩
  · rw [if_neg g]; exact Or.inl ⟨rfl, rfl⟩
theorem mg_p {d e : mS} {s q n u i j : Nat} {a c pl ra : Int32} (h : mgI d s q n a.toInt c.toInt u i j e) (hs : s < 2) (hq : ∀ x y, x < y → y < n → eS d q x < eS d q y) (ho : moK d q n a c) (hp : plP d q n i pl) (hr : raP d q n j a ra) (hij : i < n ∨ j < n) (h1 : pl = (if ra < pl then ra else pl)) (h2 : ¬ ra = (if ra < pl then ra else pl)) : mgI d s q n a.toInt c.toInt (u + 1) (i + 1) j (mset (mset (mset e (100 + s) u (if ra < pl then ra else pl)) (103 + s) u (d.1 (103 + q) i)) 96 s (nI (u + 1))) := by
  obtain ⟨m1, m2, m3, m4⟩ := mg_min ho hp hr hij
  have y1 := m1 h1
  exact mg_step (a := 1) (b := 0) h hs hq ⟨Nat.le_refl _, by omega, by omega⟩ (fun _ => ⟨y1.1, y1.2, Int.le_refl _⟩) (fun z => absurd z (by omega)) (fun z => absurd z (by omega)) (fun _ => m4 h2) (Or.inl ⟨rfl, rfl⟩)
theorem mg_r {d e : mS} {s q n u i j : Nat} {a c pl ra : Int32} (h : mgI d s q n a.toInt c.toInt u i j e) (hs : s < 2) (hq : ∀ x y, x < y → y < n → eS d q x < eS d q y) (ho : moK d q n a c) (hp : plP d q n i pl) (hr : raP d q n j a ra) (hij : i < n ∨ j < n) (h1 : ¬ pl = (if ra < pl then ra else pl)) (h2 : ra = (if ra < pl then ra else pl)) : mgI d s q n a.toInt c.toInt (u + 1) i (j + 1) (mset (mset (mset e (100 + s) u (if ra < pl then ra else pl)) (103 + s) u (if d.1 (103 + q) j + c < nI 1000000000 then d.1 (103 + q) j + c else nI 1000000000)) 96 s (nI (u + 1))) := by
  obtain ⟨m1, m2, m3, m4⟩ := mg_min ho hp hr hij
  have y2 := m3 h2
  have mp := mg_pr ho y2.1
  have e9 : (nI 1000000000).toInt = 1000000000 := by decide
  rw [if_pos (show d.1 (103 + q) j + c < nI 1000000000 from t_lt.mpr (by rw [mp.1, e9]; exact mp.2))]
  exact mg_step (a := 0) (b := 1) h hs hq ⟨by omega, Nat.le_refl _, by omega⟩ (fun z => absurd z (by omega)) (fun _ => m2 h1) (fun _ => ⟨y2.1, y2.2, by rw [mp.1]; exact Int.le_refl _⟩) (fun z => absurd z (by omega)) (Or.inr ⟨rfl, mp.1⟩)

theorem mg_none {pl ra : Int32} (h1 : ¬ pl = (if ra < pl then ra else pl)) (h2 : ¬ ra = (if ra < pl then ra else pl)) : False := by
  by_cases q : ra < pl
  · rw [if_pos q] at h2; exact h2 rfl
  · rw [if_neg q] at h1; exact h1 rfl

set_option maxHeartbeats 4000000 in
theorem kd_merge (G : vx_G) (d m : mS) (s n : Nat) (hs : s < 2) (a c : Int32) (e96 : d.1 96 2 = nI n) (ho : moK d 2 n a c) (ho2 : ∀ x y, x < y → y < n → eS d 2 x < eS d 2 y) : xK G M_X8_merge 1 [(.ref (sC s)), (.ref (sC 2)), (.int a), (.int c)] NT (hp (dk d) m) 0 0 (QV (fun n' h' => n' = NT ∧ ∃ e u, h' = hp (dk e) m ∧ mgI d s 2 n a.toInt c.toInt u n n e)) := by
  have hs3 : s < 3 := by omega
  have j87 : ∀ (u i j : Nat) (e : mS) (pl ra : Int32), (mgI d s 2 n a.toInt c.toInt u i j e) → (u < 512) → (i < n ∨ j < n) → (plP d 2 n i pl) → (raP d 2 n j a ra) → (∀ (u2 i2 j2 : Nat) (e2 : mS), i + j < i2 + j2 → mgI d s 2 n a.toInt c.toInt u2 i2 j2 e2 → xV (mF G M_X8_merge 1 0 0 (QV (fun n' h' => n' = NT ∧ ∃ e u, h' = hp (dk e) m ∧ mgI d s 2 n a.toInt c.toInt u n n e))) 11 [some (.ref (sC s)), some (.ref (sC 2)), some (.int a), some (.int c), some (.int (nI (i2))), some (.int (nI (j2))), none, none] [] NT (hp (dk e2) m) 0 0) → xV (mF G M_X8_merge 1 0 0 (QV (fun n' h' => n' = NT ∧ ∃ e u, h' = hp (dk e) m ∧ mgI d s 2 n a.toInt c.toInt u n n e))) 87 [some (.ref (sC s)), some (.ref (sC 2)), some (.int a), some (.int c), some (.int (nI (i))), some (.int (nI (j))), some (.int pl), some (.int ra)] [] NT (hp (dk e) m) 0 0 := by
    intro u i j e pl ra h hu hij hpl hra hK
    obtain ⟨m1, m2, m3, m4⟩ := mg_min ho hpl hra hij
    have ke : ∀ k, k ≠ 100 + s → k ≠ 103 + s → k ≠ 96 → e.1 k = d.1 k := h.o
    have hb := h.b
    have hn := ho.1.1
    refine x_aload0 dX8_merge_87 ?_
    refine gS0 (by omega) fgX8_11 dX8_merge_88 ?_
    refine x_aload0 dX8_merge_91 ?_
    refine gS2 (by omega) fgX8_18 dX8_merge_92 ?_
    refine xV.toi (nI (u)) (h.w.1) ?_
    refine x_iload6 dX8_merge_95 ?_
    refine x_iload7 dX8_merge_97 ?_
    refine x_min mmX8_29 (Nat.le_of_ble_eq_true rfl) (Nat.le_of_ble_eq_true rfl) (Nat.le_of_ble_eq_true rfl) (Nat.le_of_ble_eq_true rfl) dX8_merge_99 ?_
    refine sS1 (by omega) (u) rfl (by omega) dX8_merge_102 ?_
    refine x_aload0 dX8_merge_103 ?_
    refine gS1 (by omega) fgX8_15 dX8_merge_104 ?_
    refine x_aload0 dX8_merge_107 ?_
    refine gS2 (by omega) fgX8_18 dX8_merge_108 ?_
    refine xV.toi (nI (u)) ((by rw [mset_ne (by omega)]; exact h.w.1)) ?_
    refine x_ldc kcX8_28 dX8_merge_111 ?_
    refine xV.toi (nI 1000000000) (by decide) ?_
    refine sS2 (by omega) (u) rfl (by omega) dX8_merge_113 ?_
    refine x_iload6 dX8_merge_114 ?_
    refine x_aload0 dX8_merge_116 ?_
    refine gS0 (by omega) fgX8_11 dX8_merge_117 ?_
    refine x_aload0 dX8_merge_120 ?_
    refine gS2 (by omega) fgX8_18 dX8_merge_121 ?_
    refine xV.toi (nI (u)) ((by rw [mset_ne (by omega), mset_ne (by omega)]; exact h.w.1)) ?_
    refine lS1 (by omega) (u) rfl (by omega) dX8_merge_124 ?_
    refine xV.toi ((if ra < pl then ra else pl)) ((by rw [mset_ne (by omega), mset_at])) ?_
    refine x_icmp_ne 147 dX8_merge_125 (by decide) (fun c125 => ?_) (fun c125 => ?_)
    · refine x_iload7 dX8_merge_147 ?_
      refine x_aload0 dX8_merge_149 ?_
      refine gS0 (by omega) fgX8_11 dX8_merge_150 ?_
      refine x_aload0 dX8_merge_153 ?_
      refine gS2 (by omega) fgX8_18 dX8_merge_154 ?_
      refine xV.toi (nI (u)) ((by rw [mset_ne (by omega), mset_ne (by omega)]; exact h.w.1)) ?_
      refine lS1 (by omega) (u) rfl (by omega) dX8_merge_157 ?_
      refine xV.toi ((if ra < pl then ra else pl)) ((by rw [mset_ne (by omega), mset_at])) ?_
      refine x_icmp_ne 194 dX8_merge_158 (by decide) (fun c158 => ?_) (fun c158 => ?_)
      · refine x_aload0 dX8_merge_194 ?_
        refine x_dup dX8_merge_195 rfl ?_
        refine gS2 (by omega) fgX8_18 dX8_merge_196 ?_
        refine xV.toi (nI (u)) ((by rw [mset_ne (by omega), mset_ne (by omega)]; exact h.w.1)) ?_
        refine x_iconst (nI 1) dX8_merge_199 (by decide) ?_
        refine n_iadd dX8_merge_200 ?_
        refine pS2 (by omega) fpX8_18 dX8_merge_201 ?_
        refine x_goto 11 dX8_merge_204 (by decide) ?_
        refine xV.lvle (L' := [some (.ref _), some (.ref _), some (.int _), some (.int _), some (.int _), some (.int _), none, none]) ⟨rfl, rfl, rfl, rfl, rfl, rfl, trivial⟩ ?_
        exact (mg_none c125 c158).elim
      · have hj := (m3 c158).1
        refine x_aload0 dX8_merge_161 ?_
        refine gS1 (by omega) fgX8_15 dX8_merge_162 ?_
        refine x_aload0 dX8_merge_165 ?_
        refine gS2 (by omega) fgX8_18 dX8_merge_166 ?_
        refine xV.toi (nI (u)) ((by rw [mset_ne (by omega), mset_ne (by omega)]; exact h.w.1)) ?_
        refine x_aload0 dX8_merge_169 ?_
        refine gS1 (by omega) fgX8_15 dX8_merge_170 ?_
        refine x_aload0 dX8_merge_173 ?_
        refine gS2 (by omega) fgX8_18 dX8_merge_174 ?_
        refine xV.toi (nI (u)) ((by rw [mset_ne (by omega), mset_ne (by omega)]; exact h.w.1)) ?_
        refine lS2 (by omega) (u) rfl (by omega) dX8_merge_177 ?_
        refine xV.toi (nI 1000000000) ((by rw [mset_at])) ?_
        refine x_aload1 dX8_merge_178 ?_
        refine gS1 (by omega) fgX8_15 dX8_merge_179 ?_
        refine x_iload5 dX8_merge_182 ?_
        refine lS2 (by omega) (j) rfl (by omega) dX8_merge_184 ?_
        refine xV.toi (d.1 (103 + 2) j) ((by rw [mset_ne (by omega), mset_ne (by omega), ke (103 + 2) (by omega) (by omega) (by decide)])) ?_
        refine x_iload3 dX8_merge_185 ?_
        refine x_iadd dX8_merge_186 ?_
        refine x_min mmX8_29 (Nat.le_of_ble_eq_true rfl) (Nat.le_of_ble_eq_true rfl) (Nat.le_of_ble_eq_true rfl) (Nat.le_of_ble_eq_true rfl) dX8_merge_187 ?_
        refine sS2 (by omega) (u) rfl (by omega) dX8_merge_190 ?_
        refine x_iinc5 (nI (j + 1)) dX8_merge_191 (nI_add j 1) rfl rfl rfl ?_
        refine x_aload0 dX8_merge_194 ?_
        refine x_dup dX8_merge_195 rfl ?_
        refine gS2 (by omega) fgX8_18 dX8_merge_196 ?_
        refine xV.toi (nI (u)) ((by rw [mset_ne (by omega), mset_ne (by omega), mset_ne (by omega)]; exact h.w.1)) ?_
        refine x_iconst (nI 1) dX8_merge_199 (by decide) ?_
        refine n_iadd dX8_merge_200 ?_
        refine pS2 (by omega) fpX8_18 dX8_merge_201 ?_
        refine x_goto 11 dX8_merge_204 (by decide) ?_
        refine xV.lvle (L' := [some (.ref _), some (.ref _), some (.int _), some (.int _), some (.int _), some (.int _), none, none]) ⟨rfl, rfl, rfl, rfl, rfl, rfl, trivial⟩ ?_
        rw [mset_tw]
        exact hK _ _ _ _ (by omega) (mg_r h hs ho2 ho hpl hra hij c125 c158)
    · have hi := (m1 c125).1
      refine x_aload0 dX8_merge_128 ?_
      refine gS1 (by omega) fgX8_15 dX8_merge_129 ?_
      refine x_aload0 dX8_merge_132 ?_
      refine gS2 (by omega) fgX8_18 dX8_merge_133 ?_
      refine xV.toi (nI (u)) ((by rw [mset_ne (by omega), mset_ne (by omega)]; exact h.w.1)) ?_
      refine x_aload1 dX8_merge_136 ?_
      refine gS1 (by omega) fgX8_15 dX8_merge_137 ?_
      refine x_iload4 dX8_merge_140 ?_
      refine lS2 (by omega) (i) rfl (by omega) dX8_merge_142 ?_
      refine xV.toi (d.1 (103 + 2) i) ((by rw [mset_ne (by omega), mset_ne (by omega), ke (103 + 2) (by omega) (by omega) (by decide)])) ?_
      refine sS2 (by omega) (u) rfl (by omega) dX8_merge_143 ?_
      refine x_iinc4 (nI (i + 1)) dX8_merge_144 (nI_add i 1) rfl rfl rfl ?_
      refine x_iload7 dX8_merge_147 ?_
      refine x_aload0 dX8_merge_149 ?_
      refine gS0 (by omega) fgX8_11 dX8_merge_150 ?_
      refine x_aload0 dX8_merge_153 ?_
      refine gS2 (by omega) fgX8_18 dX8_merge_154 ?_
      refine xV.toi (nI (u)) ((by rw [mset_ne (by omega), mset_ne (by omega), mset_ne (by omega)]; exact h.w.1)) ?_
      refine lS1 (by omega) (u) rfl (by omega) dX8_merge_157 ?_
      refine xV.toi ((if ra < pl then ra else pl)) ((by rw [mset_ne (by omega), mset_ne (by omega), mset_at])) ?_
      refine x_icmp_ne 194 dX8_merge_158 (by decide) (fun c158 => ?_) (fun c158 => ?_)
      · refine x_aload0 dX8_merge_194 ?_
        refine x_dup dX8_merge_195 rfl ?_
        refine gS2 (by omega) fgX8_18 dX8_merge_196 ?_
        refine xV.toi (nI (u)) ((by rw [mset_ne (by omega), mset_ne (by omega), mset_ne (by omega)]; exact h.w.1)) ?_
        refine x_iconst (nI 1) dX8_merge_199 (by decide) ?_
        refine n_iadd dX8_merge_200 ?_
        refine pS2 (by omega) fpX8_18 dX8_merge_201 ?_
        refine x_goto 11 dX8_merge_204 (by decide) ?_
        refine xV.lvle (L' := [some (.ref _), some (.ref _), some (.int _), some (.int _), some (.int _), some (.int _), none, none]) ⟨rfl, rfl, rfl, rfl, rfl, rfl, trivial⟩ ?_
        rw [mset_tw]
        exact hK _ _ _ _ (by omega) (mg_p h hs ho2 ho hpl hra hij c125 c158)
      · have hj := (m3 c158).1
        refine x_aload0 dX8_merge_161 ?_
        refine gS1 (by omega) fgX8_15 dX8_merge_162 ?_
        refine x_aload0 dX8_merge_165 ?_
        refine gS2 (by omega) fgX8_18 dX8_merge_166 ?_
        refine xV.toi (nI (u)) ((by rw [mset_ne (by omega), mset_ne (by omega), mset_ne (by omega)]; exact h.w.1)) ?_
        refine x_aload0 dX8_merge_169 ?_
        refine gS1 (by omega) fgX8_15 dX8_merge_170 ?_
        refine x_aload0 dX8_merge_173 ?_
        refine gS2 (by omega) fgX8_18 dX8_merge_174 ?_
        refine xV.toi (nI (u)) ((by rw [mset_ne (by omega), mset_ne (by omega), mset_ne (by omega)]; exact h.w.1)) ?_
        refine lS2 (by omega) (u) rfl (by omega) dX8_merge_177 ?_
        refine xV.toi (d.1 (103 + 2) i) ((by rw [mset_at])) ?_
        refine x_aload1 dX8_merge_178 ?_
        refine gS1 (by omega) fgX8_15 dX8_merge_179 ?_
        refine x_iload5 dX8_merge_182 ?_
        refine lS2 (by omega) (j) rfl (by omega) dX8_merge_184 ?_
        refine xV.toi (d.1 (103 + 2) j) ((by rw [mset_ne (by omega), mset_ne (by omega), mset_ne (by omega), ke (103 + 2) (by omega) (by omega) (by decide)])) ?_
        refine x_iload3 dX8_merge_185 ?_
        refine x_iadd dX8_merge_186 ?_
        refine x_min mmX8_29 (Nat.le_of_ble_eq_true rfl) (Nat.le_of_ble_eq_true rfl) (Nat.le_of_ble_eq_true rfl) (Nat.le_of_ble_eq_true rfl) dX8_merge_187 ?_
        refine sS2 (by omega) (u) rfl (by omega) dX8_merge_190 ?_
        refine x_iinc5 (nI (j + 1)) dX8_merge_191 (nI_add j 1) rfl rfl rfl ?_
        refine x_aload0 dX8_merge_194 ?_
        refine x_dup dX8_merge_195 rfl ?_
        refine gS2 (by omega) fgX8_18 dX8_merge_196 ?_
        refine xV.toi (nI (u)) ((by rw [mset_ne (by omega), mset_ne (by omega), mset_ne (by omega), mset_ne (by omega)]; exact h.w.1)) ?_
        refine x_iconst (nI 1) dX8_merge_199 (by decide) ?_
        refine n_iadd dX8_merge_200 ?_
        refine pS2 (by omega) fpX8_18 dX8_merge_201 ?_
        refine x_goto 11 dX8_merge_204 (by decide) ?_
        refine xV.lvle (L' := [some (.ref _), some (.ref _), some (.int _), some (.int _), some (.int _), some (.int _), none, none]) ⟨rfl, rfl, rfl, rfl, rfl, rfl, trivial⟩ ?_
        rw [mset_tw, mset_tw]
        exact hK _ _ _ _ (by omega) (mg_b h hs ho2 ho hpl hra hij c125 c158)
  have j39 : ∀ (u i j : Nat) (e : mS), (mgI d s 2 n a.toInt c.toInt u i j e) → (u < 512) → (i < n ∨ j < n) → (∀ (u2 i2 j2 : Nat) (e2 : mS), i + j < i2 + j2 → mgI d s 2 n a.toInt c.toInt u2 i2 j2 e2 → xV (mF G M_X8_merge 1 0 0 (QV (fun n' h' => n' = NT ∧ ∃ e u, h' = hp (dk e) m ∧ mgI d s 2 n a.toInt c.toInt u n n e))) 11 [some (.ref (sC s)), some (.ref (sC 2)), some (.int a), some (.int c), some (.int (nI (i2))), some (.int (nI (j2))), none, none] [] NT (hp (dk e2) m) 0 0) → xV (mF G M_X8_merge 1 0 0 (QV (fun n' h' => n' = NT ∧ ∃ e u, h' = hp (dk e) m ∧ mgI d s 2 n a.toInt c.toInt u n n e))) 39 [some (.ref (sC s)), some (.ref (sC 2)), some (.int a), some (.int c), some (.int (nI (i))), some (.int (nI (j))), none, none] [] NT (hp (dk e) m) 0 0 := by
    intro u i j e h hu hij hK
    have ke : ∀ k, k ≠ 100 + s → k ≠ 103 + s → k ≠ 96 → e.1 k = d.1 k := h.o
    have hb := h.b
    have hn := ho.1.1
    refine x_iload4 dX8_merge_39 ?_
    refine x_aload1 dX8_merge_41 ?_
    refine gS2 (by omega) fgX8_18 dX8_merge_42 ?_
    refine xV.toi (nI (n)) ((h.w.2 2 (by omega)).trans e96) ?_
    refine n_icmp_ge 58 dX8_merge_45 (by decide) (by omega) (by omega) (fun c45 => ?_) (fun c45 => ?_)
    · have hpl : plP d 2 n i (nI 1000000000) := Or.inr ⟨by omega, rfl⟩
      refine x_ldc kcX8_28 dX8_merge_58 ?_
      refine xV.toi (nI 1000000000) (by decide) ?_
      refine x_istore6 dX8_merge_60 rfl rfl rfl ?_
      refine x_iload5 dX8_merge_62 ?_
      refine x_aload1 dX8_merge_64 ?_
      refine gS2 (by omega) fgX8_18 dX8_merge_65 ?_
      refine xV.toi (nI (n)) ((h.w.2 2 (by omega)).trans e96) ?_
      refine n_icmp_ge 83 dX8_merge_68 (by decide) (by omega) (by omega) (fun c68 => ?_) (fun c68 => ?_)
      · have hra : raP d 2 n j a (nI 1000000000) := Or.inr ⟨by omega, rfl⟩
        refine x_ldc kcX8_28 dX8_merge_83 ?_
        refine xV.toi (nI 1000000000) (by decide) ?_
        refine x_istore7 dX8_merge_85 rfl rfl rfl ?_
        exact j87 u i j e _ _ h hu hij hpl hra hK
      · have hra : raP d 2 n j a (d.1 (100 + 2) j + a) := Or.inl ⟨c68, rfl⟩
        refine x_aload1 dX8_merge_71 ?_
        refine gS0 (by omega) fgX8_11 dX8_merge_72 ?_
        refine x_iload5 dX8_merge_75 ?_
        refine lS1 (by omega) (j) rfl (by omega) dX8_merge_77 ?_
        refine xV.toi (d.1 (100 + 2) j) ((by rw [ke (100 + 2) (by omega) (by omega) (by decide)])) ?_
        refine x_iload2 dX8_merge_78 ?_
        refine x_iadd dX8_merge_79 ?_
        refine x_goto 85 dX8_merge_80 (by decide) ?_
        refine x_istore7 dX8_merge_85 rfl rfl rfl ?_
        exact j87 u i j e _ _ h hu hij hpl hra hK
    · have hpl : plP d 2 n i (d.1 (100 + 2) i) := Or.inl ⟨c45, rfl⟩
      refine x_aload1 dX8_merge_48 ?_
      refine gS0 (by omega) fgX8_11 dX8_merge_49 ?_
      refine x_iload4 dX8_merge_52 ?_
      refine lS1 (by omega) (i) rfl (by omega) dX8_merge_54 ?_
      refine xV.toi (d.1 (100 + 2) i) ((by rw [ke (100 + 2) (by omega) (by omega) (by decide)])) ?_
      refine x_goto 60 dX8_merge_55 (by decide) ?_
      refine x_istore6 dX8_merge_60 rfl rfl rfl ?_
      refine x_iload5 dX8_merge_62 ?_
      refine x_aload1 dX8_merge_64 ?_
      refine gS2 (by omega) fgX8_18 dX8_merge_65 ?_
      refine xV.toi (nI (n)) ((h.w.2 2 (by omega)).trans e96) ?_
      refine n_icmp_ge 83 dX8_merge_68 (by decide) (by omega) (by omega) (fun c68 => ?_) (fun c68 => ?_)
      · have hra : raP d 2 n j a (nI 1000000000) := Or.inr ⟨by omega, rfl⟩
        refine x_ldc kcX8_28 dX8_merge_83 ?_
        refine xV.toi (nI 1000000000) (by decide) ?_
        refine x_istore7 dX8_merge_85 rfl rfl rfl ?_
        exact j87 u i j e _ _ h hu hij hpl hra hK
      · have hra : raP d 2 n j a (d.1 (100 + 2) j + a) := Or.inl ⟨c68, rfl⟩
        refine x_aload1 dX8_merge_71 ?_
        refine gS0 (by omega) fgX8_11 dX8_merge_72 ?_
        refine x_iload5 dX8_merge_75 ?_
        refine lS1 (by omega) (j) rfl (by omega) dX8_merge_77 ?_
        refine xV.toi (d.1 (100 + 2) j) ((by rw [ke (100 + 2) (by omega) (by omega) (by decide)])) ?_
        refine x_iload2 dX8_merge_78 ?_
        refine x_iadd dX8_merge_79 ?_
        refine x_goto 85 dX8_merge_80 (by decide) ?_
        refine x_istore7 dX8_merge_85 rfl rfl rfl ?_
        exact j87 u i j e _ _ h hu hij hpl hra hK
  have lp : ∀ (n_ : Nat) (u i j : Nat) (e : mS), i + j ≤ 2 * n → 2 * n + 1 ≤ i + j + n_ → (mgI d s 2 n a.toInt c.toInt u i j e) → xV (mF G M_X8_merge 1 0 0 (QV (fun n' h' => n' = NT ∧ ∃ e u, h' = hp (dk e) m ∧ mgI d s 2 n a.toInt c.toInt u n n e))) 11 [some (.ref (sC s)), some (.ref (sC 2)), some (.int a), some (.int c), some (.int (nI (i))), some (.int (nI (j))), none, none] [] NT (hp (dk e) m) 0 0 := by
    intro n_
    induction n_ with
    | zero => intro u i j e hi_ hn_; omega
    | succ n_ ih =>
      intro u i j e hi_ hn_ h
      have hb := h.b
      have hn := ho.1.1
      refine x_aload0 dX8_merge_11 ?_
      refine gS2 (by omega) fgX8_18 dX8_merge_12 ?_
      refine xV.toi (nI (u)) (h.w.1) ?_
      refine x_sipush (nI 512) dX8_merge_15 (by decide) ?_
      refine n_icmp_ge 207 dX8_merge_18 (by decide) (by omega) (by omega) (fun c18 => ?_) (fun c18 => ?_)
      · refine x_vret dX8_merge_207 rfl ?_ (Nat.zero_le _) (Nat.zero_le _)
        have e1 : i = n := by omega
        have e2 : j = n := by omega
        subst e1
        subst e2
        exact ⟨rfl, _, _, rfl, h⟩
      · refine x_iload4 dX8_merge_21 ?_
        refine x_aload1 dX8_merge_23 ?_
        refine gS2 (by omega) fgX8_18 dX8_merge_24 ?_
        refine xV.toi (nI (n)) ((h.w.2 2 (by omega)).trans e96) ?_
        refine n_icmp_lt 39 dX8_merge_27 (by decide) (by omega) (by omega) (fun c27 => ?_) (fun c27 => ?_)
        · first | exact j39 u i j e h (by omega) (Or.inl c27) (fun u2 i2 j2 e2 hl h2 => ih u2 i2 j2 e2 (by have := h2.b; omega) (by omega) h2) | exact j39 u i j e h (by omega) (Or.inr (by omega)) (fun u2 i2 j2 e2 hl h2 => ih u2 i2 j2 e2 (by have := h2.b; omega) (by omega) h2)
        · refine x_iload5 dX8_merge_30 ?_
          refine x_aload1 dX8_merge_32 ?_
          refine gS2 (by omega) fgX8_18 dX8_merge_33 ?_
          refine xV.toi (nI (n)) ((h.w.2 2 (by omega)).trans e96) ?_
          refine n_icmp_ge 207 dX8_merge_36 (by decide) (by omega) (by omega) (fun c36 => ?_) (fun c36 => ?_)
          · refine x_vret dX8_merge_207 rfl ?_ (Nat.zero_le _) (Nat.zero_le _)
            have e1 : i = n := by omega
            have e2 : j = n := by omega
            subst e1
            subst e2
            exact ⟨rfl, _, _, rfl, h⟩
          · first | exact j39 u i j e h (by omega) (Or.inl c27) (fun u2 i2 j2 e2 hl h2 => ih u2 i2 j2 e2 (by have := h2.b; omega) (by omega) h2) | exact j39 u i j e h (by omega) (Or.inr (by omega)) (fun u2 i2 j2 e2 hl h2 => ih u2 i2 j2 e2 (by have := h2.b; omega) (by omega) h2)
  refine xK.ofV (by decide) (Nat.le_of_ble_eq_true rfl) ?_
  refine xV.lveq (L' := [some (.ref (sC s)), some (.ref (sC 2)), some (.int a), some (.int c), none, none, none, none]) rfl ?_
  refine x_iconst (nI 0) dX8_merge_0 (by decide) ?_
  refine x_istore4 dX8_merge_1 rfl rfl rfl ?_
  refine x_iconst (nI 0) dX8_merge_3 (by decide) ?_
  refine x_istore5 dX8_merge_4 rfl rfl rfl ?_
  refine x_aload0 dX8_merge_6 ?_
  refine x_iconst (nI 0) dX8_merge_7 (by decide) ?_
  refine pS2 (by omega) fpX8_18 dX8_merge_8 ?_
  exact lp (2 * n + 1) 0 0 0 _ (by omega) (by omega) mgI_0
