/-! ===== the desk's methods, 15: best ===== -/
def iKn (d : mS) : Prop := ∀ b, b < 2 → ∀ i, i < nL d b → nI 0 ≤ d.1 7 0 - d.1 4 (80 * b + i)
theorem bA_c {d : mS} {b : Nat} (hb : b < 2) (h : iKn d) : nI (fb_ct (brA d b (nI 0)) (nL d b)) = nI (cBr d b) := by
  unfold cBr
  rw [fb_ct_cong (p := brA d b (nI 0)) (q := brF d (80 * b)) (fun k hk => ?_)]
  show decide (d.1 5 (80 * b + k) < 0 ∧ nI 0 ≤ d.1 7 0 - d.1 4 (80 * b + k)) = decide (d.1 5 (80 * b + k) < 0)
  by_cases q : d.1 5 (80 * b + k) < 0
  · rw [decide_eq_true q, decide_eq_true ⟨q, h b hb k hk⟩]
  · rw [decide_eq_false q, decide_eq_false (fun z => q z.1)]
def fD (d g : mS) (i j : Nat) : Int32 := fitV d (nv (g.1 57 i)) (80 + nv (g.1 58 j))
theorem ga_row {d g : mS} {n0 n1 r : Nat} (h : gaR d n0 n1 g) (hr : r < cBr d 0) (h14 : cBr d 0 ≤ 14) : ∃ a, a < nL d 0 ∧ g.1 57 r = nI a := by
  obtain ⟨a, a1, a2, a3⟩ := fb_ct_kth (p := brF d (80 * 0)) (n := nL d 0) hr
  exact ⟨a, a1, by rw [← h.2.1 a a1 a2 (by show fb_ct (brF d (80 * 0)) a < 14; omega)]; show g.1 57 r = g.1 57 (fb_ct (brF d (80 * 0)) a); rw [a3]⟩
theorem ga_col {d g : mS} {n0 n1 r : Nat} (h : gaR d n0 n1 g) (hr : r < cBr d 1) (h14 : cBr d 1 ≤ 14) : ∃ a, a < nL d 1 ∧ g.1 58 r = nI a := by
  obtain ⟨a, a1, a2, a3⟩ := fb_ct_kth (p := brF d (80 * 1)) (n := nL d 1) hr
  exact ⟨a, a1, by rw [← h.2.2.1 a a1 a2 (by show fb_ct (brF d (80 * 1)) a < 14; omega)]; show g.1 58 r = g.1 58 (fb_ct (brF d (80 * 1)) a); rw [a3]⟩
/-- the table, filled up to a place -/
def tbR (d g : mS) (n1 r c : Nat) (e : mS) : Prop := (∀ j, j < 200 → e.1 j = g.1 j) ∧ ∀ i j, i < 14 → j < 14 → e.1 (200 + i) j = if (i < r ∧ j < n1) ∨ (i = r ∧ j < c) then fD d g i j else g.1 (200 + i) j
theorem tbR_0 (d g : mS) (n1 : Nat) : tbR d g n1 0 0 g := ⟨fun _ _ => rfl, fun i j _ _ => (if_neg (by omega)).symm⟩
theorem tbR_row {d g e : mS} {n1 r : Nat} (h : tbR d g n1 r n1 e) : tbR d g n1 (r + 1) 0 e := by
  refine ⟨h.1, fun i j hi hj => ?_⟩
  rw [h.2 i j hi hj]
  by_cases q : (i < r ∧ j < n1) ∨ (i = r ∧ j < n1)
  · rw [if_pos q, if_pos (by omega)]
  · rw [if_neg q, if_neg (by omega)]
theorem tbR_next {d g e : mS} {n1 r c : Nat} (h : tbR d g n1 r c e) : tbR d g n1 r (c + 1) (mset e (200 + r) c (fD d g r c)) := by
  refine ⟨fun j hj => by rw [mset_ne (by omega)]; exact h.1 j hj, fun i j hi hj => ?_⟩
  by_cases z : i = r
  · subst z
    by_cases y : j = c
    · subst y; rw [mset_at, if_pos (Or.inr ⟨rfl, by omega⟩)]
    · rw [mset_off y, h.2 i j hi hj]
      by_cases q : (i < i ∧ j < n1) ∨ (i = i ∧ j < c)
      · rw [if_pos q, if_pos (by omega)]
      · rw [if_neg q, if_neg (by omega)]
  · rw [mset_ne (by omega), h.2 i j hi hj]
    by_cases q : (i < r ∧ j < n1) ∨ (i = r ∧ j < c)
    · rw [if_pos q, if_pos (by omega)]
    · rw [if_neg q, if_neg (by omega)]
theorem tb_end {d g e : mS} {n0 n1 : Nat} (h0 : n0 ≤ 14) (h1 : n1 ≤ 14) (hg : gaR d n0 n1 g) (hb : ∀ i j, i < n0 → j < n1 → 0 ≤ (fD d g i j).toInt ∧ (fD d g i j).toInt ≤ 230) (h : tbR d g n1 n0 0 e) : alI e (max n0 n1) 0 e ∧ dR e (max n0 n1) (fD d g) n0 n1 ∧ (∀ j, j < max n0 n1 → e.1 75 j = 0) ∧ e.1 61 0 = nI n0 := by
  obtain ⟨g1, g2, g3, g4, g5, g6, g7, g8, g9, g10, g11⟩ := hg
  have w : ∀ i j, i < 14 → j < 14 → e.1 (200 + i) j = if i < n0 ∧ j < n1 then fD d g i j else g.1 (200 + i) j := fun i j hi hj => by
    rw [h.2 i j hi hj]
    by_cases q : i < n0 ∧ j < n1
    · rw [if_pos q, if_pos (Or.inl q)]
    · rw [if_neg q, if_neg (by omega)]
  have z0 : ((0 : Int32)).toInt = 0 := by decide
  have wz : ∀ i j, i < max n0 n1 → j < max n0 n1 → (n0 ≤ i ∨ n1 ≤ j) → ww e i j = 0 := fun i j hi hj hq => by
    show (e.1 (200 + i) j).toInt = 0
    rw [w i j (by omega) (by omega), if_neg (by omega), g11 i hi j (by omega)]; exact z0
  have e68 : ∀ c, c < max n0 n1 → e.1 68 c = -1 := fun c hc => by rw [h.1 68 (by decide)]; exact g9 c (by omega)
  have e67 : ∀ c, c < max n0 n1 → vv e c = 0 := fun c hc => by show (e.1 67 c).toInt = 0; rw [h.1 67 (by decide), g8 c (by omega)]; exact z0
  have e66 : ∀ c, c < max n0 n1 → uu e c = 0 := fun c hc => by show (e.1 66 c).toInt = 0; rw [h.1 66 (by decide), g7 c (by omega)]; exact z0
  refine ⟨⟨⟨⟨by rw [h.1 65 (by decide)]; exact g6, by omega, ?_⟩, ⟨fun c hc => Or.inl (e68 c hc), fun c c' hc _ q => absurd (e68 c hc) q, fun r _ q => absurd q (Nat.not_lt_zero r)⟩, ⟨fun r _ q => absurd q (Nat.not_lt_zero r), fun c hc q => absurd (e68 c hc) q, fun c hc => by rw [e67 c hc]; omega, fun r _ q => absurd q (Nat.not_lt_zero r)⟩⟩, fun c hc _ => e67 c hc, fun q hq _ => e66 q hq, fun _ _ _ _ _ _ _ => rfl⟩, ⟨⟨by omega, by omega⟩, fun i j hi hj => by rw [w i j (by omega) (by omega), if_pos ⟨hi, hj⟩], wz⟩, fun j hj => by rw [h.1 75 (by decide)]; exact g10 j hj, by rw [h.1 61 (by decide)]; exact g4⟩
  intro i j hi hj
  by_cases q : i < n0 ∧ j < n1
  · show 0 ≤ (e.1 (200 + i) j).toInt ∧ (e.1 (200 + i) j).toInt ≤ 230
    rw [w i j (by omega) (by omega), if_pos q]
    exact hb i j q.1 q.2
  · rw [wz i j hi hj (by omega)]; omega
abbrev bsY (d : mS) (r : Int32) (g : mS) : Prop := r = rk (fD d g) (noP (-1) (-1)) (cBr d 0) (cBr d 1) (cBr d 0) 0 ∧ g.1 63 0 = r ∧ (∀ k, k < cBr d 0 → g.1 59 k = pI (fD d g) (cBr d 0) (cBr d 1) k) ∧ (∀ k, k < cBr d 0 → g.1 60 k = rvV (fD d g) (cBr d 0) (cBr d 1) k) ∧ (∀ a, a < nL d 0 → brF d 0 a = true → g.1 57 (fb_ct (brF d 0) a) = nI a) ∧ (∀ a, a < nL d 1 → brF d 80 a = true → g.1 58 (fb_ct (brF d 80) a) = nI a) ∧ g.1 61 0 = nI (cBr d 0) ∧ g.1 62 0 = nI (cBr d 1) ∧ g.1 64 0 = d.1 50 0 ∧ ∀ j, j < 57 ∨ (76 ≤ j ∧ j < 200) → g.1 j = d.1 j
def bsD (d : mS) (r : Int32) (g : mS) : Prop := if 14 < cBr d 0 ∨ 14 < cBr d 1 then r = -4 ∧ g = d else bsY d r g
theorem bsD_big {d : mS} (h : 14 < cBr d 0 ∨ 14 < cBr d 1) : bsD d (-4) d := by unfold bsD; rw [if_pos h]; exact ⟨rfl, rfl⟩
theorem ct_lt_all {p : Nat → Bool} {a n : Nat} (h : a < n) (hp : p a = true) : fb_ct p a < fb_ct p n := by
  have h1 := fb_ct_mono p (m := a + 1) (n := n) (by omega)
  rw [fb_ct_succ, if_pos hp] at h1
  omega
theorem bs_end {d g e f : mS} (h0 : cBr d 0 ≤ 14) (h1 : cBr d 1 ≤ 14) (hg : gaR d (cBr d 0) (cBr d 1) g) (ht : tbR d g (cBr d 1) (cBr d 0) 0 e) (hf : fnR e (fD d g) (cBr d 0) (cBr d 1) f) (v : Int32) (hv : v = d.1 50 0) : bsD d (f.1 63 0) (mset f 64 0 v) := by
  obtain ⟨f1, f2, f3, f4⟩ := hf
  have k : ∀ j, j ≠ 64 → jF j → j < 200 → (mset f 64 0 v).1 j = g.1 j := fun j a b c => (mset_ne a).trans ((f4 j b).trans (ht.1 j c))
  have ef : fD d (mset f 64 0 v) = fD d g := by
    unfold fD
    rw [k 57 (by decide) (by omega) (by decide), k 58 (by decide) (by omega) (by decide)]
  unfold bsD
  rw [if_neg (by omega)]
  unfold bsY
  rw [ef]
  refine ⟨f1, by rw [mset_ne (by decide)], fun i hi => by rw [mset_ne (by decide)]; exact f2 i hi, fun i hi => by rw [mset_ne (by decide)]; exact f3 i hi, fun a p q => ?_, fun a p q => ?_, ?_, ?_, ?_, fun j hj => ?_⟩
  · rw [k 57 (by decide) (by omega) (by decide)]
    exact hg.2.1 a p q (by have := ct_lt_all (n := nL d 0) p q; have e9 : fb_ct (brF d 0) (nL d 0) = cBr d 0 := rfl; omega)
  · rw [k 58 (by decide) (by omega) (by decide)]
    exact hg.2.2.1 a p q (by have := ct_lt_all (n := nL d 1) p q; have e9 : fb_ct (brF d 80) (nL d 1) = cBr d 1 := rfl; omega)
  · rw [k 61 (by decide) (by omega) (by decide)]; exact hg.2.2.2.1
  · rw [k 62 (by decide) (by omega) (by decide)]; exact hg.2.2.2.2.1
  · rw [mset_at]; exact hv
  · rw [k j (by omega) (by omega) (by omega)]; exact hg.1 j (by omega)

set_option maxHeartbeats 4000000 in
theorem kd_best (G : vx_G) (d m : mS) (hL : iL d) (hN : dN d) (hG : iG d) (hp_ : dP d) (hM : iMs d) (hF : iF d) (hkn : iKn d) : xK G M_X9_best 20 [(.ref 0)] NT (hp (dk d) m) 0 0 (QI (fun r n' h' => n' = NT ∧ ∃ g, h' = hp (dk g) m ∧ bsD d r g)) := by
  have hb0 := fb_ct_le (brF d (80 * 0)) (nL d 0)
  have hb1 := fb_ct_le (brF d (80 * 1)) (nL d 1)
  have hl0 := (hL 0 (by decide)).2
  have hl1 := (hL 1 (by decide)).2
  have hc0 : cBr d 0 ≤ 80 := by show fb_ct (brF d (80 * 0)) (nL d 0) ≤ 80; omega
  have hc1 : cBr d 1 ≤ 80 := by show fb_ct (brF d (80 * 1)) (nL d 1) ≤ 80; omega
  have l2 : ∀ (h14a : cBr d 0 ≤ 14) (h14b : cBr d 1 ≤ 14) (r a : Nat) (g : mS), (r < cBr d 0) → (a < nL d 0) → (g.1 57 r = nI a) → (gaR d (cBr d 0) (cBr d 1) g) → (∀ e2, tbR d g (cBr d 1) (r + 1) 0 e2 → xV (mF G M_X9_best 20 0 0 (QI (fun r n' h' => n' = NT ∧ ∃ g, h' = hp (dk g) m ∧ bsD d r g))) 62 [some (.ref 0), some (.int (nI (r + 1))), none, none, none] [] NT (hp (dk e2) m) 0 0) → ∀ (n_ : Nat) (c : Nat) (e : mS), c ≤ cBr d 1 → cBr d 1 + 1 ≤ c + n_ → (tbR d g (cBr d 1) r c e) → xV (mF G M_X9_best 20 0 0 (QI (fun r n' h' => n' = NT ∧ ∃ g, h' = hp (dk g) m ∧ bsD d r g))) 95 [some (.ref 0), some (.int (nI (r))), some (.ref (lC (80 * 0 + a))), some (.int (nI (c))), none] [] NT (hp (dk e) m) 0 0 := by
    intro h14a h14b r a g hr ha ea hg hK
    intro n_
    induction n_ with
    | zero => intro c e hi_ hn_; omega
    | succ n_ ih =>
      intro c e hi_ hn_ ht
      have ke : ∀ j, j < 57 → e.1 j = d.1 j := fun j hj => (ht.1 j (by omega)).trans (hg.1 j (by omega))
      refine x_iload3 dX9_best_95 ?_
      refine x_aload0 dX9_best_96 ?_
      refine go0_3 fgX9_34 dX9_best_97 ?_
      refine go171_6 fgX9_147 dX9_best_100 ?_
      refine xV.toi (nI (cBr d 1)) ((by rw [ht.1 62 (by decide)]; exact hg.2.2.2.2.1)) ?_
      refine n_icmp_ge 154 dX9_best_103 (by decide) (by omega) (by omega) (fun c103 => ?_) (fun c103 => ?_)
      · refine x_iinc1 (nI (r + 1)) dX9_best_154 (nI_add r 1) rfl rfl rfl ?_
        refine x_goto 62 dX9_best_157 (by decide) ?_
        refine xV.lvle (L' := [some (.ref _), some (.int _), none, none, none]) ⟨rfl, rfl, trivial⟩ ?_
        have ec : c = cBr d 1 := by omega
        subst ec
        exact hK e (tbR_row ht)
      · obtain ⟨b, lb, eb⟩ := ga_col hg (r := c) (by omega) h14b
        obtain ⟨e6b, l6b⟩ := hL 1 (by decide)
        obtain ⟨e6a, l6a⟩ := hL 0 (by decide)
        refine x_aload0 dX9_best_106 ?_
        refine go0_0 fgX9_12 dX9_best_107 ?_
        refine x_iconst (nI 1) dX9_best_110 (by decide) ?_
        refine lBK (1) rfl (by omega) dX9_best_111 ?_
        refine gB0 (by omega) fgX9_83 dX9_best_112 ?_
        refine x_aload0 dX9_best_115 ?_
        refine go0_3 fgX9_34 dX9_best_116 ?_
        refine go171_2 fgX9_150 dX9_best_119 ?_
        refine x_iload3 dX9_best_122 ?_
        refine la199 (c) rfl (by omega) dX9_best_123 ?_
        refine xV.toi (nI (b)) ((by rw [ht.1 58 (by decide)]; exact eb)) ?_
        refine lBL (by omega) (b) rfl (by omega) dX9_best_124 ?_
        refine x_astore4 dX9_best_125 rfl rfl rfl ?_
        refine x_aload0 dX9_best_127 ?_
        refine go0_3 fgX9_34 dX9_best_128 ?_
        refine go171_0 fgX9_153 dX9_best_131 ?_
        refine go172_0 fgX9_157 dX9_best_134 ?_
        refine x_iload1 dX9_best_137 ?_
        refine lWO (r) rfl (by omega) dX9_best_138 ?_
        refine x_iload3 dX9_best_139 ?_
        refine x_aload0 dX9_best_140 ?_
        refine x_aload2 dX9_best_141 ?_
        refine x_aload4 dX9_best_142 ?_
        refine x_callV2i mvX9_128 (kd_fitOf G e m (iG_k (ke 16 (by decide)) hG) (dP_k (ke 14 (by decide)) (ke 16 (by decide)) hp_) (iMs_k (ke 11 (by decide)) (ke 12 (by decide)) (ke 16 (by decide)) hM) (80 * 0 + a) (80 * 1 + b) (by omega) (by omega) (by unfold fOk; rw [ke 0 (by decide), ke 1 (by decide)]; exact hF 0 (by decide) a ha) (by unfold fOk; rw [ke 0 (by decide), ke 1 (by decide)]; exact hF 1 (by decide) b lb)) (show (0 : Nat) < NT by decide) (hd_at (a := 0) (by decide) rfl) (xRoom.of rfl) (Nat.le_of_ble_eq_true rfl) dX9_best_144 (fun r_ n_ h_ hq => ?_)
        obtain ⟨rfl, rfl, rfl⟩ := hq
        refine xV.toi (fD d g r c) ((by unfold fD; rw [ea, eb, nv_nI (by omega), nv_nI (by omega), fitV_k (fun j hj => ke j (by omega)), show 80 * 0 + a = a by omega])) ?_
        refine sW (by omega) (c) rfl (by omega) dX9_best_147 ?_
        refine x_iinc3 (nI (c + 1)) dX9_best_148 (nI_add c 1) rfl rfl rfl ?_
        refine x_goto 95 dX9_best_151 (by decide) ?_
        refine xV.lvle (L' := [some (.ref _), some (.int _), some (.ref _), some (.int _), none]) ⟨rfl, rfl, rfl, rfl, trivial⟩ ?_
        exact ih (c + 1) _ (by omega) (by omega) (tbR_next ht)
  have l1 : ∀ (h14a : cBr d 0 ≤ 14) (h14b : cBr d 1 ≤ 14), ∀ (n_ : Nat) (r : Nat) (e g : mS), r ≤ cBr d 0 → cBr d 0 + 1 ≤ r + n_ → (gaR d (cBr d 0) (cBr d 1) g) → (tbR d g (cBr d 1) r 0 e) → xV (mF G M_X9_best 20 0 0 (QI (fun r n' h' => n' = NT ∧ ∃ g, h' = hp (dk g) m ∧ bsD d r g))) 62 [some (.ref 0), some (.int (nI (r))), none, none, none] [] NT (hp (dk e) m) 0 0 := by
    intro h14a h14b 
    intro n_
    induction n_ with
    | zero => intro r e g hi_ hn_; omega
    | succ n_ ih =>
      intro r e g hi_ hn_ hg ht
      refine x_iload1 dX9_best_62 ?_
      refine x_aload0 dX9_best_63 ?_
      refine go0_3 fgX9_34 dX9_best_64 ?_
      refine go171_5 fgX9_140 dX9_best_67 ?_
      refine xV.toi (nI (cBr d 0)) ((by rw [ht.1 61 (by decide)]; exact hg.2.2.2.1)) ?_
      refine n_icmp_ge 160 dX9_best_70 (by decide) (by omega) (by omega) (fun c70 => ?_) (fun c70 => ?_)
      · have er : r = cBr d 0 := by omega
        rw [er] at ht
        have hb : ∀ i j, i < cBr d 0 → j < cBr d 1 → 0 ≤ (fD d g i j).toInt ∧ (fD d g i j).toInt ≤ 230 := fun i j hi hj => by
          obtain ⟨a, a1, a2⟩ := ga_row hg hi h14a
          obtain ⟨b, b1, b2⟩ := ga_col hg hj h14b
          obtain ⟨e6b, l6b⟩ := hL 1 (by decide)
          obtain ⟨e6a, l6a⟩ := hL 0 (by decide)
          unfold fD
          rw [a2, b2, nv_nI (by omega), nv_nI (by omega)]
          exact fit_bd (iF_0 hF a1) (hF 1 (by decide) b b1)
        have te := tb_end h14a h14b hg hb ht
        refine x_aload0 dX9_best_160 ?_
        refine go0_3 fgX9_34 dX9_best_161 ?_
        refine x_callV0v mvX9_163 (kd_find G e m (max (cBr d 0) (cBr d 1)) (fD d g) (cBr d 0) (cBr d 1) te.1 te.2.1 te.2.2.1 te.2.2.2) (show (171 : Nat) < NT by decide) (hd_at (a := 171) (by decide) rfl) (xRoom.of rfl) (Nat.le_of_ble_eq_true rfl) dX9_best_164 (fun n_ h_ hq => ?_)
        obtain ⟨rfl, f, rfl, hf⟩ := hq
        have f50 : f.1 50 0 = d.1 50 0 := by rw [hf.2.2.2 50 (by omega), ht.1 50 (by decide), hg.1 50 (by omega)]
        refine x_aload0 dX9_best_167 ?_
        refine go0_3 fgX9_34 dX9_best_168 ?_
        refine x_aload0 dX9_best_171 ?_
        refine go0_10 fgX9_65 dX9_best_172 ?_
        refine po171_8 fpX9_166 dX9_best_175 ?_
        refine x_aload0 dX9_best_178 ?_
        refine go0_3 fgX9_34 dX9_best_179 ?_
        refine go171_7 fgX9_169 dX9_best_182 ?_
        refine xV.toi (f.1 63 0) ((by rw [mset_ne (by decide)])) ?_
        refine x_iret dX9_best_185 rfl ?_ (Nat.zero_le _) (Nat.zero_le _)
        exact ⟨rfl, _, rfl, bs_end h14a h14b hg ht hf _ f50⟩
      · obtain ⟨a, la, ea⟩ := ga_row hg (r := r) (by omega) h14a
        obtain ⟨e6a, l6a⟩ := hL 0 (by decide)
        refine x_aload0 dX9_best_73 ?_
        refine go0_0 fgX9_12 dX9_best_74 ?_
        refine x_iconst (nI 0) dX9_best_77 (by decide) ?_
        refine lBK (0) rfl (by omega) dX9_best_78 ?_
        refine gB0 (by omega) fgX9_83 dX9_best_79 ?_
        refine x_aload0 dX9_best_82 ?_
        refine go0_3 fgX9_34 dX9_best_83 ?_
        refine go171_1 fgX9_143 dX9_best_86 ?_
        refine x_iload1 dX9_best_89 ?_
        refine la198 (r) rfl (by omega) dX9_best_90 ?_
        refine xV.toi (nI (a)) ((by rw [ht.1 57 (by decide)]; exact ea)) ?_
        refine lBL (by omega) (a) rfl (by omega) dX9_best_91 ?_
        refine x_astore2 dX9_best_92 rfl rfl rfl ?_
        refine x_iconst (nI 0) dX9_best_93 (by decide) ?_
        refine x_istore3 dX9_best_94 rfl rfl rfl ?_
        exact l2 h14a h14b r a g (by omega) la ea hg (fun e2 h2 => ih (r + 1) e2 g (by omega) (by omega) hg h2) (cBr d 1 + 1) 0 e (Nat.zero_le _) (by omega) ht
  refine xK.ofV (by decide) (Nat.le_of_ble_eq_true rfl) ?_
  refine xV.lveq (L' := [some (.ref 0), none, none, none, none]) rfl ?_
  refine x_aload0 dX9_best_0 ?_
  refine go0_0 fgX9_12 dX9_best_1 ?_
  refine x_iconst (nI 0) dX9_best_4 (by decide) ?_
  refine lBK (0) rfl (by omega) dX9_best_5 ?_
  refine x_iconst (nI 0) dX9_best_6 (by decide) ?_
  refine x_aload0 dX9_best_7 ?_
  refine go0_7 fgX9_56 dX9_best_8 ?_
  refine x_callV2i mvX9_132 (k_breaksAged G d m hL 0 (by decide) hN (nI 0)) (lt_B _) (hd_B (by omega)) (xRoom.of rfl) (Nat.le_of_ble_eq_true rfl) dX9_best_11 (fun r_ n_ h_ hq => ?_)
  obtain ⟨rfl, rfl, rfl⟩ := hq
  refine xV.toi (nI (cBr d 0)) (bA_c (by decide) hkn) ?_
  refine x_bipush (nI 14) dX9_best_14 (by decide) ?_
  refine n_icmp_gt 38 dX9_best_16 (by decide) (by omega) (by omega) (fun c16 => ?_) (fun c16 => ?_)
  · refine x_bipush (-4) dX9_best_38 (by decide) ?_
    refine x_iret dX9_best_40 rfl ?_ (Nat.zero_le _) (Nat.zero_le _)
    first | exact ⟨rfl, _, rfl, bsD_big (Or.inl c16)⟩ | exact ⟨rfl, _, rfl, bsD_big (Or.inr (by omega))⟩
  · refine x_aload0 dX9_best_19 ?_
    refine go0_0 fgX9_12 dX9_best_20 ?_
    refine x_iconst (nI 1) dX9_best_23 (by decide) ?_
    refine lBK (1) rfl (by omega) dX9_best_24 ?_
    refine x_iconst (nI 0) dX9_best_25 (by decide) ?_
    refine x_aload0 dX9_best_26 ?_
    refine go0_7 fgX9_56 dX9_best_27 ?_
    refine x_callV2i mvX9_132 (k_breaksAged G d m hL 1 (by decide) hN (nI 0)) (lt_B _) (hd_B (by omega)) (xRoom.of rfl) (Nat.le_of_ble_eq_true rfl) dX9_best_30 (fun r_ n_ h_ hq => ?_)
    obtain ⟨rfl, rfl, rfl⟩ := hq
    refine xV.toi (nI (cBr d 1)) (bA_c (by decide) hkn) ?_
    refine x_bipush (nI 14) dX9_best_33 (by decide) ?_
    refine n_icmp_le 41 dX9_best_35 (by decide) (by omega) (by omega) (fun c35 => ?_) (fun c35 => ?_)
    · refine x_aload0 dX9_best_41 ?_
      refine go0_3 fgX9_34 dX9_best_42 ?_
      refine x_aload0 dX9_best_45 ?_
      refine go0_0 fgX9_12 dX9_best_46 ?_
      refine x_iconst (nI 0) dX9_best_49 (by decide) ?_
      refine lBK (0) rfl (by omega) dX9_best_50 ?_
      refine x_aload0 dX9_best_51 ?_
      refine go0_0 fgX9_12 dX9_best_52 ?_
      refine x_iconst (nI 1) dX9_best_55 (by decide) ?_
      refine lBK (1) rfl (by omega) dX9_best_56 ?_
      refine x_callV2v mvX9_136 (kd_gather G d m hL hN) (show (171 : Nat) < NT by decide) (hd_at (a := 171) (by decide) rfl) (xRoom.of rfl) (Nat.le_of_ble_eq_true rfl) dX9_best_57 (fun n_ h_ hq => ?_)
      obtain ⟨rfl, g, rfl, hg⟩ := hq
      rw [Nat.min_eq_left (by omega), Nat.min_eq_left (by omega)] at hg
      refine x_iconst (nI 0) dX9_best_60 (by decide) ?_
      refine x_istore1 dX9_best_61 rfl rfl rfl ?_
      exact l1 (by omega) (by omega) (cBr d 0 + 1) 0 g g (Nat.zero_le _) (by omega) hg (tbR_0 d g _)
    · refine x_bipush (-4) dX9_best_38 (by decide) ?_
      refine x_iret dX9_best_40 rfl ?_ (Nat.zero_le _) (Nat.zero_le _)
      first | exact ⟨rfl, _, rfl, bsD_big (Or.inl c16)⟩ | exact ⟨rfl, _, rfl, bsD_big (Or.inr (by omega))⟩
