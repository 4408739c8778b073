/-! ===== the desk's methods, 16: with, rival, pair ===== -/
abbrev frD (d : mS) : Prop := d.1 64 0 = d.1 50 0
def frR (d : mS) (k : Nat) (v r : Int32) : Prop := (frD d ∧ roR d k v r) ∨ (¬ frD d ∧ r = -1)

set_option maxHeartbeats 4000000 in
theorem kd_freshRow (G : vx_G) (d m : mS) (k : Nat) (hk : k ≤ 14) (e61 : d.1 61 0 = nI k) (v : Int32) : xK G M_X9_freshRow 1 [(.ref 0), (.int v)] NT (hp (dk d) m) 0 0 (QI (fun r n' h' => frR d k v r ∧ n' = NT ∧ h' = hp (dk d) m)) := by
  refine xK.ofV (by decide) (Nat.le_of_ble_eq_true rfl) ?_
  refine xV.lveq (L' := [some (.ref 0), some (.int v)]) rfl ?_
  refine x_aload0 dX9_freshRow_0 ?_
  refine go0_3 fgX9_34 dX9_freshRow_1 ?_
  refine go171_8 fgX9_166 dX9_freshRow_4 ?_
  refine x_aload0 dX9_freshRow_7 ?_
  refine go0_10 fgX9_65 dX9_freshRow_8 ?_
  refine x_icmp_ne 25 dX9_freshRow_11 (by decide) (fun c11 => ?_) (fun c11 => ?_)
  · refine x_iconst (-1) dX9_freshRow_25 (by decide) ?_
    refine x_iret dX9_freshRow_26 rfl ?_ (Nat.zero_le _) (Nat.zero_le _)
    first | exact ⟨Or.inl ⟨c11, hro⟩, rfl, rfl⟩ | exact ⟨Or.inr ⟨c11, rfl⟩, rfl, rfl⟩
  · refine x_aload0 dX9_freshRow_14 ?_
    refine go0_3 fgX9_34 dX9_freshRow_15 ?_
    refine x_iload1 dX9_freshRow_18 ?_
    refine x_callV1i mvX9_335 (kd_rowOf G d m k hk e61 v) (show (171 : Nat) < NT by decide) (hd_at (a := 171) (by decide) rfl) (xRoom.of rfl) (Nat.le_of_ble_eq_true rfl) dX9_freshRow_19 (fun r_ n_ h_ hq => ?_)
    obtain ⟨hro, rfl, rfl⟩ := hq
    refine x_goto 26 dX9_freshRow_22 (by decide) ?_
    refine x_iret dX9_freshRow_26 rfl ?_ (Nat.zero_le _) (Nat.zero_le _)
    first | exact ⟨Or.inl ⟨c11, hro⟩, rfl, rfl⟩ | exact ⟨Or.inr ⟨c11, rfl⟩, rfl, rfl⟩

/-- the row of a line, if it may be asked for -/
def rwD (d : mS) (k : Nat) (v : Int32) (i : Nat) : Prop := frD d ∧ i < k ∧ d.1 57 i = v ∧ ∀ j, j < i → ¬ d.1 57 j = v
def nrD (d : mS) (k : Nat) (v : Int32) : Prop := frD d → ∀ i, i < k → ¬ d.1 57 i = v
theorem frR_in {d : mS} {k : Nat} {v r : Int32} (hk : k ≤ 14) (h : frR d k v r) : (∃ i, rwD d k v i ∧ r = nI i) ∨ (nrD d k v ∧ r = -1) := by
  rcases h with ⟨h1, h2⟩ | ⟨h1, h2⟩
  · rcases h2 with ⟨i, i1, i2, i3, i4⟩ | ⟨i1, i2⟩
    · exact Or.inl ⟨i, ⟨h1, i1, i2, i3⟩, i4⟩
    · exact Or.inr ⟨fun _ => i1, i2⟩
  · exact Or.inr ⟨fun q => absurd q h1, h2⟩
def wiD (d : mS) (k : Nat) (v r : Int32) : Prop := (∃ i, rwD d k v i ∧ ((¬ d.1 59 i = -1 ∧ r = d.1 58 (nv (d.1 59 i))) ∨ (d.1 59 i = -1 ∧ r = -1))) ∨ (nrD d k v ∧ r = -1)
def rvD (d : mS) (k : Nat) (v r : Int32) : Prop := (∃ i, rwD d k v i ∧ r = d.1 60 i) ∨ (nrD d k v ∧ r = nI 1)

set_option maxHeartbeats 4000000 in
theorem kd_with (G : vx_G) (d m : mS) (k : Nat) (hk : k ≤ 14) (e61 : d.1 61 0 = nI k) (hw : frD d → ∀ i, i < k → ¬ d.1 59 i = -1 → d.1 59 i = nI (nv (d.1 59 i)) ∧ nv (d.1 59 i) < 14) (v : Int32) : xK G M_X9_with 2 [(.ref 0), (.int v)] NT (hp (dk d) m) 0 0 (QI (fun r n' h' => wiD d k v r ∧ n' = NT ∧ h' = hp (dk d) m)) := by
  refine xK.ofV (by decide) (Nat.le_of_ble_eq_true rfl) ?_
  refine xV.lveq (L' := [some (.ref 0), some (.int v), none]) rfl ?_
  refine x_aload0 dX9_with_0 ?_
  refine x_iload1 dX9_with_1 ?_
  refine x_callV1i mvX9_172 (kd_freshRow G d m k hk e61 v) (show (0 : Nat) < NT by decide) (hd_at (a := 0) (by decide) rfl) (xRoom.of rfl) (Nat.le_of_ble_eq_true rfl) dX9_with_2 (fun r_ n_ h_ hq => ?_)
  obtain ⟨hfr, rfl, rfl⟩ := hq
  rcases frR_in hk hfr with ⟨i, hi, rfl⟩ | ⟨hi, rfl⟩
  · have hl : i < 14 := by have := hi.2.1; omega
    refine x_istore2 dX9_with_5 rfl rfl rfl ?_
    refine x_iload2 dX9_with_6 ?_
    refine x_iconst (-1) dX9_with_7 (by decide) ?_
    refine x_icmp_eq 24 dX9_with_8 (by decide) (fun c8 => absurd c8 (nIm1 (by omega))) (fun c8 => ?_)
    refine x_aload0 dX9_with_11 ?_
    refine go0_3 fgX9_34 dX9_with_12 ?_
    refine go171_3 fgX9_176 dX9_with_15 ?_
    refine x_iload2 dX9_with_18 ?_
    refine la200 (i) rfl (by omega) dX9_with_19 ?_
    refine x_iconst (-1) dX9_with_20 (by decide) ?_
    refine x_icmp_ne 26 dX9_with_21 (by decide) (fun c21 => ?_) (fun c21 => ?_)
    · have hz := hw hi.1 i hi.2.1 c21
      refine x_aload0 dX9_with_26 ?_
      refine go0_3 fgX9_34 dX9_with_27 ?_
      refine go171_2 fgX9_150 dX9_with_30 ?_
      refine x_aload0 dX9_with_33 ?_
      refine go0_3 fgX9_34 dX9_with_34 ?_
      refine go171_3 fgX9_176 dX9_with_37 ?_
      refine x_iload2 dX9_with_40 ?_
      refine la200 (i) rfl (by omega) dX9_with_41 ?_
      refine xV.toi (nI (nv (d.1 59 i))) (hz.1) ?_
      refine la199 (nv (d.1 59 i)) rfl (by omega) dX9_with_42 ?_
      refine x_iret dX9_with_43 rfl ?_ (Nat.zero_le _) (Nat.zero_le _)
      exact ⟨Or.inl ⟨i, hi, Or.inl ⟨c21, rfl⟩⟩, rfl, rfl⟩
    · refine x_iconst (-1) dX9_with_24 (by decide) ?_
      refine x_iret dX9_with_25 rfl ?_ (Nat.zero_le _) (Nat.zero_le _)
      first | exact ⟨Or.inl ⟨i, hi, Or.inr ⟨c21, rfl⟩⟩, rfl, rfl⟩ | exact ⟨Or.inr ⟨hi, rfl⟩, rfl, rfl⟩
  · skip
    refine x_istore2 dX9_with_5 rfl rfl rfl ?_
    refine x_iload2 dX9_with_6 ?_
    refine x_iconst (-1) dX9_with_7 (by decide) ?_
    refine x_icmp_eq 24 dX9_with_8 (by decide) (fun c8 => ?_) (fun c8 => absurd rfl c8)
    refine x_iconst (-1) dX9_with_24 (by decide) ?_
    refine x_iret dX9_with_25 rfl ?_ (Nat.zero_le _) (Nat.zero_le _)
    first | exact ⟨Or.inl ⟨i, hi, Or.inr ⟨c21, rfl⟩⟩, rfl, rfl⟩ | exact ⟨Or.inr ⟨hi, rfl⟩, rfl, rfl⟩

set_option maxHeartbeats 4000000 in
theorem kd_rival (G : vx_G) (d m : mS) (k : Nat) (hk : k ≤ 14) (e61 : d.1 61 0 = nI k) (v : Int32) : xK G M_X9_rival 2 [(.ref 0), (.int v)] NT (hp (dk d) m) 0 0 (QI (fun r n' h' => rvD d k v r ∧ n' = NT ∧ h' = hp (dk d) m)) := by
  refine xK.ofV (by decide) (Nat.le_of_ble_eq_true rfl) ?_
  refine xV.lveq (L' := [some (.ref 0), some (.int v), none]) rfl ?_
  refine x_aload0 dX9_rival_0 ?_
  refine x_iload1 dX9_rival_1 ?_
  refine x_callV1i mvX9_172 (kd_freshRow G d m k hk e61 v) (show (0 : Nat) < NT by decide) (hd_at (a := 0) (by decide) rfl) (xRoom.of rfl) (Nat.le_of_ble_eq_true rfl) dX9_rival_2 (fun r_ n_ h_ hq => ?_)
  obtain ⟨hfr, rfl, rfl⟩ := hq
  rcases frR_in hk hfr with ⟨i, hi, rfl⟩ | ⟨hi, rfl⟩
  · have hl : i < 14 := by have := hi.2.1; omega
    refine x_istore2 dX9_rival_5 rfl rfl rfl ?_
    refine x_iload2 dX9_rival_6 ?_
    refine x_iconst (-1) dX9_rival_7 (by decide) ?_
    refine x_icmp_ne 15 dX9_rival_8 (by decide) (fun c8 => ?_) (fun c8 => absurd c8 (nIm1 (by omega)))
    refine x_aload0 dX9_rival_15 ?_
    refine go0_3 fgX9_34 dX9_rival_16 ?_
    refine go171_4 fgX9_179 dX9_rival_19 ?_
    refine x_iload2 dX9_rival_22 ?_
    refine la201 (i) rfl (by omega) dX9_rival_23 ?_
    refine x_iret dX9_rival_24 rfl ?_ (Nat.zero_le _) (Nat.zero_le _)
    first | exact ⟨Or.inl ⟨i, hi, rfl⟩, rfl, rfl⟩ | exact ⟨Or.inr ⟨hi, rfl⟩, rfl, rfl⟩
  · skip
    refine x_istore2 dX9_rival_5 rfl rfl rfl ?_
    refine x_iload2 dX9_rival_6 ?_
    refine x_iconst (-1) dX9_rival_7 (by decide) ?_
    refine x_icmp_ne 15 dX9_rival_8 (by decide) (fun c8 => absurd c8 (fun q => q rfl)) (fun c8 => ?_)
    refine x_iconst (nI 1) dX9_rival_11 (by decide) ?_
    refine x_goto 24 dX9_rival_12 (by decide) ?_
    refine x_iret dX9_rival_24 rfl ?_ (Nat.zero_le _) (Nat.zero_le _)
    first | exact ⟨Or.inl ⟨i, hi, rfl⟩, rfl, rfl⟩ | exact ⟨Or.inr ⟨hi, rfl⟩, rfl, rfl⟩

def suD (d : mS) (s : Int32) (i : Nat) : Bool := decide (sureD d s i)
def dO (d : mS) (i : Nat) : Nat := nv (d.1 57 i)
def dT (d : mS) (i : Nat) : Nat := nv (d.1 58 (nv (d.1 59 i)))
def pgD (d : mS) (s : Int32) : Nat → mS
  | 0 => d
  | i + 1 => if suD d s i = true then coD (hdM (pgD d s i) (nI 0) (dO d i) (80 + dT d i)) (nI 1) (nI (nG (pgD d s i))) (nI 0) else pgD d s i
theorem coD_ne2 {d : mS} {kd o w : Int32} {j : Nat} (h : 55 ≤ j) : (coD d kd o w).1 j = d.1 j := by
  unfold coD puD
  rw [mset_ne (by omega), mset_ne (by omega), mset_ne (by omega), mset_ne (by omega), mset_ne (by omega), mset_ne (by omega)]
theorem coD_A {d : mS} {kd o w : Int32} (hA : iA d) : iA (coD d kd o w) ∧ nA (coD d kd o w) = nA d - dOff d + 1 := by
  have l := hA.2
  have e : (coD d kd o w).1 46 0 = nI (nA d - dOff d + 1) := by
    unfold coD puD
    rw [mset_ne (by decide), mset_at]
  have hl : nA d - dOff d + 1 ≤ 60 := by unfold dOff; split <;> omega
  have en : nA (coD d kd o w) = nA d - dOff d + 1 := by
    show nv ((coD d kd o w).1 46 0) = _
    rw [e]; exact nv_nI (by omega)
  exact ⟨⟨by rw [en]; exact e, by rw [en]; exact hl⟩, en⟩
theorem coD_X {d : mS} {kd o w : Int32} (hX : iX d) : iX (coD d kd o w) ∧ nX (coD d kd o w) = (nX d + 1) % 60 := by
  have e : (coD d kd o w).1 54 0 = nI ((nX d + 1) % 60) := by
    unfold coD puD
    rw [mset_ne (by decide), mset_ne (by decide), mset_at]
  have en : nX (coD d kd o w) = (nX d + 1) % 60 := by
    show nv ((coD d kd o w).1 54 0) = _
    rw [e]; exact nv_nI (by omega)
  exact ⟨⟨by rw [en]; exact e, by rw [en]; exact Nat.mod_lt _ (by decide)⟩, en⟩
theorem hdM_16 {d : mS} {s : Int32} {A C : Nat} (hG : nG d < 200) : (hdM d s A C).1 16 0 = nI (nG d + 1) ∧ nG (hdM d s A C) = nG d + 1 := by
  have e : (hdM d s A C).1 16 0 = nI (nG d + 1) := by
    unfold hdM adM ngM
    rw [mset_ne (by decide), mset_ne (by decide), mset_ne (by decide), mset_ne (by decide), mset_ne (by decide), mset_ne (by decide), mset_at]
  exact ⟨e, by show nv ((hdM d s A C).1 16 0) = _; rw [e]; exact nv_nI (by omega)⟩
abbrev pgI (d : mS) (s : Int32) (i : Nat) : Prop := (iG (pgD d s i) ∧ iX (pgD d s i) ∧ iA (pgD d s i)) ∧ nG (pgD d s i) = nG d + fb_ct (suD d s) i ∧ ∀ j, 55 ≤ j → (pgD d s i).1 j = d.1 j
theorem pgI_0 {d : mS} {s : Int32} (hG : iG d) (hX : iX d) (hA : iA d) : pgI d s 0 := ⟨⟨hG, hX, hA⟩, rfl, fun _ _ => rfl⟩
theorem pgI_no {d : mS} {s : Int32} {i : Nat} (h : pgI d s i) (hs : suD d s i = false) : pgI d s (i + 1) ∧ pgD d s (i + 1) = pgD d s i := by
  have e : pgD d s (i + 1) = pgD d s i := if_neg (by rw [hs]; exact Bool.false_ne_true)
  refine ⟨?_, e⟩
  unfold pgI
  rw [e, fb_ct_succ, hs]
  exact h
theorem pgI_yes {d : mS} {s : Int32} {i : Nat} (h : pgI d s i) (hs : suD d s i = true) (hl : nG (pgD d s i) < 200) : pgI d s (i + 1) ∧ pgD d s (i + 1) = coD (hdM (pgD d s i) (nI 0) (dO d i) (80 + dT d i)) (nI 1) (nI (nG (pgD d s i))) (nI 0) := by
  have e : pgD d s (i + 1) = coD (hdM (pgD d s i) (nI 0) (dO d i) (80 + dT d i)) (nI 1) (nI (nG (pgD d s i))) (nI 0) := if_pos hs
  refine ⟨?_, e⟩
  obtain ⟨⟨h1, h2, h3⟩, h4, h5⟩ := h
  have g := hdM_16 (d := pgD d s i) (s := nI 0) (A := dO d i) (C := 80 + dT d i) hl
  have c16 : (coD (hdM (pgD d s i) (nI 0) (dO d i) (80 + dT d i)) (nI 1) (nI (nG (pgD d s i))) (nI 0)).1 16 = (hdM (pgD d s i) (nI 0) (dO d i) (80 + dT d i)).1 16 := coD_ne (by decide) (by decide)
  have ng : nG (coD (hdM (pgD d s i) (nI 0) (dO d i) (80 + dT d i)) (nI 1) (nI (nG (pgD d s i))) (nI 0)) = nG (pgD d s i) + 1 := (nG_k c16).trans g.2
  unfold pgI
  rw [e]
  refine ⟨⟨⟨?_, ?_⟩, (coD_X (iX_k (hdD_ne (by decide)) h2)).1, (coD_A (iA_k (hdD_ne (by decide)) h3)).1⟩, ?_, fun j hj => ?_⟩
  · rw [ng, c16]; exact g.1
  · rw [ng]; omega
  · rw [ng, h4, fb_ct_succ, hs]; simp only [if_true]; omega
  · rw [coD_ne2 hj, hdD_ne (by omega)]; exact h5 j hj
def prD (d : mS) (k : Nat) (s r : Int32) (g : mS) : Prop := if (nI 0 ≤ s ∧ s ≤ nI 1000) ∧ frD d then (if nG d = 200 ∨ 200 < nG d + fb_ct (suD d s) k then r = -5 ∧ g = d else r = nI (fb_ct (suD d s) k) ∧ g = pgD d s k) else r = -1 ∧ g = d
theorem prD_1 {d : mS} {k : Nat} {s : Int32} (h : ¬ ((nI 0 ≤ s ∧ s ≤ nI 1000) ∧ frD d)) : prD d k s (-1) d := by unfold prD; rw [if_neg h]; exact ⟨rfl, rfl⟩
theorem prD_2 {d : mS} {k : Nat} {s : Int32} (h : (nI 0 ≤ s ∧ s ≤ nI 1000) ∧ frD d) (h2 : nG d = 200 ∨ 200 < nG d + fb_ct (suD d s) k) : prD d k s (-5) d := by unfold prD; rw [if_pos h, if_pos h2]; exact ⟨rfl, rfl⟩
theorem prD_3 {d : mS} {k : Nat} {s : Int32} (h : (nI 0 ≤ s ∧ s ≤ nI 1000) ∧ frD d) (h2 : ¬ (nG d = 200 ∨ 200 < nG d + fb_ct (suD d s) k)) : prD d k s (nI (fb_ct (suD d s) k)) (pgD d s k) := by unfold prD; rw [if_pos h, if_neg h2]; exact ⟨rfl, rfl⟩
/-- what pair may rely on when the pairing is fresh -/
abbrev prOk (d : mS) (k : Nat) : Prop := ∀ i, i < k → (d.1 57 i = nI (dO d i) ∧ dO d i < 80) ∧ (¬ d.1 59 i = -1 → (d.1 59 i = nI (nv (d.1 59 i)) ∧ nv (d.1 59 i) < 14) ∧ d.1 58 (nv (d.1 59 i)) = nI (dT d i) ∧ dT d i < 80)

set_option maxHeartbeats 4000000 in
theorem kd_pair (G : vx_G) (d m : mS) (k : Nat) (hk : k ≤ 14) (e61 : d.1 61 0 = nI k) (hG : iG d) (hX : iX d) (hA : iA d) (hok : frD d → prOk d k) (s : Int32) : xK G M_X9_pair 3 [(.ref 0), (.int s)] NT (hp (dk d) m) 0 0 (QI (fun r n' h' => n' = NT ∧ ∃ g, h' = hp (dk g) m ∧ prD d k s r g)) := by
  have lp : ∀ (hsk : (nI 0 ≤ s ∧ s ≤ nI 1000) ∧ frD d) (hno : ¬ (nG d = 200 ∨ 200 < nG d + fb_ct (suD d s) k)), ∀ (n_ : Nat) (i : Nat), i ≤ k → k + 1 ≤ i + n_ → (pgI d s i) → xV (mF G M_X9_pair 3 0 0 (QI (fun r n' h' => n' = NT ∧ ∃ g, h' = hp (dk g) m ∧ prD d k s r g))) 63 [some (.ref 0), some (.int s), some (.int (nI (fb_ct (suD d s) k))), some (.int (nI (i))), none, none] [] NT (hp (dk (pgD d s i)) m) 0 0 := by
    intro hsk hno 
    have ok := hok hsk.2
    intro n_
    induction n_ with
    | zero => intro i hi_ hn_; omega
    | succ n_ ih =>
      intro i hi_ hn_ hI
      have kk := hI.2.2
      have hmn := fb_ct_mono (suD d s) hi_
      refine x_iload3 dX9_pair_63 ?_
      refine x_aload0 dX9_pair_64 ?_
      refine go0_3 fgX9_34 dX9_pair_65 ?_
      refine go171_5 fgX9_140 dX9_pair_68 ?_
      refine xV.toi (nI (k)) ((by rw [kk 61 (by decide)]; exact e61)) ?_
      refine n_icmp_ge 164 dX9_pair_71 (by decide) (by omega) (by omega) (fun c71 => ?_) (fun c71 => ?_)
      · refine x_iload2 dX9_pair_164 ?_
        refine x_iret dX9_pair_165 rfl ?_ (Nat.zero_le _) (Nat.zero_le _)
        have ei : i = k := by omega
        rw [ei]
        exact ⟨rfl, _, rfl, prD_3 hsk hno⟩
      · refine x_aload0 dX9_pair_74 ?_
        refine go0_3 fgX9_34 dX9_pair_75 ?_
        refine x_iload3 dX9_pair_78 ?_
        refine x_iload1 dX9_pair_79 ?_
        refine x_callV2i mvX9_185 (kd_isSure G (pgD d s i) m i (by omega) s) (show (171 : Nat) < NT by decide) (hd_at (a := 171) (by decide) rfl) (xRoom.of rfl) (Nat.le_of_ble_eq_true rfl) dX9_pair_80 (fun r_ n_ h_ hq => ?_)
        obtain ⟨rfl, rfl, rfl⟩ := hq
        refine b_if_eq 158 dX9_pair_83 (by decide) (fun c83 => ?_) (fun c83 => ?_)
        · have hs : suD d s i = false := decide_eq_false (fun q => c83 (by unfold sureD; rw [kk 59 (by decide), kk 60 (by decide)]; exact q))
          have hn1 := pgI_no hI hs
          refine x_iinc3 (nI (i + 1)) dX9_pair_158 (nI_add i 1) rfl rfl rfl ?_
          refine x_goto 63 dX9_pair_161 (by decide) ?_
          first | (rw [← hn1.2]; exact ih (i + 1) (by omega) (by omega) hn1.1) | (rw [← hy.2]; exact ih (i + 1) (by omega) (by omega) hy.1)
        · have hs : suD d s i = true := decide_eq_true (by unfold sureD at c83; rw [kk 59 (by decide), kk 60 (by decide)] at c83; exact c83)
          have hlt := ct_lt_all (p := suD d s) (a := i) (n := k) (by omega) hs
          have hl : nG (pgD d s i) < 200 := by have := hI.2.1; omega
          obtain ⟨⟨o1, o2⟩, o3⟩ := ok i (by omega)
          obtain ⟨⟨t1, t2⟩, t3, t4⟩ := o3 (of_decide_eq_true hs).1
          have hy := pgI_yes hI hs hl
          have g16 := hdM_16 (d := pgD d s i) (s := nI 0) (A := dO d i) (C := 80 + dT d i) hl
          refine x_aload0 dX9_pair_86 ?_
          refine go0_0 fgX9_12 dX9_pair_87 ?_
          refine x_iconst (nI 0) dX9_pair_90 (by decide) ?_
          refine lBK (0) rfl (by omega) dX9_pair_91 ?_
          refine gB0 (by omega) fgX9_83 dX9_pair_92 ?_
          refine x_aload0 dX9_pair_95 ?_
          refine go0_3 fgX9_34 dX9_pair_96 ?_
          refine go171_1 fgX9_143 dX9_pair_99 ?_
          refine x_iload3 dX9_pair_102 ?_
          refine la198 (i) rfl (by omega) dX9_pair_103 ?_
          refine xV.toi (nI (dO d i)) ((by rw [kk 57 (by decide)]; exact o1)) ?_
          refine lBL (by omega) (dO d i) rfl (by omega) dX9_pair_104 ?_
          refine x_astore4 dX9_pair_105 rfl rfl rfl ?_
          refine x_aload0 dX9_pair_107 ?_
          refine go0_0 fgX9_12 dX9_pair_108 ?_
          refine x_iconst (nI 1) dX9_pair_111 (by decide) ?_
          refine lBK (1) rfl (by omega) dX9_pair_112 ?_
          refine gB0 (by omega) fgX9_83 dX9_pair_113 ?_
          refine x_aload0 dX9_pair_116 ?_
          refine go0_3 fgX9_34 dX9_pair_117 ?_
          refine go171_2 fgX9_150 dX9_pair_120 ?_
          refine x_aload0 dX9_pair_123 ?_
          refine go0_3 fgX9_34 dX9_pair_124 ?_
          refine go171_3 fgX9_176 dX9_pair_127 ?_
          refine x_iload3 dX9_pair_130 ?_
          refine la200 (i) rfl (by omega) dX9_pair_131 ?_
          refine xV.toi (nI (nv (d.1 59 i))) ((by rw [kk 59 (by decide)]; exact t1)) ?_
          refine la199 (nv (d.1 59 i)) rfl (by omega) dX9_pair_132 ?_
          refine xV.toi (nI (dT d i)) ((by rw [kk 58 (by decide)]; exact t3)) ?_
          refine lBL (by omega) (dT d i) rfl (by omega) dX9_pair_133 ?_
          refine x_astore5 dX9_pair_134 rfl rfl rfl ?_
          rw [show 80 * 0 + dO d i = dO d i by omega, show 80 * 1 + dT d i = 80 + dT d i by omega]
          refine x_aload0 dX9_pair_136 ?_
          refine x_iconst (nI 0) dX9_pair_137 (by decide) ?_
          refine x_aload4 dX9_pair_138 ?_
          refine x_aload5 dX9_pair_140 ?_
          refine x_callV3i mvX9_189 (kd_makeGroup G (pgD d s i) m hI.1.1 hl (nI 0) (dO d i) (80 + dT d i) (by omega) (by omega)) (show (0 : Nat) < NT by decide) (hd_at (a := 0) (by decide) rfl) (xRoom.of rfl) (Nat.le_of_ble_eq_true rfl) dX9_pair_142 (fun r_ n_ h_ hq => ?_)
          obtain ⟨rfl, rfl, rfl⟩ := hq
          refine x_pop dX9_pair_145 rfl ?_
          refine x_aload0 dX9_pair_146 ?_
          refine x_iconst (nI 1) dX9_pair_147 (by decide) ?_
          refine x_aload0 dX9_pair_148 ?_
          refine go0_6 fgX9_52 dX9_pair_149 ?_
          refine xV.toi (nI (nG (pgD d s i) + 1)) (g16.1) ?_
          refine x_iconst (nI 1) dX9_pair_152 (by decide) ?_
          refine n_isub dX9_pair_153 (by omega) ?_
          refine xV.toi (nI (nG (pgD d s i))) ((by rw [Nat.add_sub_cancel])) ?_
          refine x_iconst (nI 0) dX9_pair_154 (by decide) ?_
          refine x_callV3v mvX9_93 (kd_carriedOut G (hdM (pgD d s i) (nI 0) (dO d i) (80 + dT d i)) m (iX_k (hdD_ne (by decide)) hI.1.2.1) (iA_k (hdD_ne (by decide)) hI.1.2.2) (nI 1) (nI (nG (pgD d s i))) (nI 0)) (show (0 : Nat) < NT by decide) (hd_at (a := 0) (by decide) rfl) (xRoom.of rfl) (Nat.le_of_ble_eq_true rfl) dX9_pair_155 (fun n_ h_ hq => ?_)
          obtain ⟨rfl, rfl⟩ := hq
          refine x_iinc3 (nI (i + 1)) dX9_pair_158 (nI_add i 1) rfl rfl rfl ?_
          refine x_goto 63 dX9_pair_161 (by decide) ?_
          refine xV.lvle (L' := [some (.ref _), some (.int _), some (.int _), some (.int _), none, none]) ⟨rfl, rfl, rfl, rfl, trivial⟩ ?_
          first | (rw [← hn1.2]; exact ih (i + 1) (by omega) (by omega) hn1.1) | (rw [← hy.2]; exact ih (i + 1) (by omega) (by omega) hy.1)
  refine xK.ofV (by decide) (Nat.le_of_ble_eq_true rfl) ?_
  refine xV.lveq (L' := [some (.ref 0), some (.int s), none, none, none, none]) rfl ?_
  refine x_iload1 dX9_pair_0 ?_
  refine x_iconst (nI 0) dX9_pair_1 (by decide) ?_
  refine x_sipush (nI 1000) dX9_pair_2 (by decide) ?_
  refine x_callS3i msX9_75 (kd_isWithin G d m s (nI 0) (nI 1000)) (xRoom.of rfl) (Nat.le_of_ble_eq_true rfl) dX9_pair_5 (fun r_ n_ h_ hq => ?_)
  obtain ⟨rfl, rfl, rfl⟩ := hq
  refine b_if_eq 25 dX9_pair_8 (by decide) (fun c8 => ?_) (fun c8 => ?_)
  · refine x_iconst (-1) dX9_pair_25 (by decide) ?_
    refine x_iret dX9_pair_26 rfl ?_ (Nat.zero_le _) (Nat.zero_le _)
    first | exact ⟨rfl, _, rfl, prD_1 (fun q => c8 q.1)⟩ | exact ⟨rfl, _, rfl, prD_1 (fun q => c22 q.2)⟩
  · refine x_aload0 dX9_pair_11 ?_
    refine go0_3 fgX9_34 dX9_pair_12 ?_
    refine go171_8 fgX9_166 dX9_pair_15 ?_
    refine x_aload0 dX9_pair_18 ?_
    refine go0_10 fgX9_65 dX9_pair_19 ?_
    refine x_icmp_eq 27 dX9_pair_22 (by decide) (fun c22 => ?_) (fun c22 => ?_)
    · refine x_aload0 dX9_pair_27 ?_
      refine go0_3 fgX9_34 dX9_pair_28 ?_
      refine x_iload1 dX9_pair_31 ?_
      have hcl := fb_ct_le (suD d s) k
      have l16 := hG.2
      refine x_callV1i mvX9_182 (kd_countSure G d m k hk e61 s) (show (171 : Nat) < NT by decide) (hd_at (a := 171) (by decide) rfl) (xRoom.of rfl) (Nat.le_of_ble_eq_true rfl) dX9_pair_32 (fun r_ n_ h_ hq => ?_)
      obtain ⟨rfl, rfl, rfl⟩ := hq
      refine xV.toi (nI (fb_ct (suD d s) k)) (rfl) ?_
      refine x_istore2 dX9_pair_35 rfl rfl rfl ?_
      refine x_aload0 dX9_pair_36 ?_
      refine go0_6 fgX9_52 dX9_pair_37 ?_
      refine xV.toi (nI (nG d)) (hG.1) ?_
      refine x_sipush (nI 200) dX9_pair_40 (by decide) ?_
      refine n_icmp_ge 58 dX9_pair_43 (by decide) (by omega) (by omega) (fun c43 => ?_) (fun c43 => ?_)
      · refine x_bipush (-5) dX9_pair_58 (by decide) ?_
        refine x_iret dX9_pair_60 rfl ?_ (Nat.zero_le _) (Nat.zero_le _)
        first | exact ⟨rfl, _, rfl, prD_2 ⟨c8, c22⟩ (Or.inl (by omega))⟩ | exact ⟨rfl, _, rfl, prD_2 ⟨c8, c22⟩ (Or.inr (by omega))⟩
      · refine x_aload0 dX9_pair_46 ?_
        refine go0_6 fgX9_52 dX9_pair_47 ?_
        refine xV.toi (nI (nG d)) (hG.1) ?_
        refine x_iload2 dX9_pair_50 ?_
        refine n_iadd dX9_pair_51 ?_
        refine x_sipush (nI 200) dX9_pair_52 (by decide) ?_
        refine n_icmp_le 61 dX9_pair_55 (by decide) (by omega) (by omega) (fun c55 => ?_) (fun c55 => ?_)
        · refine x_iconst (nI 0) dX9_pair_61 (by decide) ?_
          refine x_istore3 dX9_pair_62 rfl rfl rfl ?_
          exact lp ⟨c8, c22⟩ (by omega) (k + 1) 0 (Nat.zero_le _) (by omega) (pgI_0 hG hX hA)
        · refine x_bipush (-5) dX9_pair_58 (by decide) ?_
          refine x_iret dX9_pair_60 rfl ?_ (Nat.zero_le _) (Nat.zero_le _)
          first | exact ⟨rfl, _, rfl, prD_2 ⟨c8, c22⟩ (Or.inl (by omega))⟩ | exact ⟨rfl, _, rfl, prD_2 ⟨c8, c22⟩ (Or.inr (by omega))⟩
    · refine x_iconst (-1) dX9_pair_25 (by decide) ?_
      refine x_iret dX9_pair_26 rfl ?_ (Nat.zero_le _) (Nat.zero_le _)
      first | exact ⟨rfl, _, rfl, prD_1 (fun q => c8 q.1)⟩ | exact ⟨rfl, _, rfl, prD_1 (fun q => c22 q.2)⟩
