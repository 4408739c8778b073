/-! ===== the desk's methods, 22: cheapestWith, add, bitOf, choose ===== -/
abbrev cwA (d : mS) (n1 n2 : Nat) (g : Int32) (i jj : Nat) (ch : Int32) : Prop := (∀ x y, x < n1 → y < n2 → eS d 0 x + eS d 1 y = g.toInt → (i ≤ x ∧ y < jj) ∨ (¬ ch = -1 ∧ ch.toInt ≤ pS d 0 x + pS d 1 y)) ∧ (ch = -1 ∨ ∃ x y, x < n1 ∧ y < n2 ∧ eS d 0 x + eS d 1 y = g.toInt ∧ ch.toInt = pS d 0 x + pS d 1 y)
abbrev cwJ (d : mS) (n1 n2 : Nat) (g : Int32) (i j : Nat) (ch : Int32) : Prop := (∀ x y, x < n1 → y < n2 → eS d 0 x + eS d 1 y = g.toInt → (i ≤ x ∧ y < j + 1 ∧ ¬ (x = i ∧ y = j)) ∨ (¬ ch = -1 ∧ ch.toInt ≤ pS d 0 x + pS d 1 y)) ∧ (ch = -1 ∨ ∃ x y, x < n1 ∧ y < n2 ∧ eS d 0 x + eS d 1 y = g.toInt ∧ ch.toInt = pS d 0 x + pS d 1 y)
/-- the bounds and the order of the two halves -/
abbrev cwK (d : mS) (n1 n2 : Nat) : Prop := (∀ x, x < n1 → (-100000000 ≤ eS d 0 x ∧ eS d 0 x ≤ 100000000) ∧ 0 ≤ pS d 0 x ∧ pS d 0 x ≤ 10000000) ∧ (∀ x, x < n2 → (-100000000 ≤ eS d 1 x ∧ eS d 1 x ≤ 100000000) ∧ 0 ≤ pS d 1 x ∧ pS d 1 x ≤ 10000000) ∧ (∀ x y, x < y → y < n1 → eS d 0 x < eS d 0 y) ∧ ∀ x y, x < y → y < n2 → eS d 1 x < eS d 1 y
section CW
variable {d : mS} {n1 n2 i j : Nat} {g ch : Int32}
theorem cw_s (h : cwK d n1 n2) (hi : i < n1) (hj : j < n2) : (d.1 (100 + 0) i + d.1 (100 + 1) j).toInt = eS d 0 i + eS d 1 j := by
  have a := (h.1 i hi).1
  have b := (h.2.1 j hj).1
  exact t_add (show -2147483648 ≤ eS d 0 i + eS d 1 j by omega) (show eS d 0 i + eS d 1 j < 2147483648 by omega)
theorem cw_p (h : cwK d n1 n2) (hi : i < n1) (hj : j < n2) : (d.1 (103 + 0) i + d.1 (103 + 1) j).toInt = pS d 0 i + pS d 1 j ∧ 0 ≤ pS d 0 i + pS d 1 j := by
  have a := (h.1 i hi).2
  have b := (h.2.1 j hj).2
  exact ⟨t_add (show -2147483648 ≤ pS d 0 i + pS d 1 j by omega) (show pS d 0 i + pS d 1 j < 2147483648 by omega), by omega⟩
theorem m1_T : ((-1 : Int32)).toInt = -1 := by decide
theorem cw_no (h : cwK d n1 n2) (hi : i < n1) (hj : j < n2) (hA : cwA d n1 n2 g i (j + 1) ch) (hs : ¬ d.1 (100 + 0) i + d.1 (100 + 1) j = g) : cwJ d n1 n2 g i j ch := by
  have ne : ¬ eS d 0 i + eS d 1 j = g.toInt := fun q => hs (t_eq.mpr (by rw [cw_s h hi hj]; exact q))
  refine ⟨fun x y hx hy e => ?_, hA.2⟩
  rcases hA.1 x y hx hy e with z | z
  · exact Or.inl ⟨z.1, z.2, fun q => ne (by rw [q.1, q.2] at e; exact e)⟩
  · exact Or.inr z
theorem cw_first (h : cwK d n1 n2) (hi : i < n1) (hj : j < n2) (hA : cwA d n1 n2 g i (j + 1) ch) (hs : d.1 (100 + 0) i + d.1 (100 + 1) j = g) (hc : ch = -1) : cwJ d n1 n2 g i j (d.1 (103 + 0) i + d.1 (103 + 1) j) := by
  have es : eS d 0 i + eS d 1 j = g.toInt := by rw [← cw_s h hi hj, hs]
  obtain ⟨p1, p2⟩ := cw_p h hi hj
  have nm : ¬ d.1 (103 + 0) i + d.1 (103 + 1) j = -1 := fun q => by rw [q, m1_T] at p1; omega
  refine ⟨fun x y hx hy e => ?_, Or.inr ⟨i, j, hi, hj, es, p1⟩⟩
  rcases hA.1 x y hx hy e with z | z
  · by_cases q : x = i ∧ y = j
    · right; rw [q.1, q.2, p1]; exact ⟨nm, Int.le_refl _⟩
    · exact Or.inl ⟨z.1, z.2, q⟩
  · exact absurd hc z.1
theorem cw_min (h : cwK d n1 n2) (hi : i < n1) (hj : j < n2) (hA : cwA d n1 n2 g i (j + 1) ch) (hs : d.1 (100 + 0) i + d.1 (100 + 1) j = g) (hc : ¬ ch = -1) : cwJ d n1 n2 g i j (if d.1 (103 + 0) i + d.1 (103 + 1) j < ch then d.1 (103 + 0) i + d.1 (103 + 1) j else ch) := by
  have es : eS d 0 i + eS d 1 j = g.toInt := by rw [← cw_s h hi hj, hs]
  obtain ⟨p1, p2⟩ := cw_p h hi hj
  have nm : ¬ d.1 (103 + 0) i + d.1 (103 + 1) j = -1 := fun q => by rw [q, m1_T] at p1; omega
  have mn := min_le (a := ch) (b := d.1 (103 + 0) i + d.1 (103 + 1) j)
  have nn : ¬ (if d.1 (103 + 0) i + d.1 (103 + 1) j < ch then d.1 (103 + 0) i + d.1 (103 + 1) j else ch) = -1 := by split <;> assumption
  refine ⟨fun x y hx hy e => ?_, Or.inr ?_⟩
  · rcases hA.1 x y hx hy e with z | z
    · by_cases q : x = i ∧ y = j
      · right; rw [q.1, q.2, ← p1]; exact ⟨nn, t_le.mp mn.2⟩
      · exact Or.inl ⟨z.1, z.2, q⟩
    · exact Or.inr ⟨nn, Int.le_trans (t_le.mp mn.1) z.2⟩
  · split
    · exact ⟨i, j, hi, hj, es, p1⟩
    · exact hA.2.resolve_left hc
theorem cw_i (h : cwK d n1 n2) (hi : i < n1) (hj : j < n2) (hJ : cwJ d n1 n2 g i j ch) (hs : ¬ g < d.1 (100 + 0) i + d.1 (100 + 1) j) : cwA d n1 n2 g (i + 1) (j + 1) ch := by
  have le : eS d 0 i + eS d 1 j ≤ g.toInt := by rw [← cw_s h hi hj]; exact t_le.mp (iNL.mp hs)
  refine ⟨fun x y hx hy e => ?_, hJ.2⟩
  rcases hJ.1 x y hx hy e with z | z
  · left
    refine ⟨?_, z.2.1⟩
    rcases Nat.lt_or_ge i x with q | q
    · exact q
    · exfalso
      have ex : x = i := by omega
      have hy' : y < j := by
        rcases Nat.lt_or_ge y j with w | w
        · exact w
        · exact absurd ⟨ex, by omega⟩ z.2.2
      have := h.2.2.2 y j hy' hj
      rw [ex] at e
      omega
  · exact Or.inr z
theorem cw_j (h : cwK d n1 n2) (hi : i < n1) (hj : j < n2) (hJ : cwJ d n1 n2 g i j ch) (hs : g < d.1 (100 + 0) i + d.1 (100 + 1) j) : cwA d n1 n2 g i j ch := by
  have lt : g.toInt < eS d 0 i + eS d 1 j := by rw [← cw_s h hi hj]; exact t_lt.mp hs
  refine ⟨fun x y hx hy e => ?_, hJ.2⟩
  rcases hJ.1 x y hx hy e with z | z
  · left
    refine ⟨z.1, ?_⟩
    rcases Nat.lt_or_ge y j with q | q
    · exact q
    · exfalso
      have ey : y = j := by omega
      rw [ey] at e
      rcases Nat.lt_or_ge i x with w | w
      · have := h.2.2.1 i x w hx
        omega
      · have ex : x = i := by omega
        rw [ex] at e
        omega
  · exact Or.inr z
end CW
def chR (d : mS) (n1 n2 : Nat) (g r : Int32) : Prop := (r = -1 ∧ ∀ x y, x < n1 → y < n2 → ¬ eS d 0 x + eS d 1 y = g.toInt) ∨ (¬ r = -1 ∧ (∃ x y, x < n1 ∧ y < n2 ∧ eS d 0 x + eS d 1 y = g.toInt ∧ r.toInt = pS d 0 x + pS d 1 y) ∧ ∀ x y, x < n1 → y < n2 → eS d 0 x + eS d 1 y = g.toInt → r.toInt ≤ pS d 0 x + pS d 1 y)
theorem cw_end {d : mS} {n1 n2 i jj : Nat} {g ch : Int32} (hA : cwA d n1 n2 g i jj ch) (he : n1 ≤ i ∨ jj = 0) : chR d n1 n2 g ch := by
  have key : ∀ x y, x < n1 → y < n2 → eS d 0 x + eS d 1 y = g.toInt → ¬ ch = -1 ∧ ch.toInt ≤ pS d 0 x + pS d 1 y := by
    intro x y hx hy e
    rcases hA.1 x y hx hy e with z | z
    · omega
    · exact z
  by_cases q : ch = -1
  · exact Or.inl ⟨q, fun x y hx hy e => (key x y hx hy e).1 q⟩
  · exact Or.inr ⟨q, hA.2.resolve_left q, fun x y hx hy e => (key x y hx hy e).2⟩

set_option maxHeartbeats 4000000 in
theorem kd_cheapestWith (G : vx_G) (d m : mS) (n1 n2 : Nat) (h1 : n1 ≤ 512) (h2 : n2 ≤ 512) (e1 : d.1 96 0 = nI n1) (e2 : d.1 96 1 = nI n2) (hk : cwK d n1 n2) (g : Int32) : xK G M_X8_cheapestWith 1 [(.ref (sC 0)), (.ref (sC 1)), (.int g)] NT (hp (dk d) m) 0 0 (QI (fun r n' h' => chR d n1 n2 g r ∧ n' = NT ∧ h' = hp (dk d) m)) := by
  have lp : ∀ (n_ : Nat) (i jj : Nat) (ch v : Int32), i + (n2 - jj) ≤ n1 + n2 → n1 + n2 + 1 ≤ i + (n2 - jj) + n_ → (i ≤ n1) → (jj ≤ n2) → (v = nI jj - nI 1) → (cwA d n1 n2 g i jj ch) → xV (mF G M_X8_cheapestWith 1 0 0 (QI (fun r n' h' => chR d n1 n2 g r ∧ n' = NT ∧ h' = hp (dk d) m))) 13 [some (.ref (sC 0)), some (.ref (sC 1)), some (.int g), some (.int ch), some (.int (nI (i))), some (.int v), none, none] [] NT (hp (dk d) m) 0 0 := by
    intro n_
    induction n_ with
    | zero => intro i jj ch v hi_ hn_; omega
    | succ n_ ih =>
      intro i jj ch v hi_ hn_ hin hjn hv hA
      refine x_iload4 dX8_cheapestWith_13 ?_
      refine x_aload0 dX8_cheapestWith_15 ?_
      refine gS2 (by omega) fgX8_18 dX8_cheapestWith_16 ?_
      refine xV.toi (nI (n1)) (e1) ?_
      refine n_icmp_ge 102 dX8_cheapestWith_19 (by decide) (by omega) (by omega) (fun c19 => ?_) (fun c19 => ?_)
      · refine x_iload3 dX8_cheapestWith_102 ?_
        refine x_iret dX8_cheapestWith_103 rfl ?_ (Nat.zero_le _) (Nat.zero_le _)
        first | exact ⟨cw_end hA (Or.inl c19), rfl, rfl⟩ | exact ⟨cw_end hA (Or.inr (dn_t (by omega) hv c24)), rfl, rfl⟩
      · refine x_iload5 dX8_cheapestWith_22 ?_
        refine x_if_lt 102 dX8_cheapestWith_24 (by decide) (fun c24 => ?_) (fun c24 => ?_)
        · refine x_iload3 dX8_cheapestWith_102 ?_
          refine x_iret dX8_cheapestWith_103 rfl ?_ (Nat.zero_le _) (Nat.zero_le _)
          first | exact ⟨cw_end hA (Or.inl c19), rfl, rfl⟩ | exact ⟨cw_end hA (Or.inr (dn_t (by omega) hv c24)), rfl, rfl⟩
        · obtain ⟨j, ej, ev⟩ := dn_f (by omega) hv c24
          subst ej
          subst ev
          refine x_aload0 dX8_cheapestWith_27 ?_
          refine gS0 (by omega) fgX8_11 dX8_cheapestWith_28 ?_
          refine x_iload4 dX8_cheapestWith_31 ?_
          refine lS1 (by omega) (i) rfl (by omega) dX8_cheapestWith_33 ?_
          refine x_aload1 dX8_cheapestWith_34 ?_
          refine gS0 (by omega) fgX8_11 dX8_cheapestWith_35 ?_
          refine x_iload5 dX8_cheapestWith_38 ?_
          refine lS1 (by omega) (j) rfl (by omega) dX8_cheapestWith_40 ?_
          refine x_iadd dX8_cheapestWith_41 ?_
          refine xV.toi (d.1 (100 + 0) i + d.1 (100 + 1) j) (rfl) ?_
          refine x_istore6 dX8_cheapestWith_42 rfl rfl rfl ?_
          refine x_iload6 dX8_cheapestWith_44 ?_
          refine x_iload2 dX8_cheapestWith_46 ?_
          refine x_icmp_ne 84 dX8_cheapestWith_47 (by decide) (fun c47 => ?_) (fun c47 => ?_)
          · have hJ := cw_no hk (by omega) (by omega) hA c47
            refine x_iload6 dX8_cheapestWith_84 ?_
            refine x_iload2 dX8_cheapestWith_86 ?_
            refine x_icmp_gt 96 dX8_cheapestWith_87 (by decide) (fun c87 => ?_) (fun c87 => ?_)
            · refine x_iinc5 _ dX8_cheapestWith_96 rfl rfl rfl rfl ?_
              refine x_goto 13 dX8_cheapestWith_99 (by decide) ?_
              refine xV.lvle (L' := [some (.ref _), some (.ref _), some (.int _), some (.int _), some (.int _), some (.int _), none, none]) ⟨rfl, rfl, rfl, rfl, rfl, rfl, trivial⟩ ?_
              first | exact ih (i + 1) (j + 1) _ _ (by omega) (by omega) (by omega) (by omega) (dn_s j).symm (cw_i hk (by omega) (by omega) hJ c87) | exact ih i j _ _ (by omega) (by omega) (by omega) (by omega) (dec_1 j) (cw_j hk (by omega) (by omega) hJ c87)
            · refine x_iinc4 (nI (i + 1)) dX8_cheapestWith_90 (nI_add i 1) rfl rfl rfl ?_
              refine x_goto 99 dX8_cheapestWith_93 (by decide) ?_
              refine x_goto 13 dX8_cheapestWith_99 (by decide) ?_
              refine xV.lvle (L' := [some (.ref _), some (.ref _), some (.int _), some (.int _), some (.int _), some (.int _), none, none]) ⟨rfl, rfl, rfl, rfl, rfl, rfl, trivial⟩ ?_
              first | exact ih (i + 1) (j + 1) _ _ (by omega) (by omega) (by omega) (by omega) (dn_s j).symm (cw_i hk (by omega) (by omega) hJ c87) | exact ih i j _ _ (by omega) (by omega) (by omega) (by omega) (dec_1 j) (cw_j hk (by omega) (by omega) hJ c87)
          · refine x_aload0 dX8_cheapestWith_50 ?_
            refine gS1 (by omega) fgX8_15 dX8_cheapestWith_51 ?_
            refine x_iload4 dX8_cheapestWith_54 ?_
            refine lS2 (by omega) (i) rfl (by omega) dX8_cheapestWith_56 ?_
            refine x_aload1 dX8_cheapestWith_57 ?_
            refine gS1 (by omega) fgX8_15 dX8_cheapestWith_58 ?_
            refine x_iload5 dX8_cheapestWith_61 ?_
            refine lS2 (by omega) (j) rfl (by omega) dX8_cheapestWith_63 ?_
            refine x_iadd dX8_cheapestWith_64 ?_
            refine xV.toi (d.1 (103 + 0) i + d.1 (103 + 1) j) (rfl) ?_
            refine x_istore7 dX8_cheapestWith_65 rfl rfl rfl ?_
            refine x_iload3 dX8_cheapestWith_67 ?_
            refine x_iconst (-1) dX8_cheapestWith_68 (by decide) ?_
            refine x_icmp_ne 77 dX8_cheapestWith_69 (by decide) (fun c69 => ?_) (fun c69 => ?_)
            · have hJ := cw_min hk (by omega) (by omega) hA c47 c69
              refine x_iload3 dX8_cheapestWith_77 ?_
              refine x_iload7 dX8_cheapestWith_78 ?_
              refine x_min mmX8_29 (Nat.le_of_ble_eq_true rfl) (Nat.le_of_ble_eq_true rfl) (Nat.le_of_ble_eq_true rfl) (Nat.le_of_ble_eq_true rfl) dX8_cheapestWith_80 ?_
              refine x_istore3 dX8_cheapestWith_83 rfl rfl rfl ?_
              refine x_iload6 dX8_cheapestWith_84 ?_
              refine x_iload2 dX8_cheapestWith_86 ?_
              refine x_icmp_gt 96 dX8_cheapestWith_87 (by decide) (fun c87 => ?_) (fun c87 => ?_)
              · refine x_iinc5 _ dX8_cheapestWith_96 rfl rfl rfl rfl ?_
                refine x_goto 13 dX8_cheapestWith_99 (by decide) ?_
                refine xV.lvle (L' := [some (.ref _), some (.ref _), some (.int _), some (.int _), some (.int _), some (.int _), none, none]) ⟨rfl, rfl, rfl, rfl, rfl, rfl, trivial⟩ ?_
                first | exact ih (i + 1) (j + 1) _ _ (by omega) (by omega) (by omega) (by omega) (dn_s j).symm (cw_i hk (by omega) (by omega) hJ c87) | exact ih i j _ _ (by omega) (by omega) (by omega) (by omega) (dec_1 j) (cw_j hk (by omega) (by omega) hJ c87)
              · refine x_iinc4 (nI (i + 1)) dX8_cheapestWith_90 (nI_add i 1) rfl rfl rfl ?_
                refine x_goto 99 dX8_cheapestWith_93 (by decide) ?_
                refine x_goto 13 dX8_cheapestWith_99 (by decide) ?_
                refine xV.lvle (L' := [some (.ref _), some (.ref _), some (.int _), some (.int _), some (.int _), some (.int _), none, none]) ⟨rfl, rfl, rfl, rfl, rfl, rfl, trivial⟩ ?_
                first | exact ih (i + 1) (j + 1) _ _ (by omega) (by omega) (by omega) (by omega) (dn_s j).symm (cw_i hk (by omega) (by omega) hJ c87) | exact ih i j _ _ (by omega) (by omega) (by omega) (by omega) (dec_1 j) (cw_j hk (by omega) (by omega) hJ c87)
            · have hJ := cw_first hk (by omega) (by omega) hA c47 c69
              refine x_iload7 dX8_cheapestWith_72 ?_
              refine x_goto 83 dX8_cheapestWith_74 (by decide) ?_
              refine x_istore3 dX8_cheapestWith_83 rfl rfl rfl ?_
              refine x_iload6 dX8_cheapestWith_84 ?_
              refine x_iload2 dX8_cheapestWith_86 ?_
              refine x_icmp_gt 96 dX8_cheapestWith_87 (by decide) (fun c87 => ?_) (fun c87 => ?_)
              · refine x_iinc5 _ dX8_cheapestWith_96 rfl rfl rfl rfl ?_
                refine x_goto 13 dX8_cheapestWith_99 (by decide) ?_
                refine xV.lvle (L' := [some (.ref _), some (.ref _), some (.int _), some (.int _), some (.int _), some (.int _), none, none]) ⟨rfl, rfl, rfl, rfl, rfl, rfl, trivial⟩ ?_
                first | exact ih (i + 1) (j + 1) _ _ (by omega) (by omega) (by omega) (by omega) (dn_s j).symm (cw_i hk (by omega) (by omega) hJ c87) | exact ih i j _ _ (by omega) (by omega) (by omega) (by omega) (dec_1 j) (cw_j hk (by omega) (by omega) hJ c87)
              · refine x_iinc4 (nI (i + 1)) dX8_cheapestWith_90 (nI_add i 1) rfl rfl rfl ?_
                refine x_goto 99 dX8_cheapestWith_93 (by decide) ?_
                refine x_goto 13 dX8_cheapestWith_99 (by decide) ?_
                refine xV.lvle (L' := [some (.ref _), some (.ref _), some (.int _), some (.int _), some (.int _), some (.int _), none, none]) ⟨rfl, rfl, rfl, rfl, rfl, rfl, trivial⟩ ?_
                first | exact ih (i + 1) (j + 1) _ _ (by omega) (by omega) (by omega) (by omega) (dn_s j).symm (cw_i hk (by omega) (by omega) hJ c87) | exact ih i j _ _ (by omega) (by omega) (by omega) (by omega) (dec_1 j) (cw_j hk (by omega) (by omega) hJ c87)
  refine xK.ofV (by decide) (Nat.le_of_ble_eq_true rfl) ?_
  refine xV.lveq (L' := [some (.ref (sC 0)), some (.ref (sC 1)), some (.int g), none, none, none, none, none]) rfl ?_
  refine x_iconst (-1) dX8_cheapestWith_0 (by decide) ?_
  refine x_istore3 dX8_cheapestWith_1 rfl rfl rfl ?_
  refine x_iconst (nI 0) dX8_cheapestWith_2 (by decide) ?_
  refine x_istore4 dX8_cheapestWith_3 rfl rfl rfl ?_
  refine x_aload1 dX8_cheapestWith_5 ?_
  refine gS2 (by omega) fgX8_18 dX8_cheapestWith_6 ?_
  refine xV.toi (nI (n2)) (e2) ?_
  refine x_iconst (nI 1) dX8_cheapestWith_9 (by decide) ?_
  refine x_isub dX8_cheapestWith_10 ?_
  refine x_istore5 dX8_cheapestWith_11 rfl rfl rfl ?_
  exact lp (n1 + n2 + 1) 0 n2 _ _ (by omega) (by omega) (Nat.zero_le _) (Nat.le_refl _) rfl ⟨fun x y hx hy _ => Or.inl ⟨Nat.zero_le _, hy⟩, Or.inl rfl⟩

def aeD (d : mS) (t : Nat) (kd nu a : Int32) : mS := mset (mset (mset (mset d 89 t kd) 90 t nu) 91 t a) 92 0 (nI (t + 1))

set_option maxHeartbeats 4000000 in
theorem kd_startE (G : vx_G) (d m : mS)  : xK G M_X2_start 0 [(.ref 208)] NT (hp (dk d) m) 0 0 (QV (fun n' h' => n' = NT ∧ h' = hp (dk (mset d 92 0 (nI 0))) m)) := by
  refine xK.ofV (by decide) (Nat.le_of_ble_eq_true rfl) ?_
  refine xV.lveq (L' := [some (.ref 208)]) rfl ?_
  refine x_aload0 dX2_start_0 ?_
  refine x_iconst (nI 0) dX2_start_1 (by decide) ?_
  refine po208_6 fpX2_34 dX2_start_2 ?_
  refine x_vret dX2_start_5 rfl ?_ (Nat.zero_le _) (Nat.zero_le _)
  exact ⟨rfl, rfl⟩

set_option maxHeartbeats 4000000 in
theorem kd_addE (G : vx_G) (d m : mS) (t : Nat) (ht : t < 18) (e92 : d.1 92 0 = nI t) (kd nu a : Int32) : xK G M_X2_add 0 [(.ref 208), (.int kd), (.int nu), (.int a)] NT (hp (dk d) m) 0 0 (QV (fun n' h' => n' = NT ∧ h' = hp (dk (aeD d t kd nu a)) m)) := by
  refine xK.ofV (by decide) (Nat.le_of_ble_eq_true rfl) ?_
  refine xV.lveq (L' := [some (.ref 208), some (.int kd), some (.int nu), some (.int a)]) rfl ?_
  refine x_aload0 dX2_add_0 ?_
  refine go208_6 fgX2_34 dX2_add_1 ?_
  refine xV.toi (nI (t)) (e92) ?_
  refine x_bipush (nI 18) dX2_add_4 (by decide) ?_
  refine n_icmp_ge 49 dX2_add_6 (by decide) (by omega) (by omega) (fun c6 => absurd c6 (by omega)) (fun c6 => ?_)
  refine x_aload0 dX2_add_9 ?_
  refine go208_0 fgX2_9 dX2_add_10 ?_
  refine x_aload0 dX2_add_13 ?_
  refine go208_6 fgX2_34 dX2_add_14 ?_
  refine xV.toi (nI (t)) (e92) ?_
  refine x_iload1 dX2_add_17 ?_
  refine sa209 (t) rfl (by omega) dX2_add_18 ?_
  refine x_aload0 dX2_add_19 ?_
  refine go208_1 fgX2_15 dX2_add_20 ?_
  refine x_aload0 dX2_add_23 ?_
  refine go208_6 fgX2_34 dX2_add_24 ?_
  refine xV.toi (nI (t)) ((by rw [mset_ne (by decide)]; exact e92)) ?_
  refine x_iload2 dX2_add_27 ?_
  refine sa210 (t) rfl (by omega) dX2_add_28 ?_
  refine x_aload0 dX2_add_29 ?_
  refine go208_2 fgX2_18 dX2_add_30 ?_
  refine x_aload0 dX2_add_33 ?_
  refine go208_6 fgX2_34 dX2_add_34 ?_
  refine xV.toi (nI (t)) ((by rw [mset_ne (by decide), mset_ne (by decide)]; exact e92)) ?_
  refine x_iload3 dX2_add_37 ?_
  refine sa211 (t) rfl (by omega) dX2_add_38 ?_
  refine x_aload0 dX2_add_39 ?_
  refine x_dup dX2_add_40 rfl ?_
  refine go208_6 fgX2_34 dX2_add_41 ?_
  refine xV.toi (nI (t)) ((by rw [mset_ne (by decide), mset_ne (by decide), mset_ne (by decide)]; exact e92)) ?_
  refine x_iconst (nI 1) dX2_add_44 (by decide) ?_
  refine n_iadd dX2_add_45 ?_
  refine po208_6 fpX2_34 dX2_add_46 ?_
  refine x_vret dX2_add_49 rfl ?_ (Nat.zero_le _) (Nat.zero_le _)
  exact ⟨rfl, rfl⟩

set_option maxHeartbeats 4000000 in
theorem kd_bitOf (G : vx_G) (d m : mS) (t : Nat) (ht : t < 18) : xK G M_X2_bitOf 0 [(.int (nI (t)))] NT (hp (dk d) m) 0 0 (QI (fun r n' h' => r = nI (2 ^ (17 - t)) ∧ n' = NT ∧ h' = hp (dk d) m)) := by
  refine xK.ofV (by decide) (Nat.le_of_ble_eq_true rfl) ?_
  refine xV.lveq (L' := [some (.int (nI (t)))]) rfl ?_
  refine x_iconst (nI 1) dX2_bitOf_0 (by decide) ?_
  refine x_bipush (nI 17) dX2_bitOf_1 (by decide) ?_
  refine x_iload0 dX2_bitOf_3 ?_
  refine n_isub dX2_bitOf_4 (by omega) ?_
  refine x_ishl dX2_bitOf_5 ?_
  refine x_iret dX2_bitOf_6 rfl ?_ (Nat.zero_le _) (Nat.zero_le _)
  exact ⟨sh_1 (by omega), rfl, rfl⟩

/-- what is chosen: the things of S -/
abbrev coI (d : mS) (S : Nat → Bool) (t : Nat) (e : mS) : Prop := (∀ j, j ≠ 93 → j ≠ 94 → j ≠ 95 → e.1 j = d.1 j) ∧ e.1 95 0 = nI (fb_ct S t) ∧ ∀ x, x < t → S x = true → e.1 93 (fb_ct S x) = d.1 89 x ∧ e.1 94 (fb_ct S x) = d.1 90 x
theorem coI_no {d e : mS} {S : Nat → Bool} {t : Nat} (h : coI d S t e) (hs : S t = false) : coI d S (t + 1) e := by
  refine ⟨h.1, by rw [fb_ct_succ, hs]; exact h.2.1, fun x hx hS => ?_⟩
  rcases Nat.lt_or_ge x t with q | q
  · exact h.2.2 x q hS
  · have : x = t := by omega
    rw [this, hs] at hS; exact absurd hS Bool.false_ne_true
theorem coI_yes {d e : mS} {S : Nat → Bool} {t : Nat} (h : coI d S t e) (hs : S t = true) : coI d S (t + 1) (mset (mset (mset e 93 (fb_ct S t) (d.1 89 t)) 94 (fb_ct S t) (d.1 90 t)) 95 0 (nI (fb_ct S t + 1))) := by
  have k93 : ∀ x, (mset (mset (mset e 93 (fb_ct S t) (d.1 89 t)) 94 (fb_ct S t) (d.1 90 t)) 95 0 (nI (fb_ct S t + 1))).1 93 x = (mset e 93 (fb_ct S t) (d.1 89 t)).1 93 x := fun x => by rw [mset_ne (by decide), mset_ne (by decide)]
  have k94 : ∀ x, (mset (mset (mset e 93 (fb_ct S t) (d.1 89 t)) 94 (fb_ct S t) (d.1 90 t)) 95 0 (nI (fb_ct S t + 1))).1 94 x = (mset (mset e 93 (fb_ct S t) (d.1 89 t)) 94 (fb_ct S t) (d.1 90 t)).1 94 x := fun x => by rw [mset_ne (by decide)]
  refine ⟨fun j a b c => by rw [mset_ne c, mset_ne b, mset_ne a]; exact h.1 j a b c, by rw [mset_at, fb_ct_succ, hs]; rfl, fun x hx hS => ?_⟩
  rw [k93, k94]
  rcases Nat.lt_or_ge x t with q | q
  · have lt := ct_lt_all (p := S) q hS
    rw [mset_off (by omega), mset_off (by omega), mset_ne (by decide)]
    exact h.2.2 x q hS
  · have : x = t := by omega
    subst this
    rw [mset_at, mset_at]; exact ⟨rfl, rfl⟩
theorem bit_and {B j : Nat} (hB : B < 262144) (hj : j < 18) : nI B &&& nI (2 ^ j) = nI 0 ↔ B.testBit j = false := by
  have e : nI B &&& nI (2 ^ j) = nI (B &&& 2 ^ j) := fa_and B (2 ^ j)
  have lt : B &&& 2 ^ j < 2147483648 := by
    have := Nat.and_le_left (n := B) (m := 2 ^ j)
    omega
  rw [e]
  constructor
  · intro q
    have z := nI_inj lt (by decide) q
    cases w : B.testBit j with
    | false => rfl
    | true =>
      have y : (B &&& 2 ^ j).testBit j = true := by rw [Nat.testBit_and, w, Nat.testBit_two_pow_self]; rfl
      rw [z, Nat.zero_testBit] at y
      exact absurd y Bool.false_ne_true
  · intro q
    have z : B &&& 2 ^ j = 0 := Nat.eq_of_testBit_eq (fun i => by
      rw [Nat.testBit_and, Nat.testBit_two_pow, Nat.zero_testBit]
      by_cases w : j = i
      · rw [← w, q]; rfl
      · rw [decide_eq_false w, Bool.and_false])
    rw [z]

set_option maxHeartbeats 4000000 in
theorem kd_choose (G : vx_G) (d m : mS) (N B : Nat) (hN : N ≤ 18) (e92 : d.1 92 0 = nI N) (hB : B < 262144) (S : Nat → Bool) (hSt : ∀ t, t < N → S t = B.testBit (17 - t)) (p : Int32) (hp_ : (p = -1 ∧ B = 0) ∨ (¬ p = -1 ∧ -p &&& nI 262143 = nI B)) : xK G M_X2_choose 1 [(.ref 208), (.int p)] NT (hp (dk d) m) 0 0 (QV (fun n' h' => n' = NT ∧ ∃ e, h' = hp (dk e) m ∧ coI d S N e)) := by
  have lp : ∀ (n_ : Nat) (t : Nat) (e : mS), t ≤ N → N + 1 ≤ t + n_ → (coI d S t e) → xV (mF G M_X2_choose 1 0 0 (QV (fun n' h' => n' = NT ∧ ∃ e, h' = hp (dk e) m ∧ coI d S N e))) 22 [some (.ref 208), some (.int p), some (.int (nI (B))), some (.int (nI (t)))] [] NT (hp (dk e) m) 0 0 := by
    intro n_
    induction n_ with
    | zero => intro t e hi_ hn_; omega
    | succ n_ ih =>
      intro t e hi_ hn_ h
      have ke : ∀ j, j ≠ 93 → j ≠ 94 → j ≠ 95 → e.1 j = d.1 j := h.1
      have hcl := fb_ct_le S t
      refine x_iload3 dX2_choose_22 ?_
      refine x_aload0 dX2_choose_23 ?_
      refine go208_6 fgX2_34 dX2_choose_24 ?_
      refine xV.toi (nI (N)) ((by rw [ke 92 (by decide) (by decide) (by decide)]; exact e92)) ?_
      refine n_icmp_ge 85 dX2_choose_27 (by decide) (by omega) (by omega) (fun c27 => ?_) (fun c27 => ?_)
      · refine x_vret dX2_choose_85 rfl ?_ (Nat.zero_le _) (Nat.zero_le _)
        have et : t = N := by omega
        rw [et] at h
        exact ⟨rfl, _, rfl, h⟩
      · refine x_iload2 dX2_choose_30 ?_
        refine x_iload3 dX2_choose_31 ?_
        refine x_callS1i msX2_79 (kd_bitOf G e m t (by omega)) (xRoom.of rfl) (Nat.le_of_ble_eq_true rfl) dX2_choose_32 (fun r_ n_ h_ hq => ?_)
        obtain ⟨rfl, rfl, rfl⟩ := hq
        refine x_iand dX2_choose_35 ?_
        refine x_if_eq 79 dX2_choose_36 (by decide) (fun c36 => ?_) (fun c36 => ?_)
        · have hs : S t = false := by
            rw [hSt t (by omega)]
            exact (bit_and hB (by omega)).mp (c36.trans nI_0.symm)
          refine x_iinc3 (nI (t + 1)) dX2_choose_79 (nI_add t 1) rfl rfl rfl ?_
          refine x_goto 22 dX2_choose_82 (by decide) ?_
          first | exact ih (t + 1) _ (by omega) (by omega) (coI_yes h hs) | exact ih (t + 1) _ (by omega) (by omega) (coI_no h hs)
        · have hs : S t = true := by
            rw [hSt t (by omega)]
            cases w : B.testBit (17 - t) with
            | true => rfl
            | false => exact absurd (((bit_and hB (by omega)).mpr w).trans nI_0) c36
          refine x_aload0 dX2_choose_39 ?_
          refine go208_7 fgX2_38 dX2_choose_40 ?_
          refine x_aload0 dX2_choose_43 ?_
          refine go208_9 fgX2_44 dX2_choose_44 ?_
          refine xV.toi (nI (fb_ct S t)) (h.2.1) ?_
          refine x_aload0 dX2_choose_47 ?_
          refine go208_0 fgX2_9 dX2_choose_48 ?_
          refine x_iload3 dX2_choose_51 ?_
          refine la209 (t) rfl (by omega) dX2_choose_52 ?_
          refine xV.toi (d.1 89 t) ((by rw [ke 89 (by decide) (by decide) (by decide)])) ?_
          refine sa221 (fb_ct S t) rfl (by omega) dX2_choose_53 ?_
          refine x_aload0 dX2_choose_54 ?_
          refine go208_8 fgX2_41 dX2_choose_55 ?_
          refine x_aload0 dX2_choose_58 ?_
          refine go208_9 fgX2_44 dX2_choose_59 ?_
          refine xV.toi (nI (fb_ct S t)) ((by rw [mset_ne (by decide)]; exact h.2.1)) ?_
          refine x_aload0 dX2_choose_62 ?_
          refine go208_1 fgX2_15 dX2_choose_63 ?_
          refine x_iload3 dX2_choose_66 ?_
          refine la210 (t) rfl (by omega) dX2_choose_67 ?_
          refine xV.toi (d.1 90 t) ((by rw [mset_ne (by decide), ke 90 (by decide) (by decide) (by decide)])) ?_
          refine sa222 (fb_ct S t) rfl (by omega) dX2_choose_68 ?_
          refine x_aload0 dX2_choose_69 ?_
          refine x_dup dX2_choose_70 rfl ?_
          refine go208_9 fgX2_44 dX2_choose_71 ?_
          refine xV.toi (nI (fb_ct S t)) ((by rw [mset_ne (by decide), mset_ne (by decide)]; exact h.2.1)) ?_
          refine x_iconst (nI 1) dX2_choose_74 (by decide) ?_
          refine n_iadd dX2_choose_75 ?_
          refine po208_9 fpX2_44 dX2_choose_76 ?_
          refine x_iinc3 (nI (t + 1)) dX2_choose_79 (nI_add t 1) rfl rfl rfl ?_
          refine x_goto 22 dX2_choose_82 (by decide) ?_
          first | exact ih (t + 1) _ (by omega) (by omega) (coI_yes h hs) | exact ih (t + 1) _ (by omega) (by omega) (coI_no h hs)
  refine xK.ofV (by decide) (Nat.le_of_ble_eq_true rfl) ?_
  refine xV.lveq (L' := [some (.ref 208), some (.int p), none, none]) rfl ?_
  refine x_iload1 dX2_choose_0 ?_
  refine x_iconst (-1) dX2_choose_1 (by decide) ?_
  refine x_icmp_ne 9 dX2_choose_2 (by decide) (fun c2 => ?_) (fun c2 => ?_)
  · have e1 := (hp_.resolve_left (fun q => c2 q.1)).2
    refine x_iload1 dX2_choose_9 ?_
    refine x_ineg dX2_choose_10 ?_
    refine x_ldc kcX2_95 dX2_choose_11 ?_
    refine xV.toi (nI 262143) (by decide) ?_
    refine x_iand dX2_choose_13 ?_
    refine xV.toi (nI (B)) (e1) ?_
    refine x_istore2 dX2_choose_14 rfl rfl rfl ?_
    refine x_aload0 dX2_choose_15 ?_
    refine x_iconst (nI 0) dX2_choose_16 (by decide) ?_
    refine po208_9 fpX2_44 dX2_choose_17 ?_
    refine x_iconst (nI 0) dX2_choose_20 (by decide) ?_
    refine x_istore3 dX2_choose_21 rfl rfl rfl ?_
    exact lp (N + 1) 0 _ (Nat.zero_le _) (by omega) ⟨fun j _ _ c => mset_ne c, mset_at _ _ _ _, fun x hx => absurd hx (Nat.not_lt_zero x)⟩
  · have e1 := (hp_.resolve_right (fun q => q.1 c2)).2
    refine x_iconst (nI 0) dX2_choose_5 (by decide) ?_
    refine xV.toi (nI (B)) ((by rw [e1])) ?_
    refine x_goto 14 dX2_choose_6 (by decide) ?_
    refine x_istore2 dX2_choose_14 rfl rfl rfl ?_
    refine x_aload0 dX2_choose_15 ?_
    refine x_iconst (nI 0) dX2_choose_16 (by decide) ?_
    refine po208_9 fpX2_44 dX2_choose_17 ?_
    refine x_iconst (nI 0) dX2_choose_20 (by decide) ?_
    refine x_istore3 dX2_choose_21 rfl rfl rfl ?_
    exact lp (N + 1) 0 _ (Nat.zero_le _) (by omega) ⟨fun j _ _ c => mset_ne c, mset_at _ _ _ _, fun x hx => absurd hx (Nat.not_lt_zero x)⟩
