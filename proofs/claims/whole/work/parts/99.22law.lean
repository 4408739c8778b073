/-! ===== the law, 3: its loop, its start: printed by gen/c3.py ===== -/
section LAWL
variable {G : vx_G} {nm : String} {b Ls : Nat} {xs : Nat → Int32} {ce sl : Nat}
set_option maxHeartbeats 4000000 in
theorem l_loop (hL : Ls ≤ 2560) (hce : ce ≤ 600000) (hsl : sl ≤ 7302250) : ∀ t k, Ls < 5 * k + t → k ≤ 520 → ∀ d m c, rel d m c → c ≤ 14 * k → xV (lF G nm b Ls xs) 18 [none, some (.ref 0), some (.ref MB), some (.int (nI (5 * k)))] [] NT (hp (dk d) m) ce sl := by
  intro t
  induction t with
  | zero =>
    intro k hk hk2 d m c hr hc
    refine x_iload3 dL_law_18 ?_
    refine l_len dL_law_19 dL_law_20 ?_
    refine x_iconst (nI 5) dL_law_21 (by decide) ?_
    refine x_isub dL_law_22 ?_
    refine x_icmp_gt 945 dL_law_23 (by decide) (fun _ => ?_) (fun q => ?_)
    · refine x_iconst 1 dL_law_945 (by decide) ?_
      exact l_ret hce hsl dL_law_946
    · refine absurd ?_ q
      have e5 : (nI 5).toInt = 5 := by decide
      have eL := nI_T Ls (by omega)
      rw [iLT, fb_subI (by rw [eL, e5]; omega) (by rw [eL, e5]; omega), nI_T (5 * k) (by omega), eL, e5]
      omega
  | succ t ih =>
    intro k hk hk2 d m c hr hc
    refine x_iload3 dL_law_18 ?_
    refine l_len dL_law_19 dL_law_20 ?_
    refine x_iconst (nI 5) dL_law_21 (by decide) ?_
    refine x_isub dL_law_22 ?_
    refine x_icmp_gt 945 dL_law_23 (by decide) (fun _ => ?_) (fun q => ?_)
    · refine x_iconst 1 dL_law_945 (by decide) ?_
      exact l_ret hce hsl dL_law_946
    · have hk : 5 * k + 5 ≤ Ls ∧ Ls < 5 * k + (t + 1) := by
        have e5 : (nI 5).toInt = 5 := by decide
        have eL := nI_T Ls (by omega)
        rw [iLT, fb_subI (by rw [eL, e5]; omega) (by rw [eL, e5]; omega), nI_T (5 * k) (by omega), eL, e5] at q
        omega
      obtain ⟨hk, hk3⟩ := hk
      have fin : ∀ d' m' c', c' ≤ c + 14 → rel d' m' c' → xV (lF G nm b Ls xs) 939 [none, some (.ref 0), some (.ref MB), some (.int (nI (5 * k)))] [] NT (hp (dk d') m') ce sl := fun d' m' c' h1 h2 => by
        refine x_iinc3 (nI (5 * (k + 1))) dL_law_939 (nI_add (5 * k) 5) rfl rfl rfl ?_
        refine x_goto 18 dL_law_942 (by decide) ?_
        exact ih (k + 1) (by omega) (by omega) d' m' c' h2 (by omega)
      refine l_arg0 dL_law_26 dL_law_27 dL_law_28 (by omega) hL ?_
      refine x_bipush (nI 31) dL_law_29 (by decide) ?_
      refine x_iand dL_law_31 ?_
      obtain ⟨t, t1, t2⟩ := and31 (xs (5 * k))
      refine xV.toi _ t2 ?_
      by_cases ht : t < 27
      · rcases (show t = 0 ∨ t = 1 ∨ t = 2 ∨ t = 3 ∨ t = 4 ∨ t = 5 ∨ t = 6 ∨ t = 7 ∨ t = 8 ∨ t = 9 ∨ t = 10 ∨ t = 11 ∨ t = 12 ∨ t = 13 ∨ t = 14 ∨ t = 15 ∨ t = 16 ∨ t = 17 ∨ t = 18 ∨ t = 19 ∨ t = 20 ∨ t = 21 ∨ t = 22 ∨ t = 23 ∨ t = 24 ∨ t = 25 ∨ t = 26 by omega) with rfl | rfl | rfl | rfl | rfl | rfl | rfl | rfl | rfl | rfl | rfl | rfl | rfl | rfl | rfl | rfl | rfl | rfl | rfl | rfl | rfl | rfl | rfl | rfl | rfl | rfl | rfl
        · exact x_tableIn 156 dL_law_32 (by decide) (by decide) (off := 124) (by decide) (by decide) (lc_line hr (by omega) hk hL hce hsl fin)
        · exact x_tableIn 209 dL_law_32 (by decide) (by decide) (off := 177) (by decide) (by decide) (lc_today hr (by omega) hk hL hce hsl fin)
        · exact x_tableIn 232 dL_law_32 (by decide) (by decide) (off := 200) (by decide) (by decide) (lc_terms hr (by omega) hk hL hce hsl fin)
        · exact x_tableIn 265 dL_law_32 (by decide) (by decide) (off := 233) (by decide) (by decide) (lc_told hr (by omega) hk hL hce hsl fin)
        · exact x_tableIn 308 dL_law_32 (by decide) (by decide) (off := 276) (by decide) (by decide) (lc_fit hr (by omega) hk hL hce hsl fin)
        · exact x_tableIn 341 dL_law_32 (by decide) (by decide) (off := 309) (by decide) (by decide) (lc_best hr (by omega) hk hL hce hsl fin)
        · exact x_tableIn 354 dL_law_32 (by decide) (by decide) (off := 322) (by decide) (by decide) (lc_with hr (by omega) hk hL hce hsl fin)
        · exact x_tableIn 377 dL_law_32 (by decide) (by decide) (off := 345) (by decide) (by decide) (lc_rival hr (by omega) hk hL hce hsl fin)
        · exact x_tableIn 400 dL_law_32 (by decide) (by decide) (off := 368) (by decide) (by decide) (lc_pair hr (by omega) hk hL hce hsl fin)
        · exact x_tableIn 423 dL_law_32 (by decide) (by decide) (off := 391) (by decide) (by decide) (lc_sets hr (by omega) hk hL hce hsl fin)
        · exact x_tableIn 476 dL_law_32 (by decide) (by decide) (off := 444) (by decide) (by decide) (lc_size hr (by omega) hk hL hce hsl fin)
        · exact x_tableIn 499 dL_law_32 (by decide) (by decide) (off := 467) (by decide) (by decide) (lc_in hr (by omega) hk hL hce hsl fin)
        · exact x_tableIn 532 dL_law_32 (by decide) (by decide) (off := 500) (by decide) (by decide) (lc_set hr (by omega) hk hL hce hsl fin)
        · exact x_tableIn 555 dL_law_32 (by decide) (by decide) (off := 523) (by decide) (by decide) (lc_hand hr (by omega) hk hL hce hsl fin)
        · exact x_tableIn 588 dL_law_32 (by decide) (by decide) (off := 556) (by decide) (by decide) (lc_join hr (by omega) hk hL hce hsl fin)
        · exact x_tableIn 631 dL_law_32 (by decide) (by decide) (off := 599) (by decide) (by decide) (lc_part hr (by omega) hk hL hce hsl fin)
        · exact x_tableIn 654 dL_law_32 (by decide) (by decide) (off := 622) (by decide) (by decide) (lc_lock hr (by omega) hk hL hce hsl fin)
        · exact x_tableIn 687 dL_law_32 (by decide) (by decide) (off := 655) (by decide) (by decide) (lc_group hr (by omega) hk hL hce hsl fin)
        · exact x_tableIn 720 dL_law_32 (by decide) (by decide) (off := 688) (by decide) (by decide) (lc_breaks hr (by omega) hk hL hce hsl fin)
        · exact x_tableIn 753 dL_law_32 (by decide) (by decide) (off := 721) (by decide) (by decide) (lc_broken hr (by omega) hk hL hce hsl fin)
        · exact x_tableIn 786 dL_law_32 (by decide) (by decide) (off := 754) (by decide) (by decide) (lc_sum hr (by omega) hk hL hce hsl fin)
        · exact x_tableIn 810 dL_law_32 (by decide) (by decide) (off := 778) (by decide) (by decide) (lc_as hr (by omega) hk hL hce hsl fin)
        · exact x_tableIn 844 dL_law_32 (by decide) (by decide) (off := 812) (by decide) (by decide) (lc_explain hr (by omega) hk hL hce hsl fin)
        · exact x_tableIn 857 dL_law_32 (by decide) (by decide) (off := 825) (by decide) (by decide) (lc_explained hr (by omega) hk hL hce hsl fin)
        · exact x_tableIn 890 dL_law_32 (by decide) (by decide) (off := 858) (by decide) (by decide) (lc_undo hr (by omega) hk hL hce hsl fin)
        · exact x_tableIn 903 dL_law_32 (by decide) (by decide) (off := 871) (by decide) (by decide) (lc_count hr (by omega) hk hL hce hsl fin)
        · exact x_tableIn 926 dL_law_32 (by decide) (by decide) (off := 894) (by decide) (by decide) (lc_check hr (by omega) hk hL hce hsl fin)
      · refine x_tableOut 939 dL_law_32 (Or.inr ?_) (by decide) (fin d m c (by omega) hr)
        rw [nI_T t (by omega)]
        omega
end LAWL
theorem nwL_10 : xNW RL 10 10 47 fs0 := ⟨RX10, TX10, tyX10, rfl, cwX10, tyX10_ok, clL_10, inX10, izX10, fun j hj => by rcases (show j = 0 ∨ j = 1 ∨ j = 2 ∨ j = 3 ∨ j = 4 ∨ j = 5 ∨ j = 6 ∨ j = 7 ∨ j = 8 ∨ j = 9 ∨ j = 10 ∨ j = 11 ∨ j = 12 ∨ j = 13 ∨ j = 14 ∨ j = 15 ∨ j = 16 ∨ j = 17 ∨ j = 18 ∨ j = 19 ∨ j = 20 ∨ j = 21 ∨ j = 22 ∨ j = 23 ∨ j = 24 ∨ j = 25 ∨ j = 26 ∨ j = 27 ∨ j = 28 ∨ j = 29 ∨ j = 30 ∨ j = 31 ∨ j = 32 ∨ j = 33 ∨ j = 34 ∨ j = 35 ∨ j = 36 ∨ j = 37 ∨ j = 38 ∨ j = 39 ∨ j = 40 ∨ j = 41 ∨ j = 42 ∨ j = 43 ∨ j = 44 ∨ j = 45 ∨ j = 46 by omega) with rfl | rfl | rfl | rfl | rfl | rfl | rfl | rfl | rfl | rfl | rfl | rfl | rfl | rfl | rfl | rfl | rfl | rfl | rfl | rfl | rfl | rfl | rfl | rfl | rfl | rfl | rfl | rfl | rfl | rfl | rfl | rfl | rfl | rfl | rfl | rfl | rfl | rfl | rfl | rfl | rfl | rfl | rfl | rfl | rfl | rfl | rfl <;> rfl, fun _ => rfl⟩
theorem nl0 (b : Nat) : nL m0 b = 0 := (by decide : nv (0 : Int32) = 0)
theorem ng0 : nG m0 = 0 := (by decide : nv (0 : Int32) = 0)
theorem na0 : nA m0 = 0 := (by decide : nv (0 : Int32) = 0)
theorem inv0 : inv m0 := by
  refine ⟨fun b _ => ⟨?_, by rw [nl0]; omega⟩, ⟨?_, by rw [ng0]; omega⟩, fun g hg => ?_, fun b _ i hi => ?_, fun b _ i hi => ?_, fun g hg => ?_, fun g hg => ?_, fun g hg => ?_, ⟨by decide, by decide⟩, fun b _ i hi => ?_, fun g hg => ?_, fun b _ i hi => ?_, fun g hg => ?_, fun g hg => ?_⟩
  · rw [nl0]; exact nI0.symm
  · rw [ng0]; exact nI0.symm
  all_goals first | (rw [ng0] at hg; omega) | (rw [nl0] at hi; omega)
theorem rel0 : rel d0 m0 0 := by
  have e0 : (0 : Int32) = nI 0 := nI0.symm
  have ze : nv (0 : Int32) = 0 := by decide
  refine ⟨⟨⟨fun _ _ => rfl, rfl, rfl, rfl, rfl, fun k _ b _ i hi => ?_, fun g hg => ?_, fun g hg => ?_⟩, ?_, ⟨?_, by rw [na0]; omega⟩, ⟨⟨?_, ?_⟩, rfl, fun t ht => ?_⟩, fun t ht => ?_⟩, e0, Or.inl rfl, Or.inl rfl, ⟨⟨fun q => ?_, fun q => absurd rfl q⟩, ⟨0, by decide, e0⟩, fun n T _ _ h3 => ?_, fun q => absurd rfl q⟩, ⟨⟨fun q => ?_, fun q => absurd rfl q⟩, 0, 0, [], by decide, by decide, e0, e0, e0, e0, ⟨⟨e0, by decide, fun k hk => absurd hk (Nat.not_lt_zero k)⟩, fun t ht => by cases ht⟩, ⟨e0, by decide, fun k hk => absurd hk (Nat.not_lt_zero k)⟩, fun q => absurd rfl q⟩, ⟨0, by decide, e0, e0, fun t ht => absurd ht (Nat.not_lt_zero t)⟩⟩
  · rw [nl0] at hi; omega
  · rw [ng0] at hg; omega
  · rw [ng0] at hg; omega
  · rw [na0]; exact inv0
  · rw [na0]; exact e0
  · show (0 : Int32) = nI (nv (0 : Int32))
    rw [ze]; exact e0
  · show nv (0 : Int32) < 60
    rw [ze]; decide
  · rw [na0] at ht; omega
  · rw [na0] at ht; omega
  · have q : (-1 : Int32) = 0 := q
    exact absurd q (by decide)
  · have h3 : (-1 : Int32) = nI n := h3
    exact fun _ _ hk => absurd h3.symm (nIm1 (by omega))
  · have q : (-1 : Int32) = 0 := q
    exact absurd q (by decide)
theorem l_nest {s : State} {b : Nat} (hts : ∀ w ∈ lw_tbl, w.before #[Value.ref b] s = true) : xN s := by
  refine ⟨fun w hw hn => ?_, ?_⟩
  · have hs := hts w hw
    cases w with
    | methodLinkNest a i x b => exact hs
    | arrayOver t =>
      cases t with
      | object C => exact hs
      | _ => simp [isNest] at hn
    | _ => simp [isNest] at hn
  · obtain ⟨comp, c, k, h1, h2, h3, h4, h5⟩ := arrayOverA_spec (hts (Cond.arrayOver (.array .int)) (List.mem_of_getElem? (i := 187) (by decide +kernel)))
    have e1 : (FieldType.array .int).toString = "[I" := by decide +kernel
    have e2 : "[" ++ (FieldType.array .int).toString = "[[I" := by decide +kernel
    rw [e2] at h5
    rw [e1] at h1
    exact ⟨comp, c, k, h1, h5, h3, h4⟩
theorem l_arr {s : State} {b : Nat} {ty : FieldType} (hp : ∀ U cA, va_RA U cA ty = (U.vm.findClass ("[" ++ ty.toString) = some cA)) (h : (Cond.arrayClass ty).before #[Value.ref b] s = true) : ∃ cA, ArrOfT s cA ty ∧ va_RA s cA ty := by
  obtain ⟨c, k, comp, h1, h2, h3⟩ := Cond.arrayClass_spec h
  refine ⟨c, fun n z => ⟨fun k hk => (by cases hk), k, h2, comp, h3⟩, ?_⟩
  rw [hp]; exact h1
theorem l_arrO {s : State} {b : Nat} {C : String} (h : (Cond.arrayOver (.object C)).before #[Value.ref b] s = true) : ∃ cA, ArrOfT s cA (.object C) ∧ va_RA s cA (.object C) := by
  obtain ⟨comp, c, k, h1, h2, h3, h4, h5⟩ := Cond.arrayOver_spec h
  exact ⟨c, fun n z => ⟨fun k hk => (by cases hk), k, h3, comp, h4⟩, k, comp, h3, h4, h1, h5⟩
theorem l_arrA {s : State} {b : Nat} (h : (Cond.arrayOver (.array .int)).before #[Value.ref b] s = true) : ∃ cA, ArrOfT s cA (.array .int) ∧ va_RA s cA (.array .int) := by
  obtain ⟨comp, c, k, h1, h2, h3, h4, h5⟩ := arrayOverA_spec h
  exact ⟨c, fun n z => ⟨fun k hk => (by cases hk), k, h3, comp, h4⟩, h5⟩
set_option maxHeartbeats 4000000 in
set_option maxRecDepth 20000 in
theorem whole_start {p : Program} {e : Env} {s : State} {m : MethodId} {below : List Frame} {meth : Method} {c : Code} (l : Launch) {b L : Nat} {xs : Nat → Int32} (hL : L ≤ 2560) (C0 : lw_At p s m meth c b L xs) : W p l e room_1 s m #[Value.ref b] below meth c s.heap [] 0 0 (lw_Z below #[Value.ref b] s) (entryFrame m ([Value.ref b] : List Value).toArray 4) := by
  obtain ⟨hx, hb, hr, hml, hown, hts, hX, hbl, hlocks, hgv⟩ := id C0
  obtain ⟨c0, i0, k0⟩ := u_known (C := RX0) (T := TX0) (N := 5) (n := 5) hts (fun w hw => lw_ok_sub (cwX0 w hw)) (hts _ (lw_ok_sub inX0))
  obtain ⟨c1, i1, k1⟩ := u_known (C := RX1) (T := TX1) (N := 2) (n := 2) hts (fun w hw => lw_ok_sub (cwX1 w hw)) (hts _ (lw_ok_sub inX1))
  obtain ⟨c2, i2, k2⟩ := u_known (C := RX2) (T := TX2) (N := 10) (n := 10) hts (fun w hw => lw_ok_sub (cwX2 w hw)) (hts _ (lw_ok_sub inX2))
  obtain ⟨c3, i3, k3⟩ := u_known (C := RX3) (T := TX3) (N := 6) (n := 6) hts (fun w hw => lw_ok_sub (cwX3 w hw)) (hts _ (lw_ok_sub inX3))
  obtain ⟨c4, i4, k4⟩ := u_known (C := RX4) (T := TX4) (N := 9) (n := 9) hts (fun w hw => lw_ok_sub (cwX4 w hw)) (hts _ (lw_ok_sub inX4))
  obtain ⟨c5, i5, k5⟩ := u_known (C := RX5) (T := TX5) (N := 9) (n := 9) hts (fun w hw => lw_ok_sub (cwX5 w hw)) (hts _ (lw_ok_sub inX5))
  obtain ⟨c6, i6, k6⟩ := u_known (C := RX6) (T := TX6) (N := 12) (n := 12) hts (fun w hw => lw_ok_sub (cwX6 w hw)) (hts _ (lw_ok_sub inX6))
  obtain ⟨c7, i7, k7⟩ := u_known (C := RX7) (T := TX7) (N := 13) (n := 13) hts (fun w hw => lw_ok_sub (cwX7 w hw)) (hts _ (lw_ok_sub inX7))
  obtain ⟨c8, i8, k8⟩ := u_known (C := RX8) (T := TX8) (N := 3) (n := 3) hts (fun w hw => lw_ok_sub (cwX8 w hw)) (hts _ (lw_ok_sub inX8))
  obtain ⟨c9, i9, k9⟩ := u_known (C := RX9) (T := TX9) (N := 11) (n := 11) hts (fun w hw => lw_ok_sub (cwX9 w hw)) (hts _ (lw_ok_sub inX9))
  obtain ⟨c10, i10, k10⟩ := u_known (C := RX10) (T := TX10) (N := 47) (n := 47) hts (fun w hw => lw_ok_sub (cwX10 w hw)) (hts _ (lw_ok_sub inX10))
  obtain ⟨dC, dI, hKc⟩ : ∃ (dC : Nat → ClassId) (dI : Nat → Nat → Nat), ∀ (k : Nat) (q : vw_C), vwCl[k]? = some q → u_Kn s q.1 q.2.1 q.2.2 (dC k) (dI k) := by
    refine ⟨fun k => if k = 0 then c0 else if k = 1 then c1 else if k = 2 then c2 else if k = 3 then c3 else if k = 4 then c4 else if k = 5 then c5 else if k = 6 then c6 else if k = 7 then c7 else if k = 8 then c8 else if k = 9 then c9 else c10, fun k => if k = 0 then i0 else if k = 1 then i1 else if k = 2 then i2 else if k = 3 then i3 else if k = 4 then i4 else if k = 5 then i5 else if k = 6 then i6 else if k = 7 then i7 else if k = 8 then i8 else if k = 9 then i9 else i10, ?_⟩
    intro k q hq
    match k, hq with
    | 0, hq => cases hq; exact k0
    | 1, hq => cases hq; exact k1
    | 2, hq => cases hq; exact k2
    | 3, hq => cases hq; exact k3
    | 4, hq => cases hq; exact k4
    | 5, hq => cases hq; exact k5
    | 6, hq => cases hq; exact k6
    | 7, hq => cases hq; exact k7
    | 8, hq => cases hq; exact k8
    | 9, hq => cases hq; exact k9
    | 10, hq => cases hq; exact k10
    | k + 11, hq => simp [vwCl] at hq
  obtain ⟨a0, r0⟩ := l_arr (ty := .int) (fun _ _ => rfl) (hts _ (lw_ok_sub ac_int))
  obtain ⟨a1, r1⟩ := l_arr (ty := .boolean) (fun _ _ => rfl) (hts _ (lw_ok_sub ac_bool))
  obtain ⟨a2, r2⟩ := l_arr (ty := .long) (fun _ _ => rfl) (hts _ (lw_ok_sub ac_long))
  obtain ⟨a3, r3⟩ := l_arrO (hts _ aoX4)
  obtain ⟨a4, r4⟩ := l_arrO (hts _ aoX3)
  obtain ⟨a5, r5⟩ := l_arrO (hts _ aoX1)
  obtain ⟨a6, r6⟩ := l_arrA (hts (Cond.arrayOver (.array .int)) (List.mem_of_getElem? (i := 187) (by decide +kernel)))
  have hK : va_K (dC, dI) vwCl (vx_ty ((l, (dC, dI), (fun k => if k = 0 then a0 else if k = 1 then a1 else if k = 2 then a2 else if k = 3 then a3 else if k = 4 then a4 else if k = 5 then a5 else a6), s.heap.size) : vx_G)) s := by
    refine ⟨hKc, ?_⟩
    intro k q hq
    match k, hq with
    | 0, hq => cases hq; exact r0
    | 1, hq => cases hq; exact r1
    | 2, hq => cases hq; exact r2
    | 3, hq => cases hq; exact r3
    | 4, hq => cases hq; exact r4
    | 5, hq => cases hq; exact r5
    | 6, hq => cases hq; exact r6
    | k + 7, hq => simp [vx_ty] at hq
  generalize hG : ((l, (dC, dI), (fun k => if k = 0 then a0 else if k = 1 then a1 else if k = 2 then a2 else if k = 3 then a3 else if k = 4 then a4 else if k = 5 then a5 else a6), s.heap.size) : vx_G) = G at hK
  have g1 : G.1 = l := by rw [← hG]
  have g2 : G.2.1 = (dC, dI) := by rw [← hG]
  have g3 : G.2.2.2 = s.heap.size := by rw [← hG]
  have main : xV (lF G meth.name b L xs) 0 [none, none, none, none] [] 0 (dk d0) 0 0 := by
    refine x_new nwL_7 (Nat.le_of_ble_eq_true rfl) (Nat.le_of_ble_eq_true rfl) dL_law_0 ?_
    refine x_dup dL_law_3 rfl ?_
    refine x_callI0v miL_9 (kd_init G _ up_at) (xRoom.of rfl) (Nat.le_of_ble_eq_true rfl) dL_law_4 (fun n' h' hP => ?_)
    obtain ⟨rfl, hq⟩ := hP
    refine xV.heap hq ?_
    refine l_ast1 dL_law_7 ?_
    refine x_new nwL_10 (Nat.le_of_ble_eq_true rfl) (Nat.le_of_ble_eq_true rfl) dL_law_8 ?_
    refine x_dup dL_law_11 rfl ?_
    refine x_callI0v miL_12 (k_init G _ up_at) (xRoom.of rfl) (Nat.le_of_ble_eq_true rfl) dL_law_12 (fun n' h' hP => ?_)
    obtain ⟨rfl, hq⟩ := hP
    refine xV.heap (h' := hp (dk d0) m0) (fun a ha => (hq a ha).trans ?_) ?_
    · unfold hp
      by_cases c : a < MB
      · rw [if_pos c, if_pos c]
        exact if_neg (by unfold MB at c; omega)
      · rw [if_neg c, if_neg c]
    refine x_astore2 dL_law_15 rfl rfl rfl ?_
    refine x_iconst (nI 0) dL_law_16 (by decide) ?_
    refine x_istore3 dL_law_17 rfl rfl rfl ?_
    exact l_loop hL (by decide) (by decide) (L + 1) 0 (by omega) (by omega) d0 m0 0 rel0 (by omega)
  have hl := lv_entry ([.ref b]) (n := 4) (Nat.le_of_ble_eq_true rfl)
  rw [lg_entry_eq]
  generalize (lg_sl ([.ref b]) ++ List.replicate (4 - (lg_sl ([.ref b])).length) Slot.unset).toArray = ls at hl ⊢
  have hl : lv_has ls 4 [(0, .ref b)] := hl
  have h := main p e s m #[Value.ref b] below meth c ⟨hx, hb, hr, hml, hown, fun w hw => hts w (lw_ok_sub hw), hlocks, by rw [g2]; exact hK, by rw [g3]; exact Nat.le_refl _, rfl, l_nest hts, hX, hbl, g3.symm⟩ s.heap [] ls ⟨fun k q hk => by simp [wl] at hk, by rw [g3]; rfl⟩ va_S.rf hl
  rw [g1] at h
  exact h
