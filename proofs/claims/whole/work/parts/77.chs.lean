/-! ===== sets, 2: what the model chooses ===== -/
def sM (q : mS) (L : List (List Nat)) : Prop := q.1 35 0 = nI L.length ∧ L.length ≤ 5000 ∧ ∀ k, k < L.length → q.1 33 k = nI (L.getD k []).length ∧ ∀ j, j < (L.getD k []).length → q.1 34 (4 * k + j) = nI ((L.getD k []).getD j 0)
theorem sM_n {q : mS} {L : List (List Nat)} (h : sM q L) : nS q = L.length := by
  show nv (q.1 35 0) = _
  rw [h.1]; exact nv_nI (by have := h.2.1; omega)
theorem pcM_in {m : mS} {n : Nat} : ∀ z t, t < z → (pcM m n z).1 34 (4 * n + t) = m.1 36 t
  | 0, t, h => absurd h (Nat.not_lt_zero t)
  | z + 1, t, h => by
    show (mset (pcM m n z) 34 (4 * n + z) (m.1 36 z)).1 34 (4 * n + t) = _
    by_cases q : t = z
    · rw [q, mset_at]
    · rw [mset_off (by omega)]; exact pcM_in z t (by omega)
theorem pcM_out {m : mS} {n x : Nat} : ∀ z, (∀ t, t < z → x ≠ 4 * n + t) → (pcM m n z).1 34 x = m.1 34 x
  | 0, _ => rfl
  | z + 1, h => by
    show (mset (pcM m n z) 34 (4 * n + z) (m.1 36 z)).1 34 x = _
    rw [mset_off (h z (by omega))]; exact pcM_out z (fun t ht => h t (by omega))
theorem sM_put {q : mS} {L : List (List Nat)} {pp : List Nat} {z : Nat} (h : sM q L) (hl : L.length < 5000) (hz : pp.length = z) (h4 : z ≤ 4) (h36 : ∀ t, t < z → q.1 36 t = nI (pp.getD t 0)) (hL4 : ∀ k, k < L.length → (L.getD k []).length ≤ 4) : sM (putM q z) (L ++ [pp]) := by
  have n := sM_n h
  have k33 : (putM q z).1 33 = (mset q 33 (nS q) (nI z)).1 33 := by unfold putM; rw [mset_ne (by decide), pcM_ne (by decide)]
  have k34 : (putM q z).1 34 = (pcM (mset q 33 (nS q) (nI z)) (nS q) z).1 34 := by unfold putM; rw [mset_ne (by decide)]
  refine ⟨by unfold putM; rw [mset_at, n, List.length_append, List.length_singleton], by rw [List.length_append, List.length_singleton]; omega, fun k hk => ?_⟩
  rw [List.length_append, List.length_singleton] at hk
  rw [k33, k34, n]
  rcases Nat.lt_or_ge k L.length with q1 | q1
  · rw [gd_l q1, mset_off (by omega)]
    refine ⟨(h.2.2 k q1).1, fun j hj => ?_⟩
    have := hL4 k q1
    rw [pcM_out z (fun t ht => by omega), mset_ne (by decide)]
    exact (h.2.2 k q1).2 j hj
  · have e : k = L.length := by omega
    subst e
    rw [gd_r, mset_at, hz]
    refine ⟨rfl, fun j hj => ?_⟩
    rw [pcM_in z j hj, mset_ne (by decide)]
    exact h36 j hj
theorem ap4 {L A : List (List Nat)} (h1 : ∀ k, k < L.length → (L.getD k []).length ≤ 4) (h2 : ∀ t, t ∈ A → t.length ≤ 4) : ∀ k, k < (ap L A).length → ((ap L A).getD k []).length ≤ 4 := by
  have hm : ∀ t, t ∈ ap L A → t.length ≤ 4 := by
    intro t ht
    unfold ap at ht
    rcases List.mem_append.mp (List.mem_of_mem_take ht) with q | q
    · obtain ⟨k, hk, e⟩ := List.getElem_of_mem q
      have := h1 k hk
      have e2 : L.getD k [] = t := by rw [← e]; simp [List.getD, List.getElem?_eq_getElem hk]
      rw [e2] at this; exact this
    · exact h2 t q
  intro k hk
  exact hm _ (gd_mem hk)
theorem abL_I {o : Int64} {E : Nat} {e : Int32} (he : e = nI E) (hE : E ≤ 10000) (h1 : -100000000 ≤ o.toInt) (h2 : o.toInt ≤ 100000000) : ¬ e.toInt64 < abL o ↔ (-(E : Int) ≤ o.toInt ∧ o.toInt ≤ (E : Int)) := by
  have e1 : e.toInt64.toInt = (E : Int) := by
    rw [toL, he, nI_T E (by omega), zL_T (by omega) (by omega)]
  have e0 : ((0 : Int64)).toInt = 0 := by decide
  unfold abL
  by_cases q : o < 0
  · have q' := Int64.lt_iff_toInt_lt.mp q
    have en : (-o).toInt = -o.toInt := by
      have := zL_neg o.toInt
      rw [← zL_of] at this
      rw [this, zL_T (by omega) (by omega)]
    rw [if_pos q, Int64.lt_iff_toInt_lt, e1, en]; omega
  · have q' : ¬ o.toInt < 0 := fun z => q (Int64.lt_iff_toInt_lt.mpr (by rw [e0]; exact z))
    rw [if_neg q, Int64.lt_iff_toInt_lt, e1]; omega
theorem subL_I {o : Int64} {v : Int32} (h1 : -100000000 ≤ o.toInt) (h2 : o.toInt ≤ 100000000) (h3 : -1000000 ≤ v.toInt) (h4 : v.toInt ≤ 1000000) : (o - v.toInt64).toInt = o.toInt - v.toInt := by
  have := zL_sub o.toInt v.toInt
  rw [← zL_of, ← toL] at this
  rw [this, zL_T (by omega) (by omega)]
def amM (m : mS) (B i : Nat) : Int := (m.1 0 (80 * B + i)).toInt
set_option maxHeartbeats 1000000 in
theorem chS_L {m : mS} {B z E : Nat} {e : Int32} (hN : nL m B ≤ 80) (hz : z ≤ 4) (he : e = nI E) (hE : E ≤ 10000) (hA : ∀ i, i < nL m B → amB (m.1 0 (80 * B + i))) : ∀ l, l ≤ z → ∀ (i : Nat) (o : Int64) (q : mS) (L : List (List Nat)) (pp : List Nat), smC m q → iS q → sM q L → (∀ k, k < L.length → (L.getD k []).length ≤ 4) → pp.length = z - l → (∀ t, t < z - l → q.1 36 t = nI (pp.getD t 0)) → (-1000000 * (1 + ((z - l : Nat) : Int)) ≤ o.toInt ∧ o.toInt ≤ 1000000 * (1 + ((z - l : Nat) : Int))) → sM (chS m B z e l i o q) (ap L ((cm (cdB m B) (amM m B) (nL m B) (E : Int) l i o.toInt).map (fun t => pp ++ t))) ∧ ∀ t, t < z - l → (chS m B z e l i o q).1 36 t = q.1 36 t
  | 0, _, i, o, q, L, pp, hc, hS, hM, h4, hp, h36, ho => by
    have ed : chS m B z e 0 i o q = if ¬ e.toInt64 < abL o ∧ nS q < 5000 then putM q z else q := rfl
    have ec : cm (cdB m B) (amM m B) (nL m B) (E : Int) 0 i o.toInt = if -(E : Int) ≤ o.toInt ∧ o.toInt ≤ (E : Int) then [[]] else [] := rfl
    have ai := abL_I (o := o) he hE (by omega) (by omega)
    have n := sM_n hM
    rw [Nat.sub_zero] at hp h36
    by_cases c : -(E : Int) ≤ o.toInt ∧ o.toInt ≤ (E : Int)
    · rw [ec, if_pos c]
      by_cases f : nS q < 5000
      · rw [ed, if_pos ⟨ai.mpr c, f⟩]
        have em : ([[]] : List (List Nat)).map (fun t => pp ++ t) = [pp] := by simp
        rw [em, ap_one (by omega)]
        refine ⟨sM_put hM (by omega) hp hz h36 h4, fun t ht => ?_⟩
        unfold putM
        rw [mset_ne (by decide), pcM_ne (by decide), mset_ne (by decide)]
      · rw [ed, if_neg (fun w => f w.2), ap_full (by have := hM.2.1; omega)]
        exact ⟨hM, fun _ _ => rfl⟩
    · rw [ec, if_neg c, ed, if_neg (fun w => c (ai.mp w.1)), List.map_nil, ap_nil hM.2.1]
      exact ⟨hM, fun _ _ => rfl⟩
  | l + 1, hl, i, o, q, L, pp, hc, hS, hM, h4, hp, h36, ho => by
    have ih := chS_L (B := B) (z := z) hN hz he hE hA l (by omega)
    have key : ∀ (n i : Nat) (q : mS) (L : List (List Nat)), nL m B - i ≤ n → smC m q → iS q → sM q L → (∀ k, k < L.length → (L.getD k []).length ≤ 4) → (∀ t, t < z - (l + 1) → q.1 36 t = nI (pp.getD t 0)) → sM (cScan m B z l o (chS m B z e l) n i q) (ap L ((cm (cdB m B) (amM m B) (nL m B) (E : Int) (l + 1) i o.toInt).map (fun t => pp ++ t))) ∧ ∀ t, t < z - (l + 1) → (cScan m B z l o (chS m B z e l) n i q).1 36 t = q.1 36 t := by
      intro n
      induction n with
      | zero =>
        intro i q L h1 hc hS hM h4 h36
        rw [cm_out (by omega), List.map_nil, ap_nil hM.2.1]
        exact ⟨hM, fun _ _ => rfl⟩
      | succ n ihn =>
        intro i q L h1 hc hS hM h4 h36
        have ed : cScan m B z l o (chS m B z e l) (n + 1) i q = if i < nL m B ∧ nS q < 5000 then (if cdB m B i = true then cScan m B z l o (chS m B z e l) n (i + 1) (chS m B z e l (i + 1) (o - (m.1 0 (80 * B + i)).toInt64) (mset q 36 (z - (l + 1)) (nI i))) else cScan m B z l o (chS m B z e l) n (i + 1) q) else q := rfl
        have ns := sM_n hM
        by_cases g : i < nL m B ∧ nS q < 5000
        · rw [if_pos g] at ed
          cases hb : cdB m B i with
          | true =>
            rw [if_pos hb] at ed
            have ab := hA i g.1
            have ab1 : -1000000 ≤ (m.1 0 (80 * B + i)).toInt := ab.1
            have ab2 : (m.1 0 (80 * B + i)).toInt ≤ 1000000 := ab.2
            have so := subL_I (o := o) (v := m.1 0 (80 * B + i)) (by omega) (by omega) ab1 ab2
            have c36 : smC m (mset q 36 (z - (l + 1)) (nI i)) := ⟨hc.1, fun j a1 a2 a3 a4 => by rw [mset_ne a4]; exact hc.2 j a1 a2 a3 a4⟩
            have s36 : iS (mset q 36 (z - (l + 1)) (nI i)) := by unfold iS nS at hS ⊢; rw [mset_ne (by decide)]; exact hS
            have m36 : sM (mset q 36 (z - (l + 1)) (nI i)) L := by unfold sM; rw [mset_ne (by decide), mset_ne (by decide), mset_ne (by decide)]; exact hM
            obtain ⟨r1, r2⟩ := ih (i + 1) (o - (m.1 0 (80 * B + i)).toInt64) (mset q 36 (z - (l + 1)) (nI i)) L (pp ++ [i]) c36 s36 m36 h4 (by rw [List.length_append, List.length_singleton]; omega) (fun t ht => by
              rcases Nat.lt_or_ge t (z - (l + 1)) with w | w
              · rw [mset_off (by omega), gd_l (by omega)]; exact h36 t w
              · have et : t = z - (l + 1) := by omega
                rw [et, mset_at, ← hp, gd_r]) (by rw [so]; omega)
            have ok := chS_ok (B := B) (z := z) (e := e) l (i + 1) (o - (m.1 0 (80 * B + i)).toInt64) (mset q 36 (z - (l + 1)) (nI i)) c36 s36
            have a4 := ap4 (A := (cm (cdB m B) (amM m B) (nL m B) (E : Int) l (i + 1) (o - (m.1 0 (80 * B + i)).toInt64).toInt).map (fun t => (pp ++ [i]) ++ t)) h4 (fun t ht => by
              obtain ⟨s, s1, s2⟩ := List.mem_map.mp ht
              have := (cm_mem hN l (i + 1) _ s s1).1
              rw [← s2, List.length_append, List.length_append, List.length_singleton]
              omega)
            obtain ⟨w1, w2⟩ := ihn (i + 1) _ _ (by omega) ok.1 ok.2 r1 a4 (fun t ht => by rw [r2 t (by omega), mset_off (by omega)]; exact h36 t ht)
            rw [ed]
            refine ⟨?_, fun t ht => by rw [w2 t ht, r2 t (by omega), mset_off (by omega)]⟩
            rw [ap_ap] at w1
            rw [cm_yes hN g.1 hb, List.map_append, List.map_map]
            rw [so] at w1
            have em : (cm (cdB m B) (amM m B) (nL m B) (E : Int) l (i + 1) (o.toInt - (m.1 0 (80 * B + i)).toInt)).map (fun t => (pp ++ [i]) ++ t) = (cm (cdB m B) (amM m B) (nL m B) (E : Int) l (i + 1) (o.toInt - amM m B i)).map ((fun t => pp ++ t) ∘ fun t => i :: t) := by
              refine List.map_congr_left (fun t _ => ?_)
              show (pp ++ [i]) ++ t = pp ++ (i :: t)
              rw [List.append_assoc]; rfl
            rw [em] at w1
            exact w1
          | false =>
            rw [if_neg (by rw [hb]; exact Bool.false_ne_true)] at ed
            rw [ed, cm_no hN g.1 hb]
            exact ihn (i + 1) q L (by omega) hc hS hM h4 h36
        · rw [if_neg g] at ed
          rw [ed]
          rcases Nat.lt_or_ge i (nL m B) with w | w
          · rw [ap_full (by have := hM.2.1; omega)]
            exact ⟨hM, fun _ _ => rfl⟩
          · rw [cm_out w, List.map_nil, ap_nil hM.2.1]
            exact ⟨hM, fun _ _ => rfl⟩
    exact key (81 - i) i q L (by omega) hc hS hM h4 h36
theorem cdB_st {m : mS} {B I : Nat} (hB : B < 2) (hI : I < 80) : cdB (st0 m B I) (1 - B) = cdP m (1 - B) (80 * B + I) (m.1 8 0) := by
  have k : ∀ j, j < 17 → (st0 m B I).1 j = m.1 j := fun j hj => by unfold st0; rw [mset_ne (by omega), mset_ne (by omega), mset_ne (by omega), mset_ne (by omega)]
  have e1 : sBk (st0 m B I) = B := by
    show nv ((st0 m B I).1 31 0) = B
    unfold st0
    rw [mset_ne (by decide), mset_ne (by decide), mset_at]; exact nv_nI (by omega)
  have e2 : sLn (st0 m B I) = I := by
    show nv ((st0 m B I).1 32 0) = I
    unfold st0
    rw [mset_ne (by decide), mset_at]; exact nv_nI (by omega)
  refine funext fun i => ?_
  unfold cdB cdP
  rw [e1, e2, k 5 (by decide), k 1 (by decide), k 8 (by decide)]
theorem stL_L {m : mS} {B I E : Nat} {e : Int32} (hB : B < 2) (hI : I < 80) (hN : nL m (1 - B) ≤ 80) (he : e = nI E) (hE : E ≤ 10000) (hA : ∀ i, i < nL m (1 - B) → amB (m.1 0 (80 * (1 - B) + i))) (hT : amB (m.1 0 (80 * B + I))) : ∀ z, z ≤ 4 → sM (stL m B I e z) (setL (cdP m (1 - B) (80 * B + I) (m.1 8 0)) (amL m (1 - B)) (nL m (1 - B)) (E : Int) (m.1 0 (80 * B + I)).toInt z)
  | 0, _ => ⟨by show (st0 m B I).1 35 0 = nI 0; unfold st0; rw [mset_ne (by decide), mset_ne (by decide), mset_ne (by decide), mset_at], Nat.zero_le _, fun k hk => absurd hk (Nat.not_lt_zero k)⟩
  | z + 1, hz => by
    have ih := stL_L (B := B) (I := I) hB hI hN he hE hA hT z (by omega)
    have ok := stL_ok m B I e z
    have k : ∀ j, j < 17 → (st0 m B I).1 j = m.1 j := fun j hj => by unfold st0; rw [mset_ne (by omega), mset_ne (by omega), mset_ne (by omega), mset_ne (by omega)]
    have nl : nL (st0 m B I) (1 - B) = nL m (1 - B) := nL_k (k 6 (by decide))
    have ht1 : -1000000 ≤ (m.1 0 (80 * B + I)).toInt := hT.1
    have ht2 : (m.1 0 (80 * B + I)).toInt ≤ 1000000 := hT.2
    have eo : ((m.1 0 (80 * B + I)).toInt64).toInt = (m.1 0 (80 * B + I)).toInt := by rw [toL, zL_T (by omega) (by omega)]
    have so := setL_ok (p := cdP m (1 - B) (80 * B + I) (m.1 8 0)) (am := amL m (1 - B)) (E := (E : Int)) (o := (m.1 0 (80 * B + I)).toInt) hN z (by omega)
    have r := (chS_L (m := st0 m B I) (B := 1 - B) (z := z + 1) (E := E) (e := e) (by rw [nl]; exact hN) hz he hE (fun i hi => by rw [k 0 (by decide)]; rw [nl] at hi; exact hA i hi) (z + 1) (Nat.le_refl _) 0 (m.1 0 (80 * B + I)).toInt64 (stL m B I e z) _ [] ok.1 ok.2 ih (fun k hk => (so _ (gd_mem hk)).1.2) (by simp) (fun t ht => by omega) (by rw [eo]; omega)).1
    rw [cdB_st hB hI, nl, eo, show amM (st0 m B I) (1 - B) = amL m (1 - B) by unfold amM amL; rw [k 0 (by decide)]] at r
    have em : (cm (cdP m (1 - B) (80 * B + I) (m.1 8 0)) (amL m (1 - B)) (nL m (1 - B)) (E : Int) (z + 1) 0 (m.1 0 (80 * B + I)).toInt).map (fun t => [] ++ t) = cm (cdP m (1 - B) (80 * B + I) (m.1 8 0)) (amL m (1 - B)) (nL m (1 - B)) (E : Int) (z + 1) 0 (m.1 0 (80 * B + I)).toInt := by
      simp
    rw [em] at r
    exact r
