/-! ===== sets answer alike ===== -/
theorem cmS_cg {sub sub' : Nat → Int → List (List Nat)} {p q : Nat → Bool} {am am' : Nat → Int} {N : Nat} (hs : ∀ i o, sub i o = sub' i o) (h : ∀ i, i < N → p i = q i ∧ am i = am' i) : ∀ n i o, cmS sub p am N n i o = cmS sub' q am' N n i o
  | 0, _, _ => rfl
  | n + 1, i, o => by
    show (if i < N then (if p i = true then (sub (i + 1) (o - am i)).map (fun t => i :: t) ++ cmS sub p am N n (i + 1) o else cmS sub p am N n (i + 1) o) else []) = (if i < N then (if q i = true then (sub' (i + 1) (o - am' i)).map (fun t => i :: t) ++ cmS sub' q am' N n (i + 1) o else cmS sub' q am' N n (i + 1) o) else [])
    by_cases c : i < N
    · rw [if_pos c, if_pos c, (h i c).1, (h i c).2, hs, cmS_cg hs h n (i + 1) o]
    · rw [if_neg c, if_neg c]
theorem cm_cg {p q : Nat → Bool} {am am' : Nat → Int} {N : Nat} {e : Int} (h : ∀ i, i < N → p i = q i ∧ am i = am' i) : ∀ l i o, cm p am N e l i o = cm q am' N e l i o
  | 0, _, _ => rfl
  | l + 1, i, o => cmS_cg (cm_cg h l) h (81 - i) i o
theorem setL_cg {p q : Nat → Bool} {am am' : Nat → Int} {N : Nat} {e o : Int} (h : ∀ i, i < N → p i = q i ∧ am i = am' i) : ∀ z, setL p am N e o z = setL q am' N e o z
  | 0 => rfl
  | z + 1 => by
    show ap (setL p am N e o z) (cm p am N e (z + 1) 0 o) = ap (setL q am' N e o z) (cm q am' N e (z + 1) 0 o)
    rw [setL_cg h z, cm_cg h]
theorem nd_cons {i : Nat} {u : List Nat} (h : nd_ u) (hx : ∀ x, x ∈ u → i + 1 ≤ x) : nd_ (i :: u) := by
  intro j j' hj hj' e
  have key : ∀ k, k < u.length → ¬ u.getD k 0 = i := fun k hk q => by
    have := hx _ (gd_mem (d0 := 0) hk)
    omega
  cases j with
  | zero =>
    cases j' with
    | zero => rfl
    | succ b =>
      have hj' : b < u.length := Nat.lt_of_succ_lt_succ hj'
      exact (key b hj' (show u.getD b 0 = i from e.symm)).elim
  | succ a =>
    have hj : a < u.length := Nat.lt_of_succ_lt_succ hj
    cases j' with
    | zero => exact (key a hj (show u.getD a 0 = i from e)).elim
    | succ b =>
      have hj' : b < u.length := Nat.lt_of_succ_lt_succ hj'
      rw [h a b hj hj' (show u.getD a 0 = u.getD b 0 from e)]
theorem cmS_nd {sub : Nat → Int → List (List Nat)} {p : Nat → Bool} {am : Nat → Int} {N : Nat} (hs : ∀ i o t, t ∈ sub i o → nd_ t ∧ ∀ x, x ∈ t → p x = true ∧ i ≤ x) : ∀ n i o t, t ∈ cmS sub p am N n i o → nd_ t ∧ ∀ x, x ∈ t → p x = true ∧ i ≤ x
  | 0, _, _, t, ht => by
    have ht : t ∈ ([] : List (List Nat)) := ht
    cases ht
  | n + 1, i, o, t, ht => by
    have ht : t ∈ (if i < N then (if p i = true then (sub (i + 1) (o - am i)).map (fun t => i :: t) ++ cmS sub p am N n (i + 1) o else cmS sub p am N n (i + 1) o) else []) := ht
    have rest : t ∈ cmS sub p am N n (i + 1) o → nd_ t ∧ ∀ x, x ∈ t → p x = true ∧ i ≤ x := fun q => by
      have z := cmS_nd hs n (i + 1) o t q
      exact ⟨z.1, fun x hx => ⟨(z.2 x hx).1, by have := (z.2 x hx).2; omega⟩⟩
    by_cases c : i < N
    · rw [if_pos c] at ht
      by_cases c2 : p i = true
      · rw [if_pos c2] at ht
        rcases List.mem_append.mp ht with q | q
        · obtain ⟨u, u1, u2⟩ := List.mem_map.mp q
          have z := hs _ _ u u1
          rw [← u2]
          refine ⟨nd_cons z.1 (fun x hx => (z.2 x hx).2), fun x hx => ?_⟩
          rcases List.mem_cons.mp hx with rfl | hx
          · exact ⟨c2, Nat.le_refl _⟩
          · exact ⟨(z.2 x hx).1, by have := (z.2 x hx).2; omega⟩
        · exact rest q
      · rw [if_neg c2] at ht
        exact rest ht
    · rw [if_neg c] at ht
      cases ht
theorem cm_nd {p : Nat → Bool} {am : Nat → Int} {N : Nat} {e : Int} : ∀ l i o t, t ∈ cm p am N e l i o → nd_ t ∧ ∀ x, x ∈ t → p x = true ∧ i ≤ x
  | 0, i, o, t, ht => by
    have ht : t ∈ (if -e ≤ o ∧ o ≤ e then [[]] else ([] : List (List Nat))) := ht
    have e0 : t = [] := by
      by_cases c : -e ≤ o ∧ o ≤ e
      · rw [if_pos c] at ht
        exact List.mem_singleton.mp ht
      · rw [if_neg c] at ht
        cases ht
    rw [e0]
    refine ⟨fun j _ hj => absurd hj (Nat.not_lt_zero j), fun x hx => ?_⟩
    cases hx
  | l + 1, i, o, t, ht => cmS_nd (cm_nd l) (81 - i) i o t ht
theorem setL_nd {p : Nat → Bool} {am : Nat → Int} {N : Nat} {E o : Int} : ∀ z t, t ∈ setL p am N E o z → nd_ t ∧ ∀ x, x ∈ t → p x = true
  | 0, t, ht => by
    have ht : t ∈ ([] : List (List Nat)) := ht
    cases ht
  | z + 1, t, ht => by
    have ht' : t ∈ ap (setL p am N E o z) (cm p am N E (z + 1) 0 o) := ht
    unfold ap at ht'
    rcases List.mem_append.mp (List.mem_of_mem_take ht') with q | q
    · exact setL_nd z t q
    · have z := cm_nd (z + 1) 0 o t q
      exact ⟨z.1, fun x hx => (z.2 x hx).1⟩
theorem setL_len {p : Nat → Bool} {am : Nat → Int} {N : Nat} {E o : Int} : ∀ z, (setL p am N E o z).length ≤ 5000
  | 0 => Nat.zero_le _
  | z + 1 => ap_len _ _
section SEQ
variable {d m : mS}
theorem stL_k {B I : Nat} {e : Int32} {z j : Nat} (hj : j < 30 ∨ 36 < j) : (stL m B I e z).1 j = m.1 j := by
  rw [(stL_ok m B I e z).1.2 j (by omega) (by omega) (by omega) (by omega)]
  unfold st0
  rw [mset_ne (by omega), mset_ne (by omega), mset_ne (by omega), mset_ne (by omega)]
theorem stL_3 {B I : Nat} {e : Int32} {z : Nat} : (stL m B I e z).1 30 0 = nI 1 ∧ (stL m B I e z).1 31 0 = nI B ∧ (stL m B I e z).1 32 0 = nI I := by
  have k := (stL_ok m B I e z).1.2
  rw [k 30 (by decide) (by decide) (by decide) (by decide), k 31 (by decide) (by decide) (by decide) (by decide), k 32 (by decide) (by decide) (by decide) (by decide)]
  unfold st0
  refine ⟨mset_at _ _ _ _, ?_, ?_⟩
  · rw [mset_ne (by decide), mset_ne (by decide), mset_at]
  · rw [mset_ne (by decide), mset_at]
theorem sets_eq {c : Nat} (hr : rel d m c) {b i z e r r' : Int32} {g m' : mS} (hd : stD d b i z e r g) (hb : setsR m b i z e r' m') : r' = r ∧ rel g m' c := by
  have hm := hr.k.i
  have he := hr.k.e
  unfold stD at hd
  unfold setsR at hb
  have eo : okSt d b i z e ↔ okSt m b i z e := by
    show (isLn d b i ∧ _) ↔ (isLn m b i ∧ _)
    rw [q_isLn he]
  by_cases ok : okSt m b i z e
  · rw [if_pos (eo.mpr ok)] at hd
    rw [if_pos ok] at hb
    rw [q_ln he hm.L ok.1 (by decide : 5 < 6)] at hd
    by_cases br : m.1 5 (80 * nv b + nv i) < 0
    · rw [if_pos br] at hd hb
      obtain ⟨rfl, rfl⟩ := hb
      obtain ⟨⟨b1, b2⟩, i1, i2, i3⟩ := ln_in hm.L ok.1
      have z1 : nv z ≤ 4 := by
        rcases nv_w (by decide) ok.2.1 with q | q
        · exact q.2.1
        · exact absurd q (by decide)
      have e1 : e = nI (nv e) ∧ nv e ≤ 10000 := by
        rcases nv_w (by decide) ok.2.2 with q | q
        · exact ⟨q.1, q.2.1⟩
        · exact absurd q (by decide)
      have o2 : 1 - nv b < 2 := by omega
      have hN := (hm.L (1 - nv b) o2).2
      have hA : ∀ x, x < nL m (1 - nv b) → amB (m.1 0 (80 * (1 - nv b) + x)) := fun x hx => (hm.F _ o2 x hx).1
      have hT : amB (m.1 0 (80 * nv b + nv i)) := (hm.F _ b2 _ i2).1
      have S := stL_L (m := m) (e := e) b2 (by omega : nv i < 80) hN e1.1 e1.2 hA hT (nv z) z1
      obtain ⟨y1, y2, y3, y4, y5, y6⟩ := hd
      have hA2 : 80 * nv b + nv i < 160 ∧ (80 * nv b + nv i) % 80 < nL m ((80 * nv b + nv i) / 80) := by
        rw [show (80 * nv b + nv i) % 80 = nv i by omega, show (80 * nv b + nv i) / 80 = nv b by omega]
        exact ⟨by omega, i2⟩
      have eL : setL (cdP d (1 - nv b) (80 * nv b + nv i) (d.1 8 0)) (amL d (1 - nv b)) (nL d (1 - nv b)) (nv e : Int) (d.1 0 (80 * nv b + nv i)).toInt (nv z) = setL (cdP m (1 - nv b) (80 * nv b + nv i) (m.1 8 0)) (amL m (1 - nv b)) (nL m (1 - nv b)) (nv e : Int) (m.1 0 (80 * nv b + nv i)).toInt (nv z) := by
        rw [q_nL he o2, he.s, q_ln he hm.L ok.1 (by decide : 0 < 6)]
        refine setL_cg (fun x hx => ⟨q_cdP he o2 hA2 x hx, ?_⟩) _
        show (d.1 0 (80 * (1 - nv b) + x)).toInt = (m.1 0 (80 * (1 - nv b) + x)).toInt
        rw [he.a 0 (by decide) _ o2 x hx]
      rw [eL] at y6
      have hs : hsD g (setL (cdP m (1 - nv b) (80 * nv b + nv i) (m.1 8 0)) (amL m (1 - nv b)) (nL m (1 - nv b)) (nv e : Int) (m.1 0 (80 * nv b + nv i)).toInt (nv z)) := by
        refine ⟨y6, fun t ht => ?_⟩
        have q := setL_ok hN (nv z) z1 t ht
        exact ⟨q.1, fun x hx => by have := q.2 x hx; omega⟩
      have kd : ∀ j, j < 76 ∨ 88 < j → g.1 j = d.1 j := y1
      have km : ∀ j, j < 30 ∨ 36 < j → (stL m (nv b) (nv i) e (nv z)).1 j = m.1 j := fun j q => stL_k q
      refine ⟨?_, core_k hr.k (fun j q => kd j (by omega)) (fun j q => km j (by omega)), by rw [kd 50 (by omega)]; exact hr.c0, by rw [kd 64 (by omega)]; exact hr.c1, Or.inr ⟨c, Nat.le_refl _, y4.trans hr.c0⟩, prel_k hr.p (fun j q => kd j (by omega)) (fun j q => km j (by omega)), ⟨⟨fun _ => by rw [stL_3.1]; decide, fun _ => by rw [y4, kd 50 (by omega)]⟩, nv b, nv i, _, b2, by omega, stL_3.2.1, ?_, stL_3.2.2, ?_, hs, S, fun _ => ⟨?_, ?_, fun t ht => ⟨(setL_nd _ t ht).1, fun x hx => ?_⟩⟩⟩, exq_k hr.x (fun j q1 q2 => kd j (by omega)) (fun j q1 q2 => km j (by omega))⟩
      · rw [S.1, y5, y6.1, List.length_map]
      · rw [y2, show (80 * nv b + nv i) / 80 = nv b by omega]
      · rw [y3, show (80 * nv b + nv i) % 80 = nv i by omega]
      · rw [nL_k (km 6 (by omega))]; exact i2
      · rw [km 5 (by omega)]; exact hm.N _ b2 _ i2 br
      · have q := (setL_ok hN (nv z) z1 t ht).2 x hx
        have w := of_decide_eq_true ((setL_nd _ t ht).2 x hx)
        rw [nL_k (km 6 (by omega)), km 5 (by omega)]
        exact ⟨q, hm.N _ o2 x q w.1⟩
    · rw [if_neg br] at hd hb
      obtain ⟨rfl, rfl⟩ := hd
      obtain ⟨rfl, rfl⟩ := hb
      exact ⟨rfl, hr⟩
  · rw [if_neg (fun q => ok (eo.mp q))] at hd
    rw [if_neg ok] at hb
    obtain ⟨rfl, rfl⟩ := hd
    obtain ⟨rfl, rfl⟩ := hb
    exact ⟨rfl, hr⟩
theorem hs_n {L : List (List Nat)} (h : hsD d L) (hs : sM m L) : d.1 85 0 = m.1 35 0 := by
  rw [h.1.1, hs.1, List.length_map]
theorem sS_i {L : List (List Nat)} (hs : sM m L) : iS m := by
  unfold iS
  rw [sM_n hs]
  exact ⟨hs.1, hs.2.1⟩
theorem sS_s {L : List (List Nat)} (h : hsD d L) (hs : sM m L) : iSs m := fun k hk => by
  rw [sM_n hs] at hk
  have z := (hs_at h hk).2.1.2
  rw [(hs.2.2 k hk).1, nv_nI (by omega)]
  exact ⟨rfl, z⟩
theorem sS_t {B I : Nat} {L : List (List Nat)} (h : hsD d L) (hs : sM m L) (hB : B < 2) (hI : I < 80) (h31 : m.1 31 0 = nI B) (h32 : m.1 32 0 = nI I) : sBk m = B ∧ sLn m = I ∧ iSt m := by
  have e1 : sBk m = B := by show nv (m.1 31 0) = B; rw [h31]; exact nv_nI (by omega)
  have e2 : sLn m = I := by show nv (m.1 32 0) = I; rw [h32]; exact nv_nI (by omega)
  refine ⟨e1, e2, ⟨by rw [e1]; exact h31, by rw [e1]; exact hB⟩, ⟨by rw [e2]; exact h32, by rw [e2]; exact hI⟩, fun k hk j hj => ?_⟩
  rw [sM_n hs] at hk
  have z := (hs_at h hk).2
  rw [(hs.2.2 k hk).1, nv_nI (by omega)] at hj
  have w := (hs.2.2 k hk).2 j hj
  have x := z.2 _ (gd_mem (d0 := 0) hj)
  have e3 : stIn m k j = (L.getD k []).getD j 0 := by show nv (m.1 34 (4 * k + j)) = _; rw [w]; exact nv_nI (by omega)
  rw [e3]
  exact ⟨w, x⟩
theorem size_eq {L : List (List Nat)} (h : hsD d L) (hs : sM m L) (k : Int32) : (if isSd d k then nI (L.getD (nv k) []).length else -1) = (if isSt m k then m.1 33 (nv k) else -1) := by
  by_cases c : isSd d k
  · have z := hs_in h c
    have c2 : isSt m k := by
      show nI 0 ≤ k ∧ k < m.1 35 0
      rw [← hs_n h hs]; exact c
    rw [if_pos c, if_pos c2, (hs.2.2 _ z.2.1).1]
  · rw [if_neg c, if_neg (fun q => c (by show nI 0 ≤ k ∧ k < d.1 85 0; rw [hs_n h hs]; exact q))]
theorem in_eq {L : List (List Nat)} (h : hsD d L) (hs : sM m L) (k j : Int32) : (if inD d L k j then nI ((L.getD (nv k) []).getD (nv j) 0) else -1) = (if isIn m k j then m.1 34 (4 * nv k + nv j) else -1) := by
  have e : isSd d k ↔ isSt m k := by
    show (nI 0 ≤ k ∧ k < d.1 85 0) ↔ (nI 0 ≤ k ∧ k < m.1 35 0)
    rw [hs_n h hs]
  by_cases c : isSd d k
  · have z := hs_in h c
    have w := hs.2.2 _ z.2.1
    have len := (hs_at h z.2.1).2.1.2
    by_cases c2 : nI 0 ≤ j ∧ j < nI (L.getD (nv k) []).length
    · obtain ⟨y, y1, rfl⟩ := w_nat (n := (L.getD (nv k) []).length) ⟨c2.1, (fa_of_lt c2.2).1⟩ (by omega)
      have hj : nv (nI y) < (L.getD (nv k) []).length := by
        have q := c2.2
        rw [iLT, nI_T _ (by omega), nI_T _ (by omega)] at q
        rw [nv_nI (by omega)]
        omega
      rw [if_pos ⟨c, c2⟩, if_pos ⟨e.mp c, c2.1, by rw [w.1]; exact c2.2⟩, w.2 _ hj]
    · rw [if_neg (fun q => c2 q.2), if_neg (fun q => c2 ⟨q.2.1, by have := q.2.2; rw [w.1] at this; exact this⟩)]
  · rw [if_neg (fun q => c q.1), if_neg (fun q => c (e.mpr q.1))]
def cs_ (x : Nat) (a : Nat → Nat) : Nat → Nat
  | 0 => x
  | j + 1 => a j
theorem add_cs {s : Int32} {x : Nat} {a : Nat → Nat} : ∀ n, addL (adM (ngM m s) (nG m) x) (nG m) a n = gN m s (cs_ x a) (n + 1)
  | 0 => rfl
  | n + 1 => by
    show adM (addL (adM (ngM m s) (nG m) x) (nG m) a n) (nG m) (a n) = adM (gN m s (cs_ x a) (n + 1)) (nG m) (a n)
    rw [add_cs n]
theorem addL_cg {g : Nat} {a b : Nat → Nat} : ∀ n, (∀ j, j < n → a j = b j) → addL m g a n = addL m g b n
  | 0, _ => rfl
  | n + 1, h => by
    show adM (addL m g a n) g (a n) = adM (addL m g b n) g (b n)
    rw [addL_cg n (fun j hj => h j (by omega)), h n (by omega)]
theorem set_ok {B I : Nat} {L : List (List Nat)} {t : List Nat} (hL : iL m) (hB : B < 2) (h : lsOk m B I L) (ht : t ∈ L) (h1 : 1 ≤ t.length) (h4 : t.length ≤ 4) : gOk m (cs_ (80 * B + I) (fun j => 80 * (1 - B) + t.getD j 0)) (t.length + 1) := by
  obtain ⟨q1, q2, q3⟩ := h
  obtain ⟨nd, q4⟩ := q3 t ht
  have l1 := (hL B hB).2
  have l2 := (hL (1 - B) (by omega)).2
  have mem : ∀ j, j < t.length → t.getD j 0 < nL m (1 - B) ∧ m.1 5 (80 * (1 - B) + t.getD j 0) = -1 := fun j hj => q4 _ (gd_mem (d0 := 0) hj)
  refine ⟨by omega, fun j hj => ?_, fun j j' hj hj' e => ?_, ?_, ?_⟩
  · cases j with
    | zero =>
      show (80 * B + I < 160 ∧ (80 * B + I) % 80 < nL m ((80 * B + I) / 80)) ∧ m.1 5 (80 * B + I) = -1
      rw [show (80 * B + I) % 80 = I by omega, show (80 * B + I) / 80 = B by omega]
      exact ⟨⟨by omega, q1⟩, q2⟩
    | succ j =>
      have z := mem j (by omega)
      show (80 * (1 - B) + t.getD j 0 < 160 ∧ (80 * (1 - B) + t.getD j 0) % 80 < nL m ((80 * (1 - B) + t.getD j 0) / 80)) ∧ m.1 5 (80 * (1 - B) + t.getD j 0) = -1
      rw [show (80 * (1 - B) + t.getD j 0) % 80 = t.getD j 0 by omega, show (80 * (1 - B) + t.getD j 0) / 80 = 1 - B by omega]
      exact ⟨⟨by omega, z.1⟩, z.2⟩
  · cases j with
    | zero =>
      cases j' with
      | zero => rfl
      | succ j' =>
        have z := mem j' (by omega)
        have e : 80 * B + I = 80 * (1 - B) + t.getD j' 0 := e
        omega
    | succ j =>
      have z := mem j (by omega)
      cases j' with
      | zero =>
        have e : 80 * (1 - B) + t.getD j 0 = 80 * B + I := e
        omega
      | succ j' =>
        have e : 80 * (1 - B) + t.getD j 0 = 80 * (1 - B) + t.getD j' 0 := e
        rw [nd j j' (by omega) (by omega) (by omega)]
  · have z := mem 0 (by omega)
    rcases (show B = 0 ∨ B = 1 by omega) with rfl | rfl
    · exact ⟨0, by omega, by show 80 * 0 + I < 80; omega⟩
    · exact ⟨1, by omega, by show 80 * (1 - 1) + t.getD 0 0 < 80; omega⟩
  · have z := mem 0 (by omega)
    rcases (show B = 0 ∨ B = 1 by omega) with rfl | rfl
    · exact ⟨1, by omega, by show 80 ≤ 80 * (1 - 0) + t.getD 0 0; omega⟩
    · exact ⟨0, by omega, by show 80 ≤ 80 * 1 + I; omega⟩
theorem set_eq {c : Nat} (hr : rel d m c) (hc : c + 1 < 2147483648) {B I : Nat} {L : List (List Nat)} (hB : B < 2) (hI : I < 80) (h31 : m.1 31 0 = nI B) (h32 : m.1 32 0 = nI I) (h : hsD d L) (hs : sM m L) (hl : ¬ m.1 30 0 = 0 → lsOk m B I L) {k r r' : Int32} {g m' : mS} (hd : seD d B I L k r g) (hb : setR m k r' m') : r' = r ∧ ∃ c', c' ≤ c + 14 ∧ rel g m' c' := by
  have hm := hr.k.i
  have he := hr.k.e
  have e : isSd d k ↔ isSt m k := by
    show (nI 0 ≤ k ∧ k < d.1 85 0) ↔ (nI 0 ≤ k ∧ k < m.1 35 0)
    rw [hs_n h hs]
  have ng : nG d = nG m := q_nG he
  unfold seD at hd
  unfold setR at hb
  rw [ng] at hd
  by_cases ok : ¬ m.1 30 0 = 0 ∧ isSt m k
  · have ok2 : isSd d k ∧ d.1 88 0 = d.1 50 0 := ⟨e.mpr ok.2, hr.s.fr.mpr ok.1⟩
    rw [if_pos ok2] at hd
    rw [if_pos ok] at hb
    by_cases full : nG m = 200
    · rw [if_pos full] at hd hb
      obtain ⟨rfl, rfl⟩ := hd
      obtain ⟨rfl, rfl⟩ := hb
      exact ⟨rfl, c, by omega, hr⟩
    · rw [if_neg full] at hd hb
      obtain ⟨rfl, rfl⟩ := hd
      obtain ⟨rfl, hb⟩ := hb
      have g2 : nG m < 200 := by have := hm.G.2; omega
      have z := hs_in h ok2.1
      have w := hs.2.2 _ z.2.1
      have ln := hs_at h z.2.1
      have tm : L.getD (nv k) [] ∈ L := gd_mem z.2.1
      obtain ⟨s1, s2, s3⟩ := sS_t h hs hB hI h31 h32
      have ho := set_ok hm.L hB (hl ok.1) tm ln.2.1.1 ln.2.1.2
      have em : stM m (nv k) = gN m (nI 1) (cs_ (80 * B + I) (fun j => 80 * (1 - B) + (L.getD (nv k) []).getD j 0)) ((L.getD (nv k) []).length + 1) := by
        unfold stM
        rw [s1, s2, w.1, nv_nI (by omega), ← add_cs]
        refine addL_cg _ (fun j hj => ?_)
        show 80 * (1 - B) + nv (m.1 34 (4 * nv k + j)) = _
        rw [w.2 j hj, nv_nI (by have := ln.2.2 _ (gd_mem (d0 := 0) hj); omega)]
      have ed : addL (sB_ d B I) (nG m) (sLn_ B L (nv k)) (L.getD (nv k) []).length = gN d (nI 1) (cs_ (80 * B + I) (fun j => 80 * (1 - B) + (L.getD (nv k) []).getD j 0)) ((L.getD (nv k) []).length + 1) := by
        rw [← ng, ← add_cs]
      rw [em] at hb
      rw [ed]
      have un := gn_un (s := nI 1) hm g2 ho (nI 0)
      have kk : ∀ (e : mS) (j : Nat), 17 ≤ j → (gN e (nI 1) (cs_ (80 * B + I) (fun j => 80 * (1 - B) + (L.getD (nv k) []).getD j 0)) ((L.getD (nv k) []).length + 1)).1 j = e.1 j := fun e j q => gn_k ⟨by omega, by omega, by omega, by omega, by omega, by omega, by omega, by omega⟩
      exact ⟨rfl, c + 1, by omega, rel_act hr hc (gn_eqv he hm g2 ho.n8) (gn_inv hm g2 ho) un.1 un.2 (by decide) (by omega) (fun j q => kk _ j q) (fun j q => kk _ j (by omega)) hb⟩
  · rw [if_neg (fun q => ok ⟨hr.s.fr.mp q.2, e.mp q.1⟩)] at hd
    rw [if_neg ok] at hb
    obtain ⟨rfl, rfl⟩ := hd
    obtain ⟨rfl, rfl⟩ := hb
    exact ⟨rfl, c, by omega, hr⟩
end SEQ
