/-! ===== the whole relation ===== -/
abbrev core (d : mS) (m : mS) : Prop := (eqv d m) ∧ (Good (actM m) (nA m) m) ∧ (iA m) ∧ (ring d m) ∧ (∀ t, t < nA m → m.1 43 t = nI (nv (m.1 43 t)) ∧ m.1 44 t = nI (nv (m.1 44 t)))
theorem core.e {d : mS} {m : mS} (h_ : core d m) : eqv d m := h_.1
theorem core.gd {d : mS} {m : mS} (h_ : core d m) : Good (actM m) (nA m) m := h_.2.1
theorem core.A {d : mS} {m : mS} (h_ : core d m) : iA m := h_.2.2.1
theorem core.R {d : mS} {m : mS} (h_ : core d m) : ring d m := h_.2.2.2.1
theorem core.an {d : mS} {m : mS} (h_ : core d m) : ∀ t, t < nA m → m.1 43 t = nI (nv (m.1 43 t)) ∧ m.1 44 t = nI (nv (m.1 44 t)) := h_.2.2.2.2
abbrev nd_ (t : List Nat) : Prop := ∀ j j', j < t.length → j' < t.length → t.getD j 0 = t.getD j' 0 → j = j'
abbrev lsOk (m : mS) (B I : Nat) (L : List (List Nat)) : Prop := I < nL m B ∧ m.1 5 (80 * B + I) = -1 ∧ ∀ t, t ∈ L → nd_ t ∧ ∀ x, x ∈ t → x < nL m (1 - B) ∧ m.1 5 (80 * (1 - B) + x) = -1
abbrev srel (d : mS) (m : mS) : Prop := (d.1 88 0 = d.1 50 0 ↔ ¬ m.1 30 0 = 0) ∧ (∃ B I L, B < 2 ∧ I < 80 ∧ m.1 31 0 = nI B ∧ d.1 86 0 = nI B ∧ m.1 32 0 = nI I ∧ d.1 87 0 = nI I ∧ hsD d L ∧ sM m L ∧ (¬ m.1 30 0 = 0 → lsOk m B I L))
theorem srel.fr {d : mS} {m : mS} (h_ : srel d m) : d.1 88 0 = d.1 50 0 ↔ ¬ m.1 30 0 = 0 := h_.1
theorem srel.b {d : mS} {m : mS} (h_ : srel d m) : ∃ B I L, B < 2 ∧ I < 80 ∧ m.1 31 0 = nI B ∧ d.1 86 0 = nI B ∧ m.1 32 0 = nI I ∧ d.1 87 0 = nI I ∧ hsD d L ∧ sM m L ∧ (¬ m.1 30 0 = 0 → lsOk m B I L) := h_.2
abbrev rel (d : mS) (m : mS) (c : Nat) : Prop := (core d m) ∧ (d.1 50 0 = nI c) ∧ (d.1 64 0 = -1 ∨ ∃ e, e ≤ c ∧ d.1 64 0 = nI e) ∧ (d.1 88 0 = -1 ∨ ∃ e, e ≤ c ∧ d.1 88 0 = nI e) ∧ (prel d m) ∧ (srel d m) ∧ (exq d m)
theorem rel.k {d : mS} {m : mS} {c : Nat} (h_ : rel d m c) : core d m := h_.1
theorem rel.c0 {d : mS} {m : mS} {c : Nat} (h_ : rel d m c) : d.1 50 0 = nI c := h_.2.1
theorem rel.c1 {d : mS} {m : mS} {c : Nat} (h_ : rel d m c) : d.1 64 0 = -1 ∨ ∃ e, e ≤ c ∧ d.1 64 0 = nI e := h_.2.2.1
theorem rel.c2 {d : mS} {m : mS} {c : Nat} (h_ : rel d m c) : d.1 88 0 = -1 ∨ ∃ e, e ≤ c ∧ d.1 88 0 = nI e := h_.2.2.2.1
theorem rel.p {d : mS} {m : mS} {c : Nat} (h_ : rel d m c) : prel d m := h_.2.2.2.2.1
theorem rel.s {d : mS} {m : mS} {c : Nat} (h_ : rel d m c) : srel d m := h_.2.2.2.2.2.1
theorem rel.x {d : mS} {m : mS} {c : Nat} (h_ : rel d m c) : exq d m := h_.2.2.2.2.2.2
section RELA
variable {d m : mS}
theorem core.i (h : core d m) : inv m := Good_inv h.gd
theorem core.di (h : core d m) : inv d := inv_eqv h.e h.i
theorem core_k {d' m' : mS} (h : core d m) (hd : ∀ j, j < 17 ∨ j = 46 ∨ (51 ≤ j ∧ j ≤ 54) → d'.1 j = d.1 j) (hm : ∀ j, j < 17 ∨ (43 ≤ j ∧ j ≤ 46) → m'.1 j = m.1 j) : core d' m' := by
  have em : eqv m' m := core_eqv (fun j hj => hm j (Or.inl hj))
  have ed : eqv d' d := core_eqv (fun j hj => hd j (Or.inl hj))
  have e43 := hm 43 (by omega)
  have e44 := hm 44 (by omega)
  have e45 := hm 45 (by omega)
  have e46 := hm 46 (by omega)
  have na : nA m' = nA m := by unfold nA; rw [e46]
  have ea : actM m' = actM m := by
    funext t
    unfold actM
    rw [e43, e44, e45]
  refine ⟨eqv_trans ed (eqv_trans h.e (eqv_symm em)), ?_, ?_, ring_k h.R (hd 46 (by omega)) (hd 51 (by omega)) (hd 52 (by omega)) (hd 53 (by omega)) (hd 54 (by omega)) e46 e43 e44 e45, ?_⟩
  · rw [na, ea]; exact Good_eqv em h.gd
  · unfold iA; rw [na, e46]; exact h.A
  · rw [na, e43, e44]; exact h.an
theorem core_act {d1 m1 m' : mS} {k O : Nat} {w : Int32} (h : core d m) (h1 : eqv d1 m1) (hi : inv m1) (ht : tbOk m1 k O) (hu : eqv (tbD m1 k O w) m) (hk : k < 2147483648) (hO : O < 2147483648) (md : ∀ j, 43 ≤ j → j ≤ 46 → m1.1 j = m.1 j) (dd : ∀ j, j = 46 ∨ (51 ≤ j ∧ j ≤ 54) → d1.1 j = d.1 j) (hd : didR m1 (nI k) (nI O) w m') : core (coD d1 (nI k) (nI O) w) m' := by
  have e43 := md 43 (by omega) (by omega)
  have e44 := md 44 (by omega) (by omega)
  have e45 := md 45 (by omega) (by omega)
  have e46 := md 46 (by omega) (by omega)
  have g := good_did h.A h.gd e43 e44 e45 e46 hk hO hd hi ht hu
  have na : nA m1 = nA m := by unfold nA; rw [e46]
  have iA1 : iA m1 := by unfold iA; rw [na, e46]; exact h.A
  have r1 : ring d1 m1 := ring_k h.R (dd 46 (by omega)) (dd 51 (by omega)) (dd 52 (by omega)) (dd 53 (by omega)) (dd 54 (by omega)) e46 e43 e44 e45
  have ec : eqv (coD d1 (nI k) (nI O) w) d1 := core_eqv (fun j hj => coD_ne (by omega) (by omega))
  refine ⟨eqv_trans ec (eqv_trans h1 (eqv_symm g.2.2.1)), g.1, g.2.1, ring_co r1 iA1 hd, fun t ht => ?_⟩
  obtain ⟨_, _, _, _, _, d6, d7, d8, _⟩ := hd
  have df : dOff m1 = dOff m := by unfold dOff; rw [na]
  rw [g.2.2.2] at ht
  rw [na, df] at d6 d7 d8
  rcases Nat.lt_or_ge t (nA m - dOff m) with q | q
  · have z := d6 t q
    rw [z.1, z.2.1, e43, e44]
    exact h.an _ (by omega)
  · have e : t = nA m - dOff m := by omega
    subst e
    rw [d7, d8, nv_nI hk, nv_nI hO]
    exact ⟨rfl, rfl⟩
theorem didR_k {kd o w : Int32} {m' : mS} (h : didR m kd o w m') : ∀ j, j ≠ 17 → j ≠ 30 → j ≠ 43 → j ≠ 44 → j ≠ 45 → j ≠ 46 → m'.1 j = m.1 j := h.2.1
theorem exq_k {d' m' : mS} (h : exq d m) (hd : ∀ j, 93 ≤ j → j ≤ 95 → d'.1 j = d.1 j) (hm : ∀ j, 40 ≤ j → j ≤ 42 → m'.1 j = m.1 j) : exq d' m' := by
  obtain ⟨n, h1, h2, h3, h4⟩ := h
  refine ⟨n, h1, by rw [hd 95 (by omega) (by omega)]; exact h2, by rw [hm 42 (by omega) (by omega)]; exact h3, fun t ht => ?_⟩
  rw [hd 93 (by omega) (by omega), hd 94 (by omega) (by omega), hm 40 (by omega) (by omega), hm 41 (by omega) (by omega)]
  exact h4 t ht
theorem sM_k {m' : mS} {L : List (List Nat)} (h : sM m L) (h33 : m'.1 33 = m.1 33) (h34 : m'.1 34 = m.1 34) (h35 : m'.1 35 = m.1 35) : sM m' L := by
  obtain ⟨a, b, c⟩ := h
  refine ⟨by rw [h35]; exact a, b, fun k hk => ?_⟩
  rw [h33, h34]; exact c k hk
theorem lsOk_k {m' : mS} {B I : Nat} {L : List (List Nat)} (h : lsOk m B I L) (h5 : m'.1 5 = m.1 5) (h6 : m'.1 6 = m.1 6) : lsOk m' B I L := by
  obtain ⟨a, b, c⟩ := h
  refine ⟨by rw [nL_k h6]; exact a, by rw [h5]; exact b, fun t ht => ⟨(c t ht).1, fun x hx => ?_⟩⟩
  rw [nL_k h6, h5]
  exact (c t ht).2 x hx
theorem srel_k {d' m' : mS} (h : srel d m) (hd : ∀ j, j = 50 ∨ j = 76 ∨ (85 ≤ j ∧ j ≤ 88) → d'.1 j = d.1 j) (hm : ∀ j, j = 5 ∨ j = 6 ∨ (30 ≤ j ∧ j ≤ 35) → m'.1 j = m.1 j) : srel d' m' := by
  refine ⟨?_, ?_⟩
  · rw [hd 88 (by omega), hd 50 (by omega), hm 30 (by omega)]; exact h.fr
  · obtain ⟨B, I, L, b1, b2, b3, b4, b5, b6, b7, b8, b9⟩ := h.b
    refine ⟨B, I, L, b1, b2, by rw [hm 31 (by omega)]; exact b3, by rw [hd 86 (by omega)]; exact b4, by rw [hm 32 (by omega)]; exact b5, by rw [hd 87 (by omega)]; exact b6, hsD_k (hd 76 (by omega)) (hd 85 (by omega)) b7, sM_k b8 (hm 33 (by omega)) (hm 34 (by omega)) (hm 35 (by omega)), fun q => ?_⟩
    rw [hm 30 (by omega)] at q
    exact lsOk_k (b9 q) (hm 5 (by omega)) (hm 6 (by omega))
theorem srel_st {d' m' : mS} (h : srel d m) (hd : ∀ j, j = 76 ∨ (85 ≤ j ∧ j ≤ 88) → d'.1 j = d.1 j) (hm : ∀ j, 31 ≤ j ∧ j ≤ 35 → m'.1 j = m.1 j) (h30 : m'.1 30 0 = 0) (h88 : ¬ d'.1 88 0 = d'.1 50 0) : srel d' m' := by
  refine ⟨⟨fun q => absurd q h88, fun q => absurd h30 q⟩, ?_⟩
  obtain ⟨B, I, L, b1, b2, b3, b4, b5, b6, b7, b8, b9⟩ := h.b
  exact ⟨B, I, L, b1, b2, by rw [hm 31 (by omega)]; exact b3, by rw [hd 86 (by omega)]; exact b4, by rw [hm 32 (by omega)]; exact b5, by rw [hd 87 (by omega)]; exact b6, hsD_k (hd 76 (by omega)) (hd 85 (by omega)) b7, sM_k b8 (hm 33 (by omega)) (hm 34 (by omega)) (hm 35 (by omega)), fun q => absurd h30 q⟩
theorem prel_k {d' m' : mS} (h : prel d m) (hd : ∀ j, j = 50 ∨ (57 ≤ j ∧ j ≤ 64) → d'.1 j = d.1 j) (hm : ∀ j, j < 30 → m'.1 j = m.1 j) : prel d' m' := by
  refine ⟨?_, ?_, cch_k h.c (hm 22 (by omega)) (hm 26 (by omega)) (hm 27 (by omega)) (hm 28 (by omega)) (hm 29 (by omega)), fun q => ?_⟩
  · show d'.1 64 0 = d'.1 50 0 ↔ _
    rw [hd 64 (by omega), hd 50 (by omega), hm 17 (by omega)]; exact h.fr
  · rw [hd 61 (by omega)]; exact h.k
  · rw [hm 17 (by omega)] at q
    obtain ⟨n, T, z⟩ := h.f q
    exact ⟨n, T, prF_k z (fun j a b => hd j (by omega)) (fun j a _ _ _ => hm j (by omega))⟩
theorem prel_st {d' m' : mS} (h : prel d m) (hd : d'.1 61 = d.1 61) (hm : ∀ j, 22 ≤ j → j < 30 → m'.1 j = m.1 j) (h17 : m'.1 17 0 = 0) (h64 : ¬ d'.1 64 0 = d'.1 50 0) : prel d' m' := by
  refine ⟨⟨fun q => absurd q h64, fun q => absurd h17 q⟩, ?_, cch_k h.c (hm 22 (by omega) (by omega)) (hm 26 (by omega) (by omega)) (hm 27 (by omega) (by omega)) (hm 28 (by omega) (by omega)) (hm 29 (by omega) (by omega)), fun q => absurd h17 q⟩
  rw [hd]; exact h.k
theorem old_ne {v : Int32} {c t : Nat} (h : v = -1 ∨ ∃ e, e ≤ c ∧ v = nI e) (ht : 1 ≤ t) (hc : c + t < 2147483648) : ¬ v = nI (c + t) := fun q => by
  rcases h with h | ⟨e, h1, h2⟩
  · exact nIm1 hc (q.symm.trans h)
  · have := nI_inj (by omega) hc (h2.symm.trans q)
    omega
theorem old_up {v : Int32} {c t : Nat} (h : v = -1 ∨ ∃ e, e ≤ c ∧ v = nI e) : v = -1 ∨ ∃ e, e ≤ c + t ∧ v = nI e := by
  rcases h with h | ⟨e, h1, h2⟩
  · exact Or.inl h
  · exact Or.inr ⟨e, by omega, h2⟩
/-- behind a change -/
theorem rel_st {d' m' : mS} {c t : Nat} (h : rel d m c) (hk : core d' m') (ht : 1 ≤ t) (hc : c + t < 2147483648) (h50 : d'.1 50 0 = nI (c + t)) (hd : ∀ j, 57 ≤ j → d'.1 j = d.1 j) (hm : ∀ j, 22 ≤ j → j ≤ 42 → j ≠ 30 → m'.1 j = m.1 j) (h17 : m'.1 17 0 = 0) (h30 : m'.1 30 0 = 0) : rel d' m' (c + t) := by
  have e64 := hd 64 (by omega)
  have e88 := hd 88 (by omega)
  refine ⟨hk, h50, by rw [e64]; exact old_up h.c1, by rw [e88]; exact old_up h.c2, prel_st h.p (hd 61 (by omega)) (fun j a b => hm j a (by omega) (by omega)) h17 ?_, srel_st h.s (fun j q => hd j (by omega)) (fun j q => hm j (by omega) (by omega) (by omega)) h30 ?_, exq_k h.x (fun j a b => hd j (by omega)) (fun j a b => hm j (by omega) (by omega) (by omega))⟩
  · rw [e64, h50]; exact old_ne h.c1 ht hc
  · rw [e88, h50]; exact old_ne h.c2 ht hc
theorem rel_act {d1 m1 m' : mS} {c k O : Nat} {w : Int32} (h : rel d m c) (hc : c + 1 < 2147483648) (h1 : eqv d1 m1) (hi : inv m1) (ht : tbOk m1 k O) (hu : eqv (tbD m1 k O w) m) (hk : k < 2147483648) (hO : O < 2147483648) (md : ∀ j, 17 ≤ j → m1.1 j = m.1 j) (dd : ∀ j, 46 ≤ j → d1.1 j = d.1 j) (hd : didR m1 (nI k) (nI O) w m') : rel (coD d1 (nI k) (nI O) w) m' (c + 1) := by
  refine rel_st h (core_act h.k h1 hi ht hu hk hO (fun j a _ => md j (by omega)) (fun j a => dd j (by omega)) hd) (Nat.le_refl _) hc ?_ (fun j q => ?_) (fun j a b q => ?_) hd.2.2.1 hd.2.2.2.1
  · rw [co_at.2.2.2.2, dd 50 (by omega), h.c0]; exact nI_add c 1
  · rw [coD_ne2 (by omega)]; exact dd j (by omega)
  · rw [didR_k hd j (by omega) q (by omega) (by omega) (by omega) (by omega)]; exact md j (by omega)
theorem rel_k {d' m' : mS} {c : Nat} (h : rel d m c) (hd : ∀ j, j < 55 ∨ (57 ≤ j ∧ j ≤ 88) ∨ (93 ≤ j ∧ j ≤ 95) → d'.1 j = d.1 j) (hm : ∀ j, j < 36 ∨ (40 ≤ j ∧ j ≤ 46) → m'.1 j = m.1 j) : rel d' m' c := by
  refine ⟨core_k h.k (fun j q => hd j (by omega)) (fun j q => hm j (by omega)), by rw [hd 50 (by omega)]; exact h.c0, by rw [hd 64 (by omega)]; exact h.c1, by rw [hd 88 (by omega)]; exact h.c2, prel_k h.p (fun j q => hd j (by omega)) (fun j q => hm j (by omega)), srel_k h.s (fun j q => hd j (by omega)) (fun j q => hm j (by omega)), exq_k h.x (fun j a b => hd j (by omega)) (fun j a b => hm j (by omega))⟩
end RELA
