/-! ===== what check() finds ===== -/
section CK2
variable {m : mS}
theorem inv_Ck (hm : inv m) : iCk m := by
  refine ⟨fun g hg hp => ⟨fun k hk => (hm.J2 g hg hp k hk).1, ?_, ?_⟩, ?_⟩
  · obtain ⟨⟨k, a1, a2⟩, _⟩ := hm.J3 g hg hp
    exact ⟨k, a1, by omega⟩
  · obtain ⟨_, k, b1, b2⟩ := hm.J3 g hg hp
    have := (hm.V g hg k b1).1
    exact ⟨k, b1, by omega⟩
  · have e0 : (nI 0 : Int32) = 0 := by decide
    have e1 : (nI 1 : Int32) = 1 := by decide
    have e2 : (nI 2 : Int32) = 2 := by decide
    have e3 : (nI 3 : Int32) = 3 := by decide
    rw [e0, e1, e2, e3, sV_0 hm.L, sV_1 hm.L, sV_2 hm.L, sV_3, zL_sub, zL_add, ck_sum hm]
theorem inv_bb (hm : inv m) : bbG m := fun g hg hp => by
  obtain ⟨⟨k, a1, a2⟩, k2, b1, b2⟩ := hm.J3 g hg hp
  exact ⟨fb_ct_pos.mpr ⟨k, a1, decide_eq_true a2⟩, ct_lt b1 (decide_eq_false (by omega))⟩
theorem inv_hS (hm : inv m) : zI (bD m) = zI (fb_si (aB m 0) (nL m 0)) - zI (fb_si (aB m 1) (nL m 1)) + zI (fb_si (gT m) (nG m)) := by
  rw [zI_sub, zI_add, ck_sum hm]
/-- a group stands now if it is not parted -/
theorem was_now (hm : inv m) {g : Nat} (hg : g < nG m) : was m g (m.1 7 0) ↔ m.1 14 g < 0 := by
  have t := hm.T g hg
  unfold was
  constructor
  · rintro ⟨_, z | z⟩
    · exact z
    · have := t_lt.mp z
      omega
  · intro z
    exact ⟨t_le.mpr t.1, Or.inl z⟩
end CK2
/-- who is held, and how often -/
theorem hl_at {d : mS} {g a : Nat} : ∀ n, ((hlD d g n).1 56 a) = d.1 56 a + nI (fb_ct (atB d g a) n)
  | 0 => by
    show d.1 56 a = d.1 56 a + nI 0
    rw [i_add0]
  | n + 1 => by
    have ih := hl_at (d := d) (g := g) (a := a) n
    show (mset (hlD d g n) 56 (mb d g n) ((hlD d g n).1 56 (mb d g n) + nI 1)).1 56 a = _
    rw [fb_ct_succ]
    by_cases q : mb d g n = a
    · have e : atB d g a n = true := decide_eq_true q
      rw [q, mset_at, ih, if_pos e, Int32.add_assoc, nI_add]
    · have e : atB d g a n = false := decide_eq_false q
      rw [mset_off (fun z => q z.symm), ih, if_neg (by rw [e]; exact Bool.false_ne_true), Nat.add_zero]
theorem ch_at {d : mS} {b a : Nat} : ∀ n, (∀ i, i < n → 80 * b + i ≠ a) → (chD d b n).1 56 a = d.1 56 a
  | 0, _ => rfl
  | n + 1, h => by
    show (mset (chD d b n) 56 (80 * b + n) (nI 0)).1 56 a = _
    rw [mset_off (fun z => h n (by omega) z.symm)]; exact ch_at n (fun i hi => h i (by omega))
theorem ch_in {d : mS} {b : Nat} : ∀ n i, i < n → (chD d b n).1 56 (80 * b + i) = nI 0
  | 0, i, h => absurd h (Nat.not_lt_zero i)
  | n + 1, i, h => by
    show (mset (chD d b n) 56 (80 * b + n) (nI 0)).1 56 (80 * b + i) = _
    by_cases q : i = n
    · rw [q, mset_at]
    · rw [mset_off (by omega)]; exact ch_in n i (by omega)
theorem ch2_at {d : mS} (hL : iL d) {b i : Nat} (hb : b < 2) (hi : i < nL d b) : (ch2 d).1 56 (80 * b + i) = nI 0 := by
  have l0 := (hL 0 (by decide)).2
  have l1 := (hL 1 (by decide)).2
  unfold ch2
  rcases (show b = 0 ∨ b = 1 by omega) with q | q
  · subst q
    rw [ch_at _ (fun j hj => by omega)]; exact ch_in _ i hi
  · subst q
    exact ch_in _ i hi
