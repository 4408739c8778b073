/-! ===== the relation, 8: today and terms ===== -/
/-- a number of the desk's own, the same on both sides -/
theorem sc_eqv {d m : mS} (h : eqv d m) {k : Nat} {v : Int32} (hk : k = 7 ∨ k = 8 ∨ k = 9) : eqv (mset d k 0 v) (mset m k 0 v) := by
  have kd : ∀ j, j ≠ k → (mset d k 0 v).1 j = d.1 j := fun j hj => mset_ne hj
  have km : ∀ j, j ≠ k → (mset m k 0 v).1 j = m.1 j := fun j hj => mset_ne hj
  have nl : ∀ b, nL (mset m k 0 v) b = nL m b := fun b => nL_k (km 6 (by omega))
  have ng : nG (mset m k 0 v) = nG m := nG_k (km 16 (by omega))
  have nm : ∀ x, nM (mset m k 0 v) x = nM m x := fun x => nM_k (km 12 (by omega))
  have pt : ∀ j x, d.1 j x = m.1 j x → (mset d k 0 v).1 j x = (mset m k 0 v).1 j x := fun j x e => by
    by_cases q : j = k
    · subst q
      by_cases z : x = 0
      · subst z; rw [mset_at, mset_at]
      · rw [mset_off z, mset_off z]; exact e
    · rw [kd j q, km j q]; exact e
  refine ⟨fun b hb => pt 6 b (h.l b hb), pt 7 0 h.n, pt 8 0 h.s, pt 9 0 h.c, pt 16 0 h.g, fun j hj b hb i hi => pt j _ (h.a j hj b hb i (by rw [← nl]; exact hi)), fun x hx => ?_, fun x hx j hj => pt 11 _ (h.m x (by rw [← ng]; exact hx) j (by rw [← nm]; exact hj))⟩
  rw [ng] at hx
  have r := h.r x hx
  exact ⟨pt 10 x r.1, pt 12 x r.2.1, pt 13 x r.2.2.1, pt 14 x r.2.2.2.1, pt 15 x r.2.2.2.2⟩
theorem sc_inv {m : mS} {k : Nat} {v : Int32} (hm : inv m) (hk : k = 7 ∨ k = 8 ∨ k = 9) (h7 : k = 7 → (m.1 7 0).toInt ≤ v.toInt ∧ v.toInt ≤ 99999) : inv (mset m k 0 v) := by
  have km : ∀ j, j ≠ k → (mset m k 0 v).1 j = m.1 j := fun j hj => mset_ne hj
  have ng : nG (mset m k 0 v) = nG m := nG_k (km 16 (by omega))
  have nm : ∀ x, nM (mset m k 0 v) x = nM m x := fun x => nM_k (km 12 (by omega))
  have mbe : ∀ x j, mb (mset m k 0 v) x j = mb m x j := fun x j => by unfold mb; rw [km 11 (by omega)]
  have nl : ∀ b, nL (mset m k 0 v) b = nL m b := fun b => nL_k (km 6 (by omega))
  have nw : (m.1 7 0).toInt ≤ ((mset m k 0 v).1 7 0).toInt ∧ ((mset m k 0 v).1 7 0).toInt ≤ 99999 := by
    by_cases q : k = 7
    · subst q; rw [mset_at]; exact h7 rfl
    · rw [km 7 (fun z => q z.symm)]; exact ⟨Int.le_refl _, hm.nw.2⟩
  have n0 := hm.nw.1
  refine ⟨iL_k (km 6 (by omega)) hm.L, iG_k (km 16 (by omega)) hm.G, iMs_k (km 11 (by omega)) (km 12 (by omega)) (km 16 (by omega)) hm.M, fun b hb i hi => ?_, dN_k (km 5 (by omega)) (km 6 (by omega)) hm.N, dP_k (km 14 (by omega)) (km 16 (by omega)) hm.P, fun x hx => ?_, fun x hx j hj => ?_, ⟨by omega, nw.2⟩, fun b hb i hi => ?_, fun x hx => ?_, fun b hb i hi => ?_, fun x hx hp j hj => ?_, fun x hx hp => ?_⟩
  · rw [nl] at hi
    unfold fOk
    rw [km 0 (by omega), km 1 (by omega)]; exact hm.F b hb i hi
  · rw [ng] at hx
    rw [km 15 (by omega)]; exact hm.K x hx
  · rw [ng] at hx
    rw [nm] at hj
    rw [mbe, nl]; exact hm.V x hx j hj
  · rw [nl] at hi
    rw [km 4 (by omega)]
    have := hm.kn b hb i hi
    omega
  · rw [ng] at hx
    rw [km 13 (by omega), km 14 (by omega)]
    have := hm.T x hx
    omega
  · rw [nl] at hi
    rw [km 5 (by omega)]
    rcases hm.J1 b hb i hi with z | ⟨x, j, g1, k1, z1, z2, z3⟩
    · exact Or.inl z
    · exact Or.inr ⟨x, j, by rw [ng]; exact g1, by rw [nm]; exact k1, z1, by rw [km 14 (by omega)]; exact z2, by rw [mbe]; exact z3⟩
  · rw [ng] at hx
    rw [nm] at hj ⊢
    rw [km 14 (by omega)] at hp
    have z := hm.J2 x hx hp j hj
    rw [mbe, km 5 (by omega)]
    exact ⟨z.1, fun i hi e => z.2 i hi (by rw [mbe] at e; exact e)⟩
  · rw [ng] at hx
    rw [km 14 (by omega)] at hp
    rw [nm]
    obtain ⟨⟨k1, a1, a2⟩, k2, b1, b2⟩ := hm.J3 x hx hp
    exact ⟨⟨k1, a1, by rw [mbe]; exact a2⟩, k2, b1, by rw [mbe]; exact b2⟩
/-- breaks are not aged below 0 -/
theorem inv_kn {m : mS} (hm : inv m) : iKn m := fun b hb i hi => by
  have k := hm.kn b hb i hi
  have n := hm.nw
  have e0 : (nI 0).toInt = 0 := by decide
  rw [t_le, e0, t_sub (by omega) (by omega)]
  omega
/-- the bounds of a group's difference -/
theorem inv_gd {m : mS} (hm : inv m) : ∀ g, g < nG m → -8000000 ≤ gDf m g ∧ gDf m g ≤ 8000000 := by
  intro g hg
  have l8 := (hm.M g hg).2.1
  have key : ∀ n, n ≤ nM m g → -1000000 * (n : Int) ≤ fb_si (gAm m g) n ∧ fb_si (gAm m g) n ≤ 1000000 * (n : Int) := by
    intro n
    induction n with
    | zero => intro _; exact ⟨Int.le_refl _, Int.le_refl _⟩
    | succ n ih =>
      intro hn
      have h1 := ih (by omega)
      have v := hm.V g hg n (by omega)
      have f := hm.F (mb m g n / 80) (by omega) (mb m g n % 80) v.2
      rw [show 80 * (mb m g n / 80) + mb m g n % 80 = mb m g n by omega] at f
      have f1 := f.1
      rw [fb_si_succ]
      unfold gAm at h1 ⊢
      split <;> omega
  have := key (nM m g) (Nat.le_refl _)
  unfold gDf
  omega
theorem inv_Ga {m : mS} (hm : inv m) : iGa m := fun g hg k hk => by
  have v := hm.V g hg k hk
  have f := (hm.F (mb m g k / 80) (by omega) (mb m g k % 80) v.2).1
  rw [show 80 * (mb m g k / 80) + mb m g k % 80 = mb m g k by omega] at f
  omega
theorem inv_Am {m : mS} (hm : inv m) : iAm m := fun a ha hl => by
  have f := (hm.F (a / 80) (by omega) (a % 80) hl).1
  rw [show 80 * (a / 80) + a % 80 = a by omega] at f
  omega
