/-! ===== the relation, 6: the acts ===== -/
def actM (m : mS) (t : Nat) : Nat × Nat × Int32 := (nv (m.1 43 t), nv (m.1 44 t), m.1 45 t)
theorem core_eqv {d m : mS} (h : ∀ j, j < 17 → d.1 j = m.1 j) : eqv d m := by
  refine ⟨fun b _ => by rw [h 6 (by decide)], by rw [h 7 (by decide)], by rw [h 8 (by decide)], by rw [h 9 (by decide)], by rw [h 16 (by decide)], fun k hk b _ i _ => by rw [h k (by omega)], fun g _ => ?_, fun g _ k _ => by rw [h 11 (by decide)]⟩
  rw [h 10 (by decide), h 12 (by decide), h 13 (by decide), h 14 (by decide), h 15 (by decide)]
  exact ⟨rfl, rfl, rfl, rfl, rfl⟩
/-- an act more, on the model's side -/
theorem good_did {m m1 m' : mS} {k O : Nat} {w : Int32} (hA : iA m) (hG : Good (actM m) (nA m) m) (h43 : m1.1 43 = m.1 43) (h44 : m1.1 44 = m.1 44) (h45 : m1.1 45 = m.1 45) (h46 : m1.1 46 = m.1 46) (hk : k < 2147483648) (hO : O < 2147483648) (hd : didR m1 (nI k) (nI O) w m') (hi : inv m1) (ht : tbOk m1 k O) (hu : eqv (tbD m1 k O w) m) : Good (actM m') (nA m') m' ∧ iA m' ∧ eqv m' m1 ∧ nA m' = nA m - dOff m + 1 := by
  obtain ⟨d1, d2, d3, d4, d5, d6⟩ := hd
  have na : nA m1 = nA m := by unfold nA; rw [h46]
  have df : dOff m1 = dOff m := by unfold dOff; rw [na]
  rw [na, df] at d5 d6
  have l := hA.2
  have od : dOff m ≤ 1 := by unfold dOff; split <;> omega
  have nl : nA m - dOff m + 1 ≤ 60 := by unfold dOff; split <;> omega
  have n' : nA m' = nA m - dOff m + 1 := by
    show nv (m'.1 46 0) = _
    rw [d5]; exact nv_nI (by omega)
  have ev : eqv m' m1 := core_eqv (fun j hj => d2 j (by omega) (by omega) (by omega) (by omega) (by omega) (by omega))
  refine ⟨?_, ⟨by rw [n']; exact d5, by rw [n']; exact nl⟩, ev, n'⟩
  have shift : Good (fun t => actM m (t + dOff m)) (nA m - dOff m) m := by
    by_cases q : nA m = 60
    · have e : dOff m = 1 := if_pos q
      rw [e, q]
      rw [q] at hG
      exact Good_drop hG
    · have e : dOff m = 0 := if_neg q
      rw [e]
      exact hG
  have same : ∀ t, t < nA m - dOff m → actM m' t = actM m (t + dOff m) := fun t ht => by
    have z := d6.1 t ht
    unfold actM
    rw [z.1, z.2.1, z.2.2, h43, h44, h45]
  have top : actM m' (nA m - dOff m) = (k, O, w) := by
    have z := d6.2
    unfold actM
    rw [z.1, z.2.1, z.2.2, nv_nI hk, nv_nI hO]
  have g1 : Good (actM m') (nA m - dOff m) (tbD m1 k O w) := Good_eqv hu (Good_ext same shift)
  rw [n']
  refine Good_eqv ev ⟨hi, ?_⟩
  rw [top]
  exact ⟨ht, g1⟩
