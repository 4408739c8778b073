/-! ===== the model's methods, 14: best ===== -/
/-- what fit and the groups read is the same in two states -/
abbrev isPr (j : Nat) : Prop := 17 ≤ j ∧ j ≤ 29
def smB (m m' : mS) : Prop := ∀ j, ¬ isPr j → m'.1 j = m.1 j
theorem smB_fit {m m' : mS} (h : smB m m') (A C : Nat) : fitV m' A C = fitV m A C := by
  unfold fitV fitF noFit hdN hdP wdP mb nM nG
  rw [h 0 (by decide), h 1 (by decide), h 2 (by decide), h 3 (by decide), h 8 (by decide), h 9 (by decide), h 10 (by decide), h 11 (by decide), h 12 (by decide), h 14 (by decide), h 16 (by decide)]
theorem smB_G {m m' : mS} (h : smB m m') (hG : iG m) : iG m' := by
  unfold iG nG
  rw [h 16 (by decide)]
  exact hG
theorem smB_M {m m' : mS} (h : smB m m') (hM : iMs m) : iMs m' := by
  intro g hg
  unfold nG at hg
  rw [h 16 (by decide)] at hg
  have := hM g hg
  unfold iMb mb nM at this ⊢
  rw [h 12 (by decide), h 11 (by decide)]
  exact this
def cBr (m : mS) (B : Nat) : Nat := fb_ct (brF m (80 * B)) (nL m B)
/-- the breaks stand in ours and theirs, by their order -/
def bsA (m m2 : mS) : Prop := m2.2 = m.2 ∧ (∀ j, j ≠ 18 → j ≠ 19 → j ≠ 20 → j ≠ 21 → m2.1 j = m.1 j) ∧ m2.1 20 0 = nI (cBr m 0) ∧ m2.1 21 0 = nI (cBr m 1) ∧ (∀ a, a < nL m 0 → brF m 0 a = true → fb_ct (brF m 0) a < 14 → m2.1 18 (fb_ct (brF m 0) a) = nI a) ∧ (∀ a, a < nL m 1 → brF m 80 a = true → fb_ct (brF m 80) a < 14 → m2.1 19 (fb_ct (brF m 80) a) = nI a)
theorem bsA_sm {m m2 : mS} (h : bsA m m2) : smB m m2 := fun j hj => h.2.1 j (by unfold isPr at hj; omega) (by unfold isPr at hj; omega) (by unfold isPr at hj; omega) (by unfold isPr at hj; omega)
theorem bsA_18 {m m2 : mS} (h : bsA m m2) (h14 : cBr m 0 ≤ 14) {i : Nat} (hi : i < cBr m 0) : ∃ a, a < nL m 0 ∧ m2.1 18 i = nI a := by
  obtain ⟨a, h1, h2, h3⟩ := fb_ct_kth (p := brF m 0) (k := i) (n := nL m 0) hi
  exact ⟨a, h1, by rw [← h3]; exact h.2.2.2.2.1 a h1 h2 (by omega)⟩
theorem bsA_19 {m m2 : mS} (h : bsA m m2) (h14 : cBr m 1 ≤ 14) {i : Nat} (hi : i < cBr m 1) : ∃ a, a < nL m 1 ∧ m2.1 19 i = nI a := by
  obtain ⟨a, h1, h2, h3⟩ := fb_ct_kth (p := brF m 80) (k := i) (n := nL m 1) hi
  exact ⟨a, h1, by rw [← h3]; exact h.2.2.2.2.2 a h1 h2 (by omega)⟩
def fW (m m2 : mS) (i j : Nat) : Int32 := fitV m (nv (m2.1 18 i)) (80 + nv (m2.1 19 j))
/-- the fits are written of the rows ahead of i, and of row i ahead of j; sm: so far they are those that stood there -/
def ftI (m m2 : mS) (i j : Nat) (sm : Int32) (m' : mS) : Prop := m'.2 = m2.2 ∧ (∀ k, k ≠ 22 → m'.1 k = m2.1 k) ∧ (∀ a b, b < cBr m 1 → (a < i ∨ (a = i ∧ b < j)) → m'.1 22 (14 * a + b) = fW m m2 a b) ∧ (sm = 0 ∨ sm = 1) ∧ (¬ sm = 0 → (m2.1 27 0 = nI (cBr m 0) ∧ m2.1 28 0 = nI (cBr m 1)) ∧ (∀ k, m'.1 22 k = m2.1 22 k))
theorem ftI_row {m m2 m' : mS} {i : Nat} {sm : Int32} (h : ftI m m2 i (cBr m 1) sm m') : ftI m m2 (i + 1) 0 sm m' := by
  obtain ⟨h1, h2, h3, h4, h5⟩ := h
  exact ⟨h1, h2, fun a b hb hab => h3 a b hb (by omega), h4, h5⟩
theorem ftI_step {m m2 m' : mS} {i j : Nat} {sm sm' : Int32} (hj : j < cBr m 1) (h14 : cBr m 1 ≤ 14) (h : ftI m m2 i j sm m') (h01 : sm' = 0 ∨ sm' = 1) (hs : ¬ sm' = 0 → ¬ sm = 0 ∧ m'.1 22 (14 * i + j) = fW m m2 i j) : ftI m m2 i (j + 1) sm' (mset m' 22 (14 * i + j) (fW m m2 i j)) := by
  obtain ⟨h1, h2, h3, h4, h5⟩ := h
  refine ⟨h1, fun k hk => by rw [mset_ne hk]; exact h2 k hk, fun a b hb hab => ?_, h01, fun hn => ?_⟩
  · by_cases e : 14 * a + b = 14 * i + j
    · have e1 : a = i := by omega
      have e2 : b = j := by omega
      subst e1
      subst e2
      exact mset_at _ _ _ _
    · rw [mset_off e]
      exact h3 a b hb (by omega)
  · obtain ⟨g1, g2⟩ := hs hn
    obtain ⟨g3, g4⟩ := h5 g1
    refine ⟨g3, fun k => ?_⟩
    by_cases e : k = 14 * i + j
    · subst e
      rw [mset_at, ← g2]
      exact g4 _
    · rw [mset_off e]
      exact g4 k
