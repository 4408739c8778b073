/-! ===== the relation, 1: the same desk ===== -/
abbrev eqv (d : mS) (m : mS) : Prop := (∀ b, b < 2 → d.1 6 b = m.1 6 b) ∧ (d.1 7 0 = m.1 7 0) ∧ (d.1 8 0 = m.1 8 0) ∧ (d.1 9 0 = m.1 9 0) ∧ (d.1 16 0 = m.1 16 0) ∧ (∀ k, k < 6 → ∀ b, b < 2 → ∀ i, i < nL m b → d.1 k (80 * b + i) = m.1 k (80 * b + i)) ∧ (∀ g, g < nG m → d.1 10 g = m.1 10 g ∧ d.1 12 g = m.1 12 g ∧ d.1 13 g = m.1 13 g ∧ d.1 14 g = m.1 14 g ∧ d.1 15 g = m.1 15 g) ∧ (∀ g, g < nG m → ∀ k, k < nM m g → d.1 11 (8 * g + k) = m.1 11 (8 * g + k))
theorem eqv.l {d : mS} {m : mS} (h_ : eqv d m) : ∀ b, b < 2 → d.1 6 b = m.1 6 b := h_.1
theorem eqv.n {d : mS} {m : mS} (h_ : eqv d m) : d.1 7 0 = m.1 7 0 := h_.2.1
theorem eqv.s {d : mS} {m : mS} (h_ : eqv d m) : d.1 8 0 = m.1 8 0 := h_.2.2.1
theorem eqv.c {d : mS} {m : mS} (h_ : eqv d m) : d.1 9 0 = m.1 9 0 := h_.2.2.2.1
theorem eqv.g {d : mS} {m : mS} (h_ : eqv d m) : d.1 16 0 = m.1 16 0 := h_.2.2.2.2.1
theorem eqv.a {d : mS} {m : mS} (h_ : eqv d m) : ∀ k, k < 6 → ∀ b, b < 2 → ∀ i, i < nL m b → d.1 k (80 * b + i) = m.1 k (80 * b + i) := h_.2.2.2.2.2.1
theorem eqv.r {d : mS} {m : mS} (h_ : eqv d m) : ∀ g, g < nG m → d.1 10 g = m.1 10 g ∧ d.1 12 g = m.1 12 g ∧ d.1 13 g = m.1 13 g ∧ d.1 14 g = m.1 14 g ∧ d.1 15 g = m.1 15 g := h_.2.2.2.2.2.2.1
theorem eqv.m {d : mS} {m : mS} (h_ : eqv d m) : ∀ g, g < nG m → ∀ k, k < nM m g → d.1 11 (8 * g + k) = m.1 11 (8 * g + k) := h_.2.2.2.2.2.2.2
/-- members of groups are lines of the books -/
def iV (m : mS) : Prop := ∀ g, g < nG m → ∀ k, k < nM m g → mb m g k < 160 ∧ mb m g k % 80 < nL m (mb m g k / 80)
section EQV
variable {d m : mS}
theorem eqv_refl (m : mS) : eqv m m := ⟨fun _ _ => rfl, rfl, rfl, rfl, rfl, fun _ _ _ _ _ _ => rfl, fun _ _ => ⟨rfl, rfl, rfl, rfl, rfl⟩, fun _ _ _ _ => rfl⟩
theorem q_nL (h : eqv d m) {b : Nat} (hb : b < 2) : nL d b = nL m b := by unfold nL; rw [h.l b hb]
theorem q_nG (h : eqv d m) : nG d = nG m := by unfold nG; rw [h.g]
theorem q_nM (h : eqv d m) {g : Nat} (hg : g < nG m) : nM d g = nM m g := by unfold nM; rw [(h.r g hg).2.1]
theorem q_mb (h : eqv d m) {g k : Nat} (hg : g < nG m) (hk : k < nM m g) : mb d g k = mb m g k := by unfold mb; rw [h.m g hg k hk]
theorem q_at (h : eqv d m) {k a : Nat} (hk : k < 6) (ha : a < 160) (hv : a % 80 < nL m (a / 80)) : d.1 k a = m.1 k a := by
  have := h.a k hk (a / 80) (by omega) (a % 80) hv
  rwa [show 80 * (a / 80) + a % 80 = a by omega] at this
theorem eqv_symm (h : eqv d m) : eqv m d := by
  refine ⟨fun b hb => (h.l b hb).symm, h.n.symm, h.s.symm, h.c.symm, h.g.symm, fun k hk b hb i hi => (h.a k hk b hb i (by rw [← q_nL h hb]; exact hi)).symm, fun g hg => ?_, fun g hg k hk => ?_⟩
  · have := h.r g (by rw [← q_nG h]; exact hg)
    exact ⟨this.1.symm, this.2.1.symm, this.2.2.1.symm, this.2.2.2.1.symm, this.2.2.2.2.symm⟩
  · have hg' : g < nG m := by rw [← q_nG h]; exact hg
    exact (h.m g hg' k (by rw [← q_nM h hg']; exact hk)).symm
theorem eqv_trans {e : mS} (h : eqv d m) (h2 : eqv m e) : eqv d e := by
  refine ⟨fun b hb => (h.l b hb).trans (h2.l b hb), h.n.trans h2.n, h.s.trans h2.s, h.c.trans h2.c, h.g.trans h2.g, fun k hk b hb i hi => (h.a k hk b hb i (by rw [q_nL h2 hb]; exact hi)).trans (h2.a k hk b hb i hi), fun g hg => ?_, fun g hg k hk => ?_⟩
  · have a1 := h.r g (by rw [q_nG h2]; exact hg)
    have a2 := h2.r g hg
    exact ⟨a1.1.trans a2.1, a1.2.1.trans a2.2.1, a1.2.2.1.trans a2.2.2.1, a1.2.2.2.1.trans a2.2.2.2.1, a1.2.2.2.2.trans a2.2.2.2.2⟩
  · have hg' : g < nG m := by rw [q_nG h2]; exact hg
    exact (h.m g hg' k (by rw [q_nM h2 hg]; exact hk)).trans (h2.m g hg k hk)
-- the invariants go over
theorem q_iL (h : eqv d m) (i : iL m) : iL d := fun b hb => by rw [q_nL h hb, h.l b hb]; exact i b hb
theorem q_iG (h : eqv d m) (i : iG m) : iG d := by unfold iG; rw [q_nG h, h.g]; exact i
theorem q_dN (h : eqv d m) (i : dN m) : dN d := fun b hb x hx => by
  rw [q_nL h hb] at hx
  rw [h.a 5 (by decide) b hb x hx]; exact i b hb x hx
theorem q_dP (h : eqv d m) (i : dP m) : dP d := fun g hg => by
  rw [q_nG h] at hg
  rw [(h.r g hg).2.2.2.1]; exact i g hg
theorem q_iK (h : eqv d m) (i : iK m) : iK d := fun g hg => by
  rw [q_nG h] at hg
  rw [(h.r g hg).2.2.2.2]; exact i g hg
theorem q_iF (h : eqv d m) (i : iF m) : iF d := fun b hb x hx => by
  rw [q_nL h hb] at hx
  unfold fOk
  rw [h.a 0 (by decide) b hb x hx, h.a 1 (by decide) b hb x hx]; exact i b hb x hx
theorem q_iKn (h : eqv d m) (i : iKn m) : iKn d := fun b hb x hx => by
  rw [q_nL h hb] at hx
  rw [h.n, h.a 4 (by decide) b hb x hx]; exact i b hb x hx
theorem q_iMs (h : eqv d m) (i : iMs m) : iMs d := fun g hg => by
  rw [q_nG h] at hg
  obtain ⟨i1, i2, i3⟩ := i g hg
  refine ⟨by rw [q_nM h hg, (h.r g hg).2.1]; exact i1, by rw [q_nM h hg]; exact i2, fun k hk => ?_⟩
  rw [q_nM h hg] at hk
  rw [q_mb h hg hk, h.m g hg k hk]; exact i3 k hk
theorem q_iV (h : eqv d m) (i : iV m) : iV d := fun g hg k hk => by
  rw [q_nG h] at hg
  rw [q_nM h hg] at hk
  rw [q_mb h hg hk]
  have := i g hg k hk
  exact ⟨this.1, by rw [q_nL h (by omega)]; exact this.2⟩
-- the functions are the same
theorem q_brF (h : eqv d m) {b i : Nat} (hb : b < 2) (hi : i < nL m b) : brF d (80 * b) i = brF m (80 * b) i := by
  unfold brF
  rw [h.a 5 (by decide) b hb i hi]
theorem q_ctB (h : eqv d m) {b i : Nat} (hb : b < 2) (hi : i ≤ nL m b) : fb_ct (brF d (80 * b)) i = fb_ct (brF m (80 * b)) i := fb_ct_cong (fun k hk => q_brF h hb (by omega))
theorem q_cBr (h : eqv d m) {b : Nat} (hb : b < 2) : cBr d b = cBr m b := by
  unfold cBr
  rw [q_nL h hb]; exact q_ctB h hb (Nat.le_refl _)
theorem q_brA (h : eqv d m) {b : Nat} (hb : b < 2) (a : Int32) : fb_ct (brA d b a) (nL d b) = fb_ct (brA m b a) (nL m b) := by
  rw [q_nL h hb]
  refine fb_ct_cong (fun k hk => ?_)
  unfold brA
  rw [h.n, h.a 4 (by decide) b hb k hk, h.a 5 (by decide) b hb k hk]
theorem q_isLn (h : eqv d m) {b i : Int32} : isLn d b i ↔ isLn m b i := by
  unfold isLn
  constructor
  · rintro ⟨h1, h2, h3⟩
    exact ⟨h1, h2, by rw [← h.l _ (bk_nv h1).2]; exact h3⟩
  · rintro ⟨h1, h2, h3⟩
    exact ⟨h1, h2, by rw [h.l _ (bk_nv h1).2]; exact h3⟩
theorem q_ln (h : eqv d m) (hL : iL m) {b i : Int32} (hl : isLn m b i) {k : Nat} (hk : k < 6) : d.1 k (80 * nv b + nv i) = m.1 k (80 * nv b + nv i) := by
  obtain ⟨⟨_, h2⟩, _, h4, _⟩ := ln_in hL hl
  exact h.a k hk (nv b) h2 (nv i) h4
theorem q_isGr (h : eqv d m) (hG : iG m) {g : Int32} : isGr d g ↔ isGr m g := by
  unfold isGr
  rw [h.g]
  constructor
  · rintro ⟨h1, h2⟩
    have := md_in hG h1
    exact ⟨h1, by rw [← (h.r _ this.2.1).2.2.2.1]; exact h2⟩
  · rintro ⟨h1, h2⟩
    have := md_in hG h1
    exact ⟨h1, by rw [(h.r _ this.2.1).2.2.2.1]; exact h2⟩
theorem q_brk (h : eqv d m) {b : Nat} (hb : b < 2) {i r : Int32} : brkR d b i r → brkR m b i r := by
  have eb : ∀ k, k < nL m b → brB d b k = brB m b k := fun k hk => q_brF h hb hk
  have ec : ∀ k, k ≤ nL m b → fb_ct (brB d b) k = fb_ct (brB m b) k := fun k hk => q_ctB h hb hk
  rintro (⟨k, k1, k2, k3, k4⟩ | ⟨k1, k2⟩)
  · rw [q_nL h hb] at k1
    exact Or.inl ⟨k, k1, by rw [← eb k k1]; exact k2, by rw [← ec k (by omega)]; exact k3, k4⟩
  · refine Or.inr ⟨k1, fun k hk hb2 => ?_⟩
    rw [← ec k (by omega)]
    exact k2 k (by rw [q_nL h hb]; exact hk) (by rw [eb k hk]; exact hb2)
theorem q_gDf (h : eqv d m) (hV : iV m) {g : Nat} (hg : g < nG m) : gDf d g = gDf m g := by
  unfold gDf
  rw [q_nM h hg]
  refine fb_si_ext (fun k hk => ?_)
  unfold gAm
  have v := hV g hg k hk
  rw [q_mb h hg hk, q_at h (by decide) v.1 v.2]
theorem q_wdP (h : eqv d m) (hV : iV m) {g B : Nat} {w : Int32} (hg : g < nG m) : fb_ct (wdP d g B w) (nM d g) = fb_ct (wdP m g B w) (nM m g) := by
  rw [q_nM h hg]
  refine fb_ct_cong (fun k hk => ?_)
  unfold wdP
  have v := hV g hg k hk
  rw [q_mb h hg hk, q_at h (by decide) v.1 v.2]
theorem q_hdN (h : eqv d m) (hV : iV m) {A C : Nat} (hA : d.1 2 A = m.1 2 A) (hC : d.1 2 C = m.1 2 C) : hdN d A C = hdN m A C := by
  unfold hdN
  rw [q_nG h, hA, hC]
  refine fb_ct_cong (fun g hg => ?_)
  unfold hdP
  have r := h.r g hg
  rw [q_wdP h hV hg, q_wdP h hV hg, r.1, r.2.2.2.1]
theorem q_fitV (h : eqv d m) (hV : iV m) {A C : Nat} (hA : A < 160 ∧ A % 80 < nL m (A / 80)) (hC : C < 160 ∧ C % 80 < nL m (C / 80)) : fitV d A C = fitV m A C := by
  have a := fun k (hk : k < 6) => q_at h (k := k) hk hA.1 hA.2
  have c := fun k (hk : k < 6) => q_at h (k := k) hk hC.1 hC.2
  unfold fitV noFit fitF
  rw [q_hdN h hV (a 2 (by decide)) (c 2 (by decide)), h.s, h.c, a 0 (by decide), a 1 (by decide), a 2 (by decide), a 3 (by decide), c 0 (by decide), c 1 (by decide), c 2 (by decide), c 3 (by decide)]
theorem q_unE (h : eqv d m) (hV : iV m) : fb_ct (unE d) (nG d) = fb_ct (unE m) (nG m) ∧ (∀ g, g < nG m → unE d g = unE m g) ∧ ∀ g, g ≤ nG m → fb_ct (unE d) g = fb_ct (unE m) g := by
  have e : ∀ g, g < nG m → unE d g = unE m g := fun g hg => by
    unfold unE
    rw [q_gDf h hV hg, (h.r g hg).2.2.2.1]
  exact ⟨by rw [q_nG h]; exact fb_ct_cong e, e, fun g hg => fb_ct_cong (fun k hk => e k (by omega))⟩
theorem q_bD (h : eqv d m) : bD d = bD m := by
  unfold bD
  rw [q_nL h (by decide), q_nL h (by decide), fb_si_ext (f := aL d 0) (g := aL m 0) (fun k hk => by unfold aL; rw [h.a 0 (by decide) 0 (by decide) k hk]), fb_si_ext (f := aL d 1) (g := aL m 1) (fun k hk => by unfold aL; rw [h.a 0 (by decide) 1 (by decide) k hk])]
theorem q_aB (h : eqv d m) {b : Nat} (hb : b < 2) : fb_si (aB d b) (nL d b) = fb_si (aB m b) (nL m b) := by
  rw [q_nL h hb]
  exact fb_si_ext (fun k hk => by unfold aB; rw [h.a 0 (by decide) b hb k hk, h.a 5 (by decide) b hb k hk])
theorem q_gT (h : eqv d m) (hV : iV m) : fb_si (gT d) (nG d) = fb_si (gT m) (nG m) := by
  rw [q_nG h]
  exact fb_si_ext (fun g hg => by unfold gT; rw [q_gDf h hV hg, (h.r g hg).2.2.2.1])
theorem q_was (h : eqv d m) {g : Nat} (hg : g < nG m) {t : Int32} : was d g t ↔ was m g t := by
  unfold was
  rw [(h.r g hg).2.2.1, (h.r g hg).2.2.2.1]
theorem q_thG (h : eqv d m) : nTh d = nTh m := by
  unfold nTh
  rw [q_nG h]
  exact fb_ct_cong (fun g hg => by unfold thG; rw [(h.r g hg).2.2.2.1])
theorem q_cdP (h : eqv d m) {b A : Nat} {sp : Int32} (hb : b < 2) (hA : A < 160 ∧ A % 80 < nL m (A / 80)) : ∀ i, i < nL m b → cdP d b A sp i = cdP m b A sp i := fun i hi => by
  unfold cdP
  rw [h.a 5 (by decide) b hb i hi, h.a 1 (by decide) b hb i hi, q_at h (by decide) hA.1 hA.2]
end EQV
