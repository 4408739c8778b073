/-! ===== explanation: the model's things, and its choice ===== -/
def itM (q : mS) (t : Nat) (o k : Int32) (v : Int64) : Prop := q.1 37 t = o ∧ q.1 38 t = k ∧ q.2 t = v
theorem ai_at {m : mS} {n : Nat} {o k : Int32} {v : Int64} (h : n < 18) : itM (aiM m n o k v) n o k v := by
  unfold aiM
  rw [if_pos h]
  refine ⟨?_, ?_, ?_⟩
  · show (mset (mset m 37 n o) 38 n k).1 37 n = o
    rw [mset_ne (by decide), mset_at]
  · show (mset (mset m 37 n o) 38 n k).1 38 n = k
    exact mset_at _ _ _ _
  · simp [msetL, vp_updL]
theorem ai_off {m : mS} {n t : Nat} {o k o' k' : Int32} {v v' : Int64} (h : t ≠ n) (i : itM m t o' k' v') : itM (aiM m n o k v) t o' k' v' := by
  unfold aiM
  split
  · obtain ⟨i1, i2, i3⟩ := i
    refine ⟨?_, ?_, ?_⟩
    · show (mset (mset m 37 n o) 38 n k).1 37 t = o'
      rw [mset_ne (by decide), mset_off h, i1]
    · show (mset (mset m 37 n o) 38 n k).1 38 t = k'
      rw [mset_off h, mset_ne (by decide), i2]
    · simp [msetL, vp_updL, h, mset, i3]
  · exact i
theorem ai_k {m : mS} {n j : Nat} {o k : Int32} {v : Int64} (h1 : j ≠ 37) (h2 : j ≠ 38) : (aiM m n o k v).1 j = m.1 j := by
  unfold aiM
  split
  · show (mset (mset m 37 n o) 38 n k).1 j = _
    rw [mset_ne h2, mset_ne h1]
  · rfl
def pB (m : mS) (a : Nat) : Bool := decide (inL m a ∧ m.1 5 a < 0)
def pG (m : mS) (g : Nat) : Bool := decide (m.1 14 g < 0 ∧ ¬ zL (gDf m g) = 0)
theorem exL_y {m : mS} {a : Nat} (c : inL m a ∧ m.1 5 a < 0) : exL m (a + 1) = ((exL m a).1 + 1, aiM (exL m a).2 (exL m a).1 (nI (a / 80)) (nI (a % 80)) (zL (sgA m a))) := by
  have ev : (if a < 80 then zL (m.1 0 a).toInt else zL (-(m.1 0 a).toInt)) = zL (sgA m a) := by
    unfold sgA
    split <;> rfl
  rw [← ev]
  exact if_pos c
theorem exL_n {m : mS} {a : Nat} (c : ¬ (inL m a ∧ m.1 5 a < 0)) : exL m (a + 1) = exL m a := if_neg c
theorem exG_y {m : mS} {g : Nat} (c : m.1 14 g < 0 ∧ ¬ zL (gDf m g) = 0) : exG m (g + 1) = ((exG m g).1 + 1, aiM (exG m g).2 (exG m g).1 (nI 2) (nI g) (zL (gDf m g))) := if_pos c
theorem exG_n {m : mS} {g : Nat} (c : ¬ (m.1 14 g < 0 ∧ ¬ zL (gDf m g) = 0)) : exG m (g + 1) = exG m g := if_neg c
theorem exT_y {q : mS} {f : Int32} {k : Nat} (c : bitF f k) : exT q f (k + 1) = ((exT q f k).1 + 1, mset (mset (mset (exT q f k).2 40 (exT q f k).1 (q.1 37 k)) 41 (exT q f k).1 (q.1 38 k)) 42 0 (nI ((exT q f k).1 + 1))) := if_pos c
theorem exT_n {q : mS} {f : Int32} {k : Nat} (c : ¬ bitF f k) : exT q f (k + 1) = exT q f k := if_neg c
theorem exL_at (m : mS) : ∀ a, (exL m a).1 = fb_ct (pB m) a ∧ (∀ j, j ≠ 37 → j ≠ 38 → (exL m a).2.1 j = m.1 j) ∧ ∀ x, x < a → pB m x = true → fb_ct (pB m) x < 18 → itM (exL m a).2 (fb_ct (pB m) x) (nI (x / 80)) (nI (x % 80)) (zL (sgA m x)) := by
  intro a
  induction a with
  | zero => exact ⟨rfl, fun _ _ _ => rfl, fun x hx => absurd hx (Nat.not_lt_zero _)⟩
  | succ a ih =>
    obtain ⟨h1, h2, h3⟩ := ih
    rw [fb_ct_succ]
    by_cases c : inL m a ∧ m.1 5 a < 0
    · have pa : pB m a = true := decide_eq_true c
      rw [exL_y c, if_pos pa]
      refine ⟨by rw [h1], fun j j1 j2 => ?_, fun x hx px hr => ?_⟩
      · show (aiM _ _ _ _ _).1 j = _
        rw [ai_k j1 j2, h2 j j1 j2]
      · by_cases e : x = a
        · subst e
          show itM (aiM (exL m x).2 (exL m x).1 (nI (x / 80)) (nI (x % 80)) _) _ _ _ _
          rw [h1]
          exact ai_at hr
        · have lt := fb_ct_mono (pB m) (show x + 1 ≤ a by omega)
          rw [fb_ct_succ, if_pos px] at lt
          exact ai_off (n := (exL m a).1) (by rw [h1]; omega) (h3 x (by omega) px hr)
    · have pa : ¬ pB m a = true := fun q => c (of_decide_eq_true q)
      rw [exL_n c, if_neg pa]
      refine ⟨h1, h2, fun x hx px hr => ?_⟩
      have e : x ≠ a := fun q => pa (q ▸ px)
      exact h3 x (by omega) px hr
theorem exG_at (m : mS) : ∀ g, (exG m g).1 = fb_ct (pB m) 160 + fb_ct (pG m) g ∧ (∀ j, j ≠ 37 → j ≠ 38 → (exG m g).2.1 j = m.1 j) ∧ (∀ x, x < 160 → pB m x = true → fb_ct (pB m) x < 18 → itM (exG m g).2 (fb_ct (pB m) x) (nI (x / 80)) (nI (x % 80)) (zL (sgA m x))) ∧ ∀ x, x < g → pG m x = true → fb_ct (pB m) 160 + fb_ct (pG m) x < 18 → itM (exG m g).2 (fb_ct (pB m) 160 + fb_ct (pG m) x) (nI 2) (nI x) (zL (gDf m x)) := by
  intro g
  induction g with
  | zero =>
    obtain ⟨h1, h2, h3⟩ := exL_at m 160
    have e0 : exG m 0 = exL m 160 := rfl
    rw [e0, show fb_ct (pG m) 0 = 0 from rfl, Nat.add_zero]
    exact ⟨h1, h2, h3, fun x hx => absurd hx (Nat.not_lt_zero _)⟩
  | succ g ih =>
    obtain ⟨h1, h2, h3, h4⟩ := ih
    rw [fb_ct_succ (pG m) g]
    by_cases c : m.1 14 g < 0 ∧ ¬ zL (gDf m g) = 0
    · have pa : pG m g = true := decide_eq_true c
      rw [exG_y c, if_pos pa]
      refine ⟨by show (exG m g).1 + 1 = _; rw [h1, Nat.add_assoc], fun j j1 j2 => ?_, fun x hx px hr => ?_, fun x hx px hr => ?_⟩
      · show (aiM _ _ _ _ _).1 j = _
        rw [ai_k j1 j2, h2 j j1 j2]
      · have lt := fb_ct_mono (pB m) (show x + 1 ≤ 160 by omega)
        rw [fb_ct_succ, if_pos px] at lt
        exact ai_off (n := (exG m g).1) (by rw [h1]; omega) (h3 x hx px hr)
      · by_cases e : x = g
        · subst e
          show itM (aiM (exG m x).2 (exG m x).1 (nI 2) (nI x) _) _ _ _ _
          rw [h1]
          exact ai_at hr
        · have lt := fb_ct_mono (pG m) (show x + 1 ≤ g by omega)
          rw [fb_ct_succ, if_pos px] at lt
          exact ai_off (n := (exG m g).1) (by rw [h1]; omega) (h4 x (by omega) px hr)
    · have pa : ¬ pG m g = true := fun q => c (of_decide_eq_true q)
      rw [exG_n c, if_neg pa]
      refine ⟨h1, h2, h3, fun x hx px hr => ?_⟩
      have e : x ≠ g := fun q => pa (q ▸ px)
      exact h4 x (by omega) px hr
theorem exT_at {q : mS} {f : Int32} {S : Nat → Bool} {N : Nat} (hS : ∀ k, k < N → (bitF f k ↔ S k = true)) : ∀ k, k ≤ N → (exT q f k).1 = fb_ct S k ∧ (∀ j, j ≠ 40 → j ≠ 41 → j ≠ 42 → (exT q f k).2.1 j = q.1 j) ∧ ∀ x, x < k → S x = true → (exT q f k).2.1 40 (fb_ct S x) = q.1 37 x ∧ (exT q f k).2.1 41 (fb_ct S x) = q.1 38 x := by
  intro k
  induction k with
  | zero => exact fun _ => ⟨rfl, fun j _ _ h => mset_ne h, fun x hx => absurd hx (Nat.not_lt_zero _)⟩
  | succ k ih =>
    intro hk
    obtain ⟨h1, h2, h3⟩ := ih (by omega)
    rw [fb_ct_succ]
    by_cases c : bitF f k
    · have pa := (hS k (by omega)).mp c
      rw [exT_y c, if_pos pa]
      refine ⟨by show (exT q f k).1 + 1 = _; rw [h1], fun j j1 j2 j3 => ?_, fun x hx px => ?_⟩
      · show (mset (mset (mset (exT q f k).2 40 _ _) 41 _ _) 42 0 _).1 j = _
        rw [mset_ne j3, mset_ne j2, mset_ne j1, h2 j j1 j2 j3]
      · show (mset (mset (mset (exT q f k).2 40 (exT q f k).1 _) 41 (exT q f k).1 _) 42 0 _).1 40 _ = _ ∧ (mset (mset (mset (exT q f k).2 40 (exT q f k).1 _) 41 (exT q f k).1 _) 42 0 _).1 41 _ = _
        rw [mset_ne (show (40 : Nat) ≠ 42 by decide), mset_ne (show (40 : Nat) ≠ 41 by decide), mset_ne (show (41 : Nat) ≠ 42 by decide), h1]
        by_cases e : x = k
        · subst e
          rw [mset_at, mset_at]
          exact ⟨rfl, rfl⟩
        · have lt := fb_ct_mono S (show x + 1 ≤ k by omega)
          rw [fb_ct_succ, if_pos px] at lt
          rw [mset_off (by omega), mset_off (by omega), mset_ne (by decide)]
          exact h3 x (by omega) px
    · have pa : ¬ S k = true := fun z => c ((hS k (by omega)).mpr z)
      rw [exT_n c, if_neg pa]
      refine ⟨h1, h2, fun x hx px => ?_⟩
      have e : x ≠ k := fun z => pa (z ▸ px)
      exact h3 x (by omega) px
theorem ct_lim {p q : Nat → Bool} {n N : Nat} (h : n ≤ N) (h1 : ∀ i, i < n → p i = q i) (h0 : ∀ i, n ≤ i → i < N → p i = false) : fb_ct p N = fb_ct q n := by
  rw [show N = n + (N - n) by omega, fb_ct_split, fb_ct_cong h1, fb_ct_zero.mpr (fun k hk => h0 (n + k) (by omega) (by omega))]
  rfl
section RANK
variable {m : mS}
theorem pB_0 (hL : iL m) : (∀ a, a < nL m 0 → pB m a = brF m 0 a) ∧ (∀ a, nL m 0 ≤ a → a < 80 → pB m a = false) := by
  have l := (hL 0 (by decide)).2
  constructor
  · intro a ha
    unfold pB brF
    rw [Nat.zero_add]
    exact decide_eq_decide.mpr ⟨fun q => q.2, fun q => ⟨(inL_0 (by omega)).mpr ha, q⟩⟩
  · intro a h1 h2
    exact decide_eq_false (fun q => by have := (inL_0 (m := m) h2).mp q.1; omega)
theorem pB_1 (hL : iL m) : (∀ a, a < nL m 1 → pB m (80 + a) = brF m 80 a) ∧ (∀ a, nL m 1 ≤ a → a < 80 → pB m (80 + a) = false) := by
  have l := (hL 1 (by decide)).2
  constructor
  · intro a ha
    unfold pB brF
    exact decide_eq_decide.mpr ⟨fun q => q.2, fun q => ⟨(inL_1 (by omega)).mpr ha, q⟩⟩
  · intro a h1 h2
    exact decide_eq_false (fun q => by have := (inL_1 (m := m) h2).mp q.1; omega)
theorem rk_0 (hL : iL m) {a : Nat} (ha : a ≤ nL m 0) : fb_ct (pB m) a = fb_ct (brF m 0) a := fb_ct_cong (fun k hk => (pB_0 hL).1 k (by omega))
theorem rk_80 (hL : iL m) : fb_ct (pB m) 80 = cBr m 0 := by
  have l := (hL 0 (by decide)).2
  exact ct_lim l (pB_0 hL).1 (pB_0 hL).2
theorem rk_1 (hL : iL m) {a : Nat} (ha : a ≤ nL m 1) : fb_ct (pB m) (80 + a) = cBr m 0 + fb_ct (brF m 80) a := by
  rw [fb_ct_split, rk_80 hL, fb_ct_cong (p := fun k => pB m (80 + k)) (q := brF m 80) (fun k hk => (pB_1 hL).1 k (by omega))]
theorem rk_160 (hL : iL m) : fb_ct (pB m) 160 = cBr m 0 + cBr m 1 := by
  have l := (hL 1 (by decide)).2
  rw [show 160 = 80 + 80 by rfl, fb_ct_split, rk_80 hL, ct_lim (p := fun k => pB m (80 + k)) (q := brF m 80) l (pB_1 hL).1 (pB_1 hL).2]
  rfl
theorem pG_un (hm : inv m) {g : Nat} (hg : g < nG m) : pG m g = unE m g := by
  have b := inv_gd hm g hg
  unfold pG unE
  refine decide_eq_decide.mpr ⟨fun q => ⟨q.1, fun z => q.2 ?_⟩, fun q => ⟨q.1, fun z => q.2 ?_⟩⟩
  · have e : gDf m g = 0 := by
      have := congrArg Int32.toInt z
      rwa [zI_T (by omega) (by omega)] at this
    rw [e]; rfl
  · have e : gDf m g = 0 := by
      have := congrArg Int64.toInt z
      rwa [zL_T (by omega) (by omega)] at this
    rw [e]; rfl
theorem exN (hm : inv m) : (exG m (nG m)).1 = nEx m := by
  rw [(exG_at m (nG m)).1, rk_160 hm.L]
  unfold nEx
  rw [fb_ct_cong (fun g hg => pG_un hm hg)]
end RANK
/-- a sum over ranks is a sum over places -/
theorem si_rk {p : Nat → Bool} {F : Nat → Int} {G : Nat → Int} : ∀ n, (∀ a, a < n → p a = true → F (fb_ct p a) = G a) → fb_si F (fb_ct p n) = fb_si (fun a => if p a = true then G a else 0) n := by
  intro n
  induction n with
  | zero => intro _; rfl
  | succ n ih =>
    intro h
    have i := ih (fun a ha => h a (by omega))
    rw [fb_si_succ, fb_ct_succ]
    by_cases c : p n = true
    · rw [if_pos c, if_pos c, fb_si_succ, i, h n (by omega) c]
    · rw [if_neg c, if_neg c, Nat.add_zero, i]; omega
