/-! ===== seats, 6: the choice among the best, and what it rests on ===== -/
theorem no0 {i j : Nat} (h : i < 2147483648) : noP (-1) (-1) i j = false := decide_eq_false (fun q => nIm1 h q.1)
def pkF (f : Nat → Nat → Int32) (n T i t : Nat) : Int32 := gq (f i) (rk f (noP (-1) (-1)) n T (n - (i + 1))) (rk f (noP (-1) (-1)) n T (n - i) t) t T T
def grF (f : Nat → Nat → Int32) (n T : Nat) : Nat → Nat
  | 0 => 0
  | i + 1 => if pkF f n T i (grF f n T i) < 0 then grF f n T i else grF f n T i ||| 2 ^ nv (pkF f n T i (grF f n T i))
def pI (f : Nat → Nat → Int32) (n T i : Nat) : Int32 := pkF f n T i (grF f n T i)
abbrev chC (f : Nat → Nat → Int32) (n T i j : Nat) : Prop := gqC (f i) (rk f (noP (-1) (-1)) n T (n - (i + 1))) (rk f (noP (-1) (-1)) n T (n - i) (grF f n T i)) (grF f n T i) j
theorem gq_spec {f nx : Nat → Int32} {due : Int32} {t T : Nat} : ∀ k, k ≤ T → (gq f nx due t T k = -1 ∧ ∀ j, T - k ≤ j → j < T → ¬ gqC f nx due t j) ∨ ∃ j, T - k ≤ j ∧ j < T ∧ gqC f nx due t j ∧ (∀ j', T - k ≤ j' → j' < j → ¬ gqC f nx due t j') ∧ gq f nx due t T k = nI j
  | 0, _ => Or.inl ⟨rfl, fun j h1 h2 => by omega⟩
  | k + 1, h => by
    have ed : gq f nx due t T (k + 1) = if gqC f nx due t (T - (k + 1)) then nI (T - (k + 1)) else gq f nx due t T k := rfl
    by_cases c : gqC f nx due t (T - (k + 1))
    · rw [if_pos c] at ed
      exact Or.inr ⟨T - (k + 1), Nat.le_refl _, by omega, c, fun j' a b => by omega, ed⟩
    · rw [if_neg c] at ed
      rw [ed]
      have st : ∀ j, T - (k + 1) ≤ j → j = T - (k + 1) ∨ T - k ≤ j := fun j hj => by omega
      rcases gq_spec (f := f) (nx := nx) (due := due) (t := t) (T := T) k (by omega) with q | ⟨j, q1, q2, q3, q4, q5⟩
      · refine Or.inl ⟨q.1, fun j h1 h2 => ?_⟩
        rcases st j h1 with z | z
        · rw [z]; exact c
        · exact q.2 j z h2
      · refine Or.inr ⟨j, by omega, q2, q3, fun j' h1 h2 => ?_, q5⟩
        rcases st j' h1 with z | z
        · rw [z]; exact c
        · exact q4 j' z h2
theorem pI_spec {f : Nat → Nat → Int32} {n T i : Nat} : (pI f n T i = -1 ∧ ∀ j, j < T → ¬ chC f n T i j) ∨ ∃ j, j < T ∧ chC f n T i j ∧ (∀ j', j' < j → ¬ chC f n T i j') ∧ pI f n T i = nI j := by
  rcases gq_spec (f := f i) (nx := rk f (noP (-1) (-1)) n T (n - (i + 1))) (due := rk f (noP (-1) (-1)) n T (n - i) (grF f n T i)) (t := grF f n T i) (T := T) T (Nat.le_refl _) with q | ⟨j, q1, q2, q3, q4, q5⟩
  · exact Or.inl ⟨q.1, fun j h => q.2 j (by omega) h⟩
  · exact Or.inr ⟨j, q2, q3, fun j' h => q4 j' (by omega) h, q5⟩
theorem m1_neg : ((-1 : Int32) < 0) := by decide
theorem nI_nn {j : Nat} (h : j < 2147483648) : ¬ nI j < 0 := fun q => by
  have := t_lt.mp q
  rw [nI_T j h] at this
  have e0 : ((0 : Int32)).toInt = 0 := by decide
  omega
theorem gr_bit {f : Nat → Nat → Int32} {n T : Nat} (hT : T ≤ 14) {j : Nat} (hj : j < 14) : ∀ r, grF f n T r / 2 ^ j % 2 = 0 ↔ ∀ k, k < r → ¬ pI f n T k = nI j
  | 0 => ⟨fun _ k h => absurd h (Nat.not_lt_zero k), fun _ => bz_0 j⟩
  | r + 1 => by
    have ih := gr_bit (f := f) (n := n) hT hj r
    have ed : grF f n T (r + 1) = if pI f n T r < 0 then grF f n T r else grF f n T r ||| 2 ^ nv (pI f n T r) := rfl
    rcases pI_spec (f := f) (n := n) (T := T) (i := r) with q | ⟨x, q1, q2, q3, q4⟩
    · rw [ed, q.1, if_pos m1_neg, ih]
      exact ⟨fun h => al_next h (by rw [q.1]; exact fun z => nIm1 (r := j) (by omega) z.symm), fun h k hk => h k (by omega)⟩
    · rw [ed, q4, if_neg (nI_nn (by omega)), nv_nI (by omega), bz_or, ih]
      constructor
      · rintro ⟨h1, h2⟩
        exact al_next h1 (by rw [q4]; exact fun z => h2 (nI_inj (by omega) (by omega) z).symm)
      · intro h
        exact ⟨fun k hk => h k (by omega), fun z => h r (by omega) (by rw [q4, z])⟩
/-- what a chosen row brings -/
def pg (f : Nat → Nat → Int32) (n T k : Nat) : Int := if pI f n T k = -1 then 0 else (f k (nv (pI f n T k))).toInt
theorem chC_I {f : Nat → Nat → Int32} {n T i j : Nat} (h : smT f n T) (hi : i < n) (hj : j < T) : chC f n T i j ↔ (grF f n T i / 2 ^ j % 2 = 0 ∧ 0 < f i j ∧ (f i j).toInt + (rk f (noP (-1) (-1)) n T (n - (i + 1)) (grF f n T i ||| 2 ^ j)).toInt = (rk f (noP (-1) (-1)) n T (n - i) (grF f n T i)).toInt) := by
  have n14 := h.1
  have a := h.2.2 i j hi hj
  have b := rk_bd (no := noP (-1) (-1)) h (n - (i + 1)) (by omega) (grF f n T i ||| 2 ^ j)
  unfold chC gqC
  rw [t_eq, t_add (by omega) (by omega)]
theorem pg_step {f : Nat → Nat → Int32} {n T r : Nat} (h : smT f n T) (hr : r < n) : (rk f (noP (-1) (-1)) n T (n - r) (grF f n T r)).toInt = pg f n T r + (rk f (noP (-1) (-1)) n T (n - (r + 1)) (grF f n T (r + 1))).toInt := by
  have n14 := h.1
  have T14 := h.2.1
  have ed : grF f n T (r + 1) = if pI f n T r < 0 then grF f n T r else grF f n T r ||| 2 ^ nv (pI f n T r) := rfl
  rcases pI_spec (f := f) (n := n) (T := T) (i := r) with q | ⟨x, q1, q2, q3, q4⟩
  · have e1 : pg f n T r = 0 := if_pos q.1
    rw [e1, ed, q.1, if_pos m1_neg]
    have sp := (rk_step (f := f) (no := noP (-1) (-1)) (n := n) (T := T) (t := n - (r + 1)) (s := grF f n T r) h (by omega)).2.2
    rw [show n - (r + 1) + 1 = n - r by omega, show n - (n - r) = r by omega] at sp
    rcases sp with y | ⟨j, y1, y2, y3⟩
    · omega
    · exact absurd ((chC_I h hr y1).mpr ⟨y2.1, y2.2.1, y3.symm⟩) (q.2 j y1)
  · have e1 : pg f n T r = (f r x).toInt := by
      unfold pg
      rw [q4, if_neg (nIm1 (by omega)), nv_nI (by omega)]
    rw [e1, ed, q4, if_neg (nI_nn (by omega)), nv_nI (by omega)]
    exact ((chC_I h hr q1).mp q2).2.2.symm
theorem pg_all {f : Nat → Nat → Int32} {n T : Nat} (h : smT f n T) : ∀ r, r ≤ n → fb_si (pg f n T) r + (rk f (noP (-1) (-1)) n T (n - r) (grF f n T r)).toInt = (rk f (noP (-1) (-1)) n T n 0).toInt
  | 0, _ => by show 0 + (rk f (noP (-1) (-1)) n T n 0).toInt = _; omega
  | r + 1, hr => by
    have ih := pg_all h r (by omega)
    have st := pg_step h (r := r) (by omega)
    rw [fb_si_succ]
    omega
/-- a best seating that keeps to the choices so far brings what they bring -/
theorem gn_pg {f : Nat → Nat → Int32} {n T r : Nat} (h : smT f n T) (hr : r ≤ n) {σ : Nat → Nat} (hi : ∀ i i', i < n → i' < n → σ i = σ i' → i = i') (hs : ∀ k j, k < r → j < T → pI f n T k = nI j → σ k = j) (ht : (rk f (noP (-1) (-1)) n T n 0).toInt ≤ fb_si (gn f (noP (-1) (-1)) T σ) n) : ∀ k, k ≤ r → ∀ k', k' < k → gn f (noP (-1) (-1)) T σ k' = pg f n T k'
  | 0, _, k', hk => absurd hk (Nat.not_lt_zero _)
  | k + 1, hk, k', hk' => by
    have n14 := h.1
    have T14 := h.2.1
    have ih := gn_pg h hr hi hs ht k (by omega)
    rcases Nat.lt_or_ge k' k with q | q
    · exact ih k' q
    · have ek : k' = k := by omega
      subst ek
      rcases pI_spec (f := f) (n := n) (T := T) (i := k') with y | ⟨x, y1, y2, y3, y4⟩
      · have e1 : pg f n T k' = 0 := if_pos y.1
        rw [e1]
        by_cases g : σ k' < T ∧ 0 < f k' (σ k') ∧ noP (-1) (-1) k' (σ k') = false
        · exfalso
          have eg : gn f (noP (-1) (-1)) T σ k' = (f k' (σ k')).toInt := if_pos g
          have tk : ∀ i, i < n → k' ≤ i → (σ i < T → grF f n T k' / 2 ^ σ i % 2 = 0) := by
            intro i hin hki hlt
            refine (gr_bit T14 (by omega) k').mpr (fun a ha ea => ?_)
            have := hs a (σ i) (by omega) hlt ea
            have := hi a i (by omega) hin this
            omega
          have ge := rk_ge (f := f) (no := noP (-1) (-1)) h (σ := σ) (n - (k' + 1)) (by omega) (grF f n T k' ||| 2 ^ σ k') (fun i a b => by
            by_cases gi : σ i < T
            · left
              exact bz_or.mpr ⟨tk i b (by omega) gi, fun z => by
                have := hi i k' b (by omega) z
                omega⟩
            · right
              exact if_neg (fun z => gi z.1)) (fun i i' a1 a2 a3 a4 => hi i i' a2 a4)
          have sa := suT_all (gn f (noP (-1) (-1)) T σ) n (n - (k' + 1)) (by omega)
          rw [show n - (n - (k' + 1)) = k' + 1 by omega, fb_si_succ] at sa
          have sp := fb_si_ext (f := gn f (noP (-1) (-1)) T σ) (g := pg f n T) (n := k') ih
          have pa := pg_all h k' (by omega)
          have st := (rk_step (f := f) (no := noP (-1) (-1)) (n := n) (T := T) (t := n - (k' + 1)) (s := grF f n T k') h (by omega)).1 (σ k') g.1
          rw [show n - (k' + 1) + 1 = n - k' by omega, show n - (n - k') = k' by omega] at st
          have st2 := st ⟨tk k' (by omega) (Nat.le_refl _) g.1, g.2⟩
          refine y.2 (σ k') g.1 ((chC_I h (by omega) g.1).mpr ⟨tk k' (by omega) (Nat.le_refl _) g.1, g.2.1, ?_⟩)
          omega
        · exact if_neg g
      · have e2 := hs k' x (by omega) y1 y4
        have e1 : pg f n T k' = (f k' x).toInt := by
          unfold pg
          rw [y4, if_neg (nIm1 (by omega)), nv_nI (by omega)]
        have y2' := (chC_I h (by omega) y1).mp y2
        rw [e1]
        show (if σ k' < T ∧ 0 < f k' (σ k') ∧ noP (-1) (-1) k' (σ k') = false then (f k' (σ k')).toInt else 0) = _
        rw [e2, if_pos ⟨y1, y2'.2.1, no0 (by omega)⟩]
theorem si_le {f g : Nat → Int} : ∀ {n : Nat}, (∀ k, k < n → f k ≤ g k) → fb_si f n ≤ fb_si g n
  | 0, _ => Int.le_refl _
  | n + 1, h => by
    rw [fb_si_succ, fb_si_succ]
    have a := si_le (f := f) (g := g) (n := n) (fun k hk => h k (by omega))
    have b := h n (by omega)
    omega
theorem si_ext0 {f : Nat → Int} {m : Nat} : ∀ {n : Nat}, m ≤ n → (∀ k, m ≤ k → k < n → f k = 0) → fb_si f n = fb_si f m
  | 0, h, _ => by rw [show m = 0 by omega]
  | n + 1, h, h0 => by
    rcases Nat.lt_or_ge n m with q | q
    · rw [show m = n + 1 by omega]
    · rw [fb_si_succ, h0 n q (by omega), si_ext0 q (fun k a b => h0 k a (by omega))]; omega
theorem suT_ind {u : Nat → Int} {m : Nat} : ∀ t, t ≤ m → fb_si (fun i => if m - t ≤ i then u i else 0) m = suT u m t
  | 0, _ => by
    show _ = (0 : Int)
    have := si_ext0 (f := fun i => if m - 0 ≤ i then u i else 0) (m := 0) (n := m) (Nat.zero_le _) (fun k _ hk => if_neg (by omega))
    rw [this]; rfl
  | t + 1, h => by
    have ih := suT_ind (u := u) (m := m) t (by omega)
    have e : suT u m (t + 1) = suT u m t + u (m - (t + 1)) := rfl
    have up := si_upd (f := fun i => if m - (t + 1) ≤ i then u i else 0) (g := fun i => if m - t ≤ i then u i else 0) (i := m - (t + 1)) (n := m) (by omega) (fun k hk hne => by
      show (if m - (t + 1) ≤ k then u k else 0) = (if m - t ≤ k then u k else 0)
      by_cases z : m - t ≤ k
      · rw [if_pos z, if_pos (by omega)]
      · rw [if_neg z, if_neg (by omega)])
    have a1 : (if m - t ≤ m - (t + 1) then u (m - (t + 1)) else 0) = 0 := if_neg (by omega)
    have a2 : (if m - (t + 1) ≤ m - (t + 1) then u (m - (t + 1)) else 0) = u (m - (t + 1)) := if_pos (Nat.le_refl _)
    have up' : fb_si (fun i => if m - (t + 1) ≤ i then u i else 0) m + (if m - t ≤ m - (t + 1) then u (m - (t + 1)) else 0) = fb_si (fun i => if m - t ≤ i then u i else 0) m + (if m - (t + 1) ≤ m - (t + 1) then u (m - (t + 1)) else 0) := up
    rw [a1, a2, ih] at up'
    omega
theorem ex_min {v : Nat → Int} {B : Nat → Bool} : ∀ {n : Nat}, (∃ j, j < n ∧ B j = true) → ∃ j0, j0 < n ∧ B j0 = true ∧ ∀ j, j < n → B j = true → v j0 ≤ v j
  | 0, ⟨j, h, _⟩ => absurd h (Nat.not_lt_zero j)
  | n + 1, ⟨j, hj, hb⟩ => by
    by_cases q : ∃ j, j < n ∧ B j = true
    · obtain ⟨j0, a1, a2, a3⟩ := ex_min (v := v) q
      by_cases z : B n = true ∧ v n < v j0
      · refine ⟨n, by omega, z.1, fun x hx hB => ?_⟩
        rcases Nat.lt_or_ge x n with y | y
        · have := a3 x y hB; omega
        · have : x = n := by omega
          subst this; exact Int.le_refl _
      · refine ⟨j0, by omega, a2, fun x hx hB => ?_⟩
        rcases Nat.lt_or_ge x n with y | y
        · exact a3 x y hB
        · have : x = n := by omega
          subst this
          have : ¬ v x < v j0 := fun w => z ⟨hB, w⟩
          omega
    · have ej : j = n := by
        rcases Nat.lt_or_ge j n with y | y
        · exact absurd ⟨j, y, hb⟩ q
        · omega
      subst ej
      refine ⟨j, by omega, hb, fun x hx hB => ?_⟩
      rcases Nat.lt_or_ge x j with y | y
      · exact absurd ⟨x, y, hB⟩ q
      · have : x = j := by omega
        subst this; exact Int.le_refl _
theorem si_lin {B : Nat → Bool} {v : Nat → Int} {τ : Int} : ∀ n, fb_si (fun j => if B j = true then v j + τ else 0) n = fb_si (fun j => if B j = true then v j else 0) n + τ * fb_si (fun j => if B j = true then 1 else 0) n
  | 0 => by
    show (0 : Int) = 0 + τ * 0
    simp
  | n + 1 => by
    rw [fb_si_succ, fb_si_succ, fb_si_succ, si_lin n, Int.mul_add]
    by_cases q : B n = true
    · rw [if_pos q, if_pos q, if_pos q]; omega
    · rw [if_neg q, if_neg q, if_neg q]; omega
/-- prices that cover rows A and columns B, as many of each, bound the best of such rows and columns -/
theorem dual_le {f : Nat → Nat → Int32} {no : Nat → Nat → Bool} {n0 T n t s : Nat} (h : smT f n0 T) (h0 : n0 ≤ n) (hT : T ≤ n) (ht : t ≤ n0) {A B : Nat → Bool} {w : Nat → Nat → Int} {u v : Nat → Int} (hA : ∀ i, n0 - t ≤ i → i < n0 → A i = true) (hB : ∀ j, j < T → s / 2 ^ j % 2 = 0 → B j = true) (hw : ∀ i j, i < n → j < n → 0 ≤ w i j) (hf : ∀ i j, i < n0 → j < T → no i j = false → (f i j).toInt ≤ w i j) (hc : ∀ i j, i < n → j < n → A i = true → B j = true → w i j ≤ u i + v j) (hn : ∃ j, j < n ∧ B j = true) (hm : fb_si (fun i => if A i = true then 1 else 0) n = fb_si (fun j => if B j = true then 1 else 0) n) : (rk f no n0 T t s).toInt ≤ fb_si (fun i => if A i = true then u i else 0) n + fb_si (fun j => if B j = true then v j else 0) n := by
  obtain ⟨j0, a1, a2, a3⟩ := ex_min (v := v) hn
  have le := rk_le (f := f) (no := no) h (u := fun i => u i + v j0) (v := fun j => v j + -(v j0)) t ht s (fun i p q => by
    have x1 := hc i j0 (by omega) a1 (hA i p q) a2
    have x2 := hw i j0 (by omega) a1
    show 0 ≤ u i + v j0
    omega) (fun j p q => by
    have := a3 j (by omega) (hB j p q)
    show 0 ≤ v j + -(v j0)
    omega) (fun i p q j p2 q2 hno => by
    have x1 := hc i j (by omega) (by omega) (hA i p q) (hB j p2 q2)
    have x2 := hf i j (by omega) p2 hno
    show (f i j).toInt ≤ (u i + v j0) + (v j + -(v j0))
    omega)
  have s1 : suT (fun i => u i + v j0) n0 t ≤ fb_si (fun i => if A i = true then u i + v j0 else 0) n := by
    rw [← suT_ind t ht]
    have e := si_ext0 (f := fun i => if n0 - t ≤ i ∧ i < n0 then u i + v j0 else 0) (m := n0) (n := n) h0 (fun k a b => if_neg (by omega))
    have e2 := fb_si_ext (f := fun i => if n0 - t ≤ i ∧ i < n0 then u i + v j0 else 0) (g := fun i => if n0 - t ≤ i then u i + v j0 else 0) (n := n0) (fun k hk => by
      show (if n0 - t ≤ k ∧ k < n0 then u k + v j0 else 0) = (if n0 - t ≤ k then u k + v j0 else 0)
      by_cases z : n0 - t ≤ k
      · rw [if_pos ⟨z, hk⟩, if_pos z]
      · rw [if_neg (fun y => z y.1), if_neg z])
    rw [← e2, ← e]
    refine si_le (fun k hk => ?_)
    show (if n0 - t ≤ k ∧ k < n0 then u k + v j0 else 0) ≤ (if A k = true then u k + v j0 else 0)
    by_cases z : n0 - t ≤ k ∧ k < n0
    · rw [if_pos z, if_pos (hA k z.1 z.2)]; exact Int.le_refl _
    · rw [if_neg z]
      by_cases y : A k = true
      · rw [if_pos y]
        have x1 := hc k j0 hk a1 y a2
        have x2 := hw k j0 hk a1
        omega
      · rw [if_neg y]; exact Int.le_refl _
  have s2 : svT (fun j => v j + -(v j0)) T s ≤ fb_si (fun j => if B j = true then v j + -(v j0) else 0) n := by
    unfold svT
    have e := si_ext0 (f := fun j => if j < T ∧ s / 2 ^ j % 2 = 0 then v j + -(v j0) else 0) (m := T) (n := n) hT (fun k a b => if_neg (by omega))
    have e2 := fb_si_ext (f := fun j => if j < T ∧ s / 2 ^ j % 2 = 0 then v j + -(v j0) else 0) (g := fun j => if s / 2 ^ j % 2 = 0 then v j + -(v j0) else 0) (n := T) (fun k hk => by
      show (if k < T ∧ s / 2 ^ k % 2 = 0 then v k + -(v j0) else 0) = (if s / 2 ^ k % 2 = 0 then v k + -(v j0) else 0)
      by_cases z : s / 2 ^ k % 2 = 0
      · rw [if_pos ⟨hk, z⟩, if_pos z]
      · rw [if_neg (fun y => z y.2), if_neg z])
    rw [← e2, ← e]
    refine si_le (fun k hk => ?_)
    show (if k < T ∧ s / 2 ^ k % 2 = 0 then v k + -(v j0) else 0) ≤ (if B k = true then v k + -(v j0) else 0)
    by_cases z : k < T ∧ s / 2 ^ k % 2 = 0
    · rw [if_pos z, if_pos (hB k z.1 z.2)]; exact Int.le_refl _
    · rw [if_neg z]
      by_cases y : B k = true
      · rw [if_pos y]
        have := a3 k hk y
        omega
      · rw [if_neg y]; exact Int.le_refl _
  have l1 := si_lin (B := A) (v := u) (τ := v j0) n
  have l2 := si_lin (B := B) (v := v) (τ := -(v j0)) n
  rw [Int.neg_mul] at l2
  rw [hm] at l1
  omega
