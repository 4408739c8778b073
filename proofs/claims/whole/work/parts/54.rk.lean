/-! ===== the reckoned best: bounds from above and from below ===== -/
theorem bz_tb {s k : Nat} : s / 2 ^ k % 2 = 0 ↔ s.testBit k = false := by
  rw [Nat.testBit_eq_decide_div_mod_eq, decide_eq_false_iff_not]
  generalize s / 2 ^ k = x
  omega
theorem bz_or {s j k : Nat} : (s ||| 2 ^ j) / 2 ^ k % 2 = 0 ↔ (s / 2 ^ k % 2 = 0 ∧ k ≠ j) := by
  rw [bz_tb, bz_tb, Nat.testBit_or, Nat.testBit_two_pow]
  constructor
  · intro h
    have h1 := Bool.or_eq_false_iff.mp h
    exact ⟨h1.1, fun q => by subst q; simp at h1⟩
  · rintro ⟨h1, h2⟩
    rw [h1]
    simp
    exact fun q => h2 q.symm
theorem bz_0 (k : Nat) : 0 / 2 ^ k % 2 = 0 := by rw [Nat.zero_div]
abbrev rkC (f : Nat → Int32) (no : Nat → Bool) (s j : Nat) : Prop := s / 2 ^ j % 2 = 0 ∧ 0 < f j ∧ no j = false
/-- the greatest of the ways on -/
theorem rkJ_spec {f nx : Nat → Int32} {no : Nat → Bool} {s : Nat} : ∀ J, (∀ j, j < J → rkC f no s j → f j + nx (s ||| 2 ^ j) ≤ rkJ f nx no s J) ∧ nx s ≤ rkJ f nx no s J ∧ (rkJ f nx no s J = nx s ∨ ∃ j, j < J ∧ rkC f no s j ∧ rkJ f nx no s J = f j + nx (s ||| 2 ^ j))
  | 0 => ⟨fun j h => absurd h (Nat.not_lt_zero j), Int32.le_refl _, Or.inl rfl⟩
  | J + 1 => by
    obtain ⟨h1, h2, h3⟩ := rkJ_spec (f := f) (nx := nx) (no := no) (s := s) J
    have ed : rkJ f nx no s (J + 1) = if s / 2 ^ J % 2 = 0 ∧ 0 < f J ∧ no J = false then (if rkJ f nx no s J < f J + nx (s ||| 2 ^ J) then f J + nx (s ||| 2 ^ J) else rkJ f nx no s J) else rkJ f nx no s J := rfl
    have keep : ∀ v, rkJ f nx no s (J + 1) = v → rkJ f nx no s J ≤ v → (rkC f no s J → f J + nx (s ||| 2 ^ J) ≤ v) → ∀ j, j < J + 1 → rkC f no s j → f j + nx (s ||| 2 ^ j) ≤ rkJ f nx no s (J + 1) := by
      intro v e hv hJ j hj hc
      rw [e]
      rcases Nat.lt_or_ge j J with q | q
      · exact Int32.le_trans (h1 j q hc) hv
      · have : j = J := by omega
        subst this
        exact hJ hc
    by_cases c : s / 2 ^ J % 2 = 0 ∧ 0 < f J ∧ no J = false
    · rw [if_pos c] at ed
      by_cases g : rkJ f nx no s J < f J + nx (s ||| 2 ^ J)
      · rw [if_pos g] at ed
        have lv := Int32.le_of_lt g
        exact ⟨keep _ ed lv (fun _ => Int32.le_refl _), by rw [ed]; exact Int32.le_trans h2 lv, Or.inr ⟨J, Nat.lt_succ_self _, c, ed⟩⟩
      · rw [if_neg g] at ed
        refine ⟨keep _ ed (Int32.le_refl _) (fun _ => iNL.mp g), by rw [ed]; exact h2, ?_⟩
        rw [ed]
        rcases h3 with q | ⟨j, q1, q2, q3⟩
        · exact Or.inl q
        · exact Or.inr ⟨j, by omega, q2, q3⟩
    · rw [if_neg c] at ed
      refine ⟨keep _ ed (Int32.le_refl _) (fun q => absurd q c), by rw [ed]; exact h2, ?_⟩
      rw [ed]
      rcases h3 with q | ⟨j, q1, q2, q3⟩
      · exact Or.inl q
      · exact Or.inr ⟨j, by omega, q2, q3⟩
/-- a table whose entries are small -/
def smT (f : Nat → Nat → Int32) (n T : Nat) : Prop := n ≤ 14 ∧ T ≤ 14 ∧ ∀ i j, i < n → j < T → 0 ≤ (f i j).toInt ∧ (f i j).toInt ≤ 230
theorem rk_bd {f : Nat → Nat → Int32} {no : Nat → Nat → Bool} {n T : Nat} (h : smT f n T) : ∀ t, t ≤ n → ∀ s, 0 ≤ (rk f no n T t s).toInt ∧ (rk f no n T t s).toInt ≤ 230 * t
  | 0, _, s => by
    have : (rk f no n T 0 s).toInt = 0 := by show (nI 0).toInt = 0; decide
    omega
  | t + 1, ht, s => by
    have ih := rk_bd (no := no) h t (by omega)
    have sp := rkJ_spec (f := f (n - (t + 1))) (nx := rk f no n T t) (no := no (n - (t + 1))) (s := s) T
    have ed : rk f no n T (t + 1) s = rkJ (f (n - (t + 1))) (rk f no n T t) (no (n - (t + 1))) s T := rfl
    rw [ed]
    have i0 := ih s
    have n14 := h.1
    rcases sp.2.2 with q | ⟨j, q1, q2, q3⟩
    · rw [q]; omega
    · rw [q3]
      have a := h.2.2 (n - (t + 1)) j (by omega) q1
      have b := ih (s ||| 2 ^ j)
      rw [t_add (by omega) (by omega)]
      omega
/-- one step, in numbers -/
theorem rk_step {f : Nat → Nat → Int32} {no : Nat → Nat → Bool} {n T t s : Nat} (h : smT f n T) (ht : t + 1 ≤ n) : (∀ j, j < T → rkC (f (n - (t + 1))) (no (n - (t + 1))) s j → (f (n - (t + 1)) j).toInt + (rk f no n T t (s ||| 2 ^ j)).toInt ≤ (rk f no n T (t + 1) s).toInt) ∧ (rk f no n T t s).toInt ≤ (rk f no n T (t + 1) s).toInt ∧ ((rk f no n T (t + 1) s).toInt = (rk f no n T t s).toInt ∨ ∃ j, j < T ∧ rkC (f (n - (t + 1))) (no (n - (t + 1))) s j ∧ (rk f no n T (t + 1) s).toInt = (f (n - (t + 1)) j).toInt + (rk f no n T t (s ||| 2 ^ j)).toInt) := by
  have sp := rkJ_spec (f := f (n - (t + 1))) (nx := rk f no n T t) (no := no (n - (t + 1))) (s := s) T
  have ed : rk f no n T (t + 1) s = rkJ (f (n - (t + 1))) (rk f no n T t) (no (n - (t + 1))) s T := rfl
  rw [ed]
  have n14 := h.1
  have ad : ∀ j, j < T → (f (n - (t + 1)) j + rk f no n T t (s ||| 2 ^ j)).toInt = (f (n - (t + 1)) j).toInt + (rk f no n T t (s ||| 2 ^ j)).toInt := by
    intro j hj
    have a := h.2.2 (n - (t + 1)) j (by omega) hj
    have b := rk_bd (no := no) h t (by omega) (s ||| 2 ^ j)
    exact t_add (by omega) (by omega)
  refine ⟨fun j hj hc => ?_, t_le.mp sp.2.1, ?_⟩
  · rw [← ad j hj]; exact t_le.mp (sp.1 j hj hc)
  · rcases sp.2.2 with q | ⟨j, q1, q2, q3⟩
    · left; rw [q]
    · right; exact ⟨j, q1, q2, by rw [q3, ad j q1]⟩
/-- the prices of the columns that are not taken -/
def svT (v : Nat → Int) (T s : Nat) : Int := fb_si (fun j => if s / 2 ^ j % 2 = 0 then v j else 0) T
def suT (u : Nat → Int) (n t : Nat) : Int := fb_si (fun k => u (n - (k + 1))) t
theorem svT_take {v : Nat → Int} {T s j : Nat} (hj : j < T) (h0 : s / 2 ^ j % 2 = 0) : svT v T s = v j + svT v T (s ||| 2 ^ j) := by
  have e := si_upd (f := fun k => if s / 2 ^ k % 2 = 0 then v k else 0) (g := fun k => if (s ||| 2 ^ j) / 2 ^ k % 2 = 0 then v k else 0) (i := j) hj (fun k hk hne => by
    show (if s / 2 ^ k % 2 = 0 then v k else 0) = (if (s ||| 2 ^ j) / 2 ^ k % 2 = 0 then v k else 0)
    by_cases q : s / 2 ^ k % 2 = 0
    · rw [if_pos q, if_pos (bz_or.mpr ⟨q, hne⟩)]
    · rw [if_neg q, if_neg (fun z => q (bz_or.mp z).1)])
  have e1 : (if (s ||| 2 ^ j) / 2 ^ j % 2 = 0 then v j else 0) = 0 := if_neg (fun z => (bz_or.mp z).2 rfl)
  have e2 : (if s / 2 ^ j % 2 = 0 then v j else 0) = v j := if_pos h0
  have e' : fb_si (fun k => if s / 2 ^ k % 2 = 0 then v k else 0) T + (if (s ||| 2 ^ j) / 2 ^ j % 2 = 0 then v j else 0) = fb_si (fun k => if (s ||| 2 ^ j) / 2 ^ k % 2 = 0 then v k else 0) T + (if s / 2 ^ j % 2 = 0 then v j else 0) := e
  rw [e1, e2] at e'
  show fb_si (fun k => if s / 2 ^ k % 2 = 0 then v k else 0) T = v j + fb_si (fun k => if (s ||| 2 ^ j) / 2 ^ k % 2 = 0 then v k else 0) T
  omega
/-- prices that cover the table cover the best -/
theorem rk_le {f : Nat → Nat → Int32} {no : Nat → Nat → Bool} {n T : Nat} (h : smT f n T) {u v : Nat → Int} : ∀ t, t ≤ n → ∀ s, (∀ i, n - t ≤ i → i < n → 0 ≤ u i) → (∀ j, j < T → s / 2 ^ j % 2 = 0 → 0 ≤ v j) → (∀ i, n - t ≤ i → i < n → ∀ j, j < T → s / 2 ^ j % 2 = 0 → no i j = false → (f i j).toInt ≤ u i + v j) → (rk f no n T t s).toInt ≤ suT u n t + svT v T s
  | 0, _, s, _, hv, _ => by
    have e : (rk f no n T 0 s).toInt = 0 := by show (nI 0).toInt = 0; decide
    have e2 : suT u n 0 = 0 := rfl
    have e3 : 0 ≤ svT v T s := by
      unfold svT
      have key : ∀ N, N ≤ T → 0 ≤ fb_si (fun j => if s / 2 ^ j % 2 = 0 then v j else 0) N := by
        intro N
        induction N with
        | zero => intro _; exact Int.le_refl _
        | succ N ih =>
          intro hN
          rw [fb_si_succ]
          have a := ih (by omega)
          by_cases q : s / 2 ^ N % 2 = 0
          · rw [if_pos q]
            have := hv N (by omega) q
            omega
          · rw [if_neg q]; omega
      exact key T (Nat.le_refl _)
    omega
  | t + 1, ht, s, hu, hv, hf => by
    have sp := (rk_step (no := no) (s := s) h ht).2.2
    have es : suT u n (t + 1) = suT u n t + u (n - (t + 1)) := rfl
    have u0 := hu (n - (t + 1)) (Nat.le_refl _) (by omega)
    rcases sp with q | ⟨j, q1, q2, q3⟩
    · have ih := rk_le (no := no) h t (by omega) s (fun i a b => hu i (by omega) b) hv (fun i a b => hf i (by omega) b)
      omega
    · have ih := rk_le (no := no) h t (by omega) (s ||| 2 ^ j) (fun i a b => hu i (by omega) b) (fun k hk hz => hv k hk (bz_or.mp hz).1) (fun i a b k hk hz => hf i (by omega) b k hk (bz_or.mp hz).1)
      have st := svT_take (v := v) q1 q2.1
      have fe := hf (n - (t + 1)) (Nat.le_refl _) (by omega) j q1 q2.1 q2.2.2
      omega
/-- what a row gains in a seating -/
def gn (f : Nat → Nat → Int32) (no : Nat → Nat → Bool) (T : Nat) (σ : Nat → Nat) (i : Nat) : Int := if σ i < T ∧ 0 < f i (σ i) ∧ no i (σ i) = false then (f i (σ i)).toInt else 0
theorem rk_ge {f : Nat → Nat → Int32} {no : Nat → Nat → Bool} {n T : Nat} (h : smT f n T) {σ : Nat → Nat} : ∀ t, t ≤ n → ∀ s, (∀ i, n - t ≤ i → i < n → s / 2 ^ σ i % 2 = 0 ∨ gn f no T σ i = 0) → (∀ i i', n - t ≤ i → i < n → n - t ≤ i' → i' < n → σ i = σ i' → i = i') → suT (gn f no T σ) n t ≤ (rk f no n T t s).toInt
  | 0, _, s, _, _ => by
    have e : (rk f no n T 0 s).toInt = 0 := by show (nI 0).toInt = 0; decide
    have e2 : suT (gn f no T σ) n 0 = 0 := rfl
    omega
  | t + 1, ht, s, hs, hi => by
    have sp := rk_step (no := no) (s := s) h ht
    have es : suT (gn f no T σ) n (t + 1) = suT (gn f no T σ) n t + gn f no T σ (n - (t + 1)) := rfl
    have z := hs (n - (t + 1)) (Nat.le_refl _) (by omega)
    by_cases g : σ (n - (t + 1)) < T ∧ 0 < f (n - (t + 1)) (σ (n - (t + 1))) ∧ no (n - (t + 1)) (σ (n - (t + 1))) = false
    · have eg : gn f no T σ (n - (t + 1)) = (f (n - (t + 1)) (σ (n - (t + 1)))).toInt := if_pos g
      have hz : s / 2 ^ σ (n - (t + 1)) % 2 = 0 := by
        rcases z with y | y
        · exact y
        · rw [eg] at y
          have := t_lt.mp g.2.1
          have e0 : ((0 : Int32)).toInt = 0 := by decide
          omega
      have ih := rk_ge (no := no) h (σ := σ) t (by omega) (s ||| 2 ^ σ (n - (t + 1))) (fun i a b => by
        rcases hs i (by omega) b with y | y
        · left
          refine bz_or.mpr ⟨y, fun q => ?_⟩
          have := hi i (n - (t + 1)) (by omega) b (Nat.le_refl _) (by omega) q
          omega
        · exact Or.inr y) (fun i i' a1 a2 a3 a4 => hi i i' (by omega) a2 (by omega) a4)
      have := sp.1 (σ (n - (t + 1))) g.1 ⟨hz, g.2⟩
      omega
    · have eg : gn f no T σ (n - (t + 1)) = 0 := if_neg g
      have ih := rk_ge (no := no) h (σ := σ) t (by omega) s (fun i a b => hs i (by omega) b) (fun i i' a1 a2 a3 a4 => hi i i' (by omega) a2 (by omega) a4)
      have := sp.2.1
      omega
theorem suT_all (g : Nat → Int) : ∀ n t, t ≤ n → fb_si g (n - t) + suT g n t = fb_si g n
  | n, 0, _ => by show fb_si g n + 0 = _; omega
  | n, t + 1, h => by
    have ih := suT_all g n t (by omega)
    have e : suT g n (t + 1) = suT g n t + g (n - (t + 1)) := rfl
    have e2 : fb_si g (n - t) = fb_si g (n - (t + 1)) + g (n - (t + 1)) := by
      rw [show n - t = n - (t + 1) + 1 by omega]; rfl
    omega
theorem suT_full (g : Nat → Int) (n : Nat) : suT g n n = fb_si g n := by
  have := suT_all g n n (Nat.le_refl _)
  rw [Nat.sub_self] at this
  have e : fb_si g 0 = 0 := rfl
  omega
