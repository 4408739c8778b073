/-! ===== explanation, 3: what the model finds ===== -/
abbrev subK (S : Nat → Bool) (k N : Nat) : Prop := ∀ t, S t = true → k ≤ t ∧ t < N
theorem ct_rng {S : Nat → Bool} {k N : Nat} (h : subK S k N) (hk : k ≤ N) : fb_ct S N ≤ N - k := by
  have e := fb_ct_split S k (N - k)
  rw [show k + (N - k) = N by omega] at e
  have z : fb_ct S k = 0 := fb_ct_zero.mpr (fun t ht => by
    cases q : S t with
    | false => rfl
    | true => have := h t q; omega)
  have l := fb_ct_le (fun j => S (k + j)) (N - k)
  omega
theorem bit_hi {S : Nat → Bool} {k N : Nat} (hN : N ≤ 18) (h : subK S (k + 1) N) (hk : k < 18) : bitO S N < 2 ^ (17 - k) := by
  refine Nat.lt_pow_two_of_testBit _ (fun i hi => ?_)
  rw [bitO_t N hN]
  by_cases q : i ≤ 17 ∧ 17 < i + N
  · rw [decide_eq_true q, Bool.true_and]
    cases s : S (17 - i) with
    | false => rfl
    | true => have := h _ s; omega
  · rw [decide_eq_false q, Bool.false_and]
theorem bit_add {S S' : Nat → Bool} {N x : Nat} (hN : N ≤ 18) (hx : x < N) (h0 : S x = false) (h1 : S' x = true) (h : ∀ t, t ≠ x → S' t = S t) : bitO S' N = bitO S N + 2 ^ (17 - x) := by
  have a := ssm_add (g := fun t => ((2 ^ (17 - t) : Nat) : Int)) hx h0 h1 h
  have b := (bitO_s (S := S) N hN).2.2
  have c := (bitO_s (S := S') N hN).2.2
  omega
theorem ct_add {S S' : Nat → Bool} {N x : Nat} (hx : x < N) (h0 : S x = false) (h1 : S' x = true) (h : ∀ t, t ≠ x → S' t = S t) : fb_ct S' N = fb_ct S N + 1 := ct_in hx h0 h1 h
/-- without one thing -/
theorem sub_rm {S : Nat → Bool} {k N : Nat} (h : subK S k N) : subK (fun t => if t = k then false else S t) (k + 1) N := fun t ht => by
  have ht' : (if t = k then false else S t) = true := ht
  by_cases q : t = k
  · rw [if_pos q] at ht'; exact absurd ht' Bool.false_ne_true
  · rw [if_neg q] at ht'
    have := h t ht'
    omega
/-- a set of l things from k on with sum w, its number M, and none with greater bits -/
abbrev fnY (F : Nat → Int) (N l k : Nat) (w : Int) (S : Nat → Bool) (M : Nat) : Prop := (subK S k N) ∧ (fb_ct S N = l) ∧ (ssm F S N = w) ∧ (M < 262144 ∧ ∀ t, t < 18 → M.testBit t = S t) ∧ (∀ S', subK S' k N → fb_ct S' N = l → ssm F S' N = w → bitO S' N ≤ bitO S N)
theorem fnY.s {F : Nat → Int} {N l k : Nat} {w : Int} {S : Nat → Bool} {M : Nat} (h_ : fnY F N l k w S M) : subK S k N := h_.1
theorem fnY.c {F : Nat → Int} {N l k : Nat} {w : Int} {S : Nat → Bool} {M : Nat} (h_ : fnY F N l k w S M) : fb_ct S N = l := h_.2.1
theorem fnY.w {F : Nat → Int} {N l k : Nat} {w : Int} {S : Nat → Bool} {M : Nat} (h_ : fnY F N l k w S M) : ssm F S N = w := h_.2.2.1
theorem fnY.m {F : Nat → Int} {N l k : Nat} {w : Int} {S : Nat → Bool} {M : Nat} (h_ : fnY F N l k w S M) : M < 262144 ∧ ∀ t, t < 18 → M.testBit t = S t := h_.2.2.2.1
theorem fnY.b {F : Nat → Int} {N l k : Nat} {w : Int} {S : Nat → Bool} {M : Nat} (h_ : fnY F N l k w S M) : ∀ S', subK S' k N → fb_ct S' N = l → ssm F S' N = w → bitO S' N ≤ bitO S N := h_.2.2.2.2
def fnN (F : Nat → Int) (N l k : Nat) (w : Int) : Prop := ∀ S, subK S k N → fb_ct S N = l → ¬ ssm F S N = w
def fnR_ (F : Nat → Int) (N l k : Nat) (w : Int) (r : Int32) : Prop := (r < 0 ∧ fnN F N l k w) ∨ ∃ S M, r = nI M ∧ fnY F N l k w S M
/-- with the first thing k -/
theorem fn_cons {F : Nat → Int} {N l k : Nat} {w : Int} {S : Nat → Bool} {M : Nat} (hN : N ≤ 18) (hk : k < N) (h : fnY F N l (k + 1) (w - F k) S M) : fnY F N (l + 1) k w (fun t => if t = k then true else S t) (M ||| 2 ^ k) := by
  have f0 : S k = false := by
    cases q : S k with
    | false => rfl
    | true => have := h.s k q; omega
  have ne : ∀ t, t ≠ k → (fun t => if t = k then true else S t) t = S t := fun t ht => if_neg ht
  have tk : (fun t => if t = k then true else S t) k = true := if_pos rfl
  have a1 := ssm_add (g := F) (S := S) (S' := fun t => if t = k then true else S t) hk f0 tk ne
  have a2 := ct_add (S := S) (S' := fun t => if t = k then true else S t) hk f0 tk ne
  have a3 := bit_add (S := S) (S' := fun t => if t = k then true else S t) hN hk f0 tk ne
  refine ⟨fun t ht => ?_, by rw [a2, h.c], by rw [a1, h.w]; omega, ⟨?_, fun t ht => ?_⟩, fun S' s1 s2 s3 => ?_⟩
  · by_cases q : t = k
    · omega
    · have ht' : (if t = k then true else S t) = true := ht
      rw [if_neg q] at ht'
      have := h.s t ht'
      omega
  · have e : (262144 : Nat) = 2 ^ 18 := by decide
    have hm := h.m.1
    rw [e] at hm ⊢
    exact Nat.or_lt_two_pow hm (Nat.pow_lt_pow_right (by decide) (by omega))
  · rw [Nat.testBit_or, h.m.2 t ht, Nat.testBit_two_pow]
    show (S t || decide (k = t)) = (if t = k then true else S t)
    by_cases q : t = k
    · rw [if_pos q, decide_eq_true q.symm, Bool.or_true]
    · rw [if_neg q, decide_eq_false (fun z => q z.symm), Bool.or_false]
  · rw [a3]
    cases q : S' k with
    | true =>
      have ne2 : ∀ t, t ≠ k → S' t = (fun t => if t = k then false else S' t) t := fun t ht => (if_neg ht).symm
      have b1 := ssm_add (g := F) (S := fun t => if t = k then false else S' t) (S' := S') hk (if_pos rfl) q ne2
      have b2 := ct_add (S := fun t => if t = k then false else S' t) (S' := S') hk (if_pos rfl) q ne2
      have b3 := bit_add (S := fun t => if t = k then false else S' t) (S' := S') hN hk (if_pos rfl) q ne2
      have := h.b (fun t => if t = k then false else S' t) (sub_rm s1) (by omega) (by omega)
      omega
    | false =>
      have s4 : subK S' (k + 1) N := fun t ht => by
        have := s1 t ht
        have : t ≠ k := fun z => by rw [z, q] at ht; exact Bool.false_ne_true ht
        omega
      have := bit_hi hN s4 (by omega)
      omega
/-- not with the first thing k -/
theorem fn_skip {F : Nat → Int} {N l k : Nat} {w : Int} (hk : k < N) (hn : fnN F N l (k + 1) (w - F k)) : ∀ S', subK S' k N → fb_ct S' N = l + 1 → ssm F S' N = w → subK S' (k + 1) N := by
  intro S' s1 s2 s3
  cases q : S' k with
  | true =>
    exfalso
    have ne2 : ∀ t, t ≠ k → S' t = (fun t => if t = k then false else S' t) t := fun t ht => (if_neg ht).symm
    have b1 := ssm_add (g := F) (S := fun t => if t = k then false else S' t) (S' := S') hk (if_pos rfl) q ne2
    have b2 := ct_add (S := fun t => if t = k then false else S' t) (S' := S') hk (if_pos rfl) q ne2
    exact hn (fun t => if t = k then false else S' t) (sub_rm s1) (by omega) (by omega)
  | false =>
    intro t ht
    have := s1 t ht
    have : t ≠ k := fun z => by rw [z, q] at ht; exact Bool.false_ne_true ht
    omega
theorem subK_mono {S : Nat → Bool} {k N : Nat} (h : subK S (k + 1) N) : subK S k N := fun t ht => by have := h t ht; omega
theorem fn_next {F : Nat → Int} {N l k : Nat} {w : Int} {r : Int32} (hk : k < N) (hn : fnN F N l (k + 1) (w - F k)) (h : fnR_ F N (l + 1) (k + 1) w r) : fnR_ F N (l + 1) k w r := by
  have sk := fn_skip hk hn
  rcases h with ⟨h1, h2⟩ | ⟨S, M, h1, h2⟩
  · exact Or.inl ⟨h1, fun S' s1 s2 s3 => h2 S' (sk S' s1 s2 s3) s2 s3⟩
  · exact Or.inr ⟨S, M, h1, subK_mono h2.s, h2.c, h2.w, h2.m, fun S' s1 s2 s3 => h2.b S' (sk S' s1 s2 s3) s2 s3⟩
theorem subL2 {a b : Int64} (h1 : -2000000000 ≤ a.toInt) (h2 : a.toInt ≤ 2000000000) (h3 : -8000000 ≤ b.toInt) (h4 : b.toInt ≤ 8000000) : (a - b).toInt = a.toInt - b.toInt := by
  have := zL_sub a.toInt b.toInt
  rw [← zL_of, ← zL_of] at this
  rw [this, zL_T (by omega) (by omega)]
theorem fnd_spec {f : Nat → Int64} {N : Nat} (hN : N ≤ 18) (hf : ∀ t, t < N → -8000000 ≤ (f t).toInt ∧ (f t).toInt ≤ 8000000) : ∀ (l : Nat), l ≤ 18 → ∀ (k : Nat) (w : Int64), k ≤ N → -1000000000 + 8000000 * (l : Int) ≤ w.toInt → w.toInt ≤ 1000000000 - 8000000 * (l : Int) → fnR_ (fun t => (f t).toInt) N l k w.toInt (fnd f N l k w) := by
  intro l
  induction l with
  | zero =>
    intro _ k w hk h1 h2
    have ed : fnd f N 0 k w = if w = 0 then nI 0 else -1 := rfl
    have none : ∀ S : Nat → Bool, subK S k N → fb_ct S N = 0 → ∀ t, t < N → S t = false := fun S _ hc t ht => fb_ct_zero.mp hc t ht
    by_cases q : w = 0
    · rw [ed, if_pos q]
      refine Or.inr ⟨fun _ => false, 0, rfl, fun t ht => absurd ht Bool.false_ne_true, fb_ct_zero.mpr (fun _ _ => rfl), ?_, ⟨by decide, fun t _ => by rw [Nat.zero_testBit]⟩, fun S' s1 s2 s3 => ?_⟩
      · rw [ssm_none (fun _ _ => rfl), q]; decide
      · have z := none S' s1 s2
        have b := (bitO_s (S := S') N hN).2.2
        rw [ssm_none z] at b
        have e0 : bitO S' N = 0 := by omega
        rw [e0]; exact Nat.zero_le _
    · rw [ed, if_neg q]
      refine Or.inl ⟨m1_neg, fun S s1 s2 s3 => q ?_⟩
      rw [ssm_none (none S s1 s2)] at s3
      rw [zL_of w, ← s3]; decide
  | succ l ihl =>
    intro hl k w hk h1 h2
    have ih := ihl (by omega)
    have key : ∀ n k, N + 1 - k ≤ n → k ≤ N → fnR_ (fun t => (f t).toInt) N (l + 1) k w.toInt (fscan (fnd f N l) f l N w n k) := by
      intro n
      induction n with
      | zero => intro k a b; omega
      | succ n ihn =>
        intro k a b
        have ed : fscan (fnd f N l) f l N w (n + 1) k = if k + (l + 1) ≤ N then (if fnd f N l (k + 1) (w - f k) < 0 then fscan (fnd f N l) f l N w n (k + 1) else fnd f N l (k + 1) (w - f k) ||| nI (2 ^ k)) else -1 := rfl
        by_cases g : k + (l + 1) ≤ N
        · have kf := hf k (by omega)
          have sw := subL2 (a := w) (b := f k) (by omega) (by omega) kf.1 kf.2
          have sub := ih (k + 1) (w - f k) (by omega) (by rw [sw]; omega) (by rw [sw]; omega)
          rw [sw] at sub
          rw [ed, if_pos g]
          rcases sub with ⟨z1, z2⟩ | ⟨S, M, z1, z2⟩
          · rw [if_pos z1]
            exact fn_next (by omega) z2 (ihn (k + 1) (by omega) (by omega))
          · have hm := z2.m.1
            rw [z1, if_neg (nI_nn (by omega)), fa_or]
            exact Or.inr ⟨_, _, rfl, fn_cons hN (by omega) z2⟩
        · rw [ed, if_neg g]
          refine Or.inl ⟨m1_neg, fun S s1 s2 s3 => ?_⟩
          have := ct_rng s1 b
          omega
    exact key (N + 1 - k) k (Nat.le_refl _) hk
/-- the least size first: the cheapest set -/
theorem fnd_best {f : Nat → Int64} {N z : Nat} {w : Int64} (hN : N ≤ 18) (hf : ∀ t, t < N → -8000000 ≤ (f t).toInt ∧ (f t).toInt ≤ 8000000) (hw : -500000000 ≤ w.toInt ∧ w.toInt ≤ 500000000) (hz : z ≤ N) (hlo : ∀ y, y < z → fnd f N y 0 w < 0) (hy : ¬ fnd f N z 0 w < 0) : ∃ S M, fnd f N z 0 w = nI M ∧ fnY (fun t => (f t).toInt) N z 0 w.toInt S M ∧ ∀ S', subN S' N → ssm (fun t => (f t).toInt) S' N = w.toInt → ssm prT S N ≤ ssm prT S' N := by
  have sp := fun y (h : y ≤ 18) => fnd_spec hN hf y h 0 w (Nat.zero_le _) (by omega) (by omega)
  rcases sp z (by omega) with ⟨q, _⟩ | ⟨S, M, h1, h2⟩
  · exact absurd q hy
  · refine ⟨S, M, h1, h2, fun S' s1 s2 => ?_⟩
    have sk : subK S' 0 N := fun t ht => ⟨Nat.zero_le _, s1 t ht⟩
    have pS_ := price_I (S := S) N hN
    have pS' := price_I (S := S') N hN
    have b1 := (bitO_s (S := S') N hN).2.1
    have cl := fb_ct_le S' N
    rcases Nat.lt_trichotomy (fb_ct S' N) z with q | q | q
    · exfalso
      rcases sp (fb_ct S' N) (by omega) with ⟨_, y2⟩ | ⟨S2, M2, y1, y2⟩
      · exact y2 S' sk rfl s2
      · have lt := hlo _ q
        have hm := y2.m.1
        rw [y1] at lt
        exact nI_nn (by omega) lt
    · have := h2.b S' sk q s2
      have hc := h2.c
      omega
    · have hc := h2.c
      omega
theorem fnd_none {f : Nat → Int64} {N : Nat} {w : Int64} (hN : N ≤ 18) (hf : ∀ t, t < N → -8000000 ≤ (f t).toInt ∧ (f t).toInt ≤ 8000000) (hw : -500000000 ≤ w.toInt ∧ w.toInt ≤ 500000000) (hno : ∀ y, y ≤ N → fnd f N y 0 w < 0) : ∀ S', subN S' N → ¬ ssm (fun t => (f t).toInt) S' N = w.toInt := by
  intro S' s1 s2
  have cl := fb_ct_le S' N
  rcases fnd_spec hN hf (fb_ct S' N) (by omega) 0 w (Nat.zero_le _) (by omega) (by omega) with ⟨_, y2⟩ | ⟨S2, M2, y1, y2⟩
  · exact y2 S' (fun t ht => ⟨Nat.zero_le _, s1 t ht⟩) rfl s2
  · have lt := hno _ cl
    have hm := y2.m.1
    rw [y1] at lt
    exact nI_nn (by omega) lt
/-- two cheapest sets are one -/
theorem cheap_one {S S' : Nat → Bool} {N : Nat} (hN : N ≤ 18) (h : ssm prT S N = ssm prT S' N) : ∀ t, t < N → S t = S' t := by
  have p1 := price_I (S := S) N hN
  have p2 := price_I (S := S') N hN
  have b1 := (bitO_s (S := S) N hN).2.1
  have b2 := (bitO_s (S := S') N hN).2.1
  have e : bitO S N = bitO S' N := by omega
  intro t ht
  rw [bitO_at (S := S) hN ht, bitO_at (S := S') hN ht, e]
