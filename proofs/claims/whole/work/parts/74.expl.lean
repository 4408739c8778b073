/-! ===== explanation, 2: the cheapest set and its number ===== -/
def prT (t : Nat) : Int := 262144 - ((2 ^ (17 - t) : Nat) : Int)
def amE (d : mS) (t : Nat) : Int := (d.1 91 t).toInt
theorem pw17 (t : Nat) : 2 ^ (17 - t) ≤ 131072 ∧ 1 ≤ 2 ^ (17 - t) := by
  have := Nat.pow_le_pow_right (n := 2) (by decide) (show 17 - t ≤ 17 by omega)
  have e : (2 : Nat) ^ 17 = 131072 := by decide
  have p : 0 < 2 ^ (17 - t) := Nat.pow_pos (by decide)
  omega
theorem prT_bd (t : Nat) : 0 ≤ prT t ∧ prT t ≤ 262144 := by
  have := pw17 t
  unfold prT
  omega
theorem prT_I (t : Nat) : (nI (262144 - 2 ^ (17 - t))).toInt = prT t := by
  have := pw17 t
  rw [nI_T _ (by omega)]
  unfold prT
  omega
def subN (S : Nat → Bool) (N : Nat) : Prop := ∀ t, S t = true → t < N
theorem rc_join {am pr : Nat → Int} {N mid : Nat} (hm : mid ≤ N) {v1 p1 v2 p2 : Int} (h1 : rc am pr N 0 mid v1 p1) (h2 : rc am pr N mid (N - mid) v2 p2) : ∃ S, subN S N ∧ ssm am S N = v1 + v2 ∧ ssm pr S N = p1 + p2 := by
  obtain ⟨S1, a1, a2, a3⟩ := h1
  obtain ⟨S2, b1, b2, b3⟩ := h2
  have key : ∀ g : Nat → Int, ssm g (fun t => S1 t || S2 t) N = ssm g S1 N + ssm g S2 N := by
    intro g
    unfold ssm
    rw [← si_add]
    refine fb_si_ext (fun t _ => ?_)
    show (if (S1 t || S2 t) = true then g t else 0) = (if S1 t = true then g t else 0) + (if S2 t = true then g t else 0)
    cases q1 : S1 t with
    | false => cases q2 : S2 t with
      | false => simp
      | true => simp
    | true => cases q2 : S2 t with
      | false => simp
      | true =>
        have := a1 t q1
        have := b1 t q2
        omega
  refine ⟨fun t => S1 t || S2 t, fun t ht => ?_, by rw [key, ← a2, ← b2], by rw [key, ← a3, ← b3]⟩
  rcases (Bool.or_eq_true _ _).mp ht with q | q
  · have := a1 t q; omega
  · have := b1 t q; omega
theorem rc_split {am pr : Nat → Int} {N mid : Nat} (hm : mid ≤ N) {S : Nat → Bool} (h : subN S N) : ∃ v1 p1 v2 p2, rc am pr N 0 mid v1 p1 ∧ rc am pr N mid (N - mid) v2 p2 ∧ v1 + v2 = ssm am S N ∧ p1 + p2 = ssm pr S N := by
  have key : ∀ g : Nat → Int, ssm g (fun t => S t && decide (t < mid)) N + ssm g (fun t => S t && decide (mid ≤ t)) N = ssm g S N := by
    intro g
    unfold ssm
    rw [← si_add]
    refine fb_si_ext (fun t _ => ?_)
    show (if (S t && decide (t < mid)) = true then g t else 0) + (if (S t && decide (mid ≤ t)) = true then g t else 0) = (if S t = true then g t else 0)
    cases q : S t with
    | false => simp
    | true =>
      rcases Nat.lt_or_ge t mid with z | z
      · rw [decide_eq_true z, decide_eq_false (by omega : ¬ mid ≤ t)]; simp
      · rw [decide_eq_false (by omega : ¬ t < mid), decide_eq_true z]; simp
  refine ⟨_, _, _, _, ⟨fun t => S t && decide (t < mid), fun t ht => ?_, rfl, rfl⟩, ⟨fun t => S t && decide (mid ≤ t), fun t ht => ?_, rfl, rfl⟩, key am, key pr⟩
  · have := (Bool.and_eq_true _ _).mp ht
    have := of_decide_eq_true this.2
    omega
  · have z := (Bool.and_eq_true _ _).mp ht
    have z1 := of_decide_eq_true z.2
    have z2 := h t z.1
    omega
/-- the number of a set: earlier things are higher bits -/
def bitO (S : Nat → Bool) : Nat → Nat
  | 0 => 0
  | n + 1 => if S n = true then bitO S n ||| 2 ^ (17 - n) else bitO S n
theorem bitO_t {S : Nat → Bool} : ∀ n, n ≤ 18 → ∀ i, (bitO S n).testBit i = (decide (i ≤ 17 ∧ 17 < i + n) && S (17 - i))
  | 0, _, i => by
    rw [show bitO S 0 = 0 from rfl, Nat.zero_testBit, decide_eq_false (by omega), Bool.false_and]
  | n + 1, h, i => by
    have ih := bitO_t (S := S) n (by omega) i
    have ed : bitO S (n + 1) = if S n = true then bitO S n ||| 2 ^ (17 - n) else bitO S n := rfl
    by_cases q : i = 17 - n
    · have hn : 17 - i = n := by omega
      rw [decide_eq_false (by omega), Bool.false_and] at ih
      rw [ed, decide_eq_true (by omega), Bool.true_and, hn]
      cases s : S n with
      | false => rw [if_neg Bool.false_ne_true]; exact ih
      | true => rw [if_pos rfl, Nat.testBit_or, ih, q, Nat.testBit_two_pow_self]; rfl
    · have e1 : decide (i ≤ 17 ∧ 17 < i + (n + 1)) = decide (i ≤ 17 ∧ 17 < i + n) := by
        by_cases z : i ≤ 17 ∧ 17 < i + n
        · rw [decide_eq_true z, decide_eq_true (by omega)]
        · rw [decide_eq_false z, decide_eq_false (by omega)]
      rw [ed, e1, ← ih]
      cases s : S n with
      | false => rw [if_neg Bool.false_ne_true]
      | true =>
        rw [if_pos rfl, Nat.testBit_or, Nat.testBit_two_pow, decide_eq_false (fun z => q z.symm), Bool.or_false]
theorem bitO_s {S : Nat → Bool} : ∀ n, n ≤ 18 → (∃ q, bitO S n = 2 ^ (18 - n) * q) ∧ bitO S n < 262144 ∧ (bitO S n : Int) = ssm (fun t => ((2 ^ (17 - t) : Nat) : Int)) S n
  | 0, _ => ⟨⟨0, rfl⟩, by show 0 < 262144; decide, rfl⟩
  | n + 1, h => by
    obtain ⟨⟨q, hq⟩, h2, h3⟩ := bitO_s (S := S) n (by omega)
    have ed : bitO S (n + 1) = if S n = true then bitO S n ||| 2 ^ (17 - n) else bitO S n := rfl
    have es : ssm (fun t => ((2 ^ (17 - t) : Nat) : Int)) S (n + 1) = ssm (fun t => ((2 ^ (17 - t) : Nat) : Int)) S n + (if S n = true then ((2 ^ (17 - n) : Nat) : Int) else 0) := rfl
    have e18 : 2 ^ (18 - n) = 2 * 2 ^ (17 - n) := by rw [show 18 - n = (17 - n) + 1 by omega, Nat.pow_succ]; omega
    have em : 2 ^ (18 - (n + 1)) = 2 ^ (17 - n) := by rw [show 18 - (n + 1) = 17 - n by omega]
    rw [es, em]
    cases s : S n with
    | false =>
      rw [s, if_neg Bool.false_ne_true] at ed
      rw [ed, if_neg Bool.false_ne_true]
      refine ⟨⟨2 * q, by rw [hq, e18, Nat.mul_comm 2 (2 ^ (17 - n)), Nat.mul_assoc]⟩, h2, by omega⟩
    | true =>
      rw [s, if_pos rfl] at ed
      have pos : 0 < 2 ^ (17 - n) := Nat.pow_pos (by decide)
      have add : bitO S (n + 1) = bitO S n + 2 ^ (17 - n) := by
        rw [ed, hq]
        exact (Nat.two_pow_add_eq_or_of_lt (i := 18 - n) (b := 2 ^ (17 - n)) (by rw [e18]; omega) q).symm
      rw [add, if_pos rfl]
      refine ⟨⟨2 * q + 1, ?_⟩, ?_, by omega⟩
      · rw [hq, e18, Nat.mul_add, Nat.mul_one, Nat.mul_comm 2 (2 ^ (17 - n)), Nat.mul_assoc]
      · rw [← add]
        have e : (262144 : Nat) = 2 ^ 18 := by decide
        rw [e]
        refine Nat.lt_pow_two_of_testBit _ (fun i hi => ?_)
        rw [bitO_t (n + 1) (by omega), decide_eq_false (by omega), Bool.false_and]
theorem bitO_at {S : Nat → Bool} {N t : Nat} (hN : N ≤ 18) (ht : t < N) : S t = (bitO S N).testBit (17 - t) := by
  rw [bitO_t N hN, decide_eq_true (by omega), Bool.true_and, show 17 - (17 - t) = t by omega]
theorem price_I {S : Nat → Bool} : ∀ N, N ≤ 18 → ssm prT S N = 262144 * (fb_ct S N : Int) - (bitO S N : Int)
  | N, hN => by
    rw [(bitO_s (S := S) N hN).2.2]
    have key : ∀ n, ssm prT S n = 262144 * (fb_ct S n : Int) - ssm (fun t => ((2 ^ (17 - t) : Nat) : Int)) S n := by
      intro n
      induction n with
      | zero => rfl
      | succ n ih =>
        have e1 : ssm prT S (n + 1) = ssm prT S n + (if S n = true then prT n else 0) := rfl
        have e2 : ssm (fun t => ((2 ^ (17 - t) : Nat) : Int)) S (n + 1) = ssm (fun t => ((2 ^ (17 - t) : Nat) : Int)) S n + (if S n = true then ((2 ^ (17 - n) : Nat) : Int) else 0) := rfl
        rw [e1, e2, ih, fb_ct_succ]
        cases s : S n with
        | false => simp
        | true =>
          simp only [if_true]
          have e3 : prT n = 262144 - ((2 ^ (17 - n) : Nat) : Int) := rfl
          rw [e3, Int.natCast_add]
          omega
    exact key N
/-- the bits of a price -/
theorem neg_and {r : Int32} {B c : Nat} (hB : B < 262144) (hc : c ≤ 18) (hr : r.toInt = 262144 * (c : Int) - (B : Int)) (h0 : 0 ≤ r.toInt) : -r &&& nI 262143 = nI B := by
  have e : r = zI (262144 * (c : Int) - (B : Int)) := by rw [← hr]; exact zI_of r
  rcases Nat.eq_zero_or_pos (262144 * c - B) with z | z
  · have hz : B = 262144 * c := by omega
    have hb : B = 0 := by omega
    have : r = nI 0 := by rw [e, t_eq, zI_T (by omega) (by omega), nI_T 0 (by decide)]; omega
    rw [this, hb]; decide
  · have e2 : -r = nI (4294967296 - (262144 * c - B)) := by
      have m : zI 4294967296 = 0 := by decide
      rw [e, zI_neg, ← zI_n, show ((4294967296 - (262144 * c - B) : Nat) : Int) = -(262144 * (c : Int) - (B : Int)) + 4294967296 by omega, ← zI_add, m, Int32.add_zero]
    rw [e2, pk_andN (n := 4294967296 - (262144 * c - B)) (by omega) 18 (by decide)]
    congr 1
    have e3 : (2 : Nat) ^ 18 = 262144 := by decide
    rw [e3]
    omega
/-- what is found in the two halves -/
abbrev fdS (am : Nat → Int) (N : Nat) (g r : Int32) (S : Nat → Bool) : Prop := (r = -1 ∧ (∀ S', subN S' N → ¬ ssm am S' N = g.toInt) ∧ ∀ t, S t = false) ∨ (¬ r = -1 ∧ subN S N ∧ ssm am S N = g.toInt ∧ ∀ S', subN S' N → ssm am S' N = g.toInt → ssm prT S N ≤ ssm prT S' N)
theorem ch_sel {d : mS} {am : Nat → Int} {N mid n1 n2 : Nat} {g r : Int32} (hN : N ≤ 18) (hm : mid ≤ N) (h1 : smI d 0 am prT N 0 mid n1) (h2 : smI d 1 am prT N mid (N - mid) n2) (hc : chR d n1 n2 g r) : ∃ (S : Nat → Bool) (B : Nat), B < 262144 ∧ (∀ t, t < N → S t = B.testBit (17 - t)) ∧ ((r = -1 ∧ B = 0) ∨ (¬ r = -1 ∧ -r &&& nI 262143 = nI B)) ∧ fdS am N g r S := by
  have cov : ∀ S', subN S' N → ssm am S' N = g.toInt → ∃ x y, x < n1 ∧ y < n2 ∧ eS d 0 x + eS d 1 y = g.toInt ∧ pS d 0 x + pS d 1 y ≤ ssm prT S' N := by
    intro S' hs he
    obtain ⟨v1, p1, v2, p2, a1, a2, a3, a4⟩ := rc_split (am := am) (pr := prT) hm hs
    obtain ⟨x, x1, x2, x3⟩ := h1.c v1 p1 a1
    obtain ⟨y, y1, y2, y3⟩ := h2.c v2 p2 a2
    exact ⟨x, y, x1, y1, by omega, by omega⟩
  rcases hc with ⟨c1, c2⟩ | ⟨c1, ⟨x, y, x1, y1, s1, s2⟩, c3⟩
  · refine ⟨fun _ => false, 0, by decide, fun t _ => by rw [Nat.zero_testBit], Or.inl ⟨c1, rfl⟩, Or.inl ⟨c1, fun S' hs he => ?_, fun _ => rfl⟩⟩
    obtain ⟨x, y, x1, y1, s1, _⟩ := cov S' hs he
    exact c2 x y x1 y1 s1
  · obtain ⟨S, S1, S2, S3⟩ := rc_join hm (h1.r x x1) (h2.r y y1)
    have pI := price_I (S := S) N hN
    have bs := (bitO_s (S := S) N hN).2.1
    have hr : r.toInt = 262144 * (fb_ct S N : Int) - (bitO S N : Int) := by omega
    have p0 : 0 ≤ ssm prT S N := by
      have key : ∀ n, 0 ≤ ssm prT S n := by
        intro n
        induction n with
        | zero => exact Int.le_refl _
        | succ n ih =>
          have e1 : ssm prT S (n + 1) = ssm prT S n + (if S n = true then prT n else 0) := rfl
          rw [e1]
          have := prT_bd n
          split <;> omega
      exact key N
    refine ⟨S, bitO S N, bs, fun t ht => bitO_at hN ht, Or.inr ⟨c1, neg_and bs (by have := fb_ct_le S N; omega) hr (by omega)⟩, Or.inr ⟨c1, S1, by omega, fun S' hs he => ?_⟩⟩
    obtain ⟨x', y', x1', y1', s1', s2'⟩ := cov S' hs he
    have := c3 x' y' x1' y1' s1'
    omega
theorem sm_0 {d : mS} {s : Nat} {am : Nat → Int} {N lo : Nat} (h96 : d.1 96 s = nI 1) (h0 : d.1 (100 + s) 0 = nI 0) (p0 : d.1 (103 + s) 0 = nI 0) : smI d s am prT N lo 0 1 := by
  have e0 : (nI 0).toInt = 0 := by decide
  have a0 : eS d s 0 = 0 := by show (d.1 (100 + s) 0).toInt = 0; rw [h0]; exact e0
  have b0 : pS d s 0 = 0 := by show (d.1 (103 + s) 0).toInt = 0; rw [p0]; exact e0
  refine ⟨h96, ⟨Nat.le_refl _, Nat.le_refl _⟩, fun x y h1 h2 => by omega, fun x hx => ?_, fun v p hv => ?_⟩
  · rw [show x = 0 by omega, a0, b0]; exact rc_0.mpr ⟨rfl, rfl⟩
  · obtain ⟨q1, q2⟩ := rc_0.mp hv
    exact ⟨0, by omega, by rw [a0]; exact q1.symm, by rw [b0]; omega⟩
theorem sm_k {d e : mS} {s s' n : Nat} {am pr : Nat → Int} {N lo k : Nat} (h : smI d s am pr N lo k n) (h96 : e.1 96 s' = nI n) (hs : ∀ x, x < n → e.1 (100 + s') x = d.1 (100 + s) x) (hp : ∀ x, x < n → e.1 (103 + s') x = d.1 (103 + s) x) : smI e s' am pr N lo k n := by
  have a : ∀ x, x < n → eS e s' x = eS d s x := fun x hx => by show (e.1 (100 + s') x).toInt = _; rw [hs x hx]
  have b : ∀ x, x < n → pS e s' x = pS d s x := fun x hx => by show (e.1 (103 + s') x).toInt = _; rw [hp x hx]
  refine ⟨h96, h.n, fun x y h1 h2 => by rw [a x (by omega), a y h2]; exact h.i x y h1 h2, fun x hx => by rw [a x hx, b x hx]; exact h.r x hx, fun v p hv => ?_⟩
  obtain ⟨x, x1, x2, x3⟩ := h.c v p hv
  exact ⟨x, x1, by rw [a x x1]; exact x2, by rw [b x x1]; exact x3⟩
theorem sm_bd {d : mS} {s n : Nat} {am : Nat → Int} {N lo k : Nat} (ha : ∀ t, t < N → -8000000 ≤ am t ∧ am t ≤ 8000000) (hk : k ≤ 9) (hl : lo + k ≤ N) (h : smI d s am prT N lo k n) : ∀ x, x < n → (-100000000 ≤ eS d s x ∧ eS d s x ≤ 100000000) ∧ 0 ≤ pS d s x ∧ pS d s x ≤ 10000000 := by
  intro x hx
  have := rc_bd ha (fun t _ => prT_bd t) k hl _ _ (h.r x hx)
  omega
