/-! ===== explanation, 1: sums of things, merged ===== -/
/-- the things of S, summed -/
def ssm (g : Nat → Int) (S : Nat → Bool) (N : Nat) : Int := fb_si (fun t => if S t = true then g t else 0) N
/-- a sum and a price that things lo .. lo + k - 1 can have -/
def rc (am pr : Nat → Int) (N lo k : Nat) (s p : Int) : Prop := ∃ S : Nat → Bool, (∀ t, S t = true → lo ≤ t ∧ t < lo + k) ∧ s = ssm am S N ∧ p = ssm pr S N
theorem ssm_none {g : Nat → Int} {S : Nat → Bool} {N : Nat} (h : ∀ t, t < N → S t = false) : ssm g S N = 0 := by
  unfold ssm
  rw [si_ext0 (m := 0) (n := N) (Nat.zero_le _) (fun k _ hk => if_neg (by rw [h k hk]; exact Bool.false_ne_true))]
  rfl
theorem ssm_cong {g : Nat → Int} {S S' : Nat → Bool} {N : Nat} (h : ∀ t, t < N → S t = S' t) : ssm g S N = ssm g S' N := fb_si_ext (fun k hk => by
  show (if S k = true then g k else 0) = (if S' k = true then g k else 0)
  rw [h k hk])
/-- one thing more -/
theorem ssm_add {g : Nat → Int} {S S' : Nat → Bool} {N x : Nat} (hx : x < N) (h0 : S x = false) (h1 : S' x = true) (h : ∀ t, t ≠ x → S' t = S t) : ssm g S' N = ssm g S N + g x := by
  have up := si_upd (f := fun t => if S' t = true then g t else 0) (g := fun t => if S t = true then g t else 0) (i := x) (n := N) hx (fun k _ hk => by
    show (if S' k = true then g k else 0) = (if S k = true then g k else 0)
    rw [h k hk])
  have a1 : (if S x = true then g x else 0) = 0 := if_neg (by rw [h0]; exact Bool.false_ne_true)
  have a2 : (if S' x = true then g x else 0) = g x := if_pos h1
  have up' : ssm g S' N + (if S x = true then g x else 0) = ssm g S N + (if S' x = true then g x else 0) := up
  rw [a1, a2] at up'
  omega
theorem rc_0 {am pr : Nat → Int} {N lo : Nat} {s p : Int} : rc am pr N lo 0 s p ↔ (s = 0 ∧ p = 0) := by
  constructor
  · rintro ⟨S, h, hs, hp⟩
    have hS : ∀ t, t < N → S t = false := fun t _ => by
      cases q : S t with
      | false => rfl
      | true => have := h t q; omega
    rw [ssm_none hS] at hs hp
    exact ⟨hs, hp⟩
  · rintro ⟨h1, h2⟩
    refine ⟨fun _ => false, fun t h => absurd h Bool.false_ne_true, ?_, ?_⟩
    · rw [ssm_none (fun _ _ => rfl)]; exact h1
    · rw [ssm_none (fun _ _ => rfl)]; exact h2
theorem rc_s {am pr : Nat → Int} {N lo k : Nat} (hN : lo + k < N) {s p : Int} : rc am pr N lo (k + 1) s p ↔ (rc am pr N lo k s p ∨ rc am pr N lo k (s - am (lo + k)) (p - pr (lo + k))) := by
  constructor
  · rintro ⟨S, h, hs, hp⟩
    cases q : S (lo + k) with
    | false =>
      left
      refine ⟨S, fun t ht => ?_, hs, hp⟩
      have := h t ht
      refine ⟨this.1, ?_⟩
      rcases Nat.lt_or_ge t (lo + k) with z | z
      · exact z
      · have e : t = lo + k := by omega
        rw [e, q] at ht
        exact absurd ht Bool.false_ne_true
    | true =>
      right
      have hne : ∀ t, t ≠ lo + k → S t = (fun t => if t = lo + k then false else S t) t := fun t ht => (if_neg ht).symm
      have a1 := ssm_add (g := am) (S := fun t => if t = lo + k then false else S t) (S' := S) hN (if_pos rfl) q hne
      have a2 := ssm_add (g := pr) (S := fun t => if t = lo + k then false else S t) (S' := S) hN (if_pos rfl) q hne
      refine ⟨fun t => if t = lo + k then false else S t, fun t ht => ?_, by omega, by omega⟩
      by_cases z : t = lo + k
      · have ht' : (if t = lo + k then false else S t) = true := ht
        rw [if_pos z] at ht'
        exact absurd ht' Bool.false_ne_true
      · have ht' : (if t = lo + k then false else S t) = true := ht
        rw [if_neg z] at ht'
        have := h t ht'
        omega
  · rintro (⟨S, h, hs, hp⟩ | ⟨S, h, hs, hp⟩)
    · exact ⟨S, fun t ht => by have := h t ht; omega, hs, hp⟩
    · have f0 : S (lo + k) = false := by
        cases q : S (lo + k) with
        | false => rfl
        | true => have := h _ q; omega
      have hne : ∀ t, t ≠ lo + k → (fun t => if t = lo + k then true else S t) t = S t := fun t ht => if_neg ht
      have a1 := ssm_add (g := am) (S := S) (S' := fun t => if t = lo + k then true else S t) hN f0 (if_pos rfl) hne
      have a2 := ssm_add (g := pr) (S := S) (S' := fun t => if t = lo + k then true else S t) hN f0 (if_pos rfl) hne
      refine ⟨fun t => if t = lo + k then true else S t, fun t ht => ?_, by omega, by omega⟩
      by_cases z : t = lo + k
      · omega
      · have ht' : (if t = lo + k then true else S t) = true := ht
        rw [if_neg z] at ht'
        have := h t ht'
        omega
/-- the sums of a Sums -/
abbrev eS (d : mS) (s x : Nat) : Int := (d.1 (100 + s) x).toInt
abbrev pS (d : mS) (s x : Nat) : Int := (d.1 (103 + s) x).toInt
/-- a Sums tells all sums of things lo .. lo + k - 1, rising, each with its least price -/
abbrev smI (d : mS) (s : Nat) (am pr : Nat → Int) (N lo k : Nat) (n : Nat) : Prop := (d.1 96 s = nI n) ∧ (1 ≤ n ∧ n ≤ 2 ^ k) ∧ (∀ x y, x < y → y < n → eS d s x < eS d s y) ∧ (∀ x, x < n → rc am pr N lo k (eS d s x) (pS d s x)) ∧ (∀ v p, rc am pr N lo k v p → ∃ x, x < n ∧ eS d s x = v ∧ pS d s x ≤ p)
theorem smI.u {d : mS} {s : Nat} {am pr : Nat → Int} {N lo k : Nat} {n : Nat} (h_ : smI d s am pr N lo k n) : d.1 96 s = nI n := h_.1
theorem smI.n {d : mS} {s : Nat} {am pr : Nat → Int} {N lo k : Nat} {n : Nat} (h_ : smI d s am pr N lo k n) : 1 ≤ n ∧ n ≤ 2 ^ k := h_.2.1
theorem smI.i {d : mS} {s : Nat} {am pr : Nat → Int} {N lo k : Nat} {n : Nat} (h_ : smI d s am pr N lo k n) : ∀ x y, x < y → y < n → eS d s x < eS d s y := h_.2.2.1
theorem smI.r {d : mS} {s : Nat} {am pr : Nat → Int} {N lo k : Nat} {n : Nat} (h_ : smI d s am pr N lo k n) : ∀ x, x < n → rc am pr N lo k (eS d s x) (pS d s x) := h_.2.2.2.1
theorem smI.c {d : mS} {s : Nat} {am pr : Nat → Int} {N lo k : Nat} {n : Nat} (h_ : smI d s am pr N lo k n) : ∀ v p, rc am pr N lo k v p → ∃ x, x < n ∧ eS d s x = v ∧ pS d s x ≤ p := h_.2.2.2.2
abbrev mgI (d : mS) (s q n : Nat) (A C : Int) (u i j : Nat) (e : mS) : Prop := (∀ k, k ≠ 100 + s → k ≠ 103 + s → k ≠ 96 → e.1 k = d.1 k) ∧ (e.1 96 s = nI u ∧ ∀ x, x ≠ s → e.1 96 x = d.1 96 x) ∧ (i ≤ n ∧ j ≤ n ∧ u ≤ i + j) ∧ (∀ x y, x < y → y < u → eS e s x < eS e s y) ∧ (∀ x, x < u → i < n → eS e s x < eS d q i) ∧ (∀ x, x < u → j < n → eS e s x < eS d q j + A) ∧ (∀ x, x < u → (∃ y, y < i ∧ eS d q y = eS e s x ∧ pS d q y = pS e s x) ∨ (∃ y, y < j ∧ eS d q y + A = eS e s x ∧ pS d q y + C = pS e s x)) ∧ (∀ y, y < i → ∃ x, x < u ∧ eS e s x = eS d q y ∧ pS e s x ≤ pS d q y) ∧ (∀ y, y < j → ∃ x, x < u ∧ eS e s x = eS d q y + A ∧ pS e s x ≤ pS d q y + C)
theorem mgI.o {d : mS} {s q n : Nat} {A C : Int} {u i j : Nat} {e : mS} (h_ : mgI d s q n A C u i j e) : ∀ k, k ≠ 100 + s → k ≠ 103 + s → k ≠ 96 → e.1 k = d.1 k := h_.1
theorem mgI.w {d : mS} {s q n : Nat} {A C : Int} {u i j : Nat} {e : mS} (h_ : mgI d s q n A C u i j e) : e.1 96 s = nI u ∧ ∀ x, x ≠ s → e.1 96 x = d.1 96 x := h_.2.1
theorem mgI.b {d : mS} {s q n : Nat} {A C : Int} {u i j : Nat} {e : mS} (h_ : mgI d s q n A C u i j e) : i ≤ n ∧ j ≤ n ∧ u ≤ i + j := h_.2.2.1
theorem mgI.t {d : mS} {s q n : Nat} {A C : Int} {u i j : Nat} {e : mS} (h_ : mgI d s q n A C u i j e) : ∀ x y, x < y → y < u → eS e s x < eS e s y := h_.2.2.2.1
theorem mgI.l1 {d : mS} {s q n : Nat} {A C : Int} {u i j : Nat} {e : mS} (h_ : mgI d s q n A C u i j e) : ∀ x, x < u → i < n → eS e s x < eS d q i := h_.2.2.2.2.1
theorem mgI.l2 {d : mS} {s q n : Nat} {A C : Int} {u i j : Nat} {e : mS} (h_ : mgI d s q n A C u i j e) : ∀ x, x < u → j < n → eS e s x < eS d q j + A := h_.2.2.2.2.2.1
theorem mgI.s {d : mS} {s q n : Nat} {A C : Int} {u i j : Nat} {e : mS} (h_ : mgI d s q n A C u i j e) : ∀ x, x < u → (∃ y, y < i ∧ eS d q y = eS e s x ∧ pS d q y = pS e s x) ∨ (∃ y, y < j ∧ eS d q y + A = eS e s x ∧ pS d q y + C = pS e s x) := h_.2.2.2.2.2.2.1
theorem mgI.c1 {d : mS} {s q n : Nat} {A C : Int} {u i j : Nat} {e : mS} (h_ : mgI d s q n A C u i j e) : ∀ y, y < i → ∃ x, x < u ∧ eS e s x = eS d q y ∧ pS e s x ≤ pS d q y := h_.2.2.2.2.2.2.2.1
theorem mgI.c2 {d : mS} {s q n : Nat} {A C : Int} {u i j : Nat} {e : mS} (h_ : mgI d s q n A C u i j e) : ∀ y, y < j → ∃ x, x < u ∧ eS e s x = eS d q y + A ∧ pS e s x ≤ pS d q y + C := h_.2.2.2.2.2.2.2.2
theorem mgI_0 {d : mS} {s q n : Nat} {A C : Int} : mgI d s q n A C 0 0 0 (mset d 96 s (nI 0)) := ⟨fun k _ _ h3 => mset_ne h3, ⟨mset_at _ _ _ _, fun x hx => mset_off hx⟩, ⟨Nat.zero_le _, Nat.zero_le _, Nat.zero_le _⟩, fun x y _ h => absurd h (Nat.not_lt_zero y), fun x h => absurd h (Nat.not_lt_zero x), fun x h => absurd h (Nat.not_lt_zero x), fun x h => absurd h (Nat.not_lt_zero x), fun y h => absurd h (Nat.not_lt_zero y), fun y h => absurd h (Nat.not_lt_zero y)⟩
/-- one step of merging: a of 0 or 1 goes on without, b of 0 or 1 with -/
theorem mg_step {d e : mS} {s q n : Nat} {A C : Int} {u i j a b : Nat} {V P : Int32} (h : mgI d s q n A C u i j e) (hs : s < 2) (hq : ∀ x y, x < y → y < n → eS d q x < eS d q y) (hab : a ≤ 1 ∧ b ≤ 1 ∧ 1 ≤ a + b) (ha1 : a = 1 → i < n ∧ V.toInt = eS d q i ∧ P.toInt ≤ pS d q i) (ha0 : a = 0 → i < n → V.toInt < eS d q i) (hb1 : b = 1 → j < n ∧ V.toInt = eS d q j + A ∧ P.toInt ≤ pS d q j + C) (hb0 : b = 0 → j < n → V.toInt < eS d q j + A) (hP : (a = 1 ∧ P.toInt = pS d q i) ∨ (b = 1 ∧ P.toInt = pS d q j + C)) : mgI d s q n A C (u + 1) (i + a) (j + b) (mset (mset (mset e (100 + s) u V) (103 + s) u P) 96 s (nI (u + 1))) := by
  have k1 : ∀ x, eS (mset (mset (mset e (100 + s) u V) (103 + s) u P) 96 s (nI (u + 1))) s x = if x = u then V.toInt else eS e s x := fun x => by
    show ((mset (mset (mset e (100 + s) u V) (103 + s) u P) 96 s (nI (u + 1))).1 (100 + s) x).toInt = _
    rw [mset_ne (by omega), mset_ne (by omega)]
    by_cases z : x = u
    · rw [z, mset_at, if_pos rfl]
    · rw [mset_off z, if_neg z]
  have k2 : ∀ x, pS (mset (mset (mset e (100 + s) u V) (103 + s) u P) 96 s (nI (u + 1))) s x = if x = u then P.toInt else pS e s x := fun x => by
    show ((mset (mset (mset e (100 + s) u V) (103 + s) u P) 96 s (nI (u + 1))).1 (103 + s) x).toInt = _
    rw [mset_ne (by omega)]
    by_cases z : x = u
    · rw [z, mset_at, if_pos rfl]
    · rw [mset_off z, mset_ne (by omega), if_neg z]
  have hbb := h.b
  -- all that is there is less than V
  have lt : ∀ x, x < u → eS e s x < V.toInt := by
    intro x hx
    rcases hP with z | z
    · have y := ha1 z.1
      have := h.l1 x hx y.1
      omega
    · have y := hb1 z.1
      have := h.l2 x hx y.1
      omega
  have a01 : a = 0 ∨ a = 1 := by omega
  have b01 : b = 0 ∨ b = 1 := by omega
  refine ⟨fun k h1 h2 h3 => by rw [mset_ne h3, mset_ne h2, mset_ne h1]; exact h.o k h1 h2 h3, ⟨mset_at _ _ _ _, fun x hx => ?_⟩, ⟨?_, ?_, by omega⟩, ?_, ?_, ?_, ?_, ?_, ?_⟩
  · rw [mset_off hx, mset_ne (by omega), mset_ne (by omega)]; exact h.w.2 x hx
  · rcases a01 with z | z
    · omega
    · have := (ha1 z).1; omega
  · rcases b01 with z | z
    · omega
    · have := (hb1 z).1; omega
  · intro x y hxy hy
    rw [k1, k1]
    by_cases z : y = u
    · rw [if_pos z, if_neg (by omega)]; exact lt x (by omega)
    · rw [if_neg z, if_neg (by omega)]; exact h.t x y hxy (by omega)
  · intro x hx hi
    rw [k1]
    have step : ∀ v : Int, v ≤ V.toInt → v < eS d q (i + a) := by
      intro v hv
      rcases a01 with z | z
      · have := ha0 z (by omega)
        rw [z, Nat.add_zero]; omega
      · have y := ha1 z
        have := hq i (i + a) (by omega) hi
        omega
    by_cases z : x = u
    · rw [if_pos z]; exact step _ (Int.le_refl _)
    · rw [if_neg z]; exact step _ (Int.le_of_lt (lt x (by omega)))
  · intro x hx hj
    rw [k1]
    have step : ∀ v : Int, v ≤ V.toInt → v < eS d q (j + b) + A := by
      intro v hv
      rcases b01 with z | z
      · have := hb0 z (by omega)
        rw [z, Nat.add_zero]; omega
      · have y := hb1 z
        have := hq j (j + b) (by omega) hj
        omega
    by_cases z : x = u
    · rw [if_pos z]; exact step _ (Int.le_refl _)
    · rw [if_neg z]; exact step _ (Int.le_of_lt (lt x (by omega)))
  · intro x hx
    rw [k1, k2]
    by_cases z : x = u
    · rw [if_pos z, if_pos z]
      rcases hP with y | y
      · left; exact ⟨i, by omega, (ha1 y.1).2.1.symm, y.2.symm⟩
      · right; exact ⟨j, by omega, (hb1 y.1).2.1.symm, y.2.symm⟩
    · rw [if_neg z, if_neg z]
      rcases h.s x (by omega) with ⟨y, y1, y2⟩ | ⟨y, y1, y2⟩
      · left; exact ⟨y, by omega, y2⟩
      · right; exact ⟨y, by omega, y2⟩
  · intro y hy
    rcases Nat.lt_or_ge y i with z | z
    · obtain ⟨x, x1, x2, x3⟩ := h.c1 y z
      exact ⟨x, by omega, by rw [k1, if_neg (by omega)]; exact x2, by rw [k2, if_neg (by omega)]; exact x3⟩
    · have ey : y = i := by omega
      have ea : a = 1 := by omega
      have w := ha1 ea
      exact ⟨u, by omega, by rw [k1, if_pos rfl, ey]; exact w.2.1, by rw [k2, if_pos rfl, ey]; exact w.2.2⟩
  · intro y hy
    rcases Nat.lt_or_ge y j with z | z
    · obtain ⟨x, x1, x2, x3⟩ := h.c2 y z
      exact ⟨x, by omega, by rw [k1, if_neg (by omega)]; exact x2, by rw [k2, if_neg (by omega)]; exact x3⟩
    · have ey : y = j := by omega
      have eb : b = 1 := by omega
      have w := hb1 eb
      exact ⟨u, by omega, by rw [k1, if_pos rfl, ey]; exact w.2.1, by rw [k2, if_pos rfl, ey]; exact w.2.2⟩
theorem mg_end {d e : mS} {s q n lo k u : Nat} {am pr : Nat → Int} {N : Nat} (hN : lo + k < N) (ho : smI d q am pr N lo k n) (h : mgI d s q n (am (lo + k)) (pr (lo + k)) u n n e) : smI e s am pr N lo (k + 1) u := by
  have hb := h.b
  have hn := ho.n
  refine ⟨h.w.1, ⟨?_, ?_⟩, h.t, fun x hx => ?_, fun v p hv => ?_⟩
  · obtain ⟨x, x1, _⟩ := h.c1 0 (by omega)
    omega
  · rw [Nat.pow_succ]; omega
  · refine (rc_s hN).mpr ?_
    rcases h.s x hx with ⟨y, y1, y2, y3⟩ | ⟨y, y1, y2, y3⟩
    · left; rw [← y2, ← y3]; exact ho.r y y1
    · right
      have := ho.r y y1
      rw [show eS e s x - am (lo + k) = eS d q y by omega, show pS e s x - pr (lo + k) = pS d q y by omega]
      exact this
  · rcases (rc_s hN).mp hv with z | z
    · obtain ⟨y, y1, y2, y3⟩ := ho.c v p z
      obtain ⟨x, x1, x2, x3⟩ := h.c1 y y1
      exact ⟨x, x1, by omega, by omega⟩
    · obtain ⟨y, y1, y2, y3⟩ := ho.c _ _ z
      obtain ⟨x, x1, x2, x3⟩ := h.c2 y y1
      exact ⟨x, x1, by omega, by omega⟩
/-- the bounds of sums and prices -/
theorem rc_bd {am pr : Nat → Int} {N lo : Nat} (ha : ∀ t, t < N → -8000000 ≤ am t ∧ am t ≤ 8000000) (hp : ∀ t, t < N → 0 ≤ pr t ∧ pr t ≤ 262144) : ∀ k, lo + k ≤ N → ∀ s p, rc am pr N lo k s p → -8000000 * (k : Int) ≤ s ∧ s ≤ 8000000 * (k : Int) ∧ 0 ≤ p ∧ p ≤ 262144 * (k : Int)
  | 0, _, s, p, h => by
    have := rc_0.mp h
    omega
  | k + 1, hk, s, p, h => by
    have a := ha (lo + k) (by omega)
    have b := hp (lo + k) (by omega)
    rcases (rc_s (by omega)).mp h with z | z
    · have := rc_bd ha hp k (by omega) s p z
      omega
    · have := rc_bd ha hp k (by omega) _ _ z
      omega
