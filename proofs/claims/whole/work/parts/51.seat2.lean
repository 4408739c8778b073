/-! ===== seats, 2: the search for a row's seat ===== -/
abbrev ro (d : mS) (c : Nat) : Nat := nv (d.1 68 c)
abbrev tbl (d : mS) (n : Nat) : Prop := (d.1 65 0 = nI n) ∧ (n ≤ 14) ∧ (∀ r c, r < n → c < n → 0 ≤ ww d r c ∧ ww d r c ≤ 230)
theorem tbl.s {d : mS} {n : Nat} (h_ : tbl d n) : d.1 65 0 = nI n := h_.1
theorem tbl.n14 {d : mS} {n : Nat} (h_ : tbl d n) : n ≤ 14 := h_.2.1
theorem tbl.w {d : mS} {n : Nat} (h_ : tbl d n) : ∀ r c, r < n → c < n → 0 ≤ ww d r c ∧ ww d r c ≤ 230 := h_.2.2
abbrev mat (d : mS) (n : Nat) (S : Nat → Prop) : Prop := (∀ c, c < n → d.1 68 c = -1 ∨ (d.1 68 c = nI (ro d c) ∧ ro d c < n ∧ S (ro d c))) ∧ (∀ c c', c < n → c' < n → ¬ d.1 68 c = -1 → d.1 68 c = d.1 68 c' → c = c') ∧ (∀ r, r < n → S r → ∃ c, c < n ∧ d.1 68 c = nI r)
theorem mat.a {d : mS} {n : Nat} {S : Nat → Prop} (h_ : mat d n S) : ∀ c, c < n → d.1 68 c = -1 ∨ (d.1 68 c = nI (ro d c) ∧ ro d c < n ∧ S (ro d c)) := h_.1
theorem mat.i {d : mS} {n : Nat} {S : Nat → Prop} (h_ : mat d n S) : ∀ c c', c < n → c' < n → ¬ d.1 68 c = -1 → d.1 68 c = d.1 68 c' → c = c' := h_.2.1
theorem mat.p {d : mS} {n : Nat} {S : Nat → Prop} (h_ : mat d n S) : ∀ r, r < n → S r → ∃ c, c < n ∧ d.1 68 c = nI r := h_.2.2
abbrev pri (d : mS) (n : Nat) (S : Nat → Prop) (β : Int) : Prop := (∀ r, r < n → S r → ∀ c, c < n → ww d r c ≤ uu d r + vv d c) ∧ (∀ c, c < n → ¬ d.1 68 c = -1 → uu d (ro d c) + vv d c = ww d (ro d c) c) ∧ (∀ c, c < n → 0 ≤ vv d c ∧ vv d c ≤ 230 + β) ∧ (∀ r, r < n → S r → uu d r ≤ 230 + β)
theorem pri.f {d : mS} {n : Nat} {S : Nat → Prop} {β : Int} (h_ : pri d n S β) : ∀ r, r < n → S r → ∀ c, c < n → ww d r c ≤ uu d r + vv d c := h_.1
theorem pri.t {d : mS} {n : Nat} {S : Nat → Prop} {β : Int} (h_ : pri d n S β) : ∀ c, c < n → ¬ d.1 68 c = -1 → uu d (ro d c) + vv d c = ww d (ro d c) c := h_.2.1
theorem pri.v {d : mS} {n : Nat} {S : Nat → Prop} {β : Int} (h_ : pri d n S β) : ∀ c, c < n → 0 ≤ vv d c ∧ vv d c ≤ 230 + β := h_.2.2.1
theorem pri.u {d : mS} {n : Nat} {S : Nat → Prop} {β : Int} (h_ : pri d n S β) : ∀ r, r < n → S r → uu d r ≤ 230 + β := h_.2.2.2
abbrev sea (d : mS) (n row : Nat) (S : Nat → Prop) (β : Int) (cf col st : Nat) (ρ : Nat → Nat) : Prop := (tbl d n) ∧ (mat d n S) ∧ (pri d n S β) ∧ (0 ≤ β ∧ β ≤ 230) ∧ (row < n ∧ ¬ S row ∧ d.1 68 n = nI row) ∧ (cf < n ∧ d.1 68 cf = -1 ∧ vv d cf ≤ β) ∧ (∀ c', c' < n → ¬ d.1 74 c' = 0 → ¬ d.1 68 c' = -1) ∧ (st = 0 → ∀ c', c' < n + 1 → d.1 74 c' = 0) ∧ (0 < st → ¬ d.1 74 n = 0) ∧ (fb_ct (fun c' => decide (¬ d.1 74 c' = 0)) (n + 1) = st) ∧ (-500 ≤ uu d row ∧ uu d row ≤ 500) ∧ (0 < st → uu d row ≤ 230 + β ∧ ∀ c', c' < n → ww d row c' ≤ uu d row + vv d c') ∧ (∀ c', c' < n → d.1 74 c' = 0 → ∀ q, q < n + 1 → ¬ d.1 74 q = 0 → gg d c' ≤ uu d (ro d q) + vv d c' - ww d (ro d q) c') ∧ (∀ c', c' < n → d.1 74 c' = 0 → (st = 0 ∧ gg d c' = 1000000000) ∨ ∃ q, q < n + 1 ∧ ¬ d.1 74 q = 0 ∧ d.1 73 c' = nI q ∧ gg d c' = uu d (ro d q) + vv d c' - ww d (ro d q) c') ∧ ((st = 0 ∧ col = n) ∨ (0 < st ∧ col < n ∧ d.1 74 col = 0 ∧ gg d col = 0)) ∧ (∀ c', c' < n → ¬ d.1 74 c' = 0 → ∃ q, q < n + 1 ∧ ¬ d.1 74 q = 0 ∧ d.1 73 c' = nI q ∧ ρ q < ρ c' ∧ uu d (ro d q) + vv d c' = ww d (ro d q) c') ∧ (∀ q, q < n + 1 → ¬ d.1 74 q = 0 → ρ q < st)
theorem sea.T {d : mS} {n row : Nat} {S : Nat → Prop} {β : Int} {cf col st : Nat} {ρ : Nat → Nat} (h_ : sea d n row S β cf col st ρ) : tbl d n := h_.1
theorem sea.M {d : mS} {n row : Nat} {S : Nat → Prop} {β : Int} {cf col st : Nat} {ρ : Nat → Nat} (h_ : sea d n row S β cf col st ρ) : mat d n S := h_.2.1
theorem sea.P {d : mS} {n row : Nat} {S : Nat → Prop} {β : Int} {cf col st : Nat} {ρ : Nat → Nat} (h_ : sea d n row S β cf col st ρ) : pri d n S β := h_.2.2.1
theorem sea.b {d : mS} {n row : Nat} {S : Nat → Prop} {β : Int} {cf col st : Nat} {ρ : Nat → Nat} (h_ : sea d n row S β cf col st ρ) : 0 ≤ β ∧ β ≤ 230 := h_.2.2.2.1
theorem sea.r {d : mS} {n row : Nat} {S : Nat → Prop} {β : Int} {cf col st : Nat} {ρ : Nat → Nat} (h_ : sea d n row S β cf col st ρ) : row < n ∧ ¬ S row ∧ d.1 68 n = nI row := h_.2.2.2.2.1
theorem sea.c {d : mS} {n row : Nat} {S : Nat → Prop} {β : Int} {cf col st : Nat} {ρ : Nat → Nat} (h_ : sea d n row S β cf col st ρ) : cf < n ∧ d.1 68 cf = -1 ∧ vv d cf ≤ β := h_.2.2.2.2.2.1
theorem sea.x {d : mS} {n row : Nat} {S : Nat → Prop} {β : Int} {cf col st : Nat} {ρ : Nat → Nat} (h_ : sea d n row S β cf col st ρ) : ∀ c', c' < n → ¬ d.1 74 c' = 0 → ¬ d.1 68 c' = -1 := h_.2.2.2.2.2.2.1
theorem sea.z {d : mS} {n row : Nat} {S : Nat → Prop} {β : Int} {cf col st : Nat} {ρ : Nat → Nat} (h_ : sea d n row S β cf col st ρ) : st = 0 → ∀ c', c' < n + 1 → d.1 74 c' = 0 := h_.2.2.2.2.2.2.2.1
theorem sea.y {d : mS} {n row : Nat} {S : Nat → Prop} {β : Int} {cf col st : Nat} {ρ : Nat → Nat} (h_ : sea d n row S β cf col st ρ) : 0 < st → ¬ d.1 74 n = 0 := h_.2.2.2.2.2.2.2.2.1
theorem sea.k {d : mS} {n row : Nat} {S : Nat → Prop} {β : Int} {cf col st : Nat} {ρ : Nat → Nat} (h_ : sea d n row S β cf col st ρ) : fb_ct (fun c' => decide (¬ d.1 74 c' = 0)) (n + 1) = st := h_.2.2.2.2.2.2.2.2.2.1
theorem sea.ur {d : mS} {n row : Nat} {S : Nat → Prop} {β : Int} {cf col st : Nat} {ρ : Nat → Nat} (h_ : sea d n row S β cf col st ρ) : -500 ≤ uu d row ∧ uu d row ≤ 500 := h_.2.2.2.2.2.2.2.2.2.2.1
theorem sea.uf {d : mS} {n row : Nat} {S : Nat → Prop} {β : Int} {cf col st : Nat} {ρ : Nat → Nat} (h_ : sea d n row S β cf col st ρ) : 0 < st → uu d row ≤ 230 + β ∧ ∀ c', c' < n → ww d row c' ≤ uu d row + vv d c' := h_.2.2.2.2.2.2.2.2.2.2.2.1
theorem sea.g1 {d : mS} {n row : Nat} {S : Nat → Prop} {β : Int} {cf col st : Nat} {ρ : Nat → Nat} (h_ : sea d n row S β cf col st ρ) : ∀ c', c' < n → d.1 74 c' = 0 → ∀ q, q < n + 1 → ¬ d.1 74 q = 0 → gg d c' ≤ uu d (ro d q) + vv d c' - ww d (ro d q) c' := h_.2.2.2.2.2.2.2.2.2.2.2.2.1
theorem sea.g2 {d : mS} {n row : Nat} {S : Nat → Prop} {β : Int} {cf col st : Nat} {ρ : Nat → Nat} (h_ : sea d n row S β cf col st ρ) : ∀ c', c' < n → d.1 74 c' = 0 → (st = 0 ∧ gg d c' = 1000000000) ∨ ∃ q, q < n + 1 ∧ ¬ d.1 74 q = 0 ∧ d.1 73 c' = nI q ∧ gg d c' = uu d (ro d q) + vv d c' - ww d (ro d q) c' := h_.2.2.2.2.2.2.2.2.2.2.2.2.2.1
theorem sea.co {d : mS} {n row : Nat} {S : Nat → Prop} {β : Int} {cf col st : Nat} {ρ : Nat → Nat} (h_ : sea d n row S β cf col st ρ) : (st = 0 ∧ col = n) ∨ (0 < st ∧ col < n ∧ d.1 74 col = 0 ∧ gg d col = 0) := h_.2.2.2.2.2.2.2.2.2.2.2.2.2.2.1
theorem sea.pa {d : mS} {n row : Nat} {S : Nat → Prop} {β : Int} {cf col st : Nat} {ρ : Nat → Nat} (h_ : sea d n row S β cf col st ρ) : ∀ c', c' < n → ¬ d.1 74 c' = 0 → ∃ q, q < n + 1 ∧ ¬ d.1 74 q = 0 ∧ d.1 73 c' = nI q ∧ ρ q < ρ c' ∧ uu d (ro d q) + vv d c' = ww d (ro d q) c' := h_.2.2.2.2.2.2.2.2.2.2.2.2.2.2.2.1
theorem sea.rk {d : mS} {n row : Nat} {S : Nat → Prop} {β : Int} {cf col st : Nat} {ρ : Nat → Nat} (h_ : sea d n row S β cf col st ρ) : ∀ q, q < n + 1 → ¬ d.1 74 q = 0 → ρ q < st := h_.2.2.2.2.2.2.2.2.2.2.2.2.2.2.2.2
theorem nIm1 {r : Nat} (h : r < 2147483648) : ¬ nI r = -1 := fun q => by
  have h1 : (nI r).toInt = (r : Int) := nI_T r h
  rw [q] at h1
  have h2 : ((-1 : Int32)).toInt = -1 := by decide
  omega
theorem ro_nI {d : mS} {c r : Nat} (h : d.1 68 c = nI r) (hr : r < 2147483648) : ro d c = r := by
  show nv (d.1 68 c) = r
  rw [h]; exact nv_nI hr
theorem ct_in {p q : Nat → Bool} {i n : Nat} (hi : i < n) (h0 : p i = false) (h1 : q i = true) (h : ∀ k, k ≠ i → q k = p k) : fb_ct q n = fb_ct p n + 1 := by
  have e : q = fun k => if k = i then true else p k := funext fun k => by
    by_cases z : k = i
    · subst z; rw [if_pos rfl, h1]
    · rw [if_neg z, h k z]
  have := fb_ct_upd p true (i := i) (n := n) hi
  rw [← e, h0] at this
  simpa using this
theorem ct_lt {p : Nat → Bool} {i n : Nat} (hi : i < n) (h0 : p i = false) : fb_ct p n < n := by
  have h1 := fb_ct_le p n
  rcases Nat.lt_or_ge (fb_ct p n) n with q | q
  · exact q
  · have e : fb_ct p n = n := by omega
    have := fb_ct_all.mp e i hi
    rw [h0] at this
    exact absurd this Bool.false_ne_true
theorem sea_le {d : mS} {n row : Nat} {S : Nat → Prop} {β : Int} {cf col st : Nat} {ρ : Nat → Nat} (h : sea d n row S β cf col st ρ) : st ≤ n := by
  have hc := h.c
  have h0 : d.1 74 cf = 0 := Decidable.of_not_not (fun q => h.x cf hc.1 q hc.2.1)
  have := ct_lt (p := fun c' => decide (¬ d.1 74 c' = 0)) (i := cf) (n := n + 1) (by omega) (decide_eq_false (fun q => q h0))
  rw [h.k] at this
  omega
/-- the lower bound of a price -/
theorem pri_lo {d : mS} {n : Nat} {S : Nat → Prop} {β : Int} {cf r : Nat} (T : tbl d n) (hc : cf < n) (hr : r < n) (hv : vv d cf ≤ β) (hf : ww d r cf ≤ uu d r + vv d cf) : -β ≤ uu d r := by
  have := (T.w r cf hr hc).1
  omega
set_option maxHeartbeats 4000000 in
theorem sea_step {d : mS} {n row : Nat} {S : Nat → Prop} {β : Int} {cf col st : Nat} {ρ : Nat → Nat} (h : sea d n row S β cf col st ρ) (hcol : ¬ d.1 68 col = -1) : sea (ncD (mset d 74 col (nI 1)) n col (ro d col)) n row S β cf (ncL (mset d 74 col (nI 1)) n col (ro d col) n).2.2 (st + 1) (fun q => if q = col then st else ρ q) := by
  have hT := h.T
  have hM := h.M
  have hP := h.P
  have hb := h.b
  have hr := h.r
  have hcf := h.c
  have n14 := hT.n14
  have hle := sea_le h
  have o1 : ∀ j, j ≠ 74 → (mset d 74 col (nI 1)).1 j = d.1 j := fun j hj => mset_ne hj
  have rc : ∀ q, ¬ (mset d 74 col (nI 1)).1 74 q = 0 ↔ (q = col ∨ ¬ d.1 74 q = 0) := by
    intro q
    by_cases z : q = col
    · subst z; rw [mset_at]; exact ⟨fun _ => Or.inl rfl, fun _ => by decide⟩
    · rw [mset_off z]; exact ⟨Or.inr, fun y => y.resolve_left z⟩
  have colle : col < n + 1 := by rcases h.co with q | q <;> omega
  have col0 : d.1 74 col = 0 := by
    rcases h.co with q | q
    · exact h.z q.1 col colle
    · exact q.2.2.1
  have cfc : cf ≠ col := fun q => hcol (q ▸ hcf.2.1)
  -- the rows of what was reached
  have rs : ∀ q, q < n + 1 → ¬ (mset d 74 col (nI 1)).1 74 q = 0 → (q = n ∧ ro d q = row) ∨ (q < n ∧ 0 < st ∧ d.1 68 q = nI (ro d q) ∧ ro d q < n ∧ S (ro d q)) := by
    intro q hq h1
    rcases Nat.lt_or_ge q n with z | z
    · right
      have hst : 0 < st := by
        rcases Nat.eq_zero_or_pos st with y | y
        · exfalso
          rcases (rc q).mp h1 with e | e
          · rcases h.co with w | w <;> omega
          · exact e (h.z y q hq)
        · exact y
      have ha : ¬ d.1 68 q = -1 := by
        rcases (rc q).mp h1 with e | e
        · rw [e]; exact hcol
        · exact h.x q z e
      exact ⟨z, hst, (hM.a q z).resolve_left ha⟩
    · left
      have : q = n := by omega
      subst this
      exact ⟨rfl, ro_nI hr.2.2 (by omega)⟩
  have rlt : ∀ q, q < n + 1 → ¬ (mset d 74 col (nI 1)).1 74 q = 0 → ro d q < n := by
    intro q hq h1
    rcases rs q hq h1 with y | y
    · rw [y.2]; exact hr.1
    · exact y.2.2.2.1
  have colR : ¬ (mset d 74 col (nI 1)).1 74 col = 0 := (rc col).mpr (Or.inl rfl)
  have hR := rlt col colle colR
  -- the bounds of prices
  have ub : ∀ q, q < n + 1 → ¬ (mset d 74 col (nI 1)).1 74 q = 0 → -500 ≤ uu d (ro d q) ∧ uu d (ro d q) ≤ 500 := by
    intro q hq h1
    rcases rs q hq h1 with y | y
    · rw [y.2]; exact h.ur
    · have a1 := hP.u _ y.2.2.2.1 y.2.2.2.2
      have a2 := pri_lo (S := S) hT hcf.1 y.2.2.2.1 hcf.2.2 (hP.f _ y.2.2.2.1 y.2.2.2.2 cf hcf.1)
      omega
  have hub := ub col colle colR
  -- the direct way
  have dirI : ∀ c, c < n → (dirV (mset d 74 col (nI 1)) (ro d col) c).toInt = uu d (ro d col) + vv d c - ww d (ro d col) c := by
    intro c hc
    have a1 := hP.v c hc
    have a2 := hT.w _ c hR hc
    unfold dirV
    rw [o1 66 (by decide), o1 67 (by decide), o1 (200 + ro d col) (by omega)]
    have e1 : (d.1 66 (ro d col) + d.1 67 c).toInt = uu d (ro d col) + vv d c := t_add (show -2147483648 ≤ uu d (ro d col) + vv d c by omega) (show uu d (ro d col) + vv d c < 2147483648 by omega)
    rw [t_sub (by rw [e1]; show -2147483648 ≤ uu d (ro d col) + vv d c - ww d (ro d col) c; omega) (by rw [e1]; show uu d (ro d col) + vv d c - ww d (ro d col) c < 2147483648; omega), e1]
  have gI : ∀ c, ((mset d 74 col (nI 1)).1 72 c).toInt = gg d c := fun c => by rw [o1 72 (by decide)]
  have un : ∀ c, (mset d 74 col (nI 1)).1 74 c = 0 ↔ (c ≠ col ∧ d.1 74 c = 0) := by
    intro c
    by_cases z : c = col
    · subst z
      rw [mset_at]
      exact ⟨fun q => absurd q (by decide), fun q => absurd rfl q.1⟩
    · rw [mset_off z]; exact ⟨fun q => ⟨z, q⟩, fun q => q.2⟩
  -- the nearer way
  have kI1 : ∀ c, c < n → (mset d 74 col (nI 1)).1 74 c = 0 → (kg (mset d 74 col (nI 1)) (ro d col) c).toInt ≤ uu d (ro d col) + vv d c - ww d (ro d col) c := by
    intro c hc h0
    unfold kg
    split
    · rw [dirI c hc]; exact Int.le_refl _
    · next hn => rw [← dirI c hc]; exact t_le.mp (iNL.mp hn)
  have kI2 : ∀ c, c < n → (mset d 74 col (nI 1)).1 74 c = 0 → (kg (mset d 74 col (nI 1)) (ro d col) c).toInt ≤ gg d c := by
    intro c hc h0
    unfold kg
    split
    · next hy => rw [← gI c]; exact Int.le_of_lt (t_lt.mp hy)
    · rw [gI c]; exact Int.le_refl _
  have kI3 : ∀ c, c < n → (mset d 74 col (nI 1)).1 74 c = 0 → (dirV (mset d 74 col (nI 1)) (ro d col) c < (mset d 74 col (nI 1)).1 72 c ∧ (kg (mset d 74 col (nI 1)) (ro d col) c).toInt = uu d (ro d col) + vv d c - ww d (ro d col) c) ∨ (¬ dirV (mset d 74 col (nI 1)) (ro d col) c < (mset d 74 col (nI 1)).1 72 c ∧ (kg (mset d 74 col (nI 1)) (ro d col) c).toInt = gg d c ∧ ∃ q, q < n + 1 ∧ ¬ d.1 74 q = 0 ∧ d.1 73 c = nI q ∧ gg d c = uu d (ro d q) + vv d c - ww d (ro d q) c) := by
    intro c hc h0
    by_cases hy : dirV (mset d 74 col (nI 1)) (ro d col) c < (mset d 74 col (nI 1)).1 72 c
    · left
      refine ⟨hy, ?_⟩
      unfold kg
      rw [if_pos hy, dirI c hc]
    · right
      refine ⟨hy, ?_, ?_⟩
      · unfold kg
        rw [if_neg hy, gI c]
      · rcases h.g2 c hc ((un c).mp h0).2 with g | g
        · exfalso
          apply hy
          rw [t_lt, dirI c hc, gI c, g.2]
          have a1 := hP.v c hc
          have a2 := hT.w _ c hR hc
          omega
        · exact g
  have PP := ncP_all (mset d 74 col (nI 1)) n col (ro d col) n
  generalize hN : ncL (mset d 74 col (nI 1)) n col (ro d col) n = p at PP
  obtain ⟨e, l, k⟩ := p
  have cf0 : (mset d 74 col (nI 1)).1 74 cf = 0 := (un cf).mpr ⟨cfc, Decidable.of_not_not (fun q => h.x cf hcf.1 q hcf.2.1)⟩
  have hk : k < n ∧ (mset d 74 col (nI 1)).1 74 k = 0 ∧ l = kg (mset d 74 col (nI 1)) (ro d col) k := by
    rcases PP.l2 with q | q
    · exfalso
      have a := t_le.mp (PP.l1 cf hcf.1 cf0)
      have b := kI1 cf hcf.1 cf0
      have c1 := hP.v cf hcf.1
      have c2 := hT.w _ cf hR hcf.1
      have e9 : l.toInt = 1000000000 := by
        have : l = nI 1000000000 := q.2
        rw [this]; decide
      have a' : l.toInt ≤ (kg (mset d 74 col (nI 1)) (ro d col) cf).toInt := a
      omega
    · exact q
  have hl : ∀ c, c < n → (mset d 74 col (nI 1)).1 74 c = 0 → l.toInt ≤ (kg (mset d 74 col (nI 1)) (ro d col) c).toInt := fun c hc h0 => t_le.mp (PP.l1 c hc h0)
  have hlk : l.toInt = (kg (mset d 74 col (nI 1)) (ro d col) k).toInt := by rw [← hk.2.2]
  have feasR : 0 < st → ∀ q, q < n + 1 → ¬ (mset d 74 col (nI 1)).1 74 q = 0 → ∀ c, c < n → ww d (ro d q) c ≤ uu d (ro d q) + vv d c := by
    intro hst q hq h1 c hc
    rcases rs q hq h1 with y | y
    · rw [y.2]; exact (h.uf hst).2 c hc
    · exact hP.f _ y.2.2.2.1 y.2.2.2.2 c hc
  have sub1 : ∀ q, ¬ d.1 74 q = 0 → ¬ (mset d 74 col (nI 1)).1 74 q = 0 := fun q hq => (rc q).mpr (Or.inr hq)
  have hl0 : 0 < st → 0 ≤ l.toInt := by
    intro hst
    rw [hlk]
    rcases kI3 k hk.1 hk.2.1 with y | y
    · rw [y.2]
      have := feasR hst col colle colR k hk.1
      omega
    · obtain ⟨q, q1, q2, q3, q4⟩ := y.2.2
      rw [y.2.1, q4]
      have := feasR hst q q1 (sub1 q q2) k hk.1
      omega
  have hlb : -2000 ≤ l.toInt ∧ l.toInt ≤ 2000 := by
    have a := hl cf hcf.1 cf0
    have b := kI1 cf hcf.1 cf0
    have c1 := hP.v cf hcf.1
    have c2 := hT.w _ cf hR hcf.1
    refine ⟨?_, by omega⟩
    rcases Nat.eq_zero_or_pos st with y | y
    · rw [hlk]
      have d1 := hP.v k hk.1
      have d2 := hT.w _ k hR hk.1
      rcases kI3 k hk.1 hk.2.1 with w | w
      · omega
      · obtain ⟨q, q1, q2, q3, q4⟩ := w.2.2
        exact absurd (h.z y q q1) q2
    · have := hl0 y
      omega
  have e74 : ∀ c, e.1 74 c = (mset d 74 col (nI 1)).1 74 c := fun c => by rw [PP.o 74 (by decide) (by decide)]
  have e68 : ∀ c, e.1 68 c = d.1 68 c := fun c => by rw [PP.o 68 (by decide) (by decide), o1 68 (by decide)]
  have inj : ∀ q q', q < n + 1 → q' < n + 1 → ¬ (mset d 74 col (nI 1)).1 74 q = 0 → ¬ (mset d 74 col (nI 1)).1 74 q' = 0 → ro d q = ro d q' → q = q' := by
    intro q q' hq hq' h1 h1' er
    rcases rs q hq h1 with y | y
    · rcases rs q' hq' h1' with y' | y'
      · omega
      · exact absurd (by rw [← y.2, er]; exact y'.2.2.2.2) hr.2.1
    · rcases rs q' hq' h1' with y' | y'
      · exact absurd (by rw [← y'.2, ← er]; exact y.2.2.2.2) hr.2.1
      · refine hM.i q q' y.1 y'.1 ?_ ?_
        · rw [y.2.2.1]; exact nIm1 (by omega)
        · rw [y.2.2.1, y'.2.2.1, er]
  have UU := nuP_all (e := e) (l := l) (M := n + 1) (fun c c' hc hc' h1 h1' er => by
    rw [e74] at h1 h1'
    rw [e68, e68] at er
    exact inj c c' hc hc' h1 h1' er) (n + 1) (Nat.le_refl _)
  have hD : ncD (mset d 74 col (nI 1)) n col (ro d col) = ncU e l (n + 1) := by unfold ncD; rw [hN]
  rw [hD]
  generalize ncU e l (n + 1) = f at UU
  -- the new state, in numbers
  have f68 : ∀ c, f.1 68 c = d.1 68 c := fun c => by rw [UU.o 68 (by decide) (by decide) (by decide), e68]
  have fro : ∀ c, ro f c = ro d c := fun c => by show nv (f.1 68 c) = _; rw [f68]
  have f74 : ∀ c, f.1 74 c = (mset d 74 col (nI 1)).1 74 c := fun c => by rw [UU.o 74 (by decide) (by decide) (by decide), e74]
  have fw : ∀ r c, ww f r c = ww d r c := fun r c => by
    show (f.1 (200 + r) c).toInt = _
    rw [UU.o (200 + r) (by omega) (by omega) (by omega), PP.o (200 + r) (by omega) (by omega), o1 (200 + r) (by omega)]
  have f65 : f.1 65 0 = nI n := by
    rw [UU.o 65 (by decide) (by decide) (by decide), PP.o 65 (by decide) (by decide), o1 65 (by decide)]; exact hT.s
  have e66 : ∀ r, e.1 66 r = d.1 66 r := fun r => by rw [PP.o 66 (by decide) (by decide), o1 66 (by decide)]
  have e67 : ∀ c, e.1 67 c = d.1 67 c := fun c => by rw [PP.o 67 (by decide) (by decide), o1 67 (by decide)]
  have fu : ∀ q, q < n + 1 → ¬ (mset d 74 col (nI 1)).1 74 q = 0 → uu f (ro d q) = uu d (ro d q) - l.toInt := by
    intro q hq h1
    have a := UU.u1 q hq (by rw [e74]; exact h1)
    rw [e68, e66] at a
    have b := ub q hq h1
    show (f.1 66 (ro d q)).toInt = _
    rw [a, t_sub (by show -2147483648 ≤ uu d (ro d q) - l.toInt; omega) (by show uu d (ro d q) - l.toInt < 2147483648; omega)]
  have fuo : ∀ r, (∀ q, q < n + 1 → ¬ (mset d 74 col (nI 1)).1 74 q = 0 → ro d q ≠ r) → uu f r = uu d r := by
    intro r hr2
    have a := UU.u2 r (fun q hq h1 => by
      rw [e68]; exact hr2 q hq (by rw [← e74]; exact h1))
    show (f.1 66 r).toInt = _
    rw [a, e66]
  have fv : ∀ c, c < n → ¬ (mset d 74 col (nI 1)).1 74 c = 0 → vv f c = vv d c + l.toInt := by
    intro c hc h1
    have a := UU.v c
    rw [if_pos ⟨by omega, by rw [e74]; exact h1⟩, e67] at a
    have b := hP.v c hc
    show (f.1 67 c).toInt = _
    rw [a, t_add (by show -2147483648 ≤ vv d c + l.toInt; omega) (by show vv d c + l.toInt < 2147483648; omega)]
  have fvo : ∀ c, (mset d 74 col (nI 1)).1 74 c = 0 → vv f c = vv d c := by
    intro c h1
    have a := UU.v c
    rw [if_neg (fun q => q.2 (by rw [e74]; exact h1)), e67] at a
    show (f.1 67 c).toInt = _
    rw [a]
  have kb : ∀ c, c < n → (mset d 74 col (nI 1)).1 74 c = 0 → -3000 ≤ (kg (mset d 74 col (nI 1)) (ro d col) c).toInt ∧ (kg (mset d 74 col (nI 1)) (ro d col) c).toInt ≤ 3000 := by
    intro c hc h0
    have a := hl c hc h0
    have b := kI1 c hc h0
    have c1 := hP.v c hc
    have c2 := hT.w _ c hR hc
    omega
  have fg : ∀ c, c < n → (mset d 74 col (nI 1)).1 74 c = 0 → gg f c = (kg (mset d 74 col (nI 1)) (ro d col) c).toInt - l.toInt := by
    intro c hc h0
    have a := UU.g c
    rw [if_pos ⟨by omega, by rw [e74]; exact h0⟩, PP.g c, if_pos ⟨hc, h0⟩] at a
    have b := kb c hc h0
    show (f.1 72 c).toInt = _
    rw [a, t_sub (by omega) (by omega)]
  have f73 : ∀ c, f.1 73 c = if c < n ∧ (mset d 74 col (nI 1)).1 74 c = 0 ∧ dirV (mset d 74 col (nI 1)) (ro d col) c < (mset d 74 col (nI 1)).1 72 c then nI col else d.1 73 c := by
    intro c
    rw [UU.o 73 (by decide) (by decide) (by decide), PP.f c, o1 73 (by decide)]
  -- who is not reached
  have unr : ∀ c, c < n → (mset d 74 col (nI 1)).1 74 c = 0 → ¬ d.1 68 c = -1 → ∀ q, q < n + 1 → ¬ (mset d 74 col (nI 1)).1 74 q = 0 → ro d q ≠ ro d c := by
    intro c hc h0 ha q hq h1 er
    have hca := (hM.a c hc).resolve_left ha
    rcases rs q hq h1 with y | y
    · exact hr.2.1 (by rw [← y.2, er]; exact hca.2.2)
    · have := hM.i q c y.1 hc (by rw [y.2.2.1]; exact nIm1 (by omega)) (by rw [y.2.2.1, hca.1, er])
      subst this
      exact h1 h0
  have st0n : ∀ c, c < n → ¬ (mset d 74 col (nI 1)).1 74 c = 0 → 0 < st := by
    intro c hc h1
    rcases rs c (by omega) h1 with y | y
    · omega
    · exact y.2.1
  have fcol : ¬ (mset d 74 col (nI 1)).1 74 n = 0 := by
    rcases Nat.eq_zero_or_pos st with y | y
    · rcases h.co with w | w
      · exact (rc n).mpr (Or.inl w.2.symm)
      · omega
    · exact sub1 n (h.y y)
  have rown : ro d n = row := ro_nI hr.2.2 (by omega)
  -- feasible
  have feas : ∀ r, r < n → (S r ∨ r = row) → ∀ c, c < n → ww d r c ≤ uu f r + vv f c := by
    intro r hrn hSr c hc
    by_cases hq : ∃ q, q < n + 1 ∧ ¬ (mset d 74 col (nI 1)).1 74 q = 0 ∧ ro d q = r
    · obtain ⟨q, q1, q2, q3⟩ := hq
      have a := fu q q1 q2
      rw [q3] at a
      by_cases h0 : (mset d 74 col (nI 1)).1 74 c = 0
      · have b := fvo c h0
        have c1 := hl c hc h0
        have c2 : (kg (mset d 74 col (nI 1)) (ro d col) c).toInt ≤ uu d r + vv d c - ww d r c := by
          rcases (rc q).mp q2 with w | w
          · have := kI1 c hc h0
            have er : ro d col = r := by rw [← w]; exact q3
            rw [er] at this
            rw [er]; exact this
          · have g := h.g1 c hc ((un c).mp h0).2 q q1 w
            rw [q3] at g
            have := kI2 c hc h0
            omega
        omega
      · have b := fv c hc h0
        have := feasR (st0n c hc h0) q q1 q2 c hc
        rw [q3] at this
        omega
    · have a := fuo r (fun q q1 q2 q3 => hq ⟨q, q1, q2, q3⟩)
      have hS : S r := by
        rcases hSr with w | w
        · exact w
        · exact absurd ⟨n, by omega, fcol, by rw [rown, w]⟩ hq
      have fe := hP.f r hrn hS c hc
      by_cases h0 : (mset d 74 col (nI 1)).1 74 c = 0
      · have b := fvo c h0
        omega
      · have b := fv c hc h0
        have := hl0 (st0n c hc h0)
        omega
  have tight : ∀ c, c < n → ¬ d.1 68 c = -1 → uu f (ro d c) + vv f c = ww d (ro d c) c := by
    intro c hc ha
    have t := hP.t c hc ha
    by_cases h0 : (mset d 74 col (nI 1)).1 74 c = 0
    · have a := fuo (ro d c) (unr c hc h0 ha)
      have b := fvo c h0
      omega
    · have a := fu c (by omega) h0
      have b := fv c hc h0
      omega
  have vcf : vv f cf = vv d cf := fvo cf cf0
  have ulo : ∀ r, r < n → (S r ∨ r = row) → -β ≤ uu f r := by
    intro r hrn hSr
    have a := feas r hrn hSr cf hcf.1
    have b := (hT.w r cf hrn hcf.1).1
    omega
  have uhi : ∀ r, r < n → S r → uu f r ≤ 230 + β := by
    intro r hrn hS
    have a := hP.u r hrn hS
    by_cases hq : ∃ q, q < n + 1 ∧ ¬ (mset d 74 col (nI 1)).1 74 q = 0 ∧ ro d q = r
    · obtain ⟨q, q1, q2, q3⟩ := hq
      have b := fu q q1 q2
      rw [q3] at b
      rcases rs q q1 q2 with y | y
      · exact absurd hS (by rw [← q3, y.2]; exact hr.2.1)
      · have := hl0 y.2.1
        omega
    · have b := fuo r (fun q q1 q2 q3 => hq ⟨q, q1, q2, q3⟩)
      omega
  have urow : uu f row = uu d row - l.toInt := by
    have := fu n (by omega) fcol
    rw [rown] at this; exact this
  have urh : uu f row ≤ 230 + β := by
    rcases Nat.eq_zero_or_pos st with y | y
    · have cn : col = n := by rcases h.co with w | w <;> omega
      have kk := kI3 k hk.1 hk.2.1
      have hkd : (kg (mset d 74 col (nI 1)) (ro d col) k).toInt = uu d row + vv d k - ww d row k := by
        rcases kk with w | w
        · rw [w.2, cn, rown]
        · obtain ⟨q, q1, q2, q3, q4⟩ := w.2.2
          exact absurd (h.z y q q1) q2
      have c1 := hP.v k hk.1
      have c2 := hT.w row k hr.1 hk.1
      omega
    · have a := (h.uf y).1
      have b := hl0 y
      omega
  have vb : ∀ c, c < n → 0 ≤ vv f c ∧ vv f c ≤ 230 + β := by
    intro c hc
    have a := hP.v c hc
    by_cases h0 : (mset d 74 col (nI 1)).1 74 c = 0
    · rw [fvo c h0]; exact a
    · have b := fv c hc h0
      have c1 := hl0 (st0n c hc h0)
      refine ⟨by omega, ?_⟩
      rcases rs c (by omega) h0 with y | y
      · omega
      · have t := tight c hc (by rw [y.2.2.1]; exact nIm1 (by omega))
        have u := ulo (ro d c) y.2.2.2.1 (Or.inl y.2.2.2.2)
        have w := (hT.w (ro d c) c y.2.2.2.1 hc).2
        omega
  refine ⟨⟨f65, n14, fun r c a b => by rw [fw]; exact hT.w r c a b⟩, ⟨?_, ?_, ?_⟩, ⟨?_, ?_, vb, uhi⟩, hb, ⟨hr.1, hr.2.1, by rw [f68]; exact hr.2.2⟩, ⟨hcf.1, by rw [f68]; exact hcf.2.1, by rw [vcf]; exact hcf.2.2⟩, ?_, fun q => absurd q (Nat.succ_ne_zero _), fun _ => by rw [f74]; exact fcol, ?_, ⟨by have := ulo row hr.1 (Or.inr rfl); omega, by omega⟩, fun _ => ⟨urh, fun c hc => by rw [fw]; exact feas row hr.1 (Or.inr rfl) c hc⟩, ?_, ?_, Or.inr ⟨Nat.succ_pos _, hk.1, by rw [f74]; exact hk.2.1, ?_⟩, ?_, ?_⟩
  · intro c hc
    rw [f68, fro]; exact hM.a c hc
  · intro c c' hc hc'
    rw [f68, f68]; exact hM.i c c' hc hc'
  · intro r hrn hS
    obtain ⟨c, c1, c2⟩ := hM.p r hrn hS
    exact ⟨c, c1, by rw [f68]; exact c2⟩
  · intro r hrn hS c hc
    rw [fw]; exact feas r hrn (Or.inl hS) c hc
  · intro c hc ha
    rw [f68] at ha
    rw [fro, fw]; exact tight c hc ha
  · intro c hc h1
    rw [f74] at h1
    rw [f68]
    rcases rs c (by omega) h1 with y | y
    · omega
    · rw [y.2.2.1]; exact nIm1 (by omega)
  · rw [← h.k]
    refine ct_in (i := col) colle (decide_eq_false (fun q => q col0)) (decide_eq_true (by rw [f74]; exact colR)) (fun q hq => ?_)
    rw [f74, mset_off hq]
  · intro c hc h0 q hq h1
    rw [f74] at h0 h1
    rw [fro, fw, fg c hc h0, fu q hq h1, fvo c h0]
    rcases (rc q).mp h1 with w | w
    · have := kI1 c hc h0
      rw [← w] at this
      rw [← w]
      omega
    · have g := h.g1 c hc ((un c).mp h0).2 q hq w
      have := kI2 c hc h0
      omega
  · intro c hc h0
    rw [f74] at h0
    right
    rcases kI3 c hc h0 with w | w
    · refine ⟨col, colle, by rw [f74]; exact colR, by rw [f73, if_pos ⟨hc, h0, w.1⟩], ?_⟩
      rw [fro, fw, fg c hc h0, fu col colle colR, fvo c h0, w.2]
      omega
    · obtain ⟨q, q1, q2, q3, q4⟩ := w.2.2
      refine ⟨q, q1, by rw [f74]; exact sub1 q q2, by rw [f73, if_neg (fun z => w.1 z.2.2)]; exact q3, ?_⟩
      rw [fro, fw, fg c hc h0, fu q q1 (sub1 q q2), fvo c h0, w.2.1, q4]
      omega
  · rw [fg k hk.1 hk.2.1]
    show (kg (mset d 74 col (nI 1)) (ro d col) k).toInt - l.toInt = 0
    omega
  · intro c hc h1
    rw [f74] at h1
    have h73 : f.1 73 c = d.1 73 c := by rw [f73, if_neg (fun z => h1 z.2.1)]
    by_cases z : c = col
    · have hst := st0n c hc h1
      rcases h.co with w | w
      · omega
      · rcases h.g2 col w.2.1 w.2.2.1 with g | g
        · omega
        · obtain ⟨q, q1, q2, q3, q4⟩ := g
          refine ⟨q, q1, by rw [f74]; exact sub1 q q2, by rw [h73, z]; exact q3, ?_, ?_⟩
          · show (if q = col then st else ρ q) < (if c = col then st else ρ c)
            rw [if_pos z, if_neg (fun y => q2 (by rw [y]; exact col0))]
            exact h.rk q q1 q2
          · rw [fro, fw, fu q q1 (sub1 q q2), fv c hc h1, z]
            have := w.2.2.2
            omega
    · have hc0 : ¬ d.1 74 c = 0 := ((rc c).mp h1).resolve_left z
      obtain ⟨q, q1, q2, q3, q4, q5⟩ := h.pa c hc hc0
      refine ⟨q, q1, by rw [f74]; exact sub1 q q2, by rw [h73]; exact q3, ?_, ?_⟩
      · show (if q = col then st else ρ q) < (if c = col then st else ρ c)
        rw [if_neg z, if_neg (fun y => q2 (by rw [y]; exact col0))]
        exact q4
      · rw [fro, fw, fu q q1 (sub1 q q2), fv c hc h1]
        omega
  · intro q hq h1
    rw [f74] at h1
    show (if q = col then st else ρ q) < st + 1
    by_cases z : q = col
    · rw [if_pos z]; omega
    · rw [if_neg z]
      have := h.rk q hq (((rc q).mp h1).resolve_left z)
      omega
