/-! ===== seats, 1: counting, sums over a seating, one step of the search ===== -/
theorem t_add {a b : Int32} (h1 : -2147483648 ≤ a.toInt + b.toInt) (h2 : a.toInt + b.toInt < 2147483648) : (a + b).toInt = a.toInt + b.toInt := by
  have := zI_add a.toInt b.toInt
  rw [← zI_of, ← zI_of] at this
  rw [this, zI_T h1 h2]
theorem t_sub {a b : Int32} (h1 : -2147483648 ≤ a.toInt - b.toInt) (h2 : a.toInt - b.toInt < 2147483648) : (a - b).toInt = a.toInt - b.toInt := by
  have := zI_sub a.toInt b.toInt
  rw [← zI_of, ← zI_of] at this
  rw [this, zI_T h1 h2]
theorem t_lt {a b : Int32} : a < b ↔ a.toInt < b.toInt := Int32.lt_iff_toInt_lt
theorem t_le {a b : Int32} : a ≤ b ↔ a.toInt ≤ b.toInt := Int32.le_iff_toInt_le
theorem t_eq {a b : Int32} : a = b ↔ a.toInt = b.toInt := ⟨fun h => by rw [h], fun h => by rw [zI_of a, zI_of b, h]⟩
/-- the pigeons -/
theorem php : ∀ (k n : Nat) (f : Nat → Nat), (∀ c, c < n → f c < k) → (∀ c c', c < n → c' < n → f c = f c' → c = c') → n ≤ k
  | 0, n, f, h1, _ => by
    rcases Nat.eq_zero_or_pos n with q | q
    · omega
    · exact absurd (h1 0 q) (Nat.not_lt_zero _)
  | k + 1, 0, f, _, _ => Nat.zero_le _
  | k + 1, n + 1, f, h1, h2 => by
    have := php k n (fun c => if f c = k then f n else f c) (fun c hc => by
      show (if f c = k then f n else f c) < k
      by_cases q : f c = k
      · rw [if_pos q]
        have a := h1 n (by omega)
        have b : f n ≠ k := fun z => by
          have := h2 c n (by omega) (by omega) (q.trans z.symm)
          omega
        omega
      · rw [if_neg q]
        have := h1 c (by omega)
        omega) (fun c c' hc hc' e => by
      have e' : (if f c = k then f n else f c) = (if f c' = k then f n else f c') := e
      by_cases q : f c = k
      · by_cases q' : f c' = k
        · exact h2 c c' (by omega) (by omega) (q.trans q'.symm)
        · rw [if_pos q, if_neg q'] at e'
          have := h2 n c' (by omega) (by omega) e'
          omega
      · by_cases q' : f c' = k
        · rw [if_neg q, if_pos q'] at e'
          have := h2 c n (by omega) (by omega) e'
          omega
        · rw [if_neg q, if_neg q'] at e'
          exact h2 c c' (by omega) (by omega) e')
    omega
theorem php_miss {n row : Nat} {f : Nat → Nat} (hr : row < n) (h1 : ∀ c, c < n → f c < n ∧ f c ≠ row) (h2 : ∀ c c', c < n → c' < n → f c = f c' → c = c') : False := by
  have := php (n - 1) n (fun c => if row < f c then f c - 1 else f c) (fun c hc => by
    have := h1 c hc
    show (if row < f c then f c - 1 else f c) < n - 1
    split <;> omega) (fun c c' hc hc' e => by
    have a := h1 c hc
    have b := h1 c' hc'
    have e' : (if row < f c then f c - 1 else f c) = (if row < f c' then f c' - 1 else f c') := e
    apply h2 c c' hc hc'
    split at e' <;> split at e' <;> omega)
  omega
theorem php_onto {n r : Nat} {f : Nat → Nat} (hr : r < n) (h1 : ∀ c, c < n → f c < n) (h2 : ∀ c c', c < n → c' < n → f c = f c' → c = c') : ∃ c, c < n ∧ f c = r := by
  by_cases q : ∃ c, c < n ∧ f c = r
  · exact q
  · exact (php_miss hr (fun c hc => ⟨h1 c hc, fun e => q ⟨c, hc, e⟩⟩) h2).elim
/-- a sum with one place changed -/
theorem si_upd {f g : Nat → Int} {i : Nat} : ∀ {n : Nat}, i < n → (∀ k, k < n → k ≠ i → f k = g k) → fb_si f n + g i = fb_si g n + f i
  | 0, h, _ => absurd h (Nat.not_lt_zero i)
  | n + 1, h, e => by
    rw [fb_si_succ, fb_si_succ]
    rcases Nat.lt_or_ge i n with q | q
    · have ih := si_upd (f := f) (g := g) q (fun k hk hne => e k (by omega) hne)
      have := e n (by omega) (by omega)
      omega
    · have q' : i = n := by omega
      subst q'
      have := fb_si_ext (f := f) (g := g) (n := i) (fun k hk => e k (by omega) (by omega))
      omega
theorem si_perm {h : Nat → Int} : ∀ {n : Nat} {f : Nat → Nat}, (∀ c, c < n → f c < n) → (∀ c c', c < n → c' < n → f c = f c' → c = c') → fb_si (fun c => h (f c)) n = fb_si h n
  | 0, _, _, _ => rfl
  | n + 1, f, h1, h2 => by
    rw [fb_si_succ, fb_si_succ]
    by_cases q : f n = n
    · have := si_perm (h := h) (n := n) (f := f) (fun c hc => by
        have a := h1 c (by omega)
        have b : f c ≠ n := fun z => by
          have := h2 c n (by omega) (by omega) (z.trans q.symm)
          omega
        omega) (fun c c' hc hc' => h2 c c' (by omega) (by omega))
      rw [this, q]
    · obtain ⟨c0, hc0, e0⟩ := php_onto (r := n) (by omega) h1 h2
      have hc1 : c0 < n := by
        rcases Nat.lt_or_ge c0 n with z | z
        · exact z
        · have : c0 = n := by omega
          subst this; exact absurd e0 q
      have hfn := h1 n (by omega)
      have ih := si_perm (h := h) (n := n) (f := fun c => if f c = n then f n else f c) (fun c hc => by
        show (if f c = n then f n else f c) < n
        have := h1 c (by omega)
        split <;> omega) (fun c c' hc hc' e => by
        have e' : (if f c = n then f n else f c) = (if f c' = n then f n else f c') := e
        by_cases a : f c = n
        · by_cases a' : f c' = n
          · exact h2 c c' (by omega) (by omega) (a.trans a'.symm)
          · rw [if_pos a, if_neg a'] at e'
            have := h2 n c' (by omega) (by omega) e'
            omega
        · by_cases a' : f c' = n
          · rw [if_neg a, if_pos a'] at e'
            have := h2 c n (by omega) (by omega) e'
            omega
          · rw [if_neg a, if_neg a'] at e'
            exact h2 c c' (by omega) (by omega) e')
      have up := si_upd (f := fun c => h (f c)) (g := fun c => h (if f c = n then f n else f c)) (i := c0) hc1 (fun k hk hne => by
        show h (f k) = h (if f k = n then f n else f k)
        rw [if_neg (fun z => hne (h2 k c0 (by omega) (by omega) (z.trans e0.symm)))])
      rw [if_pos e0, e0, ih] at up
      omega
theorem si_add (f g : Nat → Int) : ∀ n, fb_si (fun k => f k + g k) n = fb_si f n + fb_si g n
  | 0 => rfl
  | n + 1 => by rw [fb_si_succ, fb_si_succ, fb_si_succ, si_add f g n]; omega
/-- the views -/
abbrev uu (d : mS) (r : Nat) : Int := (d.1 66 r).toInt
abbrev vv (d : mS) (c : Nat) : Int := (d.1 67 c).toInt
abbrev ww (d : mS) (r c : Nat) : Int := (d.1 (200 + r) c).toInt
abbrev gg (d : mS) (c : Nat) : Int := (d.1 72 c).toInt
/-- the nearer of the two ways to a column -/
def kg (d : mS) (R c : Nat) : Int32 := if dirV d R c < d.1 72 c then dirV d R c else d.1 72 c
abbrev ncP (d : mS) (n C R c : Nat) (e : mS) (l : Int32) (k : Nat) : Prop := (∀ c', e.1 72 c' = if c' < c ∧ d.1 74 c' = 0 then kg d R c' else d.1 72 c') ∧ (∀ c', e.1 73 c' = if c' < c ∧ d.1 74 c' = 0 ∧ dirV d R c' < d.1 72 c' then nI C else d.1 73 c') ∧ (∀ j, j ≠ 72 → j ≠ 73 → e.1 j = d.1 j) ∧ (∀ c', c' < c → d.1 74 c' = 0 → l ≤ kg d R c') ∧ ((k = n ∧ l = nI 1000000000) ∨ (k < c ∧ d.1 74 k = 0 ∧ l = kg d R k))
theorem ncP.g {d : mS} {n C R c : Nat} {e : mS} {l : Int32} {k : Nat} (h_ : ncP d n C R c e l k) : ∀ c', e.1 72 c' = if c' < c ∧ d.1 74 c' = 0 then kg d R c' else d.1 72 c' := h_.1
theorem ncP.f {d : mS} {n C R c : Nat} {e : mS} {l : Int32} {k : Nat} (h_ : ncP d n C R c e l k) : ∀ c', e.1 73 c' = if c' < c ∧ d.1 74 c' = 0 ∧ dirV d R c' < d.1 72 c' then nI C else d.1 73 c' := h_.2.1
theorem ncP.o {d : mS} {n C R c : Nat} {e : mS} {l : Int32} {k : Nat} (h_ : ncP d n C R c e l k) : ∀ j, j ≠ 72 → j ≠ 73 → e.1 j = d.1 j := h_.2.2.1
theorem ncP.l1 {d : mS} {n C R c : Nat} {e : mS} {l : Int32} {k : Nat} (h_ : ncP d n C R c e l k) : ∀ c', c' < c → d.1 74 c' = 0 → l ≤ kg d R c' := h_.2.2.2.1
theorem ncP.l2 {d : mS} {n C R c : Nat} {e : mS} {l : Int32} {k : Nat} (h_ : ncP d n C R c e l k) : (k = n ∧ l = nI 1000000000) ∨ (k < c ∧ d.1 74 k = 0 ∧ l = kg d R k) := h_.2.2.2.2
theorem ncP_0 (d : mS) (n C R : Nat) : ncP d n C R 0 d (nI 1000000000) n := ⟨fun c' => (if_neg (fun q => Nat.not_lt_zero _ q.1)).symm, fun c' => (if_neg (fun q => Nat.not_lt_zero _ q.1)).symm, fun _ _ _ => rfl, fun c' h => absurd h (Nat.not_lt_zero _), Or.inl ⟨rfl, rfl⟩⟩
theorem gp_72 {d e : mS} {n C R c k : Nat} {l : Int32} (h : ncP d n C R c e l k) (h0 : d.1 74 c = 0) : (∀ c', (gpS e C R c).1 72 c' = if c' < c + 1 ∧ d.1 74 c' = 0 then kg d R c' else d.1 72 c') ∧ (∀ c', (gpS e C R c).1 73 c' = if c' < c + 1 ∧ d.1 74 c' = 0 ∧ dirV d R c' < d.1 72 c' then nI C else d.1 73 c') := by
  have ed : dirV e R c = dirV d R c := by
    unfold dirV
    rw [h.o 66 (by decide) (by decide), h.o 67 (by decide) (by decide), h.o (200 + R) (by omega) (by omega)]
  have eg : e.1 72 c = d.1 72 c := by rw [h.g c, if_neg (fun q => Nat.lt_irrefl _ q.1)]
  have ef : e.1 73 c = d.1 73 c := by rw [h.f c, if_neg (fun q => Nat.lt_irrefl _ q.1)]
  by_cases q : dirV e R c < e.1 72 c
  · rw [gpS_y q]
    rw [ed, eg] at q
    constructor
    · intro c'
      rw [mset_ne (by decide)]
      by_cases z : c' = c
      · subst z
        rw [mset_at, if_pos ⟨Nat.lt_succ_self _, h0⟩, ed]
        exact (if_pos q).symm
      · rw [mset_off z, h.g c']
        by_cases y : c' < c ∧ d.1 74 c' = 0
        · rw [if_pos y, if_pos ⟨by omega, y.2⟩]
        · rw [if_neg y, if_neg (fun x => y ⟨by omega, x.2⟩)]
    · intro c'
      by_cases z : c' = c
      · subst z
        rw [mset_at, if_pos ⟨Nat.lt_succ_self _, h0, q⟩]
      · rw [mset_off z, mset_ne (by decide), h.f c']
        by_cases y : c' < c ∧ d.1 74 c' = 0 ∧ dirV d R c' < d.1 72 c'
        · rw [if_pos y, if_pos ⟨by omega, y.2⟩]
        · rw [if_neg y, if_neg (fun x => y ⟨by omega, x.2⟩)]
  · rw [gpS_n q]
    rw [ed, eg] at q
    constructor
    · intro c'
      by_cases z : c' = c
      · subst z
        rw [if_pos ⟨Nat.lt_succ_self _, h0⟩, eg]
        exact (if_neg q).symm
      · rw [h.g c']
        by_cases y : c' < c ∧ d.1 74 c' = 0
        · rw [if_pos y, if_pos ⟨by omega, y.2⟩]
        · rw [if_neg y, if_neg (fun x => y ⟨by omega, x.2⟩)]
    · intro c'
      by_cases z : c' = c
      · subst z
        rw [ef, if_neg (fun x => q x.2.2)]
      · rw [h.f c']
        by_cases y : c' < c ∧ d.1 74 c' = 0 ∧ dirV d R c' < d.1 72 c'
        · rw [if_pos y, if_pos ⟨by omega, y.2⟩]
        · rw [if_neg y, if_neg (fun x => y ⟨by omega, x.2⟩)]
theorem ncP_all (d : mS) (n C R : Nat) : ∀ c, ncP d n C R c (ncL d n C R c).1 (ncL d n C R c).2.1 (ncL d n C R c).2.2
  | 0 => ncP_0 d n C R
  | c + 1 => by
    have ih := ncP_all d n C R c
    generalize hc : ncL d n C R c = p at ih
    obtain ⟨e, l, k⟩ := p
    have e74 : e.1 74 c = d.1 74 c := by rw [ih.o 74 (by decide) (by decide)]
    by_cases h : e.1 74 c = 0
    · have h0 : d.1 74 c = 0 := e74 ▸ h
      obtain ⟨g1, g2⟩ := gp_72 ih h0
      have gc : (gpS e C R c).1 72 c = kg d R c := by rw [g1 c, if_pos ⟨Nat.lt_succ_self _, h0⟩]
      have oo : ∀ j, j ≠ 72 → j ≠ 73 → (gpS e C R c).1 j = d.1 j := fun j a b => (gpS_ne a b).trans (ih.o j a b)
      by_cases h2 : (gpS e C R c).1 72 c < l
      · rw [ncL_a hc h h2]
        refine ⟨g1, g2, oo, ?_, Or.inr ⟨Nat.lt_succ_self _, h0, gc⟩⟩
        intro c' hc' h74
        show (gpS e C R c).1 72 c ≤ _
        rcases Nat.lt_or_ge c' c with q | q
        · exact Int32.le_of_lt (Int32.lt_of_lt_of_le h2 (ih.l1 c' q h74))
        · have : c' = c := by omega
          subst this
          rw [gc]; exact Int32.le_refl _
      · rw [ncL_b hc h h2]
        refine ⟨g1, g2, oo, ?_, ?_⟩
        · intro c' hc' h74
          show l ≤ _
          rcases Nat.lt_or_ge c' c with q | q
          · exact ih.l1 c' q h74
          · have : c' = c := by omega
            subst this
            rw [← gc]; exact iNL.mp h2
        · rcases ih.l2 with q | q
          · exact Or.inl q
          · exact Or.inr ⟨Nat.lt_succ_of_lt q.1, q.2⟩
    · rw [ncL_r hc h]
      have h0 : ¬ d.1 74 c = 0 := e74 ▸ h
      refine ⟨?_, ?_, ih.o, ?_, ?_⟩
      · intro c'
        show e.1 72 c' = _
        rw [ih.g c']
        by_cases y : c' < c ∧ d.1 74 c' = 0
        · rw [if_pos y, if_pos ⟨by omega, y.2⟩]
        · rw [if_neg y, if_neg (fun x => y ⟨by
            rcases Nat.lt_or_ge c' c with q | q
            · exact q
            · have : c' = c := by omega
              subst this; exact absurd x.2 h0, x.2⟩)]
      · intro c'
        show e.1 73 c' = _
        rw [ih.f c']
        by_cases y : c' < c ∧ d.1 74 c' = 0 ∧ dirV d R c' < d.1 72 c'
        · rw [if_pos y, if_pos ⟨by omega, y.2⟩]
        · rw [if_neg y, if_neg (fun x => y ⟨by
            rcases Nat.lt_or_ge c' c with q | q
            · exact q
            · have : c' = c := by omega
              subst this; exact absurd x.2.1 h0, x.2⟩)]
      · intro c' hc' h74
        rcases Nat.lt_or_ge c' c with q | q
        · exact ih.l1 c' q h74
        · have : c' = c := by omega
          subst this; exact absurd h74 h0
      · rcases ih.l2 with q | q
        · exact Or.inl q
        · exact Or.inr ⟨Nat.lt_succ_of_lt q.1, q.2⟩
abbrev nuP (e : mS) (l : Int32) (N : Nat) (f : mS) : Prop := (∀ c, f.1 72 c = if c < N ∧ e.1 74 c = 0 then e.1 72 c - l else e.1 72 c) ∧ (∀ c, f.1 67 c = if c < N ∧ ¬ e.1 74 c = 0 then e.1 67 c + l else e.1 67 c) ∧ (∀ c, c < N → ¬ e.1 74 c = 0 → f.1 66 (nv (e.1 68 c)) = e.1 66 (nv (e.1 68 c)) - l) ∧ (∀ r, (∀ c, c < N → ¬ e.1 74 c = 0 → nv (e.1 68 c) ≠ r) → f.1 66 r = e.1 66 r) ∧ (∀ j, j ≠ 72 → j ≠ 66 → j ≠ 67 → f.1 j = e.1 j)
theorem nuP.g {e : mS} {l : Int32} {N : Nat} {f : mS} (h_ : nuP e l N f) : ∀ c, f.1 72 c = if c < N ∧ e.1 74 c = 0 then e.1 72 c - l else e.1 72 c := h_.1
theorem nuP.v {e : mS} {l : Int32} {N : Nat} {f : mS} (h_ : nuP e l N f) : ∀ c, f.1 67 c = if c < N ∧ ¬ e.1 74 c = 0 then e.1 67 c + l else e.1 67 c := h_.2.1
theorem nuP.u1 {e : mS} {l : Int32} {N : Nat} {f : mS} (h_ : nuP e l N f) : ∀ c, c < N → ¬ e.1 74 c = 0 → f.1 66 (nv (e.1 68 c)) = e.1 66 (nv (e.1 68 c)) - l := h_.2.2.1
theorem nuP.u2 {e : mS} {l : Int32} {N : Nat} {f : mS} (h_ : nuP e l N f) : ∀ r, (∀ c, c < N → ¬ e.1 74 c = 0 → nv (e.1 68 c) ≠ r) → f.1 66 r = e.1 66 r := h_.2.2.2.1
theorem nuP.o {e : mS} {l : Int32} {N : Nat} {f : mS} (h_ : nuP e l N f) : ∀ j, j ≠ 72 → j ≠ 66 → j ≠ 67 → f.1 j = e.1 j := h_.2.2.2.2
theorem nuP_all {e : mS} {l : Int32} {M : Nat} (hi : ∀ c c', c < M → c' < M → ¬ e.1 74 c = 0 → ¬ e.1 74 c' = 0 → nv (e.1 68 c) = nv (e.1 68 c') → c = c') : ∀ N, N ≤ M → nuP e l N (ncU e l N)
  | 0, _ => ⟨fun c => (if_neg (fun q => Nat.not_lt_zero _ q.1)).symm, fun c => (if_neg (fun q => Nat.not_lt_zero _ q.1)).symm, fun c h => absurd h (Nat.not_lt_zero _), fun _ _ => rfl, fun _ _ _ _ => rfl⟩
  | N + 1, hM => by
    have ih := nuP_all (l := l) hi N (by omega)
    have a74 : (ncU e l N).1 74 N = e.1 74 N := by rw [ih.o 74 (by decide) (by decide) (by decide)]
    have a68 : (ncU e l N).1 68 N = e.1 68 N := by rw [ih.o 68 (by decide) (by decide) (by decide)]
    have a72 : (ncU e l N).1 72 N = e.1 72 N := by rw [ih.g N, if_neg (fun q => Nat.lt_irrefl _ q.1)]
    have a67 : (ncU e l N).1 67 N = e.1 67 N := by rw [ih.v N, if_neg (fun q => Nat.lt_irrefl _ q.1)]
    by_cases h : e.1 74 N = 0
    · have eU : ncU e l (N + 1) = mset (ncU e l N) 72 N ((ncU e l N).1 72 N - l) := if_pos (a74.trans h)
      rw [eU, a72]
      refine ⟨?_, ?_, ?_, ?_, ?_⟩
      · intro c
        by_cases z : c = N
        · subst z; rw [mset_at, if_pos ⟨Nat.lt_succ_self _, h⟩]
        · rw [mset_off z, ih.g c]
          by_cases y : c < N ∧ e.1 74 c = 0
          · rw [if_pos y, if_pos ⟨by omega, y.2⟩]
          · rw [if_neg y, if_neg (fun x => y ⟨by omega, x.2⟩)]
      · intro c
        rw [mset_ne (by decide), ih.v c]
        by_cases y : c < N ∧ ¬ e.1 74 c = 0
        · rw [if_pos y, if_pos ⟨by omega, y.2⟩]
        · rw [if_neg y, if_neg (fun x => y ⟨by
            rcases Nat.lt_or_ge c N with q | q
            · exact q
            · have : c = N := by omega
              subst this; exact absurd h x.2, x.2⟩)]
      · intro c hc h74
        rw [mset_ne (by decide)]
        refine ih.u1 c ?_ h74
        rcases Nat.lt_or_ge c N with q | q
        · exact q
        · have : c = N := by omega
          subst this; exact absurd h h74
      · intro r hr
        rw [mset_ne (by decide)]
        exact ih.u2 r (fun c hc h74 => hr c (by omega) h74)
      · intro j h1 h2 h3
        rw [mset_ne h1]; exact ih.o j h1 h2 h3
    · have eU : ncU e l (N + 1) = mset (mset (ncU e l N) 66 (nv ((ncU e l N).1 68 N)) ((ncU e l N).1 66 (nv ((ncU e l N).1 68 N)) - l)) 67 N ((ncU e l N).1 67 N + l) := if_neg (fun q => h (a74.symm.trans q))
      rw [eU, a68, a67]
      have a66 : (ncU e l N).1 66 (nv (e.1 68 N)) = e.1 66 (nv (e.1 68 N)) := ih.u2 _ (fun c hc h74 q => by
        have := hi c N (by omega) (by omega) h74 h q
        omega)
      rw [a66]
      refine ⟨?_, ?_, ?_, ?_, ?_⟩
      · intro c
        rw [mset_ne (by decide), mset_ne (by decide), ih.g c]
        by_cases y : c < N ∧ e.1 74 c = 0
        · rw [if_pos y, if_pos ⟨by omega, y.2⟩]
        · rw [if_neg y, if_neg (fun x => y ⟨by
            rcases Nat.lt_or_ge c N with q | q
            · exact q
            · have : c = N := by omega
              subst this; exact absurd x.2 h, x.2⟩)]
      · intro c
        by_cases z : c = N
        · subst z; rw [mset_at, if_pos ⟨Nat.lt_succ_self _, h⟩]
        · rw [mset_off z, mset_ne (by decide), ih.v c]
          by_cases y : c < N ∧ ¬ e.1 74 c = 0
          · rw [if_pos y, if_pos ⟨by omega, y.2⟩]
          · rw [if_neg y, if_neg (fun x => y ⟨by omega, x.2⟩)]
      · intro c hc h74
        rw [mset_ne (by decide)]
        by_cases z : c = N
        · subst z; rw [mset_at]
        · rw [mset_off (fun q => z (hi c N (by omega) (by omega) h74 h q))]
          exact ih.u1 c (by omega) h74
      · intro r hr
        rw [mset_ne (by decide), mset_off (fun q => hr N (Nat.lt_succ_self _) h q.symm)]
        exact ih.u2 r (fun c hc h74 => hr c (by omega) h74)
      · intro j h1 h2 h3
        rw [mset_ne h3, mset_ne h2]; exact ih.o j h1 h2 h3
