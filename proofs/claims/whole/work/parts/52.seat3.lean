/-! ===== seats, 3: the way back, and what a seat leaves ===== -/
theorem ncU_v {e : mS} {l : Int32} {c : Nat} (h : e.1 74 c = 0) : ∀ N, (ncU e l N).1 67 c = e.1 67 c
  | 0 => rfl
  | N + 1 => by
    have ih := ncU_v (l := l) h N
    have a74 : (ncU e l N).1 74 = e.1 74 := ncU_ne (by decide) (by decide) (by decide) N
    show (if (ncU e l N).1 74 N = 0 then mset (ncU e l N) 72 N ((ncU e l N).1 72 N - l) else mset (mset (ncU e l N) 66 (nv ((ncU e l N).1 68 N)) ((ncU e l N).1 66 (nv ((ncU e l N).1 68 N)) - l)) 67 N ((ncU e l N).1 67 N + l)).1 67 c = _
    split
    · rw [mset_ne (by decide), ih]
    · next hn =>
      rw [a74] at hn
      rw [mset_off (fun q => hn (by rw [← q]; exact h)), mset_ne (by decide), ih]
theorem ncU_u {e : mS} {l : Int32} {r : Nat} : ∀ N, (∀ c, c < N → ¬ e.1 74 c = 0 → nv (e.1 68 c) ≠ r) → (ncU e l N).1 66 r = e.1 66 r
  | 0, _ => rfl
  | N + 1, h => by
    have ih := ncU_u (l := l) (r := r) N (fun c hc => h c (by omega))
    have a74 : (ncU e l N).1 74 = e.1 74 := ncU_ne (by decide) (by decide) (by decide) N
    have a68 : (ncU e l N).1 68 = e.1 68 := ncU_ne (by decide) (by decide) (by decide) N
    show (if (ncU e l N).1 74 N = 0 then mset (ncU e l N) 72 N ((ncU e l N).1 72 N - l) else mset (mset (ncU e l N) 66 (nv ((ncU e l N).1 68 N)) ((ncU e l N).1 66 (nv ((ncU e l N).1 68 N)) - l)) 67 N ((ncU e l N).1 67 N + l)).1 66 r = _
    split
    · rw [mset_ne (by decide), ih]
    · next hn =>
      rw [a74] at hn
      rw [mset_ne (by decide), a68, mset_off (fun q => h N (by omega) hn q.symm), ih]
abbrev sfr (d : mS) (n row : Nat) (S : Nat → Prop) (e : mS) : Prop := (∀ j, j ≠ 66 → j ≠ 67 → j ≠ 72 → j ≠ 73 → j ≠ 74 → e.1 j = d.1 j) ∧ (∀ c, c < n → d.1 68 c = -1 → e.1 67 c = d.1 67 c) ∧ (∀ r, ¬ S r → r ≠ row → e.1 66 r = d.1 66 r)
theorem sfr.o {d : mS} {n row : Nat} {S : Nat → Prop} {e : mS} (h_ : sfr d n row S e) : ∀ j, j ≠ 66 → j ≠ 67 → j ≠ 72 → j ≠ 73 → j ≠ 74 → e.1 j = d.1 j := h_.1
theorem sfr.v {d : mS} {n row : Nat} {S : Nat → Prop} {e : mS} (h_ : sfr d n row S e) : ∀ c, c < n → d.1 68 c = -1 → e.1 67 c = d.1 67 c := h_.2.1
theorem sfr.u {d : mS} {n row : Nat} {S : Nat → Prop} {e : mS} (h_ : sfr d n row S e) : ∀ r, ¬ S r → r ≠ row → e.1 66 r = d.1 66 r := h_.2.2
theorem sea_fr {d0 d : mS} {n row : Nat} {S : Nat → Prop} {β : Int} {cf col st : Nat} {ρ : Nat → Nat} (h : sea d n row S β cf col st ρ) (hcol : ¬ d.1 68 col = -1) (hf : sfr d0 n row S d) : sfr d0 n row S (ncD (mset d 74 col (nI 1)) n col (ro d col)) := by
  have n14 := h.T.n14
  have ne : ∀ j, j ≠ 72 → j ≠ 73 → (ncL (mset d 74 col (nI 1)) n col (ro d col) n).1.1 j = (mset d 74 col (nI 1)).1 j := fun j a b => ncL_ne a b n
  have e68 : d.1 68 = d0.1 68 := hf.o 68 (by decide) (by decide) (by decide) (by decide) (by decide)
  have colle : col < n + 1 := by rcases h.co with q | q <;> omega
  refine ⟨fun j a1 a2 a3 a4 a5 => ?_, fun c hc h1 => ?_, fun r h1 h2 => ?_⟩
  · unfold ncD
    rw [ncU_ne a3 a1 a2, ne j a3 a4, mset_ne a5]
    exact hf.o j a1 a2 a3 a4 a5
  · have hd : d.1 68 c = -1 := by rw [e68]; exact h1
    have h0 : d.1 74 c = 0 := Decidable.of_not_not (fun q => h.x c hc q hd)
    have hcc : c ≠ col := fun q => hcol (q ▸ hd)
    unfold ncD
    rw [ncU_v (by rw [ne 74 (by decide) (by decide), mset_off hcc]; exact h0), ne 67 (by decide) (by decide), mset_ne (by decide)]
    exact hf.v c hc h1
  · unfold ncD
    rw [ncU_u, ne 66 (by decide) (by decide), mset_ne (by decide)]
    · exact hf.u r h1 h2
    · intro c hc h74 hr
      rw [ne 74 (by decide) (by decide)] at h74
      rw [ne 68 (by decide) (by decide), mset_ne (by decide)] at hr
      have hr' : ro d c = r := hr
      rcases Nat.lt_or_ge c n with z | z
      · have ha : ¬ d.1 68 c = -1 := by
          by_cases y : c = col
          · rw [y]; exact hcol
          · rw [mset_off y] at h74; exact h.x c z h74
        have := (h.M.a c z).resolve_left ha
        exact h1 (hr' ▸ this.2.2)
      · have : c = n := by omega
        subst this
        have rn := ro_nI h.r.2.2 (by have := h.r.1; omega)
        exact h2 (by rw [← hr']; exact rn)
abbrev aug (d : mS) (n : Nat) (T : Nat → Prop) (F0 : Nat → Prop) (col kst : Nat) (ρ : Nat → Nat) (Pt : Nat → Prop) : Prop := (col < n + 1) ∧ (∀ c', c' < n + 1 → c' ≠ col → d.1 68 c' = -1 ∨ (d.1 68 c' = nI (ro d c') ∧ ro d c' < n ∧ T (ro d c'))) ∧ (∀ c' q, c' < n + 1 → q < n + 1 → c' ≠ col → q ≠ col → ¬ d.1 68 c' = -1 → d.1 68 c' = d.1 68 q → c' = q) ∧ (∀ r, r < n → T r → ∃ c', c' < n + 1 ∧ c' ≠ col ∧ d.1 68 c' = nI r) ∧ (∀ c', c' < n → c' ≠ col → ¬ d.1 68 c' = -1 → uu d (ro d c') + vv d c' = ww d (ro d c') c') ∧ (∀ c', c' < n → Pt c' → ρ c' ≤ ρ col → ∃ q, q < n + 1 ∧ (q = n ∨ Pt q) ∧ d.1 73 c' = nI q ∧ ρ q < ρ c' ∧ ¬ d.1 68 q = -1 ∧ uu d (ro d q) + vv d c' = ww d (ro d q) c') ∧ (col < n → Pt col) ∧ (ρ col + kst ≤ n) ∧ (∀ c', c' < n → c' ≠ col → d.1 68 c' = -1 → F0 c')
theorem aug.c {d : mS} {n : Nat} {T : Nat → Prop} {F0 : Nat → Prop} {col kst : Nat} {ρ : Nat → Nat} {Pt : Nat → Prop} (h_ : aug d n T F0 col kst ρ Pt) : col < n + 1 := h_.1
theorem aug.a {d : mS} {n : Nat} {T : Nat → Prop} {F0 : Nat → Prop} {col kst : Nat} {ρ : Nat → Nat} {Pt : Nat → Prop} (h_ : aug d n T F0 col kst ρ Pt) : ∀ c', c' < n + 1 → c' ≠ col → d.1 68 c' = -1 ∨ (d.1 68 c' = nI (ro d c') ∧ ro d c' < n ∧ T (ro d c')) := h_.2.1
theorem aug.i {d : mS} {n : Nat} {T : Nat → Prop} {F0 : Nat → Prop} {col kst : Nat} {ρ : Nat → Nat} {Pt : Nat → Prop} (h_ : aug d n T F0 col kst ρ Pt) : ∀ c' q, c' < n + 1 → q < n + 1 → c' ≠ col → q ≠ col → ¬ d.1 68 c' = -1 → d.1 68 c' = d.1 68 q → c' = q := h_.2.2.1
theorem aug.p {d : mS} {n : Nat} {T : Nat → Prop} {F0 : Nat → Prop} {col kst : Nat} {ρ : Nat → Nat} {Pt : Nat → Prop} (h_ : aug d n T F0 col kst ρ Pt) : ∀ r, r < n → T r → ∃ c', c' < n + 1 ∧ c' ≠ col ∧ d.1 68 c' = nI r := h_.2.2.2.1
theorem aug.t {d : mS} {n : Nat} {T : Nat → Prop} {F0 : Nat → Prop} {col kst : Nat} {ρ : Nat → Nat} {Pt : Nat → Prop} (h_ : aug d n T F0 col kst ρ Pt) : ∀ c', c' < n → c' ≠ col → ¬ d.1 68 c' = -1 → uu d (ro d c') + vv d c' = ww d (ro d c') c' := h_.2.2.2.2.1
theorem aug.q {d : mS} {n : Nat} {T : Nat → Prop} {F0 : Nat → Prop} {col kst : Nat} {ρ : Nat → Nat} {Pt : Nat → Prop} (h_ : aug d n T F0 col kst ρ Pt) : ∀ c', c' < n → Pt c' → ρ c' ≤ ρ col → ∃ q, q < n + 1 ∧ (q = n ∨ Pt q) ∧ d.1 73 c' = nI q ∧ ρ q < ρ c' ∧ ¬ d.1 68 q = -1 ∧ uu d (ro d q) + vv d c' = ww d (ro d q) c' := h_.2.2.2.2.2.1
theorem aug.h {d : mS} {n : Nat} {T : Nat → Prop} {F0 : Nat → Prop} {col kst : Nat} {ρ : Nat → Nat} {Pt : Nat → Prop} (h_ : aug d n T F0 col kst ρ Pt) : col < n → Pt col := h_.2.2.2.2.2.2.1
theorem aug.k {d : mS} {n : Nat} {T : Nat → Prop} {F0 : Nat → Prop} {col kst : Nat} {ρ : Nat → Nat} {Pt : Nat → Prop} (h_ : aug d n T F0 col kst ρ Pt) : ρ col + kst ≤ n := h_.2.2.2.2.2.2.2.1
theorem aug.z {d : mS} {n : Nat} {T : Nat → Prop} {F0 : Nat → Prop} {col kst : Nat} {ρ : Nat → Nat} {Pt : Nat → Prop} (h_ : aug d n T F0 col kst ρ Pt) : ∀ c', c' < n → c' ≠ col → d.1 68 c' = -1 → F0 c' := h_.2.2.2.2.2.2.2.2
theorem aug_0 {d : mS} {n row : Nat} {S : Nat → Prop} {β : Int} {cf col st : Nat} {ρ : Nat → Nat} (h : sea d n row S β cf col st ρ) (hcol : d.1 68 col = -1) : aug d n (fun r => S r ∨ r = row) (fun c => d.1 68 c = -1) col 0 (fun q => if q = col then st else ρ q) (fun c => ¬ d.1 74 c = 0 ∨ c = col) := by
  have n14 := h.T.n14
  have hr := h.r
  have an : ¬ d.1 68 n = -1 := by rw [hr.2.2]; exact nIm1 (by omega)
  have cn : col ≠ n := fun q => an (q ▸ hcol)
  have hco : 0 < st ∧ col < n ∧ d.1 74 col = 0 ∧ gg d col = 0 := by
    rcases h.co with q | q
    · exact absurd q.2 cn
    · exact q
  have rown : ro d n = row := ro_nI hr.2.2 (by omega)
  have hx : ∀ q, q < n + 1 → ¬ d.1 74 q = 0 → ¬ d.1 68 q = -1 := by
    intro q hq h1
    rcases Nat.lt_or_ge q n with z | z
    · exact h.x q z h1
    · rw [show q = n by omega]; exact an
  refine ⟨by omega, ?_, ?_, ?_, ?_, ?_, fun _ => Or.inr rfl, ?_, fun c' _ _ q => q⟩
  · intro c hc hne
    rcases Nat.lt_or_ge c n with z | z
    · rcases h.M.a c z with y | y
      · exact Or.inl y
      · exact Or.inr ⟨y.1, y.2.1, Or.inl y.2.2⟩
    · have : c = n := by omega
      subst this
      refine Or.inr ⟨?_, ?_, Or.inr rown⟩
      · rw [rown]; exact hr.2.2
      · rw [rown]; exact hr.1
  · intro c q hc hq hne hne' h1 e
    have key : ∀ x y, x < n → y = n → ¬ d.1 68 x = -1 → d.1 68 x = d.1 68 y → False := by
      intro x y hx hy h2 e2
      have m := (h.M.a x hx).resolve_left h2
      rw [hy, hr.2.2] at e2
      have : ro d x = row := ro_nI e2 (by omega)
      exact hr.2.1 (this ▸ m.2.2)
    rcases Nat.lt_or_ge c n with z | z
    · rcases Nat.lt_or_ge q n with y | y
      · exact h.M.i c q z y h1 e
      · exact (key c q z (by omega) h1 e).elim
    · rcases Nat.lt_or_ge q n with y | y
      · exact (key q c y (by omega) (e ▸ h1) e.symm).elim
      · omega
  · intro r hrn hT
    rcases hT with y | y
    · obtain ⟨c, c1, c2⟩ := h.M.p r hrn y
      exact ⟨c, by omega, fun q => nIm1 (r := r) (by omega) (by rw [← c2, q]; exact hcol), c2⟩
    · exact ⟨n, by omega, fun q => cn q.symm, by rw [y]; exact hr.2.2⟩
  · intro c hc hne h1
    exact h.P.t c hc h1
  · intro c hc hp _
    by_cases z : c = col
    · subst z
      rcases h.g2 c hco.2.1 hco.2.2.1 with g | g
      · omega
      · obtain ⟨q, q1, q2, q3, q4⟩ := g
        refine ⟨q, q1, Or.inr (Or.inl q2), q3, ?_, hx q q1 q2, ?_⟩
        · show (if q = c then st else ρ q) < (if c = c then st else ρ c)
          rw [if_pos rfl, if_neg (fun y => q2 (by rw [y]; exact hco.2.2.1))]
          exact h.rk q q1 q2
        · have := hco.2.2.2
          omega
    · have hc0 : ¬ d.1 74 c = 0 := hp.resolve_right z
      obtain ⟨q, q1, q2, q3, q4, q5⟩ := h.pa c hc hc0
      refine ⟨q, q1, Or.inr (Or.inl q2), q3, ?_, hx q q1 q2, q5⟩
      show (if q = col then st else ρ q) < (if c = col then st else ρ c)
      rw [if_neg z, if_neg (fun y => q2 (by rw [y]; exact hco.2.2.1))]
      exact q4
  · show (if col = col then st else ρ col) + 0 ≤ n
    rw [if_pos rfl]
    exact sea_le h
theorem aug_step {d : mS} {n : Nat} {T F0 : Nat → Prop} {col kst : Nat} {ρ : Nat → Nat} {Pt : Nat → Prop} (n14 : n ≤ 14) (h : aug d n T F0 col kst ρ Pt) (hc : col < n) : ∃ q, q < n + 1 ∧ d.1 73 col = nI q ∧ kst ≤ n ∧ aug (mset d 68 col (d.1 68 q)) n T F0 q (kst + 1) ρ Pt := by
  obtain ⟨q, q1, q2, q3, q4, q5, q6⟩ := h.q col hc (h.h hc) (Nat.le_refl _)
  have hk := h.k
  have qc : q ≠ col := fun z => by rw [z] at q4; exact Nat.lt_irrefl _ q4
  have haq := (h.a q q1 qc).resolve_left q5
  have off : ∀ c, c ≠ col → (mset d 68 col (d.1 68 q)).1 68 c = d.1 68 c := fun c z => mset_off z
  have offr : ∀ c, c ≠ col → ro (mset d 68 col (d.1 68 q)) c = ro d c := fun c z => by show nv _ = _; rw [off c z]
  have at_ : (mset d 68 col (d.1 68 q)).1 68 col = d.1 68 q := mset_at _ _ _ _
  have atr : ro (mset d 68 col (d.1 68 q)) col = ro d q := by show nv _ = _; rw [at_]
  have k66 : ∀ r, uu (mset d 68 col (d.1 68 q)) r = uu d r := fun r => by show ((mset d 68 col (d.1 68 q)).1 66 r).toInt = _; rw [mset_ne (by decide)]
  have k67 : ∀ r, vv (mset d 68 col (d.1 68 q)) r = vv d r := fun r => by show ((mset d 68 col (d.1 68 q)).1 67 r).toInt = _; rw [mset_ne (by decide)]
  have kw : ∀ r c, ww (mset d 68 col (d.1 68 q)) r c = ww d r c := fun r c => by show ((mset d 68 col (d.1 68 q)).1 (200 + r) c).toInt = _; rw [mset_ne (by omega)]
  refine ⟨q, q1, q3, by omega, q1, ?_, ?_, ?_, ?_, ?_, ?_, by omega, ?_⟩
  · intro c hc' hne
    by_cases z : c = col
    · subst z; rw [at_, atr]; exact Or.inr haq
    · rw [off c z, offr c z]; exact h.a c hc' z
  · intro c c2 hc1 hc2 hne hne2 h1 e
    by_cases z : c = col
    · by_cases z2 : c2 = col
      · omega
      · rw [z, at_, off c2 z2] at e
        exact absurd (h.i q c2 q1 hc2 qc z2 q5 e).symm hne2
    · rw [off c z] at h1 e
      by_cases z2 : c2 = col
      · rw [z2, at_] at e
        exact absurd (h.i c q hc1 q1 z qc h1 e) hne
      · rw [off c2 z2] at e
        exact h.i c c2 hc1 hc2 z z2 h1 e
  · intro r hr hT
    obtain ⟨c, c1, c2, c3⟩ := h.p r hr hT
    by_cases z : c = q
    · subst z
      exact ⟨col, by omega, fun y => qc y.symm, by rw [at_]; exact c3⟩
    · exact ⟨c, c1, z, by rw [off c c2]; exact c3⟩
  · intro c hc' hne h1
    rw [k66, k67, kw]
    by_cases z : c = col
    · subst z; rw [atr]; exact q6
    · rw [off c z] at h1
      rw [offr c z]
      exact h.t c hc' z h1
  · intro c hc' hp hle
    obtain ⟨x, x1, x2, x3, x4, x5, x6⟩ := h.q c hc' hp (by omega)
    have xc : x ≠ col := fun z => by rw [z] at x4; omega
    refine ⟨x, x1, x2, by rw [mset_ne (by decide)]; exact x3, x4, by rw [off x xc]; exact x5, ?_⟩
    rw [k66, k67, kw, offr x xc]; exact x6
  · intro hq
    rcases q2 with y | y
    · omega
    · exact y
  · intro c hc' hne h1
    by_cases z : c = col
    · subst z
      rw [at_] at h1
      exact absurd h1 q5
    · rw [off c z] at h1
      exact h.z c hc' z h1
abbrev seR (d : mS) (n row : Nat) (S : Nat → Prop) (β : Int) (e : mS) : Prop := (tbl e n) ∧ (mat e n (fun r => S r ∨ r = row)) ∧ (pri e n (fun r => S r ∨ r = row) β) ∧ (∀ c, c < n → e.1 68 c = -1 → d.1 68 c = -1 ∧ e.1 67 c = d.1 67 c) ∧ (∀ r, ¬ S r → r ≠ row → e.1 66 r = d.1 66 r) ∧ (∀ j, j ≠ 66 → j ≠ 67 → j ≠ 68 → j ≠ 72 → j ≠ 73 → j ≠ 74 → e.1 j = d.1 j)
theorem seR.T {d : mS} {n row : Nat} {S : Nat → Prop} {β : Int} {e : mS} (h_ : seR d n row S β e) : tbl e n := h_.1
theorem seR.M {d : mS} {n row : Nat} {S : Nat → Prop} {β : Int} {e : mS} (h_ : seR d n row S β e) : mat e n (fun r => S r ∨ r = row) := h_.2.1
theorem seR.P {d : mS} {n row : Nat} {S : Nat → Prop} {β : Int} {e : mS} (h_ : seR d n row S β e) : pri e n (fun r => S r ∨ r = row) β := h_.2.2.1
theorem seR.z {d : mS} {n row : Nat} {S : Nat → Prop} {β : Int} {e : mS} (h_ : seR d n row S β e) : ∀ c, c < n → e.1 68 c = -1 → d.1 68 c = -1 ∧ e.1 67 c = d.1 67 c := h_.2.2.2.1
theorem seR.u {d : mS} {n row : Nat} {S : Nat → Prop} {β : Int} {e : mS} (h_ : seR d n row S β e) : ∀ r, ¬ S r → r ≠ row → e.1 66 r = d.1 66 r := h_.2.2.2.2.1
theorem seR.o {d : mS} {n row : Nat} {S : Nat → Prop} {β : Int} {e : mS} (h_ : seR d n row S β e) : ∀ j, j ≠ 66 → j ≠ 67 → j ≠ 68 → j ≠ 72 → j ≠ 73 → j ≠ 74 → e.1 j = d.1 j := h_.2.2.2.2.2
/-- the end of the way: the state b after the search, e after the way back -/
theorem aug_end {d0 b e : mS} {n row : Nat} {S : Nat → Prop} {β : Int} {cf col0 st kst : Nat} {ρ ρ' : Nat → Nat} {Pt : Nat → Prop} (hs : sea b n row S β cf col0 st ρ) (hst : 0 < st) (hf : sfr (mset d0 68 n (nI row)) n row S b) (hb : ∀ j, j ≠ 68 → e.1 j = b.1 j) (h : aug e n (fun r => S r ∨ r = row) (fun c => b.1 68 c = -1) n kst ρ' Pt) : seR d0 n row S β (mset e 68 n (-1)) := by
  have n14 := hs.T.n14
  have kj : ∀ j, j ≠ 68 → (mset e 68 n (-1)).1 j = b.1 j := fun j hj => (mset_ne hj).trans (hb j hj)
  have off : ∀ c, c < n → (mset e 68 n (-1)).1 68 c = e.1 68 c := fun c hc => mset_off (by omega)
  have offr : ∀ c, c < n → ro (mset e 68 n (-1)) c = ro e c := fun c hc => by show nv _ = _; rw [off c hc]
  have k66 : ∀ r, uu (mset e 68 n (-1)) r = uu b r := fun r => by show ((mset e 68 n (-1)).1 66 r).toInt = _; rw [kj 66 (by decide)]
  have k67 : ∀ r, vv (mset e 68 n (-1)) r = vv b r := fun r => by show ((mset e 68 n (-1)).1 67 r).toInt = _; rw [kj 67 (by decide)]
  have kw : ∀ r c, ww (mset e 68 n (-1)) r c = ww b r c := fun r c => by show ((mset e 68 n (-1)).1 (200 + r) c).toInt = _; rw [kj (200 + r) (by omega)]
  have e66 : ∀ r, uu e r = uu b r := fun r => by show (e.1 66 r).toInt = _; rw [hb 66 (by decide)]
  have e67 : ∀ r, vv e r = vv b r := fun r => by show (e.1 67 r).toInt = _; rw [hb 67 (by decide)]
  have ew : ∀ r c, ww e r c = ww b r c := fun r c => by show (e.1 (200 + r) c).toInt = _; rw [hb (200 + r) (by omega)]
  refine ⟨⟨by rw [kj 65 (by decide)]; exact hs.T.s, n14, fun r c a1 a2 => by rw [kw]; exact hs.T.w r c a1 a2⟩, ⟨?_, ?_, ?_⟩, ⟨?_, ?_, ?_, ?_⟩, ?_, ?_, ?_⟩
  · intro c hc
    rw [off c hc, offr c hc]
    exact h.a c (by omega) (by omega)
  · intro c c' hc hc' h1 e1
    rw [off c hc] at h1 e1
    rw [off c' hc'] at e1
    exact h.i c c' (by omega) (by omega) (by omega) (by omega) h1 e1
  · intro r hr hT
    obtain ⟨c, c1, c2, c3⟩ := h.p r hr hT
    exact ⟨c, by omega, by rw [off c (by omega)]; exact c3⟩
  · intro r hr hT c hc
    rw [k66, k67, kw]
    rcases hT with y | y
    · exact hs.P.f r hr y c hc
    · rw [y]; exact (hs.uf hst).2 c hc
  · intro c hc h1
    rw [off c hc] at h1
    have t := h.t c hc (by omega) h1
    rw [offr c hc, k66, k67, kw]
    rw [e66, e67, ew] at t
    exact t
  · intro c hc
    rw [k67]; exact hs.P.v c hc
  · intro r hr hT
    rw [k66]
    rcases hT with y | y
    · exact hs.P.u r hr y
    · rw [y]; exact (hs.uf hst).1
  · intro c hc h1
    rw [off c hc] at h1
    have z := h.z c hc (by omega) h1
    have z1 : (mset d0 68 n (nI row)).1 68 c = -1 := by
      have q := hf.o 68 (by decide) (by decide) (by decide) (by decide) (by decide)
      rw [← q]; exact z
    refine ⟨by rw [mset_off (by omega)] at z1; exact z1, ?_⟩
    rw [kj 67 (by decide), hf.v c hc z1, mset_ne (by decide)]
  · intro r h1 h2
    rw [kj 66 (by decide), hf.u r h1 h2, mset_ne (by decide)]
  · intro j a1 a2 a3 a4 a5 a6
    rw [kj j a3, hf.o j a1 a2 a4 a5 a6, mset_ne a3]
/-- the search begins -/
theorem sea_0 {d : mS} {n row : Nat} {S : Nat → Prop} {β : Int} {cf : Nat} (hT : tbl d n) (hM : mat d n S) (hP : pri d n S β) (hb : 0 ≤ β ∧ β ≤ 230) (hr : row < n ∧ ¬ S row) (hc : cf < n ∧ d.1 68 cf = -1 ∧ vv d cf ≤ β) (hu : -500 ≤ uu d row ∧ uu d row ≤ 500) : sea (mset (csD d n (n + 1)) 68 n (nI row)) n row S β cf n 0 (fun _ => 0) ∧ sfr (mset d 68 n (nI row)) n row S (mset (csD d n (n + 1)) 68 n (nI row)) := by
  have n14 := hT.n14
  have ne : ∀ j, j ≠ 72 → j ≠ 73 → j ≠ 74 → j ≠ 68 → (mset (csD d n (n + 1)) 68 n (nI row)).1 j = d.1 j := fun j a1 a2 a3 a4 => (mset_ne a4).trans (csD_ne a1 a2 a3 (n + 1))
  have e68 : ∀ c, c < n → (mset (csD d n (n + 1)) 68 n (nI row)).1 68 c = d.1 68 c := fun c hc => by rw [mset_off (by omega), csD_ne (by decide) (by decide) (by decide)]
  have ero : ∀ c, c < n → ro (mset (csD d n (n + 1)) 68 n (nI row)) c = ro d c := fun c hc => by show nv _ = _; rw [e68 c hc]
  have k66 : ∀ r, uu (mset (csD d n (n + 1)) 68 n (nI row)) r = uu d r := fun r => by show ((mset (csD d n (n + 1)) 68 n (nI row)).1 66 r).toInt = _; rw [ne 66 (by decide) (by decide) (by decide) (by decide)]
  have k67 : ∀ r, vv (mset (csD d n (n + 1)) 68 n (nI row)) r = vv d r := fun r => by show ((mset (csD d n (n + 1)) 68 n (nI row)).1 67 r).toInt = _; rw [ne 67 (by decide) (by decide) (by decide) (by decide)]
  have kw : ∀ r c, ww (mset (csD d n (n + 1)) 68 n (nI row)) r c = ww d r c := fun r c => by show ((mset (csD d n (n + 1)) 68 n (nI row)).1 (200 + r) c).toInt = _; rw [ne (200 + r) (by omega) (by omega) (by omega) (by omega)]
  have e74 : ∀ c, c < n + 1 → (mset (csD d n (n + 1)) 68 n (nI row)).1 74 c = 0 := fun c hc => by rw [mset_ne (by decide), (csD_at (n + 1) c hc).2.2]; exact nI_0
  have e72 : ∀ c, c < n + 1 → gg (mset (csD d n (n + 1)) 68 n (nI row)) c = 1000000000 := fun c hc => by
    show ((mset (csD d n (n + 1)) 68 n (nI row)).1 72 c).toInt = _
    rw [mset_ne (by decide), (csD_at (n + 1) c hc).1]; decide
  refine ⟨⟨⟨by rw [ne 65 (by decide) (by decide) (by decide) (by decide)]; exact hT.s, n14, fun r c a b => by rw [kw]; exact hT.w r c a b⟩, ⟨?_, ?_, ?_⟩, ⟨?_, ?_, ?_, ?_⟩, hb, ⟨hr.1, hr.2, mset_at _ _ _ _⟩, ⟨hc.1, by rw [e68 cf hc.1]; exact hc.2.1, by rw [k67]; exact hc.2.2⟩, fun c hc h1 => absurd (e74 c (by omega)) h1, fun _ => e74, fun q => absurd q (Nat.lt_irrefl _), ?_, by rw [k66]; exact hu, fun q => absurd q (Nat.lt_irrefl _), fun c hc h1 q hq h2 => absurd (e74 q hq) h2, fun c hc _ => Or.inl ⟨rfl, e72 c (by omega)⟩, Or.inl ⟨rfl, rfl⟩, fun c hc h1 => absurd (e74 c (by omega)) h1, fun q hq h1 => absurd (e74 q hq) h1⟩, ?_, ?_, ?_⟩
  · intro c hc
    rw [e68 c hc, ero c hc]; exact hM.a c hc
  · intro c c' hc hc'
    rw [e68 c hc, e68 c' hc']; exact hM.i c c' hc hc'
  · intro r h1 h2
    obtain ⟨c, c1, c2⟩ := hM.p r h1 h2
    exact ⟨c, c1, by rw [e68 c c1]; exact c2⟩
  · intro r h1 h2 c hc
    rw [k66, k67, kw]; exact hP.f r h1 h2 c hc
  · intro c hc h1
    rw [e68 c hc] at h1
    rw [ero c hc, k66, k67, kw]; exact hP.t c hc h1
  · intro c hc
    rw [k67]; exact hP.v c hc
  · intro r h1 h2
    rw [k66]; exact hP.u r h1 h2
  · rw [fb_ct_zero]
    intro c hc
    exact decide_eq_false (fun q => q (e74 c hc))
  · intro j a1 a2 a3 a4 a5
    by_cases z : j = 68
    · subst z
      refine funext fun c => ?_
      by_cases y : c = n
      · subst y; rw [mset_at, mset_at]
      · rw [mset_off y, mset_off y, csD_ne (by decide) (by decide) (by decide)]
    · rw [mset_ne z, mset_ne z, csD_ne a3 a4 a5]
  · intro c hc h1
    rw [mset_ne (by decide), mset_ne (by decide), csD_ne (by decide) (by decide) (by decide)]
  · intro r h1 h2
    rw [mset_ne (by decide), mset_ne (by decide), csD_ne (by decide) (by decide) (by decide)]
