/-! ===== pairing, 1: best answers alike ===== -/
theorem rkJ_cg {f g nx ny : Nat → Int32} {no : Nat → Bool} {s T : Nat} (hf : ∀ j, j < T → f j = g j) (hx : ∀ q, nx q = ny q) : ∀ J, J ≤ T → rkJ f nx no s J = rkJ g ny no s J
  | 0, _ => hx s
  | J + 1, h => by
    show (if s / 2 ^ J % 2 = 0 ∧ 0 < f J ∧ no J = false then (if rkJ f nx no s J < f J + nx (s ||| 2 ^ J) then f J + nx (s ||| 2 ^ J) else rkJ f nx no s J) else rkJ f nx no s J) = (if s / 2 ^ J % 2 = 0 ∧ 0 < g J ∧ no J = false then (if rkJ g ny no s J < g J + ny (s ||| 2 ^ J) then g J + ny (s ||| 2 ^ J) else rkJ g ny no s J) else rkJ g ny no s J)
    rw [hf J h, hx, rkJ_cg hf hx J (Nat.le_of_succ_le h)]
theorem rk_cong {f g : Nat → Nat → Int32} {no : Nat → Nat → Bool} {n T : Nat} (h : ∀ i j, i < n → j < T → f i j = g i j) : ∀ t, t ≤ n → ∀ s, rk f no n T t s = rk g no n T t s
  | 0, _, _ => rfl
  | t + 1, ht, s => rkJ_cg (fun j hj => h _ j (by omega) hj) (rk_cong h t (by omega)) T (Nat.le_refl _)
theorem gq_cong {f g nx ny : Nat → Int32} {due : Int32} {t T : Nat} (hf : ∀ j, j < T → f j = g j) (hx : ∀ q, nx q = ny q) : ∀ k, k ≤ T → gq f nx due t T k = gq g ny due t T k
  | 0, _ => rfl
  | k + 1, h => by
    have e : gqC f nx due t (T - (k + 1)) ↔ gqC g ny due t (T - (k + 1)) := by
      show (_ ∧ 0 < f (T - (k + 1)) ∧ f (T - (k + 1)) + nx _ = due) ↔ (_ ∧ 0 < g (T - (k + 1)) ∧ g (T - (k + 1)) + ny _ = due)
      rw [hf _ (by omega), hx]
    show (if gqC f nx due t (T - (k + 1)) then nI (T - (k + 1)) else gq f nx due t T k) = (if gqC g ny due t (T - (k + 1)) then nI (T - (k + 1)) else gq g ny due t T k)
    by_cases c : gqC g ny due t (T - (k + 1))
    · rw [if_pos c, if_pos (e.mpr c)]
    · rw [if_neg c, if_neg (fun q => c (e.mp q)), gq_cong hf hx k (Nat.le_of_succ_le h)]
section PCONG
variable {f g : Nat → Nat → Int32} {n T : Nat}
theorem pkF_cong (h : ∀ i j, i < n → j < T → f i j = g i j) {i t : Nat} (hi : i < n) : pkF f n T i t = pkF g n T i t := by
  unfold pkF
  rw [rk_cong h (n - i) (by omega) t]
  exact gq_cong (fun j hj => h i j hi hj) (rk_cong h _ (by omega)) T (Nat.le_refl _)
theorem grF_cong (h : ∀ i j, i < n → j < T → f i j = g i j) : ∀ r, r ≤ n → grF f n T r = grF g n T r
  | 0, _ => rfl
  | r + 1, hr => by
    show (if pkF f n T r (grF f n T r) < 0 then grF f n T r else grF f n T r ||| 2 ^ nv (pkF f n T r (grF f n T r))) = (if pkF g n T r (grF g n T r) < 0 then grF g n T r else grF g n T r ||| 2 ^ nv (pkF g n T r (grF g n T r)))
    rw [grF_cong h r (by omega), pkF_cong h (by omega)]
theorem pI_cong (h : ∀ i j, i < n → j < T → f i j = g i j) {i : Nat} (hi : i < n) : pI f n T i = pI g n T i := by
  unfold pI
  rw [grF_cong h i (by omega), pkF_cong h hi]
theorem rvV_cong (h : ∀ i j, i < n → j < T → f i j = g i j) {i : Nat} (hi : i < n) : rvV f n T i = rvV g n T i := by
  unfold rvV
  rw [pI_cong h hi, rk_cong h n (Nat.le_refl _), rk_cong h n (Nat.le_refl _)]
theorem pI_one {i i' j : Nat} (hT : T ≤ 14) (hj : j < T) (h1 : pI f n T i = nI j) (h2 : pI f n T i' = nI j) : i = i' := by
  have key : ∀ a b, a < b → pI f n T a = nI j → pI f n T b = nI j → False := fun a b hab ha hb => by
    rcases pI_spec (f := f) (n := n) (T := T) (i := b) with ⟨q, _⟩ | ⟨j', q1, q2, _, q4⟩
    · rw [q] at hb; exact nIm1 (by omega) hb.symm
    · have e : j' = j := nI_inj (by omega) (by omega) (q4.symm.trans hb)
      subst e
      exact (gr_bit hT (by omega) b).mp q2.1 a hab ha
  rcases Nat.lt_trichotomy i i' with c | c | c
  · exact (key i i' c h1 h2).elim
  · exact c
  · exact (key i' i c h2 h1).elim
end PCONG
theorem grT_eq (m : mS) : ∀ i, grT m i = grF (fM m) (nO m) (nTh2 m) i
  | 0 => rfl
  | i + 1 => by
    show (if pkW m i (grT m i) < 0 then grT m i else grT m i ||| 2 ^ nv (pkW m i (grT m i))) = (if pkF (fM m) (nO m) (nTh2 m) i (grF (fM m) (nO m) (nTh2 m) i) < 0 then grF (fM m) (nO m) (nTh2 m) i else grF (fM m) (nO m) (nTh2 m) i ||| 2 ^ nv (pkF (fM m) (nO m) (nTh2 m) i (grF (fM m) (nO m) (nTh2 m) i)))
    rw [grT_eq m i]
    rfl
abbrev prF (d : mS) (m : mS) (n : Nat) (T : Nat) : Prop := (n ≤ 14) ∧ (T ≤ 14) ∧ (cBr m 0 = n) ∧ (cBr m 1 = T) ∧ (m.1 20 0 = nI n) ∧ (m.1 21 0 = nI T) ∧ (m.1 27 0 = nI n) ∧ (m.1 28 0 = nI T) ∧ (d.1 61 0 = nI n) ∧ (m.1 25 0 = rk (fM m) (noP (-1) (-1)) n T n 0) ∧ (∀ k, k < n → m.1 24 k = pI (fM m) n T k ∧ d.1 59 k = pI (fM m) n T k ∧ d.1 60 k = rvV (fM m) n T k) ∧ (∀ k, k < n → ∃ a, a < nL m 0 ∧ m.1 18 k = nI a ∧ d.1 57 k = nI a ∧ m.1 5 a = -1 ∧ fb_ct (brF m 0) a = k) ∧ (∀ k, k < T → ∃ a, a < nL m 1 ∧ m.1 19 k = nI a ∧ d.1 58 k = nI a ∧ m.1 5 (80 + a) = -1 ∧ fb_ct (brF m 80) a = k)
theorem prF.n14 {d : mS} {m : mS} {n : Nat} {T : Nat} (h_ : prF d m n T) : n ≤ 14 := h_.1
theorem prF.T14 {d : mS} {m : mS} {n : Nat} {T : Nat} (h_ : prF d m n T) : T ≤ 14 := h_.2.1
theorem prF.c0 {d : mS} {m : mS} {n : Nat} {T : Nat} (h_ : prF d m n T) : cBr m 0 = n := h_.2.2.1
theorem prF.c1 {d : mS} {m : mS} {n : Nat} {T : Nat} (h_ : prF d m n T) : cBr m 1 = T := h_.2.2.2.1
theorem prF.o {d : mS} {m : mS} {n : Nat} {T : Nat} (h_ : prF d m n T) : m.1 20 0 = nI n := h_.2.2.2.2.1
theorem prF.t {d : mS} {m : mS} {n : Nat} {T : Nat} (h_ : prF d m n T) : m.1 21 0 = nI T := h_.2.2.2.2.2.1
theorem prF.o27 {d : mS} {m : mS} {n : Nat} {T : Nat} (h_ : prF d m n T) : m.1 27 0 = nI n := h_.2.2.2.2.2.2.1
theorem prF.t28 {d : mS} {m : mS} {n : Nat} {T : Nat} (h_ : prF d m n T) : m.1 28 0 = nI T := h_.2.2.2.2.2.2.2.1
theorem prF.d61 {d : mS} {m : mS} {n : Nat} {T : Nat} (h_ : prF d m n T) : d.1 61 0 = nI n := h_.2.2.2.2.2.2.2.2.1
theorem prF.w {d : mS} {m : mS} {n : Nat} {T : Nat} (h_ : prF d m n T) : m.1 25 0 = rk (fM m) (noP (-1) (-1)) n T n 0 := h_.2.2.2.2.2.2.2.2.2.1
theorem prF.p {d : mS} {m : mS} {n : Nat} {T : Nat} (h_ : prF d m n T) : ∀ k, k < n → m.1 24 k = pI (fM m) n T k ∧ d.1 59 k = pI (fM m) n T k ∧ d.1 60 k = rvV (fM m) n T k := h_.2.2.2.2.2.2.2.2.2.2.1
theorem prF.l {d : mS} {m : mS} {n : Nat} {T : Nat} (h_ : prF d m n T) : ∀ k, k < n → ∃ a, a < nL m 0 ∧ m.1 18 k = nI a ∧ d.1 57 k = nI a ∧ m.1 5 a = -1 ∧ fb_ct (brF m 0) a = k := h_.2.2.2.2.2.2.2.2.2.2.2.1
theorem prF.r {d : mS} {m : mS} {n : Nat} {T : Nat} (h_ : prF d m n T) : ∀ k, k < T → ∃ a, a < nL m 1 ∧ m.1 19 k = nI a ∧ d.1 58 k = nI a ∧ m.1 5 (80 + a) = -1 ∧ fb_ct (brF m 80) a = k := h_.2.2.2.2.2.2.2.2.2.2.2.2
def cch (m : mS) : Prop := ∀ n T, n ≤ 14 → T ≤ 14 → m.1 27 0 = nI n → m.1 28 0 = nI T → ∀ k, k < n → ¬ m.1 26 k = 0 → m.1 29 k = rk (fM m) (noP (nI k) (pI (fM m) n T k)) n T n 0
abbrev prel (d : mS) (m : mS) : Prop := (frD d ↔ ¬ m.1 17 0 = 0) ∧ (∃ k, k ≤ 14 ∧ d.1 61 0 = nI k) ∧ (cch m) ∧ (¬ m.1 17 0 = 0 → ∃ n T, prF d m n T)
theorem prel.fr {d : mS} {m : mS} (h_ : prel d m) : frD d ↔ ¬ m.1 17 0 = 0 := h_.1
theorem prel.k {d : mS} {m : mS} (h_ : prel d m) : ∃ k, k ≤ 14 ∧ d.1 61 0 = nI k := h_.2.1
theorem prel.c {d : mS} {m : mS} (h_ : prel d m) : cch m := h_.2.2.1
theorem prel.f {d : mS} {m : mS} (h_ : prel d m) : ¬ m.1 17 0 = 0 → ∃ n T, prF d m n T := h_.2.2.2
section PBEST
variable {d m : mS}
theorem fM_k {m' : mS} (h : m'.1 22 = m.1 22) : fM m' = fM m := by
  funext i j
  show m'.1 22 _ = m.1 22 _
  rw [h]
theorem brF_kk {m' : mS} (h : m'.1 5 = m.1 5) : brF m' = brF m := by
  funext f i
  unfold brF
  rw [h]
theorem cBr_kk {m' : mS} (h : m'.1 5 = m.1 5) (h6 : m'.1 6 = m.1 6) (b : Nat) : cBr m' b = cBr m b := by
  unfold cBr
  rw [brF_kk h, nL_k h6]
theorem cch_k {m' : mS} (h : cch m) (h22 : m'.1 22 = m.1 22) (h26 : m'.1 26 = m.1 26) (h27 : m'.1 27 = m.1 27) (h28 : m'.1 28 = m.1 28) (h29 : m'.1 29 = m.1 29) : cch m' := by
  intro n T h1 h2 h3 h4 k hk hn
  rw [h27] at h3
  rw [h28] at h4
  rw [h26] at hn
  rw [h29, fM_k h22]
  exact h n T h1 h2 h3 h4 k hk hn
theorem prF_k {d' m' : mS} {n T : Nat} (h : prF d m n T) (hd : ∀ j, 57 ≤ j → j ≤ 61 → d'.1 j = d.1 j) (hm : ∀ j, j < 29 → j ≠ 17 → j ≠ 23 → j ≠ 26 → m'.1 j = m.1 j) : prF d' m' n T := by
  have e5 := hm 5 (by decide) (by decide) (by decide) (by decide)
  have e6 := hm 6 (by decide) (by decide) (by decide) (by decide)
  have eF := fM_k (hm 22 (by decide) (by decide) (by decide) (by decide))
  refine ⟨h.n14, h.T14, by rw [cBr_kk e5 e6]; exact h.c0, by rw [cBr_kk e5 e6]; exact h.c1, by rw [hm 20 (by decide) (by decide) (by decide) (by decide)]; exact h.o, by rw [hm 21 (by decide) (by decide) (by decide) (by decide)]; exact h.t, by rw [hm 27 (by decide) (by decide) (by decide) (by decide)]; exact h.o27, by rw [hm 28 (by decide) (by decide) (by decide) (by decide)]; exact h.t28, by rw [hd 61 (by decide) (by decide)]; exact h.d61, by rw [hm 25 (by decide) (by decide) (by decide) (by decide), eF]; exact h.w, fun k hk => ?_, fun k hk => ?_, fun k hk => ?_⟩
  · rw [hm 24 (by decide) (by decide) (by decide) (by decide), hd 59 (by decide) (by decide), hd 60 (by decide) (by decide), eF]
    exact h.p k hk
  · rw [hm 18 (by decide) (by decide) (by decide) (by decide), hd 57 (by decide) (by decide), e5, brF_kk e5, nL_k e6]
    exact h.l k hk
  · rw [hm 19 (by decide) (by decide) (by decide) (by decide), hd 58 (by decide) (by decide), e5, brF_kk e5, nL_k e6]
    exact h.r k hk
theorem brF_m1 (hm : inv m) {b a : Nat} (hb : b < 2) (ha : a < nL m b) (h : brF m (80 * b) a = true) : m.1 5 (80 * b + a) = -1 := hm.N b hb a ha (of_decide_eq_true h)
theorem best_eq (h : eqv d m) (hm : inv m) (hp : prel d m) {r r' : Int32} {g m' : mS} (hd : bsD d r g) (hb : bestR m r' m') : r = r' ∧ prel g m' ∧ (∀ j, j < 57 ∨ (76 ≤ j ∧ j < 200) → g.1 j = d.1 j) ∧ (∀ j, ¬ isPr j → m'.1 j = m.1 j) ∧ (g.1 64 0 = d.1 64 0 ∨ g.1 64 0 = d.1 50 0) := by
  obtain ⟨m2, ⟨a1, a2, a3, a4, a5, a6⟩, hb⟩ := hb
  have e0 := q_cBr h (b := 0) (by decide)
  have e1 := q_cBr h (b := 1) (by decide)
  unfold bsD at hd
  rw [e0, e1] at hd
  by_cases big : 14 < cBr m 0 ∨ 14 < cBr m 1
  · rw [if_pos big] at hd hb
    obtain ⟨rfl, rfl⟩ := hd
    obtain ⟨rfl, rfl⟩ := hb
    have k2 : ∀ j, j ≠ 17 → j ≠ 18 → j ≠ 19 → j ≠ 20 → j ≠ 21 → (mset m2 17 0 (nI 0)).1 j = m.1 j := fun j q0 q1 q2 q3 q4 => by rw [mset_ne q0]; exact a2 j q1 q2 q3 q4
    have nf : ¬ ¬ m.1 17 0 = 0 := fun q => by
      obtain ⟨n, T, z⟩ := hp.f q
      have := z.n14
      have := z.T14
      have := z.c0
      have := z.c1
      omega
    have z17 : (mset m2 17 0 (nI 0)).1 17 0 = 0 := by rw [mset_at]; rfl
    refine ⟨rfl, ⟨?_, hp.k, cch_k hp.c (k2 22 (by decide) (by decide) (by decide) (by decide) (by decide)) (k2 26 (by decide) (by decide) (by decide) (by decide) (by decide)) (k2 27 (by decide) (by decide) (by decide) (by decide) (by decide)) (k2 28 (by decide) (by decide) (by decide) (by decide) (by decide)) (k2 29 (by decide) (by decide) (by decide) (by decide) (by decide)), fun q => absurd z17 q⟩, fun _ _ => rfl, fun j q => k2 j (by unfold isPr at q; omega) (by unfold isPr at q; omega) (by unfold isPr at q; omega) (by unfold isPr at q; omega) (by unfold isPr at q; omega), Or.inl rfl⟩
    rw [z17]
    exact ⟨fun q => absurd (hp.fr.mp q) nf, fun q => absurd rfl q⟩
  · rw [if_neg big] at hd hb
    obtain ⟨sm, m3, ⟨b1, b2, b3, b4, b5⟩, m6, ⟨w1, w2, w3, w4, w5, w6⟩, m7, ⟨v1, v2, v3, v4⟩, rfl⟩ := hb
    obtain ⟨y1, y2, y3, y4, y5, y6, y7, y8, y9, y10⟩ := hd
    rw [e0, e1] at y1 y3 y4
    rw [e0] at y7
    rw [e1] at y8
    have hn : cBr m 0 ≤ 14 := by omega
    have hT : cBr m 1 ≤ 14 := by omega
    -- the model's fields
    have k6 : ∀ j, j ≠ 18 → j ≠ 19 → j ≠ 20 → j ≠ 21 → j ≠ 22 → j ≠ 23 → j ≠ 25 → j ≠ 27 → j ≠ 28 → m6.1 j = m.1 j := fun j q1 q2 q3 q4 q5 q6 q7 q8 q9 => by rw [w2 j q6 q7 q8 q9, b2 j q5, a2 j q1 q2 q3 q4]
    have k7 : ∀ j, j ≠ 17 → j ≠ 18 → j ≠ 19 → j ≠ 20 → j ≠ 21 → j ≠ 22 → j ≠ 23 → j ≠ 24 → j ≠ 25 → j ≠ 26 → j ≠ 27 → j ≠ 28 → (mset m7 17 0 (nI 1)).1 j = m.1 j := fun j q0 q1 q2 q3 q4 q5 q6 p1 q7 p2 q8 q9 => by rw [mset_ne q0, v2 j p1 p2]; exact k6 j q1 q2 q3 q4 q5 q6 q7 q8 q9
    have f20 : m6.1 20 0 = nI (cBr m 0) := by rw [w2 20 (by decide) (by decide) (by decide) (by decide), b2 20 (by decide)]; exact a3
    have f21 : m6.1 21 0 = nI (cBr m 1) := by rw [w2 21 (by decide) (by decide) (by decide) (by decide), b2 21 (by decide)]; exact a4
    have nO6 : nO m6 = cBr m 0 := by show nv (m6.1 20 0) = _; rw [f20]; exact nv_nI (by omega)
    have nT6 : nTh2 m6 = cBr m 1 := by show nv (m6.1 21 0) = _; rw [f21]; exact nv_nI (by omega)
    have f22 : (mset m7 17 0 (nI 1)).1 22 = m3.1 22 := by rw [mset_ne (by decide), v2 22 (by decide) (by decide), w2 22 (by decide) (by decide) (by decide) (by decide)]
    have f226 : (mset m7 17 0 (nI 1)).1 22 = m6.1 22 := by rw [mset_ne (by decide), v2 22 (by decide) (by decide)]
    have fE : fM (mset m7 17 0 (nI 1)) = fM m6 := fM_k f226
    have f5 := k7 5 (by decide) (by decide) (by decide) (by decide) (by decide) (by decide) (by decide) (by decide) (by decide) (by decide) (by decide) (by decide)
    have f6 := k7 6 (by decide) (by decide) (by decide) (by decide) (by decide) (by decide) (by decide) (by decide) (by decide) (by decide) (by decide) (by decide)
    have f18 : (mset m7 17 0 (nI 1)).1 18 = m2.1 18 := by rw [mset_ne (by decide), v2 18 (by decide) (by decide), w2 18 (by decide) (by decide) (by decide) (by decide), b2 18 (by decide)]
    have f19 : (mset m7 17 0 (nI 1)).1 19 = m2.1 19 := by rw [mset_ne (by decide), v2 19 (by decide) (by decide), w2 19 (by decide) (by decide) (by decide) (by decide), b2 19 (by decide)]
    -- rows and columns
    have n0 := q_nL h (b := 0) (by decide)
    have n1 := q_nL h (b := 1) (by decide)
    have rowL : ∀ k, k < cBr m 0 → ∃ a, a < nL m 0 ∧ brF m 0 a = true ∧ m2.1 18 k = nI a ∧ g.1 57 k = nI a ∧ fb_ct (brF m 0) a = k := fun k hk => by
      obtain ⟨a, q1, q2, q3⟩ := fb_ct_kth (p := brF m 0) (n := nL m 0) hk
      have z1 := a5 a q1 q2 (by omega)
      have z2 := y5 a (by omega) (by rw [show brF d 0 a = brF m 0 a from q_brF h (b := 0) (by decide) q1]; exact q2)
      rw [show fb_ct (brF d 0) a = fb_ct (brF m 0) a from q_ctB h (b := 0) (by decide) (by omega), q3] at z2
      rw [q3] at z1
      exact ⟨a, q1, q2, z1, z2, q3⟩
    have colL : ∀ k, k < cBr m 1 → ∃ a, a < nL m 1 ∧ brF m 80 a = true ∧ m2.1 19 k = nI a ∧ g.1 58 k = nI a ∧ fb_ct (brF m 80) a = k := fun k hk => by
      obtain ⟨a, q1, q2, q3⟩ := fb_ct_kth (p := brF m 80) (n := nL m 1) hk
      have z1 := a6 a q1 q2 (by omega)
      have z2 := y6 a (by omega) (by rw [show brF d 80 a = brF m 80 a from q_brF h (b := 1) (by decide) q1]; exact q2)
      rw [show fb_ct (brF d 80) a = fb_ct (brF m 80) a from q_ctB h (b := 1) (by decide) (by omega), q3] at z2
      rw [q3] at z1
      exact ⟨a, q1, q2, z1, z2, q3⟩
    have l0 := (hm.L 0 (by decide)).2
    have l1 := (hm.L 1 (by decide)).2
    have fits : ∀ i j, i < cBr m 0 → j < cBr m 1 → fD d g i j = fM m6 i j := fun i j hi hj => by
      obtain ⟨a, q1, q2, q3, q4, _⟩ := rowL i hi
      obtain ⟨b, p1, p2, p3, p4, _⟩ := colL j hj
      have z : m6.1 22 (14 * i + j) = fW m m2 i j := by rw [w2 22 (by decide) (by decide) (by decide) (by decide)]; exact b3 i j hj (Or.inl hi)
      show fitV d (nv (g.1 57 i)) (80 + nv (g.1 58 j)) = m6.1 22 (14 * i + j)
      rw [z]
      show _ = fitV m (nv (m2.1 18 i)) (80 + nv (m2.1 19 j))
      rw [q3, q4, p3, p4, nv_nI (by omega), nv_nI (by omega)]
      refine q_fitV h hm.V ⟨by omega, ?_⟩ ⟨by omega, ?_⟩
      · rw [show a % 80 = a by omega, show a / 80 = 0 by omega]; exact q1
      · rw [show (80 + b) % 80 = b by omega, show (80 + b) / 80 = 1 by omega]; exact p1
    have rr : r = r' := by
      rw [y1, w6, rk_cong fits _ (Nat.le_refl _)]
      show _ = rk (fM m6) (noP (-1) (-1)) (nO m6) (nTh2 m6) (nO m6) 0
      rw [nO6, nT6]
    have z17 : ¬ (mset m7 17 0 (nI 1)).1 17 0 = 0 := by rw [mset_at]; decide
    have fg : frD g := by show g.1 64 0 = g.1 50 0; rw [y9, y10 50 (Or.inl (by decide))]
    have f27 : (mset m7 17 0 (nI 1)).1 27 0 = nI (cBr m 0) := by rw [mset_ne (by decide), v2 27 (by decide) (by decide)]; exact w3
    have f28 : (mset m7 17 0 (nI 1)).1 28 0 = nI (cBr m 1) := by rw [mset_ne (by decide), v2 28 (by decide) (by decide)]; exact w4
    refine ⟨rr, ⟨⟨fun _ => z17, fun _ => fg⟩, ⟨cBr m 0, hn, y7⟩, ?_, fun _ => ⟨cBr m 0, cBr m 1, hn, hT, cBr_kk f5 f6 0, cBr_kk f5 f6 1, ?_, ?_, f27, f28, y7, ?_, fun k hk => ⟨?_, ?_, ?_⟩, fun k hk => ?_, fun k hk => ?_⟩⟩, y10, fun j q => k7 j (by unfold isPr at q; omega) (by unfold isPr at q; omega) (by unfold isPr at q; omega) (by unfold isPr at q; omega) (by unfold isPr at q; omega) (by unfold isPr at q; omega) (by unfold isPr at q; omega) (by unfold isPr at q; omega) (by unfold isPr at q; omega) (by unfold isPr at q; omega) (by unfold isPr at q; omega) (by unfold isPr at q; omega), Or.inr y9⟩
    · intro n' T' h1 h2 h3 h4 k hk hne
      have en : n' = cBr m 0 := nI_inj (by omega) (by omega) (h3.symm.trans f27)
      have eT : T' = cBr m 1 := nI_inj (by omega) (by omega) (h4.symm.trans f28)
      subst en
      subst eT
      rw [mset_ne (by decide), (v3 k hk).2] at hne
      have c2 : ¬ (m6.1 26 k = 0 ∨ sm = 0) := fun q => hne (by rw [if_pos q]; rfl)
      have c3 : ¬ m6.1 26 k = 0 := fun q => c2 (Or.inl q)
      have c4 : ¬ sm = 0 := fun q => c2 (Or.inr q)
      obtain ⟨⟨s1, s2⟩, s3⟩ := b5 c4
      rw [a2 27 (by decide) (by decide) (by decide) (by decide)] at s1
      rw [a2 28 (by decide) (by decide) (by decide) (by decide)] at s2
      have e22 : (mset m7 17 0 (nI 1)).1 22 = m.1 22 := by rw [f22, ← a2 22 (by decide) (by decide) (by decide) (by decide)]; exact funext s3
      rw [k6 26 (by decide) (by decide) (by decide) (by decide) (by decide) (by decide) (by decide) (by decide) (by decide)] at c3
      rw [k7 29 (by decide) (by decide) (by decide) (by decide) (by decide) (by decide) (by decide) (by decide) (by decide) (by decide) (by decide) (by decide), fM_k e22]
      exact hp.c _ _ h1 h2 s1 s2 k hk c3
    · rw [mset_ne (by decide), v2 20 (by decide) (by decide)]; exact f20
    · rw [mset_ne (by decide), v2 21 (by decide) (by decide)]; exact f21
    · rw [mset_ne (by decide), v2 25 (by decide) (by decide), w5, ← rr, y1, fE, rk_cong fits _ (Nat.le_refl _)]
    · rw [mset_ne (by decide), (v3 k hk).1, fE, grT_eq]
      show pkF (fM m6) (nO m6) (nTh2 m6) k (grF (fM m6) (nO m6) (nTh2 m6) k) = pI (fM m6) (cBr m 0) (cBr m 1) k
      rw [nO6, nT6]
      rfl
    · rw [fE, y3 k hk]; exact pI_cong fits hk
    · rw [fE, y4 k hk]; exact rvV_cong fits hk
    · obtain ⟨a, q1, q2, q3, q4, q5⟩ := rowL k hk
      refine ⟨a, by rw [nL_k f6]; exact q1, by rw [f18]; exact q3, q4, ?_, by rw [brF_kk f5]; exact q5⟩
      rw [f5]
      have := brF_m1 hm (b := 0) (by decide) q1 q2
      rwa [show 80 * 0 + a = a by omega] at this
    · obtain ⟨a, q1, q2, q3, q4, q5⟩ := colL k hk
      refine ⟨a, by rw [nL_k f6]; exact q1, by rw [f19]; exact q3, q4, ?_, by rw [brF_kk f5]; exact q5⟩
      rw [f5]
      exact brF_m1 hm (b := 1) (by decide) q1 q2
end PBEST
