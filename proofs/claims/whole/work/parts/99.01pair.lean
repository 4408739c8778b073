/-! ===== pairing, 3: pair answers alike ===== -/
def ab_ (A C : Nat) : Nat → Nat
  | 0 => A
  | _ + 1 => C
theorem hd_gN (m : mS) (s : Int32) (A C : Nat) : hdM m s A C = gN m s (ab_ A C) 2 := rfl
theorem ab_ok {m : mS} {A B : Nat} (hL : iL m) (h0 : A < nL m 0) (h1 : B < nL m 1) (hA : m.1 5 A = -1) (hB : m.1 5 (80 + B) = -1) : gOk m (ab_ A (80 + B)) 2 := by
  have l0 := (hL 0 (by decide)).2
  have l1 := (hL 1 (by decide)).2
  refine ⟨by decide, fun j hj => ?_, fun j j' hj hj' e => ?_, ⟨0, by decide, ?_⟩, ⟨1, by decide, ?_⟩⟩
  · rcases (show j = 0 ∨ j = 1 by omega) with rfl | rfl
    · show (A < 160 ∧ A % 80 < nL m (A / 80)) ∧ m.1 5 A = -1
      rw [show A % 80 = A by omega, show A / 80 = 0 by omega]
      exact ⟨⟨by omega, h0⟩, hA⟩
    · show (80 + B < 160 ∧ (80 + B) % 80 < nL m ((80 + B) / 80)) ∧ m.1 5 (80 + B) = -1
      rw [show (80 + B) % 80 = B by omega, show (80 + B) / 80 = 1 by omega]
      exact ⟨⟨by omega, h1⟩, hB⟩
  · rcases (show j = 0 ∨ j = 1 by omega) with rfl | rfl <;> rcases (show j' = 0 ∨ j' = 1 by omega) with rfl | rfl
    · rfl
    · have e : A = 80 + B := e
      omega
    · have e : 80 + B = A := e
      omega
    · rfl
  · show A < 80
    omega
  · show 80 ≤ 80 + B
    omega
section PPAIR
variable {d m : mS} {n T : Nat}
theorem prF.at_ (h : prF d m n T) (hL : iL m) {i : Nat} (hi : i < n) (hs : ¬ pI (fM m) n T i = -1) : ∃ a b j, j < T ∧ pI (fM m) n T i = nI j ∧ a < nL m 0 ∧ b < nL m 1 ∧ pO m i = a ∧ pT m i = b ∧ dO d i = a ∧ dT d i = b ∧ m.1 5 a = -1 ∧ m.1 5 (80 + b) = -1 ∧ fb_ct (brF m 0) a = i ∧ fb_ct (brF m 80) b = j ∧ m.1 18 i = nI a ∧ m.1 19 j = nI b ∧ d.1 57 i = nI a ∧ d.1 58 j = nI b := by
  obtain ⟨j, j1, j2⟩ := pI_in hs
  obtain ⟨a, a1, a2, a3, a4, a5⟩ := h.l i hi
  obtain ⟨b, b1, b2, b3, b4, b5⟩ := h.r j j1
  have l0 := (hL 0 (by decide)).2
  have l1 := (hL 1 (by decide)).2
  have hT := h.T14
  obtain ⟨p1, p2, _⟩ := h.p i hi
  refine ⟨a, b, j, j1, j2, a1, b1, ?_, ?_, ?_, ?_, a4, b4, a5, b5, a2, b2, a3, b3⟩
  · show nv (m.1 18 i) = a
    rw [a2]; exact nv_nI (by omega)
  · show nv (m.1 19 (nv (m.1 24 i))) = b
    rw [p1, j2, nv_nI (by omega), b2]; exact nv_nI (by omega)
  · show nv (d.1 57 i) = a
    rw [a3]; exact nv_nI (by omega)
  · show nv (d.1 58 (nv (d.1 59 i))) = b
    rw [p2, j2, nv_nI (by omega), b3]; exact nv_nI (by omega)
theorem prF.iO (h : prF d m n T) (hL : iL m) : iO m := by
  have l0 := (hL 0 (by decide)).2
  have l1 := (hL 1 (by decide)).2
  refine ⟨fun i hi => ?_, fun i hi hw => ?_⟩
  · rw [h.nO] at hi
    obtain ⟨a, a1, a2, _⟩ := h.l i hi
    have e : pO m i = a := by show nv (m.1 18 i) = a; rw [a2]; exact nv_nI (by omega)
    rw [e]; exact ⟨a2, by omega⟩
  · rw [h.nO] at hi
    rw [(h.p i hi).1, pI_neg h.T14] at hw
    obtain ⟨a, b, j, j1, j2, a1, b1, e1, e2, _, _, _, _, _, _, _, e3, _⟩ := h.at_ hL hi hw
    have := h.T14
    rw [(h.p i hi).1, j2, nv_nI (by omega), e2]
    exact ⟨e3, by omega⟩
theorem prF_w3 (h : prF d m n T) {i : Nat} (hi : i < nO m) (hw : ¬ m.1 24 i < 0) : nv (m.1 24 i) < 14 := by
  rw [h.nO] at hi
  rw [(h.p i hi).1, pI_neg h.T14] at hw
  obtain ⟨j, j1, j2⟩ := pI_in hw
  have := h.T14
  rw [(h.p i hi).1, j2, nv_nI (by omega)]
  omega
theorem prF.dok (h : prF d m n T) (hL : iL m) : prOk d n := fun i hi => by
  have l0 := (hL 0 (by decide)).2
  have l1 := (hL 1 (by decide)).2
  have hT := h.T14
  obtain ⟨a, a1, a2, a3, _⟩ := h.l i hi
  have e : dO d i = a := by show nv (d.1 57 i) = a; rw [a3]; exact nv_nI (by omega)
  refine ⟨by rw [e]; exact ⟨a3, by omega⟩, fun hw => ?_⟩
  rw [(h.p i hi).2.1] at hw
  obtain ⟨a, b, j, j1, j2, a1, b1, _, _, _, e2, _, _, _, _, _, _, _, e3⟩ := h.at_ hL hi hw
  rw [(h.p i hi).2.1, j2, nv_nI (by omega), e2]
  exact ⟨⟨rfl, by omega⟩, e3, by omega⟩
theorem su_eq (hp : prel d m) (h : prF d m n T) {s : Int32} {i : Nat} (hi : i < n) : suP m s i = suD d s i := by
  unfold suP suD
  obtain ⟨p1, p2, p3⟩ := h.p i hi
  refine decide_eq_decide.mpr ?_
  show (¬ m.1 24 i < 0 ∧ woV m i - m.1 25 0 ≤ -s) ↔ (¬ d.1 59 i = -1 ∧ d.1 60 i ≤ -s)
  rw [p1, pI_neg h.T14, p2, p3]
  by_cases c : pI (fM m) n T i = -1
  · exact ⟨fun q => absurd c q.1, fun q => absurd c q.1⟩
  · have e : woV m i = rk (fM m) (noP (nI i) (pI (fM m) n T i)) n T n 0 := by
      unfold woV
      by_cases z : m.1 26 i = 0
      · rw [if_pos z]
        show rk (fM m) (noP (nI i) (m.1 24 i)) (nO m) (nTh2 m) (nO m) 0 = _
        rw [h.nO, h.nT, p1]
      · rw [if_neg z]
        exact hp.c n T h.n14 h.T14 h.o27 h.t28 i hi z
    have e2 : rvV (fM m) n T i = woV m i - m.1 25 0 := by
      unfold rvV
      rw [if_neg c, e, h.w]
    rw [e2]
theorem wj_c (hp : prel d m) (h : prF d m n T) {m1 : mS} (hw : woJ m n m1) : cch m1 := by
  obtain ⟨_, w2, _, w4⟩ := hw
  intro n' T' h1 h2 h3 h4 k hk hne
  rw [w2 27 (by decide) (by decide) (by decide)] at h3
  rw [w2 28 (by decide) (by decide) (by decide)] at h4
  have := h.n14
  have := h.T14
  have en : n' = n := nI_inj (by omega) (by omega) (h3.symm.trans h.o27)
  have eT : T' = T := nI_inj (by omega) (by omega) (h4.symm.trans h.t28)
  subst en
  subst eT
  rw [fM_k (w2 22 (by decide) (by decide) (by decide))]
  rcases w4 k hk with ⟨z1, z2⟩ | z
  · rw [z1] at hne
    rw [z2]
    exact hp.c _ _ h1 h2 h3 h4 k hk hne
  · rw [z]
    show rk (fM m) (noP (nI k) (m.1 24 k)) (nO m) (nTh2 m) (nO m) 0 = _
    rw [h.nO, h.nT, (h.p k hk).1]
theorem pgR_cong {m1 : mS} {p q : Nat → Bool} : ∀ i, (∀ k, k < i → p k = q k) → ∀ m', pgR m1 p i m' → pgR m1 q i m'
  | 0, _, _, h => h
  | i + 1, e, m', h => by
    have h : (if p i = true then ∃ m2, pgR m1 p i m2 ∧ didR (hdM m2 (nI 0) (pO m1 i) (80 + pT m1 i)) (nI 1) (nI (nG m2)) (nI 0) m' else pgR m1 p i m') := h
    show (if q i = true then ∃ m2, pgR m1 q i m2 ∧ didR (hdM m2 (nI 0) (pO m1 i) (80 + pT m1 i)) (nI 1) (nI (nG m2)) (nI 0) m' else pgR m1 q i m')
    rw [e i (by omega)] at h
    by_cases c : q i = true
    · rw [if_pos c] at h ⊢
      obtain ⟨m2, h1, h2⟩ := h
      exact ⟨m2, pgR_cong i (fun k hk => e k (by omega)) m2 h1, h2⟩
    · rw [if_neg c] at h ⊢
      exact pgR_cong i (fun k hk => e k (by omega)) m' h
abbrev pgS (d : mS) (m : mS) (s : Int32) (i : Nat) (m2 : mS) : Prop := (core (pgD d s i) m2) ∧ (nG m2 = nG m + fb_ct (suD d s) i) ∧ ((pgD d s i).1 50 0 = d.1 50 0 + nI (fb_ct (suD d s) i)) ∧ (∀ j, 55 ≤ j → (pgD d s i).1 j = d.1 j) ∧ (∀ j, 17 < j → j ≤ 42 → j ≠ 30 → m2.1 j = m.1 j) ∧ (0 < fb_ct (suD d s) i → m2.1 17 0 = 0 ∧ m2.1 30 0 = 0) ∧ (fb_ct (suD d s) i = 0 → m2 = m ∧ pgD d s i = d) ∧ (m2.1 6 = m.1 6) ∧ (∀ y, (∀ k, k < i → suD d s k = true → y ≠ pO m k ∧ y ≠ 80 + pT m k) → m2.1 5 y = m.1 5 y)
theorem pgS.k {d : mS} {m : mS} {s : Int32} {i : Nat} {m2 : mS} (h_ : pgS d m s i m2) : core (pgD d s i) m2 := h_.1
theorem pgS.g {d : mS} {m : mS} {s : Int32} {i : Nat} {m2 : mS} (h_ : pgS d m s i m2) : nG m2 = nG m + fb_ct (suD d s) i := h_.2.1
theorem pgS.c {d : mS} {m : mS} {s : Int32} {i : Nat} {m2 : mS} (h_ : pgS d m s i m2) : (pgD d s i).1 50 0 = d.1 50 0 + nI (fb_ct (suD d s) i) := h_.2.2.1
theorem pgS.dd {d : mS} {m : mS} {s : Int32} {i : Nat} {m2 : mS} (h_ : pgS d m s i m2) : ∀ j, 55 ≤ j → (pgD d s i).1 j = d.1 j := h_.2.2.2.1
theorem pgS.mm {d : mS} {m : mS} {s : Int32} {i : Nat} {m2 : mS} (h_ : pgS d m s i m2) : ∀ j, 17 < j → j ≤ 42 → j ≠ 30 → m2.1 j = m.1 j := h_.2.2.2.2.1
theorem pgS.y {d : mS} {m : mS} {s : Int32} {i : Nat} {m2 : mS} (h_ : pgS d m s i m2) : 0 < fb_ct (suD d s) i → m2.1 17 0 = 0 ∧ m2.1 30 0 = 0 := h_.2.2.2.2.2.1
theorem pgS.z {d : mS} {m : mS} {s : Int32} {i : Nat} {m2 : mS} (h_ : pgS d m s i m2) : fb_ct (suD d s) i = 0 → m2 = m ∧ pgD d s i = d := h_.2.2.2.2.2.2.1
theorem pgS.l {d : mS} {m : mS} {s : Int32} {i : Nat} {m2 : mS} (h_ : pgS d m s i m2) : m2.1 6 = m.1 6 := h_.2.2.2.2.2.2.2.1
theorem pgS.b {d : mS} {m : mS} {s : Int32} {i : Nat} {m2 : mS} (h_ : pgS d m s i m2) : ∀ y, (∀ k, k < i → suD d s k = true → y ≠ pO m k ∧ y ≠ 80 + pT m k) → m2.1 5 y = m.1 5 y := h_.2.2.2.2.2.2.2.2
theorem pg_loop (hk : core d m) (h : prF d m n T) {s : Int32} (hf : nG m + fb_ct (suD d s) n ≤ 200) : ∀ i, i ≤ n → ∀ m2, pgR m (suD d s) i m2 → pgS d m s i m2
  | 0, _, m2, e => by
    have e : m2 = m := e
    subst e
    refine ⟨hk, rfl, ?_, fun _ _ => rfl, fun _ _ _ _ => rfl, fun q => absurd q (Nat.lt_irrefl 0), fun _ => ⟨rfl, rfl⟩, rfl, fun _ _ => rfl⟩
    show d.1 50 0 = d.1 50 0 + nI 0
    rw [nI0, Int32.add_zero]
  | i + 1, hi, m2, e => by
    have e : (if suD d s i = true then ∃ m3, pgR m (suD d s) i m3 ∧ didR (hdM m3 (nI 0) (pO m i) (80 + pT m i)) (nI 1) (nI (nG m3)) (nI 0) m2 else pgR m (suD d s) i m2) := e
    have ct : fb_ct (suD d s) (i + 1) = fb_ct (suD d s) i + (if suD d s i then 1 else 0) := rfl
    by_cases cs : suD d s i = true
    · rw [if_pos cs] at e
      rw [if_pos cs] at ct
      obtain ⟨m3, e1, e2⟩ := e
      have S := pg_loop hk h hf i (by omega) m3 e1
      have mono := fb_ct_mono (suD d s) hi
      have g3 : nG m3 < 200 := by rw [S.g]; omega
      have hL := hk.i.L
      have hs := (of_decide_eq_true cs).1
      rw [(h.p i (by omega)).2.1] at hs
      obtain ⟨A, B, j, j1, j2, a1, b1, pa, pb, da, db, a5, b5, ra, rb, _⟩ := h.at_ hL (by omega) hs
      have n3 : ∀ b, nL m3 b = nL m b := fun b => nL_k S.l
      have hT := h.T14
      -- these two are still breaks
      have far : ∀ k, k < i → suD d s k = true → (A ≠ pO m k ∧ B ≠ pT m k) ∧ pO m k < 80 ∧ pT m k < 80 := fun k hk2 ck => by
        have hs2 := (of_decide_eq_true ck).1
        rw [(h.p k (by omega)).2.1] at hs2
        obtain ⟨A', B', j', j1', j2', a1', b1', pa', pb', _, _, _, _, ra', rb', _⟩ := h.at_ hL (by omega) hs2
        have l0 := (hL 0 (by decide)).2
        have l1 := (hL 1 (by decide)).2
        rw [pa', pb']
        refine ⟨⟨fun q => ?_, fun q => ?_⟩, by omega, by omega⟩
        · rw [q, ra'] at ra; omega
        · rw [q, rb'] at rb
          subst rb
          have := pI_one (f := fM m) (n := n) hT j1 j2 j2'
          omega
      have l0 := (hL 0 (by decide)).2
      have sA : m3.1 5 A = -1 := by
        rw [S.b A (fun k k1 k2 => ⟨(far k k1 k2).1.1, by omega⟩)]; exact a5
      have sB : m3.1 5 (80 + B) = -1 := by
        rw [S.b (80 + B) (fun k k1 k2 => ⟨by have := (far k k1 k2).2.1; omega, by have := (far k k1 k2).1.2; omega⟩)]; exact b5
      have ho : gOk m3 (ab_ A (80 + B)) 2 := ab_ok S.k.i.L (by rw [n3]; exact a1) (by rw [n3]; exact b1) sA sB
      rw [pa, pb, hd_gN] at e2
      have gd : nG (pgD d s i) = nG m3 := q_nG S.k.e
      have pe : pgD d s (i + 1) = coD (gN (pgD d s i) (nI 0) (ab_ A (80 + B)) 2) (nI 1) (nI (nG m3)) (nI 0) := by
        show (if suD d s i = true then coD (hdM (pgD d s i) (nI 0) (dO d i) (80 + dT d i)) (nI 1) (nI (nG (pgD d s i))) (nI 0) else pgD d s i) = _
        rw [if_pos cs, da, db, gd, hd_gN]
      have un := gn_un (s := nI 0) S.k.i g3 ho (nI 0)
      have kk : ∀ (e : mS) (j : Nat), 17 ≤ j → (gN e (nI 0) (ab_ A (80 + B)) 2).1 j = e.1 j := fun e j q => gn_k ⟨by omega, by omega, by omega, by omega, by omega, by omega, by omega, by omega⟩
      have cc := core_act S.k (gn_eqv (s := nI 0) (a := ab_ A (80 + B)) S.k.e S.k.i g3 (by decide : 2 ≤ 8)) (gn_inv S.k.i g3 ho) un.1 un.2 (by decide) (by omega) (fun j q _ => kk _ j (by omega)) (fun j q => kk _ j (by omega)) e2
      have dk2 := didR_k e2
      rw [← pe] at cc
      refine ⟨cc, ?_, ?_, fun j q => ?_, fun j q1 q2 q3 => ?_, fun _ => ⟨e2.2.2.1, e2.2.2.2.1⟩, fun q => ?_, ?_, fun y hy => ?_⟩
      · have : nG m2 = nG (gN m3 (nI 0) (ab_ A (80 + B)) 2) := by
          unfold nG
          rw [dk2 16 (by decide) (by decide) (by decide) (by decide) (by decide) (by decide)]
        rw [this, gn_nG g3, S.g, ct]; omega
      · rw [pe, co_at.2.2.2.2, kk _ 50 (by decide), S.c, ct, ← nI_add, Int32.add_assoc]
      · rw [pe, coD_ne2 q, kk _ j (by omega)]; exact S.dd j q
      · rw [dk2 j (by omega) q3 (by omega) (by omega) (by omega) (by omega), kk _ j (by omega)]; exact S.mm j q1 q2 q3
      · omega
      · rw [dk2 6 (by decide) (by decide) (by decide) (by decide) (by decide) (by decide), gn_k ⟨by decide, by decide, by decide, by decide, by decide, by decide, by decide, by decide⟩]; exact S.l
      · rw [dk2 5 (by decide) (by decide) (by decide) (by decide) (by decide) (by decide)]
        rcases gn_5i (m := m3) (s := nI 0) (a := ab_ A (80 + B)) (n := 2) (y := y) with ⟨_, j', q1, q2⟩ | ⟨q, _⟩
        · have z := hy i (by omega) cs
          rw [pa, pb] at z
          rcases (show j' = 0 ∨ j' = 1 by omega) with rfl | rfl
          · exact absurd q2.symm z.1
          · exact absurd q2.symm z.2
        · rw [q]
          exact S.b y (fun k k1 k2 => hy k (by omega) k2)
    · rw [if_neg cs] at e
      rw [if_neg cs] at ct
      have S := pg_loop hk h hf i (by omega) m2 e
      have pe : pgD d s (i + 1) = pgD d s i := by
        show (if suD d s i = true then coD (hdM (pgD d s i) (nI 0) (dO d i) (80 + dT d i)) (nI 1) (nI (nG (pgD d s i))) (nI 0) else pgD d s i) = _
        rw [if_neg cs]
      have ct : fb_ct (suD d s) (i + 1) = fb_ct (suD d s) i := by omega
      refine ⟨by rw [pe]; exact S.k, by rw [ct]; exact S.g, by rw [pe, ct]; exact S.c, by rw [pe]; exact S.dd, S.mm, by rw [ct]; exact S.y, by rw [pe, ct]; exact S.z, S.l, fun y hy => S.b y (fun k k1 k2 => hy k (by omega) k2)⟩
theorem pair_eq {c : Nat} (hr : rel d m c) (hc : c + 14 < 2147483648) {k : Nat} (hk : k ≤ 14) (e61 : d.1 61 0 = nI k) {s r r' : Int32} {g m' : mS} (hd : prD d k s r g) (hb : prtJ m s r' m') : r' = r ∧ ∃ c', c' ≤ c + 14 ∧ rel g m' c' := by
  have fr : frD d ↔ ¬ m.1 17 0 = 0 := hr.p.fr
  unfold prD at hd
  unfold prtJ at hb
  by_cases q : (nI 0 ≤ s ∧ s ≤ nI 1000) ∧ ¬ m.1 17 0 = 0
  · rw [if_pos ⟨q.1, fr.mpr q.2⟩] at hd
    rw [if_pos q] at hb
    obtain ⟨m1, hw, hb⟩ := hb
    obtain ⟨n, T, h⟩ := hr.p.f q.2
    have hn := h.n14
    have e : k = n := nI_inj (by omega) (by omega) (e61.symm.trans h.d61)
    subst e
    rw [h.nO] at hw hb
    have w2 := hw.2.1
    have ce : fb_ct (suP m s) k = fb_ct (suD d s) k := fb_ct_cong (fun i hi => su_eq hr.p h hi)
    have ng : nG d = nG m := q_nG hr.k.e
    rw [ce] at hb
    rw [ng] at hd
    have r1 : rel d m1 c := by
      refine ⟨core_k hr.k (fun _ _ => rfl) (fun j z => w2 j (by omega) (by omega) (by omega)), hr.c0, hr.c1, hr.c2, prel_c hr.p (wj_c hr.p h hw) (fun j z1 z2 z3 => w2 j z2 z3 (by omega)), srel_k hr.s (fun _ _ => rfl) (fun j z => w2 j (by omega) (by omega) (by omega)), exq_k hr.x (fun _ _ _ => rfl) (fun j z1 z2 => w2 j (by omega) (by omega) (by omega))⟩
    by_cases full : nG m = 200 ∨ 200 < nG m + fb_ct (suD d s) k
    · rw [if_pos full] at hd hb
      obtain ⟨rfl, rfl⟩ := hd
      obtain ⟨rfl, rfl⟩ := hb
      exact ⟨rfl, c, by omega, r1⟩
    · rw [if_neg full] at hd hb
      obtain ⟨rfl, rfl⟩ := hd
      obtain ⟨rfl, hb⟩ := hb
      refine ⟨rfl, ?_⟩
      have hb := pgR_cong k (fun i hi => su_eq hr.p h hi) m' hb
      have h1 : prF d m1 k T := prF_k h (fun _ _ _ => rfl) (fun j z1 z2 z3 z4 => w2 j z3 z4 (by omega))
      have g1 : nG m1 = nG m := by unfold nG; rw [w2 16 (by decide) (by decide) (by decide)]
      have S := pg_loop r1.k h1 (s := s) (by rw [g1]; omega) k (Nat.le_refl _) m' hb
      have cl := fb_ct_le (suD d s) k
      rcases Nat.eq_zero_or_pos (fb_ct (suD d s) k) with z | z
      · obtain ⟨z1, z2⟩ := S.z z
        rw [z1, z2]
        exact ⟨c, by omega, r1⟩
      · refine ⟨c + fb_ct (suD d s) k, by omega, rel_st r1 S.k z (by omega) ?_ (fun j q => S.dd j (by omega)) (fun j a b q => S.mm j (by omega) b q) (S.y z).1 (S.y z).2⟩
        rw [S.c, hr.c0]; exact nI_add _ _
  · rw [if_neg (fun z => q ⟨z.1, fr.mp z.2⟩)] at hd
    rw [if_neg q] at hb
    obtain ⟨rfl, rfl⟩ := hd
    obtain ⟨rfl, rfl⟩ := hb
    exact ⟨rfl, c, by omega, hr⟩
end PPAIR
