/-! ===== seats, 8: the greatest sum without a pair ===== -/
theorem rkJ_cong {f g nx ny : Nat → Int32} {no np : Nat → Bool} {s : Nat} (hn : nx = ny) : ∀ J, (∀ j, j < J → ((0 < f j ∧ no j = false) ↔ (0 < g j ∧ np j = false))) → (∀ j, j < J → 0 < g j → np j = false → f j = g j) → rkJ f nx no s J = rkJ g ny np s J
  | 0, _, _ => by show nx s = ny s; rw [hn]
  | J + 1, h1, h2 => by
    have ih := rkJ_cong (s := s) hn J (fun j hj => h1 j (by omega)) (fun j hj => h2 j (by omega))
    show (if s / 2 ^ J % 2 = 0 ∧ 0 < f J ∧ no J = false then (if rkJ f nx no s J < f J + nx (s ||| 2 ^ J) then f J + nx (s ||| 2 ^ J) else rkJ f nx no s J) else rkJ f nx no s J) = (if s / 2 ^ J % 2 = 0 ∧ 0 < g J ∧ np J = false then (if rkJ g ny np s J < g J + ny (s ||| 2 ^ J) then g J + ny (s ||| 2 ^ J) else rkJ g ny np s J) else rkJ g ny np s J)
    rw [ih, hn]
    by_cases c : s / 2 ^ J % 2 = 0 ∧ 0 < g J ∧ np J = false
    · rw [if_pos c, if_pos ⟨c.1, (h1 J (by omega)).mpr c.2⟩, h2 J (by omega) c.2.1 c.2.2]
    · rw [if_neg c, if_neg (fun q => c ⟨q.1, (h1 J (by omega)).mp q.2⟩)]
/-- the table with one place emptied -/
def fZ (f : Nat → Nat → Int32) (a b : Nat) : Nat → Nat → Int32 := fun i j => if i = a ∧ j = b then 0 else f i j
theorem rk_zero {f : Nat → Nat → Int32} {n T a b : Nat} (hn : n ≤ 14) (hT : T ≤ 14) (ha : a < 14) (hb : b < 14) : ∀ t, t ≤ n → rk (fZ f a b) (noP (-1) (-1)) n T t = rk f (noP (nI a) (nI b)) n T t
  | 0, _ => rfl
  | t + 1, ht => by
    have ih := rk_zero (f := f) hn hT ha hb t (by omega)
    refine funext fun s => ?_
    show rkJ (fZ f a b (n - (t + 1))) (rk (fZ f a b) (noP (-1) (-1)) n T t) (noP (-1) (-1) (n - (t + 1))) s T = rkJ (f (n - (t + 1))) (rk f (noP (nI a) (nI b)) n T t) (noP (nI a) (nI b) (n - (t + 1))) s T
    have np : ∀ j, j < T → (noP (nI a) (nI b) (n - (t + 1)) j = false ↔ ¬ (n - (t + 1) = a ∧ j = b)) := by
      intro j hj
      constructor
      · intro q z
        exact (of_decide_eq_false q) ⟨by rw [z.1], by rw [z.2]⟩
      · intro q
        exact decide_eq_false (fun z => q ⟨nI_inj (by omega) (by omega) z.1, nI_inj (by omega) (by omega) z.2⟩)
    refine rkJ_cong ih T (fun j hj => ?_) (fun j hj _ q => ?_)
    · constructor
      · rintro ⟨q1, q2⟩
        by_cases z : n - (t + 1) = a ∧ j = b
        · have e : fZ f a b (n - (t + 1)) j = 0 := if_pos z
          rw [e] at q1
          exact absurd q1 (by decide)
        · have e : fZ f a b (n - (t + 1)) j = f (n - (t + 1)) j := if_neg z
          rw [e] at q1
          exact ⟨q1, (np j hj).mpr z⟩
      · rintro ⟨q1, q2⟩
        have z := (np j hj).mp q2
        have e : fZ f a b (n - (t + 1)) j = f (n - (t + 1)) j := if_neg z
        rw [e]
        exact ⟨q1, no0 (by omega)⟩
    · exact if_neg ((np j hj).mp q)
theorem toV_I {d : mS} {n : Nat} {β : Int} (h : fvG d n β) : ∀ N, N ≤ n → (toV d N).toInt = fb_si (fun j => ww d (ro d j) j) N ∧ 0 ≤ (toV d N).toInt ∧ (toV d N).toInt ≤ 230 * N
  | 0, _ => by
    have e : (toV d 0).toInt = 0 := by show (nI 0).toInt = 0; decide
    rw [e]
    exact ⟨rfl, by omega, by omega⟩
  | N + 1, hN => by
    have n14 := h.T.n14
    obtain ⟨a1, a2, a3⟩ := toV_I h N (by omega)
    have ed : toV d (N + 1) = if d.1 68 N = -1 then toV d N else toV d N + d.1 (200 + nv (d.1 68 N)) N := rfl
    rw [if_neg (mat_full n14 h.M (by omega))] at ed
    have w := h.T.w (ro d N) N (mat_ro n14 h.M (by omega)).2 (by omega)
    have ad : (toV d (N + 1)).toInt = (toV d N).toInt + ww d (ro d N) N := by
      rw [ed]
      exact t_add (show -2147483648 ≤ (toV d N).toInt + ww d (ro d N) N by omega) (show (toV d N).toInt + ww d (ro d N) N < 2147483648 by omega)
    rw [ad, fb_si_succ]
    refine ⟨by omega, by omega, by omega⟩
theorem toV_rk {d : mS} {n : Nat} {β : Int} {f : Nat → Nat → Int32} {n0 T : Nat} (h : fvG d n β) (r : dR d n f n0 T) : toV d n = rk f (noP (-1) (-1)) n0 T n0 0 := by
  rw [t_eq, (toV_I h n (Nat.le_refl _)).1]
  exact tot_opt h r
theorem toV_v {d : mS} {n : Nat} {β : Int} (h : fvG d n β) : vAt d n := fun c hc => Or.inr (mat_ro h.T.n14 h.M hc)
abbrev twX (d : mS) (row c : Nat) : mS := mset (mset d (200 + row) c (nI 0)) 68 c (-1)
section TW
variable {d : mS} {n : Nat} {f : Nat → Nat → Int32} {n0 T row c : Nat}
theorem twX_k {j : Nat} (h1 : j ≠ 68) (h2 : j ≠ 200 + row) : (twX d row c).1 j = d.1 j := by
  show (mset (mset d (200 + row) c (nI 0)) 68 c (-1)).1 j = _
  rw [mset_ne h1, mset_ne h2]
theorem twX_w (i j : Nat) : (twX d row c).1 (200 + i) j = if i = row ∧ j = c then 0 else d.1 (200 + i) j := by
  show (mset (mset d (200 + row) c (nI 0)) 68 c (-1)).1 (200 + i) j = _
  rw [mset_ne (by omega)]
  by_cases z : i = row
  · subst z
    by_cases y : j = c
    · subst y; rw [mset_at, if_pos ⟨rfl, rfl⟩]; exact nI_0
    · rw [mset_off y, if_neg (fun q => y q.2)]
  · rw [mset_ne (by omega), if_neg (fun q => z q.1)]
theorem twX_c : (twX d row c).1 68 c = -1 := mset_at _ _ _ _
theorem twX_o {x : Nat} (h : x ≠ c) : (twX d row c).1 68 x = d.1 68 x := by
  show (mset (mset d (200 + row) c (nI 0)) 68 c (-1)).1 68 x = _
  rw [mset_off h, mset_ne (by omega)]
theorem tw_0 (h : fvB d n) (hrow : row < n) (hc : c < n) (e1 : d.1 68 c = nI row) : tbl (twX d row c) n ∧ mat (twX d row c) n (fun q => q < n ∧ q ≠ row) ∧ pri (twX d row c) n (fun q => q < n ∧ q ≠ row) 230 ∧ (vv (twX d row c) c ≤ 230) ∧ (-500 ≤ uu (twX d row c) row ∧ uu (twX d row c) row ≤ 500) := by
  have n14 := h.T.n14
  have k66 : ∀ r, uu (twX d row c) r = uu d r := fun r => by show ((twX d row c).1 66 r).toInt = _; rw [twX_k (by decide) (by omega)]
  have k67 : ∀ r, vv (twX d row c) r = vv d r := fun r => by show ((twX d row c).1 67 r).toInt = _; rw [twX_k (by decide) (by omega)]
  have kw : ∀ i j, ww (twX d row c) i j = if i = row ∧ j = c then 0 else ww d i j := fun i j => by
    show ((twX d row c).1 (200 + i) j).toInt = _
    rw [twX_w]
    split
    · rfl
    · rfl
  have kro : ∀ x, x ≠ c → ro (twX d row c) x = ro d x := fun x hx => by show nv _ = nv _; rw [twX_o hx]
  have rowc : ∀ x, x < n → x ≠ c → ro d x ≠ row := fun x hx hxc q => hxc (mat_inj n14 h.M hx hc (by rw [q]; exact (ro_nI e1 (by omega)).symm))
  refine ⟨⟨by rw [twX_k (by decide) (by omega)]; exact h.T.s, n14, ?_⟩, ⟨?_, ?_, ?_⟩, ⟨?_, ?_, ?_, ?_⟩, ?_, ?_⟩
  · intro i j h1 h2
    rw [kw]
    split
    · omega
    · exact h.T.w i j h1 h2
  · intro x hx
    by_cases z : x = c
    · rw [z]; exact Or.inl twX_c
    · rw [twX_o z, kro x z]
      have := mat_ro n14 h.M hx
      exact Or.inr ⟨this.1, this.2, this.2, rowc x hx z⟩
  · intro x y hx hy hm e
    have xc : x ≠ c := fun q => hm (by rw [q]; exact twX_c)
    have yc : y ≠ c := fun q => hm (by rw [e, q]; exact twX_c)
    rw [twX_o xc, twX_o yc] at e
    exact h.M.i x y hx hy (mat_full n14 h.M hx) e
  · intro r hr hS
    obtain ⟨x, x1, x2⟩ := h.M.p r hr hr
    have xc : x ≠ c := fun q => hS.2 (by
      rw [q, e1] at x2
      exact (nI_inj (by omega) (by omega) x2).symm)
    exact ⟨x, x1, by rw [twX_o xc]; exact x2⟩
  · intro r hr hS x hx
    rw [k66, k67, kw, if_neg (fun q => hS.2 q.1)]
    exact h.P.f r hr hr x hx
  · intro x hx hm
    have xc : x ≠ c := fun q => hm (by rw [q]; exact twX_c)
    rw [k66, k67, kw, kro x xc, if_neg (fun q => xc q.2)]
    exact h.P.t x hx (mat_full n14 h.M hx)
  · intro x hx
    rw [k67]
    have := h.P.v x hx
    omega
  · intro r hr _
    rw [k66]
    have := h.P.u r hr hr
    omega
  · rw [k67]
    have := h.P.v c hc
    omega
  · rw [k66]
    have := fvB_u h hrow
    omega
theorem tw_1 (h : fvB d n) (r : dR d n f n0 T) (hrow : row < n0) (hc : c < T) {e : mS} (hs : seR (twX d row c) n row (fun q => q < n ∧ q ≠ row) 230 e) : fvG e n 230 ∧ toV e n = rk f (noP (nI row) (nI c)) n0 T n0 0 := by
  have n14 := h.T.n14
  have a := r.a
  have ee : (fun q => (q < n ∧ q ≠ row) ∨ q = row) = (fun q => q < n) := funext fun q => propext ⟨fun z => by omega, fun z => by omega⟩
  have hM := hs.M
  have hP := hs.P
  rw [ee] at hM hP
  have G : fvG e n 230 := ⟨hs.T, hM, hP⟩
  refine ⟨G, ?_⟩
  have kw : ∀ i, e.1 (200 + i) = (twX d row c).1 (200 + i) := fun i => hs.o (200 + i) (by omega) (by omega) (by omega) (by omega) (by omega) (by omega)
  have R : dR e n (fZ f row c) n0 T := by
    refine ⟨a, fun i j h1 h2 => ?_, fun i j h1 h2 h3 => ?_⟩
    · rw [kw, twX_w, r.e i j h1 h2]; rfl
    · show (e.1 (200 + i) j).toInt = 0
      rw [kw, twX_w]
      split
      · rfl
      · exact r.z i j h1 h2 h3
  rw [toV_rk G R, rk_zero (by omega) (by omega) (by omega) (by omega) n0 (Nat.le_refl _)]
end TW
/-- what was kept is what stands -/
def kpd (d : mS) : Prop := (∀ i, i < 14 → d.1 69 i = d.1 66 i) ∧ (∀ i, i < 15 → d.1 70 i = d.1 67 i) ∧ ∀ i, i < 15 → d.1 71 i = d.1 68 i
abbrev twK (d : mS) (g : mS) : Prop := (∀ j, j ≠ 66 → j ≠ 67 → j ≠ 68 → j ≠ 72 → j ≠ 73 → j ≠ 74 → g.1 j = d.1 j) ∧ (∀ i, i < 14 → g.1 66 i = d.1 66 i) ∧ (∀ i, i < 15 → g.1 67 i = d.1 67 i) ∧ (∀ i, i < 15 → g.1 68 i = d.1 68 i)
theorem twK.k {d : mS} {g : mS} (h_ : twK d g) : ∀ j, j ≠ 66 → j ≠ 67 → j ≠ 68 → j ≠ 72 → j ≠ 73 → j ≠ 74 → g.1 j = d.1 j := h_.1
theorem twK.u {d : mS} {g : mS} (h_ : twK d g) : ∀ i, i < 14 → g.1 66 i = d.1 66 i := h_.2.1
theorem twK.v {d : mS} {g : mS} (h_ : twK d g) : ∀ i, i < 15 → g.1 67 i = d.1 67 i := h_.2.2.1
theorem twK.a {d : mS} {g : mS} (h_ : twK d g) : ∀ i, i < 15 → g.1 68 i = d.1 68 i := h_.2.2.2
theorem rest_twK {d e : mS} {n row c : Nat} {S : Nat → Prop} (hk : kpd d) (hs : seR (twX d row c) n row S 230 e) : twK d (restD (mset e (200 + row) c (d.1 (200 + row) c))) := by
  have o : ∀ j, j ≠ 66 → j ≠ 67 → j ≠ 68 → j ≠ 72 → j ≠ 73 → j ≠ 74 → j ≠ 200 + row → (mset e (200 + row) c (d.1 (200 + row) c)).1 j = d.1 j := fun j a1 a2 a3 a4 a5 a6 a7 => by
    rw [mset_ne a7, hs.o j a1 a2 a3 a4 a5 a6, twX_k a3 a7]
  refine ⟨fun j a1 a2 a3 a4 a5 a6 => ?_, fun i hi => ?_, fun i hi => ?_, fun i hi => ?_⟩
  · unfold restD
    rw [cpD_ne a3, cpD_ne a2, cpD_ne a1]
    by_cases z : j = 200 + row
    · subst z
      refine funext fun x => ?_
      by_cases y : x = c
      · rw [y, mset_at]
      · rw [mset_off y, hs.o (200 + row) a1 a2 a3 a4 a5 a6, twX_w, if_neg (fun q => y q.2)]
    · exact o j a1 a2 a3 a4 a5 a6 z
  · unfold restD
    rw [cpD_ne (by decide), cpD_ne (by decide), cpD_at (by decide) hi, o 69 (by decide) (by decide) (by decide) (by decide) (by decide) (by decide) (by omega)]
    exact hk.1 i hi
  · unfold restD
    rw [cpD_ne (by decide), cpD_at (by decide) hi, cpD_ne (by decide), o 70 (by decide) (by decide) (by decide) (by decide) (by decide) (by decide) (by omega)]
    exact hk.2.1 i hi
  · unfold restD
    rw [cpD_at (by decide) hi, cpD_ne (by decide), cpD_ne (by decide), o 71 (by decide) (by decide) (by decide) (by decide) (by decide) (by decide) (by omega)]
    exact hk.2.2 i hi
/-- what the rivals' loop rests on -/
abbrev rvI (d : mS) (n : Nat) (f : Nat → Nat → Int32) (n0 T : Nat) : Prop := (fvB d n) ∧ (dR d n f n0 T) ∧ (kpd d) ∧ (∀ i j, i < n0 → j < T → pI f n0 T i = nI j → d.1 68 j = nI i)
theorem rvI.B {d : mS} {n : Nat} {f : Nat → Nat → Int32} {n0 T : Nat} (h_ : rvI d n f n0 T) : fvB d n := h_.1
theorem rvI.R {d : mS} {n : Nat} {f : Nat → Nat → Int32} {n0 T : Nat} (h_ : rvI d n f n0 T) : dR d n f n0 T := h_.2.1
theorem rvI.k {d : mS} {n : Nat} {f : Nat → Nat → Int32} {n0 T : Nat} (h_ : rvI d n f n0 T) : kpd d := h_.2.2.1
theorem rvI.c {d : mS} {n : Nat} {f : Nat → Nat → Int32} {n0 T : Nat} (h_ : rvI d n f n0 T) : ∀ i j, i < n0 → j < T → pI f n0 T i = nI j → d.1 68 j = nI i := h_.2.2.2
theorem rvI_tw {d g : mS} {n : Nat} {f : Nat → Nat → Int32} {n0 T : Nat} (h : rvI d n f n0 T) (hg : twK d g) : rvI g n f n0 T := by
  have n14 := h.B.T.n14
  have a := h.R.a
  refine ⟨fvG_k h.B (by rw [hg.k 65 (by decide) (by decide) (by decide) (by decide) (by decide) (by decide)]) (fun i hi => hg.u i (by omega)) (fun i hi => hg.v i (by omega)) (fun i hi => hg.a i (by omega)) (fun i hi j hj => by rw [hg.k (200 + i) (by omega) (by omega) (by omega) (by omega) (by omega) (by omega)]), ⟨a, fun i j h1 h2 => ?_, fun i j h1 h2 h3 => ?_⟩, ⟨fun i hi => ?_, fun i hi => ?_, fun i hi => ?_⟩, fun i j h1 h2 h3 => ?_⟩
  · rw [hg.k (200 + i) (by omega) (by omega) (by omega) (by omega) (by omega) (by omega)]; exact h.R.e i j h1 h2
  · show (g.1 (200 + i) j).toInt = 0
    rw [hg.k (200 + i) (by omega) (by omega) (by omega) (by omega) (by omega) (by omega)]; exact h.R.z i j h1 h2 h3
  · rw [hg.k 69 (by decide) (by decide) (by decide) (by decide) (by decide) (by decide), hg.u i hi]; exact h.k.1 i hi
  · rw [hg.k 70 (by decide) (by decide) (by decide) (by decide) (by decide) (by decide), hg.v i hi]; exact h.k.2.1 i hi
  · rw [hg.k 71 (by decide) (by decide) (by decide) (by decide) (by decide) (by decide), hg.a i hi]; exact h.k.2.2 i hi
  · rw [hg.a j (by omega)]; exact h.c i j h1 h2 h3
theorem rvI_set {d : mS} {n : Nat} {f : Nat → Nat → Int32} {n0 T k i : Nat} {v : Int32} (h : rvI d n f n0 T) (hk : 57 ≤ k ∧ k ≤ 64) : rvI (mset d k i v) n f n0 T := by
  have n14 := h.B.T.n14
  have a := h.R.a
  have e : ∀ j, 65 ≤ j → (mset d k i v).1 j = d.1 j := fun j hj => mset_ne (by omega)
  refine ⟨fvG_k h.B (by rw [e 65 (by decide)]) (fun i hi => by rw [e 66 (by decide)]) (fun i hi => by rw [e 67 (by decide)]) (fun i hi => by rw [e 68 (by decide)]) (fun i hi j hj => by rw [e (200 + i) (by omega)]), ⟨a, fun i j h1 h2 => ?_, fun i j h1 h2 h3 => ?_⟩, ?_, fun i j h1 h2 h3 => ?_⟩
  · rw [e (200 + i) (by omega)]; exact h.R.e i j h1 h2
  · show ((mset d k _ v).1 (200 + i) j).toInt = 0
    rw [e (200 + i) (by omega)]; exact h.R.z i j h1 h2 h3
  · unfold kpd
    rw [e 69 (by decide), e 70 (by decide), e 71 (by decide), e 66 (by decide), e 67 (by decide), e 68 (by decide)]
    exact h.k
  · rw [e 68 (by decide)]; exact h.c i j h1 h2 h3
theorem keep_rv {d : mS} {n : Nat} {f : Nat → Nat → Int32} {n0 T : Nat} (h : fvI d n f n0 T n0) : rvI (keepD d) n f n0 T := by
  have n14 := h.B.T.n14
  have a := h.R.a
  have e : ∀ j, j ≠ 69 → j ≠ 70 → j ≠ 71 → (keepD d).1 j = d.1 j := fun j h1 h2 h3 => by unfold keepD; rw [cpD_ne h3, cpD_ne h2, cpD_ne h1]
  refine ⟨fvG_k h.B (by rw [e 65 (by decide) (by decide) (by decide)]) (fun i hi => by rw [e 66 (by decide) (by decide) (by decide)]) (fun i hi => by rw [e 67 (by decide) (by decide) (by decide)]) (fun i hi => by rw [e 68 (by decide) (by decide) (by decide)]) (fun i hi j hj => by rw [e (200 + i) (by omega) (by omega) (by omega)]), ⟨a, fun i j h1 h2 => ?_, fun i j h1 h2 h3 => ?_⟩, ⟨fun i hi => ?_, fun i hi => ?_, fun i hi => ?_⟩, fun i j h1 h2 h3 => ?_⟩
  · rw [e (200 + i) (by omega) (by omega) (by omega)]; exact h.R.e i j h1 h2
  · show ((keepD d).1 (200 + i) j).toInt = 0
    rw [e (200 + i) (by omega) (by omega) (by omega)]; exact h.R.z i j h1 h2 h3
  · rw [e 66 (by decide) (by decide) (by decide)]
    unfold keepD
    rw [cpD_ne (by decide), cpD_ne (by decide), cpD_at (by decide) hi]
  · rw [e 67 (by decide) (by decide) (by decide)]
    unfold keepD
    rw [cpD_ne (by decide), cpD_at (by decide) hi, cpD_ne (by decide)]
  · rw [e 68 (by decide) (by decide) (by decide)]
    unfold keepD
    rw [cpD_at (by decide) hi, cpD_ne (by decide), cpD_ne (by decide)]
  · rw [e 68 (by decide) (by decide) (by decide)]
    rcases h.c i h1 with q | ⟨x, x1, x2, x3, x4⟩
    · rw [q] at h3
      exact absurd h3.symm (nIm1 (by omega))
    · have : x = j := nI_inj (by omega) (by omega) (x2.symm.trans h3)
      rw [← this]; exact x3
