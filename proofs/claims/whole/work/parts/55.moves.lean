/-! ===== seats, 4: what moving rows on does ===== -/
abbrev mvPre (n : Nat) (d : mS) (p h : Nat) : Prop := (vAt d n) ∧ (p < n) ∧ (∀ c c', c < n → c' < n → c ≠ h → c' ≠ h → ¬ d.1 68 c = -1 → d.1 68 c = d.1 68 c' → c = c') ∧ (∀ c, c < n → c ≠ h → ¬ d.1 68 c = nI p) ∧ (h < n → d.1 68 h = nI p ∧ ¬ d.1 74 h = 0)
theorem mvPre.v {n : Nat} {d : mS} {p h : Nat} (h_ : mvPre n d p h) : vAt d n := h_.1
theorem mvPre.p {n : Nat} {d : mS} {p h : Nat} (h_ : mvPre n d p h) : p < n := h_.2.1
theorem mvPre.i {n : Nat} {d : mS} {p h : Nat} (h_ : mvPre n d p h) : ∀ c c', c < n → c' < n → c ≠ h → c' ≠ h → ¬ d.1 68 c = -1 → d.1 68 c = d.1 68 c' → c = c' := h_.2.2.1
theorem mvPre.q {n : Nat} {d : mS} {p h : Nat} (h_ : mvPre n d p h) : ∀ c, c < n → c ≠ h → ¬ d.1 68 c = nI p := h_.2.2.2.1
theorem mvPre.h {n : Nat} {d : mS} {p h : Nat} (h_ : mvPre n d p h) : h < n → d.1 68 h = nI p ∧ ¬ d.1 74 h = 0 := h_.2.2.2.2
abbrev mvCl (n : Nat) (d : mS) (e : mS) : Prop := (e.1 68 = d.1 68) ∧ (∀ j, j ≠ 68 → j ≠ 74 → e.1 j = d.1 j) ∧ (∀ c, ¬ d.1 74 c = 0 → ¬ e.1 74 c = 0) ∧ (∀ c, c < n → d.1 74 c = 0 → ¬ e.1 74 c = 0 → d.1 75 c = 0 ∧ ¬ d.1 68 c = -1 ∧ ∀ c', c' < n → d.1 75 c' = 0 → tgt d (ro d c) c' → ¬ e.1 74 c' = 0)
theorem mvCl.a {n : Nat} {d : mS} {e : mS} (h_ : mvCl n d e) : e.1 68 = d.1 68 := h_.1
theorem mvCl.k {n : Nat} {d : mS} {e : mS} (h_ : mvCl n d e) : ∀ j, j ≠ 68 → j ≠ 74 → e.1 j = d.1 j := h_.2.1
theorem mvCl.r {n : Nat} {d : mS} {e : mS} (h_ : mvCl n d e) : ∀ c, ¬ d.1 74 c = 0 → ¬ e.1 74 c = 0 := h_.2.2.1
theorem mvCl.c {n : Nat} {d : mS} {e : mS} (h_ : mvCl n d e) : ∀ c, c < n → d.1 74 c = 0 → ¬ e.1 74 c = 0 → d.1 75 c = 0 ∧ ¬ d.1 68 c = -1 ∧ ∀ c', c' < n → d.1 75 c' = 0 → tgt d (ro d c) c' → ¬ e.1 74 c' = 0 := h_.2.2.2
abbrev mvOk (n : Nat) (d : mS) (p h : Nat) (e : mS) : Prop := (∀ j, j ≠ 68 → j ≠ 74 → e.1 j = d.1 j) ∧ (∀ c, c < n → ¬ e.1 68 c = d.1 68 c → d.1 74 c = 0 ∧ d.1 75 c = 0 ∧ e.1 68 c = nI (ro e c) ∧ ro e c < n ∧ tgt d (ro e c) c) ∧ (∀ c c', c < n → c' < n → c ≠ h → c' ≠ h → ¬ e.1 68 c = -1 → e.1 68 c = e.1 68 c' → c = c') ∧ (∀ r, r < n → (r = p ∨ ∃ c, c < n ∧ c ≠ h ∧ d.1 68 c = nI r) → ∃ c, c < n ∧ c ≠ h ∧ e.1 68 c = nI r) ∧ (∀ c, c < n → c ≠ h → e.1 68 c = -1 ∨ e.1 68 c = nI p ∨ ∃ c0, c0 < n ∧ c0 ≠ h ∧ d.1 68 c0 = e.1 68 c)
theorem mvOk.k {n : Nat} {d : mS} {p h : Nat} {e : mS} (h_ : mvOk n d p h e) : ∀ j, j ≠ 68 → j ≠ 74 → e.1 j = d.1 j := h_.1
theorem mvOk.t {n : Nat} {d : mS} {p h : Nat} {e : mS} (h_ : mvOk n d p h e) : ∀ c, c < n → ¬ e.1 68 c = d.1 68 c → d.1 74 c = 0 ∧ d.1 75 c = 0 ∧ e.1 68 c = nI (ro e c) ∧ ro e c < n ∧ tgt d (ro e c) c := h_.2.1
theorem mvOk.i {n : Nat} {d : mS} {p h : Nat} {e : mS} (h_ : mvOk n d p h e) : ∀ c c', c < n → c' < n → c ≠ h → c' ≠ h → ¬ e.1 68 c = -1 → e.1 68 c = e.1 68 c' → c = c' := h_.2.2.1
theorem mvOk.p {n : Nat} {d : mS} {p h : Nat} {e : mS} (h_ : mvOk n d p h e) : ∀ r, r < n → (r = p ∨ ∃ c, c < n ∧ c ≠ h ∧ d.1 68 c = nI r) → ∃ c, c < n ∧ c ≠ h ∧ e.1 68 c = nI r := h_.2.2.2.1
theorem mvOk.s {n : Nat} {d : mS} {p h : Nat} {e : mS} (h_ : mvOk n d p h e) : ∀ c, c < n → c ≠ h → e.1 68 c = -1 ∨ e.1 68 c = nI p ∨ ∃ c0, c0 < n ∧ c0 ≠ h ∧ d.1 68 c0 = e.1 68 c := h_.2.2.2.2
def unr (n : Nat) (d : mS) : Nat := fb_ct (fun c => decide (d.1 74 c = 0)) n
def mvSp (n : Nat) (d : mS) (p h : Nat) (x : Bool × mS) : Prop := if x.1 = true then mvOk n d p h x.2 else (mvCl n d x.2 ∧ ∀ c, c < n → d.1 75 c = 0 → tgt d p c → ¬ x.2.1 74 c = 0)
theorem mvSp_t {n : Nat} {d : mS} {p h : Nat} {e : mS} (q : mvOk n d p h e) : mvSp n d p h (true, e) := by
  show (if true = true then _ else _)
  rw [if_pos rfl]; exact q
theorem mvSp_f {n : Nat} {d : mS} {p h : Nat} {e : mS} (q : mvCl n d e) (z : ∀ c, c < n → d.1 75 c = 0 → tgt d p c → ¬ e.1 74 c = 0) : mvSp n d p h (false, e) := by
  show (if false = true then _ else _)
  rw [if_neg Bool.false_ne_true]; exact ⟨q, z⟩
theorem mvCl_refl (n : Nat) (d : mS) : mvCl n d d := ⟨rfl, fun _ _ _ => rfl, fun _ h => h, fun c _ h1 h2 => absurd h1 h2⟩
theorem unr_mark {n c : Nat} {e : mS} (hc : c < n) (h : e.1 74 c = 0) : unr n (mset e 74 c (nI 1)) + 1 = unr n e := by
  unfold unr
  refine (ct_in (p := fun k => decide ((mset e 74 c (nI 1)).1 74 k = 0)) (q := fun k => decide (e.1 74 k = 0)) (i := c) hc ?_ (decide_eq_true h) (fun k hk => ?_)).symm
  · rw [mset_at]; exact decide_eq_false (by decide)
  · rw [mset_off hk]
theorem unr_le {n : Nat} {d e : mS} (h : ∀ c, ¬ d.1 74 c = 0 → ¬ e.1 74 c = 0) : unr n e ≤ unr n d := fb_ct_sub (fun k _ hk => decide_eq_true (Decidable.of_not_not (fun q => h k q (of_decide_eq_true hk))))
theorem tgt_k {d e : mS} (h : ∀ j, j ≠ 68 → j ≠ 74 → e.1 j = d.1 j) {r c : Nat} : tgt e r c ↔ tgt d r c := by
  unfold tgt
  rw [h 66 (by decide) (by decide), h 67 (by decide) (by decide), h (200 + r) (by omega) (by omega)]
theorem mvOk_from {n : Nat} {d e f : mS} {p h : Nat} (hc : mvCl n d e) (ho : mvOk n e p h f) : mvOk n d p h f := by
  refine ⟨fun j a b => (ho.k j a b).trans (hc.k j a b), ?_, ho.i, ?_, ?_⟩
  · intro c hcn hne
    have z := ho.t c hcn (by rw [hc.a]; exact hne)
    refine ⟨Decidable.of_not_not (fun q => hc.r c q z.1), ?_, z.2.2.1, z.2.2.2.1, (tgt_k hc.k).mp z.2.2.2.2⟩
    rw [← hc.k 75 (by decide) (by decide)]; exact z.2.1
  · intro r hr hx
    rw [← hc.a] at hx
    exact ho.p r hr hx
  · intro c hcn hne
    have := ho.s c hcn hne
    rw [hc.a] at this
    exact this
set_option maxHeartbeats 1000000 in
theorem mvS_sp {n : Nat} (hn : n ≤ 14) {k : Nat} {sub : mS → Nat → Bool × mS} (hs : ∀ d p h, mvPre n d p h → unr n d < k → mvSp n d p h (sub d p)) {d : mS} {p h : Nat} (hp : mvPre n d p h) (hu : unr n d < k + 1) : ∀ j e, j ≤ n → mvCl n d e → (∀ c, c < n - j → d.1 75 c = 0 → tgt d p c → ¬ e.1 74 c = 0) → mvSp n d p h (mvS sub p n j e)
  | 0, e, _, hc, hd => mvSp_f hc (fun c hcn => hd c (by omega))
  | j + 1, e, hj, hc, hd => by
    have cn : n - (j + 1) < n := by omega
    have e75 : e.1 75 = d.1 75 := hc.k 75 (by decide) (by decide)
    show mvSp n d p h (if e.1 74 (n - (j + 1)) = 0 ∧ e.1 75 (n - (j + 1)) = 0 ∧ tgt e p (n - (j + 1)) then (if e.1 68 (n - (j + 1)) = -1 then (true, mset (mset e 74 (n - (j + 1)) (nI 1)) 68 (n - (j + 1)) (nI p)) else if (sub (mset e 74 (n - (j + 1)) (nI 1)) (nv (e.1 68 (n - (j + 1))))).1 = true then (true, mset (sub (mset e 74 (n - (j + 1)) (nI 1)) (nv (e.1 68 (n - (j + 1))))).2 68 (n - (j + 1)) (nI p)) else mvS sub p n j (sub (mset e 74 (n - (j + 1)) (nI 1)) (nv (e.1 68 (n - (j + 1))))).2) else mvS sub p n j e)
    have key : n - j = n - (j + 1) + 1 := by omega
    generalize n - (j + 1) = c at cn hd key ⊢
    have ec : mvPre n e p h := ⟨fun x hx => by rw [hc.a]; exact hp.v x hx, hp.p, by rw [hc.a]; exact hp.i, by rw [hc.a]; exact hp.q, fun hh => ⟨by rw [hc.a]; exact (hp.h hh).1, hc.r h (hp.h hh).2⟩⟩
    split
    · next g =>
      have hch : c ≠ h := fun q => by
        by_cases z : h < n
        · exact (hc.r h (hp.h z).2) (q ▸ g.1)
        · omega
      split
      · next f =>
        refine mvSp_t (mvOk_from hc ?_)
        have p14 := hp.p
        have off : ∀ x, x ≠ c → (mset (mset e 74 c (nI 1)) 68 c (nI p)).1 68 x = e.1 68 x := fun x hx => by rw [mset_off hx, mset_ne (by decide)]
        have at_ : (mset (mset e 74 c (nI 1)) 68 c (nI p)).1 68 c = nI p := mset_at _ _ _ _
        refine ⟨fun j a b => by rw [mset_ne a, mset_ne b], ?_, ?_, ?_, ?_⟩
        · intro x hx hne
          by_cases z : x = c
          · subst z
            have rr : ro (mset (mset e 74 x (nI 1)) 68 x (nI p)) x = p := ro_nI at_ (by omega)
            rw [rr]
            exact ⟨g.1, g.2.1, at_, hp.p, g.2.2⟩
          · exact absurd (off x z) hne
        · intro x y hx hy hxh hyh h1 e1
          by_cases z : x = c
          · by_cases z2 : y = c
            · omega
            · rw [z, at_, off y z2] at e1
              exact absurd e1.symm (ec.q y hy hyh)
          · rw [off x z] at h1 e1
            by_cases z2 : y = c
            · rw [z2, at_] at e1
              exact absurd e1 (ec.q x hx hxh)
            · rw [off y z2] at e1
              exact ec.i x y hx hy hxh hyh h1 e1
        · intro r hr hx
          rcases hx with y | ⟨x, x1, x2, x3⟩
          · exact ⟨c, cn, hch, by rw [y]; exact at_⟩
          · have xc : x ≠ c := fun q => by
              rw [q, f] at x3
              exact nIm1 (r := r) (by omega) x3.symm
            exact ⟨x, x1, x2, by rw [off x xc]; exact x3⟩
        · intro x hx hxh
          by_cases z : x = c
          · rw [z]; exact Or.inr (Or.inl at_)
          · rw [off x z]
            exact Or.inr (Or.inr ⟨x, hx, hxh, rfl⟩)
      · next f =>
        have hr := vAt_row ec.v cn f
        have p14 := hp.p
        have qp : nv (e.1 68 c) ≠ p := fun q => ec.q c cn hch (by rw [hr.1, q])
        have m68 : (mset e 74 c (nI 1)).1 68 = e.1 68 := mset_ne (by decide)
        have ehp : h < n → e.1 68 h = nI p := fun z => (ec.h z).1
        have pre2 : mvPre n (mset e 74 c (nI 1)) (nv (e.1 68 c)) c := by
          refine ⟨fun x hx => by rw [m68]; exact ec.v x hx, hr.2, ?_, ?_, fun _ => ⟨by rw [m68]; exact hr.1, by rw [mset_at]; decide⟩⟩
          · rw [m68]
            intro x y hx hy hxc hyc h1 e1
            by_cases z : x = h
            · by_cases z2 : y = h
              · omega
              · rw [z, ehp (z ▸ hx)] at e1
                exact absurd e1.symm (ec.q y hy z2)
            · by_cases z2 : y = h
              · rw [z2, ehp (z2 ▸ hy)] at e1
                exact absurd e1 (ec.q x hx z)
              · exact ec.i x y hx hy z z2 h1 e1
          · rw [m68]
            intro x hx hxc e1
            by_cases z : x = h
            · rw [z, ehp (z ▸ hx)] at e1
              exact qp (nI_inj (by omega) (by omega) e1).symm
            · exact hxc (ec.i x c hx cn z hch (by rw [e1]; exact nIm1 (by omega)) (by rw [e1, ← hr.1]))
        have u2 : unr n (mset e 74 c (nI 1)) < k := by
          have a := unr_mark cn g.1
          have b := unr_le (n := n) hc.r
          omega
        have sp := hs _ _ _ pre2 u2
        generalize hsb : sub (mset e 74 c (nI 1)) (nv (e.1 68 c)) = w at sp
        obtain ⟨b, f2⟩ := w
        split
        · next ht =>
          have hb : b = true := ht
          subst hb
          have ok : mvOk n (mset e 74 c (nI 1)) (nv (e.1 68 c)) c f2 := by
            have z : (if true = true then mvOk n (mset e 74 c (nI 1)) (nv (e.1 68 c)) c f2 else _) := sp
            rw [if_pos rfl] at z; exact z
          refine mvSp_t (mvOk_from hc ?_)
          show mvOk n e p h (mset f2 68 c (nI p))
          have off : ∀ x, x ≠ c → (mset f2 68 c (nI p)).1 68 x = f2.1 68 x := fun x hx => mset_off hx
          have at_ : (mset f2 68 c (nI p)).1 68 c = nI p := mset_at _ _ _ _
          have kk : ∀ j, j ≠ 68 → j ≠ 74 → f2.1 j = e.1 j := fun j a b => (ok.k j a b).trans (mset_ne b)
          have fh : h < n → f2.1 68 h = nI p := fun z => by
            by_cases y : f2.1 68 h = (mset e 74 c (nI 1)).1 68 h
            · rw [y, m68]; exact ehp z
            · have t := (ok.t h z y).1
              rw [mset_off (fun q => hch q.symm)] at t
              exact absurd t (ec.h z).2
          -- nobody else holds p
          have np : ∀ x, x < n → x ≠ c → x ≠ h → ¬ f2.1 68 x = nI p := by
            intro x hx hxc hxh e1
            rcases ok.s x hx hxc with y | y | ⟨x0, y1, y2, y3⟩
            · rw [e1] at y; exact nIm1 (by omega) y
            · rw [e1] at y; exact qp (nI_inj (by omega) (by omega) y).symm
            · rw [m68, e1] at y3
              by_cases z : x0 = h
              · have := ok.i x h hx (z ▸ y1) hxc (fun q => hch q.symm) (by rw [e1]; exact nIm1 (by omega)) (by rw [e1, fh (z ▸ y1)])
                exact hxh this
              · exact ec.q x0 y1 z y3
          refine ⟨fun j a b => (mset_ne a).trans (kk j a b), ?_, ?_, ?_, ?_⟩
          · intro x hx hne
            by_cases z : x = c
            · subst z
              have rr : ro (mset f2 68 x (nI p)) x = p := ro_nI at_ (by omega)
              rw [rr]
              exact ⟨g.1, g.2.1, at_, hp.p, g.2.2⟩
            · have rr : ro (mset f2 68 c (nI p)) x = ro f2 x := by show nv _ = _; rw [off x z]
              rw [off x z] at hne ⊢
              rw [rr]
              have t := ok.t x hx (by rw [m68]; exact hne)
              rw [mset_off z, mset_ne (by decide)] at t
              refine ⟨t.1, t.2.1, t.2.2.1, t.2.2.2.1, ?_⟩
              exact (tgt_k (d := e) (e := mset e 74 c (nI 1)) (fun j _ b => mset_ne b)).mp t.2.2.2.2
          · intro x y hx hy hxh hyh h1 e1
            by_cases z : x = c
            · by_cases z2 : y = c
              · omega
              · rw [z, at_, off y z2] at e1
                exact absurd e1.symm (np y hy z2 hyh)
            · rw [off x z] at h1 e1
              by_cases z2 : y = c
              · rw [z2, at_] at e1
                exact absurd e1 (np x hx z hxh)
              · rw [off y z2] at e1
                exact ok.i x y hx hy z z2 h1 e1
          · intro r hr2 hx
            by_cases zr : r = p
            · exact ⟨c, cn, hch, by rw [zr]; exact at_⟩
            · obtain ⟨x, x1, x2, x3⟩ := hx.resolve_left zr
              have src : r = nv (e.1 68 c) ∨ ∃ y, y < n ∧ y ≠ c ∧ (mset e 74 c (nI 1)).1 68 y = nI r := by
                by_cases z : x = c
                · left
                  rw [z] at x3
                  rw [x3]; exact (nv_nI (by omega)).symm
                · right; exact ⟨x, x1, z, by rw [m68]; exact x3⟩
              obtain ⟨y, y1, y2, y3⟩ := ok.p r hr2 src
              refine ⟨y, y1, fun q => ?_, by rw [off y y2]; exact y3⟩
              rw [q, fh (q ▸ y1)] at y3
              exact zr (nI_inj (by omega) (by omega) y3).symm
          · intro x hx hxh
            by_cases z : x = c
            · rw [z]; exact Or.inr (Or.inl at_)
            · rw [off x z]
              rcases ok.s x hx z with y | y | ⟨x0, y1, y2, y3⟩
              · exact Or.inl y
              · exact Or.inr (Or.inr ⟨c, cn, hch, by rw [y]; exact hr.1⟩)
              · rw [m68] at y3
                by_cases z0 : x0 = h
                · rw [z0, ehp (z0 ▸ y1)] at y3
                  exact Or.inr (Or.inl y3.symm)
                · exact Or.inr (Or.inr ⟨x0, y1, z0, y3⟩)
        · next ht =>
          have hb : b = false := by
            cases b with
            | false => rfl
            | true => exact absurd rfl ht
          subst hb
          have fl : mvCl n (mset e 74 c (nI 1)) f2 ∧ ∀ c', c' < n → (mset e 74 c (nI 1)).1 75 c' = 0 → tgt (mset e 74 c (nI 1)) (nv (e.1 68 c)) c' → ¬ f2.1 74 c' = 0 := by
            have z : (if false = true then _ else (mvCl n (mset e 74 c (nI 1)) f2 ∧ ∀ c', c' < n → (mset e 74 c (nI 1)).1 75 c' = 0 → tgt (mset e 74 c (nI 1)) (nv (e.1 68 c)) c' → ¬ f2.1 74 c' = 0)) := sp
            rw [if_neg Bool.false_ne_true] at z; exact z
          obtain ⟨fc, fd⟩ := fl
          have tk : ∀ r c', tgt (mset e 74 c (nI 1)) r c' ↔ tgt d r c' := fun r c' => (tgt_k (d := e) (e := mset e 74 c (nI 1)) (fun j _ b => mset_ne b)).trans (tgt_k hc.k)
          have m75 : (mset e 74 c (nI 1)).1 75 = d.1 75 := (mset_ne (by decide)).trans e75
          have m68d : (mset e 74 c (nI 1)).1 68 = d.1 68 := m68.trans hc.a
          have rse : ∀ x, ¬ e.1 74 x = 0 → ¬ f2.1 74 x = 0 := fun x hx => fc.r x (by
            by_cases z : x = c
            · rw [z, mset_at]; decide
            · rw [mset_off z]; exact hx)
          have fcc : ¬ f2.1 74 c = 0 := fc.r c (by rw [mset_at]; decide)
          have dc : mvCl n d f2 := by
            refine ⟨fc.a.trans m68d, fun j a b => (fc.k j a b).trans ((mset_ne b).trans (hc.k j a b)), fun x hx => rse x (hc.r x hx), ?_⟩
            intro x hx h0 h1
            by_cases z : x = c
            · subst z
              refine ⟨by rw [← e75]; exact g.2.1, by rw [← hc.a]; exact f, fun c' hc' s' t' => ?_⟩
              refine fd c' hc' (by rw [m75]; exact s') ((tk _ _).mpr ?_)
              show tgt d (nv (e.1 68 x)) c'
              rw [hc.a]; exact t'
            · by_cases y : e.1 74 x = 0
              · have q := fc.c x hx (by rw [mset_off z]; exact y) h1
                rw [m75, m68d] at q
                refine ⟨q.1, q.2.1, fun c' hc' s' t' => q.2.2 c' hc' s' ((tk _ _).mpr ?_)⟩
                show tgt d (nv ((mset e 74 c (nI 1)).1 68 x)) c'
                rw [m68d]; exact t'
              · have q := hc.c x hx h0 y
                exact ⟨q.1, q.2.1, fun c' hc' s' t' => rse c' (q.2.2 c' hc' s' t')⟩
          refine mvS_sp hn hs hp hu j f2 (by omega) dc (fun x hx s' t' => ?_)
          rw [key] at hx
          by_cases z : x = c
          · rw [z]; exact fcc
          · exact rse x (hd x (by omega) s' t')
    · next g =>
      refine mvS_sp hn hs hp hu j e (by omega) hc (fun x hx s' t' => ?_)
      rw [key] at hx
      by_cases z : x = c
      · rw [z] at s' t' ⊢
        exact fun y => g ⟨y, by rw [e75]; exact s', (tgt_k hc.k).mpr t'⟩
      · exact hd x (by omega) s' t'
theorem mvF_sp {n : Nat} (hn : n ≤ 14) : ∀ k d p h, mvPre n d p h → unr n d < k → mvSp n d p h (mvF n k d p)
  | 0, d, p, h, _, hu => absurd hu (Nat.not_lt_zero _)
  | k + 1, d, p, h, hp, hu => mvS_sp hn (mvF_sp hn k) hp hu n d (Nat.le_refl _) (mvCl_refl n d) (fun c hc => by omega)
