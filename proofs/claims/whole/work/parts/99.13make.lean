/-! ===== the desk is made, 2: a book, the desk: printed by gen/c2.py ===== -/
abbrev rfN (N k : Nat) (f : Nat → Nat) : vp_A := (N, .inr (.inr (.inr (.inr (fun i => if i < k then some (f i) else none)))))
theorem rf_up {k x : Nat} {f : Nat → Nat} (hx : x = f k) : va_up (fun i => if i < k then some (f i) else none) k (some x) = fun i => if i < k + 1 then some (f i) else none := by
  funext i
  unfold va_up
  by_cases c : i = k
  · rw [if_pos c, if_pos (by omega), hx, c]
  · rw [if_neg c]
    show (if i < k then some (f i) else none) = _
    by_cases c2 : i < k
    · rw [if_pos c2, if_pos (by omega)]
    · rw [if_neg c2, if_neg (by omega)]
theorem rf_0 {f : Nat → Nat} : (fun _ : Nat => (none : Option Nat)) = fun i => if i < 0 then some (f i) else none := funext fun i => (if_neg (Nat.not_lt_zero i)).symm
/-- a cell of references, some of them written, at place p; the rest as it will be -/
def hZ (h : vx_H) (p t N k : Nat) (f : Nat → Nat) : vx_H := fun q => if q = p then .inl (t, rfN N k f) else h q
theorem hZ_0 {h : vx_H} {p t N k : Nat} {f : Nat → Nat} : hZ h p t N k f p = .inl (t, rfN N k f) := if_pos rfl
theorem hZ_ne {h : vx_H} {p t N k q : Nat} {f : Nat → Nat} (c : q ≠ p) : hZ h p t N k f q = h q := if_neg c
theorem hZ_up {h : vx_H} {p t N k x n : Nat} {f : Nat → Nat} (hx : x = f k) (hk : k < 2147483648) : ∀ q, q < n → va_up (hZ h p t N k f) p (.inl (t, N, .inr (.inr (.inr (.inr (va_up (fun i => if i < k then some (f i) else none) (nI k).toNatClampNeg (some x))))))) q = hZ h p t N (k + 1) f q := by
  intro q _
  have e : (nI k).toNatClampNeg = k := nv_nI hk
  rw [e, rf_up hx]
  by_cases c : q = p
  · rw [c, hZ_0]
    exact if_pos rfl
  · rw [hZ_ne c]
    unfold va_up
    rw [if_neg c, hZ_ne c]
theorem hZ_end {h : vx_H} {p t N k q : Nat} {f : Nat → Nat} (he : h p = .inl (t, rfN N k f)) : hZ h p t N k f q = h q := by
  by_cases c : q = p
  · rw [c, hZ_0, he]
  · exact hZ_ne c
/-- behind a constructor of a cell of its own -/
theorem hZ_sub {h : vx_H} {p t N k n q : Nat} {f : Nat → Nat} {e : va_E} (hp : p < n) (hd : ∀ q, n ≤ q → h q = dk d0 q) : hX (va_up (hZ h p t N k f) n e) n q = hZ h p t N k f q := by
  by_cases c : q < n
  · rw [hX_lo c]
    exact if_neg (by omega)
  · rw [hX_hi (by omega), hZ_ne (by omega), hd q (by omega)]
set_option maxHeartbeats 4000000 in
set_option maxRecDepth 20000 in
theorem k_bookI (G : vx_G) (h : vx_H) (a0 b : Nat) (eB : dk d0 a0 = .inr (1, [.ref (a0 + 1), .int 0])) (eA : dk d0 (a0 + 1) = .inl (3, rfN 80 80 (fun i => a0 + 2 + i))) (eL : ∀ i, i < 80 → dk d0 (a0 + 2 + i) = .inr (4, [.int (nI b), .int (nI i), .int 0, .int 0, .int 0, .int 0, .int 0, .int (-1), .int 0])) (hh : h a0 = .inr (1, [.null, .int 0])) : xK G M_X1_init 2 [.ref a0, .int (nI b)] (a0 + 1) h 81 800 (QV (fun n' h' => n' = a0 + 82 ∧ ∀ q, q < a0 + 82 → h' q = hX h a0 q)) := by
  have hx : ∀ q, a0 + 2 ≤ q → hX h a0 q = dk d0 q := fun q hq => hX_hi (by omega)
  have lp : ∀ t k, k + t = 80 → xV (mF G M_X1_init 2 81 800 (QV (fun n' h' => n' = a0 + 82 ∧ ∀ q, q < a0 + 82 → h' q = hX h a0 q))) 20 [some (.ref a0), some (.int (nI b)), some (.int (nI k))] [] (a0 + 2 + k) (hZ (hX h a0) (a0 + 1) 3 80 k (fun i => a0 + 2 + i)) (1 + k) (80 + 9 * k) := by
    intro t
    induction t with
    | zero =>
      intro k hk
      have hk : k = 80 := by omega
      subst hk
      refine x_iload2 dX1_init_20 ?_
      refine x_bipush (nI 80) dX1_init_21 (by decide) ?_
      refine n_icmp_ge 47 dX1_init_23 (by decide) (by decide) (by decide) (fun _ => ?_) (fun q => absurd q (by decide))
      refine x_vret dX1_init_47 rfl ?_ (by show 1 + 80 ≤ 81; decide) (by show 80 + 9 * 80 ≤ 800; decide)
      exact ⟨by omega, fun q _ => hZ_end (by rw [hX_hi (by omega)]; exact eA)⟩
    | succ t ih =>
      intro k hk
      refine x_iload2 dX1_init_20 ?_
      refine x_bipush (nI 80) dX1_init_21 (by decide) ?_
      refine n_icmp_ge 47 dX1_init_23 (by decide) (by omega) (by decide) (fun q => absurd q (by omega)) (fun _ => ?_)
      refine x_aload0 dX1_init_26 ?_
      refine x_getf (k := 0) (v := .ref (a0 + 1)) fgX1_11 (show a0 < a0 + 2 + k by omega) ((hZ_ne (by omega)).trans ((hX_hi (Nat.le_refl _)).trans eB)) rfl dX1_init_27 ?_
      refine x_iload2 dX1_init_30 ?_
      refine x_new nwX1_9 (by show 1 + k + 1 ≤ 81; omega) (by show 80 + 9 * k + 9 ≤ 800; omega) dX1_init_31 ?_
      refine x_dup dX1_init_34 rfl ?_
      refine x_iload1 dX1_init_35 ?_
      refine x_iload2 dX1_init_36 ?_
      refine x_callI2v miX1_21 (k_lineI G _ (a0 + 2 + k) (nI b) (nI k) (eL k (by omega)) up_at) (show xRoom (vx_rm 2 81 800) M_X4_init 1 0 0 (1 + k + 1) (80 + 9 * k + 9) from ⟨⟨by decide, by decide⟩, by show 1 + k + 1 + 0 ≤ 81; omega, by show 80 + 9 * k + 9 + 0 ≤ 800; omega⟩) (Nat.le_of_ble_eq_true rfl) dX1_init_37 (fun n' h' hP => ?_)
      obtain ⟨rfl, hq⟩ := hP
      refine xV.heap (h' := hZ (hX h a0) (a0 + 1) 3 80 k (fun i => a0 + 2 + i)) (fun q hq2 => (hq q hq2).trans (hZ_sub (by omega) (fun q hq3 => hx q (by omega)))) ?_
      refine x_aast (t := 3) (ci := 4) rfl rfl (show a0 + 1 < a0 + 2 + k + 1 by omega) (show a0 + 2 + k < a0 + 2 + k + 1 by omega) hZ_0 ((hZ_ne (by omega)).trans ((hx _ (by omega)).trans (eL k (by omega)))) (vp_nI rfl (by omega) (by decide)).1 dX1_init_40 ?_
      refine xV.heap (hZ_up rfl (by omega)) ?_
      refine x_iinc2 (nI (k + 1)) dX1_init_41 (nI_add k 1) rfl rfl rfl ?_
      refine x_goto 20 dX1_init_44 (by decide) ?_
      have := ih (k + 1) (by omega)
      rw [show a0 + 2 + (k + 1) = a0 + 2 + k + 1 by omega, show 1 + (k + 1) = 1 + k + 1 by omega, show 80 + 9 * (k + 1) = 80 + 9 * k + 9 by omega] at this
      exact this
  refine xK.ofV (by decide) (Nat.le_of_ble_eq_true rfl) ?_
  refine xV.lveq (L' := [some (.ref a0), some (.int (nI b)), none]) rfl ?_
  refine xV.heap (h' := hY h a0 1 [.null, .int 0]) (hY_in hh) ?_
  refine x_aload0 dX1_init_0 ?_
  refine x_objInit moX1_3 mo_i mo_c (Nat.le_of_ble_eq_true rfl) (Nat.le_of_ble_eq_true rfl) dX1_init_1 ?_
  refine x_aload0 dX1_init_4 ?_
  refine x_bipush (nI 80) dX1_init_5 (by decide) ?_
  refine x_newq (t := 3) (N := 80) rfl clX1_9 aoX4 (by decide) (by decide) (by decide) (Nat.le_of_ble_eq_true rfl) (Nat.le_of_ble_eq_true rfl) dX1_init_7 ?_
  refine xV.heap (h' := hZ (hY h a0 1 [.null, .int 0]) (a0 + 1) 3 80 0 (fun i => a0 + 2 + i)) (fun q _ => ?_) ?_
  · unfold va_up hZ
    by_cases c : q = a0 + 1
    · rw [if_pos c, if_pos c, rf_0 (f := fun i => a0 + 2 + i)]
    · rw [if_neg c, if_neg c]
  have put : ∀ (fs fs' : List Value) (n : Nat) (q : Nat), q < n → va_up (hZ (hY h a0 1 fs) (a0 + 1) 3 80 0 (fun i => a0 + 2 + i)) a0 (.inr (1, fs')) q = hZ (hY h a0 1 fs') (a0 + 1) 3 80 0 (fun i => a0 + 2 + i) q := fun fs fs' n q hq => by
    by_cases c : q = a0 + 1
    · rw [c, hZ_0]
      unfold va_up
      rw [if_neg (by omega), hZ_0]
    · rw [hZ_ne c]
      unfold va_up
      by_cases c2 : q = a0
      · rw [if_pos c2, c2, hY_0]
      · rw [if_neg c2, hZ_ne c, hY_ne c2, hY_ne c2]
  have at0 : ∀ fs : List Value, hZ (hY h a0 1 fs) (a0 + 1) 3 80 0 (fun i => a0 + 2 + i) a0 = .inr (1, fs) := fun fs => (hZ_ne (by omega)).trans (hY_0 h a0 1 fs)
  refine x_putF fpX1_11 (show a0 < a0 + 1 + 1 by omega) (at0 _) rfl rfl rfl (Nat.le_of_ble_eq_true rfl) dX1_init_10 (xV.heap (put _ _ _) ?_)
  refine x_aload0 dX1_init_13 ?_
  refine x_iconst 0 dX1_init_14 (by decide) ?_
  refine x_putf fpX1_17 (show a0 < a0 + 1 + 1 by omega) (at0 _) rfl rfl (Nat.le_of_ble_eq_true rfl) dX1_init_15 (xV.heap (put _ _ _) ?_)
  refine x_iconst (nI 0) dX1_init_18 (by decide) ?_
  refine x_istore2 dX1_init_19 rfl rfl rfl ?_
  refine xV.heap (h' := hZ (hX h a0) (a0 + 1) 3 80 0 (fun i => a0 + 2 + i)) (fun q _ => ?_) (lp 80 0 rfl)
  by_cases c : q = a0 + 1
  · rw [c, hZ_0, hZ_0]
  · rw [hZ_ne c, hZ_ne c]
    exact hY_end eB q
theorem lb_d0 {b i : Nat} (hb : b < 2) (hi : i < 80) : dk d0 (bC b + 2 + i) = .inr (4, [.int (nI b), .int (nI i), .int 0, .int 0, .int 0, .int 0, .int 0, .int (-1), .int 0]) := by
  have e : bC b + 2 + i = lC (80 * b + i) := by
    unfold bC lC
    rcases (show b = 0 ∨ b = 1 by omega) with rfl | rfl
    · rw [if_pos rfl, if_pos (by omega)]; omega
    · rw [if_neg (by decide), if_neg (by omega)]; omega
  show ceD d0 (dC (bC b + 2 + i)) = _
  rw [e, dC_L (by omega)]
  show Sum.inr (4, [Value.int (nI ((80 * b + i) / 80)), .int (nI ((80 * b + i) % 80)), .int 0, .int 0, .int 0, .int 0, .int 0, .int (-1), .int 0]) = _
  rw [show (80 * b + i) / 80 = b by omega, show (80 * b + i) % 80 = i by omega]
theorem lb_arr {b : Nat} (hb : b < 2) : dk d0 (bC b + 1) = .inl (3, rfN 80 80 (fun i => bC b + 2 + i)) := by
  show ceD d0 (dC (bC b + 1)) = _
  rw [dC_BA hb]
  show Sum.inl (3, 80, Sum.inr (Sum.inr (Sum.inr (Sum.inr (fun i => if i < 80 then some (lC (80 * b + i)) else none))))) = _
  have e : (fun i => if i < 80 then some (lC (80 * b + i)) else none) = fun i => if i < 80 then some (bC b + 2 + i) else none := by
    funext i
    by_cases c : i < 80
    · rw [if_pos c, if_pos c]
      unfold bC lC
      rcases (show b = 0 ∨ b = 1 by omega) with rfl | rfl
      · rw [if_pos (by omega), if_pos rfl]; congr 1; omega
      · rw [if_neg (by omega), if_neg (by decide)]; congr 1; omega
    · rw [if_neg c, if_neg c]
  rw [e]
theorem gr_d0 (g : Nat) : dk d0 (223 + 2 * g) = .inr (3, [.ref (223 + 2 * g + 1), .int 0, .int 0, .int 0, .int 0, .int 0]) := by
  show ceD d0 (dC (gC g)) = _
  rw [dC_G]
  rfl
theorem gr_arr (g : Nat) : dk d0 (223 + 2 * g + 1) = .inl (3, 8, .inr (.inr (.inr (.inr (fun _ => none))))) := by
  show ceD d0 (dC (gC g + 1)) = _
  rw [dC_GA]
  show Sum.inl (3, 8, Sum.inr (Sum.inr (Sum.inr (Sum.inr (gF d0 g))))) = _
  have e : gF d0 g = fun _ => none := by
    funext j
    unfold gF
    by_cases c : j < 8
    · rw [if_pos c]
      rfl
    · rw [if_neg c]
  rw [e]
/-- the heap while the desk is made: its fields, kb books and kg groups are written into their rows -/
def hT (fs : List Value) (kb kg : Nat) : vx_H := hZ (hZ (fun q => if q = 0 then .inr (9, fs) else dk d0 q) 1 5 2 kb bC) 166 4 200 kg gC
theorem hT_0 {fs : List Value} {kb kg : Nat} : hT fs kb kg 0 = .inr (9, fs) := rfl
theorem hT_q {fs : List Value} {kb kg q : Nat} (h0 : q ≠ 0) (h1 : q ≠ 1) (h2 : q ≠ 166) : hT fs kb kg q = dk d0 q := by
  unfold hT
  rw [hZ_ne h2, hZ_ne h1, if_neg h0]
theorem hT_1 {fs : List Value} {kb kg : Nat} : hT fs kb kg 1 = .inl (5, rfN 2 kb bC) := (hZ_ne (by decide)).trans hZ_0
theorem hT_166 {fs : List Value} {kb kg : Nat} : hT fs kb kg 166 = .inl (4, rfN 200 kg gC) := hZ_0
theorem hT_put {fs fs' : List Value} {kb kg n : Nat} : ∀ q, q < n → va_up (hT fs kb kg) 0 (.inr (9, fs')) q = hT fs' kb kg q := by
  intro q _
  by_cases c : q = 0
  · rw [c]; rfl
  · unfold va_up
    rw [if_neg c]
    unfold hT
    by_cases c2 : q = 166
    · rw [c2, hZ_0, hZ_0]
    · rw [hZ_ne c2, hZ_ne c2]
      by_cases c1 : q = 1
      · rw [c1, hZ_0, hZ_0]
      · rw [hZ_ne c1, hZ_ne c1, if_neg c, if_neg c]
theorem hT_b {fs : List Value} {kb kg x n : Nat} (hx : x = bC kb) (hk : kb < 2147483648) : ∀ q, q < n → va_up (hT fs kb kg) 1 (.inl (5, 2, .inr (.inr (.inr (.inr (va_up (fun i => if i < kb then some (bC i) else none) (nI kb).toNatClampNeg (some x))))))) q = hT fs (kb + 1) kg q := by
  intro q hq
  by_cases c : q = 166
  · rw [c, hT_166]
    exact (if_neg (by decide)).trans hT_166
  · have z := hZ_up (h := fun q => if q = 0 then .inr (9, fs) else dk d0 q) (p := 1) (t := 5) (N := 2) (f := bC) (n := n) hx hk q hq
    unfold hT
    rw [hZ_ne c, ← z]
    unfold va_up
    by_cases c1 : q = 1
    · rw [if_pos c1, if_pos c1]
    · rw [if_neg c1, if_neg c1, hZ_ne c]
theorem hT_sub {fs : List Value} {kb kg n q : Nat} {e : va_E} (h2 : 1 < n) (h3 : n ≠ 166) (hg : 166 < n ∨ kg = 0) (hg2 : n < 166 → ∀ q, q < 166 → True) : (q ≠ 166 ∨ 166 < n) → hX (va_up (hT fs kb kg) n e) n q = hT fs kb kg q := by
  intro hq
  by_cases c : q < n
  · rw [hX_lo c]
    exact if_neg (by omega)
  · rw [hX_hi (by omega), hT_q (by omega) (by omega) (by omega)]
theorem hT_new {fs : List Value} {kb kg n : Nat} {e : va_E} (h0 : 1 < n) (h2 : n ≠ 166) (he : e = dk d0 n) : ∀ q, q < n + 1 → va_up (hT fs kb kg) n e q = hT fs kb kg q := by
  intro q _
  unfold va_up
  by_cases c : q = n
  · rw [if_pos c, c, hT_q (by omega) (by omega) h2, he]
  · rw [if_neg c]
section XT
variable {F : vx_F} {pc : Nat} {L : List (Option Value)} {st : List Value} {ce sl n : Nat} {fs : List Value} {kb kg : Nat}
theorem ct_pF {idx k : Nat} {ty : FieldType} {v : Value} (hf : xFP F.2.1.1.cls idx 9 k ty true) (hn : 0 < n) (hini : F.2.1.1.name = "<init>") (h1 : narrow ty v = v) (h2 : fits ty v = true) (hl : k < fs.length) (hd : decode F.2.1.2.1 pc = .ok (.putfield idx, 3)) (kk : xV F (pc + 3) L st n (hT (fs.set k v) kb kg) ce sl) : xV F pc L (v :: .ref 0 :: st) n (hT fs kb kg) ce sl :=
  x_putF hf hn hT_0 hini h1 h2 hl hd (xV.heap hT_put kk)
theorem ct_pf {idx k : Nat} {ty : FieldType} {v : Value} (hf : xFP F.2.1.1.cls idx 9 k ty false) (hn : 0 < n) (h1 : narrow ty v = v) (h2 : fits ty v = true) (hl : k < fs.length) (hd : decode F.2.1.2.1 pc = .ok (.putfield idx, 3)) (kk : xV F (pc + 3) L st n (hT (fs.set k v) kb kg) ce sl) : xV F pc L (v :: .ref 0 :: st) n (hT fs kb kg) ce sl :=
  x_putf hf hn hT_0 h1 h2 hl hd (xV.heap hT_put kk)
end XT
set_option maxHeartbeats 4000000 in
set_option maxRecDepth 20000 in
theorem kd_init (G : vx_G) (h : vx_H) (hh : h 0 = .inr (9, [.null, .null, .null, .null, .null, .null, .int 0, .int 0, .int 0, .int 0, .int 0])) : xK G M_X9_init 3 [.ref 0] 1 h 622 13739 (QV (fun n' h' => n' = 623 ∧ ∀ q, q < 623 → h' q = dk d0 q)) := by
  have fin : [Value.ref 1, .ref 166, .ref 167, .ref 171, .ref 202, .ref 208, .int 0, .int 0, .int (nI 5), .int 0, .int 0] = [Value.ref 1, .ref 166, .ref 167, .ref 171, .ref 202, .ref 208, .int (d0.1 16 0), .int (d0.1 7 0), .int (d0.1 8 0), .int (d0.1 9 0), .int (d0.1 50 0)] := rfl
  have lp : ∀ t g, g + t = 200 → xV (mF G M_X9_init 3 622 13739 (QV (fun n' h' => n' = 623 ∧ ∀ q, q < 623 → h' q = dk d0 q))) 115 [some (.ref 0), some (.int (nI g))] [] (223 + 2 * g) (hT [.ref 1, .ref 166, .ref 167, .ref 171, .ref 202, .ref 208, .int 0, .int 0, .int (nI 5), .int 0, .int 0] 2 g) (222 + 2 * g) (10939 + 14 * g) := by
    intro t
    induction t with
    | zero =>
      intro g hg
      have hg : g = 200 := by omega
      subst hg
      refine x_iload1 dX9_init_115 ?_
      refine x_sipush (nI 200) dX9_init_116 (by decide) ?_
      refine n_icmp_ge 141 dX9_init_119 (by decide) (by decide) (by decide) (fun _ => ?_) (fun q => absurd q (by decide))
      refine x_vret dX9_init_141 rfl ?_ (by show 222 + 2 * 200 ≤ 622; decide) (by show 10939 + 14 * 200 ≤ 13739; decide)
      refine ⟨rfl, fun q _ => ?_⟩
      by_cases c0 : q = 0
      · rw [c0]; rfl
      · by_cases c1 : q = 1
        · rw [c1]; rfl
        · by_cases c2 : q = 166
          · rw [c2]; rfl
          · exact hT_q c0 c1 c2
    | succ t ih =>
      intro g hg
      refine x_iload1 dX9_init_115 ?_
      refine x_sipush (nI 200) dX9_init_116 (by decide) ?_
      refine n_icmp_ge 141 dX9_init_119 (by decide) (by omega) (by decide) (fun q => absurd q (by omega)) (fun _ => ?_)
      refine x_aload0 dX9_init_122 ?_
      refine x_getf (k := 1) (v := .ref 166) fgX9_20 (show 0 < 223 + 2 * g by omega) hT_0 rfl dX9_init_123 ?_
      refine x_iload1 dX9_init_126 ?_
      refine x_new nwX9_18 (by show 222 + 2 * g + 1 ≤ 622; omega) (by show 10939 + 14 * g + 6 ≤ 13739; omega) dX9_init_127 ?_
      refine x_dup dX9_init_130 rfl ?_
      refine x_callN0v mnX9_68 (k_grpI G _ (223 + 2 * g) (gr_d0 g) (gr_arr g) up_at) (show xRoom (vx_rm 3 622 13739) M_X3_init 1 1 8 (222 + 2 * g + 1) (10939 + 14 * g + 6) from ⟨⟨by decide, by decide⟩, by show 222 + 2 * g + 1 + 1 ≤ 622; omega, by show 10939 + 14 * g + 6 + 8 ≤ 13739; omega⟩) (Nat.le_of_ble_eq_true rfl) dX9_init_131 (fun n' h' hP => ?_)
      obtain ⟨rfl, hq⟩ := hP
      refine xV.heap (fun q hq2 => (hq q hq2).trans (hT_sub (by omega) (by omega) (Or.inl (by omega)) (fun _ _ _ => trivial) (Or.inr (by omega)))) ?_
      refine x_aast (t := 4) (ci := 3) rfl rfl (show 166 < 223 + 2 * g + 2 by omega) (show 223 + 2 * g < 223 + 2 * g + 2 by omega) hT_166 ((hT_q (by omega) (by omega) (by omega)).trans (gr_d0 g)) (vp_nI rfl (by omega) (by decide)).1 dX9_init_134 ?_
      refine xV.heap (hZ_up rfl (by omega)) ?_
      refine x_iinc1 (nI (g + 1)) dX9_init_135 (nI_add g 1) rfl rfl rfl ?_
      refine x_goto 115 dX9_init_138 (by decide) ?_
      have := ih (g + 1) (by omega)
      rw [show 223 + 2 * (g + 1) = 223 + 2 * g + 2 by omega, show 222 + 2 * (g + 1) = 222 + 2 * g + 1 + 1 by omega, show 10939 + 14 * (g + 1) = 10939 + 14 * g + 6 + 8 by omega] at this
      exact this
  refine xK.ofV (by decide) (Nat.le_of_ble_eq_true rfl) ?_
  refine xV.lveq (L' := [some (.ref 0), none]) rfl ?_
  refine xV.heap (h' := hT [.null, .null, .null, .null, .null, .null, .int 0, .int 0, .int 0, .int 0, .int 0] 0 0) (fun q hq => ?_) ?_
  · rw [show q = 0 by omega, hh]
    rfl
  refine x_aload0 dX9_init_0 ?_
  refine x_objInit moX9_1 mo_i mo_c (Nat.le_of_ble_eq_true rfl) (Nat.le_of_ble_eq_true rfl) dX9_init_1 ?_
  refine x_aload0 dX9_init_4 ?_
  refine x_iconst (nI 2) dX9_init_5 (by decide) ?_
  refine x_newq (t := 5) (N := 2) rfl clX9_7 aoX1 (by decide) (by decide) (by decide) (Nat.le_of_ble_eq_true rfl) (Nat.le_of_ble_eq_true rfl) dX9_init_6 ?_
  refine xV.heap (h' := hT [.null, .null, .null, .null, .null, .null, .int 0, .int 0, .int 0, .int 0, .int 0] 0 0) (fun q hq => ?_) ?_
  · unfold va_up
    by_cases c : q = 1
    · rw [if_pos c, c, hT_1, rf_0 (f := bC)]
    · rw [if_neg c]
  refine x_dup dX9_init_9 rfl ?_
  refine x_iconst (nI 0) dX9_init_10 (by decide) ?_
  refine x_new nwX9_7 (Nat.le_of_ble_eq_true rfl) (Nat.le_of_ble_eq_true rfl) dX9_init_11 ?_
  refine x_dup dX9_init_14 rfl ?_
  refine x_iconst (nI 0) dX9_init_15 (by decide) ?_
  refine x_callI1v miX9_9 (k_bookI G _ 2 0 rfl (lb_arr (b := 0) (by decide)) (fun i hi => lb_d0 (b := 0) (by decide) hi) up_at) (xRoom.of rfl) (Nat.le_of_ble_eq_true rfl) dX9_init_16 (fun n' h' hP => ?_)
  obtain ⟨rfl, hq⟩ := hP
  refine xV.heap (h' := hT [.null, .null, .null, .null, .null, .null, .int 0, .int 0, .int 0, .int 0, .int 0] 0 0) (fun q hq2 => (hq q hq2).trans (hT_sub (by decide) (by decide) (Or.inr rfl) (fun _ _ _ => trivial) (Or.inl (by omega)))) ?_
  refine x_aast (t := 5) (ci := 1) rfl rfl (Nat.le_of_ble_eq_true rfl) (Nat.le_of_ble_eq_true rfl) hT_1 ((hT_q (by decide) (by decide) (by decide)).trans rfl) (vp_nI rfl (by decide) (by decide)).1 dX9_init_19 ?_
  refine xV.heap (hT_b rfl (by decide)) ?_
  refine x_dup dX9_init_20 rfl ?_
  refine x_iconst (nI 1) dX9_init_21 (by decide) ?_
  refine x_new nwX9_7 (Nat.le_of_ble_eq_true rfl) (Nat.le_of_ble_eq_true rfl) dX9_init_22 ?_
  refine x_dup dX9_init_25 rfl ?_
  refine x_iconst (nI 1) dX9_init_26 (by decide) ?_
  refine x_callI1v miX9_9 (k_bookI G _ 84 1 rfl (lb_arr (b := 1) (by decide)) (fun i hi => lb_d0 (b := 1) (by decide) hi) up_at) (xRoom.of rfl) (Nat.le_of_ble_eq_true rfl) dX9_init_27 (fun n' h' hP => ?_)
  obtain ⟨rfl, hq⟩ := hP
  refine xV.heap (h' := hT [.null, .null, .null, .null, .null, .null, .int 0, .int 0, .int 0, .int 0, .int 0] 1 0) (fun q hq2 => (hq q hq2).trans (hT_sub (by decide) (by decide) (Or.inr rfl) (fun _ _ _ => trivial) (Or.inl (by omega)))) ?_
  refine x_aast (t := 5) (ci := 1) rfl rfl (Nat.le_of_ble_eq_true rfl) (Nat.le_of_ble_eq_true rfl) hT_1 ((hT_q (by decide) (by decide) (by decide)).trans rfl) (vp_nI rfl (by decide) (by decide)).1 dX9_init_30 ?_
  refine xV.heap (hT_b rfl (by decide)) ?_
  refine ct_pF fpX9_12 (Nat.le_of_ble_eq_true rfl) rfl rfl rfl (Nat.le_of_ble_eq_true rfl) dX9_init_31 ?_
  refine x_aload0 dX9_init_34 ?_
  refine x_sipush (nI 200) dX9_init_35 (by decide) ?_
  refine x_newq (t := 4) (N := 200) rfl clX9_18 aoX3 (by decide) (by decide) (by decide) (Nat.le_of_ble_eq_true rfl) (Nat.le_of_ble_eq_true rfl) dX9_init_38 ?_
  refine xV.heap (h' := hT [.ref 1, .null, .null, .null, .null, .null, .int 0, .int 0, .int 0, .int 0, .int 0] 2 0) (fun q hq => ?_) ?_
  · unfold va_up
    by_cases c : q = 84 + 82
    · rw [if_pos c, c]
      show _ = hT [.ref 1, .null, .null, .null, .null, .null, .int 0, .int 0, .int 0, .int 0, .int 0] 2 0 166
      rw [hT_166, rf_0 (f := gC)]
    · rw [if_neg c]
      rfl
  refine ct_pF fpX9_20 (Nat.le_of_ble_eq_true rfl) rfl rfl rfl (Nat.le_of_ble_eq_true rfl) dX9_init_41 ?_
  refine x_aload0 dX9_init_44 ?_
  refine x_new nwX9_24 (Nat.le_of_ble_eq_true rfl) (Nat.le_of_ble_eq_true rfl) dX9_init_45 ?_
  refine x_dup dX9_init_48 rfl ?_
  refine x_callN0v mnX9_26 (k_actsI G _ up_at) (xRoom.of rfl) (Nat.le_of_ble_eq_true rfl) dX9_init_49 (fun n' h' hP => ?_)
  obtain ⟨rfl, hq⟩ := hP
  refine xV.heap (fun q hq2 => (hq q hq2).trans (hT_sub (Nat.le_of_ble_eq_true rfl) (by decide) (Or.inr rfl) (fun _ _ _ => trivial) (Or.inr (Nat.le_of_ble_eq_true rfl)))) ?_
  refine ct_pF fpX9_27 (Nat.le_of_ble_eq_true rfl) rfl rfl rfl (Nat.le_of_ble_eq_true rfl) dX9_init_52 ?_
  refine x_aload0 dX9_init_55 ?_
  refine x_new nwX9_31 (Nat.le_of_ble_eq_true rfl) (Nat.le_of_ble_eq_true rfl) dX9_init_56 ?_
  refine x_dup dX9_init_59 rfl ?_
  refine x_callN0v mnX9_33 (k_pairI G _ up_at) (xRoom.of rfl) (Nat.le_of_ble_eq_true rfl) dX9_init_60 (fun n' h' hP => ?_)
  obtain ⟨rfl, hq⟩ := hP
  refine xV.heap (fun q hq2 => (hq q hq2).trans (hT_sub (Nat.le_of_ble_eq_true rfl) (by decide) (Or.inr rfl) (fun _ _ _ => trivial) (Or.inr (Nat.le_of_ble_eq_true rfl)))) ?_
  refine ct_pF fpX9_34 (Nat.le_of_ble_eq_true rfl) rfl rfl rfl (Nat.le_of_ble_eq_true rfl) dX9_init_63 ?_
  refine x_aload0 dX9_init_66 ?_
  refine x_new nwX9_38 (Nat.le_of_ble_eq_true rfl) (Nat.le_of_ble_eq_true rfl) dX9_init_67 ?_
  refine x_dup dX9_init_70 rfl ?_
  refine x_callN0v mnX9_40 (k_setsI G _ up_at) (xRoom.of rfl) (Nat.le_of_ble_eq_true rfl) dX9_init_71 (fun n' h' hP => ?_)
  obtain ⟨rfl, hq⟩ := hP
  refine xV.heap (fun q hq2 => (hq q hq2).trans (hT_sub (Nat.le_of_ble_eq_true rfl) (by decide) (Or.inr rfl) (fun _ _ _ => trivial) (Or.inr (Nat.le_of_ble_eq_true rfl)))) ?_
  refine ct_pF fpX9_41 (Nat.le_of_ble_eq_true rfl) rfl rfl rfl (Nat.le_of_ble_eq_true rfl) dX9_init_74 ?_
  refine x_aload0 dX9_init_77 ?_
  refine x_new nwX9_45 (Nat.le_of_ble_eq_true rfl) (Nat.le_of_ble_eq_true rfl) dX9_init_78 ?_
  refine x_dup dX9_init_81 rfl ?_
  refine x_callN0v mnX9_47 (k_explI G _ up_at) (xRoom.of rfl) (Nat.le_of_ble_eq_true rfl) dX9_init_82 (fun n' h' hP => ?_)
  obtain ⟨rfl, hq⟩ := hP
  refine xV.heap (fun q hq2 => (hq q hq2).trans (hT_sub (Nat.le_of_ble_eq_true rfl) (by decide) (Or.inr rfl) (fun _ _ _ => trivial) (Or.inr (Nat.le_of_ble_eq_true rfl)))) ?_
  refine ct_pF fpX9_48 (Nat.le_of_ble_eq_true rfl) rfl rfl rfl (Nat.le_of_ble_eq_true rfl) dX9_init_85 ?_
  refine x_aload0 dX9_init_88 ?_
  refine x_iconst 0 dX9_init_89 (by decide) ?_
  refine ct_pf fpX9_52 (Nat.le_of_ble_eq_true rfl) rfl rfl (Nat.le_of_ble_eq_true rfl) dX9_init_90 ?_
  refine x_aload0 dX9_init_93 ?_
  refine x_iconst 0 dX9_init_94 (by decide) ?_
  refine ct_pf fpX9_56 (Nat.le_of_ble_eq_true rfl) rfl rfl (Nat.le_of_ble_eq_true rfl) dX9_init_95 ?_
  refine x_aload0 dX9_init_98 ?_
  refine x_iconst (nI 5) dX9_init_99 (by decide) ?_
  refine ct_pf fpX9_59 (Nat.le_of_ble_eq_true rfl) rfl rfl (Nat.le_of_ble_eq_true rfl) dX9_init_100 ?_
  refine x_aload0 dX9_init_103 ?_
  refine x_iconst 0 dX9_init_104 (by decide) ?_
  refine ct_pf fpX9_62 (Nat.le_of_ble_eq_true rfl) rfl rfl (Nat.le_of_ble_eq_true rfl) dX9_init_105 ?_
  refine x_aload0 dX9_init_108 ?_
  refine x_iconst 0 dX9_init_109 (by decide) ?_
  refine ct_pf fpX9_65 (Nat.le_of_ble_eq_true rfl) rfl rfl (Nat.le_of_ble_eq_true rfl) dX9_init_110 ?_
  refine x_iconst (nI 0) dX9_init_113 (by decide) ?_
  refine x_istore1 dX9_init_114 rfl rfl rfl ?_
  exact lp 200 0 rfl
