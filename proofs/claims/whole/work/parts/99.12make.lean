/-! ===== the desk is made, 1: cells, links of 'new': printed by gen/c1.py ===== -/
def d0 : mS := (fun k => if k = 8 then fun _ => nI 5 else if k = 5 then fun _ => -1 else if k = 11 then fun _ => -1 else if k = 64 then fun _ => -1 else if k = 88 then fun _ => -1 else fun _ => 0, fun _ => 0)
def hX (h : vx_H) (a0 : Nat) : vx_H := fun q => if q < a0 then h q else dk d0 q
def hY (h : vx_H) (a0 ci : Nat) (fs : List Value) : vx_H := fun q => if q = a0 then .inr (ci, fs) else hX h a0 q
theorem hX_lo {h : vx_H} {a0 q : Nat} (c : q < a0) : hX h a0 q = h q := if_pos c
theorem hX_hi {h : vx_H} {a0 q : Nat} (c : a0 ≤ q) : hX h a0 q = dk d0 q := if_neg (by omega)
theorem hY_0 (h : vx_H) (a0 ci : Nat) (fs : List Value) : hY h a0 ci fs a0 = .inr (ci, fs) := if_pos rfl
theorem hY_ne {h : vx_H} {a0 ci q : Nat} {fs : List Value} (c : q ≠ a0) : hY h a0 ci fs q = hX h a0 q := if_neg c
theorem hY_put {h : vx_H} {a0 ci n : Nat} {fs fs' : List Value} : ∀ q, q < n → va_up (hY h a0 ci fs) a0 (.inr (ci, fs')) q = hY h a0 ci fs' q := by
  intro q _
  unfold va_up
  by_cases e : q = a0
  · rw [if_pos e, e, hY_0]
  · rw [if_neg e, hY_ne e, hY_ne e]
theorem hY_new {h : vx_H} {a0 ci n : Nat} {fs : List Value} {e : va_E} (hn : a0 < n) (he : e = dk d0 n) : ∀ q, q < n + 1 → va_up (hY h a0 ci fs) n e q = hY h a0 ci fs q := by
  intro q _
  unfold va_up
  by_cases c : q = n
  · rw [if_pos c, c, hY_ne (by omega), hX_hi (by omega), he]
  · rw [if_neg c]
theorem hY_end {h : vx_H} {a0 ci : Nat} {fs : List Value} (he : dk d0 a0 = .inr (ci, fs)) (q : Nat) : hY h a0 ci fs q = hX h a0 q := by
  by_cases c : q = a0
  · rw [c, hY_0, hX_hi (Nat.le_refl _), he]
  · exact hY_ne c
theorem hY_in {h : vx_H} {a0 ci : Nat} {fs : List Value} (hh : h a0 = .inr (ci, fs)) : ∀ q, q < a0 + 1 → h q = hY h a0 ci fs q := by
  intro q hq
  by_cases c : q = a0
  · rw [c, hY_0, hh]
  · rw [hY_ne c, hX_lo (by omega)]
/-- behind a constructor of a cell of its own -/
theorem hY_sub {h : vx_H} {a0 ci n q : Nat} {fs : List Value} {e : va_E} (hn : a0 < n) : hX (va_up (hY h a0 ci fs) n e) n q = hY h a0 ci fs q := by
  by_cases c : q < n
  · rw [hX_lo c]
    exact if_neg (by omega)
  · rw [hX_hi (by omega), hY_ne (by omega), hX_hi (by omega)]
theorem up_at {h : vx_H} {n : Nat} {e : va_E} : va_up h n e n = e := if_pos rfl
theorem nwX9_7 : xNW RX9 7 1 2 [.null, .int 0] := ⟨RX1, TX1, tyX1, rfl, cwX1, tyX1_ok, clX9_7, inX1, izX1, fun j hj => by rcases (show j = 0 ∨ j = 1 by omega) with rfl | rfl <;> rfl, fun _ => rfl⟩
theorem nwX1_9 : xNW RX1 9 4 9 [.int 0, .int 0, .int 0, .int 0, .int 0, .int 0, .int 0, .int 0, .int 0] := ⟨RX4, TX4, tyX4, rfl, cwX4, tyX4_ok, clX1_9, inX4, izX4, fun j hj => by rcases (show j = 0 ∨ j = 1 ∨ j = 2 ∨ j = 3 ∨ j = 4 ∨ j = 5 ∨ j = 6 ∨ j = 7 ∨ j = 8 by omega) with rfl | rfl | rfl | rfl | rfl | rfl | rfl | rfl | rfl <;> rfl, fun _ => rfl⟩
theorem nwX9_18 : xNW RX9 18 3 6 [.null, .int 0, .int 0, .int 0, .int 0, .int 0] := ⟨RX3, TX3, tyX3, rfl, cwX3, tyX3_ok, clX9_18, inX3, izX3, fun j hj => by rcases (show j = 0 ∨ j = 1 ∨ j = 2 ∨ j = 3 ∨ j = 4 ∨ j = 5 by omega) with rfl | rfl | rfl | rfl | rfl | rfl <;> rfl, fun _ => rfl⟩
theorem nwX9_24 : xNW RX9 24 0 5 [.null, .null, .null, .int 0, .int 0] := ⟨RX0, TX0, tyX0, rfl, cwX0, tyX0_ok, clX9_24, inX0, izX0, fun j hj => by rcases (show j = 0 ∨ j = 1 ∨ j = 2 ∨ j = 3 ∨ j = 4 by omega) with rfl | rfl | rfl | rfl | rfl <;> rfl, fun _ => rfl⟩
theorem nwX9_31 : xNW RX9 31 5 9 [.null, .null, .null, .null, .null, .int 0, .int 0, .int 0, .int 0] := ⟨RX5, TX5, tyX5, rfl, cwX5, tyX5_ok, clX9_31, inX5, izX5, fun j hj => by rcases (show j = 0 ∨ j = 1 ∨ j = 2 ∨ j = 3 ∨ j = 4 ∨ j = 5 ∨ j = 6 ∨ j = 7 ∨ j = 8 by omega) with rfl | rfl | rfl | rfl | rfl | rfl | rfl | rfl | rfl <;> rfl, fun _ => rfl⟩
theorem nwX5_9 : xNW RX5 9 6 12 [.null, .int 0, .null, .null, .null, .null, .null, .null, .null, .null, .null, .null] := ⟨RX6, TX6, tyX6, rfl, cwX6, tyX6_ok, clX5_9, inX6, izX6, fun j hj => by rcases (show j = 0 ∨ j = 1 ∨ j = 2 ∨ j = 3 ∨ j = 4 ∨ j = 5 ∨ j = 6 ∨ j = 7 ∨ j = 8 ∨ j = 9 ∨ j = 10 ∨ j = 11 by omega) with rfl | rfl | rfl | rfl | rfl | rfl | rfl | rfl | rfl | rfl | rfl | rfl <;> rfl, fun _ => rfl⟩
theorem nwX9_38 : xNW RX9 38 7 13 [.null, .null, .null, .null, .null, .int 0, .int 0, .int 0, .int 0, .int 0, .int 0, .int 0, .int 0] := ⟨RX7, TX7, tyX7, rfl, cwX7, tyX7_ok, clX9_38, inX7, izX7, fun j hj => by rcases (show j = 0 ∨ j = 1 ∨ j = 2 ∨ j = 3 ∨ j = 4 ∨ j = 5 ∨ j = 6 ∨ j = 7 ∨ j = 8 ∨ j = 9 ∨ j = 10 ∨ j = 11 ∨ j = 12 by omega) with rfl | rfl | rfl | rfl | rfl | rfl | rfl | rfl | rfl | rfl | rfl | rfl | rfl <;> rfl, fun _ => rfl⟩
theorem nwX9_45 : xNW RX9 45 2 10 [.null, .null, .null, .null, .null, .null, .int 0, .null, .null, .int 0] := ⟨RX2, TX2, tyX2, rfl, cwX2, tyX2_ok, clX9_45, inX2, izX2, fun j hj => by rcases (show j = 0 ∨ j = 1 ∨ j = 2 ∨ j = 3 ∨ j = 4 ∨ j = 5 ∨ j = 6 ∨ j = 7 ∨ j = 8 ∨ j = 9 by omega) with rfl | rfl | rfl | rfl | rfl | rfl | rfl | rfl | rfl | rfl <;> rfl, fun _ => rfl⟩
theorem nwX2_21 : xNW RX2 21 8 3 [.null, .null, .int 0] := ⟨RX8, TX8, tyX8, rfl, cwX8, tyX8_ok, clX2_21, inX8, izX8, fun j hj => by rcases (show j = 0 ∨ j = 1 ∨ j = 2 by omega) with rfl | rfl | rfl <;> rfl, fun _ => rfl⟩
theorem nwL_7 : xNW RL 7 9 11 [.null, .null, .null, .null, .null, .null, .int 0, .int 0, .int 0, .int 0, .int 0] := ⟨RX9, TX9, tyX9, rfl, cwX9, tyX9_ok, clL_7, inX9, izX9, fun j hj => by rcases (show j = 0 ∨ j = 1 ∨ j = 2 ∨ j = 3 ∨ j = 4 ∨ j = 5 ∨ j = 6 ∨ j = 7 ∨ j = 8 ∨ j = 9 ∨ j = 10 by omega) with rfl | rfl | rfl | rfl | rfl | rfl | rfl | rfl | rfl | rfl | rfl <;> rfl, fun _ => rfl⟩
theorem aoX1 : Cond.arrayOver (.object RX1) ∈ lw_tbl := List.mem_of_getElem? (i := 69) (by decide +kernel)
theorem aoX4 : Cond.arrayOver (.object RX4) ∈ lw_tbl := List.mem_of_getElem? (i := 76) (by decide +kernel)
theorem aoX3 : Cond.arrayOver (.object RX3) ∈ lw_tbl := List.mem_of_getElem? (i := 146) (by decide +kernel)
section XY
variable {F : vx_F} {pc : Nat} {L : List (Option Value)} {st : List Value} {ce sl n : Nat} {h : vx_H} {fs : List Value} {a0 ci : Nat}
theorem cy_na {k : Int32} (N : Nat) (hn : a0 < n) (he : .inl (0, N, .inl (fun _ => 0)) = dk d0 n) (hk : ¬ k < 0) (hN : k.toNatClampNeg = N) (hb : N * 4 ≤ 536870912) (hc : ce + 1 ≤ F.2.2.1.cells) (hs : sl + N ≤ F.2.2.1.slots) (hd : decode F.2.1.2.1 pc = .ok (.newarray .int, 2)) (kk : xV F (pc + 2) L (.ref n :: st) (n + 1) (hY h a0 ci fs) (ce + 1) (sl + N)) : xV F pc L (.int k :: st) n (hY h a0 ci fs) ce sl :=
  x_newa (Or.inl ⟨rfl, rfl, rfl, rfl⟩) ac_int hk hN hb hc hs hd (xV.heap (hY_new hn he) kk)
theorem cy_nz {k : Int32} (N : Nat) (hn : a0 < n) (he : .inl (1, N, .inl (fun _ => 0)) = dk d0 n) (hk : ¬ k < 0) (hN : k.toNatClampNeg = N) (hb : N * 1 ≤ 536870912) (hc : ce + 1 ≤ F.2.2.1.cells) (hs : sl + N ≤ F.2.2.1.slots) (hd : decode F.2.1.2.1 pc = .ok (.newarray .boolean, 2)) (kk : xV F (pc + 2) L (.ref n :: st) (n + 1) (hY h a0 ci fs) (ce + 1) (sl + N)) : xV F pc L (.int k :: st) n (hY h a0 ci fs) ce sl :=
  x_newa (Or.inr (Or.inl ⟨rfl, rfl, rfl, rfl⟩)) ac_bool hk hN hb hc hs hd (xV.heap (hY_new hn he) kk)
theorem cy_pF {idx k : Nat} {ty : FieldType} {v : Value} (hf : xFP F.2.1.1.cls idx ci k ty true) (hn : a0 < n) (hini : F.2.1.1.name = "<init>") (h1 : narrow ty v = v) (h2 : fits ty v = true) (hl : k < fs.length) (hd : decode F.2.1.2.1 pc = .ok (.putfield idx, 3)) (kk : xV F (pc + 3) L st n (hY h a0 ci (fs.set k v)) ce sl) : xV F pc L (v :: .ref a0 :: st) n (hY h a0 ci fs) ce sl :=
  x_putF hf hn (hY_0 h a0 ci fs) hini h1 h2 hl hd (xV.heap hY_put kk)
theorem cy_pf {idx k : Nat} {ty : FieldType} {v : Value} (hf : xFP F.2.1.1.cls idx ci k ty false) (hn : a0 < n) (h1 : narrow ty v = v) (h2 : fits ty v = true) (hl : k < fs.length) (hd : decode F.2.1.2.1 pc = .ok (.putfield idx, 3)) (kk : xV F (pc + 3) L st n (hY h a0 ci (fs.set k v)) ce sl) : xV F pc L (v :: .ref a0 :: st) n (hY h a0 ci fs) ce sl :=
  x_putf hf hn (hY_0 h a0 ci fs) h1 h2 hl hd (xV.heap hY_put kk)
end XY
set_option maxHeartbeats 4000000 in
set_option maxRecDepth 20000 in
theorem k_lineI (G : vx_G) (h : vx_H) (a0 : Nat) (x y : Int32) (e0 : dk d0 a0 = .inr (4, [.int x, .int y, .int 0, .int 0, .int 0, .int 0, .int 0, .int (-1), .int 0])) (hh : h a0 = .inr (4, [.int 0, .int 0, .int 0, .int 0, .int 0, .int 0, .int 0, .int 0, .int 0])) : xK G M_X4_init 1 [.ref a0, .int x, .int y] (a0 + 1) h 0 0 (QV (fun n' h' => n' = a0 + 1 ∧ ∀ q, q < a0 + 1 → h' q = hX h a0 q)) := by
  refine xK.ofV (by decide) (Nat.le_of_ble_eq_true rfl) ?_
  refine xV.lveq (L' := [some (.ref a0), some (.int x), some (.int y)]) rfl ?_
  refine xV.heap (h' := hY h a0 4 [.int 0, .int 0, .int 0, .int 0, .int 0, .int 0, .int 0, .int 0, .int 0]) (hY_in hh) ?_
  refine x_aload0 dX4_init_0 ?_
  refine x_objInit moX4_3 mo_i mo_c (Nat.le_of_ble_eq_true rfl) (Nat.le_of_ble_eq_true rfl) dX4_init_1 ?_
  refine x_aload0 dX4_init_4 ?_
  refine x_iconst (-1) dX4_init_5 (by decide) ?_
  refine cy_pf fpX4_9 (Nat.lt_succ_self _) rfl rfl (Nat.le_of_ble_eq_true rfl) dX4_init_6 ?_
  refine x_aload0 dX4_init_9 ?_
  refine x_iload1 dX4_init_10 ?_
  refine cy_pF fpX4_15 (Nat.lt_succ_self _) rfl rfl rfl (Nat.le_of_ble_eq_true rfl) dX4_init_11 ?_
  refine x_aload0 dX4_init_14 ?_
  refine x_iload2 dX4_init_15 ?_
  refine cy_pF fpX4_18 (Nat.lt_succ_self _) rfl rfl rfl (Nat.le_of_ble_eq_true rfl) dX4_init_16 ?_
  refine x_vret dX4_init_19 rfl ?_ (Nat.le_of_ble_eq_true rfl) (Nat.le_of_ble_eq_true rfl)
  exact ⟨rfl, fun q _ => hY_end e0 q⟩
set_option maxHeartbeats 4000000 in
set_option maxRecDepth 20000 in
theorem k_grpI (G : vx_G) (h : vx_H) (a0 : Nat) (e0 : dk d0 a0 = .inr (3, [.ref (a0 + 1), .int 0, .int 0, .int 0, .int 0, .int 0])) (e1 : dk d0 (a0 + 1) = .inl (3, 8, .inr (.inr (.inr (.inr (fun _ => none)))))) (hh : h a0 = .inr (3, [.null, .int 0, .int 0, .int 0, .int 0, .int 0])) : xK G M_X3_init 1 [.ref a0] (a0 + 1) h 1 8 (QV (fun n' h' => n' = a0 + 2 ∧ ∀ q, q < a0 + 2 → h' q = hX h a0 q)) := by
  refine xK.ofV (by decide) (Nat.le_of_ble_eq_true rfl) ?_
  refine xV.lveq (L' := [some (.ref a0)]) rfl ?_
  refine xV.heap (h' := hY h a0 3 [.null, .int 0, .int 0, .int 0, .int 0, .int 0]) (hY_in hh) ?_
  refine x_aload0 dX3_init_0 ?_
  refine x_objInit moX3_3 mo_i mo_c (Nat.le_of_ble_eq_true rfl) (Nat.le_of_ble_eq_true rfl) dX3_init_1 ?_
  refine x_aload0 dX3_init_4 ?_
  refine x_bipush (nI 8) dX3_init_5 (by decide) ?_
  refine x_newq (t := 3) (N := 8) rfl clX3_9 aoX4 (by decide) (by decide) (by decide) (Nat.le_of_ble_eq_true rfl) (Nat.le_of_ble_eq_true rfl) dX3_init_7 ?_
  refine xV.heap (hY_new (Nat.lt_succ_self _) e1.symm) ?_
  refine cy_pF fpX3_11 (by omega) rfl rfl rfl (Nat.le_of_ble_eq_true rfl) dX3_init_10 ?_
  refine x_vret dX3_init_13 rfl ?_ (Nat.le_of_ble_eq_true rfl) (Nat.le_of_ble_eq_true rfl)
  exact ⟨rfl, fun q _ => hY_end e0 q⟩
set_option maxHeartbeats 4000000 in
set_option maxRecDepth 20000 in
theorem k_actsI (G : vx_G) (h : vx_H) (hh : h 167 = .inr (0, [.null, .null, .null, .int 0, .int 0])) : xK G M_X0_init 1 [.ref 167] 168 h 3 180 (QV (fun n' h' => n' = 171 ∧ ∀ q, q < 171 → h' q = hX h 167 q)) := by
  refine xK.ofV (by decide) (Nat.le_of_ble_eq_true rfl) ?_
  refine xV.lveq (L' := [some (.ref 167)]) rfl ?_
  refine xV.heap (h' := hY h 167 0 [.null, .null, .null, .int 0, .int 0]) (hY_in hh) ?_
  refine x_aload0 dX0_init_0 ?_
  refine x_objInit moX0_3 mo_i mo_c (Nat.le_of_ble_eq_true rfl) (Nat.le_of_ble_eq_true rfl) dX0_init_1 ?_
  refine x_aload0 dX0_init_4 ?_
  refine x_bipush (nI 60) dX0_init_5 (by decide) ?_
  refine cy_na 60 (Nat.le_of_ble_eq_true rfl) rfl (by decide) (by decide) (by decide) (Nat.le_of_ble_eq_true rfl) (Nat.le_of_ble_eq_true rfl) dX0_init_7 ?_
  refine cy_pF fpX0_9 (Nat.le_of_ble_eq_true rfl) rfl rfl rfl (Nat.le_of_ble_eq_true rfl) dX0_init_9 ?_
  refine x_aload0 dX0_init_12 ?_
  refine x_bipush (nI 60) dX0_init_13 (by decide) ?_
  refine cy_na 60 (Nat.le_of_ble_eq_true rfl) rfl (by decide) (by decide) (by decide) (Nat.le_of_ble_eq_true rfl) (Nat.le_of_ble_eq_true rfl) dX0_init_15 ?_
  refine cy_pF fpX0_15 (Nat.le_of_ble_eq_true rfl) rfl rfl rfl (Nat.le_of_ble_eq_true rfl) dX0_init_17 ?_
  refine x_aload0 dX0_init_20 ?_
  refine x_bipush (nI 60) dX0_init_21 (by decide) ?_
  refine cy_na 60 (Nat.le_of_ble_eq_true rfl) rfl (by decide) (by decide) (by decide) (Nat.le_of_ble_eq_true rfl) (Nat.le_of_ble_eq_true rfl) dX0_init_23 ?_
  refine cy_pF fpX0_18 (Nat.le_of_ble_eq_true rfl) rfl rfl rfl (Nat.le_of_ble_eq_true rfl) dX0_init_25 ?_
  refine x_aload0 dX0_init_28 ?_
  refine x_iconst 0 dX0_init_29 (by decide) ?_
  refine cy_pf fpX0_21 (Nat.le_of_ble_eq_true rfl) rfl rfl (Nat.le_of_ble_eq_true rfl) dX0_init_30 ?_
  refine x_aload0 dX0_init_33 ?_
  refine x_iconst 0 dX0_init_34 (by decide) ?_
  refine cy_pf fpX0_25 (Nat.le_of_ble_eq_true rfl) rfl rfl (Nat.le_of_ble_eq_true rfl) dX0_init_35 ?_
  refine x_vret dX0_init_38 rfl ?_ (Nat.le_of_ble_eq_true rfl) (Nat.le_of_ble_eq_true rfl)
  exact ⟨rfl, fun q _ => hY_end rfl q⟩
set_option maxHeartbeats 4000000 in
set_option maxRecDepth 20000 in
theorem k_sumsA (G : vx_G) (h : vx_H) (hh : h 212 = .inr (8, [.null, .null, .int 0])) : xK G M_X8_init 1 [.ref 212] 213 h 2 1024 (QV (fun n' h' => n' = 215 ∧ ∀ q, q < 215 → h' q = hX h 212 q)) := by
  refine xK.ofV (by decide) (Nat.le_of_ble_eq_true rfl) ?_
  refine xV.lveq (L' := [some (.ref 212)]) rfl ?_
  refine xV.heap (h' := hY h 212 8 [.null, .null, .int 0]) (hY_in hh) ?_
  refine x_aload0 dX8_init_0 ?_
  refine x_objInit moX8_3 mo_i mo_c (Nat.le_of_ble_eq_true rfl) (Nat.le_of_ble_eq_true rfl) dX8_init_1 ?_
  refine x_aload0 dX8_init_4 ?_
  refine x_sipush (nI 512) dX8_init_5 (by decide) ?_
  refine cy_na 512 (Nat.le_of_ble_eq_true rfl) rfl (by decide) (by decide) (by decide) (Nat.le_of_ble_eq_true rfl) (Nat.le_of_ble_eq_true rfl) dX8_init_8 ?_
  refine cy_pF fpX8_11 (Nat.le_of_ble_eq_true rfl) rfl rfl rfl (Nat.le_of_ble_eq_true rfl) dX8_init_10 ?_
  refine x_aload0 dX8_init_13 ?_
  refine x_sipush (nI 512) dX8_init_14 (by decide) ?_
  refine cy_na 512 (Nat.le_of_ble_eq_true rfl) rfl (by decide) (by decide) (by decide) (Nat.le_of_ble_eq_true rfl) (Nat.le_of_ble_eq_true rfl) dX8_init_17 ?_
  refine cy_pF fpX8_15 (Nat.le_of_ble_eq_true rfl) rfl rfl rfl (Nat.le_of_ble_eq_true rfl) dX8_init_19 ?_
  refine x_aload0 dX8_init_22 ?_
  refine x_iconst 0 dX8_init_23 (by decide) ?_
  refine cy_pf fpX8_18 (Nat.le_of_ble_eq_true rfl) rfl rfl (Nat.le_of_ble_eq_true rfl) dX8_init_24 ?_
  refine x_vret dX8_init_27 rfl ?_ (Nat.le_of_ble_eq_true rfl) (Nat.le_of_ble_eq_true rfl)
  exact ⟨rfl, fun q _ => hY_end rfl q⟩
set_option maxHeartbeats 4000000 in
set_option maxRecDepth 20000 in
theorem k_sumsB (G : vx_G) (h : vx_H) (hh : h 215 = .inr (8, [.null, .null, .int 0])) : xK G M_X8_init 1 [.ref 215] 216 h 2 1024 (QV (fun n' h' => n' = 218 ∧ ∀ q, q < 218 → h' q = hX h 215 q)) := by
  refine xK.ofV (by decide) (Nat.le_of_ble_eq_true rfl) ?_
  refine xV.lveq (L' := [some (.ref 215)]) rfl ?_
  refine xV.heap (h' := hY h 215 8 [.null, .null, .int 0]) (hY_in hh) ?_
  refine x_aload0 dX8_init_0 ?_
  refine x_objInit moX8_3 mo_i mo_c (Nat.le_of_ble_eq_true rfl) (Nat.le_of_ble_eq_true rfl) dX8_init_1 ?_
  refine x_aload0 dX8_init_4 ?_
  refine x_sipush (nI 512) dX8_init_5 (by decide) ?_
  refine cy_na 512 (Nat.le_of_ble_eq_true rfl) rfl (by decide) (by decide) (by decide) (Nat.le_of_ble_eq_true rfl) (Nat.le_of_ble_eq_true rfl) dX8_init_8 ?_
  refine cy_pF fpX8_11 (Nat.le_of_ble_eq_true rfl) rfl rfl rfl (Nat.le_of_ble_eq_true rfl) dX8_init_10 ?_
  refine x_aload0 dX8_init_13 ?_
  refine x_sipush (nI 512) dX8_init_14 (by decide) ?_
  refine cy_na 512 (Nat.le_of_ble_eq_true rfl) rfl (by decide) (by decide) (by decide) (Nat.le_of_ble_eq_true rfl) (Nat.le_of_ble_eq_true rfl) dX8_init_17 ?_
  refine cy_pF fpX8_15 (Nat.le_of_ble_eq_true rfl) rfl rfl rfl (Nat.le_of_ble_eq_true rfl) dX8_init_19 ?_
  refine x_aload0 dX8_init_22 ?_
  refine x_iconst 0 dX8_init_23 (by decide) ?_
  refine cy_pf fpX8_18 (Nat.le_of_ble_eq_true rfl) rfl rfl (Nat.le_of_ble_eq_true rfl) dX8_init_24 ?_
  refine x_vret dX8_init_27 rfl ?_ (Nat.le_of_ble_eq_true rfl) (Nat.le_of_ble_eq_true rfl)
  exact ⟨rfl, fun q _ => hY_end rfl q⟩
set_option maxHeartbeats 4000000 in
set_option maxRecDepth 20000 in
theorem k_sumsC (G : vx_G) (h : vx_H) (hh : h 218 = .inr (8, [.null, .null, .int 0])) : xK G M_X8_init 1 [.ref 218] 219 h 2 1024 (QV (fun n' h' => n' = 221 ∧ ∀ q, q < 221 → h' q = hX h 218 q)) := by
  refine xK.ofV (by decide) (Nat.le_of_ble_eq_true rfl) ?_
  refine xV.lveq (L' := [some (.ref 218)]) rfl ?_
  refine xV.heap (h' := hY h 218 8 [.null, .null, .int 0]) (hY_in hh) ?_
  refine x_aload0 dX8_init_0 ?_
  refine x_objInit moX8_3 mo_i mo_c (Nat.le_of_ble_eq_true rfl) (Nat.le_of_ble_eq_true rfl) dX8_init_1 ?_
  refine x_aload0 dX8_init_4 ?_
  refine x_sipush (nI 512) dX8_init_5 (by decide) ?_
  refine cy_na 512 (Nat.le_of_ble_eq_true rfl) rfl (by decide) (by decide) (by decide) (Nat.le_of_ble_eq_true rfl) (Nat.le_of_ble_eq_true rfl) dX8_init_8 ?_
  refine cy_pF fpX8_11 (Nat.le_of_ble_eq_true rfl) rfl rfl rfl (Nat.le_of_ble_eq_true rfl) dX8_init_10 ?_
  refine x_aload0 dX8_init_13 ?_
  refine x_sipush (nI 512) dX8_init_14 (by decide) ?_
  refine cy_na 512 (Nat.le_of_ble_eq_true rfl) rfl (by decide) (by decide) (by decide) (Nat.le_of_ble_eq_true rfl) (Nat.le_of_ble_eq_true rfl) dX8_init_17 ?_
  refine cy_pF fpX8_15 (Nat.le_of_ble_eq_true rfl) rfl rfl rfl (Nat.le_of_ble_eq_true rfl) dX8_init_19 ?_
  refine x_aload0 dX8_init_22 ?_
  refine x_iconst 0 dX8_init_23 (by decide) ?_
  refine cy_pf fpX8_18 (Nat.le_of_ble_eq_true rfl) rfl rfl (Nat.le_of_ble_eq_true rfl) dX8_init_24 ?_
  refine x_vret dX8_init_27 rfl ?_ (Nat.le_of_ble_eq_true rfl) (Nat.le_of_ble_eq_true rfl)
  exact ⟨rfl, fun q _ => hY_end rfl q⟩
set_option maxHeartbeats 4000000 in
set_option maxRecDepth 20000 in
theorem k_setsI (G : vx_G) (h : vx_H) (hh : h 202 = .inr (7, [.null, .null, .null, .null, .null, .int 0, .int 0, .int 0, .int 0, .int 0, .int 0, .int 0, .int 0])) : xK G M_X7_init 1 [.ref 202] 203 h 5 5320 (QV (fun n' h' => n' = 208 ∧ ∀ q, q < 208 → h' q = hX h 202 q)) := by
  refine xK.ofV (by decide) (Nat.le_of_ble_eq_true rfl) ?_
  refine xV.lveq (L' := [some (.ref 202)]) rfl ?_
  refine xV.heap (h' := hY h 202 7 [.null, .null, .null, .null, .null, .int 0, .int 0, .int 0, .int 0, .int 0, .int 0, .int 0, .int 0]) (hY_in hh) ?_
  refine x_aload0 dX7_init_0 ?_
  refine x_objInit moX7_3 mo_i mo_c (Nat.le_of_ble_eq_true rfl) (Nat.le_of_ble_eq_true rfl) dX7_init_1 ?_
  refine x_aload0 dX7_init_4 ?_
  refine x_sipush (nI 5000) dX7_init_5 (by decide) ?_
  refine cy_na 5000 (Nat.le_of_ble_eq_true rfl) rfl (by decide) (by decide) (by decide) (Nat.le_of_ble_eq_true rfl) (Nat.le_of_ble_eq_true rfl) dX7_init_8 ?_
  refine cy_pF fpX7_9 (Nat.le_of_ble_eq_true rfl) rfl rfl rfl (Nat.le_of_ble_eq_true rfl) dX7_init_10 ?_
  refine x_aload0 dX7_init_13 ?_
  refine x_bipush (nI 80) dX7_init_14 (by decide) ?_
  refine cy_na 80 (Nat.le_of_ble_eq_true rfl) rfl (by decide) (by decide) (by decide) (Nat.le_of_ble_eq_true rfl) (Nat.le_of_ble_eq_true rfl) dX7_init_16 ?_
  refine cy_pF fpX7_15 (Nat.le_of_ble_eq_true rfl) rfl rfl rfl (Nat.le_of_ble_eq_true rfl) dX7_init_18 ?_
  refine x_aload0 dX7_init_21 ?_
  refine x_bipush (nI 80) dX7_init_22 (by decide) ?_
  refine cy_na 80 (Nat.le_of_ble_eq_true rfl) rfl (by decide) (by decide) (by decide) (Nat.le_of_ble_eq_true rfl) (Nat.le_of_ble_eq_true rfl) dX7_init_24 ?_
  refine cy_pF fpX7_18 (Nat.le_of_ble_eq_true rfl) rfl rfl rfl (Nat.le_of_ble_eq_true rfl) dX7_init_26 ?_
  refine x_aload0 dX7_init_29 ?_
  refine x_bipush (nI 80) dX7_init_30 (by decide) ?_
  refine cy_na 80 (Nat.le_of_ble_eq_true rfl) rfl (by decide) (by decide) (by decide) (Nat.le_of_ble_eq_true rfl) (Nat.le_of_ble_eq_true rfl) dX7_init_32 ?_
  refine cy_pF fpX7_21 (Nat.le_of_ble_eq_true rfl) rfl rfl rfl (Nat.le_of_ble_eq_true rfl) dX7_init_34 ?_
  refine x_aload0 dX7_init_37 ?_
  refine x_bipush (nI 80) dX7_init_38 (by decide) ?_
  refine cy_na 80 (Nat.le_of_ble_eq_true rfl) rfl (by decide) (by decide) (by decide) (Nat.le_of_ble_eq_true rfl) (Nat.le_of_ble_eq_true rfl) dX7_init_40 ?_
  refine cy_pF fpX7_24 (Nat.le_of_ble_eq_true rfl) rfl rfl rfl (Nat.le_of_ble_eq_true rfl) dX7_init_42 ?_
  refine x_aload0 dX7_init_45 ?_
  refine x_iconst 0 dX7_init_46 (by decide) ?_
  refine cy_pf fpX7_27 (Nat.le_of_ble_eq_true rfl) rfl rfl (Nat.le_of_ble_eq_true rfl) dX7_init_47 ?_
  refine x_aload0 dX7_init_50 ?_
  refine x_iconst 0 dX7_init_51 (by decide) ?_
  refine cy_pf fpX7_31 (Nat.le_of_ble_eq_true rfl) rfl rfl (Nat.le_of_ble_eq_true rfl) dX7_init_52 ?_
  refine x_aload0 dX7_init_55 ?_
  refine x_iconst 0 dX7_init_56 (by decide) ?_
  refine cy_pf fpX7_34 (Nat.le_of_ble_eq_true rfl) rfl rfl (Nat.le_of_ble_eq_true rfl) dX7_init_57 ?_
  refine x_aload0 dX7_init_60 ?_
  refine x_iconst 0 dX7_init_61 (by decide) ?_
  refine cy_pf fpX7_37 (Nat.le_of_ble_eq_true rfl) rfl rfl (Nat.le_of_ble_eq_true rfl) dX7_init_62 ?_
  refine x_aload0 dX7_init_65 ?_
  refine x_iconst 0 dX7_init_66 (by decide) ?_
  refine cy_pf fpX7_40 (Nat.le_of_ble_eq_true rfl) rfl rfl (Nat.le_of_ble_eq_true rfl) dX7_init_67 ?_
  refine x_aload0 dX7_init_70 ?_
  refine x_iconst 0 dX7_init_71 (by decide) ?_
  refine cy_pf fpX7_43 (Nat.le_of_ble_eq_true rfl) rfl rfl (Nat.le_of_ble_eq_true rfl) dX7_init_72 ?_
  refine x_aload0 dX7_init_75 ?_
  refine x_iconst 0 dX7_init_76 (by decide) ?_
  refine cy_pf fpX7_46 (Nat.le_of_ble_eq_true rfl) rfl rfl (Nat.le_of_ble_eq_true rfl) dX7_init_77 ?_
  refine x_aload0 dX7_init_80 ?_
  refine x_iconst (-1) dX7_init_81 (by decide) ?_
  refine cy_pf fpX7_49 (Nat.le_of_ble_eq_true rfl) rfl rfl (Nat.le_of_ble_eq_true rfl) dX7_init_82 ?_
  refine x_vret dX7_init_85 rfl ?_ (Nat.le_of_ble_eq_true rfl) (Nat.le_of_ble_eq_true rfl)
  exact ⟨rfl, fun q _ => hY_end rfl q⟩
theorem d0_W {r : Nat} (hr : r < 14) : dk d0 (174 + r) = .inl (0, 14, .inl (fun _ => 0)) := by
  rcases (show r = 0 ∨ r = 1 ∨ r = 2 ∨ r = 3 ∨ r = 4 ∨ r = 5 ∨ r = 6 ∨ r = 7 ∨ r = 8 ∨ r = 9 ∨ r = 10 ∨ r = 11 ∨ r = 12 ∨ r = 13 by omega) with rfl | rfl | rfl | rfl | rfl | rfl | rfl | rfl | rfl | rfl | rfl | rfl | rfl | rfl <;> rfl
theorem hY_ma {h : vx_H} {fs : List Value} : ∀ q, q < 173 + 1 + 14 → maH (hY h 172 6 fs) 173 14 14 q = hY h 172 6 fs q := by
  intro q hq
  unfold maH
  by_cases c : q = 173
  · rw [if_pos c, c, hY_ne (by omega), hX_hi (by omega)]
    rfl
  · rw [if_neg c]
    by_cases c2 : 173 < q
    · rw [if_pos c2, hY_ne (by omega), hX_hi (by omega)]
      obtain ⟨r, rfl⟩ : ∃ r, q = 174 + r := ⟨q - 174, by omega⟩
      exact (d0_W (by omega)).symm
    · rw [if_neg c2]
set_option maxHeartbeats 4000000 in
set_option maxRecDepth 20000 in
theorem k_seatI (G : vx_G) (h : vx_H) (hh : h 172 = .inr (6, [.null, .int 0, .null, .null, .null, .null, .null, .null, .null, .null, .null, .null])) : xK G M_X6_init 1 [.ref 172] 173 h 25 357 (QV (fun n' h' => n' = 198 ∧ ∀ q, q < 198 → h' q = hX h 172 q)) := by
  refine xK.ofV (by decide) (Nat.le_of_ble_eq_true rfl) ?_
  refine xV.lveq (L' := [some (.ref 172)]) rfl ?_
  refine xV.heap (h' := hY h 172 6 [.null, .int 0, .null, .null, .null, .null, .null, .null, .null, .null, .null, .null]) (hY_in hh) ?_
  refine x_aload0 dX6_init_0 ?_
  refine x_objInit moX6_3 mo_i mo_c (Nat.le_of_ble_eq_true rfl) (Nat.le_of_ble_eq_true rfl) dX6_init_1 ?_
  refine x_aload0 dX6_init_4 ?_
  refine x_bipush (nI 14) dX6_init_5 (by decide) ?_
  refine x_bipush (nI 14) dX6_init_7 (by decide) ?_
  refine x_mana clX6_9 (by decide) (by decide) (by decide) (by decide) (by decide) (by decide) (Nat.le_of_ble_eq_true rfl) (Nat.le_of_ble_eq_true rfl) dX6_init_9 (xV.heap hY_ma ?_)
  refine cy_pF fpX6_11 (Nat.le_of_ble_eq_true rfl) rfl rfl rfl (Nat.le_of_ble_eq_true rfl) dX6_init_13 ?_
  refine x_aload0 dX6_init_16 ?_
  refine x_iconst 0 dX6_init_17 (by decide) ?_
  refine cy_pf fpX6_16 (Nat.le_of_ble_eq_true rfl) rfl rfl (Nat.le_of_ble_eq_true rfl) dX6_init_18 ?_
  refine x_aload0 dX6_init_21 ?_
  refine x_bipush (nI 14) dX6_init_22 (by decide) ?_
  refine cy_na 14 (Nat.le_of_ble_eq_true rfl) rfl (by decide) (by decide) (by decide) (Nat.le_of_ble_eq_true rfl) (Nat.le_of_ble_eq_true rfl) dX6_init_24 ?_
  refine cy_pF fpX6_20 (Nat.le_of_ble_eq_true rfl) rfl rfl rfl (Nat.le_of_ble_eq_true rfl) dX6_init_26 ?_
  refine x_aload0 dX6_init_29 ?_
  refine x_bipush (nI 15) dX6_init_30 (by decide) ?_
  refine cy_na 15 (Nat.le_of_ble_eq_true rfl) rfl (by decide) (by decide) (by decide) (Nat.le_of_ble_eq_true rfl) (Nat.le_of_ble_eq_true rfl) dX6_init_32 ?_
  refine cy_pF fpX6_24 (Nat.le_of_ble_eq_true rfl) rfl rfl rfl (Nat.le_of_ble_eq_true rfl) dX6_init_34 ?_
  refine x_aload0 dX6_init_37 ?_
  refine x_bipush (nI 15) dX6_init_38 (by decide) ?_
  refine cy_na 15 (Nat.le_of_ble_eq_true rfl) rfl (by decide) (by decide) (by decide) (Nat.le_of_ble_eq_true rfl) (Nat.le_of_ble_eq_true rfl) dX6_init_40 ?_
  refine cy_pF fpX6_27 (Nat.le_of_ble_eq_true rfl) rfl rfl rfl (Nat.le_of_ble_eq_true rfl) dX6_init_42 ?_
  refine x_aload0 dX6_init_45 ?_
  refine x_bipush (nI 14) dX6_init_46 (by decide) ?_
  refine cy_na 14 (Nat.le_of_ble_eq_true rfl) rfl (by decide) (by decide) (by decide) (Nat.le_of_ble_eq_true rfl) (Nat.le_of_ble_eq_true rfl) dX6_init_48 ?_
  refine cy_pF fpX6_30 (Nat.le_of_ble_eq_true rfl) rfl rfl rfl (Nat.le_of_ble_eq_true rfl) dX6_init_50 ?_
  refine x_aload0 dX6_init_53 ?_
  refine x_bipush (nI 15) dX6_init_54 (by decide) ?_
  refine cy_na 15 (Nat.le_of_ble_eq_true rfl) rfl (by decide) (by decide) (by decide) (Nat.le_of_ble_eq_true rfl) (Nat.le_of_ble_eq_true rfl) dX6_init_56 ?_
  refine cy_pF fpX6_33 (Nat.le_of_ble_eq_true rfl) rfl rfl rfl (Nat.le_of_ble_eq_true rfl) dX6_init_58 ?_
  refine x_aload0 dX6_init_61 ?_
  refine x_bipush (nI 15) dX6_init_62 (by decide) ?_
  refine cy_na 15 (Nat.le_of_ble_eq_true rfl) rfl (by decide) (by decide) (by decide) (Nat.le_of_ble_eq_true rfl) (Nat.le_of_ble_eq_true rfl) dX6_init_64 ?_
  refine cy_pF fpX6_36 (Nat.le_of_ble_eq_true rfl) rfl rfl rfl (Nat.le_of_ble_eq_true rfl) dX6_init_66 ?_
  refine x_aload0 dX6_init_69 ?_
  refine x_bipush (nI 15) dX6_init_70 (by decide) ?_
  refine cy_na 15 (Nat.le_of_ble_eq_true rfl) rfl (by decide) (by decide) (by decide) (Nat.le_of_ble_eq_true rfl) (Nat.le_of_ble_eq_true rfl) dX6_init_72 ?_
  refine cy_pF fpX6_39 (Nat.le_of_ble_eq_true rfl) rfl rfl rfl (Nat.le_of_ble_eq_true rfl) dX6_init_74 ?_
  refine x_aload0 dX6_init_77 ?_
  refine x_bipush (nI 15) dX6_init_78 (by decide) ?_
  refine cy_na 15 (Nat.le_of_ble_eq_true rfl) rfl (by decide) (by decide) (by decide) (Nat.le_of_ble_eq_true rfl) (Nat.le_of_ble_eq_true rfl) dX6_init_80 ?_
  refine cy_pF fpX6_42 (Nat.le_of_ble_eq_true rfl) rfl rfl rfl (Nat.le_of_ble_eq_true rfl) dX6_init_82 ?_
  refine x_aload0 dX6_init_85 ?_
  refine x_bipush (nI 15) dX6_init_86 (by decide) ?_
  refine cy_nz 15 (Nat.le_of_ble_eq_true rfl) rfl (by decide) (by decide) (by decide) (Nat.le_of_ble_eq_true rfl) (Nat.le_of_ble_eq_true rfl) dX6_init_88 ?_
  refine cy_pF fpX6_45 (Nat.le_of_ble_eq_true rfl) rfl rfl rfl (Nat.le_of_ble_eq_true rfl) dX6_init_90 ?_
  refine x_aload0 dX6_init_93 ?_
  refine x_bipush (nI 14) dX6_init_94 (by decide) ?_
  refine cy_nz 14 (Nat.le_of_ble_eq_true rfl) rfl (by decide) (by decide) (by decide) (Nat.le_of_ble_eq_true rfl) (Nat.le_of_ble_eq_true rfl) dX6_init_96 ?_
  refine cy_pF fpX6_49 (Nat.le_of_ble_eq_true rfl) rfl rfl rfl (Nat.le_of_ble_eq_true rfl) dX6_init_98 ?_
  refine x_vret dX6_init_101 rfl ?_ (Nat.le_of_ble_eq_true rfl) (Nat.le_of_ble_eq_true rfl)
  exact ⟨rfl, fun q _ => hY_end rfl q⟩
set_option maxHeartbeats 4000000 in
set_option maxRecDepth 20000 in
theorem k_pairI (G : vx_G) (h : vx_H) (hh : h 171 = .inr (5, [.null, .null, .null, .null, .null, .int 0, .int 0, .int 0, .int 0])) : xK G M_X5_init 2 [.ref 171] 172 h 30 425 (QV (fun n' h' => n' = 202 ∧ ∀ q, q < 202 → h' q = hX h 171 q)) := by
  refine xK.ofV (by decide) (Nat.le_of_ble_eq_true rfl) ?_
  refine xV.lveq (L' := [some (.ref 171)]) rfl ?_
  refine xV.heap (h' := hY h 171 5 [.null, .null, .null, .null, .null, .int 0, .int 0, .int 0, .int 0]) (hY_in hh) ?_
  refine x_aload0 dX5_init_0 ?_
  refine x_objInit moX5_3 mo_i mo_c (Nat.le_of_ble_eq_true rfl) (Nat.le_of_ble_eq_true rfl) dX5_init_1 ?_
  refine x_aload0 dX5_init_4 ?_
  refine x_new nwX5_9 (Nat.le_of_ble_eq_true rfl) (Nat.le_of_ble_eq_true rfl) dX5_init_5 ?_
  refine x_dup dX5_init_8 rfl ?_
  refine x_callN0v mnX5_11 (k_seatI _ _ up_at) (xRoom.of rfl) (Nat.le_of_ble_eq_true rfl) dX5_init_9 (fun n' h' hP => ?_)
  obtain ⟨rfl, hq⟩ := hP
  refine xV.heap (fun q hq2 => (hq q hq2).trans (hY_sub (Nat.le_of_ble_eq_true rfl))) ?_
  refine cy_pF fpX5_12 (Nat.le_of_ble_eq_true rfl) rfl rfl rfl (Nat.le_of_ble_eq_true rfl) dX5_init_12 ?_
  refine x_aload0 dX5_init_15 ?_
  refine x_bipush (nI 14) dX5_init_16 (by decide) ?_
  refine cy_na 14 (Nat.le_of_ble_eq_true rfl) rfl (by decide) (by decide) (by decide) (Nat.le_of_ble_eq_true rfl) (Nat.le_of_ble_eq_true rfl) dX5_init_18 ?_
  refine cy_pF fpX5_18 (Nat.le_of_ble_eq_true rfl) rfl rfl rfl (Nat.le_of_ble_eq_true rfl) dX5_init_20 ?_
  refine x_aload0 dX5_init_23 ?_
  refine x_bipush (nI 14) dX5_init_24 (by decide) ?_
  refine cy_na 14 (Nat.le_of_ble_eq_true rfl) rfl (by decide) (by decide) (by decide) (Nat.le_of_ble_eq_true rfl) (Nat.le_of_ble_eq_true rfl) dX5_init_26 ?_
  refine cy_pF fpX5_22 (Nat.le_of_ble_eq_true rfl) rfl rfl rfl (Nat.le_of_ble_eq_true rfl) dX5_init_28 ?_
  refine x_aload0 dX5_init_31 ?_
  refine x_bipush (nI 14) dX5_init_32 (by decide) ?_
  refine cy_na 14 (Nat.le_of_ble_eq_true rfl) rfl (by decide) (by decide) (by decide) (Nat.le_of_ble_eq_true rfl) (Nat.le_of_ble_eq_true rfl) dX5_init_34 ?_
  refine cy_pF fpX5_25 (Nat.le_of_ble_eq_true rfl) rfl rfl rfl (Nat.le_of_ble_eq_true rfl) dX5_init_36 ?_
  refine x_aload0 dX5_init_39 ?_
  refine x_bipush (nI 14) dX5_init_40 (by decide) ?_
  refine cy_na 14 (Nat.le_of_ble_eq_true rfl) rfl (by decide) (by decide) (by decide) (Nat.le_of_ble_eq_true rfl) (Nat.le_of_ble_eq_true rfl) dX5_init_42 ?_
  refine cy_pF fpX5_28 (Nat.le_of_ble_eq_true rfl) rfl rfl rfl (Nat.le_of_ble_eq_true rfl) dX5_init_44 ?_
  refine x_aload0 dX5_init_47 ?_
  refine x_iconst 0 dX5_init_48 (by decide) ?_
  refine cy_pf fpX5_31 (Nat.le_of_ble_eq_true rfl) rfl rfl (Nat.le_of_ble_eq_true rfl) dX5_init_49 ?_
  refine x_aload0 dX5_init_52 ?_
  refine x_iconst 0 dX5_init_53 (by decide) ?_
  refine cy_pf fpX5_35 (Nat.le_of_ble_eq_true rfl) rfl rfl (Nat.le_of_ble_eq_true rfl) dX5_init_54 ?_
  refine x_aload0 dX5_init_57 ?_
  refine x_iconst 0 dX5_init_58 (by decide) ?_
  refine cy_pf fpX5_38 (Nat.le_of_ble_eq_true rfl) rfl rfl (Nat.le_of_ble_eq_true rfl) dX5_init_59 ?_
  refine x_aload0 dX5_init_62 ?_
  refine x_iconst (-1) dX5_init_63 (by decide) ?_
  refine cy_pf fpX5_41 (Nat.le_of_ble_eq_true rfl) rfl rfl (Nat.le_of_ble_eq_true rfl) dX5_init_64 ?_
  refine x_vret dX5_init_67 rfl ?_ (Nat.le_of_ble_eq_true rfl) (Nat.le_of_ble_eq_true rfl)
  exact ⟨rfl, fun q _ => hY_end rfl q⟩
set_option maxHeartbeats 4000000 in
set_option maxRecDepth 20000 in
theorem k_explI (G : vx_G) (h : vx_H) (hh : h 208 = .inr (2, [.null, .null, .null, .null, .null, .null, .int 0, .null, .null, .int 0])) : xK G M_X2_init 2 [.ref 208] 209 h 14 3171 (QV (fun n' h' => n' = 223 ∧ ∀ q, q < 223 → h' q = hX h 208 q)) := by
  refine xK.ofV (by decide) (Nat.le_of_ble_eq_true rfl) ?_
  refine xV.lveq (L' := [some (.ref 208)]) rfl ?_
  refine xV.heap (h' := hY h 208 2 [.null, .null, .null, .null, .null, .null, .int 0, .null, .null, .int 0]) (hY_in hh) ?_
  refine x_aload0 dX2_init_0 ?_
  refine x_objInit moX2_3 mo_i mo_c (Nat.le_of_ble_eq_true rfl) (Nat.le_of_ble_eq_true rfl) dX2_init_1 ?_
  refine x_aload0 dX2_init_4 ?_
  refine x_bipush (nI 18) dX2_init_5 (by decide) ?_
  refine cy_na 18 (Nat.le_of_ble_eq_true rfl) rfl (by decide) (by decide) (by decide) (Nat.le_of_ble_eq_true rfl) (Nat.le_of_ble_eq_true rfl) dX2_init_7 ?_
  refine cy_pF fpX2_9 (Nat.le_of_ble_eq_true rfl) rfl rfl rfl (Nat.le_of_ble_eq_true rfl) dX2_init_9 ?_
  refine x_aload0 dX2_init_12 ?_
  refine x_bipush (nI 18) dX2_init_13 (by decide) ?_
  refine cy_na 18 (Nat.le_of_ble_eq_true rfl) rfl (by decide) (by decide) (by decide) (Nat.le_of_ble_eq_true rfl) (Nat.le_of_ble_eq_true rfl) dX2_init_15 ?_
  refine cy_pF fpX2_15 (Nat.le_of_ble_eq_true rfl) rfl rfl rfl (Nat.le_of_ble_eq_true rfl) dX2_init_17 ?_
  refine x_aload0 dX2_init_20 ?_
  refine x_bipush (nI 18) dX2_init_21 (by decide) ?_
  refine cy_na 18 (Nat.le_of_ble_eq_true rfl) rfl (by decide) (by decide) (by decide) (Nat.le_of_ble_eq_true rfl) (Nat.le_of_ble_eq_true rfl) dX2_init_23 ?_
  refine cy_pF fpX2_18 (Nat.le_of_ble_eq_true rfl) rfl rfl rfl (Nat.le_of_ble_eq_true rfl) dX2_init_25 ?_
  refine x_aload0 dX2_init_28 ?_
  refine x_new nwX2_21 (Nat.le_of_ble_eq_true rfl) (Nat.le_of_ble_eq_true rfl) dX2_init_29 ?_
  refine x_dup dX2_init_32 rfl ?_
  refine x_callN0v mnX2_23 (k_sumsA _ _ up_at) (xRoom.of rfl) (Nat.le_of_ble_eq_true rfl) dX2_init_33 (fun n' h' hP => ?_)
  obtain ⟨rfl, hq⟩ := hP
  refine xV.heap (fun q hq2 => (hq q hq2).trans (hY_sub (Nat.le_of_ble_eq_true rfl))) ?_
  refine cy_pF fpX2_24 (Nat.le_of_ble_eq_true rfl) rfl rfl rfl (Nat.le_of_ble_eq_true rfl) dX2_init_36 ?_
  refine x_aload0 dX2_init_39 ?_
  refine x_new nwX2_21 (Nat.le_of_ble_eq_true rfl) (Nat.le_of_ble_eq_true rfl) dX2_init_40 ?_
  refine x_dup dX2_init_43 rfl ?_
  refine x_callN0v mnX2_23 (k_sumsB _ _ up_at) (xRoom.of rfl) (Nat.le_of_ble_eq_true rfl) dX2_init_44 (fun n' h' hP => ?_)
  obtain ⟨rfl, hq⟩ := hP
  refine xV.heap (fun q hq2 => (hq q hq2).trans (hY_sub (Nat.le_of_ble_eq_true rfl))) ?_
  refine cy_pF fpX2_28 (Nat.le_of_ble_eq_true rfl) rfl rfl rfl (Nat.le_of_ble_eq_true rfl) dX2_init_47 ?_
  refine x_aload0 dX2_init_50 ?_
  refine x_new nwX2_21 (Nat.le_of_ble_eq_true rfl) (Nat.le_of_ble_eq_true rfl) dX2_init_51 ?_
  refine x_dup dX2_init_54 rfl ?_
  refine x_callN0v mnX2_23 (k_sumsC _ _ up_at) (xRoom.of rfl) (Nat.le_of_ble_eq_true rfl) dX2_init_55 (fun n' h' hP => ?_)
  obtain ⟨rfl, hq⟩ := hP
  refine xV.heap (fun q hq2 => (hq q hq2).trans (hY_sub (Nat.le_of_ble_eq_true rfl))) ?_
  refine cy_pF fpX2_31 (Nat.le_of_ble_eq_true rfl) rfl rfl rfl (Nat.le_of_ble_eq_true rfl) dX2_init_58 ?_
  refine x_aload0 dX2_init_61 ?_
  refine x_iconst 0 dX2_init_62 (by decide) ?_
  refine cy_pf fpX2_34 (Nat.le_of_ble_eq_true rfl) rfl rfl (Nat.le_of_ble_eq_true rfl) dX2_init_63 ?_
  refine x_aload0 dX2_init_66 ?_
  refine x_bipush (nI 18) dX2_init_67 (by decide) ?_
  refine cy_na 18 (Nat.le_of_ble_eq_true rfl) rfl (by decide) (by decide) (by decide) (Nat.le_of_ble_eq_true rfl) (Nat.le_of_ble_eq_true rfl) dX2_init_69 ?_
  refine cy_pF fpX2_38 (Nat.le_of_ble_eq_true rfl) rfl rfl rfl (Nat.le_of_ble_eq_true rfl) dX2_init_71 ?_
  refine x_aload0 dX2_init_74 ?_
  refine x_bipush (nI 18) dX2_init_75 (by decide) ?_
  refine cy_na 18 (Nat.le_of_ble_eq_true rfl) rfl (by decide) (by decide) (by decide) (Nat.le_of_ble_eq_true rfl) (Nat.le_of_ble_eq_true rfl) dX2_init_77 ?_
  refine cy_pF fpX2_41 (Nat.le_of_ble_eq_true rfl) rfl rfl rfl (Nat.le_of_ble_eq_true rfl) dX2_init_79 ?_
  refine x_aload0 dX2_init_82 ?_
  refine x_iconst 0 dX2_init_83 (by decide) ?_
  refine cy_pf fpX2_44 (Nat.le_of_ble_eq_true rfl) rfl rfl (Nat.le_of_ble_eq_true rfl) dX2_init_84 ?_
  refine x_vret dX2_init_87 rfl ?_ (Nat.le_of_ble_eq_true rfl) (Nat.le_of_ble_eq_true rfl)
  exact ⟨rfl, fun q _ => hY_end rfl q⟩
