/-! ===== the model's memory: printed by gen/model.py. m.1 k i: place i of the array in field k; m.1 k 0: a number in field k; m.2: itemSum ===== -/
abbrev mS : Type := (Nat → Nat → Int32) × (Nat → Int64)
def MB : Nat := 623
def NT : Nat := 655
theorem NT_eq : NT = MB + 32 := rfl
def mFs (m : mS) : List Value := [.ref (MB + 1), .ref (MB + 2), .ref (MB + 3), .ref (MB + 4), .ref (MB + 5), .ref (MB + 6), .ref (MB + 7), .int (m.1 7 0), .int (m.1 8 0), .int (m.1 9 0), .ref (MB + 8), .ref (MB + 9), .ref (MB + 10), .ref (MB + 11), .ref (MB + 12), .ref (MB + 13), .int (m.1 16 0), .int (m.1 17 0), .ref (MB + 14), .ref (MB + 15), .int (m.1 20 0), .int (m.1 21 0), .ref (MB + 16), .ref (MB + 17), .ref (MB + 18), .int (m.1 25 0), .ref (MB + 19), .int (m.1 27 0), .int (m.1 28 0), .ref (MB + 20), .int (m.1 30 0), .int (m.1 31 0), .int (m.1 32 0), .ref (MB + 21), .ref (MB + 22), .int (m.1 35 0), .ref (MB + 23), .ref (MB + 24), .ref (MB + 25), .ref (MB + 26), .ref (MB + 27), .ref (MB + 28), .int (m.1 42 0), .ref (MB + 29), .ref (MB + 30), .ref (MB + 31), .int (m.1 46 0)]
def kT (j : Nat) : Nat := [0, 0, 0, 0, 0, 0, 0, 0, 0, 0, 0, 0, 1, 0, 0, 0, 0, 0, 1, 0, 0, 0, 0, 0, 0, 2, 0, 0, 0, 0, 0].getD j 0
def lT (j : Nat) : Nat := [160, 160, 160, 160, 160, 160, 2, 200, 1600, 200, 200, 200, 200, 14, 14, 196, 245760, 14, 14, 14, 5000, 20000, 4, 18, 18, 18, 18, 18, 60, 60, 60].getD j 0
def fT (j : Nat) : Nat := [0, 1, 2, 3, 4, 5, 6, 10, 11, 12, 13, 14, 15, 18, 19, 22, 23, 24, 26, 29, 33, 34, 36, 37, 38, 39, 40, 41, 43, 44, 45].getD j 0
theorem fT_inj : ∀ i, i < 31 → ∀ j, j < 31 → fT i = fT j → i = j := by decide +kernel
def mA (m : mS) (j : Nat) : va_E := if j = 25 then .inl (2, 18, .inr (.inl m.2)) else .inl (kT j, lT j, .inl (m.1 (fT j)))
def mH (m : mS) : vx_H := fun k => match k with
  | 0 => .inr (10, mFs m)
  | j + 1 => mA m j
def hp (x : vx_H) (m : mS) : vx_H := fun a => if a < MB then x a else mH m (a - MB)
theorem hp_m (x : vx_H) (m : mS) (k : Nat) : hp x m (MB + k) = mH m k := by
  unfold hp
  rw [if_neg (by omega), Nat.add_sub_cancel_left]
theorem hp_m0 (x : vx_H) (m : mS) : hp x m MB = .inr (10, mFs m) := hp_m x m 0
theorem hp_x (x : vx_H) (m : mS) {a : Nat} (h : a < MB) : hp x m a = x a := if_pos h
theorem mb_lt {k : Nat} (h : k < 32) : MB + k < NT := by rw [NT_eq]; omega
theorem mb_lt0 : MB < NT := by decide
/-- a place of an array, or a number, is written anew -/
def mset (m : mS) (k i : Nat) (v : Int32) : mS := (fun j => if j = k then upd (m.1 k) i v else m.1 j, m.2)
def msetL (m : mS) (i : Nat) (v : Int64) : mS := (m.1, vp_updL m.2 i v)
def msetA (m : mS) (k : Nat) (f : Nat → Int32) : mS := (fun j => if j = k then f else m.1 j, m.2)
theorem mset_same (m : mS) (k i : Nat) (v : Int32) : (mset m k i v).1 k = upd (m.1 k) i v := by simp [mset]
theorem mset_ne {m : mS} {k i j : Nat} {v : Int32} (h : j ≠ k) : (mset m k i v).1 j = m.1 j := by simp [mset, h]
theorem mset_2 (m : mS) (k i : Nat) (v : Int32) : (mset m k i v).2 = m.2 := rfl
theorem mset_at (m : mS) (k i : Nat) (v : Int32) : (mset m k i v).1 k i = v := by simp [mset, upd]
theorem mset_off {m : mS} {k i i' : Nat} {v : Int32} (h : i' ≠ i) : (mset m k i v).1 k i' = m.1 k i' := by simp [mset, upd, h]
theorem hp_up {x : vx_H} {m m' : mS} {k : Nat} {e : va_E} (h : ∀ j, j < 32 → va_up (mH m) k e j = mH m' j) : ∀ a, a < NT → va_up (hp x m) (MB + k) e a = hp x m' a := by
  intro a ha
  by_cases h1 : a < MB
  · rw [hp_x x m' h1]
    unfold va_up
    rw [if_neg (by omega), hp_x x m h1]
  · obtain ⟨j, rfl⟩ : ∃ j, a = MB + j := ⟨a - MB, by omega⟩
    have hj : j < 32 := by rw [NT_eq] at ha; omega
    rw [hp_m, ← h j hj]
    unfold va_up
    by_cases h2 : j = k
    · rw [if_pos h2, if_pos (by omega)]
    · rw [if_neg h2, if_neg (by omega), hp_m]
theorem mA_keep {m m' : mS} (h : ∀ j, j < 31 → m'.1 (fT j) = m.1 (fT j)) (h2 : m'.2 = m.2) : ∀ j, j < 31 → mA m j = mA m' j := by
  intro j hj
  unfold mA
  rw [h j hj, h2]
theorem mH_sc {m : mS} {k : Nat} {v : Int32} {e : va_E} (hk : ∀ j, j < 31 → fT j ≠ k) (he : e = .inr (10, mFs (mset m k 0 v))) : ∀ j, j < 32 → va_up (mH m) 0 e j = mH (mset m k 0 v) j := by
  intro j hj
  cases j with
  | zero => simp [va_up, he, mH]
  | succ j =>
    show mH m (j + 1) = _
    exact mA_keep (fun i hi => mset_ne (hk i hi)) rfl j (by omega)
theorem mH_ar {m : mS} {o i : Nat} {v : Int32} (ho : o < 31) (hl : o ≠ 25) (hs : mFs (mset m (fT o) i v) = mFs m) : ∀ j, j < 32 → va_up (mH m) (o + 1) (.inl (kT o, lT o, .inl (upd (m.1 (fT o)) i v))) j = mH (mset m (fT o) i v) j := by
  intro j hj
  cases j with
  | zero => simp [va_up, mH, hs]
  | succ j =>
    by_cases h : j = o
    · subst h
      simp [va_up, mH, mA, hl, mset_same]
    · have h2 : va_up (mH m) (o + 1) (.inl (kT o, lT o, .inl (upd (m.1 (fT o)) i v))) (j + 1) = mA m j := by
        unfold va_up
        rw [if_neg (by omega)]
        rfl
      rw [h2]
      show mA m j = mA _ j
      unfold mA
      rw [mset_2, mset_ne (fun q => h (fT_inj j (by omega) o ho q))]
theorem hp_sc {x : vx_H} {m : mS} {k : Nat} {v : Int32} (hk : ∀ j, j < 31 → fT j ≠ k) {fs : List Value} (he : fs = mFs (mset m k 0 v)) : ∀ a, a < NT → va_up (hp x m) MB (.inr (10, fs)) a = hp x (mset m k 0 v) a := hp_up (k := 0) (mH_sc hk (by rw [he]))
theorem hp_ar {x : vx_H} {m : mS} (o : Nat) {i : Nat} {v : Int32} (ho : o < 31) (hl : o ≠ 25) (hs : mFs (mset m (fT o) i v) = mFs m) : ∀ a, a < NT → va_up (hp x m) (MB + (o + 1)) (.inl (kT o, lT o, .inl (upd (m.1 (fT o)) i v))) a = hp x (mset m (fT o) i v) a := hp_up (k := o + 1) (mH_ar ho hl hs)
theorem hp_lo {x : vx_H} {m : mS} {i : Nat} {v : Int64} : ∀ a, a < NT → va_up (hp x m) (MB + 26) (.inl (2, 18, .inr (.inl (vp_updL m.2 i v)))) a = hp x (msetL m i v) a := hp_up (k := 26) (fun j hj => by
  by_cases h : j = 26
  · subst h
    rfl
  · unfold va_up
    rw [if_neg h]
    cases j with
    | zero => rfl
    | succ j =>
      show mA m j = mA _ j
      unfold mA
      rw [if_neg (by omega), if_neg (by omega)]
      rfl)
theorem vp_nI {i : Int32} {j N : Nat} (e : i = nI j) (h : j < N) (hN : N < 2 ^ 31) : vp_in i N ∧ i.toNatClampNeg = j := by
  subst e
  exact ⟨vp_in_nI h hN, nI_clamp (by omega)⟩
section XMODEL
variable {F : vx_F} {pc : Nat} {L : List (Option Value)} {st : List Value} {ce sl : Nat} {x : vx_H} {m : mS}
theorem gm0 {idx : Nat} (hf : xFG F.2.1.1.cls idx 10 0) (hd : decode F.2.1.2.1 pc = .ok (.getfield idx, 3)) (kk : xV F (pc + 3) L (.ref (MB + 1) :: st) NT (hp x m) ce sl) : xV F pc L (.ref MB :: st) NT (hp x m) ce sl := x_getf hf mb_lt0 (hp_m0 x m) rfl hd kk
theorem gm1 {idx : Nat} (hf : xFG F.2.1.1.cls idx 10 1) (hd : decode F.2.1.2.1 pc = .ok (.getfield idx, 3)) (kk : xV F (pc + 3) L (.ref (MB + 2) :: st) NT (hp x m) ce sl) : xV F pc L (.ref MB :: st) NT (hp x m) ce sl := x_getf hf mb_lt0 (hp_m0 x m) rfl hd kk
theorem gm2 {idx : Nat} (hf : xFG F.2.1.1.cls idx 10 2) (hd : decode F.2.1.2.1 pc = .ok (.getfield idx, 3)) (kk : xV F (pc + 3) L (.ref (MB + 3) :: st) NT (hp x m) ce sl) : xV F pc L (.ref MB :: st) NT (hp x m) ce sl := x_getf hf mb_lt0 (hp_m0 x m) rfl hd kk
theorem gm3 {idx : Nat} (hf : xFG F.2.1.1.cls idx 10 3) (hd : decode F.2.1.2.1 pc = .ok (.getfield idx, 3)) (kk : xV F (pc + 3) L (.ref (MB + 4) :: st) NT (hp x m) ce sl) : xV F pc L (.ref MB :: st) NT (hp x m) ce sl := x_getf hf mb_lt0 (hp_m0 x m) rfl hd kk
theorem gm4 {idx : Nat} (hf : xFG F.2.1.1.cls idx 10 4) (hd : decode F.2.1.2.1 pc = .ok (.getfield idx, 3)) (kk : xV F (pc + 3) L (.ref (MB + 5) :: st) NT (hp x m) ce sl) : xV F pc L (.ref MB :: st) NT (hp x m) ce sl := x_getf hf mb_lt0 (hp_m0 x m) rfl hd kk
theorem gm5 {idx : Nat} (hf : xFG F.2.1.1.cls idx 10 5) (hd : decode F.2.1.2.1 pc = .ok (.getfield idx, 3)) (kk : xV F (pc + 3) L (.ref (MB + 6) :: st) NT (hp x m) ce sl) : xV F pc L (.ref MB :: st) NT (hp x m) ce sl := x_getf hf mb_lt0 (hp_m0 x m) rfl hd kk
theorem gm6 {idx : Nat} (hf : xFG F.2.1.1.cls idx 10 6) (hd : decode F.2.1.2.1 pc = .ok (.getfield idx, 3)) (kk : xV F (pc + 3) L (.ref (MB + 7) :: st) NT (hp x m) ce sl) : xV F pc L (.ref MB :: st) NT (hp x m) ce sl := x_getf hf mb_lt0 (hp_m0 x m) rfl hd kk
theorem gm7 {idx : Nat} (hf : xFG F.2.1.1.cls idx 10 7) (hd : decode F.2.1.2.1 pc = .ok (.getfield idx, 3)) (kk : xV F (pc + 3) L (.int (m.1 7 0) :: st) NT (hp x m) ce sl) : xV F pc L (.ref MB :: st) NT (hp x m) ce sl := x_getf hf mb_lt0 (hp_m0 x m) rfl hd kk
theorem pm7 {idx : Nat} {v : Int32} (hf : xFP F.2.1.1.cls idx 10 7 (.int) false) (hd : decode F.2.1.2.1 pc = .ok (.putfield idx, 3)) (kk : xV F (pc + 3) L st NT (hp x (mset m 7 0 v)) ce sl) : xV F pc L (.int v :: .ref MB :: st) NT (hp x m) ce sl := x_putf hf mb_lt0 (hp_m0 x m) rfl rfl (by simp [mFs]) hd (xV.heap (hp_sc (k := 7) (v := v) (by decide +kernel) rfl) kk)
theorem gm8 {idx : Nat} (hf : xFG F.2.1.1.cls idx 10 8) (hd : decode F.2.1.2.1 pc = .ok (.getfield idx, 3)) (kk : xV F (pc + 3) L (.int (m.1 8 0) :: st) NT (hp x m) ce sl) : xV F pc L (.ref MB :: st) NT (hp x m) ce sl := x_getf hf mb_lt0 (hp_m0 x m) rfl hd kk
theorem pm8 {idx : Nat} {v : Int32} (hf : xFP F.2.1.1.cls idx 10 8 (.int) false) (hd : decode F.2.1.2.1 pc = .ok (.putfield idx, 3)) (kk : xV F (pc + 3) L st NT (hp x (mset m 8 0 v)) ce sl) : xV F pc L (.int v :: .ref MB :: st) NT (hp x m) ce sl := x_putf hf mb_lt0 (hp_m0 x m) rfl rfl (by simp [mFs]) hd (xV.heap (hp_sc (k := 8) (v := v) (by decide +kernel) rfl) kk)
theorem gm9 {idx : Nat} (hf : xFG F.2.1.1.cls idx 10 9) (hd : decode F.2.1.2.1 pc = .ok (.getfield idx, 3)) (kk : xV F (pc + 3) L (.int (m.1 9 0) :: st) NT (hp x m) ce sl) : xV F pc L (.ref MB :: st) NT (hp x m) ce sl := x_getf hf mb_lt0 (hp_m0 x m) rfl hd kk
theorem pm9 {idx : Nat} {v : Int32} (hf : xFP F.2.1.1.cls idx 10 9 (.int) false) (hd : decode F.2.1.2.1 pc = .ok (.putfield idx, 3)) (kk : xV F (pc + 3) L st NT (hp x (mset m 9 0 v)) ce sl) : xV F pc L (.int v :: .ref MB :: st) NT (hp x m) ce sl := x_putf hf mb_lt0 (hp_m0 x m) rfl rfl (by simp [mFs]) hd (xV.heap (hp_sc (k := 9) (v := v) (by decide +kernel) rfl) kk)
theorem gm10 {idx : Nat} (hf : xFG F.2.1.1.cls idx 10 10) (hd : decode F.2.1.2.1 pc = .ok (.getfield idx, 3)) (kk : xV F (pc + 3) L (.ref (MB + 8) :: st) NT (hp x m) ce sl) : xV F pc L (.ref MB :: st) NT (hp x m) ce sl := x_getf hf mb_lt0 (hp_m0 x m) rfl hd kk
theorem gm11 {idx : Nat} (hf : xFG F.2.1.1.cls idx 10 11) (hd : decode F.2.1.2.1 pc = .ok (.getfield idx, 3)) (kk : xV F (pc + 3) L (.ref (MB + 9) :: st) NT (hp x m) ce sl) : xV F pc L (.ref MB :: st) NT (hp x m) ce sl := x_getf hf mb_lt0 (hp_m0 x m) rfl hd kk
theorem gm12 {idx : Nat} (hf : xFG F.2.1.1.cls idx 10 12) (hd : decode F.2.1.2.1 pc = .ok (.getfield idx, 3)) (kk : xV F (pc + 3) L (.ref (MB + 10) :: st) NT (hp x m) ce sl) : xV F pc L (.ref MB :: st) NT (hp x m) ce sl := x_getf hf mb_lt0 (hp_m0 x m) rfl hd kk
theorem gm13 {idx : Nat} (hf : xFG F.2.1.1.cls idx 10 13) (hd : decode F.2.1.2.1 pc = .ok (.getfield idx, 3)) (kk : xV F (pc + 3) L (.ref (MB + 11) :: st) NT (hp x m) ce sl) : xV F pc L (.ref MB :: st) NT (hp x m) ce sl := x_getf hf mb_lt0 (hp_m0 x m) rfl hd kk
theorem gm14 {idx : Nat} (hf : xFG F.2.1.1.cls idx 10 14) (hd : decode F.2.1.2.1 pc = .ok (.getfield idx, 3)) (kk : xV F (pc + 3) L (.ref (MB + 12) :: st) NT (hp x m) ce sl) : xV F pc L (.ref MB :: st) NT (hp x m) ce sl := x_getf hf mb_lt0 (hp_m0 x m) rfl hd kk
theorem gm15 {idx : Nat} (hf : xFG F.2.1.1.cls idx 10 15) (hd : decode F.2.1.2.1 pc = .ok (.getfield idx, 3)) (kk : xV F (pc + 3) L (.ref (MB + 13) :: st) NT (hp x m) ce sl) : xV F pc L (.ref MB :: st) NT (hp x m) ce sl := x_getf hf mb_lt0 (hp_m0 x m) rfl hd kk
theorem gm16 {idx : Nat} (hf : xFG F.2.1.1.cls idx 10 16) (hd : decode F.2.1.2.1 pc = .ok (.getfield idx, 3)) (kk : xV F (pc + 3) L (.int (m.1 16 0) :: st) NT (hp x m) ce sl) : xV F pc L (.ref MB :: st) NT (hp x m) ce sl := x_getf hf mb_lt0 (hp_m0 x m) rfl hd kk
theorem pm16 {idx : Nat} {v : Int32} (hf : xFP F.2.1.1.cls idx 10 16 (.int) false) (hd : decode F.2.1.2.1 pc = .ok (.putfield idx, 3)) (kk : xV F (pc + 3) L st NT (hp x (mset m 16 0 v)) ce sl) : xV F pc L (.int v :: .ref MB :: st) NT (hp x m) ce sl := x_putf hf mb_lt0 (hp_m0 x m) rfl rfl (by simp [mFs]) hd (xV.heap (hp_sc (k := 16) (v := v) (by decide +kernel) rfl) kk)
theorem gm17 {idx : Nat} (hf : xFG F.2.1.1.cls idx 10 17) (hd : decode F.2.1.2.1 pc = .ok (.getfield idx, 3)) (kk : xV F (pc + 3) L (.int (m.1 17 0) :: st) NT (hp x m) ce sl) : xV F pc L (.ref MB :: st) NT (hp x m) ce sl := x_getf hf mb_lt0 (hp_m0 x m) rfl hd kk
theorem pm17 {idx : Nat} {v : Int32} (hf : xFP F.2.1.1.cls idx 10 17 (.boolean) false) (hd : decode F.2.1.2.1 pc = .ok (.putfield idx, 3)) (hv : v = 0 ∨ v = 1) (kk : xV F (pc + 3) L st NT (hp x (mset m 17 0 v)) ce sl) : xV F pc L (.int v :: .ref MB :: st) NT (hp x m) ce sl := x_putf hf mb_lt0 (hp_m0 x m) (by rcases hv with rfl | rfl <;> decide) (by rcases hv with rfl | rfl <;> decide) (by simp [mFs]) hd (xV.heap (hp_sc (k := 17) (v := v) (by decide +kernel) rfl) kk)
theorem gm18 {idx : Nat} (hf : xFG F.2.1.1.cls idx 10 18) (hd : decode F.2.1.2.1 pc = .ok (.getfield idx, 3)) (kk : xV F (pc + 3) L (.ref (MB + 14) :: st) NT (hp x m) ce sl) : xV F pc L (.ref MB :: st) NT (hp x m) ce sl := x_getf hf mb_lt0 (hp_m0 x m) rfl hd kk
theorem gm19 {idx : Nat} (hf : xFG F.2.1.1.cls idx 10 19) (hd : decode F.2.1.2.1 pc = .ok (.getfield idx, 3)) (kk : xV F (pc + 3) L (.ref (MB + 15) :: st) NT (hp x m) ce sl) : xV F pc L (.ref MB :: st) NT (hp x m) ce sl := x_getf hf mb_lt0 (hp_m0 x m) rfl hd kk
theorem gm20 {idx : Nat} (hf : xFG F.2.1.1.cls idx 10 20) (hd : decode F.2.1.2.1 pc = .ok (.getfield idx, 3)) (kk : xV F (pc + 3) L (.int (m.1 20 0) :: st) NT (hp x m) ce sl) : xV F pc L (.ref MB :: st) NT (hp x m) ce sl := x_getf hf mb_lt0 (hp_m0 x m) rfl hd kk
theorem pm20 {idx : Nat} {v : Int32} (hf : xFP F.2.1.1.cls idx 10 20 (.int) false) (hd : decode F.2.1.2.1 pc = .ok (.putfield idx, 3)) (kk : xV F (pc + 3) L st NT (hp x (mset m 20 0 v)) ce sl) : xV F pc L (.int v :: .ref MB :: st) NT (hp x m) ce sl := x_putf hf mb_lt0 (hp_m0 x m) rfl rfl (by simp [mFs]) hd (xV.heap (hp_sc (k := 20) (v := v) (by decide +kernel) rfl) kk)
theorem gm21 {idx : Nat} (hf : xFG F.2.1.1.cls idx 10 21) (hd : decode F.2.1.2.1 pc = .ok (.getfield idx, 3)) (kk : xV F (pc + 3) L (.int (m.1 21 0) :: st) NT (hp x m) ce sl) : xV F pc L (.ref MB :: st) NT (hp x m) ce sl := x_getf hf mb_lt0 (hp_m0 x m) rfl hd kk
theorem pm21 {idx : Nat} {v : Int32} (hf : xFP F.2.1.1.cls idx 10 21 (.int) false) (hd : decode F.2.1.2.1 pc = .ok (.putfield idx, 3)) (kk : xV F (pc + 3) L st NT (hp x (mset m 21 0 v)) ce sl) : xV F pc L (.int v :: .ref MB :: st) NT (hp x m) ce sl := x_putf hf mb_lt0 (hp_m0 x m) rfl rfl (by simp [mFs]) hd (xV.heap (hp_sc (k := 21) (v := v) (by decide +kernel) rfl) kk)
theorem gm22 {idx : Nat} (hf : xFG F.2.1.1.cls idx 10 22) (hd : decode F.2.1.2.1 pc = .ok (.getfield idx, 3)) (kk : xV F (pc + 3) L (.ref (MB + 16) :: st) NT (hp x m) ce sl) : xV F pc L (.ref MB :: st) NT (hp x m) ce sl := x_getf hf mb_lt0 (hp_m0 x m) rfl hd kk
theorem gm23 {idx : Nat} (hf : xFG F.2.1.1.cls idx 10 23) (hd : decode F.2.1.2.1 pc = .ok (.getfield idx, 3)) (kk : xV F (pc + 3) L (.ref (MB + 17) :: st) NT (hp x m) ce sl) : xV F pc L (.ref MB :: st) NT (hp x m) ce sl := x_getf hf mb_lt0 (hp_m0 x m) rfl hd kk
theorem gm24 {idx : Nat} (hf : xFG F.2.1.1.cls idx 10 24) (hd : decode F.2.1.2.1 pc = .ok (.getfield idx, 3)) (kk : xV F (pc + 3) L (.ref (MB + 18) :: st) NT (hp x m) ce sl) : xV F pc L (.ref MB :: st) NT (hp x m) ce sl := x_getf hf mb_lt0 (hp_m0 x m) rfl hd kk
theorem gm25 {idx : Nat} (hf : xFG F.2.1.1.cls idx 10 25) (hd : decode F.2.1.2.1 pc = .ok (.getfield idx, 3)) (kk : xV F (pc + 3) L (.int (m.1 25 0) :: st) NT (hp x m) ce sl) : xV F pc L (.ref MB :: st) NT (hp x m) ce sl := x_getf hf mb_lt0 (hp_m0 x m) rfl hd kk
theorem pm25 {idx : Nat} {v : Int32} (hf : xFP F.2.1.1.cls idx 10 25 (.int) false) (hd : decode F.2.1.2.1 pc = .ok (.putfield idx, 3)) (kk : xV F (pc + 3) L st NT (hp x (mset m 25 0 v)) ce sl) : xV F pc L (.int v :: .ref MB :: st) NT (hp x m) ce sl := x_putf hf mb_lt0 (hp_m0 x m) rfl rfl (by simp [mFs]) hd (xV.heap (hp_sc (k := 25) (v := v) (by decide +kernel) rfl) kk)
theorem gm26 {idx : Nat} (hf : xFG F.2.1.1.cls idx 10 26) (hd : decode F.2.1.2.1 pc = .ok (.getfield idx, 3)) (kk : xV F (pc + 3) L (.ref (MB + 19) :: st) NT (hp x m) ce sl) : xV F pc L (.ref MB :: st) NT (hp x m) ce sl := x_getf hf mb_lt0 (hp_m0 x m) rfl hd kk
theorem gm27 {idx : Nat} (hf : xFG F.2.1.1.cls idx 10 27) (hd : decode F.2.1.2.1 pc = .ok (.getfield idx, 3)) (kk : xV F (pc + 3) L (.int (m.1 27 0) :: st) NT (hp x m) ce sl) : xV F pc L (.ref MB :: st) NT (hp x m) ce sl := x_getf hf mb_lt0 (hp_m0 x m) rfl hd kk
theorem pm27 {idx : Nat} {v : Int32} (hf : xFP F.2.1.1.cls idx 10 27 (.int) false) (hd : decode F.2.1.2.1 pc = .ok (.putfield idx, 3)) (kk : xV F (pc + 3) L st NT (hp x (mset m 27 0 v)) ce sl) : xV F pc L (.int v :: .ref MB :: st) NT (hp x m) ce sl := x_putf hf mb_lt0 (hp_m0 x m) rfl rfl (by simp [mFs]) hd (xV.heap (hp_sc (k := 27) (v := v) (by decide +kernel) rfl) kk)
theorem gm28 {idx : Nat} (hf : xFG F.2.1.1.cls idx 10 28) (hd : decode F.2.1.2.1 pc = .ok (.getfield idx, 3)) (kk : xV F (pc + 3) L (.int (m.1 28 0) :: st) NT (hp x m) ce sl) : xV F pc L (.ref MB :: st) NT (hp x m) ce sl := x_getf hf mb_lt0 (hp_m0 x m) rfl hd kk
theorem pm28 {idx : Nat} {v : Int32} (hf : xFP F.2.1.1.cls idx 10 28 (.int) false) (hd : decode F.2.1.2.1 pc = .ok (.putfield idx, 3)) (kk : xV F (pc + 3) L st NT (hp x (mset m 28 0 v)) ce sl) : xV F pc L (.int v :: .ref MB :: st) NT (hp x m) ce sl := x_putf hf mb_lt0 (hp_m0 x m) rfl rfl (by simp [mFs]) hd (xV.heap (hp_sc (k := 28) (v := v) (by decide +kernel) rfl) kk)
theorem gm29 {idx : Nat} (hf : xFG F.2.1.1.cls idx 10 29) (hd : decode F.2.1.2.1 pc = .ok (.getfield idx, 3)) (kk : xV F (pc + 3) L (.ref (MB + 20) :: st) NT (hp x m) ce sl) : xV F pc L (.ref MB :: st) NT (hp x m) ce sl := x_getf hf mb_lt0 (hp_m0 x m) rfl hd kk
theorem gm30 {idx : Nat} (hf : xFG F.2.1.1.cls idx 10 30) (hd : decode F.2.1.2.1 pc = .ok (.getfield idx, 3)) (kk : xV F (pc + 3) L (.int (m.1 30 0) :: st) NT (hp x m) ce sl) : xV F pc L (.ref MB :: st) NT (hp x m) ce sl := x_getf hf mb_lt0 (hp_m0 x m) rfl hd kk
theorem pm30 {idx : Nat} {v : Int32} (hf : xFP F.2.1.1.cls idx 10 30 (.boolean) false) (hd : decode F.2.1.2.1 pc = .ok (.putfield idx, 3)) (hv : v = 0 ∨ v = 1) (kk : xV F (pc + 3) L st NT (hp x (mset m 30 0 v)) ce sl) : xV F pc L (.int v :: .ref MB :: st) NT (hp x m) ce sl := x_putf hf mb_lt0 (hp_m0 x m) (by rcases hv with rfl | rfl <;> decide) (by rcases hv with rfl | rfl <;> decide) (by simp [mFs]) hd (xV.heap (hp_sc (k := 30) (v := v) (by decide +kernel) rfl) kk)
theorem gm31 {idx : Nat} (hf : xFG F.2.1.1.cls idx 10 31) (hd : decode F.2.1.2.1 pc = .ok (.getfield idx, 3)) (kk : xV F (pc + 3) L (.int (m.1 31 0) :: st) NT (hp x m) ce sl) : xV F pc L (.ref MB :: st) NT (hp x m) ce sl := x_getf hf mb_lt0 (hp_m0 x m) rfl hd kk
theorem pm31 {idx : Nat} {v : Int32} (hf : xFP F.2.1.1.cls idx 10 31 (.int) false) (hd : decode F.2.1.2.1 pc = .ok (.putfield idx, 3)) (kk : xV F (pc + 3) L st NT (hp x (mset m 31 0 v)) ce sl) : xV F pc L (.int v :: .ref MB :: st) NT (hp x m) ce sl := x_putf hf mb_lt0 (hp_m0 x m) rfl rfl (by simp [mFs]) hd (xV.heap (hp_sc (k := 31) (v := v) (by decide +kernel) rfl) kk)
theorem gm32 {idx : Nat} (hf : xFG F.2.1.1.cls idx 10 32) (hd : decode F.2.1.2.1 pc = .ok (.getfield idx, 3)) (kk : xV F (pc + 3) L (.int (m.1 32 0) :: st) NT (hp x m) ce sl) : xV F pc L (.ref MB :: st) NT (hp x m) ce sl := x_getf hf mb_lt0 (hp_m0 x m) rfl hd kk
theorem pm32 {idx : Nat} {v : Int32} (hf : xFP F.2.1.1.cls idx 10 32 (.int) false) (hd : decode F.2.1.2.1 pc = .ok (.putfield idx, 3)) (kk : xV F (pc + 3) L st NT (hp x (mset m 32 0 v)) ce sl) : xV F pc L (.int v :: .ref MB :: st) NT (hp x m) ce sl := x_putf hf mb_lt0 (hp_m0 x m) rfl rfl (by simp [mFs]) hd (xV.heap (hp_sc (k := 32) (v := v) (by decide +kernel) rfl) kk)
theorem gm33 {idx : Nat} (hf : xFG F.2.1.1.cls idx 10 33) (hd : decode F.2.1.2.1 pc = .ok (.getfield idx, 3)) (kk : xV F (pc + 3) L (.ref (MB + 21) :: st) NT (hp x m) ce sl) : xV F pc L (.ref MB :: st) NT (hp x m) ce sl := x_getf hf mb_lt0 (hp_m0 x m) rfl hd kk
theorem gm34 {idx : Nat} (hf : xFG F.2.1.1.cls idx 10 34) (hd : decode F.2.1.2.1 pc = .ok (.getfield idx, 3)) (kk : xV F (pc + 3) L (.ref (MB + 22) :: st) NT (hp x m) ce sl) : xV F pc L (.ref MB :: st) NT (hp x m) ce sl := x_getf hf mb_lt0 (hp_m0 x m) rfl hd kk
theorem gm35 {idx : Nat} (hf : xFG F.2.1.1.cls idx 10 35) (hd : decode F.2.1.2.1 pc = .ok (.getfield idx, 3)) (kk : xV F (pc + 3) L (.int (m.1 35 0) :: st) NT (hp x m) ce sl) : xV F pc L (.ref MB :: st) NT (hp x m) ce sl := x_getf hf mb_lt0 (hp_m0 x m) rfl hd kk
theorem pm35 {idx : Nat} {v : Int32} (hf : xFP F.2.1.1.cls idx 10 35 (.int) false) (hd : decode F.2.1.2.1 pc = .ok (.putfield idx, 3)) (kk : xV F (pc + 3) L st NT (hp x (mset m 35 0 v)) ce sl) : xV F pc L (.int v :: .ref MB :: st) NT (hp x m) ce sl := x_putf hf mb_lt0 (hp_m0 x m) rfl rfl (by simp [mFs]) hd (xV.heap (hp_sc (k := 35) (v := v) (by decide +kernel) rfl) kk)
theorem gm36 {idx : Nat} (hf : xFG F.2.1.1.cls idx 10 36) (hd : decode F.2.1.2.1 pc = .ok (.getfield idx, 3)) (kk : xV F (pc + 3) L (.ref (MB + 23) :: st) NT (hp x m) ce sl) : xV F pc L (.ref MB :: st) NT (hp x m) ce sl := x_getf hf mb_lt0 (hp_m0 x m) rfl hd kk
theorem gm37 {idx : Nat} (hf : xFG F.2.1.1.cls idx 10 37) (hd : decode F.2.1.2.1 pc = .ok (.getfield idx, 3)) (kk : xV F (pc + 3) L (.ref (MB + 24) :: st) NT (hp x m) ce sl) : xV F pc L (.ref MB :: st) NT (hp x m) ce sl := x_getf hf mb_lt0 (hp_m0 x m) rfl hd kk
theorem gm38 {idx : Nat} (hf : xFG F.2.1.1.cls idx 10 38) (hd : decode F.2.1.2.1 pc = .ok (.getfield idx, 3)) (kk : xV F (pc + 3) L (.ref (MB + 25) :: st) NT (hp x m) ce sl) : xV F pc L (.ref MB :: st) NT (hp x m) ce sl := x_getf hf mb_lt0 (hp_m0 x m) rfl hd kk
theorem gm39 {idx : Nat} (hf : xFG F.2.1.1.cls idx 10 39) (hd : decode F.2.1.2.1 pc = .ok (.getfield idx, 3)) (kk : xV F (pc + 3) L (.ref (MB + 26) :: st) NT (hp x m) ce sl) : xV F pc L (.ref MB :: st) NT (hp x m) ce sl := x_getf hf mb_lt0 (hp_m0 x m) rfl hd kk
theorem gm40 {idx : Nat} (hf : xFG F.2.1.1.cls idx 10 40) (hd : decode F.2.1.2.1 pc = .ok (.getfield idx, 3)) (kk : xV F (pc + 3) L (.ref (MB + 27) :: st) NT (hp x m) ce sl) : xV F pc L (.ref MB :: st) NT (hp x m) ce sl := x_getf hf mb_lt0 (hp_m0 x m) rfl hd kk
theorem gm41 {idx : Nat} (hf : xFG F.2.1.1.cls idx 10 41) (hd : decode F.2.1.2.1 pc = .ok (.getfield idx, 3)) (kk : xV F (pc + 3) L (.ref (MB + 28) :: st) NT (hp x m) ce sl) : xV F pc L (.ref MB :: st) NT (hp x m) ce sl := x_getf hf mb_lt0 (hp_m0 x m) rfl hd kk
theorem gm42 {idx : Nat} (hf : xFG F.2.1.1.cls idx 10 42) (hd : decode F.2.1.2.1 pc = .ok (.getfield idx, 3)) (kk : xV F (pc + 3) L (.int (m.1 42 0) :: st) NT (hp x m) ce sl) : xV F pc L (.ref MB :: st) NT (hp x m) ce sl := x_getf hf mb_lt0 (hp_m0 x m) rfl hd kk
theorem pm42 {idx : Nat} {v : Int32} (hf : xFP F.2.1.1.cls idx 10 42 (.int) false) (hd : decode F.2.1.2.1 pc = .ok (.putfield idx, 3)) (kk : xV F (pc + 3) L st NT (hp x (mset m 42 0 v)) ce sl) : xV F pc L (.int v :: .ref MB :: st) NT (hp x m) ce sl := x_putf hf mb_lt0 (hp_m0 x m) rfl rfl (by simp [mFs]) hd (xV.heap (hp_sc (k := 42) (v := v) (by decide +kernel) rfl) kk)
theorem gm43 {idx : Nat} (hf : xFG F.2.1.1.cls idx 10 43) (hd : decode F.2.1.2.1 pc = .ok (.getfield idx, 3)) (kk : xV F (pc + 3) L (.ref (MB + 29) :: st) NT (hp x m) ce sl) : xV F pc L (.ref MB :: st) NT (hp x m) ce sl := x_getf hf mb_lt0 (hp_m0 x m) rfl hd kk
theorem gm44 {idx : Nat} (hf : xFG F.2.1.1.cls idx 10 44) (hd : decode F.2.1.2.1 pc = .ok (.getfield idx, 3)) (kk : xV F (pc + 3) L (.ref (MB + 30) :: st) NT (hp x m) ce sl) : xV F pc L (.ref MB :: st) NT (hp x m) ce sl := x_getf hf mb_lt0 (hp_m0 x m) rfl hd kk
theorem gm45 {idx : Nat} (hf : xFG F.2.1.1.cls idx 10 45) (hd : decode F.2.1.2.1 pc = .ok (.getfield idx, 3)) (kk : xV F (pc + 3) L (.ref (MB + 31) :: st) NT (hp x m) ce sl) : xV F pc L (.ref MB :: st) NT (hp x m) ce sl := x_getf hf mb_lt0 (hp_m0 x m) rfl hd kk
theorem gm46 {idx : Nat} (hf : xFG F.2.1.1.cls idx 10 46) (hd : decode F.2.1.2.1 pc = .ok (.getfield idx, 3)) (kk : xV F (pc + 3) L (.int (m.1 46 0) :: st) NT (hp x m) ce sl) : xV F pc L (.ref MB :: st) NT (hp x m) ce sl := x_getf hf mb_lt0 (hp_m0 x m) rfl hd kk
theorem pm46 {idx : Nat} {v : Int32} (hf : xFP F.2.1.1.cls idx 10 46 (.int) false) (hd : decode F.2.1.2.1 pc = .ok (.putfield idx, 3)) (kk : xV F (pc + 3) L st NT (hp x (mset m 46 0 v)) ce sl) : xV F pc L (.int v :: .ref MB :: st) NT (hp x m) ce sl := x_putf hf mb_lt0 (hp_m0 x m) rfl rfl (by simp [mFs]) hd (xV.heap (hp_sc (k := 46) (v := v) (by decide +kernel) rfl) kk)
theorem lm0 {i : Int32} (j : Nat) (e : i = nI j) (hj : j < 160) (hd : decode F.2.1.2.1 pc = .ok (.iaload, 1)) (kk : xV F (pc + 1) L (.int (m.1 0 j) :: st) NT (hp x m) ce sl) : xV F pc L (.int i :: .ref (MB + 1) :: st) NT (hp x m) ce sl := by
  obtain ⟨h1, h2⟩ := vp_nI e hj (by decide)
  refine x_iald (mb_lt (by decide)) (hp_m x m 1) h1 hd ?_
  rw [h2]
  exact kk
theorem sm0 {i v : Int32} (j : Nat) (e : i = nI j) (hj : j < 160) (hd : decode F.2.1.2.1 pc = .ok (.iastore, 1)) (kk : xV F (pc + 1) L st NT (hp x (mset m 0 j v)) ce sl) : xV F pc L (.int v :: .int i :: .ref (MB + 1) :: st) NT (hp x m) ce sl := by
  obtain ⟨h1, h2⟩ := vp_nI e hj (by decide)
  refine x_iast (mb_lt (by decide)) (hp_m x m 1) h1 hd ?_
  rw [h2]
  exact xV.heap (hp_ar 0 (by decide) (by decide) rfl) kk
theorem lm1 {i : Int32} (j : Nat) (e : i = nI j) (hj : j < 160) (hd : decode F.2.1.2.1 pc = .ok (.iaload, 1)) (kk : xV F (pc + 1) L (.int (m.1 1 j) :: st) NT (hp x m) ce sl) : xV F pc L (.int i :: .ref (MB + 2) :: st) NT (hp x m) ce sl := by
  obtain ⟨h1, h2⟩ := vp_nI e hj (by decide)
  refine x_iald (mb_lt (by decide)) (hp_m x m 2) h1 hd ?_
  rw [h2]
  exact kk
theorem sm1 {i v : Int32} (j : Nat) (e : i = nI j) (hj : j < 160) (hd : decode F.2.1.2.1 pc = .ok (.iastore, 1)) (kk : xV F (pc + 1) L st NT (hp x (mset m 1 j v)) ce sl) : xV F pc L (.int v :: .int i :: .ref (MB + 2) :: st) NT (hp x m) ce sl := by
  obtain ⟨h1, h2⟩ := vp_nI e hj (by decide)
  refine x_iast (mb_lt (by decide)) (hp_m x m 2) h1 hd ?_
  rw [h2]
  exact xV.heap (hp_ar 1 (by decide) (by decide) rfl) kk
theorem lm2 {i : Int32} (j : Nat) (e : i = nI j) (hj : j < 160) (hd : decode F.2.1.2.1 pc = .ok (.iaload, 1)) (kk : xV F (pc + 1) L (.int (m.1 2 j) :: st) NT (hp x m) ce sl) : xV F pc L (.int i :: .ref (MB + 3) :: st) NT (hp x m) ce sl := by
  obtain ⟨h1, h2⟩ := vp_nI e hj (by decide)
  refine x_iald (mb_lt (by decide)) (hp_m x m 3) h1 hd ?_
  rw [h2]
  exact kk
theorem sm2 {i v : Int32} (j : Nat) (e : i = nI j) (hj : j < 160) (hd : decode F.2.1.2.1 pc = .ok (.iastore, 1)) (kk : xV F (pc + 1) L st NT (hp x (mset m 2 j v)) ce sl) : xV F pc L (.int v :: .int i :: .ref (MB + 3) :: st) NT (hp x m) ce sl := by
  obtain ⟨h1, h2⟩ := vp_nI e hj (by decide)
  refine x_iast (mb_lt (by decide)) (hp_m x m 3) h1 hd ?_
  rw [h2]
  exact xV.heap (hp_ar 2 (by decide) (by decide) rfl) kk
theorem lm3 {i : Int32} (j : Nat) (e : i = nI j) (hj : j < 160) (hd : decode F.2.1.2.1 pc = .ok (.iaload, 1)) (kk : xV F (pc + 1) L (.int (m.1 3 j) :: st) NT (hp x m) ce sl) : xV F pc L (.int i :: .ref (MB + 4) :: st) NT (hp x m) ce sl := by
  obtain ⟨h1, h2⟩ := vp_nI e hj (by decide)
  refine x_iald (mb_lt (by decide)) (hp_m x m 4) h1 hd ?_
  rw [h2]
  exact kk
theorem sm3 {i v : Int32} (j : Nat) (e : i = nI j) (hj : j < 160) (hd : decode F.2.1.2.1 pc = .ok (.iastore, 1)) (kk : xV F (pc + 1) L st NT (hp x (mset m 3 j v)) ce sl) : xV F pc L (.int v :: .int i :: .ref (MB + 4) :: st) NT (hp x m) ce sl := by
  obtain ⟨h1, h2⟩ := vp_nI e hj (by decide)
  refine x_iast (mb_lt (by decide)) (hp_m x m 4) h1 hd ?_
  rw [h2]
  exact xV.heap (hp_ar 3 (by decide) (by decide) rfl) kk
theorem lm4 {i : Int32} (j : Nat) (e : i = nI j) (hj : j < 160) (hd : decode F.2.1.2.1 pc = .ok (.iaload, 1)) (kk : xV F (pc + 1) L (.int (m.1 4 j) :: st) NT (hp x m) ce sl) : xV F pc L (.int i :: .ref (MB + 5) :: st) NT (hp x m) ce sl := by
  obtain ⟨h1, h2⟩ := vp_nI e hj (by decide)
  refine x_iald (mb_lt (by decide)) (hp_m x m 5) h1 hd ?_
  rw [h2]
  exact kk
theorem sm4 {i v : Int32} (j : Nat) (e : i = nI j) (hj : j < 160) (hd : decode F.2.1.2.1 pc = .ok (.iastore, 1)) (kk : xV F (pc + 1) L st NT (hp x (mset m 4 j v)) ce sl) : xV F pc L (.int v :: .int i :: .ref (MB + 5) :: st) NT (hp x m) ce sl := by
  obtain ⟨h1, h2⟩ := vp_nI e hj (by decide)
  refine x_iast (mb_lt (by decide)) (hp_m x m 5) h1 hd ?_
  rw [h2]
  exact xV.heap (hp_ar 4 (by decide) (by decide) rfl) kk
theorem lm5 {i : Int32} (j : Nat) (e : i = nI j) (hj : j < 160) (hd : decode F.2.1.2.1 pc = .ok (.iaload, 1)) (kk : xV F (pc + 1) L (.int (m.1 5 j) :: st) NT (hp x m) ce sl) : xV F pc L (.int i :: .ref (MB + 6) :: st) NT (hp x m) ce sl := by
  obtain ⟨h1, h2⟩ := vp_nI e hj (by decide)
  refine x_iald (mb_lt (by decide)) (hp_m x m 6) h1 hd ?_
  rw [h2]
  exact kk
theorem sm5 {i v : Int32} (j : Nat) (e : i = nI j) (hj : j < 160) (hd : decode F.2.1.2.1 pc = .ok (.iastore, 1)) (kk : xV F (pc + 1) L st NT (hp x (mset m 5 j v)) ce sl) : xV F pc L (.int v :: .int i :: .ref (MB + 6) :: st) NT (hp x m) ce sl := by
  obtain ⟨h1, h2⟩ := vp_nI e hj (by decide)
  refine x_iast (mb_lt (by decide)) (hp_m x m 6) h1 hd ?_
  rw [h2]
  exact xV.heap (hp_ar 5 (by decide) (by decide) rfl) kk
theorem lm6 {i : Int32} (j : Nat) (e : i = nI j) (hj : j < 2) (hd : decode F.2.1.2.1 pc = .ok (.iaload, 1)) (kk : xV F (pc + 1) L (.int (m.1 6 j) :: st) NT (hp x m) ce sl) : xV F pc L (.int i :: .ref (MB + 7) :: st) NT (hp x m) ce sl := by
  obtain ⟨h1, h2⟩ := vp_nI e hj (by decide)
  refine x_iald (mb_lt (by decide)) (hp_m x m 7) h1 hd ?_
  rw [h2]
  exact kk
theorem sm6 {i v : Int32} (j : Nat) (e : i = nI j) (hj : j < 2) (hd : decode F.2.1.2.1 pc = .ok (.iastore, 1)) (kk : xV F (pc + 1) L st NT (hp x (mset m 6 j v)) ce sl) : xV F pc L (.int v :: .int i :: .ref (MB + 7) :: st) NT (hp x m) ce sl := by
  obtain ⟨h1, h2⟩ := vp_nI e hj (by decide)
  refine x_iast (mb_lt (by decide)) (hp_m x m 7) h1 hd ?_
  rw [h2]
  exact xV.heap (hp_ar 6 (by decide) (by decide) rfl) kk
theorem lm10 {i : Int32} (j : Nat) (e : i = nI j) (hj : j < 200) (hd : decode F.2.1.2.1 pc = .ok (.iaload, 1)) (kk : xV F (pc + 1) L (.int (m.1 10 j) :: st) NT (hp x m) ce sl) : xV F pc L (.int i :: .ref (MB + 8) :: st) NT (hp x m) ce sl := by
  obtain ⟨h1, h2⟩ := vp_nI e hj (by decide)
  refine x_iald (mb_lt (by decide)) (hp_m x m 8) h1 hd ?_
  rw [h2]
  exact kk
theorem sm10 {i v : Int32} (j : Nat) (e : i = nI j) (hj : j < 200) (hd : decode F.2.1.2.1 pc = .ok (.iastore, 1)) (kk : xV F (pc + 1) L st NT (hp x (mset m 10 j v)) ce sl) : xV F pc L (.int v :: .int i :: .ref (MB + 8) :: st) NT (hp x m) ce sl := by
  obtain ⟨h1, h2⟩ := vp_nI e hj (by decide)
  refine x_iast (mb_lt (by decide)) (hp_m x m 8) h1 hd ?_
  rw [h2]
  exact xV.heap (hp_ar 7 (by decide) (by decide) rfl) kk
theorem lm11 {i : Int32} (j : Nat) (e : i = nI j) (hj : j < 1600) (hd : decode F.2.1.2.1 pc = .ok (.iaload, 1)) (kk : xV F (pc + 1) L (.int (m.1 11 j) :: st) NT (hp x m) ce sl) : xV F pc L (.int i :: .ref (MB + 9) :: st) NT (hp x m) ce sl := by
  obtain ⟨h1, h2⟩ := vp_nI e hj (by decide)
  refine x_iald (mb_lt (by decide)) (hp_m x m 9) h1 hd ?_
  rw [h2]
  exact kk
theorem sm11 {i v : Int32} (j : Nat) (e : i = nI j) (hj : j < 1600) (hd : decode F.2.1.2.1 pc = .ok (.iastore, 1)) (kk : xV F (pc + 1) L st NT (hp x (mset m 11 j v)) ce sl) : xV F pc L (.int v :: .int i :: .ref (MB + 9) :: st) NT (hp x m) ce sl := by
  obtain ⟨h1, h2⟩ := vp_nI e hj (by decide)
  refine x_iast (mb_lt (by decide)) (hp_m x m 9) h1 hd ?_
  rw [h2]
  exact xV.heap (hp_ar 8 (by decide) (by decide) rfl) kk
theorem lm12 {i : Int32} (j : Nat) (e : i = nI j) (hj : j < 200) (hd : decode F.2.1.2.1 pc = .ok (.iaload, 1)) (kk : xV F (pc + 1) L (.int (m.1 12 j) :: st) NT (hp x m) ce sl) : xV F pc L (.int i :: .ref (MB + 10) :: st) NT (hp x m) ce sl := by
  obtain ⟨h1, h2⟩ := vp_nI e hj (by decide)
  refine x_iald (mb_lt (by decide)) (hp_m x m 10) h1 hd ?_
  rw [h2]
  exact kk
theorem sm12 {i v : Int32} (j : Nat) (e : i = nI j) (hj : j < 200) (hd : decode F.2.1.2.1 pc = .ok (.iastore, 1)) (kk : xV F (pc + 1) L st NT (hp x (mset m 12 j v)) ce sl) : xV F pc L (.int v :: .int i :: .ref (MB + 10) :: st) NT (hp x m) ce sl := by
  obtain ⟨h1, h2⟩ := vp_nI e hj (by decide)
  refine x_iast (mb_lt (by decide)) (hp_m x m 10) h1 hd ?_
  rw [h2]
  exact xV.heap (hp_ar 9 (by decide) (by decide) rfl) kk
theorem lm13 {i : Int32} (j : Nat) (e : i = nI j) (hj : j < 200) (hd : decode F.2.1.2.1 pc = .ok (.iaload, 1)) (kk : xV F (pc + 1) L (.int (m.1 13 j) :: st) NT (hp x m) ce sl) : xV F pc L (.int i :: .ref (MB + 11) :: st) NT (hp x m) ce sl := by
  obtain ⟨h1, h2⟩ := vp_nI e hj (by decide)
  refine x_iald (mb_lt (by decide)) (hp_m x m 11) h1 hd ?_
  rw [h2]
  exact kk
theorem sm13 {i v : Int32} (j : Nat) (e : i = nI j) (hj : j < 200) (hd : decode F.2.1.2.1 pc = .ok (.iastore, 1)) (kk : xV F (pc + 1) L st NT (hp x (mset m 13 j v)) ce sl) : xV F pc L (.int v :: .int i :: .ref (MB + 11) :: st) NT (hp x m) ce sl := by
  obtain ⟨h1, h2⟩ := vp_nI e hj (by decide)
  refine x_iast (mb_lt (by decide)) (hp_m x m 11) h1 hd ?_
  rw [h2]
  exact xV.heap (hp_ar 10 (by decide) (by decide) rfl) kk
theorem lm14 {i : Int32} (j : Nat) (e : i = nI j) (hj : j < 200) (hd : decode F.2.1.2.1 pc = .ok (.iaload, 1)) (kk : xV F (pc + 1) L (.int (m.1 14 j) :: st) NT (hp x m) ce sl) : xV F pc L (.int i :: .ref (MB + 12) :: st) NT (hp x m) ce sl := by
  obtain ⟨h1, h2⟩ := vp_nI e hj (by decide)
  refine x_iald (mb_lt (by decide)) (hp_m x m 12) h1 hd ?_
  rw [h2]
  exact kk
theorem sm14 {i v : Int32} (j : Nat) (e : i = nI j) (hj : j < 200) (hd : decode F.2.1.2.1 pc = .ok (.iastore, 1)) (kk : xV F (pc + 1) L st NT (hp x (mset m 14 j v)) ce sl) : xV F pc L (.int v :: .int i :: .ref (MB + 12) :: st) NT (hp x m) ce sl := by
  obtain ⟨h1, h2⟩ := vp_nI e hj (by decide)
  refine x_iast (mb_lt (by decide)) (hp_m x m 12) h1 hd ?_
  rw [h2]
  exact xV.heap (hp_ar 11 (by decide) (by decide) rfl) kk
theorem lm15 {i : Int32} (j : Nat) (e : i = nI j) (hj : j < 200) (hd : decode F.2.1.2.1 pc = .ok (.baload, 1)) (kk : xV F (pc + 1) L (.int (m.1 15 j) :: st) NT (hp x m) ce sl) : xV F pc L (.int i :: .ref (MB + 13) :: st) NT (hp x m) ce sl := by
  obtain ⟨h1, h2⟩ := vp_nI e hj (by decide)
  refine x_zald (mb_lt (by decide)) (hp_m x m 13) h1 hd ?_
  rw [h2]
  exact kk
theorem sm15 {i v : Int32} (j : Nat) (e : i = nI j) (hj : j < 200) (hv : v = 0 ∨ v = 1) (hd : decode F.2.1.2.1 pc = .ok (.bastore, 1)) (kk : xV F (pc + 1) L st NT (hp x (mset m 15 j v)) ce sl) : xV F pc L (.int v :: .int i :: .ref (MB + 13) :: st) NT (hp x m) ce sl := by
  obtain ⟨h1, h2⟩ := vp_nI e hj (by decide)
  have hn : vp_nar .boolean v = v := by rcases hv with rfl | rfl <;> decide
  refine x_zast (mb_lt (by decide)) (hp_m x m 13) h1 hd ?_
  rw [h2, hn]
  exact xV.heap (hp_ar 12 (by decide) (by decide) rfl) kk
theorem lm18 {i : Int32} (j : Nat) (e : i = nI j) (hj : j < 14) (hd : decode F.2.1.2.1 pc = .ok (.iaload, 1)) (kk : xV F (pc + 1) L (.int (m.1 18 j) :: st) NT (hp x m) ce sl) : xV F pc L (.int i :: .ref (MB + 14) :: st) NT (hp x m) ce sl := by
  obtain ⟨h1, h2⟩ := vp_nI e hj (by decide)
  refine x_iald (mb_lt (by decide)) (hp_m x m 14) h1 hd ?_
  rw [h2]
  exact kk
theorem sm18 {i v : Int32} (j : Nat) (e : i = nI j) (hj : j < 14) (hd : decode F.2.1.2.1 pc = .ok (.iastore, 1)) (kk : xV F (pc + 1) L st NT (hp x (mset m 18 j v)) ce sl) : xV F pc L (.int v :: .int i :: .ref (MB + 14) :: st) NT (hp x m) ce sl := by
  obtain ⟨h1, h2⟩ := vp_nI e hj (by decide)
  refine x_iast (mb_lt (by decide)) (hp_m x m 14) h1 hd ?_
  rw [h2]
  exact xV.heap (hp_ar 13 (by decide) (by decide) rfl) kk
theorem lm19 {i : Int32} (j : Nat) (e : i = nI j) (hj : j < 14) (hd : decode F.2.1.2.1 pc = .ok (.iaload, 1)) (kk : xV F (pc + 1) L (.int (m.1 19 j) :: st) NT (hp x m) ce sl) : xV F pc L (.int i :: .ref (MB + 15) :: st) NT (hp x m) ce sl := by
  obtain ⟨h1, h2⟩ := vp_nI e hj (by decide)
  refine x_iald (mb_lt (by decide)) (hp_m x m 15) h1 hd ?_
  rw [h2]
  exact kk
theorem sm19 {i v : Int32} (j : Nat) (e : i = nI j) (hj : j < 14) (hd : decode F.2.1.2.1 pc = .ok (.iastore, 1)) (kk : xV F (pc + 1) L st NT (hp x (mset m 19 j v)) ce sl) : xV F pc L (.int v :: .int i :: .ref (MB + 15) :: st) NT (hp x m) ce sl := by
  obtain ⟨h1, h2⟩ := vp_nI e hj (by decide)
  refine x_iast (mb_lt (by decide)) (hp_m x m 15) h1 hd ?_
  rw [h2]
  exact xV.heap (hp_ar 14 (by decide) (by decide) rfl) kk
theorem lm22 {i : Int32} (j : Nat) (e : i = nI j) (hj : j < 196) (hd : decode F.2.1.2.1 pc = .ok (.iaload, 1)) (kk : xV F (pc + 1) L (.int (m.1 22 j) :: st) NT (hp x m) ce sl) : xV F pc L (.int i :: .ref (MB + 16) :: st) NT (hp x m) ce sl := by
  obtain ⟨h1, h2⟩ := vp_nI e hj (by decide)
  refine x_iald (mb_lt (by decide)) (hp_m x m 16) h1 hd ?_
  rw [h2]
  exact kk
theorem sm22 {i v : Int32} (j : Nat) (e : i = nI j) (hj : j < 196) (hd : decode F.2.1.2.1 pc = .ok (.iastore, 1)) (kk : xV F (pc + 1) L st NT (hp x (mset m 22 j v)) ce sl) : xV F pc L (.int v :: .int i :: .ref (MB + 16) :: st) NT (hp x m) ce sl := by
  obtain ⟨h1, h2⟩ := vp_nI e hj (by decide)
  refine x_iast (mb_lt (by decide)) (hp_m x m 16) h1 hd ?_
  rw [h2]
  exact xV.heap (hp_ar 15 (by decide) (by decide) rfl) kk
theorem lm23 {i : Int32} (j : Nat) (e : i = nI j) (hj : j < 245760) (hd : decode F.2.1.2.1 pc = .ok (.iaload, 1)) (kk : xV F (pc + 1) L (.int (m.1 23 j) :: st) NT (hp x m) ce sl) : xV F pc L (.int i :: .ref (MB + 17) :: st) NT (hp x m) ce sl := by
  obtain ⟨h1, h2⟩ := vp_nI e hj (by decide)
  refine x_iald (mb_lt (by decide)) (hp_m x m 17) h1 hd ?_
  rw [h2]
  exact kk
theorem sm23 {i v : Int32} (j : Nat) (e : i = nI j) (hj : j < 245760) (hd : decode F.2.1.2.1 pc = .ok (.iastore, 1)) (kk : xV F (pc + 1) L st NT (hp x (mset m 23 j v)) ce sl) : xV F pc L (.int v :: .int i :: .ref (MB + 17) :: st) NT (hp x m) ce sl := by
  obtain ⟨h1, h2⟩ := vp_nI e hj (by decide)
  refine x_iast (mb_lt (by decide)) (hp_m x m 17) h1 hd ?_
  rw [h2]
  exact xV.heap (hp_ar 16 (by decide) (by decide) rfl) kk
theorem lm24 {i : Int32} (j : Nat) (e : i = nI j) (hj : j < 14) (hd : decode F.2.1.2.1 pc = .ok (.iaload, 1)) (kk : xV F (pc + 1) L (.int (m.1 24 j) :: st) NT (hp x m) ce sl) : xV F pc L (.int i :: .ref (MB + 18) :: st) NT (hp x m) ce sl := by
  obtain ⟨h1, h2⟩ := vp_nI e hj (by decide)
  refine x_iald (mb_lt (by decide)) (hp_m x m 18) h1 hd ?_
  rw [h2]
  exact kk
theorem sm24 {i v : Int32} (j : Nat) (e : i = nI j) (hj : j < 14) (hd : decode F.2.1.2.1 pc = .ok (.iastore, 1)) (kk : xV F (pc + 1) L st NT (hp x (mset m 24 j v)) ce sl) : xV F pc L (.int v :: .int i :: .ref (MB + 18) :: st) NT (hp x m) ce sl := by
  obtain ⟨h1, h2⟩ := vp_nI e hj (by decide)
  refine x_iast (mb_lt (by decide)) (hp_m x m 18) h1 hd ?_
  rw [h2]
  exact xV.heap (hp_ar 17 (by decide) (by decide) rfl) kk
theorem lm26 {i : Int32} (j : Nat) (e : i = nI j) (hj : j < 14) (hd : decode F.2.1.2.1 pc = .ok (.baload, 1)) (kk : xV F (pc + 1) L (.int (m.1 26 j) :: st) NT (hp x m) ce sl) : xV F pc L (.int i :: .ref (MB + 19) :: st) NT (hp x m) ce sl := by
  obtain ⟨h1, h2⟩ := vp_nI e hj (by decide)
  refine x_zald (mb_lt (by decide)) (hp_m x m 19) h1 hd ?_
  rw [h2]
  exact kk
theorem sm26 {i v : Int32} (j : Nat) (e : i = nI j) (hj : j < 14) (hv : v = 0 ∨ v = 1) (hd : decode F.2.1.2.1 pc = .ok (.bastore, 1)) (kk : xV F (pc + 1) L st NT (hp x (mset m 26 j v)) ce sl) : xV F pc L (.int v :: .int i :: .ref (MB + 19) :: st) NT (hp x m) ce sl := by
  obtain ⟨h1, h2⟩ := vp_nI e hj (by decide)
  have hn : vp_nar .boolean v = v := by rcases hv with rfl | rfl <;> decide
  refine x_zast (mb_lt (by decide)) (hp_m x m 19) h1 hd ?_
  rw [h2, hn]
  exact xV.heap (hp_ar 18 (by decide) (by decide) rfl) kk
theorem lm29 {i : Int32} (j : Nat) (e : i = nI j) (hj : j < 14) (hd : decode F.2.1.2.1 pc = .ok (.iaload, 1)) (kk : xV F (pc + 1) L (.int (m.1 29 j) :: st) NT (hp x m) ce sl) : xV F pc L (.int i :: .ref (MB + 20) :: st) NT (hp x m) ce sl := by
  obtain ⟨h1, h2⟩ := vp_nI e hj (by decide)
  refine x_iald (mb_lt (by decide)) (hp_m x m 20) h1 hd ?_
  rw [h2]
  exact kk
theorem sm29 {i v : Int32} (j : Nat) (e : i = nI j) (hj : j < 14) (hd : decode F.2.1.2.1 pc = .ok (.iastore, 1)) (kk : xV F (pc + 1) L st NT (hp x (mset m 29 j v)) ce sl) : xV F pc L (.int v :: .int i :: .ref (MB + 20) :: st) NT (hp x m) ce sl := by
  obtain ⟨h1, h2⟩ := vp_nI e hj (by decide)
  refine x_iast (mb_lt (by decide)) (hp_m x m 20) h1 hd ?_
  rw [h2]
  exact xV.heap (hp_ar 19 (by decide) (by decide) rfl) kk
theorem lm33 {i : Int32} (j : Nat) (e : i = nI j) (hj : j < 5000) (hd : decode F.2.1.2.1 pc = .ok (.iaload, 1)) (kk : xV F (pc + 1) L (.int (m.1 33 j) :: st) NT (hp x m) ce sl) : xV F pc L (.int i :: .ref (MB + 21) :: st) NT (hp x m) ce sl := by
  obtain ⟨h1, h2⟩ := vp_nI e hj (by decide)
  refine x_iald (mb_lt (by decide)) (hp_m x m 21) h1 hd ?_
  rw [h2]
  exact kk
theorem sm33 {i v : Int32} (j : Nat) (e : i = nI j) (hj : j < 5000) (hd : decode F.2.1.2.1 pc = .ok (.iastore, 1)) (kk : xV F (pc + 1) L st NT (hp x (mset m 33 j v)) ce sl) : xV F pc L (.int v :: .int i :: .ref (MB + 21) :: st) NT (hp x m) ce sl := by
  obtain ⟨h1, h2⟩ := vp_nI e hj (by decide)
  refine x_iast (mb_lt (by decide)) (hp_m x m 21) h1 hd ?_
  rw [h2]
  exact xV.heap (hp_ar 20 (by decide) (by decide) rfl) kk
theorem lm34 {i : Int32} (j : Nat) (e : i = nI j) (hj : j < 20000) (hd : decode F.2.1.2.1 pc = .ok (.iaload, 1)) (kk : xV F (pc + 1) L (.int (m.1 34 j) :: st) NT (hp x m) ce sl) : xV F pc L (.int i :: .ref (MB + 22) :: st) NT (hp x m) ce sl := by
  obtain ⟨h1, h2⟩ := vp_nI e hj (by decide)
  refine x_iald (mb_lt (by decide)) (hp_m x m 22) h1 hd ?_
  rw [h2]
  exact kk
theorem sm34 {i v : Int32} (j : Nat) (e : i = nI j) (hj : j < 20000) (hd : decode F.2.1.2.1 pc = .ok (.iastore, 1)) (kk : xV F (pc + 1) L st NT (hp x (mset m 34 j v)) ce sl) : xV F pc L (.int v :: .int i :: .ref (MB + 22) :: st) NT (hp x m) ce sl := by
  obtain ⟨h1, h2⟩ := vp_nI e hj (by decide)
  refine x_iast (mb_lt (by decide)) (hp_m x m 22) h1 hd ?_
  rw [h2]
  exact xV.heap (hp_ar 21 (by decide) (by decide) rfl) kk
theorem lm36 {i : Int32} (j : Nat) (e : i = nI j) (hj : j < 4) (hd : decode F.2.1.2.1 pc = .ok (.iaload, 1)) (kk : xV F (pc + 1) L (.int (m.1 36 j) :: st) NT (hp x m) ce sl) : xV F pc L (.int i :: .ref (MB + 23) :: st) NT (hp x m) ce sl := by
  obtain ⟨h1, h2⟩ := vp_nI e hj (by decide)
  refine x_iald (mb_lt (by decide)) (hp_m x m 23) h1 hd ?_
  rw [h2]
  exact kk
theorem sm36 {i v : Int32} (j : Nat) (e : i = nI j) (hj : j < 4) (hd : decode F.2.1.2.1 pc = .ok (.iastore, 1)) (kk : xV F (pc + 1) L st NT (hp x (mset m 36 j v)) ce sl) : xV F pc L (.int v :: .int i :: .ref (MB + 23) :: st) NT (hp x m) ce sl := by
  obtain ⟨h1, h2⟩ := vp_nI e hj (by decide)
  refine x_iast (mb_lt (by decide)) (hp_m x m 23) h1 hd ?_
  rw [h2]
  exact xV.heap (hp_ar 22 (by decide) (by decide) rfl) kk
theorem lm37 {i : Int32} (j : Nat) (e : i = nI j) (hj : j < 18) (hd : decode F.2.1.2.1 pc = .ok (.iaload, 1)) (kk : xV F (pc + 1) L (.int (m.1 37 j) :: st) NT (hp x m) ce sl) : xV F pc L (.int i :: .ref (MB + 24) :: st) NT (hp x m) ce sl := by
  obtain ⟨h1, h2⟩ := vp_nI e hj (by decide)
  refine x_iald (mb_lt (by decide)) (hp_m x m 24) h1 hd ?_
  rw [h2]
  exact kk
theorem sm37 {i v : Int32} (j : Nat) (e : i = nI j) (hj : j < 18) (hd : decode F.2.1.2.1 pc = .ok (.iastore, 1)) (kk : xV F (pc + 1) L st NT (hp x (mset m 37 j v)) ce sl) : xV F pc L (.int v :: .int i :: .ref (MB + 24) :: st) NT (hp x m) ce sl := by
  obtain ⟨h1, h2⟩ := vp_nI e hj (by decide)
  refine x_iast (mb_lt (by decide)) (hp_m x m 24) h1 hd ?_
  rw [h2]
  exact xV.heap (hp_ar 23 (by decide) (by decide) rfl) kk
theorem lm38 {i : Int32} (j : Nat) (e : i = nI j) (hj : j < 18) (hd : decode F.2.1.2.1 pc = .ok (.iaload, 1)) (kk : xV F (pc + 1) L (.int (m.1 38 j) :: st) NT (hp x m) ce sl) : xV F pc L (.int i :: .ref (MB + 25) :: st) NT (hp x m) ce sl := by
  obtain ⟨h1, h2⟩ := vp_nI e hj (by decide)
  refine x_iald (mb_lt (by decide)) (hp_m x m 25) h1 hd ?_
  rw [h2]
  exact kk
theorem sm38 {i v : Int32} (j : Nat) (e : i = nI j) (hj : j < 18) (hd : decode F.2.1.2.1 pc = .ok (.iastore, 1)) (kk : xV F (pc + 1) L st NT (hp x (mset m 38 j v)) ce sl) : xV F pc L (.int v :: .int i :: .ref (MB + 25) :: st) NT (hp x m) ce sl := by
  obtain ⟨h1, h2⟩ := vp_nI e hj (by decide)
  refine x_iast (mb_lt (by decide)) (hp_m x m 25) h1 hd ?_
  rw [h2]
  exact xV.heap (hp_ar 24 (by decide) (by decide) rfl) kk
theorem lm39 {i : Int32} (j : Nat) (e : i = nI j) (hj : j < 18) (hd : decode F.2.1.2.1 pc = .ok (.laload, 1)) (kk : xV F (pc + 1) L (.long (m.2 j) :: st) NT (hp x m) ce sl) : xV F pc L (.int i :: .ref (MB + 26) :: st) NT (hp x m) ce sl := by
  obtain ⟨h1, h2⟩ := vp_nI e hj (by decide)
  refine x_lald (mb_lt (by decide)) (hp_m x m 26) h1 hd ?_
  rw [h2]
  exact kk
theorem sm39 {i : Int32} {v : Int64} (j : Nat) (e : i = nI j) (hj : j < 18) (hd : decode F.2.1.2.1 pc = .ok (.lastore, 1)) (kk : xV F (pc + 1) L st NT (hp x (msetL m j v)) ce sl) : xV F pc L (.long v :: .int i :: .ref (MB + 26) :: st) NT (hp x m) ce sl := by
  obtain ⟨h1, h2⟩ := vp_nI e hj (by decide)
  refine x_last (mb_lt (by decide)) (hp_m x m 26) h1 hd ?_
  rw [h2]
  exact xV.heap hp_lo kk
theorem lm40 {i : Int32} (j : Nat) (e : i = nI j) (hj : j < 18) (hd : decode F.2.1.2.1 pc = .ok (.iaload, 1)) (kk : xV F (pc + 1) L (.int (m.1 40 j) :: st) NT (hp x m) ce sl) : xV F pc L (.int i :: .ref (MB + 27) :: st) NT (hp x m) ce sl := by
  obtain ⟨h1, h2⟩ := vp_nI e hj (by decide)
  refine x_iald (mb_lt (by decide)) (hp_m x m 27) h1 hd ?_
  rw [h2]
  exact kk
theorem sm40 {i v : Int32} (j : Nat) (e : i = nI j) (hj : j < 18) (hd : decode F.2.1.2.1 pc = .ok (.iastore, 1)) (kk : xV F (pc + 1) L st NT (hp x (mset m 40 j v)) ce sl) : xV F pc L (.int v :: .int i :: .ref (MB + 27) :: st) NT (hp x m) ce sl := by
  obtain ⟨h1, h2⟩ := vp_nI e hj (by decide)
  refine x_iast (mb_lt (by decide)) (hp_m x m 27) h1 hd ?_
  rw [h2]
  exact xV.heap (hp_ar 26 (by decide) (by decide) rfl) kk
theorem lm41 {i : Int32} (j : Nat) (e : i = nI j) (hj : j < 18) (hd : decode F.2.1.2.1 pc = .ok (.iaload, 1)) (kk : xV F (pc + 1) L (.int (m.1 41 j) :: st) NT (hp x m) ce sl) : xV F pc L (.int i :: .ref (MB + 28) :: st) NT (hp x m) ce sl := by
  obtain ⟨h1, h2⟩ := vp_nI e hj (by decide)
  refine x_iald (mb_lt (by decide)) (hp_m x m 28) h1 hd ?_
  rw [h2]
  exact kk
theorem sm41 {i v : Int32} (j : Nat) (e : i = nI j) (hj : j < 18) (hd : decode F.2.1.2.1 pc = .ok (.iastore, 1)) (kk : xV F (pc + 1) L st NT (hp x (mset m 41 j v)) ce sl) : xV F pc L (.int v :: .int i :: .ref (MB + 28) :: st) NT (hp x m) ce sl := by
  obtain ⟨h1, h2⟩ := vp_nI e hj (by decide)
  refine x_iast (mb_lt (by decide)) (hp_m x m 28) h1 hd ?_
  rw [h2]
  exact xV.heap (hp_ar 27 (by decide) (by decide) rfl) kk
theorem lm43 {i : Int32} (j : Nat) (e : i = nI j) (hj : j < 60) (hd : decode F.2.1.2.1 pc = .ok (.iaload, 1)) (kk : xV F (pc + 1) L (.int (m.1 43 j) :: st) NT (hp x m) ce sl) : xV F pc L (.int i :: .ref (MB + 29) :: st) NT (hp x m) ce sl := by
  obtain ⟨h1, h2⟩ := vp_nI e hj (by decide)
  refine x_iald (mb_lt (by decide)) (hp_m x m 29) h1 hd ?_
  rw [h2]
  exact kk
theorem sm43 {i v : Int32} (j : Nat) (e : i = nI j) (hj : j < 60) (hd : decode F.2.1.2.1 pc = .ok (.iastore, 1)) (kk : xV F (pc + 1) L st NT (hp x (mset m 43 j v)) ce sl) : xV F pc L (.int v :: .int i :: .ref (MB + 29) :: st) NT (hp x m) ce sl := by
  obtain ⟨h1, h2⟩ := vp_nI e hj (by decide)
  refine x_iast (mb_lt (by decide)) (hp_m x m 29) h1 hd ?_
  rw [h2]
  exact xV.heap (hp_ar 28 (by decide) (by decide) rfl) kk
theorem lm44 {i : Int32} (j : Nat) (e : i = nI j) (hj : j < 60) (hd : decode F.2.1.2.1 pc = .ok (.iaload, 1)) (kk : xV F (pc + 1) L (.int (m.1 44 j) :: st) NT (hp x m) ce sl) : xV F pc L (.int i :: .ref (MB + 30) :: st) NT (hp x m) ce sl := by
  obtain ⟨h1, h2⟩ := vp_nI e hj (by decide)
  refine x_iald (mb_lt (by decide)) (hp_m x m 30) h1 hd ?_
  rw [h2]
  exact kk
theorem sm44 {i v : Int32} (j : Nat) (e : i = nI j) (hj : j < 60) (hd : decode F.2.1.2.1 pc = .ok (.iastore, 1)) (kk : xV F (pc + 1) L st NT (hp x (mset m 44 j v)) ce sl) : xV F pc L (.int v :: .int i :: .ref (MB + 30) :: st) NT (hp x m) ce sl := by
  obtain ⟨h1, h2⟩ := vp_nI e hj (by decide)
  refine x_iast (mb_lt (by decide)) (hp_m x m 30) h1 hd ?_
  rw [h2]
  exact xV.heap (hp_ar 29 (by decide) (by decide) rfl) kk
theorem lm45 {i : Int32} (j : Nat) (e : i = nI j) (hj : j < 60) (hd : decode F.2.1.2.1 pc = .ok (.iaload, 1)) (kk : xV F (pc + 1) L (.int (m.1 45 j) :: st) NT (hp x m) ce sl) : xV F pc L (.int i :: .ref (MB + 31) :: st) NT (hp x m) ce sl := by
  obtain ⟨h1, h2⟩ := vp_nI e hj (by decide)
  refine x_iald (mb_lt (by decide)) (hp_m x m 31) h1 hd ?_
  rw [h2]
  exact kk
theorem sm45 {i v : Int32} (j : Nat) (e : i = nI j) (hj : j < 60) (hd : decode F.2.1.2.1 pc = .ok (.iastore, 1)) (kk : xV F (pc + 1) L st NT (hp x (mset m 45 j v)) ce sl) : xV F pc L (.int v :: .int i :: .ref (MB + 31) :: st) NT (hp x m) ce sl := by
  obtain ⟨h1, h2⟩ := vp_nI e hj (by decide)
  refine x_iast (mb_lt (by decide)) (hp_m x m 31) h1 hd ?_
  rw [h2]
  exact xV.heap (hp_ar 30 (by decide) (by decide) rfl) kk
end XMODEL
