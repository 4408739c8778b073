/-! ===== truth values, and numbers by toInt ===== -/
def bI (c : Prop) [Decidable c] : Int32 := if c then 1 else 0
theorem bI_t {c : Prop} [Decidable c] (h : c) : bI c = 1 := if_pos h
theorem bI_f {c : Prop} [Decidable c] (h : ¬ c) : bI c = 0 := if_neg h
theorem bI_0 {c : Prop} [Decidable c] : bI c = 0 ↔ ¬ c := by
  unfold bI
  by_cases h : c <;> simp [h]
theorem bI_n0 {c : Prop} [Decidable c] : ¬ bI c = 0 ↔ c := by
  unfold bI
  by_cases h : c <;> simp [h]
theorem bI_1 {c : Prop} [Decidable c] : bI c = 1 ↔ c := by
  unfold bI
  by_cases h : c <;> simp [h]
theorem bI_01 (c : Prop) [Decidable c] : bI c = 0 ∨ bI c = 1 := by
  unfold bI
  by_cases h : c <;> simp [h]
theorem bI_iff {c d : Prop} [Decidable c] [Decidable d] (h : c ↔ d) : bI c = bI d := by
  unfold bI
  simp [h]
theorem nI0 : nI 0 = 0 := nI_0
theorem nI1 : nI 1 = 1 := by decide
theorem nI_T (n : Nat) (h : n < 2147483648) : (nI n).toInt = (n : Int) := nI_toInt (by omega)
theorem iLT {a b : Int32} : a < b ↔ a.toInt < b.toInt := Int32.lt_iff_toInt_lt
theorem iLE {a b : Int32} : a ≤ b ↔ a.toInt ≤ b.toInt := Int32.le_iff_toInt_le
theorem iEQ {a b : Int32} : a = b ↔ a.toInt = b.toInt := Int32.toInt_inj.symm
theorem iNL {a b : Int32} : ¬ a < b ↔ b ≤ a := Int32.not_lt
theorem iNE {a b : Int32} : ¬ a ≤ b ↔ b < a := Int32.not_le
/-- a number between two others, as a Nat -/
theorem w_nat {v : Int32} {n : Nat} (h : nI 0 ≤ v ∧ v ≤ nI n) (hn : n < 2147483648) : ∃ j, j ≤ n ∧ v = nI j := by
  have h0 : ¬ v < 0 := by
    rw [iNL, ← nI_0]
    exact h.1
  exact nI_of2 (nI_T n hn) h0 h.2
theorem w_of {j n : Nat} (h : j ≤ n) (hn : n < 2147483648) : nI 0 ≤ nI j ∧ nI j ≤ nI n := ⟨nI_le (Nat.zero_le _) (by omega), nI_le h (by omega)⟩
theorem w_iff {v : Int32} {n : Nat} (hn : n < 2147483648) : (nI 0 ≤ v ∧ v ≤ nI n) ↔ ∃ j, j ≤ n ∧ v = nI j := ⟨fun h => w_nat h hn, fun ⟨j, h1, h2⟩ => by rw [h2]; exact w_of h1 hn⟩
/-- the Nat that a number tells -/
def nv (v : Int32) : Nat := v.toNatClampNeg
theorem nv_nI {n : Nat} (h : n < 2147483648) : nv (nI n) = n := nI_clamp (by omega)
theorem nv_of {v : Int32} (h : ¬ v < 0) : v = nI (nv v) := by
  obtain ⟨j, hj, rfl⟩ := nI_of h
  rw [nv_nI (by omega)]
theorem nI_inj {a b : Nat} (ha : a < 2147483648) (hb : b < 2147483648) (h : nI a = nI b) : a = b := (nI_eq (by omega) (by omega)).mp h
section XB
variable {F : vx_F} {pc : Nat} {L : List (Option Value)} {st : List Value} {n : Nat} {h : vx_H} {ce sl : Nat}
theorem b_if_eq {c : Prop} [Decidable c] {off : Int} (tgt : Nat) (hd : decode F.2.1.2.1 pc = .ok (.ifCond .eq off, 3)) (ht : (pc : Int) + off = (tgt : Int)) (kt : ¬ c → xV F tgt L st n h ce sl) (kf : c → xV F (pc + 3) L st n h ce sl) : xV F pc L (.int (bI c) :: st) n h ce sl :=
  x_if_eq tgt hd ht (fun q => kt (bI_0.mp q)) (fun q => kf (bI_n0.mp q))
theorem b_if_ne {c : Prop} [Decidable c] {off : Int} (tgt : Nat) (hd : decode F.2.1.2.1 pc = .ok (.ifCond .ne off, 3)) (ht : (pc : Int) + off = (tgt : Int)) (kt : c → xV F tgt L st n h ce sl) (kf : ¬ c → xV F (pc + 3) L st n h ce sl) : xV F pc L (.int (bI c) :: st) n h ce sl :=
  x_if_ne tgt hd ht (fun q => kt (bI_n0.mp q)) (fun q => kf (bI_0.mp q))
end XB
theorem mset_id (m : mS) (k i : Nat) : mset m k i (m.1 k i) = m := by
  unfold mset
  refine Prod.ext (funext fun j => ?_) rfl
  by_cases h : j = k
  · subst h
    simp only [if_true]
    funext q
    unfold upd
    by_cases hq : q = i
    · rw [if_pos hq, hq]
    · rw [if_neg hq]
  · simp only [if_neg h]
