/-! ===== shifts and masks over nI ===== -/
theorem sh_k : ∀ n, n < 32 → ((nI n &&& 31).toBitVec.smod 32).toNat = n := by decide +kernel
theorem sh_l {a j : Nat} (hj : j < 32) (h : a * 2 ^ j < 2 ^ 32) : nI a <<< (nI j &&& 31) = nI (a * 2 ^ j) := pk_shlN _ j (sh_k j hj) h
theorem sh_1 {j : Nat} (hj : j < 31) : nI 1 <<< (nI j &&& 31) = nI (2 ^ j) := by
  rw [sh_l (by omega), Nat.one_mul]
  rw [Nat.one_mul]
  exact Nat.pow_lt_pow_right (by decide) (by omega)
theorem sh_14 {a : Nat} (h : a < 262144) : nI a <<< (nI 14 &&& 31) = nI (16384 * a) := by
  rw [sh_l (by decide) (by omega), Nat.mul_comm]
theorem sh_r {a j : Nat} (ha : a < 2147483648) (hj : j < 32) : nI a >>> (nI j &&& 31) = nI (a / 2 ^ j) := pk_shrN (by omega) _ j (sh_k j hj)
theorem an_1 {a : Nat} (ha : a < 4294967296) : nI a &&& nI 1 = nI (a % 2) := pk_andN (by omega) 1 (by decide)
theorem bit_n {a j : Nat} (ha : a < 2147483648) (hj : j < 32) : (nI a >>> (nI j &&& 31)) &&& nI 1 = nI (a / 2 ^ j % 2) := by
  rw [sh_r ha hj, an_1]
  exact Nat.lt_of_le_of_lt (Nat.div_le_self _ _) (by omega)
theorem or_lt {a j T : Nat} (ha : a < 2 ^ T) (hj : j < T) : a ||| 2 ^ j < 2 ^ T := Nat.or_lt_two_pow ha (Nat.pow_lt_pow_right (by decide) hj)
theorem pw_14 {T : Nat} (h : T ≤ 14) : 2 ^ T ≤ 16384 := Nat.pow_le_pow_right (n := 2) (by decide) h
theorem dec_1 (a : Nat) : nI a + Int32.ofInt (-1) = nI a - nI 1 := by
  rw [Int32.sub_eq_add_neg]
  rfl
/-- a place that counts down: v = nI t - 1 -/
theorem dn_f {t : Nat} {v : Int32} (ht : t < 2147483648) (e : v = nI t - nI 1) (h : ¬ v < 0) : ∃ i, t = i + 1 ∧ v = nI i := by
  cases t with
  | zero =>
    exfalso
    apply h
    rw [e]
    decide
  | succ i => exact ⟨i, rfl, by rw [e]; exact nI_pred i⟩
theorem dn_t {t : Nat} {v : Int32} (ht : t < 2147483648) (e : v = nI t - nI 1) (h : v < 0) : t = 0 := by
  cases t with
  | zero => rfl
  | succ i =>
    exfalso
    have e2 : v = nI i := by rw [e]; exact nI_pred i
    rw [e2] at h
    exact nI_pos (by omega) h
