/-! ===== whole numbers: zI z, zL z ===== -/
def zI (z : Int) : Int32 := Int32.ofInt z
def zL (z : Int) : Int64 := Int64.ofInt z
theorem zI_of (v : Int32) : v = zI v.toInt := (Int32.ofInt_toInt v).symm
theorem zL_of (v : Int64) : v = zL v.toInt := (Int64.ofInt_toInt v).symm
theorem zI_add (a b : Int) : zI a + zI b = zI (a + b) := (Int32.ofInt_add a b).symm
theorem zL_add (a b : Int) : zL a + zL b = zL (a + b) := (Int64.ofInt_add a b).symm
theorem zI_neg (a : Int) : -zI a = zI (-a) := (Int32.ofInt_neg a).symm
theorem zL_neg (a : Int) : -zL a = zL (-a) := (Int64.ofInt_neg a).symm
theorem zI_sub (a b : Int) : zI a - zI b = zI (a - b) := (Int32.ofInt_sub a b).symm
theorem zL_sub (a b : Int) : zL a - zL b = zL (a - b) := (Int64.ofInt_sub a b).symm
theorem zI_mul (a b : Int) : zI a * zI b = zI (a * b) := (Int32.ofInt_mul a b).symm
theorem zI_T {z : Int} (h1 : -2147483648 ≤ z) (h2 : z < 2147483648) : (zI z).toInt = z := fb_ofI h1 h2
theorem zL_T {z : Int} (h1 : -9223372036854775808 ≤ z) (h2 : z < 9223372036854775808) : (zL z).toInt = z := by
  unfold zL
  rw [Int64.toInt_ofInt]
  exact fb_bmodL h1 h2
theorem zI_n (n : Nat) : zI (n : Int) = nI n := rfl
theorem toL (v : Int32) : v.toInt64 = zL v.toInt := by
  apply Int64.toInt_inj.mp
  rw [Int32.toInt_toInt64, zL_T]
  · have := fb_rng v; omega
  · have := fb_rng v; omega
theorem zI_L {z : Int} (h1 : -2147483648 ≤ z) (h2 : z < 2147483648) : (zI z).toInt64 = zL z := by rw [toL, zI_T h1 h2]
theorem zL_I {z : Int} (h1 : -2147483648 ≤ z) (h2 : z < 2147483648) : (zL z).toInt32 = zI z := by
  apply Int32.toInt_inj.mp
  rw [Int64.toInt_toInt32, zL_T (by omega) (by omega), zI_T h1 h2]
  exact fb_bmod h1 h2
theorem zI_inj {a b : Int} (h1 : -2147483648 ≤ a) (h2 : a < 2147483648) (h3 : -2147483648 ≤ b) (h4 : b < 2147483648) (h : zI a = zI b) : a = b := by
  have := congrArg Int32.toInt h
  rwa [zI_T h1 h2, zI_T h3 h4] at this
theorem zL_inj {a b : Int} (h1 : -9223372036854775808 ≤ a) (h2 : a < 9223372036854775808) (h3 : -9223372036854775808 ≤ b) (h4 : b < 9223372036854775808) (h : zL a = zL b) : a = b := by
  have := congrArg Int64.toInt h
  rwa [zL_T h1 h2, zL_T h3 h4] at this
theorem zL_0 : zL 0 = 0 := by decide
theorem zI_0 : zI 0 = 0 := by decide
theorem zL_1 : zL 1 = 1 := by decide
/-- lcmp of two longs, against 0 -/
theorem lc_eq (a b : Int64) : lg_cmp a b = 0 ↔ a = b := by
  unfold lg_cmp
  by_cases h1 : b < a
  · rw [if_pos h1]
    refine ⟨fun h => absurd h (by decide), fun h => ?_⟩
    subst h
    exact absurd h1 Int64.lt_irrefl
  · rw [if_neg h1]
    by_cases h2 : a = b
    · simp [h2]
    · rw [if_neg h2]
      exact ⟨fun h => absurd h (by decide), fun h => absurd h h2⟩
theorem negL {v : Int32} (h : v.toInt ≠ -2147483648) : (-v).toInt64 = zL (-v.toInt) := by
  have h2 := fb_rng v
  rw [toL, fb_negI h]
theorem nI_m1 {p : Nat} (h : 0 < p) : nI p + Int32.ofInt (-1) = nI (p - 1) := by
  obtain ⟨q, rfl⟩ : ∃ q, p = q + 1 := ⟨p - 1, by omega⟩
  exact pk_m1 q
