/-! ===== as() answers alike ===== -/
theorem ct_si {p : Nat → Bool} : ∀ n, ((fb_ct p n : Nat) : Int) = fb_si (fun i => if p i = true then 1 else 0) n
  | 0 => rfl
  | n + 1 => by
    rw [fb_ct_succ, fb_si_succ, ← ct_si n]
    cases q : p n with
    | false => simp
    | true => simp
section AS
variable {d m : mS}
theorem aU_bd (hF : iF d) (hL : iL d) {b : Nat} (hb : b < 2) {e : mS} {dy : Int32} (h0 : e.1 0 = d.1 0) : -80000000 ≤ fb_si (aU e b dy) (nL d b) ∧ fb_si (aU e b dy) (nL d b) ≤ 80000000 := by
  have l := (hL b hb).2
  have key : ∀ n, n ≤ nL d b → -1000000 * (n : Int) ≤ fb_si (aU e b dy) n ∧ fb_si (aU e b dy) n ≤ 1000000 * (n : Int) := by
    intro n
    induction n with
    | zero => intro _; exact ⟨Int.le_refl _, Int.le_refl _⟩
    | succ n ih =>
      intro hn
      have h1 := ih (by omega)
      have f := (hF b hb n (by omega)).1
      have e2 : aU e b dy n = 0 ∨ aU e b dy n = (d.1 0 (80 * b + n)).toInt := by
        unfold aU
        rw [h0]
        split
        · exact Or.inr rfl
        · exact Or.inl rfl
      rw [fb_si_succ]
      omega
  have := key (nL d b) (Nat.le_refl _)
  omega
theorem as_own (hL : iL d) (hG : iG d) (hM : iMs d) (hF : iF d) (dy w : Int32) : asD d dy w = asV d dy w := by
  have l0 := (hL 0 (by decide)).2
  have l1 := (hL 1 (by decide)).2
  have l16 := hG.2
  unfold asD asV
  by_cases ok : okAs d dy w
  · rw [if_pos ok, if_pos ok]
    have u0 : ∀ i, i < nL d 0 → (uhD (cgD d dy (nG d)) dy i ↔ unh d dy i) := fun i hi => by
      have := uh_iff (dy := dy) hL hG hM (b := 0) (by decide) hi
      rwa [show 80 * 0 + i = i by omega] at this
    have u1 : ∀ i, i < nL d 1 → (uhD (cgD d dy (nG d)) dy (80 + i) ↔ unh d dy (80 + i)) := fun i hi => uh_iff (dy := dy) hL hG hM (b := 1) (by decide) hi
    have z0 : ∀ i, nL d 0 ≤ i → i < 80 → aT d dy w i = 0 := fun i h1 h2 => if_neg (fun q => by have := (inL_0 (m := d) h2).mp q.1.1; omega)
    have z1 : ∀ i, nL d 1 ≤ i → i < 80 → aT d dy w (80 + i) = 0 := fun i h1 h2 => if_neg (fun q => by have := (inL_1 (m := d) h2).mp q.1.1; omega)
    by_cases w0 : w = 0
    · rw [if_pos w0, if_neg (by rw [w0]; decide)]
      have s := sum_books hL (f := aT d dy w) (g0 := fun i => if cU (cgD d dy (nG d)) 0 dy i = true then 1 else 0) (g1 := fun i => if cU (cgD d dy (nG d)) 1 dy i = true then 1 else 0) (fun i hi => by
        unfold aT cU
        rw [show 80 * 0 + i = i by omega]
        by_cases q : unh d dy i
        · rw [if_pos q, if_pos w0, if_pos (decide_eq_true ((u0 i hi).mpr q))]
        · rw [if_neg q, if_neg (fun z => q ((u0 i hi).mp (of_decide_eq_true z)))]) z0 (fun i hi => by
        unfold aT cU
        show _ = (if decide (uhD (cgD d dy (nG d)) dy (80 + i)) = true then 1 else 0)
        by_cases q : unh d dy (80 + i)
        · rw [if_pos q, if_pos w0, if_pos (decide_eq_true ((u1 i hi).mpr q))]
        · rw [if_neg q, if_neg (fun z => q ((u1 i hi).mp (of_decide_eq_true z)))]) z1
      rw [← ct_si, ← ct_si] at s
      have c0 := fb_ct_le (cU (cgD d dy (nG d)) 0 dy) (nL d 0)
      have c1 := fb_ct_le (cU (cgD d dy (nG d)) 1 dy) (nL d 1)
      rw [s, nI_add, toL, nI_T _ (by omega), Int.natCast_add]
    · rw [if_neg w0]
      by_cases w1 : w = 1
      · rw [if_pos w1, if_neg (by rw [w1]; decide)]
        have s := sum_books hL (f := aT d dy w) (g0 := aU (cgD d dy (nG d)) 0 dy) (g1 := fun i => -aU (cgD d dy (nG d)) 1 dy i) (fun i hi => by
          unfold aT aU
          rw [show 80 * 0 + i = i by omega]
          by_cases q : unh d dy i
          · rw [if_pos q, if_neg w0, if_pos (by omega), if_pos ((u0 i hi).mpr q), cgD_ne d dy (by decide)]
          · rw [if_neg q, if_neg (fun z => q ((u0 i hi).mp z))]) z0 (fun i hi => by
          unfold aT aU
          show _ = -(if uhD (cgD d dy (nG d)) dy (80 + i) then ((cgD d dy (nG d)).1 0 (80 + i)).toInt else 0)
          by_cases q : unh d dy (80 + i)
          · rw [if_pos q, if_neg w0, if_neg (by omega), if_pos ((u1 i hi).mpr q), cgD_ne d dy (by decide)]
          · rw [if_neg q, if_neg (fun z => q ((u1 i hi).mp z))]; rfl) z1
        rw [si_neg] at s
        have b0 := aU_bd (dy := dy) hF hL (b := 0) (by decide) (e := cgD d dy (nG d)) (cgD_ne d dy (by decide) _)
        have b1 := aU_bd (dy := dy) hF hL (b := 1) (by decide) (e := cgD d dy (nG d)) (cgD_ne d dy (by decide) _)
        rw [s, zI_sub, zI_L (by omega) (by omega)]
        rfl
      · have w2 : w = nI 2 := by
          have z := (nv_w (a := 0) (n := 2) (by decide) ok.2).resolve_right (by decide)
          rcases (show nv w = 0 ∨ nv w = 1 ∨ nv w = 2 by omega) with q | q | q
          · rw [q] at z; exact absurd (z.1.trans nI_0) w0
          · rw [q] at z; exact absurd (z.1.trans nI1) w1
          · rw [q] at z; exact z.1
        rw [if_neg w1, if_pos w2]
        have c := fb_ct_le (wsB d dy) (nG d)
        rw [toL, nI_T _ (by omega)]
  · rw [if_neg ok, if_neg ok]
end AS
