/-! ===== holders ===== -/
def hcN (d : mS) (dy : Int32) (a : Nat) : Nat → Nat
  | 0 => 0
  | g + 1 => hcN d dy a g + (if was d g dy then fb_ct (atB d g a) (nM d g) else 0)
theorem cg_at {d : mS} {dy : Int32} (hL : iL d) {b i : Nat} (hb : b < 2) (hi : i < nL d b) : ∀ n, (cgD d dy n).1 56 (80 * b + i) = nI (hcN d dy (80 * b + i) n)
  | 0 => ch2_at hL hb hi
  | n + 1 => by
    have ih := cg_at (dy := dy) hL hb hi n
    show (if was d n dy then hlD (cgD d dy n) n (nM d n) else cgD d dy n).1 56 (80 * b + i) = nI (hcN d dy (80 * b + i) n + (if was d n dy then fb_ct (atB d n (80 * b + i)) (nM d n) else 0))
    by_cases q : was d n dy
    · rw [if_pos q, if_pos q, hl_at, ih, nI_add]
      congr 2
      refine fb_ct_cong (fun k _ => ?_)
      unfold atB mb
      rw [cgD_ne d dy (by decide)]
    · rw [if_neg q, if_neg q, ih, Nat.add_zero]
theorem hcN_le {d : mS} {dy : Int32} {a : Nat} (hM : iMs d) : ∀ n, n ≤ nG d → hcN d dy a n ≤ 8 * n
  | 0, _ => Nat.le_refl _
  | n + 1, h => by
    have ih := hcN_le (dy := dy) (a := a) hM n (by omega)
    have m8 := (hM n (by omega)).2.1
    have c := fb_ct_le (atB d n a) (nM d n)
    show hcN d dy a n + (if was d n dy then fb_ct (atB d n a) (nM d n) else 0) ≤ 8 * (n + 1)
    split <;> omega
theorem hcN_0 {d : mS} {dy : Int32} {a : Nat} : ∀ n, hcN d dy a n = 0 ↔ fb_ct (hG_ d dy a) n = 0
  | 0 => ⟨fun _ => rfl, fun _ => rfl⟩
  | n + 1 => by
    have ih := hcN_0 (d := d) (dy := dy) (a := a) n
    show hcN d dy a n + (if was d n dy then fb_ct (atB d n a) (nM d n) else 0) = 0 ↔ fb_ct (hG_ d dy a) n + (if hG_ d dy a n = true then 1 else 0) = 0
    by_cases q : was d n dy ∧ 0 < fb_ct (atB d n a) (nM d n)
    · have e : hG_ d dy a n = true := decide_eq_true q
      rw [if_pos q.1, if_pos e]
      have := q.2
      omega
    · have e : hG_ d dy a n = false := decide_eq_false q
      rw [if_neg (show ¬ hG_ d dy a n = true by rw [e]; exact Bool.false_ne_true)]
      have z : (if was d n dy then fb_ct (atB d n a) (nM d n) else 0) = 0 := by
        by_cases w : was d n dy
        · rw [if_pos w]
          have : ¬ 0 < fb_ct (atB d n a) (nM d n) := fun y => q ⟨w, y⟩
          omega
        · rw [if_neg w]
      rw [z, Nat.add_zero, Nat.add_zero]
      exact ih
/-- the desk's unheld lines are the model's -/
theorem uh_iff {d : mS} {dy : Int32} (hL : iL d) (hG : iG d) (hM : iMs d) {b i : Nat} (hb : b < 2) (hi : i < nL d b) : uhD (cgD d dy (nG d)) dy (80 * b + i) ↔ unh d dy (80 * b + i) := by
  have l := (hL b hb).2
  have l16 := hG.2
  have le := hcN_le (dy := dy) (a := 80 * b + i) hM (nG d) (Nat.le_refl _)
  have il : inL d (80 * b + i) := by
    unfold inL
    rw [show (80 * b + i) % 80 = i by omega, show (80 * b + i) / 80 = b by omega]; exact hi
  unfold uhD unh
  rw [cgD_ne d dy (by decide), cg_at hL hb hi]
  constructor
  · rintro ⟨h1, h2⟩
    refine ⟨⟨il, h1⟩, (hcN_0 _).mp ?_⟩
    exact nI_inj (by omega) (by decide) (h2.trans nI_0.symm)
  · rintro ⟨⟨_, h1⟩, h2⟩
    exact ⟨h1, by rw [(hcN_0 _).mpr h2]; exact nI_0⟩
/-- now: a line is held once if it is in a group, and never else -/
theorem hr_all {m : mS} (hm : inv m) {b : Nat} (hb : b < 2) : hrA (cgD m (m.1 7 0) (nG m)) b := by
  have l16 := hm.G.2
  intro i hi
  rw [nL_k (cgD_ne m (m.1 7 0) (by decide) (nG m))] at hi
  have l := (hm.L b hb).2
  have il : inL m (80 * b + i) := by
    unfold inL
    rw [show (80 * b + i) % 80 = i by omega, show (80 * b + i) / 80 = b by omega]; exact hi
  unfold hrP
  rw [cg_at hm.L hb hi, cgD_ne m (m.1 7 0) (by decide)]
  rcases J1a hm (by omega) il with y | ⟨x, k, x1, k1, y1, y2, y3⟩
  · rw [y, if_pos m1_neg]
    congr 1
    refine (hcN_0 _).mpr (fb_ct_zero.mpr (fun g hg => decide_eq_false (fun q => ?_)))
    have st := (was_now hm hg).mp q.1
    obtain ⟨j, j1, j2⟩ := fb_ct_pos.mp q.2
    have z := (hm.J2 g hg st j j1).1
    rw [of_decide_eq_true j2, y] at z
    exact nIm1 (by omega) z.symm
  · rw [y1, if_neg (nI_nn (by omega))]
    congr 1
    -- each group's share
    have one : fb_ct (atB m x (80 * b + i)) (nM m x) = 1 := by
      have e1 : fb_ct (atB m x (80 * b + i)) (nM m x) = fb_ct (fun j => decide (j = k)) (nM m x) := fb_ct_cong (fun j hj => by
        by_cases q : j = k
        · rw [decide_eq_true q, q]; exact decide_eq_true y3
        · rw [decide_eq_false q]
          exact decide_eq_false (fun z => q ((hm.J2 x x1 y2 k k1).2 j hj (z.trans y3.symm))))
      have e2 := ct_in (p := fun _ => false) (q := fun j => decide (j = k)) (i := k) (n := nM m x) k1 rfl (decide_eq_true rfl) (fun j hj => decide_eq_false hj)
      have e3 : fb_ct (fun _ => false) (nM m x) = 0 := fb_ct_zero.mpr (fun _ _ => rfl)
      omega
    have share : ∀ n, n ≤ nG m → hcN m (m.1 7 0) (80 * b + i) n = if x < n then 1 else 0 := by
      intro n
      induction n with
      | zero => intro _; rfl
      | succ n ih =>
        intro hn
        show hcN m (m.1 7 0) (80 * b + i) n + (if was m n (m.1 7 0) then fb_ct (atB m n (80 * b + i)) (nM m n) else 0) = _
        rw [ih (by omega)]
        by_cases q : n = x
        · rw [q, if_neg (Nat.lt_irrefl _), if_pos ((was_now hm x1).mpr y2), one, if_pos (by omega)]
        · have z : (if was m n (m.1 7 0) then fb_ct (atB m n (80 * b + i)) (nM m n) else 0) = 0 := by
            by_cases w : was m n (m.1 7 0)
            · rw [if_pos w]
              refine fb_ct_zero.mpr (fun j hj => decide_eq_false (fun e => q ?_))
              have v := (hm.J2 n (by omega) ((was_now hm (by omega)).mp w) j hj).1
              rw [e, y1] at v
              exact (nI_inj (by omega) (by omega) v).symm
            · rw [if_neg w]
          rw [z]
          by_cases w : x < n
          · rw [if_pos w, if_pos (by omega)]
          · rw [if_neg w, if_neg (by omega)]
    rw [share (nG m) (Nat.le_refl _), if_pos x1]
