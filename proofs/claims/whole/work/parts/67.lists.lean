/-! ===== sets, 1: the lists that are found ===== -/
def cmS (sub : Nat → Int → List (List Nat)) (p : Nat → Bool) (am : Nat → Int) (N : Nat) : Nat → Nat → Int → List (List Nat)
  | 0, _, _ => []
  | n + 1, i, o => if i < N then (if p i = true then (sub (i + 1) (o - am i)).map (fun t => i :: t) ++ cmS sub p am N n (i + 1) o else cmS sub p am N n (i + 1) o) else []
def cm (p : Nat → Bool) (am : Nat → Int) (N : Nat) (e : Int) : Nat → Nat → Int → List (List Nat)
  | 0, _, o => if -e ≤ o ∧ o ≤ e then [[]] else []
  | l + 1, i, o => cmS (cm p am N e l) p am N (81 - i) i o
theorem cmS_out {sub : Nat → Int → List (List Nat)} {p : Nat → Bool} {am : Nat → Int} {N n i : Nat} {o : Int} (h : N ≤ i) : cmS sub p am N n i o = [] := by
  cases n with
  | zero => rfl
  | succ n => exact if_neg (by omega)
/-- more fuel than places changes nothing -/
theorem cmS_fuel {sub : Nat → Int → List (List Nat)} {p : Nat → Bool} {am : Nat → Int} {N : Nat} {o : Int} : ∀ n k i, N - i ≤ n → N - i ≤ k → cmS sub p am N n i o = cmS sub p am N k i o
  | 0, k, i, h1, _ => by rw [cmS_out (n := 0) (by omega), cmS_out (n := k) (by omega)]
  | n + 1, 0, i, _, h2 => by rw [cmS_out (n := n + 1) (by omega), cmS_out (n := 0) (by omega)]
  | n + 1, k + 1, i, h1, h2 => by
    rcases Nat.lt_or_ge i N with q | q
    · have ih := cmS_fuel (sub := sub) (p := p) (am := am) (N := N) (o := o) n k (i + 1) (by omega) (by omega)
      show (if i < N then (if p i = true then (sub (i + 1) (o - am i)).map (fun t => i :: t) ++ cmS sub p am N n (i + 1) o else cmS sub p am N n (i + 1) o) else []) = (if i < N then (if p i = true then (sub (i + 1) (o - am i)).map (fun t => i :: t) ++ cmS sub p am N k (i + 1) o else cmS sub p am N k (i + 1) o) else [])
      rw [ih]
    · rw [cmS_out q, cmS_out q]
theorem cm_yes {p : Nat → Bool} {am : Nat → Int} {N l i : Nat} {e o : Int} (hN : N ≤ 80) (hi : i < N) (hp : p i = true) : cm p am N e (l + 1) i o = (cm p am N e l (i + 1) (o - am i)).map (fun t => i :: t) ++ cm p am N e (l + 1) (i + 1) o := by
  show cmS (cm p am N e l) p am N (81 - i) i o = _
  rw [show 81 - i = (80 - i) + 1 by omega]
  show (if i < N then (if p i = true then (cm p am N e l (i + 1) (o - am i)).map (fun t => i :: t) ++ cmS (cm p am N e l) p am N (80 - i) (i + 1) o else cmS (cm p am N e l) p am N (80 - i) (i + 1) o) else []) = _
  rw [if_pos hi, if_pos hp]
  show _ = _ ++ cmS (cm p am N e l) p am N (81 - (i + 1)) (i + 1) o
  rw [cmS_fuel (80 - i) (81 - (i + 1)) (i + 1) (by omega) (by omega)]
theorem cm_no {p : Nat → Bool} {am : Nat → Int} {N l i : Nat} {e o : Int} (hN : N ≤ 80) (hi : i < N) (hp : p i = false) : cm p am N e (l + 1) i o = cm p am N e (l + 1) (i + 1) o := by
  show cmS (cm p am N e l) p am N (81 - i) i o = _
  rw [show 81 - i = (80 - i) + 1 by omega]
  show (if i < N then (if p i = true then (cm p am N e l (i + 1) (o - am i)).map (fun t => i :: t) ++ cmS (cm p am N e l) p am N (80 - i) (i + 1) o else cmS (cm p am N e l) p am N (80 - i) (i + 1) o) else []) = _
  rw [if_pos hi, if_neg (by rw [hp]; exact Bool.false_ne_true)]
  show _ = cmS (cm p am N e l) p am N (81 - (i + 1)) (i + 1) o
  rw [cmS_fuel (80 - i) (81 - (i + 1)) (i + 1) (by omega) (by omega)]
theorem cm_out {p : Nat → Bool} {am : Nat → Int} {N l i : Nat} {e o : Int} (hi : N ≤ i) : cm p am N e (l + 1) i o = [] := cmS_out hi
/-- too few are left -/
theorem cm_few {p : Nat → Bool} {am : Nat → Int} {N : Nat} {e : Int} (hN : N ≤ 80) : ∀ l i o, N < i + (l + 1) → cm p am N e (l + 1) i o = []
  | 0, i, o, h => cm_out (by omega)
  | l + 1, i, o, h => by
    have key : ∀ k i, N - i ≤ k → N < i + (l + 1 + 1) → cm p am N e (l + 1 + 1) i o = [] := by
      intro k
      induction k with
      | zero => intro i h1 _; exact cm_out (by omega)
      | succ k ih =>
        intro i h1 h2
        rcases Nat.lt_or_ge i N with q | q
        · cases hp : p i with
          | true => rw [cm_yes hN q hp, ih (i + 1) (by omega) (by omega), cm_few hN l (i + 1) _ (by omega)]; rfl
          | false => rw [cm_no hN q hp]; exact ih (i + 1) (by omega) (by omega)
        · exact cm_out q
    exact key (N - i) i (Nat.le_refl _) h
def suL (am : Nat → Int) : List Nat → Int
  | [] => 0
  | x :: t => am x + suL am t
theorem cm_mem {p : Nat → Bool} {am : Nat → Int} {N : Nat} {e : Int} (hN : N ≤ 80) : ∀ l i o t, t ∈ cm p am N e l i o → t.length = l ∧ (∀ x, x ∈ t → i ≤ x ∧ x < N) ∧ -e ≤ o - suL am t ∧ o - suL am t ≤ e
  | 0, i, o, t, h => by
    have h' : t ∈ (if -e ≤ o ∧ o ≤ e then [[]] else [] : List (List Nat)) := h
    by_cases q : -e ≤ o ∧ o ≤ e
    · rw [if_pos q] at h'
      have ht : t = [] := by simpa using h'
      subst ht
      refine ⟨rfl, fun x hx => by simp at hx, ?_, ?_⟩
      · show -e ≤ o - 0; omega
      · show o - 0 ≤ e; omega
    · rw [if_neg q] at h'
      simp at h'
  | l + 1, i, o, t, h => by
    have key : ∀ k i, N - i ≤ k → t ∈ cm p am N e (l + 1) i o → t.length = l + 1 ∧ (∀ x, x ∈ t → i ≤ x ∧ x < N) ∧ -e ≤ o - suL am t ∧ o - suL am t ≤ e := by
      intro k
      induction k with
      | zero => intro i h1 h2; rw [cm_out (by omega)] at h2; simp at h2
      | succ k ih =>
        intro i h1 h2
        rcases Nat.lt_or_ge i N with q | q
        · cases hp : p i with
          | true =>
            rw [cm_yes hN q hp] at h2
            rcases List.mem_append.mp h2 with z | z
            · obtain ⟨s, s1, s2⟩ := List.mem_map.mp z
              obtain ⟨a1, a2, a3, a4⟩ := cm_mem hN l (i + 1) (o - am i) s s1
              subst s2
              refine ⟨by simp [a1], fun x hx => ?_, ?_, ?_⟩
              · rcases List.mem_cons.mp hx with y | y
                · subst y; exact ⟨Nat.le_refl _, q⟩
                · have := a2 x y
                  exact ⟨by omega, this.2⟩
              · show -e ≤ o - (am i + suL am s); omega
              · show o - (am i + suL am s) ≤ e; omega
            · have := ih (i + 1) (by omega) z
              exact ⟨this.1, fun x hx => by have := this.2.1 x hx; exact ⟨by omega, this.2⟩, this.2.2⟩
          | false =>
            rw [cm_no hN q hp] at h2
            have := ih (i + 1) (by omega) h2
            exact ⟨this.1, fun x hx => by have := this.2.1 x hx; exact ⟨by omega, this.2⟩, this.2.2⟩
        · rw [cm_out q] at h2; simp at h2
    exact key (N - i) i (Nat.le_refl _) h
theorem suL_bd {am : Nat → Int} {lo hi : Int} : ∀ (t : List Nat), (∀ x, x ∈ t → lo ≤ am x ∧ am x ≤ hi) → (t.length : Int) * lo ≤ suL am t ∧ suL am t ≤ (t.length : Int) * hi
  | [], _ => by
    show ((0 : Nat) : Int) * lo ≤ 0 ∧ 0 ≤ ((0 : Nat) : Int) * hi
    simp
  | x :: t, h => by
    have ih := suL_bd t (fun y hy => h y (List.mem_cons_of_mem _ hy))
    have a := h x List.mem_cons_self
    show ((t.length + 1 : Nat) : Int) * lo ≤ am x + suL am t ∧ am x + suL am t ≤ ((t.length + 1 : Nat) : Int) * hi
    have e1 : ((t.length + 1 : Nat) : Int) * lo = (t.length : Int) * lo + lo := by
      rw [Int.natCast_add, Int.add_mul]; simp
    have e2 : ((t.length + 1 : Nat) : Int) * hi = (t.length : Int) * hi + hi := by
      rw [Int.natCast_add, Int.add_mul]; simp
    omega
/-- what cannot be reached is not found -/
theorem cm_far {p : Nat → Bool} {am : Nat → Int} {N l i : Nat} {e o lo hi : Int} (hN : N ≤ 80) (hb : ∀ x, i ≤ x → x < N → lo ≤ am x ∧ am x ≤ hi) (h : ¬ ((l : Int) * lo - e ≤ o ∧ o ≤ (l : Int) * hi + e)) : cm p am N e l i o = [] := by
  refine List.eq_nil_iff_forall_not_mem.mpr (fun t ht => ?_)
  obtain ⟨a1, a2, a3, a4⟩ := cm_mem hN l i o t ht
  have b := suL_bd t (fun x hx => hb x (a2 x hx).1 (a2 x hx).2)
  rw [a1] at b
  exact h ⟨by omega, by omega⟩
/-- the candidates by their rank -/
theorem cm_rank {p : Nat → Bool} {am am' : Nat → Int} {num : Nat → Nat} {N : Nat} {e : Int} (hN : N ≤ 80) (hn : ∀ i, i < N → p i = true → num (fb_ct p i) = i ∧ am' (fb_ct p i) = am i) : ∀ l i o, i ≤ N → cm p am N e l i o = (cm (fun _ => true) am' (fb_ct p N) e l (fb_ct p i) o).map (List.map num)
  | 0, i, o, _ => by
    show (if -e ≤ o ∧ o ≤ e then [[]] else []) = (if -e ≤ o ∧ o ≤ e then [[]] else [] : List (List Nat)).map (List.map num)
    by_cases q : -e ≤ o ∧ o ≤ e
    · rw [if_pos q]; rfl
    · rw [if_neg q]; rfl
  | l + 1, i, o, hi => by
    have hK : fb_ct p N ≤ 80 := by have := fb_ct_le p N; omega
    have key : ∀ k i, N - i ≤ k → i ≤ N → cm p am N e (l + 1) i o = (cm (fun _ => true) am' (fb_ct p N) e (l + 1) (fb_ct p i) o).map (List.map num) := by
      intro k
      induction k with
      | zero =>
        intro i h1 h2
        have : i = N := by omega
        subst this
        rw [cm_out (Nat.le_refl _), cm_out (Nat.le_refl _)]; rfl
      | succ k ih =>
        intro i h1 h2
        rcases Nat.lt_or_ge i N with q | q
        · cases hp : p i with
          | true =>
            have lt := ct_lt_all (p := p) q hp
            have es : fb_ct p (i + 1) = fb_ct p i + 1 := by rw [fb_ct_succ, if_pos hp]
            have hz := hn i q hp
            rw [cm_yes hN q hp, cm_yes hK lt rfl, List.map_append, ih (i + 1) (by omega) (by omega), cm_rank hN hn l (i + 1) (o - am i) (by omega), es, hz.2, List.map_map, List.map_map]
            congr 1
            refine List.map_congr_left (fun t _ => ?_)
            show i :: List.map num t = num (fb_ct p i) :: List.map num t
            rw [hz.1]
          | false =>
            have es : fb_ct p (i + 1) = fb_ct p i := by rw [fb_ct_succ, if_neg (by rw [hp]; exact Bool.false_ne_true)]; rfl
            rw [cm_no hN q hp, ih (i + 1) (by omega) (by omega), es]
        · have : i = N := by omega
          subst this
          rw [cm_out (Nat.le_refl _), cm_out (Nat.le_refl _)]; rfl
    exact key (N - i) i (Nat.le_refl _) hi
/-- more sets behind those that are there, as far as there is room -/
def ap {α : Type} (L A : List α) : List α := (L ++ A).take 5000
theorem ap_len {α : Type} (L A : List α) : (ap L A).length ≤ 5000 := by unfold ap; rw [List.length_take]; omega
theorem ap_nil {α : Type} {L : List α} (h : L.length ≤ 5000) : ap L [] = L := by unfold ap; rw [List.append_nil, List.take_of_length_le h]
theorem ap_full {α : Type} {L A : List α} (h : L.length = 5000) : ap L A = L := by
  unfold ap
  rw [List.take_append_of_le_length (by omega), List.take_of_length_le (by omega)]
theorem ap_ap {α : Type} (L A B : List α) : ap (ap L A) B = ap L (A ++ B) := by
  unfold ap
  rw [← List.append_assoc]
  rcases Nat.lt_or_ge 5000 (L ++ A).length with q | q
  · rw [List.take_append_of_le_length (by rw [List.length_take]; omega), List.take_append_of_le_length (l₁ := L ++ A) (by omega), List.take_take, Nat.min_self]
  · rw [List.take_of_length_le (l := L ++ A) q]
theorem ap_one {α : Type} {L : List α} {x : α} (h : L.length < 5000) : ap L [x] = L ++ [x] := by
  unfold ap
  rw [List.take_of_length_le (by rw [List.length_append, List.length_singleton]; omega)]
theorem ap_map {α β : Type} (f : α → β) (L A : List α) : (ap L A).map f = ap (L.map f) (A.map f) := by
  unfold ap
  rw [List.map_take, List.map_append]
/-- a set in a number -/
def pkA : Nat → List Nat → Nat
  | a, [] => a
  | a, x :: t => pkA (a * 128 + x) t
def pkS (t : List Nat) : Nat := t.length * 268435456 + pkA 0 t
theorem pkA_cons (a x : Nat) (t : List Nat) : pkA a (x :: t) = pkA (a * 128 + x) t := rfl
theorem pkA_lt : ∀ (t : List Nat) (a k : Nat), (∀ x, x ∈ t → x < 128) → a < 128 ^ k → pkA a t < 128 ^ (k + t.length)
  | [], a, k, _, h => h
  | x :: t, a, k, hx, h => by
    have := pkA_lt t (a * 128 + x) (k + 1) (fun y hy => hx y (List.mem_cons_of_mem _ hy)) (by
      have := hx x List.mem_cons_self
      rw [Nat.pow_succ]; omega)
    show pkA (a * 128 + x) t < 128 ^ (k + (t.length + 1))
    rw [show k + (t.length + 1) = k + 1 + t.length by omega]
    exact this
theorem pkA_at : ∀ (t : List Nat) (a j : Nat), (∀ x, x ∈ t → x < 128) → j < t.length → pkA a t / 128 ^ (t.length - 1 - j) % 128 = t.getD j 0
  | [], a, j, _, h => absurd h (Nat.not_lt_zero j)
  | x :: t, a, 0, hx, _ => by
    show pkA (a * 128 + x) t / 128 ^ (t.length + 1 - 1 - 0) % 128 = x
    have h1 : ∀ (t : List Nat) (b : Nat), (∀ y, y ∈ t → y < 128) → pkA b t / 128 ^ t.length = b := by
      intro t
      induction t with
      | nil => intro b _; show b / 128 ^ 0 = b; rw [Nat.pow_zero, Nat.div_one]
      | cons y t ih =>
        intro b hy
        show pkA (b * 128 + y) t / 128 ^ (t.length + 1) = b
        have e := ih (b * 128 + y) (fun z hz => hy z (List.mem_cons_of_mem _ hz))
        rw [Nat.pow_succ, ← Nat.div_div_eq_div_mul, e]
        have := hy y List.mem_cons_self
        omega
    rw [show t.length + 1 - 1 - 0 = t.length by omega, h1 t (a * 128 + x) (fun y hy => hx y (List.mem_cons_of_mem _ hy))]
    have := hx x List.mem_cons_self
    omega
  | x :: t, a, j + 1, hx, h => by
    have hj : j < t.length := by
      have : j + 1 < t.length + 1 := h
      omega
    have := pkA_at t (a * 128 + x) j (fun y hy => hx y (List.mem_cons_of_mem _ hy)) hj
    show pkA (a * 128 + x) t / 128 ^ (t.length + 1 - 1 - (j + 1)) % 128 = t.getD j 0
    rw [show t.length + 1 - 1 - (j + 1) = t.length - 1 - j by omega]
    exact this
theorem pkS_size {t : List Nat} (hx : ∀ x, x ∈ t → x < 128) (h4 : t.length ≤ 4) : pkS t / 268435456 = t.length ∧ pkS t < 2147483648 := by
  have h := pkA_lt t 0 0 hx (by decide)
  have h2 : 128 ^ (0 + t.length) ≤ 128 ^ 4 := Nat.pow_le_pow_right (by decide) (by omega)
  have h3 : (128 : Nat) ^ 4 = 268435456 := by decide
  unfold pkS
  omega
theorem pkS_at {t : List Nat} (hx : ∀ x, x ∈ t → x < 128) (h4 : t.length ≤ 4) {j : Nat} (hj : j < t.length) : pkS t / 2 ^ (7 * (t.length - 1 - j)) % 128 = t.getD j 0 := by
  rw [← pkA_at t 0 j hx hj]
  have e : (2 : Nat) ^ (7 * (t.length - 1 - j)) = 128 ^ (t.length - 1 - j) := by rw [Nat.pow_mul]
  rw [e]
  unfold pkS
  have hk : t.length - 1 - j ≤ 3 := by omega
  generalize t.length - 1 - j = k at hk
  have e2 : t.length * 268435456 = 128 ^ k * (128 * (t.length * 128 ^ (3 - k))) := by
    rcases (show k = 0 ∨ k = 1 ∨ k = 2 ∨ k = 3 by omega) with q | q | q | q <;> subst q <;> simp <;> omega
  rw [e2, Nat.mul_add_div (Nat.pow_pos (by decide)), Nat.mul_add_mod]
