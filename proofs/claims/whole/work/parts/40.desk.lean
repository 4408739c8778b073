/-! ===== the desk's memory: printed by gen/desk.py. Places 0 .. 622; a number of the desk stands in d.1 under a key of its own; where it means what a field of the model means it has that field's key and place ===== -/
def lC (a : Nat) : Nat := if a < 80 then a + 4 else a + 6
def bC (b : Nat) : Nat := if b = 0 then 2 else 84
def gC (g : Nat) : Nat := 223 + 2 * g
def sC (s : Nat) : Nat := 212 + 3 * s
def rf (v : Int32) : Option Nat := if v < 0 then none else some (lC (nv v))
abbrev dSl : Type := Value ⊕ (Nat × Nat)
abbrev dCe : Type := (Nat × List dSl) ⊕ ((Nat × Nat × Nat) ⊕ ((Nat × Nat × (Nat → Option Nat)) ⊕ Nat))
def sv (d : mS) : dSl → Value
  | .inl v => v
  | .inr (k, i) => .int (d.1 k i)
def gF (d : mS) (g : Nat) : Nat → Option Nat := fun j => if j < 8 then rf (d.1 11 (8 * g + j)) else none
def ceD (d : mS) : dCe → va_E
  | .inl (ci, ss) => .inr (ci, ss.map (sv d))
  | .inr (.inl (t, N, k)) => .inl (t, N, .inl (d.1 k))
  | .inr (.inr (.inl (t, N, f))) => .inl (t, N, .inr (.inr (.inr (.inr f))))
  | .inr (.inr (.inr g)) => .inl (3, 8, .inr (.inr (.inr (.inr (gF d g)))))
def lO (a : Nat) : dCe := .inl (4, [.inl (.int (nI (a / 80))), .inl (.int (nI (a % 80))), .inr (0, a), .inr (1, a), .inr (3, a), .inr (2, a), .inr (4, a), .inr (5, a), .inr (56, a)])
def bO (b : Nat) : dCe := .inl (1, [.inl (.ref (bC b + 1)), .inr (6, b)])
def bA (b : Nat) : dCe := .inr (.inr (.inl (3, 80, fun i => if i < 80 then some (lC (80 * b + i)) else none)))
def gO (g : Nat) : dCe := .inl (3, [.inl (.ref (gC g + 1)), .inr (12, g), .inr (10, g), .inr (13, g), .inr (14, g), .inr (15, g)])
def gA (g : Nat) : dCe := .inr (.inr (.inr g))
def dOne : List dCe := [.inr (.inr (.inl (4, 200, fun g => if g < 200 then some (gC g) else none))),
  .inl (0, [.inl (.ref 168), .inl (.ref 169), .inl (.ref 170), .inr (54, 0), .inr (46, 0)]),
  .inr (.inl (0, 60, 51)),
  .inr (.inl (0, 60, 52)),
  .inr (.inl (0, 60, 53)),
  .inl (5, [.inl (.ref 172), .inl (.ref 198), .inl (.ref 199), .inl (.ref 200), .inl (.ref 201), .inr (61, 0), .inr (62, 0), .inr (63, 0), .inr (64, 0)]),
  .inl (6, [.inl (.ref 173), .inr (65, 0), .inl (.ref 188), .inl (.ref 189), .inl (.ref 190), .inl (.ref 191), .inl (.ref 192), .inl (.ref 193), .inl (.ref 194), .inl (.ref 195), .inl (.ref 196), .inl (.ref 197)]),
  .inr (.inr (.inl (6, 14, fun r => if r < 14 then some (174 + r) else none))),
  .inr (.inl (0, 14, 200)),
  .inr (.inl (0, 14, 201)),
  .inr (.inl (0, 14, 202)),
  .inr (.inl (0, 14, 203)),
  .inr (.inl (0, 14, 204)),
  .inr (.inl (0, 14, 205)),
  .inr (.inl (0, 14, 206)),
  .inr (.inl (0, 14, 207)),
  .inr (.inl (0, 14, 208)),
  .inr (.inl (0, 14, 209)),
  .inr (.inl (0, 14, 210)),
  .inr (.inl (0, 14, 211)),
  .inr (.inl (0, 14, 212)),
  .inr (.inl (0, 14, 213)),
  .inr (.inl (0, 14, 66)),
  .inr (.inl (0, 15, 67)),
  .inr (.inl (0, 15, 68)),
  .inr (.inl (0, 14, 69)),
  .inr (.inl (0, 15, 70)),
  .inr (.inl (0, 15, 71)),
  .inr (.inl (0, 15, 72)),
  .inr (.inl (0, 15, 73)),
  .inr (.inl (1, 15, 74)),
  .inr (.inl (1, 14, 75)),
  .inr (.inl (0, 14, 57)),
  .inr (.inl (0, 14, 58)),
  .inr (.inl (0, 14, 59)),
  .inr (.inl (0, 14, 60)),
  .inl (7, [.inl (.ref 203), .inl (.ref 204), .inl (.ref 205), .inl (.ref 206), .inl (.ref 207), .inr (81, 0), .inr (82, 0), .inr (83, 0), .inr (84, 0), .inr (85, 0), .inr (86, 0), .inr (87, 0), .inr (88, 0)]),
  .inr (.inl (0, 5000, 76)),
  .inr (.inl (0, 80, 77)),
  .inr (.inl (0, 80, 78)),
  .inr (.inl (0, 80, 79)),
  .inr (.inl (0, 80, 80)),
  .inl (2, [.inl (.ref 209), .inl (.ref 210), .inl (.ref 211), .inl (.ref 212), .inl (.ref 215), .inl (.ref 218), .inr (92, 0), .inl (.ref 221), .inl (.ref 222), .inr (95, 0)]),
  .inr (.inl (0, 18, 89)),
  .inr (.inl (0, 18, 90)),
  .inr (.inl (0, 18, 91)),
  .inl (8, [.inl (.ref 213), .inl (.ref 214), .inr (96, 0)]),
  .inr (.inl (0, 512, 100)),
  .inr (.inl (0, 512, 103)),
  .inl (8, [.inl (.ref 216), .inl (.ref 217), .inr (96, 1)]),
  .inr (.inl (0, 512, 101)),
  .inr (.inl (0, 512, 104)),
  .inl (8, [.inl (.ref 219), .inl (.ref 220), .inr (96, 2)]),
  .inr (.inl (0, 512, 102)),
  .inr (.inl (0, 512, 105)),
  .inr (.inl (0, 18, 93)),
  .inr (.inl (0, 18, 94))]
def dC (a : Nat) : dCe :=
  if 223 ≤ a then (if (a - 223) % 2 = 0 then gO ((a - 223) / 2) else gA ((a - 223) / 2))
  else if 166 ≤ a then dOne.getD (a - 166) (gA 0)
  else if 86 ≤ a then lO (a - 6)
  else if 84 ≤ a then (if a = 84 then bO 1 else bA 1)
  else if 4 ≤ a then lO (a - 4)
  else if a = 0 then .inl (9, [.inl (.ref 1), .inl (.ref 166), .inl (.ref 167), .inl (.ref 171), .inl (.ref 202), .inl (.ref 208), .inr (16, 0), .inr (7, 0), .inr (8, 0), .inr (9, 0), .inr (50, 0)])
  else if a = 1 then .inr (.inr (.inl (5, 2, fun b => if b < 2 then some (bC b) else none)))
  else if a = 2 then bO 0 else bA 0
def dk (d : mS) : vx_H := fun a => ceD d (dC a)
def owT : List Nat := [1000, 1000, 1000, 1000, 1000, 1000, 1000, 0, 0, 0, 1000, 1000, 1000, 1000, 1000, 1000, 0, 1000, 1000, 1000, 1000, 1000, 1000, 1000, 1000, 1000, 1000, 1000, 1000, 1000, 1000, 1000, 1000, 1000, 1000, 1000, 1000, 1000, 1000, 1000, 1000, 1000, 1000, 1000, 1000, 1000, 167, 1000, 1000, 1000, 0, 168, 169, 170, 167, 1000, 1000, 198, 199, 200, 201, 171, 171, 171, 171, 172, 188, 189, 190, 191, 192, 193, 194, 195, 196, 197, 203, 204, 205, 206, 207, 202, 202, 202, 202, 202, 202, 202, 202, 209, 210, 211, 208, 221, 222, 208, 1000, 1000, 1000, 1000, 213, 216, 219, 214, 217, 220, 1000, 1000, 1000, 1000, 1000, 1000, 1000, 1000, 1000, 1000, 1000, 1000, 1000, 1000, 1000, 1000, 1000, 1000, 1000, 1000, 1000, 1000, 1000, 1000, 1000, 1000, 1000, 1000, 1000, 1000, 1000, 1000, 1000, 1000, 1000, 1000, 1000, 1000, 1000, 1000, 1000, 1000, 1000, 1000, 1000, 1000, 1000, 1000, 1000, 1000, 1000, 1000, 1000, 1000, 1000, 1000, 1000, 1000, 1000, 1000, 1000, 1000, 1000, 1000, 1000, 1000, 1000, 1000, 1000, 1000, 1000, 1000, 1000, 1000, 1000, 1000, 1000, 1000, 1000, 1000, 1000, 1000, 1000, 1000, 1000, 1000, 1000, 1000, 1000, 1000, 1000, 1000, 1000, 1000, 174, 175, 176, 177, 178, 179, 180, 181, 182, 183, 184, 185, 186, 187]
def own (k i : Nat) : Nat :=
  if k ≤ 5 ∨ k = 56 then lC i else if k = 6 then bC i else if k = 10 ∨ k = 12 ∨ k = 13 ∨ k = 14 ∨ k = 15 then gC i
  else if k = 11 then gC (i / 8) + 1 else if k = 96 then sC i else owT.getD k 1000
/-- the keys of whole arrays -/
def isAr (k : Nat) : Bool := decide (17 ≤ k ∧ k ≠ 56 ∧ k ≠ 96)
def okC (a : Nat) : dCe → Bool
  | .inl (_, ss) => ss.all fun s => match s with
    | .inl _ => true
    | .inr (k, i) => Nat.beq (own k i) a
  | .inr (.inl (_, _, k)) => isAr k && Nat.beq (owT.getD k 1000) a
  | .inr (.inr (.inl _)) => true
  | .inr (.inr (.inr g)) => Nat.beq (gC g + 1) a
theorem okC_all : ∀ a, a < 623 → okC a (dC a) = true := by decide +kernel
theorem isAr_own {k : Nat} (h : isAr k = true) (i : Nat) : own k i = owT.getD k 1000 := by
  have h := of_decide_eq_true h
  unfold own
  rw [if_neg (by omega), if_neg (by omega), if_neg (by omega), if_neg (by omega), if_neg (by omega)]
theorem ceD_off {d d' : mS} {c : dCe} {a : Nat} (hc : okC a c = true) (h : ∀ k i, own k i = a → d'.1 k i = d.1 k i) : ceD d' c = ceD d c := by
  rcases c with ⟨ci, ss⟩ | ⟨t, N, k⟩ | ⟨t, N, f⟩ | g
  · show Sum.inr (ci, ss.map (sv d')) = Sum.inr (ci, ss.map (sv d))
    have : ss.map (sv d') = ss.map (sv d) := by
      apply List.map_congr_left
      intro s hs
      have h1 := List.all_eq_true.mp hc s hs
      rcases s with v | ⟨k, i⟩
      · rfl
      · show Value.int _ = Value.int _
        rw [h k i (Nat.eq_of_beq_eq_true h1)]
    rw [this]
  · show Sum.inl (t, N, Sum.inl (d'.1 k)) = Sum.inl (t, N, Sum.inl (d.1 k))
    have h1 := (Bool.and_eq_true _ _).mp hc
    have : d'.1 k = d.1 k := funext fun i => h k i (by rw [isAr_own h1.1]; exact Nat.eq_of_beq_eq_true h1.2)
    rw [this]
  · rfl
  · have h1 : gC g + 1 = a := Nat.eq_of_beq_eq_true hc
    have : gF d' g = gF d g := by
      funext j
      unfold gF
      by_cases hj : j < 8
      · rw [if_pos hj, if_pos hj, h 11 (8 * g + j) (by rw [← h1]; show gC ((8 * g + j) / 8) + 1 = _; rw [show (8 * g + j) / 8 = g by omega])]
      · rw [if_neg hj, if_neg hj]
    show Sum.inl (3, 8, Sum.inr (Sum.inr (Sum.inr (Sum.inr (gF d' g))))) = _
    rw [this]
    rfl
theorem dk_off {d d' : mS} {a : Nat} (ha : a < MB) (h : ∀ k i, own k i = a → d'.1 k i = d.1 k i) : dk d' a = dk d a := ceD_off (okC_all a ha) h
theorem d_up {x x' : vx_H} {m : mS} {a : Nat} {e : va_E} (ha : a < MB) (h1 : x' a = e) (h2 : ∀ a', a' < MB → a' ≠ a → x' a' = x a') : ∀ a', a' < NT → va_up (hp x m) a e a' = hp x' m a' := by
  intro a' h'
  unfold va_up
  by_cases hq : a' = a
  · rw [if_pos hq, hq, hp_x _ _ ha, h1]
  · rw [if_neg hq]
    by_cases hb : a' < MB
    · rw [hp_x _ _ hb, hp_x _ _ hb, h2 a' hb hq]
    · unfold hp
      rw [if_neg hb, if_neg hb]
theorem d_put {d : mS} {m : mS} {a : Nat} {e : va_E} (k i : Nat) (v : Int32) (ho : own k i = a) (ha : a < MB) (h1 : dk (mset d k i v) a = e) : ∀ a', a' < NT → va_up (hp (dk d) m) a e a' = hp (dk (mset d k i v)) m a' :=
  d_up ha h1 fun a' h' hne => dk_off h' fun k' i' ho' => by
    by_cases hk : k' = k
    · subst hk
      exact mset_off (fun hi => hne (by rw [← ho', hi, ho]))
    · rw [mset_ne hk]
theorem d_putA {d : mS} {m : mS} {a : Nat} {e : va_E} (k : Nat) (f : Nat → Int32) (ho : ∀ i, own k i = a) (ha : a < MB) (h1 : dk (msetA d k f) a = e) : ∀ a', a' < NT → va_up (hp (dk d) m) a e a' = hp (dk (msetA d k f)) m a' :=
  d_up ha h1 fun a' h' hne => dk_off h' fun k' i' ho' => by
    by_cases hk : k' = k
    · subst hk
      exact absurd (ho'.symm.trans (ho i')) hne
    · show (if k' = k then f else d.1 k') i' = d.1 k' i'
      rw [if_neg hk]
theorem dk_lt {a : Nat} (h : a < MB) : a < NT := by rw [NT_eq]; omega
theorem lC_lt {a : Nat} (h : a < 160) : lC a < MB := by unfold lC MB; split <;> omega
theorem bC_lt (b : Nat) : bC b + 1 < MB := by unfold bC MB; split <;> omega
theorem gC_lt {g : Nat} (h : g < 200) : gC g + 1 < MB := by unfold gC MB; omega
theorem sC_lt {s : Nat} (h : s < 3) : sC s + 2 < MB := by unfold sC MB; omega
theorem dC_L {a : Nat} (h : a < 160) : dC (lC a) = lO a := by
  unfold dC lC
  by_cases h1 : a < 80
  · rw [if_pos h1, if_neg (by omega), if_neg (by omega), if_neg (by omega), if_neg (by omega), if_pos (by omega), Nat.add_sub_cancel]
  · rw [if_neg h1, if_neg (by omega), if_neg (by omega), if_pos (by omega), Nat.add_sub_cancel]
theorem dC_G {g : Nat} : dC (gC g) = gO g := by
  unfold dC gC
  rw [if_pos (by omega), if_pos (by omega), show (223 + 2 * g - 223) / 2 = g by omega]
theorem dC_GA {g : Nat} : dC (gC g + 1) = gA g := by
  unfold dC gC
  rw [if_pos (by omega), if_neg (by omega), show (223 + 2 * g + 1 - 223) / 2 = g by omega]
theorem dC_B {b : Nat} (h : b < 2) : dC (bC b) = bO b := by
  rcases (show b = 0 ∨ b = 1 by omega) with rfl | rfl <;> rfl
theorem dC_BA {b : Nat} (h : b < 2) : dC (bC b + 1) = bA b := by
  rcases (show b = 0 ∨ b = 1 by omega) with rfl | rfl <;> rfl
theorem dC_S {s : Nat} (h : s < 3) : dC (sC s) = .inl (8, [.inl (.ref (sC s + 1)), .inl (.ref (sC s + 2)), .inr (96, s)]) ∧ dC (sC s + 1) = .inr (.inl (0, 512, 100 + s)) ∧ dC (sC s + 2) = .inr (.inl (0, 512, 103 + s)) := by
  rcases (show s = 0 ∨ s = 1 ∨ s = 2 by omega) with rfl | rfl | rfl <;> exact ⟨rfl, rfl, rfl⟩
theorem dC_W {r : Nat} (h : r < 14) : dC (174 + r) = .inr (.inl (0, 14, 200 + r)) := by
  rcases (show r = 0 ∨ r = 1 ∨ r = 2 ∨ r = 3 ∨ r = 4 ∨ r = 5 ∨ r = 6 ∨ r = 7 ∨ r = 8 ∨ r = 9 ∨ r = 10 ∨ r = 11 ∨ r = 12 ∨ r = 13 by omega) with rfl | rfl | rfl | rfl | rfl | rfl | rfl | rfl | rfl | rfl | rfl | rfl | rfl | rfl <;> rfl
theorem own_S {s : Nat} (h : s < 3) : (∀ i, own (100 + s) i = sC s + 1) ∧ ∀ i, own (103 + s) i = sC s + 2 := by
  rcases (show s = 0 ∨ s = 1 ∨ s = 2 by omega) with rfl | rfl | rfl <;> exact ⟨fun _ => rfl, fun _ => rfl⟩
theorem own_W {r : Nat} (h : r < 14) : ∀ i, own (200 + r) i = 174 + r := by
  rcases (show r = 0 ∨ r = 1 ∨ r = 2 ∨ r = 3 ∨ r = 4 ∨ r = 5 ∨ r = 6 ∨ r = 7 ∨ r = 8 ∨ r = 9 ∨ r = 10 ∨ r = 11 ∨ r = 12 ∨ r = 13 by omega) with rfl | rfl | rfl | rfl | rfl | rfl | rfl | rfl | rfl | rfl | rfl | rfl | rfl | rfl <;> exact fun _ => rfl
theorem hd_at {d m : mS} {a : Nat} (h : a < MB) {c : dCe} (hc : dC a = c) : hp (dk d) m a = ceD d c := by
  rw [hp_x _ _ h, ← hc]
  rfl
theorem hd_L {d m : mS} {a : Nat} (h : a < 160) : hp (dk d) m (lC a) = ceD d (lO a) := hd_at (lC_lt h) (dC_L h)
theorem hd_B {d m : mS} {b : Nat} (h : b < 2) : hp (dk d) m (bC b) = ceD d (bO b) := hd_at (Nat.lt_of_succ_lt (bC_lt b)) (dC_B h)
theorem hd_BA {d m : mS} {b : Nat} (h : b < 2) : hp (dk d) m (bC b + 1) = ceD d (bA b) := hd_at (bC_lt b) (dC_BA h)
theorem hd_G {d m : mS} {g : Nat} (h : g < 200) : hp (dk d) m (gC g) = ceD d (gO g) := hd_at (Nat.lt_of_succ_lt (gC_lt h)) dC_G
theorem hd_GA {d m : mS} {g : Nat} (h : g < 200) : hp (dk d) m (gC g + 1) = ceD d (gA g) := hd_at (gC_lt h) dC_GA
theorem sC_l0 {s : Nat} (h : s < 3) : sC s < MB := by have := sC_lt h; omega
theorem sC_l1 {s : Nat} (h : s < 3) : sC s + 1 < MB := by have := sC_lt h; omega
theorem hd_S {d m : mS} {s : Nat} (h : s < 3) : hp (dk d) m (sC s) = ceD d (.inl (8, [.inl (.ref (sC s + 1)), .inl (.ref (sC s + 2)), .inr (96, s)])) := hd_at (sC_l0 h) (dC_S h).1
theorem hd_S1 {d m : mS} {s : Nat} (h : s < 3) : hp (dk d) m (sC s + 1) = .inl (0, 512, .inl (d.1 (100 + s))) := hd_at (sC_l1 h) (dC_S h).2.1
theorem hd_S2 {d m : mS} {s : Nat} (h : s < 3) : hp (dk d) m (sC s + 2) = .inl (0, 512, .inl (d.1 (103 + s))) := hd_at (sC_lt h) (dC_S h).2.2
theorem W_lt {r : Nat} (h : r < 14) : 174 + r < MB := by unfold MB; omega
theorem hd_W {d m : mS} {r : Nat} (h : r < 14) : hp (dk d) m (174 + r) = .inl (0, 14, .inl (d.1 (200 + r))) := hd_at (W_lt h) (dC_W h)
theorem msetA_same (m : mS) (k : Nat) (f : Nat → Int32) : (msetA m k f).1 k = f := if_pos rfl
theorem msetA_ne {m : mS} {k j : Nat} {f : Nat → Int32} (h : j ≠ k) : (msetA m k f).1 j = m.1 j := if_neg h
theorem rf_nI {a : Nat} (h : a < 2147483648) : rf (nI a) = some (lC a) := by
  unfold rf
  rw [if_neg (show ¬ nI a < 0 from fun q => by rw [iLT, nI_T a h] at q; have : (0 : Int32).toInt = 0 := rfl; omega), nv_nI h]
section XDESK
variable {F : vx_F} {pc : Nat} {L : List (Option Value)} {st : List Value} {ce sl : Nat} {d m : mS}
theorem lt_L {a : Nat} (h : a < 160) : lC a < NT := dk_lt (lC_lt h)
theorem lt_B (b : Nat) : bC b < NT := dk_lt (Nat.lt_of_succ_lt (bC_lt b))
theorem lt_G {g : Nat} (h : g < 200) : gC g < NT := dk_lt (Nat.lt_of_succ_lt (gC_lt h))
theorem lt_S {s : Nat} (h : s < 3) : sC s < NT := dk_lt (sC_l0 h)
theorem gL0 {a : Nat} (h : a < 160) {idx : Nat} (hf : xFG F.2.1.1.cls idx 4 0) (hd : decode F.2.1.2.1 pc = .ok (.getfield idx, 3)) (kk : xV F (pc + 3) L (.int (nI (a / 80)) :: st) NT (hp (dk d) m) ce sl) : xV F pc L (.ref (lC a) :: st) NT (hp (dk d) m) ce sl := x_getf hf (lt_L h) (hd_L h) rfl hd kk
theorem gL1 {a : Nat} (h : a < 160) {idx : Nat} (hf : xFG F.2.1.1.cls idx 4 1) (hd : decode F.2.1.2.1 pc = .ok (.getfield idx, 3)) (kk : xV F (pc + 3) L (.int (nI (a % 80)) :: st) NT (hp (dk d) m) ce sl) : xV F pc L (.ref (lC a) :: st) NT (hp (dk d) m) ce sl := x_getf hf (lt_L h) (hd_L h) rfl hd kk
theorem gL2 {a : Nat} (h : a < 160) {idx : Nat} (hf : xFG F.2.1.1.cls idx 4 2) (hd : decode F.2.1.2.1 pc = .ok (.getfield idx, 3)) (kk : xV F (pc + 3) L (.int (d.1 0 a) :: st) NT (hp (dk d) m) ce sl) : xV F pc L (.ref (lC a) :: st) NT (hp (dk d) m) ce sl := x_getf hf (lt_L h) (hd_L h) rfl hd kk
theorem pL2 {a : Nat} (h : a < 160) {idx : Nat} {v : Int32} (hf : xFP F.2.1.1.cls idx 4 2 (.int) false) (hd : decode F.2.1.2.1 pc = .ok (.putfield idx, 3)) (kk : xV F (pc + 3) L st NT (hp (dk (mset d 0 a v)) m) ce sl) : xV F pc L (.int v :: .ref (lC a) :: st) NT (hp (dk d) m) ce sl := x_putf hf (lt_L h) (hd_L h) rfl rfl (by simp) hd (xV.heap (d_put 0 a v rfl (lC_lt h) ((congrArg (ceD _) (dC_L h)).trans (by simp [ceD, lO, sv, mset, upd]))) kk)
theorem gL3 {a : Nat} (h : a < 160) {idx : Nat} (hf : xFG F.2.1.1.cls idx 4 3) (hd : decode F.2.1.2.1 pc = .ok (.getfield idx, 3)) (kk : xV F (pc + 3) L (.int (d.1 1 a) :: st) NT (hp (dk d) m) ce sl) : xV F pc L (.ref (lC a) :: st) NT (hp (dk d) m) ce sl := x_getf hf (lt_L h) (hd_L h) rfl hd kk
theorem pL3 {a : Nat} (h : a < 160) {idx : Nat} {v : Int32} (hf : xFP F.2.1.1.cls idx 4 3 (.int) false) (hd : decode F.2.1.2.1 pc = .ok (.putfield idx, 3)) (kk : xV F (pc + 3) L st NT (hp (dk (mset d 1 a v)) m) ce sl) : xV F pc L (.int v :: .ref (lC a) :: st) NT (hp (dk d) m) ce sl := x_putf hf (lt_L h) (hd_L h) rfl rfl (by simp) hd (xV.heap (d_put 1 a v rfl (lC_lt h) ((congrArg (ceD _) (dC_L h)).trans (by simp [ceD, lO, sv, mset, upd]))) kk)
theorem gL4 {a : Nat} (h : a < 160) {idx : Nat} (hf : xFG F.2.1.1.cls idx 4 4) (hd : decode F.2.1.2.1 pc = .ok (.getfield idx, 3)) (kk : xV F (pc + 3) L (.int (d.1 3 a) :: st) NT (hp (dk d) m) ce sl) : xV F pc L (.ref (lC a) :: st) NT (hp (dk d) m) ce sl := x_getf hf (lt_L h) (hd_L h) rfl hd kk
theorem pL4 {a : Nat} (h : a < 160) {idx : Nat} {v : Int32} (hf : xFP F.2.1.1.cls idx 4 4 (.int) false) (hd : decode F.2.1.2.1 pc = .ok (.putfield idx, 3)) (kk : xV F (pc + 3) L st NT (hp (dk (mset d 3 a v)) m) ce sl) : xV F pc L (.int v :: .ref (lC a) :: st) NT (hp (dk d) m) ce sl := x_putf hf (lt_L h) (hd_L h) rfl rfl (by simp) hd (xV.heap (d_put 3 a v rfl (lC_lt h) ((congrArg (ceD _) (dC_L h)).trans (by simp [ceD, lO, sv, mset, upd]))) kk)
theorem gL5 {a : Nat} (h : a < 160) {idx : Nat} (hf : xFG F.2.1.1.cls idx 4 5) (hd : decode F.2.1.2.1 pc = .ok (.getfield idx, 3)) (kk : xV F (pc + 3) L (.int (d.1 2 a) :: st) NT (hp (dk d) m) ce sl) : xV F pc L (.ref (lC a) :: st) NT (hp (dk d) m) ce sl := x_getf hf (lt_L h) (hd_L h) rfl hd kk
theorem pL5 {a : Nat} (h : a < 160) {idx : Nat} {v : Int32} (hf : xFP F.2.1.1.cls idx 4 5 (.int) false) (hd : decode F.2.1.2.1 pc = .ok (.putfield idx, 3)) (kk : xV F (pc + 3) L st NT (hp (dk (mset d 2 a v)) m) ce sl) : xV F pc L (.int v :: .ref (lC a) :: st) NT (hp (dk d) m) ce sl := x_putf hf (lt_L h) (hd_L h) rfl rfl (by simp) hd (xV.heap (d_put 2 a v rfl (lC_lt h) ((congrArg (ceD _) (dC_L h)).trans (by simp [ceD, lO, sv, mset, upd]))) kk)
theorem gL6 {a : Nat} (h : a < 160) {idx : Nat} (hf : xFG F.2.1.1.cls idx 4 6) (hd : decode F.2.1.2.1 pc = .ok (.getfield idx, 3)) (kk : xV F (pc + 3) L (.int (d.1 4 a) :: st) NT (hp (dk d) m) ce sl) : xV F pc L (.ref (lC a) :: st) NT (hp (dk d) m) ce sl := x_getf hf (lt_L h) (hd_L h) rfl hd kk
theorem pL6 {a : Nat} (h : a < 160) {idx : Nat} {v : Int32} (hf : xFP F.2.1.1.cls idx 4 6 (.int) false) (hd : decode F.2.1.2.1 pc = .ok (.putfield idx, 3)) (kk : xV F (pc + 3) L st NT (hp (dk (mset d 4 a v)) m) ce sl) : xV F pc L (.int v :: .ref (lC a) :: st) NT (hp (dk d) m) ce sl := x_putf hf (lt_L h) (hd_L h) rfl rfl (by simp) hd (xV.heap (d_put 4 a v rfl (lC_lt h) ((congrArg (ceD _) (dC_L h)).trans (by simp [ceD, lO, sv, mset, upd]))) kk)
theorem gL7 {a : Nat} (h : a < 160) {idx : Nat} (hf : xFG F.2.1.1.cls idx 4 7) (hd : decode F.2.1.2.1 pc = .ok (.getfield idx, 3)) (kk : xV F (pc + 3) L (.int (d.1 5 a) :: st) NT (hp (dk d) m) ce sl) : xV F pc L (.ref (lC a) :: st) NT (hp (dk d) m) ce sl := x_getf hf (lt_L h) (hd_L h) rfl hd kk
theorem pL7 {a : Nat} (h : a < 160) {idx : Nat} {v : Int32} (hf : xFP F.2.1.1.cls idx 4 7 (.int) false) (hd : decode F.2.1.2.1 pc = .ok (.putfield idx, 3)) (kk : xV F (pc + 3) L st NT (hp (dk (mset d 5 a v)) m) ce sl) : xV F pc L (.int v :: .ref (lC a) :: st) NT (hp (dk d) m) ce sl := x_putf hf (lt_L h) (hd_L h) rfl rfl (by simp) hd (xV.heap (d_put 5 a v rfl (lC_lt h) ((congrArg (ceD _) (dC_L h)).trans (by simp [ceD, lO, sv, mset, upd]))) kk)
theorem gL8 {a : Nat} (h : a < 160) {idx : Nat} (hf : xFG F.2.1.1.cls idx 4 8) (hd : decode F.2.1.2.1 pc = .ok (.getfield idx, 3)) (kk : xV F (pc + 3) L (.int (d.1 56 a) :: st) NT (hp (dk d) m) ce sl) : xV F pc L (.ref (lC a) :: st) NT (hp (dk d) m) ce sl := x_getf hf (lt_L h) (hd_L h) rfl hd kk
theorem pL8 {a : Nat} (h : a < 160) {idx : Nat} {v : Int32} (hf : xFP F.2.1.1.cls idx 4 8 (.int) false) (hd : decode F.2.1.2.1 pc = .ok (.putfield idx, 3)) (kk : xV F (pc + 3) L st NT (hp (dk (mset d 56 a v)) m) ce sl) : xV F pc L (.int v :: .ref (lC a) :: st) NT (hp (dk d) m) ce sl := x_putf hf (lt_L h) (hd_L h) rfl rfl (by simp) hd (xV.heap (d_put 56 a v rfl (lC_lt h) ((congrArg (ceD _) (dC_L h)).trans (by simp [ceD, lO, sv, mset, upd]))) kk)
theorem gB0 {b : Nat} (h : b < 2) {idx : Nat} (hf : xFG F.2.1.1.cls idx 1 0) (hd : decode F.2.1.2.1 pc = .ok (.getfield idx, 3)) (kk : xV F (pc + 3) L (.ref (bC b + 1) :: st) NT (hp (dk d) m) ce sl) : xV F pc L (.ref (bC b) :: st) NT (hp (dk d) m) ce sl := x_getf hf (lt_B b) (hd_B h) rfl hd kk
theorem gB1 {b : Nat} (h : b < 2) {idx : Nat} (hf : xFG F.2.1.1.cls idx 1 1) (hd : decode F.2.1.2.1 pc = .ok (.getfield idx, 3)) (kk : xV F (pc + 3) L (.int (d.1 6 b) :: st) NT (hp (dk d) m) ce sl) : xV F pc L (.ref (bC b) :: st) NT (hp (dk d) m) ce sl := x_getf hf (lt_B b) (hd_B h) rfl hd kk
theorem pB1 {b : Nat} (h : b < 2) {idx : Nat} {v : Int32} (hf : xFP F.2.1.1.cls idx 1 1 (.int) false) (hd : decode F.2.1.2.1 pc = .ok (.putfield idx, 3)) (kk : xV F (pc + 3) L st NT (hp (dk (mset d 6 b v)) m) ce sl) : xV F pc L (.int v :: .ref (bC b) :: st) NT (hp (dk d) m) ce sl := x_putf hf (lt_B b) (hd_B h) rfl rfl (by simp) hd (xV.heap (d_put 6 b v rfl (Nat.lt_of_succ_lt (bC_lt b)) ((congrArg (ceD _) (dC_B h)).trans (by simp [ceD, bO, sv, mset, upd]))) kk)
theorem gG0 {g : Nat} (h : g < 200) {idx : Nat} (hf : xFG F.2.1.1.cls idx 3 0) (hd : decode F.2.1.2.1 pc = .ok (.getfield idx, 3)) (kk : xV F (pc + 3) L (.ref (gC g + 1) :: st) NT (hp (dk d) m) ce sl) : xV F pc L (.ref (gC g) :: st) NT (hp (dk d) m) ce sl := x_getf hf (lt_G h) (hd_G h) rfl hd kk
theorem gG1 {g : Nat} (h : g < 200) {idx : Nat} (hf : xFG F.2.1.1.cls idx 3 1) (hd : decode F.2.1.2.1 pc = .ok (.getfield idx, 3)) (kk : xV F (pc + 3) L (.int (d.1 12 g) :: st) NT (hp (dk d) m) ce sl) : xV F pc L (.ref (gC g) :: st) NT (hp (dk d) m) ce sl := x_getf hf (lt_G h) (hd_G h) rfl hd kk
theorem pG1 {g : Nat} (h : g < 200) {idx : Nat} {v : Int32} (hf : xFP F.2.1.1.cls idx 3 1 (.int) false) (hd : decode F.2.1.2.1 pc = .ok (.putfield idx, 3)) (kk : xV F (pc + 3) L st NT (hp (dk (mset d 12 g v)) m) ce sl) : xV F pc L (.int v :: .ref (gC g) :: st) NT (hp (dk d) m) ce sl := x_putf hf (lt_G h) (hd_G h) rfl rfl (by simp) hd (xV.heap (d_put 12 g v rfl (Nat.lt_of_succ_lt (gC_lt h)) ((congrArg (ceD _) dC_G).trans (by simp [ceD, gO, sv, mset, upd]))) kk)
theorem gG2 {g : Nat} (h : g < 200) {idx : Nat} (hf : xFG F.2.1.1.cls idx 3 2) (hd : decode F.2.1.2.1 pc = .ok (.getfield idx, 3)) (kk : xV F (pc + 3) L (.int (d.1 10 g) :: st) NT (hp (dk d) m) ce sl) : xV F pc L (.ref (gC g) :: st) NT (hp (dk d) m) ce sl := x_getf hf (lt_G h) (hd_G h) rfl hd kk
theorem pG2 {g : Nat} (h : g < 200) {idx : Nat} {v : Int32} (hf : xFP F.2.1.1.cls idx 3 2 (.int) false) (hd : decode F.2.1.2.1 pc = .ok (.putfield idx, 3)) (kk : xV F (pc + 3) L st NT (hp (dk (mset d 10 g v)) m) ce sl) : xV F pc L (.int v :: .ref (gC g) :: st) NT (hp (dk d) m) ce sl := x_putf hf (lt_G h) (hd_G h) rfl rfl (by simp) hd (xV.heap (d_put 10 g v rfl (Nat.lt_of_succ_lt (gC_lt h)) ((congrArg (ceD _) dC_G).trans (by simp [ceD, gO, sv, mset, upd]))) kk)
theorem gG3 {g : Nat} (h : g < 200) {idx : Nat} (hf : xFG F.2.1.1.cls idx 3 3) (hd : decode F.2.1.2.1 pc = .ok (.getfield idx, 3)) (kk : xV F (pc + 3) L (.int (d.1 13 g) :: st) NT (hp (dk d) m) ce sl) : xV F pc L (.ref (gC g) :: st) NT (hp (dk d) m) ce sl := x_getf hf (lt_G h) (hd_G h) rfl hd kk
theorem pG3 {g : Nat} (h : g < 200) {idx : Nat} {v : Int32} (hf : xFP F.2.1.1.cls idx 3 3 (.int) false) (hd : decode F.2.1.2.1 pc = .ok (.putfield idx, 3)) (kk : xV F (pc + 3) L st NT (hp (dk (mset d 13 g v)) m) ce sl) : xV F pc L (.int v :: .ref (gC g) :: st) NT (hp (dk d) m) ce sl := x_putf hf (lt_G h) (hd_G h) rfl rfl (by simp) hd (xV.heap (d_put 13 g v rfl (Nat.lt_of_succ_lt (gC_lt h)) ((congrArg (ceD _) dC_G).trans (by simp [ceD, gO, sv, mset, upd]))) kk)
theorem gG4 {g : Nat} (h : g < 200) {idx : Nat} (hf : xFG F.2.1.1.cls idx 3 4) (hd : decode F.2.1.2.1 pc = .ok (.getfield idx, 3)) (kk : xV F (pc + 3) L (.int (d.1 14 g) :: st) NT (hp (dk d) m) ce sl) : xV F pc L (.ref (gC g) :: st) NT (hp (dk d) m) ce sl := x_getf hf (lt_G h) (hd_G h) rfl hd kk
theorem pG4 {g : Nat} (h : g < 200) {idx : Nat} {v : Int32} (hf : xFP F.2.1.1.cls idx 3 4 (.int) false) (hd : decode F.2.1.2.1 pc = .ok (.putfield idx, 3)) (kk : xV F (pc + 3) L st NT (hp (dk (mset d 14 g v)) m) ce sl) : xV F pc L (.int v :: .ref (gC g) :: st) NT (hp (dk d) m) ce sl := x_putf hf (lt_G h) (hd_G h) rfl rfl (by simp) hd (xV.heap (d_put 14 g v rfl (Nat.lt_of_succ_lt (gC_lt h)) ((congrArg (ceD _) dC_G).trans (by simp [ceD, gO, sv, mset, upd]))) kk)
theorem gG5 {g : Nat} (h : g < 200) {idx : Nat} (hf : xFG F.2.1.1.cls idx 3 5) (hd : decode F.2.1.2.1 pc = .ok (.getfield idx, 3)) (kk : xV F (pc + 3) L (.int (d.1 15 g) :: st) NT (hp (dk d) m) ce sl) : xV F pc L (.ref (gC g) :: st) NT (hp (dk d) m) ce sl := x_getf hf (lt_G h) (hd_G h) rfl hd kk
theorem pG5 {g : Nat} (h : g < 200) {idx : Nat} {v : Int32} (hf : xFP F.2.1.1.cls idx 3 5 (.int) false) (hd : decode F.2.1.2.1 pc = .ok (.putfield idx, 3)) (kk : xV F (pc + 3) L st NT (hp (dk (mset d 15 g v)) m) ce sl) : xV F pc L (.int v :: .ref (gC g) :: st) NT (hp (dk d) m) ce sl := x_putf hf (lt_G h) (hd_G h) rfl rfl (by simp) hd (xV.heap (d_put 15 g v rfl (Nat.lt_of_succ_lt (gC_lt h)) ((congrArg (ceD _) dC_G).trans (by simp [ceD, gO, sv, mset, upd]))) kk)
theorem gS0 {s : Nat} (h : s < 3) {idx : Nat} (hf : xFG F.2.1.1.cls idx 8 0) (hd : decode F.2.1.2.1 pc = .ok (.getfield idx, 3)) (kk : xV F (pc + 3) L (.ref (sC s + 1) :: st) NT (hp (dk d) m) ce sl) : xV F pc L (.ref (sC s) :: st) NT (hp (dk d) m) ce sl := x_getf hf (lt_S h) (hd_S h) rfl hd kk
theorem gS1 {s : Nat} (h : s < 3) {idx : Nat} (hf : xFG F.2.1.1.cls idx 8 1) (hd : decode F.2.1.2.1 pc = .ok (.getfield idx, 3)) (kk : xV F (pc + 3) L (.ref (sC s + 2) :: st) NT (hp (dk d) m) ce sl) : xV F pc L (.ref (sC s) :: st) NT (hp (dk d) m) ce sl := x_getf hf (lt_S h) (hd_S h) rfl hd kk
theorem gS2 {s : Nat} (h : s < 3) {idx : Nat} (hf : xFG F.2.1.1.cls idx 8 2) (hd : decode F.2.1.2.1 pc = .ok (.getfield idx, 3)) (kk : xV F (pc + 3) L (.int (d.1 96 s) :: st) NT (hp (dk d) m) ce sl) : xV F pc L (.ref (sC s) :: st) NT (hp (dk d) m) ce sl := x_getf hf (lt_S h) (hd_S h) rfl hd kk
theorem pS2 {s : Nat} (h : s < 3) {idx : Nat} {v : Int32} (hf : xFP F.2.1.1.cls idx 8 2 (.int) false) (hd : decode F.2.1.2.1 pc = .ok (.putfield idx, 3)) (kk : xV F (pc + 3) L st NT (hp (dk (mset d 96 s v)) m) ce sl) : xV F pc L (.int v :: .ref (sC s) :: st) NT (hp (dk d) m) ce sl := x_putf hf (lt_S h) (hd_S h) rfl rfl (by simp) hd (xV.heap (d_put 96 s v rfl (sC_l0 h) ((congrArg (ceD _) (dC_S h).1).trans (by simp [ceD, sv, mset, upd]))) kk)
theorem go0_0 {idx : Nat} (hf : xFG F.2.1.1.cls idx 9 0) (hd : decode F.2.1.2.1 pc = .ok (.getfield idx, 3)) (kk : xV F (pc + 3) L (.ref 1 :: st) NT (hp (dk d) m) ce sl) : xV F pc L (.ref 0 :: st) NT (hp (dk d) m) ce sl := x_getf hf (by decide) (hd_at (a := 0) (by decide) rfl) rfl hd kk
theorem go0_1 {idx : Nat} (hf : xFG F.2.1.1.cls idx 9 1) (hd : decode F.2.1.2.1 pc = .ok (.getfield idx, 3)) (kk : xV F (pc + 3) L (.ref 166 :: st) NT (hp (dk d) m) ce sl) : xV F pc L (.ref 0 :: st) NT (hp (dk d) m) ce sl := x_getf hf (by decide) (hd_at (a := 0) (by decide) rfl) rfl hd kk
theorem go0_2 {idx : Nat} (hf : xFG F.2.1.1.cls idx 9 2) (hd : decode F.2.1.2.1 pc = .ok (.getfield idx, 3)) (kk : xV F (pc + 3) L (.ref 167 :: st) NT (hp (dk d) m) ce sl) : xV F pc L (.ref 0 :: st) NT (hp (dk d) m) ce sl := x_getf hf (by decide) (hd_at (a := 0) (by decide) rfl) rfl hd kk
theorem go0_3 {idx : Nat} (hf : xFG F.2.1.1.cls idx 9 3) (hd : decode F.2.1.2.1 pc = .ok (.getfield idx, 3)) (kk : xV F (pc + 3) L (.ref 171 :: st) NT (hp (dk d) m) ce sl) : xV F pc L (.ref 0 :: st) NT (hp (dk d) m) ce sl := x_getf hf (by decide) (hd_at (a := 0) (by decide) rfl) rfl hd kk
theorem go0_4 {idx : Nat} (hf : xFG F.2.1.1.cls idx 9 4) (hd : decode F.2.1.2.1 pc = .ok (.getfield idx, 3)) (kk : xV F (pc + 3) L (.ref 202 :: st) NT (hp (dk d) m) ce sl) : xV F pc L (.ref 0 :: st) NT (hp (dk d) m) ce sl := x_getf hf (by decide) (hd_at (a := 0) (by decide) rfl) rfl hd kk
theorem go0_5 {idx : Nat} (hf : xFG F.2.1.1.cls idx 9 5) (hd : decode F.2.1.2.1 pc = .ok (.getfield idx, 3)) (kk : xV F (pc + 3) L (.ref 208 :: st) NT (hp (dk d) m) ce sl) : xV F pc L (.ref 0 :: st) NT (hp (dk d) m) ce sl := x_getf hf (by decide) (hd_at (a := 0) (by decide) rfl) rfl hd kk
theorem go0_6 {idx : Nat} (hf : xFG F.2.1.1.cls idx 9 6) (hd : decode F.2.1.2.1 pc = .ok (.getfield idx, 3)) (kk : xV F (pc + 3) L (.int (d.1 16 0) :: st) NT (hp (dk d) m) ce sl) : xV F pc L (.ref 0 :: st) NT (hp (dk d) m) ce sl := x_getf hf (by decide) (hd_at (a := 0) (by decide) rfl) rfl hd kk
theorem po0_6 {idx : Nat} {v : Int32} (hf : xFP F.2.1.1.cls idx 9 6 (.int) false) (hd : decode F.2.1.2.1 pc = .ok (.putfield idx, 3)) (kk : xV F (pc + 3) L st NT (hp (dk (mset d 16 0 v)) m) ce sl) : xV F pc L (.int v :: .ref 0 :: st) NT (hp (dk d) m) ce sl := x_putf hf (by decide) (hd_at (a := 0) (by decide) rfl) rfl rfl (by simp) hd (xV.heap (d_put 16 0 v rfl (by decide) (rfl)) kk)
theorem go0_7 {idx : Nat} (hf : xFG F.2.1.1.cls idx 9 7) (hd : decode F.2.1.2.1 pc = .ok (.getfield idx, 3)) (kk : xV F (pc + 3) L (.int (d.1 7 0) :: st) NT (hp (dk d) m) ce sl) : xV F pc L (.ref 0 :: st) NT (hp (dk d) m) ce sl := x_getf hf (by decide) (hd_at (a := 0) (by decide) rfl) rfl hd kk
theorem po0_7 {idx : Nat} {v : Int32} (hf : xFP F.2.1.1.cls idx 9 7 (.int) false) (hd : decode F.2.1.2.1 pc = .ok (.putfield idx, 3)) (kk : xV F (pc + 3) L st NT (hp (dk (mset d 7 0 v)) m) ce sl) : xV F pc L (.int v :: .ref 0 :: st) NT (hp (dk d) m) ce sl := x_putf hf (by decide) (hd_at (a := 0) (by decide) rfl) rfl rfl (by simp) hd (xV.heap (d_put 7 0 v rfl (by decide) (rfl)) kk)
theorem go0_8 {idx : Nat} (hf : xFG F.2.1.1.cls idx 9 8) (hd : decode F.2.1.2.1 pc = .ok (.getfield idx, 3)) (kk : xV F (pc + 3) L (.int (d.1 8 0) :: st) NT (hp (dk d) m) ce sl) : xV F pc L (.ref 0 :: st) NT (hp (dk d) m) ce sl := x_getf hf (by decide) (hd_at (a := 0) (by decide) rfl) rfl hd kk
theorem po0_8 {idx : Nat} {v : Int32} (hf : xFP F.2.1.1.cls idx 9 8 (.int) false) (hd : decode F.2.1.2.1 pc = .ok (.putfield idx, 3)) (kk : xV F (pc + 3) L st NT (hp (dk (mset d 8 0 v)) m) ce sl) : xV F pc L (.int v :: .ref 0 :: st) NT (hp (dk d) m) ce sl := x_putf hf (by decide) (hd_at (a := 0) (by decide) rfl) rfl rfl (by simp) hd (xV.heap (d_put 8 0 v rfl (by decide) (rfl)) kk)
theorem go0_9 {idx : Nat} (hf : xFG F.2.1.1.cls idx 9 9) (hd : decode F.2.1.2.1 pc = .ok (.getfield idx, 3)) (kk : xV F (pc + 3) L (.int (d.1 9 0) :: st) NT (hp (dk d) m) ce sl) : xV F pc L (.ref 0 :: st) NT (hp (dk d) m) ce sl := x_getf hf (by decide) (hd_at (a := 0) (by decide) rfl) rfl hd kk
theorem po0_9 {idx : Nat} {v : Int32} (hf : xFP F.2.1.1.cls idx 9 9 (.int) false) (hd : decode F.2.1.2.1 pc = .ok (.putfield idx, 3)) (kk : xV F (pc + 3) L st NT (hp (dk (mset d 9 0 v)) m) ce sl) : xV F pc L (.int v :: .ref 0 :: st) NT (hp (dk d) m) ce sl := x_putf hf (by decide) (hd_at (a := 0) (by decide) rfl) rfl rfl (by simp) hd (xV.heap (d_put 9 0 v rfl (by decide) (rfl)) kk)
theorem go0_10 {idx : Nat} (hf : xFG F.2.1.1.cls idx 9 10) (hd : decode F.2.1.2.1 pc = .ok (.getfield idx, 3)) (kk : xV F (pc + 3) L (.int (d.1 50 0) :: st) NT (hp (dk d) m) ce sl) : xV F pc L (.ref 0 :: st) NT (hp (dk d) m) ce sl := x_getf hf (by decide) (hd_at (a := 0) (by decide) rfl) rfl hd kk
theorem po0_10 {idx : Nat} {v : Int32} (hf : xFP F.2.1.1.cls idx 9 10 (.int) false) (hd : decode F.2.1.2.1 pc = .ok (.putfield idx, 3)) (kk : xV F (pc + 3) L st NT (hp (dk (mset d 50 0 v)) m) ce sl) : xV F pc L (.int v :: .ref 0 :: st) NT (hp (dk d) m) ce sl := x_putf hf (by decide) (hd_at (a := 0) (by decide) rfl) rfl rfl (by simp) hd (xV.heap (d_put 50 0 v rfl (by decide) (rfl)) kk)
theorem go167_0 {idx : Nat} (hf : xFG F.2.1.1.cls idx 0 0) (hd : decode F.2.1.2.1 pc = .ok (.getfield idx, 3)) (kk : xV F (pc + 3) L (.ref 168 :: st) NT (hp (dk d) m) ce sl) : xV F pc L (.ref 167 :: st) NT (hp (dk d) m) ce sl := x_getf hf (by decide) (hd_at (a := 167) (by decide) rfl) rfl hd kk
theorem go167_1 {idx : Nat} (hf : xFG F.2.1.1.cls idx 0 1) (hd : decode F.2.1.2.1 pc = .ok (.getfield idx, 3)) (kk : xV F (pc + 3) L (.ref 169 :: st) NT (hp (dk d) m) ce sl) : xV F pc L (.ref 167 :: st) NT (hp (dk d) m) ce sl := x_getf hf (by decide) (hd_at (a := 167) (by decide) rfl) rfl hd kk
theorem go167_2 {idx : Nat} (hf : xFG F.2.1.1.cls idx 0 2) (hd : decode F.2.1.2.1 pc = .ok (.getfield idx, 3)) (kk : xV F (pc + 3) L (.ref 170 :: st) NT (hp (dk d) m) ce sl) : xV F pc L (.ref 167 :: st) NT (hp (dk d) m) ce sl := x_getf hf (by decide) (hd_at (a := 167) (by decide) rfl) rfl hd kk
theorem go167_3 {idx : Nat} (hf : xFG F.2.1.1.cls idx 0 3) (hd : decode F.2.1.2.1 pc = .ok (.getfield idx, 3)) (kk : xV F (pc + 3) L (.int (d.1 54 0) :: st) NT (hp (dk d) m) ce sl) : xV F pc L (.ref 167 :: st) NT (hp (dk d) m) ce sl := x_getf hf (by decide) (hd_at (a := 167) (by decide) rfl) rfl hd kk
theorem po167_3 {idx : Nat} {v : Int32} (hf : xFP F.2.1.1.cls idx 0 3 (.int) false) (hd : decode F.2.1.2.1 pc = .ok (.putfield idx, 3)) (kk : xV F (pc + 3) L st NT (hp (dk (mset d 54 0 v)) m) ce sl) : xV F pc L (.int v :: .ref 167 :: st) NT (hp (dk d) m) ce sl := x_putf hf (by decide) (hd_at (a := 167) (by decide) rfl) rfl rfl (by simp) hd (xV.heap (d_put 54 0 v rfl (by decide) (rfl)) kk)
theorem go167_4 {idx : Nat} (hf : xFG F.2.1.1.cls idx 0 4) (hd : decode F.2.1.2.1 pc = .ok (.getfield idx, 3)) (kk : xV F (pc + 3) L (.int (d.1 46 0) :: st) NT (hp (dk d) m) ce sl) : xV F pc L (.ref 167 :: st) NT (hp (dk d) m) ce sl := x_getf hf (by decide) (hd_at (a := 167) (by decide) rfl) rfl hd kk
theorem po167_4 {idx : Nat} {v : Int32} (hf : xFP F.2.1.1.cls idx 0 4 (.int) false) (hd : decode F.2.1.2.1 pc = .ok (.putfield idx, 3)) (kk : xV F (pc + 3) L st NT (hp (dk (mset d 46 0 v)) m) ce sl) : xV F pc L (.int v :: .ref 167 :: st) NT (hp (dk d) m) ce sl := x_putf hf (by decide) (hd_at (a := 167) (by decide) rfl) rfl rfl (by simp) hd (xV.heap (d_put 46 0 v rfl (by decide) (rfl)) kk)
theorem go171_0 {idx : Nat} (hf : xFG F.2.1.1.cls idx 5 0) (hd : decode F.2.1.2.1 pc = .ok (.getfield idx, 3)) (kk : xV F (pc + 3) L (.ref 172 :: st) NT (hp (dk d) m) ce sl) : xV F pc L (.ref 171 :: st) NT (hp (dk d) m) ce sl := x_getf hf (by decide) (hd_at (a := 171) (by decide) rfl) rfl hd kk
theorem go171_1 {idx : Nat} (hf : xFG F.2.1.1.cls idx 5 1) (hd : decode F.2.1.2.1 pc = .ok (.getfield idx, 3)) (kk : xV F (pc + 3) L (.ref 198 :: st) NT (hp (dk d) m) ce sl) : xV F pc L (.ref 171 :: st) NT (hp (dk d) m) ce sl := x_getf hf (by decide) (hd_at (a := 171) (by decide) rfl) rfl hd kk
theorem go171_2 {idx : Nat} (hf : xFG F.2.1.1.cls idx 5 2) (hd : decode F.2.1.2.1 pc = .ok (.getfield idx, 3)) (kk : xV F (pc + 3) L (.ref 199 :: st) NT (hp (dk d) m) ce sl) : xV F pc L (.ref 171 :: st) NT (hp (dk d) m) ce sl := x_getf hf (by decide) (hd_at (a := 171) (by decide) rfl) rfl hd kk
theorem go171_3 {idx : Nat} (hf : xFG F.2.1.1.cls idx 5 3) (hd : decode F.2.1.2.1 pc = .ok (.getfield idx, 3)) (kk : xV F (pc + 3) L (.ref 200 :: st) NT (hp (dk d) m) ce sl) : xV F pc L (.ref 171 :: st) NT (hp (dk d) m) ce sl := x_getf hf (by decide) (hd_at (a := 171) (by decide) rfl) rfl hd kk
theorem go171_4 {idx : Nat} (hf : xFG F.2.1.1.cls idx 5 4) (hd : decode F.2.1.2.1 pc = .ok (.getfield idx, 3)) (kk : xV F (pc + 3) L (.ref 201 :: st) NT (hp (dk d) m) ce sl) : xV F pc L (.ref 171 :: st) NT (hp (dk d) m) ce sl := x_getf hf (by decide) (hd_at (a := 171) (by decide) rfl) rfl hd kk
theorem go171_5 {idx : Nat} (hf : xFG F.2.1.1.cls idx 5 5) (hd : decode F.2.1.2.1 pc = .ok (.getfield idx, 3)) (kk : xV F (pc + 3) L (.int (d.1 61 0) :: st) NT (hp (dk d) m) ce sl) : xV F pc L (.ref 171 :: st) NT (hp (dk d) m) ce sl := x_getf hf (by decide) (hd_at (a := 171) (by decide) rfl) rfl hd kk
theorem po171_5 {idx : Nat} {v : Int32} (hf : xFP F.2.1.1.cls idx 5 5 (.int) false) (hd : decode F.2.1.2.1 pc = .ok (.putfield idx, 3)) (kk : xV F (pc + 3) L st NT (hp (dk (mset d 61 0 v)) m) ce sl) : xV F pc L (.int v :: .ref 171 :: st) NT (hp (dk d) m) ce sl := x_putf hf (by decide) (hd_at (a := 171) (by decide) rfl) rfl rfl (by simp) hd (xV.heap (d_put 61 0 v rfl (by decide) (rfl)) kk)
theorem go171_6 {idx : Nat} (hf : xFG F.2.1.1.cls idx 5 6) (hd : decode F.2.1.2.1 pc = .ok (.getfield idx, 3)) (kk : xV F (pc + 3) L (.int (d.1 62 0) :: st) NT (hp (dk d) m) ce sl) : xV F pc L (.ref 171 :: st) NT (hp (dk d) m) ce sl := x_getf hf (by decide) (hd_at (a := 171) (by decide) rfl) rfl hd kk
theorem po171_6 {idx : Nat} {v : Int32} (hf : xFP F.2.1.1.cls idx 5 6 (.int) false) (hd : decode F.2.1.2.1 pc = .ok (.putfield idx, 3)) (kk : xV F (pc + 3) L st NT (hp (dk (mset d 62 0 v)) m) ce sl) : xV F pc L (.int v :: .ref 171 :: st) NT (hp (dk d) m) ce sl := x_putf hf (by decide) (hd_at (a := 171) (by decide) rfl) rfl rfl (by simp) hd (xV.heap (d_put 62 0 v rfl (by decide) (rfl)) kk)
theorem go171_7 {idx : Nat} (hf : xFG F.2.1.1.cls idx 5 7) (hd : decode F.2.1.2.1 pc = .ok (.getfield idx, 3)) (kk : xV F (pc + 3) L (.int (d.1 63 0) :: st) NT (hp (dk d) m) ce sl) : xV F pc L (.ref 171 :: st) NT (hp (dk d) m) ce sl := x_getf hf (by decide) (hd_at (a := 171) (by decide) rfl) rfl hd kk
theorem po171_7 {idx : Nat} {v : Int32} (hf : xFP F.2.1.1.cls idx 5 7 (.int) false) (hd : decode F.2.1.2.1 pc = .ok (.putfield idx, 3)) (kk : xV F (pc + 3) L st NT (hp (dk (mset d 63 0 v)) m) ce sl) : xV F pc L (.int v :: .ref 171 :: st) NT (hp (dk d) m) ce sl := x_putf hf (by decide) (hd_at (a := 171) (by decide) rfl) rfl rfl (by simp) hd (xV.heap (d_put 63 0 v rfl (by decide) (rfl)) kk)
theorem go171_8 {idx : Nat} (hf : xFG F.2.1.1.cls idx 5 8) (hd : decode F.2.1.2.1 pc = .ok (.getfield idx, 3)) (kk : xV F (pc + 3) L (.int (d.1 64 0) :: st) NT (hp (dk d) m) ce sl) : xV F pc L (.ref 171 :: st) NT (hp (dk d) m) ce sl := x_getf hf (by decide) (hd_at (a := 171) (by decide) rfl) rfl hd kk
theorem po171_8 {idx : Nat} {v : Int32} (hf : xFP F.2.1.1.cls idx 5 8 (.int) false) (hd : decode F.2.1.2.1 pc = .ok (.putfield idx, 3)) (kk : xV F (pc + 3) L st NT (hp (dk (mset d 64 0 v)) m) ce sl) : xV F pc L (.int v :: .ref 171 :: st) NT (hp (dk d) m) ce sl := x_putf hf (by decide) (hd_at (a := 171) (by decide) rfl) rfl rfl (by simp) hd (xV.heap (d_put 64 0 v rfl (by decide) (rfl)) kk)
theorem go172_0 {idx : Nat} (hf : xFG F.2.1.1.cls idx 6 0) (hd : decode F.2.1.2.1 pc = .ok (.getfield idx, 3)) (kk : xV F (pc + 3) L (.ref 173 :: st) NT (hp (dk d) m) ce sl) : xV F pc L (.ref 172 :: st) NT (hp (dk d) m) ce sl := x_getf hf (by decide) (hd_at (a := 172) (by decide) rfl) rfl hd kk
theorem go172_1 {idx : Nat} (hf : xFG F.2.1.1.cls idx 6 1) (hd : decode F.2.1.2.1 pc = .ok (.getfield idx, 3)) (kk : xV F (pc + 3) L (.int (d.1 65 0) :: st) NT (hp (dk d) m) ce sl) : xV F pc L (.ref 172 :: st) NT (hp (dk d) m) ce sl := x_getf hf (by decide) (hd_at (a := 172) (by decide) rfl) rfl hd kk
theorem po172_1 {idx : Nat} {v : Int32} (hf : xFP F.2.1.1.cls idx 6 1 (.int) false) (hd : decode F.2.1.2.1 pc = .ok (.putfield idx, 3)) (kk : xV F (pc + 3) L st NT (hp (dk (mset d 65 0 v)) m) ce sl) : xV F pc L (.int v :: .ref 172 :: st) NT (hp (dk d) m) ce sl := x_putf hf (by decide) (hd_at (a := 172) (by decide) rfl) rfl rfl (by simp) hd (xV.heap (d_put 65 0 v rfl (by decide) (rfl)) kk)
theorem go172_2 {idx : Nat} (hf : xFG F.2.1.1.cls idx 6 2) (hd : decode F.2.1.2.1 pc = .ok (.getfield idx, 3)) (kk : xV F (pc + 3) L (.ref 188 :: st) NT (hp (dk d) m) ce sl) : xV F pc L (.ref 172 :: st) NT (hp (dk d) m) ce sl := x_getf hf (by decide) (hd_at (a := 172) (by decide) rfl) rfl hd kk
theorem go172_3 {idx : Nat} (hf : xFG F.2.1.1.cls idx 6 3) (hd : decode F.2.1.2.1 pc = .ok (.getfield idx, 3)) (kk : xV F (pc + 3) L (.ref 189 :: st) NT (hp (dk d) m) ce sl) : xV F pc L (.ref 172 :: st) NT (hp (dk d) m) ce sl := x_getf hf (by decide) (hd_at (a := 172) (by decide) rfl) rfl hd kk
theorem go172_4 {idx : Nat} (hf : xFG F.2.1.1.cls idx 6 4) (hd : decode F.2.1.2.1 pc = .ok (.getfield idx, 3)) (kk : xV F (pc + 3) L (.ref 190 :: st) NT (hp (dk d) m) ce sl) : xV F pc L (.ref 172 :: st) NT (hp (dk d) m) ce sl := x_getf hf (by decide) (hd_at (a := 172) (by decide) rfl) rfl hd kk
theorem go172_5 {idx : Nat} (hf : xFG F.2.1.1.cls idx 6 5) (hd : decode F.2.1.2.1 pc = .ok (.getfield idx, 3)) (kk : xV F (pc + 3) L (.ref 191 :: st) NT (hp (dk d) m) ce sl) : xV F pc L (.ref 172 :: st) NT (hp (dk d) m) ce sl := x_getf hf (by decide) (hd_at (a := 172) (by decide) rfl) rfl hd kk
theorem go172_6 {idx : Nat} (hf : xFG F.2.1.1.cls idx 6 6) (hd : decode F.2.1.2.1 pc = .ok (.getfield idx, 3)) (kk : xV F (pc + 3) L (.ref 192 :: st) NT (hp (dk d) m) ce sl) : xV F pc L (.ref 172 :: st) NT (hp (dk d) m) ce sl := x_getf hf (by decide) (hd_at (a := 172) (by decide) rfl) rfl hd kk
theorem go172_7 {idx : Nat} (hf : xFG F.2.1.1.cls idx 6 7) (hd : decode F.2.1.2.1 pc = .ok (.getfield idx, 3)) (kk : xV F (pc + 3) L (.ref 193 :: st) NT (hp (dk d) m) ce sl) : xV F pc L (.ref 172 :: st) NT (hp (dk d) m) ce sl := x_getf hf (by decide) (hd_at (a := 172) (by decide) rfl) rfl hd kk
theorem go172_8 {idx : Nat} (hf : xFG F.2.1.1.cls idx 6 8) (hd : decode F.2.1.2.1 pc = .ok (.getfield idx, 3)) (kk : xV F (pc + 3) L (.ref 194 :: st) NT (hp (dk d) m) ce sl) : xV F pc L (.ref 172 :: st) NT (hp (dk d) m) ce sl := x_getf hf (by decide) (hd_at (a := 172) (by decide) rfl) rfl hd kk
theorem go172_9 {idx : Nat} (hf : xFG F.2.1.1.cls idx 6 9) (hd : decode F.2.1.2.1 pc = .ok (.getfield idx, 3)) (kk : xV F (pc + 3) L (.ref 195 :: st) NT (hp (dk d) m) ce sl) : xV F pc L (.ref 172 :: st) NT (hp (dk d) m) ce sl := x_getf hf (by decide) (hd_at (a := 172) (by decide) rfl) rfl hd kk
theorem go172_10 {idx : Nat} (hf : xFG F.2.1.1.cls idx 6 10) (hd : decode F.2.1.2.1 pc = .ok (.getfield idx, 3)) (kk : xV F (pc + 3) L (.ref 196 :: st) NT (hp (dk d) m) ce sl) : xV F pc L (.ref 172 :: st) NT (hp (dk d) m) ce sl := x_getf hf (by decide) (hd_at (a := 172) (by decide) rfl) rfl hd kk
theorem go172_11 {idx : Nat} (hf : xFG F.2.1.1.cls idx 6 11) (hd : decode F.2.1.2.1 pc = .ok (.getfield idx, 3)) (kk : xV F (pc + 3) L (.ref 197 :: st) NT (hp (dk d) m) ce sl) : xV F pc L (.ref 172 :: st) NT (hp (dk d) m) ce sl := x_getf hf (by decide) (hd_at (a := 172) (by decide) rfl) rfl hd kk
theorem go202_0 {idx : Nat} (hf : xFG F.2.1.1.cls idx 7 0) (hd : decode F.2.1.2.1 pc = .ok (.getfield idx, 3)) (kk : xV F (pc + 3) L (.ref 203 :: st) NT (hp (dk d) m) ce sl) : xV F pc L (.ref 202 :: st) NT (hp (dk d) m) ce sl := x_getf hf (by decide) (hd_at (a := 202) (by decide) rfl) rfl hd kk
theorem go202_1 {idx : Nat} (hf : xFG F.2.1.1.cls idx 7 1) (hd : decode F.2.1.2.1 pc = .ok (.getfield idx, 3)) (kk : xV F (pc + 3) L (.ref 204 :: st) NT (hp (dk d) m) ce sl) : xV F pc L (.ref 202 :: st) NT (hp (dk d) m) ce sl := x_getf hf (by decide) (hd_at (a := 202) (by decide) rfl) rfl hd kk
theorem go202_2 {idx : Nat} (hf : xFG F.2.1.1.cls idx 7 2) (hd : decode F.2.1.2.1 pc = .ok (.getfield idx, 3)) (kk : xV F (pc + 3) L (.ref 205 :: st) NT (hp (dk d) m) ce sl) : xV F pc L (.ref 202 :: st) NT (hp (dk d) m) ce sl := x_getf hf (by decide) (hd_at (a := 202) (by decide) rfl) rfl hd kk
theorem go202_3 {idx : Nat} (hf : xFG F.2.1.1.cls idx 7 3) (hd : decode F.2.1.2.1 pc = .ok (.getfield idx, 3)) (kk : xV F (pc + 3) L (.ref 206 :: st) NT (hp (dk d) m) ce sl) : xV F pc L (.ref 202 :: st) NT (hp (dk d) m) ce sl := x_getf hf (by decide) (hd_at (a := 202) (by decide) rfl) rfl hd kk
theorem go202_4 {idx : Nat} (hf : xFG F.2.1.1.cls idx 7 4) (hd : decode F.2.1.2.1 pc = .ok (.getfield idx, 3)) (kk : xV F (pc + 3) L (.ref 207 :: st) NT (hp (dk d) m) ce sl) : xV F pc L (.ref 202 :: st) NT (hp (dk d) m) ce sl := x_getf hf (by decide) (hd_at (a := 202) (by decide) rfl) rfl hd kk
theorem go202_5 {idx : Nat} (hf : xFG F.2.1.1.cls idx 7 5) (hd : decode F.2.1.2.1 pc = .ok (.getfield idx, 3)) (kk : xV F (pc + 3) L (.int (d.1 81 0) :: st) NT (hp (dk d) m) ce sl) : xV F pc L (.ref 202 :: st) NT (hp (dk d) m) ce sl := x_getf hf (by decide) (hd_at (a := 202) (by decide) rfl) rfl hd kk
theorem po202_5 {idx : Nat} {v : Int32} (hf : xFP F.2.1.1.cls idx 7 5 (.int) false) (hd : decode F.2.1.2.1 pc = .ok (.putfield idx, 3)) (kk : xV F (pc + 3) L st NT (hp (dk (mset d 81 0 v)) m) ce sl) : xV F pc L (.int v :: .ref 202 :: st) NT (hp (dk d) m) ce sl := x_putf hf (by decide) (hd_at (a := 202) (by decide) rfl) rfl rfl (by simp) hd (xV.heap (d_put 81 0 v rfl (by decide) (rfl)) kk)
theorem go202_6 {idx : Nat} (hf : xFG F.2.1.1.cls idx 7 6) (hd : decode F.2.1.2.1 pc = .ok (.getfield idx, 3)) (kk : xV F (pc + 3) L (.int (d.1 82 0) :: st) NT (hp (dk d) m) ce sl) : xV F pc L (.ref 202 :: st) NT (hp (dk d) m) ce sl := x_getf hf (by decide) (hd_at (a := 202) (by decide) rfl) rfl hd kk
theorem po202_6 {idx : Nat} {v : Int32} (hf : xFP F.2.1.1.cls idx 7 6 (.int) false) (hd : decode F.2.1.2.1 pc = .ok (.putfield idx, 3)) (kk : xV F (pc + 3) L st NT (hp (dk (mset d 82 0 v)) m) ce sl) : xV F pc L (.int v :: .ref 202 :: st) NT (hp (dk d) m) ce sl := x_putf hf (by decide) (hd_at (a := 202) (by decide) rfl) rfl rfl (by simp) hd (xV.heap (d_put 82 0 v rfl (by decide) (rfl)) kk)
theorem go202_7 {idx : Nat} (hf : xFG F.2.1.1.cls idx 7 7) (hd : decode F.2.1.2.1 pc = .ok (.getfield idx, 3)) (kk : xV F (pc + 3) L (.int (d.1 83 0) :: st) NT (hp (dk d) m) ce sl) : xV F pc L (.ref 202 :: st) NT (hp (dk d) m) ce sl := x_getf hf (by decide) (hd_at (a := 202) (by decide) rfl) rfl hd kk
theorem po202_7 {idx : Nat} {v : Int32} (hf : xFP F.2.1.1.cls idx 7 7 (.int) false) (hd : decode F.2.1.2.1 pc = .ok (.putfield idx, 3)) (kk : xV F (pc + 3) L st NT (hp (dk (mset d 83 0 v)) m) ce sl) : xV F pc L (.int v :: .ref 202 :: st) NT (hp (dk d) m) ce sl := x_putf hf (by decide) (hd_at (a := 202) (by decide) rfl) rfl rfl (by simp) hd (xV.heap (d_put 83 0 v rfl (by decide) (rfl)) kk)
theorem go202_8 {idx : Nat} (hf : xFG F.2.1.1.cls idx 7 8) (hd : decode F.2.1.2.1 pc = .ok (.getfield idx, 3)) (kk : xV F (pc + 3) L (.int (d.1 84 0) :: st) NT (hp (dk d) m) ce sl) : xV F pc L (.ref 202 :: st) NT (hp (dk d) m) ce sl := x_getf hf (by decide) (hd_at (a := 202) (by decide) rfl) rfl hd kk
theorem po202_8 {idx : Nat} {v : Int32} (hf : xFP F.2.1.1.cls idx 7 8 (.int) false) (hd : decode F.2.1.2.1 pc = .ok (.putfield idx, 3)) (kk : xV F (pc + 3) L st NT (hp (dk (mset d 84 0 v)) m) ce sl) : xV F pc L (.int v :: .ref 202 :: st) NT (hp (dk d) m) ce sl := x_putf hf (by decide) (hd_at (a := 202) (by decide) rfl) rfl rfl (by simp) hd (xV.heap (d_put 84 0 v rfl (by decide) (rfl)) kk)
theorem go202_9 {idx : Nat} (hf : xFG F.2.1.1.cls idx 7 9) (hd : decode F.2.1.2.1 pc = .ok (.getfield idx, 3)) (kk : xV F (pc + 3) L (.int (d.1 85 0) :: st) NT (hp (dk d) m) ce sl) : xV F pc L (.ref 202 :: st) NT (hp (dk d) m) ce sl := x_getf hf (by decide) (hd_at (a := 202) (by decide) rfl) rfl hd kk
theorem po202_9 {idx : Nat} {v : Int32} (hf : xFP F.2.1.1.cls idx 7 9 (.int) false) (hd : decode F.2.1.2.1 pc = .ok (.putfield idx, 3)) (kk : xV F (pc + 3) L st NT (hp (dk (mset d 85 0 v)) m) ce sl) : xV F pc L (.int v :: .ref 202 :: st) NT (hp (dk d) m) ce sl := x_putf hf (by decide) (hd_at (a := 202) (by decide) rfl) rfl rfl (by simp) hd (xV.heap (d_put 85 0 v rfl (by decide) (rfl)) kk)
theorem go202_10 {idx : Nat} (hf : xFG F.2.1.1.cls idx 7 10) (hd : decode F.2.1.2.1 pc = .ok (.getfield idx, 3)) (kk : xV F (pc + 3) L (.int (d.1 86 0) :: st) NT (hp (dk d) m) ce sl) : xV F pc L (.ref 202 :: st) NT (hp (dk d) m) ce sl := x_getf hf (by decide) (hd_at (a := 202) (by decide) rfl) rfl hd kk
theorem po202_10 {idx : Nat} {v : Int32} (hf : xFP F.2.1.1.cls idx 7 10 (.int) false) (hd : decode F.2.1.2.1 pc = .ok (.putfield idx, 3)) (kk : xV F (pc + 3) L st NT (hp (dk (mset d 86 0 v)) m) ce sl) : xV F pc L (.int v :: .ref 202 :: st) NT (hp (dk d) m) ce sl := x_putf hf (by decide) (hd_at (a := 202) (by decide) rfl) rfl rfl (by simp) hd (xV.heap (d_put 86 0 v rfl (by decide) (rfl)) kk)
theorem go202_11 {idx : Nat} (hf : xFG F.2.1.1.cls idx 7 11) (hd : decode F.2.1.2.1 pc = .ok (.getfield idx, 3)) (kk : xV F (pc + 3) L (.int (d.1 87 0) :: st) NT (hp (dk d) m) ce sl) : xV F pc L (.ref 202 :: st) NT (hp (dk d) m) ce sl := x_getf hf (by decide) (hd_at (a := 202) (by decide) rfl) rfl hd kk
theorem po202_11 {idx : Nat} {v : Int32} (hf : xFP F.2.1.1.cls idx 7 11 (.int) false) (hd : decode F.2.1.2.1 pc = .ok (.putfield idx, 3)) (kk : xV F (pc + 3) L st NT (hp (dk (mset d 87 0 v)) m) ce sl) : xV F pc L (.int v :: .ref 202 :: st) NT (hp (dk d) m) ce sl := x_putf hf (by decide) (hd_at (a := 202) (by decide) rfl) rfl rfl (by simp) hd (xV.heap (d_put 87 0 v rfl (by decide) (rfl)) kk)
theorem go202_12 {idx : Nat} (hf : xFG F.2.1.1.cls idx 7 12) (hd : decode F.2.1.2.1 pc = .ok (.getfield idx, 3)) (kk : xV F (pc + 3) L (.int (d.1 88 0) :: st) NT (hp (dk d) m) ce sl) : xV F pc L (.ref 202 :: st) NT (hp (dk d) m) ce sl := x_getf hf (by decide) (hd_at (a := 202) (by decide) rfl) rfl hd kk
theorem po202_12 {idx : Nat} {v : Int32} (hf : xFP F.2.1.1.cls idx 7 12 (.int) false) (hd : decode F.2.1.2.1 pc = .ok (.putfield idx, 3)) (kk : xV F (pc + 3) L st NT (hp (dk (mset d 88 0 v)) m) ce sl) : xV F pc L (.int v :: .ref 202 :: st) NT (hp (dk d) m) ce sl := x_putf hf (by decide) (hd_at (a := 202) (by decide) rfl) rfl rfl (by simp) hd (xV.heap (d_put 88 0 v rfl (by decide) (rfl)) kk)
theorem go208_0 {idx : Nat} (hf : xFG F.2.1.1.cls idx 2 0) (hd : decode F.2.1.2.1 pc = .ok (.getfield idx, 3)) (kk : xV F (pc + 3) L (.ref 209 :: st) NT (hp (dk d) m) ce sl) : xV F pc L (.ref 208 :: st) NT (hp (dk d) m) ce sl := x_getf hf (by decide) (hd_at (a := 208) (by decide) rfl) rfl hd kk
theorem go208_1 {idx : Nat} (hf : xFG F.2.1.1.cls idx 2 1) (hd : decode F.2.1.2.1 pc = .ok (.getfield idx, 3)) (kk : xV F (pc + 3) L (.ref 210 :: st) NT (hp (dk d) m) ce sl) : xV F pc L (.ref 208 :: st) NT (hp (dk d) m) ce sl := x_getf hf (by decide) (hd_at (a := 208) (by decide) rfl) rfl hd kk
theorem go208_2 {idx : Nat} (hf : xFG F.2.1.1.cls idx 2 2) (hd : decode F.2.1.2.1 pc = .ok (.getfield idx, 3)) (kk : xV F (pc + 3) L (.ref 211 :: st) NT (hp (dk d) m) ce sl) : xV F pc L (.ref 208 :: st) NT (hp (dk d) m) ce sl := x_getf hf (by decide) (hd_at (a := 208) (by decide) rfl) rfl hd kk
theorem go208_3 {idx : Nat} (hf : xFG F.2.1.1.cls idx 2 3) (hd : decode F.2.1.2.1 pc = .ok (.getfield idx, 3)) (kk : xV F (pc + 3) L (.ref 212 :: st) NT (hp (dk d) m) ce sl) : xV F pc L (.ref 208 :: st) NT (hp (dk d) m) ce sl := x_getf hf (by decide) (hd_at (a := 208) (by decide) rfl) rfl hd kk
theorem go208_4 {idx : Nat} (hf : xFG F.2.1.1.cls idx 2 4) (hd : decode F.2.1.2.1 pc = .ok (.getfield idx, 3)) (kk : xV F (pc + 3) L (.ref 215 :: st) NT (hp (dk d) m) ce sl) : xV F pc L (.ref 208 :: st) NT (hp (dk d) m) ce sl := x_getf hf (by decide) (hd_at (a := 208) (by decide) rfl) rfl hd kk
theorem go208_5 {idx : Nat} (hf : xFG F.2.1.1.cls idx 2 5) (hd : decode F.2.1.2.1 pc = .ok (.getfield idx, 3)) (kk : xV F (pc + 3) L (.ref 218 :: st) NT (hp (dk d) m) ce sl) : xV F pc L (.ref 208 :: st) NT (hp (dk d) m) ce sl := x_getf hf (by decide) (hd_at (a := 208) (by decide) rfl) rfl hd kk
theorem go208_6 {idx : Nat} (hf : xFG F.2.1.1.cls idx 2 6) (hd : decode F.2.1.2.1 pc = .ok (.getfield idx, 3)) (kk : xV F (pc + 3) L (.int (d.1 92 0) :: st) NT (hp (dk d) m) ce sl) : xV F pc L (.ref 208 :: st) NT (hp (dk d) m) ce sl := x_getf hf (by decide) (hd_at (a := 208) (by decide) rfl) rfl hd kk
theorem po208_6 {idx : Nat} {v : Int32} (hf : xFP F.2.1.1.cls idx 2 6 (.int) false) (hd : decode F.2.1.2.1 pc = .ok (.putfield idx, 3)) (kk : xV F (pc + 3) L st NT (hp (dk (mset d 92 0 v)) m) ce sl) : xV F pc L (.int v :: .ref 208 :: st) NT (hp (dk d) m) ce sl := x_putf hf (by decide) (hd_at (a := 208) (by decide) rfl) rfl rfl (by simp) hd (xV.heap (d_put 92 0 v rfl (by decide) (rfl)) kk)
theorem go208_7 {idx : Nat} (hf : xFG F.2.1.1.cls idx 2 7) (hd : decode F.2.1.2.1 pc = .ok (.getfield idx, 3)) (kk : xV F (pc + 3) L (.ref 221 :: st) NT (hp (dk d) m) ce sl) : xV F pc L (.ref 208 :: st) NT (hp (dk d) m) ce sl := x_getf hf (by decide) (hd_at (a := 208) (by decide) rfl) rfl hd kk
theorem go208_8 {idx : Nat} (hf : xFG F.2.1.1.cls idx 2 8) (hd : decode F.2.1.2.1 pc = .ok (.getfield idx, 3)) (kk : xV F (pc + 3) L (.ref 222 :: st) NT (hp (dk d) m) ce sl) : xV F pc L (.ref 208 :: st) NT (hp (dk d) m) ce sl := x_getf hf (by decide) (hd_at (a := 208) (by decide) rfl) rfl hd kk
theorem go208_9 {idx : Nat} (hf : xFG F.2.1.1.cls idx 2 9) (hd : decode F.2.1.2.1 pc = .ok (.getfield idx, 3)) (kk : xV F (pc + 3) L (.int (d.1 95 0) :: st) NT (hp (dk d) m) ce sl) : xV F pc L (.ref 208 :: st) NT (hp (dk d) m) ce sl := x_getf hf (by decide) (hd_at (a := 208) (by decide) rfl) rfl hd kk
theorem po208_9 {idx : Nat} {v : Int32} (hf : xFP F.2.1.1.cls idx 2 9 (.int) false) (hd : decode F.2.1.2.1 pc = .ok (.putfield idx, 3)) (kk : xV F (pc + 3) L st NT (hp (dk (mset d 95 0 v)) m) ce sl) : xV F pc L (.int v :: .ref 208 :: st) NT (hp (dk d) m) ce sl := x_putf hf (by decide) (hd_at (a := 208) (by decide) rfl) rfl rfl (by simp) hd (xV.heap (d_put 95 0 v rfl (by decide) (rfl)) kk)
theorem la168 {i : Int32} (j : Nat) (e : i = nI j) (hj : j < 60) (hd : decode F.2.1.2.1 pc = .ok (.iaload, 1)) (kk : xV F (pc + 1) L (.int (d.1 51 j) :: st) NT (hp (dk d) m) ce sl) : xV F pc L (.int i :: .ref 168 :: st) NT (hp (dk d) m) ce sl := by
  obtain ⟨h1, h2⟩ := vp_nI e hj (by decide)
  refine x_iald (by decide) (hd_at (a := 168) (by decide) rfl) h1 hd ?_
  rw [h2]
  exact kk
theorem sa168 {i v : Int32} (j : Nat) (e : i = nI j) (hj : j < 60) (hd : decode F.2.1.2.1 pc = .ok (.iastore, 1)) (kk : xV F (pc + 1) L st NT (hp (dk (mset d 51 j v)) m) ce sl) : xV F pc L (.int v :: .int i :: .ref 168 :: st) NT (hp (dk d) m) ce sl := by
  obtain ⟨h1, h2⟩ := vp_nI e hj (by decide)
  refine x_iast (by decide) (hd_at (a := 168) (by decide) rfl) h1 hd ?_
  rw [h2]
  exact xV.heap (d_put 51 j v (rfl) (by decide) (rfl)) kk
theorem la169 {i : Int32} (j : Nat) (e : i = nI j) (hj : j < 60) (hd : decode F.2.1.2.1 pc = .ok (.iaload, 1)) (kk : xV F (pc + 1) L (.int (d.1 52 j) :: st) NT (hp (dk d) m) ce sl) : xV F pc L (.int i :: .ref 169 :: st) NT (hp (dk d) m) ce sl := by
  obtain ⟨h1, h2⟩ := vp_nI e hj (by decide)
  refine x_iald (by decide) (hd_at (a := 169) (by decide) rfl) h1 hd ?_
  rw [h2]
  exact kk
theorem sa169 {i v : Int32} (j : Nat) (e : i = nI j) (hj : j < 60) (hd : decode F.2.1.2.1 pc = .ok (.iastore, 1)) (kk : xV F (pc + 1) L st NT (hp (dk (mset d 52 j v)) m) ce sl) : xV F pc L (.int v :: .int i :: .ref 169 :: st) NT (hp (dk d) m) ce sl := by
  obtain ⟨h1, h2⟩ := vp_nI e hj (by decide)
  refine x_iast (by decide) (hd_at (a := 169) (by decide) rfl) h1 hd ?_
  rw [h2]
  exact xV.heap (d_put 52 j v (rfl) (by decide) (rfl)) kk
theorem la170 {i : Int32} (j : Nat) (e : i = nI j) (hj : j < 60) (hd : decode F.2.1.2.1 pc = .ok (.iaload, 1)) (kk : xV F (pc + 1) L (.int (d.1 53 j) :: st) NT (hp (dk d) m) ce sl) : xV F pc L (.int i :: .ref 170 :: st) NT (hp (dk d) m) ce sl := by
  obtain ⟨h1, h2⟩ := vp_nI e hj (by decide)
  refine x_iald (by decide) (hd_at (a := 170) (by decide) rfl) h1 hd ?_
  rw [h2]
  exact kk
theorem sa170 {i v : Int32} (j : Nat) (e : i = nI j) (hj : j < 60) (hd : decode F.2.1.2.1 pc = .ok (.iastore, 1)) (kk : xV F (pc + 1) L st NT (hp (dk (mset d 53 j v)) m) ce sl) : xV F pc L (.int v :: .int i :: .ref 170 :: st) NT (hp (dk d) m) ce sl := by
  obtain ⟨h1, h2⟩ := vp_nI e hj (by decide)
  refine x_iast (by decide) (hd_at (a := 170) (by decide) rfl) h1 hd ?_
  rw [h2]
  exact xV.heap (d_put 53 j v (rfl) (by decide) (rfl)) kk
theorem la188 {i : Int32} (j : Nat) (e : i = nI j) (hj : j < 14) (hd : decode F.2.1.2.1 pc = .ok (.iaload, 1)) (kk : xV F (pc + 1) L (.int (d.1 66 j) :: st) NT (hp (dk d) m) ce sl) : xV F pc L (.int i :: .ref 188 :: st) NT (hp (dk d) m) ce sl := by
  obtain ⟨h1, h2⟩ := vp_nI e hj (by decide)
  refine x_iald (by decide) (hd_at (a := 188) (by decide) rfl) h1 hd ?_
  rw [h2]
  exact kk
theorem sa188 {i v : Int32} (j : Nat) (e : i = nI j) (hj : j < 14) (hd : decode F.2.1.2.1 pc = .ok (.iastore, 1)) (kk : xV F (pc + 1) L st NT (hp (dk (mset d 66 j v)) m) ce sl) : xV F pc L (.int v :: .int i :: .ref 188 :: st) NT (hp (dk d) m) ce sl := by
  obtain ⟨h1, h2⟩ := vp_nI e hj (by decide)
  refine x_iast (by decide) (hd_at (a := 188) (by decide) rfl) h1 hd ?_
  rw [h2]
  exact xV.heap (d_put 66 j v (rfl) (by decide) (rfl)) kk
theorem la189 {i : Int32} (j : Nat) (e : i = nI j) (hj : j < 15) (hd : decode F.2.1.2.1 pc = .ok (.iaload, 1)) (kk : xV F (pc + 1) L (.int (d.1 67 j) :: st) NT (hp (dk d) m) ce sl) : xV F pc L (.int i :: .ref 189 :: st) NT (hp (dk d) m) ce sl := by
  obtain ⟨h1, h2⟩ := vp_nI e hj (by decide)
  refine x_iald (by decide) (hd_at (a := 189) (by decide) rfl) h1 hd ?_
  rw [h2]
  exact kk
theorem sa189 {i v : Int32} (j : Nat) (e : i = nI j) (hj : j < 15) (hd : decode F.2.1.2.1 pc = .ok (.iastore, 1)) (kk : xV F (pc + 1) L st NT (hp (dk (mset d 67 j v)) m) ce sl) : xV F pc L (.int v :: .int i :: .ref 189 :: st) NT (hp (dk d) m) ce sl := by
  obtain ⟨h1, h2⟩ := vp_nI e hj (by decide)
  refine x_iast (by decide) (hd_at (a := 189) (by decide) rfl) h1 hd ?_
  rw [h2]
  exact xV.heap (d_put 67 j v (rfl) (by decide) (rfl)) kk
theorem la190 {i : Int32} (j : Nat) (e : i = nI j) (hj : j < 15) (hd : decode F.2.1.2.1 pc = .ok (.iaload, 1)) (kk : xV F (pc + 1) L (.int (d.1 68 j) :: st) NT (hp (dk d) m) ce sl) : xV F pc L (.int i :: .ref 190 :: st) NT (hp (dk d) m) ce sl := by
  obtain ⟨h1, h2⟩ := vp_nI e hj (by decide)
  refine x_iald (by decide) (hd_at (a := 190) (by decide) rfl) h1 hd ?_
  rw [h2]
  exact kk
theorem sa190 {i v : Int32} (j : Nat) (e : i = nI j) (hj : j < 15) (hd : decode F.2.1.2.1 pc = .ok (.iastore, 1)) (kk : xV F (pc + 1) L st NT (hp (dk (mset d 68 j v)) m) ce sl) : xV F pc L (.int v :: .int i :: .ref 190 :: st) NT (hp (dk d) m) ce sl := by
  obtain ⟨h1, h2⟩ := vp_nI e hj (by decide)
  refine x_iast (by decide) (hd_at (a := 190) (by decide) rfl) h1 hd ?_
  rw [h2]
  exact xV.heap (d_put 68 j v (rfl) (by decide) (rfl)) kk
theorem la191 {i : Int32} (j : Nat) (e : i = nI j) (hj : j < 14) (hd : decode F.2.1.2.1 pc = .ok (.iaload, 1)) (kk : xV F (pc + 1) L (.int (d.1 69 j) :: st) NT (hp (dk d) m) ce sl) : xV F pc L (.int i :: .ref 191 :: st) NT (hp (dk d) m) ce sl := by
  obtain ⟨h1, h2⟩ := vp_nI e hj (by decide)
  refine x_iald (by decide) (hd_at (a := 191) (by decide) rfl) h1 hd ?_
  rw [h2]
  exact kk
theorem sa191 {i v : Int32} (j : Nat) (e : i = nI j) (hj : j < 14) (hd : decode F.2.1.2.1 pc = .ok (.iastore, 1)) (kk : xV F (pc + 1) L st NT (hp (dk (mset d 69 j v)) m) ce sl) : xV F pc L (.int v :: .int i :: .ref 191 :: st) NT (hp (dk d) m) ce sl := by
  obtain ⟨h1, h2⟩ := vp_nI e hj (by decide)
  refine x_iast (by decide) (hd_at (a := 191) (by decide) rfl) h1 hd ?_
  rw [h2]
  exact xV.heap (d_put 69 j v (rfl) (by decide) (rfl)) kk
theorem la192 {i : Int32} (j : Nat) (e : i = nI j) (hj : j < 15) (hd : decode F.2.1.2.1 pc = .ok (.iaload, 1)) (kk : xV F (pc + 1) L (.int (d.1 70 j) :: st) NT (hp (dk d) m) ce sl) : xV F pc L (.int i :: .ref 192 :: st) NT (hp (dk d) m) ce sl := by
  obtain ⟨h1, h2⟩ := vp_nI e hj (by decide)
  refine x_iald (by decide) (hd_at (a := 192) (by decide) rfl) h1 hd ?_
  rw [h2]
  exact kk
theorem sa192 {i v : Int32} (j : Nat) (e : i = nI j) (hj : j < 15) (hd : decode F.2.1.2.1 pc = .ok (.iastore, 1)) (kk : xV F (pc + 1) L st NT (hp (dk (mset d 70 j v)) m) ce sl) : xV F pc L (.int v :: .int i :: .ref 192 :: st) NT (hp (dk d) m) ce sl := by
  obtain ⟨h1, h2⟩ := vp_nI e hj (by decide)
  refine x_iast (by decide) (hd_at (a := 192) (by decide) rfl) h1 hd ?_
  rw [h2]
  exact xV.heap (d_put 70 j v (rfl) (by decide) (rfl)) kk
theorem la193 {i : Int32} (j : Nat) (e : i = nI j) (hj : j < 15) (hd : decode F.2.1.2.1 pc = .ok (.iaload, 1)) (kk : xV F (pc + 1) L (.int (d.1 71 j) :: st) NT (hp (dk d) m) ce sl) : xV F pc L (.int i :: .ref 193 :: st) NT (hp (dk d) m) ce sl := by
  obtain ⟨h1, h2⟩ := vp_nI e hj (by decide)
  refine x_iald (by decide) (hd_at (a := 193) (by decide) rfl) h1 hd ?_
  rw [h2]
  exact kk
theorem sa193 {i v : Int32} (j : Nat) (e : i = nI j) (hj : j < 15) (hd : decode F.2.1.2.1 pc = .ok (.iastore, 1)) (kk : xV F (pc + 1) L st NT (hp (dk (mset d 71 j v)) m) ce sl) : xV F pc L (.int v :: .int i :: .ref 193 :: st) NT (hp (dk d) m) ce sl := by
  obtain ⟨h1, h2⟩ := vp_nI e hj (by decide)
  refine x_iast (by decide) (hd_at (a := 193) (by decide) rfl) h1 hd ?_
  rw [h2]
  exact xV.heap (d_put 71 j v (rfl) (by decide) (rfl)) kk
theorem la194 {i : Int32} (j : Nat) (e : i = nI j) (hj : j < 15) (hd : decode F.2.1.2.1 pc = .ok (.iaload, 1)) (kk : xV F (pc + 1) L (.int (d.1 72 j) :: st) NT (hp (dk d) m) ce sl) : xV F pc L (.int i :: .ref 194 :: st) NT (hp (dk d) m) ce sl := by
  obtain ⟨h1, h2⟩ := vp_nI e hj (by decide)
  refine x_iald (by decide) (hd_at (a := 194) (by decide) rfl) h1 hd ?_
  rw [h2]
  exact kk
theorem sa194 {i v : Int32} (j : Nat) (e : i = nI j) (hj : j < 15) (hd : decode F.2.1.2.1 pc = .ok (.iastore, 1)) (kk : xV F (pc + 1) L st NT (hp (dk (mset d 72 j v)) m) ce sl) : xV F pc L (.int v :: .int i :: .ref 194 :: st) NT (hp (dk d) m) ce sl := by
  obtain ⟨h1, h2⟩ := vp_nI e hj (by decide)
  refine x_iast (by decide) (hd_at (a := 194) (by decide) rfl) h1 hd ?_
  rw [h2]
  exact xV.heap (d_put 72 j v (rfl) (by decide) (rfl)) kk
theorem la195 {i : Int32} (j : Nat) (e : i = nI j) (hj : j < 15) (hd : decode F.2.1.2.1 pc = .ok (.iaload, 1)) (kk : xV F (pc + 1) L (.int (d.1 73 j) :: st) NT (hp (dk d) m) ce sl) : xV F pc L (.int i :: .ref 195 :: st) NT (hp (dk d) m) ce sl := by
  obtain ⟨h1, h2⟩ := vp_nI e hj (by decide)
  refine x_iald (by decide) (hd_at (a := 195) (by decide) rfl) h1 hd ?_
  rw [h2]
  exact kk
theorem sa195 {i v : Int32} (j : Nat) (e : i = nI j) (hj : j < 15) (hd : decode F.2.1.2.1 pc = .ok (.iastore, 1)) (kk : xV F (pc + 1) L st NT (hp (dk (mset d 73 j v)) m) ce sl) : xV F pc L (.int v :: .int i :: .ref 195 :: st) NT (hp (dk d) m) ce sl := by
  obtain ⟨h1, h2⟩ := vp_nI e hj (by decide)
  refine x_iast (by decide) (hd_at (a := 195) (by decide) rfl) h1 hd ?_
  rw [h2]
  exact xV.heap (d_put 73 j v (rfl) (by decide) (rfl)) kk
theorem la196 {i : Int32} (j : Nat) (e : i = nI j) (hj : j < 15) (hd : decode F.2.1.2.1 pc = .ok (.baload, 1)) (kk : xV F (pc + 1) L (.int (d.1 74 j) :: st) NT (hp (dk d) m) ce sl) : xV F pc L (.int i :: .ref 196 :: st) NT (hp (dk d) m) ce sl := by
  obtain ⟨h1, h2⟩ := vp_nI e hj (by decide)
  refine x_zald (by decide) (hd_at (a := 196) (by decide) rfl) h1 hd ?_
  rw [h2]
  exact kk
theorem sa196 {i v : Int32} (j : Nat) (e : i = nI j) (hj : j < 15) (hv : v = 0 ∨ v = 1) (hd : decode F.2.1.2.1 pc = .ok (.bastore, 1)) (kk : xV F (pc + 1) L st NT (hp (dk (mset d 74 j v)) m) ce sl) : xV F pc L (.int v :: .int i :: .ref 196 :: st) NT (hp (dk d) m) ce sl := by
  obtain ⟨h1, h2⟩ := vp_nI e hj (by decide)
  have hn : vp_nar .boolean v = v := by rcases hv with rfl | rfl <;> decide
  refine x_zast (by decide) (hd_at (a := 196) (by decide) rfl) h1 hd ?_
  rw [h2, hn]
  exact xV.heap (d_put 74 j v (rfl) (by decide) (rfl)) kk
theorem la197 {i : Int32} (j : Nat) (e : i = nI j) (hj : j < 14) (hd : decode F.2.1.2.1 pc = .ok (.baload, 1)) (kk : xV F (pc + 1) L (.int (d.1 75 j) :: st) NT (hp (dk d) m) ce sl) : xV F pc L (.int i :: .ref 197 :: st) NT (hp (dk d) m) ce sl := by
  obtain ⟨h1, h2⟩ := vp_nI e hj (by decide)
  refine x_zald (by decide) (hd_at (a := 197) (by decide) rfl) h1 hd ?_
  rw [h2]
  exact kk
theorem sa197 {i v : Int32} (j : Nat) (e : i = nI j) (hj : j < 14) (hv : v = 0 ∨ v = 1) (hd : decode F.2.1.2.1 pc = .ok (.bastore, 1)) (kk : xV F (pc + 1) L st NT (hp (dk (mset d 75 j v)) m) ce sl) : xV F pc L (.int v :: .int i :: .ref 197 :: st) NT (hp (dk d) m) ce sl := by
  obtain ⟨h1, h2⟩ := vp_nI e hj (by decide)
  have hn : vp_nar .boolean v = v := by rcases hv with rfl | rfl <;> decide
  refine x_zast (by decide) (hd_at (a := 197) (by decide) rfl) h1 hd ?_
  rw [h2, hn]
  exact xV.heap (d_put 75 j v (rfl) (by decide) (rfl)) kk
theorem la198 {i : Int32} (j : Nat) (e : i = nI j) (hj : j < 14) (hd : decode F.2.1.2.1 pc = .ok (.iaload, 1)) (kk : xV F (pc + 1) L (.int (d.1 57 j) :: st) NT (hp (dk d) m) ce sl) : xV F pc L (.int i :: .ref 198 :: st) NT (hp (dk d) m) ce sl := by
  obtain ⟨h1, h2⟩ := vp_nI e hj (by decide)
  refine x_iald (by decide) (hd_at (a := 198) (by decide) rfl) h1 hd ?_
  rw [h2]
  exact kk
theorem sa198 {i v : Int32} (j : Nat) (e : i = nI j) (hj : j < 14) (hd : decode F.2.1.2.1 pc = .ok (.iastore, 1)) (kk : xV F (pc + 1) L st NT (hp (dk (mset d 57 j v)) m) ce sl) : xV F pc L (.int v :: .int i :: .ref 198 :: st) NT (hp (dk d) m) ce sl := by
  obtain ⟨h1, h2⟩ := vp_nI e hj (by decide)
  refine x_iast (by decide) (hd_at (a := 198) (by decide) rfl) h1 hd ?_
  rw [h2]
  exact xV.heap (d_put 57 j v (rfl) (by decide) (rfl)) kk
theorem la199 {i : Int32} (j : Nat) (e : i = nI j) (hj : j < 14) (hd : decode F.2.1.2.1 pc = .ok (.iaload, 1)) (kk : xV F (pc + 1) L (.int (d.1 58 j) :: st) NT (hp (dk d) m) ce sl) : xV F pc L (.int i :: .ref 199 :: st) NT (hp (dk d) m) ce sl := by
  obtain ⟨h1, h2⟩ := vp_nI e hj (by decide)
  refine x_iald (by decide) (hd_at (a := 199) (by decide) rfl) h1 hd ?_
  rw [h2]
  exact kk
theorem sa199 {i v : Int32} (j : Nat) (e : i = nI j) (hj : j < 14) (hd : decode F.2.1.2.1 pc = .ok (.iastore, 1)) (kk : xV F (pc + 1) L st NT (hp (dk (mset d 58 j v)) m) ce sl) : xV F pc L (.int v :: .int i :: .ref 199 :: st) NT (hp (dk d) m) ce sl := by
  obtain ⟨h1, h2⟩ := vp_nI e hj (by decide)
  refine x_iast (by decide) (hd_at (a := 199) (by decide) rfl) h1 hd ?_
  rw [h2]
  exact xV.heap (d_put 58 j v (rfl) (by decide) (rfl)) kk
theorem la200 {i : Int32} (j : Nat) (e : i = nI j) (hj : j < 14) (hd : decode F.2.1.2.1 pc = .ok (.iaload, 1)) (kk : xV F (pc + 1) L (.int (d.1 59 j) :: st) NT (hp (dk d) m) ce sl) : xV F pc L (.int i :: .ref 200 :: st) NT (hp (dk d) m) ce sl := by
  obtain ⟨h1, h2⟩ := vp_nI e hj (by decide)
  refine x_iald (by decide) (hd_at (a := 200) (by decide) rfl) h1 hd ?_
  rw [h2]
  exact kk
theorem sa200 {i v : Int32} (j : Nat) (e : i = nI j) (hj : j < 14) (hd : decode F.2.1.2.1 pc = .ok (.iastore, 1)) (kk : xV F (pc + 1) L st NT (hp (dk (mset d 59 j v)) m) ce sl) : xV F pc L (.int v :: .int i :: .ref 200 :: st) NT (hp (dk d) m) ce sl := by
  obtain ⟨h1, h2⟩ := vp_nI e hj (by decide)
  refine x_iast (by decide) (hd_at (a := 200) (by decide) rfl) h1 hd ?_
  rw [h2]
  exact xV.heap (d_put 59 j v (rfl) (by decide) (rfl)) kk
theorem la201 {i : Int32} (j : Nat) (e : i = nI j) (hj : j < 14) (hd : decode F.2.1.2.1 pc = .ok (.iaload, 1)) (kk : xV F (pc + 1) L (.int (d.1 60 j) :: st) NT (hp (dk d) m) ce sl) : xV F pc L (.int i :: .ref 201 :: st) NT (hp (dk d) m) ce sl := by
  obtain ⟨h1, h2⟩ := vp_nI e hj (by decide)
  refine x_iald (by decide) (hd_at (a := 201) (by decide) rfl) h1 hd ?_
  rw [h2]
  exact kk
theorem sa201 {i v : Int32} (j : Nat) (e : i = nI j) (hj : j < 14) (hd : decode F.2.1.2.1 pc = .ok (.iastore, 1)) (kk : xV F (pc + 1) L st NT (hp (dk (mset d 60 j v)) m) ce sl) : xV F pc L (.int v :: .int i :: .ref 201 :: st) NT (hp (dk d) m) ce sl := by
  obtain ⟨h1, h2⟩ := vp_nI e hj (by decide)
  refine x_iast (by decide) (hd_at (a := 201) (by decide) rfl) h1 hd ?_
  rw [h2]
  exact xV.heap (d_put 60 j v (rfl) (by decide) (rfl)) kk
theorem la203 {i : Int32} (j : Nat) (e : i = nI j) (hj : j < 5000) (hd : decode F.2.1.2.1 pc = .ok (.iaload, 1)) (kk : xV F (pc + 1) L (.int (d.1 76 j) :: st) NT (hp (dk d) m) ce sl) : xV F pc L (.int i :: .ref 203 :: st) NT (hp (dk d) m) ce sl := by
  obtain ⟨h1, h2⟩ := vp_nI e hj (by decide)
  refine x_iald (by decide) (hd_at (a := 203) (by decide) rfl) h1 hd ?_
  rw [h2]
  exact kk
theorem sa203 {i v : Int32} (j : Nat) (e : i = nI j) (hj : j < 5000) (hd : decode F.2.1.2.1 pc = .ok (.iastore, 1)) (kk : xV F (pc + 1) L st NT (hp (dk (mset d 76 j v)) m) ce sl) : xV F pc L (.int v :: .int i :: .ref 203 :: st) NT (hp (dk d) m) ce sl := by
  obtain ⟨h1, h2⟩ := vp_nI e hj (by decide)
  refine x_iast (by decide) (hd_at (a := 203) (by decide) rfl) h1 hd ?_
  rw [h2]
  exact xV.heap (d_put 76 j v (rfl) (by decide) (rfl)) kk
theorem la204 {i : Int32} (j : Nat) (e : i = nI j) (hj : j < 80) (hd : decode F.2.1.2.1 pc = .ok (.iaload, 1)) (kk : xV F (pc + 1) L (.int (d.1 77 j) :: st) NT (hp (dk d) m) ce sl) : xV F pc L (.int i :: .ref 204 :: st) NT (hp (dk d) m) ce sl := by
  obtain ⟨h1, h2⟩ := vp_nI e hj (by decide)
  refine x_iald (by decide) (hd_at (a := 204) (by decide) rfl) h1 hd ?_
  rw [h2]
  exact kk
theorem sa204 {i v : Int32} (j : Nat) (e : i = nI j) (hj : j < 80) (hd : decode F.2.1.2.1 pc = .ok (.iastore, 1)) (kk : xV F (pc + 1) L st NT (hp (dk (mset d 77 j v)) m) ce sl) : xV F pc L (.int v :: .int i :: .ref 204 :: st) NT (hp (dk d) m) ce sl := by
  obtain ⟨h1, h2⟩ := vp_nI e hj (by decide)
  refine x_iast (by decide) (hd_at (a := 204) (by decide) rfl) h1 hd ?_
  rw [h2]
  exact xV.heap (d_put 77 j v (rfl) (by decide) (rfl)) kk
theorem la205 {i : Int32} (j : Nat) (e : i = nI j) (hj : j < 80) (hd : decode F.2.1.2.1 pc = .ok (.iaload, 1)) (kk : xV F (pc + 1) L (.int (d.1 78 j) :: st) NT (hp (dk d) m) ce sl) : xV F pc L (.int i :: .ref 205 :: st) NT (hp (dk d) m) ce sl := by
  obtain ⟨h1, h2⟩ := vp_nI e hj (by decide)
  refine x_iald (by decide) (hd_at (a := 205) (by decide) rfl) h1 hd ?_
  rw [h2]
  exact kk
theorem sa205 {i v : Int32} (j : Nat) (e : i = nI j) (hj : j < 80) (hd : decode F.2.1.2.1 pc = .ok (.iastore, 1)) (kk : xV F (pc + 1) L st NT (hp (dk (mset d 78 j v)) m) ce sl) : xV F pc L (.int v :: .int i :: .ref 205 :: st) NT (hp (dk d) m) ce sl := by
  obtain ⟨h1, h2⟩ := vp_nI e hj (by decide)
  refine x_iast (by decide) (hd_at (a := 205) (by decide) rfl) h1 hd ?_
  rw [h2]
  exact xV.heap (d_put 78 j v (rfl) (by decide) (rfl)) kk
theorem la206 {i : Int32} (j : Nat) (e : i = nI j) (hj : j < 80) (hd : decode F.2.1.2.1 pc = .ok (.iaload, 1)) (kk : xV F (pc + 1) L (.int (d.1 79 j) :: st) NT (hp (dk d) m) ce sl) : xV F pc L (.int i :: .ref 206 :: st) NT (hp (dk d) m) ce sl := by
  obtain ⟨h1, h2⟩ := vp_nI e hj (by decide)
  refine x_iald (by decide) (hd_at (a := 206) (by decide) rfl) h1 hd ?_
  rw [h2]
  exact kk
theorem sa206 {i v : Int32} (j : Nat) (e : i = nI j) (hj : j < 80) (hd : decode F.2.1.2.1 pc = .ok (.iastore, 1)) (kk : xV F (pc + 1) L st NT (hp (dk (mset d 79 j v)) m) ce sl) : xV F pc L (.int v :: .int i :: .ref 206 :: st) NT (hp (dk d) m) ce sl := by
  obtain ⟨h1, h2⟩ := vp_nI e hj (by decide)
  refine x_iast (by decide) (hd_at (a := 206) (by decide) rfl) h1 hd ?_
  rw [h2]
  exact xV.heap (d_put 79 j v (rfl) (by decide) (rfl)) kk
theorem la207 {i : Int32} (j : Nat) (e : i = nI j) (hj : j < 80) (hd : decode F.2.1.2.1 pc = .ok (.iaload, 1)) (kk : xV F (pc + 1) L (.int (d.1 80 j) :: st) NT (hp (dk d) m) ce sl) : xV F pc L (.int i :: .ref 207 :: st) NT (hp (dk d) m) ce sl := by
  obtain ⟨h1, h2⟩ := vp_nI e hj (by decide)
  refine x_iald (by decide) (hd_at (a := 207) (by decide) rfl) h1 hd ?_
  rw [h2]
  exact kk
theorem sa207 {i v : Int32} (j : Nat) (e : i = nI j) (hj : j < 80) (hd : decode F.2.1.2.1 pc = .ok (.iastore, 1)) (kk : xV F (pc + 1) L st NT (hp (dk (mset d 80 j v)) m) ce sl) : xV F pc L (.int v :: .int i :: .ref 207 :: st) NT (hp (dk d) m) ce sl := by
  obtain ⟨h1, h2⟩ := vp_nI e hj (by decide)
  refine x_iast (by decide) (hd_at (a := 207) (by decide) rfl) h1 hd ?_
  rw [h2]
  exact xV.heap (d_put 80 j v (rfl) (by decide) (rfl)) kk
theorem la209 {i : Int32} (j : Nat) (e : i = nI j) (hj : j < 18) (hd : decode F.2.1.2.1 pc = .ok (.iaload, 1)) (kk : xV F (pc + 1) L (.int (d.1 89 j) :: st) NT (hp (dk d) m) ce sl) : xV F pc L (.int i :: .ref 209 :: st) NT (hp (dk d) m) ce sl := by
  obtain ⟨h1, h2⟩ := vp_nI e hj (by decide)
  refine x_iald (by decide) (hd_at (a := 209) (by decide) rfl) h1 hd ?_
  rw [h2]
  exact kk
theorem sa209 {i v : Int32} (j : Nat) (e : i = nI j) (hj : j < 18) (hd : decode F.2.1.2.1 pc = .ok (.iastore, 1)) (kk : xV F (pc + 1) L st NT (hp (dk (mset d 89 j v)) m) ce sl) : xV F pc L (.int v :: .int i :: .ref 209 :: st) NT (hp (dk d) m) ce sl := by
  obtain ⟨h1, h2⟩ := vp_nI e hj (by decide)
  refine x_iast (by decide) (hd_at (a := 209) (by decide) rfl) h1 hd ?_
  rw [h2]
  exact xV.heap (d_put 89 j v (rfl) (by decide) (rfl)) kk
theorem la210 {i : Int32} (j : Nat) (e : i = nI j) (hj : j < 18) (hd : decode F.2.1.2.1 pc = .ok (.iaload, 1)) (kk : xV F (pc + 1) L (.int (d.1 90 j) :: st) NT (hp (dk d) m) ce sl) : xV F pc L (.int i :: .ref 210 :: st) NT (hp (dk d) m) ce sl := by
  obtain ⟨h1, h2⟩ := vp_nI e hj (by decide)
  refine x_iald (by decide) (hd_at (a := 210) (by decide) rfl) h1 hd ?_
  rw [h2]
  exact kk
theorem sa210 {i v : Int32} (j : Nat) (e : i = nI j) (hj : j < 18) (hd : decode F.2.1.2.1 pc = .ok (.iastore, 1)) (kk : xV F (pc + 1) L st NT (hp (dk (mset d 90 j v)) m) ce sl) : xV F pc L (.int v :: .int i :: .ref 210 :: st) NT (hp (dk d) m) ce sl := by
  obtain ⟨h1, h2⟩ := vp_nI e hj (by decide)
  refine x_iast (by decide) (hd_at (a := 210) (by decide) rfl) h1 hd ?_
  rw [h2]
  exact xV.heap (d_put 90 j v (rfl) (by decide) (rfl)) kk
theorem la211 {i : Int32} (j : Nat) (e : i = nI j) (hj : j < 18) (hd : decode F.2.1.2.1 pc = .ok (.iaload, 1)) (kk : xV F (pc + 1) L (.int (d.1 91 j) :: st) NT (hp (dk d) m) ce sl) : xV F pc L (.int i :: .ref 211 :: st) NT (hp (dk d) m) ce sl := by
  obtain ⟨h1, h2⟩ := vp_nI e hj (by decide)
  refine x_iald (by decide) (hd_at (a := 211) (by decide) rfl) h1 hd ?_
  rw [h2]
  exact kk
theorem sa211 {i v : Int32} (j : Nat) (e : i = nI j) (hj : j < 18) (hd : decode F.2.1.2.1 pc = .ok (.iastore, 1)) (kk : xV F (pc + 1) L st NT (hp (dk (mset d 91 j v)) m) ce sl) : xV F pc L (.int v :: .int i :: .ref 211 :: st) NT (hp (dk d) m) ce sl := by
  obtain ⟨h1, h2⟩ := vp_nI e hj (by decide)
  refine x_iast (by decide) (hd_at (a := 211) (by decide) rfl) h1 hd ?_
  rw [h2]
  exact xV.heap (d_put 91 j v (rfl) (by decide) (rfl)) kk
theorem la221 {i : Int32} (j : Nat) (e : i = nI j) (hj : j < 18) (hd : decode F.2.1.2.1 pc = .ok (.iaload, 1)) (kk : xV F (pc + 1) L (.int (d.1 93 j) :: st) NT (hp (dk d) m) ce sl) : xV F pc L (.int i :: .ref 221 :: st) NT (hp (dk d) m) ce sl := by
  obtain ⟨h1, h2⟩ := vp_nI e hj (by decide)
  refine x_iald (by decide) (hd_at (a := 221) (by decide) rfl) h1 hd ?_
  rw [h2]
  exact kk
theorem sa221 {i v : Int32} (j : Nat) (e : i = nI j) (hj : j < 18) (hd : decode F.2.1.2.1 pc = .ok (.iastore, 1)) (kk : xV F (pc + 1) L st NT (hp (dk (mset d 93 j v)) m) ce sl) : xV F pc L (.int v :: .int i :: .ref 221 :: st) NT (hp (dk d) m) ce sl := by
  obtain ⟨h1, h2⟩ := vp_nI e hj (by decide)
  refine x_iast (by decide) (hd_at (a := 221) (by decide) rfl) h1 hd ?_
  rw [h2]
  exact xV.heap (d_put 93 j v (rfl) (by decide) (rfl)) kk
theorem la222 {i : Int32} (j : Nat) (e : i = nI j) (hj : j < 18) (hd : decode F.2.1.2.1 pc = .ok (.iaload, 1)) (kk : xV F (pc + 1) L (.int (d.1 94 j) :: st) NT (hp (dk d) m) ce sl) : xV F pc L (.int i :: .ref 222 :: st) NT (hp (dk d) m) ce sl := by
  obtain ⟨h1, h2⟩ := vp_nI e hj (by decide)
  refine x_iald (by decide) (hd_at (a := 222) (by decide) rfl) h1 hd ?_
  rw [h2]
  exact kk
theorem sa222 {i v : Int32} (j : Nat) (e : i = nI j) (hj : j < 18) (hd : decode F.2.1.2.1 pc = .ok (.iastore, 1)) (kk : xV F (pc + 1) L st NT (hp (dk (mset d 94 j v)) m) ce sl) : xV F pc L (.int v :: .int i :: .ref 222 :: st) NT (hp (dk d) m) ce sl := by
  obtain ⟨h1, h2⟩ := vp_nI e hj (by decide)
  refine x_iast (by decide) (hd_at (a := 222) (by decide) rfl) h1 hd ?_
  rw [h2]
  exact xV.heap (d_put 94 j v (rfl) (by decide) (rfl)) kk
theorem lS1 {s : Nat} (h : s < 3) {i : Int32} (j : Nat) (e : i = nI j) (hj : j < 512) (hd : decode F.2.1.2.1 pc = .ok (.iaload, 1)) (kk : xV F (pc + 1) L (.int (d.1 (100 + s) j) :: st) NT (hp (dk d) m) ce sl) : xV F pc L (.int i :: .ref (sC s + 1) :: st) NT (hp (dk d) m) ce sl := by
  obtain ⟨h1, h2⟩ := vp_nI e hj (by decide)
  refine x_iald (dk_lt (sC_l1 h)) (hd_S1 h) h1 hd ?_
  rw [h2]
  exact kk
theorem sS1 {s : Nat} (h : s < 3) {i v : Int32} (j : Nat) (e : i = nI j) (hj : j < 512) (hd : decode F.2.1.2.1 pc = .ok (.iastore, 1)) (kk : xV F (pc + 1) L st NT (hp (dk (mset d (100 + s) j v)) m) ce sl) : xV F pc L (.int v :: .int i :: .ref (sC s + 1) :: st) NT (hp (dk d) m) ce sl := by
  obtain ⟨h1, h2⟩ := vp_nI e hj (by decide)
  refine x_iast (dk_lt (sC_l1 h)) (hd_S1 h) h1 hd ?_
  rw [h2]
  exact xV.heap (d_put (100 + s) j v ((own_S h).1 j) (sC_l1 h) ((congrArg (ceD _) (dC_S h).2.1).trans (by simp [ceD, mset_same]))) kk
theorem lS2 {s : Nat} (h : s < 3) {i : Int32} (j : Nat) (e : i = nI j) (hj : j < 512) (hd : decode F.2.1.2.1 pc = .ok (.iaload, 1)) (kk : xV F (pc + 1) L (.int (d.1 (103 + s) j) :: st) NT (hp (dk d) m) ce sl) : xV F pc L (.int i :: .ref (sC s + 2) :: st) NT (hp (dk d) m) ce sl := by
  obtain ⟨h1, h2⟩ := vp_nI e hj (by decide)
  refine x_iald (dk_lt (sC_lt h)) (hd_S2 h) h1 hd ?_
  rw [h2]
  exact kk
theorem sS2 {s : Nat} (h : s < 3) {i v : Int32} (j : Nat) (e : i = nI j) (hj : j < 512) (hd : decode F.2.1.2.1 pc = .ok (.iastore, 1)) (kk : xV F (pc + 1) L st NT (hp (dk (mset d (103 + s) j v)) m) ce sl) : xV F pc L (.int v :: .int i :: .ref (sC s + 2) :: st) NT (hp (dk d) m) ce sl := by
  obtain ⟨h1, h2⟩ := vp_nI e hj (by decide)
  refine x_iast (dk_lt (sC_lt h)) (hd_S2 h) h1 hd ?_
  rw [h2]
  exact xV.heap (d_put (103 + s) j v ((own_S h).2 j) (sC_lt h) ((congrArg (ceD _) (dC_S h).2.2).trans (by simp [ceD, mset_same]))) kk
theorem lW {r : Nat} (h : r < 14) {i : Int32} (j : Nat) (e : i = nI j) (hj : j < 14) (hd : decode F.2.1.2.1 pc = .ok (.iaload, 1)) (kk : xV F (pc + 1) L (.int (d.1 (200 + r) j) :: st) NT (hp (dk d) m) ce sl) : xV F pc L (.int i :: .ref (174 + r) :: st) NT (hp (dk d) m) ce sl := by
  obtain ⟨h1, h2⟩ := vp_nI e hj (by decide)
  refine x_iald (dk_lt (W_lt h)) (hd_W h) h1 hd ?_
  rw [h2]
  exact kk
theorem sW {r : Nat} (h : r < 14) {i v : Int32} (j : Nat) (e : i = nI j) (hj : j < 14) (hd : decode F.2.1.2.1 pc = .ok (.iastore, 1)) (kk : xV F (pc + 1) L st NT (hp (dk (mset d (200 + r) j v)) m) ce sl) : xV F pc L (.int v :: .int i :: .ref (174 + r) :: st) NT (hp (dk d) m) ce sl := by
  obtain ⟨h1, h2⟩ := vp_nI e hj (by decide)
  refine x_iast (dk_lt (W_lt h)) (hd_W h) h1 hd ?_
  rw [h2]
  exact xV.heap (d_put (200 + r) j v (own_W h j) (W_lt h) ((congrArg (ceD _) (dC_W h)).trans (by simp [ceD, mset_same]))) kk
theorem lBK {i : Int32} (j : Nat) (e : i = nI j) (hj : j < 2) (hd : decode F.2.1.2.1 pc = .ok (.aaload, 1)) (kk : xV F (pc + 1) L (.ref (bC j) :: st) NT (hp (dk d) m) ce sl) : xV F pc L (.int i :: .ref 1 :: st) NT (hp (dk d) m) ce sl := by
  obtain ⟨h1, h2⟩ := vp_nI e hj (by decide)
  refine x_aald (t := 5) (by decide) (by decide) (N := 2) (f := fun b => if b < 2 then some (bC b) else none) (hd_at (a := 1) (by decide) rfl) h1 hd ?_
  rw [h2]
  show xV F (pc + 1) L (va_rf (if j < 2 then some (bC j) else none) :: st) NT (hp (dk d) m) ce sl
  rw [if_pos hj]
  exact kk
theorem lGS {i : Int32} (j : Nat) (e : i = nI j) (hj : j < 200) (hd : decode F.2.1.2.1 pc = .ok (.aaload, 1)) (kk : xV F (pc + 1) L (.ref (gC j) :: st) NT (hp (dk d) m) ce sl) : xV F pc L (.int i :: .ref 166 :: st) NT (hp (dk d) m) ce sl := by
  obtain ⟨h1, h2⟩ := vp_nI e hj (by decide)
  refine x_aald (t := 4) (by decide) (by decide) (N := 200) (f := fun g => if g < 200 then some (gC g) else none) (hd_at (a := 166) (by decide) rfl) h1 hd ?_
  rw [h2]
  show xV F (pc + 1) L (va_rf (if j < 200 then some (gC j) else none) :: st) NT (hp (dk d) m) ce sl
  rw [if_pos hj]
  exact kk
theorem lWO {i : Int32} (j : Nat) (e : i = nI j) (hj : j < 14) (hd : decode F.2.1.2.1 pc = .ok (.aaload, 1)) (kk : xV F (pc + 1) L (.ref (174 + j) :: st) NT (hp (dk d) m) ce sl) : xV F pc L (.int i :: .ref 173 :: st) NT (hp (dk d) m) ce sl := by
  obtain ⟨h1, h2⟩ := vp_nI e hj (by decide)
  refine x_aald (t := 6) (by decide) (by decide) (N := 14) (f := fun r => if r < 14 then some (174 + r) else none) (hd_at (a := 173) (by decide) rfl) h1 hd ?_
  rw [h2]
  show xV F (pc + 1) L (va_rf (if j < 14 then some (174 + j) else none) :: st) NT (hp (dk d) m) ce sl
  rw [if_pos hj]
  exact kk
theorem lBL {b : Nat} (h : b < 2) {i : Int32} (j : Nat) (e : i = nI j) (hj : j < 80) (hd : decode F.2.1.2.1 pc = .ok (.aaload, 1)) (kk : xV F (pc + 1) L (.ref (lC (80 * b + j)) :: st) NT (hp (dk d) m) ce sl) : xV F pc L (.int i :: .ref (bC b + 1) :: st) NT (hp (dk d) m) ce sl := by
  obtain ⟨h1, h2⟩ := vp_nI e hj (by decide)
  refine x_aald (t := 3) (by decide) (dk_lt (bC_lt b)) (N := 80) (f := fun i => if i < 80 then some (lC (80 * b + i)) else none) (hd_BA h) h1 hd ?_
  rw [h2]
  show xV F (pc + 1) L (va_rf (if j < 80 then some (lC (80 * b + j)) else none) :: st) NT (hp (dk d) m) ce sl
  rw [if_pos hj]
  exact kk
theorem lGL {g : Nat} (h : g < 200) {i : Int32} (j : Nat) (e : i = nI j) (hj : j < 8) {q : Nat} (hq : d.1 11 (8 * g + j) = nI q) (hq2 : q < 160) (hd : decode F.2.1.2.1 pc = .ok (.aaload, 1)) (kk : xV F (pc + 1) L (.ref (lC q) :: st) NT (hp (dk d) m) ce sl) : xV F pc L (.int i :: .ref (gC g + 1) :: st) NT (hp (dk d) m) ce sl := by
  obtain ⟨h1, h2⟩ := vp_nI e hj (by decide)
  refine x_aald (t := 3) (by decide) (dk_lt (gC_lt h)) (N := 8) (f := gF d g) (hd_GA h) h1 hd ?_
  rw [h2]
  show xV F (pc + 1) L (va_rf (if j < 8 then rf (d.1 11 (8 * g + j)) else none) :: st) NT (hp (dk d) m) ce sl
  rw [if_pos hj, hq, rf_nI (by omega)]
  exact kk
theorem gF_put {d : mS} {g j a : Nat} (hj : j < 8) (ha : a < 160) : (fun k => if k = j then some (lC a) else gF d g k) = gF (mset d 11 (8 * g + j) (nI a)) g := by
  funext k
  unfold gF
  by_cases hk : k = j
  · subst hk
    rw [if_pos rfl, if_pos hj, mset_at, rf_nI (by omega)]
  · rw [if_neg hk]
    by_cases h8 : k < 8
    · rw [if_pos h8, if_pos h8, mset_off (by omega)]
    · rw [if_neg h8, if_neg h8]
theorem sGL {g : Nat} (h : g < 200) {i : Int32} (j : Nat) (e : i = nI j) (hj : j < 8) {a : Nat} (ha : a < 160) (hd : decode F.2.1.2.1 pc = .ok (.aastore, 1)) (kk : xV F (pc + 1) L st NT (hp (dk (mset d 11 (8 * g + j) (nI a))) m) ce sl) : xV F pc L (.ref (lC a) :: .int i :: .ref (gC g + 1) :: st) NT (hp (dk d) m) ce sl := by
  obtain ⟨h1, h2⟩ := vp_nI e hj (by decide)
  refine x_aast (t := 3) (ci := 4) (C := RX4) (T := TX4) (M := 9) rfl rfl (dk_lt (gC_lt h)) (lt_L ha) (N := 8) (f := gF d g) (hd_GA h) (hd_L ha) h1 hd ?_
  rw [h2]
  refine xV.heap (d_put 11 (8 * g + j) (nI a) ?_ (gC_lt h) ((congrArg (ceD _) dC_GA).trans ?_)) kk
  · show gC ((8 * g + j) / 8) + 1 = _
    rw [show (8 * g + j) / 8 = g by omega]
  · show Sum.inl (3, 8, Sum.inr (Sum.inr (Sum.inr (Sum.inr (gF _ g))))) = _
    rw [← gF_put hj ha]
    rfl
end XDESK
