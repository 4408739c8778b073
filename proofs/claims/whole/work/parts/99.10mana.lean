/-! ===== a row of rows (multianewarray of two dimensions): my own law, out of the machine's words ===== -/
def oF (h0 i : Nat) : Nat → Value := fun j => if j < i then .ref (h0 + 1 + j) else .null
theorem oF_0 (h0 : Nat) : oF h0 0 = fun _ => .null := funext fun j => if_neg (Nat.not_lt_zero j)
theorem oF_s (h0 i : Nat) : updV (oF h0 i) i (.ref (h0 + 1 + i)) = oF h0 (i + 1) := by
  funext j
  unfold updV oF
  by_cases e : j = i
  · rw [if_pos e, if_pos (by omega), e]
  · rw [if_neg e]
    by_cases c : j < i
    · rw [if_pos c, if_pos (by omega)]
    · rw [if_neg c, if_neg (by omega)]
/-- the state when i rows are made -/
def maT (T : State) (cA cI : ClassId) (N M : Nat) : Nat → State
  | 0 => T.pushCell (arrV cA N (oF T.heap.size 0))
  | i + 1 => ((maT T cA cI N M i).pushCell (arrV cI M (fun _ => .int 0))).setCell T.heap.size (arrV cA N (oF T.heap.size (i + 1)))
def maL (locs : List Loc) (h0 : Nat) : Nat → List Loc
  | 0 => locs
  | i + 1 => maL locs h0 i ++ [⟨h0, i⟩]
section MANA
variable {T : State} {cA cI : ClassId} {N M : Nat}
theorem maT_z : ∀ i, (maT T cA cI N M i).heap.size = T.heap.size + 1 + i
  | 0 => by
    show (T.heap.push _).size = _
    rw [Array.size_push]
  | i + 1 => by
    show (((maT T cA cI N M i).pushCell _).setCell _ _).heap.size = _
    rw [size_setCell]
    show ((maT T cA cI N M i).heap.push _).size = _
    rw [Array.size_push, maT_z i]
    rfl
theorem maT_o : ∀ i, (maT T cA cI N M i).heap[T.heap.size]? = some (arrV cA N (oF T.heap.size i))
  | 0 => State.heap_pushCell_size T _
  | i + 1 => by
    refine heapAt_setCell_self _ ?_
    show T.heap.size < ((maT T cA cI N M i).heap.push _).size
    rw [Array.size_push, maT_z i]
    omega
theorem maT_q {q : Nat} (hq : q < T.heap.size) : ∀ i, (maT T cA cI N M i).heap[q]? = T.heap[q]?
  | 0 => State.heap_pushCell_of_lt T _ hq
  | i + 1 => by
    have e : (maT T cA cI N M (i + 1)).heap[q]? = ((maT T cA cI N M i).pushCell (arrV cI M (fun _ => .int 0))).heap[q]? := heapAt_setCell_ne _ (Nat.ne_of_gt hq)
    rw [e, State.heap_pushCell_of_lt _ _ (show q < (maT T cA cI N M i).heap.size by rw [maT_z i]; omega)]
    exact maT_q hq i
theorem maT_r {j : Nat} : ∀ i, j < i → (maT T cA cI N M i).heap[T.heap.size + 1 + j]? = some (arrV cI M (fun _ => .int 0))
  | 0, h => absurd h (Nat.not_lt_zero j)
  | i + 1, h => by
    have e : (maT T cA cI N M (i + 1)).heap[T.heap.size + 1 + j]? = ((maT T cA cI N M i).pushCell (arrV cI M (fun _ => .int 0))).heap[T.heap.size + 1 + j]? := heapAt_setCell_ne _ (fun q => by
      have q : T.heap.size = T.heap.size + 1 + j := q
      omega)
    rw [e]
    by_cases c : j = i
    · have := State.heap_pushCell_size (maT T cA cI N M i) (arrV cI M (fun _ => .int 0))
      rw [maT_z i] at this
      rw [c]; exact this
    · rw [State.heap_pushCell_of_lt _ _ (show T.heap.size + 1 + j < (maT T cA cI N M i).heap.size by rw [maT_z i]; omega)]
      exact maT_r i (by omega)
theorem maT_v : ∀ i, (maT T cA cI N M i).vm = T.vm
  | 0 => rfl
  | i + 1 => maT_v i
theorem maT_u : ∀ i, (maT T cA cI N M i).slotsUsed = T.slotsUsed + N + i * M
  | 0 => by
    show T.slotsUsed + (arrV cA N (oF T.heap.size 0)).slots.size = _
    rw [arrV_size]; omega
  | i + 1 => by
    show (maT T cA cI N M i).slotsUsed + (arrV cI M (fun _ => .int 0)).slots.size = _
    rw [arrV_size, maT_u i, Nat.add_mul]; omega
theorem maT_t (f : JFrame) : ∀ i, maT (T.setTop f) cA cI N M i = (maT T cA cI N M i).setTop f
  | 0 => rfl
  | i + 1 => by
    show ((maT (T.setTop f) cA cI N M i).pushCell _).setCell _ _ = _
    rw [maT_t f i]
    rfl
theorem maT_j : ∀ i, (maT T cA cI N M i).topJava? = T.topJava?
  | 0 => rfl
  | i + 1 => maT_j i
section MST
variable {p : Program} {l : Launch} {e : Env} {R : Room} {s : State} {m : MethodId} {args : Array Value} {below : List Frame} {meth : Method} {c : Code} {locs : List Loc} {cells slots : Nat}
theorem maT_X (X : Stand p l e R s m args below meth c T locs cells slots) : ∀ i, Stand p l e R s m args below meth c (maT T cA cI N M i) (maL locs T.heap.size i) (cells + 1 + i) (slots + N + i * M)
  | 0 => by
    have h := X.pushed (arrV cA N (oF T.heap.size 0))
    rw [arrV_size] at h
    rw [Nat.zero_mul]
    exact h
  | i + 1 => by
    have h := (maT_X X i).pushed (arrV cI M (fun _ => .int 0))
    rw [arrV_size] at h
    have h2 := h.stored (a := T.heap.size) (cell := arrV cA N (oF T.heap.size i)) (by
      rw [State.heap_pushCell_of_lt _ _ (show T.heap.size < (maT T cA cI N M i).heap.size by rw [maT_z i]; omega)]
      exact maT_o i) i (.ref (T.heap.size + 1 + i))
    rw [arrV_store, oF_s] at h2
    have e1 : slots + N + (i + 1) * M = slots + N + i * M + M := by rw [Nat.add_mul, Nat.one_mul, Nat.add_assoc (slots + N)]
    rw [e1]
    exact h2
end MST
section MWP
variable {E : CtlPost} {e : Env} {d : Bool} {acts : List Action}
/-- one row -/
theorem ma_row {s : State} {kI : Class} {c0 : ClassId} {b : Int32} {Q : Addr → Pre} (hk : s.vm.classes[cI]? = some kI) (hkind : kI.kind = .array c0 .int) (hb : ¬ b < 0) (hM : b.toNatClampNeg = M) (h1 : ¬ M > e.platform.arrayLengthLimit) (h2 : ¬ M * 4 > e.platform.maxHeapBytes) (h3 : s.heap.size < e.platform.maxCells) (h4 : s.slotsUsed + M ≤ e.platform.maxSlots)
    (hq : ∀ acts', Q s.heap.size d acts' (s.pushCell (arrV cI M (fun _ => .int 0)))) : wp (multianewarray.make cI [b]) Q E e d acts s := by
  subst hM
  simp only [multianewarray.make, wp_bind', W.ite, hb, if_false, wp_pure', W.theClass, hk, Option.some.injEq, exists_eq_left', hkind]
  refine W.newArray_of hk hkind h1 h2 h3 h4 rfl (fun acts' => ?_)
  have := hq acts'
  rw [← arrV_new] at this
  exact this
/-- the outer row, and its rows -/
theorem ma_all {s : State} {kA kI : Class} {c0 : ClassId} {a b : Int32} {Q : Addr → Pre} (hkA : s.vm.classes[cA]? = some kA) (hkindA : kA.kind = .array cI (.array .int)) (hkI : s.vm.classes[cI]? = some kI) (hkindI : kI.kind = .array c0 .int) (ha : ¬ a < 0) (ha0 : ¬ a = 0) (hN : a.toNatClampNeg = N) (hb : ¬ b < 0) (hM : b.toNatClampNeg = M)
    (h1 : ¬ N > e.platform.arrayLengthLimit) (h2 : ¬ N * 4 > e.platform.maxHeapBytes) (g1 : ¬ M > e.platform.arrayLengthLimit) (g2 : ¬ M * 4 > e.platform.maxHeapBytes) (h3 : s.heap.size + (1 + N) ≤ e.platform.maxCells) (h4 : s.slotsUsed + (N + N * M) ≤ e.platform.maxSlots)
    (hq : ∀ d' acts', Q s.heap.size d' acts' (maT s cA cI N M N)) : wp (multianewarray.make cA [a, b]) Q E e d acts s := by
  subst hN
  rw [multianewarray.make]
  simp only [wp_bind', W.ite, ha, if_false, wp_pure', W.theClass, hkA, Option.some.injEq, exists_eq_left', hkindA]
  refine W.newArray_of hkA hkindA h1 h2 (by omega) (by omega) rfl (fun acts1 => ?_)
  have e0 : s.pushCell { cls := cA, slots := Array.replicate a.toNatClampNeg .null } = maT s cA cI a.toNatClampNeg M 0 := by
    show s.pushCell _ = s.pushCell _
    rw [oF_0, ← arrV_new]
  rw [e0]
  simp only [beq_iff_eq, ha0, if_false, wp_bind', W.ite, wp_pure', Std.Legacy.Range.forIn_eq_forIn_range', Std.Legacy.Range.size]
  refine wp_forIn_inv (fun rest s' => ∃ i, i ≤ a.toNatClampNeg ∧ rest = List.range' i (a.toNatClampNeg - i) ∧ s' = maT s cA cI a.toNatClampNeg M i) _ _ ?_ ?_ ?_
  · exact ⟨0, Nat.zero_le _, by simp, rfl⟩
  · rintro x rest s' d' acts' Q' ⟨i, i1, i2, rfl⟩ hQ'
    have lt : i < a.toNatClampNeg := by
      rcases Nat.lt_or_ge i a.toNatClampNeg with q | q
      · exact q
      · rw [show a.toNatClampNeg - i = 0 by omega] at i2
        cases i2
    rw [show a.toNatClampNeg - i = (a.toNatClampNeg - (i + 1)) + 1 by omega, List.range'_succ] at i2
    obtain ⟨e1, e2⟩ := List.cons.inj i2
    obtain rfl : i = x := e1.symm
    subst e2
    have mul : i * M + M ≤ a.toNatClampNeg * M := by
      have := Nat.mul_le_mul_right M (show i + 1 ≤ a.toNatClampNeg by omega)
      rw [Nat.add_mul, Nat.one_mul] at this
      exact this
    simp only [wp_bind']
    refine ma_row (kI := kI) (c0 := c0) (by rw [maT_v]; exact hkI) hkindI hb hM g1 g2 (show (maT s cA cI a.toNatClampNeg M i).heap.size < e.platform.maxCells by rw [maT_z]; omega) (show (maT s cA cI a.toNatClampNeg M i).slotsUsed + M ≤ e.platform.maxSlots by rw [maT_u]; omega) (fun acts2 => ?_)
    simp only [wp_bind', W.writeLoc, wp_pure']
    refine ⟨arrV cA a.toNatClampNeg (oF s.heap.size i), ?_, ?_, ?_, ?_, ?_⟩
    · rw [State.heap_pushCell_of_lt _ _ (show s.heap.size < (maT s cA cI a.toNatClampNeg M i).heap.size by rw [maT_z]; omega)]
      exact maT_o i
    · intro q; cases q
    · rw [arrV_size]; exact lt
    · have hv : (maT s cA cI a.toNatClampNeg M i).vm.classes[cA]? = some kA := by rw [maT_v]; exact hkA
      show ((maT s cA cI a.toNatClampNeg M i).pushCell (arrV cI M (fun _ => .int 0))).fitsSlot cA .none i _ = true
      rw [State.fitsSlot_pushCell]
      simp [State.fitsSlot, State.slotType?, hv, hkindA, fits]
    · rw [arrV_store, maT_z, oF_s]
      exact hQ' _ _ _ ⟨i + 1, lt, rfl, rfl⟩
  · rintro s' d' acts' ⟨i, i1, i2, rfl⟩
    have e : i = a.toNatClampNeg := by
      rcases Nat.lt_or_ge i a.toNatClampNeg with q | q
      · rw [show a.toNatClampNeg - i = (a.toNatClampNeg - (i + 1)) + 1 by omega, List.range'_succ] at i2
        cases i2
      · omega
    rw [e]
    first | exact hq _ _ | (simp only [wp_pure']; exact hq _ _)
end MWP
end MANA
