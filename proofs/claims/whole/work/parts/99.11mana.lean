/-! ===== multianewarray, over xV ===== -/
theorem maL_in {l : Loc} {locs : List Loc} {h0 : Nat} : ∀ i, l ∈ maL locs h0 i → l ∈ locs ∨ l.base = h0
  | 0, h => Or.inl h
  | i + 1, h => by
    rcases List.mem_append.mp h with q | q
    · exact maL_in i q
    · rw [List.mem_singleton.mp q]; exact Or.inr rfl
/-- the heap with N rows of M ints and the row of them -/
def maH (h : vx_H) (n N M : Nat) : vx_H := fun q => if q = n then .inl (6, N, .inr (.inr (.inr (.inr (fun r => if r < N then some (n + 1 + r) else none))))) else if n < q then .inl (0, M, .inl (fun _ => 0)) else h q
theorem maH_HR {G : vx_G} {n N M : Nat} {h : vx_H} {H H1 : Heap} (hH : HR G n h H) (hz : H1.size = H.size + 1 + N) (oq : ∀ q : Nat, q < H.size → H1[q]? = H[q]?) (ho : H1[H.size]? = some (arrV (G.2.2.1 6) N (oF H.size N))) (hr : ∀ j, j < N → H1[H.size + 1 + j]? = some (arrV (G.2.2.1 0) M (fun _ => .int 0))) : HR G (n + 1 + N) (maH h n N M) H1 := by
  refine ⟨fun k q hk => ?_, by rw [hz, hH.2]; omega⟩
  obtain ⟨k1, rfl⟩ := wl_at hk
  have old := hH.1.kept (H1 := H1) (fun k x hx => oq x.1 ((hH.1 k x hx).lt))
  rcases Nat.lt_trichotomy k n with c | c | c
  · have e : maH h n N M k = h k := by
      unfold maH
      rw [if_neg (by omega), if_neg (by omega)]
    rw [e]
    exact old k _ (wl_get c)
  · subst c
    have e : maH h k N M k = .inl (6, N, .inr (.inr (.inr (.inr (fun r => if r < N then some (k + 1 + r) else none))))) := by
      unfold maH
      rw [if_pos rfl]
    rw [e]
    show H1[G.2.2.2 + k]? = some (arrV (G.2.2.1 6) N (fun j => va_rf ((if j < N then some (k + 1 + j) else none).map (fun a => G.2.2.2 + a))))
    rw [← hH.2, ho]
    have ef : oF H.size N = fun j => va_rf ((if j < N then some (k + 1 + j) else none).map (fun a => G.2.2.2 + a)) := by
      funext j
      unfold oF
      by_cases cj : j < N
      · rw [if_pos cj, if_pos cj]
        show Value.ref (H.size + 1 + j) = Value.ref (G.2.2.2 + (k + 1 + j))
        rw [hH.2]
        exact congrArg Value.ref (show G.2.2.2 + k + 1 + j = G.2.2.2 + (k + 1 + j) by omega)
      · rw [if_neg cj, if_neg cj]
        rfl
    rw [ef]
  · obtain ⟨j, rfl⟩ : ∃ j, k = n + 1 + j := ⟨k - (n + 1), by omega⟩
    have e : maH h n N M (n + 1 + j) = .inl (0, M, .inl (fun _ => 0)) := by
      unfold maH
      rw [if_neg (by omega), if_pos (by omega)]
    rw [e]
    show H1[G.2.2.2 + (n + 1 + j)]? = some (arrV (G.2.2.1 0) M (fun _ => .int 0))
    have := hr j (by omega)
    rw [hH.2] at this
    rw [show G.2.2.2 + (n + 1 + j) = G.2.2.2 + n + 1 + j by omega]
    exact this
section XMANA
variable {F : vx_F} {pc : Nat} {L : List (Option Value)} {st : List Value} {n : Nat} {h : vx_H} {ce sl : Nat}
theorem x_mana {idx : Nat} (hw : Cond.classLink F.2.1.1.cls idx "[[I" ∈ lw_ok) {a b : Int32} {N M : Nat} (ha : ¬ a < 0) (ha0 : ¬ a = 0) (hN : a.toNatClampNeg = N) (hb : ¬ b < 0) (hM : b.toNatClampNeg = M) (hB : N ≤ 1000 ∧ M ≤ 1000) (hc : ce + (1 + N) ≤ F.2.2.1.cells) (hs : sl + (N + N * M) ≤ F.2.2.1.slots) (hd : decode F.2.1.2.1 pc = .ok (.multianewarray idx 2, 4))
    (kk : xV F (pc + 4) L (.ref n :: st) (n + 1 + N) (maH h n N M) (ce + 1 + N) (sl + N + N * M)) : xV F pc L (.int b :: .int a :: st) n h ce sl := by
  intro p e s m args below meth c X H locs ls hH hS hl T hT X0
  have hts := X.2.2.2.2.2.1
  have hK := X.2.2.2.2.2.2.2.1
  have hNs := X.2.2.2.2.2.2.2.2.2.2.1
  have hown := X.2.2.2.2.1
  obtain ⟨cI, cA, kA, f1, f2, f3, f4⟩ := hNs.2
  have i0 : s.vm.findClass "[I" = some (F.1.2.2.1 0) := va_nm_int (hK.2 0 _ rfl).2
  have i6 : s.vm.findClass "[[I" = some (F.1.2.2.1 6) := by
    have e6 : "[" ++ (FieldType.array .int).toString = "[[I" := by decide +kernel
    rw [← e6]
    exact (hK.2 6 _ rfl).2
  cases f1.symm.trans i0
  cases f2.symm.trans i6
  obtain ⟨_, kI, k1, c0, k2⟩ := (hK.2 0 _ rfl).1 0 (fun _ => .null)
  have k1 : s.vm.classes[F.1.2.2.1 0]? = some kI := k1
  subst hT
  have hpl : e.platform.magicAccessors = ({} : Platform).magicAccessors := by rw [X0.admits.platform]
  obtain ⟨cq, hfc, hcl⟩ := Cond.classLink_spec hown (hts _ hw) e.platform hpl
  cases f2.symm.trans hfc
  obtain ⟨hg1, hwarm, hready⟩ := State.classEntry (e := e) X0.warmed hcl
  generalize T.vm.noted m.cls idx (.cls (F.1.2.2.1 6)) = vm1 at hg1 hwarm hready
  obtain ⟨kA1, hkA1, heA⟩ := hwarm.alike.2.2 _ _ f3
  obtain ⟨kI1, hkI1, heI⟩ := hwarm.alike.2.2 _ _ k1
  have hkindA : kA1.kind = .array (F.1.2.2.1 0) (.array .int) := by rw [heA]; exact f4
  have hkindI : kI1.kind = .array c0 .int := by rw [heI]; exact k2
  have lim : 1000 ≤ e.platform.arrayLengthLimit := by
    rw [Launch.admits_arrayLengthLimit X0.admits]; decide
  have hpb : e.platform.maxHeapBytes = 536870912 := Launch.admits_maxHeapBytes X0.admits
  have X1 := X0.noted hwarm
  have X2 := maT_X (cA := F.1.2.2.1 6) (cI := F.1.2.2.1 0) (N := N) (M := M) X1 N
  obtain ⟨hr1, hr2⟩ := X0.roomAbove hc hs
  have hz : (maT (T.setVm vm1) (F.1.2.2.1 6) (F.1.2.2.1 0) N M N).heap.size = T.heap.size + 1 + N := maT_z (T := T.setVm vm1) N
  have oq : ∀ q : Nat, q < T.heap.size → (maT (T.setVm vm1) (F.1.2.2.1 6) (F.1.2.2.1 0) N M N).heap[q]? = T.heap[q]? := fun q hq => maT_q (T := T.setVm vm1) hq N
  have hHR : HR F.1 (n + 1 + N) (maH h n N M) (maT (T.setVm vm1) (F.1.2.2.1 6) (F.1.2.2.1 0) N M N).heap := maH_HR hH hz oq (maT_o (T := T.setVm vm1) N) (fun j hj => maT_r (T := T.setVm vm1) N hj)
  have hS2 : va_S (fun q => F.1.2.2.2 ≤ q) s.heap (maT (T.setVm vm1) (F.1.2.2.1 6) (F.1.2.2.1 0) N M N).heap (maL locs (T.setVm vm1).heap.size N) := by
    refine ⟨by rw [hz]; have := hS.1; omega, fun q h1 h2 => (oq q (Nat.lt_of_lt_of_le h1 hS.1)).trans (hS.2.1 q h1 h2), fun q hq => ?_⟩
    rcases maL_in N hq with z | z
    · exact hS.2.2 q z
    · show F.1.2.2.2 ≤ q.base
      rw [z]
      show F.1.2.2.2 ≤ T.heap.size
      rw [hH.2]; omega
  obtain ⟨t, a1, b1⟩ := kk p e s m args below meth c X _ _ ls hHR hS2 hl _ rfl X2
  refine ⟨t, ?_, b1⟩
  refine Steps.instr (c := c) (by simpa using X0.here) ?_
  have hd2 : decode c.code (F0 m pc ls (List.map (rv F.1.2.2.2) (.int b :: .int a :: st))).pc = .ok (.multianewarray idx 2, 4) := by rw [X.2.1]; exact hd
  rw [hd2]
  show wpRun (p.tables.exec (.multianewarray idx 2)) _ _ e _
  rw [X.1]
  show wp (multianewarray.sem idx 2) _ _ e false [] (T.setTop _)
  have top := X0.here.top
  simp only [multianewarray.sem, wp_bind']
  rw [W.resolveClassAt_transfer (s := T.setTop _) (State.method?_setTop _ top) hg1 hready]
  have top1 : (T.setVm vm1).topJava?.isSome := top
  have e1 : (T.setTop (F0 m pc ls (List.map (rv F.1.2.2.2) (.int b :: .int a :: st)))).setVm vm1 = (T.setVm vm1).setTop (F0 m pc ls (List.map (rv F.1.2.2.2) (.int b :: .int a :: st))) := rfl
  rw [e1, W.resolveClassAt_ready (s := (T.setVm vm1).setTop (F0 m pc ls (List.map (rv F.1.2.2.2) (.int b :: .int a :: st)))) (m := m) (State.method?_setTop (F0 m pc ls (List.map (rv F.1.2.2.2) (.int b :: .int a :: st))) top1) hready, wp_bind', W.popN, if_neg (by decide)]
  refine ⟨_, State.topJava?_setTop' _ top1, [.int a, .int b], st.map (rv F.1.2.2.2), rfl, rfl, ?_⟩
  rw [State.setTop_setTop]
  simp only [List.mapM_cons, List.mapM_nil, wp_bind', wp_pure']
  have mul : N * M ≤ N * 1000 := Nat.mul_le_mul_left N hB.2
  refine ma_all (kA := kA1) (kI := kI1) (c0 := c0) (N := N) (M := M) hkA1 hkindA hkI1 hkindI ha ha0 hN hb hM (by omega) (by rw [hpb]; omega) (by omega) (by rw [hpb]; omega) (show T.heap.size + (1 + N) ≤ e.platform.maxCells from hr1) (show T.slotsUsed + (N + N * M) ≤ e.platform.maxSlots from hr2) (fun d2 acts2 => ?_)
  simp only [wp_bind', W.mark, W.pushRef]
  rw [maT_t]
  have top2 : (maT (T.setVm vm1) (F.1.2.2.1 6) (F.1.2.2.1 0) N M N).topJava?.isSome := by rw [maT_j]; exact top1
  refine ⟨_, State.topJava?_setTop' _ top2, fun acts3 => ?_⟩
  rw [State.setTop_setTop, afterInstr_ok]
  have er : Value.ref ((T.setVm vm1).setTop (F0 m pc ls (List.map (rv F.1.2.2.2) st))).heap.size = rv F.1.2.2.2 (.ref n) := by
    show Value.ref T.heap.size = Value.ref (F.1.2.2.2 + n)
    rw [hH.2]
  exact er ▸ a1
end XMANA
