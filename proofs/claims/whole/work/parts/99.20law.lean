/-! THE CLAIM OUT OF ONE WALK OF THE LAW'S BODY. Your part is whole_start (and what it stands on); all else here is the same for every law, but numbers. -/
def R_law : String := "TwoBooksLaw"
def lw_P (b : Addr) (xs : List Int32) (args : Array Value) (s : State) : Prop := args = #[.ref b] ∧ s.IntsAt b xs ∧ xs.length ≤ 2560 ∧ (Jvm.Cond.and given_1 narrow_1).before args s = true
def lw_Q (_ : Array Value) (s : State) (o : Outcome) (t : State) : Prop := o = .returned (some (.int 1)) ∧ Framed s o t [] 600000 7302250
def lw_Z (below : List Frame) (a : Array Value) (s : State) : State → Prop := fun t => ∃ o, t.status = .running ∧ Ended t below o ∧ lw_Q a s o t
/-- the law's own end, with 1 on the stack, nothing written that was there before, its room as the claim has it -/
theorem lw_ret {p : Program} {l : Launch} {e : Env} {s : State} {m : MethodId} {below : List Frame} {meth : Method} {c : Code} {b : Nat} (hx : p.tables.exec = Jvm.exec) (hb : c.code = code) (hr : meth.sig.returnType = ret) (hlocks : meth.locks = false) {pc : Nat} {H : Heap} {ls : Array Slot} (hdg : decode code pc = .ok (.ireturn, 1)) : W p l e room_1 s m #[Value.ref b] below meth c H [] 600000 7302250 (lw_Z below #[Value.ref b] s) (F0 m pc ls [.int 1]) := by
  intro T hT X
  obtain ⟨fs, hret, hrun, hended, hW, hframe⟩ := X.leave (v := some (.int 1)) (hlocks := hlocks) (fun h => by rw [hr] at h; cases h)
  have hmeth' : T.vm.method? m = some meth := X.method'
  refine ⟨T.setFrames fs, ?_, .returned (some (.int 1)), hrun, hended, rfl, ⟨_, rfl⟩, hW, hframe⟩
  jvm_step X.here [X.here.top, hx, hb, hdg, hmeth', hr, ret, narrow_b1]
  (try refine ⟨rfl, ?_⟩); (try refine ⟨rfl, ?_⟩)
  first | (intro acts; rw [hret _ acts rfl rfl rfl]) | rw [hret _ _ rfl rfl rfl]
  exact Steps.refl _
/-- what holds at the law's entry: the machine, the code, the tables' words (any of lw_tbl by 'hts w (by decide +kernel)'), the script of L ints xs at the cell b, what the Statement gives of the start (any of its parts by flat_of_before) -/
def lw_At (p : Program) (s : State) (m : MethodId) (meth : Method) (c : Code) (b L : Nat) (xs : Nat → Int32) : Prop :=
  p.tables.exec = Jvm.exec ∧ c.code = code ∧ meth.sig.returnType = ret ∧ c.maxLocals = 4 ∧ s.vm.findClass R_law = some m.cls ∧ (∀ w ∈ lw_tbl, w.before #[Value.ref b] s = true) ∧ va_X b L xs s s.heap ∧ b < s.heap.size ∧ meth.locks = false ∧ (Jvm.Cond.and given_1 narrow_1).before #[Value.ref b] s = true
/-! ===== the law, 1: its frame, the script, its end ===== -/
/-- the law's own end, for whatever it was given -/
theorem l_retA {p : Program} {l : Launch} {e : Env} {s : State} {m : MethodId} {args : Array Value} {below : List Frame} {meth : Method} {c : Code} (hx : p.tables.exec = Jvm.exec) (hb : c.code = code) (hr : meth.sig.returnType = ret) (hlocks : meth.locks = false) {pc : Nat} {H : Heap} {ls : Array Slot} (hdg : decode code pc = .ok (.ireturn, 1)) : W p l e room_1 s m args below meth c H [] 600000 7302250 (lw_Z below args s) (F0 m pc ls [.int 1]) := by
  intro T hT X
  obtain ⟨fs, hret, hrun, hended, hW, hframe⟩ := X.leave (v := some (.int 1)) (hlocks := hlocks) (fun h => by rw [hr] at h; cases h)
  have hmeth' : T.vm.method? m = some meth := X.method'
  refine ⟨T.setFrames fs, ?_, .returned (some (.int 1)), hrun, hended, rfl, ⟨_, rfl⟩, hW, hframe⟩
  jvm_step X.here [X.here.top, hx, hb, hdg, hmeth', hr, ret, narrow_b1]
  (try refine ⟨rfl, ?_⟩); (try refine ⟨rfl, ?_⟩)
  first | (intro acts; rw [hret _ acts rfl rfl rfl]) | rw [hret _ _ rfl rfl rfl]
  exact Steps.refl _
abbrev lF (G : vx_G) (nm : String) (b Ls : Nat) (xs : Nat → Int32) : vx_F := (G, (⟨RL, nm, "([I)Z"⟩, code, 4, ret), room_1, fun below args s => lw_Z below args s, fun s => va_X b Ls xs s s.heap ∧ b < s.heap.size ∧ s.heap.size = G.2.2.2, [(0, .ref b)])
section LAWR
variable {G : vx_G} {nm : String} {b Ls : Nat} {xs : Nat → Int32} {pc : Nat} {st : List Value} {n : Nat} {h : vx_H} {ce sl : Nat} {a1 a2 a3 : Option Value}
theorem l_ret {L : List (Option Value)} (h1 : ce ≤ 600000) (h2 : sl ≤ 7302250) (hd : decode code pc = .ok (.ireturn, 1)) : xV (lF G nm b Ls xs) pc L [.int 1] n h ce sl := by
  intro p e s m args below meth c C H locs ls hH hS hl
  obtain ⟨_, _, hz⟩ := C.2.2.2.2.2.2.2.2.2.2.2
  refine va_forget (fun q hq => ?_) (W.widen (k := 600000) (n := 7302250) h1 h2 (l_retA C.1 C.2.1 C.2.2.1 C.2.2.2.2.2.2.1 hd))
  rw [hz]
  exact hS.2.2 q hq
theorem l_ls {ls : Array Slot} {L : List (Option Value)} (hl : xL (lF G nm b Ls xs) ls L) : ls[0]? = some (.val (.ref b)) := hl.2.2 (0, .ref b) List.mem_cons_self
theorem l_len {L : List (Option Value)} (h0 : decode code pc = .ok (.aload_n 0, 1)) (h1 : decode code (pc + 1) = .ok (.arraylength, 1)) (kk : xV (lF G nm b Ls xs) (pc + 2) L (.int (nI Ls) :: st) n h ce sl) : xV (lF G nm b Ls xs) pc L st n h ce sl := by
  intro p e s m args below meth c C H locs ls hH hS hl
  obtain ⟨hX, hbl, hz⟩ := C.2.2.2.2.2.2.2.2.2.2.2
  refine lv_aload_n C.1 C.2.1 h0 rfl (l_ls hl) ?_
  exact va_slen C.1 C.2.1 hX hbl (fun q => by rw [hz] at hbl; exact absurd hbl (Nat.not_lt.mpr q)) hS h1 (kk p e s m args below meth c C H locs ls hH hS hl)
theorem l_arg {i : Nat} {z : Int} (j : Nat) (h0 : decode code pc = .ok (.aload_n 0, 1)) (h1 : decode code (pc + 1) = .ok (.iload_n 3, 1)) (h2 : decode code (pc + 2) = .ok (.iconst z, 1)) (h3 : decode code (pc + 3) = .ok (.iadd, 1)) (h4 : decode code (pc + 4) = .ok (.iaload, 1)) (hi : nI i + Int32.ofInt z = nI j) (hj : j < Ls) (hL : Ls ≤ 2560) (kk : xV (lF G nm b Ls xs) (pc + 5) [none, a1, a2, some (.int (nI i))] (.int (xs j) :: st) n h ce sl) : xV (lF G nm b Ls xs) pc [none, a1, a2, some (.int (nI i))] st n h ce sl := by
  intro p e s m args below meth c C H locs ls hH hS hl
  obtain ⟨hX, hbl, hz⟩ := C.2.2.2.2.2.2.2.2.2.2.2
  have hin := vp_nI (i := nI j) (j := j) (N := Ls) rfl hj (by omega)
  refine lv_aload_n C.1 C.2.1 h0 rfl (l_ls hl) ?_
  refine lv_iload_n C.1 C.2.1 h1 rfl (xL.at (i := 3) hl rfl) ?_
  refine lv_iconst C.1 C.2.1 h2 rfl ?_
  refine lv_iadd C.1 C.2.1 h3 ?_
  rw [hi]
  refine va_sld C.1 C.2.1 hX hbl (fun q => by rw [hz] at hbl; exact absurd hbl (Nat.not_lt.mpr q)) hS hin.1 h4 ?_
  rw [hin.2]
  exact kk p e s m args below meth c C H locs ls hH hS hl
theorem l_arg0 {i : Nat} (h0 : decode code pc = .ok (.aload_n 0, 1)) (h1 : decode code (pc + 1) = .ok (.iload_n 3, 1)) (h4 : decode code (pc + 2) = .ok (.iaload, 1)) (hj : i < Ls) (hL : Ls ≤ 2560) (kk : xV (lF G nm b Ls xs) (pc + 3) [none, a1, a2, some (.int (nI i))] (.int (xs i) :: st) n h ce sl) : xV (lF G nm b Ls xs) pc [none, a1, a2, some (.int (nI i))] st n h ce sl := by
  intro p e s m args below meth c C H locs ls hH hS hl
  obtain ⟨hX, hbl, hz⟩ := C.2.2.2.2.2.2.2.2.2.2.2
  have hin := vp_nI (i := nI i) (j := i) (N := Ls) rfl hj (by omega)
  refine lv_aload_n C.1 C.2.1 h0 rfl (l_ls hl) ?_
  refine lv_iload_n C.1 C.2.1 h1 rfl (xL.at (i := 3) hl rfl) ?_
  refine va_sld C.1 C.2.1 hX hbl (fun q => by rw [hz] at hbl; exact absurd hbl (Nat.not_lt.mpr q)) hS hin.1 h4 ?_
  rw [hin.2]
  exact kk p e s m args below meth c C H locs ls hH hS hl
theorem l_ast1 {x : Nat} (hd : decode code pc = .ok (.astore_n 1, 1)) (kk : xV (lF G nm b Ls xs) (pc + 1) [none, some (.ref x), none, none] st n h ce sl) : xV (lF G nm b Ls xs) pc [none, none, none, none] (.ref x :: st) n h ce sl := by
  intro p e s m args below meth c C H locs ls hH hS hl
  refine lv_astore_n (i := 1) (nL := 4) (lv := [(0, .ref b)]) (lv' := [(1, .ref (G.2.2.2 + x)), (0, .ref b)]) C.1 C.2.1 hd rfl hl (by decide) rfl (fun ls' hl' => ?_)
  refine kk p e s m args below meth c C H locs ls' hH hS ⟨hl'.1, hl'.2.1, fun q hq => hl'.2.2 q ?_⟩
  rcases List.mem_cons.mp hq with rfl | hq
  · exact List.mem_cons_of_mem _ List.mem_cons_self
  · rcases List.mem_cons.mp hq with rfl | hq
    · exact List.mem_cons_self
    · cases hq
end LAWR
theorem l_room {mt : vx_M} {dd ce sl : Nat} (hm : mt.2.2.1 ≤ 100) (hd : dd ≤ 24) (hc : ce ≤ 600000) (hs : sl ≤ 7302250) : xRoom room_1 mt dd 0 0 ce sl := ⟨⟨show dd + 1 ≤ 2048 by omega, show 8 + (mt.2.2.1 + 11) + 64 * dd ≤ 84000 by omega⟩, show ce + 0 ≤ 600000 by omega, show sl + 0 ≤ 7302250 by omega⟩
theorem dk_0 {d m : mS} : ∃ fs, hp (dk d) m 0 = .inr (9, fs) := ⟨_, hd_at (a := 0) (by decide) rfl⟩
theorem and31 (x : Int32) : ∃ t, t ≤ 31 ∧ x &&& nI 31 = nI t := by
  refine ⟨(x.toBitVec &&& 31#32).toNat, ?_, ?_⟩
  · rw [BitVec.toNat_and]
    exact Nat.and_le_right
  · apply Int32.toBitVec_inj.mp
    show x.toBitVec &&& (nI 31).toBitVec = BitVec.ofNat 32 (x.toBitVec &&& 31#32).toNat
    rw [BitVec.ofNat_toNat, BitVec.setWidth_eq]
    rfl
