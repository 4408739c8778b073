/-! ===== making cells; members of the JDK ===== -/
section XM
variable {F : vx_F} {pc : Nat} {L : List (Option Value)} {st : List Value} {n : Nat} {h : vx_H} {ce sl : Nat}
theorem HR.grow {G : vx_G} {e : va_E} {H H1 : Heap} (hH : HR G n h H) (he : va_at G.2.1 vwCl (G.2.2.2 + n, cvE G e) H1) (hz : H1.size = H.size + 1) (oq : ∀ q : Nat, q < H.size → H1[q]? = H[q]?) : HR G (n + 1) (va_up h n e) H1 := by
  refine ⟨?_, by rw [hz, hH.2]; omega⟩
  rw [← wl_push]
  refine (hH.1.kept (fun k x hx => oq x.1 ((hH.1 k x hx).lt))).app (fun k x hx => ?_)
  have hk : k < 1 := (List.getElem?_eq_some_iff.mp hx).1
  rw [show k = 0 by omega] at hx
  cases hx
  exact he
theorem HR.growS {G : vx_G} {H0 H H1 : Heap} {locs : List Loc} (hS : va_S (fun q => G.2.2.2 ≤ q) H0 H locs) (hz : H1.size = H.size + 1) (oq : ∀ q : Nat, q < H.size → H1[q]? = H[q]?) : va_S (fun q => G.2.2.2 ≤ q) H0 H1 locs :=
  ⟨by rw [hz]; exact Nat.le_succ_of_le hS.1, fun x h1 h2 => (oq x (Nat.lt_of_lt_of_le h1 hS.1)).trans (hS.2.1 x h1 h2), hS.2.2⟩
def xNW (own : String) (idx ci : Nat) (N : Nat) (fs : List Value) : Prop := ∃ (C : String) (T : u_T) (ty : Nat → FieldType), vwCl[ci]? = some (C, T, N) ∧ (∀ w ∈ u_ws C T N, w ∈ lw_ok) ∧ (∀ k, k < N → parseFieldDescriptor (T k).2.2.1 = some (ty k)) ∧ Cond.classLink own idx C ∈ lw_ok ∧ Cond.instantiable C N ∈ lw_ok ∧ Cond.initialized C ∈ lw_ok ∧ (∀ j, j < N → defaultValue (ty j) = vp_V fs j) ∧ ∀ b : Nat, fs.map (rv b) = fs
theorem x_new {idx ci N : Nat} {fs : List Value} (hw : xNW F.2.1.1.cls idx ci N fs) (hc : ce + 1 ≤ F.2.2.1.cells) (hs : sl + N ≤ F.2.2.1.slots) (hd : decode F.2.1.2.1 pc = .ok (.new idx, 3))
    (kk : xV F (pc + 3) L (.ref n :: st) (n + 1) (va_up h n (.inr (ci, fs))) (ce + 1) (sl + N)) : xV F pc L st n h ce sl := by
  intro p e s m args below meth c X H locs ls hH hS hl
  obtain ⟨C, T, ty, h1, hin, hty, w1, w2, w3, hfs, hrv⟩ := hw
  have hts := X.2.2.2.2.2.1
  have hK := X.2.2.2.2.2.2.2.1
  have hKn := hK.1 ci _ h1
  refine W.newcK X.1 X.2.1 X.2.2.2.2.1 (hts _ w1) (hts _ w2) (hts _ w3) rfl hd hc hs hKn.2.1 hH.2 fun H1 kC hkC e1 z1 o1 => ?_
  rw [← hH.2] at z1 o1
  refine kk p e s m args below meth c X H1 locs ls (hH.grow ?_ z1 o1) (HR.growS hS z1 o1) hl
  refine ⟨_, h1, ?_⟩
  have := (u_born ty hts hin hKn hkC e1 hty).to hfs
  rw [← hrv F.1.2.2.2] at this
  exact this
theorem ArrOfT.vm {u U : State} {cA : ClassId} {ty : FieldType} (hvm : u.vm.Alike U.vm) (h : ArrOfT u cA ty) : ArrOfT U cA ty := arrOfT_moved hvm h
/-- new int[..], boolean[..], long[..] -/
def xNA (t : Nat) (at0 : ArrayType) (ty : FieldType) (z : Nat → vp_A) : Prop := (t = 0 ∧ at0 = .int ∧ ty = .int ∧ z = fun N => (N, .inl (fun _ => 0))) ∨ (t = 1 ∧ at0 = .boolean ∧ ty = .boolean ∧ z = fun N => (N, .inl (fun _ => 0))) ∨ (t = 2 ∧ at0 = .long ∧ ty = .long ∧ z = fun N => (N, .inr (.inl (fun _ => 0))))
theorem x_newa {t : Nat} {at0 : ArrayType} {ty : FieldType} {z : Nat → vp_A} (hz : xNA t at0 ty z) (hw : Cond.arrayClass ty ∈ lw_ok) {k : Int32} {N : Nat} (hk : ¬ k < 0) (hN : k.toNatClampNeg = N) (hb : N * componentBytes ty ≤ 536870912) (hc : ce + 1 ≤ F.2.2.1.cells) (hs : sl + N ≤ F.2.2.1.slots) (hd : decode F.2.1.2.1 pc = .ok (.newarray at0, 2))
    (kk : xV F (pc + 2) L (.ref n :: st) (n + 1) (va_up h n (.inl (t, z N))) (ce + 1) (sl + N)) : xV F pc L (.int k :: st) n h ce sl := by
  intro p e s m args below meth c X H locs ls hH hS hl
  have hts := X.2.2.2.2.2.1
  have hK := X.2.2.2.2.2.2.2.1
  have hty : newarray.typeOf at0 = ty := by rcases hz with ⟨_, rfl, rfl, _⟩ | ⟨_, rfl, rfl, _⟩ | ⟨_, rfl, rfl, _⟩ <;> rfl
  subst hty
  refine va_newaK X.1 X.2.1 (hts _ hw) rfl hd rfl hk hN hb hc hs hH.2 fun H1 cA e1 z1 o1 hAr hNm => ?_
  rw [← hH.2] at z1 o1
  refine kk p e s m args below meth c X H1 locs ls (hH.grow ?_ z1 o1) (HR.growS hS z1 o1) hl
  rcases hz with ⟨rfl, rfl, -, rfl⟩ | ⟨rfl, rfl, -, rfl⟩ | ⟨rfl, rfl, -, rfl⟩
  · have h2 := (hK.2 0 _ rfl).2
    have h3 : s.vm.findClass ("[" ++ (FieldType.int).toString) = some (F.1.2.2.1 0) := h2
    have e2 : cA = F.1.2.2.1 0 := Option.some.inj (hNm.symm.trans h3)
    subst e2
    exact e1
  · have h2 := (hK.2 1 _ rfl).2
    have h3 : s.vm.findClass ("[" ++ (FieldType.boolean).toString) = some (F.1.2.2.1 1) := h2
    have e2 : cA = F.1.2.2.1 1 := Option.some.inj (hNm.symm.trans h3)
    subst e2
    exact e1
  · have h2 := (hK.2 2 _ rfl).2
    have h3 : s.vm.findClass ("[" ++ (FieldType.long).toString) = some (F.1.2.2.1 2) := h2
    have e2 : cA = F.1.2.2.1 2 := Option.some.inj (hNm.symm.trans h3)
    subst e2
    exact e1
/-- new Line[..] and the like -/
theorem x_newq {t idx : Nat} {C : String} (ht : (vx_ty F.1)[t]? = some (F.1.2.2.1 t, .object C)) (hw : Cond.classLink F.2.1.1.cls idx C ∈ lw_ok) (hv : Cond.arrayOver (.object C) ∈ lw_tbl) {k : Int32} {N : Nat} (hk : ¬ k < 0) (hN : k.toNatClampNeg = N) (hb : N * 4 ≤ 536870912) (hc : ce + 1 ≤ F.2.2.1.cells) (hs : sl + N ≤ F.2.2.1.slots) (hd : decode F.2.1.2.1 pc = .ok (.anewarray idx, 3))
    (kk : xV F (pc + 3) L (.ref n :: st) (n + 1) (va_up h n (.inl (t, N, .inr (.inr (.inr (.inr (fun _ => none))))))) (ce + 1) (sl + N)) : xV F pc L (.int k :: st) n h ce sl := by
  intro p e s m args below meth c X H locs ls hH hS hl
  have hts := X.2.2.2.2.2.1
  have hK := X.2.2.2.2.2.2.2.1
  have hNs := X.2.2.2.2.2.2.2.2.2.2.1
  subst hN
  refine W.anew X.1 X.2.1 X.2.2.2.2.1 (hts _ hw) (va_AO.use (hNs.1 _ hv rfl)) rfl hd rfl hk hb hc hs fun cA kA comp f1 f2 f3 f4 => ?_
  obtain ⟨kA', comp', g1, g2, g3, g4⟩ := (hK.2 t _ ht).2
  have e2 : cA = F.1.2.2.1 t := Option.some.inj (f1.symm.trans g4)
  subst e2
  generalize hH1 : H.push ({ cls := F.1.2.2.1 t, slots := Array.replicate k.toNatClampNeg .null, vm := .none } : Cell) = H1
  have z1 : H1.size = H.size + 1 := by rw [← hH1, Array.size_push]
  have e1 : H1[H.size]? = some (arrV (F.1.2.2.1 t) k.toNatClampNeg (fun _ => .null)) := by rw [← hH1, Array.getElem?_push_size, ← arrV_new]
  have o1 : ∀ q : Nat, q < H.size → H1[q]? = H[q]? := fun q hq => by rw [← hH1, Array.getElem?_push, if_neg (Nat.ne_of_lt hq)]
  have k1 := kk p e s m args below meth c X H1 locs ls (hH.grow (by rw [← hH.2]; exact e1) z1 o1) (HR.growS hS z1 o1) hl
  have e3 : rv F.1.2.2.2 (.ref n) = .ref H.size := by show Value.ref (F.1.2.2.2 + n) = _; rw [hH.2]
  rw [List.map_cons, e3] at k1
  exact k1
theorem x_objInit {idx : Nat} {a : Nat} (w1 : Cond.methodLink F.2.1.1.cls idx Lib.objectInit ∈ lw_ok) (w2 : Cond.instanceMethod Lib.objectInit ∈ lw_ok) (w3 : Cond.code Lib.objectInit ⟨#[0xb1]⟩ 1 none ∈ lw_ok) (hf : 1 ≤ F.2.2.1.frames) (hlo : (st.map fun v => v.category).sum + 12 ≤ F.2.2.1.locals) (hd : decode F.2.1.2.1 pc = .ok (.invokespecial idx, 3))
    (kk : xV F (pc + 3) L st n h ce sl) : xV F pc L (.ref a :: st) n h ce sl := by
  intro p e s m args below meth c X H locs ls hH hS hl
  have hts := X.2.2.2.2.2.1
  have e2 : (st.map (rv F.1.2.2.2)).map (fun v => v.category) = st.map (fun v => v.category) := by
    rw [List.map_map]
    exact List.map_congr_left (fun v _ => rv_cat _ v)
  refine W.objInit X.1 X.2.1 X.2.2.2.2.1 (hts _ w1) (hts _ w2) (hts _ w3) (g := F0 m pc ls ((.ref a :: st).map (rv F.1.2.2.2))) rfl (by rw [X.2.2.2.1]; exact hl.1) (rest := st.map (rv F.1.2.2.2)) rfl hd hf ?_ (kk p e s m args below meth c X H locs ls hH hS hl)
  rw [e2]
  show 2 * 0 + _ + 12 ≤ _
  omega
theorem x_sum {b : Nat} {st : List Value} : ((st.map (rv b)).map fun v => v.category).sum = (st.map fun v => v.category).sum := by
  rw [List.map_map]
  exact congrArg List.sum (List.map_congr_left (fun v _ => rv_cat _ v))
def xMM (own : String) (idx : Nat) (y : MethodName) (cc : ByteArray) (na : Nat) : Prop := Cond.methodLink own idx y ∈ lw_ok ∧ Cond.static y ∈ lw_ok ∧ Cond.initialized "java/lang/Math" ∈ lw_ok ∧ Cond.code y cc na (some .int) ∈ lw_ok
theorem x_max {idx : Nat} {x y : Int32} (hm : xMM F.2.1.1.cls idx Lib.Math.max.name Lib.Math.max.code 2) (hf : 1 ≤ F.2.2.1.frames) (hlo : (st.map fun v => v.category).sum + 13 ≤ F.2.2.1.locals) (hc : ce ≤ F.2.2.1.cells) (hs : sl ≤ F.2.2.1.slots) (hd : decode F.2.1.2.1 pc = .ok (.invokestatic idx, 3))
    (kk : xV F (pc + 3) L (.int (if x < y then y else x) :: st) n h ce sl) : xV F pc L (.int y :: .int x :: st) n h ce sl := by
  intro p e s m args below meth c X H locs ls hH hS hl
  have hts := X.2.2.2.2.2.1
  exact va_mmax X.1 X.2.1 (by rw [X.2.2.2.1]; exact hl.1.symm) X.2.2.2.2.1 (hts _ hm.1) (hts _ hm.2.1) (hts _ hm.2.2.1) (hts _ hm.2.2.2) hf (by rw [x_sum]; exact hlo) hc hs hd (kk p e s m args below meth c X H locs ls hH hS hl)
theorem x_min {idx : Nat} {x y : Int32} (hm : xMM F.2.1.1.cls idx Lib.Math.min.name Lib.Math.min.code 2) (hf : 1 ≤ F.2.2.1.frames) (hlo : (st.map fun v => v.category).sum + 13 ≤ F.2.2.1.locals) (hc : ce ≤ F.2.2.1.cells) (hs : sl ≤ F.2.2.1.slots) (hd : decode F.2.1.2.1 pc = .ok (.invokestatic idx, 3))
    (kk : xV F (pc + 3) L (.int (if y < x then y else x) :: st) n h ce sl) : xV F pc L (.int y :: .int x :: st) n h ce sl := by
  intro p e s m args below meth c X H locs ls hH hS hl
  have hts := X.2.2.2.2.2.1
  exact va_mmin X.1 X.2.1 (by rw [X.2.2.2.1]; exact hl.1.symm) X.2.2.2.2.1 (hts _ hm.1) (hts _ hm.2.1) (hts _ hm.2.2.1) (hts _ hm.2.2.2) hf (by rw [x_sum]; exact hlo) hc hs hd (kk p e s m args below meth c X H locs ls hH hS hl)
theorem x_abs {idx : Nat} {x : Int32} (hm : xMM F.2.1.1.cls idx Lib.Math.abs.name Lib.Math.abs.code 1) (hf : 1 ≤ F.2.2.1.frames) (hlo : (st.map fun v => v.category).sum + 13 ≤ F.2.2.1.locals) (hc : ce ≤ F.2.2.1.cells) (hs : sl ≤ F.2.2.1.slots) (hd : decode F.2.1.2.1 pc = .ok (.invokestatic idx, 3))
    (kk : xV F (pc + 3) L (.int (if 0 ≤ x then x else 0 - x) :: st) n h ce sl) : xV F pc L (.int x :: st) n h ce sl := by
  intro p e s m args below meth c X H locs ls hH hS hl
  have hts := X.2.2.2.2.2.1
  exact va_mabs X.1 X.2.1 (by rw [X.2.2.2.1]; exact hl.1.symm) X.2.2.2.2.1 (hts _ hm.1) (hts _ hm.2.1) (hts _ hm.2.2.1) (hts _ hm.2.2.2) hf (by rw [x_sum]; exact hlo) hc hs hd (kk p e s m args below meth c X H locs ls hH hS hl)
def xMY (own : String) (idx : Nat) : Prop := Cond.methodLink own idx arraycopyName ∈ lw_ok ∧ Cond.native arraycopyName ∈ lw_ok ∧ Cond.static arraycopyName ∈ lw_ok ∧ Cond.initialized "java/lang/System" ∈ lw_ok
/-- System.arraycopy between two int arrays -/
theorem x_copy {idx : Nat} (hm : xMY F.2.1.1.cls idx) {a0 a : Nat} (ha0 : a0 < n) (ha : a < n) {n0 n1 : Nat} {f g : Nat → Int32} (he0 : h a0 = .inl (0, n0, .inl f)) (he : h a = .inl (0, n1, .inl g)) {sp dp k : Int32} (h1 : ¬ sp < 0) (h2 : ¬ dp < 0) (h3 : ¬ k < 0) (h4 : sp.toNatClampNeg + k.toNatClampNeg ≤ n0) (h5 : dp.toNatClampNeg + k.toNatClampNeg ≤ n1)
    (hf : 1 ≤ F.2.2.1.frames) (hlo : (st.map fun v => v.category).sum + (nativeFrameWords "java/lang/System" "arraycopy" 5 + 11) ≤ F.2.2.1.locals) (hd : decode F.2.1.2.1 pc = .ok (.invokestatic idx, 3))
    (kk : xV F (pc + 3) L st n (va_up h a (.inl (0, n1, .inl (va_cpy f g sp.toNatClampNeg dp.toNatClampNeg k.toNatClampNeg)))) ce sl) : xV F pc L (.int k :: .int dp :: .ref a :: .int sp :: .ref a0 :: st) n h ce sl := by
  intro p e s m args below meth c X H locs ls hH hS hl
  have hts := X.2.2.2.2.2.1
  have hK := X.2.2.2.2.2.2.2.1
  have nn : ∀ z : Int32, ¬ z < 0 → z.toInt = (z.toNatClampNeg : Int) := by
    intro z hz
    have hz0 : (0 : Int) ≤ z.toInt := by
      have := Int32.not_lt.mp hz
      simpa using Int32.le_iff_toInt_le.mp this
    show z.toInt = ((z.toInt.toNat : Nat) : Int)
    omega
  have hc0 := hH.cell ha0
  rw [he0] at hc0
  have hc0 : H[F.1.2.2.2 + a0]? = some (vp_cell (F.1.2.2.1 0) (n0, .inl f)) := hc0
  have hc1 := hH.cell ha
  rw [he] at hc1
  have hc1 : H[F.1.2.2.2 + a]? = some (vp_cell (F.1.2.2.1 0) (n1, .inl g)) := hc1
  obtain ⟨-, k0, hk0, cm0, hkk0⟩ := (hK.2 0 _ rfl).1 n0 (fun j => .int (f j))
  intro T hT Y
  obtain ⟨vm', X', step⟩ := Y.arraycopy X.1 X.2.2.2.2.1 (hts _ hm.1) (hts _ hm.2.1) (hts _ hm.2.2.1) (hts _ hm.2.2.2) (src := F.1.2.2.2 + a0) (dst := F.1.2.2.2 + a) (cs := vp_cell (F.1.2.2.1 0) (n0, .inl f)) (cd := vp_cell (F.1.2.2.1 0) (n1, .inl g)) (srcPos := sp) (destPos := dp) (n := k) (by rw [hT]; exact hc0) (by rw [hT]; exact hc1)
    (fun _ h => by cases h) (fun _ h => by cases h) (fun h => by cases h) (fun h => by cases h) hk0 hk0 hkk0 hkk0 (by rfl) h1 h2 h3
    (by rw [nn sp h1, nn k h3]; show ¬ _ > ((arrV (F.1.2.2.1 0) n0 (fun j => .int (f j))).slots.size : Int); rw [arrV_size]; omega)
    (by rw [nn dp h2, nn k h3]; show ¬ _ > ((arrV (F.1.2.2.1 0) n1 (fun j => .int (g j))).slots.size : Int); rw [arrV_size]; omega)
    (fun vm₁ _ i hi => by
      have e : (vp_cell (F.1.2.2.1 0) (n0, .inl f)).slots.getD (sp.toNatClampNeg + i) .null = .int (f (sp.toNatClampNeg + i)) := by
        show (arrV (F.1.2.2.1 0) n0 (fun j => .int (f j))).slots.getD _ _ = _
        rw [Array.getD_eq_getD_getElem?, arrV_read _ _ (by omega)]
        rfl
      refine ⟨?_, ?_⟩
      · rw [e]
        rfl
      · rw [e]
        exact trivial)
    (g := F0 m pc ls (.int k :: .int dp :: .ref (F.1.2.2.2 + a) :: .int sp :: .ref (F.1.2.2.2 + a0) :: st.map (rv F.1.2.2.2))) rfl (by rw [X.2.2.2.1]; exact hl.1) (rest := st.map (rv F.1.2.2.2)) rfl (by rw [X.2.1]; exact hd) hf (by rw [x_sum]; show 2 * 0 + _ + _ ≤ _; omega)
  have e1 : copied (vp_cell (F.1.2.2.1 0) (n0, .inl f)) (vp_cell (F.1.2.2.1 0) (n1, .inl g)) sp dp k = vp_cell (F.1.2.2.1 0) (n1, .inl (va_cpy f g sp.toNatClampNeg dp.toNatClampNeg k.toNatClampNeg)) := va_copied (fun z => .int z) (F.1.2.2.1 0) (F.1.2.2.1 0) f g h4
  rw [e1] at X' step
  have hlt : F.1.2.2.2 + a < H.size := hH.lt ha
  have hheap : ((T.setVm vm').setCell (F.1.2.2.2 + a) (vp_cell (F.1.2.2.1 0) (n1, .inl (va_cpy f g sp.toNatClampNeg dp.toNatClampNeg k.toNatClampNeg)))).heap = H.setIfInBounds (F.1.2.2.2 + a) (vp_cell (F.1.2.2.1 0) (n1, .inl (va_cpy f g sp.toNatClampNeg dp.toNatClampNeg k.toNatClampNeg))) := by rw [← hT]; rfl
  have oq : ∀ q : Nat, q ≠ F.1.2.2.2 + a → (H.setIfInBounds (F.1.2.2.2 + a) (vp_cell (F.1.2.2.1 0) (n1, .inl (va_cpy f g sp.toNatClampNeg dp.toNatClampNeg k.toNatClampNeg))))[q]? = H[q]? := fun q hq => by simp [Array.getElem?_setIfInBounds, Ne.symm hq]
  obtain ⟨t, a1, b1⟩ := kk p e s m args below meth c X _ _ ls (hH.upd ha (e := .inl (0, n1, .inl (va_cpy f g sp.toNatClampNeg dp.toNatClampNeg k.toNatClampNeg))) (show (H.setIfInBounds (F.1.2.2.2 + a) _)[F.1.2.2.2 + a]? = some _ by simp [Array.getElem?_setIfInBounds, hlt]; rfl) (by simp) oq) ⟨by simp; exact hS.1, fun q g1 g2 => by
      rw [oq q (fun e => g2 (by rw [e]; exact Nat.le_add_right _ _))]
      exact hS.2.1 q g1 g2, fun q hq => by
      rcases List.mem_append.mp hq with h | h
      · exact hS.2.2 q h
      · obtain ⟨z, -, hz⟩ := List.mem_map.mp h
        rw [← hz]
        exact Nat.le_add_right _ _⟩ hl _ hheap X'
  exact ⟨t, step t a1, b1⟩
end XM
