/-! ===== xV: W with the machine's context, the heap and the locals in an abstract form: a cell's name is a plain number (its place behind the base), the heap a function of it ===== -/
abbrev vx_G : Type := Launch × va_G × (Nat → ClassId) × Nat
abbrev vx_M : Type := MethodName × ByteArray × Nat × Option FieldType
abbrev vx_H : Type := Nat → va_E
abbrev vx_F : Type := vx_G × vx_M × Room × (List Frame → Array Value → State → State → Prop) × (State → Prop) × List (Nat × Value)
def rv (b : Nat) (v : Value) : Value := match v with
  | .ref a => .ref (b + a)
  | v => v
theorem rv_cat (b : Nat) (v : Value) : (rv b v).category = v.category := by cases v <;> rfl
def cvA (b : Nat) (a : vp_A) : vp_A := match a with
  | (n, .inl f) => (n, .inl f)
  | (n, .inr (.inl f)) => (n, .inr (.inl f))
  | (n, .inr (.inr (.inl f))) => (n, .inr (.inr (.inl f)))
  | (n, .inr (.inr (.inr (.inl f)))) => (n, .inr (.inr (.inr (.inl f))))
  | (n, .inr (.inr (.inr (.inr f)))) => (n, .inr (.inr (.inr (.inr (fun i => (f i).map (fun a => b + a))))))
def cvE (G : vx_G) (e : va_E) : va_E := match e with
  | .inl (k, a) => .inl (G.2.2.1 k, cvA G.2.2.2 a)
  | .inr (ci, fs) => .inr (ci, fs.map (rv G.2.2.2))
def wl (G : vx_G) (n : Nat) (h : vx_H) : va_W := (List.range n).map fun a => (G.2.2.2 + a, cvE G (h a))
theorem wl_get {G : vx_G} {n : Nat} {h : vx_H} {a : Nat} (ha : a < n) : (wl G n h)[a]? = some (G.2.2.2 + a, cvE G (h a)) := by
  simp [wl, ha]
theorem wl_at {G : vx_G} {n : Nat} {h : vx_H} {k : Nat} {q : Nat × va_E} (hk : (wl G n h)[k]? = some q) : k < n ∧ q = (G.2.2.2 + k, cvE G (h k)) := by
  by_cases hn : k < n
  · rw [wl_get hn] at hk
    exact ⟨hn, (Option.some.inj hk).symm⟩
  · simp [wl, hn] at hk
theorem wl_len (G : vx_G) (n : Nat) (h : vx_H) : (wl G n h).length = n := by simp [wl]
theorem wl_set {G : vx_G} {n : Nat} {h : vx_H} {a : Nat} (e : va_E) : (wl G n h).set a (G.2.2.2 + a, cvE G e) = wl G n (va_up h a e) := by
  apply List.ext_getElem?
  intro k
  by_cases hk : k < n
  · rw [wl_get hk]
    by_cases hka : k = a
    · subst hka
      rw [List.getElem?_set_self (by rw [wl_len]; exact hk)]
      simp [va_up]
    · rw [List.getElem?_set_ne (fun q => hka q.symm), wl_get hk]
      simp [va_up, hka]
  · rw [List.getElem?_eq_none (by rw [List.length_set, wl_len]; omega), List.getElem?_eq_none (by rw [wl_len]; omega)]
theorem wl_push {G : vx_G} {n : Nat} {h : vx_H} (e : va_E) : wl G n h ++ [(G.2.2.2 + n, cvE G e)] = wl G (n + 1) (va_up h n e) := by
  unfold wl
  rw [List.range_succ, List.map_append]
  congr 1
  · apply List.map_congr_left
    intro a ha
    have := List.mem_range.mp ha
    simp [va_up, show ¬ a = n by omega]
  · simp [va_up]
theorem wl_D (G : vx_G) (n : Nat) (h : vx_H) : va_D (fun q => G.2.2.2 ≤ q) (wl G n h) := by
  refine ⟨fun i j p q hi hj e => ?_, fun k q hk => ?_⟩
  · obtain ⟨-, rfl⟩ := wl_at hi
    obtain ⟨-, rfl⟩ := wl_at hj
    simp at e
    exact e
  · obtain ⟨-, rfl⟩ := wl_at hk
    exact Nat.le_add_right _ _
theorem wl_ext {G : vx_G} {n : Nat} {h h' : vx_H} (e : ∀ a, a < n → h a = h' a) : wl G n h = wl G n h' := by
  unfold wl
  apply List.map_congr_left
  intro a ha
  rw [e a (List.mem_range.mp ha)]
def HR (G : vx_G) (n : Nat) (h : vx_H) (H : Heap) : Prop := va_P G.2.1 vwCl (wl G n h) H ∧ H.size = G.2.2.2 + n
abbrev vx_ty (G : vx_G) : List (ClassId × FieldType) := [(G.2.2.1 0, .int), (G.2.2.1 1, .boolean), (G.2.2.1 2, .long), (G.2.2.1 3, .object RX4), (G.2.2.1 4, .object RX3), (G.2.2.1 5, .object RX1), (G.2.2.1 6, .array .int)]
def lw_ok : List Cond := lw_tbl.filter goodWord
theorem lw_ok_in {w : Cond} (i : Nat) (h : lw_tbl[i]? = some w) (hg : goodWord w = true) : w ∈ lw_ok := List.mem_filter.mpr ⟨List.mem_of_getElem? h, hg⟩
theorem lw_ok_sub {w : Cond} (h : w ∈ lw_ok) : w ∈ lw_tbl := (List.mem_filter.mp h).1
theorem lw_ok_good {ws : List Cond} (h : ∀ w ∈ ws, w ∈ lw_ok) : GoodIn lw_ok ws := fun w hw => ⟨h w hw, good_of_word (List.mem_filter.mp (h w hw)).2⟩
def isNest : Cond → Bool
  | .methodLinkNest .. => true
  | .arrayOver (.object _) => true
  | _ => false
/-- a row of rows of ints is over rows of ints -/
def xA2 (U : State) : Prop := ∃ (cI cA : ClassId) (kA : Class), U.vm.findClass "[I" = some cI ∧ U.vm.findClass "[[I" = some cA ∧ U.vm.classes[cA]? = some kA ∧ kA.kind = .array cI (.array .int)
theorem xA2.moved {u U : State} (hvm : u.vm.Alike U.vm) (h : xA2 u) : xA2 U := by
  obtain ⟨cI, cA, kA, h1, h2, h3, h4⟩ := h
  obtain ⟨k', hk', he⟩ := hvm.2.2 _ _ h3
  exact ⟨cI, cA, k', by rw [hvm.findClass]; exact h1, by rw [hvm.findClass]; exact h2, hk', by rw [he]; exact h4⟩
def xN (U : State) : Prop := (∀ w ∈ lw_tbl, isNest w = true → w.before #[] U = true) ∧ xA2 U
theorem xN.warm {s U : State} (hW : s.WarmedH U.vm) (h : xN s) : xN U := by
  refine ⟨?_, h.2.moved hW.alike⟩
  intro w hw hn
  have hs := h.1 w hw hn
  cases w with
  | methodLinkNest a i x b => exact va_Nw.warmM hW hs
  | arrayOver t =>
    cases t with
    | object C => exact va_AO.moved hW.alike hs
    | _ => simp [isNest] at hn
  | _ => simp [isNest] at hn
theorem xN.blind {U : State} {g : JFrame} {mk : MethodId} {a : Array Value} (h : xN U) : xN (U.calling g mk a) := by
  refine ⟨?_, h.2.moved (u := U) (Vm.Alike.refl U.vm)⟩
  intro w hw hn
  have hs := h.1 w hw hn
  cases w with
  | methodLinkNest a i x b => exact va_Nw.same (u := U) rfl rfl hs
  | arrayOver t =>
    cases t with
    | object C => exact va_AO.moved (u := U) (Vm.Alike.refl U.vm) hs
    | _ => simp [isNest] at hn
  | _ => simp [isNest] at hn
/-- what a method's walk may use -/
def xC (F : vx_F) (p : Program) (s : State) (m : MethodId) (args : Array Value) (meth : Method) (c : Code) : Prop :=
  p.tables.exec = Jvm.exec ∧ c.code = F.2.1.2.1 ∧ meth.sig.returnType = F.2.1.2.2.2 ∧ c.maxLocals = F.2.1.2.2.1 ∧ s.vm.findClass F.2.1.1.cls = some m.cls ∧ (∀ w ∈ lw_ok, w.before args s = true) ∧ meth.locks = false ∧ va_K F.1.2.1 vwCl (vx_ty F.1) s ∧ F.1.2.2.2 ≤ s.heap.size ∧ meth.name = F.2.1.1.name ∧ xN s ∧ F.2.2.2.2.1 s
/-- the locals, by their places; none: nothing is said -/
def lvE (b : Nat) : Nat → List (Option Value) → List (Nat × Value)
  | _, [] => []
  | i, none :: t => lvE b (i + 1) t
  | i, some v :: t => (i, rv b v) :: lvE b (i + 1) t
theorem lvE_in (b : Nat) : ∀ (i : Nat) (L : List (Option Value)) (j : Nat) (v : Value), L[j]? = some (some v) → (i + j, rv b v) ∈ lvE b i L
  | i, [], j, v, h => by simp at h
  | i, none :: t, 0, v, h => by simp at h
  | i, none :: t, j + 1, v, h => by
    have := lvE_in b (i + 1) t j v (by simpa using h)
    rw [show i + (j + 1) = i + 1 + j by omega]
    exact this
  | i, some w :: t, 0, v, h => by
    simp at h
    subst h
    exact List.mem_cons_self
  | i, some w :: t, j + 1, v, h => by
    have := lvE_in b (i + 1) t j v (by simpa using h)
    rw [show i + (j + 1) = i + 1 + j by omega]
    exact List.mem_cons_of_mem _ this
theorem lvE_of (b : Nat) : ∀ (i : Nat) (L : List (Option Value)) (q : Nat × Value), q ∈ lvE b i L → ∃ (j : Nat) (v : Value), L[j]? = some (some v) ∧ q = (i + j, rv b v)
  | i, [], q, h => by cases h
  | i, none :: t, q, h => by
    obtain ⟨j, v, h1, h2⟩ := lvE_of b (i + 1) t q h
    exact ⟨j + 1, v, by simpa using h1, by rw [h2, show i + (j + 1) = i + 1 + j by omega]⟩
  | i, some w :: t, q, h => by
    rcases List.mem_cons.mp h with rfl | h
    · exact ⟨0, w, rfl, rfl⟩
    · obtain ⟨j, v, h1, h2⟩ := lvE_of b (i + 1) t q h
      exact ⟨j + 1, v, by simpa using h1, by rw [h2, show i + (j + 1) = i + 1 + j by omega]⟩
def xL (F : vx_F) (ls : Array Slot) (L : List (Option Value)) : Prop := lv_has ls F.2.1.2.2.1 (F.2.2.2.2.2 ++ lvE F.1.2.2.2 0 L)
theorem xL.at {F : vx_F} {ls : Array Slot} {L : List (Option Value)} (h : xL F ls L) {i : Nat} {v : Value} (hi : L[i]? = some (some v)) : ls[i]? = some (.val (rv F.1.2.2.2 v)) := by
  have := lvE_in F.1.2.2.2 0 L i v hi
  rw [Nat.zero_add] at this
  exact h.2.2 _ (List.mem_append_right _ this)
/-- the judgement -/
def xV (F : vx_F) (pc : Nat) (L : List (Option Value)) (st : List Value) (n : Nat) (h : vx_H) (ce sl : Nat) : Prop :=
  ∀ (p : Program) (e : Env) (s : State) (m : MethodId) (args : Array Value) (below : List Frame) (meth : Method) (c : Code), xC F p s m args meth c → ∀ (H : Heap) (locs : List Loc) (ls : Array Slot), HR F.1 n h H → va_S (fun q => F.1.2.2.2 ≤ q) s.heap H locs → xL F ls L →
    W p F.1.1 e F.2.2.1 s m args below meth c H locs ce sl (F.2.2.2.1 below args s) (F0 m pc ls (st.map (rv F.1.2.2.2)))
section XV
variable {F : vx_F} {pc : Nat} {L : List (Option Value)} {st : List Value} {n : Nat} {h : vx_H} {ce sl : Nat}
/-- the heap may be told otherwise -/
theorem xV.heap {h' : vx_H} (e : ∀ a, a < n → h a = h' a) (k : xV F pc L st n h' ce sl) : xV F pc L st n h ce sl := by
  intro p e' s m args below meth c C H locs ls hH hS hl
  refine k p e' s m args below meth c C H locs ls ?_ hS hl
  unfold HR at hH ⊢
  rw [← wl_ext e]
  exact hH
theorem xV.heq {h' : vx_H} (e : h = h') (k : xV F pc L st n h' ce sl) : xV F pc L st n h ce sl := e ▸ k
theorem xV.steq {st' : List Value} (e : st = st') (k : xV F pc L st' n h ce sl) : xV F pc L st n h ce sl := e ▸ k
theorem xV.lveq {L' : List (Option Value)} (e : L = L') (k : xV F pc L' st n h ce sl) : xV F pc L st n h ce sl := e ▸ k
/-- fewer locals are told -/
theorem xV.lvsub {L' : List (Option Value)} (e : ∀ (i : Nat) (v : Value), L'[i]? = some (some v) → L[i]? = some (some v)) (k : xV F pc L' st n h ce sl) : xV F pc L st n h ce sl := by
  intro p e' s m args below meth c C H locs ls hH hS hl
  refine k p e' s m args below meth c C H locs ls hH hS ⟨hl.1, hl.2.1, fun q hq => ?_⟩
  rcases List.mem_append.mp hq with h1 | h1
  · exact hl.2.2 q (List.mem_append_left _ h1)
  · obtain ⟨j, v, h2, h3⟩ := lvE_of _ _ _ _ h1
    rw [h3, Nat.zero_add]
    exact xL.at hl (e j v h2)
/-- of a list of locals another, place by place: a 'some' that stays or falls away -/
def lvle : List (Option Value) → List (Option Value) → Prop
  | _, [] => True
  | [], none :: t => lvle [] t
  | [], some _ :: _ => False
  | _ :: s, none :: t => lvle s t
  | a :: s, some v :: t => a = some v ∧ lvle s t
theorem lvle_at : ∀ (L L' : List (Option Value)), lvle L L' → ∀ (i : Nat) (v : Value), L'[i]? = some (some v) → L[i]? = some (some v)
  | _, [], _, i, v, h => by simp at h
  | [], none :: t, hl, 0, v, h => by simp at h
  | [], none :: t, hl, i + 1, v, h => by
    have := lvle_at [] t hl i v (by simpa using h)
    simp at this
  | a :: s, none :: t, hl, 0, v, h => by simp at h
  | a :: s, none :: t, hl, i + 1, v, h => by
    have := lvle_at s t hl i v (by simpa using h)
    simpa using this
  | a :: s, some w :: t, hl, 0, v, h => by
    simp at h
    subst h
    simp [hl.1]
  | a :: s, some w :: t, hl, i + 1, v, h => by
    have := lvle_at s t hl.2 i v (by simpa using h)
    simpa using this
theorem xV.lvle {L' : List (Option Value)} (e : lvle L L') (k : xV F pc L' st n h ce sl) : xV F pc L st n h ce sl := xV.lvsub (lvle_at L L' e) k
theorem xV.wide {ce' sl' : Nat} (h1 : ce ≤ ce') (h2 : sl ≤ sl') (k : xV F pc L st n h ce' sl') : xV F pc L st n h ce sl := by
  intro p e s m args below meth c C H locs ls hH hS hl
  exact W.widen h1 h2 (k p e s m args below meth c C H locs ls hH hS hl)
/-- a computed number gets a name -/
theorem xV.topi {x : Int32} (k : ∀ y : Int32, y = x → xV F pc L (.int y :: st) n h ce sl) : xV F pc L (.int x :: st) n h ce sl := k x rfl
theorem xV.topl {x : Int64} (k : ∀ y : Int64, y = x → xV F pc L (.long y :: st) n h ce sl) : xV F pc L (.long x :: st) n h ce sl := k x rfl
theorem xV.toi {x : Int32} (y : Int32) (e : x = y) (k : xV F pc L (.int y :: st) n h ce sl) : xV F pc L (.int x :: st) n h ce sl := e ▸ k
theorem xV.tol {x : Int64} (y : Int64) (e : x = y) (k : xV F pc L (.long y :: st) n h ce sl) : xV F pc L (.long x :: st) n h ce sl := e ▸ k

theorem x_iconst {z : Int} (v : Int32) (hd : decode F.2.1.2.1 pc = .ok (.iconst z, 1)) (hv : Int32.ofInt z = v) (k : xV F (pc + 1) L (.int v :: st) n h ce sl) : xV F pc L (st) n h ce sl := by
  intro p e s m args below meth c C H locs ls hH hS hl
  exact lv_iconst C.1 C.2.1 hd hv (k p e s m args below meth c C H locs ls hH hS hl)
theorem x_bipush {z : Int} (v : Int32) (hd : decode F.2.1.2.1 pc = .ok (.bipush z, 2)) (hv : (Int8.ofInt z).toInt32 = v) (k : xV F (pc + 2) L (.int v :: st) n h ce sl) : xV F pc L (st) n h ce sl := by
  intro p e s m args below meth c C H locs ls hH hS hl
  exact lv_bipush C.1 C.2.1 hd hv (k p e s m args below meth c C H locs ls hH hS hl)
theorem x_sipush {z : Int} (v : Int32) (hd : decode F.2.1.2.1 pc = .ok (.sipush z, 3)) (hv : (Int16.ofInt z).toInt32 = v) (k : xV F (pc + 3) L (.int v :: st) n h ce sl) : xV F pc L (st) n h ce sl := by
  intro p e s m args below meth c C H locs ls hH hS hl
  exact lv_sipush C.1 C.2.1 hd hv (k p e s m args below meth c C H locs ls hH hS hl)
theorem x_lconst {z : Fin 2} (v : Int64) (hd : decode F.2.1.2.1 pc = .ok (.lconst z, 1)) (hv : Int64.ofNat (z : Nat) = v) (k : xV F (pc + 1) L (.long v :: st) n h ce sl) : xV F pc L (st) n h ce sl := by
  intro p e s m args below meth c C H locs ls hH hS hl
  exact lv_lconst C.1 C.2.1 hd hv (k p e s m args below meth c C H locs ls hH hS hl)
theorem x_ldc {i : Nat} {v : Int32} (hw : Cond.constant F.2.1.1.cls i v ∈ lw_ok) (hd : decode F.2.1.2.1 pc = .ok (.ldc i, 2)) (k : xV F (pc + 2) L (.int v :: st) n h ce sl) : xV F pc L st n h ce sl := by
  intro p e s m args below meth c C H locs ls hH hS hl
  exact lv_ldc C.1 C.2.1 C.2.2.2.2.1 (C.2.2.2.2.2.1 _ hw) hd (k p e s m args below meth c C H locs ls hH hS hl)
theorem x_ldc2 {i : Nat} {v : Int64} (hw : Cond.constantLong F.2.1.1.cls i v ∈ lw_ok) (hd : decode F.2.1.2.1 pc = .ok (.ldc2_w i, 3)) (k : xV F (pc + 3) L (.long v :: st) n h ce sl) : xV F pc L st n h ce sl := by
  intro p e s m args below meth c C H locs ls hH hS hl
  exact lv_ldc2 C.1 C.2.1 C.2.2.2.2.1 (C.2.2.2.2.2.1 _ hw) hd (k p e s m args below meth c C H locs ls hH hS hl)
theorem x_aconst_null (hd : decode F.2.1.2.1 pc = .ok (.aconst_null, 1)) (k : xV F (pc + 1) L (.null :: st) n h ce sl) : xV F pc L st n h ce sl := by
  intro p e s m args below meth c C H locs ls hH hS hl
  exact lv_null C.1 C.2.1 hd (k p e s m args below meth c C H locs ls hH hS hl)
theorem x_iadd {x y : Int32} (hd : decode F.2.1.2.1 pc = .ok (.iadd, 1)) (k : xV F (pc + 1) L (.int (x + y) :: st) n h ce sl) : xV F pc L (.int y :: .int x :: st) n h ce sl := by
  intro p e s m args below meth c C H locs ls hH hS hl
  exact lv_iadd C.1 C.2.1 hd (k p e s m args below meth c C H locs ls hH hS hl)
theorem x_isub {x y : Int32} (hd : decode F.2.1.2.1 pc = .ok (.isub, 1)) (k : xV F (pc + 1) L (.int (x - y) :: st) n h ce sl) : xV F pc L (.int y :: .int x :: st) n h ce sl := by
  intro p e s m args below meth c C H locs ls hH hS hl
  exact lv_isub C.1 C.2.1 hd (k p e s m args below meth c C H locs ls hH hS hl)
theorem x_imul {x y : Int32} (hd : decode F.2.1.2.1 pc = .ok (.imul, 1)) (k : xV F (pc + 1) L (.int (x * y) :: st) n h ce sl) : xV F pc L (.int y :: .int x :: st) n h ce sl := by
  intro p e s m args below meth c C H locs ls hH hS hl
  exact lv_imul C.1 C.2.1 hd (k p e s m args below meth c C H locs ls hH hS hl)
theorem x_iand {x y : Int32} (hd : decode F.2.1.2.1 pc = .ok (.iand, 1)) (k : xV F (pc + 1) L (.int (x &&& y) :: st) n h ce sl) : xV F pc L (.int y :: .int x :: st) n h ce sl := by
  intro p e s m args below meth c C H locs ls hH hS hl
  exact lv_iand C.1 C.2.1 hd (k p e s m args below meth c C H locs ls hH hS hl)
theorem x_ior {x y : Int32} (hd : decode F.2.1.2.1 pc = .ok (.ior, 1)) (k : xV F (pc + 1) L (.int (x ||| y) :: st) n h ce sl) : xV F pc L (.int y :: .int x :: st) n h ce sl := by
  intro p e s m args below meth c C H locs ls hH hS hl
  exact lv_ior C.1 C.2.1 hd (k p e s m args below meth c C H locs ls hH hS hl)
theorem x_ixor {x y : Int32} (hd : decode F.2.1.2.1 pc = .ok (.ixor, 1)) (k : xV F (pc + 1) L (.int (x ^^^ y) :: st) n h ce sl) : xV F pc L (.int y :: .int x :: st) n h ce sl := by
  intro p e s m args below meth c C H locs ls hH hS hl
  exact lv_ixor C.1 C.2.1 hd (k p e s m args below meth c C H locs ls hH hS hl)
theorem x_idiv {x y : Int32} (hd : decode F.2.1.2.1 pc = .ok (.idiv, 1)) (hne : ¬ y = 0) (k : xV F (pc + 1) L (.int (x / y) :: st) n h ce sl) : xV F pc L (.int y :: .int x :: st) n h ce sl := by
  intro p e s m args below meth c C H locs ls hH hS hl
  exact lv_idiv C.1 C.2.1 hd hne (k p e s m args below meth c C H locs ls hH hS hl)
theorem x_irem {x y : Int32} (hd : decode F.2.1.2.1 pc = .ok (.irem, 1)) (hne : ¬ y = 0) (k : xV F (pc + 1) L (.int (x - x / y * y) :: st) n h ce sl) : xV F pc L (.int y :: .int x :: st) n h ce sl := by
  intro p e s m args below meth c C H locs ls hH hS hl
  exact lv_irem C.1 C.2.1 hd hne (k p e s m args below meth c C H locs ls hH hS hl)
theorem x_ineg {x : Int32} (hd : decode F.2.1.2.1 pc = .ok (.ineg, 1)) (k : xV F (pc + 1) L (.int (-x) :: st) n h ce sl) : xV F pc L (.int x :: st) n h ce sl := by
  intro p e s m args below meth c C H locs ls hH hS hl
  exact lv_ineg C.1 C.2.1 hd (k p e s m args below meth c C H locs ls hH hS hl)
theorem x_ishl {x y : Int32} (hd : decode F.2.1.2.1 pc = .ok (.ishl, 1)) (k : xV F (pc + 1) L (.int (x <<< (y &&& 31)) :: st) n h ce sl) : xV F pc L (.int y :: .int x :: st) n h ce sl := by
  intro p e s m args below meth c C H locs ls hH hS hl
  exact lv_ishl C.1 C.2.1 hd (k p e s m args below meth c C H locs ls hH hS hl)
theorem x_ishr {x y : Int32} (hd : decode F.2.1.2.1 pc = .ok (.ishr, 1)) (k : xV F (pc + 1) L (.int (x >>> (y &&& 31)) :: st) n h ce sl) : xV F pc L (.int y :: .int x :: st) n h ce sl := by
  intro p e s m args below meth c C H locs ls hH hS hl
  exact lv_ishr C.1 C.2.1 hd (k p e s m args below meth c C H locs ls hH hS hl)
theorem x_ladd {x y : Int64} (hd : decode F.2.1.2.1 pc = .ok (.ladd, 1)) (k : xV F (pc + 1) L (.long (x + y) :: st) n h ce sl) : xV F pc L (.long y :: .long x :: st) n h ce sl := by
  intro p e s m args below meth c C H locs ls hH hS hl
  exact lv_ladd C.1 C.2.1 hd (k p e s m args below meth c C H locs ls hH hS hl)
theorem x_lsub {x y : Int64} (hd : decode F.2.1.2.1 pc = .ok (.lsub, 1)) (k : xV F (pc + 1) L (.long (x - y) :: st) n h ce sl) : xV F pc L (.long y :: .long x :: st) n h ce sl := by
  intro p e s m args below meth c C H locs ls hH hS hl
  exact lv_lsub C.1 C.2.1 hd (k p e s m args below meth c C H locs ls hH hS hl)
theorem x_lneg {x : Int64} (hd : decode F.2.1.2.1 pc = .ok (.lneg, 1)) (k : xV F (pc + 1) L (.long (-x) :: st) n h ce sl) : xV F pc L (.long x :: st) n h ce sl := by
  intro p e s m args below meth c C H locs ls hH hS hl
  exact lv_lneg C.1 C.2.1 hd (k p e s m args below meth c C H locs ls hH hS hl)
theorem x_i2l {x : Int32} (hd : decode F.2.1.2.1 pc = .ok (.i2l, 1)) (k : xV F (pc + 1) L (.long x.toInt64 :: st) n h ce sl) : xV F pc L (.int x :: st) n h ce sl := by
  intro p e s m args below meth c C H locs ls hH hS hl
  exact lv_i2l C.1 C.2.1 hd rfl (k p e s m args below meth c C H locs ls hH hS hl)
theorem x_l2i {x : Int64} (hd : decode F.2.1.2.1 pc = .ok (.l2i, 1)) (k : xV F (pc + 1) L (.int x.toInt32 :: st) n h ce sl) : xV F pc L (.long x :: st) n h ce sl := by
  intro p e s m args below meth c C H locs ls hH hS hl
  exact lv_l2i C.1 C.2.1 hd rfl (k p e s m args below meth c C H locs ls hH hS hl)
theorem x_lcmp {x y : Int64} (hd : decode F.2.1.2.1 pc = .ok (.lcmp, 1)) (k : xV F (pc + 1) L (.int (lg_cmp x y) :: st) n h ce sl) : xV F pc L (.long y :: .long x :: st) n h ce sl := by
  intro p e s m args below meth c C H locs ls hH hS hl
  exact W.lcmp C.1 C.2.1 hd (k p e s m args below meth c C H locs ls hH hS hl)
theorem x_dup {v : Value} (hd : decode F.2.1.2.1 pc = .ok (.dup, 1)) (hc : v.category = 1) (k : xV F (pc + 1) L (v :: v :: st) n h ce sl) : xV F pc L (v :: st) n h ce sl := by
  intro p e s m args below meth c C H locs ls hH hS hl
  exact lv_dup C.1 C.2.1 hd ((rv_cat _ v).trans hc) (k p e s m args below meth c C H locs ls hH hS hl)
theorem x_pop {v : Value} (hd : decode F.2.1.2.1 pc = .ok (.pop, 1)) (hc : v.category = 1) (k : xV F (pc + 1) L st n h ce sl) : xV F pc L (v :: st) n h ce sl := by
  intro p e s m args below meth c C H locs ls hH hS hl
  exact lv_pop C.1 C.2.1 hd ((rv_cat _ v).trans hc) (k p e s m args below meth c C H locs ls hH hS hl)
theorem x_dup2 {v u : Value} (hd : decode F.2.1.2.1 pc = .ok (.dup2, 1)) (hc : v.category = 1) (hc2 : u.category = 1) (k : xV F (pc + 1) L (v :: u :: v :: u :: st) n h ce sl) : xV F pc L (v :: u :: st) n h ce sl := by
  intro p e s m args below meth c C H locs ls hH hS hl
  exact lv_dup2_11 C.1 C.2.1 hd ((rv_cat _ v).trans hc) ((rv_cat _ u).trans hc2) (k p e s m args below meth c C H locs ls hH hS hl)
theorem x_if_eq {x : Int32} {off : Int} (tgt : Nat) (hd : decode F.2.1.2.1 pc = .ok (.ifCond .eq off, 3)) (ht : (pc : Int) + off = (tgt : Int)) (kt : x = 0 → xV F tgt L st n h ce sl) (kf : ¬ (x = 0) → xV F (pc + 3) L st n h ce sl) : xV F pc L (.int x :: st) n h ce sl := by
  intro p e s m args below meth c C H locs ls hH hS hl
  exact lv_if_eq C.1 C.2.1 hd ht (fun q => kt q p e s m args below meth c C H locs ls hH hS hl) (fun q => kf q p e s m args below meth c C H locs ls hH hS hl)
theorem x_icmp_eq {x y : Int32} {off : Int} (tgt : Nat) (hd : decode F.2.1.2.1 pc = .ok (.if_icmp .eq off, 3)) (ht : (pc : Int) + off = (tgt : Int)) (kt : x = y → xV F tgt L st n h ce sl) (kf : ¬ (x = y) → xV F (pc + 3) L st n h ce sl) : xV F pc L (.int y :: .int x :: st) n h ce sl := by
  intro p e s m args below meth c C H locs ls hH hS hl
  exact lv_icmp_eq C.1 C.2.1 hd ht (fun q => kt q p e s m args below meth c C H locs ls hH hS hl) (fun q => kf q p e s m args below meth c C H locs ls hH hS hl)
theorem x_if_ne {x : Int32} {off : Int} (tgt : Nat) (hd : decode F.2.1.2.1 pc = .ok (.ifCond .ne off, 3)) (ht : (pc : Int) + off = (tgt : Int)) (kt : ¬ x = 0 → xV F tgt L st n h ce sl) (kf : x = 0 → xV F (pc + 3) L st n h ce sl) : xV F pc L (.int x :: st) n h ce sl := by
  intro p e s m args below meth c C H locs ls hH hS hl
  exact lv_if_ne C.1 C.2.1 hd ht (fun q => kt q p e s m args below meth c C H locs ls hH hS hl) (fun q => kf q p e s m args below meth c C H locs ls hH hS hl)
theorem x_icmp_ne {x y : Int32} {off : Int} (tgt : Nat) (hd : decode F.2.1.2.1 pc = .ok (.if_icmp .ne off, 3)) (ht : (pc : Int) + off = (tgt : Int)) (kt : ¬ x = y → xV F tgt L st n h ce sl) (kf : x = y → xV F (pc + 3) L st n h ce sl) : xV F pc L (.int y :: .int x :: st) n h ce sl := by
  intro p e s m args below meth c C H locs ls hH hS hl
  exact lv_icmp_ne C.1 C.2.1 hd ht (fun q => kt q p e s m args below meth c C H locs ls hH hS hl) (fun q => kf q p e s m args below meth c C H locs ls hH hS hl)
theorem x_if_lt {x : Int32} {off : Int} (tgt : Nat) (hd : decode F.2.1.2.1 pc = .ok (.ifCond .lt off, 3)) (ht : (pc : Int) + off = (tgt : Int)) (kt : x < 0 → xV F tgt L st n h ce sl) (kf : ¬ (x < 0) → xV F (pc + 3) L st n h ce sl) : xV F pc L (.int x :: st) n h ce sl := by
  intro p e s m args below meth c C H locs ls hH hS hl
  exact lv_if_lt C.1 C.2.1 hd ht (fun q => kt q p e s m args below meth c C H locs ls hH hS hl) (fun q => kf q p e s m args below meth c C H locs ls hH hS hl)
theorem x_icmp_lt {x y : Int32} {off : Int} (tgt : Nat) (hd : decode F.2.1.2.1 pc = .ok (.if_icmp .lt off, 3)) (ht : (pc : Int) + off = (tgt : Int)) (kt : x < y → xV F tgt L st n h ce sl) (kf : ¬ (x < y) → xV F (pc + 3) L st n h ce sl) : xV F pc L (.int y :: .int x :: st) n h ce sl := by
  intro p e s m args below meth c C H locs ls hH hS hl
  exact lv_icmp_lt C.1 C.2.1 hd ht (fun q => kt q p e s m args below meth c C H locs ls hH hS hl) (fun q => kf q p e s m args below meth c C H locs ls hH hS hl)
theorem x_if_ge {x : Int32} {off : Int} (tgt : Nat) (hd : decode F.2.1.2.1 pc = .ok (.ifCond .ge off, 3)) (ht : (pc : Int) + off = (tgt : Int)) (kt : 0 ≤ x → xV F tgt L st n h ce sl) (kf : ¬ (0 ≤ x) → xV F (pc + 3) L st n h ce sl) : xV F pc L (.int x :: st) n h ce sl := by
  intro p e s m args below meth c C H locs ls hH hS hl
  exact lv_if_ge C.1 C.2.1 hd ht (fun q => kt q p e s m args below meth c C H locs ls hH hS hl) (fun q => kf q p e s m args below meth c C H locs ls hH hS hl)
theorem x_icmp_ge {x y : Int32} {off : Int} (tgt : Nat) (hd : decode F.2.1.2.1 pc = .ok (.if_icmp .ge off, 3)) (ht : (pc : Int) + off = (tgt : Int)) (kt : y ≤ x → xV F tgt L st n h ce sl) (kf : ¬ (y ≤ x) → xV F (pc + 3) L st n h ce sl) : xV F pc L (.int y :: .int x :: st) n h ce sl := by
  intro p e s m args below meth c C H locs ls hH hS hl
  exact lv_icmp_ge C.1 C.2.1 hd ht (fun q => kt q p e s m args below meth c C H locs ls hH hS hl) (fun q => kf q p e s m args below meth c C H locs ls hH hS hl)
theorem x_if_gt {x : Int32} {off : Int} (tgt : Nat) (hd : decode F.2.1.2.1 pc = .ok (.ifCond .gt off, 3)) (ht : (pc : Int) + off = (tgt : Int)) (kt : 0 < x → xV F tgt L st n h ce sl) (kf : ¬ (0 < x) → xV F (pc + 3) L st n h ce sl) : xV F pc L (.int x :: st) n h ce sl := by
  intro p e s m args below meth c C H locs ls hH hS hl
  exact lv_if_gt C.1 C.2.1 hd ht (fun q => kt q p e s m args below meth c C H locs ls hH hS hl) (fun q => kf q p e s m args below meth c C H locs ls hH hS hl)
theorem x_icmp_gt {x y : Int32} {off : Int} (tgt : Nat) (hd : decode F.2.1.2.1 pc = .ok (.if_icmp .gt off, 3)) (ht : (pc : Int) + off = (tgt : Int)) (kt : y < x → xV F tgt L st n h ce sl) (kf : ¬ (y < x) → xV F (pc + 3) L st n h ce sl) : xV F pc L (.int y :: .int x :: st) n h ce sl := by
  intro p e s m args below meth c C H locs ls hH hS hl
  exact lv_icmp_gt C.1 C.2.1 hd ht (fun q => kt q p e s m args below meth c C H locs ls hH hS hl) (fun q => kf q p e s m args below meth c C H locs ls hH hS hl)
theorem x_if_le {x : Int32} {off : Int} (tgt : Nat) (hd : decode F.2.1.2.1 pc = .ok (.ifCond .le off, 3)) (ht : (pc : Int) + off = (tgt : Int)) (kt : x ≤ 0 → xV F tgt L st n h ce sl) (kf : ¬ (x ≤ 0) → xV F (pc + 3) L st n h ce sl) : xV F pc L (.int x :: st) n h ce sl := by
  intro p e s m args below meth c C H locs ls hH hS hl
  exact lv_if_le C.1 C.2.1 hd ht (fun q => kt q p e s m args below meth c C H locs ls hH hS hl) (fun q => kf q p e s m args below meth c C H locs ls hH hS hl)
theorem x_icmp_le {x y : Int32} {off : Int} (tgt : Nat) (hd : decode F.2.1.2.1 pc = .ok (.if_icmp .le off, 3)) (ht : (pc : Int) + off = (tgt : Int)) (kt : x ≤ y → xV F tgt L st n h ce sl) (kf : ¬ (x ≤ y) → xV F (pc + 3) L st n h ce sl) : xV F pc L (.int y :: .int x :: st) n h ce sl := by
  intro p e s m args below meth c C H locs ls hH hS hl
  exact lv_icmp_le C.1 C.2.1 hd ht (fun q => kt q p e s m args below meth c C H locs ls hH hS hl) (fun q => kf q p e s m args below meth c C H locs ls hH hS hl)
theorem x_goto {off : Int} (tgt : Nat) (hd : decode F.2.1.2.1 pc = .ok (.goto off, 3)) (ht : (pc : Int) + off = (tgt : Int)) (k : xV F tgt L st n h ce sl) : xV F pc L st n h ce sl := by
  intro p e s m args below meth c C H locs ls hH hS hl
  exact lv_goto C.1 C.2.1 hd ht (k p e s m args below meth c C H locs ls hH hS hl)
theorem x_ifnull_r {a : Nat} {off : Int} (hd : decode F.2.1.2.1 pc = .ok (.ifnull off, 3)) (k : xV F (pc + 3) L st n h ce sl) : xV F pc L (.ref a :: st) n h ce sl := by
  intro p e s m args below meth c C H locs ls hH hS hl
  exact lv_ifnull C.1 C.2.1 hd (k p e s m args below meth c C H locs ls hH hS hl)
theorem x_ifnull_n {off : Int} (tgt : Nat) (hd : decode F.2.1.2.1 pc = .ok (.ifnull off, 3)) (ht : (pc : Int) + off = (tgt : Int)) (k : xV F tgt L st n h ce sl) : xV F pc L (.null :: st) n h ce sl := by
  intro p e s m args below meth c C H locs ls hH hS hl
  exact lv_ifnullN C.1 C.2.1 hd ht (k p e s m args below meth c C H locs ls hH hS hl)
theorem x_ifnonnull_r {a : Nat} {off : Int} (tgt : Nat) (hd : decode F.2.1.2.1 pc = .ok (.ifnonnull off, 3)) (ht : (pc : Int) + off = (tgt : Int)) (k : xV F tgt L st n h ce sl) : xV F pc L (.ref a :: st) n h ce sl := by
  intro p e s m args below meth c C H locs ls hH hS hl
  exact lv_ifnonnull C.1 C.2.1 hd ht (k p e s m args below meth c C H locs ls hH hS hl)
theorem x_ifnonnull_n {off : Int} (hd : decode F.2.1.2.1 pc = .ok (.ifnonnull off, 3)) (k : xV F (pc + 3) L st n h ce sl) : xV F pc L (.null :: st) n h ce sl := by
  intro p e s m args below meth c C H locs ls hH hS hl
  exact lv_ifnonnullN C.1 C.2.1 hd (k p e s m args below meth c C H locs ls hH hS hl)
theorem x_tableIn {dflt lo hi : Int} {offs : Array Int} {len : Nat} {x : Int32} {off : Int} (tgt : Nat) (hd : decode F.2.1.2.1 pc = .ok (.tableswitch dflt lo hi offs, len)) (h1 : ¬ x.toInt < lo) (h2 : ¬ hi < x.toInt) (ho : offs[(x.toInt - lo).toNat]? = some off) (ht : (pc : Int) + off = (tgt : Int)) (k : xV F tgt L st n h ce sl) : xV F pc L (.int x :: st) n h ce sl := by
  intro p e s m args below meth c C H locs ls hH hS hl
  exact lv_tableIn C.1 C.2.1 hd h1 h2 ho ht (k p e s m args below meth c C H locs ls hH hS hl)
theorem x_tableOut {dflt lo hi : Int} {offs : Array Int} {len : Nat} {x : Int32} (tgt : Nat) (hd : decode F.2.1.2.1 pc = .ok (.tableswitch dflt lo hi offs, len)) (hx : x.toInt < lo ∨ hi < x.toInt) (ht : (pc : Int) + dflt = (tgt : Int)) (k : xV F tgt L st n h ce sl) : xV F pc L (.int x :: st) n h ce sl := by
  intro p e s m args below meth c C H locs ls hH hS hl
  exact lv_tableOut C.1 C.2.1 hd hx ht (k p e s m args below meth c C H locs ls hH hS hl)
theorem x_lookup {dflt : Int} {ps : Array (Int × Int)} {len : Nat} {x : Int32} {off : Int} (tgt : Nat) (hd : decode F.2.1.2.1 pc = .ok (.lookupswitch dflt ps, len)) (hp : (ps.toList.zip (ps.toList.drop 1)).all (fun (a, next) => a.1 < next.1) = true) (ho : Op.lookupswitch.offset ps.toList dflt x.toInt = off) (ht : (pc : Int) + off = (tgt : Int)) (k : xV F tgt L st n h ce sl) : xV F pc L (.int x :: st) n h ce sl := by
  intro p e s m args below meth c C H locs ls hH hS hl
  exact lv_lookup C.1 C.2.1 hd hp ho ht (k p e s m args below meth c C H locs ls hH hS hl)

theorem xL.put1 {ls ls' : Array Slot} {i : Nat} {v : Value} (hl : xL F ls L) (hi : i < L.length) (hp : ∀ w : Value, 0 < i → L[i - 1]? = some (some w) → w.category = 1) (hr : F.2.2.2.2.2.all (fun q => !(q.1 == i) && !(q.1 + 1 == i)) = true)
    (h' : lv_has ls' F.2.1.2.2.1 ((i, rv F.1.2.2.2 v) :: (F.2.2.2.2.2 ++ lvE F.1.2.2.2 0 L).filter (fun q => !(q.1 == i) && !(q.1 + 1 == i && q.2.category == 2)))) : xL F ls' (L.set i (some v)) := by
  refine ⟨h'.1, h'.2.1, fun q hq => h'.2.2 q ?_⟩
  rcases List.mem_append.mp hq with h1 | h1
  · have h2 := List.all_eq_true.mp hr q h1
    refine List.mem_cons_of_mem _ (List.mem_filter.mpr ⟨List.mem_append_left _ h1, ?_⟩)
    simp only [Bool.and_eq_true] at h2
    simp only [Bool.and_eq_true]
    refine ⟨h2.1, ?_⟩
    have h3 := h2.2
    simp only [Bool.not_eq_true'] at h3 ⊢
    rw [h3]
    rfl
  · obtain ⟨j, w, h2, rfl⟩ := lvE_of _ _ _ _ h1
    rw [Nat.zero_add]
    by_cases hj : j = i
    · subst hj
      rw [List.getElem?_set_self hi] at h2
      cases h2
      exact List.mem_cons_self
    · rw [List.getElem?_set_ne (fun z => hj z.symm)] at h2
      refine List.mem_cons_of_mem _ (List.mem_filter.mpr ⟨List.mem_append_right _ (by have := lvE_in F.1.2.2.2 0 L j w h2; rwa [Nat.zero_add] at this), ?_⟩)
      simp only [Bool.and_eq_true, Bool.not_eq_true']
      refine ⟨beq_false_of_ne hj, ?_⟩
      by_cases hj1 : j + 1 = i
      · have := hp w (by omega) (by rw [← hj1]; exact h2)
        rw [rv_cat, this]
        simp
      · rw [beq_false_of_ne hj1]
        rfl
theorem xL.put2 {ls ls' : Array Slot} {i : Nat} {v : Value} (hl : xL F ls L) (hi : i + 1 < L.length) (hp : ∀ w : Value, 0 < i → L[i - 1]? = some (some w) → w.category = 1) (hr : F.2.2.2.2.2.all (fun q => !(q.1 == i) && !(q.1 + 1 == i) && !(q.1 == i + 1)) = true)
    (h' : lv_has ls' F.2.1.2.2.1 ((i, rv F.1.2.2.2 v) :: (F.2.2.2.2.2 ++ lvE F.1.2.2.2 0 L).filter (fun q => !(q.1 == i) && (!(q.1 == i + 1) && !(q.1 + 1 == i && q.2.category == 2))))) : xL F ls' ((L.set i (some v)).set (i + 1) none) := by
  refine ⟨h'.1, h'.2.1, fun q hq => h'.2.2 q ?_⟩
  rcases List.mem_append.mp hq with h1 | h1
  · have h2 := List.all_eq_true.mp hr q h1
    refine List.mem_cons_of_mem _ (List.mem_filter.mpr ⟨List.mem_append_left _ h1, ?_⟩)
    simp only [Bool.and_eq_true] at h2
    simp only [Bool.and_eq_true]
    refine ⟨h2.1.1, h2.2, ?_⟩
    have h3 := h2.1.2
    simp only [Bool.not_eq_true'] at h3 ⊢
    rw [h3]
    rfl
  · obtain ⟨j, w, h2, rfl⟩ := lvE_of _ _ _ _ h1
    rw [Nat.zero_add]
    by_cases hj2 : j = i + 1
    · subst hj2
      rw [List.getElem?_set_self (by rw [List.length_set]; exact hi)] at h2
      cases h2
    rw [List.getElem?_set_ne (fun z => hj2 z.symm)] at h2
    by_cases hj : j = i
    · subst hj
      rw [List.getElem?_set_self (by omega)] at h2
      cases h2
      exact List.mem_cons_self
    · rw [List.getElem?_set_ne (fun z => hj z.symm)] at h2
      refine List.mem_cons_of_mem _ (List.mem_filter.mpr ⟨List.mem_append_right _ (by have := lvE_in F.1.2.2.2 0 L j w h2; rwa [Nat.zero_add] at this), ?_⟩)
      simp only [Bool.and_eq_true, Bool.not_eq_true']
      refine ⟨beq_false_of_ne hj, beq_false_of_ne hj2, ?_⟩
      by_cases hj1 : j + 1 = i
      · have := hp w (by omega) (by rw [← hj1]; exact h2)
        rw [rv_cat, this]
        simp
      · rw [beq_false_of_ne hj1]
        rfl
/-- a local that is no long -/
def oc1 (a : Option Value) : Bool := match a with
  | none => true
  | some v => v.category == 1
theorem oc1_of {a : Option Value} (h : oc1 a = true) : ∀ w : Value, a = some w → w.category = 1 := by
  intro w hw
  subst hw
  simpa [oc1] using h

theorem y_iload_n {i : Nat} {j : Fin 4} {x : Int32} (hi : L[i]? = some (some (.int x))) (hd : decode F.2.1.2.1 pc = .ok (.iload_n j, 1)) (hj : (j : Nat) = i) (k : xV F (pc + 1) L (.int x :: st) n h ce sl) : xV F pc L st n h ce sl := by
  intro p e s m args below meth c C H locs ls hH hS hl
  exact lv_iload_n C.1 C.2.1 hd hj (xL.at hl hi) (k p e s m args below meth c C H locs ls hH hS hl)
theorem y_iload_w {i : Nat} {x : Int32} (hi : L[i]? = some (some (.int x))) (hd : decode F.2.1.2.1 pc = .ok (.iload i, 2)) (k : xV F (pc + 2) L (.int x :: st) n h ce sl) : xV F pc L st n h ce sl := by
  intro p e s m args below meth c C H locs ls hH hS hl
  exact lv_iload C.1 C.2.1 hd (xL.at hl hi) (k p e s m args below meth c C H locs ls hH hS hl)
theorem y_lload_n {i : Nat} {j : Fin 4} {x : Int64} (hi : L[i]? = some (some (.long x))) (hd : decode F.2.1.2.1 pc = .ok (.lload_n j, 1)) (hj : (j : Nat) = i) (k : xV F (pc + 1) L (.long x :: st) n h ce sl) : xV F pc L st n h ce sl := by
  intro p e s m args below meth c C H locs ls hH hS hl
  exact lv_lload_n C.1 C.2.1 hd hj (xL.at hl hi) (k p e s m args below meth c C H locs ls hH hS hl)
theorem y_lload_w {i : Nat} {x : Int64} (hi : L[i]? = some (some (.long x))) (hd : decode F.2.1.2.1 pc = .ok (.lload i, 2)) (k : xV F (pc + 2) L (.long x :: st) n h ce sl) : xV F pc L st n h ce sl := by
  intro p e s m args below meth c C H locs ls hH hS hl
  exact lv_lload C.1 C.2.1 hd (xL.at hl hi) (k p e s m args below meth c C H locs ls hH hS hl)
theorem y_aload_n {i : Nat} {j : Fin 4} {x : Nat} (hi : L[i]? = some (some (.ref x))) (hd : decode F.2.1.2.1 pc = .ok (.aload_n j, 1)) (hj : (j : Nat) = i) (k : xV F (pc + 1) L (.ref x :: st) n h ce sl) : xV F pc L st n h ce sl := by
  intro p e s m args below meth c C H locs ls hH hS hl
  exact lv_aload_n C.1 C.2.1 hd hj (xL.at hl hi) (k p e s m args below meth c C H locs ls hH hS hl)
theorem y_aload_w {i : Nat} {x : Nat} (hi : L[i]? = some (some (.ref x))) (hd : decode F.2.1.2.1 pc = .ok (.aload i, 2)) (k : xV F (pc + 2) L (.ref x :: st) n h ce sl) : xV F pc L st n h ce sl := by
  intro p e s m args below meth c C H locs ls hH hS hl
  exact lv_aload C.1 C.2.1 hd (xL.at hl hi) (k p e s m args below meth c C H locs ls hH hS hl)
theorem y_aloadN_n {i : Nat} {j : Fin 4} (hi : L[i]? = some (some .null)) (hd : decode F.2.1.2.1 pc = .ok (.aload_n j, 1)) (hj : (j : Nat) = i) (k : xV F (pc + 1) L (.null :: st) n h ce sl) : xV F pc L st n h ce sl := by
  intro p e s m args below meth c C H locs ls hH hS hl
  exact lv_aload_nN C.1 C.2.1 hd hj (xL.at hl hi) (k p e s m args below meth c C H locs ls hH hS hl)
theorem y_aloadN_w {i : Nat} (hi : L[i]? = some (some .null)) (hd : decode F.2.1.2.1 pc = .ok (.aload i, 2)) (k : xV F (pc + 2) L (.null :: st) n h ce sl) : xV F pc L st n h ce sl := by
  intro p e s m args below meth c C H locs ls hH hS hl
  exact lv_aloadN C.1 C.2.1 hd (xL.at hl hi) (k p e s m args below meth c C H locs ls hH hS hl)
theorem y_istore_n {i : Nat} {j : Fin 4} {x : Int32} (hd : decode F.2.1.2.1 pc = .ok (.istore_n j, 1)) (hj : (j : Nat) = i) (hn : i < F.2.1.2.2.1) (hi : i < L.length) (hp : ∀ w : Value, 0 < i → L[i - 1]? = some (some w) → w.category = 1) (hr : F.2.2.2.2.2.all (fun q => !(q.1 == i) && !(q.1 + 1 == i)) = true) (k : xV F (pc + 1) (L.set i (some (.int x))) st n h ce sl) : xV F pc L (.int x :: st) n h ce sl := by
  intro p e s m args below meth c C H locs ls hH hS hl
  exact lv_istore_n C.1 C.2.1 hd hj hl hn rfl (fun ls' hl' => (k p e s m args below meth c C H locs ls' hH hS (xL.put1 hl hi hp hr hl')))
theorem y_istore_w {i : Nat} {x : Int32} (hd : decode F.2.1.2.1 pc = .ok (.istore i, 2)) (hn : i < F.2.1.2.2.1) (hi : i < L.length) (hp : ∀ w : Value, 0 < i → L[i - 1]? = some (some w) → w.category = 1) (hr : F.2.2.2.2.2.all (fun q => !(q.1 == i) && !(q.1 + 1 == i)) = true) (k : xV F (pc + 2) (L.set i (some (.int x))) st n h ce sl) : xV F pc L (.int x :: st) n h ce sl := by
  intro p e s m args below meth c C H locs ls hH hS hl
  exact lv_istore C.1 C.2.1 hd hl hn rfl (fun ls' hl' => (k p e s m args below meth c C H locs ls' hH hS (xL.put1 hl hi hp hr hl')))
theorem y_lstore_n {i : Nat} {j : Fin 4} {x : Int64} (hd : decode F.2.1.2.1 pc = .ok (.lstore_n j, 1)) (hj : (j : Nat) = i) (hn : i + 1 < F.2.1.2.2.1) (hi : i + 1 < L.length) (hp : ∀ w : Value, 0 < i → L[i - 1]? = some (some w) → w.category = 1) (hr : F.2.2.2.2.2.all (fun q => !(q.1 == i) && !(q.1 + 1 == i) && !(q.1 == i + 1)) = true) (k : xV F (pc + 1) ((L.set i (some (.long x))).set (i + 1) none) st n h ce sl) : xV F pc L (.long x :: st) n h ce sl := by
  intro p e s m args below meth c C H locs ls hH hS hl
  exact lv_lstore_n C.1 C.2.1 hd hj hl hn rfl (fun ls' hl' => (k p e s m args below meth c C H locs ls' hH hS (xL.put2 hl hi hp hr hl')))
theorem y_lstore_w {i : Nat} {x : Int64} (hd : decode F.2.1.2.1 pc = .ok (.lstore i, 2)) (hn : i + 1 < F.2.1.2.2.1) (hi : i + 1 < L.length) (hp : ∀ w : Value, 0 < i → L[i - 1]? = some (some w) → w.category = 1) (hr : F.2.2.2.2.2.all (fun q => !(q.1 == i) && !(q.1 + 1 == i) && !(q.1 == i + 1)) = true) (k : xV F (pc + 2) ((L.set i (some (.long x))).set (i + 1) none) st n h ce sl) : xV F pc L (.long x :: st) n h ce sl := by
  intro p e s m args below meth c C H locs ls hH hS hl
  exact lv_lstore C.1 C.2.1 hd hl hn rfl (fun ls' hl' => (k p e s m args below meth c C H locs ls' hH hS (xL.put2 hl hi hp hr hl')))
theorem y_astore_n {i : Nat} {j : Fin 4} {x : Nat} (hd : decode F.2.1.2.1 pc = .ok (.astore_n j, 1)) (hj : (j : Nat) = i) (hn : i < F.2.1.2.2.1) (hi : i < L.length) (hp : ∀ w : Value, 0 < i → L[i - 1]? = some (some w) → w.category = 1) (hr : F.2.2.2.2.2.all (fun q => !(q.1 == i) && !(q.1 + 1 == i)) = true) (k : xV F (pc + 1) (L.set i (some (.ref x))) st n h ce sl) : xV F pc L (.ref x :: st) n h ce sl := by
  intro p e s m args below meth c C H locs ls hH hS hl
  exact lv_astore_n C.1 C.2.1 hd hj hl hn rfl (fun ls' hl' => (k p e s m args below meth c C H locs ls' hH hS (xL.put1 hl hi hp hr hl')))
theorem y_astore_w {i : Nat} {x : Nat} (hd : decode F.2.1.2.1 pc = .ok (.astore i, 2)) (hn : i < F.2.1.2.2.1) (hi : i < L.length) (hp : ∀ w : Value, 0 < i → L[i - 1]? = some (some w) → w.category = 1) (hr : F.2.2.2.2.2.all (fun q => !(q.1 == i) && !(q.1 + 1 == i)) = true) (k : xV F (pc + 2) (L.set i (some (.ref x))) st n h ce sl) : xV F pc L (.ref x :: st) n h ce sl := by
  intro p e s m args below meth c C H locs ls hH hS hl
  exact lv_astore C.1 C.2.1 hd hl hn rfl (fun ls' hl' => (k p e s m args below meth c C H locs ls' hH hS (xL.put1 hl hi hp hr hl')))
theorem y_astoreN_n {i : Nat} {j : Fin 4} (hd : decode F.2.1.2.1 pc = .ok (.astore_n j, 1)) (hj : (j : Nat) = i) (hn : i < F.2.1.2.2.1) (hi : i < L.length) (hp : ∀ w : Value, 0 < i → L[i - 1]? = some (some w) → w.category = 1) (hr : F.2.2.2.2.2.all (fun q => !(q.1 == i) && !(q.1 + 1 == i)) = true) (k : xV F (pc + 1) (L.set i (some (.null))) st n h ce sl) : xV F pc L (.null :: st) n h ce sl := by
  intro p e s m args below meth c C H locs ls hH hS hl
  exact lv_astore_nN C.1 C.2.1 hd hj hl hn rfl (fun ls' hl' => (k p e s m args below meth c C H locs ls' hH hS (xL.put1 hl hi hp hr hl')))
theorem y_astoreN_w {i : Nat} (hd : decode F.2.1.2.1 pc = .ok (.astore i, 2)) (hn : i < F.2.1.2.2.1) (hi : i < L.length) (hp : ∀ w : Value, 0 < i → L[i - 1]? = some (some w) → w.category = 1) (hr : F.2.2.2.2.2.all (fun q => !(q.1 == i) && !(q.1 + 1 == i)) = true) (k : xV F (pc + 2) (L.set i (some (.null))) st n h ce sl) : xV F pc L (.null :: st) n h ce sl := by
  intro p e s m args below meth c C H locs ls hH hS hl
  exact lv_astoreN C.1 C.2.1 hd hl hn rfl (fun ls' hl' => (k p e s m args below meth c C H locs ls' hH hS (xL.put1 hl hi hp hr hl')))
theorem y_iinc {i : Nat} {z : Int} {x v : Int32} (hx : L[i]? = some (some (.int x))) (hd : decode F.2.1.2.1 pc = .ok (.iinc i z, 3)) (hv : x + Int32.ofInt z = v) (hn : i < F.2.1.2.2.1) (hp : ∀ w : Value, 0 < i → L[i - 1]? = some (some w) → w.category = 1) (hr : F.2.2.2.2.2.all (fun q => !(q.1 == i) && !(q.1 + 1 == i)) = true) (k : xV F (pc + 3) (L.set i (some (.int v))) st n h ce sl) : xV F pc L st n h ce sl := by
  intro p e s m args below meth c C H locs ls hH hS hl
  have hi : i < L.length := (List.getElem?_eq_some_iff.mp hx).1
  have hm : (i, Value.int x) ∈ F.2.2.2.2.2 ++ lvE F.1.2.2.2 0 L := List.mem_append_right _ (by have := lvE_in F.1.2.2.2 0 L i _ hx; rw [Nat.zero_add] at this; exact this)
  obtain ⟨kk, hkk⟩ := List.getElem?_of_mem hm
  exact lv_iinc C.1 C.2.1 hd hl hkk hv hn rfl (fun ls' hl' => (k p e s m args below meth c C H locs ls' hH hS (xL.put1 hl hi hp hr hl')))
end XV
section XP
variable {F : vx_F} {pc : Nat} {st : List Value} {n : Nat} {h : vx_H} {ce sl : Nat}
theorem x_iload0 {tl : List (Option Value)} {x : Int32} (hd : decode F.2.1.2.1 pc = .ok (.iload_n 0, 1)) (k : xV F (pc + 1) (some (.int x) :: tl) (.int x :: st) n h ce sl) : xV F pc (some (.int x) :: tl) st n h ce sl := y_iload_n (i := 0) rfl hd rfl k
theorem x_lload0 {tl : List (Option Value)} {x : Int64} (hd : decode F.2.1.2.1 pc = .ok (.lload_n 0, 1)) (k : xV F (pc + 1) (some (.long x) :: tl) (.long x :: st) n h ce sl) : xV F pc (some (.long x) :: tl) st n h ce sl := y_lload_n (i := 0) rfl hd rfl k
theorem x_aload0 {tl : List (Option Value)} {x : Nat} (hd : decode F.2.1.2.1 pc = .ok (.aload_n 0, 1)) (k : xV F (pc + 1) (some (.ref x) :: tl) (.ref x :: st) n h ce sl) : xV F pc (some (.ref x) :: tl) st n h ce sl := y_aload_n (i := 0) rfl hd rfl k
theorem x_aloadN0 {tl : List (Option Value)} (hd : decode F.2.1.2.1 pc = .ok (.aload_n 0, 1)) (k : xV F (pc + 1) (some .null :: tl) (.null :: st) n h ce sl) : xV F pc (some .null :: tl) st n h ce sl := y_aloadN_n (i := 0) rfl hd rfl k
theorem x_istore0 {tl : List (Option Value)} {b : Option Value} {x : Int32} (hd : decode F.2.1.2.1 pc = .ok (.istore_n 0, 1)) (hn : Nat.ble 1 F.2.1.2.2.1 = true) (hr : F.2.2.2.2.2.all (fun q => !(q.1 == 0) && !(q.1 + 1 == 0)) = true) (k : xV F (pc + 1) (some (.int x) :: tl) st n h ce sl) : xV F pc (b :: tl) (.int x :: st) n h ce sl := y_istore_n (i := 0) hd rfl (Nat.le_of_ble_eq_true hn) (by simp) (fun w h0 => absurd h0 (Nat.lt_irrefl 0)) hr k
theorem x_astore0 {tl : List (Option Value)} {b : Option Value} {x : Nat} (hd : decode F.2.1.2.1 pc = .ok (.astore_n 0, 1)) (hn : Nat.ble 1 F.2.1.2.2.1 = true) (hr : F.2.2.2.2.2.all (fun q => !(q.1 == 0) && !(q.1 + 1 == 0)) = true) (k : xV F (pc + 1) (some (.ref x) :: tl) st n h ce sl) : xV F pc (b :: tl) (.ref x :: st) n h ce sl := y_astore_n (i := 0) hd rfl (Nat.le_of_ble_eq_true hn) (by simp) (fun w h0 => absurd h0 (Nat.lt_irrefl 0)) hr k
theorem x_astoreN0 {tl : List (Option Value)} {b : Option Value} (hd : decode F.2.1.2.1 pc = .ok (.astore_n 0, 1)) (hn : Nat.ble 1 F.2.1.2.2.1 = true) (hr : F.2.2.2.2.2.all (fun q => !(q.1 == 0) && !(q.1 + 1 == 0)) = true) (k : xV F (pc + 1) (some (.null) :: tl) st n h ce sl) : xV F pc (b :: tl) (.null :: st) n h ce sl := y_astoreN_n (i := 0) hd rfl (Nat.le_of_ble_eq_true hn) (by simp) (fun w h0 => absurd h0 (Nat.lt_irrefl 0)) hr k
theorem x_lstore0 {tl : List (Option Value)} {b b2 : Option Value} {x : Int64} (hd : decode F.2.1.2.1 pc = .ok (.lstore_n 0, 1)) (hn : Nat.ble 2 F.2.1.2.2.1 = true) (hr : F.2.2.2.2.2.all (fun q => !(q.1 == 0) && !(q.1 + 1 == 0) && !(q.1 == 0 + 1)) = true) (k : xV F (pc + 1) (some (.long x) :: none :: tl) st n h ce sl) : xV F pc (b :: b2 :: tl) (.long x :: st) n h ce sl := y_lstore_n (i := 0) hd rfl (Nat.le_of_ble_eq_true hn) (by simp) (fun w h0 => absurd h0 (Nat.lt_irrefl 0)) hr k
theorem x_iinc0 {tl : List (Option Value)} {x : Int32} {z : Int} (v : Int32) (hd : decode F.2.1.2.1 pc = .ok (.iinc 0 z, 3)) (hv : x + Int32.ofInt z = v) (hn : Nat.ble 1 F.2.1.2.2.1 = true) (hr : F.2.2.2.2.2.all (fun q => !(q.1 == 0) && !(q.1 + 1 == 0)) = true) (k : xV F (pc + 3) (some (.int v) :: tl) st n h ce sl) : xV F pc (some (.int x) :: tl) st n h ce sl := y_iinc (i := 0) rfl hd hv (Nat.le_of_ble_eq_true hn) (fun w h0 => absurd h0 (Nat.lt_irrefl 0)) hr k
theorem x_iload1 {a0 : Option Value} {tl : List (Option Value)} {x : Int32} (hd : decode F.2.1.2.1 pc = .ok (.iload_n 1, 1)) (k : xV F (pc + 1) (a0 :: some (.int x) :: tl) (.int x :: st) n h ce sl) : xV F pc (a0 :: some (.int x) :: tl) st n h ce sl := y_iload_n (i := 1) rfl hd rfl k
theorem x_lload1 {a0 : Option Value} {tl : List (Option Value)} {x : Int64} (hd : decode F.2.1.2.1 pc = .ok (.lload_n 1, 1)) (k : xV F (pc + 1) (a0 :: some (.long x) :: tl) (.long x :: st) n h ce sl) : xV F pc (a0 :: some (.long x) :: tl) st n h ce sl := y_lload_n (i := 1) rfl hd rfl k
theorem x_aload1 {a0 : Option Value} {tl : List (Option Value)} {x : Nat} (hd : decode F.2.1.2.1 pc = .ok (.aload_n 1, 1)) (k : xV F (pc + 1) (a0 :: some (.ref x) :: tl) (.ref x :: st) n h ce sl) : xV F pc (a0 :: some (.ref x) :: tl) st n h ce sl := y_aload_n (i := 1) rfl hd rfl k
theorem x_aloadN1 {a0 : Option Value} {tl : List (Option Value)} (hd : decode F.2.1.2.1 pc = .ok (.aload_n 1, 1)) (k : xV F (pc + 1) (a0 :: some .null :: tl) (.null :: st) n h ce sl) : xV F pc (a0 :: some .null :: tl) st n h ce sl := y_aloadN_n (i := 1) rfl hd rfl k
theorem x_istore1 {a0 : Option Value} {tl : List (Option Value)} {b : Option Value} {x : Int32} (hd : decode F.2.1.2.1 pc = .ok (.istore_n 1, 1)) (hn : Nat.ble 2 F.2.1.2.2.1 = true) (hp : oc1 a0 = true) (hr : F.2.2.2.2.2.all (fun q => !(q.1 == 1) && !(q.1 + 1 == 1)) = true) (k : xV F (pc + 1) (a0 :: some (.int x) :: tl) st n h ce sl) : xV F pc (a0 :: b :: tl) (.int x :: st) n h ce sl := y_istore_n (i := 1) hd rfl (Nat.le_of_ble_eq_true hn) (by simp) (fun w _ h1 => oc1_of hp w (Option.some.inj h1)) hr k
theorem x_astore1 {a0 : Option Value} {tl : List (Option Value)} {b : Option Value} {x : Nat} (hd : decode F.2.1.2.1 pc = .ok (.astore_n 1, 1)) (hn : Nat.ble 2 F.2.1.2.2.1 = true) (hp : oc1 a0 = true) (hr : F.2.2.2.2.2.all (fun q => !(q.1 == 1) && !(q.1 + 1 == 1)) = true) (k : xV F (pc + 1) (a0 :: some (.ref x) :: tl) st n h ce sl) : xV F pc (a0 :: b :: tl) (.ref x :: st) n h ce sl := y_astore_n (i := 1) hd rfl (Nat.le_of_ble_eq_true hn) (by simp) (fun w _ h1 => oc1_of hp w (Option.some.inj h1)) hr k
theorem x_astoreN1 {a0 : Option Value} {tl : List (Option Value)} {b : Option Value} (hd : decode F.2.1.2.1 pc = .ok (.astore_n 1, 1)) (hn : Nat.ble 2 F.2.1.2.2.1 = true) (hp : oc1 a0 = true) (hr : F.2.2.2.2.2.all (fun q => !(q.1 == 1) && !(q.1 + 1 == 1)) = true) (k : xV F (pc + 1) (a0 :: some (.null) :: tl) st n h ce sl) : xV F pc (a0 :: b :: tl) (.null :: st) n h ce sl := y_astoreN_n (i := 1) hd rfl (Nat.le_of_ble_eq_true hn) (by simp) (fun w _ h1 => oc1_of hp w (Option.some.inj h1)) hr k
theorem x_lstore1 {a0 : Option Value} {tl : List (Option Value)} {b b2 : Option Value} {x : Int64} (hd : decode F.2.1.2.1 pc = .ok (.lstore_n 1, 1)) (hn : Nat.ble 3 F.2.1.2.2.1 = true) (hp : oc1 a0 = true) (hr : F.2.2.2.2.2.all (fun q => !(q.1 == 1) && !(q.1 + 1 == 1) && !(q.1 == 1 + 1)) = true) (k : xV F (pc + 1) (a0 :: some (.long x) :: none :: tl) st n h ce sl) : xV F pc (a0 :: b :: b2 :: tl) (.long x :: st) n h ce sl := y_lstore_n (i := 1) hd rfl (Nat.le_of_ble_eq_true hn) (by simp) (fun w _ h1 => oc1_of hp w (Option.some.inj h1)) hr k
theorem x_iinc1 {a0 : Option Value} {tl : List (Option Value)} {x : Int32} {z : Int} (v : Int32) (hd : decode F.2.1.2.1 pc = .ok (.iinc 1 z, 3)) (hv : x + Int32.ofInt z = v) (hn : Nat.ble 2 F.2.1.2.2.1 = true) (hp : oc1 a0 = true) (hr : F.2.2.2.2.2.all (fun q => !(q.1 == 1) && !(q.1 + 1 == 1)) = true) (k : xV F (pc + 3) (a0 :: some (.int v) :: tl) st n h ce sl) : xV F pc (a0 :: some (.int x) :: tl) st n h ce sl := y_iinc (i := 1) rfl hd hv (Nat.le_of_ble_eq_true hn) (fun w _ h1 => oc1_of hp w (Option.some.inj h1)) hr k
theorem x_iload2 {a0 a1 : Option Value} {tl : List (Option Value)} {x : Int32} (hd : decode F.2.1.2.1 pc = .ok (.iload_n 2, 1)) (k : xV F (pc + 1) (a0 :: a1 :: some (.int x) :: tl) (.int x :: st) n h ce sl) : xV F pc (a0 :: a1 :: some (.int x) :: tl) st n h ce sl := y_iload_n (i := 2) rfl hd rfl k
theorem x_lload2 {a0 a1 : Option Value} {tl : List (Option Value)} {x : Int64} (hd : decode F.2.1.2.1 pc = .ok (.lload_n 2, 1)) (k : xV F (pc + 1) (a0 :: a1 :: some (.long x) :: tl) (.long x :: st) n h ce sl) : xV F pc (a0 :: a1 :: some (.long x) :: tl) st n h ce sl := y_lload_n (i := 2) rfl hd rfl k
theorem x_aload2 {a0 a1 : Option Value} {tl : List (Option Value)} {x : Nat} (hd : decode F.2.1.2.1 pc = .ok (.aload_n 2, 1)) (k : xV F (pc + 1) (a0 :: a1 :: some (.ref x) :: tl) (.ref x :: st) n h ce sl) : xV F pc (a0 :: a1 :: some (.ref x) :: tl) st n h ce sl := y_aload_n (i := 2) rfl hd rfl k
theorem x_aloadN2 {a0 a1 : Option Value} {tl : List (Option Value)} (hd : decode F.2.1.2.1 pc = .ok (.aload_n 2, 1)) (k : xV F (pc + 1) (a0 :: a1 :: some .null :: tl) (.null :: st) n h ce sl) : xV F pc (a0 :: a1 :: some .null :: tl) st n h ce sl := y_aloadN_n (i := 2) rfl hd rfl k
theorem x_istore2 {a0 a1 : Option Value} {tl : List (Option Value)} {b : Option Value} {x : Int32} (hd : decode F.2.1.2.1 pc = .ok (.istore_n 2, 1)) (hn : Nat.ble 3 F.2.1.2.2.1 = true) (hp : oc1 a1 = true) (hr : F.2.2.2.2.2.all (fun q => !(q.1 == 2) && !(q.1 + 1 == 2)) = true) (k : xV F (pc + 1) (a0 :: a1 :: some (.int x) :: tl) st n h ce sl) : xV F pc (a0 :: a1 :: b :: tl) (.int x :: st) n h ce sl := y_istore_n (i := 2) hd rfl (Nat.le_of_ble_eq_true hn) (by simp) (fun w _ h1 => oc1_of hp w (Option.some.inj h1)) hr k
theorem x_astore2 {a0 a1 : Option Value} {tl : List (Option Value)} {b : Option Value} {x : Nat} (hd : decode F.2.1.2.1 pc = .ok (.astore_n 2, 1)) (hn : Nat.ble 3 F.2.1.2.2.1 = true) (hp : oc1 a1 = true) (hr : F.2.2.2.2.2.all (fun q => !(q.1 == 2) && !(q.1 + 1 == 2)) = true) (k : xV F (pc + 1) (a0 :: a1 :: some (.ref x) :: tl) st n h ce sl) : xV F pc (a0 :: a1 :: b :: tl) (.ref x :: st) n h ce sl := y_astore_n (i := 2) hd rfl (Nat.le_of_ble_eq_true hn) (by simp) (fun w _ h1 => oc1_of hp w (Option.some.inj h1)) hr k
theorem x_astoreN2 {a0 a1 : Option Value} {tl : List (Option Value)} {b : Option Value} (hd : decode F.2.1.2.1 pc = .ok (.astore_n 2, 1)) (hn : Nat.ble 3 F.2.1.2.2.1 = true) (hp : oc1 a1 = true) (hr : F.2.2.2.2.2.all (fun q => !(q.1 == 2) && !(q.1 + 1 == 2)) = true) (k : xV F (pc + 1) (a0 :: a1 :: some (.null) :: tl) st n h ce sl) : xV F pc (a0 :: a1 :: b :: tl) (.null :: st) n h ce sl := y_astoreN_n (i := 2) hd rfl (Nat.le_of_ble_eq_true hn) (by simp) (fun w _ h1 => oc1_of hp w (Option.some.inj h1)) hr k
theorem x_lstore2 {a0 a1 : Option Value} {tl : List (Option Value)} {b b2 : Option Value} {x : Int64} (hd : decode F.2.1.2.1 pc = .ok (.lstore_n 2, 1)) (hn : Nat.ble 4 F.2.1.2.2.1 = true) (hp : oc1 a1 = true) (hr : F.2.2.2.2.2.all (fun q => !(q.1 == 2) && !(q.1 + 1 == 2) && !(q.1 == 2 + 1)) = true) (k : xV F (pc + 1) (a0 :: a1 :: some (.long x) :: none :: tl) st n h ce sl) : xV F pc (a0 :: a1 :: b :: b2 :: tl) (.long x :: st) n h ce sl := y_lstore_n (i := 2) hd rfl (Nat.le_of_ble_eq_true hn) (by simp) (fun w _ h1 => oc1_of hp w (Option.some.inj h1)) hr k
theorem x_iinc2 {a0 a1 : Option Value} {tl : List (Option Value)} {x : Int32} {z : Int} (v : Int32) (hd : decode F.2.1.2.1 pc = .ok (.iinc 2 z, 3)) (hv : x + Int32.ofInt z = v) (hn : Nat.ble 3 F.2.1.2.2.1 = true) (hp : oc1 a1 = true) (hr : F.2.2.2.2.2.all (fun q => !(q.1 == 2) && !(q.1 + 1 == 2)) = true) (k : xV F (pc + 3) (a0 :: a1 :: some (.int v) :: tl) st n h ce sl) : xV F pc (a0 :: a1 :: some (.int x) :: tl) st n h ce sl := y_iinc (i := 2) rfl hd hv (Nat.le_of_ble_eq_true hn) (fun w _ h1 => oc1_of hp w (Option.some.inj h1)) hr k
theorem x_iload3 {a0 a1 a2 : Option Value} {tl : List (Option Value)} {x : Int32} (hd : decode F.2.1.2.1 pc = .ok (.iload_n 3, 1)) (k : xV F (pc + 1) (a0 :: a1 :: a2 :: some (.int x) :: tl) (.int x :: st) n h ce sl) : xV F pc (a0 :: a1 :: a2 :: some (.int x) :: tl) st n h ce sl := y_iload_n (i := 3) rfl hd rfl k
theorem x_lload3 {a0 a1 a2 : Option Value} {tl : List (Option Value)} {x : Int64} (hd : decode F.2.1.2.1 pc = .ok (.lload_n 3, 1)) (k : xV F (pc + 1) (a0 :: a1 :: a2 :: some (.long x) :: tl) (.long x :: st) n h ce sl) : xV F pc (a0 :: a1 :: a2 :: some (.long x) :: tl) st n h ce sl := y_lload_n (i := 3) rfl hd rfl k
theorem x_aload3 {a0 a1 a2 : Option Value} {tl : List (Option Value)} {x : Nat} (hd : decode F.2.1.2.1 pc = .ok (.aload_n 3, 1)) (k : xV F (pc + 1) (a0 :: a1 :: a2 :: some (.ref x) :: tl) (.ref x :: st) n h ce sl) : xV F pc (a0 :: a1 :: a2 :: some (.ref x) :: tl) st n h ce sl := y_aload_n (i := 3) rfl hd rfl k
theorem x_aloadN3 {a0 a1 a2 : Option Value} {tl : List (Option Value)} (hd : decode F.2.1.2.1 pc = .ok (.aload_n 3, 1)) (k : xV F (pc + 1) (a0 :: a1 :: a2 :: some .null :: tl) (.null :: st) n h ce sl) : xV F pc (a0 :: a1 :: a2 :: some .null :: tl) st n h ce sl := y_aloadN_n (i := 3) rfl hd rfl k
theorem x_istore3 {a0 a1 a2 : Option Value} {tl : List (Option Value)} {b : Option Value} {x : Int32} (hd : decode F.2.1.2.1 pc = .ok (.istore_n 3, 1)) (hn : Nat.ble 4 F.2.1.2.2.1 = true) (hp : oc1 a2 = true) (hr : F.2.2.2.2.2.all (fun q => !(q.1 == 3) && !(q.1 + 1 == 3)) = true) (k : xV F (pc + 1) (a0 :: a1 :: a2 :: some (.int x) :: tl) st n h ce sl) : xV F pc (a0 :: a1 :: a2 :: b :: tl) (.int x :: st) n h ce sl := y_istore_n (i := 3) hd rfl (Nat.le_of_ble_eq_true hn) (by simp) (fun w _ h1 => oc1_of hp w (Option.some.inj h1)) hr k
theorem x_astore3 {a0 a1 a2 : Option Value} {tl : List (Option Value)} {b : Option Value} {x : Nat} (hd : decode F.2.1.2.1 pc = .ok (.astore_n 3, 1)) (hn : Nat.ble 4 F.2.1.2.2.1 = true) (hp : oc1 a2 = true) (hr : F.2.2.2.2.2.all (fun q => !(q.1 == 3) && !(q.1 + 1 == 3)) = true) (k : xV F (pc + 1) (a0 :: a1 :: a2 :: some (.ref x) :: tl) st n h ce sl) : xV F pc (a0 :: a1 :: a2 :: b :: tl) (.ref x :: st) n h ce sl := y_astore_n (i := 3) hd rfl (Nat.le_of_ble_eq_true hn) (by simp) (fun w _ h1 => oc1_of hp w (Option.some.inj h1)) hr k
theorem x_astoreN3 {a0 a1 a2 : Option Value} {tl : List (Option Value)} {b : Option Value} (hd : decode F.2.1.2.1 pc = .ok (.astore_n 3, 1)) (hn : Nat.ble 4 F.2.1.2.2.1 = true) (hp : oc1 a2 = true) (hr : F.2.2.2.2.2.all (fun q => !(q.1 == 3) && !(q.1 + 1 == 3)) = true) (k : xV F (pc + 1) (a0 :: a1 :: a2 :: some (.null) :: tl) st n h ce sl) : xV F pc (a0 :: a1 :: a2 :: b :: tl) (.null :: st) n h ce sl := y_astoreN_n (i := 3) hd rfl (Nat.le_of_ble_eq_true hn) (by simp) (fun w _ h1 => oc1_of hp w (Option.some.inj h1)) hr k
theorem x_lstore3 {a0 a1 a2 : Option Value} {tl : List (Option Value)} {b b2 : Option Value} {x : Int64} (hd : decode F.2.1.2.1 pc = .ok (.lstore_n 3, 1)) (hn : Nat.ble 5 F.2.1.2.2.1 = true) (hp : oc1 a2 = true) (hr : F.2.2.2.2.2.all (fun q => !(q.1 == 3) && !(q.1 + 1 == 3) && !(q.1 == 3 + 1)) = true) (k : xV F (pc + 1) (a0 :: a1 :: a2 :: some (.long x) :: none :: tl) st n h ce sl) : xV F pc (a0 :: a1 :: a2 :: b :: b2 :: tl) (.long x :: st) n h ce sl := y_lstore_n (i := 3) hd rfl (Nat.le_of_ble_eq_true hn) (by simp) (fun w _ h1 => oc1_of hp w (Option.some.inj h1)) hr k
theorem x_iinc3 {a0 a1 a2 : Option Value} {tl : List (Option Value)} {x : Int32} {z : Int} (v : Int32) (hd : decode F.2.1.2.1 pc = .ok (.iinc 3 z, 3)) (hv : x + Int32.ofInt z = v) (hn : Nat.ble 4 F.2.1.2.2.1 = true) (hp : oc1 a2 = true) (hr : F.2.2.2.2.2.all (fun q => !(q.1 == 3) && !(q.1 + 1 == 3)) = true) (k : xV F (pc + 3) (a0 :: a1 :: a2 :: some (.int v) :: tl) st n h ce sl) : xV F pc (a0 :: a1 :: a2 :: some (.int x) :: tl) st n h ce sl := y_iinc (i := 3) rfl hd hv (Nat.le_of_ble_eq_true hn) (fun w _ h1 => oc1_of hp w (Option.some.inj h1)) hr k
theorem x_iload4 {a0 a1 a2 a3 : Option Value} {tl : List (Option Value)} {x : Int32} (hd : decode F.2.1.2.1 pc = .ok (.iload 4, 2)) (k : xV F (pc + 2) (a0 :: a1 :: a2 :: a3 :: some (.int x) :: tl) (.int x :: st) n h ce sl) : xV F pc (a0 :: a1 :: a2 :: a3 :: some (.int x) :: tl) st n h ce sl := y_iload_w (i := 4) rfl hd k
theorem x_lload4 {a0 a1 a2 a3 : Option Value} {tl : List (Option Value)} {x : Int64} (hd : decode F.2.1.2.1 pc = .ok (.lload 4, 2)) (k : xV F (pc + 2) (a0 :: a1 :: a2 :: a3 :: some (.long x) :: tl) (.long x :: st) n h ce sl) : xV F pc (a0 :: a1 :: a2 :: a3 :: some (.long x) :: tl) st n h ce sl := y_lload_w (i := 4) rfl hd k
theorem x_aload4 {a0 a1 a2 a3 : Option Value} {tl : List (Option Value)} {x : Nat} (hd : decode F.2.1.2.1 pc = .ok (.aload 4, 2)) (k : xV F (pc + 2) (a0 :: a1 :: a2 :: a3 :: some (.ref x) :: tl) (.ref x :: st) n h ce sl) : xV F pc (a0 :: a1 :: a2 :: a3 :: some (.ref x) :: tl) st n h ce sl := y_aload_w (i := 4) rfl hd k
theorem x_aloadN4 {a0 a1 a2 a3 : Option Value} {tl : List (Option Value)} (hd : decode F.2.1.2.1 pc = .ok (.aload 4, 2)) (k : xV F (pc + 2) (a0 :: a1 :: a2 :: a3 :: some .null :: tl) (.null :: st) n h ce sl) : xV F pc (a0 :: a1 :: a2 :: a3 :: some .null :: tl) st n h ce sl := y_aloadN_w (i := 4) rfl hd k
theorem x_istore4 {a0 a1 a2 a3 : Option Value} {tl : List (Option Value)} {b : Option Value} {x : Int32} (hd : decode F.2.1.2.1 pc = .ok (.istore 4, 2)) (hn : Nat.ble 5 F.2.1.2.2.1 = true) (hp : oc1 a3 = true) (hr : F.2.2.2.2.2.all (fun q => !(q.1 == 4) && !(q.1 + 1 == 4)) = true) (k : xV F (pc + 2) (a0 :: a1 :: a2 :: a3 :: some (.int x) :: tl) st n h ce sl) : xV F pc (a0 :: a1 :: a2 :: a3 :: b :: tl) (.int x :: st) n h ce sl := y_istore_w (i := 4) hd (Nat.le_of_ble_eq_true hn) (by simp) (fun w _ h1 => oc1_of hp w (Option.some.inj h1)) hr k
theorem x_astore4 {a0 a1 a2 a3 : Option Value} {tl : List (Option Value)} {b : Option Value} {x : Nat} (hd : decode F.2.1.2.1 pc = .ok (.astore 4, 2)) (hn : Nat.ble 5 F.2.1.2.2.1 = true) (hp : oc1 a3 = true) (hr : F.2.2.2.2.2.all (fun q => !(q.1 == 4) && !(q.1 + 1 == 4)) = true) (k : xV F (pc + 2) (a0 :: a1 :: a2 :: a3 :: some (.ref x) :: tl) st n h ce sl) : xV F pc (a0 :: a1 :: a2 :: a3 :: b :: tl) (.ref x :: st) n h ce sl := y_astore_w (i := 4) hd (Nat.le_of_ble_eq_true hn) (by simp) (fun w _ h1 => oc1_of hp w (Option.some.inj h1)) hr k
theorem x_astoreN4 {a0 a1 a2 a3 : Option Value} {tl : List (Option Value)} {b : Option Value} (hd : decode F.2.1.2.1 pc = .ok (.astore 4, 2)) (hn : Nat.ble 5 F.2.1.2.2.1 = true) (hp : oc1 a3 = true) (hr : F.2.2.2.2.2.all (fun q => !(q.1 == 4) && !(q.1 + 1 == 4)) = true) (k : xV F (pc + 2) (a0 :: a1 :: a2 :: a3 :: some (.null) :: tl) st n h ce sl) : xV F pc (a0 :: a1 :: a2 :: a3 :: b :: tl) (.null :: st) n h ce sl := y_astoreN_w (i := 4) hd (Nat.le_of_ble_eq_true hn) (by simp) (fun w _ h1 => oc1_of hp w (Option.some.inj h1)) hr k
theorem x_lstore4 {a0 a1 a2 a3 : Option Value} {tl : List (Option Value)} {b b2 : Option Value} {x : Int64} (hd : decode F.2.1.2.1 pc = .ok (.lstore 4, 2)) (hn : Nat.ble 6 F.2.1.2.2.1 = true) (hp : oc1 a3 = true) (hr : F.2.2.2.2.2.all (fun q => !(q.1 == 4) && !(q.1 + 1 == 4) && !(q.1 == 4 + 1)) = true) (k : xV F (pc + 2) (a0 :: a1 :: a2 :: a3 :: some (.long x) :: none :: tl) st n h ce sl) : xV F pc (a0 :: a1 :: a2 :: a3 :: b :: b2 :: tl) (.long x :: st) n h ce sl := y_lstore_w (i := 4) hd (Nat.le_of_ble_eq_true hn) (by simp) (fun w _ h1 => oc1_of hp w (Option.some.inj h1)) hr k
theorem x_iinc4 {a0 a1 a2 a3 : Option Value} {tl : List (Option Value)} {x : Int32} {z : Int} (v : Int32) (hd : decode F.2.1.2.1 pc = .ok (.iinc 4 z, 3)) (hv : x + Int32.ofInt z = v) (hn : Nat.ble 5 F.2.1.2.2.1 = true) (hp : oc1 a3 = true) (hr : F.2.2.2.2.2.all (fun q => !(q.1 == 4) && !(q.1 + 1 == 4)) = true) (k : xV F (pc + 3) (a0 :: a1 :: a2 :: a3 :: some (.int v) :: tl) st n h ce sl) : xV F pc (a0 :: a1 :: a2 :: a3 :: some (.int x) :: tl) st n h ce sl := y_iinc (i := 4) rfl hd hv (Nat.le_of_ble_eq_true hn) (fun w _ h1 => oc1_of hp w (Option.some.inj h1)) hr k
theorem x_iload5 {a0 a1 a2 a3 a4 : Option Value} {tl : List (Option Value)} {x : Int32} (hd : decode F.2.1.2.1 pc = .ok (.iload 5, 2)) (k : xV F (pc + 2) (a0 :: a1 :: a2 :: a3 :: a4 :: some (.int x) :: tl) (.int x :: st) n h ce sl) : xV F pc (a0 :: a1 :: a2 :: a3 :: a4 :: some (.int x) :: tl) st n h ce sl := y_iload_w (i := 5) rfl hd k
theorem x_lload5 {a0 a1 a2 a3 a4 : Option Value} {tl : List (Option Value)} {x : Int64} (hd : decode F.2.1.2.1 pc = .ok (.lload 5, 2)) (k : xV F (pc + 2) (a0 :: a1 :: a2 :: a3 :: a4 :: some (.long x) :: tl) (.long x :: st) n h ce sl) : xV F pc (a0 :: a1 :: a2 :: a3 :: a4 :: some (.long x) :: tl) st n h ce sl := y_lload_w (i := 5) rfl hd k
theorem x_aload5 {a0 a1 a2 a3 a4 : Option Value} {tl : List (Option Value)} {x : Nat} (hd : decode F.2.1.2.1 pc = .ok (.aload 5, 2)) (k : xV F (pc + 2) (a0 :: a1 :: a2 :: a3 :: a4 :: some (.ref x) :: tl) (.ref x :: st) n h ce sl) : xV F pc (a0 :: a1 :: a2 :: a3 :: a4 :: some (.ref x) :: tl) st n h ce sl := y_aload_w (i := 5) rfl hd k
theorem x_aloadN5 {a0 a1 a2 a3 a4 : Option Value} {tl : List (Option Value)} (hd : decode F.2.1.2.1 pc = .ok (.aload 5, 2)) (k : xV F (pc + 2) (a0 :: a1 :: a2 :: a3 :: a4 :: some .null :: tl) (.null :: st) n h ce sl) : xV F pc (a0 :: a1 :: a2 :: a3 :: a4 :: some .null :: tl) st n h ce sl := y_aloadN_w (i := 5) rfl hd k
theorem x_istore5 {a0 a1 a2 a3 a4 : Option Value} {tl : List (Option Value)} {b : Option Value} {x : Int32} (hd : decode F.2.1.2.1 pc = .ok (.istore 5, 2)) (hn : Nat.ble 6 F.2.1.2.2.1 = true) (hp : oc1 a4 = true) (hr : F.2.2.2.2.2.all (fun q => !(q.1 == 5) && !(q.1 + 1 == 5)) = true) (k : xV F (pc + 2) (a0 :: a1 :: a2 :: a3 :: a4 :: some (.int x) :: tl) st n h ce sl) : xV F pc (a0 :: a1 :: a2 :: a3 :: a4 :: b :: tl) (.int x :: st) n h ce sl := y_istore_w (i := 5) hd (Nat.le_of_ble_eq_true hn) (by simp) (fun w _ h1 => oc1_of hp w (Option.some.inj h1)) hr k
theorem x_astore5 {a0 a1 a2 a3 a4 : Option Value} {tl : List (Option Value)} {b : Option Value} {x : Nat} (hd : decode F.2.1.2.1 pc = .ok (.astore 5, 2)) (hn : Nat.ble 6 F.2.1.2.2.1 = true) (hp : oc1 a4 = true) (hr : F.2.2.2.2.2.all (fun q => !(q.1 == 5) && !(q.1 + 1 == 5)) = true) (k : xV F (pc + 2) (a0 :: a1 :: a2 :: a3 :: a4 :: some (.ref x) :: tl) st n h ce sl) : xV F pc (a0 :: a1 :: a2 :: a3 :: a4 :: b :: tl) (.ref x :: st) n h ce sl := y_astore_w (i := 5) hd (Nat.le_of_ble_eq_true hn) (by simp) (fun w _ h1 => oc1_of hp w (Option.some.inj h1)) hr k
theorem x_astoreN5 {a0 a1 a2 a3 a4 : Option Value} {tl : List (Option Value)} {b : Option Value} (hd : decode F.2.1.2.1 pc = .ok (.astore 5, 2)) (hn : Nat.ble 6 F.2.1.2.2.1 = true) (hp : oc1 a4 = true) (hr : F.2.2.2.2.2.all (fun q => !(q.1 == 5) && !(q.1 + 1 == 5)) = true) (k : xV F (pc + 2) (a0 :: a1 :: a2 :: a3 :: a4 :: some (.null) :: tl) st n h ce sl) : xV F pc (a0 :: a1 :: a2 :: a3 :: a4 :: b :: tl) (.null :: st) n h ce sl := y_astoreN_w (i := 5) hd (Nat.le_of_ble_eq_true hn) (by simp) (fun w _ h1 => oc1_of hp w (Option.some.inj h1)) hr k
theorem x_lstore5 {a0 a1 a2 a3 a4 : Option Value} {tl : List (Option Value)} {b b2 : Option Value} {x : Int64} (hd : decode F.2.1.2.1 pc = .ok (.lstore 5, 2)) (hn : Nat.ble 7 F.2.1.2.2.1 = true) (hp : oc1 a4 = true) (hr : F.2.2.2.2.2.all (fun q => !(q.1 == 5) && !(q.1 + 1 == 5) && !(q.1 == 5 + 1)) = true) (k : xV F (pc + 2) (a0 :: a1 :: a2 :: a3 :: a4 :: some (.long x) :: none :: tl) st n h ce sl) : xV F pc (a0 :: a1 :: a2 :: a3 :: a4 :: b :: b2 :: tl) (.long x :: st) n h ce sl := y_lstore_w (i := 5) hd (Nat.le_of_ble_eq_true hn) (by simp) (fun w _ h1 => oc1_of hp w (Option.some.inj h1)) hr k
theorem x_iinc5 {a0 a1 a2 a3 a4 : Option Value} {tl : List (Option Value)} {x : Int32} {z : Int} (v : Int32) (hd : decode F.2.1.2.1 pc = .ok (.iinc 5 z, 3)) (hv : x + Int32.ofInt z = v) (hn : Nat.ble 6 F.2.1.2.2.1 = true) (hp : oc1 a4 = true) (hr : F.2.2.2.2.2.all (fun q => !(q.1 == 5) && !(q.1 + 1 == 5)) = true) (k : xV F (pc + 3) (a0 :: a1 :: a2 :: a3 :: a4 :: some (.int v) :: tl) st n h ce sl) : xV F pc (a0 :: a1 :: a2 :: a3 :: a4 :: some (.int x) :: tl) st n h ce sl := y_iinc (i := 5) rfl hd hv (Nat.le_of_ble_eq_true hn) (fun w _ h1 => oc1_of hp w (Option.some.inj h1)) hr k
theorem x_iload6 {a0 a1 a2 a3 a4 a5 : Option Value} {tl : List (Option Value)} {x : Int32} (hd : decode F.2.1.2.1 pc = .ok (.iload 6, 2)) (k : xV F (pc + 2) (a0 :: a1 :: a2 :: a3 :: a4 :: a5 :: some (.int x) :: tl) (.int x :: st) n h ce sl) : xV F pc (a0 :: a1 :: a2 :: a3 :: a4 :: a5 :: some (.int x) :: tl) st n h ce sl := y_iload_w (i := 6) rfl hd k
theorem x_lload6 {a0 a1 a2 a3 a4 a5 : Option Value} {tl : List (Option Value)} {x : Int64} (hd : decode F.2.1.2.1 pc = .ok (.lload 6, 2)) (k : xV F (pc + 2) (a0 :: a1 :: a2 :: a3 :: a4 :: a5 :: some (.long x) :: tl) (.long x :: st) n h ce sl) : xV F pc (a0 :: a1 :: a2 :: a3 :: a4 :: a5 :: some (.long x) :: tl) st n h ce sl := y_lload_w (i := 6) rfl hd k
theorem x_aload6 {a0 a1 a2 a3 a4 a5 : Option Value} {tl : List (Option Value)} {x : Nat} (hd : decode F.2.1.2.1 pc = .ok (.aload 6, 2)) (k : xV F (pc + 2) (a0 :: a1 :: a2 :: a3 :: a4 :: a5 :: some (.ref x) :: tl) (.ref x :: st) n h ce sl) : xV F pc (a0 :: a1 :: a2 :: a3 :: a4 :: a5 :: some (.ref x) :: tl) st n h ce sl := y_aload_w (i := 6) rfl hd k
theorem x_aloadN6 {a0 a1 a2 a3 a4 a5 : Option Value} {tl : List (Option Value)} (hd : decode F.2.1.2.1 pc = .ok (.aload 6, 2)) (k : xV F (pc + 2) (a0 :: a1 :: a2 :: a3 :: a4 :: a5 :: some .null :: tl) (.null :: st) n h ce sl) : xV F pc (a0 :: a1 :: a2 :: a3 :: a4 :: a5 :: some .null :: tl) st n h ce sl := y_aloadN_w (i := 6) rfl hd k
theorem x_istore6 {a0 a1 a2 a3 a4 a5 : Option Value} {tl : List (Option Value)} {b : Option Value} {x : Int32} (hd : decode F.2.1.2.1 pc = .ok (.istore 6, 2)) (hn : Nat.ble 7 F.2.1.2.2.1 = true) (hp : oc1 a5 = true) (hr : F.2.2.2.2.2.all (fun q => !(q.1 == 6) && !(q.1 + 1 == 6)) = true) (k : xV F (pc + 2) (a0 :: a1 :: a2 :: a3 :: a4 :: a5 :: some (.int x) :: tl) st n h ce sl) : xV F pc (a0 :: a1 :: a2 :: a3 :: a4 :: a5 :: b :: tl) (.int x :: st) n h ce sl := y_istore_w (i := 6) hd (Nat.le_of_ble_eq_true hn) (by simp) (fun w _ h1 => oc1_of hp w (Option.some.inj h1)) hr k
theorem x_astore6 {a0 a1 a2 a3 a4 a5 : Option Value} {tl : List (Option Value)} {b : Option Value} {x : Nat} (hd : decode F.2.1.2.1 pc = .ok (.astore 6, 2)) (hn : Nat.ble 7 F.2.1.2.2.1 = true) (hp : oc1 a5 = true) (hr : F.2.2.2.2.2.all (fun q => !(q.1 == 6) && !(q.1 + 1 == 6)) = true) (k : xV F (pc + 2) (a0 :: a1 :: a2 :: a3 :: a4 :: a5 :: some (.ref x) :: tl) st n h ce sl) : xV F pc (a0 :: a1 :: a2 :: a3 :: a4 :: a5 :: b :: tl) (.ref x :: st) n h ce sl := y_astore_w (i := 6) hd (Nat.le_of_ble_eq_true hn) (by simp) (fun w _ h1 => oc1_of hp w (Option.some.inj h1)) hr k
theorem x_astoreN6 {a0 a1 a2 a3 a4 a5 : Option Value} {tl : List (Option Value)} {b : Option Value} (hd : decode F.2.1.2.1 pc = .ok (.astore 6, 2)) (hn : Nat.ble 7 F.2.1.2.2.1 = true) (hp : oc1 a5 = true) (hr : F.2.2.2.2.2.all (fun q => !(q.1 == 6) && !(q.1 + 1 == 6)) = true) (k : xV F (pc + 2) (a0 :: a1 :: a2 :: a3 :: a4 :: a5 :: some (.null) :: tl) st n h ce sl) : xV F pc (a0 :: a1 :: a2 :: a3 :: a4 :: a5 :: b :: tl) (.null :: st) n h ce sl := y_astoreN_w (i := 6) hd (Nat.le_of_ble_eq_true hn) (by simp) (fun w _ h1 => oc1_of hp w (Option.some.inj h1)) hr k
theorem x_lstore6 {a0 a1 a2 a3 a4 a5 : Option Value} {tl : List (Option Value)} {b b2 : Option Value} {x : Int64} (hd : decode F.2.1.2.1 pc = .ok (.lstore 6, 2)) (hn : Nat.ble 8 F.2.1.2.2.1 = true) (hp : oc1 a5 = true) (hr : F.2.2.2.2.2.all (fun q => !(q.1 == 6) && !(q.1 + 1 == 6) && !(q.1 == 6 + 1)) = true) (k : xV F (pc + 2) (a0 :: a1 :: a2 :: a3 :: a4 :: a5 :: some (.long x) :: none :: tl) st n h ce sl) : xV F pc (a0 :: a1 :: a2 :: a3 :: a4 :: a5 :: b :: b2 :: tl) (.long x :: st) n h ce sl := y_lstore_w (i := 6) hd (Nat.le_of_ble_eq_true hn) (by simp) (fun w _ h1 => oc1_of hp w (Option.some.inj h1)) hr k
theorem x_iinc6 {a0 a1 a2 a3 a4 a5 : Option Value} {tl : List (Option Value)} {x : Int32} {z : Int} (v : Int32) (hd : decode F.2.1.2.1 pc = .ok (.iinc 6 z, 3)) (hv : x + Int32.ofInt z = v) (hn : Nat.ble 7 F.2.1.2.2.1 = true) (hp : oc1 a5 = true) (hr : F.2.2.2.2.2.all (fun q => !(q.1 == 6) && !(q.1 + 1 == 6)) = true) (k : xV F (pc + 3) (a0 :: a1 :: a2 :: a3 :: a4 :: a5 :: some (.int v) :: tl) st n h ce sl) : xV F pc (a0 :: a1 :: a2 :: a3 :: a4 :: a5 :: some (.int x) :: tl) st n h ce sl := y_iinc (i := 6) rfl hd hv (Nat.le_of_ble_eq_true hn) (fun w _ h1 => oc1_of hp w (Option.some.inj h1)) hr k
theorem x_iload7 {a0 a1 a2 a3 a4 a5 a6 : Option Value} {tl : List (Option Value)} {x : Int32} (hd : decode F.2.1.2.1 pc = .ok (.iload 7, 2)) (k : xV F (pc + 2) (a0 :: a1 :: a2 :: a3 :: a4 :: a5 :: a6 :: some (.int x) :: tl) (.int x :: st) n h ce sl) : xV F pc (a0 :: a1 :: a2 :: a3 :: a4 :: a5 :: a6 :: some (.int x) :: tl) st n h ce sl := y_iload_w (i := 7) rfl hd k
theorem x_lload7 {a0 a1 a2 a3 a4 a5 a6 : Option Value} {tl : List (Option Value)} {x : Int64} (hd : decode F.2.1.2.1 pc = .ok (.lload 7, 2)) (k : xV F (pc + 2) (a0 :: a1 :: a2 :: a3 :: a4 :: a5 :: a6 :: some (.long x) :: tl) (.long x :: st) n h ce sl) : xV F pc (a0 :: a1 :: a2 :: a3 :: a4 :: a5 :: a6 :: some (.long x) :: tl) st n h ce sl := y_lload_w (i := 7) rfl hd k
theorem x_aload7 {a0 a1 a2 a3 a4 a5 a6 : Option Value} {tl : List (Option Value)} {x : Nat} (hd : decode F.2.1.2.1 pc = .ok (.aload 7, 2)) (k : xV F (pc + 2) (a0 :: a1 :: a2 :: a3 :: a4 :: a5 :: a6 :: some (.ref x) :: tl) (.ref x :: st) n h ce sl) : xV F pc (a0 :: a1 :: a2 :: a3 :: a4 :: a5 :: a6 :: some (.ref x) :: tl) st n h ce sl := y_aload_w (i := 7) rfl hd k
theorem x_aloadN7 {a0 a1 a2 a3 a4 a5 a6 : Option Value} {tl : List (Option Value)} (hd : decode F.2.1.2.1 pc = .ok (.aload 7, 2)) (k : xV F (pc + 2) (a0 :: a1 :: a2 :: a3 :: a4 :: a5 :: a6 :: some .null :: tl) (.null :: st) n h ce sl) : xV F pc (a0 :: a1 :: a2 :: a3 :: a4 :: a5 :: a6 :: some .null :: tl) st n h ce sl := y_aloadN_w (i := 7) rfl hd k
theorem x_istore7 {a0 a1 a2 a3 a4 a5 a6 : Option Value} {tl : List (Option Value)} {b : Option Value} {x : Int32} (hd : decode F.2.1.2.1 pc = .ok (.istore 7, 2)) (hn : Nat.ble 8 F.2.1.2.2.1 = true) (hp : oc1 a6 = true) (hr : F.2.2.2.2.2.all (fun q => !(q.1 == 7) && !(q.1 + 1 == 7)) = true) (k : xV F (pc + 2) (a0 :: a1 :: a2 :: a3 :: a4 :: a5 :: a6 :: some (.int x) :: tl) st n h ce sl) : xV F pc (a0 :: a1 :: a2 :: a3 :: a4 :: a5 :: a6 :: b :: tl) (.int x :: st) n h ce sl := y_istore_w (i := 7) hd (Nat.le_of_ble_eq_true hn) (by simp) (fun w _ h1 => oc1_of hp w (Option.some.inj h1)) hr k
theorem x_astore7 {a0 a1 a2 a3 a4 a5 a6 : Option Value} {tl : List (Option Value)} {b : Option Value} {x : Nat} (hd : decode F.2.1.2.1 pc = .ok (.astore 7, 2)) (hn : Nat.ble 8 F.2.1.2.2.1 = true) (hp : oc1 a6 = true) (hr : F.2.2.2.2.2.all (fun q => !(q.1 == 7) && !(q.1 + 1 == 7)) = true) (k : xV F (pc + 2) (a0 :: a1 :: a2 :: a3 :: a4 :: a5 :: a6 :: some (.ref x) :: tl) st n h ce sl) : xV F pc (a0 :: a1 :: a2 :: a3 :: a4 :: a5 :: a6 :: b :: tl) (.ref x :: st) n h ce sl := y_astore_w (i := 7) hd (Nat.le_of_ble_eq_true hn) (by simp) (fun w _ h1 => oc1_of hp w (Option.some.inj h1)) hr k
theorem x_astoreN7 {a0 a1 a2 a3 a4 a5 a6 : Option Value} {tl : List (Option Value)} {b : Option Value} (hd : decode F.2.1.2.1 pc = .ok (.astore 7, 2)) (hn : Nat.ble 8 F.2.1.2.2.1 = true) (hp : oc1 a6 = true) (hr : F.2.2.2.2.2.all (fun q => !(q.1 == 7) && !(q.1 + 1 == 7)) = true) (k : xV F (pc + 2) (a0 :: a1 :: a2 :: a3 :: a4 :: a5 :: a6 :: some (.null) :: tl) st n h ce sl) : xV F pc (a0 :: a1 :: a2 :: a3 :: a4 :: a5 :: a6 :: b :: tl) (.null :: st) n h ce sl := y_astoreN_w (i := 7) hd (Nat.le_of_ble_eq_true hn) (by simp) (fun w _ h1 => oc1_of hp w (Option.some.inj h1)) hr k
theorem x_lstore7 {a0 a1 a2 a3 a4 a5 a6 : Option Value} {tl : List (Option Value)} {b b2 : Option Value} {x : Int64} (hd : decode F.2.1.2.1 pc = .ok (.lstore 7, 2)) (hn : Nat.ble 9 F.2.1.2.2.1 = true) (hp : oc1 a6 = true) (hr : F.2.2.2.2.2.all (fun q => !(q.1 == 7) && !(q.1 + 1 == 7) && !(q.1 == 7 + 1)) = true) (k : xV F (pc + 2) (a0 :: a1 :: a2 :: a3 :: a4 :: a5 :: a6 :: some (.long x) :: none :: tl) st n h ce sl) : xV F pc (a0 :: a1 :: a2 :: a3 :: a4 :: a5 :: a6 :: b :: b2 :: tl) (.long x :: st) n h ce sl := y_lstore_w (i := 7) hd (Nat.le_of_ble_eq_true hn) (by simp) (fun w _ h1 => oc1_of hp w (Option.some.inj h1)) hr k
theorem x_iinc7 {a0 a1 a2 a3 a4 a5 a6 : Option Value} {tl : List (Option Value)} {x : Int32} {z : Int} (v : Int32) (hd : decode F.2.1.2.1 pc = .ok (.iinc 7 z, 3)) (hv : x + Int32.ofInt z = v) (hn : Nat.ble 8 F.2.1.2.2.1 = true) (hp : oc1 a6 = true) (hr : F.2.2.2.2.2.all (fun q => !(q.1 == 7) && !(q.1 + 1 == 7)) = true) (k : xV F (pc + 3) (a0 :: a1 :: a2 :: a3 :: a4 :: a5 :: a6 :: some (.int v) :: tl) st n h ce sl) : xV F pc (a0 :: a1 :: a2 :: a3 :: a4 :: a5 :: a6 :: some (.int x) :: tl) st n h ce sl := y_iinc (i := 7) rfl hd hv (Nat.le_of_ble_eq_true hn) (fun w _ h1 => oc1_of hp w (Option.some.inj h1)) hr k
theorem x_iload8 {a0 a1 a2 a3 a4 a5 a6 a7 : Option Value} {tl : List (Option Value)} {x : Int32} (hd : decode F.2.1.2.1 pc = .ok (.iload 8, 2)) (k : xV F (pc + 2) (a0 :: a1 :: a2 :: a3 :: a4 :: a5 :: a6 :: a7 :: some (.int x) :: tl) (.int x :: st) n h ce sl) : xV F pc (a0 :: a1 :: a2 :: a3 :: a4 :: a5 :: a6 :: a7 :: some (.int x) :: tl) st n h ce sl := y_iload_w (i := 8) rfl hd k
theorem x_lload8 {a0 a1 a2 a3 a4 a5 a6 a7 : Option Value} {tl : List (Option Value)} {x : Int64} (hd : decode F.2.1.2.1 pc = .ok (.lload 8, 2)) (k : xV F (pc + 2) (a0 :: a1 :: a2 :: a3 :: a4 :: a5 :: a6 :: a7 :: some (.long x) :: tl) (.long x :: st) n h ce sl) : xV F pc (a0 :: a1 :: a2 :: a3 :: a4 :: a5 :: a6 :: a7 :: some (.long x) :: tl) st n h ce sl := y_lload_w (i := 8) rfl hd k
theorem x_aload8 {a0 a1 a2 a3 a4 a5 a6 a7 : Option Value} {tl : List (Option Value)} {x : Nat} (hd : decode F.2.1.2.1 pc = .ok (.aload 8, 2)) (k : xV F (pc + 2) (a0 :: a1 :: a2 :: a3 :: a4 :: a5 :: a6 :: a7 :: some (.ref x) :: tl) (.ref x :: st) n h ce sl) : xV F pc (a0 :: a1 :: a2 :: a3 :: a4 :: a5 :: a6 :: a7 :: some (.ref x) :: tl) st n h ce sl := y_aload_w (i := 8) rfl hd k
theorem x_aloadN8 {a0 a1 a2 a3 a4 a5 a6 a7 : Option Value} {tl : List (Option Value)} (hd : decode F.2.1.2.1 pc = .ok (.aload 8, 2)) (k : xV F (pc + 2) (a0 :: a1 :: a2 :: a3 :: a4 :: a5 :: a6 :: a7 :: some .null :: tl) (.null :: st) n h ce sl) : xV F pc (a0 :: a1 :: a2 :: a3 :: a4 :: a5 :: a6 :: a7 :: some .null :: tl) st n h ce sl := y_aloadN_w (i := 8) rfl hd k
theorem x_istore8 {a0 a1 a2 a3 a4 a5 a6 a7 : Option Value} {tl : List (Option Value)} {b : Option Value} {x : Int32} (hd : decode F.2.1.2.1 pc = .ok (.istore 8, 2)) (hn : Nat.ble 9 F.2.1.2.2.1 = true) (hp : oc1 a7 = true) (hr : F.2.2.2.2.2.all (fun q => !(q.1 == 8) && !(q.1 + 1 == 8)) = true) (k : xV F (pc + 2) (a0 :: a1 :: a2 :: a3 :: a4 :: a5 :: a6 :: a7 :: some (.int x) :: tl) st n h ce sl) : xV F pc (a0 :: a1 :: a2 :: a3 :: a4 :: a5 :: a6 :: a7 :: b :: tl) (.int x :: st) n h ce sl := y_istore_w (i := 8) hd (Nat.le_of_ble_eq_true hn) (by simp) (fun w _ h1 => oc1_of hp w (Option.some.inj h1)) hr k
theorem x_astore8 {a0 a1 a2 a3 a4 a5 a6 a7 : Option Value} {tl : List (Option Value)} {b : Option Value} {x : Nat} (hd : decode F.2.1.2.1 pc = .ok (.astore 8, 2)) (hn : Nat.ble 9 F.2.1.2.2.1 = true) (hp : oc1 a7 = true) (hr : F.2.2.2.2.2.all (fun q => !(q.1 == 8) && !(q.1 + 1 == 8)) = true) (k : xV F (pc + 2) (a0 :: a1 :: a2 :: a3 :: a4 :: a5 :: a6 :: a7 :: some (.ref x) :: tl) st n h ce sl) : xV F pc (a0 :: a1 :: a2 :: a3 :: a4 :: a5 :: a6 :: a7 :: b :: tl) (.ref x :: st) n h ce sl := y_astore_w (i := 8) hd (Nat.le_of_ble_eq_true hn) (by simp) (fun w _ h1 => oc1_of hp w (Option.some.inj h1)) hr k
theorem x_astoreN8 {a0 a1 a2 a3 a4 a5 a6 a7 : Option Value} {tl : List (Option Value)} {b : Option Value} (hd : decode F.2.1.2.1 pc = .ok (.astore 8, 2)) (hn : Nat.ble 9 F.2.1.2.2.1 = true) (hp : oc1 a7 = true) (hr : F.2.2.2.2.2.all (fun q => !(q.1 == 8) && !(q.1 + 1 == 8)) = true) (k : xV F (pc + 2) (a0 :: a1 :: a2 :: a3 :: a4 :: a5 :: a6 :: a7 :: some (.null) :: tl) st n h ce sl) : xV F pc (a0 :: a1 :: a2 :: a3 :: a4 :: a5 :: a6 :: a7 :: b :: tl) (.null :: st) n h ce sl := y_astoreN_w (i := 8) hd (Nat.le_of_ble_eq_true hn) (by simp) (fun w _ h1 => oc1_of hp w (Option.some.inj h1)) hr k
theorem x_lstore8 {a0 a1 a2 a3 a4 a5 a6 a7 : Option Value} {tl : List (Option Value)} {b b2 : Option Value} {x : Int64} (hd : decode F.2.1.2.1 pc = .ok (.lstore 8, 2)) (hn : Nat.ble 10 F.2.1.2.2.1 = true) (hp : oc1 a7 = true) (hr : F.2.2.2.2.2.all (fun q => !(q.1 == 8) && !(q.1 + 1 == 8) && !(q.1 == 8 + 1)) = true) (k : xV F (pc + 2) (a0 :: a1 :: a2 :: a3 :: a4 :: a5 :: a6 :: a7 :: some (.long x) :: none :: tl) st n h ce sl) : xV F pc (a0 :: a1 :: a2 :: a3 :: a4 :: a5 :: a6 :: a7 :: b :: b2 :: tl) (.long x :: st) n h ce sl := y_lstore_w (i := 8) hd (Nat.le_of_ble_eq_true hn) (by simp) (fun w _ h1 => oc1_of hp w (Option.some.inj h1)) hr k
theorem x_iinc8 {a0 a1 a2 a3 a4 a5 a6 a7 : Option Value} {tl : List (Option Value)} {x : Int32} {z : Int} (v : Int32) (hd : decode F.2.1.2.1 pc = .ok (.iinc 8 z, 3)) (hv : x + Int32.ofInt z = v) (hn : Nat.ble 9 F.2.1.2.2.1 = true) (hp : oc1 a7 = true) (hr : F.2.2.2.2.2.all (fun q => !(q.1 == 8) && !(q.1 + 1 == 8)) = true) (k : xV F (pc + 3) (a0 :: a1 :: a2 :: a3 :: a4 :: a5 :: a6 :: a7 :: some (.int v) :: tl) st n h ce sl) : xV F pc (a0 :: a1 :: a2 :: a3 :: a4 :: a5 :: a6 :: a7 :: some (.int x) :: tl) st n h ce sl := y_iinc (i := 8) rfl hd hv (Nat.le_of_ble_eq_true hn) (fun w _ h1 => oc1_of hp w (Option.some.inj h1)) hr k
theorem x_iload9 {a0 a1 a2 a3 a4 a5 a6 a7 a8 : Option Value} {tl : List (Option Value)} {x : Int32} (hd : decode F.2.1.2.1 pc = .ok (.iload 9, 2)) (k : xV F (pc + 2) (a0 :: a1 :: a2 :: a3 :: a4 :: a5 :: a6 :: a7 :: a8 :: some (.int x) :: tl) (.int x :: st) n h ce sl) : xV F pc (a0 :: a1 :: a2 :: a3 :: a4 :: a5 :: a6 :: a7 :: a8 :: some (.int x) :: tl) st n h ce sl := y_iload_w (i := 9) rfl hd k
theorem x_lload9 {a0 a1 a2 a3 a4 a5 a6 a7 a8 : Option Value} {tl : List (Option Value)} {x : Int64} (hd : decode F.2.1.2.1 pc = .ok (.lload 9, 2)) (k : xV F (pc + 2) (a0 :: a1 :: a2 :: a3 :: a4 :: a5 :: a6 :: a7 :: a8 :: some (.long x) :: tl) (.long x :: st) n h ce sl) : xV F pc (a0 :: a1 :: a2 :: a3 :: a4 :: a5 :: a6 :: a7 :: a8 :: some (.long x) :: tl) st n h ce sl := y_lload_w (i := 9) rfl hd k
theorem x_aload9 {a0 a1 a2 a3 a4 a5 a6 a7 a8 : Option Value} {tl : List (Option Value)} {x : Nat} (hd : decode F.2.1.2.1 pc = .ok (.aload 9, 2)) (k : xV F (pc + 2) (a0 :: a1 :: a2 :: a3 :: a4 :: a5 :: a6 :: a7 :: a8 :: some (.ref x) :: tl) (.ref x :: st) n h ce sl) : xV F pc (a0 :: a1 :: a2 :: a3 :: a4 :: a5 :: a6 :: a7 :: a8 :: some (.ref x) :: tl) st n h ce sl := y_aload_w (i := 9) rfl hd k
theorem x_aloadN9 {a0 a1 a2 a3 a4 a5 a6 a7 a8 : Option Value} {tl : List (Option Value)} (hd : decode F.2.1.2.1 pc = .ok (.aload 9, 2)) (k : xV F (pc + 2) (a0 :: a1 :: a2 :: a3 :: a4 :: a5 :: a6 :: a7 :: a8 :: some .null :: tl) (.null :: st) n h ce sl) : xV F pc (a0 :: a1 :: a2 :: a3 :: a4 :: a5 :: a6 :: a7 :: a8 :: some .null :: tl) st n h ce sl := y_aloadN_w (i := 9) rfl hd k
theorem x_istore9 {a0 a1 a2 a3 a4 a5 a6 a7 a8 : Option Value} {tl : List (Option Value)} {b : Option Value} {x : Int32} (hd : decode F.2.1.2.1 pc = .ok (.istore 9, 2)) (hn : Nat.ble 10 F.2.1.2.2.1 = true) (hp : oc1 a8 = true) (hr : F.2.2.2.2.2.all (fun q => !(q.1 == 9) && !(q.1 + 1 == 9)) = true) (k : xV F (pc + 2) (a0 :: a1 :: a2 :: a3 :: a4 :: a5 :: a6 :: a7 :: a8 :: some (.int x) :: tl) st n h ce sl) : xV F pc (a0 :: a1 :: a2 :: a3 :: a4 :: a5 :: a6 :: a7 :: a8 :: b :: tl) (.int x :: st) n h ce sl := y_istore_w (i := 9) hd (Nat.le_of_ble_eq_true hn) (by simp) (fun w _ h1 => oc1_of hp w (Option.some.inj h1)) hr k
theorem x_astore9 {a0 a1 a2 a3 a4 a5 a6 a7 a8 : Option Value} {tl : List (Option Value)} {b : Option Value} {x : Nat} (hd : decode F.2.1.2.1 pc = .ok (.astore 9, 2)) (hn : Nat.ble 10 F.2.1.2.2.1 = true) (hp : oc1 a8 = true) (hr : F.2.2.2.2.2.all (fun q => !(q.1 == 9) && !(q.1 + 1 == 9)) = true) (k : xV F (pc + 2) (a0 :: a1 :: a2 :: a3 :: a4 :: a5 :: a6 :: a7 :: a8 :: some (.ref x) :: tl) st n h ce sl) : xV F pc (a0 :: a1 :: a2 :: a3 :: a4 :: a5 :: a6 :: a7 :: a8 :: b :: tl) (.ref x :: st) n h ce sl := y_astore_w (i := 9) hd (Nat.le_of_ble_eq_true hn) (by simp) (fun w _ h1 => oc1_of hp w (Option.some.inj h1)) hr k
theorem x_astoreN9 {a0 a1 a2 a3 a4 a5 a6 a7 a8 : Option Value} {tl : List (Option Value)} {b : Option Value} (hd : decode F.2.1.2.1 pc = .ok (.astore 9, 2)) (hn : Nat.ble 10 F.2.1.2.2.1 = true) (hp : oc1 a8 = true) (hr : F.2.2.2.2.2.all (fun q => !(q.1 == 9) && !(q.1 + 1 == 9)) = true) (k : xV F (pc + 2) (a0 :: a1 :: a2 :: a3 :: a4 :: a5 :: a6 :: a7 :: a8 :: some (.null) :: tl) st n h ce sl) : xV F pc (a0 :: a1 :: a2 :: a3 :: a4 :: a5 :: a6 :: a7 :: a8 :: b :: tl) (.null :: st) n h ce sl := y_astoreN_w (i := 9) hd (Nat.le_of_ble_eq_true hn) (by simp) (fun w _ h1 => oc1_of hp w (Option.some.inj h1)) hr k
theorem x_lstore9 {a0 a1 a2 a3 a4 a5 a6 a7 a8 : Option Value} {tl : List (Option Value)} {b b2 : Option Value} {x : Int64} (hd : decode F.2.1.2.1 pc = .ok (.lstore 9, 2)) (hn : Nat.ble 11 F.2.1.2.2.1 = true) (hp : oc1 a8 = true) (hr : F.2.2.2.2.2.all (fun q => !(q.1 == 9) && !(q.1 + 1 == 9) && !(q.1 == 9 + 1)) = true) (k : xV F (pc + 2) (a0 :: a1 :: a2 :: a3 :: a4 :: a5 :: a6 :: a7 :: a8 :: some (.long x) :: none :: tl) st n h ce sl) : xV F pc (a0 :: a1 :: a2 :: a3 :: a4 :: a5 :: a6 :: a7 :: a8 :: b :: b2 :: tl) (.long x :: st) n h ce sl := y_lstore_w (i := 9) hd (Nat.le_of_ble_eq_true hn) (by simp) (fun w _ h1 => oc1_of hp w (Option.some.inj h1)) hr k
theorem x_iinc9 {a0 a1 a2 a3 a4 a5 a6 a7 a8 : Option Value} {tl : List (Option Value)} {x : Int32} {z : Int} (v : Int32) (hd : decode F.2.1.2.1 pc = .ok (.iinc 9 z, 3)) (hv : x + Int32.ofInt z = v) (hn : Nat.ble 10 F.2.1.2.2.1 = true) (hp : oc1 a8 = true) (hr : F.2.2.2.2.2.all (fun q => !(q.1 == 9) && !(q.1 + 1 == 9)) = true) (k : xV F (pc + 3) (a0 :: a1 :: a2 :: a3 :: a4 :: a5 :: a6 :: a7 :: a8 :: some (.int v) :: tl) st n h ce sl) : xV F pc (a0 :: a1 :: a2 :: a3 :: a4 :: a5 :: a6 :: a7 :: a8 :: some (.int x) :: tl) st n h ce sl := y_iinc (i := 9) rfl hd hv (Nat.le_of_ble_eq_true hn) (fun w _ h1 => oc1_of hp w (Option.some.inj h1)) hr k
theorem x_iload10 {a0 a1 a2 a3 a4 a5 a6 a7 a8 a9 : Option Value} {tl : List (Option Value)} {x : Int32} (hd : decode F.2.1.2.1 pc = .ok (.iload 10, 2)) (k : xV F (pc + 2) (a0 :: a1 :: a2 :: a3 :: a4 :: a5 :: a6 :: a7 :: a8 :: a9 :: some (.int x) :: tl) (.int x :: st) n h ce sl) : xV F pc (a0 :: a1 :: a2 :: a3 :: a4 :: a5 :: a6 :: a7 :: a8 :: a9 :: some (.int x) :: tl) st n h ce sl := y_iload_w (i := 10) rfl hd k
theorem x_lload10 {a0 a1 a2 a3 a4 a5 a6 a7 a8 a9 : Option Value} {tl : List (Option Value)} {x : Int64} (hd : decode F.2.1.2.1 pc = .ok (.lload 10, 2)) (k : xV F (pc + 2) (a0 :: a1 :: a2 :: a3 :: a4 :: a5 :: a6 :: a7 :: a8 :: a9 :: some (.long x) :: tl) (.long x :: st) n h ce sl) : xV F pc (a0 :: a1 :: a2 :: a3 :: a4 :: a5 :: a6 :: a7 :: a8 :: a9 :: some (.long x) :: tl) st n h ce sl := y_lload_w (i := 10) rfl hd k
theorem x_aload10 {a0 a1 a2 a3 a4 a5 a6 a7 a8 a9 : Option Value} {tl : List (Option Value)} {x : Nat} (hd : decode F.2.1.2.1 pc = .ok (.aload 10, 2)) (k : xV F (pc + 2) (a0 :: a1 :: a2 :: a3 :: a4 :: a5 :: a6 :: a7 :: a8 :: a9 :: some (.ref x) :: tl) (.ref x :: st) n h ce sl) : xV F pc (a0 :: a1 :: a2 :: a3 :: a4 :: a5 :: a6 :: a7 :: a8 :: a9 :: some (.ref x) :: tl) st n h ce sl := y_aload_w (i := 10) rfl hd k
theorem x_aloadN10 {a0 a1 a2 a3 a4 a5 a6 a7 a8 a9 : Option Value} {tl : List (Option Value)} (hd : decode F.2.1.2.1 pc = .ok (.aload 10, 2)) (k : xV F (pc + 2) (a0 :: a1 :: a2 :: a3 :: a4 :: a5 :: a6 :: a7 :: a8 :: a9 :: some .null :: tl) (.null :: st) n h ce sl) : xV F pc (a0 :: a1 :: a2 :: a3 :: a4 :: a5 :: a6 :: a7 :: a8 :: a9 :: some .null :: tl) st n h ce sl := y_aloadN_w (i := 10) rfl hd k
theorem x_istore10 {a0 a1 a2 a3 a4 a5 a6 a7 a8 a9 : Option Value} {tl : List (Option Value)} {b : Option Value} {x : Int32} (hd : decode F.2.1.2.1 pc = .ok (.istore 10, 2)) (hn : Nat.ble 11 F.2.1.2.2.1 = true) (hp : oc1 a9 = true) (hr : F.2.2.2.2.2.all (fun q => !(q.1 == 10) && !(q.1 + 1 == 10)) = true) (k : xV F (pc + 2) (a0 :: a1 :: a2 :: a3 :: a4 :: a5 :: a6 :: a7 :: a8 :: a9 :: some (.int x) :: tl) st n h ce sl) : xV F pc (a0 :: a1 :: a2 :: a3 :: a4 :: a5 :: a6 :: a7 :: a8 :: a9 :: b :: tl) (.int x :: st) n h ce sl := y_istore_w (i := 10) hd (Nat.le_of_ble_eq_true hn) (by simp) (fun w _ h1 => oc1_of hp w (Option.some.inj h1)) hr k
theorem x_astore10 {a0 a1 a2 a3 a4 a5 a6 a7 a8 a9 : Option Value} {tl : List (Option Value)} {b : Option Value} {x : Nat} (hd : decode F.2.1.2.1 pc = .ok (.astore 10, 2)) (hn : Nat.ble 11 F.2.1.2.2.1 = true) (hp : oc1 a9 = true) (hr : F.2.2.2.2.2.all (fun q => !(q.1 == 10) && !(q.1 + 1 == 10)) = true) (k : xV F (pc + 2) (a0 :: a1 :: a2 :: a3 :: a4 :: a5 :: a6 :: a7 :: a8 :: a9 :: some (.ref x) :: tl) st n h ce sl) : xV F pc (a0 :: a1 :: a2 :: a3 :: a4 :: a5 :: a6 :: a7 :: a8 :: a9 :: b :: tl) (.ref x :: st) n h ce sl := y_astore_w (i := 10) hd (Nat.le_of_ble_eq_true hn) (by simp) (fun w _ h1 => oc1_of hp w (Option.some.inj h1)) hr k
theorem x_astoreN10 {a0 a1 a2 a3 a4 a5 a6 a7 a8 a9 : Option Value} {tl : List (Option Value)} {b : Option Value} (hd : decode F.2.1.2.1 pc = .ok (.astore 10, 2)) (hn : Nat.ble 11 F.2.1.2.2.1 = true) (hp : oc1 a9 = true) (hr : F.2.2.2.2.2.all (fun q => !(q.1 == 10) && !(q.1 + 1 == 10)) = true) (k : xV F (pc + 2) (a0 :: a1 :: a2 :: a3 :: a4 :: a5 :: a6 :: a7 :: a8 :: a9 :: some (.null) :: tl) st n h ce sl) : xV F pc (a0 :: a1 :: a2 :: a3 :: a4 :: a5 :: a6 :: a7 :: a8 :: a9 :: b :: tl) (.null :: st) n h ce sl := y_astoreN_w (i := 10) hd (Nat.le_of_ble_eq_true hn) (by simp) (fun w _ h1 => oc1_of hp w (Option.some.inj h1)) hr k
theorem x_lstore10 {a0 a1 a2 a3 a4 a5 a6 a7 a8 a9 : Option Value} {tl : List (Option Value)} {b b2 : Option Value} {x : Int64} (hd : decode F.2.1.2.1 pc = .ok (.lstore 10, 2)) (hn : Nat.ble 12 F.2.1.2.2.1 = true) (hp : oc1 a9 = true) (hr : F.2.2.2.2.2.all (fun q => !(q.1 == 10) && !(q.1 + 1 == 10) && !(q.1 == 10 + 1)) = true) (k : xV F (pc + 2) (a0 :: a1 :: a2 :: a3 :: a4 :: a5 :: a6 :: a7 :: a8 :: a9 :: some (.long x) :: none :: tl) st n h ce sl) : xV F pc (a0 :: a1 :: a2 :: a3 :: a4 :: a5 :: a6 :: a7 :: a8 :: a9 :: b :: b2 :: tl) (.long x :: st) n h ce sl := y_lstore_w (i := 10) hd (Nat.le_of_ble_eq_true hn) (by simp) (fun w _ h1 => oc1_of hp w (Option.some.inj h1)) hr k
theorem x_iinc10 {a0 a1 a2 a3 a4 a5 a6 a7 a8 a9 : Option Value} {tl : List (Option Value)} {x : Int32} {z : Int} (v : Int32) (hd : decode F.2.1.2.1 pc = .ok (.iinc 10 z, 3)) (hv : x + Int32.ofInt z = v) (hn : Nat.ble 11 F.2.1.2.2.1 = true) (hp : oc1 a9 = true) (hr : F.2.2.2.2.2.all (fun q => !(q.1 == 10) && !(q.1 + 1 == 10)) = true) (k : xV F (pc + 3) (a0 :: a1 :: a2 :: a3 :: a4 :: a5 :: a6 :: a7 :: a8 :: a9 :: some (.int v) :: tl) st n h ce sl) : xV F pc (a0 :: a1 :: a2 :: a3 :: a4 :: a5 :: a6 :: a7 :: a8 :: a9 :: some (.int x) :: tl) st n h ce sl := y_iinc (i := 10) rfl hd hv (Nat.le_of_ble_eq_true hn) (fun w _ h1 => oc1_of hp w (Option.some.inj h1)) hr k
theorem x_iload11 {a0 a1 a2 a3 a4 a5 a6 a7 a8 a9 a10 : Option Value} {tl : List (Option Value)} {x : Int32} (hd : decode F.2.1.2.1 pc = .ok (.iload 11, 2)) (k : xV F (pc + 2) (a0 :: a1 :: a2 :: a3 :: a4 :: a5 :: a6 :: a7 :: a8 :: a9 :: a10 :: some (.int x) :: tl) (.int x :: st) n h ce sl) : xV F pc (a0 :: a1 :: a2 :: a3 :: a4 :: a5 :: a6 :: a7 :: a8 :: a9 :: a10 :: some (.int x) :: tl) st n h ce sl := y_iload_w (i := 11) rfl hd k
theorem x_lload11 {a0 a1 a2 a3 a4 a5 a6 a7 a8 a9 a10 : Option Value} {tl : List (Option Value)} {x : Int64} (hd : decode F.2.1.2.1 pc = .ok (.lload 11, 2)) (k : xV F (pc + 2) (a0 :: a1 :: a2 :: a3 :: a4 :: a5 :: a6 :: a7 :: a8 :: a9 :: a10 :: some (.long x) :: tl) (.long x :: st) n h ce sl) : xV F pc (a0 :: a1 :: a2 :: a3 :: a4 :: a5 :: a6 :: a7 :: a8 :: a9 :: a10 :: some (.long x) :: tl) st n h ce sl := y_lload_w (i := 11) rfl hd k
theorem x_aload11 {a0 a1 a2 a3 a4 a5 a6 a7 a8 a9 a10 : Option Value} {tl : List (Option Value)} {x : Nat} (hd : decode F.2.1.2.1 pc = .ok (.aload 11, 2)) (k : xV F (pc + 2) (a0 :: a1 :: a2 :: a3 :: a4 :: a5 :: a6 :: a7 :: a8 :: a9 :: a10 :: some (.ref x) :: tl) (.ref x :: st) n h ce sl) : xV F pc (a0 :: a1 :: a2 :: a3 :: a4 :: a5 :: a6 :: a7 :: a8 :: a9 :: a10 :: some (.ref x) :: tl) st n h ce sl := y_aload_w (i := 11) rfl hd k
theorem x_aloadN11 {a0 a1 a2 a3 a4 a5 a6 a7 a8 a9 a10 : Option Value} {tl : List (Option Value)} (hd : decode F.2.1.2.1 pc = .ok (.aload 11, 2)) (k : xV F (pc + 2) (a0 :: a1 :: a2 :: a3 :: a4 :: a5 :: a6 :: a7 :: a8 :: a9 :: a10 :: some .null :: tl) (.null :: st) n h ce sl) : xV F pc (a0 :: a1 :: a2 :: a3 :: a4 :: a5 :: a6 :: a7 :: a8 :: a9 :: a10 :: some .null :: tl) st n h ce sl := y_aloadN_w (i := 11) rfl hd k
theorem x_istore11 {a0 a1 a2 a3 a4 a5 a6 a7 a8 a9 a10 : Option Value} {tl : List (Option Value)} {b : Option Value} {x : Int32} (hd : decode F.2.1.2.1 pc = .ok (.istore 11, 2)) (hn : Nat.ble 12 F.2.1.2.2.1 = true) (hp : oc1 a10 = true) (hr : F.2.2.2.2.2.all (fun q => !(q.1 == 11) && !(q.1 + 1 == 11)) = true) (k : xV F (pc + 2) (a0 :: a1 :: a2 :: a3 :: a4 :: a5 :: a6 :: a7 :: a8 :: a9 :: a10 :: some (.int x) :: tl) st n h ce sl) : xV F pc (a0 :: a1 :: a2 :: a3 :: a4 :: a5 :: a6 :: a7 :: a8 :: a9 :: a10 :: b :: tl) (.int x :: st) n h ce sl := y_istore_w (i := 11) hd (Nat.le_of_ble_eq_true hn) (by simp) (fun w _ h1 => oc1_of hp w (Option.some.inj h1)) hr k
theorem x_astore11 {a0 a1 a2 a3 a4 a5 a6 a7 a8 a9 a10 : Option Value} {tl : List (Option Value)} {b : Option Value} {x : Nat} (hd : decode F.2.1.2.1 pc = .ok (.astore 11, 2)) (hn : Nat.ble 12 F.2.1.2.2.1 = true) (hp : oc1 a10 = true) (hr : F.2.2.2.2.2.all (fun q => !(q.1 == 11) && !(q.1 + 1 == 11)) = true) (k : xV F (pc + 2) (a0 :: a1 :: a2 :: a3 :: a4 :: a5 :: a6 :: a7 :: a8 :: a9 :: a10 :: some (.ref x) :: tl) st n h ce sl) : xV F pc (a0 :: a1 :: a2 :: a3 :: a4 :: a5 :: a6 :: a7 :: a8 :: a9 :: a10 :: b :: tl) (.ref x :: st) n h ce sl := y_astore_w (i := 11) hd (Nat.le_of_ble_eq_true hn) (by simp) (fun w _ h1 => oc1_of hp w (Option.some.inj h1)) hr k
theorem x_astoreN11 {a0 a1 a2 a3 a4 a5 a6 a7 a8 a9 a10 : Option Value} {tl : List (Option Value)} {b : Option Value} (hd : decode F.2.1.2.1 pc = .ok (.astore 11, 2)) (hn : Nat.ble 12 F.2.1.2.2.1 = true) (hp : oc1 a10 = true) (hr : F.2.2.2.2.2.all (fun q => !(q.1 == 11) && !(q.1 + 1 == 11)) = true) (k : xV F (pc + 2) (a0 :: a1 :: a2 :: a3 :: a4 :: a5 :: a6 :: a7 :: a8 :: a9 :: a10 :: some (.null) :: tl) st n h ce sl) : xV F pc (a0 :: a1 :: a2 :: a3 :: a4 :: a5 :: a6 :: a7 :: a8 :: a9 :: a10 :: b :: tl) (.null :: st) n h ce sl := y_astoreN_w (i := 11) hd (Nat.le_of_ble_eq_true hn) (by simp) (fun w _ h1 => oc1_of hp w (Option.some.inj h1)) hr k
theorem x_lstore11 {a0 a1 a2 a3 a4 a5 a6 a7 a8 a9 a10 : Option Value} {tl : List (Option Value)} {b b2 : Option Value} {x : Int64} (hd : decode F.2.1.2.1 pc = .ok (.lstore 11, 2)) (hn : Nat.ble 13 F.2.1.2.2.1 = true) (hp : oc1 a10 = true) (hr : F.2.2.2.2.2.all (fun q => !(q.1 == 11) && !(q.1 + 1 == 11) && !(q.1 == 11 + 1)) = true) (k : xV F (pc + 2) (a0 :: a1 :: a2 :: a3 :: a4 :: a5 :: a6 :: a7 :: a8 :: a9 :: a10 :: some (.long x) :: none :: tl) st n h ce sl) : xV F pc (a0 :: a1 :: a2 :: a3 :: a4 :: a5 :: a6 :: a7 :: a8 :: a9 :: a10 :: b :: b2 :: tl) (.long x :: st) n h ce sl := y_lstore_w (i := 11) hd (Nat.le_of_ble_eq_true hn) (by simp) (fun w _ h1 => oc1_of hp w (Option.some.inj h1)) hr k
theorem x_iinc11 {a0 a1 a2 a3 a4 a5 a6 a7 a8 a9 a10 : Option Value} {tl : List (Option Value)} {x : Int32} {z : Int} (v : Int32) (hd : decode F.2.1.2.1 pc = .ok (.iinc 11 z, 3)) (hv : x + Int32.ofInt z = v) (hn : Nat.ble 12 F.2.1.2.2.1 = true) (hp : oc1 a10 = true) (hr : F.2.2.2.2.2.all (fun q => !(q.1 == 11) && !(q.1 + 1 == 11)) = true) (k : xV F (pc + 3) (a0 :: a1 :: a2 :: a3 :: a4 :: a5 :: a6 :: a7 :: a8 :: a9 :: a10 :: some (.int v) :: tl) st n h ce sl) : xV F pc (a0 :: a1 :: a2 :: a3 :: a4 :: a5 :: a6 :: a7 :: a8 :: a9 :: a10 :: some (.int x) :: tl) st n h ce sl := y_iinc (i := 11) rfl hd hv (Nat.le_of_ble_eq_true hn) (fun w _ h1 => oc1_of hp w (Option.some.inj h1)) hr k
theorem x_iload12 {a0 a1 a2 a3 a4 a5 a6 a7 a8 a9 a10 a11 : Option Value} {tl : List (Option Value)} {x : Int32} (hd : decode F.2.1.2.1 pc = .ok (.iload 12, 2)) (k : xV F (pc + 2) (a0 :: a1 :: a2 :: a3 :: a4 :: a5 :: a6 :: a7 :: a8 :: a9 :: a10 :: a11 :: some (.int x) :: tl) (.int x :: st) n h ce sl) : xV F pc (a0 :: a1 :: a2 :: a3 :: a4 :: a5 :: a6 :: a7 :: a8 :: a9 :: a10 :: a11 :: some (.int x) :: tl) st n h ce sl := y_iload_w (i := 12) rfl hd k
theorem x_lload12 {a0 a1 a2 a3 a4 a5 a6 a7 a8 a9 a10 a11 : Option Value} {tl : List (Option Value)} {x : Int64} (hd : decode F.2.1.2.1 pc = .ok (.lload 12, 2)) (k : xV F (pc + 2) (a0 :: a1 :: a2 :: a3 :: a4 :: a5 :: a6 :: a7 :: a8 :: a9 :: a10 :: a11 :: some (.long x) :: tl) (.long x :: st) n h ce sl) : xV F pc (a0 :: a1 :: a2 :: a3 :: a4 :: a5 :: a6 :: a7 :: a8 :: a9 :: a10 :: a11 :: some (.long x) :: tl) st n h ce sl := y_lload_w (i := 12) rfl hd k
theorem x_aload12 {a0 a1 a2 a3 a4 a5 a6 a7 a8 a9 a10 a11 : Option Value} {tl : List (Option Value)} {x : Nat} (hd : decode F.2.1.2.1 pc = .ok (.aload 12, 2)) (k : xV F (pc + 2) (a0 :: a1 :: a2 :: a3 :: a4 :: a5 :: a6 :: a7 :: a8 :: a9 :: a10 :: a11 :: some (.ref x) :: tl) (.ref x :: st) n h ce sl) : xV F pc (a0 :: a1 :: a2 :: a3 :: a4 :: a5 :: a6 :: a7 :: a8 :: a9 :: a10 :: a11 :: some (.ref x) :: tl) st n h ce sl := y_aload_w (i := 12) rfl hd k
theorem x_aloadN12 {a0 a1 a2 a3 a4 a5 a6 a7 a8 a9 a10 a11 : Option Value} {tl : List (Option Value)} (hd : decode F.2.1.2.1 pc = .ok (.aload 12, 2)) (k : xV F (pc + 2) (a0 :: a1 :: a2 :: a3 :: a4 :: a5 :: a6 :: a7 :: a8 :: a9 :: a10 :: a11 :: some .null :: tl) (.null :: st) n h ce sl) : xV F pc (a0 :: a1 :: a2 :: a3 :: a4 :: a5 :: a6 :: a7 :: a8 :: a9 :: a10 :: a11 :: some .null :: tl) st n h ce sl := y_aloadN_w (i := 12) rfl hd k
theorem x_istore12 {a0 a1 a2 a3 a4 a5 a6 a7 a8 a9 a10 a11 : Option Value} {tl : List (Option Value)} {b : Option Value} {x : Int32} (hd : decode F.2.1.2.1 pc = .ok (.istore 12, 2)) (hn : Nat.ble 13 F.2.1.2.2.1 = true) (hp : oc1 a11 = true) (hr : F.2.2.2.2.2.all (fun q => !(q.1 == 12) && !(q.1 + 1 == 12)) = true) (k : xV F (pc + 2) (a0 :: a1 :: a2 :: a3 :: a4 :: a5 :: a6 :: a7 :: a8 :: a9 :: a10 :: a11 :: some (.int x) :: tl) st n h ce sl) : xV F pc (a0 :: a1 :: a2 :: a3 :: a4 :: a5 :: a6 :: a7 :: a8 :: a9 :: a10 :: a11 :: b :: tl) (.int x :: st) n h ce sl := y_istore_w (i := 12) hd (Nat.le_of_ble_eq_true hn) (by simp) (fun w _ h1 => oc1_of hp w (Option.some.inj h1)) hr k
theorem x_astore12 {a0 a1 a2 a3 a4 a5 a6 a7 a8 a9 a10 a11 : Option Value} {tl : List (Option Value)} {b : Option Value} {x : Nat} (hd : decode F.2.1.2.1 pc = .ok (.astore 12, 2)) (hn : Nat.ble 13 F.2.1.2.2.1 = true) (hp : oc1 a11 = true) (hr : F.2.2.2.2.2.all (fun q => !(q.1 == 12) && !(q.1 + 1 == 12)) = true) (k : xV F (pc + 2) (a0 :: a1 :: a2 :: a3 :: a4 :: a5 :: a6 :: a7 :: a8 :: a9 :: a10 :: a11 :: some (.ref x) :: tl) st n h ce sl) : xV F pc (a0 :: a1 :: a2 :: a3 :: a4 :: a5 :: a6 :: a7 :: a8 :: a9 :: a10 :: a11 :: b :: tl) (.ref x :: st) n h ce sl := y_astore_w (i := 12) hd (Nat.le_of_ble_eq_true hn) (by simp) (fun w _ h1 => oc1_of hp w (Option.some.inj h1)) hr k
theorem x_astoreN12 {a0 a1 a2 a3 a4 a5 a6 a7 a8 a9 a10 a11 : Option Value} {tl : List (Option Value)} {b : Option Value} (hd : decode F.2.1.2.1 pc = .ok (.astore 12, 2)) (hn : Nat.ble 13 F.2.1.2.2.1 = true) (hp : oc1 a11 = true) (hr : F.2.2.2.2.2.all (fun q => !(q.1 == 12) && !(q.1 + 1 == 12)) = true) (k : xV F (pc + 2) (a0 :: a1 :: a2 :: a3 :: a4 :: a5 :: a6 :: a7 :: a8 :: a9 :: a10 :: a11 :: some (.null) :: tl) st n h ce sl) : xV F pc (a0 :: a1 :: a2 :: a3 :: a4 :: a5 :: a6 :: a7 :: a8 :: a9 :: a10 :: a11 :: b :: tl) (.null :: st) n h ce sl := y_astoreN_w (i := 12) hd (Nat.le_of_ble_eq_true hn) (by simp) (fun w _ h1 => oc1_of hp w (Option.some.inj h1)) hr k
theorem x_lstore12 {a0 a1 a2 a3 a4 a5 a6 a7 a8 a9 a10 a11 : Option Value} {tl : List (Option Value)} {b b2 : Option Value} {x : Int64} (hd : decode F.2.1.2.1 pc = .ok (.lstore 12, 2)) (hn : Nat.ble 14 F.2.1.2.2.1 = true) (hp : oc1 a11 = true) (hr : F.2.2.2.2.2.all (fun q => !(q.1 == 12) && !(q.1 + 1 == 12) && !(q.1 == 12 + 1)) = true) (k : xV F (pc + 2) (a0 :: a1 :: a2 :: a3 :: a4 :: a5 :: a6 :: a7 :: a8 :: a9 :: a10 :: a11 :: some (.long x) :: none :: tl) st n h ce sl) : xV F pc (a0 :: a1 :: a2 :: a3 :: a4 :: a5 :: a6 :: a7 :: a8 :: a9 :: a10 :: a11 :: b :: b2 :: tl) (.long x :: st) n h ce sl := y_lstore_w (i := 12) hd (Nat.le_of_ble_eq_true hn) (by simp) (fun w _ h1 => oc1_of hp w (Option.some.inj h1)) hr k
theorem x_iinc12 {a0 a1 a2 a3 a4 a5 a6 a7 a8 a9 a10 a11 : Option Value} {tl : List (Option Value)} {x : Int32} {z : Int} (v : Int32) (hd : decode F.2.1.2.1 pc = .ok (.iinc 12 z, 3)) (hv : x + Int32.ofInt z = v) (hn : Nat.ble 13 F.2.1.2.2.1 = true) (hp : oc1 a11 = true) (hr : F.2.2.2.2.2.all (fun q => !(q.1 == 12) && !(q.1 + 1 == 12)) = true) (k : xV F (pc + 3) (a0 :: a1 :: a2 :: a3 :: a4 :: a5 :: a6 :: a7 :: a8 :: a9 :: a10 :: a11 :: some (.int v) :: tl) st n h ce sl) : xV F pc (a0 :: a1 :: a2 :: a3 :: a4 :: a5 :: a6 :: a7 :: a8 :: a9 :: a10 :: a11 :: some (.int x) :: tl) st n h ce sl := y_iinc (i := 12) rfl hd hv (Nat.le_of_ble_eq_true hn) (fun w _ h1 => oc1_of hp w (Option.some.inj h1)) hr k
end XP
