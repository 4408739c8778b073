/-! ===== the heap's rules ===== -/
section XH
variable {F : vx_F} {pc : Nat} {L : List (Option Value)} {st : List Value} {n : Nat} {h : vx_H} {ce sl : Nat}
theorem HR.upd {G : vx_G} {a : Nat} {e : va_E} {H H1 : Heap} (hH : HR G n h H) (ha : a < n) (he : va_at G.2.1 vwCl (G.2.2.2 + a, cvE G e) H1) (hz : H1.size = H.size) (oq : ∀ q : Nat, q ≠ G.2.2.2 + a → H1[q]? = H[q]?) : HR G n (va_up h a e) H1 :=
  ⟨by rw [← wl_set]; exact hH.1.set (wl_D G n h) (wl_get ha) he oq, hz.trans hH.2⟩
theorem HR.lt {G : vx_G} {a : Nat} {H : Heap} (hH : HR G n h H) (ha : a < n) : G.2.2.2 + a < H.size := by rw [hH.2]; omega
theorem HR.cell {G : vx_G} {a : Nat} {H : Heap} (hH : HR G n h H) (ha : a < n) : va_at G.2.1 vwCl (G.2.2.2 + a, cvE G (h a)) H := hH.1 a _ (wl_get ha)
theorem HR.put {G : vx_G} {a k : Nat} {H0 H H1 : Heap} {locs : List Loc} (hS : va_S (fun q => G.2.2.2 ≤ q) H0 H locs) (z : H1.size = H.size) (oq : ∀ q : Nat, q ≠ G.2.2.2 + a → H1[q]? = H[q]?) : va_S (fun q => G.2.2.2 ≤ q) H0 H1 (locs ++ [⟨G.2.2.2 + a, k⟩]) := hS.put z oq (Nat.le_add_right _ _)
/-- fields -/
def xFG (own : String) (idx ci k : Nat) : Prop := ∃ (C : String) (T : u_T) (N : Nat), vwCl[ci]? = some (C, T, N) ∧ k < N ∧ Cond.fieldLink own idx (T k).1 (T k).2.1 (T k).2.2.1 ∈ lw_ok ∧ ∀ w ∈ u_ws C T N, w ∈ lw_ok
def xFP (own : String) (idx ci k : Nat) (ty : FieldType) (fin : Bool) : Prop := ∃ (C : String) (T : u_T) (N : Nat) (ty0 : Nat → FieldType), vwCl[ci]? = some (C, T, N) ∧ k < N ∧ Cond.fieldLink own idx (T k).1 (T k).2.1 (T k).2.2.1 ∈ lw_ok ∧ (∀ w ∈ u_ws C T N, w ∈ lw_ok) ∧ (∀ k, k < N → parseFieldDescriptor (T k).2.2.1 = some (ty0 k)) ∧ (∀ a, a < N → ∀ b, b < N → a ≠ b → (T a).2.1 ≠ (T b).2.1) ∧ (T k).2.2.2 = fin ∧ parseFieldDescriptor (T k).2.2.1 = some ty ∧ (fin = true → (T k).1 = own)
theorem x_getf {idx ci k : Nat} (hf : xFG F.2.1.1.cls idx ci k) {a : Nat} (ha : a < n) {fs : List Value} (he : h a = .inr (ci, fs)) {v : Value} (hv : fs[k]? = some v) (hd : decode F.2.1.2.1 pc = .ok (.getfield idx, 3))
    (kk : xV F (pc + 3) L (v :: st) n h ce sl) : xV F pc L (.ref a :: st) n h ce sl := by
  intro p e s m args below meth c X H locs ls hH hS hl
  obtain ⟨C, T, N, h1, h2, h3, h4⟩ := hf
  exact va_get (D := F.1.2.1) (cl := vwCl) (tys := vx_ty F.1) (ws := wl F.1 n h) (a := F.1.2.2.2 + a) (ref := (T k).1) X.1 X.2.1 X.2.2.2.2.2.1 h4 X.2.2.2.2.1 X.2.2.2.2.2.2.2.1 hH.1 a (fs := fs.map (rv F.1.2.2.2)) (by rw [wl_get ha, he]; rfl) h1 k h2 (X.2.2.2.2.2.1 _ h3) (fun _ h9 => h9) (v := rv F.1.2.2.2 v) (by rw [List.getElem?_map, hv]; rfl) hd (kk p e s m args below meth c X H locs ls hH hS hl)
theorem rv_set (b : Nat) (fs : List Value) (k : Nat) (v : Value) : (fs.set k v).map (rv b) = (fs.map (rv b)).set k (rv b v) := by rw [List.map_set]
theorem x_putf {idx ci k : Nat} {ty : FieldType} (hf : xFP F.2.1.1.cls idx ci k ty false) {a : Nat} (ha : a < n) {fs : List Value} (he : h a = .inr (ci, fs)) {v : Value} (hn : narrow ty v = v) (hfit : fits ty v = true) (hl0 : k < fs.length) (hd : decode F.2.1.2.1 pc = .ok (.putfield idx, 3))
    (kk : xV F (pc + 3) L st n (va_up h a (.inr (ci, fs.set k v))) ce sl) : xV F pc L (v :: .ref a :: st) n h ce sl := by
  intro p e s m args below meth c X H locs ls hH hS hl
  obtain ⟨C, T, N, ty0, hc, hk, hw, hin, hty, hnm, hfin, hd0, -⟩ := hf
  have hts := X.2.2.2.2.2.1
  have hown := X.2.2.2.2.1
  have hK := X.2.2.2.2.2.2.2.1
  have hap := va_apart (own := F.2.1.1.cls) hts hin ty0 hty hnm hK hc
  have hcell := hH.cell ha
  rw [he] at hcell
  obtain ⟨r, h1, cell, q1, q2, q3, q4⟩ := hcell
  have hr : r = (C, T, N) := Option.some.inj (h1.symm.trans hc)
  subst hr
  obtain ⟨hSl, hfc, kC, hkC, hkind⟩ := hK.1 ci _ hc
  obtain ⟨cf, kf, fi, f, hi, hsl⟩ := hSl k hk
  have hlay := hts _ (hin _ (u_in_lay hk))
  unfold u_lay at hlay
  rw [if_neg (by rw [hfin]; decide)] at hlay
  have hst := (u_facts hfc hkC (u_lays hts hin hk) hi).1
  have h6 := u_store hfc hkC hkind hlay hi hd0 (rv_narrow (b := F.1.2.2.2) hn) (rv_fits (b := F.1.2.2.2) hfit)
  refine W.putK X.1 X.2.1 (f := f) ⟨hown, hts _ hw, ⟨_, _, _, hi⟩, hst⟩ (by rw [q2]; exact h6) q1 q3 (by rw [hsl]; exact k2_hasslot (q4 k hk)) rfl rfl hd fun H' e1 e2 e3 => ?_
  rw [hsl] at e1 ⊢
  refine kk p e s m args below meth c X H' _ ls (hH.upd ha ⟨_, hc, t_OB.to (V := updV (vp_V (fs.map (rv F.1.2.2.2))) k (rv F.1.2.2.2 v)) ⟨_, e1, q2, q3, t_set q4 hap hk _⟩ (fun j _ => ?_)⟩ e2 e3) (HR.put hS e2 e3) hl
  rw [rv_set]
  exact vp_updV_set (by rw [List.length_map]; exact hl0) _ j
theorem x_putF {idx ci k : Nat} {ty : FieldType} (hf : xFP F.2.1.1.cls idx ci k ty true) {a : Nat} (ha : a < n) {fs : List Value} (he : h a = .inr (ci, fs)) {v : Value} (hini : F.2.1.1.name = "<init>") (hn : narrow ty v = v) (hfit : fits ty v = true) (hl0 : k < fs.length) (hd : decode F.2.1.2.1 pc = .ok (.putfield idx, 3))
    (kk : xV F (pc + 3) L st n (va_up h a (.inr (ci, fs.set k v))) ce sl) : xV F pc L (v :: .ref a :: st) n h ce sl := by
  intro p e s m args below meth c X H locs ls hH hS hl
  obtain ⟨C, T, N, ty0, hc, hk, hw, hin, hty, hnm, hfin, hd0, hdecl⟩ := hf
  have hts := X.2.2.2.2.2.1
  have hown := X.2.2.2.2.1
  have hK := X.2.2.2.2.2.2.2.1
  have hin2 : meth.name = "<init>" := X.2.2.2.2.2.2.2.2.2.1.trans hini
  have hap := va_apart (own := F.2.1.1.cls) hts hin ty0 hty hnm hK hc
  have hcell := hH.cell ha
  rw [he] at hcell
  obtain ⟨r, h1, cell, q1, q2, q3, q4⟩ := hcell
  have hr : r = (C, T, N) := Option.some.inj (h1.symm.trans hc)
  subst hr
  obtain ⟨hSl, hfc, kC, hkC, hkind⟩ := hK.1 ci _ hc
  obtain ⟨cf, kf, fi, f, hi, hsl⟩ := hSl k hk
  have hlay := hts _ (hin _ (u_in_lay hk))
  unfold u_lay at hlay
  rw [if_pos hfin] at hlay
  have hst := (u_facts hfc hkC (u_lays hts hin hk) hi).1
  have hcf : m.cls = cf := by
    obtain ⟨_, _, c', _, _, _, -, -, hf', -, -, -, hown2, -⟩ := Cond.laysFinal_spec hlay
    have e1 : c' = cf := by have := hi.symm.trans hf'; simp at this; exact this.1.symm
    rw [hdecl rfl] at hown2
    rw [← e1]; exact Option.some.inj (hown.symm.trans hown2)
  have h6 := u_fits hfc hkC hkind (Or.inr hlay) hi hd0 (rv_narrow (b := F.1.2.2.2) hn) (rv_fits (b := F.1.2.2.2) hfit)
  refine W.putFinK X.1 X.2.1 hown (hts _ hw) hi hst hcf hin2 (by rw [q2]; exact h6) q1 q3 (by rw [hsl]; exact k2_hasslot (q4 k hk)) rfl rfl hd fun H' e1 e2 e3 => ?_
  rw [hsl] at e1 ⊢
  refine kk p e s m args below meth c X H' _ ls (hH.upd ha ⟨_, hc, t_OB.to (V := updV (vp_V (fs.map (rv F.1.2.2.2))) k (rv F.1.2.2.2 v)) ⟨_, e1, q2, q3, t_set q4 hap hk _⟩ (fun j _ => ?_)⟩ e2 e3) (HR.put hS e2 e3) hl
  rw [rv_set]
  exact vp_updV_set (by rw [List.length_map]; exact hl0) _ j

theorem x_iald {a : Nat} (ha : a < n) {N : Nat} {f : Nat → Int32} (he : h a = .inl (0, N, .inl f)) {i : Int32} (hin : vp_in i N) (hd : decode F.2.1.2.1 pc = .ok (.iaload, 1))
    (kk : xV F (pc + 1) L (.int (f i.toNatClampNeg) :: st) n h ce sl) : xV F pc L (.int i :: .ref a :: st) n h ce sl := by
  intro p e s m args below meth c X H locs ls hH hS hl
  exact va_iald (D := F.1.2.1) (cl := vwCl) (tys := vx_ty F.1) (ws := wl F.1 n h) (a := F.1.2.2.2 + a) X.1 X.2.1 X.2.2.2.2.2.2.2.1 hH.1 a 0 (by rw [wl_get ha, he]; rfl) rfl hin hd (kk p e s m args below meth c X H locs ls hH hS hl)
theorem x_zald {a : Nat} (ha : a < n) {N : Nat} {f : Nat → Int32} (he : h a = .inl (1, N, .inl f)) {i : Int32} (hin : vp_in i N) (hd : decode F.2.1.2.1 pc = .ok (.baload, 1))
    (kk : xV F (pc + 1) L (.int (f i.toNatClampNeg) :: st) n h ce sl) : xV F pc L (.int i :: .ref a :: st) n h ce sl := by
  intro p e s m args below meth c X H locs ls hH hS hl
  exact va_zald (D := F.1.2.1) (cl := vwCl) (tys := vx_ty F.1) (ws := wl F.1 n h) (a := F.1.2.2.2 + a) X.1 X.2.1 X.2.2.2.2.2.2.2.1 hH.1 a 1 (by rw [wl_get ha, he]; rfl) rfl hin hd (kk p e s m args below meth c X H locs ls hH hS hl)
theorem x_lald {a : Nat} (ha : a < n) {N : Nat} {f : Nat → Int64} (he : h a = .inl (2, N, .inr (.inl f))) {i : Int32} (hin : vp_in i N) (hd : decode F.2.1.2.1 pc = .ok (.laload, 1))
    (kk : xV F (pc + 1) L (.long (f i.toNatClampNeg) :: st) n h ce sl) : xV F pc L (.int i :: .ref a :: st) n h ce sl := by
  intro p e s m args below meth c X H locs ls hH hS hl
  exact va_lald (D := F.1.2.1) (cl := vwCl) (tys := vx_ty F.1) (ws := wl F.1 n h) (a := F.1.2.2.2 + a) X.1 X.2.1 X.2.2.2.2.2.2.2.1 hH.1 a 2 (by rw [wl_get ha, he]; rfl) rfl hin hd (kk p e s m args below meth c X H locs ls hH hS hl)
theorem rv_rf (b : Nat) (r : Option Nat) : rv b (va_rf r) = va_rf (r.map (fun a => b + a)) := by cases r <;> rfl
theorem x_aald {t : Nat} (ht : t = 3 ∨ t = 4 ∨ t = 5 ∨ t = 6) {a : Nat} (ha : a < n) {N : Nat} {f : Nat → Option Nat} (he : h a = .inl (t, N, .inr (.inr (.inr (.inr f))))) {i : Int32} (hin : vp_in i N) (hd : decode F.2.1.2.1 pc = .ok (.aaload, 1))
    (kk : xV F (pc + 1) L (va_rf (f i.toNatClampNeg) :: st) n h ce sl) : xV F pc L (.int i :: .ref a :: st) n h ce sl := by
  intro p e s m args below meth c X H locs ls hH hS hl
  have k1 := kk p e s m args below meth c X H locs ls hH hS hl
  rw [List.map_cons, rv_rf] at k1
  have hcell := hH.cell ha
  rw [he] at hcell
  have hcell : H[F.1.2.2.2 + a]? = some (vp_cell (F.1.2.2.1 t) (N, .inr (.inr (.inr (.inr (fun i => (f i).map (fun a => F.1.2.2.2 + a))))))) := hcell
  have hlt : i.toNatClampNeg < N := Nat.not_le.mp fun q => hin (Or.inr q)
  have hK := X.2.2.2.2.2.2.2.1
  obtain ⟨ty, hty, harr⟩ : ∃ ty : FieldType, ty.isReference = true ∧ ArrOfT s (F.1.2.2.1 t) ty := by
    rcases ht with rfl | rfl | rfl | rfl
    · exact ⟨_, rfl, (hK.2 3 _ rfl).1⟩
    · exact ⟨_, rfl, (hK.2 4 _ rfl).1⟩
    · exact ⟨_, rfl, (hK.2 5 _ rfl).1⟩
    · exact ⟨_, rfl, (hK.2 6 _ rfl).1⟩
  exact W.aald (v := va_rf ((f i.toNatClampNeg).map (fun a => F.1.2.2.2 + a))) (ty := ty) X.1 X.2.1 hcell (harr N (fun j => va_rf ((f j).map (fun a => F.1.2.2.2 + a)))) hty (fun q => by cases q) (by show ¬ (i < 0 ∨ (arrV _ _ _).slots.size ≤ _); rw [arrV_size]; exact hin) (by show (arrV _ _ _).slots[_]? = _; rw [arrV_read _ _ hlt]) rfl rfl hd k1
theorem x_alen {t : Nat} (ht : t < 7) {a : Nat} (ha : a < n) {z : vp_A} (he : h a = .inl (t, z)) {v : Int32} (hv : Int32.ofNat z.1 = v) (hd : decode F.2.1.2.1 pc = .ok (.arraylength, 1))
    (kk : xV F (pc + 1) L (.int v :: st) n h ce sl) : xV F pc L (.ref a :: st) n h ce sl := by
  intro p e s m args below meth c X H locs ls hH hS hl
  have k1 := kk p e s m args below meth c X H locs ls hH hS hl
  have hz : (cvA F.1.2.2.2 z).1 = z.1 := by
    obtain ⟨N, f | f | f | f | f⟩ := z <;> rfl
  obtain ⟨ty, hty⟩ : ∃ ty : FieldType, (vx_ty F.1)[t]? = some (F.1.2.2.1 t, ty) := by
    rcases (show t = 0 ∨ t = 1 ∨ t = 2 ∨ t = 3 ∨ t = 4 ∨ t = 5 ∨ t = 6 by omega) with rfl | rfl | rfl | rfl | rfl | rfl | rfl <;> exact ⟨_, rfl⟩
  exact va_alen (D := F.1.2.1) (cl := vwCl) (tys := vx_ty F.1) (ws := wl F.1 n h) (a := F.1.2.2.2 + a) X.1 X.2.1 X.2.2.2.2.2.2.2.1 hH.1 a t (x := cvA F.1.2.2.2 z) (by rw [wl_get ha, he]; rfl) hty (by rw [hz]; exact hv) hd k1

theorem x_iast {a : Nat} (ha : a < n) {N : Nat} {f : Nat → Int32} (he : h a = .inl (0, N, .inl f)) {i : Int32} {x : Int32} (hin : vp_in i N) (hd : decode F.2.1.2.1 pc = .ok (.iastore, 1))
    (kk : xV F (pc + 1) L st n (va_up h a (.inl (0, N, .inl (upd f i.toNatClampNeg x)))) ce sl) : xV F pc L (.int x :: .int i :: .ref a :: st) n h ce sl := by
  intro p e s m args below meth c X H locs ls hH hS hl
  have hcell := hH.cell ha
  rw [he] at hcell
  have hK := X.2.2.2.2.2.2.2.1
  refine W.iast X.1 X.2.1 hcell ((hK.2 0 _ rfl).1 N (fun j => .int (f j))) (fun q => by cases q) (by show ¬ (i < 0 ∨ (arrV _ _ _).slots.size ≤ _); rw [arrV_size]; exact hin) rfl rfl hd fun H1 e1 z oq => ?_
  refine kk p e s m args below meth c X H1 _ ls (hH.upd ha ?_ z oq) (HR.put hS z oq) hl
  show H1[F.1.2.2.2 + a]? = some (vp_cell _ _)
  rw [e1]
  show some (Cell.setSlot (vp_cell _ (N, .inl f)) _ _) = some (vp_cell _ (N, .inl (upd f i.toNatClampNeg x)))
  rw [vp_cell_i, vp_cell_i, arrV_store]
  congr 2
  funext q
  by_cases hq : q = i.toNatClampNeg
  · subst hq
    simp [updV, upd]
    try rfl
  · simp [updV, upd, hq]
theorem x_zast {a : Nat} (ha : a < n) {N : Nat} {f : Nat → Int32} (he : h a = .inl (1, N, .inl f)) {i : Int32} {x : Int32} (hin : vp_in i N) (hd : decode F.2.1.2.1 pc = .ok (.bastore, 1))
    (kk : xV F (pc + 1) L st n (va_up h a (.inl (1, N, .inl (upd f i.toNatClampNeg (vp_nar .boolean x))))) ce sl) : xV F pc L (.int x :: .int i :: .ref a :: st) n h ce sl := by
  intro p e s m args below meth c X H locs ls hH hS hl
  have hcell := hH.cell ha
  rw [he] at hcell
  have hK := X.2.2.2.2.2.2.2.1
  refine W.zast X.1 X.2.1 hcell ((hK.2 1 _ rfl).1 N (fun j => .int (f j))) (fun q => by cases q) (by show ¬ (i < 0 ∨ (arrV _ _ _).slots.size ≤ _); rw [arrV_size]; exact hin) rfl rfl hd fun H1 e1 z oq => ?_
  refine kk p e s m args below meth c X H1 _ ls (hH.upd ha ?_ z oq) (HR.put hS z oq) hl
  show H1[F.1.2.2.2 + a]? = some (vp_cell _ _)
  rw [e1]
  show some (Cell.setSlot (vp_cell _ (N, .inl f)) _ _) = some (vp_cell _ (N, .inl (upd f i.toNatClampNeg (vp_nar .boolean x))))
  rw [vp_cell_i, vp_cell_i, arrV_store]
  congr 2
  funext q
  by_cases hq : q = i.toNatClampNeg
  · subst hq
    simp [updV, upd, vp_nar]
    try rfl
  · simp [updV, upd, vp_nar, hq]
theorem x_last {a : Nat} (ha : a < n) {N : Nat} {f : Nat → Int64} (he : h a = .inl (2, N, .inr (.inl f))) {i : Int32} {x : Int64} (hin : vp_in i N) (hd : decode F.2.1.2.1 pc = .ok (.lastore, 1))
    (kk : xV F (pc + 1) L st n (va_up h a (.inl (2, N, .inr (.inl (vp_updL f i.toNatClampNeg x))))) ce sl) : xV F pc L (.long x :: .int i :: .ref a :: st) n h ce sl := by
  intro p e s m args below meth c X H locs ls hH hS hl
  have hcell := hH.cell ha
  rw [he] at hcell
  have hK := X.2.2.2.2.2.2.2.1
  refine W.last X.1 X.2.1 hcell ((hK.2 2 _ rfl).1 N (fun j => .long (f j))) (fun q => by cases q) (by show ¬ (i < 0 ∨ (arrV _ _ _).slots.size ≤ _); rw [arrV_size]; exact hin) rfl rfl hd fun H1 e1 z oq => ?_
  refine kk p e s m args below meth c X H1 _ ls (hH.upd ha ?_ z oq) (HR.put hS z oq) hl
  show H1[F.1.2.2.2 + a]? = some (vp_cell _ _)
  rw [e1]
  show some (Cell.setSlot (vp_cell _ (N, .inr (.inl f))) _ _) = some (vp_cell _ (N, .inr (.inl (vp_updL f i.toNatClampNeg x))))
  rw [vp_cell_l, vp_cell_l, arrV_store]
  congr 2
  funext q
  by_cases hq : q = i.toNatClampNeg
  · subst hq
    simp [updV, vp_updL]
    try rfl
  · simp [updV, vp_updL, hq]
theorem x_aast {t ci : Nat} {C : String} {T : u_T} {M : Nat} (hc : vwCl[ci]? = some (C, T, M)) (ht : (vx_ty F.1)[t]? = some (F.1.2.2.1 t, .object C)) {a b : Nat} (ha : a < n) (hb : b < n) {N : Nat} {f : Nat → Option Nat} (he : h a = .inl (t, N, .inr (.inr (.inr (.inr f))))) {vs : List Value} (hv : h b = .inr (ci, vs)) {i : Int32} (hin : vp_in i N) (hd : decode F.2.1.2.1 pc = .ok (.aastore, 1))
    (kk : xV F (pc + 1) L st n (va_up h a (.inl (t, N, .inr (.inr (.inr (.inr (va_up f i.toNatClampNeg (some b)))))))) ce sl) : xV F pc L (.ref b :: .int i :: .ref a :: st) n h ce sl := by
  intro p e s m args below meth c X H locs ls hH hS hl
  have hcell := hH.cell ha
  rw [he] at hcell
  have hcell : H[F.1.2.2.2 + a]? = some (vp_cell (F.1.2.2.1 t) (N, .inr (.inr (.inr (.inr (fun i => (f i).map (fun a => F.1.2.2.2 + a))))))) := hcell
  have hcv := hH.cell hb
  rw [hv] at hcv
  obtain ⟨r', hr', cellV, g1, g2, g3, -⟩ := hcv
  have hK := X.2.2.2.2.2.2.2.1
  have hlt : i.toNatClampNeg < N := Nat.not_le.mp fun q => hin (Or.inr q)
  have h0 : ¬ i < 0 := fun q => hin (Or.inl q)
  have hcls := (hK.1 ci _ hc).2
  obtain ⟨kA, comp, k1, k2, k3, -⟩ := (hK.2 t _ ht).2
  have hcomp : comp = F.1.2.1.1 ci := Option.some.inj (k3.symm.trans hcls.1)
  subst hcomp
  obtain ⟨kC, hkC, -⟩ := hcls.2
  refine W.aast X.1 X.2.1 hcell (fun q h => by cases h) (fun h => by cases h) k1 k2 rfl hkC ⟨h0, by show _ < (arrV _ _ _).slots.size; rw [arrV_size]; exact hlt⟩ g1 (fun q h => by rw [g3] at h; cases h) (by rw [g2]; exact hkC) (by rw [g2]; exact va_assign hcls) rfl rfl hd fun H1 e1 z oq => ?_
  refine kk p e s m args below meth c X H1 _ ls (hH.upd ha ?_ z oq) (HR.put hS z oq) hl
  show H1[F.1.2.2.2 + a]? = some (vp_cell _ _)
  rw [e1]
  show some (Cell.setSlot (vp_cell _ (N, .inr (.inr (.inr (.inr (fun i => (f i).map (fun a => F.1.2.2.2 + a))))))) _ _) = some (vp_cell _ (N, .inr (.inr (.inr (.inr (fun j => ((va_up f i.toNatClampNeg (some b)) j).map (fun a => F.1.2.2.2 + a)))))))
  rw [vp_cell_q, vp_cell_q, arrV_store]
  congr 2
  funext q
  by_cases hq : q = i.toNatClampNeg
  · subst hq
    simp [updV, va_up, va_rf]
  · simp [updV, va_up, hq]
theorem x_aastN {t : Nat} {C : String} (ht : (vx_ty F.1)[t]? = some (F.1.2.2.1 t, .object C)) {a : Nat} (ha : a < n) {N : Nat} {f : Nat → Option Nat} (he : h a = .inl (t, N, .inr (.inr (.inr (.inr f))))) {i : Int32} (hin : vp_in i N) (hd : decode F.2.1.2.1 pc = .ok (.aastore, 1))
    (kk : xV F (pc + 1) L st n (va_up h a (.inl (t, N, .inr (.inr (.inr (.inr (va_up f i.toNatClampNeg none))))))) ce sl) : xV F pc L (.null :: .int i :: .ref a :: st) n h ce sl := by
  intro p e s m args below meth c X H locs ls hH hS hl
  have hcell := hH.cell ha
  rw [he] at hcell
  have hcell : H[F.1.2.2.2 + a]? = some (vp_cell (F.1.2.2.1 t) (N, .inr (.inr (.inr (.inr (fun i => (f i).map (fun a => F.1.2.2.2 + a))))))) := hcell
  have hK := X.2.2.2.2.2.2.2.1
  refine va_WaastN (C := C) X.1 X.2.1 hcell ((hK.2 t _ ht).1 N (fun j => va_rf ((f j).map (fun a => F.1.2.2.2 + a)))) (fun h => by cases h) (by show ¬ (i < 0 ∨ (arrV _ _ _).slots.size ≤ _); rw [arrV_size]; exact hin) rfl rfl hd fun H1 e1 z oq => ?_
  refine kk p e s m args below meth c X H1 _ ls (hH.upd ha ?_ z oq) (HR.put hS z oq) hl
  show H1[F.1.2.2.2 + a]? = some (vp_cell _ _)
  rw [e1]
  show some (Cell.setSlot (vp_cell _ (N, .inr (.inr (.inr (.inr (fun i => (f i).map (fun a => F.1.2.2.2 + a))))))) _ _) = some (vp_cell _ (N, .inr (.inr (.inr (.inr (fun j => ((va_up f i.toNatClampNeg none) j).map (fun a => F.1.2.2.2 + a)))))))
  rw [vp_cell_q, vp_cell_q, arrV_store]
  congr 2
  funext q
  by_cases hq : q = i.toNatClampNeg
  · subst hq
    simp [updV, va_up, va_rf]
  · simp [updV, va_up, hq]
end XH

