/-! ===== contracts over xV, and the rules of the heap and of calls ===== -/
def vx_ws (mt : vx_M) : List Cond := .code mt.1 mt.2.1 mt.2.2.1 mt.2.2.2 :: lw_ok
def vx_rm (d mc ms : Nat) : Room := { frames := d, cells := mc, slots := ms, locals := 64 * d }
def vx_Qc (G : vx_G) (Q : Option Value → Nat → vx_H → Prop) : Array Value → State → Outcome → State → Prop := fun _ st oc t => (∃ (v : Option Value) (n : Nat) (h : vx_H), oc = .returned (v.map (rv G.2.2.2)) ∧ Q v n h ∧ HR G n h t.heap) ∧ va_F (fun q => G.2.2.2 ≤ q) st t
def vx_Pc (G : vx_G) (av : List Value) (n : Nat) (h : vx_H) : Array Value → State → Prop := va_Pc (av.map (rv G.2.2.2)) (fun U => HR G n h U.heap ∧ va_K G.2.1 vwCl (vx_ty G) U ∧ xN U)
/-- the contract of a method: from these arguments and this heap, at this depth, it ends with Q -/
def xK (G : vx_G) (mt : vx_M) (d : Nat) (av : List Value) (n : Nat) (h : vx_H) (mc ms : Nat) (Q : Option Value → Nat → vx_H → Prop) : Prop :=
  Met G.1 mt.1 (vx_ws mt) (vx_rm d mc ms) (vx_Pc G av n h) (vx_Qc G Q) mc ms (fun q => G.2.2.2 ≤ q)
theorem vx_blind (G : vx_G) (av : List Value) (n : Nat) (h : vx_H) : FrameBlind (vx_Pc G av n h) := by
  intro a U g mk q
  obtain ⟨q0, q1, q2, q3⟩ := q
  exact ⟨q0, q1, va_K.moved (u := U) (U := U.calling g mk a) (Vm.Alike.refl U.vm) q2, q3.blind⟩
/-- a method's own frame -/
abbrev mF (G : vx_G) (mt : vx_M) (d mc ms : Nat) (Q : Option Value → Nat → vx_H → Prop) : vx_F :=
  (G, mt, vx_rm d mc ms, fun below args s => MQ below (vx_Qc G Q) args s mc ms (fun q => G.2.2.2 ≤ q), fun _ => True, [])
/-- the locals at a method's entry -/
def lvI : List Value → List (Option Value)
  | [] => []
  | v :: vs => if v.category = 2 then some v :: none :: lvI vs else some v :: lvI vs
theorem lvI_args (b : Nat) : ∀ (i : Nat) (vs : List Value) (k : Nat), lvE b i (lvI vs ++ List.replicate k none) = lv_args i (vs.map (rv b))
  | i, [], k => by
    show lvE b i (List.replicate k none) = []
    induction k generalizing i with
    | zero => rfl
    | succ k ih => exact ih (i + 1)
  | i, v :: vs, k => by
    show lvE b i ((if v.category = 2 then some v :: none :: lvI vs else some v :: lvI vs) ++ _) = (i, rv b v) :: lv_args (if (rv b v).category = 2 then i + 2 else i + 1) (vs.map (rv b))
    rw [rv_cat]
    by_cases hc : v.category = 2
    · rw [if_pos hc, if_pos hc]
      exact congrArg _ (lvI_args b (i + 2) vs k)
    · rw [if_neg hc, if_neg hc]
      exact congrArg _ (lvI_args b (i + 1) vs k)
theorem lg_rv (b : Nat) : ∀ vs : List Value, (lg_sl (vs.map (rv b))).length = (lvI vs).length
  | [] => rfl
  | v :: vs => by
    have ih := lg_rv b vs
    simp only [lg_sl] at ih
    by_cases hc : v.category = 2
    · simp [lg_sl, lvI, rv_cat, hc, ih]
    · simp [lg_sl, lvI, rv_cat, hc, ih]
theorem xK.ofV {G : vx_G} {mt : vx_M} {d : Nat} {av : List Value} {n : Nat} {h : vx_H} {mc ms : Nat} {Q : Option Value → Nat → vx_H → Prop} (hp : plainName mt.1.cls = true) (ha : (lvI av).length ≤ mt.2.2.1)
    (k : xV (mF G mt d mc ms Q) 0 (lvI av ++ List.replicate (mt.2.2.1 - (lvI av).length) none) [] n h 0 0) : xK G mt d av n h mc ms Q := by
  refine Met.ofW (cc := mt.2.1) (maxL := mt.2.2.1) (ret := mt.2.2.2) hp rfl ?_
  intro p e s m args below meth c s₁ B hml hv
  obtain ⟨rfl, hH, hK, hN⟩ := hv
  have hts := atoms_spec (ws := vx_ws mt) B.pre
  have hown : s.vm.findClass mt.1.cls = some m.cls := findClass_of_methodNamed B.named
  have hl := lv_entry (av.map (rv G.2.2.2)) (n := mt.2.2.1) (by rw [lg_rv]; exact ha)
  rw [lg_entry_eq]
  refine k p e s m _ below meth c ⟨B.exec, B.bytes, B.returns, hml, hown, fun w hw => hts w (List.mem_cons_of_mem _ hw), B.notSynchronized, hK, ?_, (name_of_methodNamed B.named B.method).1, hN, trivial⟩ s.heap [] _ hH va_S.rf ?_
  · rw [hH.2]; exact Nat.le_add_right _ _
  · show lv_has _ mt.2.2.1 ([] ++ lvE G.2.2.2 0 (lvI av ++ _))
    rw [lvI_args]
    exact hl
section XH
variable {F : vx_F} {pc : Nat} {L : List (Option Value)} {st : List Value} {n : Nat} {h : vx_H} {ce sl : Nat}
theorem rv_narrow {b : Nat} {ty : FieldType} {v : Value} (hn : narrow ty v = v) : narrow ty (rv b v) = rv b v := by
  cases v with
  | ref a => cases ty <;> rfl
  | _ => exact hn
theorem rv_fits {b : Nat} {ty : FieldType} {v : Value} (hn : fits ty v = true) : fits ty (rv b v) = true := by
  cases v with
  | ref a => cases ty <;> first | exact hn | simp [fits] at hn
  | _ => exact hn
end XH
