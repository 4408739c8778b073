/-! ===== the desk's methods, 18: Sets: finish, extend, find ===== -/
def dS (d : mS) (L : List Nat) : Prop := d.1 85 0 = nI L.length ∧ L.length ≤ 5000 ∧ ∀ k, k < L.length → d.1 76 k = nI (L.getD k 0)
def exR (d e : mS) : Prop := ∀ j, j ≠ 76 → j ≠ 85 → e.1 j = d.1 j
def nuD (d : mS) (c : Nat) : Nat := nv (d.1 77 c)
def amD (d : mS) (c : Nat) : Int := (d.1 78 c).toInt
def fS (d : mS) (z a : Nat) (t : List Nat) : Nat := z * 268435456 + pkA a (t.map (nuD d))
abbrev cmD (d : mS) (K E l c : Nat) (o : Int) : List (List Nat) := cm (fun _ => true) (amD d) K (E : Int) l c o
/-- what the search rests on -/
abbrev fxD (d : mS) (K E z : Nat) : Prop := (d.1 81 0 = nI K ∧ K ≤ 80) ∧ (d.1 83 0 = nI E ∧ E ≤ 10000) ∧ (d.1 84 0 = nI z ∧ z ≤ 4) ∧ ∀ c, c < K → (d.1 77 c = nI (nuD d c) ∧ nuD d c < 128) ∧ amB (d.1 78 c) ∧ (amB (d.1 79 c) ∧ amB (d.1 80 c)) ∧ ∀ y, c ≤ y → y < K → d.1 79 c ≤ d.1 78 y ∧ d.1 78 y ≤ d.1 80 c
theorem exR_fx {d e : mS} {K E z : Nat} (h : exR d e) (hf : fxD d K E z) : fxD e K E z := by
  unfold fxD nuD
  rw [h 81 (by decide) (by decide), h 83 (by decide) (by decide), h 84 (by decide) (by decide), h 77 (by decide) (by decide), h 78 (by decide) (by decide), h 79 (by decide) (by decide), h 80 (by decide) (by decide)]
  exact hf
theorem exR_fS {d e : mS} (h : exR d e) (z a : Nat) : fS e z a = fS d z a := by unfold fS nuD; rw [h 77 (by decide) (by decide)]
theorem exR_am {d e : mS} (h : exR d e) : amD e = amD d := by unfold amD; rw [h 78 (by decide) (by decide)]
theorem exR_t {d e f : mS} (h : exR d e) (g : exR e f) : exR d f := fun j a b => (g j a b).trans (h j a b)
theorem gd_l {α : Type} {L : List α} {x d0 : α} {k : Nat} (h : k < L.length) : (L ++ [x]).getD k d0 = L.getD k d0 := by
  simp [List.getD, List.getElem?_append_left h]
theorem gd_r {α : Type} {L : List α} {x d0 : α} : (L ++ [x]).getD L.length d0 = x := by
  simp [List.getD]
theorem dS_push {d : mS} {L : List Nat} {x : Nat} (h : dS d L) (hl : L.length < 5000) : dS (mset (mset d 76 L.length (nI x)) 85 0 (nI (L.length + 1))) (L ++ [x]) := by
  refine ⟨by rw [mset_at, List.length_append, List.length_singleton], by rw [List.length_append, List.length_singleton]; omega, fun k hk => ?_⟩
  rw [List.length_append, List.length_singleton] at hk
  rw [mset_ne (by decide)]
  rcases Nat.lt_or_ge k L.length with q | q
  · rw [mset_off (by omega), h.2.2 k q]
    rw [gd_l q]
  · have : k = L.length := by omega
    subst this
    rw [mset_at, gd_r]
theorem abs_I {x : Int32} {E : Nat} (hE : E ≤ 10000) (h1 : -100000000 ≤ x.toInt) (h2 : x.toInt ≤ 100000000) : (if 0 ≤ x then x else 0 - x) ≤ nI E ↔ (-(E : Int) ≤ x.toInt ∧ x.toInt ≤ (E : Int)) := by
  have e0 : ((0 : Int32)).toInt = 0 := by decide
  have eE : (nI E).toInt = (E : Int) := nI_T E (by omega)
  by_cases q : 0 ≤ x
  · have q' := t_le.mp q
    rw [if_pos q, t_le, eE]; omega
  · have q' : x.toInt < 0 := by have := t_lt.mp (iNE.mp q); omega
    rw [if_neg q, t_le, eE, t_sub (by omega) (by omega)]; omega
theorem pk_val {z a x : Nat} (hz : z ≤ 4) (ha : a < 2097152) (hx : x < 128) : ((nI z <<< (nI 28 &&& 31)) ||| (nI a <<< (nI 7 &&& 31))) ||| nI x = nI (z * 268435456 + (a * 128 + x)) := by
  have e28 : (2 : Nat) ^ 28 = 268435456 := by decide
  have e7 : (2 : Nat) ^ 7 = 128 := by decide
  rw [sh_l (a := z) (j := 28) (by decide) (by rw [e28]; omega), sh_l (a := a) (j := 7) (by decide) (by rw [e7]; omega), Nat.mul_comm z, fa_or_sum (k := 28) z (by rw [e7, e28]; omega), show 2 ^ 28 * z + a * 2 ^ 7 = 2 ^ 7 * (2097152 * z + a) by rw [e28, e7]; omega, fa_or_sum (k := 7) _ (by rw [e7]; omega)]
  congr 1
  rw [e7]; omega
theorem pk_acc {a x : Nat} (ha : a < 2097152) (hx : x < 128) : (nI a <<< (nI 7 &&& 31)) ||| nI x = nI (a * 128 + x) := by
  have e7 : (2 : Nat) ^ 7 = 128 := by decide
  rw [sh_l (a := a) (j := 7) (by decide) (by rw [e7]; omega), Nat.mul_comm a, fa_or_sum (k := 7) a (by rw [e7]; omega)]
/-- one step of finish -/
theorem cm1 {d : mS} {K E c z a : Nat} {o : Int} (hK : K ≤ 80) (hc : c < K) : (cmD d K E 1 c o).map (fS d z a) = (if -(E : Int) ≤ o - amD d c ∧ o - amD d c ≤ (E : Int) then [z * 268435456 + (a * 128 + nuD d c)] else []) ++ (cmD d K E 1 (c + 1) o).map (fS d z a) := by
  unfold cmD
  rw [cm_yes (l := 0) hK hc rfl, List.map_append]
  congr 1
  show ((if -(E : Int) ≤ o - amD d c ∧ o - amD d c ≤ (E : Int) then [[]] else [] : List (List Nat)).map (fun t => c :: t)).map (fS d z a) = _
  by_cases q : -(E : Int) ≤ o - amD d c ∧ o - amD d c ≤ (E : Int)
  · rw [if_pos q, if_pos q]; rfl
  · rw [if_neg q, if_neg q]; rfl
theorem cmN {d : mS} {K E l c z a : Nat} {o : Int} (hK : K ≤ 80) (hc : c < K) : (cmD d K E (l + 1) c o).map (fS d z a) = (cmD d K E l (c + 1) (o - amD d c)).map (fS d z (a * 128 + nuD d c)) ++ (cmD d K E (l + 1) (c + 1) o).map (fS d z a) := by
  unfold cmD
  rw [cm_yes hK hc rfl, List.map_append, List.map_map]
  rfl

set_option maxHeartbeats 4000000 in
theorem kd_finish (G : vx_G) (d m : mS) (K E z : Nat) (hf : fxD d K E z) (L : List Nat) (hS : dS d L) (c0 a : Nat) (o : Int32) (hc0 : c0 ≤ 81) (ha : a < 2097152) (ho : -90000000 ≤ o.toInt ∧ o.toInt ≤ 90000000) : xK G M_X7_finish 1 [(.ref 202), (.int (nI (c0))), (.int o), (.int (nI (a)))] NT (hp (dk d) m) 0 0 (QV (fun n' h' => n' = NT ∧ ∃ e, h' = hp (dk e) m ∧ exR d e ∧ dS e (ap L ((cmD d K E 1 c0 o.toInt).map (fS d z a))))) := by
  have hK := hf.1.2
  have lp : ∀ (n_ : Nat) (c : Nat) (e : mS) (L2 : List Nat), c ≤ 81 → 81 + 1 ≤ c + n_ → (exR d e) → (dS e L2) → (ap L ((cmD d K E 1 c0 o.toInt).map (fS d z a)) = ap L2 ((cmD d K E 1 c o.toInt).map (fS d z a))) → xV (mF G M_X7_finish 1 0 0 (QV (fun n' h' => n' = NT ∧ ∃ e, h' = hp (dk e) m ∧ exR d e ∧ dS e (ap L ((cmD d K E 1 c0 o.toInt).map (fS d z a)))))) 3 [some (.ref 202), some (.int (nI (c0))), some (.int o), some (.int (nI (a))), some (.int (nI (c)))] [] NT (hp (dk e) m) 0 0 := by
    intro n_
    induction n_ with
    | zero => intro c e L2 hi_ hn_; omega
    | succ n_ ih =>
      intro c e L2 hi_ hn_ hx hS2 hA
      have k : ∀ j, j ≠ 76 → j ≠ 85 → e.1 j = d.1 j := hx
      refine x_iload4 dX7_finish_3 ?_
      refine x_aload0 dX7_finish_5 ?_
      refine go202_5 fgX7_27 dX7_finish_6 ?_
      refine xV.toi (nI (K)) ((by rw [k 81 (by decide) (by decide)]; exact hf.1.1)) ?_
      refine n_icmp_ge 86 dX7_finish_9 (by decide) (by omega) (by omega) (fun c9 => ?_) (fun c9 => ?_)
      · refine x_vret dX7_finish_86 rfl ?_ (Nat.zero_le _) (Nat.zero_le _)
        refine ⟨rfl, _, rfl, hx, ?_⟩
        rw [hA]
        by_cases hc : K ≤ c
        · rw [show cmD d K E 1 c o.toInt = [] from cm_out hc, List.map_nil, ap_nil hS2.2.1]; exact hS2
        · rw [ap_full (by have := hS2.2.1; omega)]; exact hS2
      · refine x_aload0 dX7_finish_12 ?_
        refine go202_9 fgX7_40 dX7_finish_13 ?_
        refine xV.toi (nI (L2.length)) (hS2.1) ?_
        refine x_sipush (nI 5000) dX7_finish_16 (by decide) ?_
        refine n_icmp_ge 86 dX7_finish_19 (by decide) (by have := hS2.2.1; omega) (by omega) (fun c19 => ?_) (fun c19 => ?_)
        · refine x_vret dX7_finish_86 rfl ?_ (Nat.zero_le _) (Nat.zero_le _)
          refine ⟨rfl, _, rfl, hx, ?_⟩
          rw [hA]
          by_cases hc : K ≤ c
          · rw [show cmD d K E 1 c o.toInt = [] from cm_out hc, List.map_nil, ap_nil hS2.2.1]; exact hS2
          · rw [ap_full (by have := hS2.2.1; omega)]; exact hS2
        · obtain ⟨⟨f1, f2⟩, f3, _⟩ := hf.2.2.2 c (by omega)
          have st := cm1 (d := d) (E := E) (z := z) (a := a) (o := o.toInt) hf.1.2 (show c < K by omega)
          have hE := hf.2.1.2
          have hz := hf.2.2.1.2
          refine x_iload2 dX7_finish_22 ?_
          refine x_aload0 dX7_finish_23 ?_
          refine go202_2 fgX7_18 dX7_finish_24 ?_
          refine x_iload4 dX7_finish_27 ?_
          refine la205 (c) rfl (by omega) dX7_finish_29 ?_
          refine xV.toi (d.1 78 c) ((by rw [k 78 (by decide) (by decide)])) ?_
          refine x_isub dX7_finish_30 ?_
          refine x_abs mmX7_75 (Nat.le_of_ble_eq_true rfl) (Nat.le_of_ble_eq_true rfl) (Nat.le_of_ble_eq_true rfl) (Nat.le_of_ble_eq_true rfl) dX7_finish_31 ?_
          refine x_aload0 dX7_finish_34 ?_
          refine go202_7 fgX7_34 dX7_finish_35 ?_
          refine xV.toi (nI E) ((by rw [k 83 (by decide) (by decide)]; exact hf.2.1.1)) ?_
          refine x_icmp_gt 80 dX7_finish_38 (by decide) (fun c38 => ?_) (fun c38 => ?_)
          · have nq : ¬ (-(E : Int) ≤ o.toInt - amD d c ∧ o.toInt - amD d c ≤ (E : Int)) := fun q => absurd ((abs_I hE (by rw [t_sub (by omega) (by omega)]; omega) (by rw [t_sub (by omega) (by omega)]; omega)).mpr (by rw [t_sub (by omega) (by omega)]; exact q)) (iNE.mpr c38)
            rw [if_neg nq, List.nil_append] at st
            refine x_iinc4 (nI (c + 1)) dX7_finish_80 (nI_add c 1) rfl rfl rfl ?_
            refine x_goto 3 dX7_finish_83 (by decide) ?_
            first | exact ih (c + 1) _ _ (by omega) (by omega) (fun j a b => by rw [mset_ne b, mset_ne a]; exact k j a b) sp (by rw [hA, st, ← ap_ap, ap_one (by omega)]) | exact ih (c + 1) _ _ (by omega) (by omega) hx hS2 (by rw [hA, st])
          · have yq : -(E : Int) ≤ o.toInt - amD d c ∧ o.toInt - amD d c ≤ (E : Int) := by
              have w := (abs_I hE (x := o - d.1 78 c) (by rw [t_sub (by omega) (by omega)]; omega) (by rw [t_sub (by omega) (by omega)]; omega)).mp (iNL.mp c38)
              rw [t_sub (by omega) (by omega)] at w
              exact w
            rw [if_pos yq] at st
            have sp := dS_push (x := z * 268435456 + (a * 128 + nuD d c)) hS2 (by omega)
            refine x_aload0 dX7_finish_41 ?_
            refine go202_0 fgX7_9 dX7_finish_42 ?_
            refine x_aload0 dX7_finish_45 ?_
            refine go202_9 fgX7_40 dX7_finish_46 ?_
            refine xV.toi (nI (L2.length)) (hS2.1) ?_
            refine x_aload0 dX7_finish_49 ?_
            refine go202_8 fgX7_37 dX7_finish_50 ?_
            refine xV.toi (nI (z)) ((by rw [k 84 (by decide) (by decide)]; exact hf.2.2.1.1)) ?_
            refine x_bipush (nI 28) dX7_finish_53 (by decide) ?_
            refine x_ishl dX7_finish_55 ?_
            refine x_iload3 dX7_finish_56 ?_
            refine x_bipush (nI 7) dX7_finish_57 (by decide) ?_
            refine x_ishl dX7_finish_59 ?_
            refine x_ior dX7_finish_60 ?_
            refine x_aload0 dX7_finish_61 ?_
            refine go202_1 fgX7_15 dX7_finish_62 ?_
            refine x_iload4 dX7_finish_65 ?_
            refine la204 (c) rfl (by omega) dX7_finish_67 ?_
            refine xV.toi (nI (nuD d c)) ((by rw [k 77 (by decide) (by decide)]; exact f1)) ?_
            refine x_ior dX7_finish_68 ?_
            refine xV.toi (nI (z * 268435456 + (a * 128 + nuD d c))) (pk_val hz ha f2) ?_
            refine sa203 (L2.length) rfl (by omega) dX7_finish_69 ?_
            refine x_aload0 dX7_finish_70 ?_
            refine x_dup dX7_finish_71 rfl ?_
            refine go202_9 fgX7_40 dX7_finish_72 ?_
            refine xV.toi (nI (L2.length)) ((by rw [mset_ne (by decide)]; exact hS2.1)) ?_
            refine x_iconst (nI 1) dX7_finish_75 (by decide) ?_
            refine n_iadd dX7_finish_76 ?_
            refine po202_9 fpX7_40 dX7_finish_77 ?_
            refine x_iinc4 (nI (c + 1)) dX7_finish_80 (nI_add c 1) rfl rfl rfl ?_
            refine x_goto 3 dX7_finish_83 (by decide) ?_
            first | exact ih (c + 1) _ _ (by omega) (by omega) (fun j a b => by rw [mset_ne b, mset_ne a]; exact k j a b) sp (by rw [hA, st, ← ap_ap, ap_one (by omega)]) | exact ih (c + 1) _ _ (by omega) (by omega) hx hS2 (by rw [hA, st])
  refine xK.ofV (by decide) (Nat.le_of_ble_eq_true rfl) ?_
  refine xV.lveq (L' := [some (.ref 202), some (.int (nI (c0))), some (.int o), some (.int (nI (a))), none]) rfl ?_
  refine x_iload1 dX7_finish_0 ?_
  refine x_istore4 dX7_finish_1 rfl rfl rfl ?_
  exact lp 82 c0 d L hc0 (by omega) (fun _ _ _ => rfl) hS rfl

set_option maxHeartbeats 4000000 in
theorem kd_extend1 (G : vx_G) (d m : mS) (K E z : Nat) (hf : fxD d K E z) (L : List Nat) (hS : dS d L) (c0 a : Nat) (o : Int32) (hc0 : c0 ≤ 81) (ha : a < 2097152) (ho : -90000000 ≤ o.toInt ∧ o.toInt ≤ 90000000) : xK G M_X7_extend 2 [(.ref 202), (.int (nI (c0))), (.int (nI (1))), (.int o), (.int (nI (a)))] NT (hp (dk d) m) 0 0 (QV (fun n' h' => n' = NT ∧ ∃ e, h' = hp (dk e) m ∧ exR d e ∧ dS e (ap L ((cmD d K E 1 c0 o.toInt).map (fS d z a))))) := by
  refine xK.ofV (by decide) (Nat.le_of_ble_eq_true rfl) ?_
  refine xV.lveq (L' := [some (.ref 202), some (.int (nI (c0))), some (.int (nI (1))), some (.int o), some (.int (nI (a))), none]) rfl ?_
  refine x_iload2 dX7_extend_0 ?_
  refine x_iconst (nI 1) dX7_extend_1 (by decide) ?_
  refine n_icmp_gt 14 dX7_extend_2 (by decide) (by omega) (by omega) (fun c2 => absurd c2 (by omega)) (fun c2 => ?_)
  refine x_aload0 dX7_extend_5 ?_
  refine x_iload1 dX7_extend_6 ?_
  refine x_iload3 dX7_extend_7 ?_
  refine x_iload4 dX7_extend_8 ?_
  refine x_callV3v mvX7_95 (kd_finish G d m K E z hf L hS c0 a o hc0 ha ho) (show (202 : Nat) < NT by decide) (hd_at (a := 202) (by decide) rfl) (xRoom.of rfl) (Nat.le_of_ble_eq_true rfl) dX7_extend_10 (fun n_ h_ hq => ?_)
  obtain ⟨rfl, e, rfl, h1, h2⟩ := hq
  refine x_vret dX7_extend_13 rfl ?_ (Nat.zero_le _) (Nat.zero_le _)
  exact ⟨rfl, _, rfl, h1, h2⟩

theorem mul_I {l : Nat} {v : Int32} (hl : l ≤ 4) (hv : amB v) : (nI l * v).toInt = (l : Int) * v.toInt := by
  have e := zI_mul (l : Int) v.toInt
  rw [zI_n, ← zI_of] at e
  rw [e]
  have h1 : -1000000 ≤ v.toInt := hv.1
  have h2 : v.toInt ≤ 1000000 := hv.2
  rcases (show l = 0 ∨ l = 1 ∨ l = 2 ∨ l = 3 ∨ l = 4 by omega) with q | q | q | q | q <;> subst q <;> exact zI_T (by omega) (by omega)
theorem cr_I {d : mS} {K E z l c : Nat} {o : Int32} (hf : fxD d K E z) (hl : l ≤ 4) (hc : c < K) : crD d c l o ↔ ((l : Int) * (d.1 79 c).toInt - (E : Int) ≤ o.toInt ∧ o.toInt ≤ (l : Int) * (d.1 80 c).toInt + (E : Int)) := by
  obtain ⟨_, _, ⟨a1, a2⟩, _⟩ := hf.2.2.2 c hc
  have hE := hf.2.1.2
  have eE : (nI E).toInt = (E : Int) := nI_T E (by omega)
  have m1 := mul_I hl a1
  have m2 := mul_I hl a2
  have b1 : -1000000 ≤ (d.1 79 c).toInt := a1.1
  have b2 : (d.1 79 c).toInt ≤ 1000000 := a1.2
  have b3 : -1000000 ≤ (d.1 80 c).toInt := a2.1
  have b4 : (d.1 80 c).toInt ≤ 1000000 := a2.2
  unfold crD
  rw [hf.2.1.1, t_le, t_le]
  have bb : -4000000 ≤ (nI l * d.1 79 c).toInt ∧ (nI l * d.1 79 c).toInt ≤ 4000000 ∧ -4000000 ≤ (nI l * d.1 80 c).toInt ∧ (nI l * d.1 80 c).toInt ≤ 4000000 := by
    rw [m1, m2]
    rcases (show l = 0 ∨ l = 1 ∨ l = 2 ∨ l = 3 ∨ l = 4 by omega) with q | q | q | q | q <;> subst q <;> omega
  rw [t_sub (by omega) (by omega), t_add (by omega) (by omega), eE, m1, m2]
theorem ex_far {d : mS} {K E z l c : Nat} {o : Int32} (hf : fxD d K E z) (hl : l ≤ 4) (hc : c < K) (h : ¬ crD d c l o) : cmD d K E l c o.toInt = [] := by
  obtain ⟨_, _, _, a3⟩ := hf.2.2.2 c hc
  exact cm_far hf.1.2 (lo := (d.1 79 c).toInt) (hi := (d.1 80 c).toInt) (fun x h1 h2 => ⟨t_le.mp (a3 x h1 h2).1, t_le.mp (a3 x h1 h2).2⟩) (fun q => h ((cr_I hf hl hc).mpr q))
/-- how far the rest can be, and how long the lines told so far -/
def rB (l : Nat) (o : Int32) : Prop := -1000000 * (5 - (l : Int)) ≤ o.toInt ∧ o.toInt ≤ 1000000 * (5 - (l : Int))

theorem ex_end1 {e : mS} {L2 : List Nat} {A : List Nat} {g : List Nat → Nat} {C : List (List Nat)} (hA : A = ap L2 (C.map g)) (hS : dS e L2) (hc : C = []) : dS e A := by
  rw [hA, hc, List.map_nil, ap_nil hS.2.1]; exact hS
theorem ac_le (l : Nat) : 128 ^ (3 - (l + 1)) ≤ 2097152 := by
  have := Nat.pow_le_pow_right (n := 128) (by decide) (show 3 - (l + 1) ≤ 3 by omega)
  have e : (128 : Nat) ^ 3 = 2097152 := by decide
  omega
theorem ac_next {l a x : Nat} (hl : l + 2 ≤ 4) (ha : a < 128 ^ (3 - (l + 1))) (hx : x < 128) : a * 128 + x < 128 ^ (3 - l) := by
  rw [show 3 - l = (3 - (l + 1)) + 1 by omega, Nat.pow_succ]
  omega
theorem rB_next {l : Nat} {o v : Int32} (ho : rB (l + 1) o) (h1 : -1000000 ≤ v.toInt) (h2 : v.toInt ≤ 1000000) : rB l (o - v) := by
  unfold rB at ho ⊢
  rw [t_sub (by omega) (by omega)]
  omega

set_option maxHeartbeats 4000000 in
theorem kd_extendS (G : vx_G) (d m : mS) (l : Nat) (hl : l + 2 ≤ 4) (K E z : Nat) (hf : fxD d K E z) (L : List Nat) (hS : dS d L) (ihl : ∀ (d2 : mS) (L2 : List Nat) (c2 a2 : Nat) (o2 : Int32), fxD d2 K E z → dS d2 L2 → c2 ≤ 81 → a2 < 128 ^ (3 - l) → rB l o2 → xK G M_X7_extend (l + 2) [.ref 202, .int (nI c2), .int (nI (l + 1)), .int o2, .int (nI a2)] NT (hp (dk d2) m) 0 0 (QV (fun n' h' => n' = NT ∧ ∃ e, h' = hp (dk e) m ∧ exR d2 e ∧ dS e (ap L2 ((cmD d2 K E (l + 1) c2 o2.toInt).map (fS d2 z a2)))))) (c0 a : Nat) (o : Int32) (hc0 : c0 ≤ 81) (ha : a < 128 ^ (3 - (l + 1))) (ho : rB (l + 1) o) : xK G M_X7_extend (l + 3) [(.ref 202), (.int (nI (c0))), (.int (nI (l + 2))), (.int o), (.int (nI (a)))] NT (hp (dk d) m) 0 0 (QV (fun n' h' => n' = NT ∧ ∃ e, h' = hp (dk e) m ∧ exR d e ∧ dS e (ap L ((cmD d K E (l + 2) c0 o.toInt).map (fS d z a))))) := by
  have hK := hf.1.2
  have lp : ∀ (n_ : Nat) (c : Nat) (e : mS) (L2 : List Nat), c ≤ 81 → 81 + 1 ≤ c + n_ → (exR d e) → (dS e L2) → (ap L ((cmD d K E (l + 2) c0 o.toInt).map (fS d z a)) = ap L2 ((cmD d K E (l + 2) c o.toInt).map (fS d z a))) → xV (mF G M_X7_extend (l + 3) 0 0 (QV (fun n' h' => n' = NT ∧ ∃ e, h' = hp (dk e) m ∧ exR d e ∧ dS e (ap L ((cmD d K E (l + 2) c0 o.toInt).map (fS d z a)))))) 17 [some (.ref 202), some (.int (nI (c0))), some (.int (nI (l + 2))), some (.int o), some (.int (nI (a))), some (.int (nI (c)))] [] NT (hp (dk e) m) 0 0 := by
    intro n_
    induction n_ with
    | zero => intro c e L2 hi_ hn_; omega
    | succ n_ ih =>
      intro c e L2 hi_ hn_ hx hS2 hA
      have k : ∀ j, j ≠ 76 → j ≠ 85 → e.1 j = d.1 j := hx
      refine x_iload5 dX7_extend_17 ?_
      refine x_iload2 dX7_extend_19 ?_
      refine n_iadd dX7_extend_20 ?_
      refine x_aload0 dX7_extend_21 ?_
      refine go202_5 fgX7_27 dX7_extend_22 ?_
      refine xV.toi (nI (K)) ((by rw [k 81 (by decide) (by decide)]; exact hf.1.1)) ?_
      refine n_icmp_gt 88 dX7_extend_25 (by decide) (by omega) (by omega) (fun c25 => ?_) (fun c25 => ?_)
      · refine x_vret dX7_extend_88 rfl ?_ (Nat.zero_le _) (Nat.zero_le _)
        exact ⟨rfl, _, rfl, hx, ex_end1 hA hS2 (cm_few hf.1.2 (l + 1) c o.toInt (by omega))⟩
      · refine x_aload0 dX7_extend_28 ?_
        refine go202_9 fgX7_40 dX7_extend_29 ?_
        refine xV.toi (nI (L2.length)) (hS2.1) ?_
        refine x_sipush (nI 5000) dX7_extend_32 (by decide) ?_
        refine n_icmp_ge 88 dX7_extend_35 (by decide) (by have := hS2.2.1; omega) (by omega) (fun c35 => ?_) (fun c35 => ?_)
        · refine x_vret dX7_extend_88 rfl ?_ (Nat.zero_le _) (Nat.zero_le _)
          exact ⟨rfl, _, rfl, hx, by rw [hA, ap_full (by have := hS2.2.1; omega)]; exact hS2⟩
        · refine x_aload0 dX7_extend_38 ?_
          refine x_iload5 dX7_extend_39 ?_
          refine x_iload2 dX7_extend_41 ?_
          refine x_iload3 dX7_extend_42 ?_
          refine x_callV3i mvX7_99 (kd_canReach G e m c (l + 2) (by omega) o) (show (202 : Nat) < NT by decide) (hd_at (a := 202) (by decide) rfl) (xRoom.le (l := l + 2) (by decide) (Nat.zero_le _)) (Nat.le_of_ble_eq_true rfl) dX7_extend_43 (fun r_ n_ h_ hq => ?_)
          obtain ⟨rfl, rfl, rfl⟩ := hq
          refine b_if_eq 88 dX7_extend_46 (by decide) (fun c46 => ?_) (fun c46 => ?_)
          · refine x_vret dX7_extend_88 rfl ?_ (Nat.zero_le _) (Nat.zero_le _)
            exact ⟨rfl, _, rfl, hx, ex_end1 hA hS2 (ex_far hf (by omega) (by omega) (fun q => c46 (by unfold crD; rw [k 79 (by decide) (by decide), k 80 (by decide) (by decide), k 83 (by decide) (by decide)]; exact q)))⟩
          · obtain ⟨⟨f1, f2⟩, f3, _⟩ := hf.2.2.2 c (by omega)
            have st := cmN (d := d) (E := E) (l := l + 1) (z := z) (a := a) (o := o.toInt) hf.1.2 (show c < K by omega)
            have f3a : -1000000 ≤ (d.1 78 c).toInt := f3.1
            have f3b : (d.1 78 c).toInt ≤ 1000000 := f3.2
            have eo : (o - d.1 78 c).toInt = o.toInt - amD d c := t_sub (by unfold rB at ho; omega) (by unfold rB at ho; omega)
            refine x_aload0 dX7_extend_49 ?_
            refine x_iload5 dX7_extend_50 ?_
            refine x_iconst (nI 1) dX7_extend_52 (by decide) ?_
            refine n_iadd dX7_extend_53 ?_
            refine x_iload2 dX7_extend_54 ?_
            refine x_iconst (nI 1) dX7_extend_55 (by decide) ?_
            refine n_isub dX7_extend_56 (by omega) ?_
            refine xV.toi (nI (l + 1)) (rfl) ?_
            refine x_iload3 dX7_extend_57 ?_
            refine x_aload0 dX7_extend_58 ?_
            refine go202_2 fgX7_18 dX7_extend_59 ?_
            refine x_iload5 dX7_extend_62 ?_
            refine la205 (c) rfl (by omega) dX7_extend_64 ?_
            refine xV.toi (d.1 78 c) ((by rw [k 78 (by decide) (by decide)])) ?_
            refine x_isub dX7_extend_65 ?_
            refine x_iload4 dX7_extend_66 ?_
            refine x_bipush (nI 7) dX7_extend_68 (by decide) ?_
            refine x_ishl dX7_extend_70 ?_
            refine x_aload0 dX7_extend_71 ?_
            refine go202_1 fgX7_15 dX7_extend_72 ?_
            refine x_iload5 dX7_extend_75 ?_
            refine la204 (c) rfl (by omega) dX7_extend_77 ?_
            refine xV.toi (nI (nuD d c)) ((by rw [k 77 (by decide) (by decide)]; exact f1)) ?_
            refine x_ior dX7_extend_78 ?_
            refine xV.toi (nI (a * 128 + nuD d c)) (pk_acc (Nat.lt_of_lt_of_le ha (ac_le _)) f2) ?_
            refine x_callV4v mvX7_91 (ihl e L2 (c + 1) (a * 128 + nuD d c) (o - d.1 78 c) (exR_fx hx hf) hS2 (by omega) (ac_next hl ha f2) (rB_next ho f3a f3b)) (show (202 : Nat) < NT by decide) (hd_at (a := 202) (by decide) rfl) (xRoom.rc (l := l + 2) (by decide)) (Nat.le_of_ble_eq_true rfl) dX7_extend_79 (fun n_ h_ hq => ?_)
            obtain ⟨rfl, e2, rfl, h1, h2⟩ := hq
            rw [eo, exR_fS hx, show cmD e K E (l + 1) (c + 1) (o.toInt - amD d c) = cmD d K E (l + 1) (c + 1) (o.toInt - amD d c) by unfold cmD; rw [exR_am hx]] at h2
            refine x_iinc5 (nI (c + 1)) dX7_extend_82 (nI_add c 1) rfl rfl rfl ?_
            refine x_goto 17 dX7_extend_85 (by decide) ?_
            exact ih (c + 1) _ _ (by omega) (by omega) (exR_t hx h1) h2 (by rw [hA, st, ← ap_ap])
  refine xK.ofV (by decide) (Nat.le_of_ble_eq_true rfl) ?_
  refine xV.lveq (L' := [some (.ref 202), some (.int (nI (c0))), some (.int (nI (l + 2))), some (.int o), some (.int (nI (a))), none]) rfl ?_
  refine x_iload2 dX7_extend_0 ?_
  refine x_iconst (nI 1) dX7_extend_1 (by decide) ?_
  refine n_icmp_gt 14 dX7_extend_2 (by decide) (by omega) (by omega) (fun c2 => ?_) (fun c2 => absurd c2 (by omega))
  refine x_iload1 dX7_extend_14 ?_
  refine x_istore5 dX7_extend_15 rfl rfl rfl ?_
  exact lp 82 c0 d L hc0 (by omega) (fun _ _ _ => rfl) hS rfl

theorem kd_extend (G : vx_G) (m : mS) (K E z : Nat) : ∀ (l : Nat), l + 1 ≤ 4 → ∀ (d2 : mS) (L2 : List Nat) (c2 a2 : Nat) (o2 : Int32), fxD d2 K E z → dS d2 L2 → c2 ≤ 81 → a2 < 128 ^ (3 - l) → rB l o2 → xK G M_X7_extend (l + 2) [.ref 202, .int (nI c2), .int (nI (l + 1)), .int o2, .int (nI a2)] NT (hp (dk d2) m) 0 0 (QV (fun n' h' => n' = NT ∧ ∃ e, h' = hp (dk e) m ∧ exR d2 e ∧ dS e (ap L2 ((cmD d2 K E (l + 1) c2 o2.toInt).map (fS d2 z a2))))) := by
  intro l
  induction l with
  | zero =>
    intro _ d2 L2 c2 a2 o2 h1 h2 h3 h4 h5
    refine kd_extend1 G d2 m K E z h1 L2 h2 c2 a2 o2 h3 ?_ ?_
    · have e : (128 : Nat) ^ 3 = 2097152 := by decide
      have h4' : a2 < 128 ^ 3 := h4
      omega
    · unfold rB at h5; omega
  | succ l ih =>
    intro hl d2 L2 c2 a2 o2 h1 h2 h3 h4 h5
    exact kd_extendS G d2 m l hl K E z h1 L2 h2 (ih (by omega)) c2 a2 o2 h3 h4 h5
