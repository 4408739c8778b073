/-! ===== the model's methods, 16: choose, sets ===== -/
theorem xRoom.le {mt : vx_M} {l d : Nat} (h : mt.2.2.1 ≤ 45) (hd : d ≤ l) : xRoom (vx_rm (l + 1) 0 0) mt d 0 0 0 0 := ⟨⟨Nat.succ_le_succ hd, by show 8 + (mt.2.2.1 + 11) + 64 * d ≤ 64 * (l + 1); omega⟩, Nat.le_refl _, Nat.le_refl _⟩
theorem lc_ge (a b : Int64) : 0 ≤ lg_cmp a b ↔ ¬ a < b := by
  unfold lg_cmp
  by_cases h1 : b < a
  · rw [if_pos h1]
    exact ⟨fun _ => Int64.not_lt.mpr (Int64.le_of_lt h1), fun _ => by decide⟩
  · rw [if_neg h1]
    by_cases h2 : a = b
    · subst h2
      rw [if_pos rfl]
      exact ⟨fun _ => h1, fun _ => by decide⟩
    · rw [if_neg h2]
      refine ⟨fun h => absurd h (by decide), fun h => ?_⟩
      exact absurd (Int64.le_antisymm (Int64.not_lt.mp h1) (Int64.not_lt.mp h)) h2
theorem lc_gt (a b : Int64) : 0 < lg_cmp a b ↔ b < a := by
  unfold lg_cmp
  by_cases h1 : b < a
  · rw [if_pos h1]
    exact ⟨fun _ => h1, fun _ => by decide⟩
  · rw [if_neg h1]
    by_cases h2 : a = b
    · rw [if_pos h2]
      exact ⟨fun h => absurd h (by decide), fun h => absurd h h1⟩
    · rw [if_neg h2]
      exact ⟨fun h => absurd h (by decide), fun h => absurd h h1⟩
def abL (o : Int64) : Int64 := if o < 0 then -o else o
/-- the set that is picked is written down -/
def pcM (m : mS) (n : Nat) : Nat → mS
  | 0 => m
  | k + 1 => mset (pcM m n k) 34 (4 * n + k) (m.1 36 k)
theorem pcM_ne {m : mS} {n j : Nat} (h : j ≠ 34) : ∀ k, (pcM m n k).1 j = m.1 j
  | 0 => rfl
  | k + 1 => by
    show (mset (pcM m n k) 34 (4 * n + k) (m.1 36 k)).1 j = _
    rw [mset_ne h]
    exact pcM_ne h k
theorem pcM_2 {m : mS} {n : Nat} : ∀ k, (pcM m n k).2 = m.2
  | 0 => rfl
  | k + 1 => pcM_2 k
def putM (m : mS) (z : Nat) : mS := mset (pcM (mset m 33 (nS m) (nI z)) (nS m) z) 35 0 (nI (nS m + 1))
def cdB (m : mS) (B i : Nat) : Bool := decide (m.1 5 (80 * B + i) < 0 ∧ apI (m.1 1 (80 * B + i)) (m.1 1 (80 * sBk m + sLn m)) ≤ m.1 8 0)
def cScan (m : mS) (B z l : Nat) (o : Int64) (sub : Nat → Int64 → mS → mS) : Nat → Nat → mS → mS
  | 0, _, q => q
  | n + 1, i, q => if i < nL m B ∧ nS q < 5000 then (if cdB m B i = true then cScan m B z l o sub n (i + 1) (sub (i + 1) (o - (m.1 0 (80 * B + i)).toInt64) (mset q 36 (z - (l + 1)) (nI i))) else cScan m B z l o sub n (i + 1) q) else q
def chS (m : mS) (B z : Nat) (e : Int32) : Nat → Nat → Int64 → mS → mS
  | 0, _, o, q => if ¬ e.toInt64 < abL o ∧ nS q < 5000 then putM q z else q
  | l + 1, i, o, q => cScan m B z l o (chS m B z e l) (81 - i) i q
/-- what choosing leaves as it was -/
def smC (m q : mS) : Prop := q.2 = m.2 ∧ ∀ j, j ≠ 33 → j ≠ 34 → j ≠ 35 → j ≠ 36 → q.1 j = m.1 j
theorem putM_ok {m q : mS} {z : Nat} (h : smC m q) (hS : iS q) (h5 : nS q < 5000) : smC m (putM q z) ∧ iS (putM q z) := by
  refine ⟨⟨(pcM_2 z).trans h.1, fun j a1 a2 a3 a4 => ?_⟩, ?_⟩
  · unfold putM
    rw [mset_ne a3, pcM_ne a2, mset_ne a1]
    exact h.2 j a1 a2 a3 a4
  · have e : (putM q z).1 35 0 = nI (nS q + 1) := mset_at _ _ _ _
    unfold iS
    have e2 : nS (putM q z) = nS q + 1 := by show nv ((putM q z).1 35 0) = _; rw [e]; exact nv_nI (by omega)
    rw [e2]
    exact ⟨e, by omega⟩
theorem mset36_ok {m q : mS} {i : Nat} {v : Int32} (h : smC m q) (hS : iS q) : smC m (mset q 36 i v) ∧ iS (mset q 36 i v) := ⟨⟨h.1, fun j a1 a2 a3 a4 => by rw [mset_ne a4]; exact h.2 j a1 a2 a3 a4⟩, hS⟩
theorem cScan_ok {m : mS} {B z l : Nat} {o : Int64} {sub : Nat → Int64 → mS → mS} (hs : ∀ i o q, smC m q → iS q → smC m (sub i o q) ∧ iS (sub i o q)) : ∀ (n i : Nat) (q : mS), smC m q → iS q → smC m (cScan m B z l o sub n i q) ∧ iS (cScan m B z l o sub n i q)
  | 0, i, q, h, hS => ⟨h, hS⟩
  | n + 1, i, q, h, hS => by
    show smC m (if i < nL m B ∧ nS q < 5000 then _ else q) ∧ iS (if i < nL m B ∧ nS q < 5000 then _ else q)
    split
    · split
      · obtain ⟨a, b⟩ := mset36_ok (i := z - (l + 1)) (v := nI i) h hS
        obtain ⟨c, d⟩ := hs (i + 1) (o - (m.1 0 (80 * B + i)).toInt64) _ a b
        exact cScan_ok hs n (i + 1) _ c d
      · exact cScan_ok hs n (i + 1) q h hS
    · exact ⟨h, hS⟩
theorem chS_ok {m : mS} {B z : Nat} {e : Int32} : ∀ (l i : Nat) (o : Int64) (q : mS), smC m q → iS q → smC m (chS m B z e l i o q) ∧ iS (chS m B z e l i o q)
  | 0, i, o, q, h, hS => by
    show smC m (if ¬ e.toInt64 < abL o ∧ nS q < 5000 then putM q z else q) ∧ iS (if ¬ e.toInt64 < abL o ∧ nS q < 5000 then putM q z else q)
    split
    · rename_i hc
      exact putM_ok h hS hc.2
    · exact ⟨h, hS⟩
  | l + 1, i, o, q, h, hS => cScan_ok (fun i o q a b => chS_ok l i o q a b) _ i q h hS
theorem cScan_out {m : mS} {B z l n i : Nat} {o : Int64} {sub : Nat → Int64 → mS → mS} {q : mS} (h : ¬ (i < nL m B ∧ nS q < 5000)) : cScan m B z l o sub n i q = q := by
  cases n with
  | zero => rfl
  | succ n => exact if_neg h

set_option maxHeartbeats 4000000 in
theorem k_choose0 (G : vx_G) (x : vx_H) (m : mS) (B z fr : Nat) (hz : z ≤ 4) (e : Int32) (o : Int64) (q : mS) (hC : smC m q) (hS : iS q) : xK G M_X10_choose 0 [(.ref MB), (.int (nI (B))), (.int (nI (fr))), (.int (nI (0))), (.int (nI (z))), (.long o), (.int e)] NT (hp x q) 0 0 (QV (fun n' h' => n' = NT ∧ h' = hp x (chS m B z e 0 fr o q))) := by
  have hS2 := hS.2
  have lp : ∀ (o2 : Int64), (nS q < 5000) → (chS m B z e 0 fr o q = putM q z) → ∀ (n_ : Nat) (k : Nat), k ≤ z → z + 1 ≤ k + n_ → xV (mF G M_X10_choose 0 0 0 (QV (fun n' h' => n' = NT ∧ h' = hp x (chS m B z e 0 fr o q)))) 50 [some (.ref MB), some (.int (nI (B))), some (.int (nI (fr))), some (.int (nI (0))), some (.int (nI (z))), some (.long o2), none, some (.int e), some (.int (nI (k))), none, none] [] NT (hp x (pcM (mset q 33 (nS q) (nI z)) (nS q) k)) 0 0 := by
    intro o2 c33 hr
    intro n_
    induction n_ with
    | zero => intro k hi_ hn_; omega
    | succ n_ ih =>
      intro k hi_ hn_ 
      refine x_iload8 dX10_choose_50 ?_
      refine x_iload4 dX10_choose_52 ?_
      refine n_icmp_ge 84 dX10_choose_54 (by decide) (by omega) (by omega) (fun c54 => ?_) (fun c54 => ?_)
      · have ek : k = z := by omega
        subst ek
        refine x_aload0 dX10_choose_84 ?_
        refine x_dup dX10_choose_85 rfl ?_
        refine gm35 fgX10_195 dX10_choose_86 ?_
        refine xV.toi (nI (nS q)) (by rw [pcM_ne (by decide)]; exact hS.1) ?_
        refine x_iconst (nI 1) dX10_choose_89 (by decide) ?_
        refine n_iadd dX10_choose_90 ?_
        refine pm35 fpX10_195 dX10_choose_91 ?_
        refine x_vret dX10_choose_94 rfl ?_ (Nat.zero_le _) (Nat.zero_le _)
        exact ⟨rfl, by rw [hr]; rfl⟩
      · refine x_aload0 dX10_choose_57 ?_
        refine gm34 fgX10_85 dX10_choose_58 ?_
        refine x_iconst (nI 4) dX10_choose_61 (by decide) ?_
        refine x_aload0 dX10_choose_62 ?_
        refine gm35 fgX10_195 dX10_choose_63 ?_
        refine xV.toi (nI (nS q)) (by rw [pcM_ne (by decide)]; exact hS.1) ?_
        refine n_imul dX10_choose_66 ?_
        refine x_iload8 dX10_choose_67 ?_
        refine n_iadd dX10_choose_69 ?_
        refine x_aload0 dX10_choose_70 ?_
        refine gm36 fgX10_88 dX10_choose_71 ?_
        refine x_iload8 dX10_choose_74 ?_
        refine lm36 (k) rfl (by omega) dX10_choose_76 ?_
        refine xV.toi ((mset q 33 (nS q) (nI z)).1 36 k) (by rw [pcM_ne (by decide)]) ?_
        refine sm34 ((4 * (nS q)) + k) rfl (by omega) dX10_choose_77 ?_
        refine x_iinc8 (nI (k + 1)) dX10_choose_78 (nI_add k 1) rfl rfl rfl ?_
        refine x_goto 50 dX10_choose_81 (by decide) ?_
        exact ih (k + 1) (by omega) (by omega)
  refine xK.ofV (by decide) (Nat.le_of_ble_eq_true rfl) ?_
  refine xV.lveq (L' := [some (.ref MB), some (.int (nI (B))), some (.int (nI (fr))), some (.int (nI (0))), some (.int (nI (z))), some (.long o), none, some (.int e), none, none, none]) rfl ?_
  refine x_iload3 dX10_choose_0 ?_
  refine n_if_ne 95 dX10_choose_1 (by decide) (by omega) (fun c1 => ?_) (fun c1 => ?_)
  · exact absurd rfl c1
  · refine x_lload5 dX10_choose_4 ?_
    refine x_lconst 0 dX10_choose_6 (by decide) ?_
    refine x_lcmp dX10_choose_7 ?_
    refine x_if_ge 17 dX10_choose_8 (by decide) (fun c8 => ?_) (fun c8 => ?_)
    · have ha : abL o = o := if_neg ((lc_ge o 0).mp c8)
      refine x_lload5 dX10_choose_17 ?_
      refine x_iload7 dX10_choose_19 ?_
      refine x_i2l dX10_choose_21 ?_
      refine x_lcmp dX10_choose_22 ?_
      refine x_if_gt 94 dX10_choose_23 (by decide) (fun c23 => ?_) (fun c23 => ?_)
      · have hr : chS m B z e 0 fr o q = q := if_neg (fun w => w.1 (by rw [ha]; exact (lc_gt _ _).mp c23))
        refine x_vret dX10_choose_94 rfl ?_ (Nat.zero_le _) (Nat.zero_le _)
        exact ⟨rfl, by rw [hr]⟩
      · have hle : ¬ e.toInt64 < abL o := by rw [ha]; exact fun w => c23 ((lc_gt _ _).mpr w)
        refine x_aload0 dX10_choose_26 ?_
        refine gm35 fgX10_195 dX10_choose_27 ?_
        refine xV.toi (nI (nS q)) (hS.1) ?_
        refine x_sipush (nI 5000) dX10_choose_30 (by decide) ?_
        refine n_icmp_ge 94 dX10_choose_33 (by decide) (by omega) (by omega) (fun c33 => ?_) (fun c33 => ?_)
        · have hr : chS m B z e 0 fr o q = q := if_neg (fun w => by omega)
          refine x_vret dX10_choose_94 rfl ?_ (Nat.zero_le _) (Nat.zero_le _)
          exact ⟨rfl, by rw [hr]⟩
        · have hr : chS m B z e 0 fr o q = putM q z := if_pos ⟨hle, c33⟩
          refine x_aload0 dX10_choose_36 ?_
          refine gm33 fgX10_82 dX10_choose_37 ?_
          refine x_aload0 dX10_choose_40 ?_
          refine gm35 fgX10_195 dX10_choose_41 ?_
          refine xV.toi (nI (nS q)) (hS.1) ?_
          refine x_iload4 dX10_choose_44 ?_
          refine sm33 (nS q) rfl (by omega) dX10_choose_46 ?_
          refine x_iconst (nI 0) dX10_choose_47 (by decide) ?_
          refine x_istore8 dX10_choose_48 rfl rfl rfl ?_
          exact lp _ c33 hr (z + 1) 0 (Nat.zero_le _) (by omega)
    · have ha : abL o = -o := if_pos (Classical.byContradiction (fun z => c8 ((lc_ge o 0).mpr z)))
      refine x_lload5 dX10_choose_11 ?_
      refine x_lneg dX10_choose_13 ?_
      refine x_goto 19 dX10_choose_14 (by decide) ?_
      refine x_iload7 dX10_choose_19 ?_
      refine x_i2l dX10_choose_21 ?_
      refine x_lcmp dX10_choose_22 ?_
      refine x_if_gt 94 dX10_choose_23 (by decide) (fun c23 => ?_) (fun c23 => ?_)
      · have hr : chS m B z e 0 fr o q = q := if_neg (fun w => w.1 (by rw [ha]; exact (lc_gt _ _).mp c23))
        refine x_vret dX10_choose_94 rfl ?_ (Nat.zero_le _) (Nat.zero_le _)
        exact ⟨rfl, by rw [hr]⟩
      · have hle : ¬ e.toInt64 < abL o := by rw [ha]; exact fun w => c23 ((lc_gt _ _).mpr w)
        refine x_aload0 dX10_choose_26 ?_
        refine gm35 fgX10_195 dX10_choose_27 ?_
        refine xV.toi (nI (nS q)) (hS.1) ?_
        refine x_sipush (nI 5000) dX10_choose_30 (by decide) ?_
        refine n_icmp_ge 94 dX10_choose_33 (by decide) (by omega) (by omega) (fun c33 => ?_) (fun c33 => ?_)
        · have hr : chS m B z e 0 fr o q = q := if_neg (fun w => by omega)
          refine x_vret dX10_choose_94 rfl ?_ (Nat.zero_le _) (Nat.zero_le _)
          exact ⟨rfl, by rw [hr]⟩
        · have hr : chS m B z e 0 fr o q = putM q z := if_pos ⟨hle, c33⟩
          refine x_aload0 dX10_choose_36 ?_
          refine gm33 fgX10_82 dX10_choose_37 ?_
          refine x_aload0 dX10_choose_40 ?_
          refine gm35 fgX10_195 dX10_choose_41 ?_
          refine xV.toi (nI (nS q)) (hS.1) ?_
          refine x_iload4 dX10_choose_44 ?_
          refine sm33 (nS q) rfl (by omega) dX10_choose_46 ?_
          refine x_iconst (nI 0) dX10_choose_47 (by decide) ?_
          refine x_istore8 dX10_choose_48 rfl rfl rfl ?_
          exact lp _ c33 hr (z + 1) 0 (Nat.zero_le _) (by omega)

set_option maxHeartbeats 4000000 in
theorem k_chooseS (G : vx_G) (x : vx_H) (m : mS) (hL : iL m) (ht : (m.1 31 0 = nI (sBk m) ∧ sBk m < 2) ∧ m.1 32 0 = nI (sLn m) ∧ sLn m < 80) (B z : Nat) (hB : B < 2) (hz : z ≤ 4) (e : Int32) (l : Nat) (hl : l + 1 ≤ z) (ihl : ∀ (fr : Nat) (o : Int64) (q : mS), fr ≤ 81 → smC m q → iS q → xK G M_X10_choose l [.ref MB, .int (nI B), .int (nI fr), .int (nI l), .int (nI z), .long o, .int e] NT (hp x q) 0 0 (QV (fun n' h' => n' = NT ∧ h' = hp x (chS m B z e l fr o q)))) (fr : Nat) (o : Int64) (q : mS) (hf : fr ≤ 81) (hC : smC m q) (hS : iS q) : xK G M_X10_choose (l + 1) [(.ref MB), (.int (nI (B))), (.int (nI (fr))), (.int (nI (l + 1))), (.int (nI (z))), (.long o), (.int e)] NT (hp x q) 0 0 (QV (fun n' h' => n' = NT ∧ h' = hp x (chS m B z e (l + 1) fr o q))) := by
  have hS2 := hS.2
  have t2 := ht.1.2
  have t4 := ht.2.2
  obtain ⟨e6, l6⟩ := hL B hB
  have lp : ∀ (n_ : Nat) (i : Nat) (p : mS), i ≤ 81 → 81 + 1 ≤ i + n_ → (smC m p) → (iS p) → (cScan m B z l o (chS m B z e l) (81 - i) i p = chS m B z e (l + 1) fr o q) → xV (mF G M_X10_choose (l + 1) 0 0 (QV (fun n' h' => n' = NT ∧ h' = hp x (chS m B z e (l + 1) fr o q)))) 112 [some (.ref MB), some (.int (nI (B))), some (.int (nI (fr))), some (.int (nI (l + 1))), some (.int (nI (z))), some (.long o), none, some (.int e), some (.int (nI (80 * sBk m + sLn m))), some (.int (nI (i))), none] [] NT (hp x p) 0 0 := by
    intro n_
    induction n_ with
    | zero => intro i p hi_ hn_; omega
    | succ n_ ih =>
      intro i p hi_ hn_ pC pS hv
      have pS2 := pS.2
      have f6 := pC.2 6 (by decide) (by decide) (by decide) (by decide)
      have f5 := pC.2 5 (by decide) (by decide) (by decide) (by decide)
      have f1 := pC.2 1 (by decide) (by decide) (by decide) (by decide)
      have f8 := pC.2 8 (by decide) (by decide) (by decide) (by decide)
      have f0 := pC.2 0 (by decide) (by decide) (by decide) (by decide)
      refine x_iload9 dX10_choose_112 ?_
      refine x_aload0 dX10_choose_114 ?_
      refine gm6 fgX10_28 dX10_choose_115 ?_
      refine x_iload1 dX10_choose_118 ?_
      refine lm6 (B) rfl (by omega) dX10_choose_119 ?_
      refine xV.toi (nI (nL m B)) (by rw [f6]; exact e6) ?_
      refine n_icmp_ge 220 dX10_choose_120 (by decide) (by omega) (by omega) (fun c120 => ?_) (fun c120 => ?_)
      · refine x_vret dX10_choose_220 rfl ?_ (Nat.zero_le _) (Nat.zero_le _)
        refine ⟨rfl, ?_⟩
        rw [← hv, cScan_out (by omega)]
      · refine x_aload0 dX10_choose_123 ?_
        refine gm35 fgX10_195 dX10_choose_124 ?_
        refine xV.toi (nI (nS p)) (pS.1) ?_
        refine x_sipush (nI 5000) dX10_choose_127 (by decide) ?_
        refine n_icmp_ge 220 dX10_choose_130 (by decide) (by omega) (by omega) (fun c130 => ?_) (fun c130 => ?_)
        · refine x_vret dX10_choose_220 rfl ?_ (Nat.zero_le _) (Nat.zero_le _)
          refine ⟨rfl, ?_⟩
          rw [← hv, cScan_out (by omega)]
        · obtain ⟨n, en⟩ : ∃ n, 81 - i = n + 1 := ⟨80 - i, by omega⟩
          have en2 : 81 - (i + 1) = n := by omega
          rw [en] at hv
          have hv : (if i < nL m B ∧ nS p < 5000 then (if cdB m B i = true then cScan m B z l o (chS m B z e l) n (i + 1) (chS m B z e l (i + 1) (o - (m.1 0 (80 * B + i)).toInt64) (mset p 36 (z - (l + 1)) (nI i))) else cScan m B z l o (chS m B z e l) n (i + 1) p) else p) = _ := hv
          rw [if_pos ⟨c120, c130⟩, ← en2] at hv
          refine x_bipush (nI 80) dX10_choose_133 (by decide) ?_
          refine x_iload1 dX10_choose_135 ?_
          refine n_imul dX10_choose_136 ?_
          refine x_iload9 dX10_choose_137 ?_
          refine n_iadd dX10_choose_139 ?_
          refine x_istore10 dX10_choose_140 rfl rfl rfl ?_
          refine x_aload0 dX10_choose_142 ?_
          refine gm5 fgX10_25 dX10_choose_143 ?_
          refine x_iload10 dX10_choose_146 ?_
          refine lm5 ((80 * B) + i) rfl (by omega) dX10_choose_148 ?_
          refine x_if_ge 214 dX10_choose_149 (by decide) (fun c149 => ?_) (fun c149 => ?_)
          · have hc : ¬ cdB m B i = true := fun w => absurd (of_decide_eq_true w).1 (by rw [← f5]; exact iNL.mpr c149)
            rw [if_neg hc] at hv
            refine x_iinc9 (nI (i + 1)) dX10_choose_214 (nI_add i 1) rfl rfl rfl ?_
            refine x_goto 112 dX10_choose_217 (by decide) ?_
            refine xV.lvle (L' := [some (.ref _), some (.int _), some (.int _), some (.int _), some (.int _), some (.long _), none, some (.int _), some (.int _), some (.int _), none]) ⟨rfl, rfl, rfl, rfl, rfl, rfl, rfl, rfl, rfl, trivial⟩ ?_
            first | exact ih (i + 1) _ (by omega) (by omega) r3 r4 hv | exact ih (i + 1) p (by omega) (by omega) pC pS hv
          · refine x_aload0 dX10_choose_152 ?_
            refine gm1 fgX10_13 dX10_choose_153 ?_
            refine x_iload10 dX10_choose_156 ?_
            refine lm1 ((80 * B) + i) rfl (by omega) dX10_choose_158 ?_
            refine x_aload0 dX10_choose_159 ?_
            refine gm1 fgX10_13 dX10_choose_160 ?_
            refine x_iload8 dX10_choose_163 ?_
            refine lm1 (80 * sBk m + sLn m) rfl (by omega) dX10_choose_165 ?_
            refine x_callS2i msX10_155 (k_apart G _ _) (xRoom.le (by decide) (Nat.zero_le _)) (Nat.le_of_ble_eq_true rfl) dX10_choose_166 (fun r_ n_ h_ hq => ?_)
            obtain ⟨rfl, rfl, rfl⟩ := hq
            refine xV.toi (apI (m.1 1 (80 * B + i)) (m.1 1 (80 * sBk m + sLn m))) (by rw [f1]; rfl) ?_
            refine x_aload0 dX10_choose_169 ?_
            refine gm8 fgX10_31 dX10_choose_170 ?_
            refine xV.toi (m.1 8 0) (by rw [f8]) ?_
            refine x_icmp_gt 214 dX10_choose_173 (by decide) (fun c173 => ?_) (fun c173 => ?_)
            · have hc : ¬ cdB m B i = true := fun w => absurd (of_decide_eq_true w).2 (iNE.mpr c173)
              rw [if_neg hc] at hv
              refine x_iinc9 (nI (i + 1)) dX10_choose_214 (nI_add i 1) rfl rfl rfl ?_
              refine x_goto 112 dX10_choose_217 (by decide) ?_
              refine xV.lvle (L' := [some (.ref _), some (.int _), some (.int _), some (.int _), some (.int _), some (.long _), none, some (.int _), some (.int _), some (.int _), none]) ⟨rfl, rfl, rfl, rfl, rfl, rfl, rfl, rfl, rfl, trivial⟩ ?_
              first | exact ih (i + 1) _ (by omega) (by omega) r3 r4 hv | exact ih (i + 1) p (by omega) (by omega) pC pS hv
            · have hc : cdB m B i = true := decide_eq_true ⟨by rw [← f5]; exact iNE.mp c149, iNL.mp c173⟩
              rw [if_pos hc] at hv
              obtain ⟨r1, r2⟩ := mset36_ok (i := z - (l + 1)) (v := nI i) pC pS
              obtain ⟨r3, r4⟩ := chS_ok (B := B) (z := z) (e := e) l (i + 1) (o - (m.1 0 (80 * B + i)).toInt64) _ r1 r2
              refine x_aload0 dX10_choose_176 ?_
              refine gm36 fgX10_88 dX10_choose_177 ?_
              refine x_iload4 dX10_choose_180 ?_
              refine x_iload3 dX10_choose_182 ?_
              refine n_isub dX10_choose_183 (by omega) ?_
              refine x_iload9 dX10_choose_184 ?_
              refine sm36 (z - (l + 1)) rfl (by omega) dX10_choose_186 ?_
              refine x_aload0 dX10_choose_187 ?_
              refine x_iload1 dX10_choose_188 ?_
              refine x_iload9 dX10_choose_189 ?_
              refine x_iconst (nI 1) dX10_choose_191 (by decide) ?_
              refine n_iadd dX10_choose_192 ?_
              refine x_iload3 dX10_choose_193 ?_
              refine x_iconst (nI 1) dX10_choose_194 (by decide) ?_
              refine n_isub dX10_choose_195 (by omega) ?_
              refine xV.toi (nI (l)) (by rw [Nat.add_sub_cancel]) ?_
              refine x_iload4 dX10_choose_196 ?_
              refine x_lload5 dX10_choose_198 ?_
              refine x_aload0 dX10_choose_200 ?_
              refine gm0 fgX10_9 dX10_choose_201 ?_
              refine x_iload10 dX10_choose_204 ?_
              refine lm0 ((80 * B) + i) rfl (by omega) dX10_choose_206 ?_
              refine xV.toi (m.1 0 (80 * B + i)) (by rw [mset_ne (by decide), f0]) ?_
              refine x_i2l dX10_choose_207 ?_
              refine x_lsub dX10_choose_208 ?_
              refine x_iload7 dX10_choose_209 ?_
              refine x_callV6v mvX10_204 (ihl (i + 1) (o - (m.1 0 (80 * B + i)).toInt64) (mset p 36 (z - (l + 1)) (nI i)) (by omega) r1 r2) mb_lt0 (hp_m0 _ _) (xRoom.rc (by decide)) (Nat.le_of_ble_eq_true rfl) dX10_choose_211 (fun n_ h_ hq => ?_)
              obtain ⟨rfl, rfl⟩ := hq
              refine x_iinc9 (nI (i + 1)) dX10_choose_214 (nI_add i 1) rfl rfl rfl ?_
              refine x_goto 112 dX10_choose_217 (by decide) ?_
              refine xV.lvle (L' := [some (.ref _), some (.int _), some (.int _), some (.int _), some (.int _), some (.long _), none, some (.int _), some (.int _), some (.int _), none]) ⟨rfl, rfl, rfl, rfl, rfl, rfl, rfl, rfl, rfl, trivial⟩ ?_
              first | exact ih (i + 1) _ (by omega) (by omega) r3 r4 hv | exact ih (i + 1) p (by omega) (by omega) pC pS hv
  refine xK.ofV (by decide) (Nat.le_of_ble_eq_true rfl) ?_
  refine xV.lveq (L' := [some (.ref MB), some (.int (nI (B))), some (.int (nI (fr))), some (.int (nI (l + 1))), some (.int (nI (z))), some (.long o), none, some (.int e), none, none, none]) rfl ?_
  refine x_iload3 dX10_choose_0 ?_
  refine n_if_ne 95 dX10_choose_1 (by decide) (by omega) (fun c1 => ?_) (fun c1 => ?_)
  · refine x_bipush (nI 80) dX10_choose_95 (by decide) ?_
    refine x_aload0 dX10_choose_97 ?_
    refine gm31 fgX10_198 dX10_choose_98 ?_
    refine xV.toi (nI (sBk m)) (by rw [hC.2 31 (by decide) (by decide) (by decide) (by decide)]; exact ht.1.1) ?_
    refine n_imul dX10_choose_101 ?_
    refine x_aload0 dX10_choose_102 ?_
    refine gm32 fgX10_201 dX10_choose_103 ?_
    refine xV.toi (nI (sLn m)) (by rw [hC.2 32 (by decide) (by decide) (by decide) (by decide)]; exact ht.2.1) ?_
    refine n_iadd dX10_choose_106 ?_
    refine x_istore8 dX10_choose_107 rfl rfl rfl ?_
    refine x_iload2 dX10_choose_109 ?_
    refine x_istore9 dX10_choose_110 rfl rfl rfl ?_
    exact lp 82 fr q (by omega) (by omega) hC hS rfl
  · exact absurd c1 (by omega)

theorem k_choose (G : vx_G) (x : vx_H) (m : mS) (hL : iL m) (ht : (m.1 31 0 = nI (sBk m) ∧ sBk m < 2) ∧ m.1 32 0 = nI (sLn m) ∧ sLn m < 80) (B z : Nat) (hB : B < 2) (hz : z ≤ 4) (e : Int32) : ∀ (l fr : Nat) (o : Int64) (q : mS), l ≤ z → fr ≤ 81 → smC m q → iS q → xK G M_X10_choose l [.ref MB, .int (nI B), .int (nI fr), .int (nI l), .int (nI z), .long o, .int e] NT (hp x q) 0 0 (QV (fun n' h' => n' = NT ∧ h' = hp x (chS m B z e l fr o q)))
  | 0, fr, o, q, _, _, hC, hS => k_choose0 G x m B z fr hz e o q hC hS
  | l + 1, fr, o, q, hl, hf, hC, hS => k_chooseS G x m hL ht B z hB hz e l hl (fun fr2 o2 q2 h2 h3 h4 => k_choose G x m hL ht B z hB hz e l fr2 o2 q2 (by omega) h2 h3 h4) fr o q hf hC hS
