/-! ===== the model's methods, 11: find, set ===== -/
theorem xRoom.rc {mt : vx_M} {l : Nat} (h : mt.2.2.1 ≤ 45) : xRoom (vx_rm (l + 1) 0 0) mt l 0 0 0 0 := ⟨⟨Nat.le_refl _, by show 8 + (mt.2.2.1 + 11) + 64 * l ≤ 64 * (l + 1); omega⟩, Nat.le_refl _, Nat.le_refl _⟩
/-- find(): the first set of l + 1 things from k on, by the sets of l things behind it -/
def fscan (sub : Nat → Int64 → Int32) (f : Nat → Int64) (l N : Nat) (w : Int64) : Nat → Nat → Int32
  | 0, _ => -1
  | n + 1, k => if k + (l + 1) ≤ N then (if sub (k + 1) (w - f k) < 0 then fscan sub f l N w n (k + 1) else sub (k + 1) (w - f k) ||| nI (2 ^ k)) else -1
def fnd (f : Nat → Int64) (N : Nat) : Nat → Nat → Int64 → Int32
  | 0, _, w => if w = 0 then nI 0 else -1
  | l + 1, k, w => fscan (fnd f N l) f l N w (N + 1 - k) k
theorem fscan_out {sub : Nat → Int64 → Int32} {f : Nat → Int64} {l N : Nat} {w : Int64} {n k : Nat} (h : N < k + (l + 1)) : fscan sub f l N w n k = -1 := by
  cases n with
  | zero => rfl
  | succ n => exact if_neg (by omega)

set_option maxHeartbeats 4000000 in
theorem k_find0 (G : vx_G) (x : vx_H) (m : mS) (N fr : Nat) (w : Int64) : xK G M_X10_find 0 [(.ref MB), (.int (nI (N))), (.int (nI (fr))), (.int (nI (0))), (.long w)] NT (hp x m) 0 0 (QI (fun r n' h' => r = fnd m.2 N 0 fr w ∧ n' = NT ∧ h' = hp x m)) := by
  refine xK.ofV (by decide) (Nat.le_of_ble_eq_true rfl) ?_
  refine xV.lveq (L' := [some (.ref MB), some (.int (nI (N))), some (.int (nI (fr))), some (.int (nI (0))), some (.long w), none, none, none]) rfl ?_
  refine x_iload3 dX10_find_0 ?_
  refine n_if_ne 17 dX10_find_1 (by decide) (by omega) (fun c1 => ?_) (fun c1 => ?_)
  · exact absurd rfl c1
  · refine x_lload4 dX10_find_4 ?_
    refine x_lconst 0 dX10_find_6 (by decide) ?_
    refine x_lcmp dX10_find_7 ?_
    refine x_if_ne 15 dX10_find_8 (by decide) (fun c8 => ?_) (fun c8 => ?_)
    · refine x_iconst (-1) dX10_find_15 (by decide) ?_
      refine x_iret dX10_find_16 rfl ?_ (Nat.zero_le _) (Nat.zero_le _)
      first | exact ⟨(if_pos ((lc_eq _ _).mp c8)).symm, rfl, rfl⟩ | exact ⟨(if_neg (fun q => c8 ((lc_eq _ _).mpr q))).symm, rfl, rfl⟩
    · refine x_iconst (nI 0) dX10_find_11 (by decide) ?_
      refine x_goto 16 dX10_find_12 (by decide) ?_
      refine x_iret dX10_find_16 rfl ?_ (Nat.zero_le _) (Nat.zero_le _)
      first | exact ⟨(if_pos ((lc_eq _ _).mp c8)).symm, rfl, rfl⟩ | exact ⟨(if_neg (fun q => c8 ((lc_eq _ _).mpr q))).symm, rfl, rfl⟩

set_option maxHeartbeats 4000000 in
theorem k_findS (G : vx_G) (x : vx_H) (m : mS) (N l : Nat) (hN : N ≤ 18) (hl : l ≤ 18) (ihl : ∀ (fr : Nat) (w : Int64), fr ≤ 100 → xK G M_X10_find l [.ref MB, .int (nI N), .int (nI fr), .int (nI l), .long w] NT (hp x m) 0 0 (QI (fun r n' h' => r = fnd m.2 N l fr w ∧ n' = NT ∧ h' = hp x m))) (fr : Nat) (w : Int64) (hfr : fr ≤ 100) : xK G M_X10_find (l + 1) [(.ref MB), (.int (nI (N))), (.int (nI (fr))), (.int (nI (l + 1))), (.long w)] NT (hp x m) 0 0 (QI (fun r n' h' => r = fnd m.2 N (l + 1) fr w ∧ n' = NT ∧ h' = hp x m)) := by
  have lp : ∀ (n_ : Nat) (k : Nat), k ≤ 101 → 101 + 1 ≤ k + n_ → (fscan (fnd m.2 N l) m.2 l N w (N + 1 - k) k = fnd m.2 N (l + 1) fr w) → xV (mF G M_X10_find (l + 1) 0 0 (QI (fun r n' h' => r = fnd m.2 N (l + 1) fr w ∧ n' = NT ∧ h' = hp x m))) 20 [some (.ref MB), some (.int (nI (N))), some (.int (nI (fr))), some (.int (nI (l + 1))), some (.long w), none, some (.int (nI (k))), none] [] NT (hp x m) 0 0 := by
    intro n_
    induction n_ with
    | zero => intro k hi_ hn_; omega
    | succ n_ ih =>
      intro k hi_ hn_ hv
      refine x_iload6 dX10_find_20 ?_
      refine x_iload3 dX10_find_22 ?_
      refine n_iadd dX10_find_23 ?_
      refine x_iload1 dX10_find_24 ?_
      refine n_icmp_gt 71 dX10_find_25 (by decide) (by omega) (by omega) (fun c25 => ?_) (fun c25 => ?_)
      · refine x_iconst (-1) dX10_find_71 (by decide) ?_
        refine x_iret dX10_find_72 rfl ?_ (Nat.zero_le _) (Nat.zero_le _)
        exact ⟨by rw [← hv]; exact (fscan_out (by omega)).symm, rfl, rfl⟩
      · have hk : k + (l + 1) ≤ N := by omega
        obtain ⟨q, eq⟩ : ∃ q, N + 1 - k = q + 1 := ⟨N - k, by omega⟩
        have eq2 : N + 1 - (k + 1) = q := by omega
        rw [eq] at hv
        have hv : (if k + (l + 1) ≤ N then (if fnd m.2 N l (k + 1) (w - m.2 k) < 0 then fscan (fnd m.2 N l) m.2 l N w q (k + 1) else fnd m.2 N l (k + 1) (w - m.2 k) ||| nI (2 ^ k)) else -1) = _ := hv
        rw [if_pos hk] at hv
        refine x_aload0 dX10_find_28 ?_
        refine x_iload1 dX10_find_29 ?_
        refine x_iload6 dX10_find_30 ?_
        refine x_iconst (nI 1) dX10_find_32 (by decide) ?_
        refine n_iadd dX10_find_33 ?_
        refine x_iload3 dX10_find_34 ?_
        refine x_iconst (nI 1) dX10_find_35 (by decide) ?_
        refine n_isub dX10_find_36 (by omega) ?_
        refine xV.toi (nI (l)) (by rw [Nat.add_sub_cancel]) ?_
        refine x_lload4 dX10_find_37 ?_
        refine x_aload0 dX10_find_39 ?_
        refine gm39 fgX10_97 dX10_find_40 ?_
        refine x_iload6 dX10_find_43 ?_
        refine lm39 (k) rfl (by omega) dX10_find_45 ?_
        refine x_lsub dX10_find_46 ?_
        refine x_callV4i mvX10_222 (ihl (k + 1) (w - m.2 k) (by omega)) mb_lt0 (hp_m0 _ _) (xRoom.rc (by decide)) (Nat.le_of_ble_eq_true rfl) dX10_find_47 (fun r_ n_ h_ hq => ?_)
        obtain ⟨rfl, rfl, rfl⟩ := hq
        refine x_istore7 dX10_find_50 rfl rfl rfl ?_
        refine x_iload7 dX10_find_52 ?_
        refine x_if_lt 65 dX10_find_54 (by decide) (fun c54 => ?_) (fun c54 => ?_)
        · rw [if_pos c54, ← eq2] at hv
          refine x_iinc6 (nI (k + 1)) dX10_find_65 (nI_add k 1) rfl rfl rfl ?_
          refine x_goto 20 dX10_find_68 (by decide) ?_
          refine xV.lvle (L' := [some (.ref _), some (.int _), some (.int _), some (.int _), some (.long _), none, some (.int _), none]) ⟨rfl, rfl, rfl, rfl, rfl, rfl, trivial⟩ ?_
          exact ih (k + 1) (by omega) (by omega) hv
        · rw [if_neg c54] at hv
          refine x_iload7 dX10_find_57 ?_
          refine x_iconst (nI 1) dX10_find_59 (by decide) ?_
          refine x_iload6 dX10_find_60 ?_
          refine x_ishl dX10_find_62 ?_
          refine xV.toi (nI (2 ^ k)) (sh_1 (by omega)) ?_
          refine x_ior dX10_find_63 ?_
          refine x_iret dX10_find_64 rfl ?_ (Nat.zero_le _) (Nat.zero_le _)
          exact ⟨hv, rfl, rfl⟩
  refine xK.ofV (by decide) (Nat.le_of_ble_eq_true rfl) ?_
  refine xV.lveq (L' := [some (.ref MB), some (.int (nI (N))), some (.int (nI (fr))), some (.int (nI (l + 1))), some (.long w), none, none, none]) rfl ?_
  refine x_iload3 dX10_find_0 ?_
  refine n_if_ne 17 dX10_find_1 (by decide) (by omega) (fun c1 => ?_) (fun c1 => ?_)
  · refine x_iload2 dX10_find_17 ?_
    refine x_istore6 dX10_find_18 rfl rfl rfl ?_
    exact lp (101 + 1) fr (by omega) (by omega) rfl
  · exact absurd c1 (by omega)

theorem k_find (G : vx_G) (x : vx_H) (m : mS) (N : Nat) (hN : N ≤ 18) : ∀ (l fr : Nat) (w : Int64), l ≤ 18 → fr ≤ 100 → xK G M_X10_find l [.ref MB, .int (nI N), .int (nI fr), .int (nI l), .long w] NT (hp x m) 0 0 (QI (fun r n' h' => r = fnd m.2 N l fr w ∧ n' = NT ∧ h' = hp x m))
  | 0, fr, w, _, _ => k_find0 G x m N fr w
  | l + 1, fr, w, hl, hf => k_findS G x m N l hN (by omega) (fun fr2 w2 h2 => k_find G x m N hN l fr2 w2 (by omega) h2) fr w hf
