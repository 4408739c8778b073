/-! ===== the desk's methods, 20: set ===== -/
abbrev sLn_ (B : Nat) (L : List (List Nat)) (k j : Nat) : Nat := 80 * (1 - B) + (L.getD k []).getD j 0
abbrev sB_ (d : mS) (B I : Nat) : mS := adM (ngM d (nI 1)) (nG d) (80 * B + I)
def seD (d : mS) (B I : Nat) (L : List (List Nat)) (k r : Int32) (g : mS) : Prop := if isSd d k ∧ d.1 88 0 = d.1 50 0 then (if nG d = 200 then r = -5 ∧ g = d else r = nI (nG d) ∧ g = coD (addL (sB_ d B I) (nG d) (sLn_ B L (nv k)) (L.getD (nv k) []).length) (nI 1) (nI (nG d)) (nI 0)) else r = -1 ∧ g = d
theorem seD_1 {d : mS} {B I : Nat} {L : List (List Nat)} {k : Int32} (h : ¬ (isSd d k ∧ d.1 88 0 = d.1 50 0)) : seD d B I L k (-1) d := by unfold seD; rw [if_neg h]; exact ⟨rfl, rfl⟩
theorem seD_2 {d : mS} {B I : Nat} {L : List (List Nat)} {k : Int32} (h : isSd d k ∧ d.1 88 0 = d.1 50 0) (h2 : nG d = 200) : seD d B I L k (-5) d := by unfold seD; rw [if_pos h, if_pos h2]; exact ⟨rfl, rfl⟩
theorem seD_3 {d : mS} {B I : Nat} {L : List (List Nat)} {k : Int32} (h : isSd d k ∧ d.1 88 0 = d.1 50 0) (h2 : ¬ nG d = 200) : seD d B I L k (nI (nG d)) (coD (addL (sB_ d B I) (nG d) (sLn_ B L (nv k)) (L.getD (nv k) []).length) (nI 1) (nI (nG d)) (nI 0)) := by unfold seD; rw [if_pos h, if_neg h2]; exact ⟨rfl, rfl⟩
theorem hsD_k {d e : mS} {L : List (List Nat)} (h76 : e.1 76 = d.1 76) (h85 : e.1 85 = d.1 85) (h : hsD d L) : hsD e L := by
  unfold hsD dS at h ⊢
  rw [h76, h85]; exact h
theorem sB_ne {d : mS} {B I g : Nat} {a : Nat → Nat} {n j : Nat} (h : 17 ≤ j) : (addL (sB_ d B I) g a n).1 j = d.1 j := by
  rw [addL_ne (by omega) (by omega) (by omega)]
  show (adM (ngM d (nI 1)) (nG d) (80 * B + I)).1 j = _
  rw [adM_ne (by omega) (by omega) (by omega)]
  unfold ngM
  rw [mset_ne (by omega), mset_ne (by omega), mset_ne (by omega), mset_ne (by omega), mset_ne (by omega), mset_ne (by omega)]
theorem sB_12 {d : mS} {B I : Nat} : (sB_ d B I).1 12 (nG d) = nI 1 := by
  have q := ng12 d (nI 1)
  have z := ad12 (d := ngM d (nI 1)) (g := nG d) (a := 80 * B + I) (by omega)
  rw [q.2] at z
  exact z.1

set_option maxHeartbeats 4000000 in
theorem kd_set (G : vx_G) (d m : mS) (hG : iG d) (hX : iX d) (hA : iA d) (L : List (List Nat)) (hS : hsD d L) (B I : Nat) (hb : d.1 88 0 = d.1 50 0 → (d.1 86 0 = nI B ∧ B < 2) ∧ d.1 87 0 = nI I ∧ I < 80) (k : Int32) : xK G M_X9_set 3 [(.ref 0), (.int k)] NT (hp (dk d) m) 0 0 (QI (fun r n' h' => n' = NT ∧ ∃ g, h' = hp (dk g) m ∧ seD d B I L k r g)) := by
  have lp : ∀ (hk : isSd d k ∧ d.1 88 0 = d.1 50 0) (hno : ¬ nG d = 200), ∀ (n_ : Nat) (j : Nat), j ≤ (L.getD (nv k) []).length → (L.getD (nv k) []).length + 1 ≤ j + n_ → (1 ≤ j) → xV (mF G M_X9_set 3 0 0 (QI (fun r n' h' => n' = NT ∧ ∃ g, h' = hp (dk g) m ∧ seD d B I L k r g))) 104 [some (.ref 0), some (.int (nI (nv k))), some (.ref (bC (1 - B))), some (.ref (lC (80 * B + I))), some (.int (nI (nG d))), some (.int (nI (j)))] [] NT (hp (dk (addL (sB_ d B I) (nG d) (sLn_ B L (nv k)) j)) m) 0 0 := by
    intro hk hno 
    obtain ⟨ek, lk, l5⟩ := hs_in hS hk.1
    have h4 := (hs_at hS lk).2.1
    have l16 := hG.2
    obtain ⟨⟨e86, lB⟩, e87, lI⟩ := hb hk.2
    intro n_
    induction n_ with
    | zero => intro j hi_ hn_; omega
    | succ n_ ih =>
      intro j hi_ hn_ hj
      have hS2 : hsD (addL (sB_ d B I) (nG d) (sLn_ B L (nv k)) j) L := hsD_k (sB_ne (by decide)) (sB_ne (by decide)) hS
      have m12 := addL_m (g := nG d) (a := sLn_ B L (nv k)) (sB_12 (d := d) (B := B) (I := I)) (by decide) j (by omega)
      refine x_iload5 dX9_set_104 ?_
      refine x_aload0 dX9_set_106 ?_
      refine go0_4 fgX9_41 dX9_set_107 ?_
      refine x_iload1 dX9_set_110 ?_
      refine x_callV1i mvX9_206 (kd_sizeOf G (addL (sB_ d B I) (nG d) (sLn_ B L (nv k)) j) m (nv k) (by omega)) (show (202 : Nat) < NT by decide) (hd_at (a := 202) (by decide) rfl) (xRoom.of rfl) (Nat.le_of_ble_eq_true rfl) dX9_set_111 (fun r_ n_ h_ hq => ?_)
      obtain ⟨rfl, rfl, rfl⟩ := hq
      refine xV.toi (nI ((L.getD (nv k) []).length)) (hs_size hS2 lk) ?_
      refine n_icmp_ge 144 dX9_set_114 (by decide) (by omega) (by omega) (fun c114 => ?_) (fun c114 => ?_)
      · refine x_aload0 dX9_set_144 ?_
        refine x_iconst (nI 1) dX9_set_145 (by decide) ?_
        refine x_iload4 dX9_set_146 ?_
        refine x_iconst (nI 0) dX9_set_148 (by decide) ?_
        refine x_callV3v mvX9_93 (kd_carriedOut G (addL (sB_ d B I) (nG d) (sLn_ B L (nv k)) j) m (iX_k (sB_ne (by decide)) hX) (iA_k (sB_ne (by decide)) hA) (nI 1) (nI (nG d)) (nI 0)) (show (0 : Nat) < NT by decide) (hd_at (a := 0) (by decide) rfl) (xRoom.of rfl) (Nat.le_of_ble_eq_true rfl) dX9_set_149 (fun n_ h_ hq => ?_)
        obtain ⟨rfl, rfl⟩ := hq
        refine x_iload4 dX9_set_152 ?_
        refine x_iret dX9_set_154 rfl ?_ (Nat.zero_le _) (Nat.zero_le _)
        have ej : j = (L.getD (nv k) []).length := by omega
        rw [ej]
        exact ⟨rfl, _, rfl, seD_3 hk hno⟩
      · have hl := hs_line hS2 lk (j := j) (by omega)
        refine x_aload0 dX9_set_117 ?_
        refine x_iload4 dX9_set_118 ?_
        refine x_aload2 dX9_set_120 ?_
        refine gB0 (by omega) fgX9_83 dX9_set_121 ?_
        refine x_aload0 dX9_set_124 ?_
        refine go0_4 fgX9_41 dX9_set_125 ?_
        refine x_iload1 dX9_set_128 ?_
        refine x_iload5 dX9_set_129 ?_
        refine x_callV2i mvX9_209 (kd_lineIn G (addL (sB_ d B I) (nG d) (sLn_ B L (nv k)) j) m (nv k) (L.getD (nv k) []).length j (by omega) (hs_size hS2 lk) (by omega)) (show (202 : Nat) < NT by decide) (hd_at (a := 202) (by decide) rfl) (xRoom.of rfl) (Nat.le_of_ble_eq_true rfl) dX9_set_131 (fun r_ n_ h_ hq => ?_)
        obtain ⟨rfl, rfl, rfl⟩ := hq
        refine xV.toi (nI ((L.getD (nv k) []).getD j 0)) (hl.1) ?_
        refine lBL (by omega) ((L.getD (nv k) []).getD j 0) rfl (by omega) dX9_set_134 ?_
        refine x_callV2v mvX9_218 (kd_addTo G (addL (sB_ d B I) (nG d) (sLn_ B L (nv k)) j) m (nG d) (sLn_ B L (nv k) j) (by omega) (by have := hl.2; show 80 * (1 - B) + (L.getD (nv k) []).getD j 0 < 160; omega) (by rw [m12.2]; exact m12.1) (by rw [m12.2]; omega)) (show (0 : Nat) < NT by decide) (hd_at (a := 0) (by decide) rfl) (xRoom.of rfl) (Nat.le_of_ble_eq_true rfl) dX9_set_135 (fun n_ h_ hq => ?_)
        obtain ⟨rfl, rfl⟩ := hq
        refine x_iinc5 (nI (j + 1)) dX9_set_138 (nI_add j 1) rfl rfl rfl ?_
        refine x_goto 104 dX9_set_141 (by decide) ?_
        exact ih (j + 1) (by omega) (by omega) (by omega)
  refine xK.ofV (by decide) (Nat.le_of_ble_eq_true rfl) ?_
  refine xV.lveq (L' := [some (.ref 0), some (.int k), none, none, none, none]) rfl ?_
  refine x_aload0 dX9_set_0 ?_
  refine go0_4 fgX9_41 dX9_set_1 ?_
  refine x_iload1 dX9_set_4 ?_
  refine x_callV1i mvX9_203 (kd_isThereS G d m k) (show (202 : Nat) < NT by decide) (hd_at (a := 202) (by decide) rfl) (xRoom.of rfl) (Nat.le_of_ble_eq_true rfl) dX9_set_5 (fun r_ n_ h_ hq => ?_)
  obtain ⟨rfl, rfl, rfl⟩ := hq
  refine b_if_eq 25 dX9_set_8 (by decide) (fun c8 => ?_) (fun c8 => ?_)
  · refine x_iconst (-1) dX9_set_25 (by decide) ?_
    refine x_iret dX9_set_26 rfl ?_ (Nat.zero_le _) (Nat.zero_le _)
    first | exact ⟨rfl, _, rfl, seD_1 (fun q => c8 q.1)⟩ | exact ⟨rfl, _, rfl, seD_1 (fun q => c22 q.2)⟩
  · refine x_aload0 dX9_set_11 ?_
    refine go0_4 fgX9_41 dX9_set_12 ?_
    refine go202_12 fgX9_199 dX9_set_15 ?_
    refine x_aload0 dX9_set_18 ?_
    refine go0_10 fgX9_65 dX9_set_19 ?_
    refine x_icmp_eq 27 dX9_set_22 (by decide) (fun c22 => ?_) (fun c22 => ?_)
    · obtain ⟨ek, lk, l5⟩ := hs_in hS c8
      have h4 := (hs_at hS lk).2.1
      have l16 := hG.2
      obtain ⟨⟨e86, lB⟩, e87, lI⟩ := hb c22
      rw [show Value.int k = Value.int (nI (nv k)) by rw [← ek]]
      refine x_aload0 dX9_set_27 ?_
      refine go0_6 fgX9_52 dX9_set_28 ?_
      refine xV.toi (nI (nG d)) (hG.1) ?_
      refine x_sipush (nI 200) dX9_set_31 (by decide) ?_
      refine n_icmp_lt 40 dX9_set_34 (by decide) (by omega) (by omega) (fun c34 => ?_) (fun c34 => ?_)
      · refine x_aload0 dX9_set_40 ?_
        refine go0_0 fgX9_12 dX9_set_41 ?_
        refine x_iconst (nI 1) dX9_set_44 (by decide) ?_
        refine x_aload0 dX9_set_45 ?_
        refine go0_4 fgX9_41 dX9_set_46 ?_
        refine go202_10 fgX9_212 dX9_set_49 ?_
        refine xV.toi (nI (B)) (e86) ?_
        refine n_isub dX9_set_52 (by omega) ?_
        refine lBK (1 - B) rfl (by omega) dX9_set_53 ?_
        refine x_astore2 dX9_set_54 rfl rfl rfl ?_
        refine x_aload0 dX9_set_55 ?_
        refine go0_0 fgX9_12 dX9_set_56 ?_
        refine x_aload0 dX9_set_59 ?_
        refine go0_4 fgX9_41 dX9_set_60 ?_
        refine go202_10 fgX9_212 dX9_set_63 ?_
        refine xV.toi (nI (B)) (e86) ?_
        refine lBK (B) rfl (by omega) dX9_set_66 ?_
        refine gB0 (by omega) fgX9_83 dX9_set_67 ?_
        refine x_aload0 dX9_set_70 ?_
        refine go0_4 fgX9_41 dX9_set_71 ?_
        refine go202_11 fgX9_215 dX9_set_74 ?_
        refine xV.toi (nI (I)) (e87) ?_
        refine lBL (by omega) (I) rfl (by omega) dX9_set_77 ?_
        refine x_astore3 dX9_set_78 rfl rfl rfl ?_
        refine x_aload0 dX9_set_79 ?_
        refine x_iconst (nI 1) dX9_set_80 (by decide) ?_
        refine x_aload3 dX9_set_81 ?_
        refine x_aload2 dX9_set_82 ?_
        refine gB0 (by omega) fgX9_83 dX9_set_83 ?_
        refine x_aload0 dX9_set_86 ?_
        refine go0_4 fgX9_41 dX9_set_87 ?_
        refine x_iload1 dX9_set_90 ?_
        refine x_iconst (nI 0) dX9_set_91 (by decide) ?_
        have hl := hs_line hS lk (j := 0) (by omega)
        refine x_callV2i mvX9_209 (kd_lineIn G d m (nv k) (L.getD (nv k) []).length 0 (by omega) (hs_size hS lk) (by omega)) (show (202 : Nat) < NT by decide) (hd_at (a := 202) (by decide) rfl) (xRoom.of rfl) (Nat.le_of_ble_eq_true rfl) dX9_set_92 (fun r_ n_ h_ hq => ?_)
        obtain ⟨rfl, rfl, rfl⟩ := hq
        refine xV.toi (nI ((L.getD (nv k) []).getD 0 0)) (hl.1) ?_
        refine lBL (by omega) ((L.getD (nv k) []).getD 0 0) rfl (by omega) dX9_set_95 ?_
        refine x_callV3i mvX9_189 (kd_makeGroup G d m hG (by omega) (nI 1) (80 * B + I) (80 * (1 - B) + (L.getD (nv k) []).getD 0 0) (by omega) (by have := hl.2; omega)) (show (0 : Nat) < NT by decide) (hd_at (a := 0) (by decide) rfl) (xRoom.of rfl) (Nat.le_of_ble_eq_true rfl) dX9_set_96 (fun r_ n_ h_ hq => ?_)
        obtain ⟨rfl, rfl, rfl⟩ := hq
        refine x_istore4 dX9_set_99 rfl rfl rfl ?_
        refine x_iconst (nI 1) dX9_set_101 (by decide) ?_
        refine x_istore5 dX9_set_102 rfl rfl rfl ?_
        exact lp ⟨c8, c22⟩ (by omega) ((L.getD (nv k) []).length + 1) 1 (by omega) (by omega) (by omega)
      · refine x_bipush (-5) dX9_set_37 (by decide) ?_
        refine x_iret dX9_set_39 rfl ?_ (Nat.zero_le _) (Nat.zero_le _)
        exact ⟨rfl, _, rfl, seD_2 ⟨c8, c22⟩ (by omega)⟩
    · refine x_iconst (-1) dX9_set_25 (by decide) ?_
      refine x_iret dX9_set_26 rfl ?_ (Nat.zero_le _) (Nat.zero_le _)
      first | exact ⟨rfl, _, rfl, seD_1 (fun q => c8 q.1)⟩ | exact ⟨rfl, _, rfl, seD_1 (fun q => c22 q.2)⟩
