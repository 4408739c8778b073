set_option maxHeartbeats 4000000 in
theorem k_within (G : vx_G) {n : Nat} {h : vx_H} (v a b : Int32) : xK G M_X10_within 0 [(.int v), (.int a), (.int b)] NT h 0 0 (QI (fun r n' h' => r = (if a ≤ v ∧ v ≤ b then 1 else 0) ∧ n' = NT ∧ h' = h)) := by
  refine xK.ofV (by decide) (Nat.le_of_ble_eq_true rfl) ?_
  refine xV.lveq (L' := [some (.int v), some (.int a), some (.int b)]) rfl ?_
  refine x_iload0 dX10_within_0 ?_
  refine x_iload1 dX10_within_1 ?_
  refine x_icmp_lt 14 dX10_within_2 (by decide) (fun c2 => ?_) (fun c2 => ?_)
  · refine x_iconst (nI 0) dX10_within_14 (by decide) ?_
    refine x_zret dX10_within_15 rfl (by first | exact Or.inl rfl | exact Or.inr rfl) ?_ (Nat.zero_le _) (Nat.zero_le _)
    exact ⟨by simp_all, rfl, rfl⟩
  · refine x_iload0 dX10_within_5 ?_
    refine x_iload2 dX10_within_6 ?_
    refine x_icmp_gt 14 dX10_within_7 (by decide) (fun c7 => ?_) (fun c7 => ?_)
    · refine x_iconst (nI 0) dX10_within_14 (by decide) ?_
      refine x_zret dX10_within_15 rfl (by first | exact Or.inl rfl | exact Or.inr rfl) ?_ (Nat.zero_le _) (Nat.zero_le _)
      exact ⟨by simp_all, rfl, rfl⟩
    · refine x_iconst (nI 1) dX10_within_10 (by decide) ?_
      refine x_goto 15 dX10_within_11 (by decide) ?_
      refine x_zret dX10_within_15 rfl (by first | exact Or.inl rfl | exact Or.inr rfl) ?_ (Nat.zero_le _) (Nat.zero_le _)
      exact ⟨by simp_all, rfl, rfl⟩
