/-! ===== rules over numbers that are told as nI n ===== -/
theorem xRoom.of {R : Room} {mt : vx_M} {d mc ms ce sl : Nat} (h : (Nat.ble (d + 1) R.frames && Nat.ble (8 + (mt.2.2.1 + 11) + 64 * d) R.locals && Nat.ble (ce + mc) R.cells && Nat.ble (sl + ms) R.slots) = true) : xRoom R mt d mc ms ce sl := by
  simp only [Bool.and_eq_true] at h
  exact ⟨⟨Nat.le_of_ble_eq_true h.1.1.1, Nat.le_of_ble_eq_true h.1.1.2⟩, Nat.le_of_ble_eq_true h.1.2, Nat.le_of_ble_eq_true h.2⟩
section XNAT
variable {F : vx_F} {pc : Nat} {L : List (Option Value)} {st : List Value} {n : Nat} {h : vx_H} {ce sl : Nat}
theorem n_icmp_ge {a b : Nat} {off : Int} (tgt : Nat) (hd : decode F.2.1.2.1 pc = .ok (.if_icmp .ge off, 3)) (ht : (pc : Int) + off = (tgt : Int)) (ha : a < 2147483648) (hb : b < 2147483648) (kt : b ≤ a → xV F tgt L st n h ce sl) (kf : a < b → xV F (pc + 3) L st n h ce sl) : xV F pc L (.int (nI b) :: .int (nI a) :: st) n h ce sl :=
  x_icmp_ge tgt hd ht (fun q => kt ((nI_leI hb ha).mp q)) (fun q => kf (Nat.not_le.mp (fun z => q ((nI_leI hb ha).mpr z))))
theorem n_icmp_lt {a b : Nat} {off : Int} (tgt : Nat) (hd : decode F.2.1.2.1 pc = .ok (.if_icmp .lt off, 3)) (ht : (pc : Int) + off = (tgt : Int)) (ha : a < 2147483648) (hb : b < 2147483648) (kt : a < b → xV F tgt L st n h ce sl) (kf : b ≤ a → xV F (pc + 3) L st n h ce sl) : xV F pc L (.int (nI b) :: .int (nI a) :: st) n h ce sl :=
  x_icmp_lt tgt hd ht (fun q => kt ((nI_ltI ha hb).mp q)) (fun q => kf (Nat.not_lt.mp (fun z => q ((nI_ltI ha hb).mpr z))))
theorem n_icmp_gt {a b : Nat} {off : Int} (tgt : Nat) (hd : decode F.2.1.2.1 pc = .ok (.if_icmp .gt off, 3)) (ht : (pc : Int) + off = (tgt : Int)) (ha : a < 2147483648) (hb : b < 2147483648) (kt : b < a → xV F tgt L st n h ce sl) (kf : a ≤ b → xV F (pc + 3) L st n h ce sl) : xV F pc L (.int (nI b) :: .int (nI a) :: st) n h ce sl :=
  x_icmp_gt tgt hd ht (fun q => kt ((nI_ltI hb ha).mp q)) (fun q => kf (Nat.not_lt.mp (fun z => q ((nI_ltI hb ha).mpr z))))
theorem n_icmp_le {a b : Nat} {off : Int} (tgt : Nat) (hd : decode F.2.1.2.1 pc = .ok (.if_icmp .le off, 3)) (ht : (pc : Int) + off = (tgt : Int)) (ha : a < 2147483648) (hb : b < 2147483648) (kt : a ≤ b → xV F tgt L st n h ce sl) (kf : b < a → xV F (pc + 3) L st n h ce sl) : xV F pc L (.int (nI b) :: .int (nI a) :: st) n h ce sl :=
  x_icmp_le tgt hd ht (fun q => kt ((nI_leI ha hb).mp q)) (fun q => kf (Nat.not_le.mp (fun z => q ((nI_leI ha hb).mpr z))))
theorem n_icmp_eq {a b : Nat} {off : Int} (tgt : Nat) (hd : decode F.2.1.2.1 pc = .ok (.if_icmp .eq off, 3)) (ht : (pc : Int) + off = (tgt : Int)) (ha : a < 2147483648) (hb : b < 2147483648) (kt : a = b → xV F tgt L st n h ce sl) (kf : a ≠ b → xV F (pc + 3) L st n h ce sl) : xV F pc L (.int (nI b) :: .int (nI a) :: st) n h ce sl :=
  x_icmp_eq tgt hd ht (fun q => kt ((nI_eq ha hb).mp q)) (fun q => kf (fun z => q ((nI_eq ha hb).mpr z)))
theorem n_icmp_ne {a b : Nat} {off : Int} (tgt : Nat) (hd : decode F.2.1.2.1 pc = .ok (.if_icmp .ne off, 3)) (ht : (pc : Int) + off = (tgt : Int)) (ha : a < 2147483648) (hb : b < 2147483648) (kt : a ≠ b → xV F tgt L st n h ce sl) (kf : a = b → xV F (pc + 3) L st n h ce sl) : xV F pc L (.int (nI b) :: .int (nI a) :: st) n h ce sl :=
  x_icmp_ne tgt hd ht (fun q => kt (fun z => q ((nI_eq ha hb).mpr z))) (fun q => kf ((nI_eq ha hb).mp q))
theorem n_if_lt {a : Nat} {off : Int} (hd : decode F.2.1.2.1 pc = .ok (.ifCond .lt off, 3)) (tgt : Nat) (ht : (pc : Int) + off = (tgt : Int)) (ha : a < 2147483648) (kf : xV F (pc + 3) L st n h ce sl) : xV F pc L (.int (nI a) :: st) n h ce sl :=
  x_if_lt tgt hd ht (fun q => absurd q (nI_pos ha)) (fun _ => kf)
theorem n_if_ge {a : Nat} {off : Int} (tgt : Nat) (hd : decode F.2.1.2.1 pc = .ok (.ifCond .ge off, 3)) (ht : (pc : Int) + off = (tgt : Int)) (ha : a < 2147483648) (kt : xV F tgt L st n h ce sl) : xV F pc L (.int (nI a) :: st) n h ce sl :=
  x_if_ge tgt hd ht (fun _ => kt) (fun q => absurd (nI_pos' ha) q)
theorem n_if_eq {a : Nat} {off : Int} (tgt : Nat) (hd : decode F.2.1.2.1 pc = .ok (.ifCond .eq off, 3)) (ht : (pc : Int) + off = (tgt : Int)) (ha : a < 2147483648) (kt : a = 0 → xV F tgt L st n h ce sl) (kf : a ≠ 0 → xV F (pc + 3) L st n h ce sl) : xV F pc L (.int (nI a) :: st) n h ce sl :=
  x_if_eq tgt hd ht (fun q => kt ((nI_eq ha (by omega)).mp (q.trans nI_0.symm))) (fun q => kf (fun z => q (by rw [z]; exact nI_0)))
theorem n_if_ne {a : Nat} {off : Int} (tgt : Nat) (hd : decode F.2.1.2.1 pc = .ok (.ifCond .ne off, 3)) (ht : (pc : Int) + off = (tgt : Int)) (ha : a < 2147483648) (kt : a ≠ 0 → xV F tgt L st n h ce sl) (kf : a = 0 → xV F (pc + 3) L st n h ce sl) : xV F pc L (.int (nI a) :: st) n h ce sl :=
  x_if_ne tgt hd ht (fun q => kt (fun z => q (by rw [z]; exact nI_0))) (fun q => kf ((nI_eq ha (by omega)).mp (q.trans nI_0.symm)))
theorem n_iadd {a b : Nat} (hd : decode F.2.1.2.1 pc = .ok (.iadd, 1)) (k : xV F (pc + 1) L (.int (nI (a + b)) :: st) n h ce sl) : xV F pc L (.int (nI b) :: .int (nI a) :: st) n h ce sl := x_iadd hd (xV.toi _ (nI_add a b) k)
theorem n_imul {a b : Nat} (hd : decode F.2.1.2.1 pc = .ok (.imul, 1)) (k : xV F (pc + 1) L (.int (nI (a * b)) :: st) n h ce sl) : xV F pc L (.int (nI b) :: .int (nI a) :: st) n h ce sl := x_imul hd (xV.toi _ (pk_mul a b) k)
theorem n_isub {a b : Nat} (hd : decode F.2.1.2.1 pc = .ok (.isub, 1)) (hb : b ≤ a) (k : xV F (pc + 1) L (.int (nI (a - b)) :: st) n h ce sl) : xV F pc L (.int (nI b) :: .int (nI a) :: st) n h ce sl := x_isub hd (xV.toi _ (pk_sub hb) k)
theorem n_idiv {a b : Nat} (hd : decode F.2.1.2.1 pc = .ok (.idiv, 1)) (ha : a < 2147483648) (h0 : 0 < b) (hb : b < 2147483648) (k : xV F (pc + 1) L (.int (nI (a / b)) :: st) n h ce sl) : xV F pc L (.int (nI b) :: .int (nI a) :: st) n h ce sl := x_idiv hd (nI_ne0 h0 hb) (xV.toi _ (pk_div ha h0 hb) k)
theorem n_irem {a b : Nat} (hd : decode F.2.1.2.1 pc = .ok (.irem, 1)) (ha : a < 2147483648) (h0 : 0 < b) (hb : b < 2147483648) (k : xV F (pc + 1) L (.int (nI (a % b)) :: st) n h ce sl) : xV F pc L (.int (nI b) :: .int (nI a) :: st) n h ce sl := x_irem hd (nI_ne0 h0 hb) (xV.toi _ (pk_rem ha h0 hb) k)
end XNAT
