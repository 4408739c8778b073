/-! ===== the model's constructor ===== -/
def m0 : mS := (fun k => if k = 8 then fun _ => nI 5 else if k = 27 then fun _ => -1 else if k = 28 then fun _ => -1 else fun _ => 0, fun _ => 0)
def fs0 : List Value := [.null, .null, .null, .null, .null, .null, .null, .int 0, .int 0, .int 0, .null, .null, .null, .null, .null, .null, .int 0, .int 0, .null, .null, .int 0, .int 0, .null, .null, .null, .int 0, .null, .int 0, .int 0, .null, .int 0, .int 0, .int 0, .null, .null, .int 0, .null, .null, .null, .null, .null, .null, .int 0, .null, .null, .null, .int 0]
/-- while the model is made: its object holds fs; the arrays that are not made yet lie behind the heap's end -/
def hI (h : vx_H) (fs : List Value) : vx_H := fun a => if a = MB then .inr (10, fs) else hp h m0 a
theorem hI_0 (h : vx_H) (fs : List Value) : hI h fs MB = .inr (10, fs) := if_pos rfl
theorem hI_put (h : vx_H) (fs fs' : List Value) {n : Nat} : ∀ a, a < n → va_up (hI h fs) MB (.inr (10, fs')) a = hI h fs' a := by
  intro a _
  unfold va_up hI
  by_cases e : a = MB
  · rw [if_pos e, if_pos e]
  · rw [if_neg e, if_neg e, if_neg e]
theorem hI_new (h : vx_H) (fs : List Value) (o : Nat) {e : va_E} (he : e = mA m0 o) : ∀ a, a < MB + (o + 1) + 1 → va_up (hI h fs) (MB + (o + 1)) e a = hI h fs a := by
  intro a _
  unfold va_up
  by_cases q : a = MB + (o + 1)
  · rw [if_pos q, q]
    unfold hI
    rw [if_neg (by omega), hp_m, he]
    rfl
  · rw [if_neg q]
section XI
variable {F : vx_F} {pc : Nat} {L : List (Option Value)} {st : List Value} {ce sl : Nat} {h : vx_H} {fs : List Value}
theorem ci_na (o : Nat) {k : Int32} (hk : ¬ k < 0) (hN : k.toNatClampNeg = lT o) (he : .inl (0, lT o, .inl (fun _ => 0)) = mA m0 o) (hb : lT o * 4 ≤ 536870912) (hc : ce + 1 ≤ F.2.2.1.cells) (hs : sl + lT o ≤ F.2.2.1.slots) (hd : decode F.2.1.2.1 pc = .ok (.newarray .int, 2)) (kk : xV F (pc + 2) L (.ref (MB + (o + 1)) :: st) (MB + (o + 1) + 1) (hI h fs) (ce + 1) (sl + lT o)) : xV F pc L (.int k :: st) (MB + (o + 1)) (hI h fs) ce sl :=
  x_newa (Or.inl ⟨rfl, rfl, rfl, rfl⟩) ac_int hk hN hb hc hs hd (xV.heap (hI_new h fs o he) kk)
theorem ci_nz (o : Nat) {k : Int32} (hk : ¬ k < 0) (hN : k.toNatClampNeg = lT o) (he : .inl (1, lT o, .inl (fun _ => 0)) = mA m0 o) (hb : lT o * 1 ≤ 536870912) (hc : ce + 1 ≤ F.2.2.1.cells) (hs : sl + lT o ≤ F.2.2.1.slots) (hd : decode F.2.1.2.1 pc = .ok (.newarray .boolean, 2)) (kk : xV F (pc + 2) L (.ref (MB + (o + 1)) :: st) (MB + (o + 1) + 1) (hI h fs) (ce + 1) (sl + lT o)) : xV F pc L (.int k :: st) (MB + (o + 1)) (hI h fs) ce sl :=
  x_newa (Or.inr (Or.inl ⟨rfl, rfl, rfl, rfl⟩)) ac_bool hk hN hb hc hs hd (xV.heap (hI_new h fs o he) kk)
theorem ci_nl (o : Nat) {k : Int32} (hk : ¬ k < 0) (hN : k.toNatClampNeg = lT o) (he : .inl (2, lT o, .inr (.inl (fun _ => 0))) = mA m0 o) (hb : lT o * 8 ≤ 536870912) (hc : ce + 1 ≤ F.2.2.1.cells) (hs : sl + lT o ≤ F.2.2.1.slots) (hd : decode F.2.1.2.1 pc = .ok (.newarray .long, 2)) (kk : xV F (pc + 2) L (.ref (MB + (o + 1)) :: st) (MB + (o + 1) + 1) (hI h fs) (ce + 1) (sl + lT o)) : xV F pc L (.int k :: st) (MB + (o + 1)) (hI h fs) ce sl :=
  x_newa (Or.inr (Or.inr ⟨rfl, rfl, rfl, rfl⟩)) ac_long hk hN hb hc hs hd (xV.heap (hI_new h fs o he) kk)
theorem ci_pF {idx k n : Nat} {ty : FieldType} {v : Value} (hf : xFP F.2.1.1.cls idx 10 k ty true) (hn : MB < n) (hini : F.2.1.1.name = "<init>") (h1 : narrow ty v = v) (h2 : fits ty v = true) (hl : k < fs.length) (hd : decode F.2.1.2.1 pc = .ok (.putfield idx, 3)) (kk : xV F (pc + 3) L st n (hI h (fs.set k v)) ce sl) : xV F pc L (v :: .ref MB :: st) n (hI h fs) ce sl :=
  x_putF hf hn (hI_0 h fs) hini h1 h2 hl hd (xV.heap (hI_put h fs _) kk)
theorem ci_pf {idx k n : Nat} {ty : FieldType} {v : Value} (hf : xFP F.2.1.1.cls idx 10 k ty false) (hn : MB < n) (h1 : narrow ty v = v) (h2 : fits ty v = true) (hl : k < fs.length) (hd : decode F.2.1.2.1 pc = .ok (.putfield idx, 3)) (kk : xV F (pc + 3) L st n (hI h (fs.set k v)) ce sl) : xV F pc L (v :: .ref MB :: st) n (hI h fs) ce sl :=
  x_putf hf hn (hI_0 h fs) h1 h2 hl hd (xV.heap (hI_put h fs _) kk)
end XI

theorem hI_end (h : vx_H) (a : Nat) : hI h (mFs m0) a = hp h m0 a := by
  unfold hI
  by_cases e : a = MB
  · rw [if_pos e, e, hp_m0]
  · rw [if_neg e]
set_option maxHeartbeats 4000000 in
set_option maxRecDepth 20000 in
theorem k_init (G : vx_G) (h : vx_H) (hh : h MB = .inr (10, fs0)) : xK G M_X10_init 1 [.ref MB] (MB + 1) h 31 274862 (QV (fun n' h' => n' = NT ∧ ∀ a, a < NT → h' a = hp h m0 a)) := by
  refine xK.ofV (by decide) (Nat.le_of_ble_eq_true rfl) ?_
  refine xV.lveq (L' := [some (.ref MB)]) rfl ?_
  refine xV.heap (h' := hI h fs0) (fun a ha => ?_) ?_
  · unfold hI
    by_cases e : a = MB
    · rw [if_pos e, e, hh]
    · rw [if_neg e, hp_x h m0 (by omega)]
  refine x_aload0 dX10_init_0 ?_
  refine x_objInit moX10_1 mo_i mo_c (Nat.le_of_ble_eq_true rfl) (Nat.le_of_ble_eq_true rfl) dX10_init_1 ?_
  refine x_aload0 dX10_init_4 ?_
  refine x_sipush (nI 160) dX10_init_5 (by decide) ?_
  refine ci_na 0 (by decide) (by decide) rfl (by decide) (Nat.le_of_ble_eq_true rfl) (Nat.le_of_ble_eq_true rfl) dX10_init_8 ?_
  refine ci_pF fpX10_9 (Nat.le_of_ble_eq_true rfl) rfl rfl rfl (Nat.le_of_ble_eq_true rfl) dX10_init_10 ?_
  refine x_aload0 dX10_init_13 ?_
  refine x_sipush (nI 160) dX10_init_14 (by decide) ?_
  refine ci_na 1 (by decide) (by decide) rfl (by decide) (Nat.le_of_ble_eq_true rfl) (Nat.le_of_ble_eq_true rfl) dX10_init_17 ?_
  refine ci_pF fpX10_13 (Nat.le_of_ble_eq_true rfl) rfl rfl rfl (Nat.le_of_ble_eq_true rfl) dX10_init_19 ?_
  refine x_aload0 dX10_init_22 ?_
  refine x_sipush (nI 160) dX10_init_23 (by decide) ?_
  refine ci_na 2 (by decide) (by decide) rfl (by decide) (Nat.le_of_ble_eq_true rfl) (Nat.le_of_ble_eq_true rfl) dX10_init_26 ?_
  refine ci_pF fpX10_16 (Nat.le_of_ble_eq_true rfl) rfl rfl rfl (Nat.le_of_ble_eq_true rfl) dX10_init_28 ?_
  refine x_aload0 dX10_init_31 ?_
  refine x_sipush (nI 160) dX10_init_32 (by decide) ?_
  refine ci_na 3 (by decide) (by decide) rfl (by decide) (Nat.le_of_ble_eq_true rfl) (Nat.le_of_ble_eq_true rfl) dX10_init_35 ?_
  refine ci_pF fpX10_19 (Nat.le_of_ble_eq_true rfl) rfl rfl rfl (Nat.le_of_ble_eq_true rfl) dX10_init_37 ?_
  refine x_aload0 dX10_init_40 ?_
  refine x_sipush (nI 160) dX10_init_41 (by decide) ?_
  refine ci_na 4 (by decide) (by decide) rfl (by decide) (Nat.le_of_ble_eq_true rfl) (Nat.le_of_ble_eq_true rfl) dX10_init_44 ?_
  refine ci_pF fpX10_22 (Nat.le_of_ble_eq_true rfl) rfl rfl rfl (Nat.le_of_ble_eq_true rfl) dX10_init_46 ?_
  refine x_aload0 dX10_init_49 ?_
  refine x_sipush (nI 160) dX10_init_50 (by decide) ?_
  refine ci_na 5 (by decide) (by decide) rfl (by decide) (Nat.le_of_ble_eq_true rfl) (Nat.le_of_ble_eq_true rfl) dX10_init_53 ?_
  refine ci_pF fpX10_25 (Nat.le_of_ble_eq_true rfl) rfl rfl rfl (Nat.le_of_ble_eq_true rfl) dX10_init_55 ?_
  refine x_aload0 dX10_init_58 ?_
  refine x_iconst (nI 2) dX10_init_59 (by decide) ?_
  refine ci_na 6 (by decide) (by decide) rfl (by decide) (Nat.le_of_ble_eq_true rfl) (Nat.le_of_ble_eq_true rfl) dX10_init_60 ?_
  refine ci_pF fpX10_28 (Nat.le_of_ble_eq_true rfl) rfl rfl rfl (Nat.le_of_ble_eq_true rfl) dX10_init_62 ?_
  refine x_aload0 dX10_init_65 ?_
  refine x_iconst (nI 5) dX10_init_66 (by decide) ?_
  refine ci_pf fpX10_31 (Nat.le_of_ble_eq_true rfl) rfl rfl (Nat.le_of_ble_eq_true rfl) dX10_init_67 ?_
  refine x_aload0 dX10_init_70 ?_
  refine x_sipush (nI 200) dX10_init_71 (by decide) ?_
  refine ci_na 7 (by decide) (by decide) rfl (by decide) (Nat.le_of_ble_eq_true rfl) (Nat.le_of_ble_eq_true rfl) dX10_init_74 ?_
  refine ci_pF fpX10_35 (Nat.le_of_ble_eq_true rfl) rfl rfl rfl (Nat.le_of_ble_eq_true rfl) dX10_init_76 ?_
  refine x_aload0 dX10_init_79 ?_
  refine x_sipush (nI 1600) dX10_init_80 (by decide) ?_
  refine ci_na 8 (by decide) (by decide) rfl (by decide) (Nat.le_of_ble_eq_true rfl) (Nat.le_of_ble_eq_true rfl) dX10_init_83 ?_
  refine ci_pF fpX10_38 (Nat.le_of_ble_eq_true rfl) rfl rfl rfl (Nat.le_of_ble_eq_true rfl) dX10_init_85 ?_
  refine x_aload0 dX10_init_88 ?_
  refine x_sipush (nI 200) dX10_init_89 (by decide) ?_
  refine ci_na 9 (by decide) (by decide) rfl (by decide) (Nat.le_of_ble_eq_true rfl) (Nat.le_of_ble_eq_true rfl) dX10_init_92 ?_
  refine ci_pF fpX10_41 (Nat.le_of_ble_eq_true rfl) rfl rfl rfl (Nat.le_of_ble_eq_true rfl) dX10_init_94 ?_
  refine x_aload0 dX10_init_97 ?_
  refine x_sipush (nI 200) dX10_init_98 (by decide) ?_
  refine ci_na 10 (by decide) (by decide) rfl (by decide) (Nat.le_of_ble_eq_true rfl) (Nat.le_of_ble_eq_true rfl) dX10_init_101 ?_
  refine ci_pF fpX10_44 (Nat.le_of_ble_eq_true rfl) rfl rfl rfl (Nat.le_of_ble_eq_true rfl) dX10_init_103 ?_
  refine x_aload0 dX10_init_106 ?_
  refine x_sipush (nI 200) dX10_init_107 (by decide) ?_
  refine ci_na 11 (by decide) (by decide) rfl (by decide) (Nat.le_of_ble_eq_true rfl) (Nat.le_of_ble_eq_true rfl) dX10_init_110 ?_
  refine ci_pF fpX10_47 (Nat.le_of_ble_eq_true rfl) rfl rfl rfl (Nat.le_of_ble_eq_true rfl) dX10_init_112 ?_
  refine x_aload0 dX10_init_115 ?_
  refine x_sipush (nI 200) dX10_init_116 (by decide) ?_
  refine ci_nz 12 (by decide) (by decide) rfl (by decide) (Nat.le_of_ble_eq_true rfl) (Nat.le_of_ble_eq_true rfl) dX10_init_119 ?_
  refine ci_pF fpX10_50 (Nat.le_of_ble_eq_true rfl) rfl rfl rfl (Nat.le_of_ble_eq_true rfl) dX10_init_121 ?_
  refine x_aload0 dX10_init_124 ?_
  refine x_bipush (nI 14) dX10_init_125 (by decide) ?_
  refine ci_na 13 (by decide) (by decide) rfl (by decide) (Nat.le_of_ble_eq_true rfl) (Nat.le_of_ble_eq_true rfl) dX10_init_127 ?_
  refine ci_pF fpX10_54 (Nat.le_of_ble_eq_true rfl) rfl rfl rfl (Nat.le_of_ble_eq_true rfl) dX10_init_129 ?_
  refine x_aload0 dX10_init_132 ?_
  refine x_bipush (nI 14) dX10_init_133 (by decide) ?_
  refine ci_na 14 (by decide) (by decide) rfl (by decide) (Nat.le_of_ble_eq_true rfl) (Nat.le_of_ble_eq_true rfl) dX10_init_135 ?_
  refine ci_pF fpX10_57 (Nat.le_of_ble_eq_true rfl) rfl rfl rfl (Nat.le_of_ble_eq_true rfl) dX10_init_137 ?_
  refine x_aload0 dX10_init_140 ?_
  refine x_sipush (nI 196) dX10_init_141 (by decide) ?_
  refine ci_na 15 (by decide) (by decide) rfl (by decide) (Nat.le_of_ble_eq_true rfl) (Nat.le_of_ble_eq_true rfl) dX10_init_144 ?_
  refine ci_pF fpX10_60 (Nat.le_of_ble_eq_true rfl) rfl rfl rfl (Nat.le_of_ble_eq_true rfl) dX10_init_146 ?_
  refine x_aload0 dX10_init_149 ?_
  refine x_ldc kcX10_63 dX10_init_150 ?_
  refine ci_na 16 (by decide) (by decide) rfl (by decide) (Nat.le_of_ble_eq_true rfl) (Nat.le_of_ble_eq_true rfl) dX10_init_152 ?_
  refine ci_pF fpX10_64 (Nat.le_of_ble_eq_true rfl) rfl rfl rfl (Nat.le_of_ble_eq_true rfl) dX10_init_154 ?_
  refine x_aload0 dX10_init_157 ?_
  refine x_bipush (nI 14) dX10_init_158 (by decide) ?_
  refine ci_na 17 (by decide) (by decide) rfl (by decide) (Nat.le_of_ble_eq_true rfl) (Nat.le_of_ble_eq_true rfl) dX10_init_160 ?_
  refine ci_pF fpX10_67 (Nat.le_of_ble_eq_true rfl) rfl rfl rfl (Nat.le_of_ble_eq_true rfl) dX10_init_162 ?_
  refine x_aload0 dX10_init_165 ?_
  refine x_bipush (nI 14) dX10_init_166 (by decide) ?_
  refine ci_nz 18 (by decide) (by decide) rfl (by decide) (Nat.le_of_ble_eq_true rfl) (Nat.le_of_ble_eq_true rfl) dX10_init_168 ?_
  refine ci_pF fpX10_70 (Nat.le_of_ble_eq_true rfl) rfl rfl rfl (Nat.le_of_ble_eq_true rfl) dX10_init_170 ?_
  refine x_aload0 dX10_init_173 ?_
  refine x_iconst (-1) dX10_init_174 (by decide) ?_
  refine ci_pf fpX10_73 (Nat.le_of_ble_eq_true rfl) rfl rfl (Nat.le_of_ble_eq_true rfl) dX10_init_175 ?_
  refine x_aload0 dX10_init_178 ?_
  refine x_iconst (-1) dX10_init_179 (by decide) ?_
  refine ci_pf fpX10_76 (Nat.le_of_ble_eq_true rfl) rfl rfl (Nat.le_of_ble_eq_true rfl) dX10_init_180 ?_
  refine x_aload0 dX10_init_183 ?_
  refine x_bipush (nI 14) dX10_init_184 (by decide) ?_
  refine ci_na 19 (by decide) (by decide) rfl (by decide) (Nat.le_of_ble_eq_true rfl) (Nat.le_of_ble_eq_true rfl) dX10_init_186 ?_
  refine ci_pF fpX10_79 (Nat.le_of_ble_eq_true rfl) rfl rfl rfl (Nat.le_of_ble_eq_true rfl) dX10_init_188 ?_
  refine x_aload0 dX10_init_191 ?_
  refine x_sipush (nI 5000) dX10_init_192 (by decide) ?_
  refine ci_na 20 (by decide) (by decide) rfl (by decide) (Nat.le_of_ble_eq_true rfl) (Nat.le_of_ble_eq_true rfl) dX10_init_195 ?_
  refine ci_pF fpX10_82 (Nat.le_of_ble_eq_true rfl) rfl rfl rfl (Nat.le_of_ble_eq_true rfl) dX10_init_197 ?_
  refine x_aload0 dX10_init_200 ?_
  refine x_sipush (nI 20000) dX10_init_201 (by decide) ?_
  refine ci_na 21 (by decide) (by decide) rfl (by decide) (Nat.le_of_ble_eq_true rfl) (Nat.le_of_ble_eq_true rfl) dX10_init_204 ?_
  refine ci_pF fpX10_85 (Nat.le_of_ble_eq_true rfl) rfl rfl rfl (Nat.le_of_ble_eq_true rfl) dX10_init_206 ?_
  refine x_aload0 dX10_init_209 ?_
  refine x_iconst (nI 4) dX10_init_210 (by decide) ?_
  refine ci_na 22 (by decide) (by decide) rfl (by decide) (Nat.le_of_ble_eq_true rfl) (Nat.le_of_ble_eq_true rfl) dX10_init_211 ?_
  refine ci_pF fpX10_88 (Nat.le_of_ble_eq_true rfl) rfl rfl rfl (Nat.le_of_ble_eq_true rfl) dX10_init_213 ?_
  refine x_aload0 dX10_init_216 ?_
  refine x_bipush (nI 18) dX10_init_217 (by decide) ?_
  refine ci_na 23 (by decide) (by decide) rfl (by decide) (Nat.le_of_ble_eq_true rfl) (Nat.le_of_ble_eq_true rfl) dX10_init_219 ?_
  refine ci_pF fpX10_91 (Nat.le_of_ble_eq_true rfl) rfl rfl rfl (Nat.le_of_ble_eq_true rfl) dX10_init_221 ?_
  refine x_aload0 dX10_init_224 ?_
  refine x_bipush (nI 18) dX10_init_225 (by decide) ?_
  refine ci_na 24 (by decide) (by decide) rfl (by decide) (Nat.le_of_ble_eq_true rfl) (Nat.le_of_ble_eq_true rfl) dX10_init_227 ?_
  refine ci_pF fpX10_94 (Nat.le_of_ble_eq_true rfl) rfl rfl rfl (Nat.le_of_ble_eq_true rfl) dX10_init_229 ?_
  refine x_aload0 dX10_init_232 ?_
  refine x_bipush (nI 18) dX10_init_233 (by decide) ?_
  refine ci_nl 25 (by decide) (by decide) rfl (by decide) (Nat.le_of_ble_eq_true rfl) (Nat.le_of_ble_eq_true rfl) dX10_init_235 ?_
  refine ci_pF fpX10_97 (Nat.le_of_ble_eq_true rfl) rfl rfl rfl (Nat.le_of_ble_eq_true rfl) dX10_init_237 ?_
  refine x_aload0 dX10_init_240 ?_
  refine x_bipush (nI 18) dX10_init_241 (by decide) ?_
  refine ci_na 26 (by decide) (by decide) rfl (by decide) (Nat.le_of_ble_eq_true rfl) (Nat.le_of_ble_eq_true rfl) dX10_init_243 ?_
  refine ci_pF fpX10_101 (Nat.le_of_ble_eq_true rfl) rfl rfl rfl (Nat.le_of_ble_eq_true rfl) dX10_init_245 ?_
  refine x_aload0 dX10_init_248 ?_
  refine x_bipush (nI 18) dX10_init_249 (by decide) ?_
  refine ci_na 27 (by decide) (by decide) rfl (by decide) (Nat.le_of_ble_eq_true rfl) (Nat.le_of_ble_eq_true rfl) dX10_init_251 ?_
  refine ci_pF fpX10_104 (Nat.le_of_ble_eq_true rfl) rfl rfl rfl (Nat.le_of_ble_eq_true rfl) dX10_init_253 ?_
  refine x_aload0 dX10_init_256 ?_
  refine x_bipush (nI 60) dX10_init_257 (by decide) ?_
  refine ci_na 28 (by decide) (by decide) rfl (by decide) (Nat.le_of_ble_eq_true rfl) (Nat.le_of_ble_eq_true rfl) dX10_init_259 ?_
  refine ci_pF fpX10_107 (Nat.le_of_ble_eq_true rfl) rfl rfl rfl (Nat.le_of_ble_eq_true rfl) dX10_init_261 ?_
  refine x_aload0 dX10_init_264 ?_
  refine x_bipush (nI 60) dX10_init_265 (by decide) ?_
  refine ci_na 29 (by decide) (by decide) rfl (by decide) (Nat.le_of_ble_eq_true rfl) (Nat.le_of_ble_eq_true rfl) dX10_init_267 ?_
  refine ci_pF fpX10_110 (Nat.le_of_ble_eq_true rfl) rfl rfl rfl (Nat.le_of_ble_eq_true rfl) dX10_init_269 ?_
  refine x_aload0 dX10_init_272 ?_
  refine x_bipush (nI 60) dX10_init_273 (by decide) ?_
  refine ci_na 30 (by decide) (by decide) rfl (by decide) (Nat.le_of_ble_eq_true rfl) (Nat.le_of_ble_eq_true rfl) dX10_init_275 ?_
  refine ci_pF fpX10_113 (Nat.le_of_ble_eq_true rfl) rfl rfl rfl (Nat.le_of_ble_eq_true rfl) dX10_init_277 ?_
  refine x_vret dX10_init_280 rfl ?_ (Nat.le_of_ble_eq_true rfl) (Nat.le_of_ble_eq_true rfl)
  exact ⟨rfl, fun a _ => hI_end h a⟩
