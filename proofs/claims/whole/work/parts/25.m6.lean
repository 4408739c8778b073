/-! ===== the model's methods, 6: fit, undo ===== -/
def apI (a b : Int32) : Int32 := if a < b then b - a else a - b
/-- a hand's group that stands, with these words in it -/
def hdP (m : mS) (wa wc : Int32) (g : Nat) : Bool := decide (m.1 14 g < 0 ∧ m.1 10 g = nI 2 ∧ 0 < fb_ct (wdP m g 0 wa) (nM m g) ∧ 0 < fb_ct (wdP m g 1 wc) (nM m g))
def hdN (m : mS) (A C : Nat) : Nat := fb_ct (hdP m (m.1 2 A) (m.1 2 C)) (nG m)
abbrev noFit (m : mS) (A C : Nat) : Prop := m.1 8 0 < apI (m.1 1 A) (m.1 1 C) ∨ m.1 9 0 < apI (m.1 0 A) (m.1 0 C) ∨ (¬ m.1 3 A = 0 ∧ ¬ m.1 3 C = 0 ∧ ¬ m.1 3 A = m.1 3 C)
def fitF (m : mS) (A C : Nat) : Int32 := nI 100 - nI 2 * apI (m.1 1 A) (m.1 1 C) - apI (m.1 0 A) (m.1 0 C) / nI 100 + (if ¬ m.1 3 A = 0 ∧ m.1 3 A = m.1 3 C then nI 50 else nI 0) + (if m.1 2 A = m.1 2 C then nI 30 else nI 0) + nI (10 * min (hdN m A C) 5)
def fitV (m : mS) (A C : Nat) : Int32 := if noFit m A C then nI 0 else if fitF m A C < nI 1 then nI 1 else fitF m A C

set_option maxHeartbeats 4000000 in
theorem k_fitOf (G : vx_G) (x : vx_H) (m : mS) (hG : iG m) (hM : iMs m) (A B : Nat) (hA : A < 160) (hB : B < 80) : xK G M_X10_fitOf 1 [(.ref MB), (.int (nI (A))), (.int (nI (B)))] NT (hp x m) 0 0 (QI (fun r n' h' => r = fitV m A (80 + B) ∧ n' = NT ∧ h' = hp x m)) := by
  have hG2 := hG.2
  have lp : ∀ (dy of : Int32), (dy = apI (m.1 1 A) (m.1 1 (80 + B))) → (of = apI (m.1 0 A) (m.1 0 (80 + B))) → (¬ noFit m A (80 + B)) → ∀ (n_ : Nat) (g c : Nat), g ≤ nG m → nG m + 1 ≤ g + n_ → (c = fb_ct (hdP m (m.1 2 A) (m.1 2 (80 + B))) g) → xV (mF G M_X10_fitOf 1 0 0 (QI (fun r n' h' => r = fitV m A (80 + B) ∧ n' = NT ∧ h' = hp x m))) 98 [some (.ref MB), some (.int (nI (A))), some (.int (nI (B))), some (.int (nI (80 + B))), some (.int dy), some (.int of), some (.int (nI (c))), some (.int (nI (g)))] [] NT (hp x m) 0 0 := by
    intro dy of edy eof hno
    intro n_
    induction n_ with
    | zero => intro g c hi_ hn_; omega
    | succ n_ ih =>
      intro g c hi_ hn_ hc
      refine x_iload7 dX10_fitOf_98 ?_
      refine x_aload0 dX10_fitOf_100 ?_
      refine gm16 fgX10_120 dX10_fitOf_101 ?_
      refine xV.toi (nI (nG m)) (hG.1) ?_
      refine n_icmp_ge 176 dX10_fitOf_104 (by decide) (by omega) (by omega) (fun c104 => ?_) (fun c104 => ?_)
      · have hct := fb_ct_le (hdP m (m.1 2 A) (m.1 2 (80 + B))) g
        have ec : c = hdN m A (80 + B) := by rw [hc, show g = nG m by omega]; rfl
        refine x_bipush (nI 100) dX10_fitOf_176 (by decide) ?_
        refine x_iconst (nI 2) dX10_fitOf_178 (by decide) ?_
        refine x_iload4 dX10_fitOf_179 ?_
        refine x_imul dX10_fitOf_181 ?_
        refine x_isub dX10_fitOf_182 ?_
        refine x_iload5 dX10_fitOf_183 ?_
        refine x_bipush (nI 100) dX10_fitOf_185 (by decide) ?_
        refine x_idiv dX10_fitOf_187 (by decide) ?_
        refine x_isub dX10_fitOf_188 ?_
        refine x_aload0 dX10_fitOf_189 ?_
        refine gm3 fgX10_19 dX10_fitOf_190 ?_
        refine x_iload1 dX10_fitOf_193 ?_
        refine lm3 (A) rfl (by omega) dX10_fitOf_194 ?_
        refine x_if_eq 218 dX10_fitOf_195 (by decide) (fun c195 => ?_) (fun c195 => ?_)
        · have h50 : (if ¬ m.1 3 A = 0 ∧ m.1 3 A = m.1 3 (80 + B) then nI 50 else nI 0) = nI 0 := if_neg (fun q => q.1 c195)
          refine x_iconst (nI 0) dX10_fitOf_218 (by decide) ?_
          refine x_iadd dX10_fitOf_219 ?_
          refine x_aload0 dX10_fitOf_220 ?_
          refine gm2 fgX10_16 dX10_fitOf_221 ?_
          refine x_iload1 dX10_fitOf_224 ?_
          refine lm2 (A) rfl (by omega) dX10_fitOf_225 ?_
          refine x_aload0 dX10_fitOf_226 ?_
          refine gm2 fgX10_16 dX10_fitOf_227 ?_
          refine x_iload3 dX10_fitOf_230 ?_
          refine lm2 (80 + B) rfl (by omega) dX10_fitOf_231 ?_
          refine x_icmp_ne 240 dX10_fitOf_232 (by decide) (fun c232 => ?_) (fun c232 => ?_)
          · have h30 : (if m.1 2 A = m.1 2 (80 + B) then nI 30 else nI 0) = nI 0 := if_neg c232
            refine x_iconst (nI 0) dX10_fitOf_240 (by decide) ?_
            refine x_iadd dX10_fitOf_241 ?_
            refine x_bipush (nI 10) dX10_fitOf_242 (by decide) ?_
            refine x_iload6 dX10_fitOf_244 ?_
            refine x_iconst (nI 5) dX10_fitOf_246 (by decide) ?_
            refine n_icmp_ge 255 dX10_fitOf_247 (by decide) (by omega) (by omega) (fun c247 => ?_) (fun c247 => ?_)
            · have h5 : min (hdN m A (80 + B)) 5 = 5 := by omega
              refine x_iconst (nI 5) dX10_fitOf_255 (by decide) ?_
              refine n_imul dX10_fitOf_256 ?_
              refine x_iadd dX10_fitOf_257 ?_
              refine xV.toi (fitF m A (80 + B)) (by unfold fitF; rw [h50, h30, h5, edy, eof]) ?_
              refine x_istore7 dX10_fitOf_258 rfl rfl rfl ?_
              refine x_iload7 dX10_fitOf_260 ?_
              refine x_iconst (nI 1) dX10_fitOf_262 (by decide) ?_
              refine x_icmp_ge 270 dX10_fitOf_263 (by decide) (fun c263 => ?_) (fun c263 => ?_)
              · refine x_iload7 dX10_fitOf_270 ?_
                refine x_iret dX10_fitOf_272 rfl ?_ (Nat.zero_le _) (Nat.zero_le _)
                refine ⟨?_, rfl, rfl⟩
                unfold fitV
                rw [if_neg hno]
                first | (rw [if_neg (iNL.mpr c263)]; done) | (rw [if_pos (iNE.mp c263)]; done)
              · refine x_iconst (nI 1) dX10_fitOf_266 (by decide) ?_
                refine x_goto 272 dX10_fitOf_267 (by decide) ?_
                refine x_iret dX10_fitOf_272 rfl ?_ (Nat.zero_le _) (Nat.zero_le _)
                refine ⟨?_, rfl, rfl⟩
                unfold fitV
                rw [if_neg hno]
                first | (rw [if_neg (iNL.mpr c263)]; done) | (rw [if_pos (iNE.mp c263)]; done)
            · have h5 : min (hdN m A (80 + B)) 5 = c := by omega
              refine x_iload6 dX10_fitOf_250 ?_
              refine x_goto 256 dX10_fitOf_252 (by decide) ?_
              refine n_imul dX10_fitOf_256 ?_
              refine x_iadd dX10_fitOf_257 ?_
              refine xV.toi (fitF m A (80 + B)) (by unfold fitF; rw [h50, h30, h5, edy, eof]) ?_
              refine x_istore7 dX10_fitOf_258 rfl rfl rfl ?_
              refine x_iload7 dX10_fitOf_260 ?_
              refine x_iconst (nI 1) dX10_fitOf_262 (by decide) ?_
              refine x_icmp_ge 270 dX10_fitOf_263 (by decide) (fun c263 => ?_) (fun c263 => ?_)
              · refine x_iload7 dX10_fitOf_270 ?_
                refine x_iret dX10_fitOf_272 rfl ?_ (Nat.zero_le _) (Nat.zero_le _)
                refine ⟨?_, rfl, rfl⟩
                unfold fitV
                rw [if_neg hno]
                first | (rw [if_neg (iNL.mpr c263)]; done) | (rw [if_pos (iNE.mp c263)]; done)
              · refine x_iconst (nI 1) dX10_fitOf_266 (by decide) ?_
                refine x_goto 272 dX10_fitOf_267 (by decide) ?_
                refine x_iret dX10_fitOf_272 rfl ?_ (Nat.zero_le _) (Nat.zero_le _)
                refine ⟨?_, rfl, rfl⟩
                unfold fitV
                rw [if_neg hno]
                first | (rw [if_neg (iNL.mpr c263)]; done) | (rw [if_pos (iNE.mp c263)]; done)
          · have h30 : (if m.1 2 A = m.1 2 (80 + B) then nI 30 else nI 0) = nI 30 := if_pos c232
            refine x_bipush (nI 30) dX10_fitOf_235 (by decide) ?_
            refine x_goto 241 dX10_fitOf_237 (by decide) ?_
            refine x_iadd dX10_fitOf_241 ?_
            refine x_bipush (nI 10) dX10_fitOf_242 (by decide) ?_
            refine x_iload6 dX10_fitOf_244 ?_
            refine x_iconst (nI 5) dX10_fitOf_246 (by decide) ?_
            refine n_icmp_ge 255 dX10_fitOf_247 (by decide) (by omega) (by omega) (fun c247 => ?_) (fun c247 => ?_)
            · have h5 : min (hdN m A (80 + B)) 5 = 5 := by omega
              refine x_iconst (nI 5) dX10_fitOf_255 (by decide) ?_
              refine n_imul dX10_fitOf_256 ?_
              refine x_iadd dX10_fitOf_257 ?_
              refine xV.toi (fitF m A (80 + B)) (by unfold fitF; rw [h50, h30, h5, edy, eof]) ?_
              refine x_istore7 dX10_fitOf_258 rfl rfl rfl ?_
              refine x_iload7 dX10_fitOf_260 ?_
              refine x_iconst (nI 1) dX10_fitOf_262 (by decide) ?_
              refine x_icmp_ge 270 dX10_fitOf_263 (by decide) (fun c263 => ?_) (fun c263 => ?_)
              · refine x_iload7 dX10_fitOf_270 ?_
                refine x_iret dX10_fitOf_272 rfl ?_ (Nat.zero_le _) (Nat.zero_le _)
                refine ⟨?_, rfl, rfl⟩
                unfold fitV
                rw [if_neg hno]
                first | (rw [if_neg (iNL.mpr c263)]; done) | (rw [if_pos (iNE.mp c263)]; done)
              · refine x_iconst (nI 1) dX10_fitOf_266 (by decide) ?_
                refine x_goto 272 dX10_fitOf_267 (by decide) ?_
                refine x_iret dX10_fitOf_272 rfl ?_ (Nat.zero_le _) (Nat.zero_le _)
                refine ⟨?_, rfl, rfl⟩
                unfold fitV
                rw [if_neg hno]
                first | (rw [if_neg (iNL.mpr c263)]; done) | (rw [if_pos (iNE.mp c263)]; done)
            · have h5 : min (hdN m A (80 + B)) 5 = c := by omega
              refine x_iload6 dX10_fitOf_250 ?_
              refine x_goto 256 dX10_fitOf_252 (by decide) ?_
              refine n_imul dX10_fitOf_256 ?_
              refine x_iadd dX10_fitOf_257 ?_
              refine xV.toi (fitF m A (80 + B)) (by unfold fitF; rw [h50, h30, h5, edy, eof]) ?_
              refine x_istore7 dX10_fitOf_258 rfl rfl rfl ?_
              refine x_iload7 dX10_fitOf_260 ?_
              refine x_iconst (nI 1) dX10_fitOf_262 (by decide) ?_
              refine x_icmp_ge 270 dX10_fitOf_263 (by decide) (fun c263 => ?_) (fun c263 => ?_)
              · refine x_iload7 dX10_fitOf_270 ?_
                refine x_iret dX10_fitOf_272 rfl ?_ (Nat.zero_le _) (Nat.zero_le _)
                refine ⟨?_, rfl, rfl⟩
                unfold fitV
                rw [if_neg hno]
                first | (rw [if_neg (iNL.mpr c263)]; done) | (rw [if_pos (iNE.mp c263)]; done)
              · refine x_iconst (nI 1) dX10_fitOf_266 (by decide) ?_
                refine x_goto 272 dX10_fitOf_267 (by decide) ?_
                refine x_iret dX10_fitOf_272 rfl ?_ (Nat.zero_le _) (Nat.zero_le _)
                refine ⟨?_, rfl, rfl⟩
                unfold fitV
                rw [if_neg hno]
                first | (rw [if_neg (iNL.mpr c263)]; done) | (rw [if_pos (iNE.mp c263)]; done)
        · refine x_aload0 dX10_fitOf_198 ?_
          refine gm3 fgX10_19 dX10_fitOf_199 ?_
          refine x_iload1 dX10_fitOf_202 ?_
          refine lm3 (A) rfl (by omega) dX10_fitOf_203 ?_
          refine x_aload0 dX10_fitOf_204 ?_
          refine gm3 fgX10_19 dX10_fitOf_205 ?_
          refine x_iload3 dX10_fitOf_208 ?_
          refine lm3 (80 + B) rfl (by omega) dX10_fitOf_209 ?_
          refine x_icmp_ne 218 dX10_fitOf_210 (by decide) (fun c210 => ?_) (fun c210 => ?_)
          · have h50 : (if ¬ m.1 3 A = 0 ∧ m.1 3 A = m.1 3 (80 + B) then nI 50 else nI 0) = nI 0 := if_neg (fun q => c210 q.2)
            refine x_iconst (nI 0) dX10_fitOf_218 (by decide) ?_
            refine x_iadd dX10_fitOf_219 ?_
            refine x_aload0 dX10_fitOf_220 ?_
            refine gm2 fgX10_16 dX10_fitOf_221 ?_
            refine x_iload1 dX10_fitOf_224 ?_
            refine lm2 (A) rfl (by omega) dX10_fitOf_225 ?_
            refine x_aload0 dX10_fitOf_226 ?_
            refine gm2 fgX10_16 dX10_fitOf_227 ?_
            refine x_iload3 dX10_fitOf_230 ?_
            refine lm2 (80 + B) rfl (by omega) dX10_fitOf_231 ?_
            refine x_icmp_ne 240 dX10_fitOf_232 (by decide) (fun c232 => ?_) (fun c232 => ?_)
            · have h30 : (if m.1 2 A = m.1 2 (80 + B) then nI 30 else nI 0) = nI 0 := if_neg c232
              refine x_iconst (nI 0) dX10_fitOf_240 (by decide) ?_
              refine x_iadd dX10_fitOf_241 ?_
              refine x_bipush (nI 10) dX10_fitOf_242 (by decide) ?_
              refine x_iload6 dX10_fitOf_244 ?_
              refine x_iconst (nI 5) dX10_fitOf_246 (by decide) ?_
              refine n_icmp_ge 255 dX10_fitOf_247 (by decide) (by omega) (by omega) (fun c247 => ?_) (fun c247 => ?_)
              · have h5 : min (hdN m A (80 + B)) 5 = 5 := by omega
                refine x_iconst (nI 5) dX10_fitOf_255 (by decide) ?_
                refine n_imul dX10_fitOf_256 ?_
                refine x_iadd dX10_fitOf_257 ?_
                refine xV.toi (fitF m A (80 + B)) (by unfold fitF; rw [h50, h30, h5, edy, eof]) ?_
                refine x_istore7 dX10_fitOf_258 rfl rfl rfl ?_
                refine x_iload7 dX10_fitOf_260 ?_
                refine x_iconst (nI 1) dX10_fitOf_262 (by decide) ?_
                refine x_icmp_ge 270 dX10_fitOf_263 (by decide) (fun c263 => ?_) (fun c263 => ?_)
                · refine x_iload7 dX10_fitOf_270 ?_
                  refine x_iret dX10_fitOf_272 rfl ?_ (Nat.zero_le _) (Nat.zero_le _)
                  refine ⟨?_, rfl, rfl⟩
                  unfold fitV
                  rw [if_neg hno]
                  first | (rw [if_neg (iNL.mpr c263)]; done) | (rw [if_pos (iNE.mp c263)]; done)
                · refine x_iconst (nI 1) dX10_fitOf_266 (by decide) ?_
                  refine x_goto 272 dX10_fitOf_267 (by decide) ?_
                  refine x_iret dX10_fitOf_272 rfl ?_ (Nat.zero_le _) (Nat.zero_le _)
                  refine ⟨?_, rfl, rfl⟩
                  unfold fitV
                  rw [if_neg hno]
                  first | (rw [if_neg (iNL.mpr c263)]; done) | (rw [if_pos (iNE.mp c263)]; done)
              · have h5 : min (hdN m A (80 + B)) 5 = c := by omega
                refine x_iload6 dX10_fitOf_250 ?_
                refine x_goto 256 dX10_fitOf_252 (by decide) ?_
                refine n_imul dX10_fitOf_256 ?_
                refine x_iadd dX10_fitOf_257 ?_
                refine xV.toi (fitF m A (80 + B)) (by unfold fitF; rw [h50, h30, h5, edy, eof]) ?_
                refine x_istore7 dX10_fitOf_258 rfl rfl rfl ?_
                refine x_iload7 dX10_fitOf_260 ?_
                refine x_iconst (nI 1) dX10_fitOf_262 (by decide) ?_
                refine x_icmp_ge 270 dX10_fitOf_263 (by decide) (fun c263 => ?_) (fun c263 => ?_)
                · refine x_iload7 dX10_fitOf_270 ?_
                  refine x_iret dX10_fitOf_272 rfl ?_ (Nat.zero_le _) (Nat.zero_le _)
                  refine ⟨?_, rfl, rfl⟩
                  unfold fitV
                  rw [if_neg hno]
                  first | (rw [if_neg (iNL.mpr c263)]; done) | (rw [if_pos (iNE.mp c263)]; done)
                · refine x_iconst (nI 1) dX10_fitOf_266 (by decide) ?_
                  refine x_goto 272 dX10_fitOf_267 (by decide) ?_
                  refine x_iret dX10_fitOf_272 rfl ?_ (Nat.zero_le _) (Nat.zero_le _)
                  refine ⟨?_, rfl, rfl⟩
                  unfold fitV
                  rw [if_neg hno]
                  first | (rw [if_neg (iNL.mpr c263)]; done) | (rw [if_pos (iNE.mp c263)]; done)
            · have h30 : (if m.1 2 A = m.1 2 (80 + B) then nI 30 else nI 0) = nI 30 := if_pos c232
              refine x_bipush (nI 30) dX10_fitOf_235 (by decide) ?_
              refine x_goto 241 dX10_fitOf_237 (by decide) ?_
              refine x_iadd dX10_fitOf_241 ?_
              refine x_bipush (nI 10) dX10_fitOf_242 (by decide) ?_
              refine x_iload6 dX10_fitOf_244 ?_
              refine x_iconst (nI 5) dX10_fitOf_246 (by decide) ?_
              refine n_icmp_ge 255 dX10_fitOf_247 (by decide) (by omega) (by omega) (fun c247 => ?_) (fun c247 => ?_)
              · have h5 : min (hdN m A (80 + B)) 5 = 5 := by omega
                refine x_iconst (nI 5) dX10_fitOf_255 (by decide) ?_
                refine n_imul dX10_fitOf_256 ?_
                refine x_iadd dX10_fitOf_257 ?_
                refine xV.toi (fitF m A (80 + B)) (by unfold fitF; rw [h50, h30, h5, edy, eof]) ?_
                refine x_istore7 dX10_fitOf_258 rfl rfl rfl ?_
                refine x_iload7 dX10_fitOf_260 ?_
                refine x_iconst (nI 1) dX10_fitOf_262 (by decide) ?_
                refine x_icmp_ge 270 dX10_fitOf_263 (by decide) (fun c263 => ?_) (fun c263 => ?_)
                · refine x_iload7 dX10_fitOf_270 ?_
                  refine x_iret dX10_fitOf_272 rfl ?_ (Nat.zero_le _) (Nat.zero_le _)
                  refine ⟨?_, rfl, rfl⟩
                  unfold fitV
                  rw [if_neg hno]
                  first | (rw [if_neg (iNL.mpr c263)]; done) | (rw [if_pos (iNE.mp c263)]; done)
                · refine x_iconst (nI 1) dX10_fitOf_266 (by decide) ?_
                  refine x_goto 272 dX10_fitOf_267 (by decide) ?_
                  refine x_iret dX10_fitOf_272 rfl ?_ (Nat.zero_le _) (Nat.zero_le _)
                  refine ⟨?_, rfl, rfl⟩
                  unfold fitV
                  rw [if_neg hno]
                  first | (rw [if_neg (iNL.mpr c263)]; done) | (rw [if_pos (iNE.mp c263)]; done)
              · have h5 : min (hdN m A (80 + B)) 5 = c := by omega
                refine x_iload6 dX10_fitOf_250 ?_
                refine x_goto 256 dX10_fitOf_252 (by decide) ?_
                refine n_imul dX10_fitOf_256 ?_
                refine x_iadd dX10_fitOf_257 ?_
                refine xV.toi (fitF m A (80 + B)) (by unfold fitF; rw [h50, h30, h5, edy, eof]) ?_
                refine x_istore7 dX10_fitOf_258 rfl rfl rfl ?_
                refine x_iload7 dX10_fitOf_260 ?_
                refine x_iconst (nI 1) dX10_fitOf_262 (by decide) ?_
                refine x_icmp_ge 270 dX10_fitOf_263 (by decide) (fun c263 => ?_) (fun c263 => ?_)
                · refine x_iload7 dX10_fitOf_270 ?_
                  refine x_iret dX10_fitOf_272 rfl ?_ (Nat.zero_le _) (Nat.zero_le _)
                  refine ⟨?_, rfl, rfl⟩
                  unfold fitV
                  rw [if_neg hno]
                  first | (rw [if_neg (iNL.mpr c263)]; done) | (rw [if_pos (iNE.mp c263)]; done)
                · refine x_iconst (nI 1) dX10_fitOf_266 (by decide) ?_
                  refine x_goto 272 dX10_fitOf_267 (by decide) ?_
                  refine x_iret dX10_fitOf_272 rfl ?_ (Nat.zero_le _) (Nat.zero_le _)
                  refine ⟨?_, rfl, rfl⟩
                  unfold fitV
                  rw [if_neg hno]
                  first | (rw [if_neg (iNL.mpr c263)]; done) | (rw [if_pos (iNE.mp c263)]; done)
          · have h50 : (if ¬ m.1 3 A = 0 ∧ m.1 3 A = m.1 3 (80 + B) then nI 50 else nI 0) = nI 50 := if_pos ⟨c195, c210⟩
            refine x_bipush (nI 50) dX10_fitOf_213 (by decide) ?_
            refine x_goto 219 dX10_fitOf_215 (by decide) ?_
            refine x_iadd dX10_fitOf_219 ?_
            refine x_aload0 dX10_fitOf_220 ?_
            refine gm2 fgX10_16 dX10_fitOf_221 ?_
            refine x_iload1 dX10_fitOf_224 ?_
            refine lm2 (A) rfl (by omega) dX10_fitOf_225 ?_
            refine x_aload0 dX10_fitOf_226 ?_
            refine gm2 fgX10_16 dX10_fitOf_227 ?_
            refine x_iload3 dX10_fitOf_230 ?_
            refine lm2 (80 + B) rfl (by omega) dX10_fitOf_231 ?_
            refine x_icmp_ne 240 dX10_fitOf_232 (by decide) (fun c232 => ?_) (fun c232 => ?_)
            · have h30 : (if m.1 2 A = m.1 2 (80 + B) then nI 30 else nI 0) = nI 0 := if_neg c232
              refine x_iconst (nI 0) dX10_fitOf_240 (by decide) ?_
              refine x_iadd dX10_fitOf_241 ?_
              refine x_bipush (nI 10) dX10_fitOf_242 (by decide) ?_
              refine x_iload6 dX10_fitOf_244 ?_
              refine x_iconst (nI 5) dX10_fitOf_246 (by decide) ?_
              refine n_icmp_ge 255 dX10_fitOf_247 (by decide) (by omega) (by omega) (fun c247 => ?_) (fun c247 => ?_)
              · have h5 : min (hdN m A (80 + B)) 5 = 5 := by omega
                refine x_iconst (nI 5) dX10_fitOf_255 (by decide) ?_
                refine n_imul dX10_fitOf_256 ?_
                refine x_iadd dX10_fitOf_257 ?_
                refine xV.toi (fitF m A (80 + B)) (by unfold fitF; rw [h50, h30, h5, edy, eof]) ?_
                refine x_istore7 dX10_fitOf_258 rfl rfl rfl ?_
                refine x_iload7 dX10_fitOf_260 ?_
                refine x_iconst (nI 1) dX10_fitOf_262 (by decide) ?_
                refine x_icmp_ge 270 dX10_fitOf_263 (by decide) (fun c263 => ?_) (fun c263 => ?_)
                · refine x_iload7 dX10_fitOf_270 ?_
                  refine x_iret dX10_fitOf_272 rfl ?_ (Nat.zero_le _) (Nat.zero_le _)
                  refine ⟨?_, rfl, rfl⟩
                  unfold fitV
                  rw [if_neg hno]
                  first | (rw [if_neg (iNL.mpr c263)]; done) | (rw [if_pos (iNE.mp c263)]; done)
                · refine x_iconst (nI 1) dX10_fitOf_266 (by decide) ?_
                  refine x_goto 272 dX10_fitOf_267 (by decide) ?_
                  refine x_iret dX10_fitOf_272 rfl ?_ (Nat.zero_le _) (Nat.zero_le _)
                  refine ⟨?_, rfl, rfl⟩
                  unfold fitV
                  rw [if_neg hno]
                  first | (rw [if_neg (iNL.mpr c263)]; done) | (rw [if_pos (iNE.mp c263)]; done)
              · have h5 : min (hdN m A (80 + B)) 5 = c := by omega
                refine x_iload6 dX10_fitOf_250 ?_
                refine x_goto 256 dX10_fitOf_252 (by decide) ?_
                refine n_imul dX10_fitOf_256 ?_
                refine x_iadd dX10_fitOf_257 ?_
                refine xV.toi (fitF m A (80 + B)) (by unfold fitF; rw [h50, h30, h5, edy, eof]) ?_
                refine x_istore7 dX10_fitOf_258 rfl rfl rfl ?_
                refine x_iload7 dX10_fitOf_260 ?_
                refine x_iconst (nI 1) dX10_fitOf_262 (by decide) ?_
                refine x_icmp_ge 270 dX10_fitOf_263 (by decide) (fun c263 => ?_) (fun c263 => ?_)
                · refine x_iload7 dX10_fitOf_270 ?_
                  refine x_iret dX10_fitOf_272 rfl ?_ (Nat.zero_le _) (Nat.zero_le _)
                  refine ⟨?_, rfl, rfl⟩
                  unfold fitV
                  rw [if_neg hno]
                  first | (rw [if_neg (iNL.mpr c263)]; done) | (rw [if_pos (iNE.mp c263)]; done)
                · refine x_iconst (nI 1) dX10_fitOf_266 (by decide) ?_
                  refine x_goto 272 dX10_fitOf_267 (by decide) ?_
                  refine x_iret dX10_fitOf_272 rfl ?_ (Nat.zero_le _) (Nat.zero_le _)
                  refine ⟨?_, rfl, rfl⟩
                  unfold fitV
                  rw [if_neg hno]
                  first | (rw [if_neg (iNL.mpr c263)]; done) | (rw [if_pos (iNE.mp c263)]; done)
            · have h30 : (if m.1 2 A = m.1 2 (80 + B) then nI 30 else nI 0) = nI 30 := if_pos c232
              refine x_bipush (nI 30) dX10_fitOf_235 (by decide) ?_
              refine x_goto 241 dX10_fitOf_237 (by decide) ?_
              refine x_iadd dX10_fitOf_241 ?_
              refine x_bipush (nI 10) dX10_fitOf_242 (by decide) ?_
              refine x_iload6 dX10_fitOf_244 ?_
              refine x_iconst (nI 5) dX10_fitOf_246 (by decide) ?_
              refine n_icmp_ge 255 dX10_fitOf_247 (by decide) (by omega) (by omega) (fun c247 => ?_) (fun c247 => ?_)
              · have h5 : min (hdN m A (80 + B)) 5 = 5 := by omega
                refine x_iconst (nI 5) dX10_fitOf_255 (by decide) ?_
                refine n_imul dX10_fitOf_256 ?_
                refine x_iadd dX10_fitOf_257 ?_
                refine xV.toi (fitF m A (80 + B)) (by unfold fitF; rw [h50, h30, h5, edy, eof]) ?_
                refine x_istore7 dX10_fitOf_258 rfl rfl rfl ?_
                refine x_iload7 dX10_fitOf_260 ?_
                refine x_iconst (nI 1) dX10_fitOf_262 (by decide) ?_
                refine x_icmp_ge 270 dX10_fitOf_263 (by decide) (fun c263 => ?_) (fun c263 => ?_)
                · refine x_iload7 dX10_fitOf_270 ?_
                  refine x_iret dX10_fitOf_272 rfl ?_ (Nat.zero_le _) (Nat.zero_le _)
                  refine ⟨?_, rfl, rfl⟩
                  unfold fitV
                  rw [if_neg hno]
                  first | (rw [if_neg (iNL.mpr c263)]; done) | (rw [if_pos (iNE.mp c263)]; done)
                · refine x_iconst (nI 1) dX10_fitOf_266 (by decide) ?_
                  refine x_goto 272 dX10_fitOf_267 (by decide) ?_
                  refine x_iret dX10_fitOf_272 rfl ?_ (Nat.zero_le _) (Nat.zero_le _)
                  refine ⟨?_, rfl, rfl⟩
                  unfold fitV
                  rw [if_neg hno]
                  first | (rw [if_neg (iNL.mpr c263)]; done) | (rw [if_pos (iNE.mp c263)]; done)
              · have h5 : min (hdN m A (80 + B)) 5 = c := by omega
                refine x_iload6 dX10_fitOf_250 ?_
                refine x_goto 256 dX10_fitOf_252 (by decide) ?_
                refine n_imul dX10_fitOf_256 ?_
                refine x_iadd dX10_fitOf_257 ?_
                refine xV.toi (fitF m A (80 + B)) (by unfold fitF; rw [h50, h30, h5, edy, eof]) ?_
                refine x_istore7 dX10_fitOf_258 rfl rfl rfl ?_
                refine x_iload7 dX10_fitOf_260 ?_
                refine x_iconst (nI 1) dX10_fitOf_262 (by decide) ?_
                refine x_icmp_ge 270 dX10_fitOf_263 (by decide) (fun c263 => ?_) (fun c263 => ?_)
                · refine x_iload7 dX10_fitOf_270 ?_
                  refine x_iret dX10_fitOf_272 rfl ?_ (Nat.zero_le _) (Nat.zero_le _)
                  refine ⟨?_, rfl, rfl⟩
                  unfold fitV
                  rw [if_neg hno]
                  first | (rw [if_neg (iNL.mpr c263)]; done) | (rw [if_pos (iNE.mp c263)]; done)
                · refine x_iconst (nI 1) dX10_fitOf_266 (by decide) ?_
                  refine x_goto 272 dX10_fitOf_267 (by decide) ?_
                  refine x_iret dX10_fitOf_272 rfl ?_ (Nat.zero_le _) (Nat.zero_le _)
                  refine ⟨?_, rfl, rfl⟩
                  unfold fitV
                  rw [if_neg hno]
                  first | (rw [if_neg (iNL.mpr c263)]; done) | (rw [if_pos (iNE.mp c263)]; done)
      · have hct := fb_ct_le (hdP m (m.1 2 A) (m.1 2 (80 + B))) g
        have hg2 : g < 200 := by omega
        have hbg := hM g c104
        refine x_iload6 dX10_fitOf_107 ?_
        refine x_aload0 dX10_fitOf_109 ?_
        refine gm14 fgX10_47 dX10_fitOf_110 ?_
        refine x_iload7 dX10_fitOf_113 ?_
        refine lm14 (g) rfl (by omega) dX10_fitOf_115 ?_
        refine x_if_ge 166 dX10_fitOf_116 (by decide) (fun c116 => ?_) (fun c116 => ?_)
        · have hh : hdP m (m.1 2 A) (m.1 2 (80 + B)) g = false := decide_eq_false (fun q => iNL.mpr c116 q.1)
          refine x_iconst (nI 0) dX10_fitOf_166 (by decide) ?_
          refine n_iadd dX10_fitOf_167 ?_
          refine x_istore6 dX10_fitOf_168 rfl rfl rfl ?_
          refine x_iinc7 (nI (g + 1)) dX10_fitOf_170 (nI_add g 1) rfl rfl rfl ?_
          refine x_goto 98 dX10_fitOf_173 (by decide) ?_
          exact ih (g + 1) _ (by omega) (by omega) (by rw [fb_ct_succ, ← hc, hh]; simp)
        · refine x_aload0 dX10_fitOf_119 ?_
          refine gm10 fgX10_35 dX10_fitOf_120 ?_
          refine x_iload7 dX10_fitOf_123 ?_
          refine lm10 (g) rfl (by omega) dX10_fitOf_125 ?_
          refine x_iconst (nI 2) dX10_fitOf_126 (by decide) ?_
          refine x_icmp_ne 166 dX10_fitOf_127 (by decide) (fun c127 => ?_) (fun c127 => ?_)
          · have hh : hdP m (m.1 2 A) (m.1 2 (80 + B)) g = false := decide_eq_false (fun q => c127 q.2.1)
            refine x_iconst (nI 0) dX10_fitOf_166 (by decide) ?_
            refine n_iadd dX10_fitOf_167 ?_
            refine x_istore6 dX10_fitOf_168 rfl rfl rfl ?_
            refine x_iinc7 (nI (g + 1)) dX10_fitOf_170 (nI_add g 1) rfl rfl rfl ?_
            refine x_goto 98 dX10_fitOf_173 (by decide) ?_
            exact ih (g + 1) _ (by omega) (by omega) (by rw [fb_ct_succ, ← hc, hh]; simp)
          · refine x_aload0 dX10_fitOf_130 ?_
            refine x_iload7 dX10_fitOf_131 ?_
            refine x_iconst (nI 0) dX10_fitOf_133 (by decide) ?_
            refine x_aload0 dX10_fitOf_134 ?_
            refine gm2 fgX10_16 dX10_fitOf_135 ?_
            refine x_iload1 dX10_fitOf_138 ?_
            refine lm2 (A) rfl (by omega) dX10_fitOf_139 ?_
            refine x_callV3i mvX10_159 (k_hasWord G x m g 0 hg2 (by decide) hbg (m.1 2 A)) mb_lt0 (hp_m0 _ _) (xRoom.of rfl) (Nat.le_of_ble_eq_true rfl) dX10_fitOf_140 (fun r_ n_ h_ hq => ?_)
            obtain ⟨rfl, rfl, rfl⟩ := hq
            refine b_if_eq 166 dX10_fitOf_143 (by decide) (fun c143 => ?_) (fun c143 => ?_)
            · have hh : hdP m (m.1 2 A) (m.1 2 (80 + B)) g = false := decide_eq_false (fun q => c143 q.2.2.1)
              refine x_iconst (nI 0) dX10_fitOf_166 (by decide) ?_
              refine n_iadd dX10_fitOf_167 ?_
              refine x_istore6 dX10_fitOf_168 rfl rfl rfl ?_
              refine x_iinc7 (nI (g + 1)) dX10_fitOf_170 (nI_add g 1) rfl rfl rfl ?_
              refine x_goto 98 dX10_fitOf_173 (by decide) ?_
              exact ih (g + 1) _ (by omega) (by omega) (by rw [fb_ct_succ, ← hc, hh]; simp)
            · refine x_aload0 dX10_fitOf_146 ?_
              refine x_iload7 dX10_fitOf_147 ?_
              refine x_iconst (nI 1) dX10_fitOf_149 (by decide) ?_
              refine x_aload0 dX10_fitOf_150 ?_
              refine gm2 fgX10_16 dX10_fitOf_151 ?_
              refine x_iload3 dX10_fitOf_154 ?_
              refine lm2 (80 + B) rfl (by omega) dX10_fitOf_155 ?_
              refine x_callV3i mvX10_159 (k_hasWord G x m g 1 hg2 (by decide) hbg (m.1 2 (80 + B))) mb_lt0 (hp_m0 _ _) (xRoom.of rfl) (Nat.le_of_ble_eq_true rfl) dX10_fitOf_156 (fun r_ n_ h_ hq => ?_)
              obtain ⟨rfl, rfl, rfl⟩ := hq
              refine b_if_eq 166 dX10_fitOf_159 (by decide) (fun c159 => ?_) (fun c159 => ?_)
              · have hh : hdP m (m.1 2 A) (m.1 2 (80 + B)) g = false := decide_eq_false (fun q => c159 q.2.2.2)
                refine x_iconst (nI 0) dX10_fitOf_166 (by decide) ?_
                refine n_iadd dX10_fitOf_167 ?_
                refine x_istore6 dX10_fitOf_168 rfl rfl rfl ?_
                refine x_iinc7 (nI (g + 1)) dX10_fitOf_170 (nI_add g 1) rfl rfl rfl ?_
                refine x_goto 98 dX10_fitOf_173 (by decide) ?_
                exact ih (g + 1) _ (by omega) (by omega) (by rw [fb_ct_succ, ← hc, hh]; simp)
              · have hh : hdP m (m.1 2 A) (m.1 2 (80 + B)) g = true := decide_eq_true ⟨iNE.mp c116, c127, c143, c159⟩
                refine x_iconst (nI 1) dX10_fitOf_162 (by decide) ?_
                refine x_goto 167 dX10_fitOf_163 (by decide) ?_
                refine n_iadd dX10_fitOf_167 ?_
                refine x_istore6 dX10_fitOf_168 rfl rfl rfl ?_
                refine x_iinc7 (nI (g + 1)) dX10_fitOf_170 (nI_add g 1) rfl rfl rfl ?_
                refine x_goto 98 dX10_fitOf_173 (by decide) ?_
                exact ih (g + 1) _ (by omega) (by omega) (by rw [fb_ct_succ, ← hc, hh]; simp)
  refine xK.ofV (by decide) (Nat.le_of_ble_eq_true rfl) ?_
  refine xV.lveq (L' := [some (.ref MB), some (.int (nI (A))), some (.int (nI (B))), none, none, none, none, none]) rfl ?_
  refine x_bipush (nI 80) dX10_fitOf_0 (by decide) ?_
  refine x_iload2 dX10_fitOf_2 ?_
  refine n_iadd dX10_fitOf_3 ?_
  refine x_istore3 dX10_fitOf_4 rfl rfl rfl ?_
  refine x_aload0 dX10_fitOf_5 ?_
  refine gm1 fgX10_13 dX10_fitOf_6 ?_
  refine x_iload1 dX10_fitOf_9 ?_
  refine lm1 (A) rfl (by omega) dX10_fitOf_10 ?_
  refine x_aload0 dX10_fitOf_11 ?_
  refine gm1 fgX10_13 dX10_fitOf_12 ?_
  refine x_iload3 dX10_fitOf_15 ?_
  refine lm1 (80 + B) rfl (by omega) dX10_fitOf_16 ?_
  refine x_callS2i msX10_155 (k_apart G (m.1 1 A) (m.1 1 (80 + B))) (xRoom.of rfl) (Nat.le_of_ble_eq_true rfl) dX10_fitOf_17 (fun r_ n_ h_ hq => ?_)
  obtain ⟨rfl, rfl, rfl⟩ := hq
  refine xV.topi (fun dy edy => ?_)
  refine x_istore4 dX10_fitOf_20 rfl rfl rfl ?_
  refine x_aload0 dX10_fitOf_22 ?_
  refine gm0 fgX10_9 dX10_fitOf_23 ?_
  refine x_iload1 dX10_fitOf_26 ?_
  refine lm0 (A) rfl (by omega) dX10_fitOf_27 ?_
  refine x_aload0 dX10_fitOf_28 ?_
  refine gm0 fgX10_9 dX10_fitOf_29 ?_
  refine x_iload3 dX10_fitOf_32 ?_
  refine lm0 (80 + B) rfl (by omega) dX10_fitOf_33 ?_
  refine x_callS2i msX10_155 (k_apart G (m.1 0 A) (m.1 0 (80 + B))) (xRoom.of rfl) (Nat.le_of_ble_eq_true rfl) dX10_fitOf_34 (fun r_ n_ h_ hq => ?_)
  obtain ⟨rfl, rfl, rfl⟩ := hq
  refine xV.topi (fun of eof => ?_)
  refine x_istore5 dX10_fitOf_37 rfl rfl rfl ?_
  change dy = apI _ _ at edy
  change of = apI _ _ at eof
  refine x_iload4 dX10_fitOf_39 ?_
  refine x_aload0 dX10_fitOf_41 ?_
  refine gm8 fgX10_31 dX10_fitOf_42 ?_
  refine x_icmp_gt 90 dX10_fitOf_45 (by decide) (fun c45 => ?_) (fun c45 => ?_)
  · refine x_iconst (nI 0) dX10_fitOf_90 (by decide) ?_
    refine x_iret dX10_fitOf_91 rfl ?_ (Nat.zero_le _) (Nat.zero_le _)
    refine ⟨(if_pos ?_).symm, rfl, rfl⟩
    first | exact Or.inl (edy ▸ c45) | exact Or.inr (Or.inl (eof ▸ c54)) | exact Or.inr (Or.inr ⟨c63, c72, c87⟩)
  · refine x_iload5 dX10_fitOf_48 ?_
    refine x_aload0 dX10_fitOf_50 ?_
    refine gm9 fgX10_147 dX10_fitOf_51 ?_
    refine x_icmp_gt 90 dX10_fitOf_54 (by decide) (fun c54 => ?_) (fun c54 => ?_)
    · refine x_iconst (nI 0) dX10_fitOf_90 (by decide) ?_
      refine x_iret dX10_fitOf_91 rfl ?_ (Nat.zero_le _) (Nat.zero_le _)
      refine ⟨(if_pos ?_).symm, rfl, rfl⟩
      first | exact Or.inl (edy ▸ c45) | exact Or.inr (Or.inl (eof ▸ c54)) | exact Or.inr (Or.inr ⟨c63, c72, c87⟩)
    · refine x_aload0 dX10_fitOf_57 ?_
      refine gm3 fgX10_19 dX10_fitOf_58 ?_
      refine x_iload1 dX10_fitOf_61 ?_
      refine lm3 (A) rfl (by omega) dX10_fitOf_62 ?_
      refine x_if_eq 92 dX10_fitOf_63 (by decide) (fun c63 => ?_) (fun c63 => ?_)
      · refine x_iconst (nI 0) dX10_fitOf_92 (by decide) ?_
        refine x_istore6 dX10_fitOf_93 rfl rfl rfl ?_
        refine x_iconst (nI 0) dX10_fitOf_95 (by decide) ?_
        refine x_istore7 dX10_fitOf_96 rfl rfl rfl ?_
        exact lp dy of edy eof (by intro q; rcases q with q | q | q; exact c45 (edy ▸ q); exact c54 (eof ▸ q); first | exact q.1 c63 | exact q.2.1 c72 | exact q.2.2 c87) (nG m + 1) 0 0 (Nat.zero_le _) (by omega) rfl
      · refine x_aload0 dX10_fitOf_66 ?_
        refine gm3 fgX10_19 dX10_fitOf_67 ?_
        refine x_iload3 dX10_fitOf_70 ?_
        refine lm3 (80 + B) rfl (by omega) dX10_fitOf_71 ?_
        refine x_if_eq 92 dX10_fitOf_72 (by decide) (fun c72 => ?_) (fun c72 => ?_)
        · refine x_iconst (nI 0) dX10_fitOf_92 (by decide) ?_
          refine x_istore6 dX10_fitOf_93 rfl rfl rfl ?_
          refine x_iconst (nI 0) dX10_fitOf_95 (by decide) ?_
          refine x_istore7 dX10_fitOf_96 rfl rfl rfl ?_
          exact lp dy of edy eof (by intro q; rcases q with q | q | q; exact c45 (edy ▸ q); exact c54 (eof ▸ q); first | exact q.1 c63 | exact q.2.1 c72 | exact q.2.2 c87) (nG m + 1) 0 0 (Nat.zero_le _) (by omega) rfl
        · refine x_aload0 dX10_fitOf_75 ?_
          refine gm3 fgX10_19 dX10_fitOf_76 ?_
          refine x_iload1 dX10_fitOf_79 ?_
          refine lm3 (A) rfl (by omega) dX10_fitOf_80 ?_
          refine x_aload0 dX10_fitOf_81 ?_
          refine gm3 fgX10_19 dX10_fitOf_82 ?_
          refine x_iload3 dX10_fitOf_85 ?_
          refine lm3 (80 + B) rfl (by omega) dX10_fitOf_86 ?_
          refine x_icmp_eq 92 dX10_fitOf_87 (by decide) (fun c87 => ?_) (fun c87 => ?_)
          · refine x_iconst (nI 0) dX10_fitOf_92 (by decide) ?_
            refine x_istore6 dX10_fitOf_93 rfl rfl rfl ?_
            refine x_iconst (nI 0) dX10_fitOf_95 (by decide) ?_
            refine x_istore7 dX10_fitOf_96 rfl rfl rfl ?_
            exact lp dy of edy eof (by intro q; rcases q with q | q | q; exact c45 (edy ▸ q); exact c54 (eof ▸ q); first | exact q.1 c63 | exact q.2.1 c72 | exact q.2.2 c87) (nG m + 1) 0 0 (Nat.zero_le _) (by omega) rfl
          · refine x_iconst (nI 0) dX10_fitOf_90 (by decide) ?_
            refine x_iret dX10_fitOf_91 rfl ?_ (Nat.zero_le _) (Nat.zero_le _)
            refine ⟨(if_pos ?_).symm, rfl, rfl⟩
            first | exact Or.inl (edy ▸ c45) | exact Or.inr (Or.inl (eof ▸ c54)) | exact Or.inr (Or.inr ⟨c63, c72, c87⟩)

def fitR (m : mS) (a b : Int32) : Int32 := if isLn m (nI 0) a ∧ isLn m (nI 1) b then fitV m (nv a) (80 + nv b) else -1

set_option maxHeartbeats 4000000 in
theorem k_fit (G : vx_G) (x : vx_H) (m : mS) (hL : iL m) (hG : iG m) (hM : iMs m) (a b : Int32) : xK G M_X10_fit 2 [(.ref MB), (.int a), (.int b)] NT (hp x m) 0 0 (QI (fun r n' h' => r = fitR m a b ∧ n' = NT ∧ h' = hp x m)) := by
  refine xK.ofV (by decide) (Nat.le_of_ble_eq_true rfl) ?_
  refine xV.lveq (L' := [some (.ref MB), some (.int a), some (.int b)]) rfl ?_
  refine x_aload0 dX10_fit_0 ?_
  refine x_iconst (nI 0) dX10_fit_1 (by decide) ?_
  refine x_iload1 dX10_fit_2 ?_
  refine x_callV2i mvX10_150 (k_isLine G x m hL (nI 0) a) mb_lt0 (hp_m0 _ _) (xRoom.of rfl) (Nat.le_of_ble_eq_true rfl) dX10_fit_3 (fun r_ n_ h_ hq => ?_)
  obtain ⟨rfl, rfl, rfl⟩ := hq
  refine b_if_eq 27 dX10_fit_6 (by decide) (fun c6 => ?_) (fun c6 => ?_)
  · refine x_iconst (-1) dX10_fit_27 (by decide) ?_
    refine x_iret dX10_fit_28 rfl ?_ (Nat.zero_le _) (Nat.zero_le _)
    refine ⟨?_, rfl, rfl⟩
    unfold fitR
    first | rw [if_pos hc, eI, eJ] | rw [if_neg (fun q => c15 q.2)] | rw [if_neg (fun q => c6 q.1)]
  · refine x_aload0 dX10_fit_9 ?_
    refine x_iconst (nI 1) dX10_fit_10 (by decide) ?_
    refine x_iload2 dX10_fit_11 ?_
    refine x_callV2i mvX10_150 (k_isLine G x m hL (nI 1) b) mb_lt0 (hp_m0 _ _) (xRoom.of rfl) (Nat.le_of_ble_eq_true rfl) dX10_fit_12 (fun r_ n_ h_ hq => ?_)
    obtain ⟨rfl, rfl, rfl⟩ := hq
    refine b_if_eq 27 dX10_fit_15 (by decide) (fun c15 => ?_) (fun c15 => ?_)
    · refine x_iconst (-1) dX10_fit_27 (by decide) ?_
      refine x_iret dX10_fit_28 rfl ?_ (Nat.zero_le _) (Nat.zero_le _)
      refine ⟨?_, rfl, rfl⟩
      unfold fitR
      first | rw [if_pos hc, eI, eJ] | rw [if_neg (fun q => c15 q.2)] | rw [if_neg (fun q => c6 q.1)]
    · have hc : isLn m (nI 0) a ∧ isLn m (nI 1) b := ⟨c6, c15⟩
      obtain ⟨B0, I, hB0, e0, hI, rfl⟩ := isLn_nat hL c6
      obtain ⟨B1, J, hB1, e1, hJ, rfl⟩ := isLn_nat hL c15
      have f0 : 0 = B0 := nI_inj (by decide) (by omega) e0
      have f1 : 1 = B1 := nI_inj (by decide) (by omega) e1
      subst f0
      subst f1
      have l0 := (hL 0 (by decide)).2
      have l1 := (hL 1 (by decide)).2
      have eI : nv (nI I) = I := nv_nI (by omega)
      have eJ : nv (nI J) = J := nv_nI (by omega)
      refine x_aload0 dX10_fit_18 ?_
      refine x_iload1 dX10_fit_19 ?_
      refine x_iload2 dX10_fit_20 ?_
      refine x_callV2i mvX10_162 (k_fitOf G x m hG hM I J (by omega) (by omega)) mb_lt0 (hp_m0 _ _) (xRoom.of rfl) (Nat.le_of_ble_eq_true rfl) dX10_fit_21 (fun r_ n_ h_ hq => ?_)
      obtain ⟨rfl, rfl, rfl⟩ := hq
      refine x_goto 28 dX10_fit_24 (by decide) ?_
      refine x_iret dX10_fit_28 rfl ?_ (Nat.zero_le _) (Nat.zero_le _)
      refine ⟨?_, rfl, rfl⟩
      unfold fitR
      first | rw [if_pos hc, eI, eJ] | rw [if_neg (fun q => c15 q.2)] | rw [if_neg (fun q => c6 q.1)]

/-- the latest act can be taken back -/
def undoOk (m : mS) (k O : Nat) : Prop := m.1 43 (nA m - 1) = nI k ∧ k ≤ 4 ∧ m.1 44 (nA m - 1) = nI O ∧ (k = 0 → O < 2 ∧ 1 ≤ nL m O) ∧ (k ≠ 0 → O < nG m ∧ iMb m O) ∧ (k = 2 → 1 ≤ nM m O)
def un1 (m : mS) : mS := mset (mset (mset m 46 0 (nI (nA m - 1))) 17 0 (nI 0)) 30 0 (nI 0)
def undoM (m : mS) (k O : Nat) : mS := if k = 0 then mset (un1 m) 6 O (nI (nL m O - 1)) else if k = 1 then mset (clM (un1 m) O (-1) (nM m O)) 16 0 (nI (nG m - 1)) else if k = 2 then mset (mset (mset (un1 m) 12 O (nI (nM m O - 1))) 5 (mb m O (nM m O - 1)) (-1)) 10 O (m.1 45 (nA m - 1)) else if k = 3 then clM (mset (un1 m) 14 O (-1)) O (nI O) (nM m O) else mset (un1 m) 15 O (if m.1 45 (nA m - 1) = nI 1 then nI 1 else nI 0)

set_option maxHeartbeats 4000000 in
theorem k_undo (G : vx_G) (x : vx_H) (m : mS) (hA : iA m) (hL : iL m) (hG : iG m) (k O : Nat) (hU : nA m ≠ 0 → undoOk m k O) : xK G M_X10_undo 0 [(.ref MB)] NT (hp x m) 0 0 (QI (fun r n' h' => r = (if nA m = 0 then -1 else nI (nA m - 1)) ∧ n' = NT ∧ h' = hp x (if nA m = 0 then m else undoM m k O))) := by
  have hA2 := hA.2
  have hG2 := hG.2
  have lp1 : (nA m ≠ 0) → (k = 1) → (O < nG m) → (m.1 12 O = nI (nM m O)) → (nM m O ≤ 8) → (∀ k, k < nM m O → m.1 11 (8 * O + k) = nI (mb m O k) ∧ mb m O k < 160) → ∀ (n_ : Nat) (i : Nat), i ≤ nM m O → nM m O + 1 ≤ i + n_ → xV (mF G M_X10_undo 0 0 0 (QI (fun r n' h' => r = (if nA m = 0 then -1 else nI (nA m - 1)) ∧ n' = NT ∧ h' = hp x (if nA m = 0 then m else undoM m k O)))) 95 [some (.ref MB), some (.int (nI (O))), some (.int (nI (i)))] [] NT (hp x (clM (un1 m) O (-1) i)) 0 0 := by
    intro  c4 hk o1 b1 b2 b3
    intro n_
    induction n_ with
    | zero => intro i hi_ hn_; omega
    | succ n_ ih =>
      intro i hi_ hn_ 
      refine x_iload2 dX10_undo_95 ?_
      refine x_aload0 dX10_undo_96 ?_
      refine gm12 fgX10_41 dX10_undo_97 ?_
      refine x_iload1 dX10_undo_100 ?_
      refine lm12 (O) rfl (by omega) dX10_undo_101 ?_
      refine xV.toi (nI (nM m O)) (by rw [clM_ne (by decide)]; exact b1) ?_
      refine n_icmp_ge 128 dX10_undo_102 (by decide) (by omega) (by omega) (fun c102 => ?_) (fun c102 => ?_)
      · have ei : i = nM m O := by omega
        subst ei
        refine x_aload0 dX10_undo_128 ?_
        refine x_dup dX10_undo_129 rfl ?_
        refine gm16 fgX10_120 dX10_undo_130 ?_
        refine xV.toi (nI (nG m)) (by rw [clM_ne (by decide)]; exact hG.1) ?_
        refine x_iconst (nI 1) dX10_undo_133 (by decide) ?_
        refine n_isub dX10_undo_134 (by omega) ?_
        refine pm16 fpX10_120 dX10_undo_135 ?_
        refine x_goto 260 dX10_undo_138 (by decide) ?_
        refine x_aload0 dX10_undo_260 ?_
        refine gm46 fgX10_130 dX10_undo_261 ?_
        refine xV.toi (nI (nA m - 1)) (by first | rfl | (rw [clM_ne (by decide)]; rfl) | (rw [mset_ne (by decide), clM_ne (by decide)]; rfl)) ?_
        refine x_iret dX10_undo_264 rfl ?_ (Nat.zero_le _) (Nat.zero_le _)
        refine ⟨(if_neg c4).symm, rfl, ?_⟩
        rw [if_neg c4]
        unfold undoM
        subst hk
        rfl
      · refine x_aload0 dX10_undo_105 ?_
        refine gm5 fgX10_25 dX10_undo_106 ?_
        refine x_aload0 dX10_undo_109 ?_
        refine gm11 fgX10_38 dX10_undo_110 ?_
        refine x_bipush (nI 8) dX10_undo_113 (by decide) ?_
        refine x_iload1 dX10_undo_115 ?_
        refine n_imul dX10_undo_116 ?_
        refine x_iload2 dX10_undo_117 ?_
        refine n_iadd dX10_undo_118 ?_
        refine lm11 ((8 * O) + i) rfl (by omega) dX10_undo_119 ?_
        refine xV.toi (nI (mb m O i)) (by rw [clM_ne (by decide)]; exact (b3 i (by omega)).1) ?_
        refine x_iconst (-1) dX10_undo_120 (by decide) ?_
        refine sm5 (mb m O i) rfl ((b3 i (by omega)).2) dX10_undo_121 ?_
        refine x_iinc2 (nI (i + 1)) dX10_undo_122 (nI_add i 1) rfl rfl rfl ?_
        refine x_goto 95 dX10_undo_125 (by decide) ?_
        exact ih (i + 1) (by omega) (by omega)
  have lp3 : (nA m ≠ 0) → (k = 3) → (O < nG m) → (m.1 12 O = nI (nM m O)) → (nM m O ≤ 8) → (∀ k, k < nM m O → m.1 11 (8 * O + k) = nI (mb m O k) ∧ mb m O k < 160) → ∀ (n_ : Nat) (i : Nat), i ≤ nM m O → nM m O + 1 ≤ i + n_ → xV (mF G M_X10_undo 0 0 0 (QI (fun r n' h' => r = (if nA m = 0 then -1 else nI (nA m - 1)) ∧ n' = NT ∧ h' = hp x (if nA m = 0 then m else undoM m k O)))) 200 [some (.ref MB), some (.int (nI (O))), some (.int (nI (i)))] [] NT (hp x (clM (mset (un1 m) 14 O (-1)) O (nI O) i)) 0 0 := by
    intro  c4 hk o1 b1 b2 b3
    intro n_
    induction n_ with
    | zero => intro i hi_ hn_; omega
    | succ n_ ih =>
      intro i hi_ hn_ 
      refine x_iload2 dX10_undo_200 ?_
      refine x_aload0 dX10_undo_201 ?_
      refine gm12 fgX10_41 dX10_undo_202 ?_
      refine x_iload1 dX10_undo_205 ?_
      refine lm12 (O) rfl (by omega) dX10_undo_206 ?_
      refine xV.toi (nI (nM m O)) (by rw [clM_ne (by decide)]; exact b1) ?_
      refine n_icmp_ge 233 dX10_undo_207 (by decide) (by omega) (by omega) (fun c207 => ?_) (fun c207 => ?_)
      · have ei : i = nM m O := by omega
        subst ei
        refine x_goto 260 dX10_undo_233 (by decide) ?_
        refine x_aload0 dX10_undo_260 ?_
        refine gm46 fgX10_130 dX10_undo_261 ?_
        refine xV.toi (nI (nA m - 1)) (by first | rfl | (rw [clM_ne (by decide)]; rfl) | (rw [mset_ne (by decide), clM_ne (by decide)]; rfl)) ?_
        refine x_iret dX10_undo_264 rfl ?_ (Nat.zero_le _) (Nat.zero_le _)
        refine ⟨(if_neg c4).symm, rfl, ?_⟩
        rw [if_neg c4]
        unfold undoM
        subst hk
        rfl
      · refine x_aload0 dX10_undo_210 ?_
        refine gm5 fgX10_25 dX10_undo_211 ?_
        refine x_aload0 dX10_undo_214 ?_
        refine gm11 fgX10_38 dX10_undo_215 ?_
        refine x_bipush (nI 8) dX10_undo_218 (by decide) ?_
        refine x_iload1 dX10_undo_220 ?_
        refine n_imul dX10_undo_221 ?_
        refine x_iload2 dX10_undo_222 ?_
        refine n_iadd dX10_undo_223 ?_
        refine lm11 ((8 * O) + i) rfl (by omega) dX10_undo_224 ?_
        refine xV.toi (nI (mb m O i)) (by rw [clM_ne (by decide)]; exact (b3 i (by omega)).1) ?_
        refine x_iload1 dX10_undo_225 ?_
        refine sm5 (mb m O i) rfl ((b3 i (by omega)).2) dX10_undo_226 ?_
        refine x_iinc2 (nI (i + 1)) dX10_undo_227 (nI_add i 1) rfl rfl rfl ?_
        refine x_goto 200 dX10_undo_230 (by decide) ?_
        exact ih (i + 1) (by omega) (by omega)
  refine xK.ofV (by decide) (Nat.le_of_ble_eq_true rfl) ?_
  refine xV.lveq (L' := [some (.ref MB), none, none]) rfl ?_
  refine x_aload0 dX10_undo_0 ?_
  refine gm46 fgX10_130 dX10_undo_1 ?_
  refine xV.toi (nI (nA m)) (hA.1) ?_
  refine n_if_ne 9 dX10_undo_4 (by decide) (by omega) (fun c4 => ?_) (fun c4 => ?_)
  · obtain ⟨u1, u2, u3, u4, u5, u6⟩ := hU c4
    refine x_aload0 dX10_undo_9 ?_
    refine x_dup dX10_undo_10 rfl ?_
    refine gm46 fgX10_130 dX10_undo_11 ?_
    refine xV.toi (nI (nA m)) (hA.1) ?_
    refine x_iconst (nI 1) dX10_undo_14 (by decide) ?_
    refine n_isub dX10_undo_15 (by omega) ?_
    refine pm46 fpX10_130 dX10_undo_16 ?_
    refine x_aload0 dX10_undo_19 ?_
    refine x_iconst (nI 0) dX10_undo_20 (by decide) ?_
    refine pm17 fpX10_123 dX10_undo_21 (by first | exact Or.inl nI_0 | exact Or.inr nI1 | exact bI_01 _) ?_
    refine x_aload0 dX10_undo_24 ?_
    refine x_iconst (nI 0) dX10_undo_25 (by decide) ?_
    refine pm30 fpX10_127 dX10_undo_26 (by first | exact Or.inl nI_0 | exact Or.inr nI1 | exact bI_01 _) ?_
    refine x_aload0 dX10_undo_29 ?_
    refine gm44 fgX10_110 dX10_undo_30 ?_
    refine x_aload0 dX10_undo_33 ?_
    refine gm46 fgX10_130 dX10_undo_34 ?_
    refine xV.toi (nI (nA m - 1)) (rfl) ?_
    refine lm44 (nA m - 1) rfl (by omega) dX10_undo_37 ?_
    refine xV.toi (nI (O)) (u3) ?_
    refine x_istore1 dX10_undo_38 rfl rfl rfl ?_
    refine x_aload0 dX10_undo_39 ?_
    refine gm43 fgX10_107 dX10_undo_40 ?_
    refine x_aload0 dX10_undo_43 ?_
    refine gm46 fgX10_130 dX10_undo_44 ?_
    refine xV.toi (nI (nA m - 1)) (rfl) ?_
    refine lm43 (nA m - 1) rfl (by omega) dX10_undo_47 ?_
    refine xV.toi (nI (k)) (u1) ?_
    by_cases cs0 : nI k = 0
    · refine x_tableIn 80 dX10_undo_48 (by rw [cs0]; decide) (by rw [cs0]; decide) (off := 32) (by rw [cs0]; decide) (by decide) ?_
      have hk : k = 0 := nI_inj (by omega) (by decide) cs0
      obtain ⟨o1, o2⟩ := u4 hk
      obtain ⟨o3, o4⟩ := hL O o1
      refine x_aload0 dX10_undo_80 ?_
      refine gm6 fgX10_28 dX10_undo_81 ?_
      refine x_iload1 dX10_undo_84 ?_
      refine x_dup2 dX10_undo_85 rfl rfl ?_
      refine lm6 (O) rfl (by omega) dX10_undo_86 ?_
      refine xV.toi (nI (nL m O)) (o3) ?_
      refine x_iconst (nI 1) dX10_undo_87 (by decide) ?_
      refine n_isub dX10_undo_88 (by omega) ?_
      refine sm6 (O) rfl (by omega) dX10_undo_89 ?_
      refine x_goto 260 dX10_undo_90 (by decide) ?_
      refine x_aload0 dX10_undo_260 ?_
      refine gm46 fgX10_130 dX10_undo_261 ?_
      refine xV.toi (nI (nA m - 1)) (by first | rfl | (rw [clM_ne (by decide)]; rfl) | (rw [mset_ne (by decide), clM_ne (by decide)]; rfl)) ?_
      refine x_iret dX10_undo_264 rfl ?_ (Nat.zero_le _) (Nat.zero_le _)
      refine ⟨(if_neg c4).symm, rfl, ?_⟩
      rw [if_neg c4]
      unfold undoM
      subst hk
      first | (rw [if_neg (by decide), if_neg (by decide), if_neg (by decide), if_neg (by decide), e45]; rfl) | rfl
    by_cases cs1 : nI k = 1
    · refine x_tableIn 93 dX10_undo_48 (by rw [cs1]; decide) (by rw [cs1]; decide) (off := 45) (by rw [cs1]; decide) (by decide) ?_
      have hk : k = 1 := nI_inj (by omega) (by decide) cs1
      obtain ⟨o1, b1, b2, b3⟩ := u5 (by omega)
      refine x_iconst (nI 0) dX10_undo_93 (by decide) ?_
      refine x_istore2 dX10_undo_94 rfl rfl rfl ?_
      exact lp1 c4 hk o1 b1 b2 b3 (nM m O + 1) 0 (Nat.zero_le _) (by omega)
    by_cases cs2 : nI k = 2
    · refine x_tableIn 141 dX10_undo_48 (by rw [cs2]; decide) (by rw [cs2]; decide) (off := 93) (by rw [cs2]; decide) (by decide) ?_
      have hk : k = 2 := nI_inj (by omega) (by decide) cs2
      obtain ⟨o1, b1, b2, b3⟩ := u5 (by omega)
      have o2 := u6 hk
      refine x_aload0 dX10_undo_141 ?_
      refine gm12 fgX10_41 dX10_undo_142 ?_
      refine x_iload1 dX10_undo_145 ?_
      refine x_dup2 dX10_undo_146 rfl rfl ?_
      refine lm12 (O) rfl (by omega) dX10_undo_147 ?_
      refine xV.toi (nI (nM m O)) (b1) ?_
      refine x_iconst (nI 1) dX10_undo_148 (by decide) ?_
      refine n_isub dX10_undo_149 (by omega) ?_
      refine sm12 (O) rfl (by omega) dX10_undo_150 ?_
      refine x_aload0 dX10_undo_151 ?_
      refine gm5 fgX10_25 dX10_undo_152 ?_
      refine x_aload0 dX10_undo_155 ?_
      refine gm11 fgX10_38 dX10_undo_156 ?_
      refine x_bipush (nI 8) dX10_undo_159 (by decide) ?_
      refine x_iload1 dX10_undo_161 ?_
      refine n_imul dX10_undo_162 ?_
      refine x_aload0 dX10_undo_163 ?_
      refine gm12 fgX10_41 dX10_undo_164 ?_
      refine x_iload1 dX10_undo_167 ?_
      refine lm12 (O) rfl (by omega) dX10_undo_168 ?_
      refine xV.toi (nI (nM m O - 1)) (mset_at _ _ _ _) ?_
      refine n_iadd dX10_undo_169 ?_
      refine lm11 ((8 * O) + (nM m O - 1)) rfl (by omega) dX10_undo_170 ?_
      refine xV.toi (nI (mb m O (nM m O - 1))) ((b3 _ (by omega)).1) ?_
      refine x_iconst (-1) dX10_undo_171 (by decide) ?_
      refine sm5 (mb m O (nM m O - 1)) rfl ((b3 _ (by omega)).2) dX10_undo_172 ?_
      refine x_aload0 dX10_undo_173 ?_
      refine gm10 fgX10_35 dX10_undo_174 ?_
      refine x_iload1 dX10_undo_177 ?_
      refine x_aload0 dX10_undo_178 ?_
      refine gm45 fgX10_113 dX10_undo_179 ?_
      refine x_aload0 dX10_undo_182 ?_
      refine gm46 fgX10_130 dX10_undo_183 ?_
      refine xV.toi (nI (nA m - 1)) (rfl) ?_
      refine lm45 (nA m - 1) rfl (by omega) dX10_undo_186 ?_
      refine sm10 (O) rfl (by omega) dX10_undo_187 ?_
      refine x_goto 260 dX10_undo_188 (by decide) ?_
      refine x_aload0 dX10_undo_260 ?_
      refine gm46 fgX10_130 dX10_undo_261 ?_
      refine xV.toi (nI (nA m - 1)) (by first | rfl | (rw [clM_ne (by decide)]; rfl) | (rw [mset_ne (by decide), clM_ne (by decide)]; rfl)) ?_
      refine x_iret dX10_undo_264 rfl ?_ (Nat.zero_le _) (Nat.zero_le _)
      refine ⟨(if_neg c4).symm, rfl, ?_⟩
      rw [if_neg c4]
      unfold undoM
      subst hk
      first | (rw [if_neg (by decide), if_neg (by decide), if_neg (by decide), if_neg (by decide), e45]; rfl) | rfl
    by_cases cs3 : nI k = 3
    · refine x_tableIn 191 dX10_undo_48 (by rw [cs3]; decide) (by rw [cs3]; decide) (off := 143) (by rw [cs3]; decide) (by decide) ?_
      have hk : k = 3 := nI_inj (by omega) (by decide) cs3
      obtain ⟨o1, b1, b2, b3⟩ := u5 (by omega)
      refine x_aload0 dX10_undo_191 ?_
      refine gm14 fgX10_47 dX10_undo_192 ?_
      refine x_iload1 dX10_undo_195 ?_
      refine x_iconst (-1) dX10_undo_196 (by decide) ?_
      refine sm14 (O) rfl (by omega) dX10_undo_197 ?_
      refine x_iconst (nI 0) dX10_undo_198 (by decide) ?_
      refine x_istore2 dX10_undo_199 rfl rfl rfl ?_
      exact lp3 c4 hk o1 b1 b2 b3 (nM m O + 1) 0 (Nat.zero_le _) (by omega)
    refine x_tableOut 236 dX10_undo_48 (sw_out 4 (by decide) (fun j hj => by rcases (show j = 0 ∨ j = 1 ∨ j = 2 ∨ j = 3 by omega) with rfl | rfl | rfl | rfl <;> assumption)) (by decide) ?_
    have hk : k = 4 := by
      have z0 : k ≠ 0 := fun e => cs0 (by rw [e]; exact nI_0)
      have z1 : k ≠ 1 := fun e => cs1 (by rw [e]; rfl)
      have z2 : k ≠ 2 := fun e => cs2 (by rw [e]; rfl)
      have z3 : k ≠ 3 := fun e => cs3 (by rw [e]; rfl)
      omega
    obtain ⟨o1, b1, b2, b3⟩ := u5 (by omega)
    refine x_aload0 dX10_undo_236 ?_
    refine gm15 fgX10_50 dX10_undo_237 ?_
    refine x_iload1 dX10_undo_240 ?_
    refine x_aload0 dX10_undo_241 ?_
    refine gm45 fgX10_113 dX10_undo_242 ?_
    refine x_aload0 dX10_undo_245 ?_
    refine gm46 fgX10_130 dX10_undo_246 ?_
    refine xV.toi (nI (nA m - 1)) (rfl) ?_
    refine lm45 (nA m - 1) rfl (by omega) dX10_undo_249 ?_
    refine x_iconst (nI 1) dX10_undo_250 (by decide) ?_
    refine x_icmp_ne 258 dX10_undo_251 (by decide) (fun c251 => ?_) (fun c251 => ?_)
    · have e45 : (if m.1 45 (nA m - 1) = nI 1 then nI 1 else nI 0) = nI 0 := if_neg c251
      refine x_iconst (nI 0) dX10_undo_258 (by decide) ?_
      refine sm15 (O) rfl (by omega) (by first | exact Or.inl nI_0 | exact Or.inr nI1 | exact bI_01 _) dX10_undo_259 ?_
      refine x_aload0 dX10_undo_260 ?_
      refine gm46 fgX10_130 dX10_undo_261 ?_
      refine xV.toi (nI (nA m - 1)) (by first | rfl | (rw [clM_ne (by decide)]; rfl) | (rw [mset_ne (by decide), clM_ne (by decide)]; rfl)) ?_
      refine x_iret dX10_undo_264 rfl ?_ (Nat.zero_le _) (Nat.zero_le _)
      refine ⟨(if_neg c4).symm, rfl, ?_⟩
      rw [if_neg c4]
      unfold undoM
      subst hk
      first | (rw [if_neg (by decide), if_neg (by decide), if_neg (by decide), if_neg (by decide), e45]; rfl) | rfl
    · have e45 : (if m.1 45 (nA m - 1) = nI 1 then nI 1 else nI 0) = nI 1 := if_pos c251
      refine x_iconst (nI 1) dX10_undo_254 (by decide) ?_
      refine x_goto 259 dX10_undo_255 (by decide) ?_
      refine sm15 (O) rfl (by omega) (by first | exact Or.inl nI_0 | exact Or.inr nI1 | exact bI_01 _) dX10_undo_259 ?_
      refine x_aload0 dX10_undo_260 ?_
      refine gm46 fgX10_130 dX10_undo_261 ?_
      refine xV.toi (nI (nA m - 1)) (by first | rfl | (rw [clM_ne (by decide)]; rfl) | (rw [mset_ne (by decide), clM_ne (by decide)]; rfl)) ?_
      refine x_iret dX10_undo_264 rfl ?_ (Nat.zero_le _) (Nat.zero_le _)
      refine ⟨(if_neg c4).symm, rfl, ?_⟩
      rw [if_neg c4]
      unfold undoM
      subst hk
      first | (rw [if_neg (by decide), if_neg (by decide), if_neg (by decide), if_neg (by decide), e45]; rfl) | rfl
  · refine x_iconst (-1) dX10_undo_7 (by decide) ?_
    refine x_iret dX10_undo_8 rfl ?_ (Nat.zero_le _) (Nat.zero_le _)
    exact ⟨(if_pos c4).symm, rfl, by rw [if_pos c4]⟩
