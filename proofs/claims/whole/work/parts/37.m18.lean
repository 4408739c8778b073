/-! ===== the model's methods, 18: explain ===== -/
def smX (m q : mS) : Prop := ∀ j, j < 37 → q.1 j = m.1 j
theorem aiM_ok {m q : mS} {n : Nat} {o k : Int32} {v : Int64} (h : smX m q) : smX m (aiM q n o k v) := by
  intro j hj
  unfold aiM
  split
  · show (mset (mset q 37 n o) 38 n k).1 j = _
    rw [mset_ne (by omega), mset_ne (by omega)]
    exact h j hj
  · exact h j hj
theorem smX_all {m q : mS} (h : smX m q) (w : Int32) : (iL m → iL q) ∧ (iG m → iG q) ∧ (iMs m → iMs q) ∧ (iGa m → iGa q) ∧ (iAm m → iAm q) ∧ sumV q w = sumV m w ∧ (∀ g, gDf q g = gDf m g) ∧ nG q = nG m := by
  have h0 := h 0 (by decide)
  have h5 := h 5 (by decide)
  have h6 := h 6 (by decide)
  have h11 := h 11 (by decide)
  have h12 := h 12 (by decide)
  have h14 := h 14 (by decide)
  have h16 := h 16 (by decide)
  unfold iL iG iMs iGa iAm sumV sT gT gDf gAm iMb mb nM nG inL nL
  rw [h0, h5, h6, h11, h12, h14, h16]
  exact ⟨id, id, id, id, id, rfl, fun _ => rfl, rfl⟩
def exL (m : mS) : Nat → Nat × mS
  | 0 => (0, m)
  | a + 1 => if inL m a ∧ m.1 5 a < 0 then ((exL m a).1 + 1, aiM (exL m a).2 (exL m a).1 (nI (a / 80)) (nI (a % 80)) (if a < 80 then zL (m.1 0 a).toInt else zL (-(m.1 0 a).toInt))) else exL m a
def exG (m : mS) : Nat → Nat × mS
  | 0 => exL m 160
  | g + 1 => if m.1 14 g < 0 ∧ ¬ zL (gDf m g) = 0 then ((exG m g).1 + 1, aiM (exG m g).2 (exG m g).1 (nI 2) (nI g) (zL (gDf m g))) else exG m g
theorem exL_ok (m : mS) : ∀ a, (exL m a).1 ≤ a ∧ smX m (exL m a).2
  | 0 => ⟨Nat.le_refl _, fun _ _ => rfl⟩
  | a + 1 => by
    obtain ⟨h1, h2⟩ := exL_ok m a
    unfold exL
    split
    · exact ⟨Nat.succ_le_succ h1, aiM_ok h2⟩
    · exact ⟨by omega, h2⟩
theorem exG_ok (m : mS) : ∀ g, (exG m g).1 ≤ 160 + g ∧ smX m (exG m g).2
  | 0 => exL_ok m 160
  | g + 1 => by
    obtain ⟨h1, h2⟩ := exG_ok m g
    unfold exG
    split
    · exact ⟨by show (exG m g).1 + 1 ≤ _; omega, aiM_ok h2⟩
    · exact ⟨by omega, h2⟩
abbrev bitF (f : Int32) (k : Nat) : Prop := (f >>> (nI k &&& 31)) &&& nI 1 = nI 1
def exT (q : mS) (f : Int32) : Nat → Nat × mS
  | 0 => (0, mset q 42 0 (nI 0))
  | k + 1 => if bitF f k then ((exT q f k).1 + 1, mset (mset (mset (exT q f k).2 40 (exT q f k).1 (q.1 37 k)) 41 (exT q f k).1 (q.1 38 k)) 42 0 (nI ((exT q f k).1 + 1))) else exT q f k
theorem exT_ok (q : mS) (f : Int32) : ∀ k, (exT q f k).1 ≤ k ∧ (exT q f k).2.1 42 0 = nI (exT q f k).1 ∧ (exT q f k).2.1 37 = q.1 37 ∧ (exT q f k).2.1 38 = q.1 38
  | 0 => ⟨Nat.le_refl _, mset_at _ _ _ _, mset_ne (by decide), mset_ne (by decide)⟩
  | k + 1 => by
    obtain ⟨h1, h2, h3, h4⟩ := exT_ok q f k
    unfold exT
    split
    · refine ⟨Nat.succ_le_succ h1, mset_at _ _ _ _, ?_, ?_⟩
      · show (mset (mset (mset (exT q f k).2 40 _ _) 41 _ _) 42 0 _).1 37 = _
        rw [mset_ne (by decide), mset_ne (by decide), mset_ne (by decide)]
        exact h3
      · show (mset (mset (mset (exT q f k).2 40 _ _) 41 _ _) 42 0 _).1 38 = _
        rw [mset_ne (by decide), mset_ne (by decide), mset_ne (by decide)]
        exact h4
    · exact ⟨by omega, h2, h3, h4⟩
/-- what was found of z things, among n, for the difference of the books -/
def exF (m : mS) (z : Nat) : Int32 := fnd (exG m (nG m)).2.2 (exG m (nG m)).1 z 0 (zL (sumV m (nI 0)))
def expR (m : mS) (r : Int32) (m' : mS) : Prop := if 18 < (exG m (nG m)).1 then r = -4 ∧ m' = (exG m (nG m)).2 else (∃ z, z ≤ (exG m (nG m)).1 ∧ (∀ y, y < z → exF m y < 0) ∧ ¬ exF m z < 0 ∧ r = nI z ∧ m' = (exT (exG m (nG m)).2 (exF m z) (exG m (nG m)).1).2) ∨ ((∀ y, y ≤ (exG m (nG m)).1 → exF m y < 0) ∧ r = -6 ∧ m' = (exG m (nG m)).2)

set_option maxHeartbeats 4000000 in
theorem k_explain (G : vx_G) (x : vx_H) (m : mS) (hL : iL m) (hG : iG m) (hM : iMs m) (hV : iGa m) (hAm : iAm m) : xK G M_X10_explain 20 [(.ref MB)] NT (hp x m) 0 0 (QI (fun r n' h' => n' = NT ∧ ∃ m', h' = hp x m' ∧ expR m r m')) := by
  have hG2 := hG.2
  have lt : ∀ (z : Nat), (¬ 18 < (exG m (nG m)).1) → (z ≤ (exG m (nG m)).1) → (∀ y, y < z → exF m y < 0) → (¬ exF m z < 0) → ∀ (n_ : Nat) (k : Nat), k ≤ (exG m (nG m)).1 → (exG m (nG m)).1 + 1 ≤ k + n_ → xV (mF G M_X10_explain 20 0 0 (QI (fun r n' h' => n' = NT ∧ ∃ m', h' = hp x m' ∧ expR m r m'))) 169 [some (.ref MB), some (.int (nI ((exG m (nG m)).1))), some (.int (nI (z))), some (.int ((exF m z))), some (.int (nI (k)))] [] NT (hp x (exT (exG m (nG m)).2 (exF m z) k).2) 0 0 := by
    intro z h18 hz hno hy
    intro n_
    induction n_ with
    | zero => intro k hi_ hn_; omega
    | succ n_ ih =>
      intro k hi_ hn_ 
      obtain ⟨t1, t2, t3, t4⟩ := exT_ok (exG m (nG m)).2 (exF m z) k
      refine x_iload4 dX10_explain_169 ?_
      refine x_iload1 dX10_explain_171 ?_
      refine n_icmp_ge 233 dX10_explain_172 (by decide) (by omega) (by omega) (fun c172 => ?_) (fun c172 => ?_)
      · refine x_iload2 dX10_explain_233 ?_
        refine x_iret dX10_explain_234 rfl ?_ (Nat.zero_le _) (Nat.zero_le _)
        refine ⟨rfl, _, rfl, ?_⟩
        unfold expR
        rw [if_neg h18, show k = (exG m (nG m)).1 by omega]
        exact Or.inl ⟨z, hz, hno, hy, rfl, rfl⟩
      · refine x_iload3 dX10_explain_175 ?_
        refine x_iload4 dX10_explain_176 ?_
        refine x_ishr dX10_explain_178 ?_
        refine x_iconst (nI 1) dX10_explain_179 (by decide) ?_
        refine x_iand dX10_explain_180 ?_
        refine xV.toi ((exF m z >>> (nI k &&& 31)) &&& nI 1) (rfl) ?_
        refine x_iconst (nI 1) dX10_explain_181 (by decide) ?_
        refine x_icmp_ne 227 dX10_explain_182 (by decide) (fun c182 => ?_) (fun c182 => ?_)
        · have hs : exT (exG m (nG m)).2 (exF m z) (k + 1) = exT (exG m (nG m)).2 (exF m z) k := if_neg c182
          refine x_iinc4 (nI (k + 1)) dX10_explain_227 (nI_add k 1) rfl rfl rfl ?_
          refine x_goto 169 dX10_explain_230 (by decide) ?_
          have h9 := ih (k + 1) (by omega) (by omega)
          rw [hs] at h9
          exact h9
        · have hs : exT (exG m (nG m)).2 (exF m z) (k + 1) = ((exT (exG m (nG m)).2 (exF m z) k).1 + 1, mset (mset (mset (exT (exG m (nG m)).2 (exF m z) k).2 40 (exT (exG m (nG m)).2 (exF m z) k).1 ((exG m (nG m)).2.1 37 k)) 41 (exT (exG m (nG m)).2 (exF m z) k).1 ((exG m (nG m)).2.1 38 k)) 42 0 (nI ((exT (exG m (nG m)).2 (exF m z) k).1 + 1))) := if_pos c182
          refine x_aload0 dX10_explain_185 ?_
          refine gm40 fgX10_101 dX10_explain_186 ?_
          refine x_aload0 dX10_explain_189 ?_
          refine gm42 fgX10_232 dX10_explain_190 ?_
          refine xV.toi (nI ((exT (exG m (nG m)).2 (exF m z) k).1)) (t2) ?_
          refine x_aload0 dX10_explain_193 ?_
          refine gm37 fgX10_91 dX10_explain_194 ?_
          refine x_iload4 dX10_explain_197 ?_
          refine lm37 (k) rfl (by omega) dX10_explain_199 ?_
          refine xV.toi ((exG m (nG m)).2.1 37 k) (by rw [t3]) ?_
          refine sm40 ((exT (exG m (nG m)).2 (exF m z) k).1) rfl (by omega) dX10_explain_200 ?_
          refine x_aload0 dX10_explain_201 ?_
          refine gm41 fgX10_104 dX10_explain_202 ?_
          refine x_aload0 dX10_explain_205 ?_
          refine gm42 fgX10_232 dX10_explain_206 ?_
          refine xV.toi (nI ((exT (exG m (nG m)).2 (exF m z) k).1)) (by rw [mset_ne (by decide)]; exact t2) ?_
          refine x_aload0 dX10_explain_209 ?_
          refine gm38 fgX10_94 dX10_explain_210 ?_
          refine x_iload4 dX10_explain_213 ?_
          refine lm38 (k) rfl (by omega) dX10_explain_215 ?_
          refine xV.toi ((exG m (nG m)).2.1 38 k) (by rw [mset_ne (by decide), t4]) ?_
          refine sm41 ((exT (exG m (nG m)).2 (exF m z) k).1) rfl (by omega) dX10_explain_216 ?_
          refine x_aload0 dX10_explain_217 ?_
          refine x_dup dX10_explain_218 rfl ?_
          refine gm42 fgX10_232 dX10_explain_219 ?_
          refine xV.toi (nI ((exT (exG m (nG m)).2 (exF m z) k).1)) (by rw [mset_ne (by decide), mset_ne (by decide)]; exact t2) ?_
          refine x_iconst (nI 1) dX10_explain_222 (by decide) ?_
          refine n_iadd dX10_explain_223 ?_
          refine pm42 fpX10_232 dX10_explain_224 ?_
          refine x_iinc4 (nI (k + 1)) dX10_explain_227 (nI_add k 1) rfl rfl rfl ?_
          refine x_goto 169 dX10_explain_230 (by decide) ?_
          have h9 := ih (k + 1) (by omega) (by omega)
          rw [hs] at h9
          exact h9
  have lz : (¬ 18 < (exG m (nG m)).1) → ∀ (n_ : Nat) (z : Nat), z ≤ (exG m (nG m)).1 + 1 → (exG m (nG m)).1 + 1 + 1 ≤ z + n_ → (∀ y, y < z → exF m y < 0) → xV (mF G M_X10_explain 20 0 0 (QI (fun r n' h' => n' = NT ∧ ∃ m', h' = hp x m' ∧ expR m r m'))) 139 [some (.ref MB), some (.int (nI ((exG m (nG m)).1))), some (.int (nI (z))), none, none] [] NT (hp x (exG m (nG m)).2) 0 0 := by
    intro  h18
    obtain ⟨g1, g2⟩ := exG_ok m (nG m)
    obtain ⟨s1, s2, s3, s4, s5, s6, -, -⟩ := smX_all g2 (nI 0)
    intro n_
    induction n_ with
    | zero => intro z hi_ hn_; omega
    | succ n_ ih =>
      intro z hi_ hn_ hno
      refine x_iload2 dX10_explain_139 ?_
      refine x_iload1 dX10_explain_140 ?_
      refine n_icmp_gt 241 dX10_explain_141 (by decide) (by omega) (by omega) (fun c141 => ?_) (fun c141 => ?_)
      · refine x_bipush (-6) dX10_explain_241 (by decide) ?_
        refine x_iret dX10_explain_243 rfl ?_ (Nat.zero_le _) (Nat.zero_le _)
        refine ⟨rfl, _, rfl, ?_⟩
        unfold expR
        rw [if_neg h18]
        exact Or.inr ⟨fun y hy => hno y (by omega), rfl, rfl⟩
      · refine x_aload0 dX10_explain_144 ?_
        refine x_iload1 dX10_explain_145 ?_
        refine x_iconst (nI 0) dX10_explain_146 (by decide) ?_
        refine x_iload2 dX10_explain_147 ?_
        refine x_aload0 dX10_explain_148 ?_
        refine x_iconst (nI 0) dX10_explain_149 (by decide) ?_
        refine x_callV1l mvX10_229 (k_sum G x (exG m (nG m)).2 (s1 hL) (s2 hG) (s3 hM) (s4 hV) (s5 hAm) (nI 0)) mb_lt0 (hp_m0 _ _) (xRoom.of rfl) (Nat.le_of_ble_eq_true rfl) dX10_explain_150 (fun r_ n_ h_ hq => ?_)
        obtain ⟨rfl, rfl, rfl⟩ := hq
        refine x_callV4i mvX10_222 (k_find G x (exG m (nG m)).2 (exG m (nG m)).1 (by omega) z 0 (zL (sumV (exG m (nG m)).2 (nI 0))) (by omega) (by decide)) mb_lt0 (hp_m0 _ _) (xRoom.le (l := 19) (by decide) (by omega)) (Nat.le_of_ble_eq_true rfl) dX10_explain_153 (fun r_ n_ h_ hq => ?_)
        obtain ⟨rfl, rfl, rfl⟩ := hq
        refine xV.toi (exF m z) (by rw [s6]; rfl) ?_
        refine x_istore3 dX10_explain_156 rfl rfl rfl ?_
        refine x_iload3 dX10_explain_157 ?_
        refine x_if_lt 235 dX10_explain_158 (by decide) (fun c158 => ?_) (fun c158 => ?_)
        · refine x_iinc2 (nI (z + 1)) dX10_explain_235 (nI_add z 1) rfl rfl rfl ?_
          refine x_goto 139 dX10_explain_238 (by decide) ?_
          refine xV.lvle (L' := [some (.ref _), some (.int _), some (.int _), none, none]) ⟨rfl, rfl, rfl, trivial⟩ ?_
          exact ih (z + 1) (by omega) (by omega) (lt_s hno c158)
        · refine x_aload0 dX10_explain_161 ?_
          refine x_iconst (nI 0) dX10_explain_162 (by decide) ?_
          refine pm42 fpX10_232 dX10_explain_163 ?_
          refine x_iconst (nI 0) dX10_explain_166 (by decide) ?_
          refine x_istore4 dX10_explain_167 rfl rfl rfl ?_
          exact lt z h18 (by omega) hno c158 ((exG m (nG m)).1 + 1) 0 (Nat.zero_le _) (by omega)
  have lg : ∀ (n_ : Nat) (g : Nat), g ≤ nG m → nG m + 1 ≤ g + n_ → xV (mF G M_X10_explain 20 0 0 (QI (fun r n' h' => n' = NT ∧ ∃ m', h' = hp x m' ∧ expR m r m'))) 82 [some (.ref MB), some (.int (nI ((exG m g).1))), some (.int (nI (g))), none, none] [] NT (hp x (exG m g).2) 0 0 := by
    intro n_
    induction n_ with
    | zero => intro g hi_ hn_; omega
    | succ n_ ih =>
      intro g hi_ hn_ 
      obtain ⟨g1, g2⟩ := exG_ok m g
      obtain ⟨s1, s2, s3, s4, s5, -, s7, s8⟩ := smX_all g2 (nI 0)
      have f14 := g2 14 (by decide)
      have f16 := g2 16 (by decide)
      refine x_iload2 dX10_explain_82 ?_
      refine x_aload0 dX10_explain_83 ?_
      refine gm16 fgX10_120 dX10_explain_84 ?_
      refine xV.toi (nI (nG m)) (by rw [f16]; exact hG.1) ?_
      refine n_icmp_ge 128 dX10_explain_87 (by decide) (by omega) (by omega) (fun c87 => ?_) (fun c87 => ?_)
      · have eg : g = nG m := by omega
        subst eg
        refine x_iload1 dX10_explain_128 ?_
        refine x_bipush (nI 18) dX10_explain_129 (by decide) ?_
        refine n_icmp_le 137 dX10_explain_131 (by decide) (by omega) (by omega) (fun c131 => ?_) (fun c131 => ?_)
        · refine x_iconst (nI 0) dX10_explain_137 (by decide) ?_
          refine x_istore2 dX10_explain_138 rfl rfl rfl ?_
          exact lz (by omega) ((exG m (nG m)).1 + 2) 0 (by omega) (by omega) (fun y hy => absurd hy (Nat.not_lt_zero y))
        · refine x_bipush (-4) dX10_explain_134 (by decide) ?_
          refine x_iret dX10_explain_136 rfl ?_ (Nat.zero_le _) (Nat.zero_le _)
          refine ⟨rfl, _, rfl, ?_⟩
          unfold expR
          rw [if_pos c131]
          exact ⟨rfl, rfl⟩
      · refine x_aload0 dX10_explain_90 ?_
        refine gm14 fgX10_47 dX10_explain_91 ?_
        refine x_iload2 dX10_explain_94 ?_
        refine lm14 (g) rfl (by omega) dX10_explain_95 ?_
        refine x_if_ge 122 dX10_explain_96 (by decide) (fun c96 => ?_) (fun c96 => ?_)
        · have hs : exG m (g + 1) = exG m g := if_neg (fun q => absurd q.1 (by rw [← f14]; exact iNL.mpr c96))
          refine x_iinc2 (nI (g + 1)) dX10_explain_122 (nI_add g 1) rfl rfl rfl ?_
          refine x_goto 82 dX10_explain_125 (by decide) ?_
          have h9 := ih (g + 1) (by omega) (by omega)
          rw [hs] at h9
          exact h9
        · refine x_aload0 dX10_explain_99 ?_
          refine x_iload2 dX10_explain_100 ?_
          refine x_callV1l mvX10_213 (k_differenceOf G x (exG m g).2 g (by omega) (s3 hM g (by omega)) (s4 hV g (by omega))) mb_lt0 (hp_m0 _ _) (xRoom.of rfl) (Nat.le_of_ble_eq_true rfl) dX10_explain_101 (fun r_ n_ h_ hq => ?_)
          obtain ⟨rfl, rfl, rfl⟩ := hq
          refine x_lconst 0 dX10_explain_104 (by decide) ?_
          refine x_lcmp dX10_explain_105 ?_
          refine x_if_eq 122 dX10_explain_106 (by decide) (fun c106 => ?_) (fun c106 => ?_)
          · have hs : exG m (g + 1) = exG m g := if_neg (fun q => q.2 (by rw [← s7]; exact (lc_eq _ _).mp c106))
            refine x_iinc2 (nI (g + 1)) dX10_explain_122 (nI_add g 1) rfl rfl rfl ?_
            refine x_goto 82 dX10_explain_125 (by decide) ?_
            have h9 := ih (g + 1) (by omega) (by omega)
            rw [hs] at h9
            exact h9
          · have hs : exG m (g + 1) = ((exG m g).1 + 1, aiM (exG m g).2 (exG m g).1 (nI 2) (nI g) (zL (gDf m g))) := if_pos ⟨by rw [← f14]; exact iNE.mp c96, fun q => c106 ((lc_eq _ _).mpr (by rw [s7]; exact q))⟩
            refine x_aload0 dX10_explain_109 ?_
            refine x_iload1 dX10_explain_110 ?_
            refine x_iconst (nI 2) dX10_explain_111 (by decide) ?_
            refine x_iload2 dX10_explain_112 ?_
            refine x_aload0 dX10_explain_113 ?_
            refine x_iload2 dX10_explain_114 ?_
            refine x_callV1l mvX10_213 (k_differenceOf G x (exG m g).2 g (by omega) (s3 hM g (by omega)) (s4 hV g (by omega))) mb_lt0 (hp_m0 _ _) (xRoom.of rfl) (Nat.le_of_ble_eq_true rfl) dX10_explain_115 (fun r_ n_ h_ hq => ?_)
            obtain ⟨rfl, rfl, rfl⟩ := hq
            rw [s7]
            refine x_callV4i mvX10_226 (k_addItem G x (exG m g).2 (exG m g).1 (by omega) (nI 2) (nI g) (zL (gDf m g))) mb_lt0 (hp_m0 _ _) (xRoom.of rfl) (Nat.le_of_ble_eq_true rfl) dX10_explain_118 (fun r_ n_ h_ hq => ?_)
            obtain ⟨rfl, rfl, rfl⟩ := hq
            refine x_istore1 dX10_explain_121 rfl rfl rfl ?_
            refine x_iinc2 (nI (g + 1)) dX10_explain_122 (nI_add g 1) rfl rfl rfl ?_
            refine x_goto 82 dX10_explain_125 (by decide) ?_
            have h9 := ih (g + 1) (by omega) (by omega)
            rw [hs] at h9
            exact h9
  have la : ∀ (n_ : Nat) (a : Nat), a ≤ 160 → 160 + 1 ≤ a + n_ → xV (mF G M_X10_explain 20 0 0 (QI (fun r n' h' => n' = NT ∧ ∃ m', h' = hp x m' ∧ expR m r m'))) 4 [some (.ref MB), some (.int (nI ((exL m a).1))), some (.int (nI (a))), none, none] [] NT (hp x (exL m a).2) 0 0 := by
    intro n_
    induction n_ with
    | zero => intro a hi_ hn_; omega
    | succ n_ ih =>
      intro a hi_ hn_ 
      obtain ⟨g1, g2⟩ := exL_ok m a
      have f5 := g2 5 (by decide)
      have f6 := g2 6 (by decide)
      have f0 := g2 0 (by decide)
      refine x_iload2 dX10_explain_4 ?_
      refine x_sipush (nI 160) dX10_explain_5 (by decide) ?_
      refine n_icmp_ge 80 dX10_explain_8 (by decide) (by omega) (by omega) (fun c8 => ?_) (fun c8 => ?_)
      · have ea : a = 160 := by omega
        subst ea
        refine x_iconst (nI 0) dX10_explain_80 (by decide) ?_
        refine x_istore2 dX10_explain_81 rfl rfl rfl ?_
        exact lg (nG m + 1) 0 (Nat.zero_le _) (by omega)
      · have ha2 : a / 80 < 2 := by omega
        obtain ⟨e6, l6⟩ := hL (a / 80) ha2
        refine x_iload2 dX10_explain_11 ?_
        refine x_bipush (nI 80) dX10_explain_12 (by decide) ?_
        refine n_irem dX10_explain_14 (by omega) (by omega) (by omega) ?_
        refine x_aload0 dX10_explain_15 ?_
        refine gm6 fgX10_28 dX10_explain_16 ?_
        refine x_iload2 dX10_explain_19 ?_
        refine x_bipush (nI 80) dX10_explain_20 (by decide) ?_
        refine n_idiv dX10_explain_22 (by omega) (by omega) (by omega) ?_
        refine lm6 (a / 80) rfl (by omega) dX10_explain_23 ?_
        refine xV.toi (nI (nL m (a / 80))) (by rw [f6]; exact e6) ?_
        refine n_icmp_ge 74 dX10_explain_24 (by decide) (by omega) (by omega) (fun c24 => ?_) (fun c24 => ?_)
        · have hs : exL m (a + 1) = exL m a := if_neg (fun q => absurd q.1 (by omega))
          refine x_iinc2 (nI (a + 1)) dX10_explain_74 (nI_add a 1) rfl rfl rfl ?_
          refine x_goto 4 dX10_explain_77 (by decide) ?_
          have h9 := ih (a + 1) (by omega) (by omega)
          rw [hs] at h9
          exact h9
        · refine x_aload0 dX10_explain_27 ?_
          refine gm5 fgX10_25 dX10_explain_28 ?_
          refine x_iload2 dX10_explain_31 ?_
          refine lm5 (a) rfl (by omega) dX10_explain_32 ?_
          refine x_if_ge 74 dX10_explain_33 (by decide) (fun c33 => ?_) (fun c33 => ?_)
          · have hs : exL m (a + 1) = exL m a := if_neg (fun q => absurd q.2 (by rw [← f5]; exact iNL.mpr c33))
            refine x_iinc2 (nI (a + 1)) dX10_explain_74 (nI_add a 1) rfl rfl rfl ?_
            refine x_goto 4 dX10_explain_77 (by decide) ?_
            have h9 := ih (a + 1) (by omega) (by omega)
            rw [hs] at h9
            exact h9
          · have hs : exL m (a + 1) = ((exL m a).1 + 1, aiM (exL m a).2 (exL m a).1 (nI (a / 80)) (nI (a % 80)) (if a < 80 then zL (m.1 0 a).toInt else zL (-(m.1 0 a).toInt))) := if_pos ⟨c24, by rw [← f5]; exact iNE.mp c33⟩
            have hne := hAm a (by omega) c24
            refine x_aload0 dX10_explain_36 ?_
            refine x_iload1 dX10_explain_37 ?_
            refine x_iload2 dX10_explain_38 ?_
            refine x_bipush (nI 80) dX10_explain_39 (by decide) ?_
            refine n_idiv dX10_explain_41 (by omega) (by omega) (by omega) ?_
            refine x_iload2 dX10_explain_42 ?_
            refine x_bipush (nI 80) dX10_explain_43 (by decide) ?_
            refine n_irem dX10_explain_45 (by omega) (by omega) (by omega) ?_
            refine x_iload2 dX10_explain_46 ?_
            refine x_bipush (nI 80) dX10_explain_47 (by decide) ?_
            refine n_icmp_ge 62 dX10_explain_49 (by decide) (by omega) (by omega) (fun c49 => ?_) (fun c49 => ?_)
            · refine x_aload0 dX10_explain_62 ?_
              refine gm0 fgX10_9 dX10_explain_63 ?_
              refine x_iload2 dX10_explain_66 ?_
              refine lm0 (a) rfl (by omega) dX10_explain_67 ?_
              refine x_ineg dX10_explain_68 ?_
              refine x_i2l dX10_explain_69 ?_
              refine xV.tol (if a < 80 then zL (m.1 0 a).toInt else zL (-(m.1 0 a).toInt)) ?_ ?_
              · rw [if_neg (by omega), f0, negL hne]
              refine x_callV4i mvX10_226 (k_addItem G x (exL m a).2 (exL m a).1 (by omega) (nI (a / 80)) (nI (a % 80)) (if a < 80 then zL (m.1 0 a).toInt else zL (-(m.1 0 a).toInt))) mb_lt0 (hp_m0 _ _) (xRoom.of rfl) (Nat.le_of_ble_eq_true rfl) dX10_explain_70 (fun r_ n_ h_ hq => ?_)
              obtain ⟨rfl, rfl, rfl⟩ := hq
              refine x_istore1 dX10_explain_73 rfl rfl rfl ?_
              refine x_iinc2 (nI (a + 1)) dX10_explain_74 (nI_add a 1) rfl rfl rfl ?_
              refine x_goto 4 dX10_explain_77 (by decide) ?_
              have h9 := ih (a + 1) (by omega) (by omega)
              rw [hs] at h9
              exact h9
            · refine x_aload0 dX10_explain_52 ?_
              refine gm0 fgX10_9 dX10_explain_53 ?_
              refine x_iload2 dX10_explain_56 ?_
              refine lm0 (a) rfl (by omega) dX10_explain_57 ?_
              refine x_i2l dX10_explain_58 ?_
              refine xV.tol (if a < 80 then zL (m.1 0 a).toInt else zL (-(m.1 0 a).toInt)) ?_ ?_
              · rw [if_pos c49, f0, toL]
              refine x_goto 70 dX10_explain_59 (by decide) ?_
              refine x_callV4i mvX10_226 (k_addItem G x (exL m a).2 (exL m a).1 (by omega) (nI (a / 80)) (nI (a % 80)) (if a < 80 then zL (m.1 0 a).toInt else zL (-(m.1 0 a).toInt))) mb_lt0 (hp_m0 _ _) (xRoom.of rfl) (Nat.le_of_ble_eq_true rfl) dX10_explain_70 (fun r_ n_ h_ hq => ?_)
              obtain ⟨rfl, rfl, rfl⟩ := hq
              refine x_istore1 dX10_explain_73 rfl rfl rfl ?_
              refine x_iinc2 (nI (a + 1)) dX10_explain_74 (nI_add a 1) rfl rfl rfl ?_
              refine x_goto 4 dX10_explain_77 (by decide) ?_
              have h9 := ih (a + 1) (by omega) (by omega)
              rw [hs] at h9
              exact h9
  refine xK.ofV (by decide) (Nat.le_of_ble_eq_true rfl) ?_
  refine xV.lveq (L' := [some (.ref MB), none, none, none, none]) rfl ?_
  refine x_iconst (nI 0) dX10_explain_0 (by decide) ?_
  refine x_istore1 dX10_explain_1 rfl rfl rfl ?_
  refine x_iconst (nI 0) dX10_explain_2 (by decide) ?_
  refine x_istore2 dX10_explain_3 rfl rfl rfl ?_
  exact la 161 0 (by decide) (by decide)
